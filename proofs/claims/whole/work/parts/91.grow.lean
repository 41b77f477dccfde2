theorem vr_outer (c : ClassId) (N h0 : Nat) : ∀ i : Nat, Jvm.Free.Multi.outerC c N h0 i = arrV c N (fun j => va_rf (if j < i then some (h0 + 1 + j) else none))
  | 0 => by
    show ({ cls := c, slots := Array.replicate N .null, vm := .none } : Cell) = _
    rw [arrV_new]
    refine congrArg (arrV c N) (funext fun j => ?_)
    simp [va_rf]
  | i + 1 => by
    show (Jvm.Free.Multi.outerC c N h0 i).setSlot i (.ref (h0 + 1 + i)) = _
    rw [vr_outer c N h0 i, arrV_store]
    refine congrArg (arrV c N) (funext fun j => ?_)
    by_cases e : j = i
    · subst e
      simp [updV, va_rf]
    · by_cases h : j < i
      · simp [updV, e, h, Nat.lt_succ_of_lt h]
      · simp [updV, e, h, show ¬ j < i + 1 by omega]

theorem wz_int : Cond.arrayClass .int ∈ lw_tbl := tb1 (List.mem_of_getElem? (i := 47) rfl)

theorem wz_long : Cond.arrayClass .long ∈ lw_tbl := tb1 (List.mem_of_getElem? (i := 135) rfl)

theorem wz_bool : Cond.arrayClass .boolean ∈ lw_tbl := tb1 (List.mem_of_getElem? (i := 206) rfl)

theorem wz_oi : Cond.instanceMethod Lib.objectInit ∈ lw_tbl := tb1 (List.mem_of_getElem? (i := 24) rfl)

theorem wz_oc : Cond.code Lib.objectInit ⟨#[0xb1]⟩ 1 none ∈ lw_tbl := tb1 (List.mem_of_getElem? (i := 25) rfl)


/-! THE HEAP WHILE THE OBJECTS ARE MADE: cells n0, n0 + 1, .. in the order of their making -/
def yoff (k : Nat) : Nat := if k < 61 then [0, 1, 2, 3, 4, 13, 14, 15, 16, 17, 20, 421, 422, 423, 424, 425, 426, 427, 428, 429, 450, 451, 452, 453, 454, 459, 464, 465, 466, 467, 468, 489, 490, 491, 492, 493, 498, 503, 504, 505, 506, 507, 508, 509, 510, 511, 512, 513, 514, 515, 516, 517, 518, 519, 520, 521, 522, 523, 524, 525, 526].getD k 0 else if k < 261 then 21 + 2 * (k - 61) else if k < 262 then 18 else if k < 462 then 22 + 2 * (k - 262) else if k < 463 then 19 else if k < 471 then 5 + (k - 463) else if k < 491 then 430 + (k - 471) else if k < 511 then 469 + (k - 491) else if k < 515 then 455 + (k - 511) else if k < 519 then 460 + (k - 515) else if k < 523 then 494 + (k - 519) else 499 + (k - 523)
def ycof (x : Nat) : Nat := if x < 21 then [0, 1, 2, 3, 4, 463, 464, 465, 466, 467, 468, 469, 470, 5, 6, 7, 8, 9, 261, 462, 10].getD x 0 else if x < 421 then (if x % 2 = 1 then 61 + (x - 21) / 2 else 262 + (x - 22) / 2) else if x < 430 then 11 + (x - 421) else if x < 450 then 471 + (x - 430) else if x < 455 then 20 + (x - 450) else if x < 459 then 511 + (x - 455) else if x < 460 then 25 else if x < 464 then 515 + (x - 460) else if x < 469 then 26 + (x - 464) else if x < 489 then 491 + (x - 469) else if x < 494 then 31 + (x - 489) else if x < 498 then 519 + (x - 494) else if x < 499 then 36 else if x < 503 then 523 + (x - 499) else 37 + (x - 503)
theorem ycof_off : ∀ k, k < 527 → ycof (yoff k) = k ∧ yoff k < 527 := by decide +kernel
theorem yoff_cof : ∀ x, x < 527 → yoff (ycof x) = x ∧ ycof x < 527 := by decide +kernel
/-- the first state -/
def y0 : xS := (fun a => if a = 6 then (fun b => if b = 4 ∨ b = 5 then -1 else 0) else if a = 37 then (fun b => if b = 23 ∨ b = 24 then -1 else 0) else fun _ => 0, fun _ _ => 0, 15, 26)
def yG (D : va_G) (cs : Nat → ClassId) (n0 : Nat) : xG := (D, fun k => n0 + yoff k, cs)
def yF (D : va_G) (cs : Nat → ClassId) (n0 x : Nat) : va_E := xcell (yG D cs n0) y0 (ycof x)
def yH (D : va_G) (n0 N : Nat) (B : Nat → va_E) (H : Heap) : Prop := H.size = n0 + N ∧ ∀ x, x < N → va_at D vwCl (n0 + x, B x) H
theorem yH.eq {D : va_G} {n0 N : Nat} {B B' : Nat → va_E} {H : Heap} (h : yH D n0 N B H) (e : ∀ x, x < N → B' x = B x) : yH D n0 N B' H := ⟨h.1, fun x hx => by rw [e x hx]; exact h.2 x hx⟩
def yD (ci : Nat) : List Value := (xfk ci).map fun t => match t with | 1 => .long 0 | 2 => .null | _ => .int 0
def yK (G : xG) (U : State) : Prop := xK G U ∧ va_AO "PlanCertificates$Row" U ∧ (Cond.arrayOver (.array .int)).before #[] U = true
theorem yK.moved {G : xG} {s U : State} (h : yK G s) (hW : s.WarmedH U.vm) : yK G U := by
  refine ⟨h.1.moved hW, va_AO.moved hW.alike h.2.1, ?_⟩
  have e := Cond.arrayOver_setVmC (args := #[]) (s := s) hW.alike (.array .int)
  rw [h.2.2] at e
  exact e
abbrev yA (n0 : Nat) : Nat → Prop := fun q => n0 ≤ q
/-- a constructor: the cells from its own on become as they are in the first state -/
def yQc (D : va_G) (cs : Nat → ClassId) (n0 o T : Nat) (B : Nat → va_E) : Array Value → State → Outcome → State → Prop := fun _ st oc t => (oc = .returned none ∧ yH D n0 (o + T) (fun x => if x < o then B x else yF D cs n0 x) t.heap) ∧ va_F (yA n0) st t
def yI (l : Launch) (D : va_G) (cs : Nat → ClassId) (n0 : Nat) (y : MethodName) (cc : ByteArray) (n f lo mc ms ci o T : Nat) : Prop := ∀ B : Nat → va_E, B o = .inr (ci, yD ci) → Met l y [.code y cc n none] { frames := f, cells := mc, slots := ms, locals := lo } (va_Pc [.ref (n0 + o)] (fun U => yH D n0 (o + 1) B U.heap ∧ yK (yG D cs n0) U)) (yQc D cs n0 o T B) mc ms (yA n0)
theorem arrV_eq {c : ClassId} {N : Nat} {f g : Nat → Value} (h : ∀ j, j < N → f j = g j) : arrV c N f = arrV c N g := by
  unfold arrV
  congr 2
  funext j
  exact h j.1 j.2
section YW
variable {p : Program} {l : Launch} {e : Env} {R : Room} {s : State} {m : MethodId} {args : Array Value} {below : List Frame} {meth : Method} {c : Code} {cc : ByteArray} {nL : Nat} {own : String} {ret : Option FieldType} {D : va_G} {cs : Nat → ClassId} {n0 N : Nat} {B B' : Nat → va_E} {cells slots : Nat} {Q : State → Prop} {pc : Nat} {lv lv' : List (Nat × Value)} {st : List Value}
def yW (p : Program) (l : Launch) (e : Env) (R : Room) (s : State) (m : MethodId) (args : Array Value) (below : List Frame) (meth : Method) (c : Code) (nL : Nat) (D : va_G) (n0 cells slots : Nat) (Q : State → Prop) (pc : Nat) (lv : List (Nat × Value)) (st : List Value) (N : Nat) (B : Nat → va_E) : Prop :=
  ∀ (H : Heap) (locs : List Loc) (ls : Array Slot), yH D n0 N B H → va_S (yA n0) s.heap H locs → lv_has ls nL lv → W p l e R s m args below meth c H locs cells slots Q (F0 m pc ls st)

theorem y_iconst (X : xC p s m meth c cc nL own ret (yG D cs n0)) {n : Int} {v : Int32} (d : decode cc pc = .ok (.iconst n, 1)) (hv : Int32.ofInt n = v) (K : yW p l e R s m args below meth c nL D n0 cells slots Q (pc + 1) lv (.int v :: st) N B) : yW p l e R s m args below meth c nL D n0 cells slots Q (pc) lv (st) N B := fun H locs ls hH hS hl => lv_iconst X.x X.b d hv (K H locs ls hH hS hl)

theorem y_bipush (X : xC p s m meth c cc nL own ret (yG D cs n0)) {n : Int} {v : Int32} (d : decode cc pc = .ok (.bipush n, 2)) (hv : (Int8.ofInt n).toInt32 = v) (K : yW p l e R s m args below meth c nL D n0 cells slots Q (pc + 2) lv (.int v :: st) N B) : yW p l e R s m args below meth c nL D n0 cells slots Q (pc) lv (st) N B := fun H locs ls hH hS hl => lv_bipush X.x X.b d hv (K H locs ls hH hS hl)

theorem y_sipush (X : xC p s m meth c cc nL own ret (yG D cs n0)) {n : Int} {v : Int32} (d : decode cc pc = .ok (.sipush n, 3)) (hv : (Int16.ofInt n).toInt32 = v) (K : yW p l e R s m args below meth c nL D n0 cells slots Q (pc + 3) lv (.int v :: st) N B) : yW p l e R s m args below meth c nL D n0 cells slots Q (pc) lv (st) N B := fun H locs ls hH hS hl => lv_sipush X.x X.b d hv (K H locs ls hH hS hl)

theorem y_ldc (X : xC p s m meth c cc nL own ret (yG D cs n0)) {i : Nat} {v : Int32} (d : decode cc pc = .ok (.ldc i, 2)) (hw : Cond.constant own i v ∈ lw_tbl) (K : yW p l e R s m args below meth c nL D n0 cells slots Q (pc + 2) lv (.int v :: st) N B) : yW p l e R s m args below meth c nL D n0 cells slots Q (pc) lv (st) N B := fun H locs ls hH hS hl => lv_ldc X.x X.b X.o (X.k.word hw rfl) d (K H locs ls hH hS hl)

theorem y_iload_n (X : xC p s m meth c cc nL own ret (yG D cs n0)) {k : Fin 4} {x : Int32} (d : decode cc pc = .ok (.iload_n k, 1)) (hq : xlk lv k = some (.int x)) (K : yW p l e R s m args below meth c nL D n0 cells slots Q (pc + 1) lv (.int x :: st) N B) : yW p l e R s m args below meth c nL D n0 cells slots Q (pc) lv (st) N B := fun H locs ls hH hS hl => lv_iload_n X.x X.b d rfl (hl.2.2 _ (xlk_mem hq)) (K H locs ls hH hS hl)

theorem y_aload_n (X : xC p s m meth c cc nL own ret (yG D cs n0)) {k : Fin 4} {x : Nat} (d : decode cc pc = .ok (.aload_n k, 1)) (hq : xlk lv k = some (.ref x)) (K : yW p l e R s m args below meth c nL D n0 cells slots Q (pc + 1) lv (.ref x :: st) N B) : yW p l e R s m args below meth c nL D n0 cells slots Q (pc) lv (st) N B := fun H locs ls hH hS hl => lv_aload_n X.x X.b d rfl (hl.2.2 _ (xlk_mem hq)) (K H locs ls hH hS hl)

theorem y_istore_n (X : xC p s m meth c cc nL own ret (yG D cs n0)) {k : Fin 4} {i : Nat} {x : Int32} (d : decode cc pc = .ok (.istore_n k, 1)) (hi : (k : Nat) = i) (hn : i < nL) (hf : (i, Value.int x) :: lv.filter (fun q => !(q.1 == i) && !(q.1 + 1 == i && q.2.category == 2)) = lv') (K : yW p l e R s m args below meth c nL D n0 cells slots Q (pc + 1) lv' (st) N B) : yW p l e R s m args below meth c nL D n0 cells slots Q (pc) lv (.int x :: st) N B := fun H locs ls hH hS hl => lv_istore_n X.x X.b d hi hl hn hf (fun ls hl => K H locs ls hH hS hl)

theorem y_astore_n (X : xC p s m meth c cc nL own ret (yG D cs n0)) {k : Fin 4} {i : Nat} {x : Nat} (d : decode cc pc = .ok (.astore_n k, 1)) (hi : (k : Nat) = i) (hn : i < nL) (hf : (i, Value.ref x) :: lv.filter (fun q => !(q.1 == i) && !(q.1 + 1 == i && q.2.category == 2)) = lv') (K : yW p l e R s m args below meth c nL D n0 cells slots Q (pc + 1) lv' (st) N B) : yW p l e R s m args below meth c nL D n0 cells slots Q (pc) lv (.ref x :: st) N B := fun H locs ls hH hS hl => lv_astore_n X.x X.b d hi hl hn hf (fun ls hl => K H locs ls hH hS hl)

theorem y_iinc (X : xC p s m meth c cc nL own ret (yG D cs n0)) {i k : Nat} {n : Int} {x v : Int32} (d : decode cc pc = .ok (.iinc i n, 3)) (hk : lv[k]? = some (i, .int x)) (hv : x + Int32.ofInt n = v) (hn : i < nL) (hf : (i, Value.int v) :: lv.filter (fun q => !(q.1 == i) && !(q.1 + 1 == i && q.2.category == 2)) = lv') (K : yW p l e R s m args below meth c nL D n0 cells slots Q (pc + 3) lv' (st) N B) : yW p l e R s m args below meth c nL D n0 cells slots Q (pc) lv (st) N B := fun H locs ls hH hS hl => lv_iinc X.x X.b d hl hk hv hn hf (fun ls hl => K H locs ls hH hS hl)

theorem y_dup (X : xC p s m meth c cc nL own ret (yG D cs n0)) {v : Value} (d : decode cc pc = .ok (.dup, 1)) (hv : v.category = 1) (K : yW p l e R s m args below meth c nL D n0 cells slots Q (pc + 1) lv (v :: v :: st) N B) : yW p l e R s m args below meth c nL D n0 cells slots Q (pc) lv (v :: st) N B := fun H locs ls hH hS hl => lv_dup X.x X.b d hv (K H locs ls hH hS hl)

theorem y_goto (X : xC p s m meth c cc nL own ret (yG D cs n0)) {off : Int} {tgt : Nat} (d : decode cc pc = .ok (.goto off, 3)) (ht : (pc : Int) + off = (tgt : Int)) (K : yW p l e R s m args below meth c nL D n0 cells slots Q (tgt) lv (st) N B) : yW p l e R s m args below meth c nL D n0 cells slots Q (pc) lv (st) N B := fun H locs ls hH hS hl => lv_goto X.x X.b d ht (K H locs ls hH hS hl)

theorem y_icmpge (X : xC p s m meth c cc nL own ret (yG D cs n0)) {x y : Int32} {off : Int} {tgt : Nat} (d : decode cc pc = .ok (.if_icmp .ge off, 3)) (ht : (pc : Int) + off = (tgt : Int)) (KT : (y ≤ x) → yW p l e R s m args below meth c nL D n0 cells slots Q (tgt) lv (st) N B) (KF : (¬ y ≤ x) → yW p l e R s m args below meth c nL D n0 cells slots Q (pc + 3) lv (st) N B) : yW p l e R s m args below meth c nL D n0 cells slots Q (pc) lv (.int y :: .int x :: st) N B := fun H locs ls hH hS hl => lv_icmp_ge X.x X.b d ht (fun h => KT h H locs ls hH hS hl) (fun h => KF h H locs ls hH hS hl)

theorem y_widen {k n : Nat} (h1 : cells ≤ k) (h2 : slots ≤ n) (K : yW p l e R s m args below meth c nL D n0 k n Q pc lv st N B) : yW p l e R s m args below meth c nL D n0 cells slots Q (pc) lv (st) N B := fun H locs ls hH hS hl => W.widen h1 h2 (K H locs ls hH hS hl)

theorem y_sub (hs : ∀ q ∈ lv', q ∈ lv) (K : yW p l e R s m args below meth c nL D n0 cells slots Q (pc) lv' (st) N B) : yW p l e R s m args below meth c nL D n0 cells slots Q (pc) lv (st) N B := fun H locs ls hH hS hl => K H locs ls hH hS ⟨hl.1, hl.2.1, fun q hq => hl.2.2 q (hs q hq)⟩


theorem y_eq (h : ∀ x, x < N → B' x = B x) (K : yW p l e R s m args below meth c nL D n0 cells slots Q pc lv st N B') : yW p l e R s m args below meth c nL D n0 cells slots Q pc lv st N B := fun H locs ls hH hS hl => K H locs ls (hH.eq h) hS hl
theorem y_objI {idx x : Nat} (X : xC p s m meth c cc nL own ret (yG D cs n0)) (w : Cond.methodLink own idx Lib.objectInit ∈ lw_tbl) (d : decode cc pc = .ok (.invokespecial idx, 3)) (hR : 1 ≤ R.frames ∧ (st.map fun v => v.category).sum + 12 ≤ R.locals) (K : yW p l e R s m args below meth c nL D n0 cells slots Q (pc + 3) lv st N B) : yW p l e R s m args below meth c nL D n0 cells slots Q pc lv (.ref x :: st) N B := by
  intro H locs ls hH hS hl
  refine W.objInit X.x X.b X.o (X.k.word w rfl) (X.k.word wz_oi rfl) (X.k.word wz_oc rfl) rfl (by rw [X.ml]; exact hl.1) rfl d hR.1 ?_ ?_
  · have h := hR.2
    simpa [JFrame.monitorRoom, F0] using h
  · exact K H locs ls hH hS hl
theorem yNewA {H H1 : Heap} {locs : List Loc} (hH : yH D n0 N B H) (z1 : H1.size = H.size + 1) (o1 : ∀ q, q < H.size → H1[q]? = H[q]?) (h1 : ∀ x, x < N → B' x = B x) (h2 : va_at D vwCl (n0 + N, B' N) H1) (hS : va_S (yA n0) s.heap H locs) : yH D n0 (N + 1) B' H1 ∧ va_S (yA n0) s.heap H1 locs := by
  refine ⟨⟨by rw [z1, hH.1]; rfl, fun x hx => ?_⟩, Nat.le_trans hS.1 (by omega), fun x h3 h4 => (o1 x (Nat.lt_of_lt_of_le h3 hS.1)).trans (hS.2.1 x h3 h4), hS.2.2⟩
  by_cases hN : x = N
  · subst hN
    exact h2
  · have hlt : x < N := by omega
    rw [h1 x hlt]
    exact (hH.2 x hlt).kept (o1 _ (by rw [hH.1]; show n0 + x < _; omega))


theorem y_newaI (X : xC p s m meth c cc nL own ret (yG D cs n0)) {v : Int32} {n : Nat} (d : decode cc pc = .ok (.newarray .int, 2)) (hv : ¬ v < 0) (hN : v.toNatClampNeg = n) (hn : n ≤ 100000) (h1 : ∀ x, x < N → B' x = B x) (h2 : B' N = .inl (cs 0, n, .inl (fun _ => 0))) (hR : cells + 1 ≤ R.cells ∧ slots + n ≤ R.slots) (K : yW p l e R s m args below meth c nL D n0 (cells + 1) (slots + n) Q (pc + 2) lv (.ref (n0 + N) :: st) (N + 1) B') : yW p l e R s m args below meth c nL D n0 cells slots Q pc lv (.int v :: st) N B := by
  intro H locs ls hH hS hl
  refine va_newaK (atype := .int) X.x X.b (X.k.word wz_int rfl) rfl d rfl hv hN (by show n * _ ≤ _; simp only [newarray.typeOf, componentBytes]; omega) hR.1 hR.2 hH.1 (fun H1 cA e1 z1 o1 _ hNm => ?_)
  have hcs : cA = cs 0 := Option.some.inj (hNm.symm.trans (X.k.1.2 0 _ rfl).2)
  subst hcs
  obtain ⟨a, b⟩ := yNewA (s := s) hH (by rw [z1, hH.1]) (fun q hq => o1 q (by rw [← hH.1]; exact hq)) h1 (by rw [h2]; exact e1) hS
  exact K H1 locs ls a b hl


theorem y_newaL (X : xC p s m meth c cc nL own ret (yG D cs n0)) {v : Int32} {n : Nat} (d : decode cc pc = .ok (.newarray .long, 2)) (hv : ¬ v < 0) (hN : v.toNatClampNeg = n) (hn : n ≤ 100000) (h1 : ∀ x, x < N → B' x = B x) (h2 : B' N = .inl (cs 1, n, .inr (.inl (fun _ => 0)))) (hR : cells + 1 ≤ R.cells ∧ slots + n ≤ R.slots) (K : yW p l e R s m args below meth c nL D n0 (cells + 1) (slots + n) Q (pc + 2) lv (.ref (n0 + N) :: st) (N + 1) B') : yW p l e R s m args below meth c nL D n0 cells slots Q pc lv (.int v :: st) N B := by
  intro H locs ls hH hS hl
  refine va_newaK (atype := .long) X.x X.b (X.k.word wz_long rfl) rfl d rfl hv hN (by show n * _ ≤ _; simp only [newarray.typeOf, componentBytes]; omega) hR.1 hR.2 hH.1 (fun H1 cA e1 z1 o1 _ hNm => ?_)
  have hcs : cA = cs 1 := Option.some.inj (hNm.symm.trans (X.k.1.2 1 _ rfl).2)
  subst hcs
  obtain ⟨a, b⟩ := yNewA (s := s) hH (by rw [z1, hH.1]) (fun q hq => o1 q (by rw [← hH.1]; exact hq)) h1 (by rw [h2]; exact e1) hS
  exact K H1 locs ls a b hl


theorem y_newaZ (X : xC p s m meth c cc nL own ret (yG D cs n0)) {v : Int32} {n : Nat} (d : decode cc pc = .ok (.newarray .boolean, 2)) (hv : ¬ v < 0) (hN : v.toNatClampNeg = n) (hn : n ≤ 100000) (h1 : ∀ x, x < N → B' x = B x) (h2 : B' N = .inl (cs 2, n, .inl (fun _ => 0))) (hR : cells + 1 ≤ R.cells ∧ slots + n ≤ R.slots) (K : yW p l e R s m args below meth c nL D n0 (cells + 1) (slots + n) Q (pc + 2) lv (.ref (n0 + N) :: st) (N + 1) B') : yW p l e R s m args below meth c nL D n0 cells slots Q pc lv (.int v :: st) N B := by
  intro H locs ls hH hS hl
  refine va_newaK (atype := .boolean) X.x X.b (X.k.word wz_bool rfl) rfl d rfl hv hN (by show n * _ ≤ _; simp only [newarray.typeOf, componentBytes]; omega) hR.1 hR.2 hH.1 (fun H1 cA e1 z1 o1 _ hNm => ?_)
  have hcs : cA = cs 2 := Option.some.inj (hNm.symm.trans (X.k.1.2 2 _ rfl).2)
  subst hcs
  obtain ⟨a, b⟩ := yNewA (s := s) hH (by rw [z1, hH.1]) (fun q hq => o1 q (by rw [← hH.1]; exact hq)) h1 (by rw [h2]; exact e1) hS
  exact K H1 locs ls a b hl


theorem y_putF (X : xC p s m meth c cc nL own ret (yG D cs n0)) (hin : meth.name = "<init>") {ci o j index Nf : Nat} {C : String} {Tb : u_T} {ty : Nat → FieldType} {fs : List Value} {v : Value} (hc : vwCl[ci]? = some (C, Tb, Nf)) (hj : j < Nf) (hty : ∀ k, k < Nf → parseFieldDescriptor (Tb k).2.2.1 = some (ty k)) (hnm : ∀ a, a < Nf → ∀ b, b < Nf → a ≠ b → (Tb a).2.1 ≠ (Tb b).2.1) (hw : Cond.fieldLink own index (Tb j).1 (Tb j).2.1 (Tb j).2.2.1 ∈ lw_tbl) (hfin : (Tb j).2.2.2 = true) (hdecl : (Tb j).1 = own) (d : decode cc pc = .ok (.putfield index, 3)) (ho : o < N) (hB : B o = .inr (ci, fs)) (hlf : j < fs.length) (hn : narrow (ty j) v = v) (hfit : fits (ty j) v = true) (h1 : ∀ x, x < N → x ≠ o → B' x = B x) (h2 : B' o = .inr (ci, fs.set j v)) (K : yW p l e R s m args below meth c nL D n0 cells slots Q (pc + 3) lv st N B') : yW p l e R s m args below meth c nL D n0 cells slots Q pc lv (v :: .ref (n0 + o) :: st) N B := by
  intro H locs ls hH hS hl
  have hts := xlay X.k hc (args := args)
  have hK : va_K D vwCl (xty (yG D cs n0)) s := X.k.1
  have hap := va_apart (own := own) hts (fun _ h => h) ty hty hnm hK hc
  have hat := hH.2 o ho
  rw [hB] at hat
  obtain ⟨r, hr1, cell, q1, q2, q3, q4⟩ := hat
  cases Option.some.inj (hr1.symm.trans hc)
  obtain ⟨hSl, hfc, kC, hkC, hkind⟩ := hK.1 ci _ hc
  obtain ⟨cf, kf, fi, f, hi, hsl⟩ := hSl j hj
  have hlay := hts _ (u_in_lay hj)
  unfold u_lay at hlay
  rw [if_pos hfin] at hlay
  have hst := (u_facts hfc hkC (u_lays hts (fun _ h => h) hj) hi).1
  have hcf : m.cls = cf := by
    obtain ⟨_, _, c', _, _, _, -, -, hf', -, -, -, hown2, -⟩ := Cond.laysFinal_spec hlay
    have e1 : c' = cf := by have := hi.symm.trans hf'; simp at this; exact this.1.symm
    rw [hdecl] at hown2
    rw [← e1]; exact Option.some.inj (X.o.symm.trans hown2)
  have h6 := u_fits hfc hkC hkind (Or.inr hlay) hi (hty j hj) hn hfit
  refine W.putFinK X.x X.b X.o (X.k.word hw rfl) hi hst hcf hin (by rw [q2]; exact h6) q1 q3 (by rw [hsl]; exact k2_hasslot (q4 j hj)) rfl rfl d fun H' e1 e2 e3 => ?_
  refine K H' _ ls ⟨by rw [e2]; exact hH.1, fun x hx => ?_⟩ (hS.put e2 e3 (Nat.le_add_right _ _)) hl
  by_cases hxo : x = o
  · subst hxo
    rw [h2]
    rw [hsl] at e1
    exact ⟨_, hc, t_OB.to (V := updV (vp_V fs) j v) ⟨_, e1, q2, q3, t_set q4 hap hj v⟩ (fun k _ => vp_updV_set hlf v k)⟩
  · rw [h1 x hx hxo]
    exact (hH.2 x hx).kept (e3 _ (by show n0 + x ≠ n0 + o; omega))

theorem y_put (X : xC p s m meth c cc nL own ret (yG D cs n0)) {ci o j index Nf : Nat} {C : String} {Tb : u_T} {ty : Nat → FieldType} {fs : List Value} {v : Value} (hc : vwCl[ci]? = some (C, Tb, Nf)) (hj : j < Nf) (hty : ∀ k, k < Nf → parseFieldDescriptor (Tb k).2.2.1 = some (ty k)) (hnm : ∀ a, a < Nf → ∀ b, b < Nf → a ≠ b → (Tb a).2.1 ≠ (Tb b).2.1) (hw : Cond.fieldLink own index (Tb j).1 (Tb j).2.1 (Tb j).2.2.1 ∈ lw_tbl) (hfin : (Tb j).2.2.2 = false) (d : decode cc pc = .ok (.putfield index, 3)) (ho : o < N) (hB : B o = .inr (ci, fs)) (hlf : j < fs.length) (hn : narrow (ty j) v = v) (hfit : fits (ty j) v = true) (h1 : ∀ x, x < N → x ≠ o → B' x = B x) (h2 : B' o = .inr (ci, fs.set j v)) (K : yW p l e R s m args below meth c nL D n0 cells slots Q (pc + 3) lv st N B') : yW p l e R s m args below meth c nL D n0 cells slots Q pc lv (v :: .ref (n0 + o) :: st) N B := by
  intro H locs ls hH hS hl
  have hts := xlay X.k hc (args := args)
  have hK : va_K D vwCl (xty (yG D cs n0)) s := X.k.1
  have hap := va_apart (own := own) hts (fun _ h => h) ty hty hnm hK hc
  have hat := hH.2 o ho
  rw [hB] at hat
  obtain ⟨r, hr1, cell, q1, q2, q3, q4⟩ := hat
  cases Option.some.inj (hr1.symm.trans hc)
  obtain ⟨hSl, hfc, kC, hkC, hkind⟩ := hK.1 ci _ hc
  obtain ⟨cf, kf, fi, f, hi, hsl⟩ := hSl j hj
  have hlay := hts _ (u_in_lay hj)
  unfold u_lay at hlay
  rw [if_neg (by rw [hfin]; decide)] at hlay
  have hst := (u_facts hfc hkC (u_lays hts (fun _ h => h) hj) hi).1
  have h6 := u_store hfc hkC hkind hlay hi (hty j hj) hn hfit
  refine W.putK X.x X.b (f := f) ⟨X.o, X.k.word hw rfl, ⟨_, _, _, hi⟩, hst⟩ (by rw [q2]; exact h6) q1 q3 (by rw [hsl]; exact k2_hasslot (q4 j hj)) rfl rfl d fun H' e1 e2 e3 => ?_
  refine K H' _ ls ⟨by rw [e2]; exact hH.1, fun x hx => ?_⟩ (hS.put e2 e3 (Nat.le_add_right _ _)) hl
  by_cases hxo : x = o
  · subst hxo
    rw [h2]
    rw [hsl] at e1
    exact ⟨_, hc, t_OB.to (V := updV (vp_V fs) j v) ⟨_, e1, q2, q3, t_set q4 hap hj v⟩ (fun k _ => vp_updV_set hlf v k)⟩
  · rw [h1 x hx hxo]
    exact (hH.2 x hx).kept (e3 _ (by show n0 + x ≠ n0 + o; omega))


end YW
