
section YV
variable {p : Program} {l : Launch} {e : Env} {R : Room} {s : State} {m : MethodId} {args : Array Value} {below : List Frame} {meth : Method} {c : Code} {cc : ByteArray} {nL : Nat} {own : String} {ret : Option FieldType} {D : va_G} {cs : Nat → ClassId} {n0 N : Nat} {B B' : Nat → va_E} {cells slots : Nat} {Q : State → Prop} {pc : Nat} {lv lv' : List (Nat × Value)} {st : List Value}
theorem y_run {rest : List Value} {o T mc ms : Nat} {B1 : Nat → va_E} {H : Heap} {locs : List Loc} {ls : Array Slot} {a : Array Value} (hr : va_Run p l e R s m args below meth c H locs cells slots mc ms (F0 m pc ls st) rest (yQc D cs n0 o T B1 a) (yA n0)) (hS : va_S (yA n0) s.heap H locs) (hl : lv_has ls nL lv) (hB : ∀ x, x < o + T → B' x = if x < o then B1 x else yF D cs n0 x) (K : yW p l e R s m args below meth c nL D n0 (cells + mc) (slots + ms) Q (pc + 3) lv rest (o + T) B') : W p l e R s m args below meth c H locs cells slots Q (F0 m pc ls st) := by
  intro T0 hT X
  obtain ⟨v, st₀, t, T', L, h0, X', hL, e1, e2, ⟨⟨hv, hb⟩, hz, hk⟩, sp⟩ := hr T0 hT X
  cases hv
  rw [h0] at hz hk
  obtain ⟨t2, a1, b1⟩ := K T'.heap (locs ++ L) ls (by rw [e1]; exact hb.eq hB) ⟨Nat.le_trans hS.1 (by rw [e1]; exact hz), fun q h1 h2 => by rw [e1, hk q (Nat.lt_of_lt_of_le h1 hS.1) h2]; exact hS.2.1 q h1 h2, fun q hq => by
      rcases List.mem_append.mp hq with h | h
      · exact hS.2.2 q h
      · exact hL q h⟩ hl T' rfl X'
  exact ⟨t2, sp t2 a1, b1⟩
theorem yI_blind {av : List Value} {G : xG} : FrameBlind (va_Pc av (fun U => yH D n0 N B U.heap ∧ yK G U)) := fun _ U _ _ h => ⟨h.1, h.2.1, h.2.2.moved (State.WarmedH.refl U)⟩
/-- new C, dup, C's constructor -/
theorem y_newI {ik ic ci' Nf T mc ms f lo n' : Nat} {C' : String} {Tb : u_T} {ty : Nat → FieldType} {y' : MethodName} {bytes' : ByteArray} (X : xC p s m meth c cc nL own ret (yG D cs n0)) (hyK : yK (yG D cs n0) s) (hI : yI l D cs n0 y' bytes' n' f lo mc ms ci' N T) (hc : vwCl[ci']? = some (C', Tb, Nf)) (hty : ∀ k, k < Nf → parseFieldDescriptor (Tb k).2.2.1 = some (ty k)) (hdf : ∀ j, j < Nf → defaultValue (ty j) = vp_V (yD ci') j) (wcl : Cond.classLink own ik C' ∈ lw_tbl) (wins : Cond.instantiable C' Nf ∈ lw_tbl) (wini : Cond.initialized y'.cls ∈ lw_tbl) (hcl : y'.cls = C') (wml : Cond.methodLink own ic y' ∈ lw_tbl) (wim : Cond.instanceMethod y' ∈ lw_tbl) (wc : Cond.code y' bytes' n' none ∈ lw_tbl) (hyn : y'.name = "<init>") (hn : xNm y' 0)
    (d0 : decode cc pc = .ok (.new ik, 3)) (d3 : decode cc (pc + 3) = .ok (.dup, 1)) (d4 : decode cc (pc + 3 + 1) = .ok (.invokespecial ic, 3)) (hT : 1 ≤ T) (h1 : ∀ x, x < N → B' x = B x) (h2 : ∀ x, N ≤ x → x < N + T → B' x = yF D cs n0 x) (hR : f + 1 ≤ R.frames ∧ 8 + (n' + 11) + lo ≤ R.locals ∧ cells + 1 + mc ≤ R.cells ∧ slots + Nf + ms ≤ R.slots) (hw : (st.map fun v => v.category).sum ≤ 7)
    (K : yW p l e R s m args below meth c nL D n0 (cells + 1 + mc) (slots + Nf + ms) Q (pc + 3 + 1 + 3) lv (.ref (n0 + N) :: st) (N + T) B') : yW p l e R s m args below meth c nL D n0 cells slots Q pc lv st N B := by
  intro H locs ls hH hS hl
  have hKn := X.k.1.1 ci' _ hc
  refine W.newcK X.x X.b X.o (X.k.word wcl rfl) (X.k.word wins rfl) (by rw [← hcl]; exact X.k.word wini rfl) rfl d0 (by omega) (by omega) hKn.2.1 hH.1 (fun H1 kC hkC e1 z1 o1 => ?_)
  have hat : va_at D vwCl (n0 + N, .inr (ci', yD ci')) H1 := ⟨_, hc, (u_born ty (xlay X.k hc (args := args)) (fun _ h => h) hKn hkC e1 hty).to hdf⟩
  obtain ⟨a, b⟩ := yNewA (s := s) (B' := fun x => if x = N then .inr (ci', yD ci') else B x) hH (by rw [z1, hH.1]) (fun q hq => o1 q (by rw [← hH.1]; exact hq)) (fun x hx => if_neg (by omega)) (by show va_at D vwCl (n0 + N, if N = N then _ else _) H1; rw [if_pos rfl]; exact hat) hS
  refine lv_dup X.x X.b d3 rfl ?_
  refine y_run (va_runI (Ts := []) (own := own) (As := []) (rest := .ref (n0 + N) :: st) ⟨X.x, X.b, X.ml, X.o, fun _ h => nomatch h⟩ (hI (fun x => if x = N then .inr (ci', yD ci') else B x) (if_pos rfl)) ⟨⟨rfl, rfl, hR.1, hR.2.1, fun w hw a' U hW => by rw [List.mem_singleton.mp hw]; exact (X.k.moved hW).word wc rfl, List.mem_cons_self, X.k.word wc rfl, X.k.word wini rfl, ⟨hn.1, hn.2.1⟩, fun sig h => by have h2 := hn.2.2; rw [h] at h2; exact (Option.some.inj h2).symm, X.k.word wml rfl⟩, hyn, X.k.word wim rfl⟩ ⟨yI_blind, fun U hU hW => ⟨rfl, by rw [hU]; exact a, hyK.moved hW⟩⟩ rfl rfl hl.1 rfl (lv_room (by show 1 + (st.map fun v => v.category).sum ≤ 8; omega)) d4 ⟨hR.2.2.1, hR.2.2.2⟩) b hl (fun x hx => ?_) K
  by_cases hxN : x < N
  · rw [if_pos hxN, if_neg (by omega)]
    exact h1 x hxN
  · rw [if_neg hxN]
    exact h2 x (by omega) hx
theorem y_mna {index N' K' : Nat} {n k : Int32} (X : xC p s m meth c cc nL own ret (yG D cs n0)) (hyK : yK (yG D cs n0) s) (wcl : Cond.classLink own index "[[I" ∈ lw_tbl) (d : decode cc pc = .ok (.multianewarray index 2, 4)) (hn : ¬ n < 0) (hk : ¬ k < 0) (hN : n.toNatClampNeg = N') (hM : k.toNatClampNeg = K') (hN1 : N' ≤ 1000) (hK1 : K' ≤ 1000) (h1 : ∀ x, x < N → B' x = B x) {rf : Nat → Option Nat} (h2 : B' N = .inl (cs 4, N', .inr (.inr (.inr (.inr rf))))) (hrf : ∀ j, j < N' → rf j = some (n0 + N + 1 + j)) (h3 : ∀ j, j < N' → B' (N + 1 + j) = .inl (cs 0, K', .inl (fun _ => 0))) (hR : cells + (1 + N') ≤ R.cells ∧ slots + (N' + N' * K') ≤ R.slots)
    (K : yW p l e R s m args below meth c nL D n0 (cells + 1 + N') (slots + N' + N' * K') Q (pc + 4) lv (.ref (n0 + N) :: st) (N + 1 + N') B') : yW p l e R s m args below meth c nL D n0 cells slots Q pc lv (.int k :: .int n :: st) N B := by
  intro H locs ls hH hS hl T hT Xs
  subst hN
  subst hM
  have hcl : (Cond.classLink own index ("[" ++ (FieldType.array .int).toString)).before args s = true := by
    rw [show "[" ++ (FieldType.array .int).toString = "[[I" by decide +kernel]
    exact X.k.word wcl rfl
  obtain ⟨vm₁, cA, comp, -, fA, fC, hO, -, X', step⟩ := Xs.multianewarray2F X.x X.o hcl hyK.2.2 (X.k.word wz_int rfl) (g := F0 m pc ls (.int k :: .int n :: st)) rfl (by rw [X.b]; exact d) rfl hn hk (by omega) (by simp only [componentBytes]; omega) (by omega) rfl rfl hR.1 hR.2
  have c1 : cA = cs 4 := Option.some.inj (fA.symm.trans (X.k.1.2 4 _ rfl).2)
  have c2 : comp = cs 0 := Option.some.inj (fC.symm.trans (X.k.1.2 0 _ rfl).2)
  subst c1
  subst c2
  generalize hF : Jvm.Free.Multi.fill (T.setVm vm₁) (cs 4) (cs 0) n.toNatClampNeg k.toNatClampNeg (defaultValue .int) n.toNatClampNeg = F at X' step
  have hTh : (T.setVm vm₁).heap = H := hT
  obtain ⟨f1, f2, -, -⟩ := Jvm.Free.Multi.fill_facts (T.setVm vm₁) (cs 4) (cs 0) n.toNatClampNeg k.toNatClampNeg (defaultValue .int) n.toNatClampNeg
  rw [hF, hTh] at f1 f2
  have hold : ∀ x : Nat, x < H.size → F.heap[x]? = H[x]? := fun x hx => by
    have := Jvm.Free.Multi.fill_old (T.setVm vm₁) (cs 4) (cs 0) n.toNatClampNeg k.toNatClampNeg (defaultValue .int) (a := x) (by rw [hTh]; exact hx) n.toNatClampNeg
    rw [hF, hTh] at this
    exact this
  have hrow : ∀ j : Nat, j < n.toNatClampNeg → F.heap[H.size + 1 + j]? = some (arrV (cs 0) k.toNatClampNeg (fun _ => .int 0)) := fun j hj => by
    have := Jvm.Free.Multi.fill_inner (T.setVm vm₁) (cs 4) (cs 0) n.toNatClampNeg k.toNatClampNeg (defaultValue .int) n.toNatClampNeg j hj
    rw [hF, hTh] at this
    rw [this]
    exact congrArg some (arrV_new _ _ _)
  rw [vr_outer] at f2
  have hz : H.size = n0 + N := hH.1
  have hH1 : yH D n0 (N + 1 + n.toNatClampNeg) B' F.heap := by
    refine ⟨by rw [f1, hz]; omega, fun x hx => ?_⟩
    by_cases hx1 : x < N
    · rw [h1 x hx1]
      exact (hH.2 x hx1).kept (hold _ (by show n0 + x < _; omega))
    · by_cases hx2 : x = N
      · subst hx2
        rw [h2]
        show F.heap[n0 + x]? = some (vp_cell _ _)
        rw [vp_cell_q, ← hz, f2]
        refine congrArg some (arrV_eq fun j hj => ?_)
        rw [if_pos hj, hrf j hj, hz]
      · obtain ⟨j, rfl⟩ : ∃ j, x = N + 1 + j := ⟨x - N - 1, by omega⟩
        have hj : j < n.toNatClampNeg := by omega
        rw [h3 j hj]
        show F.heap[n0 + (N + 1 + j)]? = some (vp_cell _ _)
        rw [vp_cell_i, show n0 + (N + 1 + j) = H.size + 1 + j by omega]
        exact hrow j hj
  obtain ⟨t, a1, b1⟩ := K F.heap locs ls hH1 ⟨by rw [f1]; have := hS.1; omega, fun x h3 h4 => (hold x (Nat.lt_of_lt_of_le h3 hS.1)).trans (hS.2.1 x h3 h4), hS.2.2⟩ hl F rfl X'
  refine ⟨t, step t ?_, b1⟩
  rw [show T.heap.size = n0 + N by rw [hT]; exact hz]
  exact a1
theorem y_anew {index n' : Nat} {n : Int32} (X : xC p s m meth c cc nL own ret (yG D cs n0)) (hyK : yK (yG D cs n0) s) (wcl : Cond.classLink own index "PlanCertificates$Row" ∈ lw_tbl) (d : decode cc pc = .ok (.anewarray index, 3)) (hn : ¬ n < 0) (hN : n.toNatClampNeg = n') (hn1 : n' ≤ 1000) (h1 : ∀ x, x < N → B' x = B x) (h2 : B' N = .inl (cs 3, n', .inr (.inr (.inr (.inr (fun _ => none)))))) (hR : cells + 1 ≤ R.cells ∧ slots + n' ≤ R.slots) (K : yW p l e R s m args below meth c nL D n0 (cells + 1) (slots + n') Q (pc + 3) lv (.ref (n0 + N) :: st) (N + 1) B') : yW p l e R s m args below meth c nL D n0 cells slots Q pc lv (.int n :: st) N B := by
  intro H locs ls hH hS hl
  subst hN
  refine W.anew X.x X.b X.o (X.k.word wcl rfl) (va_AO.use hyK.2.1) rfl d rfl hn (by omega) hR.1 hR.2 fun cA kA comp f1 f2 f3 f4 => ?_
  have hcs : cA = cs 3 := by
    obtain ⟨kA', comp', g1, g2, g3, g4⟩ := (X.k.1.2 3 _ rfl).2
    exact Option.some.inj (f1.symm.trans g4)
  subst hcs
  obtain ⟨a, b⟩ := yNewA (s := s) (H1 := H.push ({ cls := cs 3, slots := Array.replicate n.toNatClampNeg .null, vm := .none } : Cell)) hH (by rw [Array.size_push]) (fun q hq => by rw [Array.getElem?_push, if_neg (Nat.ne_of_lt hq)]) h1 (by
    rw [h2]
    show (H.push _)[n0 + N]? = some (vp_cell _ _)
    rw [← hH.1, Array.getElem?_push_size, vp_cell_q]
    exact congrArg some (arrV_new _ _ _)) hS
  have e : H.size = n0 + N := hH.1
  rw [show ({ F0 m pc ls (.int n :: st) with pc := (F0 m pc ls (.int n :: st)).pc + 3, stack := .ref H.size :: st } : JFrame) = F0 m (pc + 3) ls (.ref (n0 + N) :: st) by rw [e]]
  exact K _ locs ls a b hl
theorem y_aast {o v n ci : Nat} {i : Int32} {r : vw_C} {vs : List Value} {f : Nat → Option Nat} (X : xC p s m meth c cc nL own ret (yG D cs n0)) (hr : r.1 = "PlanCertificates$Row") (hc : vwCl[ci]? = some r) (d : decode cc pc = .ok (.aastore, 1)) (ho : o < N) (hB : B o = .inl (cs 3, n, .inr (.inr (.inr (.inr f))))) (hv : v < N) (hV : B v = .inr (ci, vs)) (hin : vp_in i n) (h1 : ∀ x, x < N → x ≠ o → B' x = B x) (h2 : B' o = .inl (cs 3, n, .inr (.inr (.inr (.inr (va_up f i.toNatClampNeg (some (n0 + v)))))))) (K : yW p l e R s m args below meth c nL D n0 cells slots Q (pc + 1) lv st N B') : yW p l e R s m args below meth c nL D n0 cells slots Q pc lv (.ref (n0 + v) :: .int i :: .ref (n0 + o) :: st) N B := by
  intro H locs ls hH hS hl
  have hK : va_K D vwCl (xty (yG D cs n0)) s := X.k.1
  have hlt : i.toNatClampNeg < n := Nat.not_le.mp fun q => hin (Or.inr q)
  have h0 : ¬ i < 0 := fun q => hin (Or.inl q)
  have hat := hH.2 o ho
  rw [hB] at hat
  have hat2 := hH.2 v hv
  rw [hV] at hat2
  obtain ⟨r', hr', cellV, g1, g2, g3, -⟩ := hat2
  have hcls := (hK.1 ci r hc).2
  obtain ⟨kA, comp, k1, k2, k3, -⟩ := (hK.2 3 _ rfl).2
  have hcomp : comp = D.1 ci := Option.some.inj (k3.symm.trans (by rw [← hr]; exact hcls.1))
  subst hcomp
  obtain ⟨kC, hkC, -⟩ := hcls.2
  refine W.aast X.x X.b hat (fun q h => by cases h) (fun h => by cases h) k1 k2 rfl hkC ⟨h0, by show _ < (arrV _ _ _).slots.size; rw [arrV_size]; exact hlt⟩ g1 (fun q h => by rw [g3] at h; cases h) (by rw [g2]; exact hkC) (by rw [g2]; exact va_assign hcls) rfl rfl d fun H1 e z oq => ?_
  refine K H1 _ ls ⟨by rw [z]; exact hH.1, fun x hx => ?_⟩ (hS.put z oq (Nat.le_add_right _ _)) hl
  by_cases hxo : x = o
  · subst hxo
    rw [h2]
    show H1[n0 + x]? = some (vp_cell _ _)
    rw [e, vp_cell_q, vp_cell_q, arrV_store]
    refine congrArg some (arrV_eq fun q _ => ?_)
    by_cases hq : q = i.toNatClampNeg
    · subst hq
      simp [updV, va_up, va_rf]
    · simp [updV, va_up, hq]
  · rw [h1 x hx hxo]
    exact (hH.2 x hx).kept (oq _ (by show n0 + x ≠ n0 + o; omega))
theorem y_get {ci o j index Nf v : Nat} {C : String} {Tb : u_T} {fs : List Value} (X : xC p s m meth c cc nL own ret (yG D cs n0)) (hc : vwCl[ci]? = some (C, Tb, Nf)) (hj : j < Nf) (hw : Cond.fieldLink own index (Tb j).1 (Tb j).2.1 (Tb j).2.2.1 ∈ lw_tbl) (d : decode cc pc = .ok (.getfield index, 3)) (ho : o < N) (hB : B o = .inr (ci, fs)) (hv : fs[j]? = some (.ref v)) (K : yW p l e R s m args below meth c nL D n0 cells slots Q (pc + 3) lv (.ref v :: st) N B) : yW p l e R s m args below meth c nL D n0 cells slots Q pc lv (.ref (n0 + o) :: st) N B := by
  intro H locs ls hH hS hl
  have hat := hH.2 o ho
  rw [hB] at hat
  have hP : va_P D vwCl [(n0 + o, .inr (ci, fs))] H := fun k q hq => by
    have h0 : k < 1 := (List.getElem?_eq_some_iff.mp hq).1
    rw [show k = 0 by omega] at hq
    cases hq
    exact hat
  exact va_get (D := D) X.x X.b (xlay X.k hc) (fun _ h => h) X.o X.k.1 hP 0 rfl hc j hj (X.k.word hw rfl) (fun _ h => h) hv d (K H locs ls hH hS hl)
theorem yI.of {y : MethodName} {n f lo mc ms ci o T : Nat} (hy : plainName y.cls = true) (hlen : 1 ≤ n) (body : ∀ (B : Nat → va_E) (p : Program) (e : Env) (s : State) (m : MethodId) (args : Array Value) (below : List Frame) (meth : Method) (c : Code), B o = .inr (ci, yD ci) → xC p s m meth c cc n y.cls none (yG D cs n0) → yK (yG D cs n0) s → meth.name = y.name → yW p l e { frames := f, cells := mc, slots := ms, locals := lo } s m args below meth c n D n0 0 0 (MQ below (yQc D cs n0 o T B) args s mc ms (yA n0)) 0 [(0, .ref (n0 + o))] [] (o + 1) B) : yI l D cs n0 y cc n f lo mc ms ci o T := by
  intro B hB
  refine Met.ofW (cc := cc) (maxL := n) (ret := none) hy rfl ?_
  intro p e s m args below meth c s₁ Bd hml hv
  obtain ⟨rfl, hH, hK⟩ := hv
  have hown : s.vm.findClass y.cls = some m.cls := findClass_of_methodNamed Bd.named
  have hnm : meth.name = y.name := (name_of_methodNamed Bd.named Bd.method).1
  have hl := lv_entry ([.ref (n0 + o)] : List Value) (n := n) hlen
  rw [lg_entry_eq]
  exact body B p e s m _ below meth c hB ⟨Bd.exec, Bd.bytes, hml, hown, hK.1, Bd.returns, Bd.notSynchronized⟩ hK hnm s.heap [] _ hH va_S.rf hl
theorem y_ret {o T mc ms : Nat} {B0 : Nat → va_E} (X : xC p s m meth c cc nL own none (yG D cs n0)) (d : decode cc pc = .ok (.return_, 1)) (hc : cells ≤ mc) (hs : slots ≤ ms) (hN : N = o + T) (hB : ∀ x, x < o + T → (if x < o then B0 x else yF D cs n0 x) = B x) : yW p l e R s m args below meth c nL D n0 cells slots (MQ below (yQc D cs n0 o T B0) args s mc ms (yA n0)) pc lv [] N B := by
  subst hN
  exact fun H locs ls hH hS hl => W.widen hc hs (W.vret X.x X.b X.r (fun t ht _ => ⟨⟨rfl, by rw [ht]; exact hH.eq hB⟩, hS.F ht⟩) hS.2.2 d X.n)
/-- the object at o in the making, all behind it made -/
def yB (D : va_G) (cs : Nat → ClassId) (n0 : Nat) (B0 : Nat → va_E) (ci o : Nat) (fs : List Value) : Nat → va_E := fun x => if x < o then B0 x else if x = o then .inr (ci, fs) else yF D cs n0 x
theorem yB_o {B0 : Nat → va_E} {ci o : Nat} {fs : List Value} : yB D cs n0 B0 ci o fs o = .inr (ci, fs) := by unfold yB; rw [if_neg (Nat.lt_irrefl _), if_pos rfl]
theorem yB_n {B0 : Nat → va_E} {ci o x : Nat} {fs : List Value} (h : o < x) : yB D cs n0 B0 ci o fs x = yF D cs n0 x := by unfold yB; rw [if_neg (by omega), if_neg (by omega)]
theorem yB_s {B0 : Nat → va_E} {ci o x : Nat} {fs gs : List Value} (h : x ≠ o) : yB D cs n0 B0 ci o gs x = yB D cs n0 B0 ci o fs x := by unfold yB; rw [if_neg h, if_neg h]
theorem yB_i {B0 : Nat → va_E} {ci o : Nat} (h : B0 o = .inr (ci, yD ci)) : ∀ x, x < o + 1 → yB D cs n0 B0 ci o (yD ci) x = B0 x := by
  intro x hx
  unfold yB
  by_cases h1 : x < o
  · rw [if_pos h1]
  · rw [if_neg h1, if_pos (by omega), show x = o by omega, h]
theorem yB_e {B0 : Nat → va_E} {ci o T : Nat} {fs : List Value} (h : yF D cs n0 o = .inr (ci, fs)) : ∀ x, x < o + T → (if x < o then B0 x else yF D cs n0 x) = yB D cs n0 B0 ci o fs x := by
  intro x _
  unfold yB
  by_cases h1 : x < o
  · rw [if_pos h1, if_pos h1]
  · rw [if_neg h1, if_neg h1]
    by_cases h2 : x = o
    · rw [if_pos h2, h2, h]
    · rw [if_neg h2]
end YV
