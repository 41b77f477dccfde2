/-! A METHOD'S CONTRACT over the state, its body, its ends, its calls -/
def xQc (G : xG) (Post : Option Value → xS → Prop) : Array Value → State → Outcome → State → Prop := fun _ st o t => (∃ (r : Option Value) (τ : xS), o = .returned r ∧ Post r τ ∧ xH G τ t.heap) ∧ va_F (xA G) st t
/-- from every state that holds σ, with these arguments: it returns, Post of the answer and the new state; nothing else changes, nothing is made -/
def xM (l : Launch) (G : xG) (y : MethodName) (cc : ByteArray) (n : Nat) (ret : Option FieldType) (f lo : Nat) (av : List Value) (σ : xS) (Post : Option Value → xS → Prop) : Prop :=
  Met l y [.code y cc n ret] { frames := f, cells := 0, slots := 0, locals := lo } (va_Pc av (fun U => xH G σ U.heap ∧ xK G U)) (xQc G Post) 0 0 (xA G)
def xQ (below : List Frame) (G : xG) (Post : Option Value → xS → Prop) (args : Array Value) (s : State) : State → Prop := MQ below (xQc G Post) args s 0 0 (xA G)
/-- an int, a long, nothing, a cell: the answer and the new state by name -/
def xFi (l : Launch) (G : xG) (y : MethodName) (cc : ByteArray) (n : Nat) (ret : Option FieldType) (f lo : Nat) (av : List Value) (σ : xS) (v : Int32) (τ : xS) : Prop := xM l G y cc n ret f lo av σ (fun r t => r = some (.int v) ∧ t = τ)
def xFl (l : Launch) (G : xG) (y : MethodName) (cc : ByteArray) (n : Nat) (ret : Option FieldType) (f lo : Nat) (av : List Value) (σ : xS) (v : Int64) (τ : xS) : Prop := xM l G y cc n ret f lo av σ (fun r t => r = some (.long v) ∧ t = τ)
def xFv (l : Launch) (G : xG) (y : MethodName) (cc : ByteArray) (n : Nat) (ret : Option FieldType) (f lo : Nat) (av : List Value) (σ : xS) (τ : xS) : Prop := xM l G y cc n ret f lo av σ (fun r t => r = none ∧ t = τ)
def xFr (l : Launch) (G : xG) (y : MethodName) (cc : ByteArray) (n : Nat) (ret : Option FieldType) (f lo : Nat) (av : List Value) (σ : xS) (k : Nat) (τ : xS) : Prop := xM l G y cc n ret f lo av σ (fun r t => r = some (.ref (G.2.1 k)) ∧ t = τ)
section XM
variable {p : Program} {l : Launch} {e : Env} {R : Room} {s : State} {m : MethodId} {args : Array Value} {below : List Frame} {meth : Method} {c : Code} {cc : ByteArray} {nL : Nat} {own : String} {ret : Option FieldType} {G : xG} {cells slots : Nat} {Q : State → Prop} {pc : Nat} {lv lv' : List (Nat × Value)} {st rest As : List Value} {σ τ : xS} {Post : Option Value → xS → Prop} {y : MethodName} {bytes : ByteArray} {n f lo : Nat} {ry : Option FieldType}
theorem xM.of {av : List Value} (hy : plainName y.cls = true) (hlen : (lg_sl av).length ≤ n) (body : ∀ (p : Program) (e : Env) (s : State) (m : MethodId) (args : Array Value) (below : List Frame) (meth : Method) (c : Code), xC p s m meth c cc n y.cls ret G → xW p l e { frames := f, cells := 0, slots := 0, locals := lo } s m args below meth c n G 0 0 (xQ below G Post args s) 0 (lv_args 0 av) [] σ) : xM l G y cc n ret f lo av σ Post := by
  refine Met.ofW (cc := cc) (maxL := n) (ret := ret) hy rfl ?_
  intro p e s m args below meth c s₁ B hml hv
  obtain ⟨rfl, hH, hK⟩ := hv
  have hown : s.vm.findClass y.cls = some m.cls := findClass_of_methodNamed B.named
  have hl := lv_entry av (n := n) hlen
  rw [lg_entry_eq]
  exact body p e s m _ below meth c ⟨B.exec, B.bytes, hml, hown, hK, B.returns, B.notSynchronized⟩ s.heap [] _ hH va_S.rf hl
theorem xM.ofJ {av : List Value} (hy : plainFor y = true) (hlen : (lg_sl av).length ≤ n) (body : ∀ (p : Program) (e : Env) (s : State) (m : MethodId) (args : Array Value) (below : List Frame) (meth : Method) (c : Code), xC p s m meth c cc n y.cls ret G → xW p l e { frames := f, cells := 0, slots := 0, locals := lo } s m args below meth c n G 0 0 (xQ below G Post args s) 0 (lv_args 0 av) [] σ) : xM l G y cc n ret f lo av σ Post := by
  refine va_MetF (cc := cc) (maxL := n) (ret := ret) hy rfl ?_
  intro p e s m args below meth c s₁ B hml hv
  obtain ⟨rfl, hH, hK⟩ := hv
  have hown : s.vm.findClass y.cls = some m.cls := findClass_of_methodNamed B.named
  have hl := lv_entry av (n := n) hlen
  rw [lg_entry_eq]
  exact body p e s m _ below meth c ⟨B.exec, B.bytes, hml, hown, hK, B.returns, B.notSynchronized⟩ s.heap [] _ hH va_S.rf hl
theorem x_iret {x : Int32} (X : xC p s m meth c cc nL own (some .int) G) (d : decode cc pc = .ok (.ireturn, 1)) (hq : Post (some (.int x)) σ) : xW p l e R s m args below meth c nL G 0 0 (xQ below G Post args s) pc lv [.int x] σ :=
  fun _ _ _ hH hS _ => W.iret X.x X.b X.r (fun t ht _ => ⟨⟨_, σ, rfl, hq, by rw [ht]; exact hH⟩, hS.F ht⟩) hS.2.2 d X.n
theorem x_zret {x : Int32} (X : xC p s m meth c cc nL own (some .boolean) G) (d : decode cc pc = .ok (.ireturn, 1)) (hx : x = 0 ∨ x = 1) (hq : Post (some (.int x)) σ) : xW p l e R s m args below meth c nL G 0 0 (xQ below G Post args s) pc lv [.int x] σ :=
  fun _ _ _ hH hS _ => W.zret X.x X.b X.r (by rcases hx with rfl | rfl <;> decide) (fun t ht _ => ⟨⟨_, σ, rfl, hq, by rw [ht]; exact hH⟩, hS.F ht⟩) hS.2.2 d X.n
theorem x_lret {x : Int64} (X : xC p s m meth c cc nL own (some .long) G) (d : decode cc pc = .ok (.lreturn, 1)) (hq : Post (some (.long x)) σ) : xW p l e R s m args below meth c nL G 0 0 (xQ below G Post args s) pc lv [.long x] σ :=
  fun _ _ _ hH hS _ => W.lret X.x X.b X.r (fun t ht _ => ⟨⟨_, σ, rfl, hq, by rw [ht]; exact hH⟩, hS.F ht⟩) hS.2.2 d X.n
theorem x_vret (X : xC p s m meth c cc nL own none G) (d : decode cc pc = .ok (.return_, 1)) (hq : Post none σ) : xW p l e R s m args below meth c nL G 0 0 (xQ below G Post args s) pc lv [] σ :=
  fun _ _ _ hH hS _ => W.vret X.x X.b X.r (fun t ht _ => ⟨⟨_, σ, rfl, hq, by rw [ht]; exact hH⟩, hS.F ht⟩) hS.2.2 d X.n
theorem x_aret {k : Nat} {rt : FieldType} (X : xC p s m meth c cc nL own (some rt) G) (hrt : (∃ n, rt = .object n) ∨ ∃ t, rt = .array t) (d : decode cc pc = .ok (.areturn, 1)) (hq : Post (some (.ref (G.2.1 k))) σ) : xW p l e R s m args below meth c nL G 0 0 (xQ below G Post args s) pc lv [.ref (G.2.1 k)] σ :=
  fun _ _ _ hH hS _ => W.aret X.x X.b X.r hrt (Or.inr ⟨_, rfl⟩) (fun t ht _ => ⟨⟨_, σ, rfl, hq, by rw [ht]; exact hH⟩, hS.F ht⟩) hS.2.2 d X.n
theorem x_run {H : Heap} {locs : List Loc} {ls : Array Slot} {a : Array Value} (hr : va_Run p l e R s m args below meth c H locs cells slots 0 0 (F0 m pc ls st) rest (xQc G Post a) (xA G)) (hS : va_S (xA G) s.heap H locs) (hl : lv_has ls nL lv) (K : ∀ (r : Option Value) (τ : xS), Post r τ → xW p l e R s m args below meth c nL G cells slots Q (pc + 3) lv (r.toList ++ rest) τ) : W p l e R s m args below meth c H locs cells slots Q (F0 m pc ls st) := by
  intro T hT X
  obtain ⟨v, st₀, t, T', L, h0, X', hL, e1, e2, ⟨⟨r, τ, hv, hp, hb⟩, hz, hk⟩, sp⟩ := hr T hT X
  cases hv
  rw [h0] at hz hk
  obtain ⟨t2, a1, b1⟩ := K v τ hp T'.heap (locs ++ L) ls (by rw [e1]; exact hb) ⟨Nat.le_trans hS.1 (by rw [e1]; exact hz), fun q h1 h2 => by rw [e1, hk q (Nat.lt_of_lt_of_le h1 hS.1) h2]; exact hS.2.1 q h1 h2, fun q hq => by
      rcases List.mem_append.mp hq with h | h
      · exact hS.2.2 q h
      · exact hL q h⟩ hl T' rfl X'
  exact ⟨t2, sp t2 a1, b1⟩
theorem x_blind {av : List Value} : FrameBlind (va_Pc av (fun U => xH G σ U.heap ∧ xK G U)) := fun _ U _ _ h => ⟨h.1, h.2.1, h.2.2.moved (State.WarmedH.refl U)⟩
/-- what a call needs of its callee's name, decided by program -/
def xNm (y : MethodName) (k : Nat) : Prop := y.cls ≠ "java/lang/invoke/MethodHandle" ∧ y.cls ≠ "java/lang/invoke/VarHandle" ∧ (parseMethodDescriptor y.desc).map (fun d => d.parameters.length) = some k
theorem x_cb {index k : Nat} (X : xC p s m meth c cc nL own ret G) (hn : xNm y k) (w1 : Cond.methodLink own index y ∈ lw_tbl) (w4 : Cond.initialized y.cls ∈ lw_tbl) (w5 : Cond.code y bytes n ry ∈ lw_tbl) (hf : f + 1 ≤ R.frames) (hlo : 8 + (n + 11) + lo ≤ R.locals) :
    CallB R s args own index y bytes n ry [.code y bytes n ry] { frames := f, cells := 0, slots := 0, locals := lo } 0 0 k := by
  refine ⟨rfl, rfl, hf, hlo, fun w hw a' U hW => ?_, List.mem_cons_self, X.k.word w5 rfl, X.k.word w4 rfl, ⟨hn.1, hn.2.1⟩, fun sig h => ?_, X.k.word w1 rfl⟩
  · rw [List.mem_singleton.mp hw]
    exact (X.k.moved hW).word w5 rfl
  · have h2 := hn.2.2
    rw [h] at h2
    exact (Option.some.inj h2).symm
theorem x_callV {index b ci N k : Nat} {C : String} {T : u_T} (X : xC p s m meth c cc nL own ret G) (hM : xM l G y bytes n ry f lo (.ref (G.2.1 b) :: As) σ Post) (hn : xNm y k) (w1 : Cond.methodLink own index y ∈ lw_tbl) (w2 : Cond.instanceMethod y ∈ lw_tbl) (w3 : Cond.selects C y y ∈ lw_tbl) (w4 : Cond.initialized y.cls ∈ lw_tbl) (w5 : Cond.code y bytes n ry ∈ lw_tbl) (hc : vwCl[ci]? = some (C, T, N)) (hci : ci < 9) (d : decode cc pc = .ok (.invokevirtual index, 3)) (hk : xck b = (ci, 0)) (hR : f + 1 ≤ R.frames ∧ 8 + (n + 11) + lo ≤ R.locals ∧ cells ≤ R.cells ∧ slots ≤ R.slots) (hst : st = As.reverse ++ .ref (G.2.1 b) :: rest) (hlen : As.length = k) (hw : (rest.map fun v => v.category).sum ≤ 8)
    (K : ∀ (r : Option Value) (τ : xS), Post r τ → xW p l e R s m args below meth c nL G cells slots Q (pc + 3) lv (r.toList ++ rest) τ) : xW p l e R s m args below meth c nL G cells slots Q pc lv st σ := by
  intro H locs ls hH hS hl
  refine x_run (va_runV (Ts := []) (C := C) ⟨X.x, X.b, X.ml, X.o, fun _ h => nomatch h⟩ hM ⟨x_cb X hn w1 w4 w5 hR.1 hR.2.1, X.k.word w2 rfl, X.k.word w3 rfl⟩ ⟨x_blind, va_recv X.k.1 hH (q := (C, T, N)) (ci := ci) (q0 := b) (fs := xfl G σ b 0 (xfk ci)) hc ((xwl_at (xck_lt hk (by omega))).trans (by rw [xcell_o hk hci])), fun U hU hW => ⟨rfl, by rw [hU]; exact hH, X.k.moved hW⟩⟩ rfl hlen hl.1 hst (lv_room hw) d ⟨hR.2.2.1, hR.2.2.2⟩) hS hl K
theorem x_callS {index k : Nat} (X : xC p s m meth c cc nL own ret G) (hM : xM l G y bytes n ry f lo As σ Post) (hn : xNm y k) (w1 : Cond.methodLink own index y ∈ lw_tbl) (w2 : Cond.static y ∈ lw_tbl) (w4 : Cond.initialized y.cls ∈ lw_tbl) (w5 : Cond.code y bytes n ry ∈ lw_tbl) (d : decode cc pc = .ok (.invokestatic index, 3)) (hR : f + 1 ≤ R.frames ∧ 8 + (n + 11) + lo ≤ R.locals ∧ cells ≤ R.cells ∧ slots ≤ R.slots) (hst : st = As.reverse ++ rest) (hlen : As.length = k) (hw : (rest.map fun v => v.category).sum ≤ 8)
    (K : ∀ (r : Option Value) (τ : xS), Post r τ → xW p l e R s m args below meth c nL G cells slots Q (pc + 3) lv (r.toList ++ rest) τ) : xW p l e R s m args below meth c nL G cells slots Q pc lv st σ := by
  intro H locs ls hH hS hl
  refine x_run (va_runS (Ts := []) ⟨X.x, X.b, X.ml, X.o, fun _ h => nomatch h⟩ hM ⟨x_cb X hn w1 w4 w5 hR.1 hR.2.1, X.k.word w2 rfl⟩ ⟨x_blind, fun U hU hW => ⟨rfl, by rw [hU]; exact hH, X.k.moved hW⟩⟩ rfl hlen hl.1 hst (lv_room hw) d ⟨hR.2.2.1, hR.2.2.2⟩) hS hl K
theorem xk_i {v : Int32} (K : xW p l e R s m args below meth c nL G cells slots Q pc lv (.int v :: rest) τ) : ∀ (r : Option Value) (t : xS), (r = some (.int v) ∧ t = τ) → xW p l e R s m args below meth c nL G cells slots Q pc lv (r.toList ++ rest) t := fun _ _ h => by obtain ⟨rfl, rfl⟩ := h; exact K
theorem xk_l {v : Int64} (K : xW p l e R s m args below meth c nL G cells slots Q pc lv (.long v :: rest) τ) : ∀ (r : Option Value) (t : xS), (r = some (.long v) ∧ t = τ) → xW p l e R s m args below meth c nL G cells slots Q pc lv (r.toList ++ rest) t := fun _ _ h => by obtain ⟨rfl, rfl⟩ := h; exact K
theorem xk_r {k : Nat} (K : xW p l e R s m args below meth c nL G cells slots Q pc lv (.ref (G.2.1 k) :: rest) τ) : ∀ (r : Option Value) (t : xS), (r = some (.ref (G.2.1 k)) ∧ t = τ) → xW p l e R s m args below meth c nL G cells slots Q pc lv (r.toList ++ rest) t := fun _ _ h => by obtain ⟨rfl, rfl⟩ := h; exact K
theorem xk_v (K : xW p l e R s m args below meth c nL G cells slots Q pc lv rest τ) : ∀ (r : Option Value) (t : xS), (r = none ∧ t = τ) → xW p l e R s m args below meth c nL G cells slots Q pc lv (r.toList ++ rest) t := fun _ _ h => by obtain ⟨rfl, rfl⟩ := h; exact K
end XM
