
/-! WHERE THE CLASS THROWS -/
def xmv (w : Cond) : Bool := goodWord w || (match w with | .castable _ _ => true | .declares _ => true | _ => false)
theorem xmv_at {s U : State} {w : Cond} {a a' : Array Value} (hW : s.WarmedH U.vm) (hg : xmv w = true) (h : w.before a s = true) : w.before a' U = true := by
  by_cases g : goodWord w = true
  · exact word_at hW (good_of_word g) h
  · cases w with
    | castable C T => exact va_any rfl (va_Nw.warmC hW (va_any rfl h))
    | declares x => exact va_any rfl (va_Nw.warmD hW (va_any rfl h))
    | _ => exact absurd (by simpa [xmv] using hg) g
def xstr : List (Nat × String) := [(97, "no such plan"), (233, "no such row"), (178, "no such what"), (198, "there is no plan at all"), (201, "no plan is proved to be the best"), (212, "no row bounds the cost"), (220, "no such number")]
/-- what a throw needs, wherever we are -/
def xKt (G : xG) (U : State) (H : Heap) : Prop := xK G U ∧ (∀ w ∈ lw_tbl, xmv w = true → w.before #[] U = true) ∧ vx_Zq Bundle.tN "UNASSIGNED_STACK" Bundle.steD (xA G) U H ∧ vx_Zq Bundle.tN "SUPPRESSED_SENTINEL" Bundle.listD (xA G) U H ∧ ∀ q ∈ xstr, ∃ a, vk_R RX8 q.1 q.2 a U
theorem xKt.moved {G : xG} {s U : State} {H : Heap} (h : xKt G s H) (hW : s.WarmedH U.vm) : xKt G U H :=
  ⟨h.1.moved hW, fun w hw hg => xmv_at hW hg (h.2.1 w hw hg), h.2.2.1.moved hW.alike, h.2.2.2.1.moved hW.alike, fun q hq => (h.2.2.2.2 q hq).imp fun _ ha => vk_R.warm hW ha⟩
theorem xKt.kept {G : xG} {s : State} {H H1 : Heap} {locs : List Loc} (h : xKt G s H) (hS : va_S (xA G) H H1 locs) : xKt G s H1 :=
  ⟨h.1, h.2.1, h.2.2.1.kept hS.2.1, h.2.2.2.1.kept hS.2.1, h.2.2.2.2⟩
theorem xKt.word {G : xG} {s : State} {H : Heap} (h : xKt G s H) {w : Cond} (hw : w ∈ lw_tbl) (hg : xmv w = true) {args : Array Value} : w.before args s = true := xmv_at (State.WarmedH.refl s) hg (h.2.1 w hw hg)
abbrev xnm : List String := ["java/lang/RuntimeException", "java/lang/Exception"]
abbrev xIO : String := "java/lang/IndexOutOfBoundsException"
abbrev xIS : String := "java/lang/IllegalStateException"
set_option maxRecDepth 100000 in
theorem xat_O : ∀ w ∈ vx_atS RX8 99 xIO xnm, w ∈ lw_tbl ∧ xmv w = true ∧ vx_ot w = true := by decide +kernel
set_option maxRecDepth 100000 in
theorem xat_S : ∀ w ∈ vx_atS RX8 200 xIS xnm, w ∈ lw_tbl ∧ xmv w = true ∧ vx_ot w = true := by decide +kernel
/-- what a throw leaves: the class, the state as it was -/
def xXc (G : xG) (σ : xS) (E : String) : String → State → State → Prop := fun E' st t => E' = E ∧ xH G σ t.heap ∧ va_F (xA G) st t
def xN : Array Value → State → Outcome → State → Prop := fun _ _ _ _ => False
/-- from every state that holds σ, with these arguments: it throws E, σ stays -/
def xT (l : Launch) (G : xG) (y : MethodName) (cc : ByteArray) (n : Nat) (ret : Option FieldType) (f lo : Nat) (av : List Value) (σ : xS) (E : String) : Prop :=
  vx_Met l y [.code y cc n ret] { frames := f, cells := 1, slots := 6, locals := lo } (va_Pc av (fun U => xH G σ U.heap ∧ xKt G U U.heap)) xN (xXc G σ E) 1 6 (xA G)
def xQt (below : List Frame) (G : xG) (σ : xS) (E : String) (args : Array Value) (s : State) : State → Prop := vx_MQ below xN (xXc G σ E) args s 1 6 (xA G)
theorem xt_blind {G : xG} {σ : xS} {av : List Value} : FrameBlind (va_Pc av (fun U => xH G σ U.heap ∧ xKt G U U.heap)) := fun _ U _ _ h => ⟨h.1, h.2.1, h.2.2.moved (State.WarmedH.refl U)⟩
section XT
variable {p : Program} {l : Launch} {e : Env} {R : Room} {s : State} {m : MethodId} {args : Array Value} {below : List Frame} {meth : Method} {c : Code} {cc : ByteArray} {nL : Nat} {own : String} {ret : Option FieldType} {G : xG} {cells slots : Nat} {Q : State → Prop} {pc : Nat} {lv lv' : List (Nat × Value)} {st rest As : List Value} {σ τ : xS} {y : MethodName} {bytes : ByteArray} {n f lo : Nat} {ry : Option FieldType} {E : String}
theorem xT.of {av : List Value} (hy : plainName y.cls = true) (hlen : (lg_sl av).length ≤ n) (body : ∀ (p : Program) (e : Env) (s : State) (m : MethodId) (args : Array Value) (below : List Frame) (meth : Method) (c : Code), xC p s m meth c cc n y.cls ret G → xKt G s s.heap → (∀ x ∈ c.exceptionTable.toList, False) → xW p l e { frames := f, cells := 1, slots := 6, locals := lo } s m args below meth c n G 0 0 (xQt below G σ E args s) 0 (lv_args 0 av) [] σ) : xT l G y cc n ret f lo av σ E := by
  refine vx_ofW (cc := cc) (maxL := n) (ret := ret) hy rfl ?_
  intro p e s m args below meth c s₁ B hml ht hv
  obtain ⟨rfl, hH, hK⟩ := hv
  have hown : s.vm.findClass y.cls = some m.cls := findClass_of_methodNamed B.named
  have hl := lv_entry av (n := n) hlen
  rw [lg_entry_eq]
  exact body p e s m _ below meth c ⟨B.exec, B.bytes, hml, hown, hK.1, B.returns, B.notSynchronized⟩ hK ht s.heap [] _ hH va_S.rf hl
theorem x_throwS {ik is ic : Nat} {cls text : String} (X : xC p s m meth c cc nL RX8 ret G) (hl : l.stackTraces = false) (hK : xKt G s s.heap) (ht : ∀ x ∈ c.exceptionTable.toList, False) (hcls : Bundle.fit cls = true) (hk : Cond.classLink RX8 ik cls ∈ lw_tbl) (hini : Cond.initialized cls ∈ lw_tbl) (hs : (is, text) ∈ xstr) (hat : ∀ w ∈ vx_atS RX8 ic cls xnm, w ∈ lw_tbl ∧ xmv w = true ∧ vx_ot w = true)
    (d0 : decode cc pc = .ok (.new ik, 3)) (d3 : decode cc (pc + 3) = .ok (.dup, 1)) (d4 : decode cc (pc + 4) = .ok (.ldc is, 2)) (d6 : decode cc (pc + 6) = .ok (.invokespecial ic, 3)) (d9 : decode cc (pc + 9) = .ok (.athrow, 1)) (hR : 5 < R.frames ∧ 82 ≤ R.locals ∧ 1 ≤ R.cells ∧ 6 ≤ R.slots) : xW p l e R s m args below meth c nL G 0 0 (xQt below G σ cls args s) pc lv [] σ := by
  intro H locs ls hH hS hl'
  obtain ⟨sa, hstr⟩ := hK.2.2.2.2 _ hs
  refine vx_throwS (names := xnm) X.x X.b hl X.o hcls (by decide +kernel) (X.k.word hk rfl) (X.k.word hini rfl) hstr (fun w hw => hK.word (hat w hw).1 (hat w hw).2.1) ?_ hK.2.2.1 hK.2.2.2.1 hS (by rw [X.ml]; exact hl'.1) d0 d3 d4 d6 d9 (fun x hx => (ht x hx).elim) hR.1 ?_ hR.2.2.1 hR.2.2.2 X.n ?_ hS.2.2 (Nat.le_refl _) (Nat.le_refl _)
  · intro w hw
    rcases List.mem_cons.mp hw with rfl | hw
    · rfl
    · rcases List.mem_cons.mp hw with rfl | hw
      · rfl
      · exact (hat w hw).2.2
  · have h := hR.2.1
    simpa using h
  · intro t _ hz ho
    refine ⟨rfl, va_P.kept hH (fun k x hx => ho x.1 ((hH k x hx).lt)), Nat.le_trans hS.1 hz, fun q h1 h2 => ?_⟩
    rw [ho q (Nat.lt_of_lt_of_le h1 hS.1)]
    exact hS.2.1 q h1 h2
theorem xt_cb {index k : Nat} (X : xC p s m meth c cc nL own ret G) (hn : xNm y k) (w1 : Cond.methodLink own index y ∈ lw_tbl) (w4 : Cond.initialized y.cls ∈ lw_tbl) (w5 : Cond.code y bytes n ry ∈ lw_tbl) (hf : f + 1 ≤ R.frames) (hlo : 8 + (n + 11) + lo ≤ R.locals) :
    CallB R s args own index y bytes n ry [.code y bytes n ry] { frames := f, cells := 1, slots := 6, locals := lo } 1 6 k := by
  refine ⟨rfl, rfl, hf, hlo, fun w hw a' U hW => ?_, List.mem_cons_self, X.k.word w5 rfl, X.k.word w4 rfl, ⟨hn.1, hn.2.1⟩, fun sig h => ?_, X.k.word w1 rfl⟩
  · rw [List.mem_singleton.mp hw]
    exact (X.k.moved hW).word w5 rfl
  · have h2 := hn.2.2
    rw [h] at h2
    exact (Option.some.inj h2).symm
/-- a callee throws: where it stands then -/
theorem xt_run {index b ci N k : Nat} {C : String} {T : u_T} {H : Heap} {locs : List Loc} {ls : Array Slot} (X : xC p s m meth c cc nL own ret G) (hKt : xKt G s s.heap) (hM : xT l G y bytes n ry f lo (.ref (G.2.1 b) :: As) σ E) (hn : xNm y k) (w1 : Cond.methodLink own index y ∈ lw_tbl) (w2 : Cond.instanceMethod y ∈ lw_tbl) (w3 : Cond.selects C y y ∈ lw_tbl) (w4 : Cond.initialized y.cls ∈ lw_tbl) (w5 : Cond.code y bytes n ry ∈ lw_tbl) (hc : vwCl[ci]? = some (C, T, N)) (hci : ci < 9) (d : decode cc pc = .ok (.invokevirtual index, 3)) (hk : xck b = (ci, 0)) (hR : f + 1 ≤ R.frames ∧ 8 + (n + 11) + lo ≤ R.locals ∧ cells + 1 ≤ R.cells ∧ slots + 6 ≤ R.slots) (hst : st = As.reverse ++ .ref (G.2.1 b) :: rest) (hlen : As.length = k) (hw : (rest.map fun v => v.category).sum ≤ 8) (hH : xH G σ H) (hS : va_S (xA G) s.heap H locs) (hl : lv_has ls nL lv)
    (K : ∀ (q : Nat) (ce : Cell) (H1 : Heap) (locs1 : List Loc), xH G σ H1 → va_S (xA G) s.heap H1 locs1 → H1[q]? = some ce → ce.vm = .none → s.vm.findClass E = some ce.cls → vx_W p l e R s m args below meth c H1 locs1 (cells + 1) (slots + 6) Q (F0 m pc ls rest) q) : W p l e R s m args below meth c H locs cells slots Q (F0 m pc ls st) := by
  intro T hT Xs
  rcases vx_runV (Ts := []) (C := C) (g := F0 m pc ls st) (rest := rest) ⟨X.x, X.b, X.ml, X.o, fun _ h => nomatch h⟩ hM ⟨xt_cb X hn w1 w4 w5 hR.1 hR.2.1, X.k.word w2 rfl, X.k.word w3 rfl⟩ ⟨xt_blind, va_recv X.k.1 hH (q := (C, _, N)) (ci := ci) (q0 := b) (fs := xfl G σ b 0 (xfk ci)) hc ((xwl_at (xck_lt hk (by omega))).trans (by rw [xcell_o hk hci])), fun U hU hW => ⟨rfl, by rw [hU]; exact hH, by rw [hU]; exact (hKt.kept hS).moved hW⟩⟩ rfl hlen hl.1 hst (lv_room hw) d ⟨hR.2.2.1, hR.2.2.2⟩ T hT Xs with ⟨v, st₀, t, T', L, h0, X', hL, e1, e2, hq, sp⟩ | ⟨q, st₀, t, T', L, E', ce, h0, X', hL, e1, e2, ⟨rfl, hH', hz, hkp⟩, hce, hcv, hcl, sp⟩
  · exact hq.elim
  · rw [h0] at hz hkp
    obtain ⟨t2, a1, b1⟩ := K q ce T'.heap (locs ++ L) (by rw [e1]; exact hH') ⟨Nat.le_trans hS.1 (by rw [e1]; exact hz), fun x h1 h2 => by rw [e1, hkp x (Nat.lt_of_lt_of_le h1 hS.1) h2]; exact hS.2.1 x h1 h2, fun x hx => by
      rcases List.mem_append.mp hx with h | h
      · exact hS.2.2 x h
      · exact hL x h⟩ (by rw [e1]; exact hce) hcv hcl T' rfl X'
    exact ⟨t2, sp.trans a1, b1⟩
/-- a callee throws, nobody catches here -/
theorem x_thrV {index b ci N k : Nat} {C : String} {T : u_T} (X : xC p s m meth c cc nL own ret G) (hKt : xKt G s s.heap) (ht : ∀ x ∈ c.exceptionTable.toList, False) (hM : xT l G y bytes n ry f lo (.ref (G.2.1 b) :: As) σ E) (hn : xNm y k) (w1 : Cond.methodLink own index y ∈ lw_tbl) (w2 : Cond.instanceMethod y ∈ lw_tbl) (w3 : Cond.selects C y y ∈ lw_tbl) (w4 : Cond.initialized y.cls ∈ lw_tbl) (w5 : Cond.code y bytes n ry ∈ lw_tbl) (hc : vwCl[ci]? = some (C, T, N)) (hci : ci < 9) (d : decode cc pc = .ok (.invokevirtual index, 3)) (hk : xck b = (ci, 0)) (hR : f + 1 ≤ R.frames ∧ 8 + (n + 11) + lo ≤ R.locals ∧ 0 + 1 ≤ R.cells ∧ 0 + 6 ≤ R.slots) (hst : st = As.reverse ++ .ref (G.2.1 b) :: rest) (hlen : As.length = k) (hw : (rest.map fun v => v.category).sum ≤ 8) : xW p l e R s m args below meth c nL G 0 0 (xQt below G σ E args s) pc lv st σ := by
  intro H locs ls hH hS hl
  refine xt_run X hKt hM hn w1 w2 w3 w4 w5 hc hci d hk hR hst hlen hw hH hS hl ?_
  intro q ce H1 locs1 hH1 hS1 h1 h2 h3
  refine vx_out (fun x hx => (ht x hx).elim) X.n h1 h2 h3 (fun t e1 _ => ⟨rfl, by rw [e1]; exact hH1, hS1.F e1⟩) hS1.2.2 (Nat.le_refl _) (Nat.le_refl _)
end XT
