section VLate
variable {p : Program} {l : Launch} {e : Env} {R : Room} {s : State} {m : MethodId} {args : Array Value} {below : List Frame} {meth : Method} {c : Code} {H : Heap} {locs : List Loc} {cells slots : Nat} {Q : State → Prop} {pc : Nat} {ls : Array Slot} {rest : List Value}
/-- caught by the row x of this method's table; the rows ahead don't take it -/
theorem vx_catch {own name : String} {E : String} {ce : Cell} {q : Addr} (hown : s.vm.findClass own = some m.cls) (pre : List ExceptionTableEntry) (x : ExceptionTableEntry) (suf : List ExceptionTableEntry) (hsplit : c.exceptionTable.toList = pre ++ x :: suf)
    (hpass : ∀ z ∈ pre, covers z pc = false ∨ (z.catchType ≠ 0 ∧ ∃ nm : String, (Cond.classLink own z.catchType nm).before args s = true ∧ va_Nc E nm s)) (hx : covers x pc = true) (h0 : x.catchType ≠ 0)
    (hlink : (Cond.classLink own x.catchType name).before args s = true) (hcast : (Cond.castable E name).before args s = true) (hcell : H[q]? = some ce) (hv : ce.vm = .none) (hcl : s.vm.findClass E = some ce.cls)
    (kk : W p l e R s m args below meth c H locs cells slots Q (F0 m x.handlerPc ls [.ref q])) : vx_W p l e R s m args below meth c H locs cells slots Q (F0 m pc ls rest) q := by
  intro T hT X
  have hpl : e.platform.magicAccessors = ({} : Platform).magicAccessors := by rw [X.admits.platform]
  obtain ⟨c3, c4, hc3, hc4, hasg⟩ := Cond.castable_spec hcast
  cases Option.some.inj (hc3.symm.trans hcl)
  obtain ⟨c5, hc5, hcl5⟩ := Cond.classLink_spec hown hlink e.platform hpl
  cases Option.some.inj (hc4.symm.trans hc5)
  obtain ⟨vm', X', st⟩ := X.thenCaughtThrough q (g := F0 m pc ls rest) rfl (Steps.refl _) (by rw [hT]; exact hcell) (by rw [hv]; rfl) (by obtain ⟨k9, h9, -⟩ := Vm.findClass_spec hcl; exact ⟨k9, h9⟩) pre x suf hsplit
    (fun z hz => by
      rcases hpass z hz with h | ⟨hz0, nm, hl1, hn1⟩
      · exact Or.inl h
      · obtain ⟨c6, hc6, hcl6⟩ := Cond.classLink_spec hown hl1 e.platform hpl
        obtain ⟨a8, b8, h1, h2, h3⟩ := hn1
        cases Option.some.inj (h1.symm.trans hcl)
        cases Option.some.inj (h2.symm.trans hc6)
        exact Or.inr ⟨hz0, _, hcl6, h3⟩) hx (Or.inr ⟨h0, c4, hcl5, hasg⟩)
  obtain ⟨t, a1, b1⟩ := kk (T.setVm vm') hT X'
  exact ⟨t, st.trans a1, b1⟩
end VLate

theorem wx_L13 : Cond.classLink RL 13 xIO ∈ lw_tbl := tb3 (List.mem_of_getElem? (i := 174) rfl)

theorem wx_L30 : Cond.classLink RL 30 xIS ∈ lw_tbl := tb4 (List.mem_of_getElem? (i := 76) rfl)

theorem wx_cio : Cond.castable xIO xIO ∈ lw_tbl := tb3 (List.mem_of_getElem? (i := 181) rfl)

theorem wx_cis : Cond.castable xIS xIS ∈ lw_tbl := tb4 (List.mem_of_getElem? (i := 83) rfl)


/-! THE LAW'S WRAPPERS: methods with a table of their own -/
/-- as xM, of a method with a table, that may make one cell of six slots -/
def xMw (l : Launch) (G : xG) (y : MethodName) (cc : ByteArray) (n : Nat) (ret : Option FieldType) (hh : List (Nat × Nat × Nat × Nat)) (f lo : Nat) (av : List Value) (σ : xS) (Post : Option Value → xS → Prop) : Prop :=
  Met l y [.codeWith y cc n ret hh] { frames := f, cells := 1, slots := 6, locals := lo } (va_Pc av (fun U => xH G σ U.heap ∧ xKt G U U.heap)) (xQc G Post) 1 6 (xA G)
def xQw (below : List Frame) (G : xG) (Post : Option Value → xS → Prop) (args : Array Value) (s : State) : State → Prop := MQ below (xQc G Post) args s 1 6 (xA G)
section XMW
variable {p : Program} {l : Launch} {e : Env} {R : Room} {s : State} {m : MethodId} {args : Array Value} {below : List Frame} {meth : Method} {c : Code} {cc : ByteArray} {nL : Nat} {own : String} {ret : Option FieldType} {G : xG} {cells slots : Nat} {Q : State → Prop} {pc : Nat} {lv lv' : List (Nat × Value)} {st rest As : List Value} {σ τ : xS} {y : MethodName} {bytes : ByteArray} {n f lo : Nat} {ry : Option FieldType} {E : String} {hh : List (Nat × Nat × Nat × Nat)} {Post : Option Value → xS → Prop}
theorem xMw.of {av : List Value} (hy : plainName y.cls = true) (hlen : (lg_sl av).length ≤ n) (body : ∀ (p : Program) (e : Env) (s : State) (m : MethodId) (args : Array Value) (below : List Frame) (meth : Method) (c : Code), xC p s m meth c cc n y.cls ret G → xKt G s s.heap → c.exceptionTable.toList = tableOf hh → xW p l e { frames := f, cells := 1, slots := 6, locals := lo } s m args below meth c n G 0 0 (xQw below G Post args s) 0 (lv_args 0 av) [] σ) : xMw l G y cc n ret hh f lo av σ Post := by
  refine va_MetW (cc := cc) (maxL := n) (ret := ret) hy rfl ?_
  intro p e s m args below meth c s₁ B hml hv
  have htb := vx_table (x := y) B (atoms_spec (ws := [.codeWith y cc n ret hh]) B.pre _ List.mem_cons_self)
  obtain ⟨rfl, hH, hK⟩ := hv
  have hown : s.vm.findClass y.cls = some m.cls := findClass_of_methodNamed B.named
  have hl := lv_entry av (n := n) hlen
  rw [lg_entry_eq]
  exact body p e s m _ below meth c ⟨B.exec, B.bytes, hml, hown, hK.1, B.returns, B.notSynchronized⟩ hK htb s.heap [] _ hH va_S.rf hl
theorem x_iretW {x : Int32} (X : xC p s m meth c cc nL own (some .int) G) (d : decode cc pc = .ok (.ireturn, 1)) (hc : cells ≤ 1) (hs : slots ≤ 6) (hq : Post (some (.int x)) σ) : xW p l e R s m args below meth c nL G cells slots (xQw below G Post args s) pc lv [.int x] σ :=
  fun _ _ _ hH hS _ => W.widen hc hs (W.iret X.x X.b X.r (fun t ht _ => ⟨⟨_, σ, rfl, hq, by rw [ht]; exact hH⟩, hS.F ht⟩) hS.2.2 d X.n)
/-- a callee throws, the one row of the table takes it -/
theorem x_thrC {index b ci N k a0 a1 hp ct : Nat} {C : String} {T : u_T} (X : xC p s m meth c cc nL own ret G) (hKt : xKt G s s.heap) (ht : c.exceptionTable.toList = tableOf [(a0, a1, hp, ct)]) (hcv : covers ⟨a0, a1, hp, ct⟩ pc = true) (hct : ct ≠ 0) (hcl : Cond.classLink own ct E ∈ lw_tbl) (hca : Cond.castable E E ∈ lw_tbl) (hM : xT l G y bytes n ry f lo (.ref (G.2.1 b) :: As) σ E) (hn : xNm y k) (w1 : Cond.methodLink own index y ∈ lw_tbl) (w2 : Cond.instanceMethod y ∈ lw_tbl) (w3 : Cond.selects C y y ∈ lw_tbl) (w4 : Cond.initialized y.cls ∈ lw_tbl) (w5 : Cond.code y bytes n ry ∈ lw_tbl) (hc : vwCl[ci]? = some (C, T, N)) (hci : ci < 9) (d : decode cc pc = .ok (.invokevirtual index, 3)) (hk : xck b = (ci, 0)) (hR : f + 1 ≤ R.frames ∧ 8 + (n + 11) + lo ≤ R.locals ∧ cells + 1 ≤ R.cells ∧ slots + 6 ≤ R.slots) (hst : st = As.reverse ++ .ref (G.2.1 b) :: rest) (hlen : As.length = k) (hw : (rest.map fun v => v.category).sum ≤ 8)
    (K : ∀ q : Nat, xW p l e R s m args below meth c nL G (cells + 1) (slots + 6) Q hp lv [.ref q] σ) : xW p l e R s m args below meth c nL G cells slots Q pc lv st σ := by
  intro H locs ls hH hS hl
  refine xt_run X hKt hM hn w1 w2 w3 w4 w5 hc hci d hk hR hst hlen hw hH hS hl ?_
  intro q ce H1 locs1 hH1 hS1 h1 h2 h3
  exact vx_catch X.o [] ⟨a0, a1, hp, ct⟩ [] ht (fun _ h => nomatch h) hcv hct (X.k.word hcl rfl) (hKt.word hca rfl) h1 h2 h3 (K q H1 locs1 ls hH1 hS1 hl)
end XMW

theorem wc_L_cost : Cond.codeWith yL_cost cL_cost 4 (Option.some Jvm.ClassFile.FieldType.int) [(0, 8, 11, 13)] ∈ lw_tbl := tb3 (List.mem_of_getElem? (i := 173) rfl)

theorem wt_L_cost : Cond.static yL_cost ∈ lw_tbl := tb3 (List.mem_of_getElem? (i := 172) rfl)

set_option maxHeartbeats 4000000 in
set_option maxRecDepth 100000 in
theorem w_cost {l : Launch} {G : xG} {σ : xS} {q : Int32} {v : Int64} {I : xS → Prop} (hM : xM l G yX8_cost cX8_cost 2 (Option.some Jvm.ClassFile.FieldType.long) 2 45 [.ref (G.2.1 0), .int q] σ (fun r u => r = some (.long v) ∧ I u)) : xMw l G yL_cost cL_cost 4 (Option.some Jvm.ClassFile.FieldType.int) [(0, 8, 11, 13)] 7 103 [.ref (G.2.1 0), .int q, .ref (G.2.1 60)] σ (fun r u => r = some (.int 0) ∧ ∃ u0, I u0 ∧ u = xsL u0 60 0 (v)) := by
  refine xMw.of (by decide) (Nat.le_of_ble_eq_true rfl) (fun pp ee ss mm aa bel met kk X hKt ht => ?_)
  have X : xC pp ss mm met kk cL_cost 4 RL (Option.some Jvm.ClassFile.FieldType.int) G := X
  show xW pp l ee { frames := 7, cells := 1, slots := 6, locals := 103 } ss mm aa bel met kk 4 G 0 0 (xQw bel G (fun r u => r = some (.int 0) ∧ ∃ u0, I u0 ∧ u = xsL u0 60 0 (v)) aa ss) 0 [(0, .ref (G.2.1 0)), (1, .int q), (2, .ref (G.2.1 60))] [] σ
  refine x_aload_n X dL_cost_0 rfl ?_
  refine x_iconst (v := 0) X dL_cost_1 (by decide) ?_
  refine x_aload_n X dL_cost_2 rfl ?_
  refine x_iload_n X dL_cost_3 rfl ?_
  refine cv_L_7 X hM dL_cost_4 rfl ⟨by decide, by decide, by decide, by decide⟩ rfl rfl (Nat.le_of_ble_eq_true rfl) (fun r0 u hpo => ?_)
  obtain ⟨rfl, hI⟩ := hpo
  refine x_last X dL_cost_7 rfl (by unfold vp_in; decide) ?_
  refine x_goto (tgt := 14) X dL_cost_8 (by decide) ?_
  refine x_iconst (v := 0) X dL_cost_14 (by decide) ?_
  exact x_iretW X dL_cost_15 (Nat.le_of_ble_eq_true rfl) (Nat.le_of_ble_eq_true rfl) (⟨rfl, u, hI, rfl⟩)

set_option maxHeartbeats 4000000 in
set_option maxRecDepth 100000 in
theorem w_costT {l : Launch} {G : xG} {σ : xS} {q : Int32} (hM : xT l G yX8_cost cX8_cost 2 (Option.some Jvm.ClassFile.FieldType.long) 6 82 [.ref (G.2.1 0), .int q] σ xIO) : xMw l G yL_cost cL_cost 4 (Option.some Jvm.ClassFile.FieldType.int) [(0, 8, 11, 13)] 7 103 [.ref (G.2.1 0), .int q, .ref (G.2.1 60)] σ (fun r u => r = some (.int 1) ∧ u = σ) := by
  refine xMw.of (by decide) (Nat.le_of_ble_eq_true rfl) (fun pp ee ss mm aa bel met kk X hKt ht => ?_)
  have X : xC pp ss mm met kk cL_cost 4 RL (Option.some Jvm.ClassFile.FieldType.int) G := X
  show xW pp l ee { frames := 7, cells := 1, slots := 6, locals := 103 } ss mm aa bel met kk 4 G 0 0 (xQw bel G (fun r u => r = some (.int 1) ∧ u = σ) aa ss) 0 [(0, .ref (G.2.1 0)), (1, .int q), (2, .ref (G.2.1 60))] [] σ
  refine x_aload_n X dL_cost_0 rfl ?_
  refine x_iconst (v := 0) X dL_cost_1 (by decide) ?_
  refine x_aload_n X dL_cost_2 rfl ?_
  refine x_iload_n X dL_cost_3 rfl ?_
  refine x_thrC X hKt ht (by decide) (by decide) wx_L13 wx_cio hM xnm_X8_cost wl_L_7 wn_X8_cost we_X8_cost wi_X8 wc_X8_cost rfl (by decide) dL_cost_4 rfl ⟨by decide, by decide, by decide, by decide⟩ rfl rfl (Nat.le_of_ble_eq_true rfl) (fun q0 => ?_)
  refine x_astore_n (lv' := [(3, .ref q0), (0, .ref (G.2.1 0)), (1, .int q), (2, .ref (G.2.1 60))]) X dL_cost_11 rfl (by decide) rfl ?_
  refine x_iconst (v := 1) X dL_cost_12 (by decide) ?_
  exact x_iretW X dL_cost_13 (Nat.le_of_ble_eq_true rfl) (Nat.le_of_ble_eq_true rfl) (⟨rfl, rfl⟩)

theorem wc_L_row : Cond.codeWith yL_row cL_row 5 (Option.some Jvm.ClassFile.FieldType.int) [(0, 9, 12, 13)] ∈ lw_tbl := tb4 (List.mem_of_getElem? (i := 9) rfl)

theorem wt_L_row : Cond.static yL_row ∈ lw_tbl := tb4 (List.mem_of_getElem? (i := 8) rfl)

set_option maxHeartbeats 4000000 in
set_option maxRecDepth 100000 in
theorem w_row {l : Launch} {G : xG} {σ : xS} {q i : Int32} {v : Int64} {I : xS → Prop} (hM : xM l G yX8_row cX8_row 4 (Option.some Jvm.ClassFile.FieldType.long) 3 67 [.ref (G.2.1 0), .int q, .int i] σ (fun r u => r = some (.long v) ∧ I u)) : xMw l G yL_row cL_row 5 (Option.some Jvm.ClassFile.FieldType.int) [(0, 9, 12, 13)] 8 126 [.ref (G.2.1 0), .int q, .int i, .ref (G.2.1 60)] σ (fun r u => r = some (.int 0) ∧ ∃ u0, I u0 ∧ u = xsL u0 60 0 (v)) := by
  refine xMw.of (by decide) (Nat.le_of_ble_eq_true rfl) (fun pp ee ss mm aa bel met kk X hKt ht => ?_)
  have X : xC pp ss mm met kk cL_row 5 RL (Option.some Jvm.ClassFile.FieldType.int) G := X
  show xW pp l ee { frames := 8, cells := 1, slots := 6, locals := 126 } ss mm aa bel met kk 5 G 0 0 (xQw bel G (fun r u => r = some (.int 0) ∧ ∃ u0, I u0 ∧ u = xsL u0 60 0 (v)) aa ss) 0 [(0, .ref (G.2.1 0)), (1, .int q), (2, .int i), (3, .ref (G.2.1 60))] [] σ
  refine x_aload_n X dL_row_0 rfl ?_
  refine x_iconst (v := 0) X dL_row_1 (by decide) ?_
  refine x_aload_n X dL_row_2 rfl ?_
  refine x_iload_n X dL_row_3 rfl ?_
  refine x_iload_n X dL_row_4 rfl ?_
  refine cv_L_15 X hM dL_row_5 rfl ⟨by decide, by decide, by decide, by decide⟩ rfl rfl (Nat.le_of_ble_eq_true rfl) (fun r0 u hpo => ?_)
  obtain ⟨rfl, hI⟩ := hpo
  refine x_last X dL_row_8 rfl (by unfold vp_in; decide) ?_
  refine x_goto (tgt := 16) X dL_row_9 (by decide) ?_
  refine x_iconst (v := 0) X dL_row_16 (by decide) ?_
  exact x_iretW X dL_row_17 (Nat.le_of_ble_eq_true rfl) (Nat.le_of_ble_eq_true rfl) (⟨rfl, u, hI, rfl⟩)

set_option maxHeartbeats 4000000 in
set_option maxRecDepth 100000 in
theorem w_rowT {l : Launch} {G : xG} {σ : xS} {q i : Int32} (hM : xT l G yX8_row cX8_row 4 (Option.some Jvm.ClassFile.FieldType.long) 7 103 [.ref (G.2.1 0), .int q, .int i] σ xIO) : xMw l G yL_row cL_row 5 (Option.some Jvm.ClassFile.FieldType.int) [(0, 9, 12, 13)] 8 126 [.ref (G.2.1 0), .int q, .int i, .ref (G.2.1 60)] σ (fun r u => r = some (.int 1) ∧ u = σ) := by
  refine xMw.of (by decide) (Nat.le_of_ble_eq_true rfl) (fun pp ee ss mm aa bel met kk X hKt ht => ?_)
  have X : xC pp ss mm met kk cL_row 5 RL (Option.some Jvm.ClassFile.FieldType.int) G := X
  show xW pp l ee { frames := 8, cells := 1, slots := 6, locals := 126 } ss mm aa bel met kk 5 G 0 0 (xQw bel G (fun r u => r = some (.int 1) ∧ u = σ) aa ss) 0 [(0, .ref (G.2.1 0)), (1, .int q), (2, .int i), (3, .ref (G.2.1 60))] [] σ
  refine x_aload_n X dL_row_0 rfl ?_
  refine x_iconst (v := 0) X dL_row_1 (by decide) ?_
  refine x_aload_n X dL_row_2 rfl ?_
  refine x_iload_n X dL_row_3 rfl ?_
  refine x_iload_n X dL_row_4 rfl ?_
  refine x_thrC X hKt ht (by decide) (by decide) wx_L13 wx_cio hM xnm_X8_row wl_L_15 wn_X8_row we_X8_row wi_X8 wc_X8_row rfl (by decide) dL_row_5 rfl ⟨by decide, by decide, by decide, by decide⟩ rfl rfl (Nat.le_of_ble_eq_true rfl) (fun q0 => ?_)
  refine x_astore (lv' := [(4, .ref q0), (0, .ref (G.2.1 0)), (1, .int q), (2, .int i), (3, .ref (G.2.1 60))]) X dL_row_12 (by decide) rfl ?_
  refine x_iconst (v := 1) X dL_row_14 (by decide) ?_
  exact x_iretW X dL_row_15 (Nat.le_of_ble_eq_true rfl) (Nat.le_of_ble_eq_true rfl) (⟨rfl, rfl⟩)

theorem wc_L_assumes : Cond.codeWith yL_assumes cL_assumes 5 (Option.some Jvm.ClassFile.FieldType.int) [(0, 10, 13, 13)] ∈ lw_tbl := tb4 (List.mem_of_getElem? (i := 46) rfl)

theorem wt_L_assumes : Cond.static yL_assumes ∈ lw_tbl := tb4 (List.mem_of_getElem? (i := 45) rfl)

set_option maxHeartbeats 4000000 in
set_option maxRecDepth 100000 in
theorem w_assumes {l : Launch} {G : xG} {σ : xS} {q i : Int32} {v : Int32} {I : xS → Prop} (hM : xM l G yX8_assumes cX8_assumes 3 (Option.some Jvm.ClassFile.FieldType.int) 3 68 [.ref (G.2.1 0), .int q, .int i] σ (fun r u => r = some (.int v) ∧ I u)) : xMw l G yL_assumes cL_assumes 5 (Option.some Jvm.ClassFile.FieldType.int) [(0, 10, 13, 13)] 8 125 [.ref (G.2.1 0), .int q, .int i, .ref (G.2.1 60)] σ (fun r u => r = some (.int 0) ∧ ∃ u0, I u0 ∧ u = xsL u0 60 0 (v.toInt64)) := by
  refine xMw.of (by decide) (Nat.le_of_ble_eq_true rfl) (fun pp ee ss mm aa bel met kk X hKt ht => ?_)
  have X : xC pp ss mm met kk cL_assumes 5 RL (Option.some Jvm.ClassFile.FieldType.int) G := X
  show xW pp l ee { frames := 8, cells := 1, slots := 6, locals := 125 } ss mm aa bel met kk 5 G 0 0 (xQw bel G (fun r u => r = some (.int 0) ∧ ∃ u0, I u0 ∧ u = xsL u0 60 0 (v.toInt64)) aa ss) 0 [(0, .ref (G.2.1 0)), (1, .int q), (2, .int i), (3, .ref (G.2.1 60))] [] σ
  refine x_aload_n X dL_assumes_0 rfl ?_
  refine x_iconst (v := 0) X dL_assumes_1 (by decide) ?_
  refine x_aload_n X dL_assumes_2 rfl ?_
  refine x_iload_n X dL_assumes_3 rfl ?_
  refine x_iload_n X dL_assumes_4 rfl ?_
  refine cv_L_19 X hM dL_assumes_5 rfl ⟨by decide, by decide, by decide, by decide⟩ rfl rfl (Nat.le_of_ble_eq_true rfl) (fun r0 u hpo => ?_)
  obtain ⟨rfl, hI⟩ := hpo
  refine x_i2l X dL_assumes_8 ?_
  refine x_last X dL_assumes_9 rfl (by unfold vp_in; decide) ?_
  refine x_goto (tgt := 17) X dL_assumes_10 (by decide) ?_
  refine x_iconst (v := 0) X dL_assumes_17 (by decide) ?_
  exact x_iretW X dL_assumes_18 (Nat.le_of_ble_eq_true rfl) (Nat.le_of_ble_eq_true rfl) (⟨rfl, u, hI, rfl⟩)

set_option maxHeartbeats 4000000 in
set_option maxRecDepth 100000 in
theorem w_assumesT {l : Launch} {G : xG} {σ : xS} {q i : Int32} (hM : xT l G yX8_assumes cX8_assumes 3 (Option.some Jvm.ClassFile.FieldType.int) 7 103 [.ref (G.2.1 0), .int q, .int i] σ xIO) : xMw l G yL_assumes cL_assumes 5 (Option.some Jvm.ClassFile.FieldType.int) [(0, 10, 13, 13)] 8 125 [.ref (G.2.1 0), .int q, .int i, .ref (G.2.1 60)] σ (fun r u => r = some (.int 1) ∧ u = σ) := by
  refine xMw.of (by decide) (Nat.le_of_ble_eq_true rfl) (fun pp ee ss mm aa bel met kk X hKt ht => ?_)
  have X : xC pp ss mm met kk cL_assumes 5 RL (Option.some Jvm.ClassFile.FieldType.int) G := X
  show xW pp l ee { frames := 8, cells := 1, slots := 6, locals := 125 } ss mm aa bel met kk 5 G 0 0 (xQw bel G (fun r u => r = some (.int 1) ∧ u = σ) aa ss) 0 [(0, .ref (G.2.1 0)), (1, .int q), (2, .int i), (3, .ref (G.2.1 60))] [] σ
  refine x_aload_n X dL_assumes_0 rfl ?_
  refine x_iconst (v := 0) X dL_assumes_1 (by decide) ?_
  refine x_aload_n X dL_assumes_2 rfl ?_
  refine x_iload_n X dL_assumes_3 rfl ?_
  refine x_iload_n X dL_assumes_4 rfl ?_
  refine x_thrC X hKt ht (by decide) (by decide) wx_L13 wx_cio hM xnm_X8_assumes wl_L_19 wn_X8_assumes we_X8_assumes wi_X8 wc_X8_assumes rfl (by decide) dL_assumes_5 rfl ⟨by decide, by decide, by decide, by decide⟩ rfl rfl (Nat.le_of_ble_eq_true rfl) (fun q0 => ?_)
  refine x_astore (lv' := [(4, .ref q0), (0, .ref (G.2.1 0)), (1, .int q), (2, .int i), (3, .ref (G.2.1 60))]) X dL_assumes_13 (by decide) rfl ?_
  refine x_iconst (v := 1) X dL_assumes_15 (by decide) ?_
  exact x_iretW X dL_assumes_16 (Nat.le_of_ble_eq_true rfl) (Nat.le_of_ble_eq_true rfl) (⟨rfl, rfl⟩)

theorem wc_L_holds : Cond.codeWith yL_holds cL_holds 5 (Option.some Jvm.ClassFile.FieldType.int) [(0, 10, 13, 13)] ∈ lw_tbl := tb4 (List.mem_of_getElem? (i := 58) rfl)

theorem wt_L_holds : Cond.static yL_holds ∈ lw_tbl := tb4 (List.mem_of_getElem? (i := 57) rfl)

set_option maxHeartbeats 4000000 in
set_option maxRecDepth 100000 in
theorem w_holds {l : Launch} {G : xG} {σ : xS} {q i : Int32} {v : Int32} {I : xS → Prop} (hM : xM l G yX8_holds cX8_holds 5 (Option.some Jvm.ClassFile.FieldType.int) 3 68 [.ref (G.2.1 0), .int q, .int i] σ (fun r u => r = some (.int v) ∧ I u)) : xMw l G yL_holds cL_holds 5 (Option.some Jvm.ClassFile.FieldType.int) [(0, 10, 13, 13)] 8 127 [.ref (G.2.1 0), .int q, .int i, .ref (G.2.1 60)] σ (fun r u => r = some (.int 0) ∧ ∃ u0, I u0 ∧ u = xsL u0 60 0 (v.toInt64)) := by
  refine xMw.of (by decide) (Nat.le_of_ble_eq_true rfl) (fun pp ee ss mm aa bel met kk X hKt ht => ?_)
  have X : xC pp ss mm met kk cL_holds 5 RL (Option.some Jvm.ClassFile.FieldType.int) G := X
  show xW pp l ee { frames := 8, cells := 1, slots := 6, locals := 127 } ss mm aa bel met kk 5 G 0 0 (xQw bel G (fun r u => r = some (.int 0) ∧ ∃ u0, I u0 ∧ u = xsL u0 60 0 (v.toInt64)) aa ss) 0 [(0, .ref (G.2.1 0)), (1, .int q), (2, .int i), (3, .ref (G.2.1 60))] [] σ
  refine x_aload_n X dL_holds_0 rfl ?_
  refine x_iconst (v := 0) X dL_holds_1 (by decide) ?_
  refine x_aload_n X dL_holds_2 rfl ?_
  refine x_iload_n X dL_holds_3 rfl ?_
  refine x_iload_n X dL_holds_4 rfl ?_
  refine cv_L_23 X hM dL_holds_5 rfl ⟨by decide, by decide, by decide, by decide⟩ rfl rfl (Nat.le_of_ble_eq_true rfl) (fun r0 u hpo => ?_)
  obtain ⟨rfl, hI⟩ := hpo
  refine x_i2l X dL_holds_8 ?_
  refine x_last X dL_holds_9 rfl (by unfold vp_in; decide) ?_
  refine x_goto (tgt := 17) X dL_holds_10 (by decide) ?_
  refine x_iconst (v := 0) X dL_holds_17 (by decide) ?_
  exact x_iretW X dL_holds_18 (Nat.le_of_ble_eq_true rfl) (Nat.le_of_ble_eq_true rfl) (⟨rfl, u, hI, rfl⟩)

set_option maxHeartbeats 4000000 in
set_option maxRecDepth 100000 in
theorem w_holdsT {l : Launch} {G : xG} {σ : xS} {q i : Int32} (hM : xT l G yX8_holds cX8_holds 5 (Option.some Jvm.ClassFile.FieldType.int) 7 103 [.ref (G.2.1 0), .int q, .int i] σ xIO) : xMw l G yL_holds cL_holds 5 (Option.some Jvm.ClassFile.FieldType.int) [(0, 10, 13, 13)] 8 127 [.ref (G.2.1 0), .int q, .int i, .ref (G.2.1 60)] σ (fun r u => r = some (.int 1) ∧ u = σ) := by
  refine xMw.of (by decide) (Nat.le_of_ble_eq_true rfl) (fun pp ee ss mm aa bel met kk X hKt ht => ?_)
  have X : xC pp ss mm met kk cL_holds 5 RL (Option.some Jvm.ClassFile.FieldType.int) G := X
  show xW pp l ee { frames := 8, cells := 1, slots := 6, locals := 127 } ss mm aa bel met kk 5 G 0 0 (xQw bel G (fun r u => r = some (.int 1) ∧ u = σ) aa ss) 0 [(0, .ref (G.2.1 0)), (1, .int q), (2, .int i), (3, .ref (G.2.1 60))] [] σ
  refine x_aload_n X dL_holds_0 rfl ?_
  refine x_iconst (v := 0) X dL_holds_1 (by decide) ?_
  refine x_aload_n X dL_holds_2 rfl ?_
  refine x_iload_n X dL_holds_3 rfl ?_
  refine x_iload_n X dL_holds_4 rfl ?_
  refine x_thrC X hKt ht (by decide) (by decide) wx_L13 wx_cio hM xnm_X8_holds wl_L_23 wn_X8_holds we_X8_holds wi_X8 wc_X8_holds rfl (by decide) dL_holds_5 rfl ⟨by decide, by decide, by decide, by decide⟩ rfl rfl (Nat.le_of_ble_eq_true rfl) (fun q0 => ?_)
  refine x_astore (lv' := [(4, .ref q0), (0, .ref (G.2.1 0)), (1, .int q), (2, .int i), (3, .ref (G.2.1 60))]) X dL_holds_13 (by decide) rfl ?_
  refine x_iconst (v := 1) X dL_holds_15 (by decide) ?_
  exact x_iretW X dL_holds_16 (Nat.le_of_ble_eq_true rfl) (Nat.le_of_ble_eq_true rfl) (⟨rfl, rfl⟩)

theorem wc_L_best : Cond.codeWith yL_best cL_best 3 (Option.some Jvm.ClassFile.FieldType.int) [(0, 7, 10, 30)] ∈ lw_tbl := tb4 (List.mem_of_getElem? (i := 75) rfl)

theorem wt_L_best : Cond.static yL_best ∈ lw_tbl := tb4 (List.mem_of_getElem? (i := 74) rfl)

set_option maxHeartbeats 4000000 in
set_option maxRecDepth 100000 in
theorem w_best {l : Launch} {G : xG} {σ : xS}  {v : Int64} {I : xS → Prop} (hM : xM l G yX8_best cX8_best 2 (Option.some Jvm.ClassFile.FieldType.long) 3 64 [.ref (G.2.1 0)] σ (fun r u => r = some (.long v) ∧ I u)) : xMw l G yL_best cL_best 3 (Option.some Jvm.ClassFile.FieldType.int) [(0, 7, 10, 30)] 7 103 [.ref (G.2.1 0), .ref (G.2.1 60)] σ (fun r u => r = some (.int 0) ∧ ∃ u0, I u0 ∧ u = xsL u0 60 0 (v)) := by
  refine xMw.of (by decide) (Nat.le_of_ble_eq_true rfl) (fun pp ee ss mm aa bel met kk X hKt ht => ?_)
  have X : xC pp ss mm met kk cL_best 3 RL (Option.some Jvm.ClassFile.FieldType.int) G := X
  show xW pp l ee { frames := 7, cells := 1, slots := 6, locals := 103 } ss mm aa bel met kk 3 G 0 0 (xQw bel G (fun r u => r = some (.int 0) ∧ ∃ u0, I u0 ∧ u = xsL u0 60 0 (v)) aa ss) 0 [(0, .ref (G.2.1 0)), (1, .ref (G.2.1 60))] [] σ
  refine x_aload_n X dL_best_0 rfl ?_
  refine x_iconst (v := 0) X dL_best_1 (by decide) ?_
  refine x_aload_n X dL_best_2 rfl ?_
  refine cv_L_26 X hM dL_best_3 rfl ⟨by decide, by decide, by decide, by decide⟩ rfl rfl (Nat.le_of_ble_eq_true rfl) (fun r0 u hpo => ?_)
  obtain ⟨rfl, hI⟩ := hpo
  refine x_last X dL_best_6 rfl (by unfold vp_in; decide) ?_
  refine x_goto (tgt := 13) X dL_best_7 (by decide) ?_
  refine x_iconst (v := 0) X dL_best_13 (by decide) ?_
  exact x_iretW X dL_best_14 (Nat.le_of_ble_eq_true rfl) (Nat.le_of_ble_eq_true rfl) (⟨rfl, u, hI, rfl⟩)

set_option maxHeartbeats 4000000 in
set_option maxRecDepth 100000 in
theorem w_bestT {l : Launch} {G : xG} {σ : xS}  (hM : xT l G yX8_best cX8_best 2 (Option.some Jvm.ClassFile.FieldType.long) 6 82 [.ref (G.2.1 0)] σ xIS) : xMw l G yL_best cL_best 3 (Option.some Jvm.ClassFile.FieldType.int) [(0, 7, 10, 30)] 7 103 [.ref (G.2.1 0), .ref (G.2.1 60)] σ (fun r u => r = some (.int 1) ∧ u = σ) := by
  refine xMw.of (by decide) (Nat.le_of_ble_eq_true rfl) (fun pp ee ss mm aa bel met kk X hKt ht => ?_)
  have X : xC pp ss mm met kk cL_best 3 RL (Option.some Jvm.ClassFile.FieldType.int) G := X
  show xW pp l ee { frames := 7, cells := 1, slots := 6, locals := 103 } ss mm aa bel met kk 3 G 0 0 (xQw bel G (fun r u => r = some (.int 1) ∧ u = σ) aa ss) 0 [(0, .ref (G.2.1 0)), (1, .ref (G.2.1 60))] [] σ
  refine x_aload_n X dL_best_0 rfl ?_
  refine x_iconst (v := 0) X dL_best_1 (by decide) ?_
  refine x_aload_n X dL_best_2 rfl ?_
  refine x_thrC X hKt ht (by decide) (by decide) wx_L30 wx_cis hM xnm_X8_best wl_L_26 wn_X8_best we_X8_best wi_X8 wc_X8_best rfl (by decide) dL_best_3 rfl ⟨by decide, by decide, by decide, by decide⟩ rfl rfl (Nat.le_of_ble_eq_true rfl) (fun q0 => ?_)
  refine x_astore_n (lv' := [(2, .ref q0), (0, .ref (G.2.1 0)), (1, .ref (G.2.1 60))]) X dL_best_10 rfl (by decide) rfl ?_
  refine x_iconst (v := 1) X dL_best_11 (by decide) ?_
  exact x_iretW X dL_best_12 (Nat.le_of_ble_eq_true rfl) (Nat.le_of_ble_eq_true rfl) (⟨rfl, rfl⟩)

theorem wc_L_least : Cond.codeWith yL_least cL_least 3 (Option.some Jvm.ClassFile.FieldType.int) [(0, 7, 10, 30)] ∈ lw_tbl := tb4 (List.mem_of_getElem? (i := 100) rfl)

theorem wt_L_least : Cond.static yL_least ∈ lw_tbl := tb4 (List.mem_of_getElem? (i := 99) rfl)

set_option maxHeartbeats 4000000 in
set_option maxRecDepth 100000 in
theorem w_least {l : Launch} {G : xG} {σ : xS}  {v : Int64} {I : xS → Prop} (hM : xM l G yX8_least cX8_least 3 (Option.some Jvm.ClassFile.FieldType.long) 4 93 [.ref (G.2.1 0)] σ (fun r u => r = some (.long v) ∧ I u)) : xMw l G yL_least cL_least 3 (Option.some Jvm.ClassFile.FieldType.int) [(0, 7, 10, 30)] 7 115 [.ref (G.2.1 0), .ref (G.2.1 60)] σ (fun r u => r = some (.int 0) ∧ ∃ u0, I u0 ∧ u = xsL u0 60 0 (v)) := by
  refine xMw.of (by decide) (Nat.le_of_ble_eq_true rfl) (fun pp ee ss mm aa bel met kk X hKt ht => ?_)
  have X : xC pp ss mm met kk cL_least 3 RL (Option.some Jvm.ClassFile.FieldType.int) G := X
  show xW pp l ee { frames := 7, cells := 1, slots := 6, locals := 115 } ss mm aa bel met kk 3 G 0 0 (xQw bel G (fun r u => r = some (.int 0) ∧ ∃ u0, I u0 ∧ u = xsL u0 60 0 (v)) aa ss) 0 [(0, .ref (G.2.1 0)), (1, .ref (G.2.1 60))] [] σ
  refine x_aload_n X dL_least_0 rfl ?_
  refine x_iconst (v := 0) X dL_least_1 (by decide) ?_
  refine x_aload_n X dL_least_2 rfl ?_
  refine cv_L_32 X hM dL_least_3 rfl ⟨by decide, by decide, by decide, by decide⟩ rfl rfl (Nat.le_of_ble_eq_true rfl) (fun r0 u hpo => ?_)
  obtain ⟨rfl, hI⟩ := hpo
  refine x_last X dL_least_6 rfl (by unfold vp_in; decide) ?_
  refine x_goto (tgt := 13) X dL_least_7 (by decide) ?_
  refine x_iconst (v := 0) X dL_least_13 (by decide) ?_
  exact x_iretW X dL_least_14 (Nat.le_of_ble_eq_true rfl) (Nat.le_of_ble_eq_true rfl) (⟨rfl, u, hI, rfl⟩)

set_option maxHeartbeats 4000000 in
set_option maxRecDepth 100000 in
theorem w_leastT {l : Launch} {G : xG} {σ : xS}  (hM : xT l G yX8_least cX8_least 3 (Option.some Jvm.ClassFile.FieldType.long) 6 93 [.ref (G.2.1 0)] σ xIS) : xMw l G yL_least cL_least 3 (Option.some Jvm.ClassFile.FieldType.int) [(0, 7, 10, 30)] 7 115 [.ref (G.2.1 0), .ref (G.2.1 60)] σ (fun r u => r = some (.int 1) ∧ u = σ) := by
  refine xMw.of (by decide) (Nat.le_of_ble_eq_true rfl) (fun pp ee ss mm aa bel met kk X hKt ht => ?_)
  have X : xC pp ss mm met kk cL_least 3 RL (Option.some Jvm.ClassFile.FieldType.int) G := X
  show xW pp l ee { frames := 7, cells := 1, slots := 6, locals := 115 } ss mm aa bel met kk 3 G 0 0 (xQw bel G (fun r u => r = some (.int 1) ∧ u = σ) aa ss) 0 [(0, .ref (G.2.1 0)), (1, .ref (G.2.1 60))] [] σ
  refine x_aload_n X dL_least_0 rfl ?_
  refine x_iconst (v := 0) X dL_least_1 (by decide) ?_
  refine x_aload_n X dL_least_2 rfl ?_
  refine x_thrC X hKt ht (by decide) (by decide) wx_L30 wx_cis hM xnm_X8_least wl_L_32 wn_X8_least we_X8_least wi_X8 wc_X8_least rfl (by decide) dL_least_3 rfl ⟨by decide, by decide, by decide, by decide⟩ rfl rfl (Nat.le_of_ble_eq_true rfl) (fun q0 => ?_)
  refine x_astore_n (lv' := [(2, .ref q0), (0, .ref (G.2.1 0)), (1, .ref (G.2.1 60))]) X dL_least_10 rfl (by decide) rfl ?_
  refine x_iconst (v := 1) X dL_least_11 (by decide) ?_
  exact x_iretW X dL_least_12 (Nat.le_of_ble_eq_true rfl) (Nat.le_of_ble_eq_true rfl) (⟨rfl, rfl⟩)

theorem wc_L_trim : Cond.codeWith yL_trim cL_trim 4 (Option.some Jvm.ClassFile.FieldType.int) [(0, 9, 12, 13)] ∈ lw_tbl := tb4 (List.mem_of_getElem? (i := 127) rfl)

theorem wt_L_trim : Cond.static yL_trim ∈ lw_tbl := tb4 (List.mem_of_getElem? (i := 126) rfl)

set_option maxHeartbeats 4000000 in
set_option maxRecDepth 100000 in
theorem w_trim {l : Launch} {G : xG} {σ : xS} {q : Int32} {v : Int32} {I : xS → Prop} (hM : xM l G yX8_trim cX8_trim 4 (Option.some Jvm.ClassFile.FieldType.int) 6 154 [.ref (G.2.1 0), .int q] σ (fun r u => r = some (.int v) ∧ I u)) : xMw l G yL_trim cL_trim 4 (Option.some Jvm.ClassFile.FieldType.int) [(0, 9, 12, 13)] 8 177 [.ref (G.2.1 0), .int q, .ref (G.2.1 60)] σ (fun r u => r = some (.int 0) ∧ ∃ u0, I u0 ∧ u = xsL u0 60 0 (v.toInt64)) := by
  refine xMw.of (by decide) (Nat.le_of_ble_eq_true rfl) (fun pp ee ss mm aa bel met kk X hKt ht => ?_)
  have X : xC pp ss mm met kk cL_trim 4 RL (Option.some Jvm.ClassFile.FieldType.int) G := X
  show xW pp l ee { frames := 8, cells := 1, slots := 6, locals := 177 } ss mm aa bel met kk 4 G 0 0 (xQw bel G (fun r u => r = some (.int 0) ∧ ∃ u0, I u0 ∧ u = xsL u0 60 0 (v.toInt64)) aa ss) 0 [(0, .ref (G.2.1 0)), (1, .int q), (2, .ref (G.2.1 60))] [] σ
  refine x_aload_n X dL_trim_0 rfl ?_
  refine x_iconst (v := 0) X dL_trim_1 (by decide) ?_
  refine x_aload_n X dL_trim_2 rfl ?_
  refine x_iload_n X dL_trim_3 rfl ?_
  refine cv_L_35 X hM dL_trim_4 rfl ⟨by decide, by decide, by decide, by decide⟩ rfl rfl (Nat.le_of_ble_eq_true rfl) (fun r0 u hpo => ?_)
  obtain ⟨rfl, hI⟩ := hpo
  refine x_i2l X dL_trim_7 ?_
  refine x_last X dL_trim_8 rfl (by unfold vp_in; decide) ?_
  refine x_goto (tgt := 15) X dL_trim_9 (by decide) ?_
  refine x_iconst (v := 0) X dL_trim_15 (by decide) ?_
  exact x_iretW X dL_trim_16 (Nat.le_of_ble_eq_true rfl) (Nat.le_of_ble_eq_true rfl) (⟨rfl, u, hI, rfl⟩)

set_option maxHeartbeats 4000000 in
set_option maxRecDepth 100000 in
theorem w_trimT {l : Launch} {G : xG} {σ : xS} {q : Int32} (hM : xT l G yX8_trim cX8_trim 4 (Option.some Jvm.ClassFile.FieldType.int) 7 103 [.ref (G.2.1 0), .int q] σ xIO) : xMw l G yL_trim cL_trim 4 (Option.some Jvm.ClassFile.FieldType.int) [(0, 9, 12, 13)] 8 177 [.ref (G.2.1 0), .int q, .ref (G.2.1 60)] σ (fun r u => r = some (.int 1) ∧ u = σ) := by
  refine xMw.of (by decide) (Nat.le_of_ble_eq_true rfl) (fun pp ee ss mm aa bel met kk X hKt ht => ?_)
  have X : xC pp ss mm met kk cL_trim 4 RL (Option.some Jvm.ClassFile.FieldType.int) G := X
  show xW pp l ee { frames := 8, cells := 1, slots := 6, locals := 177 } ss mm aa bel met kk 4 G 0 0 (xQw bel G (fun r u => r = some (.int 1) ∧ u = σ) aa ss) 0 [(0, .ref (G.2.1 0)), (1, .int q), (2, .ref (G.2.1 60))] [] σ
  refine x_aload_n X dL_trim_0 rfl ?_
  refine x_iconst (v := 0) X dL_trim_1 (by decide) ?_
  refine x_aload_n X dL_trim_2 rfl ?_
  refine x_iload_n X dL_trim_3 rfl ?_
  refine x_thrC X hKt ht (by decide) (by decide) wx_L13 wx_cio hM xnm_X8_trim wl_L_35 wn_X8_trim we_X8_trim wi_X8 wc_X8_trim rfl (by decide) dL_trim_4 rfl ⟨by decide, by decide, by decide, by decide⟩ rfl rfl (Nat.le_of_ble_eq_true rfl) (fun q0 => ?_)
  refine x_astore_n (lv' := [(3, .ref q0), (0, .ref (G.2.1 0)), (1, .int q), (2, .ref (G.2.1 60))]) X dL_trim_12 rfl (by decide) rfl ?_
  refine x_iconst (v := 1) X dL_trim_13 (by decide) ?_
  exact x_iretW X dL_trim_14 (Nat.le_of_ble_eq_true rfl) (Nat.le_of_ble_eq_true rfl) (⟨rfl, rfl⟩)

theorem wc_L_number : Cond.codeWith yL_number cL_number 4 (Option.some Jvm.ClassFile.FieldType.int) [(0, 9, 12, 13)] ∈ lw_tbl := tb4 (List.mem_of_getElem? (i := 144) rfl)

theorem wt_L_number : Cond.static yL_number ∈ lw_tbl := tb4 (List.mem_of_getElem? (i := 143) rfl)

set_option maxHeartbeats 4000000 in
set_option maxRecDepth 100000 in
theorem w_number {l : Launch} {G : xG} {σ : xS} {q : Int32} {v : Int32} {I : xS → Prop} (hM : xM l G yX8_number cX8_number 2 (Option.some Jvm.ClassFile.FieldType.int) 1 21 [.ref (G.2.1 0), .int q] σ (fun r u => r = some (.int v) ∧ I u)) : xMw l G yL_number cL_number 4 (Option.some Jvm.ClassFile.FieldType.int) [(0, 9, 12, 13)] 7 103 [.ref (G.2.1 0), .int q, .ref (G.2.1 60)] σ (fun r u => r = some (.int 0) ∧ ∃ u0, I u0 ∧ u = xsL u0 60 0 (v.toInt64)) := by
  refine xMw.of (by decide) (Nat.le_of_ble_eq_true rfl) (fun pp ee ss mm aa bel met kk X hKt ht => ?_)
  have X : xC pp ss mm met kk cL_number 4 RL (Option.some Jvm.ClassFile.FieldType.int) G := X
  show xW pp l ee { frames := 7, cells := 1, slots := 6, locals := 103 } ss mm aa bel met kk 4 G 0 0 (xQw bel G (fun r u => r = some (.int 0) ∧ ∃ u0, I u0 ∧ u = xsL u0 60 0 (v.toInt64)) aa ss) 0 [(0, .ref (G.2.1 0)), (1, .int q), (2, .ref (G.2.1 60))] [] σ
  refine x_aload_n X dL_number_0 rfl ?_
  refine x_iconst (v := 0) X dL_number_1 (by decide) ?_
  refine x_aload_n X dL_number_2 rfl ?_
  refine x_iload_n X dL_number_3 rfl ?_
  refine cv_L_39 X hM dL_number_4 rfl ⟨by decide, by decide, by decide, by decide⟩ rfl rfl (Nat.le_of_ble_eq_true rfl) (fun r0 u hpo => ?_)
  obtain ⟨rfl, hI⟩ := hpo
  refine x_i2l X dL_number_7 ?_
  refine x_last X dL_number_8 rfl (by unfold vp_in; decide) ?_
  refine x_goto (tgt := 15) X dL_number_9 (by decide) ?_
  refine x_iconst (v := 0) X dL_number_15 (by decide) ?_
  exact x_iretW X dL_number_16 (Nat.le_of_ble_eq_true rfl) (Nat.le_of_ble_eq_true rfl) (⟨rfl, u, hI, rfl⟩)

set_option maxHeartbeats 4000000 in
set_option maxRecDepth 100000 in
theorem w_numberT {l : Launch} {G : xG} {σ : xS} {q : Int32} (hM : xT l G yX8_number cX8_number 2 (Option.some Jvm.ClassFile.FieldType.int) 6 82 [.ref (G.2.1 0), .int q] σ xIO) : xMw l G yL_number cL_number 4 (Option.some Jvm.ClassFile.FieldType.int) [(0, 9, 12, 13)] 7 103 [.ref (G.2.1 0), .int q, .ref (G.2.1 60)] σ (fun r u => r = some (.int 1) ∧ u = σ) := by
  refine xMw.of (by decide) (Nat.le_of_ble_eq_true rfl) (fun pp ee ss mm aa bel met kk X hKt ht => ?_)
  have X : xC pp ss mm met kk cL_number 4 RL (Option.some Jvm.ClassFile.FieldType.int) G := X
  show xW pp l ee { frames := 7, cells := 1, slots := 6, locals := 103 } ss mm aa bel met kk 4 G 0 0 (xQw bel G (fun r u => r = some (.int 1) ∧ u = σ) aa ss) 0 [(0, .ref (G.2.1 0)), (1, .int q), (2, .ref (G.2.1 60))] [] σ
  refine x_aload_n X dL_number_0 rfl ?_
  refine x_iconst (v := 0) X dL_number_1 (by decide) ?_
  refine x_aload_n X dL_number_2 rfl ?_
  refine x_iload_n X dL_number_3 rfl ?_
  refine x_thrC X hKt ht (by decide) (by decide) wx_L13 wx_cio hM xnm_X8_number wl_L_39 wn_X8_number we_X8_number wi_X8 wc_X8_number rfl (by decide) dL_number_4 rfl ⟨by decide, by decide, by decide, by decide⟩ rfl rfl (Nat.le_of_ble_eq_true rfl) (fun q0 => ?_)
  refine x_astore_n (lv' := [(3, .ref q0), (0, .ref (G.2.1 0)), (1, .int q), (2, .ref (G.2.1 60))]) X dL_number_12 rfl (by decide) rfl ?_
  refine x_iconst (v := 1) X dL_number_13 (by decide) ?_
  exact x_iretW X dL_number_14 (Nat.le_of_ble_eq_true rfl) (Nat.le_of_ble_eq_true rfl) (⟨rfl, rfl⟩)
