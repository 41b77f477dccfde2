set_option maxHeartbeats 4000000 in
set_option maxRecDepth 100000 in
theorem c_X8_trim {l : Launch} {G : xG} {σ g : xS} {c nr w le : Nat} {kd sa ln : Nat → Nat} {I : xS → Prop} {Tk : xS → Int32 → xS → Prop} (hm : xMod c) (hr : nr ≤ 200) (hrc : xgI σ 8 3 = nI nr) (hw : w < nr) (hra : rowsAt σ nr kd sa ln) (h0 : 0 < nr → sa 0 = 1) (h1 : ∀ r, r + 1 < nr → sa (r + 1) = sa r + ln r) (hG1 : (sGap (sNeed σ nr w kd sa ln) nr kd sa ln 200).1 = le) (hG2 : (sGap (sNeed σ nr w kd sa ln) nr kd sa ln 200).2.2 = g) (hle : le ≤ 1500) (hI : I (cStart g)) (hIt : ∀ τ, I τ → xgC τ = c) (hTk : ∀ τ x, I τ → xM l G yX0_take cX0_take 6 (Option.none : Option Jvm.ClassFile.FieldType) 5 129 [.ref (G.2.1 6), .int x, .ref (G.2.1 c), .ref (G.2.1 3)] τ (fun r t => r = none ∧ Tk τ x t ∧ I t)) : xM l G yX8_trim cX8_trim 4 (Option.some Jvm.ClassFile.FieldType.int) 6 154 [.ref (G.2.1 0), .int (nI w)] σ (fun r t => xTks Tk (fun u i => xgI u 7 i) (cStart g) le t ∧ I t ∧ r = some (.int (xgI t 8 3))) := by
  refine xM.of (by decide) (Nat.le_of_ble_eq_true rfl) (fun pp ee ss mm aa bel met kk X => ?_)
  have X : xC pp ss mm met kk cX8_trim 4 RX8 (Option.some Jvm.ClassFile.FieldType.int) G := X
  show xW pp l ee { frames := 6, cells := 0, slots := 0, locals := 154 } ss mm aa bel met kk 4 G 0 0 (xQ bel G (fun r t => xTks Tk (fun u i => xgI u 7 i) (cStart g) le t ∧ I t ∧ r = some (.int (xgI t 8 3))) aa ss) 0 [(0, .ref (G.2.1 0)), (1, .int (nI w))] [] σ
  refine x_aload_n X dX8_trim_0 rfl ?_
  refine x_iload_n X dX8_trim_1 rfl ?_
  refine cv_X8_141 X (c_X8_demandRow hr hrc hw) dX8_trim_2 rfl ⟨by decide, by decide, by decide, by decide⟩ rfl rfl (Nat.le_of_ble_eq_true rfl) (xk_v ?_)
  refine x_aload_n X dX8_trim_5 rfl ?_
  refine gf_X8_26 (k' := 6) X dX8_trim_6 rfl rfl ?_
  refine x_iload_n X dX8_trim_9 rfl ?_
  refine cv_X8_214 X (c_X0_closeGaps hr hrc hra hw h0 h1) dX8_trim_10 rfl ⟨by decide, by decide, by decide, by decide⟩ rfl rfl (Nat.le_of_ble_eq_true rfl) (xk_i ?_)
  rw [hG1, hG2]
  refine x_istore_n (lv' := [(2, .int (nI le)), (0, .ref (G.2.1 0)), (1, .int (nI w))]) X dX8_trim_13 rfl (by decide) rfl ?_
  refine x_aload_n X dX8_trim_14 rfl ?_
  refine gf_X8_26 (k' := 6) X dX8_trim_15 rfl rfl ?_
  refine cv_X8_110 X c_X0_start dX8_trim_18 rfl ⟨by decide, by decide, by decide, by decide⟩ rfl rfl (Nat.le_of_ble_eq_true rfl) (xk_v ?_)
  refine x_iconst (v := 0) X dX8_trim_21 (by decide) ?_
  refine x_istore_n (lv' := [(3, .int 0), (2, .int (nI le)), (0, .ref (G.2.1 0)), (1, .int (nI w))]) X dX8_trim_22 rfl (by decide) rfl ?_
  have lp23 : ∀ (NN23 : Nat) (n : Nat) (hn : n ≤ le) (τ : xS) (hi : I τ) (ht : xTks Tk (fun u i => xgI u 7 i) (cStart g) n τ), le - n = NN23 → xW pp l ee { frames := 6, cells := 0, slots := 0, locals := 154 } ss mm aa bel met kk 4 G 0 0 (xQ bel G (fun r t => xTks Tk (fun u i => xgI u 7 i) (cStart g) le t ∧ I t ∧ r = some (.int (xgI t 8 3))) aa ss) 23 [(3, .int (nI n)), (2, .int (nI le)), (1, .int (nI w)), (0, .ref (G.2.1 0))] [] (τ) := by
    intro NN23
    induction NN23 using Nat.strongRecOn with
    | ind NN23 ih23 =>
      intro n hn τ hi ht hNN23
      refine x_iload_n X dX8_trim_23 rfl ?_
      refine x_iload_n X dX8_trim_24 rfl ?_
      refine x_icmpge (tgt := 57) X dX8_trim_25 (by decide) (fun h25 => ?_) (fun h25 => ?_)
      · skip
        rw [xb_ge (x := nI n) (y := nI le) (a := n) (b := le) rfl rfl (by omega) (by omega)] at h25
        obtain rfl : n = le := by omega
        refine x_aload_n X dX8_trim_57 rfl ?_
        refine gf_X8_26 (k' := 6) X dX8_trim_58 rfl rfl ?_
        refine gf_X8_126 (k' := 8) X dX8_trim_61 rfl rfl ?_
        refine gf_X8_130 X dX8_trim_64 rfl ?_
        exact x_iret X dX8_trim_67 (⟨ht, hi, rfl⟩)
      · skip
        rw [xb_ge (x := nI n) (y := nI le) (a := n) (b := le) rfl rfl (by omega) (by omega)] at h25
        refine x_aload_n X dX8_trim_28 rfl ?_
        refine gf_X8_26 (k' := 6) X dX8_trim_29 rfl rfl ?_
        refine x_aload_n X dX8_trim_32 rfl ?_
        refine gf_X8_26 (k' := 6) X dX8_trim_33 rfl rfl ?_
        refine x_iload_n X dX8_trim_36 rfl ?_
        refine cv_X8_217 X (c_X0_numberAt (by omega)) dX8_trim_37 rfl ⟨by decide, by decide, by decide, by decide⟩ rfl rfl (Nat.le_of_ble_eq_true rfl) (xk_i ?_)
        refine x_aload_n X dX8_trim_40 rfl ?_
        refine gf_X8_33 (k' := c) X dX8_trim_41 rfl (hIt τ hi) ?_
        refine x_aload_n X dX8_trim_44 rfl ?_
        refine gf_X8_19 (k' := 3) X dX8_trim_45 rfl rfl ?_
        refine cv_X8_119 X (hTk τ _ hi) dX8_trim_48 rfl ⟨by decide, by decide, by decide, by decide⟩ rfl rfl (Nat.le_of_ble_eq_true rfl) (fun r0 u hpo => ?_)
        obtain ⟨rfl, hpo1, hpo2⟩ := hpo
        refine x_iinc (k := 0) (v := nI (n + 1)) (lv' := [(3, .int (nI (n + 1))), (2, .int (nI le)), (1, .int (nI w)), (0, .ref (G.2.1 0))]) X dX8_trim_51 rfl (xn_inc _) (by decide) rfl ?_
        refine x_goto (tgt := 23) X dX8_trim_54 (by decide) ?_
        refine x_pick [0, 1, 2, 3] rfl ?_
        exact ih23 _ (by omega) (n + 1) (by omega) u hpo2 ⟨τ, ht, hpo1⟩ rfl
  refine x_pick [0, 1, 3, 2] rfl ?_
  exact lp23 _ 0 (by omega) _ hI rfl rfl
