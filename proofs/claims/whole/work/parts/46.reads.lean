set_option maxHeartbeats 4000000 in
set_option maxRecDepth 100000 in
theorem c_X8_readI {l : Launch} {G : xG} {σ : xS} {c z : Nat} {I : Nat → xS → Prop} (hm : xMod c) (hg : ¬ xgI σ 6 2 = 0) (hz : z ≤ 1000) (hs : xgI σ 1 1 = nI z) (hI : I 0 σ) (hIt : ∀ k τ, I k τ → (∀ b, xgI τ 1 b = xgI σ 1 b) ∧ (∀ b, xgI τ 2 b = xgI σ 2 b) ∧ xgC τ = c) (hTk : ∀ k τ, k < z → I k τ → xM l G yX0_take cX0_take 6 (Option.none : Option Jvm.ClassFile.FieldType) 5 129 [.ref (G.2.1 6), .int (tAt τ (nI k)), .ref (G.2.1 c), .ref (G.2.1 3)] τ (fun r t => r = none ∧ I (k + 1) t)) : xM l G yX8_read cX8_read 2 (Option.some Jvm.ClassFile.FieldType.int) 6 154 [.ref (G.2.1 0)] σ (fun r t => ∃ u, I z u ∧ r = some (.int (if xgI u 6 3 = 0 then xgI u 8 3 else -10 - xgI u 6 3)) ∧ t = xsI u 1 1 0) := by
  refine xM.of (by decide) (Nat.le_of_ble_eq_true rfl) (fun pp ee ss mm aa bel met kk X => ?_)
  have X : xC pp ss mm met kk cX8_read 2 RX8 (Option.some Jvm.ClassFile.FieldType.int) G := X
  show xW pp l ee { frames := 6, cells := 0, slots := 0, locals := 154 } ss mm aa bel met kk 2 G 0 0 (xQ bel G (fun r t => ∃ u, I z u ∧ r = some (.int (if xgI u 6 3 = 0 then xgI u 8 3 else -10 - xgI u 6 3)) ∧ t = xsI u 1 1 0) aa ss) 0 [(0, .ref (G.2.1 0))] [] σ
  refine x_aload_n X dX8_read_0 rfl ?_
  refine gf_X8_26 (k' := 6) X dX8_read_1 rfl rfl ?_
  refine gf_X8_113 X dX8_read_4 rfl ?_
  refine x_ifne (tgt := 20) X dX8_read_7 (by decide) (fun h7 => ?_) (fun h7 => ?_)
  · skip
    refine x_iconst (v := 0) X dX8_read_20 (by decide) ?_
    refine x_istore_n (lv' := [(1, .int 0), (0, .ref (G.2.1 0))]) X dX8_read_21 rfl (by decide) rfl ?_
    have lp22 : ∀ (NN22 : Nat) (n : Nat) (hn : n ≤ z) (τ : xS) (hi : I n τ), z - n = NN22 → xW pp l ee { frames := 6, cells := 0, slots := 0, locals := 154 } ss mm aa bel met kk 2 G 0 0 (xQ bel G (fun r t => ∃ u, I z u ∧ r = some (.int (if xgI u 6 3 = 0 then xgI u 8 3 else -10 - xgI u 6 3)) ∧ t = xsI u 1 1 0) aa ss) 22 [(1, .int (nI n)), (0, .ref (G.2.1 0))] [] (τ) := by
      intro NN22
      induction NN22 using Nat.strongRecOn with
      | ind NN22 ih22 =>
        intro n hn τ hi hNN22
        refine x_iload_n X dX8_read_22 rfl ?_
        refine x_aload_n X dX8_read_23 rfl ?_
        refine gf_X8_12 (k' := 1) X dX8_read_24 rfl rfl ?_
        refine gf_X8_48 X dX8_read_27 rfl ?_
        rw [(hIt n τ hi).1 1, hs]
        refine x_icmpge (tgt := 62) X dX8_read_30 (by decide) (fun h30 => ?_) (fun h30 => ?_)
        · skip
          rw [xb_ge (x := nI n) (y := nI z) (a := n) (b := z) rfl rfl (by omega) (by omega)] at h30
          obtain rfl : n = z := by omega
          refine x_aload_n X dX8_read_62 rfl ?_
          refine gf_X8_12 (k' := 1) X dX8_read_63 rfl rfl ?_
          refine cv_X8_52 X c_X7_clear dX8_read_66 rfl ⟨by decide, by decide, by decide, by decide⟩ rfl rfl (Nat.le_of_ble_eq_true rfl) (xk_v ?_)
          refine x_aload_n X dX8_read_69 rfl ?_
          refine gf_X8_26 (k' := 6) X dX8_read_70 rfl rfl ?_
          refine gf_X8_123 X dX8_read_73 rfl ?_
          rw [xgI_n (by omega)]
          refine x_ifeq (tgt := 90) X dX8_read_76 (by decide) (fun h76 => ?_) (fun h76 => ?_)
          · skip
            refine x_aload_n X dX8_read_90 rfl ?_
            refine gf_X8_26 (k' := 6) X dX8_read_91 rfl rfl ?_
            refine gf_X8_126 (k' := 8) X dX8_read_94 rfl rfl ?_
            refine gf_X8_130 X dX8_read_97 rfl ?_
            rw [xgI_n (by omega)]
            exact x_iret X dX8_read_100 (⟨τ, hi, by rw [if_pos h76], rfl⟩)
          · skip
            refine x_bipush (v := (-10)) X dX8_read_79 (by decide) ?_
            refine x_aload_n X dX8_read_81 rfl ?_
            refine gf_X8_26 (k' := 6) X dX8_read_82 rfl rfl ?_
            refine gf_X8_123 X dX8_read_85 rfl ?_
            rw [xgI_n (by omega)]
            refine x_isub X dX8_read_88 ?_
            exact x_iret X dX8_read_89 (⟨τ, hi, by rw [if_neg h76], rfl⟩)
        · skip
          rw [xb_ge (x := nI n) (y := nI z) (a := n) (b := z) rfl rfl (by omega) (by omega)] at h30
          refine x_aload_n X dX8_read_33 rfl ?_
          refine gf_X8_26 (k' := 6) X dX8_read_34 rfl rfl ?_
          refine x_aload_n X dX8_read_37 rfl ?_
          refine gf_X8_12 (k' := 1) X dX8_read_38 rfl rfl ?_
          refine x_iload_n X dX8_read_41 rfl ?_
          refine cv_X8_116 X c_X7_at dX8_read_42 rfl ⟨by decide, by decide, by decide, by decide⟩ rfl rfl (Nat.le_of_ble_eq_true rfl) (xk_i ?_)
          refine x_aload_n X dX8_read_45 rfl ?_
          refine gf_X8_33 (k' := c) X dX8_read_46 rfl (hIt n τ hi).2.2 ?_
          refine x_aload_n X dX8_read_49 rfl ?_
          refine gf_X8_19 (k' := 3) X dX8_read_50 rfl rfl ?_
          refine cv_X8_119 X (hTk n τ (by omega) hi) dX8_read_53 rfl ⟨by decide, by decide, by decide, by decide⟩ rfl rfl (Nat.le_of_ble_eq_true rfl) (fun r0 u hpo => ?_)
          obtain ⟨rfl, hpo2⟩ := hpo
          refine x_iinc (k := 0) (v := nI (n + 1)) (lv' := [(1, .int (nI (n + 1))), (0, .ref (G.2.1 0))]) X dX8_read_56 rfl (xn_inc _) (by decide) rfl ?_
          refine x_goto (tgt := 22) X dX8_read_59 (by decide) ?_
          refine x_pick [0, 1] rfl ?_
          exact ih22 _ (by omega) (n + 1) (by omega) u hpo2 rfl
    refine x_pick [0, 1] rfl ?_
    exact lp22 _ 0 (by omega) σ hI rfl
  · skip
    exact absurd h7 hg

set_option maxHeartbeats 4000000 in
set_option maxRecDepth 100000 in
theorem c_X8_trimI {l : Launch} {G : xG} {σ g : xS} {c nr w le : Nat} {kd sa ln : Nat → Nat} {I : Nat → xS → Prop} (hm : xMod c) (hr : nr ≤ 200) (hrc : xgI σ 8 3 = nI nr) (hw : w < nr) (hra : rowsAt σ nr kd sa ln) (h0 : 0 < nr → sa 0 = 1) (h1 : ∀ r, r + 1 < nr → sa (r + 1) = sa r + ln r) (hG1 : (sGap (sNeed σ nr w kd sa ln) nr kd sa ln 200).1 = le) (hG2 : (sGap (sNeed σ nr w kd sa ln) nr kd sa ln 200).2.2 = g) (hle : le ≤ 1500) (hI : I 0 (cStart g)) (hIt : ∀ k τ, I k τ → xgC τ = c) (hTk : ∀ k τ, k < le → I k τ → xM l G yX0_take cX0_take 6 (Option.none : Option Jvm.ClassFile.FieldType) 5 129 [.ref (G.2.1 6), .int (xgI τ 7 k), .ref (G.2.1 c), .ref (G.2.1 3)] τ (fun r t => r = none ∧ I (k + 1) t)) : xM l G yX8_trim cX8_trim 4 (Option.some Jvm.ClassFile.FieldType.int) 6 154 [.ref (G.2.1 0), .int (nI w)] σ (fun r t => I le t ∧ r = some (.int (xgI t 8 3))) := by
  refine xM.of (by decide) (Nat.le_of_ble_eq_true rfl) (fun pp ee ss mm aa bel met kk X => ?_)
  have X : xC pp ss mm met kk cX8_trim 4 RX8 (Option.some Jvm.ClassFile.FieldType.int) G := X
  show xW pp l ee { frames := 6, cells := 0, slots := 0, locals := 154 } ss mm aa bel met kk 4 G 0 0 (xQ bel G (fun r t => I le t ∧ r = some (.int (xgI t 8 3))) aa ss) 0 [(0, .ref (G.2.1 0)), (1, .int (nI w))] [] σ
  refine x_aload_n X dX8_trim_0 rfl ?_
  refine x_iload_n X dX8_trim_1 rfl ?_
  refine cv_X8_141 X (c_X8_demandRow hr hrc hw) dX8_trim_2 rfl ⟨by decide, by decide, by decide, by decide⟩ rfl rfl (Nat.le_of_ble_eq_true rfl) (xk_v ?_)
  refine x_aload_n X dX8_trim_5 rfl ?_
  refine gf_X8_26 (k' := 6) X dX8_trim_6 rfl rfl ?_
  refine x_iload_n X dX8_trim_9 rfl ?_
  refine cv_X8_214 X (c_X0_closeGaps hr hrc hra hw h0 h1) dX8_trim_10 rfl ⟨by decide, by decide, by decide, by decide⟩ rfl rfl (Nat.le_of_ble_eq_true rfl) (xk_i ?_)
  rw [hG1, hG2]
  refine x_istore_n (lv' := [(2, .int (nI le)), (0, .ref (G.2.1 0)), (1, .int (nI w))]) X dX8_trim_13 rfl (by decide) rfl ?_
  refine x_aload_n X dX8_trim_14 rfl ?_
  refine gf_X8_26 (k' := 6) X dX8_trim_15 rfl rfl ?_
  refine cv_X8_110 X c_X0_start dX8_trim_18 rfl ⟨by decide, by decide, by decide, by decide⟩ rfl rfl (Nat.le_of_ble_eq_true rfl) (xk_v ?_)
  refine x_iconst (v := 0) X dX8_trim_21 (by decide) ?_
  refine x_istore_n (lv' := [(3, .int 0), (2, .int (nI le)), (0, .ref (G.2.1 0)), (1, .int (nI w))]) X dX8_trim_22 rfl (by decide) rfl ?_
  have lp23 : ∀ (NN23 : Nat) (n : Nat) (hn : n ≤ le) (τ : xS) (hi : I n τ), le - n = NN23 → xW pp l ee { frames := 6, cells := 0, slots := 0, locals := 154 } ss mm aa bel met kk 4 G 0 0 (xQ bel G (fun r t => I le t ∧ r = some (.int (xgI t 8 3))) aa ss) 23 [(3, .int (nI n)), (2, .int (nI le)), (1, .int (nI w)), (0, .ref (G.2.1 0))] [] (τ) := by
    intro NN23
    induction NN23 using Nat.strongRecOn with
    | ind NN23 ih23 =>
      intro n hn τ hi hNN23
      refine x_iload_n X dX8_trim_23 rfl ?_
      refine x_iload_n X dX8_trim_24 rfl ?_
      refine x_icmpge (tgt := 57) X dX8_trim_25 (by decide) (fun h25 => ?_) (fun h25 => ?_)
      · skip
        rw [xb_ge (x := nI n) (y := nI le) (a := n) (b := le) rfl rfl (by omega) (by omega)] at h25
        obtain rfl : n = le := by omega
        refine x_aload_n X dX8_trim_57 rfl ?_
        refine gf_X8_26 (k' := 6) X dX8_trim_58 rfl rfl ?_
        refine gf_X8_126 (k' := 8) X dX8_trim_61 rfl rfl ?_
        refine gf_X8_130 X dX8_trim_64 rfl ?_
        exact x_iret X dX8_trim_67 (⟨hi, rfl⟩)
      · skip
        rw [xb_ge (x := nI n) (y := nI le) (a := n) (b := le) rfl rfl (by omega) (by omega)] at h25
        refine x_aload_n X dX8_trim_28 rfl ?_
        refine gf_X8_26 (k' := 6) X dX8_trim_29 rfl rfl ?_
        refine x_aload_n X dX8_trim_32 rfl ?_
        refine gf_X8_26 (k' := 6) X dX8_trim_33 rfl rfl ?_
        refine x_iload_n X dX8_trim_36 rfl ?_
        refine cv_X8_217 X (c_X0_numberAt (by omega)) dX8_trim_37 rfl ⟨by decide, by decide, by decide, by decide⟩ rfl rfl (Nat.le_of_ble_eq_true rfl) (xk_i ?_)
        refine x_aload_n X dX8_trim_40 rfl ?_
        refine gf_X8_33 (k' := c) X dX8_trim_41 rfl (hIt n τ hi) ?_
        refine x_aload_n X dX8_trim_44 rfl ?_
        refine gf_X8_19 (k' := 3) X dX8_trim_45 rfl rfl ?_
        refine cv_X8_119 X (hTk n τ (by omega) hi) dX8_trim_48 rfl ⟨by decide, by decide, by decide, by decide⟩ rfl rfl (Nat.le_of_ble_eq_true rfl) (fun r0 u hpo => ?_)
        obtain ⟨rfl, hpo2⟩ := hpo
        refine x_iinc (k := 0) (v := nI (n + 1)) (lv' := [(3, .int (nI (n + 1))), (2, .int (nI le)), (1, .int (nI w)), (0, .ref (G.2.1 0))]) X dX8_trim_51 rfl (xn_inc _) (by decide) rfl ?_
        refine x_goto (tgt := 23) X dX8_trim_54 (by decide) ?_
        refine x_pick [0, 1, 2, 3] rfl ?_
        exact ih23 _ (by omega) (n + 1) (by omega) u hpo2 rfl
  refine x_pick [0, 1, 3, 2] rfl ?_
  exact lp23 _ 0 (by omega) _ hI rfl

set_option maxHeartbeats 4000000 in
set_option maxRecDepth 100000 in
theorem c_X9_readI {l : Launch} {G : xG} {σ : xS} {z : Nat} {I : Nat → xS → Prop} (hg : ¬ xgI σ 37 19 = 0) (hz : xgI σ 37 2 = nI z) (hz2 : z ≤ 1000) (hI : I 0 (qPz σ)) (hIt : ∀ k τ, I k τ → ∀ b, xgI τ 38 b = xgI σ 38 b) (hTk : ∀ k τ, k < z → I k τ → xgI τ 37 22 = 0 → xM l G yX9_take cX9_take 3 (Option.none : Option Jvm.ClassFile.FieldType) 3 80 [.ref (G.2.1 37), .int (xgI σ 38 k)] τ (fun r t => r = none ∧ I (k + 1) t)) : xM l G yX9_read cX9_read 3 (Option.some Jvm.ClassFile.FieldType.int) 4 102 [.ref (G.2.1 37)] σ (fun r t => ∃ n, n ≤ z ∧ I n t ∧ (n = z ∨ ¬ xgI t 37 22 = 0) ∧ r = some (.int (if xgI t 37 22 = 0 then xgI t 37 26 else -10 - xgI t 37 22))) := by
  refine xM.of (by decide) (Nat.le_of_ble_eq_true rfl) (fun pp ee ss mm aa bel met kk X => ?_)
  have X : xC pp ss mm met kk cX9_read 3 RX9 (Option.some Jvm.ClassFile.FieldType.int) G := X
  show xW pp l ee { frames := 4, cells := 0, slots := 0, locals := 102 } ss mm aa bel met kk 3 G 0 0 (xQ bel G (fun r t => ∃ n, n ≤ z ∧ I n t ∧ (n = z ∨ ¬ xgI t 37 22 = 0) ∧ r = some (.int (if xgI t 37 22 = 0 then xgI t 37 26 else -10 - xgI t 37 22))) aa ss) 0 [(0, .ref (G.2.1 37))] [] σ
  refine x_aload_n X dX9_read_0 rfl ?_
  refine x_iconst (v := nI 0) X dX9_read_1 (by decide) ?_
  refine pf_X9_86 X dX9_read_2 rfl ?_
  refine x_aload_n X dX9_read_5 rfl ?_
  refine gf_X9_93 X dX9_read_6 rfl ?_
  rw [xgI_n (by decide), hz]
  refine x_istore_n (lv' := [(1, .int (nI z)), (0, .ref (G.2.1 37))]) X dX9_read_9 rfl (by decide) rfl ?_
  refine x_aload_n X dX9_read_10 rfl ?_
  refine x_iconst (v := nI 0) X dX9_read_11 (by decide) ?_
  refine pf_X9_93 X dX9_read_12 rfl ?_
  refine x_aload_n X dX9_read_15 rfl ?_
  refine gf_X9_133 X dX9_read_16 rfl ?_
  rw [show xgI (xsI (xsI σ 37 0 (nI 0)) 37 2 (nI 0)) 37 19 = xgI σ 37 19 from rfl]
  refine x_ifne (tgt := 25) X dX9_read_19 (by decide) (fun h19 => ?_) (fun h19 => ?_)
  · skip
    refine x_iconst (v := nI 0) X dX9_read_25 (by decide) ?_
    refine x_istore_n (lv' := [(2, .int (nI 0)), (1, .int (nI z)), (0, .ref (G.2.1 37))]) X dX9_read_26 rfl (by decide) rfl ?_
    have lp27 : ∀ (NN27 : Nat) (n : Nat) (hn : n ≤ z) (τ : xS) (hi : I n τ), z - n = NN27 → xW pp l ee { frames := 4, cells := 0, slots := 0, locals := 102 } ss mm aa bel met kk 3 G 0 0 (xQ bel G (fun r t => ∃ n, n ≤ z ∧ I n t ∧ (n = z ∨ ¬ xgI t 37 22 = 0) ∧ r = some (.int (if xgI t 37 22 = 0 then xgI t 37 26 else -10 - xgI t 37 22))) aa ss) 27 [(2, .int (nI n)), (1, .int (nI z)), (0, .ref (G.2.1 37))] [] (τ) := by
      intro NN27
      induction NN27 using Nat.strongRecOn with
      | ind NN27 ih27 =>
        intro n hn τ hi hNN27
        refine x_iload_n X dX9_read_27 rfl ?_
        refine x_iload_n X dX9_read_28 rfl ?_
        refine x_icmpge (tgt := 55) X dX9_read_29 (by decide) (fun h29 => ?_) (fun h29 => ?_)
        · skip
          rw [xb_ge (x := nI n) (y := nI z) (a := n) (b := z) rfl rfl (by omega) (by omega)] at h29
          have hend : n = z ∨ ¬ xgI τ 37 22 = 0 := Or.inl (by omega)
          refine x_aload_n X dX9_read_55 rfl ?_
          refine gf_X9_139 X dX9_read_56 rfl ?_
          refine x_ifne (tgt := 69) X dX9_read_59 (by decide) (fun h59 => ?_) (fun h59 => ?_)
          · skip
            refine x_bipush (v := (-10)) X dX9_read_69 (by decide) ?_
            refine x_aload_n X dX9_read_71 rfl ?_
            refine gf_X9_139 X dX9_read_72 rfl ?_
            refine x_isub X dX9_read_75 ?_
            exact x_iret X dX9_read_76 (by first | exact ⟨n, hn, hi, hend, by rw [if_pos h59]⟩ | exact ⟨n, hn, hi, hend, by rw [if_neg h59]⟩)
          · skip
            refine x_aload_n X dX9_read_62 rfl ?_
            refine gf_X9_145 X dX9_read_63 rfl ?_
            refine x_goto (tgt := 76) X dX9_read_66 (by decide) ?_
            exact x_iret X dX9_read_76 (by first | exact ⟨n, hn, hi, hend, by rw [if_pos h59]⟩ | exact ⟨n, hn, hi, hend, by rw [if_neg h59]⟩)
        · skip
          rw [xb_ge (x := nI n) (y := nI z) (a := n) (b := z) rfl rfl (by omega) (by omega)] at h29
          refine x_aload_n X dX9_read_32 rfl ?_
          refine gf_X9_139 X dX9_read_33 rfl ?_
          refine x_ifne (tgt := 55) X dX9_read_36 (by decide) (fun h36 => ?_) (fun h36 => ?_)
          · skip
            have hend : n = z ∨ ¬ xgI τ 37 22 = 0 := Or.inr h36
            refine x_aload_n X dX9_read_55 rfl ?_
            refine gf_X9_139 X dX9_read_56 rfl ?_
            refine x_ifne (tgt := 69) X dX9_read_59 (by decide) (fun h59 => ?_) (fun h59 => ?_)
            · skip
              refine x_bipush (v := (-10)) X dX9_read_69 (by decide) ?_
              refine x_aload_n X dX9_read_71 rfl ?_
              refine gf_X9_139 X dX9_read_72 rfl ?_
              refine x_isub X dX9_read_75 ?_
              exact x_iret X dX9_read_76 (by first | exact ⟨n, hn, hi, hend, by rw [if_pos h59]⟩ | exact ⟨n, hn, hi, hend, by rw [if_neg h59]⟩)
            · skip
              refine x_aload_n X dX9_read_62 rfl ?_
              refine gf_X9_145 X dX9_read_63 rfl ?_
              refine x_goto (tgt := 76) X dX9_read_66 (by decide) ?_
              exact x_iret X dX9_read_76 (by first | exact ⟨n, hn, hi, hend, by rw [if_pos h59]⟩ | exact ⟨n, hn, hi, hend, by rw [if_neg h59]⟩)
          · skip
            refine x_aload_n X dX9_read_39 rfl ?_
            refine x_aload_n X dX9_read_40 rfl ?_
            refine gf_X9_7 (k' := 38) X dX9_read_41 rfl rfl ?_
            refine x_iload_n X dX9_read_44 rfl ?_
            refine x_ialdN X dX9_read_45 rfl (by omega) (by omega) ?_
            rw [hIt n τ hi]
            refine cv_X9_165 X (hTk n τ (by omega) hi h36) dX9_read_46 rfl ⟨by decide, by decide, by decide, by decide⟩ rfl rfl (Nat.le_of_ble_eq_true rfl) (fun r0 u hpo => ?_)
            obtain ⟨rfl, hpo2⟩ := hpo
            refine x_iinc (k := 0) (v := nI (n + 1)) (lv' := [(2, .int (nI (n + 1))), (1, .int (nI z)), (0, .ref (G.2.1 37))]) X dX9_read_49 rfl (xn_inc _) (by decide) rfl ?_
            refine x_goto (tgt := 27) X dX9_read_52 (by decide) ?_
            refine x_pick [0, 1, 2] rfl ?_
            exact ih27 _ (by omega) (n + 1) (by omega) u hpo2 rfl
    refine x_pick [0, 1, 2] rfl ?_
    exact lp27 _ 0 (by omega) _ hI rfl
  · skip
    exact absurd h19 hg
