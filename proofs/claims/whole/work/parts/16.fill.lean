/-! Model: fillFrom -/
def mS1 (σ : xS) (c : Nat) : xS := tPut (tRew σ) 1 8 c 0
def mV (σ : xS) (c : Nat) : Nat := (xgI (mS1 σ c) c 0).toNatClampNeg
def mS2 (σ : xS) (c : Nat) : xS := mVs (mS1 σ c) c (mV σ c) 8
def mS3 (σ : xS) (c : Nat) : xS := tPut (mS2 σ c) 0 20 c 1
def mR (σ : xS) (c : Nat) : Nat := (xgI (mS3 σ c) c 1).toNatClampNeg
def mS4 (σ : xS) (c : Nat) : xS := mRs (mS3 σ c) c (mV σ c) (mR σ c)
def mS5 (σ : xS) (c : Nat) : xS := tPut (mS4 σ c) 0 4 c 2
def mT (σ : xS) (c : Nat) : Nat := (xgI (mS5 σ c) c 2).toNatClampNeg
def mS6 (σ : xS) (c : Nat) : xS := mTs (mS5 σ c) c (mV σ c) (mT σ c)
def mS7 (σ : xS) (c z : Nat) : xS := xsI (mS6 σ c) c 3 (tDig (mS6 σ c) z)
theorem mV_ok (σ : xS) (c : Nat) : 1 ≤ mV σ c ∧ mV σ c ≤ 8 ∧ xgI (mS1 σ c) c 0 = nI (mV σ c) := by
  obtain ⟨n, h1, h2, h3⟩ := @tNext_nat (tRew σ) 1 8 (by omega) (by omega)
  have h4 : xgI (mS1 σ c) c 0 = nI n := tPut_s.trans h3
  have h5 : mV σ c = n := by unfold mV; rw [h4, nI_clamp (by omega)]
  rw [h5]
  exact ⟨h1, h2, h4⟩
theorem mR_ok (σ : xS) (c : Nat) : mR σ c ≤ 20 ∧ xgI (mS3 σ c) c 1 = nI (mR σ c) := by
  obtain ⟨n, h1, h2, h3⟩ := @tNext_nat (mS2 σ c) 0 20 (by omega) (by omega)
  have h4 : xgI (mS3 σ c) c 1 = nI n := tPut_s.trans h3
  have h5 : mR σ c = n := by unfold mR; rw [h4, nI_clamp (by omega)]
  rw [h5]
  exact ⟨h2, h4⟩
theorem mT_ok (σ : xS) (c : Nat) : mT σ c ≤ 4 ∧ xgI (mS5 σ c) c 2 = nI (mT σ c) := by
  obtain ⟨n, h1, h2, h3⟩ := @tNext_nat (mS4 σ c) 0 4 (by omega) (by omega)
  have h4 : xgI (mS5 σ c) c 2 = nI n := tPut_s.trans h3
  have h5 : mT σ c = n := by unfold mT; rw [h4, nI_clamp (by omega)]
  rw [h5]
  exact ⟨h2, h4⟩
theorem mVs_V {σ : xS} {c : Nat} (hm : xMod c) (n : Nat) : xgI (mVs (mS1 σ c) c (mV σ c) n) c 0 = nI (mV σ c) := by
  rw [mVs_o 0 (by have := mC_b hm; omega) (by omega) (by omega) (by omega), (mV_ok σ c).2.2]
theorem mS3_V {σ : xS} {c : Nat} (hm : xMod c) : xgI (mS3 σ c) c 0 = nI (mV σ c) := (tPut_o 0 (by have := mC_b hm; omega) (by omega)).trans (mVs_V hm 8)
theorem mRs_V {σ : xS} {c : Nat} (hm : xMod c) (n : Nat) (hn : n ≤ 20) : xgI (mRs (mS3 σ c) c (mV σ c) n) c 0 = nI (mV σ c) := by
  rw [mRs_o 0 (by have := mC_b hm; omega) (by have := mC_b hm; have := mF_b hm; omega) (by omega) n hn, mS3_V hm]
theorem mRs_R {σ : xS} {c : Nat} (hm : xMod c) (n : Nat) (hn : n ≤ 20) : xgI (mRs (mS3 σ c) c (mV σ c) n) c 1 = nI (mR σ c) := by
  rw [mRs_o 1 (by have := mC_b hm; omega) (by have := mC_b hm; have := mF_b hm; omega) (by omega) n hn, (mR_ok σ c).2]
theorem mFs_V {σ : xS} {c : Nat} (hm : xMod c) (r n : Nat) (hr : r < 20) : xgI (mFs (mRs (mS3 σ c) c (mV σ c) r) c (mV σ c) r n) c 0 = nI (mV σ c) := by
  rw [mFs_o 0 (by have := mC_b hm; omega) (by have := mC_b hm; have := mF_b hm; omega), mRs_V hm r (by omega)]
theorem mS5_V {σ : xS} {c : Nat} (hm : xMod c) : xgI (mS5 σ c) c 0 = nI (mV σ c) := (tPut_o 0 (by have := mC_b hm; omega) (by omega)).trans (mRs_V hm _ (mR_ok σ c).1)
theorem mTs_V {σ : xS} {c : Nat} (hm : xMod c) (n : Nat) (hn : n ≤ 4) : xgI (mTs (mS5 σ c) c (mV σ c) n) c 0 = nI (mV σ c) := by
  rw [mTs_o 0 (by have := mC_b hm; omega) (by omega) (by omega) (by omega) (by have := mC_b hm; have := mP_b hm; omega) (by have := mC_b hm; have := mQ_b hm; omega) n hn, mS5_V hm]
theorem mTs_T {σ : xS} {c : Nat} (hm : xMod c) (n : Nat) (hn : n ≤ 4) : xgI (mTs (mS5 σ c) c (mV σ c) n) c 2 = nI (mT σ c) := by
  rw [mTs_o 2 (by have := mC_b hm; omega) (by omega) (by omega) (by omega) (by have := mC_b hm; have := mP_b hm; omega) (by have := mC_b hm; have := mQ_b hm; omega) n hn, (mT_ok σ c).2]
theorem mS1_n {σ : xS} {c : Nat} (hm : xMod c) : xgI (mS1 σ c) 1 1 = xgI σ 1 1 := by
  unfold mS1 tRew
  rw [tPut_n (by have := mC_b hm; omega), xgI_n (by decide), xgI_n (by decide)]
theorem mS6_n {σ : xS} {c : Nat} (hm : xMod c) : xgI (mS6 σ c) 1 1 = xgI σ 1 1 := by
  have := mC_b hm
  have := mF_b hm
  have := mP_b hm
  have := mQ_b hm
  unfold mS6 mS5 mS4 mS3 mS2
  rw [mTs_n (by omega) (by omega), tPut_n (by omega), mRs_n (by omega), tPut_n (by omega), mVs_n (by omega), mS1_n hm]

set_option maxHeartbeats 4000000 in
set_option maxRecDepth 100000 in
theorem c_X2_fillFrom {l : Launch} {G : xG} {σ : xS} {c : Nat} (hm : xMod c) {z : Nat} (hz : z ≤ 1000) (hs : xgI σ 1 1 = nI z) : xFi l G yX2_fillFrom cX2_fillFrom 4 (Option.some Jvm.ClassFile.FieldType.boolean) 4 91 [.ref (G.2.1 c), .ref (G.2.1 1)] σ (tWhole (mS7 σ c z)) (mS7 σ c z) := by
  obtain ⟨hV1, hV8, hVV⟩ := mV_ok σ c
  obtain ⟨hR20, hRR⟩ := mR_ok σ c
  obtain ⟨hT4, hTT⟩ := mT_ok σ c
  refine xM.of (by decide) (Nat.le_of_ble_eq_true rfl) (fun pp ee ss mm aa bel met kk X => ?_)
  have X : xC pp ss mm met kk cX2_fillFrom 4 RX2 (Option.some Jvm.ClassFile.FieldType.boolean) G := X
  show xW pp l ee { frames := 4, cells := 0, slots := 0, locals := 91 } ss mm aa bel met kk 4 G 0 0 (xQ bel G (fun r t => r = some (.int (tWhole (mS7 σ c z))) ∧ t = (mS7 σ c z)) aa ss) 0 [(0, .ref (G.2.1 c)), (1, .ref (G.2.1 1))] [] σ
  refine x_aload_n X dX2_fillFrom_0 rfl ?_
  refine cv_X2_44 X c_X7_rewind dX2_fillFrom_1 rfl ⟨by decide, by decide, by decide, by decide⟩ rfl rfl (Nat.le_of_ble_eq_true rfl) (xk_v ?_)
  refine x_aload_n X dX2_fillFrom_4 rfl ?_
  refine x_aload_n X dX2_fillFrom_5 rfl ?_
  refine x_iconst (v := 1) X dX2_fillFrom_6 (by decide) ?_
  refine x_bipush (v := 8) X dX2_fillFrom_7 (by decide) ?_
  refine cv_X2_49 X c_X7_next dX2_fillFrom_9 rfl ⟨by decide, by decide, by decide, by decide⟩ rfl rfl (Nat.le_of_ble_eq_true rfl) (xk_i ?_)
  refine pf_X2_53 X dX2_fillFrom_12 (xk0 hm) ?_
  refine x_iconst (v := 0) X dX2_fillFrom_15 (by decide) ?_
  refine x_istore_n (lv' := [(2, .int 0), (0, .ref (G.2.1 c)), (1, .ref (G.2.1 1))]) X dX2_fillFrom_16 rfl (by decide) rfl ?_
  have lp17 : ∀ (NN17 : Nat) (n : Nat) (hn : n ≤ 8), 8 - n = NN17 → xW pp l ee { frames := 4, cells := 0, slots := 0, locals := 91 } ss mm aa bel met kk 4 G 0 0 (xQ bel G (fun r t => r = some (.int (tWhole (mS7 σ c z))) ∧ t = (mS7 σ c z)) aa ss) 17 [(2, .int (nI n)), (1, .ref (G.2.1 1)), (0, .ref (G.2.1 c))] [] (mVs (mS1 σ c) c (mV σ c) n) := by
    intro NN17
    induction NN17 using Nat.strongRecOn with
    | ind NN17 ih17 =>
      intro n hn hNN17
      refine x_iload_n X dX2_fillFrom_17 rfl ?_
      refine x_bipush (v := 8) X dX2_fillFrom_18 (by decide) ?_
      refine x_icmpge (tgt := 35) X dX2_fillFrom_20 (by decide) (fun h20 => ?_) (fun h20 => ?_)
      · skip
        rw [xb_ge (x := nI n) (y := 8) (a := n) (b := 8) rfl rfl (by omega) (by omega)] at h20
        obtain rfl : n = 8 := by omega
        refine x_aload_n X dX2_fillFrom_35 rfl ?_
        refine x_aload_n X dX2_fillFrom_36 rfl ?_
        refine x_iconst (v := 0) X dX2_fillFrom_37 (by decide) ?_
        refine x_bipush (v := 20) X dX2_fillFrom_38 (by decide) ?_
        refine cv_X2_49 X c_X7_next dX2_fillFrom_40 rfl ⟨by decide, by decide, by decide, by decide⟩ rfl rfl (Nat.le_of_ble_eq_true rfl) (xk_i ?_)
        refine pf_X2_61 X dX2_fillFrom_43 (xk0 hm) ?_
        refine x_iconst (v := 0) X dX2_fillFrom_46 (by decide) ?_
        refine x_istore_n (lv' := [(2, .int 0), (1, .ref (G.2.1 1)), (0, .ref (G.2.1 c))]) X dX2_fillFrom_47 rfl (by decide) rfl ?_
        have lp48 : ∀ (NN48 : Nat) (n : Nat) (hn : n ≤ mR σ c), mR σ c - n = NN48 → xW pp l ee { frames := 4, cells := 0, slots := 0, locals := 91 } ss mm aa bel met kk 4 G 0 0 (xQ bel G (fun r t => r = some (.int (tWhole (mS7 σ c z))) ∧ t = (mS7 σ c z)) aa ss) 48 [(2, .int (nI n)), (1, .ref (G.2.1 1)), (0, .ref (G.2.1 c))] [] (mRs (mS3 σ c) c (mV σ c) n) := by
          intro NN48
          induction NN48 using Nat.strongRecOn with
          | ind NN48 ih48 =>
            intro n hn hNN48
            refine x_iload_n X dX2_fillFrom_48 rfl ?_
            refine x_bipush (v := 20) X dX2_fillFrom_49 (by decide) ?_
            refine x_icmpge (tgt := 124) X dX2_fillFrom_51 (by decide) (fun h51 => ?_) (fun h51 => ?_)
            · skip
              rw [xb_ge (x := nI n) (y := 20) (a := n) (b := 20) rfl rfl (by omega) (by omega)] at h51
              obtain rfl : n = mR σ c := by omega
              refine x_aload_n X dX2_fillFrom_124 rfl ?_
              refine x_aload_n X dX2_fillFrom_125 rfl ?_
              refine x_iconst (v := 0) X dX2_fillFrom_126 (by decide) ?_
              refine x_iconst (v := 4) X dX2_fillFrom_127 (by decide) ?_
              refine cv_X2_49 X c_X7_next dX2_fillFrom_128 rfl ⟨by decide, by decide, by decide, by decide⟩ rfl rfl (Nat.le_of_ble_eq_true rfl) (xk_i ?_)
              refine pf_X2_66 X dX2_fillFrom_131 (xk0 hm) ?_
              refine x_iconst (v := 0) X dX2_fillFrom_134 (by decide) ?_
              refine x_istore_n (lv' := [(2, .int 0), (1, .ref (G.2.1 1)), (0, .ref (G.2.1 c))]) X dX2_fillFrom_135 rfl (by decide) rfl ?_
              have lp136 : ∀ (NN136 : Nat) (n : Nat) (hn : n ≤ mT σ c), mT σ c - n = NN136 → xW pp l ee { frames := 4, cells := 0, slots := 0, locals := 91 } ss mm aa bel met kk 4 G 0 0 (xQ bel G (fun r t => r = some (.int (tWhole (mS7 σ c z))) ∧ t = (mS7 σ c z)) aa ss) 136 [(2, .int (nI n)), (1, .ref (G.2.1 1)), (0, .ref (G.2.1 c))] [] (mTs (mS5 σ c) c (mV σ c) n) := by
                intro NN136
                induction NN136 using Nat.strongRecOn with
                | ind NN136 ih136 =>
                  intro n hn hNN136
                  refine x_iload_n X dX2_fillFrom_136 rfl ?_
                  refine x_iconst (v := 4) X dX2_fillFrom_137 (by decide) ?_
                  refine x_icmpge (tgt := 161) X dX2_fillFrom_138 (by decide) (fun h138 => ?_) (fun h138 => ?_)
                  · skip
                    rw [xb_ge (x := nI n) (y := 4) (a := n) (b := 4) rfl rfl (by omega) (by omega)] at h138
                    obtain rfl : n = mT σ c := by omega
                    refine x_aload_n X dX2_fillFrom_161 rfl ?_
                    refine x_aload_n X dX2_fillFrom_162 rfl ?_
                    refine cv_X2_72 X (c_X7_digestOfAll (z := z) (by omega) ((mS6_n hm).trans hs)) dX2_fillFrom_163 rfl ⟨by decide, by decide, by decide, by decide⟩ rfl rfl (Nat.le_of_ble_eq_true rfl) (xk_i ?_)
                    refine pf_X2_76 X dX2_fillFrom_166 (xk0 hm) ?_
                    refine x_aload_n X dX2_fillFrom_169 rfl ?_
                    refine cv_X2_79 X c_X7_isReadWhole dX2_fillFrom_170 rfl ⟨by decide, by decide, by decide, by decide⟩ rfl rfl (Nat.le_of_ble_eq_true rfl) (xk_i ?_)
                    exact x_zret X dX2_fillFrom_173 (by unfold tWhole; split <;> (try split) <;> simp) (xp_i (by first | rfl | simp [*]) (by first | rfl | simp [*]))
                  · skip
                    rw [xb_ge (x := nI n) (y := 4) (a := n) (b := 4) rfl rfl (by omega) (by omega)] at h138
                    refine x_iload_n X dX2_fillFrom_141 rfl ?_
                    refine x_aload_n X dX2_fillFrom_142 rfl ?_
                    refine gf_X2_66 X dX2_fillFrom_143 (xk0 hm) ?_
                    rw [mTs_T hm n (by omega)]
                    refine x_icmpge (tgt := 161) X dX2_fillFrom_146 (by decide) (fun h146 => ?_) (fun h146 => ?_)
                    · skip
                      rw [xb_ge (x := nI n) (y := nI (mT σ c)) (a := n) (b := (mT σ c)) rfl rfl (by omega) (by omega)] at h146
                      obtain rfl : n = mT σ c := by omega
                      refine x_aload_n X dX2_fillFrom_161 rfl ?_
                      refine x_aload_n X dX2_fillFrom_162 rfl ?_
                      refine cv_X2_72 X (c_X7_digestOfAll (z := z) (by omega) ((mS6_n hm).trans hs)) dX2_fillFrom_163 rfl ⟨by decide, by decide, by decide, by decide⟩ rfl rfl (Nat.le_of_ble_eq_true rfl) (xk_i ?_)
                      refine pf_X2_76 X dX2_fillFrom_166 (xk0 hm) ?_
                      refine x_aload_n X dX2_fillFrom_169 rfl ?_
                      refine cv_X2_79 X c_X7_isReadWhole dX2_fillFrom_170 rfl ⟨by decide, by decide, by decide, by decide⟩ rfl rfl (Nat.le_of_ble_eq_true rfl) (xk_i ?_)
                      exact x_zret X dX2_fillFrom_173 (by unfold tWhole; split <;> (try split) <;> simp) (xp_i (by first | rfl | simp [*]) (by first | rfl | simp [*]))
                    · skip
                      rw [xb_ge (x := nI n) (y := nI (mT σ c)) (a := n) (b := (mT σ c)) rfl rfl (by omega) (by omega)] at h146
                      refine x_aload_n X dX2_fillFrom_149 rfl ?_
                      refine x_aload_n X dX2_fillFrom_150 rfl ?_
                      refine x_iload_n X dX2_fillFrom_151 rfl ?_
                      refine cv_X2_69 X (c_X2_fillTable hm (mTs_V hm n (by omega)) hV8 (by omega)) dX2_fillFrom_152 (xk0 hm) ⟨by decide, by decide, by decide, by decide⟩ rfl rfl (Nat.le_of_ble_eq_true rfl) (xk_v ?_)
                      refine x_iinc (k := 0) (v := nI (n + 1)) (lv' := [(2, .int (nI (n + 1))), (1, .ref (G.2.1 1)), (0, .ref (G.2.1 c))]) X dX2_fillFrom_155 rfl (xn_inc _) (by decide) rfl ?_
                      refine x_goto (tgt := 136) X dX2_fillFrom_158 (by decide) ?_
                      refine x_pick [0, 1, 2] rfl ?_
                      exact ih136 _ (by omega) (n + 1) (by omega) rfl
              refine x_pick [0, 1, 2] rfl ?_
              exact lp136 _ 0 (by omega) rfl
            · skip
              rw [xb_ge (x := nI n) (y := 20) (a := n) (b := 20) rfl rfl (by omega) (by omega)] at h51
              refine x_iload_n X dX2_fillFrom_54 rfl ?_
              refine x_aload_n X dX2_fillFrom_55 rfl ?_
              refine gf_X2_61 X dX2_fillFrom_56 (xk0 hm) ?_
              rw [mRs_R hm n (by omega)]
              refine x_icmpge (tgt := 124) X dX2_fillFrom_59 (by decide) (fun h59 => ?_) (fun h59 => ?_)
              · skip
                rw [xb_ge (x := nI n) (y := nI (mR σ c)) (a := n) (b := (mR σ c)) rfl rfl (by omega) (by omega)] at h59
                obtain rfl : n = mR σ c := by omega
                refine x_aload_n X dX2_fillFrom_124 rfl ?_
                refine x_aload_n X dX2_fillFrom_125 rfl ?_
                refine x_iconst (v := 0) X dX2_fillFrom_126 (by decide) ?_
                refine x_iconst (v := 4) X dX2_fillFrom_127 (by decide) ?_
                refine cv_X2_49 X c_X7_next dX2_fillFrom_128 rfl ⟨by decide, by decide, by decide, by decide⟩ rfl rfl (Nat.le_of_ble_eq_true rfl) (xk_i ?_)
                refine pf_X2_66 X dX2_fillFrom_131 (xk0 hm) ?_
                refine x_iconst (v := 0) X dX2_fillFrom_134 (by decide) ?_
                refine x_istore_n (lv' := [(2, .int 0), (1, .ref (G.2.1 1)), (0, .ref (G.2.1 c))]) X dX2_fillFrom_135 rfl (by decide) rfl ?_
                have lp136 : ∀ (NN136 : Nat) (n : Nat) (hn : n ≤ mT σ c), mT σ c - n = NN136 → xW pp l ee { frames := 4, cells := 0, slots := 0, locals := 91 } ss mm aa bel met kk 4 G 0 0 (xQ bel G (fun r t => r = some (.int (tWhole (mS7 σ c z))) ∧ t = (mS7 σ c z)) aa ss) 136 [(2, .int (nI n)), (1, .ref (G.2.1 1)), (0, .ref (G.2.1 c))] [] (mTs (mS5 σ c) c (mV σ c) n) := by
                  intro NN136
                  induction NN136 using Nat.strongRecOn with
                  | ind NN136 ih136 =>
                    intro n hn hNN136
                    refine x_iload_n X dX2_fillFrom_136 rfl ?_
                    refine x_iconst (v := 4) X dX2_fillFrom_137 (by decide) ?_
                    refine x_icmpge (tgt := 161) X dX2_fillFrom_138 (by decide) (fun h138 => ?_) (fun h138 => ?_)
                    · skip
                      rw [xb_ge (x := nI n) (y := 4) (a := n) (b := 4) rfl rfl (by omega) (by omega)] at h138
                      obtain rfl : n = mT σ c := by omega
                      refine x_aload_n X dX2_fillFrom_161 rfl ?_
                      refine x_aload_n X dX2_fillFrom_162 rfl ?_
                      refine cv_X2_72 X (c_X7_digestOfAll (z := z) (by omega) ((mS6_n hm).trans hs)) dX2_fillFrom_163 rfl ⟨by decide, by decide, by decide, by decide⟩ rfl rfl (Nat.le_of_ble_eq_true rfl) (xk_i ?_)
                      refine pf_X2_76 X dX2_fillFrom_166 (xk0 hm) ?_
                      refine x_aload_n X dX2_fillFrom_169 rfl ?_
                      refine cv_X2_79 X c_X7_isReadWhole dX2_fillFrom_170 rfl ⟨by decide, by decide, by decide, by decide⟩ rfl rfl (Nat.le_of_ble_eq_true rfl) (xk_i ?_)
                      exact x_zret X dX2_fillFrom_173 (by unfold tWhole; split <;> (try split) <;> simp) (xp_i (by first | rfl | simp [*]) (by first | rfl | simp [*]))
                    · skip
                      rw [xb_ge (x := nI n) (y := 4) (a := n) (b := 4) rfl rfl (by omega) (by omega)] at h138
                      refine x_iload_n X dX2_fillFrom_141 rfl ?_
                      refine x_aload_n X dX2_fillFrom_142 rfl ?_
                      refine gf_X2_66 X dX2_fillFrom_143 (xk0 hm) ?_
                      rw [mTs_T hm n (by omega)]
                      refine x_icmpge (tgt := 161) X dX2_fillFrom_146 (by decide) (fun h146 => ?_) (fun h146 => ?_)
                      · skip
                        rw [xb_ge (x := nI n) (y := nI (mT σ c)) (a := n) (b := (mT σ c)) rfl rfl (by omega) (by omega)] at h146
                        obtain rfl : n = mT σ c := by omega
                        refine x_aload_n X dX2_fillFrom_161 rfl ?_
                        refine x_aload_n X dX2_fillFrom_162 rfl ?_
                        refine cv_X2_72 X (c_X7_digestOfAll (z := z) (by omega) ((mS6_n hm).trans hs)) dX2_fillFrom_163 rfl ⟨by decide, by decide, by decide, by decide⟩ rfl rfl (Nat.le_of_ble_eq_true rfl) (xk_i ?_)
                        refine pf_X2_76 X dX2_fillFrom_166 (xk0 hm) ?_
                        refine x_aload_n X dX2_fillFrom_169 rfl ?_
                        refine cv_X2_79 X c_X7_isReadWhole dX2_fillFrom_170 rfl ⟨by decide, by decide, by decide, by decide⟩ rfl rfl (Nat.le_of_ble_eq_true rfl) (xk_i ?_)
                        exact x_zret X dX2_fillFrom_173 (by unfold tWhole; split <;> (try split) <;> simp) (xp_i (by first | rfl | simp [*]) (by first | rfl | simp [*]))
                      · skip
                        rw [xb_ge (x := nI n) (y := nI (mT σ c)) (a := n) (b := (mT σ c)) rfl rfl (by omega) (by omega)] at h146
                        refine x_aload_n X dX2_fillFrom_149 rfl ?_
                        refine x_aload_n X dX2_fillFrom_150 rfl ?_
                        refine x_iload_n X dX2_fillFrom_151 rfl ?_
                        refine cv_X2_69 X (c_X2_fillTable hm (mTs_V hm n (by omega)) hV8 (by omega)) dX2_fillFrom_152 (xk0 hm) ⟨by decide, by decide, by decide, by decide⟩ rfl rfl (Nat.le_of_ble_eq_true rfl) (xk_v ?_)
                        refine x_iinc (k := 0) (v := nI (n + 1)) (lv' := [(2, .int (nI (n + 1))), (1, .ref (G.2.1 1)), (0, .ref (G.2.1 c))]) X dX2_fillFrom_155 rfl (xn_inc _) (by decide) rfl ?_
                        refine x_goto (tgt := 136) X dX2_fillFrom_158 (by decide) ?_
                        refine x_pick [0, 1, 2] rfl ?_
                        exact ih136 _ (by omega) (n + 1) (by omega) rfl
                refine x_pick [0, 1, 2] rfl ?_
                exact lp136 _ 0 (by omega) rfl
              · skip
                rw [xb_ge (x := nI n) (y := nI (mR σ c)) (a := n) (b := (mR σ c)) rfl rfl (by omega) (by omega)] at h59
                refine x_iconst (v := 0) X dX2_fillFrom_62 (by decide) ?_
                refine x_istore_n (lv' := [(3, .int 0), (2, .int (nI n)), (1, .ref (G.2.1 1)), (0, .ref (G.2.1 c))]) X dX2_fillFrom_63 rfl (by decide) rfl ?_
                have lp64 : ∀ (NN64 : Nat) (v : Nat) (hv : v ≤ 8), 8 - v = NN64 → xW pp l ee { frames := 4, cells := 0, slots := 0, locals := 91 } ss mm aa bel met kk 4 G 0 0 (xQ bel G (fun r t => r = some (.int (tWhole (mS7 σ c z))) ∧ t = (mS7 σ c z)) aa ss) 64 [(3, .int (nI v)), (2, .int (nI n)), (1, .ref (G.2.1 1)), (0, .ref (G.2.1 c))] [] (mFs (mRs (mS3 σ c) c (mV σ c) n) c (mV σ c) n v) := by
                  intro NN64
                  induction NN64 using Nat.strongRecOn with
                  | ind NN64 ih64 =>
                    intro v hv hNN64
                    refine x_iload_n X dX2_fillFrom_64 rfl ?_
                    refine x_bipush (v := 8) X dX2_fillFrom_65 (by decide) ?_
                    refine x_icmpge (tgt := 104) X dX2_fillFrom_67 (by decide) (fun h67 => ?_) (fun h67 => ?_)
                    · skip
                      rw [xb_ge (x := nI v) (y := 8) (a := v) (b := 8) rfl rfl (by omega) (by omega)] at h67
                      obtain rfl : v = 8 := by omega
                      refine x_aload_n X dX2_fillFrom_104 rfl ?_
                      refine gf_X2_26 (k' := c + 5) X dX2_fillFrom_105 (xk0 hm) (xm8 hm) ?_
                      refine x_iload_n X dX2_fillFrom_108 rfl ?_
                      refine x_aload_n X dX2_fillFrom_109 rfl ?_
                      refine x_ldc X dX2_fillFrom_110 wk_X2_64 ?_
                      refine x_ldc X dX2_fillFrom_112 wk_X2_65 ?_
                      refine cv_X2_49 X c_X7_next dX2_fillFrom_114 rfl ⟨by decide, by decide, by decide, by decide⟩ rfl rfl (Nat.le_of_ble_eq_true rfl) (xk_i ?_)
                      refine x_iastN X dX2_fillFrom_117 (xk5 hm) (by omega) (by omega) ?_
                      refine x_iinc (k := 1) (v := nI (n + 1)) (lv' := [(2, .int (nI (n + 1))), (3, .int (nI 8)), (1, .ref (G.2.1 1)), (0, .ref (G.2.1 c))]) X dX2_fillFrom_118 rfl (xn_inc _) (by decide) rfl ?_
                      refine x_goto (tgt := 48) X dX2_fillFrom_121 (by decide) ?_
                      refine x_pick [0, 2, 3] rfl ?_
                      exact ih48 _ (by omega) (n + 1) (by omega) rfl
                    · skip
                      rw [xb_ge (x := nI v) (y := 8) (a := v) (b := 8) rfl rfl (by omega) (by omega)] at h67
                      refine x_aload_n X dX2_fillFrom_70 rfl ?_
                      refine gf_X2_23 (k' := c + 4) X dX2_fillFrom_71 (xk0 hm) (xm7 hm) ?_
                      refine x_iload_n X dX2_fillFrom_74 rfl ?_
                      refine x_aaldN (k' := mF c + n) X dX2_fillFrom_75 (xk4 hm) (by omega) (by omega) (xrF hm) ?_
                      refine x_iload_n X dX2_fillFrom_76 rfl ?_
                      refine x_iload_n X dX2_fillFrom_77 rfl ?_
                      refine x_aload_n X dX2_fillFrom_78 rfl ?_
                      refine gf_X2_53 X dX2_fillFrom_79 (xk0 hm) ?_
                      rw [mFs_V hm n v (by omega)]
                      refine x_icmpge (tgt := 96) X dX2_fillFrom_82 (by decide) (fun h82 => ?_) (fun h82 => ?_)
                      · skip
                        rw [xb_ge (x := nI v) (y := nI (mV σ c)) (a := v) (b := (mV σ c)) rfl rfl (by omega) (by omega)] at h82
                        have hst : xsI (mFs (mRs (mS3 σ c) c (mV σ c) n) c (mV σ c) n v) (mF c + n) v 0 = mFs (mRs (mS3 σ c) c (mV σ c) n) c (mV σ c) n (v + 1) := by rw [mFs, if_neg (by omega)]
                        refine x_iconst (v := 0) X dX2_fillFrom_96 (by decide) ?_
                        refine x_iastN X dX2_fillFrom_97 (xkF hm (by omega)) (by omega) (by omega) ?_
                        rw [hst]
                        refine x_iinc (k := 0) (v := nI (v + 1)) (lv' := [(3, .int (nI (v + 1))), (2, .int (nI n)), (1, .ref (G.2.1 1)), (0, .ref (G.2.1 c))]) X dX2_fillFrom_98 rfl (xn_inc _) (by decide) rfl ?_
                        refine x_goto (tgt := 64) X dX2_fillFrom_101 (by decide) ?_
                        refine x_pick [0, 1, 2, 3] rfl ?_
                        exact ih64 _ (by omega) (v + 1) (by omega) rfl
                      · skip
                        rw [xb_ge (x := nI v) (y := nI (mV σ c)) (a := v) (b := (mV σ c)) rfl rfl (by omega) (by omega)] at h82
                        have hst : xsI (tNext (mFs (mRs (mS3 σ c) c (mV σ c) n) c (mV σ c) n v) (-100) 100).2 (mF c + n) v (tNext (mFs (mRs (mS3 σ c) c (mV σ c) n) c (mV σ c) n v) (-100) 100).1 = mFs (mRs (mS3 σ c) c (mV σ c) n) c (mV σ c) n (v + 1) := by rw [mFs, if_pos (by omega)]; rfl
                        refine x_aload_n X dX2_fillFrom_85 rfl ?_
                        refine x_bipush (v := (-100)) X dX2_fillFrom_86 (by decide) ?_
                        refine x_bipush (v := 100) X dX2_fillFrom_88 (by decide) ?_
                        refine cv_X2_49 X c_X7_next dX2_fillFrom_90 rfl ⟨by decide, by decide, by decide, by decide⟩ rfl rfl (Nat.le_of_ble_eq_true rfl) (xk_i ?_)
                        refine x_goto (tgt := 97) X dX2_fillFrom_93 (by decide) ?_
                        refine x_iastN X dX2_fillFrom_97 (xkF hm (by omega)) (by omega) (by omega) ?_
                        rw [hst]
                        refine x_iinc (k := 0) (v := nI (v + 1)) (lv' := [(3, .int (nI (v + 1))), (2, .int (nI n)), (1, .ref (G.2.1 1)), (0, .ref (G.2.1 c))]) X dX2_fillFrom_98 rfl (xn_inc _) (by decide) rfl ?_
                        refine x_goto (tgt := 64) X dX2_fillFrom_101 (by decide) ?_
                        refine x_pick [0, 1, 2, 3] rfl ?_
                        exact ih64 _ (by omega) (v + 1) (by omega) rfl
                refine x_pick [0, 1, 2, 3] rfl ?_
                exact lp64 _ 0 (by omega) rfl
        refine x_pick [0, 1, 2] rfl ?_
        exact lp48 _ 0 (by omega) rfl
      · skip
        rw [xb_ge (x := nI n) (y := 8) (a := n) (b := 8) rfl rfl (by omega) (by omega)] at h20
        refine x_aload_n X dX2_fillFrom_23 rfl ?_
        refine x_aload_n X dX2_fillFrom_24 rfl ?_
        refine x_iload_n X dX2_fillFrom_25 rfl ?_
        refine cv_X2_57 X (c_X2_fillVariable hm (mVs_V hm n) hV8 (by omega)) dX2_fillFrom_26 (xk0 hm) ⟨by decide, by decide, by decide, by decide⟩ rfl rfl (Nat.le_of_ble_eq_true rfl) (xk_v ?_)
        refine x_iinc (k := 0) (v := nI (n + 1)) (lv' := [(2, .int (nI (n + 1))), (1, .ref (G.2.1 1)), (0, .ref (G.2.1 c))]) X dX2_fillFrom_29 rfl (xn_inc _) (by decide) rfl ?_
        refine x_goto (tgt := 17) X dX2_fillFrom_32 (by decide) ?_
        refine x_pick [0, 1, 2] rfl ?_
        exact ih17 _ (by omega) (n + 1) (by omega) rfl
  refine x_pick [0, 2, 1] rfl ?_
  exact lp17 _ 0 (by omega) rfl
