set_option maxHeartbeats 4000000 in
set_option maxRecDepth 100000 in
theorem c_X6_assumption {l : Launch} {G : xG} {σ : xS} {j : Nat} {i : Int32} {nr : Nat} (hr : nr ≤ 200) (hc : xgI σ 8 3 = nI nr) {nb : Nat} (hb : nb ≤ 60) (hd : xgI σ 8 4 = nI nb) (hj : j < nr) : xFi l G yX6_assumption cX6_assumption 7 (Option.some Jvm.ClassFile.FieldType.int) 2 42 [.ref (G.2.1 8), .int (nI j), .int i] σ (kAss (xgL σ (61 + j) 2) (xgI σ 10) i nb 0 0) (σ) := by
  refine xM.of (by decide) (Nat.le_of_ble_eq_true rfl) (fun pp ee ss mm aa bel met kk X => ?_)
  have X : xC pp ss mm met kk cX6_assumption 7 RX6 (Option.some Jvm.ClassFile.FieldType.int) G := X
  show xW pp l ee { frames := 2, cells := 0, slots := 0, locals := 42 } ss mm aa bel met kk 7 G 0 0 (xQ bel G (fun r t => r = some (.int (kAss (xgL σ (61 + j) 2) (xgI σ 10) i nb 0 0)) ∧ t = (σ)) aa ss) 0 [(0, .ref (G.2.1 8)), (1, .int (nI j)), (2, .int i)] [] σ
  refine x_aload_n X dX6_assumption_0 rfl ?_
  refine x_iload_n X dX6_assumption_1 rfl ?_
  refine cv_X6_54 X (c_X6_at hr hc hj) dX6_assumption_2 rfl ⟨by decide, by decide, by decide, by decide⟩ rfl rfl (Nat.le_of_ble_eq_true rfl) (xk_r ?_)
  refine gf_X6_50 X dX6_assumption_5 (xck_row (by omega)) ?_
  refine x_topl (fun A hA => ?_)
  refine x_lstore_n (lv' := [(3, .long A), (0, .ref (G.2.1 8)), (1, .int (nI j)), (2, .int i)]) X dX6_assumption_8 rfl (by decide) rfl ?_
  refine x_iconst (v := 0) X dX6_assumption_9 (by decide) ?_
  refine x_istore (lv' := [(5, .int 0), (3, .long A), (0, .ref (G.2.1 8)), (1, .int (nI j)), (2, .int i)]) X dX6_assumption_10 (by decide) rfl ?_
  refine x_iconst (v := 0) X dX6_assumption_12 (by decide) ?_
  refine x_istore (lv' := [(6, .int 0), (5, .int 0), (3, .long A), (0, .ref (G.2.1 8)), (1, .int (nI j)), (2, .int i)]) X dX6_assumption_13 (by decide) rfl ?_
  have lp15 : ∀ (NN15 : Nat) (b : Nat) (hbn : b ≤ nb) (w : Int32) (hw : kAss (xgL σ (61 + j) 2) (xgI σ 10) i nb 0 0 = kAss (xgL σ (61 + j) 2) (xgI σ 10) i (nb - b) b w), nb - b = NN15 → xW pp l ee { frames := 2, cells := 0, slots := 0, locals := 42 } ss mm aa bel met kk 7 G 0 0 (xQ bel G (fun r t => r = some (.int (kAss (xgL σ (61 + j) 2) (xgI σ 10) i nb 0 0)) ∧ t = (σ)) aa ss) 15 [(6, .int (nI b)), (5, .int w), (3, .long A), (2, .int i), (1, .int (nI j)), (0, .ref (G.2.1 8))] [] (σ) := by
    intro NN15
    induction NN15 using Nat.strongRecOn with
    | ind NN15 ih15 =>
      intro b hbn w hw hNN15
      refine x_iload X dX6_assumption_15 rfl ?_
      refine x_bipush (v := 60) X dX6_assumption_17 (by decide) ?_
      refine x_icmpge (tgt := 65) X dX6_assumption_19 (by decide) (fun h19 => ?_) (fun h19 => ?_)
      · skip
        rw [xb_ge (x := nI b) (y := 60) (a := b) (b := 60) rfl rfl (by omega) (by omega)] at h19
        have hnb : b = nb := by omega
        refine x_iconst (v := (-1)) X dX6_assumption_65 (by decide) ?_
        exact x_iret X dX6_assumption_66 (xp_i (by rw [hw, hnb, Nat.sub_self]; rfl) (by first | rfl | simp [*]))
      · skip
        rw [xb_ge (x := nI b) (y := 60) (a := b) (b := 60) rfl rfl (by omega) (by omega)] at h19
        refine x_iload X dX6_assumption_22 rfl ?_
        refine x_aload_n X dX6_assumption_24 rfl ?_
        refine gf_X6_30 X dX6_assumption_25 rfl ?_
        rw [hd]
        refine x_icmpge (tgt := 65) X dX6_assumption_28 (by decide) (fun h28 => ?_) (fun h28 => ?_)
        · skip
          rw [xb_ge (x := nI b) (y := nI nb) (a := b) (b := nb) rfl rfl (by omega) (by omega)] at h28
          have hnb : b = nb := by omega
          refine x_iconst (v := (-1)) X dX6_assumption_65 (by decide) ?_
          exact x_iret X dX6_assumption_66 (xp_i (by rw [hw, hnb, Nat.sub_self]; rfl) (by first | rfl | simp [*]))
        · skip
          rw [xb_ge (x := nI b) (y := nI nb) (a := b) (b := nb) rfl rfl (by omega) (by omega)] at h28
          refine x_lload_n X dX6_assumption_31 rfl ?_
          refine x_iload X dX6_assumption_32 rfl ?_
          refine x_lshr X dX6_assumption_34 ?_
          refine x_lconst (v := 1) X dX6_assumption_35 (by decide) ?_
          refine x_land X dX6_assumption_36 ?_
          refine x_lconst (v := 0) X dX6_assumption_37 (by decide) ?_
          refine x_lcmp X dX6_assumption_38 ?_
          refine x_ifeq (tgt := 59) X dX6_assumption_39 (by decide) (fun h39 => ?_) (fun h39 => ?_)
          · skip
            rw [lg_cmp_eq] at h39
            have hw2 := hw.trans (kAss_f (by omega) (fun z => z (hA ▸ h39)))
            obtain ⟨w9, hw9⟩ : ∃ z : Int32, z = w := ⟨_, rfl⟩
            subst hw9
            try rw [← show w9 = w + 1 from hw9] at hw2
            refine x_iinc (k := 0) (v := nI (b + 1)) (lv' := [(6, .int (nI (b + 1))), (5, .int w9), (3, .long A), (2, .int i), (1, .int (nI j)), (0, .ref (G.2.1 8))]) X dX6_assumption_59 rfl (xn_inc _) (by decide) rfl ?_
            refine x_goto (tgt := 15) X dX6_assumption_62 (by decide) ?_
            refine x_pick [0, 1, 2, 3, 4, 5] rfl ?_
            exact ih15 _ (by omega) (b + 1) (by omega) w9 hw2 rfl
          · skip
            rw [lg_cmp_eq] at h39
            have hbit : xBit (xgL σ (61 + j) 2) b := hA ▸ h39
            refine x_iload X dX6_assumption_42 rfl ?_
            refine x_iload_n X dX6_assumption_44 rfl ?_
            refine x_icmpne (tgt := 56) X dX6_assumption_45 (by decide) (fun h45 => ?_) (fun h45 => ?_)
            · skip
              have hw2 := hw.trans ((kAss_t (by omega) hbit).trans (if_neg h45))
              obtain ⟨w9, hw9⟩ : ∃ z : Int32, z = w + Int32.ofInt 1 := ⟨_, rfl⟩
              refine x_iinc (k := 1) (v := w9) (lv' := [(5, .int w9), (6, .int (nI b)), (3, .long A), (2, .int i), (1, .int (nI j)), (0, .ref (G.2.1 8))]) X dX6_assumption_56 rfl hw9.symm (by decide) rfl ?_
              try rw [← show w9 = w + 1 from hw9] at hw2
              refine x_iinc (k := 1) (v := nI (b + 1)) (lv' := [(6, .int (nI (b + 1))), (5, .int w9), (3, .long A), (2, .int i), (1, .int (nI j)), (0, .ref (G.2.1 8))]) X dX6_assumption_59 rfl (xn_inc _) (by decide) rfl ?_
              refine x_goto (tgt := 15) X dX6_assumption_62 (by decide) ?_
              refine x_pick [0, 1, 2, 3, 4, 5] rfl ?_
              exact ih15 _ (by omega) (b + 1) (by omega) w9 hw2 rfl
            · skip
              refine x_aload_n X dX6_assumption_48 rfl ?_
              refine gf_X6_22 (k' := 10) X dX6_assumption_49 rfl rfl ?_
              refine x_iload X dX6_assumption_52 rfl ?_
              refine x_ialdN X dX6_assumption_54 rfl (by omega) (by omega) ?_
              exact x_iret X dX6_assumption_55 (xp_i (by rw [hw, kAss_t (by omega) hbit, if_pos h45]) (by first | rfl | simp [*]))
  refine x_pick [0, 1, 2, 5, 4, 3] rfl ?_
  exact lp15 _ 0 (by omega) 0 rfl rfl

set_option maxHeartbeats 4000000 in
set_option maxRecDepth 100000 in
theorem c_X6_keepsAssumptions {l : Launch} {G : xG} {σ : xS} {j pl : Nat} {bj : Nat → Nat} {nr : Nat} (hr : nr ≤ 200) (hc : xgI σ 8 3 = nI nr) {nb : Nat} (hb : nb ≤ 60) (hd : xgI σ 8 4 = nI nb) (hj : j < 201) (hpl : xck pl = (10, 8)) (hbj : ∀ b, b < nb → xgI σ 10 b = nI (bj b) ∧ bj b < nr) : xFi l G yX6_keepsAssumptions cX6_keepsAssumptions 4 (Option.some Jvm.ClassFile.FieldType.boolean) 2 45 [.ref (G.2.1 8), .ref (G.2.1 (61 + j)), .ref (G.2.1 pl)] σ (xB (∀ b, b < nb → xBit (xgL σ (61 + j) 2) b → rKept σ (bj b) pl)) (σ) := by
  refine xM.of (by decide) (Nat.le_of_ble_eq_true rfl) (fun pp ee ss mm aa bel met kk X => ?_)
  have X : xC pp ss mm met kk cX6_keepsAssumptions 4 RX6 (Option.some Jvm.ClassFile.FieldType.boolean) G := X
  show xW pp l ee { frames := 2, cells := 0, slots := 0, locals := 45 } ss mm aa bel met kk 4 G 0 0 (xQ bel G (fun r t => r = some (.int (xB (∀ b, b < nb → xBit (xgL σ (61 + j) 2) b → rKept σ (bj b) pl))) ∧ t = (σ)) aa ss) 0 [(0, .ref (G.2.1 8)), (1, .ref (G.2.1 (61 + j))), (2, .ref (G.2.1 pl))] [] σ
  refine x_iconst (v := 0) X dX6_keepsAssumptions_0 (by decide) ?_
  refine x_istore_n (lv' := [(3, .int 0), (0, .ref (G.2.1 8)), (1, .ref (G.2.1 (61 + j))), (2, .ref (G.2.1 pl))]) X dX6_keepsAssumptions_1 rfl (by decide) rfl ?_
  have lp2 : ∀ (NN2 : Nat) (b : Nat) (hbn : b ≤ nb) (hz : ∀ v, v < b → xBit (xgL σ (61 + j) 2) v → rKept σ (bj v) pl), nb - b = NN2 → xW pp l ee { frames := 2, cells := 0, slots := 0, locals := 45 } ss mm aa bel met kk 4 G 0 0 (xQ bel G (fun r t => r = some (.int (xB (∀ b, b < nb → xBit (xgL σ (61 + j) 2) b → rKept σ (bj b) pl))) ∧ t = (σ)) aa ss) 2 [(3, .int (nI b)), (2, .ref (G.2.1 pl)), (1, .ref (G.2.1 (61 + j))), (0, .ref (G.2.1 8))] [] (σ) := by
    intro NN2
    induction NN2 using Nat.strongRecOn with
    | ind NN2 ih2 =>
      intro b hbn hz hNN2
      refine x_iload_n X dX6_keepsAssumptions_2 rfl ?_
      refine x_bipush (v := 60) X dX6_keepsAssumptions_3 (by decide) ?_
      refine x_icmpge (tgt := 54) X dX6_keepsAssumptions_5 (by decide) (fun h5 => ?_) (fun h5 => ?_)
      · skip
        rw [xb_ge (x := nI b) (y := 60) (a := b) (b := 60) rfl rfl (by omega) (by omega)] at h5
        obtain rfl : b = nb := by omega
        refine x_iconst (v := 1) X dX6_keepsAssumptions_54 (by decide) ?_
        exact x_zret X dX6_keepsAssumptions_55 (Or.inr rfl) (xp_i (by exact (xB_t hz).symm) (by first | rfl | simp [*]))
      · skip
        rw [xb_ge (x := nI b) (y := 60) (a := b) (b := 60) rfl rfl (by omega) (by omega)] at h5
        refine x_iload_n X dX6_keepsAssumptions_8 rfl ?_
        refine x_aload_n X dX6_keepsAssumptions_9 rfl ?_
        refine gf_X6_30 X dX6_keepsAssumptions_10 rfl ?_
        rw [hd]
        refine x_icmpge (tgt := 54) X dX6_keepsAssumptions_13 (by decide) (fun h13 => ?_) (fun h13 => ?_)
        · skip
          rw [xb_ge (x := nI b) (y := nI nb) (a := b) (b := nb) rfl rfl (by omega) (by omega)] at h13
          obtain rfl : b = nb := by omega
          refine x_iconst (v := 1) X dX6_keepsAssumptions_54 (by decide) ?_
          exact x_zret X dX6_keepsAssumptions_55 (Or.inr rfl) (xp_i (by exact (xB_t hz).symm) (by first | rfl | simp [*]))
        · skip
          rw [xb_ge (x := nI b) (y := nI nb) (a := b) (b := nb) rfl rfl (by omega) (by omega)] at h13
          refine x_aload_n X dX6_keepsAssumptions_16 rfl ?_
          refine gf_X6_50 X dX6_keepsAssumptions_17 (xck_row hj) ?_
          refine x_iload_n X dX6_keepsAssumptions_20 rfl ?_
          refine x_lshr X dX6_keepsAssumptions_21 ?_
          refine x_lconst (v := 1) X dX6_keepsAssumptions_22 (by decide) ?_
          refine x_land X dX6_keepsAssumptions_23 ?_
          refine x_lconst (v := 0) X dX6_keepsAssumptions_24 (by decide) ?_
          refine x_lcmp X dX6_keepsAssumptions_25 ?_
          refine x_ifeq (tgt := 48) X dX6_keepsAssumptions_26 (by decide) (fun h26 => ?_) (fun h26 => ?_)
          · skip
            rw [lg_cmp_eq] at h26
            have hz2 := lt_s hz (fun z => absurd h26 z)
            refine x_iinc (k := 0) (v := nI (b + 1)) (lv' := [(3, .int (nI (b + 1))), (2, .ref (G.2.1 pl)), (1, .ref (G.2.1 (61 + j))), (0, .ref (G.2.1 8))]) X dX6_keepsAssumptions_48 rfl (xn_inc _) (by decide) rfl ?_
            refine x_goto (tgt := 2) X dX6_keepsAssumptions_51 (by decide) ?_
            refine x_pick [0, 1, 2, 3] rfl ?_
            exact ih2 _ (by omega) (b + 1) (by omega) hz2 rfl
          · skip
            rw [lg_cmp_eq] at h26
            obtain ⟨hb1, hb2⟩ := hbj b (by omega)
            refine x_aload_n X dX6_keepsAssumptions_29 rfl ?_
            refine x_aload_n X dX6_keepsAssumptions_30 rfl ?_
            refine gf_X6_22 (k' := 10) X dX6_keepsAssumptions_31 rfl rfl ?_
            refine x_iload_n X dX6_keepsAssumptions_34 rfl ?_
            refine x_ialdN X dX6_keepsAssumptions_35 rfl (by omega) (by omega) ?_
            rw [hb1]
            refine cv_X6_54 X (c_X6_at hr hc hb2) dX6_keepsAssumptions_36 rfl ⟨by decide, by decide, by decide, by decide⟩ rfl rfl (Nat.le_of_ble_eq_true rfl) (xk_r ?_)
            refine x_aload_n X dX6_keepsAssumptions_39 rfl ?_
            refine cv_X6_58 X (c_X5_isKeptBy (by omega) hpl) dX6_keepsAssumptions_40 (xck_row (i := bj b) (by omega)) ⟨by decide, by decide, by decide, by decide⟩ rfl rfl (Nat.le_of_ble_eq_true rfl) (xk_i ?_)
            refine x_ifne (tgt := 48) X dX6_keepsAssumptions_43 (by decide) (fun h43 => ?_) (fun h43 => ?_)
            · skip
              have hz2 := lt_s hz (fun _ => Classical.not_not.mp (fun z => h43 (xB_f z)))
              refine x_iinc (k := 0) (v := nI (b + 1)) (lv' := [(3, .int (nI (b + 1))), (2, .ref (G.2.1 pl)), (1, .ref (G.2.1 (61 + j))), (0, .ref (G.2.1 8))]) X dX6_keepsAssumptions_48 rfl (xn_inc _) (by decide) rfl ?_
              refine x_goto (tgt := 2) X dX6_keepsAssumptions_51 (by decide) ?_
              refine x_pick [0, 1, 2, 3] rfl ?_
              exact ih2 _ (by omega) (b + 1) (by omega) hz2 rfl
            · skip
              refine x_iconst (v := 0) X dX6_keepsAssumptions_46 (by decide) ?_
              exact x_zret X dX6_keepsAssumptions_47 (Or.inl rfl) (xp_i (by exact (xB_f (fun z => (xB_0.mp h43) (z b (by omega) h26))).symm) (by first | rfl | simp [*]))
  refine x_pick [0, 3, 2, 1] rfl ?_
  exact lp2 _ 0 (by omega) lt_0 rfl

set_option maxHeartbeats 4000000 in
set_option maxRecDepth 100000 in
theorem c_X6_firstProof {l : Launch} {G : xG} {σ : xS} {L : Int32} {nr : Nat} (hr : nr ≤ 200) (hc : xgI σ 8 3 = nI nr) : xFi l G yX6_firstProof cX6_firstProof 4 (Option.some Jvm.ClassFile.FieldType.int) 2 41 [.ref (G.2.1 8), .int L] σ (kPrf σ L nr 0) (σ) := by
  refine xM.of (by decide) (Nat.le_of_ble_eq_true rfl) (fun pp ee ss mm aa bel met kk X => ?_)
  have X : xC pp ss mm met kk cX6_firstProof 4 RX6 (Option.some Jvm.ClassFile.FieldType.int) G := X
  show xW pp l ee { frames := 2, cells := 0, slots := 0, locals := 41 } ss mm aa bel met kk 4 G 0 0 (xQ bel G (fun r t => r = some (.int (kPrf σ L nr 0)) ∧ t = (σ)) aa ss) 0 [(0, .ref (G.2.1 8)), (1, .int L)] [] σ
  refine x_iconst (v := 0) X dX6_firstProof_0 (by decide) ?_
  refine x_istore_n (lv' := [(2, .int 0), (0, .ref (G.2.1 8)), (1, .int L)]) X dX6_firstProof_1 rfl (by decide) rfl ?_
  have lp2 : ∀ (NN2 : Nat) (r0 : Nat) (hr0 : r0 ≤ nr) (hw : kPrf σ L nr 0 = kPrf σ L (nr - r0) r0), nr - r0 = NN2 → xW pp l ee { frames := 2, cells := 0, slots := 0, locals := 41 } ss mm aa bel met kk 4 G 0 0 (xQ bel G (fun r t => r = some (.int (kPrf σ L nr 0)) ∧ t = (σ)) aa ss) 2 [(2, .int (nI r0)), (1, .int L), (0, .ref (G.2.1 8))] [] (σ) := by
    intro NN2
    induction NN2 using Nat.strongRecOn with
    | ind NN2 ih2 =>
      intro r0 hr0 hw hNN2
      refine x_iload_n X dX6_firstProof_2 rfl ?_
      refine x_sipush (v := 200) X dX6_firstProof_3 (by decide) ?_
      refine x_icmpge (tgt := 56) X dX6_firstProof_6 (by decide) (fun h6 => ?_) (fun h6 => ?_)
      · skip
        rw [xb_ge (x := nI r0) (y := 200) (a := r0) (b := 200) rfl rfl (by omega) (by omega)] at h6
        obtain rfl : r0 = nr := by omega
        refine x_iconst (v := (-1)) X dX6_firstProof_56 (by decide) ?_
        exact x_iret X dX6_firstProof_57 (xp_i (by rw [hw, Nat.sub_self]; rfl) (by first | rfl | simp [*]))
      · skip
        rw [xb_ge (x := nI r0) (y := 200) (a := r0) (b := 200) rfl rfl (by omega) (by omega)] at h6
        refine x_iload_n X dX6_firstProof_9 rfl ?_
        refine x_aload_n X dX6_firstProof_10 rfl ?_
        refine gf_X6_26 X dX6_firstProof_11 rfl ?_
        rw [hc]
        refine x_icmpge (tgt := 56) X dX6_firstProof_14 (by decide) (fun h14 => ?_) (fun h14 => ?_)
        · skip
          rw [xb_ge (x := nI r0) (y := nI nr) (a := r0) (b := nr) rfl rfl (by omega) (by omega)] at h14
          obtain rfl : r0 = nr := by omega
          refine x_iconst (v := (-1)) X dX6_firstProof_56 (by decide) ?_
          exact x_iret X dX6_firstProof_57 (xp_i (by rw [hw, Nat.sub_self]; rfl) (by first | rfl | simp [*]))
        · skip
          rw [xb_ge (x := nI r0) (y := nI nr) (a := r0) (b := nr) rfl rfl (by omega) (by omega)] at h14
          refine x_aload_n X dX6_firstProof_17 rfl ?_
          refine gf_X6_11 (k' := 9) X dX6_firstProof_18 rfl rfl ?_
          refine x_iload_n X dX6_firstProof_21 rfl ?_
          refine x_raldN (k' := 61 + r0) X dX6_firstProof_22 rfl (by omega) (by omega) rfl ?_
          refine x_astore_n (lv' := [(3, .ref (G.2.1 (61 + r0))), (2, .int (nI r0)), (1, .int L), (0, .ref (G.2.1 8))]) X dX6_firstProof_23 rfl (by decide) rfl ?_
          refine x_aload_n X dX6_firstProof_24 rfl ?_
          refine gf_X6_50 X dX6_firstProof_25 (xck_row (i := r0) (by omega)) ?_
          refine x_lconst (v := 0) X dX6_firstProof_28 (by decide) ?_
          refine x_lcmp X dX6_firstProof_29 ?_
          refine x_ifne (tgt := 50) X dX6_firstProof_30 (by decide) (fun h30 => ?_) (fun h30 => ?_)
          · skip
            rw [lg_cmp_eq] at h30
            have hw2 := hw.trans (kPrf_f (by omega) (fun z => h30 z.1))
            refine x_iinc (k := 1) (v := nI (r0 + 1)) (lv' := [(2, .int (nI (r0 + 1))), (3, .ref (G.2.1 (61 + r0))), (1, .int L), (0, .ref (G.2.1 8))]) X dX6_firstProof_50 rfl (xn_inc _) (by decide) rfl ?_
            refine x_goto (tgt := 2) X dX6_firstProof_53 (by decide) ?_
            refine x_pick [0, 2, 3] rfl ?_
            exact ih2 _ (by omega) (r0 + 1) (by omega) hw2 rfl
          · skip
            rw [lg_cmp_eq] at h30
            refine x_aload_n X dX6_firstProof_33 rfl ?_
            refine gf_X6_62 X dX6_firstProof_34 (xck_row (i := r0) (by omega)) ?_
            refine x_iload_n X dX6_firstProof_37 rfl ?_
            refine x_icmpne (tgt := 50) X dX6_firstProof_38 (by decide) (fun h38 => ?_) (fun h38 => ?_)
            · skip
              have hw2 := hw.trans (kPrf_f (by omega) (fun z => h38 z.2.1))
              refine x_iinc (k := 1) (v := nI (r0 + 1)) (lv' := [(2, .int (nI (r0 + 1))), (3, .ref (G.2.1 (61 + r0))), (1, .int L), (0, .ref (G.2.1 8))]) X dX6_firstProof_50 rfl (xn_inc _) (by decide) rfl ?_
              refine x_goto (tgt := 2) X dX6_firstProof_53 (by decide) ?_
              refine x_pick [0, 2, 3] rfl ?_
              exact ih2 _ (by omega) (r0 + 1) (by omega) hw2 rfl
            · skip
              refine x_aload_n X dX6_firstProof_41 rfl ?_
              refine cv_X6_66 X (c_X5_isImpossible (by omega)) dX6_firstProof_42 (xck_row (i := r0) (by omega)) ⟨by decide, by decide, by decide, by decide⟩ rfl rfl (Nat.le_of_ble_eq_true rfl) (xk_i ?_)
              refine x_ifeq (tgt := 50) X dX6_firstProof_45 (by decide) (fun h45 => ?_) (fun h45 => ?_)
              · skip
                have hw2 := hw.trans (kPrf_f (by omega) (fun z => (xB_0.mp h45) z.2.2))
                refine x_iinc (k := 1) (v := nI (r0 + 1)) (lv' := [(2, .int (nI (r0 + 1))), (3, .ref (G.2.1 (61 + r0))), (1, .int L), (0, .ref (G.2.1 8))]) X dX6_firstProof_50 rfl (xn_inc _) (by decide) rfl ?_
                refine x_goto (tgt := 2) X dX6_firstProof_53 (by decide) ?_
                refine x_pick [0, 2, 3] rfl ?_
                exact ih2 _ (by omega) (r0 + 1) (by omega) hw2 rfl
              · skip
                refine x_iload_n X dX6_firstProof_48 rfl ?_
                exact x_iret X dX6_firstProof_49 (xp_i (by rw [hw, kPrf_t (by omega) ⟨h30, h38, Classical.not_not.mp (fun z => h45 (xB_f z))⟩]) (by first | rfl | simp [*]))
  refine x_pick [0, 2, 1] rfl ?_
  exact lp2 _ 0 (by omega) rfl rfl

set_option maxHeartbeats 4000000 in
set_option maxRecDepth 100000 in
theorem c_X6_greatestBound {l : Launch} {G : xG} {σ : xS} {b : Nat} {nr : Nat} (hr : nr ≤ 200) (hc : xgI σ 8 3 = nI nr) (hb : xck b = (10, 8)) : xFl l G yX6_greatestBound cX6_greatestBound 5 (Option.some Jvm.ClassFile.FieldType.long) 3 69 [.ref (G.2.1 8), .ref (G.2.1 b)] σ (kGb σ b nr) (σ) := by
  refine xM.of (by decide) (Nat.le_of_ble_eq_true rfl) (fun pp ee ss mm aa bel met kk X => ?_)
  have X : xC pp ss mm met kk cX6_greatestBound 5 RX6 (Option.some Jvm.ClassFile.FieldType.long) G := X
  show xW pp l ee { frames := 3, cells := 0, slots := 0, locals := 69 } ss mm aa bel met kk 5 G 0 0 (xQ bel G (fun r t => r = some (.long (kGb σ b nr)) ∧ t = (σ)) aa ss) 0 [(0, .ref (G.2.1 8)), (1, .ref (G.2.1 b))] [] σ
  refine x_ldc2 X dX6_greatestBound_0 wk_X6_69 ?_
  refine x_topl (fun g0 hg0 => ?_)
  refine x_lstore_n (lv' := [(2, .long g0), (0, .ref (G.2.1 8)), (1, .ref (G.2.1 b))]) X dX6_greatestBound_3 rfl (by decide) rfl ?_
  refine x_iconst (v := 0) X dX6_greatestBound_4 (by decide) ?_
  refine x_istore (lv' := [(4, .int 0), (2, .long g0), (0, .ref (G.2.1 8)), (1, .ref (G.2.1 b))]) X dX6_greatestBound_5 (by decide) rfl ?_
  have lp7 : ∀ (NN7 : Nat) (r0 : Nat) (hr0 : r0 ≤ nr), nr - r0 = NN7 → xW pp l ee { frames := 3, cells := 0, slots := 0, locals := 69 } ss mm aa bel met kk 5 G 0 0 (xQ bel G (fun r t => r = some (.long (kGb σ b nr)) ∧ t = (σ)) aa ss) 7 [(4, .int (nI r0)), (2, .long (kGb σ b r0)), (1, .ref (G.2.1 b)), (0, .ref (G.2.1 8))] [] (σ) := by
    intro NN7
    induction NN7 using Nat.strongRecOn with
    | ind NN7 ih7 =>
      intro r0 hr0 hNN7
      refine x_iload X dX6_greatestBound_7 rfl ?_
      refine x_sipush (v := 200) X dX6_greatestBound_9 (by decide) ?_
      refine x_icmpge (tgt := 46) X dX6_greatestBound_12 (by decide) (fun h12 => ?_) (fun h12 => ?_)
      · skip
        rw [xb_ge (x := nI r0) (y := 200) (a := r0) (b := 200) rfl rfl (by omega) (by omega)] at h12
        obtain rfl : r0 = nr := by omega
        refine x_lload_n X dX6_greatestBound_46 rfl ?_
        exact x_lret X dX6_greatestBound_47 (xp_l (by first | rfl | simp [*]) (by first | rfl | simp [*]))
      · skip
        rw [xb_ge (x := nI r0) (y := 200) (a := r0) (b := 200) rfl rfl (by omega) (by omega)] at h12
        refine x_iload X dX6_greatestBound_15 rfl ?_
        refine x_aload_n X dX6_greatestBound_17 rfl ?_
        refine gf_X6_26 X dX6_greatestBound_18 rfl ?_
        rw [hc]
        refine x_icmpge (tgt := 46) X dX6_greatestBound_21 (by decide) (fun h21 => ?_) (fun h21 => ?_)
        · skip
          rw [xb_ge (x := nI r0) (y := nI nr) (a := r0) (b := nr) rfl rfl (by omega) (by omega)] at h21
          obtain rfl : r0 = nr := by omega
          refine x_lload_n X dX6_greatestBound_46 rfl ?_
          exact x_lret X dX6_greatestBound_47 (xp_l (by first | rfl | simp [*]) (by first | rfl | simp [*]))
        · skip
          rw [xb_ge (x := nI r0) (y := nI nr) (a := r0) (b := nr) rfl rfl (by omega) (by omega)] at h21
          refine x_lload_n X dX6_greatestBound_24 rfl ?_
          refine x_aload_n X dX6_greatestBound_25 rfl ?_
          refine gf_X6_11 (k' := 9) X dX6_greatestBound_26 rfl rfl ?_
          refine x_iload X dX6_greatestBound_29 rfl ?_
          refine x_raldN (k' := 61 + r0) X dX6_greatestBound_31 rfl (by omega) (by omega) rfl ?_
          refine x_aload_n X dX6_greatestBound_32 rfl ?_
          refine cv_X6_71 X (c_X5_boundOfCost (by omega) hb) dX6_greatestBound_33 (xck_row (i := r0) (by omega)) ⟨by decide, by decide, by decide, by decide⟩ rfl rfl (Nat.le_of_ble_eq_true rfl) (xk_l ?_)
          refine cs_X6_75 X c_J9_max_f86c9 dX6_greatestBound_36 ⟨by decide, by decide, by decide, by decide⟩ rfl rfl (Nat.le_of_ble_eq_true rfl) (xk_l ?_)
          refine x_topl (fun g9 hg9 => ?_)
          refine x_lstore_n (lv' := [(2, .long g9), (4, .int (nI r0)), (1, .ref (G.2.1 b)), (0, .ref (G.2.1 8))]) X dX6_greatestBound_39 rfl (by decide) rfl ?_
          refine x_iinc (k := 1) (v := nI (r0 + 1)) (lv' := [(4, .int (nI (r0 + 1))), (2, .long g9), (1, .ref (G.2.1 b)), (0, .ref (G.2.1 8))]) X dX6_greatestBound_40 rfl (xn_inc _) (by decide) rfl ?_
          refine x_goto (tgt := 7) X dX6_greatestBound_43 (by decide) ?_
          subst hg9
          refine x_pick [0, 1, 2, 3] rfl ?_
          exact ih7 _ (by omega) (r0 + 1) (by omega) rfl
  subst hg0
  refine x_pick [0, 1, 3, 2] rfl ?_
  exact lp7 _ 0 (by omega) rfl
