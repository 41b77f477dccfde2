set_option maxHeartbeats 4000000 in
set_option maxRecDepth 100000 in
theorem c_X9_times {l : Launch} {G : xG} {σ : xS} {r : Nat} (hr : r < 200) {V : Nat} (hV : xgI σ 37 3 = nI V) (hV8 : V ≤ 8) : xFl l G yX9_times cX9_times 5 (Option.some Jvm.ClassFile.FieldType.long) 0 0 [.ref (G.2.1 37), .int (nI r)] σ (qTimes σ r V) (σ) := by
  refine xM.of (by decide) (Nat.le_of_ble_eq_true rfl) (fun pp ee ss mm aa bel met kk X => ?_)
  have X : xC pp ss mm met kk cX9_times 5 RX9 (Option.some Jvm.ClassFile.FieldType.long) G := X
  show xW pp l ee { frames := 0, cells := 0, slots := 0, locals := 0 } ss mm aa bel met kk 5 G 0 0 (xQ bel G (fun rv_ tv_ => rv_ = some (.long (qTimes σ r V)) ∧ tv_ = (σ)) aa ss) 0 [(0, .ref (G.2.1 37)), (1, .int (nI r))] [] σ
  refine x_lconst (v := 0) X dX9_times_0 (by decide) ?_
  refine x_lstore_n (lv' := [(2, .long 0), (0, .ref (G.2.1 37)), (1, .int (nI r))]) X dX9_times_1 rfl (by decide) rfl ?_
  refine x_iconst (v := nI 0) X dX9_times_2 (by decide) ?_
  refine x_istore (lv' := [(4, .int (nI 0)), (2, .long 0), (0, .ref (G.2.1 37)), (1, .int (nI r))]) X dX9_times_3 (by decide) rfl ?_
  have lp5 : ∀ (NN5 : Nat) (k : Nat) (hk : k ≤ V) (m : Int64) (hm : m = qT1 σ r k), V - k = NN5 → xW pp l ee { frames := 0, cells := 0, slots := 0, locals := 0 } ss mm aa bel met kk 5 G 0 0 (xQ bel G (fun rv_ tv_ => rv_ = some (.long (qTimes σ r V)) ∧ tv_ = (σ)) aa ss) 5 [(4, .int (nI k)), (2, .long m), (1, .int (nI r)), (0, .ref (G.2.1 37))] [] (σ) := by
    intro NN5
    induction NN5 using Nat.strongRecOn with
    | ind NN5 ih5 =>
      intro k hk m hm hNN5
      refine x_iload X dX9_times_5 rfl ?_
      refine x_aload_n X dX9_times_7 rfl ?_
      refine gf_X9_112 X dX9_times_8 rfl ?_
      rw [hV]
      refine x_icmpge (tgt := 59) X dX9_times_11 (by decide) (fun h11 => ?_) (fun h11 => ?_)
      · skip
        rw [xb_ge (x := nI k) (y := nI V) (a := k) (b := V) rfl rfl (by omega) (by omega)] at h11
        rw [show k = V by omega] at hm
        refine x_lload_n X dX9_times_59 rfl ?_
        refine x_lconst (v := 1) X dX9_times_60 (by decide) ?_
        refine x_lcmp X dX9_times_61 ?_
        refine x_ifge (tgt := 67) X dX9_times_62 (by decide) (fun h62 => ?_) (fun h62 => ?_)
        · skip
          rw [lg_cmp_ge] at h62
          have h62b := h62
          refine x_iconst (v := nI 0) X dX9_times_67 (by decide) ?_
          refine x_istore (lv' := [(4, .int (nI 0)), (2, .long m), (1, .int (nI r)), (0, .ref (G.2.1 37))]) X dX9_times_68 (by decide) rfl ?_
          have lp70 : ∀ (NN70 : Nat) (k2 : Nat) (hk2 : k2 ≤ V) (hq : ∀ i, i < k2 → xgL σ 52 (8 * r + i) = -m * (xgI σ 41 i).toInt64), V - k2 = NN70 → xW pp l ee { frames := 0, cells := 0, slots := 0, locals := 0 } ss mm aa bel met kk 5 G 0 0 (xQ bel G (fun rv_ tv_ => rv_ = some (.long (qTimes σ r V)) ∧ tv_ = (σ)) aa ss) 70 [(4, .int (nI k2)), (2, .long m), (1, .int (nI r)), (0, .ref (G.2.1 37))] [] (σ) := by
            intro NN70
            induction NN70 using Nat.strongRecOn with
            | ind NN70 ih70 =>
              intro k2 hk2 hq hNN70
              refine x_iload X dX9_times_70 rfl ?_
              refine x_aload_n X dX9_times_72 rfl ?_
              refine gf_X9_112 X dX9_times_73 rfl ?_
              rw [hV]
              refine x_icmpge (tgt := 114) X dX9_times_76 (by decide) (fun h76 => ?_) (fun h76 => ?_)
              · skip
                rw [xb_ge (x := nI k2) (y := nI V) (a := k2) (b := V) rfl rfl (by omega) (by omega)] at h76
                rw [show k2 = V by omega] at hq
                refine x_lload_n X dX9_times_114 rfl ?_
                exact x_lret X dX9_times_115 (xp_l (by unfold qTimes; rw [← hm, if_pos (by assumption), if_pos (show qTm σ r V m from hq)]) (by first | rfl | simp [*]))
              · skip
                rw [xb_ge (x := nI k2) (y := nI V) (a := k2) (b := V) rfl rfl (by omega) (by omega)] at h76
                refine x_aload_n X dX9_times_79 rfl ?_
                refine gf_X9_59 (k' := 52) X dX9_times_80 rfl rfl ?_
                refine x_bipush (v := nI 8) X dX9_times_83 (by decide) ?_
                refine x_iload_n X dX9_times_85 rfl ?_
                refine x_imul X dX9_times_86 ?_
                rw [pk_mul 8 r]
                refine x_iload X dX9_times_87 rfl ?_
                refine x_iadd X dX9_times_89 ?_
                rw [nI_add (8 * r) k2]
                refine x_laldN X dX9_times_90 rfl (by omega) (by omega) ?_
                refine x_lload_n X dX9_times_91 rfl ?_
                refine x_lneg X dX9_times_92 ?_
                refine x_aload_n X dX9_times_93 rfl ?_
                refine gf_X9_19 (k' := 41) X dX9_times_94 rfl rfl ?_
                refine x_iload X dX9_times_97 rfl ?_
                refine x_ialdN X dX9_times_99 rfl (by omega) (by omega) ?_
                refine x_i2l X dX9_times_100 ?_
                refine x_lmul X dX9_times_101 ?_
                refine x_lcmp X dX9_times_102 ?_
                refine x_ifeq (tgt := 108) X dX9_times_103 (by decide) (fun h103 => ?_) (fun h103 => ?_)
                · skip
                  rw [lg_cmp_eq] at h103
                  have hq9 := lt_s hq h103
                  refine x_iinc (k := 0) (v := nI (k2 + 1)) (lv' := [(4, .int (nI (k2 + 1))), (2, .long m), (1, .int (nI r)), (0, .ref (G.2.1 37))]) X dX9_times_108 rfl (xn_inc _) (by decide) rfl ?_
                  refine x_goto (tgt := 70) X dX9_times_111 (by decide) ?_
                  refine x_pick [0, 1, 2, 3] rfl ?_
                  exact ih70 _ (by omega) (k2 + 1) (by omega) hq9 rfl
                · skip
                  rw [lg_cmp_eq] at h103
                  refine x_lconst (v := 0) X dX9_times_106 (by decide) ?_
                  exact x_lret X dX9_times_107 (xp_l (by unfold qTimes; rw [← hm, if_pos (by assumption), if_neg (fun z => h103 (z k2 (by omega)))]) (by first | rfl | simp [*]))
          refine x_pick [0, 1, 2, 3] rfl ?_
          exact lp70 _ 0 (by omega) (fun i hi => by omega) rfl
        · skip
          rw [lg_cmp_ge] at h62
          have h62b := h62
          refine x_lconst (v := 0) X dX9_times_65 (by decide) ?_
          exact x_lret X dX9_times_66 (xp_l (by unfold qTimes; rw [← hm, if_neg (by assumption)]) (by first | rfl | simp [*]))
      · skip
        rw [xb_ge (x := nI k) (y := nI V) (a := k) (b := V) rfl rfl (by omega) (by omega)] at h11
        refine x_aload_n X dX9_times_14 rfl ?_
        refine gf_X9_19 (k' := 41) X dX9_times_15 rfl rfl ?_
        refine x_iload X dX9_times_18 rfl ?_
        refine x_ialdN X dX9_times_20 rfl (by omega) (by omega) ?_
        refine x_ifeq (tgt := 53) X dX9_times_21 (by decide) (fun h21 => ?_) (fun h21 => ?_)
        · skip
          have hm9 : m = qT1 σ r (k + 1) := by rw [qT1, if_pos h21]; exact hm
          first | (have hm9 : m2 = qT1 σ r (k + 1) := by rw [qT1, if_neg h21, if_pos h27b]; exact hm2) | skip
          refine x_iinc (k := 0) (v := nI (k + 1)) (lv' := [(4, .int (nI (k + 1))), (2, .long m), (1, .int (nI r)), (0, .ref (G.2.1 37))]) X dX9_times_53 rfl (xn_inc _) (by decide) rfl ?_
          refine x_goto (tgt := 5) X dX9_times_56 (by decide) ?_
          refine x_pick [0, 1, 2, 3] rfl ?_
          exact ih5 _ (by omega) (k + 1) (by omega) _ hm9 rfl
        · skip
          refine x_lload_n X dX9_times_24 rfl ?_
          refine x_lconst (v := 0) X dX9_times_25 (by decide) ?_
          refine x_lcmp X dX9_times_26 ?_
          refine x_ifne (tgt := 53) X dX9_times_27 (by decide) (fun h27 => ?_) (fun h27 => ?_)
          · skip
            rw [lg_cmp_eq] at h27
            have hm9 : m = qT1 σ r (k + 1) := by rw [qT1, if_neg h21, if_neg (hm ▸ h27)]; exact hm
            first | (have hm9 : m2 = qT1 σ r (k + 1) := by rw [qT1, if_neg h21, if_pos h27b]; exact hm2) | skip
            refine x_iinc (k := 0) (v := nI (k + 1)) (lv' := [(4, .int (nI (k + 1))), (2, .long m), (1, .int (nI r)), (0, .ref (G.2.1 37))]) X dX9_times_53 rfl (xn_inc _) (by decide) rfl ?_
            refine x_goto (tgt := 5) X dX9_times_56 (by decide) ?_
            refine x_pick [0, 1, 2, 3] rfl ?_
            exact ih5 _ (by omega) (k + 1) (by omega) _ hm9 rfl
          · skip
            rw [lg_cmp_eq] at h27
            have h27b : qT1 σ r k = 0 := hm ▸ h27
            refine x_aload_n X dX9_times_30 rfl ?_
            refine gf_X9_59 (k' := 52) X dX9_times_31 rfl rfl ?_
            refine x_bipush (v := nI 8) X dX9_times_34 (by decide) ?_
            refine x_iload_n X dX9_times_36 rfl ?_
            refine x_imul X dX9_times_37 ?_
            rw [pk_mul 8 r]
            refine x_iload X dX9_times_38 rfl ?_
            refine x_iadd X dX9_times_40 ?_
            rw [nI_add (8 * r) k]
            refine x_laldN X dX9_times_41 rfl (by omega) (by omega) ?_
            refine x_lneg X dX9_times_42 ?_
            refine x_aload_n X dX9_times_43 rfl ?_
            refine gf_X9_19 (k' := 41) X dX9_times_44 rfl rfl ?_
            refine x_iload X dX9_times_47 rfl ?_
            refine x_ialdN X dX9_times_49 rfl (by omega) (by omega) ?_
            refine x_i2l X dX9_times_50 ?_
            refine x_ldiv X dX9_times_51 (xi_ne h21) ?_
            refine x_topl (fun m2 hm2 => ?_)
            refine x_lstore_n (lv' := [(2, .long m2), (4, .int (nI k)), (1, .int (nI r)), (0, .ref (G.2.1 37))]) X dX9_times_52 rfl (by decide) rfl ?_
            first | (have hm9 : m2 = qT1 σ r (k + 1) := by rw [qT1, if_neg h21, if_pos h27b]; exact hm2) | skip
            refine x_iinc (k := 1) (v := nI (k + 1)) (lv' := [(4, .int (nI (k + 1))), (2, .long m2), (1, .int (nI r)), (0, .ref (G.2.1 37))]) X dX9_times_53 rfl (xn_inc _) (by decide) rfl ?_
            refine x_goto (tgt := 5) X dX9_times_56 (by decide) ?_
            refine x_pick [0, 1, 2, 3] rfl ?_
            exact ih5 _ (by omega) (k + 1) (by omega) _ hm9 rfl
  refine x_pick [0, 1, 3, 2] rfl ?_
  exact lp5 _ 0 (by omega) _ rfl rfl

set_option maxHeartbeats 4000000 in
set_option maxRecDepth 100000 in
theorem c_X9_leastT {l : Launch} {G : xG} {σ : xS} {nr : Nat} (hr : xgI σ 37 26 = nI nr) (hr2 : nr ≤ 200) {V : Nat} (hV : xgI σ 37 3 = nI V) (hV8 : V ≤ 8) (hb : qLe σ V nr = none) : xFl l G yX9_least cX9_least 9 (Option.some Jvm.ClassFile.FieldType.long) 1 25 [.ref (G.2.1 37)] σ (0) (xsI σ 37 0 1) := by
  refine xM.of (by decide) (Nat.le_of_ble_eq_true rfl) (fun pp ee ss mm aa bel met kk X => ?_)
  have X : xC pp ss mm met kk cX9_least 9 RX9 (Option.some Jvm.ClassFile.FieldType.long) G := X
  show xW pp l ee { frames := 1, cells := 0, slots := 0, locals := 25 } ss mm aa bel met kk 9 G 0 0 (xQ bel G (fun rv_ tv_ => rv_ = some (.long (0)) ∧ tv_ = (xsI σ 37 0 1)) aa ss) 0 [(0, .ref (G.2.1 37))] [] σ
  refine x_iconst (v := nI 0) X dX9_least_0 (by decide) ?_
  refine x_istore_n (lv' := [(1, .int (nI 0)), (0, .ref (G.2.1 37))]) X dX9_least_1 rfl (by decide) rfl ?_
  refine x_lconst (v := 0) X dX9_least_2 (by decide) ?_
  refine x_lstore_n (lv' := [(2, .long 0), (1, .int (nI 0)), (0, .ref (G.2.1 37))]) X dX9_least_3 rfl (by decide) rfl ?_
  refine x_iconst (v := nI 0) X dX9_least_4 (by decide) ?_
  refine x_istore (lv' := [(4, .int (nI 0)), (2, .long 0), (1, .int (nI 0)), (0, .ref (G.2.1 37))]) X dX9_least_5 (by decide) rfl ?_
  have lp7 : ∀ (NN7 : Nat) (n : Nat) (hn : n ≤ nr) (fo : Int32) (be : Int64) (hq : (fo = 0 ∧ qLe σ V n = none ∧ be = 0) ∨ (fo = 1 ∧ qLe σ V n = some be)), nr - n = NN7 → xW pp l ee { frames := 1, cells := 0, slots := 0, locals := 25 } ss mm aa bel met kk 9 G 0 0 (xQ bel G (fun rv_ tv_ => rv_ = some (.long (0)) ∧ tv_ = (xsI σ 37 0 1)) aa ss) 7 [(4, .int (nI n)), (2, .long be), (1, .int fo), (0, .ref (G.2.1 37))] [] (σ) := by
    intro NN7
    induction NN7 using Nat.strongRecOn with
    | ind NN7 ih7 =>
      intro n hn fo be hq hNN7
      refine x_iload X dX9_least_7 rfl ?_
      refine x_aload_n X dX9_least_9 rfl ?_
      refine gf_X9_145 X dX9_least_10 rfl ?_
      rw [hr]
      refine x_icmpge (tgt := 95) X dX9_least_13 (by decide) (fun h13 => ?_) (fun h13 => ?_)
      · skip
        rw [xb_ge (x := nI n) (y := nI nr) (a := n) (b := nr) rfl rfl (by omega) (by omega)] at h13
        rw [show n = nr by omega] at hq
        refine x_aload_n X dX9_least_95 rfl ?_
        refine x_iload_n X dX9_least_96 rfl ?_
        refine x_ifne (tgt := 104) X dX9_least_97 (by decide) (fun h97 => ?_) (fun h97 => ?_)
        · skip
          exact absurd (hq.resolve_left (fun z => h97 z.1)).2 (by rw [hb]; exact fun z => by cases z)
        · skip
          refine x_iconst (v := nI 1) X dX9_least_100 (by decide) ?_
          refine x_goto (tgt := 105) X dX9_least_101 (by decide) ?_
          refine cv_X9_157 X (c_X9_refuses (Or.inr rfl)) dX9_least_105 rfl ⟨by decide, by decide, by decide, by decide⟩ rfl rfl (Nat.le_of_ble_eq_true rfl) (xk_i ?_)
          refine x_ifeq (tgt := 115) X dX9_least_108 (by decide) (fun h108 => ?_) (fun h108 => ?_)
          · skip
            exact absurd h108 (by decide)
          · skip
            refine x_lconst (v := 0) X dX9_least_111 (by decide) ?_
            refine x_goto (tgt := 116) X dX9_least_112 (by decide) ?_
            exact x_lret X dX9_least_116 (xp_l (by first | rfl | simp [*]) (by first | rfl | simp [*]))
      · skip
        rw [xb_ge (x := nI n) (y := nI nr) (a := n) (b := nr) rfl rfl (by omega) (by omega)] at h13
        refine x_aload_n X dX9_least_16 rfl ?_
        refine x_iload X dX9_least_17 rfl ?_
        refine cv_X9_239 X (c_X9_assumptions (by omega)) dX9_least_19 rfl ⟨by decide, by decide, by decide, by decide⟩ rfl rfl (Nat.le_of_ble_eq_true rfl) (xk_i ?_)
        have hcb := qCnt_le (σ := σ) (r := n) (n + 1)
        refine x_ifne (tgt := 44) X dX9_least_22 (by decide) (fun h22 => ?_) (fun h22 => ?_)
        · skip
          rw [xb_ne (x := nI (qCnt σ n (n + 1))) (y := 0) (a := (qCnt σ n (n + 1))) (b := 0) rfl rfl (by omega) (by omega)] at h22
          have hmm : (0 : Int64) = qMm σ V n := by unfold qMm; rw [if_neg (fun z => h22 z.1)]
          refine x_lconst (v := 0) X dX9_least_44 (by decide) ?_
          refine x_topl (fun m hm => ?_)
          refine x_lstore (lv' := [(5, .long m), (4, .int (nI n)), (2, .long be), (1, .int fo), (0, .ref (G.2.1 37))]) X dX9_least_45 (by decide) rfl ?_
          rw [hmm] at hm
          refine x_lload X dX9_least_47 rfl ?_
          refine x_lconst (v := 0) X dX9_least_49 (by decide) ?_
          refine x_lcmp X dX9_least_50 ?_
          refine x_ifle (tgt := 89) X dX9_least_51 (by decide) (fun h51 => ?_) (fun h51 => ?_)
          · skip
            rw [lg_cmp_le] at h51
            rw [hm] at h51
            have hq9 : (fo = 0 ∧ qLe σ V (n + 1) = none ∧ be = 0) ∨ (fo = 1 ∧ qLe σ V (n + 1) = some be) := by rw [qLe_0 h51]; exact hq
            refine x_iinc (k := 1) (v := nI (n + 1)) (lv' := [(4, .int (nI (n + 1))), (5, .long m), (2, .long be), (1, .int fo), (0, .ref (G.2.1 37))]) X dX9_least_89 rfl (xn_inc _) (by decide) rfl ?_
            refine x_goto (tgt := 7) X dX9_least_92 (by decide) ?_
            refine x_pick [0, 2, 3, 4] rfl ?_
            exact ih7 _ (by omega) (n + 1) (by omega) _ _ hq9 rfl
          · skip
            rw [lg_cmp_le] at h51
            rw [hm] at h51
            refine x_aload_n X dX9_least_54 rfl ?_
            refine gf_X9_63 (k' := 53) X dX9_least_55 rfl rfl ?_
            refine x_iload X dX9_least_58 rfl ?_
            refine x_laldN X dX9_least_60 rfl (by omega) (by omega) ?_
            refine x_lload X dX9_least_61 rfl ?_
            refine cs_X9_229 X (c_X9_down (by rw [hm]; exact fun z => h51 (z ▸ Int64.le_refl 0))) dX9_least_63 ⟨by decide, by decide, by decide, by decide⟩ rfl rfl (Nat.le_of_ble_eq_true rfl) (xk_l ?_)
            refine x_lneg X dX9_least_66 ?_
            refine x_topl (fun v hv => ?_)
            refine x_lstore (lv' := [(7, .long v), (5, .long m), (4, .int (nI n)), (2, .long be), (1, .int fo), (0, .ref (G.2.1 37))]) X dX9_least_67 (by decide) rfl ?_
            rw [hm] at hv
            refine x_iload_n X dX9_least_69 rfl ?_
            refine x_ifeq (tgt := 80) X dX9_least_70 (by decide) (fun h70 => ?_) (fun h70 => ?_)
            · skip
              have hq8 := hq.resolve_right (fun z => by rw [z.1] at h70; exact absurd h70 (by decide))
              have hq9 : ((1 : Int32) = 0 ∧ qLe σ V (n + 1) = none ∧ v = 0) ∨ ((1 : Int32) = 1 ∧ qLe σ V (n + 1) = some v) := Or.inr ⟨rfl, by rw [qLe_n h51 hq8.2.1, hv]⟩
              refine x_lload X dX9_least_80 rfl ?_
              refine x_goto (tgt := 86) X dX9_least_82 (by decide) ?_
              refine x_lstore_n (lv' := [(2, .long v), (7, .long v), (5, .long m), (4, .int (nI n)), (1, .int fo), (0, .ref (G.2.1 37))]) X dX9_least_86 rfl (by decide) rfl ?_
              refine x_iconst (v := nI 1) X dX9_least_87 (by decide) ?_
              refine x_istore_n (lv' := [(1, .int (nI 1)), (2, .long v), (7, .long v), (5, .long m), (4, .int (nI n)), (0, .ref (G.2.1 37))]) X dX9_least_88 rfl (by decide) rfl ?_
              refine x_iinc (k := 4) (v := nI (n + 1)) (lv' := [(4, .int (nI (n + 1))), (1, .int (nI 1)), (2, .long v), (7, .long v), (5, .long m), (0, .ref (G.2.1 37))]) X dX9_least_89 rfl (xn_inc _) (by decide) rfl ?_
              refine x_goto (tgt := 7) X dX9_least_92 (by decide) ?_
              refine x_pick [0, 2, 1, 5] rfl ?_
              exact ih7 _ (by omega) (n + 1) (by omega) _ _ hq9 rfl
            · skip
              have hq8 := hq.resolve_left (fun z => h70 z.1)
              refine x_lload X dX9_least_73 rfl ?_
              refine x_lload_n X dX9_least_75 rfl ?_
              refine x_lcmp X dX9_least_76 ?_
              refine x_ifle (tgt := 85) X dX9_least_77 (by decide) (fun h77 => ?_) (fun h77 => ?_)
              · skip
                rw [lg_cmp_le] at h77
                have hq9 : ((1 : Int32) = 0 ∧ qLe σ V (n + 1) = none ∧ be = 0) ∨ ((1 : Int32) = 1 ∧ qLe σ V (n + 1) = some be) := Or.inr ⟨rfl, by rw [qLe_s h51 hq8.2, ← hv, if_pos h77]⟩
                refine x_lload_n X dX9_least_85 rfl ?_
                refine x_lstore_n (lv' := [(2, .long be), (7, .long v), (5, .long m), (4, .int (nI n)), (1, .int fo), (0, .ref (G.2.1 37))]) X dX9_least_86 rfl (by decide) rfl ?_
                refine x_iconst (v := nI 1) X dX9_least_87 (by decide) ?_
                refine x_istore_n (lv' := [(1, .int (nI 1)), (2, .long be), (7, .long v), (5, .long m), (4, .int (nI n)), (0, .ref (G.2.1 37))]) X dX9_least_88 rfl (by decide) rfl ?_
                refine x_iinc (k := 4) (v := nI (n + 1)) (lv' := [(4, .int (nI (n + 1))), (1, .int (nI 1)), (2, .long be), (7, .long v), (5, .long m), (0, .ref (G.2.1 37))]) X dX9_least_89 rfl (xn_inc _) (by decide) rfl ?_
                refine x_goto (tgt := 7) X dX9_least_92 (by decide) ?_
                refine x_pick [0, 2, 1, 5] rfl ?_
                exact ih7 _ (by omega) (n + 1) (by omega) _ _ hq9 rfl
              · skip
                rw [lg_cmp_le] at h77
                have hq9 : ((1 : Int32) = 0 ∧ qLe σ V (n + 1) = none ∧ v = 0) ∨ ((1 : Int32) = 1 ∧ qLe σ V (n + 1) = some v) := Or.inr ⟨rfl, by rw [qLe_s h51 hq8.2, ← hv, if_neg h77]⟩
                refine x_lload X dX9_least_80 rfl ?_
                refine x_goto (tgt := 86) X dX9_least_82 (by decide) ?_
                refine x_lstore_n (lv' := [(2, .long v), (7, .long v), (5, .long m), (4, .int (nI n)), (1, .int fo), (0, .ref (G.2.1 37))]) X dX9_least_86 rfl (by decide) rfl ?_
                refine x_iconst (v := nI 1) X dX9_least_87 (by decide) ?_
                refine x_istore_n (lv' := [(1, .int (nI 1)), (2, .long v), (7, .long v), (5, .long m), (4, .int (nI n)), (0, .ref (G.2.1 37))]) X dX9_least_88 rfl (by decide) rfl ?_
                refine x_iinc (k := 4) (v := nI (n + 1)) (lv' := [(4, .int (nI (n + 1))), (1, .int (nI 1)), (2, .long v), (7, .long v), (5, .long m), (0, .ref (G.2.1 37))]) X dX9_least_89 rfl (xn_inc _) (by decide) rfl ?_
                refine x_goto (tgt := 7) X dX9_least_92 (by decide) ?_
                refine x_pick [0, 2, 1, 5] rfl ?_
                exact ih7 _ (by omega) (n + 1) (by omega) _ _ hq9 rfl
        · skip
          rw [xb_ne (x := nI (qCnt σ n (n + 1))) (y := 0) (a := (qCnt σ n (n + 1))) (b := 0) rfl rfl (by omega) (by omega)] at h22
          refine x_aload_n X dX9_least_25 rfl ?_
          refine gf_X9_66 (k' := 54) X dX9_least_26 rfl rfl ?_
          refine x_iload X dX9_least_29 rfl ?_
          refine x_zaldN X dX9_least_31 rfl (by omega) (by omega) ?_
          refine x_ifne (tgt := 44) X dX9_least_32 (by decide) (fun h32 => ?_) (fun h32 => ?_)
          · skip
            have hmm : (0 : Int64) = qMm σ V n := by unfold qMm; rw [if_neg (fun z => h32 z.2)]
            refine x_lconst (v := 0) X dX9_least_44 (by decide) ?_
            refine x_topl (fun m hm => ?_)
            refine x_lstore (lv' := [(5, .long m), (4, .int (nI n)), (2, .long be), (1, .int fo), (0, .ref (G.2.1 37))]) X dX9_least_45 (by decide) rfl ?_
            rw [hmm] at hm
            refine x_lload X dX9_least_47 rfl ?_
            refine x_lconst (v := 0) X dX9_least_49 (by decide) ?_
            refine x_lcmp X dX9_least_50 ?_
            refine x_ifle (tgt := 89) X dX9_least_51 (by decide) (fun h51 => ?_) (fun h51 => ?_)
            · skip
              rw [lg_cmp_le] at h51
              rw [hm] at h51
              have hq9 : (fo = 0 ∧ qLe σ V (n + 1) = none ∧ be = 0) ∨ (fo = 1 ∧ qLe σ V (n + 1) = some be) := by rw [qLe_0 h51]; exact hq
              refine x_iinc (k := 1) (v := nI (n + 1)) (lv' := [(4, .int (nI (n + 1))), (5, .long m), (2, .long be), (1, .int fo), (0, .ref (G.2.1 37))]) X dX9_least_89 rfl (xn_inc _) (by decide) rfl ?_
              refine x_goto (tgt := 7) X dX9_least_92 (by decide) ?_
              refine x_pick [0, 2, 3, 4] rfl ?_
              exact ih7 _ (by omega) (n + 1) (by omega) _ _ hq9 rfl
            · skip
              rw [lg_cmp_le] at h51
              rw [hm] at h51
              refine x_aload_n X dX9_least_54 rfl ?_
              refine gf_X9_63 (k' := 53) X dX9_least_55 rfl rfl ?_
              refine x_iload X dX9_least_58 rfl ?_
              refine x_laldN X dX9_least_60 rfl (by omega) (by omega) ?_
              refine x_lload X dX9_least_61 rfl ?_
              refine cs_X9_229 X (c_X9_down (by rw [hm]; exact fun z => h51 (z ▸ Int64.le_refl 0))) dX9_least_63 ⟨by decide, by decide, by decide, by decide⟩ rfl rfl (Nat.le_of_ble_eq_true rfl) (xk_l ?_)
              refine x_lneg X dX9_least_66 ?_
              refine x_topl (fun v hv => ?_)
              refine x_lstore (lv' := [(7, .long v), (5, .long m), (4, .int (nI n)), (2, .long be), (1, .int fo), (0, .ref (G.2.1 37))]) X dX9_least_67 (by decide) rfl ?_
              rw [hm] at hv
              refine x_iload_n X dX9_least_69 rfl ?_
              refine x_ifeq (tgt := 80) X dX9_least_70 (by decide) (fun h70 => ?_) (fun h70 => ?_)
              · skip
                have hq8 := hq.resolve_right (fun z => by rw [z.1] at h70; exact absurd h70 (by decide))
                have hq9 : ((1 : Int32) = 0 ∧ qLe σ V (n + 1) = none ∧ v = 0) ∨ ((1 : Int32) = 1 ∧ qLe σ V (n + 1) = some v) := Or.inr ⟨rfl, by rw [qLe_n h51 hq8.2.1, hv]⟩
                refine x_lload X dX9_least_80 rfl ?_
                refine x_goto (tgt := 86) X dX9_least_82 (by decide) ?_
                refine x_lstore_n (lv' := [(2, .long v), (7, .long v), (5, .long m), (4, .int (nI n)), (1, .int fo), (0, .ref (G.2.1 37))]) X dX9_least_86 rfl (by decide) rfl ?_
                refine x_iconst (v := nI 1) X dX9_least_87 (by decide) ?_
                refine x_istore_n (lv' := [(1, .int (nI 1)), (2, .long v), (7, .long v), (5, .long m), (4, .int (nI n)), (0, .ref (G.2.1 37))]) X dX9_least_88 rfl (by decide) rfl ?_
                refine x_iinc (k := 4) (v := nI (n + 1)) (lv' := [(4, .int (nI (n + 1))), (1, .int (nI 1)), (2, .long v), (7, .long v), (5, .long m), (0, .ref (G.2.1 37))]) X dX9_least_89 rfl (xn_inc _) (by decide) rfl ?_
                refine x_goto (tgt := 7) X dX9_least_92 (by decide) ?_
                refine x_pick [0, 2, 1, 5] rfl ?_
                exact ih7 _ (by omega) (n + 1) (by omega) _ _ hq9 rfl
              · skip
                have hq8 := hq.resolve_left (fun z => h70 z.1)
                refine x_lload X dX9_least_73 rfl ?_
                refine x_lload_n X dX9_least_75 rfl ?_
                refine x_lcmp X dX9_least_76 ?_
                refine x_ifle (tgt := 85) X dX9_least_77 (by decide) (fun h77 => ?_) (fun h77 => ?_)
                · skip
                  rw [lg_cmp_le] at h77
                  have hq9 : ((1 : Int32) = 0 ∧ qLe σ V (n + 1) = none ∧ be = 0) ∨ ((1 : Int32) = 1 ∧ qLe σ V (n + 1) = some be) := Or.inr ⟨rfl, by rw [qLe_s h51 hq8.2, ← hv, if_pos h77]⟩
                  refine x_lload_n X dX9_least_85 rfl ?_
                  refine x_lstore_n (lv' := [(2, .long be), (7, .long v), (5, .long m), (4, .int (nI n)), (1, .int fo), (0, .ref (G.2.1 37))]) X dX9_least_86 rfl (by decide) rfl ?_
                  refine x_iconst (v := nI 1) X dX9_least_87 (by decide) ?_
                  refine x_istore_n (lv' := [(1, .int (nI 1)), (2, .long be), (7, .long v), (5, .long m), (4, .int (nI n)), (0, .ref (G.2.1 37))]) X dX9_least_88 rfl (by decide) rfl ?_
                  refine x_iinc (k := 4) (v := nI (n + 1)) (lv' := [(4, .int (nI (n + 1))), (1, .int (nI 1)), (2, .long be), (7, .long v), (5, .long m), (0, .ref (G.2.1 37))]) X dX9_least_89 rfl (xn_inc _) (by decide) rfl ?_
                  refine x_goto (tgt := 7) X dX9_least_92 (by decide) ?_
                  refine x_pick [0, 2, 1, 5] rfl ?_
                  exact ih7 _ (by omega) (n + 1) (by omega) _ _ hq9 rfl
                · skip
                  rw [lg_cmp_le] at h77
                  have hq9 : ((1 : Int32) = 0 ∧ qLe σ V (n + 1) = none ∧ v = 0) ∨ ((1 : Int32) = 1 ∧ qLe σ V (n + 1) = some v) := Or.inr ⟨rfl, by rw [qLe_s h51 hq8.2, ← hv, if_neg h77]⟩
                  refine x_lload X dX9_least_80 rfl ?_
                  refine x_goto (tgt := 86) X dX9_least_82 (by decide) ?_
                  refine x_lstore_n (lv' := [(2, .long v), (7, .long v), (5, .long m), (4, .int (nI n)), (1, .int fo), (0, .ref (G.2.1 37))]) X dX9_least_86 rfl (by decide) rfl ?_
                  refine x_iconst (v := nI 1) X dX9_least_87 (by decide) ?_
                  refine x_istore_n (lv' := [(1, .int (nI 1)), (2, .long v), (7, .long v), (5, .long m), (4, .int (nI n)), (0, .ref (G.2.1 37))]) X dX9_least_88 rfl (by decide) rfl ?_
                  refine x_iinc (k := 4) (v := nI (n + 1)) (lv' := [(4, .int (nI (n + 1))), (1, .int (nI 1)), (2, .long v), (7, .long v), (5, .long m), (0, .ref (G.2.1 37))]) X dX9_least_89 rfl (xn_inc _) (by decide) rfl ?_
                  refine x_goto (tgt := 7) X dX9_least_92 (by decide) ?_
                  refine x_pick [0, 2, 1, 5] rfl ?_
                  exact ih7 _ (by omega) (n + 1) (by omega) _ _ hq9 rfl
          · skip
            have hmm : qTimes σ n V = qMm σ V n := by unfold qMm; rw [if_pos ⟨h22, h32⟩]
            refine x_aload_n X dX9_least_35 rfl ?_
            refine x_iload X dX9_least_36 rfl ?_
            refine cv_X9_253 X (c_X9_times (by omega) hV hV8) dX9_least_38 rfl ⟨by decide, by decide, by decide, by decide⟩ rfl rfl (Nat.le_of_ble_eq_true rfl) (xk_l ?_)
            refine x_goto (tgt := 45) X dX9_least_41 (by decide) ?_
            refine x_topl (fun m hm => ?_)
            refine x_lstore (lv' := [(5, .long m), (4, .int (nI n)), (2, .long be), (1, .int fo), (0, .ref (G.2.1 37))]) X dX9_least_45 (by decide) rfl ?_
            rw [hmm] at hm
            refine x_lload X dX9_least_47 rfl ?_
            refine x_lconst (v := 0) X dX9_least_49 (by decide) ?_
            refine x_lcmp X dX9_least_50 ?_
            refine x_ifle (tgt := 89) X dX9_least_51 (by decide) (fun h51 => ?_) (fun h51 => ?_)
            · skip
              rw [lg_cmp_le] at h51
              rw [hm] at h51
              have hq9 : (fo = 0 ∧ qLe σ V (n + 1) = none ∧ be = 0) ∨ (fo = 1 ∧ qLe σ V (n + 1) = some be) := by rw [qLe_0 h51]; exact hq
              refine x_iinc (k := 1) (v := nI (n + 1)) (lv' := [(4, .int (nI (n + 1))), (5, .long m), (2, .long be), (1, .int fo), (0, .ref (G.2.1 37))]) X dX9_least_89 rfl (xn_inc _) (by decide) rfl ?_
              refine x_goto (tgt := 7) X dX9_least_92 (by decide) ?_
              refine x_pick [0, 2, 3, 4] rfl ?_
              exact ih7 _ (by omega) (n + 1) (by omega) _ _ hq9 rfl
            · skip
              rw [lg_cmp_le] at h51
              rw [hm] at h51
              refine x_aload_n X dX9_least_54 rfl ?_
              refine gf_X9_63 (k' := 53) X dX9_least_55 rfl rfl ?_
              refine x_iload X dX9_least_58 rfl ?_
              refine x_laldN X dX9_least_60 rfl (by omega) (by omega) ?_
              refine x_lload X dX9_least_61 rfl ?_
              refine cs_X9_229 X (c_X9_down (by rw [hm]; exact fun z => h51 (z ▸ Int64.le_refl 0))) dX9_least_63 ⟨by decide, by decide, by decide, by decide⟩ rfl rfl (Nat.le_of_ble_eq_true rfl) (xk_l ?_)
              refine x_lneg X dX9_least_66 ?_
              refine x_topl (fun v hv => ?_)
              refine x_lstore (lv' := [(7, .long v), (5, .long m), (4, .int (nI n)), (2, .long be), (1, .int fo), (0, .ref (G.2.1 37))]) X dX9_least_67 (by decide) rfl ?_
              rw [hm] at hv
              refine x_iload_n X dX9_least_69 rfl ?_
              refine x_ifeq (tgt := 80) X dX9_least_70 (by decide) (fun h70 => ?_) (fun h70 => ?_)
              · skip
                have hq8 := hq.resolve_right (fun z => by rw [z.1] at h70; exact absurd h70 (by decide))
                have hq9 : ((1 : Int32) = 0 ∧ qLe σ V (n + 1) = none ∧ v = 0) ∨ ((1 : Int32) = 1 ∧ qLe σ V (n + 1) = some v) := Or.inr ⟨rfl, by rw [qLe_n h51 hq8.2.1, hv]⟩
                refine x_lload X dX9_least_80 rfl ?_
                refine x_goto (tgt := 86) X dX9_least_82 (by decide) ?_
                refine x_lstore_n (lv' := [(2, .long v), (7, .long v), (5, .long m), (4, .int (nI n)), (1, .int fo), (0, .ref (G.2.1 37))]) X dX9_least_86 rfl (by decide) rfl ?_
                refine x_iconst (v := nI 1) X dX9_least_87 (by decide) ?_
                refine x_istore_n (lv' := [(1, .int (nI 1)), (2, .long v), (7, .long v), (5, .long m), (4, .int (nI n)), (0, .ref (G.2.1 37))]) X dX9_least_88 rfl (by decide) rfl ?_
                refine x_iinc (k := 4) (v := nI (n + 1)) (lv' := [(4, .int (nI (n + 1))), (1, .int (nI 1)), (2, .long v), (7, .long v), (5, .long m), (0, .ref (G.2.1 37))]) X dX9_least_89 rfl (xn_inc _) (by decide) rfl ?_
                refine x_goto (tgt := 7) X dX9_least_92 (by decide) ?_
                refine x_pick [0, 2, 1, 5] rfl ?_
                exact ih7 _ (by omega) (n + 1) (by omega) _ _ hq9 rfl
              · skip
                have hq8 := hq.resolve_left (fun z => h70 z.1)
                refine x_lload X dX9_least_73 rfl ?_
                refine x_lload_n X dX9_least_75 rfl ?_
                refine x_lcmp X dX9_least_76 ?_
                refine x_ifle (tgt := 85) X dX9_least_77 (by decide) (fun h77 => ?_) (fun h77 => ?_)
                · skip
                  rw [lg_cmp_le] at h77
                  have hq9 : ((1 : Int32) = 0 ∧ qLe σ V (n + 1) = none ∧ be = 0) ∨ ((1 : Int32) = 1 ∧ qLe σ V (n + 1) = some be) := Or.inr ⟨rfl, by rw [qLe_s h51 hq8.2, ← hv, if_pos h77]⟩
                  refine x_lload_n X dX9_least_85 rfl ?_
                  refine x_lstore_n (lv' := [(2, .long be), (7, .long v), (5, .long m), (4, .int (nI n)), (1, .int fo), (0, .ref (G.2.1 37))]) X dX9_least_86 rfl (by decide) rfl ?_
                  refine x_iconst (v := nI 1) X dX9_least_87 (by decide) ?_
                  refine x_istore_n (lv' := [(1, .int (nI 1)), (2, .long be), (7, .long v), (5, .long m), (4, .int (nI n)), (0, .ref (G.2.1 37))]) X dX9_least_88 rfl (by decide) rfl ?_
                  refine x_iinc (k := 4) (v := nI (n + 1)) (lv' := [(4, .int (nI (n + 1))), (1, .int (nI 1)), (2, .long be), (7, .long v), (5, .long m), (0, .ref (G.2.1 37))]) X dX9_least_89 rfl (xn_inc _) (by decide) rfl ?_
                  refine x_goto (tgt := 7) X dX9_least_92 (by decide) ?_
                  refine x_pick [0, 2, 1, 5] rfl ?_
                  exact ih7 _ (by omega) (n + 1) (by omega) _ _ hq9 rfl
                · skip
                  rw [lg_cmp_le] at h77
                  have hq9 : ((1 : Int32) = 0 ∧ qLe σ V (n + 1) = none ∧ v = 0) ∨ ((1 : Int32) = 1 ∧ qLe σ V (n + 1) = some v) := Or.inr ⟨rfl, by rw [qLe_s h51 hq8.2, ← hv, if_neg h77]⟩
                  refine x_lload X dX9_least_80 rfl ?_
                  refine x_goto (tgt := 86) X dX9_least_82 (by decide) ?_
                  refine x_lstore_n (lv' := [(2, .long v), (7, .long v), (5, .long m), (4, .int (nI n)), (1, .int fo), (0, .ref (G.2.1 37))]) X dX9_least_86 rfl (by decide) rfl ?_
                  refine x_iconst (v := nI 1) X dX9_least_87 (by decide) ?_
                  refine x_istore_n (lv' := [(1, .int (nI 1)), (2, .long v), (7, .long v), (5, .long m), (4, .int (nI n)), (0, .ref (G.2.1 37))]) X dX9_least_88 rfl (by decide) rfl ?_
                  refine x_iinc (k := 4) (v := nI (n + 1)) (lv' := [(4, .int (nI (n + 1))), (1, .int (nI 1)), (2, .long v), (7, .long v), (5, .long m), (0, .ref (G.2.1 37))]) X dX9_least_89 rfl (xn_inc _) (by decide) rfl ?_
                  refine x_goto (tgt := 7) X dX9_least_92 (by decide) ?_
                  refine x_pick [0, 2, 1, 5] rfl ?_
                  exact ih7 _ (by omega) (n + 1) (by omega) _ _ hq9 rfl
  refine x_pick [0, 1, 2, 3] rfl ?_
  exact lp7 _ 0 (by omega) _ _ (Or.inl ⟨rfl, rfl, rfl⟩) rfl

set_option maxHeartbeats 4000000 in
set_option maxRecDepth 100000 in
theorem c_X9_least {l : Launch} {G : xG} {σ : xS} {nr : Nat} (hr : xgI σ 37 26 = nI nr) (hr2 : nr ≤ 200) {V : Nat} (hV : xgI σ 37 3 = nI V) (hV8 : V ≤ 8) {b : Int64} (hb : qLe σ V nr = some b) : xFl l G yX9_least cX9_least 9 (Option.some Jvm.ClassFile.FieldType.long) 1 25 [.ref (G.2.1 37)] σ (b) (xsI σ 37 0 0) := by
  refine xM.of (by decide) (Nat.le_of_ble_eq_true rfl) (fun pp ee ss mm aa bel met kk X => ?_)
  have X : xC pp ss mm met kk cX9_least 9 RX9 (Option.some Jvm.ClassFile.FieldType.long) G := X
  show xW pp l ee { frames := 1, cells := 0, slots := 0, locals := 25 } ss mm aa bel met kk 9 G 0 0 (xQ bel G (fun rv_ tv_ => rv_ = some (.long (b)) ∧ tv_ = (xsI σ 37 0 0)) aa ss) 0 [(0, .ref (G.2.1 37))] [] σ
  refine x_iconst (v := nI 0) X dX9_least_0 (by decide) ?_
  refine x_istore_n (lv' := [(1, .int (nI 0)), (0, .ref (G.2.1 37))]) X dX9_least_1 rfl (by decide) rfl ?_
  refine x_lconst (v := 0) X dX9_least_2 (by decide) ?_
  refine x_lstore_n (lv' := [(2, .long 0), (1, .int (nI 0)), (0, .ref (G.2.1 37))]) X dX9_least_3 rfl (by decide) rfl ?_
  refine x_iconst (v := nI 0) X dX9_least_4 (by decide) ?_
  refine x_istore (lv' := [(4, .int (nI 0)), (2, .long 0), (1, .int (nI 0)), (0, .ref (G.2.1 37))]) X dX9_least_5 (by decide) rfl ?_
  have lp7 : ∀ (NN7 : Nat) (n : Nat) (hn : n ≤ nr) (fo : Int32) (be : Int64) (hq : (fo = 0 ∧ qLe σ V n = none ∧ be = 0) ∨ (fo = 1 ∧ qLe σ V n = some be)), nr - n = NN7 → xW pp l ee { frames := 1, cells := 0, slots := 0, locals := 25 } ss mm aa bel met kk 9 G 0 0 (xQ bel G (fun rv_ tv_ => rv_ = some (.long (b)) ∧ tv_ = (xsI σ 37 0 0)) aa ss) 7 [(4, .int (nI n)), (2, .long be), (1, .int fo), (0, .ref (G.2.1 37))] [] (σ) := by
    intro NN7
    induction NN7 using Nat.strongRecOn with
    | ind NN7 ih7 =>
      intro n hn fo be hq hNN7
      refine x_iload X dX9_least_7 rfl ?_
      refine x_aload_n X dX9_least_9 rfl ?_
      refine gf_X9_145 X dX9_least_10 rfl ?_
      rw [hr]
      refine x_icmpge (tgt := 95) X dX9_least_13 (by decide) (fun h13 => ?_) (fun h13 => ?_)
      · skip
        rw [xb_ge (x := nI n) (y := nI nr) (a := n) (b := nr) rfl rfl (by omega) (by omega)] at h13
        rw [show n = nr by omega] at hq
        refine x_aload_n X dX9_least_95 rfl ?_
        refine x_iload_n X dX9_least_96 rfl ?_
        refine x_ifne (tgt := 104) X dX9_least_97 (by decide) (fun h97 => ?_) (fun h97 => ?_)
        · skip
          have hbe : be = b := by have z := (hq.resolve_left (fun z => h97 z.1)).2; rw [hb] at z; exact (Option.some.inj z).symm
          refine x_iconst (v := nI 0) X dX9_least_104 (by decide) ?_
          refine cv_X9_157 X (c_X9_refuses (Or.inl rfl)) dX9_least_105 rfl ⟨by decide, by decide, by decide, by decide⟩ rfl rfl (Nat.le_of_ble_eq_true rfl) (xk_i ?_)
          refine x_ifeq (tgt := 115) X dX9_least_108 (by decide) (fun h108 => ?_) (fun h108 => ?_)
          · skip
            refine x_lload_n X dX9_least_115 rfl ?_
            exact x_lret X dX9_least_116 (xp_l (by exact hbe) (by first | rfl | simp [*]))
          · skip
            exact absurd (by decide) h108
        · skip
          exact absurd (hq.resolve_right (fun z => by rw [z.1] at h97; exact absurd h97 (by decide))).2.1 (by rw [hb]; exact fun z => by cases z)
      · skip
        rw [xb_ge (x := nI n) (y := nI nr) (a := n) (b := nr) rfl rfl (by omega) (by omega)] at h13
        refine x_aload_n X dX9_least_16 rfl ?_
        refine x_iload X dX9_least_17 rfl ?_
        refine cv_X9_239 X (c_X9_assumptions (by omega)) dX9_least_19 rfl ⟨by decide, by decide, by decide, by decide⟩ rfl rfl (Nat.le_of_ble_eq_true rfl) (xk_i ?_)
        have hcb := qCnt_le (σ := σ) (r := n) (n + 1)
        refine x_ifne (tgt := 44) X dX9_least_22 (by decide) (fun h22 => ?_) (fun h22 => ?_)
        · skip
          rw [xb_ne (x := nI (qCnt σ n (n + 1))) (y := 0) (a := (qCnt σ n (n + 1))) (b := 0) rfl rfl (by omega) (by omega)] at h22
          have hmm : (0 : Int64) = qMm σ V n := by unfold qMm; rw [if_neg (fun z => h22 z.1)]
          refine x_lconst (v := 0) X dX9_least_44 (by decide) ?_
          refine x_topl (fun m hm => ?_)
          refine x_lstore (lv' := [(5, .long m), (4, .int (nI n)), (2, .long be), (1, .int fo), (0, .ref (G.2.1 37))]) X dX9_least_45 (by decide) rfl ?_
          rw [hmm] at hm
          refine x_lload X dX9_least_47 rfl ?_
          refine x_lconst (v := 0) X dX9_least_49 (by decide) ?_
          refine x_lcmp X dX9_least_50 ?_
          refine x_ifle (tgt := 89) X dX9_least_51 (by decide) (fun h51 => ?_) (fun h51 => ?_)
          · skip
            rw [lg_cmp_le] at h51
            rw [hm] at h51
            have hq9 : (fo = 0 ∧ qLe σ V (n + 1) = none ∧ be = 0) ∨ (fo = 1 ∧ qLe σ V (n + 1) = some be) := by rw [qLe_0 h51]; exact hq
            refine x_iinc (k := 1) (v := nI (n + 1)) (lv' := [(4, .int (nI (n + 1))), (5, .long m), (2, .long be), (1, .int fo), (0, .ref (G.2.1 37))]) X dX9_least_89 rfl (xn_inc _) (by decide) rfl ?_
            refine x_goto (tgt := 7) X dX9_least_92 (by decide) ?_
            refine x_pick [0, 2, 3, 4] rfl ?_
            exact ih7 _ (by omega) (n + 1) (by omega) _ _ hq9 rfl
          · skip
            rw [lg_cmp_le] at h51
            rw [hm] at h51
            refine x_aload_n X dX9_least_54 rfl ?_
            refine gf_X9_63 (k' := 53) X dX9_least_55 rfl rfl ?_
            refine x_iload X dX9_least_58 rfl ?_
            refine x_laldN X dX9_least_60 rfl (by omega) (by omega) ?_
            refine x_lload X dX9_least_61 rfl ?_
            refine cs_X9_229 X (c_X9_down (by rw [hm]; exact fun z => h51 (z ▸ Int64.le_refl 0))) dX9_least_63 ⟨by decide, by decide, by decide, by decide⟩ rfl rfl (Nat.le_of_ble_eq_true rfl) (xk_l ?_)
            refine x_lneg X dX9_least_66 ?_
            refine x_topl (fun v hv => ?_)
            refine x_lstore (lv' := [(7, .long v), (5, .long m), (4, .int (nI n)), (2, .long be), (1, .int fo), (0, .ref (G.2.1 37))]) X dX9_least_67 (by decide) rfl ?_
            rw [hm] at hv
            refine x_iload_n X dX9_least_69 rfl ?_
            refine x_ifeq (tgt := 80) X dX9_least_70 (by decide) (fun h70 => ?_) (fun h70 => ?_)
            · skip
              have hq8 := hq.resolve_right (fun z => by rw [z.1] at h70; exact absurd h70 (by decide))
              have hq9 : ((1 : Int32) = 0 ∧ qLe σ V (n + 1) = none ∧ v = 0) ∨ ((1 : Int32) = 1 ∧ qLe σ V (n + 1) = some v) := Or.inr ⟨rfl, by rw [qLe_n h51 hq8.2.1, hv]⟩
              refine x_lload X dX9_least_80 rfl ?_
              refine x_goto (tgt := 86) X dX9_least_82 (by decide) ?_
              refine x_lstore_n (lv' := [(2, .long v), (7, .long v), (5, .long m), (4, .int (nI n)), (1, .int fo), (0, .ref (G.2.1 37))]) X dX9_least_86 rfl (by decide) rfl ?_
              refine x_iconst (v := nI 1) X dX9_least_87 (by decide) ?_
              refine x_istore_n (lv' := [(1, .int (nI 1)), (2, .long v), (7, .long v), (5, .long m), (4, .int (nI n)), (0, .ref (G.2.1 37))]) X dX9_least_88 rfl (by decide) rfl ?_
              refine x_iinc (k := 4) (v := nI (n + 1)) (lv' := [(4, .int (nI (n + 1))), (1, .int (nI 1)), (2, .long v), (7, .long v), (5, .long m), (0, .ref (G.2.1 37))]) X dX9_least_89 rfl (xn_inc _) (by decide) rfl ?_
              refine x_goto (tgt := 7) X dX9_least_92 (by decide) ?_
              refine x_pick [0, 2, 1, 5] rfl ?_
              exact ih7 _ (by omega) (n + 1) (by omega) _ _ hq9 rfl
            · skip
              have hq8 := hq.resolve_left (fun z => h70 z.1)
              refine x_lload X dX9_least_73 rfl ?_
              refine x_lload_n X dX9_least_75 rfl ?_
              refine x_lcmp X dX9_least_76 ?_
              refine x_ifle (tgt := 85) X dX9_least_77 (by decide) (fun h77 => ?_) (fun h77 => ?_)
              · skip
                rw [lg_cmp_le] at h77
                have hq9 : ((1 : Int32) = 0 ∧ qLe σ V (n + 1) = none ∧ be = 0) ∨ ((1 : Int32) = 1 ∧ qLe σ V (n + 1) = some be) := Or.inr ⟨rfl, by rw [qLe_s h51 hq8.2, ← hv, if_pos h77]⟩
                refine x_lload_n X dX9_least_85 rfl ?_
                refine x_lstore_n (lv' := [(2, .long be), (7, .long v), (5, .long m), (4, .int (nI n)), (1, .int fo), (0, .ref (G.2.1 37))]) X dX9_least_86 rfl (by decide) rfl ?_
                refine x_iconst (v := nI 1) X dX9_least_87 (by decide) ?_
                refine x_istore_n (lv' := [(1, .int (nI 1)), (2, .long be), (7, .long v), (5, .long m), (4, .int (nI n)), (0, .ref (G.2.1 37))]) X dX9_least_88 rfl (by decide) rfl ?_
                refine x_iinc (k := 4) (v := nI (n + 1)) (lv' := [(4, .int (nI (n + 1))), (1, .int (nI 1)), (2, .long be), (7, .long v), (5, .long m), (0, .ref (G.2.1 37))]) X dX9_least_89 rfl (xn_inc _) (by decide) rfl ?_
                refine x_goto (tgt := 7) X dX9_least_92 (by decide) ?_
                refine x_pick [0, 2, 1, 5] rfl ?_
                exact ih7 _ (by omega) (n + 1) (by omega) _ _ hq9 rfl
              · skip
                rw [lg_cmp_le] at h77
                have hq9 : ((1 : Int32) = 0 ∧ qLe σ V (n + 1) = none ∧ v = 0) ∨ ((1 : Int32) = 1 ∧ qLe σ V (n + 1) = some v) := Or.inr ⟨rfl, by rw [qLe_s h51 hq8.2, ← hv, if_neg h77]⟩
                refine x_lload X dX9_least_80 rfl ?_
                refine x_goto (tgt := 86) X dX9_least_82 (by decide) ?_
                refine x_lstore_n (lv' := [(2, .long v), (7, .long v), (5, .long m), (4, .int (nI n)), (1, .int fo), (0, .ref (G.2.1 37))]) X dX9_least_86 rfl (by decide) rfl ?_
                refine x_iconst (v := nI 1) X dX9_least_87 (by decide) ?_
                refine x_istore_n (lv' := [(1, .int (nI 1)), (2, .long v), (7, .long v), (5, .long m), (4, .int (nI n)), (0, .ref (G.2.1 37))]) X dX9_least_88 rfl (by decide) rfl ?_
                refine x_iinc (k := 4) (v := nI (n + 1)) (lv' := [(4, .int (nI (n + 1))), (1, .int (nI 1)), (2, .long v), (7, .long v), (5, .long m), (0, .ref (G.2.1 37))]) X dX9_least_89 rfl (xn_inc _) (by decide) rfl ?_
                refine x_goto (tgt := 7) X dX9_least_92 (by decide) ?_
                refine x_pick [0, 2, 1, 5] rfl ?_
                exact ih7 _ (by omega) (n + 1) (by omega) _ _ hq9 rfl
        · skip
          rw [xb_ne (x := nI (qCnt σ n (n + 1))) (y := 0) (a := (qCnt σ n (n + 1))) (b := 0) rfl rfl (by omega) (by omega)] at h22
          refine x_aload_n X dX9_least_25 rfl ?_
          refine gf_X9_66 (k' := 54) X dX9_least_26 rfl rfl ?_
          refine x_iload X dX9_least_29 rfl ?_
          refine x_zaldN X dX9_least_31 rfl (by omega) (by omega) ?_
          refine x_ifne (tgt := 44) X dX9_least_32 (by decide) (fun h32 => ?_) (fun h32 => ?_)
          · skip
            have hmm : (0 : Int64) = qMm σ V n := by unfold qMm; rw [if_neg (fun z => h32 z.2)]
            refine x_lconst (v := 0) X dX9_least_44 (by decide) ?_
            refine x_topl (fun m hm => ?_)
            refine x_lstore (lv' := [(5, .long m), (4, .int (nI n)), (2, .long be), (1, .int fo), (0, .ref (G.2.1 37))]) X dX9_least_45 (by decide) rfl ?_
            rw [hmm] at hm
            refine x_lload X dX9_least_47 rfl ?_
            refine x_lconst (v := 0) X dX9_least_49 (by decide) ?_
            refine x_lcmp X dX9_least_50 ?_
            refine x_ifle (tgt := 89) X dX9_least_51 (by decide) (fun h51 => ?_) (fun h51 => ?_)
            · skip
              rw [lg_cmp_le] at h51
              rw [hm] at h51
              have hq9 : (fo = 0 ∧ qLe σ V (n + 1) = none ∧ be = 0) ∨ (fo = 1 ∧ qLe σ V (n + 1) = some be) := by rw [qLe_0 h51]; exact hq
              refine x_iinc (k := 1) (v := nI (n + 1)) (lv' := [(4, .int (nI (n + 1))), (5, .long m), (2, .long be), (1, .int fo), (0, .ref (G.2.1 37))]) X dX9_least_89 rfl (xn_inc _) (by decide) rfl ?_
              refine x_goto (tgt := 7) X dX9_least_92 (by decide) ?_
              refine x_pick [0, 2, 3, 4] rfl ?_
              exact ih7 _ (by omega) (n + 1) (by omega) _ _ hq9 rfl
            · skip
              rw [lg_cmp_le] at h51
              rw [hm] at h51
              refine x_aload_n X dX9_least_54 rfl ?_
              refine gf_X9_63 (k' := 53) X dX9_least_55 rfl rfl ?_
              refine x_iload X dX9_least_58 rfl ?_
              refine x_laldN X dX9_least_60 rfl (by omega) (by omega) ?_
              refine x_lload X dX9_least_61 rfl ?_
              refine cs_X9_229 X (c_X9_down (by rw [hm]; exact fun z => h51 (z ▸ Int64.le_refl 0))) dX9_least_63 ⟨by decide, by decide, by decide, by decide⟩ rfl rfl (Nat.le_of_ble_eq_true rfl) (xk_l ?_)
              refine x_lneg X dX9_least_66 ?_
              refine x_topl (fun v hv => ?_)
              refine x_lstore (lv' := [(7, .long v), (5, .long m), (4, .int (nI n)), (2, .long be), (1, .int fo), (0, .ref (G.2.1 37))]) X dX9_least_67 (by decide) rfl ?_
              rw [hm] at hv
              refine x_iload_n X dX9_least_69 rfl ?_
              refine x_ifeq (tgt := 80) X dX9_least_70 (by decide) (fun h70 => ?_) (fun h70 => ?_)
              · skip
                have hq8 := hq.resolve_right (fun z => by rw [z.1] at h70; exact absurd h70 (by decide))
                have hq9 : ((1 : Int32) = 0 ∧ qLe σ V (n + 1) = none ∧ v = 0) ∨ ((1 : Int32) = 1 ∧ qLe σ V (n + 1) = some v) := Or.inr ⟨rfl, by rw [qLe_n h51 hq8.2.1, hv]⟩
                refine x_lload X dX9_least_80 rfl ?_
                refine x_goto (tgt := 86) X dX9_least_82 (by decide) ?_
                refine x_lstore_n (lv' := [(2, .long v), (7, .long v), (5, .long m), (4, .int (nI n)), (1, .int fo), (0, .ref (G.2.1 37))]) X dX9_least_86 rfl (by decide) rfl ?_
                refine x_iconst (v := nI 1) X dX9_least_87 (by decide) ?_
                refine x_istore_n (lv' := [(1, .int (nI 1)), (2, .long v), (7, .long v), (5, .long m), (4, .int (nI n)), (0, .ref (G.2.1 37))]) X dX9_least_88 rfl (by decide) rfl ?_
                refine x_iinc (k := 4) (v := nI (n + 1)) (lv' := [(4, .int (nI (n + 1))), (1, .int (nI 1)), (2, .long v), (7, .long v), (5, .long m), (0, .ref (G.2.1 37))]) X dX9_least_89 rfl (xn_inc _) (by decide) rfl ?_
                refine x_goto (tgt := 7) X dX9_least_92 (by decide) ?_
                refine x_pick [0, 2, 1, 5] rfl ?_
                exact ih7 _ (by omega) (n + 1) (by omega) _ _ hq9 rfl
              · skip
                have hq8 := hq.resolve_left (fun z => h70 z.1)
                refine x_lload X dX9_least_73 rfl ?_
                refine x_lload_n X dX9_least_75 rfl ?_
                refine x_lcmp X dX9_least_76 ?_
                refine x_ifle (tgt := 85) X dX9_least_77 (by decide) (fun h77 => ?_) (fun h77 => ?_)
                · skip
                  rw [lg_cmp_le] at h77
                  have hq9 : ((1 : Int32) = 0 ∧ qLe σ V (n + 1) = none ∧ be = 0) ∨ ((1 : Int32) = 1 ∧ qLe σ V (n + 1) = some be) := Or.inr ⟨rfl, by rw [qLe_s h51 hq8.2, ← hv, if_pos h77]⟩
                  refine x_lload_n X dX9_least_85 rfl ?_
                  refine x_lstore_n (lv' := [(2, .long be), (7, .long v), (5, .long m), (4, .int (nI n)), (1, .int fo), (0, .ref (G.2.1 37))]) X dX9_least_86 rfl (by decide) rfl ?_
                  refine x_iconst (v := nI 1) X dX9_least_87 (by decide) ?_
                  refine x_istore_n (lv' := [(1, .int (nI 1)), (2, .long be), (7, .long v), (5, .long m), (4, .int (nI n)), (0, .ref (G.2.1 37))]) X dX9_least_88 rfl (by decide) rfl ?_
                  refine x_iinc (k := 4) (v := nI (n + 1)) (lv' := [(4, .int (nI (n + 1))), (1, .int (nI 1)), (2, .long be), (7, .long v), (5, .long m), (0, .ref (G.2.1 37))]) X dX9_least_89 rfl (xn_inc _) (by decide) rfl ?_
                  refine x_goto (tgt := 7) X dX9_least_92 (by decide) ?_
                  refine x_pick [0, 2, 1, 5] rfl ?_
                  exact ih7 _ (by omega) (n + 1) (by omega) _ _ hq9 rfl
                · skip
                  rw [lg_cmp_le] at h77
                  have hq9 : ((1 : Int32) = 0 ∧ qLe σ V (n + 1) = none ∧ v = 0) ∨ ((1 : Int32) = 1 ∧ qLe σ V (n + 1) = some v) := Or.inr ⟨rfl, by rw [qLe_s h51 hq8.2, ← hv, if_neg h77]⟩
                  refine x_lload X dX9_least_80 rfl ?_
                  refine x_goto (tgt := 86) X dX9_least_82 (by decide) ?_
                  refine x_lstore_n (lv' := [(2, .long v), (7, .long v), (5, .long m), (4, .int (nI n)), (1, .int fo), (0, .ref (G.2.1 37))]) X dX9_least_86 rfl (by decide) rfl ?_
                  refine x_iconst (v := nI 1) X dX9_least_87 (by decide) ?_
                  refine x_istore_n (lv' := [(1, .int (nI 1)), (2, .long v), (7, .long v), (5, .long m), (4, .int (nI n)), (0, .ref (G.2.1 37))]) X dX9_least_88 rfl (by decide) rfl ?_
                  refine x_iinc (k := 4) (v := nI (n + 1)) (lv' := [(4, .int (nI (n + 1))), (1, .int (nI 1)), (2, .long v), (7, .long v), (5, .long m), (0, .ref (G.2.1 37))]) X dX9_least_89 rfl (xn_inc _) (by decide) rfl ?_
                  refine x_goto (tgt := 7) X dX9_least_92 (by decide) ?_
                  refine x_pick [0, 2, 1, 5] rfl ?_
                  exact ih7 _ (by omega) (n + 1) (by omega) _ _ hq9 rfl
          · skip
            have hmm : qTimes σ n V = qMm σ V n := by unfold qMm; rw [if_pos ⟨h22, h32⟩]
            refine x_aload_n X dX9_least_35 rfl ?_
            refine x_iload X dX9_least_36 rfl ?_
            refine cv_X9_253 X (c_X9_times (by omega) hV hV8) dX9_least_38 rfl ⟨by decide, by decide, by decide, by decide⟩ rfl rfl (Nat.le_of_ble_eq_true rfl) (xk_l ?_)
            refine x_goto (tgt := 45) X dX9_least_41 (by decide) ?_
            refine x_topl (fun m hm => ?_)
            refine x_lstore (lv' := [(5, .long m), (4, .int (nI n)), (2, .long be), (1, .int fo), (0, .ref (G.2.1 37))]) X dX9_least_45 (by decide) rfl ?_
            rw [hmm] at hm
            refine x_lload X dX9_least_47 rfl ?_
            refine x_lconst (v := 0) X dX9_least_49 (by decide) ?_
            refine x_lcmp X dX9_least_50 ?_
            refine x_ifle (tgt := 89) X dX9_least_51 (by decide) (fun h51 => ?_) (fun h51 => ?_)
            · skip
              rw [lg_cmp_le] at h51
              rw [hm] at h51
              have hq9 : (fo = 0 ∧ qLe σ V (n + 1) = none ∧ be = 0) ∨ (fo = 1 ∧ qLe σ V (n + 1) = some be) := by rw [qLe_0 h51]; exact hq
              refine x_iinc (k := 1) (v := nI (n + 1)) (lv' := [(4, .int (nI (n + 1))), (5, .long m), (2, .long be), (1, .int fo), (0, .ref (G.2.1 37))]) X dX9_least_89 rfl (xn_inc _) (by decide) rfl ?_
              refine x_goto (tgt := 7) X dX9_least_92 (by decide) ?_
              refine x_pick [0, 2, 3, 4] rfl ?_
              exact ih7 _ (by omega) (n + 1) (by omega) _ _ hq9 rfl
            · skip
              rw [lg_cmp_le] at h51
              rw [hm] at h51
              refine x_aload_n X dX9_least_54 rfl ?_
              refine gf_X9_63 (k' := 53) X dX9_least_55 rfl rfl ?_
              refine x_iload X dX9_least_58 rfl ?_
              refine x_laldN X dX9_least_60 rfl (by omega) (by omega) ?_
              refine x_lload X dX9_least_61 rfl ?_
              refine cs_X9_229 X (c_X9_down (by rw [hm]; exact fun z => h51 (z ▸ Int64.le_refl 0))) dX9_least_63 ⟨by decide, by decide, by decide, by decide⟩ rfl rfl (Nat.le_of_ble_eq_true rfl) (xk_l ?_)
              refine x_lneg X dX9_least_66 ?_
              refine x_topl (fun v hv => ?_)
              refine x_lstore (lv' := [(7, .long v), (5, .long m), (4, .int (nI n)), (2, .long be), (1, .int fo), (0, .ref (G.2.1 37))]) X dX9_least_67 (by decide) rfl ?_
              rw [hm] at hv
              refine x_iload_n X dX9_least_69 rfl ?_
              refine x_ifeq (tgt := 80) X dX9_least_70 (by decide) (fun h70 => ?_) (fun h70 => ?_)
              · skip
                have hq8 := hq.resolve_right (fun z => by rw [z.1] at h70; exact absurd h70 (by decide))
                have hq9 : ((1 : Int32) = 0 ∧ qLe σ V (n + 1) = none ∧ v = 0) ∨ ((1 : Int32) = 1 ∧ qLe σ V (n + 1) = some v) := Or.inr ⟨rfl, by rw [qLe_n h51 hq8.2.1, hv]⟩
                refine x_lload X dX9_least_80 rfl ?_
                refine x_goto (tgt := 86) X dX9_least_82 (by decide) ?_
                refine x_lstore_n (lv' := [(2, .long v), (7, .long v), (5, .long m), (4, .int (nI n)), (1, .int fo), (0, .ref (G.2.1 37))]) X dX9_least_86 rfl (by decide) rfl ?_
                refine x_iconst (v := nI 1) X dX9_least_87 (by decide) ?_
                refine x_istore_n (lv' := [(1, .int (nI 1)), (2, .long v), (7, .long v), (5, .long m), (4, .int (nI n)), (0, .ref (G.2.1 37))]) X dX9_least_88 rfl (by decide) rfl ?_
                refine x_iinc (k := 4) (v := nI (n + 1)) (lv' := [(4, .int (nI (n + 1))), (1, .int (nI 1)), (2, .long v), (7, .long v), (5, .long m), (0, .ref (G.2.1 37))]) X dX9_least_89 rfl (xn_inc _) (by decide) rfl ?_
                refine x_goto (tgt := 7) X dX9_least_92 (by decide) ?_
                refine x_pick [0, 2, 1, 5] rfl ?_
                exact ih7 _ (by omega) (n + 1) (by omega) _ _ hq9 rfl
              · skip
                have hq8 := hq.resolve_left (fun z => h70 z.1)
                refine x_lload X dX9_least_73 rfl ?_
                refine x_lload_n X dX9_least_75 rfl ?_
                refine x_lcmp X dX9_least_76 ?_
                refine x_ifle (tgt := 85) X dX9_least_77 (by decide) (fun h77 => ?_) (fun h77 => ?_)
                · skip
                  rw [lg_cmp_le] at h77
                  have hq9 : ((1 : Int32) = 0 ∧ qLe σ V (n + 1) = none ∧ be = 0) ∨ ((1 : Int32) = 1 ∧ qLe σ V (n + 1) = some be) := Or.inr ⟨rfl, by rw [qLe_s h51 hq8.2, ← hv, if_pos h77]⟩
                  refine x_lload_n X dX9_least_85 rfl ?_
                  refine x_lstore_n (lv' := [(2, .long be), (7, .long v), (5, .long m), (4, .int (nI n)), (1, .int fo), (0, .ref (G.2.1 37))]) X dX9_least_86 rfl (by decide) rfl ?_
                  refine x_iconst (v := nI 1) X dX9_least_87 (by decide) ?_
                  refine x_istore_n (lv' := [(1, .int (nI 1)), (2, .long be), (7, .long v), (5, .long m), (4, .int (nI n)), (0, .ref (G.2.1 37))]) X dX9_least_88 rfl (by decide) rfl ?_
                  refine x_iinc (k := 4) (v := nI (n + 1)) (lv' := [(4, .int (nI (n + 1))), (1, .int (nI 1)), (2, .long be), (7, .long v), (5, .long m), (0, .ref (G.2.1 37))]) X dX9_least_89 rfl (xn_inc _) (by decide) rfl ?_
                  refine x_goto (tgt := 7) X dX9_least_92 (by decide) ?_
                  refine x_pick [0, 2, 1, 5] rfl ?_
                  exact ih7 _ (by omega) (n + 1) (by omega) _ _ hq9 rfl
                · skip
                  rw [lg_cmp_le] at h77
                  have hq9 : ((1 : Int32) = 0 ∧ qLe σ V (n + 1) = none ∧ v = 0) ∨ ((1 : Int32) = 1 ∧ qLe σ V (n + 1) = some v) := Or.inr ⟨rfl, by rw [qLe_s h51 hq8.2, ← hv, if_neg h77]⟩
                  refine x_lload X dX9_least_80 rfl ?_
                  refine x_goto (tgt := 86) X dX9_least_82 (by decide) ?_
                  refine x_lstore_n (lv' := [(2, .long v), (7, .long v), (5, .long m), (4, .int (nI n)), (1, .int fo), (0, .ref (G.2.1 37))]) X dX9_least_86 rfl (by decide) rfl ?_
                  refine x_iconst (v := nI 1) X dX9_least_87 (by decide) ?_
                  refine x_istore_n (lv' := [(1, .int (nI 1)), (2, .long v), (7, .long v), (5, .long m), (4, .int (nI n)), (0, .ref (G.2.1 37))]) X dX9_least_88 rfl (by decide) rfl ?_
                  refine x_iinc (k := 4) (v := nI (n + 1)) (lv' := [(4, .int (nI (n + 1))), (1, .int (nI 1)), (2, .long v), (7, .long v), (5, .long m), (0, .ref (G.2.1 37))]) X dX9_least_89 rfl (xn_inc _) (by decide) rfl ?_
                  refine x_goto (tgt := 7) X dX9_least_92 (by decide) ?_
                  refine x_pick [0, 2, 1, 5] rfl ?_
                  exact ih7 _ (by omega) (n + 1) (by omega) _ _ hq9 rfl
  refine x_pick [0, 1, 2, 3] rfl ?_
  exact lp7 _ 0 (by omega) _ _ (Or.inl ⟨rfl, rfl, rfl⟩) rfl

set_option maxHeartbeats 4000000 in
set_option maxRecDepth 100000 in
theorem c_X9_takeE {l : Launch} {G : xG} {σ : xS} {x : Int32} (hz : xgI σ 37 20 = nI 1500) : xFv l G yX9_take cX9_take 3 (Option.none : Option Jvm.ClassFile.FieldType) 3 80 [.ref (G.2.1 37), .int x] σ (qFails σ 9 (xgI σ 37 26) 1500) := by
  refine xM.of (by decide) (Nat.le_of_ble_eq_true rfl) (fun pp ee ss mm aa bel met kk X => ?_)
  have X : xC pp ss mm met kk cX9_take 3 RX9 (Option.none : Option Jvm.ClassFile.FieldType) G := X
  show xW pp l ee { frames := 3, cells := 0, slots := 0, locals := 80 } ss mm aa bel met kk 3 G 0 0 (xQ bel G (fun rv_ tv_ => rv_ = none ∧ tv_ = (qFails σ 9 (xgI σ 37 26) 1500)) aa ss) 0 [(0, .ref (G.2.1 37)), (1, .int x)] [] σ
  refine x_aload_n X dX9_take_0 rfl ?_
  refine gf_X9_136 X dX9_take_1 rfl ?_
  rw [hz]
  refine x_sipush (v := nI 1500) X dX9_take_4 (by decide) ?_
  refine x_icmpne (tgt := 24) X dX9_take_7 (by decide) (fun h7 => ?_) (fun h7 => ?_)
  · skip
    exact absurd h7 (by decide)
  · skip
    rw [xb_ne (x := nI 1500) (y := nI 1500) (a := 1500) (b := 1500) rfl rfl (by omega) (by omega)] at h7
    refine x_aload_n X dX9_take_10 rfl ?_
    refine x_bipush (v := nI 9) X dX9_take_11 (by decide) ?_
    refine x_aload_n X dX9_take_13 rfl ?_
    refine gf_X9_145 X dX9_take_14 rfl ?_
    refine x_sipush (v := nI 1500) X dX9_take_17 (by decide) ?_
    refine cv_X9_169 X c_X9_fails dX9_take_20 rfl ⟨by decide, by decide, by decide, by decide⟩ rfl rfl (Nat.le_of_ble_eq_true rfl) (xk_v ?_)
    exact x_vret X dX9_take_23 (⟨rfl, by first | rfl | simp [*]⟩)

set_option maxHeartbeats 4000000 in
set_option maxRecDepth 100000 in
theorem c_X9_takeD {l : Launch} {G : xG} {σ : xS} {x : Int32} (hz : xgI σ 37 20 = nI 0) : xFv l G yX9_take cX9_take 3 (Option.none : Option Jvm.ClassFile.FieldType) 3 80 [.ref (G.2.1 37), .int x] σ (if x = xgI σ 37 16 then qPt σ 0 x else qFails (qPt σ 0 x) 1 (-1) 0) := by
  refine xM.of (by decide) (Nat.le_of_ble_eq_true rfl) (fun pp ee ss mm aa bel met kk X => ?_)
  have X : xC pp ss mm met kk cX9_take 3 RX9 (Option.none : Option Jvm.ClassFile.FieldType) G := X
  show xW pp l ee { frames := 3, cells := 0, slots := 0, locals := 80 } ss mm aa bel met kk 3 G 0 0 (xQ bel G (fun rv_ tv_ => rv_ = none ∧ tv_ = (if x = xgI σ 37 16 then qPt σ 0 x else qFails (qPt σ 0 x) 1 (-1) 0)) aa ss) 0 [(0, .ref (G.2.1 37)), (1, .int x)] [] σ
  refine x_aload_n X dX9_take_0 rfl ?_
  refine gf_X9_136 X dX9_take_1 rfl ?_
  rw [hz]
  refine x_sipush (v := nI 1500) X dX9_take_4 (by decide) ?_
  refine x_icmpne (tgt := 24) X dX9_take_7 (by decide) (fun h7 => ?_) (fun h7 => ?_)
  · skip
    rw [xb_ne (x := nI 0) (y := nI 1500) (a := 0) (b := 1500) rfl rfl (by omega) (by omega)] at h7
    refine x_aload_n X dX9_take_24 rfl ?_
    refine gf_X9_46 (k' := 50) X dX9_take_25 rfl rfl ?_
    refine x_aload_n X dX9_take_28 rfl ?_
    refine gf_X9_136 X dX9_take_29 rfl ?_
    rw [hz]
    refine x_iload_n X dX9_take_32 rfl ?_
    refine x_iastN X dX9_take_33 rfl (by omega) (by omega) ?_
    refine x_aload_n X dX9_take_34 rfl ?_
    refine x_dup X dX9_take_35 rfl ?_
    refine gf_X9_136 X dX9_take_36 rfl ?_
    rw [xgI_n (by omega), hz]
    refine x_iconst (v := nI 1) X dX9_take_39 (by decide) ?_
    refine x_iadd X dX9_take_40 ?_
    rw [nI_add 0 1]
    refine pf_X9_136 X dX9_take_41 rfl ?_
    refine x_aload_n X dX9_take_44 rfl ?_
    refine gf_X9_136 X dX9_take_45 rfl ?_
    rw [xgI_s]
    refine x_iconst (v := nI 1) X dX9_take_48 (by decide) ?_
    refine x_icmpne (tgt := 68) X dX9_take_49 (by decide) (fun h49 => ?_) (fun h49 => ?_)
    · skip
      rw [xb_ne (x := nI (0 + 1)) (y := nI 1) (a := (0 + 1)) (b := 1) rfl rfl (by omega) (by omega)] at h49
      exact absurd rfl h49
    · skip
      rw [xb_ne (x := nI (0 + 1)) (y := nI 1) (a := (0 + 1)) (b := 1) rfl rfl (by omega) (by omega)] at h49
      refine x_iload_n X dX9_take_52 rfl ?_
      refine x_aload_n X dX9_take_53 rfl ?_
      refine gf_X9_124 X dX9_take_54 rfl ?_
      rw [xgI_n (by omega), xgI_n (by omega)]
      refine x_icmpeq (tgt := 67) X dX9_take_57 (by decide) (fun h57 => ?_) (fun h57 => ?_)
      · skip
        exact x_vret X dX9_take_67 (⟨rfl, by first | exact (if_pos h57).symm | exact (if_neg h57).symm⟩)
      · skip
        refine x_aload_n X dX9_take_60 rfl ?_
        refine x_iconst (v := nI 1) X dX9_take_61 (by decide) ?_
        refine x_iconst (v := (-1)) X dX9_take_62 (by decide) ?_
        refine x_iconst (v := nI 0) X dX9_take_63 (by decide) ?_
        refine cv_X9_169 X c_X9_fails dX9_take_64 rfl ⟨by decide, by decide, by decide, by decide⟩ rfl rfl (Nat.le_of_ble_eq_true rfl) (xk_v ?_)
        exact x_vret X dX9_take_67 (⟨rfl, by first | exact (if_pos h57).symm | exact (if_neg h57).symm⟩)
  · skip
    exact absurd h7 (by decide)

set_option maxHeartbeats 4000000 in
set_option maxRecDepth 100000 in
theorem c_X9_takeJ {l : Launch} {G : xG} {σ : xS} {x : Int32} {z : Nat} (hz : xgI σ 37 20 = nI z) (hz0 : 0 < z) (hz2 : z < 1500) {w : Int32} (hJ : xFi l G yX9_judged cX9_judged 3 (Option.some Jvm.ClassFile.FieldType.int) 2 47 [.ref (G.2.1 37)] (qPt σ z x) (w) (qPt σ z x)) (hw : ¬ w = 0) : xFv l G yX9_take cX9_take 3 (Option.none : Option Jvm.ClassFile.FieldType) 3 80 [.ref (G.2.1 37), .int x] σ (qFails (qPt σ z x) w (xgI σ 37 26) (nI z)) := by
  refine xM.of (by decide) (Nat.le_of_ble_eq_true rfl) (fun pp ee ss mm aa bel met kk X => ?_)
  have X : xC pp ss mm met kk cX9_take 3 RX9 (Option.none : Option Jvm.ClassFile.FieldType) G := X
  show xW pp l ee { frames := 3, cells := 0, slots := 0, locals := 80 } ss mm aa bel met kk 3 G 0 0 (xQ bel G (fun rv_ tv_ => rv_ = none ∧ tv_ = (qFails (qPt σ z x) w (xgI σ 37 26) (nI z))) aa ss) 0 [(0, .ref (G.2.1 37)), (1, .int x)] [] σ
  refine x_aload_n X dX9_take_0 rfl ?_
  refine gf_X9_136 X dX9_take_1 rfl ?_
  rw [hz]
  refine x_sipush (v := nI 1500) X dX9_take_4 (by decide) ?_
  refine x_icmpne (tgt := 24) X dX9_take_7 (by decide) (fun h7 => ?_) (fun h7 => ?_)
  · skip
    rw [xb_ne (x := nI z) (y := nI 1500) (a := z) (b := 1500) rfl rfl (by omega) (by omega)] at h7
    refine x_aload_n X dX9_take_24 rfl ?_
    refine gf_X9_46 (k' := 50) X dX9_take_25 rfl rfl ?_
    refine x_aload_n X dX9_take_28 rfl ?_
    refine gf_X9_136 X dX9_take_29 rfl ?_
    rw [hz]
    refine x_iload_n X dX9_take_32 rfl ?_
    refine x_iastN X dX9_take_33 rfl (by omega) (by omega) ?_
    refine x_aload_n X dX9_take_34 rfl ?_
    refine x_dup X dX9_take_35 rfl ?_
    refine gf_X9_136 X dX9_take_36 rfl ?_
    rw [xgI_n (by omega), hz]
    refine x_iconst (v := nI 1) X dX9_take_39 (by decide) ?_
    refine x_iadd X dX9_take_40 ?_
    rw [nI_add z 1]
    refine pf_X9_136 X dX9_take_41 rfl ?_
    refine x_aload_n X dX9_take_44 rfl ?_
    refine gf_X9_136 X dX9_take_45 rfl ?_
    rw [xgI_s]
    refine x_iconst (v := nI 1) X dX9_take_48 (by decide) ?_
    refine x_icmpne (tgt := 68) X dX9_take_49 (by decide) (fun h49 => ?_) (fun h49 => ?_)
    · skip
      rw [xb_ne (x := nI (z + 1)) (y := nI 1) (a := (z + 1)) (b := 1) rfl rfl (by omega) (by omega)] at h49
      refine x_aload_n X dX9_take_68 rfl ?_
      refine cv_X9_173 X hJ dX9_take_69 rfl ⟨by decide, by decide, by decide, by decide⟩ rfl rfl (Nat.le_of_ble_eq_true rfl) (xk_i ?_)
      refine x_topi (fun w2 hw2 => ?_)
      refine x_istore_n (lv' := [(2, .int w2), (0, .ref (G.2.1 37)), (1, .int x)]) X dX9_take_72 rfl (by decide) rfl ?_
      refine x_iload_n X dX9_take_73 rfl ?_
      refine x_ifeq (tgt := 95) X dX9_take_74 (by decide) (fun h74 => ?_) (fun h74 => ?_)
      · skip
        exact absurd (hw2 ▸ h74) hw
      · skip
        refine x_aload_n X dX9_take_77 rfl ?_
        refine x_iload_n X dX9_take_78 rfl ?_
        refine x_aload_n X dX9_take_79 rfl ?_
        refine gf_X9_145 X dX9_take_80 rfl ?_
        rw [show xgI (qPt σ z x) 37 26 = xgI σ 37 26 from rfl]
        refine x_aload_n X dX9_take_83 rfl ?_
        refine gf_X9_136 X dX9_take_84 rfl ?_
        rw [show xgI (qPt σ z x) 37 20 = nI (z + 1) from rfl]
        refine x_iconst (v := nI 1) X dX9_take_87 (by decide) ?_
        refine x_isub X dX9_take_88 ?_
        rw [pk_sub (a := (z + 1)) (b := 1) (by omega)]
        rw [show (z + 1) - 1 = z by omega]
        refine cv_X9_169 X c_X9_fails dX9_take_89 rfl ⟨by decide, by decide, by decide, by decide⟩ rfl rfl (Nat.le_of_ble_eq_true rfl) (xk_v ?_)
        refine x_goto (tgt := 160) X dX9_take_92 (by decide) ?_
        exact x_vret X dX9_take_160 (⟨rfl, by rw [hw2]⟩)
    · skip
      rw [xb_ne (x := nI (z + 1)) (y := nI 1) (a := (z + 1)) (b := 1) rfl rfl (by omega) (by omega)] at h49
      omega
  · skip
    rw [xb_ne (x := nI z) (y := nI 1500) (a := z) (b := 1500) rfl rfl (by omega) (by omega)] at h7
    omega

set_option maxHeartbeats 4000000 in
set_option maxRecDepth 100000 in
theorem c_X9_takeN {l : Launch} {G : xG} {σ : xS} {x : Int32} {z : Nat} (hz : xgI σ 37 20 = nI z) (hz0 : 0 < z) (hz2 : z < 1500) (hJ : xFi l G yX9_judged cX9_judged 3 (Option.some Jvm.ClassFile.FieldType.int) 2 47 [.ref (G.2.1 37)] (qPt σ z x) (0) (qPt σ z x)) (hW : xFi l G yX9_isWhole cX9_isWhole 2 (Option.some Jvm.ClassFile.FieldType.boolean) 1 22 [.ref (G.2.1 37)] (qPt σ z x) (0) (qPt σ z x))  : xFv l G yX9_take cX9_take 3 (Option.none : Option Jvm.ClassFile.FieldType) 3 80 [.ref (G.2.1 37), .int x] σ (qPt σ z x) := by
  refine xM.of (by decide) (Nat.le_of_ble_eq_true rfl) (fun pp ee ss mm aa bel met kk X => ?_)
  have X : xC pp ss mm met kk cX9_take 3 RX9 (Option.none : Option Jvm.ClassFile.FieldType) G := X
  show xW pp l ee { frames := 3, cells := 0, slots := 0, locals := 80 } ss mm aa bel met kk 3 G 0 0 (xQ bel G (fun rv_ tv_ => rv_ = none ∧ tv_ = (qPt σ z x)) aa ss) 0 [(0, .ref (G.2.1 37)), (1, .int x)] [] σ
  refine x_aload_n X dX9_take_0 rfl ?_
  refine gf_X9_136 X dX9_take_1 rfl ?_
  rw [hz]
  refine x_sipush (v := nI 1500) X dX9_take_4 (by decide) ?_
  refine x_icmpne (tgt := 24) X dX9_take_7 (by decide) (fun h7 => ?_) (fun h7 => ?_)
  · skip
    rw [xb_ne (x := nI z) (y := nI 1500) (a := z) (b := 1500) rfl rfl (by omega) (by omega)] at h7
    refine x_aload_n X dX9_take_24 rfl ?_
    refine gf_X9_46 (k' := 50) X dX9_take_25 rfl rfl ?_
    refine x_aload_n X dX9_take_28 rfl ?_
    refine gf_X9_136 X dX9_take_29 rfl ?_
    rw [hz]
    refine x_iload_n X dX9_take_32 rfl ?_
    refine x_iastN X dX9_take_33 rfl (by omega) (by omega) ?_
    refine x_aload_n X dX9_take_34 rfl ?_
    refine x_dup X dX9_take_35 rfl ?_
    refine gf_X9_136 X dX9_take_36 rfl ?_
    rw [xgI_n (by omega), hz]
    refine x_iconst (v := nI 1) X dX9_take_39 (by decide) ?_
    refine x_iadd X dX9_take_40 ?_
    rw [nI_add z 1]
    refine pf_X9_136 X dX9_take_41 rfl ?_
    refine x_aload_n X dX9_take_44 rfl ?_
    refine gf_X9_136 X dX9_take_45 rfl ?_
    rw [xgI_s]
    refine x_iconst (v := nI 1) X dX9_take_48 (by decide) ?_
    refine x_icmpne (tgt := 68) X dX9_take_49 (by decide) (fun h49 => ?_) (fun h49 => ?_)
    · skip
      rw [xb_ne (x := nI (z + 1)) (y := nI 1) (a := (z + 1)) (b := 1) rfl rfl (by omega) (by omega)] at h49
      refine x_aload_n X dX9_take_68 rfl ?_
      refine cv_X9_173 X hJ dX9_take_69 rfl ⟨by decide, by decide, by decide, by decide⟩ rfl rfl (Nat.le_of_ble_eq_true rfl) (xk_i ?_)
      refine x_istore_n (lv' := [(2, .int 0), (0, .ref (G.2.1 37)), (1, .int x)]) X dX9_take_72 rfl (by decide) rfl ?_
      refine x_iload_n X dX9_take_73 rfl ?_
      refine x_ifeq (tgt := 95) X dX9_take_74 (by decide) (fun h74 => ?_) (fun h74 => ?_)
      · skip
        refine x_aload_n X dX9_take_95 rfl ?_
        refine cv_X9_177 X hW dX9_take_96 rfl ⟨by decide, by decide, by decide, by decide⟩ rfl rfl (Nat.le_of_ble_eq_true rfl) (xk_i ?_)
        refine x_ifeq (tgt := 160) X dX9_take_99 (by decide) (fun h99 => ?_) (fun h99 => ?_)
        · skip
          exact x_vret X dX9_take_160 (⟨rfl, by first | rfl | simp [*]⟩)
        · skip
          exact absurd (by decide) h99
      · skip
        exact absurd (by decide) h74
    · skip
      rw [xb_ne (x := nI (z + 1)) (y := nI 1) (a := (z + 1)) (b := 1) rfl rfl (by omega) (by omega)] at h49
      omega
  · skip
    rw [xb_ne (x := nI z) (y := nI 1500) (a := z) (b := 1500) rfl rfl (by omega) (by omega)] at h7
    omega

set_option maxHeartbeats 4000000 in
set_option maxRecDepth 100000 in
theorem c_X9_takeW {l : Launch} {G : xG} {σ : xS} {x : Int32} {z : Nat} (hz : xgI σ 37 20 = nI z) (hz0 : 0 < z) (hz2 : z < 1500) (hJ : xFi l G yX9_judged cX9_judged 3 (Option.some Jvm.ClassFile.FieldType.int) 2 47 [.ref (G.2.1 37)] (qPt σ z x) (0) (qPt σ z x)) (hW : xFi l G yX9_isWhole cX9_isWhole 2 (Option.some Jvm.ClassFile.FieldType.boolean) 1 22 [.ref (G.2.1 37)] (qPt σ z x) (1) (qPt σ z x)) {PW : Option Value → xS → Prop} (hK : xM l G yX9_works cX9_works 6 (Option.some Jvm.ClassFile.FieldType.int) 2 55 [.ref (G.2.1 37)] (qPt σ z x) PW) {nr f : Nat} (hr2 : nr < 200) (hPW : ∀ r t, PW r t → ∃ y : Int32, r = some (.int y) ∧ xgI t 37 20 = nI (z + 1) ∧ xgI t 37 25 = nI f ∧ xgI t 37 26 = nI nr)  : xM l G yX9_take cX9_take 3 (Option.none : Option Jvm.ClassFile.FieldType) 3 80 [.ref (G.2.1 37), .int x] σ (qTk PW nr f z) := by
  refine xM.of (by decide) (Nat.le_of_ble_eq_true rfl) (fun pp ee ss mm aa bel met kk X => ?_)
  have X : xC pp ss mm met kk cX9_take 3 RX9 (Option.none : Option Jvm.ClassFile.FieldType) G := X
  show xW pp l ee { frames := 3, cells := 0, slots := 0, locals := 80 } ss mm aa bel met kk 3 G 0 0 (xQ bel G (qTk PW nr f z) aa ss) 0 [(0, .ref (G.2.1 37)), (1, .int x)] [] σ
  refine x_aload_n X dX9_take_0 rfl ?_
  refine gf_X9_136 X dX9_take_1 rfl ?_
  rw [hz]
  refine x_sipush (v := nI 1500) X dX9_take_4 (by decide) ?_
  refine x_icmpne (tgt := 24) X dX9_take_7 (by decide) (fun h7 => ?_) (fun h7 => ?_)
  · skip
    rw [xb_ne (x := nI z) (y := nI 1500) (a := z) (b := 1500) rfl rfl (by omega) (by omega)] at h7
    refine x_aload_n X dX9_take_24 rfl ?_
    refine gf_X9_46 (k' := 50) X dX9_take_25 rfl rfl ?_
    refine x_aload_n X dX9_take_28 rfl ?_
    refine gf_X9_136 X dX9_take_29 rfl ?_
    rw [hz]
    refine x_iload_n X dX9_take_32 rfl ?_
    refine x_iastN X dX9_take_33 rfl (by omega) (by omega) ?_
    refine x_aload_n X dX9_take_34 rfl ?_
    refine x_dup X dX9_take_35 rfl ?_
    refine gf_X9_136 X dX9_take_36 rfl ?_
    rw [xgI_n (by omega), hz]
    refine x_iconst (v := nI 1) X dX9_take_39 (by decide) ?_
    refine x_iadd X dX9_take_40 ?_
    rw [nI_add z 1]
    refine pf_X9_136 X dX9_take_41 rfl ?_
    refine x_aload_n X dX9_take_44 rfl ?_
    refine gf_X9_136 X dX9_take_45 rfl ?_
    rw [xgI_s]
    refine x_iconst (v := nI 1) X dX9_take_48 (by decide) ?_
    refine x_icmpne (tgt := 68) X dX9_take_49 (by decide) (fun h49 => ?_) (fun h49 => ?_)
    · skip
      rw [xb_ne (x := nI (z + 1)) (y := nI 1) (a := (z + 1)) (b := 1) rfl rfl (by omega) (by omega)] at h49
      refine x_aload_n X dX9_take_68 rfl ?_
      refine cv_X9_173 X hJ dX9_take_69 rfl ⟨by decide, by decide, by decide, by decide⟩ rfl rfl (Nat.le_of_ble_eq_true rfl) (xk_i ?_)
      refine x_istore_n (lv' := [(2, .int 0), (0, .ref (G.2.1 37)), (1, .int x)]) X dX9_take_72 rfl (by decide) rfl ?_
      refine x_iload_n X dX9_take_73 rfl ?_
      refine x_ifeq (tgt := 95) X dX9_take_74 (by decide) (fun h74 => ?_) (fun h74 => ?_)
      · skip
        refine x_aload_n X dX9_take_95 rfl ?_
        refine cv_X9_177 X hW dX9_take_96 rfl ⟨by decide, by decide, by decide, by decide⟩ rfl rfl (Nat.le_of_ble_eq_true rfl) (xk_i ?_)
        refine x_ifeq (tgt := 160) X dX9_take_99 (by decide) (fun h99 => ?_) (fun h99 => ?_)
        · skip
          exact absurd h99 (by decide)
        · skip
          refine x_aload_n X dX9_take_102 rfl ?_
          refine cv_X9_181 X hK dX9_take_103 rfl ⟨by decide, by decide, by decide, by decide⟩ rfl rfl (Nat.le_of_ble_eq_true rfl) (fun r0 u hpo => ?_)
          obtain ⟨y, rfl, u1, u2, u3⟩ := hPW r0 u hpo
          refine x_istore_n (lv' := [(2, .int y), (0, .ref (G.2.1 37)), (1, .int x)]) X dX9_take_106 rfl (by decide) rfl ?_
          refine x_iload_n X dX9_take_107 rfl ?_
          refine x_ifeq (tgt := 129) X dX9_take_108 (by decide) (fun h108 => ?_) (fun h108 => ?_)
          · skip
            refine x_aload_n X dX9_take_129 rfl ?_
            refine gf_X9_56 (k' := 51) X dX9_take_130 rfl rfl ?_
            refine x_aload_n X dX9_take_133 rfl ?_
            refine gf_X9_145 X dX9_take_134 rfl ?_
            rw [u3]
            refine x_aload_n X dX9_take_137 rfl ?_
            refine gf_X9_142 X dX9_take_138 rfl ?_
            rw [u2]
            refine x_iastN X dX9_take_141 rfl (by omega) (by omega) ?_
            refine x_aload_n X dX9_take_142 rfl ?_
            refine x_dup X dX9_take_143 rfl ?_
            refine gf_X9_145 X dX9_take_144 rfl ?_
            rw [xgI_n (by omega), u3]
            refine x_iconst (v := nI 1) X dX9_take_147 (by decide) ?_
            refine x_iadd X dX9_take_148 ?_
            rw [nI_add nr 1]
            refine pf_X9_145 X dX9_take_149 rfl ?_
            refine x_aload_n X dX9_take_152 rfl ?_
            refine x_aload_n X dX9_take_153 rfl ?_
            refine gf_X9_136 X dX9_take_154 rfl ?_
            rw [xgI_n (by omega), xgI_n (by omega), u1]
            refine pf_X9_142 X dX9_take_157 rfl ?_
            exact x_vret X dX9_take_160 (by first | exact ⟨rfl, y, u, hpo, Or.inl ⟨h108, rfl⟩⟩ | exact ⟨rfl, y, u, hpo, Or.inr ⟨h108, rfl⟩⟩)
          · skip
            refine x_aload_n X dX9_take_111 rfl ?_
            refine x_iload_n X dX9_take_112 rfl ?_
            refine x_aload_n X dX9_take_113 rfl ?_
            refine gf_X9_145 X dX9_take_114 rfl ?_
            rw [u3]
            refine x_aload_n X dX9_take_117 rfl ?_
            refine gf_X9_136 X dX9_take_118 rfl ?_
            rw [u1]
            refine x_iconst (v := nI 1) X dX9_take_121 (by decide) ?_
            refine x_isub X dX9_take_122 ?_
            rw [pk_sub (a := (z + 1)) (b := 1) (by omega)]
            rw [show (z + 1) - 1 = z by omega]
            refine cv_X9_169 X c_X9_fails dX9_take_123 rfl ⟨by decide, by decide, by decide, by decide⟩ rfl rfl (Nat.le_of_ble_eq_true rfl) (xk_v ?_)
            refine x_goto (tgt := 160) X dX9_take_126 (by decide) ?_
            exact x_vret X dX9_take_160 (by first | exact ⟨rfl, y, u, hpo, Or.inl ⟨h108, rfl⟩⟩ | exact ⟨rfl, y, u, hpo, Or.inr ⟨h108, rfl⟩⟩)
      · skip
        exact absurd (by decide) h74
    · skip
      rw [xb_ne (x := nI (z + 1)) (y := nI 1) (a := (z + 1)) (b := 1) rfl rfl (by omega) (by omega)] at h49
      omega
  · skip
    rw [xb_ne (x := nI z) (y := nI 1500) (a := z) (b := 1500) rfl rfl (by omega) (by omega)] at h7
    omega

set_option maxHeartbeats 4000000 in
set_option maxRecDepth 100000 in
theorem c_X9_readN {l : Launch} {G : xG} {σ : xS} (hg : xgI σ 37 19 = 0) : xFi l G yX9_read cX9_read 3 (Option.some Jvm.ClassFile.FieldType.int) 4 102 [.ref (G.2.1 37)] σ (-4) (qPz σ) := by
  refine xM.of (by decide) (Nat.le_of_ble_eq_true rfl) (fun pp ee ss mm aa bel met kk X => ?_)
  have X : xC pp ss mm met kk cX9_read 3 RX9 (Option.some Jvm.ClassFile.FieldType.int) G := X
  show xW pp l ee { frames := 4, cells := 0, slots := 0, locals := 102 } ss mm aa bel met kk 3 G 0 0 (xQ bel G (fun rv_ tv_ => rv_ = some (.int (-4)) ∧ tv_ = (qPz σ)) aa ss) 0 [(0, .ref (G.2.1 37))] [] σ
  refine x_aload_n X dX9_read_0 rfl ?_
  refine x_iconst (v := nI 0) X dX9_read_1 (by decide) ?_
  refine pf_X9_86 X dX9_read_2 rfl ?_
  refine x_aload_n X dX9_read_5 rfl ?_
  refine gf_X9_93 X dX9_read_6 rfl ?_
  refine x_topi (fun n hn => ?_)
  refine x_istore_n (lv' := [(1, .int n), (0, .ref (G.2.1 37))]) X dX9_read_9 rfl (by decide) rfl ?_
  refine x_aload_n X dX9_read_10 rfl ?_
  refine x_iconst (v := nI 0) X dX9_read_11 (by decide) ?_
  refine pf_X9_93 X dX9_read_12 rfl ?_
  refine x_aload_n X dX9_read_15 rfl ?_
  refine gf_X9_133 X dX9_read_16 rfl ?_
  rw [show xgI (xsI (xsI σ 37 0 (nI 0)) 37 2 (nI 0)) 37 19 = xgI σ 37 19 from rfl]
  refine x_ifne (tgt := 25) X dX9_read_19 (by decide) (fun h19 => ?_) (fun h19 => ?_)
  · skip
    exact absurd hg h19
  · skip
    refine x_bipush (v := (-4)) X dX9_read_22 (by decide) ?_
    exact x_iret X dX9_read_24 (xp_i (by first | rfl | simp [*]) (by first | rfl | simp [*]))

set_option maxHeartbeats 4000000 in
set_option maxRecDepth 100000 in
theorem c_X9_read {l : Launch} {G : xG} {σ : xS} {z : Nat} {I : xS → Prop} {Tk : xS → Int32 → xS → Prop} (hg : ¬ xgI σ 37 19 = 0) (hz : xgI σ 37 2 = nI z) (hz2 : z ≤ 1000) (hI : I (qPz σ)) (hIt : ∀ τ, I τ → ∀ b, xgI τ 38 b = xgI σ 38 b) (hTk : ∀ τ x, I τ → xgI τ 37 22 = 0 → xM l G yX9_take cX9_take 3 (Option.none : Option Jvm.ClassFile.FieldType) 3 80 [.ref (G.2.1 37), .int x] τ (fun r t => r = none ∧ Tk τ x t ∧ I t)) : xM l G yX9_read cX9_read 3 (Option.some Jvm.ClassFile.FieldType.int) 4 102 [.ref (G.2.1 37)] σ (fun r t => ∃ n, n ≤ z ∧ xTks Tk (fun _ i => xgI σ 38 i) (qPz σ) n t ∧ I t ∧ (n = z ∨ ¬ xgI t 37 22 = 0) ∧ r = some (.int (if xgI t 37 22 = 0 then xgI t 37 26 else -10 - xgI t 37 22))) := by
  refine xM.of (by decide) (Nat.le_of_ble_eq_true rfl) (fun pp ee ss mm aa bel met kk X => ?_)
  have X : xC pp ss mm met kk cX9_read 3 RX9 (Option.some Jvm.ClassFile.FieldType.int) G := X
  show xW pp l ee { frames := 4, cells := 0, slots := 0, locals := 102 } ss mm aa bel met kk 3 G 0 0 (xQ bel G (fun r t => ∃ n, n ≤ z ∧ xTks Tk (fun _ i => xgI σ 38 i) (qPz σ) n t ∧ I t ∧ (n = z ∨ ¬ xgI t 37 22 = 0) ∧ r = some (.int (if xgI t 37 22 = 0 then xgI t 37 26 else -10 - xgI t 37 22))) aa ss) 0 [(0, .ref (G.2.1 37))] [] σ
  refine x_aload_n X dX9_read_0 rfl ?_
  refine x_iconst (v := nI 0) X dX9_read_1 (by decide) ?_
  refine pf_X9_86 X dX9_read_2 rfl ?_
  refine x_aload_n X dX9_read_5 rfl ?_
  refine gf_X9_93 X dX9_read_6 rfl ?_
  rw [xgI_n (by decide), hz]
  refine x_istore_n (lv' := [(1, .int (nI z)), (0, .ref (G.2.1 37))]) X dX9_read_9 rfl (by decide) rfl ?_
  refine x_aload_n X dX9_read_10 rfl ?_
  refine x_iconst (v := nI 0) X dX9_read_11 (by decide) ?_
  refine pf_X9_93 X dX9_read_12 rfl ?_
  refine x_aload_n X dX9_read_15 rfl ?_
  refine gf_X9_133 X dX9_read_16 rfl ?_
  rw [show xgI (xsI (xsI σ 37 0 (nI 0)) 37 2 (nI 0)) 37 19 = xgI σ 37 19 from rfl]
  refine x_ifne (tgt := 25) X dX9_read_19 (by decide) (fun h19 => ?_) (fun h19 => ?_)
  · skip
    refine x_iconst (v := nI 0) X dX9_read_25 (by decide) ?_
    refine x_istore_n (lv' := [(2, .int (nI 0)), (1, .int (nI z)), (0, .ref (G.2.1 37))]) X dX9_read_26 rfl (by decide) rfl ?_
    have lp27 : ∀ (NN27 : Nat) (n : Nat) (hn : n ≤ z) (τ : xS) (hi : I τ) (ht : xTks Tk (fun _ i => xgI σ 38 i) (qPz σ) n τ), z - n = NN27 → xW pp l ee { frames := 4, cells := 0, slots := 0, locals := 102 } ss mm aa bel met kk 3 G 0 0 (xQ bel G (fun r t => ∃ n, n ≤ z ∧ xTks Tk (fun _ i => xgI σ 38 i) (qPz σ) n t ∧ I t ∧ (n = z ∨ ¬ xgI t 37 22 = 0) ∧ r = some (.int (if xgI t 37 22 = 0 then xgI t 37 26 else -10 - xgI t 37 22))) aa ss) 27 [(2, .int (nI n)), (1, .int (nI z)), (0, .ref (G.2.1 37))] [] (τ) := by
      intro NN27
      induction NN27 using Nat.strongRecOn with
      | ind NN27 ih27 =>
        intro n hn τ hi ht hNN27
        refine x_iload_n X dX9_read_27 rfl ?_
        refine x_iload_n X dX9_read_28 rfl ?_
        refine x_icmpge (tgt := 55) X dX9_read_29 (by decide) (fun h29 => ?_) (fun h29 => ?_)
        · skip
          rw [xb_ge (x := nI n) (y := nI z) (a := n) (b := z) rfl rfl (by omega) (by omega)] at h29
          have hend : n = z ∨ ¬ xgI τ 37 22 = 0 := Or.inl (by omega)
          refine x_aload_n X dX9_read_55 rfl ?_
          refine gf_X9_139 X dX9_read_56 rfl ?_
          refine x_ifne (tgt := 69) X dX9_read_59 (by decide) (fun h59 => ?_) (fun h59 => ?_)
          · skip
            refine x_bipush (v := (-10)) X dX9_read_69 (by decide) ?_
            refine x_aload_n X dX9_read_71 rfl ?_
            refine gf_X9_139 X dX9_read_72 rfl ?_
            refine x_isub X dX9_read_75 ?_
            exact x_iret X dX9_read_76 (by first | exact ⟨n, hn, ht, hi, hend, by rw [if_pos h59]⟩ | exact ⟨n, hn, ht, hi, hend, by rw [if_neg h59]⟩)
          · skip
            refine x_aload_n X dX9_read_62 rfl ?_
            refine gf_X9_145 X dX9_read_63 rfl ?_
            refine x_goto (tgt := 76) X dX9_read_66 (by decide) ?_
            exact x_iret X dX9_read_76 (by first | exact ⟨n, hn, ht, hi, hend, by rw [if_pos h59]⟩ | exact ⟨n, hn, ht, hi, hend, by rw [if_neg h59]⟩)
        · skip
          rw [xb_ge (x := nI n) (y := nI z) (a := n) (b := z) rfl rfl (by omega) (by omega)] at h29
          refine x_aload_n X dX9_read_32 rfl ?_
          refine gf_X9_139 X dX9_read_33 rfl ?_
          refine x_ifne (tgt := 55) X dX9_read_36 (by decide) (fun h36 => ?_) (fun h36 => ?_)
          · skip
            have hend : n = z ∨ ¬ xgI τ 37 22 = 0 := Or.inr h36
            refine x_aload_n X dX9_read_55 rfl ?_
            refine gf_X9_139 X dX9_read_56 rfl ?_
            refine x_ifne (tgt := 69) X dX9_read_59 (by decide) (fun h59 => ?_) (fun h59 => ?_)
            · skip
              refine x_bipush (v := (-10)) X dX9_read_69 (by decide) ?_
              refine x_aload_n X dX9_read_71 rfl ?_
              refine gf_X9_139 X dX9_read_72 rfl ?_
              refine x_isub X dX9_read_75 ?_
              exact x_iret X dX9_read_76 (by first | exact ⟨n, hn, ht, hi, hend, by rw [if_pos h59]⟩ | exact ⟨n, hn, ht, hi, hend, by rw [if_neg h59]⟩)
            · skip
              refine x_aload_n X dX9_read_62 rfl ?_
              refine gf_X9_145 X dX9_read_63 rfl ?_
              refine x_goto (tgt := 76) X dX9_read_66 (by decide) ?_
              exact x_iret X dX9_read_76 (by first | exact ⟨n, hn, ht, hi, hend, by rw [if_pos h59]⟩ | exact ⟨n, hn, ht, hi, hend, by rw [if_neg h59]⟩)
          · skip
            refine x_aload_n X dX9_read_39 rfl ?_
            refine x_aload_n X dX9_read_40 rfl ?_
            refine gf_X9_7 (k' := 38) X dX9_read_41 rfl rfl ?_
            refine x_iload_n X dX9_read_44 rfl ?_
            refine x_ialdN X dX9_read_45 rfl (by omega) (by omega) ?_
            rw [hIt τ hi]
            refine cv_X9_165 X (hTk τ _ hi h36) dX9_read_46 rfl ⟨by decide, by decide, by decide, by decide⟩ rfl rfl (Nat.le_of_ble_eq_true rfl) (fun r0 u hpo => ?_)
            obtain ⟨rfl, hpo1, hpo2⟩ := hpo
            refine x_iinc (k := 0) (v := nI (n + 1)) (lv' := [(2, .int (nI (n + 1))), (1, .int (nI z)), (0, .ref (G.2.1 37))]) X dX9_read_49 rfl (xn_inc _) (by decide) rfl ?_
            refine x_goto (tgt := 27) X dX9_read_52 (by decide) ?_
            refine x_pick [0, 1, 2] rfl ?_
            exact ih27 _ (by omega) (n + 1) (by omega) u hpo2 ⟨τ, ht, hpo1⟩ rfl
    refine x_pick [0, 1, 2] rfl ?_
    exact lp27 _ 0 (by omega) _ hI rfl rfl
  · skip
    exact absurd h19 hg
