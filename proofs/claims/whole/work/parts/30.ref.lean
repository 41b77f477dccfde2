/-! The reference (cell 37): tape, plans, the small ones -/
def qSel (a b c d : Int32) (k : Nat) : Int32 := if k = 0 then a else if k = 1 then b else if k = 2 then c else d
def qPut (σ : xS) (a b c d : Int32) (z : Nat) : Nat → xS
  | 0 => xsI σ 37 0 0
  | k + 1 => xsI (xsI (qPut σ a b c d z k) 38 (z + k) (qSel a b c d k)) 37 2 (nI (z + (k + 1)))
theorem qPut_z {σ : xS} {a b c d : Int32} {z : Nat} (hz : xgI σ 37 2 = nI z) : ∀ k, xgI (qPut σ a b c d z k) 37 2 = nI (z + k)
  | 0 => by rw [qPut, xgI_n (by decide), hz]; rfl
  | k + 1 => by rw [qPut, xgI_s]
def qNext (σ : xS) (q z : Nat) (a b : Int32) : Int32 × xS := if xgI σ 37 38 = 0 then (if z ≤ q then (a, xsI σ 37 38 1) else if xIn (xgI σ 38 q) a b = 0 then (a, xsI σ 37 38 1) else (xgI σ 38 q, xsI σ 37 37 (nI (q + 1)))) else (a, σ)
def qForget (σ : xS) : xS := xsI (xsI (xsI (xsI (xsI (xsI (xsI (xsI σ 37 19 0) 37 20 0) 37 22 0) 37 23 (-1)) 37 24 (-1)) 37 25 1) 37 26 0) 37 27 0
def qFails (σ : xS) (a b c : Int32) : xS := xsI (xsI (xsI σ 37 22 a) 37 23 b) 37 24 c
def qCost (σ : xS) (p V : Nat) : Int64 := xSum (xgI σ 41) (fun v => xgI σ 49 (8 * p + v)) V

set_option maxHeartbeats 4000000 in
set_option maxRecDepth 100000 in
theorem c_X9_thrown {l : Launch} {G : xG} {σ : xS} : xFi l G yX9_thrown cX9_thrown 1 (Option.some Jvm.ClassFile.FieldType.int) 0 0 [.ref (G.2.1 37)] σ (xgI σ 37 0) (σ) := by
  refine xM.of (by decide) (Nat.le_of_ble_eq_true rfl) (fun pp ee ss mm aa bel met kk X => ?_)
  have X : xC pp ss mm met kk cX9_thrown 1 RX9 (Option.some Jvm.ClassFile.FieldType.int) G := X
  show xW pp l ee { frames := 0, cells := 0, slots := 0, locals := 0 } ss mm aa bel met kk 1 G 0 0 (xQ bel G (fun r t => r = some (.int (xgI σ 37 0)) ∧ t = (σ)) aa ss) 0 [(0, .ref (G.2.1 37))] [] σ
  refine x_aload_n X dX9_thrown_0 rfl ?_
  refine gf_X9_86 X dX9_thrown_1 rfl ?_
  exact x_iret X dX9_thrown_4 (xp_i (by first | rfl | simp [*]) (by first | rfl | simp [*]))

set_option maxHeartbeats 4000000 in
set_option maxRecDepth 100000 in
theorem c_X9_in {l : Launch} {G : xG} {σ : xS} {x a b : Int32} : xFi l G yX9_in cX9_in 3 (Option.some Jvm.ClassFile.FieldType.boolean) 0 0 [.int x, .int a, .int b] σ (xIn x a b) (σ) := by
  refine xM.of (by decide) (Nat.le_of_ble_eq_true rfl) (fun pp ee ss mm aa bel met kk X => ?_)
  have X : xC pp ss mm met kk cX9_in 3 RX9 (Option.some Jvm.ClassFile.FieldType.boolean) G := X
  show xW pp l ee { frames := 0, cells := 0, slots := 0, locals := 0 } ss mm aa bel met kk 3 G 0 0 (xQ bel G (fun r t => r = some (.int (xIn x a b)) ∧ t = (σ)) aa ss) 0 [(0, .int x), (1, .int a), (2, .int b)] [] σ
  refine x_iload_n X dX9_in_0 rfl ?_
  refine x_iload_n X dX9_in_1 rfl ?_
  refine x_icmplt (tgt := 14) X dX9_in_2 (by decide) (fun h2 => ?_) (fun h2 => ?_)
  · skip
    refine x_iconst (v := nI 0) X dX9_in_14 (by decide) ?_
    exact x_zret X dX9_in_15 (Or.inl rfl) (xp_i (by first | (rw [xIn, if_pos h2]; rfl) | (rw [xIn, if_neg h2, if_pos h7]; rfl) | (rw [xIn, if_neg h2, if_neg h7]; rfl)) (by first | rfl | simp [*]))
  · skip
    refine x_iload_n X dX9_in_5 rfl ?_
    refine x_iload_n X dX9_in_6 rfl ?_
    refine x_icmpgt (tgt := 14) X dX9_in_7 (by decide) (fun h7 => ?_) (fun h7 => ?_)
    · skip
      refine x_iconst (v := nI 0) X dX9_in_14 (by decide) ?_
      exact x_zret X dX9_in_15 (Or.inl rfl) (xp_i (by first | (rw [xIn, if_pos h2]; rfl) | (rw [xIn, if_neg h2, if_pos h7]; rfl) | (rw [xIn, if_neg h2, if_neg h7]; rfl)) (by first | rfl | simp [*]))
    · skip
      refine x_iconst (v := nI 1) X dX9_in_10 (by decide) ?_
      refine x_goto (tgt := 15) X dX9_in_11 (by decide) ?_
      exact x_zret X dX9_in_15 (Or.inr rfl) (xp_i (by first | (rw [xIn, if_pos h2]; rfl) | (rw [xIn, if_neg h2, if_pos h7]; rfl) | (rw [xIn, if_neg h2, if_neg h7]; rfl)) (by first | rfl | simp [*]))

set_option maxHeartbeats 4000000 in
set_option maxRecDepth 100000 in
theorem c_X9_putN {l : Launch} {G : xG} {σ : xS} {n a b c d : Int32} (hn : xIn n 1 4 = 0) : xFi l G yX9_put cX9_put 7 (Option.some Jvm.ClassFile.FieldType.int) 1 22 [.ref (G.2.1 37), .int n, .int a, .int b, .int c, .int d] σ (-3) (xsI σ 37 0 0) := by
  refine xM.of (by decide) (Nat.le_of_ble_eq_true rfl) (fun pp ee ss mm aa bel met kk X => ?_)
  have X : xC pp ss mm met kk cX9_put 7 RX9 (Option.some Jvm.ClassFile.FieldType.int) G := X
  show xW pp l ee { frames := 1, cells := 0, slots := 0, locals := 22 } ss mm aa bel met kk 7 G 0 0 (xQ bel G (fun r t => r = some (.int (-3)) ∧ t = (xsI σ 37 0 0)) aa ss) 0 [(0, .ref (G.2.1 37)), (1, .int n), (2, .int a), (3, .int b), (4, .int c), (5, .int d)] [] σ
  refine x_aload_n X dX9_put_0 rfl ?_
  refine x_iconst (v := nI 0) X dX9_put_1 (by decide) ?_
  refine pf_X9_86 X dX9_put_2 rfl ?_
  refine x_iload_n X dX9_put_5 rfl ?_
  refine x_iconst (v := nI 1) X dX9_put_6 (by decide) ?_
  refine x_iconst (v := nI 4) X dX9_put_7 (by decide) ?_
  refine cs_X9_89 X c_X9_in dX9_put_8 ⟨by decide, by decide, by decide, by decide⟩ rfl rfl (Nat.le_of_ble_eq_true rfl) (xk_i ?_)
  refine x_ifne (tgt := 17) X dX9_put_11 (by decide) (fun h11 => ?_) (fun h11 => ?_)
  · skip
    exact absurd hn h11
  · skip
    refine x_bipush (v := (-3)) X dX9_put_14 (by decide) ?_
    exact x_iret X dX9_put_16 (xp_i (by first | rfl | simp [*]) (by first | rfl | simp [*]))

set_option maxHeartbeats 4000000 in
set_option maxRecDepth 100000 in
theorem c_X9_putR {l : Launch} {G : xG} {σ : xS} {m z : Nat} {a b c d : Int32} (hz : xgI σ 37 2 = nI z) (hz2 : z ≤ 1000) (hm : 1 ≤ m) (hm2 : m ≤ 4) (hn : ¬ xIn (nI m) 1 4 = 0) (hR : 1000 < z + m) : xFi l G yX9_put cX9_put 7 (Option.some Jvm.ClassFile.FieldType.int) 1 22 [.ref (G.2.1 37), .int (nI m), .int a, .int b, .int c, .int d] σ (-5) (xsI σ 37 0 0) := by
  refine xM.of (by decide) (Nat.le_of_ble_eq_true rfl) (fun pp ee ss mm aa bel met kk X => ?_)
  have X : xC pp ss mm met kk cX9_put 7 RX9 (Option.some Jvm.ClassFile.FieldType.int) G := X
  show xW pp l ee { frames := 1, cells := 0, slots := 0, locals := 22 } ss mm aa bel met kk 7 G 0 0 (xQ bel G (fun r t => r = some (.int (-5)) ∧ t = (xsI σ 37 0 0)) aa ss) 0 [(0, .ref (G.2.1 37)), (1, .int (nI m)), (2, .int a), (3, .int b), (4, .int c), (5, .int d)] [] σ
  refine x_aload_n X dX9_put_0 rfl ?_
  refine x_iconst (v := nI 0) X dX9_put_1 (by decide) ?_
  refine pf_X9_86 X dX9_put_2 rfl ?_
  refine x_iload_n X dX9_put_5 rfl ?_
  refine x_iconst (v := nI 1) X dX9_put_6 (by decide) ?_
  refine x_iconst (v := nI 4) X dX9_put_7 (by decide) ?_
  refine cs_X9_89 X c_X9_in dX9_put_8 ⟨by decide, by decide, by decide, by decide⟩ rfl rfl (Nat.le_of_ble_eq_true rfl) (xk_i ?_)
  refine x_ifne (tgt := 17) X dX9_put_11 (by decide) (fun h11 => ?_) (fun h11 => ?_)
  · skip
    refine x_aload_n X dX9_put_17 rfl ?_
    refine gf_X9_93 X dX9_put_18 rfl ?_
    rw [xgI_n (by decide), hz]
    refine x_iload_n X dX9_put_21 rfl ?_
    refine x_iadd X dX9_put_22 ?_
    rw [nI_add z m]
    refine x_sipush (v := nI 1000) X dX9_put_23 (by decide) ?_
    refine x_icmple (tgt := 32) X dX9_put_26 (by decide) (fun h26 => ?_) (fun h26 => ?_)
    · skip
      rw [xb_le (x := nI (z + m)) (y := nI 1000) (a := (z + m)) (b := 1000) rfl rfl (by omega) (by omega)] at h26
      omega
    · skip
      rw [xb_le (x := nI (z + m)) (y := nI 1000) (a := (z + m)) (b := 1000) rfl rfl (by omega) (by omega)] at h26
      refine x_bipush (v := (-5)) X dX9_put_29 (by decide) ?_
      exact x_iret X dX9_put_31 (xp_i (by first | rfl | simp [*]) (by first | rfl | simp [*]))
  · skip
    exact absurd h11 hn

set_option maxHeartbeats 4000000 in
set_option maxRecDepth 100000 in
theorem c_X9_put {l : Launch} {G : xG} {σ : xS} {m z : Nat} {a b c d : Int32} (hz : xgI σ 37 2 = nI z) (hz2 : z ≤ 1000) (hm : 1 ≤ m) (hm2 : m ≤ 4) (hn : ¬ xIn (nI m) 1 4 = 0) (hR : z + m ≤ 1000) : xFi l G yX9_put cX9_put 7 (Option.some Jvm.ClassFile.FieldType.int) 1 22 [.ref (G.2.1 37), .int (nI m), .int a, .int b, .int c, .int d] σ (nI (z + m)) (qPut σ a b c d z m) := by
  refine xM.of (by decide) (Nat.le_of_ble_eq_true rfl) (fun pp ee ss mm aa bel met kk X => ?_)
  have X : xC pp ss mm met kk cX9_put 7 RX9 (Option.some Jvm.ClassFile.FieldType.int) G := X
  show xW pp l ee { frames := 1, cells := 0, slots := 0, locals := 22 } ss mm aa bel met kk 7 G 0 0 (xQ bel G (fun r t => r = some (.int (nI (z + m))) ∧ t = (qPut σ a b c d z m)) aa ss) 0 [(0, .ref (G.2.1 37)), (1, .int (nI m)), (2, .int a), (3, .int b), (4, .int c), (5, .int d)] [] σ
  refine x_aload_n X dX9_put_0 rfl ?_
  refine x_iconst (v := nI 0) X dX9_put_1 (by decide) ?_
  refine pf_X9_86 X dX9_put_2 rfl ?_
  refine x_iload_n X dX9_put_5 rfl ?_
  refine x_iconst (v := nI 1) X dX9_put_6 (by decide) ?_
  refine x_iconst (v := nI 4) X dX9_put_7 (by decide) ?_
  refine cs_X9_89 X c_X9_in dX9_put_8 ⟨by decide, by decide, by decide, by decide⟩ rfl rfl (Nat.le_of_ble_eq_true rfl) (xk_i ?_)
  refine x_ifne (tgt := 17) X dX9_put_11 (by decide) (fun h11 => ?_) (fun h11 => ?_)
  · skip
    refine x_aload_n X dX9_put_17 rfl ?_
    refine gf_X9_93 X dX9_put_18 rfl ?_
    rw [xgI_n (by decide), hz]
    refine x_iload_n X dX9_put_21 rfl ?_
    refine x_iadd X dX9_put_22 ?_
    rw [nI_add z m]
    refine x_sipush (v := nI 1000) X dX9_put_23 (by decide) ?_
    refine x_icmple (tgt := 32) X dX9_put_26 (by decide) (fun h26 => ?_) (fun h26 => ?_)
    · skip
      rw [xb_le (x := nI (z + m)) (y := nI 1000) (a := (z + m)) (b := 1000) rfl rfl (by omega) (by omega)] at h26
      refine x_iconst (v := nI 0) X dX9_put_32 (by decide) ?_
      refine x_istore (lv' := [(6, .int (nI 0)), (0, .ref (G.2.1 37)), (1, .int (nI m)), (2, .int a), (3, .int b), (4, .int c), (5, .int d)]) X dX9_put_33 (by decide) rfl ?_
      have lp35 : ∀ (NN35 : Nat) (k : Nat) (hk : k ≤ m), m - k = NN35 → xW pp l ee { frames := 1, cells := 0, slots := 0, locals := 22 } ss mm aa bel met kk 7 G 0 0 (xQ bel G (fun r t => r = some (.int (nI (z + m))) ∧ t = (qPut σ a b c d z m)) aa ss) 35 [(6, .int (nI k)), (5, .int d), (4, .int c), (3, .int b), (2, .int a), (1, .int (nI m)), (0, .ref (G.2.1 37))] [] (qPut σ a b c d z k) := by
        intro NN35
        induction NN35 using Nat.strongRecOn with
        | ind NN35 ih35 =>
          intro k hk hNN35
          refine x_iload X dX9_put_35 rfl ?_
          refine x_iload_n X dX9_put_37 rfl ?_
          refine x_icmpge (tgt := 98) X dX9_put_38 (by decide) (fun h38 => ?_) (fun h38 => ?_)
          · skip
            rw [xb_ge (x := nI k) (y := nI m) (a := k) (b := m) rfl rfl (by omega) (by omega)] at h38
            obtain rfl : k = m := by omega
            refine x_aload_n X dX9_put_98 rfl ?_
            refine gf_X9_93 X dX9_put_99 rfl ?_
            rw [qPut_z hz _]
            exact x_iret X dX9_put_102 (xp_i (by first | rfl | simp [*]) (by first | rfl | simp [*]))
          · skip
            rw [xb_ge (x := nI k) (y := nI m) (a := k) (b := m) rfl rfl (by omega) (by omega)] at h38
            refine x_aload_n X dX9_put_41 rfl ?_
            refine gf_X9_7 (k' := 38) X dX9_put_42 rfl rfl ?_
            refine x_aload_n X dX9_put_45 rfl ?_
            refine gf_X9_93 X dX9_put_46 rfl ?_
            rw [qPut_z hz k]
            refine x_iload X dX9_put_49 rfl ?_
            refine x_ifne (tgt := 58) X dX9_put_51 (by decide) (fun h51 => ?_) (fun h51 => ?_)
            · skip
              rw [xb_ne (x := nI k) (y := 0) (a := k) (b := 0) rfl rfl (by omega) (by omega)] at h51
              refine x_iload X dX9_put_58 rfl ?_
              refine x_iconst (v := nI 1) X dX9_put_60 (by decide) ?_
              refine x_icmpne (tgt := 68) X dX9_put_61 (by decide) (fun h61 => ?_) (fun h61 => ?_)
              · skip
                rw [xb_ne (x := nI k) (y := nI 1) (a := k) (b := 1) rfl rfl (by omega) (by omega)] at h61
                refine x_iload X dX9_put_68 rfl ?_
                refine x_iconst (v := nI 2) X dX9_put_70 (by decide) ?_
                refine x_icmpne (tgt := 79) X dX9_put_71 (by decide) (fun h71 => ?_) (fun h71 => ?_)
                · skip
                  rw [xb_ne (x := nI k) (y := nI 2) (a := k) (b := 2) rfl rfl (by omega) (by omega)] at h71
                  have hse : xsI (xsI (qPut σ a b c d z k) 38 (z + k) d) 37 2 (nI (z + k + 1)) = qPut σ a b c d z (k + 1) := by rw [qPut, qSel, if_neg h51, if_neg h61, if_neg h71]; rfl
                  refine x_iload X dX9_put_79 rfl ?_
                  refine x_iastN X dX9_put_81 rfl (by omega) (by omega) ?_
                  refine x_aload_n X dX9_put_82 rfl ?_
                  refine x_dup X dX9_put_83 rfl ?_
                  refine gf_X9_93 X dX9_put_84 rfl ?_
                  rw [xgI_n (by omega), qPut_z hz k]
                  refine x_iconst (v := nI 1) X dX9_put_87 (by decide) ?_
                  refine x_iadd X dX9_put_88 ?_
                  rw [nI_add (z + k) 1]
                  refine pf_X9_93 X dX9_put_89 rfl ?_
                  rw [hse]
                  refine x_iinc (k := 0) (v := nI (k + 1)) (lv' := [(6, .int (nI (k + 1))), (5, .int d), (4, .int c), (3, .int b), (2, .int a), (1, .int (nI m)), (0, .ref (G.2.1 37))]) X dX9_put_92 rfl (xn_inc _) (by decide) rfl ?_
                  refine x_goto (tgt := 35) X dX9_put_95 (by decide) ?_
                  refine x_pick [0, 1, 2, 3, 4, 5, 6] rfl ?_
                  exact ih35 _ (by omega) (k + 1) (by omega) rfl
                · skip
                  rw [xb_ne (x := nI k) (y := nI 2) (a := k) (b := 2) rfl rfl (by omega) (by omega)] at h71
                  have hse : xsI (xsI (qPut σ a b c d z k) 38 (z + k) c) 37 2 (nI (z + k + 1)) = qPut σ a b c d z (k + 1) := by rw [qPut, qSel, if_neg h51, if_neg h61, if_pos h71]; rfl
                  refine x_iload X dX9_put_74 rfl ?_
                  refine x_goto (tgt := 81) X dX9_put_76 (by decide) ?_
                  refine x_iastN X dX9_put_81 rfl (by omega) (by omega) ?_
                  refine x_aload_n X dX9_put_82 rfl ?_
                  refine x_dup X dX9_put_83 rfl ?_
                  refine gf_X9_93 X dX9_put_84 rfl ?_
                  rw [xgI_n (by omega), qPut_z hz k]
                  refine x_iconst (v := nI 1) X dX9_put_87 (by decide) ?_
                  refine x_iadd X dX9_put_88 ?_
                  rw [nI_add (z + k) 1]
                  refine pf_X9_93 X dX9_put_89 rfl ?_
                  rw [hse]
                  refine x_iinc (k := 0) (v := nI (k + 1)) (lv' := [(6, .int (nI (k + 1))), (5, .int d), (4, .int c), (3, .int b), (2, .int a), (1, .int (nI m)), (0, .ref (G.2.1 37))]) X dX9_put_92 rfl (xn_inc _) (by decide) rfl ?_
                  refine x_goto (tgt := 35) X dX9_put_95 (by decide) ?_
                  refine x_pick [0, 1, 2, 3, 4, 5, 6] rfl ?_
                  exact ih35 _ (by omega) (k + 1) (by omega) rfl
              · skip
                rw [xb_ne (x := nI k) (y := nI 1) (a := k) (b := 1) rfl rfl (by omega) (by omega)] at h61
                have hse : xsI (xsI (qPut σ a b c d z k) 38 (z + k) b) 37 2 (nI (z + k + 1)) = qPut σ a b c d z (k + 1) := by rw [qPut, qSel, if_neg h51, if_pos h61]; rfl
                refine x_iload_n X dX9_put_64 rfl ?_
                refine x_goto (tgt := 81) X dX9_put_65 (by decide) ?_
                refine x_iastN X dX9_put_81 rfl (by omega) (by omega) ?_
                refine x_aload_n X dX9_put_82 rfl ?_
                refine x_dup X dX9_put_83 rfl ?_
                refine gf_X9_93 X dX9_put_84 rfl ?_
                rw [xgI_n (by omega), qPut_z hz k]
                refine x_iconst (v := nI 1) X dX9_put_87 (by decide) ?_
                refine x_iadd X dX9_put_88 ?_
                rw [nI_add (z + k) 1]
                refine pf_X9_93 X dX9_put_89 rfl ?_
                rw [hse]
                refine x_iinc (k := 0) (v := nI (k + 1)) (lv' := [(6, .int (nI (k + 1))), (5, .int d), (4, .int c), (3, .int b), (2, .int a), (1, .int (nI m)), (0, .ref (G.2.1 37))]) X dX9_put_92 rfl (xn_inc _) (by decide) rfl ?_
                refine x_goto (tgt := 35) X dX9_put_95 (by decide) ?_
                refine x_pick [0, 1, 2, 3, 4, 5, 6] rfl ?_
                exact ih35 _ (by omega) (k + 1) (by omega) rfl
            · skip
              rw [xb_ne (x := nI k) (y := 0) (a := k) (b := 0) rfl rfl (by omega) (by omega)] at h51
              have hse : xsI (xsI (qPut σ a b c d z k) 38 (z + k) a) 37 2 (nI (z + k + 1)) = qPut σ a b c d z (k + 1) := by rw [qPut, qSel, if_pos h51]; rfl
              refine x_iload_n X dX9_put_54 rfl ?_
              refine x_goto (tgt := 81) X dX9_put_55 (by decide) ?_
              refine x_iastN X dX9_put_81 rfl (by omega) (by omega) ?_
              refine x_aload_n X dX9_put_82 rfl ?_
              refine x_dup X dX9_put_83 rfl ?_
              refine gf_X9_93 X dX9_put_84 rfl ?_
              rw [xgI_n (by omega), qPut_z hz k]
              refine x_iconst (v := nI 1) X dX9_put_87 (by decide) ?_
              refine x_iadd X dX9_put_88 ?_
              rw [nI_add (z + k) 1]
              refine pf_X9_93 X dX9_put_89 rfl ?_
              rw [hse]
              refine x_iinc (k := 0) (v := nI (k + 1)) (lv' := [(6, .int (nI (k + 1))), (5, .int d), (4, .int c), (3, .int b), (2, .int a), (1, .int (nI m)), (0, .ref (G.2.1 37))]) X dX9_put_92 rfl (xn_inc _) (by decide) rfl ?_
              refine x_goto (tgt := 35) X dX9_put_95 (by decide) ?_
              refine x_pick [0, 1, 2, 3, 4, 5, 6] rfl ?_
              exact ih35 _ (by omega) (k + 1) (by omega) rfl
      refine x_pick [0, 6, 5, 4, 3, 2, 1] rfl ?_
      exact lp35 _ 0 (by omega) rfl
    · skip
      rw [xb_le (x := nI (z + m)) (y := nI 1000) (a := (z + m)) (b := 1000) rfl rfl (by omega) (by omega)] at h26
      omega
  · skip
    exact absurd h11 hn

set_option maxHeartbeats 4000000 in
set_option maxRecDepth 100000 in
theorem c_X9_drop {l : Launch} {G : xG} {σ : xS} : xFi l G yX9_drop cX9_drop 2 (Option.some Jvm.ClassFile.FieldType.int) 0 0 [.ref (G.2.1 37)] σ (xgI σ 37 2) (xsI (xsI σ 37 0 0) 37 2 0) := by
  refine xM.of (by decide) (Nat.le_of_ble_eq_true rfl) (fun pp ee ss mm aa bel met kk X => ?_)
  have X : xC pp ss mm met kk cX9_drop 2 RX9 (Option.some Jvm.ClassFile.FieldType.int) G := X
  show xW pp l ee { frames := 0, cells := 0, slots := 0, locals := 0 } ss mm aa bel met kk 2 G 0 0 (xQ bel G (fun r t => r = some (.int (xgI σ 37 2)) ∧ t = (xsI (xsI σ 37 0 0) 37 2 0)) aa ss) 0 [(0, .ref (G.2.1 37))] [] σ
  refine x_aload_n X dX9_drop_0 rfl ?_
  refine x_iconst (v := nI 0) X dX9_drop_1 (by decide) ?_
  refine pf_X9_86 X dX9_drop_2 rfl ?_
  refine x_aload_n X dX9_drop_5 rfl ?_
  refine gf_X9_93 X dX9_drop_6 rfl ?_
  refine x_topi (fun had hhad => ?_)
  refine x_istore_n (lv' := [(1, .int had), (0, .ref (G.2.1 37))]) X dX9_drop_9 rfl (by decide) rfl ?_
  refine x_aload_n X dX9_drop_10 rfl ?_
  refine x_iconst (v := nI 0) X dX9_drop_11 (by decide) ?_
  refine pf_X9_93 X dX9_drop_12 rfl ?_
  refine x_iload_n X dX9_drop_15 rfl ?_
  exact x_iret X dX9_drop_16 (xp_i (by rw [hhad, xgI_n (by decide)]) (by first | rfl | simp [*]))

set_option maxHeartbeats 4000000 in
set_option maxRecDepth 100000 in
theorem c_X9_next {l : Launch} {G : xG} {σ : xS} {q z : Nat} {a b : Int32} (hq : xgI σ 37 37 = nI q) (hq2 : q ≤ 1000) (hz : xgI σ 37 2 = nI z) (hz2 : z ≤ 1000) : xFi l G yX9_next cX9_next 3 (Option.some Jvm.ClassFile.FieldType.int) 1 22 [.ref (G.2.1 37), .int a, .int b] σ ((qNext σ q z a b).1) ((qNext σ q z a b).2) := by
  refine xM.of (by decide) (Nat.le_of_ble_eq_true rfl) (fun pp ee ss mm aa bel met kk X => ?_)
  have X : xC pp ss mm met kk cX9_next 3 RX9 (Option.some Jvm.ClassFile.FieldType.int) G := X
  show xW pp l ee { frames := 1, cells := 0, slots := 0, locals := 22 } ss mm aa bel met kk 3 G 0 0 (xQ bel G (fun r t => r = some (.int ((qNext σ q z a b).1)) ∧ t = ((qNext σ q z a b).2)) aa ss) 0 [(0, .ref (G.2.1 37)), (1, .int a), (2, .int b)] [] σ
  refine x_aload_n X dX9_next_0 rfl ?_
  refine gf_X9_96 X dX9_next_1 rfl ?_
  refine x_ifeq (tgt := 9) X dX9_next_4 (by decide) (fun h4 => ?_) (fun h4 => ?_)
  · skip
    refine x_aload_n X dX9_next_9 rfl ?_
    refine gf_X9_100 X dX9_next_10 rfl ?_
    rw [hq]
    refine x_aload_n X dX9_next_13 rfl ?_
    refine gf_X9_93 X dX9_next_14 rfl ?_
    rw [hz]
    refine x_icmpge (tgt := 37) X dX9_next_17 (by decide) (fun h17 => ?_) (fun h17 => ?_)
    · skip
      rw [xb_ge (x := nI q) (y := nI z) (a := q) (b := z) rfl rfl (by omega) (by omega)] at h17
      refine x_aload_n X dX9_next_37 rfl ?_
      refine x_iconst (v := nI 1) X dX9_next_38 (by decide) ?_
      refine pf_X9_96 X dX9_next_39 rfl (Or.inr rfl) ?_
      refine x_iload_n X dX9_next_42 rfl ?_
      exact x_iret X dX9_next_43 (by unfold qNext; first | (rw [if_neg h4]; exact ⟨rfl, rfl⟩) | (rw [if_pos h4, if_pos h17]; exact ⟨rfl, rfl⟩) | (rw [if_pos h4, if_neg h17, if_pos h34]; exact ⟨rfl, rfl⟩) | (rw [if_pos h4, if_neg h17, if_neg h34]; exact ⟨rfl, rfl⟩))
    · skip
      rw [xb_ge (x := nI q) (y := nI z) (a := q) (b := z) rfl rfl (by omega) (by omega)] at h17
      refine x_aload_n X dX9_next_20 rfl ?_
      refine gf_X9_7 (k' := 38) X dX9_next_21 rfl rfl ?_
      refine x_aload_n X dX9_next_24 rfl ?_
      refine gf_X9_100 X dX9_next_25 rfl ?_
      rw [hq]
      refine x_ialdN X dX9_next_28 rfl (by omega) (by omega) ?_
      refine x_iload_n X dX9_next_29 rfl ?_
      refine x_iload_n X dX9_next_30 rfl ?_
      refine cs_X9_89 X c_X9_in dX9_next_31 ⟨by decide, by decide, by decide, by decide⟩ rfl rfl (Nat.le_of_ble_eq_true rfl) (xk_i ?_)
      refine x_ifne (tgt := 44) X dX9_next_34 (by decide) (fun h34 => ?_) (fun h34 => ?_)
      · skip
        refine x_aload_n X dX9_next_44 rfl ?_
        refine x_dup X dX9_next_45 rfl ?_
        refine gf_X9_100 X dX9_next_46 rfl ?_
        rw [hq]
        refine x_iconst (v := nI 1) X dX9_next_49 (by decide) ?_
        refine x_iadd X dX9_next_50 ?_
        rw [nI_add q 1]
        refine pf_X9_100 X dX9_next_51 rfl ?_
        refine x_aload_n X dX9_next_54 rfl ?_
        refine gf_X9_7 (k' := 38) X dX9_next_55 rfl rfl ?_
        refine x_aload_n X dX9_next_58 rfl ?_
        refine gf_X9_100 X dX9_next_59 rfl ?_
        rw [xgI_s]
        refine x_iconst (v := nI 1) X dX9_next_62 (by decide) ?_
        refine x_isub X dX9_next_63 ?_
        rw [pk_sub (a := (q + 1)) (b := 1) (by omega)]
        rw [show (q + 1) - 1 = q by omega]
        refine x_ialdN X dX9_next_64 rfl (by omega) (by omega) ?_
        rw [xgI_n (by omega)]
        exact x_iret X dX9_next_65 (by unfold qNext; first | (rw [if_neg h4]; exact ⟨rfl, rfl⟩) | (rw [if_pos h4, if_pos h17]; exact ⟨rfl, rfl⟩) | (rw [if_pos h4, if_neg h17, if_pos h34]; exact ⟨rfl, rfl⟩) | (rw [if_pos h4, if_neg h17, if_neg h34]; exact ⟨rfl, rfl⟩))
      · skip
        refine x_aload_n X dX9_next_37 rfl ?_
        refine x_iconst (v := nI 1) X dX9_next_38 (by decide) ?_
        refine pf_X9_96 X dX9_next_39 rfl (Or.inr rfl) ?_
        refine x_iload_n X dX9_next_42 rfl ?_
        exact x_iret X dX9_next_43 (by unfold qNext; first | (rw [if_neg h4]; exact ⟨rfl, rfl⟩) | (rw [if_pos h4, if_pos h17]; exact ⟨rfl, rfl⟩) | (rw [if_pos h4, if_neg h17, if_pos h34]; exact ⟨rfl, rfl⟩) | (rw [if_pos h4, if_neg h17, if_neg h34]; exact ⟨rfl, rfl⟩))
  · skip
    refine x_iload_n X dX9_next_7 rfl ?_
    exact x_iret X dX9_next_8 (by unfold qNext; first | (rw [if_neg h4]; exact ⟨rfl, rfl⟩) | (rw [if_pos h4, if_pos h17]; exact ⟨rfl, rfl⟩) | (rw [if_pos h4, if_neg h17, if_pos h34]; exact ⟨rfl, rfl⟩) | (rw [if_pos h4, if_neg h17, if_neg h34]; exact ⟨rfl, rfl⟩))

set_option maxHeartbeats 4000000 in
set_option maxRecDepth 100000 in
theorem c_X9_forget {l : Launch} {G : xG} {σ : xS} : xFv l G yX9_forget cX9_forget 1 (Option.none : Option Jvm.ClassFile.FieldType) 0 0 [.ref (G.2.1 37)] σ (qForget σ) := by
  refine xM.of (by decide) (Nat.le_of_ble_eq_true rfl) (fun pp ee ss mm aa bel met kk X => ?_)
  have X : xC pp ss mm met kk cX9_forget 1 RX9 (Option.none : Option Jvm.ClassFile.FieldType) G := X
  show xW pp l ee { frames := 0, cells := 0, slots := 0, locals := 0 } ss mm aa bel met kk 1 G 0 0 (xQ bel G (fun r t => r = none ∧ t = (qForget σ)) aa ss) 0 [(0, .ref (G.2.1 37))] [] σ
  refine x_aload_n X dX9_forget_0 rfl ?_
  refine x_iconst (v := nI 0) X dX9_forget_1 (by decide) ?_
  refine pf_X9_133 X dX9_forget_2 rfl (Or.inl rfl) ?_
  refine x_aload_n X dX9_forget_5 rfl ?_
  refine x_iconst (v := nI 0) X dX9_forget_6 (by decide) ?_
  refine pf_X9_136 X dX9_forget_7 rfl ?_
  refine x_aload_n X dX9_forget_10 rfl ?_
  refine x_iconst (v := nI 0) X dX9_forget_11 (by decide) ?_
  refine pf_X9_139 X dX9_forget_12 rfl ?_
  refine x_aload_n X dX9_forget_15 rfl ?_
  refine x_iconst (v := (-1)) X dX9_forget_16 (by decide) ?_
  refine pf_X9_49 X dX9_forget_17 rfl ?_
  refine x_aload_n X dX9_forget_20 rfl ?_
  refine x_iconst (v := (-1)) X dX9_forget_21 (by decide) ?_
  refine pf_X9_53 X dX9_forget_22 rfl ?_
  refine x_aload_n X dX9_forget_25 rfl ?_
  refine x_iconst (v := nI 1) X dX9_forget_26 (by decide) ?_
  refine pf_X9_142 X dX9_forget_27 rfl ?_
  refine x_aload_n X dX9_forget_30 rfl ?_
  refine x_iconst (v := nI 0) X dX9_forget_31 (by decide) ?_
  refine pf_X9_145 X dX9_forget_32 rfl ?_
  refine x_aload_n X dX9_forget_35 rfl ?_
  refine x_iconst (v := nI 0) X dX9_forget_36 (by decide) ?_
  refine pf_X9_148 X dX9_forget_37 rfl ?_
  exact x_vret X dX9_forget_40 (⟨rfl, by first | rfl | simp [*]⟩)

set_option maxHeartbeats 4000000 in
set_option maxRecDepth 100000 in
theorem c_X9_fails {l : Launch} {G : xG} {σ : xS} {a b c : Int32} : xFv l G yX9_fails cX9_fails 4 (Option.none : Option Jvm.ClassFile.FieldType) 0 0 [.ref (G.2.1 37), .int a, .int b, .int c] σ (qFails σ a b c) := by
  refine xM.of (by decide) (Nat.le_of_ble_eq_true rfl) (fun pp ee ss mm aa bel met kk X => ?_)
  have X : xC pp ss mm met kk cX9_fails 4 RX9 (Option.none : Option Jvm.ClassFile.FieldType) G := X
  show xW pp l ee { frames := 0, cells := 0, slots := 0, locals := 0 } ss mm aa bel met kk 4 G 0 0 (xQ bel G (fun r t => r = none ∧ t = (qFails σ a b c)) aa ss) 0 [(0, .ref (G.2.1 37)), (1, .int a), (2, .int b), (3, .int c)] [] σ
  refine x_aload_n X dX9_fails_0 rfl ?_
  refine x_iload_n X dX9_fails_1 rfl ?_
  refine pf_X9_139 X dX9_fails_2 rfl ?_
  refine x_aload_n X dX9_fails_5 rfl ?_
  refine x_iload_n X dX9_fails_6 rfl ?_
  refine pf_X9_49 X dX9_fails_7 rfl ?_
  refine x_aload_n X dX9_fails_10 rfl ?_
  refine x_iload_n X dX9_fails_11 rfl ?_
  refine pf_X9_53 X dX9_fails_12 rfl ?_
  exact x_vret X dX9_fails_15 (⟨rfl, by first | rfl | simp [*]⟩)

set_option maxHeartbeats 4000000 in
set_option maxRecDepth 100000 in
theorem c_X9_refuses {l : Launch} {G : xG} {σ : xS} {x : Int32} (hx : x = 0 ∨ x = 1) : xFi l G yX9_refuses cX9_refuses 2 (Option.some Jvm.ClassFile.FieldType.boolean) 0 0 [.ref (G.2.1 37), .int x] σ (x) (xsI σ 37 0 x) := by
  refine xM.of (by decide) (Nat.le_of_ble_eq_true rfl) (fun pp ee ss mm aa bel met kk X => ?_)
  have X : xC pp ss mm met kk cX9_refuses 2 RX9 (Option.some Jvm.ClassFile.FieldType.boolean) G := X
  show xW pp l ee { frames := 0, cells := 0, slots := 0, locals := 0 } ss mm aa bel met kk 2 G 0 0 (xQ bel G (fun r t => r = some (.int (x)) ∧ t = (xsI σ 37 0 x)) aa ss) 0 [(0, .ref (G.2.1 37)), (1, .int x)] [] σ
  refine x_aload_n X dX9_refuses_0 rfl ?_
  refine x_iload_n X dX9_refuses_1 rfl ?_
  refine x_ifeq (tgt := 9) X dX9_refuses_2 (by decide) (fun h2 => ?_) (fun h2 => ?_)
  · skip
    refine x_iconst (v := nI 0) X dX9_refuses_9 (by decide) ?_
    refine pf_X9_86 X dX9_refuses_10 rfl ?_
    refine x_iload_n X dX9_refuses_13 rfl ?_
    exact x_zret X dX9_refuses_14 hx (xp_i (by first | rfl | simp [*]) (by first | (rw [h2]; rfl) | (rw [show x = 1 from hx.resolve_left h2]; rfl)))
  · skip
    refine x_iconst (v := nI 1) X dX9_refuses_5 (by decide) ?_
    refine x_goto (tgt := 10) X dX9_refuses_6 (by decide) ?_
    refine pf_X9_86 X dX9_refuses_10 rfl ?_
    refine x_iload_n X dX9_refuses_13 rfl ?_
    exact x_zret X dX9_refuses_14 hx (xp_i (by first | rfl | simp [*]) (by first | (rw [h2]; rfl) | (rw [show x = 1 from hx.resolve_left h2]; rfl)))

set_option maxHeartbeats 4000000 in
set_option maxRecDepth 100000 in
theorem c_X9_costOf {l : Launch} {G : xG} {σ : xS} {p0 V : Nat} (hp : p0 < 8) (hV : xgI σ 37 3 = nI V) (hV8 : V ≤ 8) : xFl l G yX9_costOf cX9_costOf 5 (Option.some Jvm.ClassFile.FieldType.long) 0 0 [.ref (G.2.1 37), .int (nI p0)] σ (qCost σ p0 V) (σ) := by
  refine xM.of (by decide) (Nat.le_of_ble_eq_true rfl) (fun pp ee ss mm aa bel met kk X => ?_)
  have X : xC pp ss mm met kk cX9_costOf 5 RX9 (Option.some Jvm.ClassFile.FieldType.long) G := X
  show xW pp l ee { frames := 0, cells := 0, slots := 0, locals := 0 } ss mm aa bel met kk 5 G 0 0 (xQ bel G (fun r t => r = some (.long (qCost σ p0 V)) ∧ t = (σ)) aa ss) 0 [(0, .ref (G.2.1 37)), (1, .int (nI p0))] [] σ
  refine x_lconst (v := 0) X dX9_costOf_0 (by decide) ?_
  refine x_lstore_n (lv' := [(2, .long 0), (0, .ref (G.2.1 37)), (1, .int (nI p0))]) X dX9_costOf_1 rfl (by decide) rfl ?_
  refine x_iconst (v := nI 0) X dX9_costOf_2 (by decide) ?_
  refine x_istore (lv' := [(4, .int (nI 0)), (2, .long 0), (0, .ref (G.2.1 37)), (1, .int (nI p0))]) X dX9_costOf_3 (by decide) rfl ?_
  have lp5 : ∀ (NN5 : Nat) (n : Nat) (hn : n ≤ V), V - n = NN5 → xW pp l ee { frames := 0, cells := 0, slots := 0, locals := 0 } ss mm aa bel met kk 5 G 0 0 (xQ bel G (fun r t => r = some (.long (qCost σ p0 V)) ∧ t = (σ)) aa ss) 5 [(4, .int (nI n)), (2, .long (xSum (xgI σ 41) (fun v => xgI σ 49 (8 * p0 + v)) n)), (1, .int (nI p0)), (0, .ref (G.2.1 37))] [] (σ) := by
    intro NN5
    induction NN5 using Nat.strongRecOn with
    | ind NN5 ih5 =>
      intro n hn hNN5
      refine x_iload X dX9_costOf_5 rfl ?_
      refine x_aload_n X dX9_costOf_7 rfl ?_
      refine gf_X9_112 X dX9_costOf_8 rfl ?_
      rw [hV]
      refine x_icmpge (tgt := 45) X dX9_costOf_11 (by decide) (fun h11 => ?_) (fun h11 => ?_)
      · skip
        rw [xb_ge (x := nI n) (y := nI V) (a := n) (b := V) rfl rfl (by omega) (by omega)] at h11
        obtain rfl : n = V := by omega
        refine x_lload_n X dX9_costOf_45 rfl ?_
        exact x_lret X dX9_costOf_46 (xp_l (by first | rfl | simp [*]) (by first | rfl | simp [*]))
      · skip
        rw [xb_ge (x := nI n) (y := nI V) (a := n) (b := V) rfl rfl (by omega) (by omega)] at h11
        refine x_lload_n X dX9_costOf_14 rfl ?_
        refine x_aload_n X dX9_costOf_15 rfl ?_
        refine gf_X9_19 (k' := 41) X dX9_costOf_16 rfl rfl ?_
        refine x_iload X dX9_costOf_19 rfl ?_
        refine x_ialdN X dX9_costOf_21 rfl (by omega) (by omega) ?_
        refine x_i2l X dX9_costOf_22 ?_
        refine x_aload_n X dX9_costOf_23 rfl ?_
        refine gf_X9_43 (k' := 49) X dX9_costOf_24 rfl rfl ?_
        refine x_bipush (v := nI 8) X dX9_costOf_27 (by decide) ?_
        refine x_iload_n X dX9_costOf_29 rfl ?_
        refine x_imul X dX9_costOf_30 ?_
        rw [pk_mul 8 p0]
        refine x_iload X dX9_costOf_31 rfl ?_
        refine x_iadd X dX9_costOf_33 ?_
        rw [nI_add (8 * p0) n]
        refine x_ialdN X dX9_costOf_34 rfl (by omega) (by omega) ?_
        refine x_i2l X dX9_costOf_35 ?_
        refine x_lmul X dX9_costOf_36 ?_
        refine x_ladd X dX9_costOf_37 ?_
        refine x_topl (fun sm hsm => ?_)
        refine x_lstore_n (lv' := [(2, .long sm), (4, .int (nI n)), (1, .int (nI p0)), (0, .ref (G.2.1 37))]) X dX9_costOf_38 rfl (by decide) rfl ?_
        refine x_iinc (k := 1) (v := nI (n + 1)) (lv' := [(4, .int (nI (n + 1))), (2, .long sm), (1, .int (nI p0)), (0, .ref (G.2.1 37))]) X dX9_costOf_39 rfl (xn_inc _) (by decide) rfl ?_
        refine x_goto (tgt := 5) X dX9_costOf_42 (by decide) ?_
        subst hsm
        refine x_pick [0, 1, 2, 3] rfl ?_
        exact ih5 _ (by omega) (n + 1) (by omega) rfl
  refine x_pick [0, 1, 3, 2] rfl ?_
  exact lp5 _ 0 (by omega) rfl

set_option maxHeartbeats 4000000 in
set_option maxRecDepth 100000 in
theorem c_X9_digest {l : Launch} {G : xG} {σ : xS} : xFi l G yX9_digest cX9_digest 1 (Option.some Jvm.ClassFile.FieldType.int) 0 0 [.ref (G.2.1 37)] σ (if xgI σ 37 3 = 0 then 0 else xgI σ 37 16) (xsI σ 37 0 0) := by
  refine xM.of (by decide) (Nat.le_of_ble_eq_true rfl) (fun pp ee ss mm aa bel met kk X => ?_)
  have X : xC pp ss mm met kk cX9_digest 1 RX9 (Option.some Jvm.ClassFile.FieldType.int) G := X
  show xW pp l ee { frames := 0, cells := 0, slots := 0, locals := 0 } ss mm aa bel met kk 1 G 0 0 (xQ bel G (fun r t => r = some (.int (if xgI σ 37 3 = 0 then 0 else xgI σ 37 16)) ∧ t = (xsI σ 37 0 0)) aa ss) 0 [(0, .ref (G.2.1 37))] [] σ
  refine x_aload_n X dX9_digest_0 rfl ?_
  refine x_iconst (v := nI 0) X dX9_digest_1 (by decide) ?_
  refine pf_X9_86 X dX9_digest_2 rfl ?_
  refine x_aload_n X dX9_digest_5 rfl ?_
  refine gf_X9_112 X dX9_digest_6 rfl ?_
  rw [xgI_n (by decide)]
  refine x_ifne (tgt := 16) X dX9_digest_9 (by decide) (fun h9 => ?_) (fun h9 => ?_)
  · skip
    refine x_aload_n X dX9_digest_16 rfl ?_
    refine gf_X9_124 X dX9_digest_17 rfl ?_
    rw [xgI_n (by decide)]
    exact x_iret X dX9_digest_20 (xp_i (by first | (rw [if_pos h9]; rfl) | rw [if_neg h9]) (by first | rfl | simp [*]))
  · skip
    refine x_iconst (v := nI 0) X dX9_digest_12 (by decide) ?_
    refine x_goto (tgt := 20) X dX9_digest_13 (by decide) ?_
    exact x_iret X dX9_digest_20 (xp_i (by first | (rw [if_pos h9]; rfl) | rw [if_neg h9]) (by first | rfl | simp [*]))

set_option maxHeartbeats 4000000 in
set_option maxRecDepth 100000 in
theorem c_X9_begin {l : Launch} {G : xG} {σ : xS} : xFi l G yX9_begin cX9_begin 2 (Option.some Jvm.ClassFile.FieldType.int) 1 20 [.ref (G.2.1 37)] σ (if xgI σ 37 3 = 0 then -4 else xgI σ 37 20) (if xgI σ 37 3 = 0 then xsI σ 37 0 0 else xsI (qForget (xsI σ 37 0 0)) 37 19 1) := by
  refine xM.of (by decide) (Nat.le_of_ble_eq_true rfl) (fun pp ee ss mm aa bel met kk X => ?_)
  have X : xC pp ss mm met kk cX9_begin 2 RX9 (Option.some Jvm.ClassFile.FieldType.int) G := X
  show xW pp l ee { frames := 1, cells := 0, slots := 0, locals := 20 } ss mm aa bel met kk 2 G 0 0 (xQ bel G (fun r t => r = some (.int (if xgI σ 37 3 = 0 then -4 else xgI σ 37 20)) ∧ t = (if xgI σ 37 3 = 0 then xsI σ 37 0 0 else xsI (qForget (xsI σ 37 0 0)) 37 19 1)) aa ss) 0 [(0, .ref (G.2.1 37))] [] σ
  refine x_aload_n X dX9_begin_0 rfl ?_
  refine x_iconst (v := nI 0) X dX9_begin_1 (by decide) ?_
  refine pf_X9_86 X dX9_begin_2 rfl ?_
  refine x_aload_n X dX9_begin_5 rfl ?_
  refine gf_X9_112 X dX9_begin_6 rfl ?_
  rw [xgI_n (by decide)]
  refine x_ifne (tgt := 15) X dX9_begin_9 (by decide) (fun h9 => ?_) (fun h9 => ?_)
  · skip
    refine x_aload_n X dX9_begin_15 rfl ?_
    refine gf_X9_136 X dX9_begin_16 rfl ?_
    rw [xgI_n (by decide)]
    refine x_topi (fun had hhad => ?_)
    refine x_istore_n (lv' := [(1, .int had), (0, .ref (G.2.1 37))]) X dX9_begin_19 rfl (by decide) rfl ?_
    refine x_aload_n X dX9_begin_20 rfl ?_
    refine cv_X9_130 X c_X9_forget dX9_begin_21 rfl ⟨by decide, by decide, by decide, by decide⟩ rfl rfl (Nat.le_of_ble_eq_true rfl) (xk_v ?_)
    refine x_aload_n X dX9_begin_24 rfl ?_
    refine x_iconst (v := nI 1) X dX9_begin_25 (by decide) ?_
    refine pf_X9_133 X dX9_begin_26 rfl (Or.inr rfl) ?_
    refine x_iload_n X dX9_begin_29 rfl ?_
    exact x_iret X dX9_begin_30 (xp_i (by first | (rw [if_pos h9]; done) | (rw [if_neg h9, hhad]; done)) (by first | exact (if_pos h9).symm | exact (if_neg h9).symm))
  · skip
    refine x_bipush (v := (-4)) X dX9_begin_12 (by decide) ?_
    exact x_iret X dX9_begin_14 (xp_i (by first | (rw [if_pos h9]; done) | (rw [if_neg h9, hhad]; done)) (by first | exact (if_pos h9).symm | exact (if_neg h9).symm))
