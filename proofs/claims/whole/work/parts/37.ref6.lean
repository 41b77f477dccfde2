/-! The reference: questions -/
def qCnt (σ : xS) (r : Nat) : Nat → Nat
  | 0 => 0
  | b + 1 => qCnt σ r b + if xgI σ 56 (200 * r + b) = 0 then 0 else 1
theorem qCnt_le {σ : xS} {r : Nat} : ∀ n, qCnt σ r n ≤ n
  | 0 => Nat.le_refl _
  | n + 1 => by
    have h := qCnt_le (σ := σ) (r := r) n
    rw [qCnt]
    split <;> omega
theorem qCnt_0 {σ : xS} {r j : Nat} {v : Int32} : ∀ n, qCnt (xsI σ 37 j v) r n = qCnt σ r n
  | 0 => rfl
  | n + 1 => by rw [qCnt, qCnt, qCnt_0 n]; rfl
def qPP (σ : xS) (V : Nat) (L : Int32) (r : Nat) : Prop := qImp σ r V ∧ qCnt σ r (r + 1) = 0 ∧ xgI σ 54 r = L
noncomputable def qPrf (σ : xS) (V nr : Nat) (L : Int32) : Int32 := xFind (qPP σ V L) nI (-1) nr 0
theorem qPrf_0 {σ : xS} {V nr j : Nat} {v L : Int32} : qPrf (xsI σ 37 j v) V nr L = qPrf σ V nr L := by
  unfold qPrf
  congr 1
  funext r
  unfold qPP
  rw [qCnt_0]
  rfl
def qSumR (σ : xS) (r p V : Nat) : Int64 := xSumL (fun v => xgL σ 52 (8 * r + v)) (fun v => xgI σ 49 (8 * p + v)) V
def qPg (σ : xS) (z V : Nat) (k : Nat) : Prop := z = V ∧ ∀ j, j < k → ¬ xIn (xgI σ 38 j) (-1000000) 1000000 = 0
def qPz (σ : xS) : xS := xsI (xsI σ 37 0 0) 37 2 0
def qPl (σ : xS) (np : Nat) : Nat → xS
  | 0 => qPz σ
  | k + 1 => xsI (qPl σ np k) 49 (8 * np + k) (xgI σ 38 k)
theorem qPl_o {σ : xS} {np a : Nat} (b : Nat) (h : a ≠ 49) : ∀ k, xgI (qPl σ np k) a b = xgI (qPz σ) a b
  | 0 => rfl
  | k + 1 => by rw [qPl, xgI_n (fun z => h z.1), qPl_o b h k]
theorem qPz_o {σ : xS} {a b : Nat} (h : a ≠ 37) : xgI (qPz σ) a b = xgI σ a b := by
  unfold qPz
  rw [xgI_n (fun z => h z.1), xgI_n (fun z => h z.1)]

set_option maxHeartbeats 4000000 in
set_option maxRecDepth 100000 in
theorem c_X9_fault {l : Launch} {G : xG} {σ : xS} {w : Int32} : xFi l G yX9_fault cX9_fault 2 (Option.some Jvm.ClassFile.FieldType.int) 0 0 [.ref (G.2.1 37), .int w] σ (if w = 0 then xgI σ 37 22 else if w = 1 then xgI σ 37 23 else if w = 2 then xgI σ 37 24 else -3) (xsI σ 37 0 0) := by
  refine xM.of (by decide) (Nat.le_of_ble_eq_true rfl) (fun pp ee ss mm aa bel met kk X => ?_)
  have X : xC pp ss mm met kk cX9_fault 2 RX9 (Option.some Jvm.ClassFile.FieldType.int) G := X
  show xW pp l ee { frames := 0, cells := 0, slots := 0, locals := 0 } ss mm aa bel met kk 2 G 0 0 (xQ bel G (fun rv_ tv_ => rv_ = some (.int (if w = 0 then xgI σ 37 22 else if w = 1 then xgI σ 37 23 else if w = 2 then xgI σ 37 24 else -3)) ∧ tv_ = (xsI σ 37 0 0)) aa ss) 0 [(0, .ref (G.2.1 37)), (1, .int w)] [] σ
  refine x_aload_n X dX9_fault_0 rfl ?_
  refine x_iconst (v := nI 0) X dX9_fault_1 (by decide) ?_
  refine pf_X9_86 X dX9_fault_2 rfl ?_
  refine x_iload_n X dX9_fault_5 rfl ?_
  refine x_ifne (tgt := 16) X dX9_fault_6 (by decide) (fun h6 => ?_) (fun h6 => ?_)
  · skip
    refine x_iload_n X dX9_fault_16 rfl ?_
    refine x_iconst (v := nI 1) X dX9_fault_17 (by decide) ?_
    refine x_icmpne (tgt := 28) X dX9_fault_18 (by decide) (fun h18 => ?_) (fun h18 => ?_)
    · skip
      refine x_iload_n X dX9_fault_28 rfl ?_
      refine x_iconst (v := nI 2) X dX9_fault_29 (by decide) ?_
      refine x_icmpne (tgt := 40) X dX9_fault_30 (by decide) (fun h30 => ?_) (fun h30 => ?_)
      · skip
        refine x_bipush (v := (-3)) X dX9_fault_40 (by decide) ?_
        exact x_iret X dX9_fault_42 (xp_i (by first | exact (if_pos h6).symm | exact ((if_neg h6).trans (if_pos h18)).symm | exact ((if_neg h6).trans ((if_neg h18).trans (if_pos h30))).symm | exact ((if_neg h6).trans ((if_neg h18).trans (if_neg h30))).symm) (by first | rfl | simp [*]))
      · skip
        refine x_aload_n X dX9_fault_33 rfl ?_
        refine gf_X9_53 X dX9_fault_34 rfl ?_
        rw [xgI_n (by decide)]
        refine x_goto (tgt := 42) X dX9_fault_37 (by decide) ?_
        exact x_iret X dX9_fault_42 (xp_i (by first | exact (if_pos h6).symm | exact ((if_neg h6).trans (if_pos h18)).symm | exact ((if_neg h6).trans ((if_neg h18).trans (if_pos h30))).symm | exact ((if_neg h6).trans ((if_neg h18).trans (if_neg h30))).symm) (by first | rfl | simp [*]))
    · skip
      refine x_aload_n X dX9_fault_21 rfl ?_
      refine gf_X9_49 X dX9_fault_22 rfl ?_
      rw [xgI_n (by decide)]
      refine x_goto (tgt := 42) X dX9_fault_25 (by decide) ?_
      exact x_iret X dX9_fault_42 (xp_i (by first | exact (if_pos h6).symm | exact ((if_neg h6).trans (if_pos h18)).symm | exact ((if_neg h6).trans ((if_neg h18).trans (if_pos h30))).symm | exact ((if_neg h6).trans ((if_neg h18).trans (if_neg h30))).symm) (by first | rfl | simp [*]))
  · skip
    refine x_aload_n X dX9_fault_9 rfl ?_
    refine gf_X9_139 X dX9_fault_10 rfl ?_
    rw [xgI_n (by decide)]
    refine x_goto (tgt := 42) X dX9_fault_13 (by decide) ?_
    exact x_iret X dX9_fault_42 (xp_i (by first | exact (if_pos h6).symm | exact ((if_neg h6).trans (if_pos h18)).symm | exact ((if_neg h6).trans ((if_neg h18).trans (if_pos h30))).symm | exact ((if_neg h6).trans ((if_neg h18).trans (if_neg h30))).symm) (by first | rfl | simp [*]))

set_option maxHeartbeats 4000000 in
set_option maxRecDepth 100000 in
theorem c_X9_numberT {l : Launch} {G : xG} {σ : xS} {x : Int32} {z : Nat} (hz : xgI σ 37 20 = nI z) (hz2 : z ≤ 1500) (hx : ¬ xLt x z) : xFi l G yX9_number cX9_number 2 (Option.some Jvm.ClassFile.FieldType.int) 1 22 [.ref (G.2.1 37), .int x] σ (0) (xsI σ 37 0 1) := by
  refine xM.of (by decide) (Nat.le_of_ble_eq_true rfl) (fun pp ee ss mm aa bel met kk X => ?_)
  have X : xC pp ss mm met kk cX9_number 2 RX9 (Option.some Jvm.ClassFile.FieldType.int) G := X
  show xW pp l ee { frames := 1, cells := 0, slots := 0, locals := 22 } ss mm aa bel met kk 2 G 0 0 (xQ bel G (fun rv_ tv_ => rv_ = some (.int (0)) ∧ tv_ = (xsI σ 37 0 1)) aa ss) 0 [(0, .ref (G.2.1 37)), (1, .int x)] [] σ
  refine x_aload_n X dX9_number_0 rfl ?_
  refine x_iload_n X dX9_number_1 rfl ?_
  refine x_iconst (v := nI 0) X dX9_number_2 (by decide) ?_
  refine x_aload_n X dX9_number_3 rfl ?_
  refine gf_X9_136 X dX9_number_4 rfl ?_
  rw [hz]
  refine x_iconst (v := nI 1) X dX9_number_7 (by decide) ?_
  refine x_isub X dX9_number_8 ?_
  refine cs_X9_89 X c_X9_in dX9_number_9 ⟨by decide, by decide, by decide, by decide⟩ rfl rfl (Nat.le_of_ble_eq_true rfl) (xk_i ?_)
  rw [xIn_lt (by omega)]
  refine x_ifne (tgt := 19) X dX9_number_12 (by decide) (fun h12 => ?_) (fun h12 => ?_)
  · skip
    exact absurd (xB_f hx) h12
  · skip
    refine x_iconst (v := nI 1) X dX9_number_15 (by decide) ?_
    refine x_goto (tgt := 20) X dX9_number_16 (by decide) ?_
    refine cv_X9_157 X (c_X9_refuses (Or.inr rfl)) dX9_number_20 rfl ⟨by decide, by decide, by decide, by decide⟩ rfl rfl (Nat.le_of_ble_eq_true rfl) (xk_i ?_)
    refine x_ifeq (tgt := 30) X dX9_number_23 (by decide) (fun h23 => ?_) (fun h23 => ?_)
    · skip
      exact absurd h23 (by decide)
    · skip
      refine x_iconst (v := nI 0) X dX9_number_26 (by decide) ?_
      refine x_goto (tgt := 36) X dX9_number_27 (by decide) ?_
      exact x_iret X dX9_number_36 (xp_i (by first | rfl | simp [*]) (by first | rfl | simp [*]))

set_option maxHeartbeats 4000000 in
set_option maxRecDepth 100000 in
theorem c_X9_number {l : Launch} {G : xG} {σ : xS} {j : Nat} {z : Nat} (hz : xgI σ 37 20 = nI z) (hz2 : z ≤ 1500) (hj : j < z) : xFi l G yX9_number cX9_number 2 (Option.some Jvm.ClassFile.FieldType.int) 1 22 [.ref (G.2.1 37), .int (nI j)] σ (xgI σ 50 j) (xsI σ 37 0 0) := by
  refine xM.of (by decide) (Nat.le_of_ble_eq_true rfl) (fun pp ee ss mm aa bel met kk X => ?_)
  have X : xC pp ss mm met kk cX9_number 2 RX9 (Option.some Jvm.ClassFile.FieldType.int) G := X
  show xW pp l ee { frames := 1, cells := 0, slots := 0, locals := 22 } ss mm aa bel met kk 2 G 0 0 (xQ bel G (fun rv_ tv_ => rv_ = some (.int (xgI σ 50 j)) ∧ tv_ = (xsI σ 37 0 0)) aa ss) 0 [(0, .ref (G.2.1 37)), (1, .int (nI j))] [] σ
  refine x_aload_n X dX9_number_0 rfl ?_
  refine x_iload_n X dX9_number_1 rfl ?_
  refine x_iconst (v := nI 0) X dX9_number_2 (by decide) ?_
  refine x_aload_n X dX9_number_3 rfl ?_
  refine gf_X9_136 X dX9_number_4 rfl ?_
  rw [hz]
  refine x_iconst (v := nI 1) X dX9_number_7 (by decide) ?_
  refine x_isub X dX9_number_8 ?_
  refine cs_X9_89 X c_X9_in dX9_number_9 ⟨by decide, by decide, by decide, by decide⟩ rfl rfl (Nat.le_of_ble_eq_true rfl) (xk_i ?_)
  rw [xIn_lt (by omega)]
  refine x_ifne (tgt := 19) X dX9_number_12 (by decide) (fun h12 => ?_) (fun h12 => ?_)
  · skip
    refine x_iconst (v := nI 0) X dX9_number_19 (by decide) ?_
    refine cv_X9_157 X (c_X9_refuses (Or.inl rfl)) dX9_number_20 rfl ⟨by decide, by decide, by decide, by decide⟩ rfl rfl (Nat.le_of_ble_eq_true rfl) (xk_i ?_)
    refine x_ifeq (tgt := 30) X dX9_number_23 (by decide) (fun h23 => ?_) (fun h23 => ?_)
    · skip
      refine x_aload_n X dX9_number_30 rfl ?_
      refine gf_X9_46 (k' := 50) X dX9_number_31 rfl rfl ?_
      refine x_iload_n X dX9_number_34 rfl ?_
      refine x_ialdN X dX9_number_35 rfl (by omega) (by omega) ?_
      rw [xgI_n (by omega)]
      exact x_iret X dX9_number_36 (xp_i (by first | rfl | simp [*]) (by first | rfl | simp [*]))
    · skip
      exact absurd (by decide) h23
  · skip
    exact absurd ⟨j, hj, rfl⟩ (xB_0.mp h12)

set_option maxHeartbeats 4000000 in
set_option maxRecDepth 100000 in
theorem c_X9_assumptions {l : Launch} {G : xG} {σ : xS} {r : Nat} (hr : r < 200) : xFi l G yX9_assumptions cX9_assumptions 4 (Option.some Jvm.ClassFile.FieldType.int) 0 0 [.ref (G.2.1 37), .int (nI r)] σ (nI (qCnt σ r (r + 1))) (σ) := by
  refine xM.of (by decide) (Nat.le_of_ble_eq_true rfl) (fun pp ee ss mm aa bel met kk X => ?_)
  have X : xC pp ss mm met kk cX9_assumptions 4 RX9 (Option.some Jvm.ClassFile.FieldType.int) G := X
  show xW pp l ee { frames := 0, cells := 0, slots := 0, locals := 0 } ss mm aa bel met kk 4 G 0 0 (xQ bel G (fun rv_ tv_ => rv_ = some (.int (nI (qCnt σ r (r + 1)))) ∧ tv_ = (σ)) aa ss) 0 [(0, .ref (G.2.1 37)), (1, .int (nI r))] [] σ
  refine x_iconst (v := nI 0) X dX9_assumptions_0 (by decide) ?_
  refine x_istore_n (lv' := [(2, .int (nI 0)), (0, .ref (G.2.1 37)), (1, .int (nI r))]) X dX9_assumptions_1 rfl (by decide) rfl ?_
  refine x_iconst (v := nI 0) X dX9_assumptions_2 (by decide) ?_
  refine x_istore_n (lv' := [(3, .int (nI 0)), (2, .int (nI 0)), (0, .ref (G.2.1 37)), (1, .int (nI r))]) X dX9_assumptions_3 rfl (by decide) rfl ?_
  have lp4 : ∀ (NN4 : Nat) (b : Nat) (hb : b ≤ r + 1), r + 1 - b = NN4 → xW pp l ee { frames := 0, cells := 0, slots := 0, locals := 0 } ss mm aa bel met kk 4 G 0 0 (xQ bel G (fun rv_ tv_ => rv_ = some (.int (nI (qCnt σ r (r + 1)))) ∧ tv_ = (σ)) aa ss) 4 [(3, .int (nI b)), (2, .int (nI (qCnt σ r b))), (1, .int (nI r)), (0, .ref (G.2.1 37))] [] (σ) := by
    intro NN4
    induction NN4 using Nat.strongRecOn with
    | ind NN4 ih4 =>
      intro b hb hNN4
      refine x_iload_n X dX9_assumptions_4 rfl ?_
      refine x_iload_n X dX9_assumptions_5 rfl ?_
      refine x_icmpgt (tgt := 38) X dX9_assumptions_6 (by decide) (fun h6 => ?_) (fun h6 => ?_)
      · skip
        rw [xb_gt (x := nI b) (y := nI r) (a := b) (b := r) rfl rfl (by omega) (by omega)] at h6
        obtain rfl : b = r + 1 := by omega
        refine x_iload_n X dX9_assumptions_38 rfl ?_
        exact x_iret X dX9_assumptions_39 (xp_i (by first | rfl | simp [*]) (by first | rfl | simp [*]))
      · skip
        rw [xb_gt (x := nI b) (y := nI r) (a := b) (b := r) rfl rfl (by omega) (by omega)] at h6
        refine x_iload_n X dX9_assumptions_9 rfl ?_
        refine x_aload_n X dX9_assumptions_10 rfl ?_
        refine gf_X9_74 (k' := 56) X dX9_assumptions_11 rfl rfl ?_
        refine x_sipush (v := nI 200) X dX9_assumptions_14 (by decide) ?_
        refine x_iload_n X dX9_assumptions_17 rfl ?_
        refine x_imul X dX9_assumptions_18 ?_
        rw [pk_mul 200 r]
        refine x_iload_n X dX9_assumptions_19 rfl ?_
        refine x_iadd X dX9_assumptions_20 ?_
        rw [nI_add (200 * r) b]
        refine x_zaldN X dX9_assumptions_21 rfl (by omega) (by omega) ?_
        refine x_ifeq (tgt := 29) X dX9_assumptions_22 (by decide) (fun h22 => ?_) (fun h22 => ?_)
        · skip
          have hcn : qCnt σ r (b + 1) = qCnt σ r b + 0 := by rw [qCnt, if_pos h22]
          refine x_iconst (v := nI 0) X dX9_assumptions_29 (by decide) ?_
          refine x_iadd X dX9_assumptions_30 ?_
          rw [nI_add (qCnt σ r b) 0]
          refine x_istore_n (lv' := [(2, .int (nI ((qCnt σ r b) + 0))), (3, .int (nI b)), (1, .int (nI r)), (0, .ref (G.2.1 37))]) X dX9_assumptions_31 rfl (by decide) rfl ?_
          refine x_iinc (k := 1) (v := nI (b + 1)) (lv' := [(3, .int (nI (b + 1))), (2, .int (nI ((qCnt σ r b) + 0))), (1, .int (nI r)), (0, .ref (G.2.1 37))]) X dX9_assumptions_32 rfl (xn_inc _) (by decide) rfl ?_
          refine x_goto (tgt := 4) X dX9_assumptions_35 (by decide) ?_
          rw [← hcn]
          refine x_pick [0, 1, 2, 3] rfl ?_
          exact ih4 _ (by omega) (b + 1) (by omega) rfl
        · skip
          have hcn : qCnt σ r (b + 1) = qCnt σ r b + 1 := by rw [qCnt, if_neg h22]
          refine x_iconst (v := nI 1) X dX9_assumptions_25 (by decide) ?_
          refine x_goto (tgt := 30) X dX9_assumptions_26 (by decide) ?_
          refine x_iadd X dX9_assumptions_30 ?_
          rw [nI_add (qCnt σ r b) 1]
          refine x_istore_n (lv' := [(2, .int (nI ((qCnt σ r b) + 1))), (3, .int (nI b)), (1, .int (nI r)), (0, .ref (G.2.1 37))]) X dX9_assumptions_31 rfl (by decide) rfl ?_
          refine x_iinc (k := 1) (v := nI (b + 1)) (lv' := [(3, .int (nI (b + 1))), (2, .int (nI ((qCnt σ r b) + 1))), (1, .int (nI r)), (0, .ref (G.2.1 37))]) X dX9_assumptions_32 rfl (xn_inc _) (by decide) rfl ?_
          refine x_goto (tgt := 4) X dX9_assumptions_35 (by decide) ?_
          rw [← hcn]
          refine x_pick [0, 1, 2, 3] rfl ?_
          exact ih4 _ (by omega) (b + 1) (by omega) rfl
  refine x_pick [0, 1, 3, 2] rfl ?_
  exact lp4 _ 0 (by omega) rfl

set_option maxHeartbeats 4000000 in
set_option maxRecDepth 100000 in
theorem c_X9_sum {l : Launch} {G : xG} {σ : xS} {r p0 V : Nat} (hr : r < 200) (hp : p0 < 8) (hV : xgI σ 37 3 = nI V) (hV8 : V ≤ 8) : xFl l G yX9_sum cX9_sum 6 (Option.some Jvm.ClassFile.FieldType.long) 0 0 [.ref (G.2.1 37), .int (nI r), .int (nI p0)] σ (qSumR σ r p0 V) (σ) := by
  refine xM.of (by decide) (Nat.le_of_ble_eq_true rfl) (fun pp ee ss mm aa bel met kk X => ?_)
  have X : xC pp ss mm met kk cX9_sum 6 RX9 (Option.some Jvm.ClassFile.FieldType.long) G := X
  show xW pp l ee { frames := 0, cells := 0, slots := 0, locals := 0 } ss mm aa bel met kk 6 G 0 0 (xQ bel G (fun rv_ tv_ => rv_ = some (.long (qSumR σ r p0 V)) ∧ tv_ = (σ)) aa ss) 0 [(0, .ref (G.2.1 37)), (1, .int (nI r)), (2, .int (nI p0))] [] σ
  refine x_lconst (v := 0) X dX9_sum_0 (by decide) ?_
  refine x_lstore_n (lv' := [(3, .long 0), (0, .ref (G.2.1 37)), (1, .int (nI r)), (2, .int (nI p0))]) X dX9_sum_1 rfl (by decide) rfl ?_
  refine x_iconst (v := nI 0) X dX9_sum_2 (by decide) ?_
  refine x_istore (lv' := [(5, .int (nI 0)), (3, .long 0), (0, .ref (G.2.1 37)), (1, .int (nI r)), (2, .int (nI p0))]) X dX9_sum_3 (by decide) rfl ?_
  have lp5 : ∀ (NN5 : Nat) (n : Nat) (hn : n ≤ V), V - n = NN5 → xW pp l ee { frames := 0, cells := 0, slots := 0, locals := 0 } ss mm aa bel met kk 6 G 0 0 (xQ bel G (fun rv_ tv_ => rv_ = some (.long (qSumR σ r p0 V)) ∧ tv_ = (σ)) aa ss) 5 [(5, .int (nI n)), (3, .long (qSumR σ r p0 n)), (2, .int (nI p0)), (1, .int (nI r)), (0, .ref (G.2.1 37))] [] (σ) := by
    intro NN5
    induction NN5 using Nat.strongRecOn with
    | ind NN5 ih5 =>
      intro n hn hNN5
      refine x_iload X dX9_sum_5 rfl ?_
      refine x_aload_n X dX9_sum_7 rfl ?_
      refine gf_X9_112 X dX9_sum_8 rfl ?_
      rw [hV]
      refine x_icmpge (tgt := 49) X dX9_sum_11 (by decide) (fun h11 => ?_) (fun h11 => ?_)
      · skip
        rw [xb_ge (x := nI n) (y := nI V) (a := n) (b := V) rfl rfl (by omega) (by omega)] at h11
        obtain rfl : n = V := by omega
        refine x_lload_n X dX9_sum_49 rfl ?_
        exact x_lret X dX9_sum_50 (xp_l (by first | rfl | simp [*]) (by first | rfl | simp [*]))
      · skip
        rw [xb_ge (x := nI n) (y := nI V) (a := n) (b := V) rfl rfl (by omega) (by omega)] at h11
        refine x_lload_n X dX9_sum_14 rfl ?_
        refine x_aload_n X dX9_sum_15 rfl ?_
        refine gf_X9_59 (k' := 52) X dX9_sum_16 rfl rfl ?_
        refine x_bipush (v := nI 8) X dX9_sum_19 (by decide) ?_
        refine x_iload_n X dX9_sum_21 rfl ?_
        refine x_imul X dX9_sum_22 ?_
        rw [pk_mul 8 r]
        refine x_iload X dX9_sum_23 rfl ?_
        refine x_iadd X dX9_sum_25 ?_
        rw [nI_add (8 * r) n]
        refine x_laldN X dX9_sum_26 rfl (by omega) (by omega) ?_
        refine x_aload_n X dX9_sum_27 rfl ?_
        refine gf_X9_43 (k' := 49) X dX9_sum_28 rfl rfl ?_
        refine x_bipush (v := nI 8) X dX9_sum_31 (by decide) ?_
        refine x_iload_n X dX9_sum_33 rfl ?_
        refine x_imul X dX9_sum_34 ?_
        rw [pk_mul 8 p0]
        refine x_iload X dX9_sum_35 rfl ?_
        refine x_iadd X dX9_sum_37 ?_
        rw [nI_add (8 * p0) n]
        refine x_ialdN X dX9_sum_38 rfl (by omega) (by omega) ?_
        refine x_i2l X dX9_sum_39 ?_
        refine x_lmul X dX9_sum_40 ?_
        refine x_ladd X dX9_sum_41 ?_
        refine x_topl (fun sm hsm => ?_)
        refine x_lstore_n (lv' := [(3, .long sm), (5, .int (nI n)), (2, .int (nI p0)), (1, .int (nI r)), (0, .ref (G.2.1 37))]) X dX9_sum_42 rfl (by decide) rfl ?_
        refine x_iinc (k := 1) (v := nI (n + 1)) (lv' := [(5, .int (nI (n + 1))), (3, .long sm), (2, .int (nI p0)), (1, .int (nI r)), (0, .ref (G.2.1 37))]) X dX9_sum_43 rfl (xn_inc _) (by decide) rfl ?_
        refine x_goto (tgt := 5) X dX9_sum_46 (by decide) ?_
        subst hsm
        refine x_pick [0, 1, 2, 3, 4] rfl ?_
        exact ih5 _ (by omega) (n + 1) (by omega) rfl
  refine x_pick [0, 1, 4, 3, 2] rfl ?_
  exact lp5 _ 0 (by omega) rfl

set_option maxHeartbeats 4000000 in
set_option maxRecDepth 100000 in
theorem c_X9_proof {l : Launch} {G : xG} {σ : xS} {L : Int32} {V nr : Nat} (hV : xgI σ 37 3 = nI V) (hV8 : V ≤ 8) (hr : xgI σ 37 26 = nI nr) (hr2 : nr ≤ 200) : xFi l G yX9_proof cX9_proof 3 (Option.some Jvm.ClassFile.FieldType.int) 1 23 [.ref (G.2.1 37), .int L] σ (qPrf σ V nr L) (σ) := by
  refine xM.of (by decide) (Nat.le_of_ble_eq_true rfl) (fun pp ee ss mm aa bel met kk X => ?_)
  have X : xC pp ss mm met kk cX9_proof 3 RX9 (Option.some Jvm.ClassFile.FieldType.int) G := X
  show xW pp l ee { frames := 1, cells := 0, slots := 0, locals := 23 } ss mm aa bel met kk 3 G 0 0 (xQ bel G (fun rv_ tv_ => rv_ = some (.int (qPrf σ V nr L)) ∧ tv_ = (σ)) aa ss) 0 [(0, .ref (G.2.1 37)), (1, .int L)] [] σ
  refine x_iconst (v := nI 0) X dX9_proof_0 (by decide) ?_
  refine x_istore_n (lv' := [(2, .int (nI 0)), (0, .ref (G.2.1 37)), (1, .int L)]) X dX9_proof_1 rfl (by decide) rfl ?_
  have lp2 : ∀ (NN2 : Nat) (n : Nat) (hn : n ≤ nr) (hw : qPrf σ V nr L = xFind (qPP σ V L) nI (-1) (nr - n) n), nr - n = NN2 → xW pp l ee { frames := 1, cells := 0, slots := 0, locals := 23 } ss mm aa bel met kk 3 G 0 0 (xQ bel G (fun rv_ tv_ => rv_ = some (.int (qPrf σ V nr L)) ∧ tv_ = (σ)) aa ss) 2 [(2, .int (nI n)), (1, .int L), (0, .ref (G.2.1 37))] [] (σ) := by
    intro NN2
    induction NN2 using Nat.strongRecOn with
    | ind NN2 ih2 =>
      intro n hn hw hNN2
      refine x_iload_n X dX9_proof_2 rfl ?_
      refine x_aload_n X dX9_proof_3 rfl ?_
      refine gf_X9_145 X dX9_proof_4 rfl ?_
      rw [hr]
      refine x_icmpge (tgt := 44) X dX9_proof_7 (by decide) (fun h7 => ?_) (fun h7 => ?_)
      · skip
        rw [xb_ge (x := nI n) (y := nI nr) (a := n) (b := nr) rfl rfl (by omega) (by omega)] at h7
        rw [show n = nr from by omega, xFind_0] at hw
        refine x_iconst (v := (-1)) X dX9_proof_44 (by decide) ?_
        exact x_iret X dX9_proof_45 (xp_i (by rw [hw]) (by first | rfl | simp [*]))
      · skip
        rw [xb_ge (x := nI n) (y := nI nr) (a := n) (b := nr) rfl rfl (by omega) (by omega)] at h7
        refine x_aload_n X dX9_proof_10 rfl ?_
        refine x_iload_n X dX9_proof_11 rfl ?_
        refine cv_X9_236 X (c_X9_isImpossible (by omega) hV hV8) dX9_proof_12 rfl ⟨by decide, by decide, by decide, by decide⟩ rfl rfl (Nat.le_of_ble_eq_true rfl) (xk_i ?_)
        refine x_ifeq (tgt := 38) X dX9_proof_15 (by decide) (fun h15 => ?_) (fun h15 => ?_)
        · skip
          have hw2 := hw.trans (xFind_f (by omega) (fun z => xB_0.mp h15 z.1))
          refine x_iinc (k := 0) (v := nI (n + 1)) (lv' := [(2, .int (nI (n + 1))), (1, .int L), (0, .ref (G.2.1 37))]) X dX9_proof_38 rfl (xn_inc _) (by decide) rfl ?_
          refine x_goto (tgt := 2) X dX9_proof_41 (by decide) ?_
          refine x_pick [0, 1, 2] rfl ?_
          exact ih2 _ (by omega) (n + 1) (by omega) hw2 rfl
        · skip
          have h15b := Classical.not_not.mp (fun z => h15 (xB_f z))
          refine x_aload_n X dX9_proof_18 rfl ?_
          refine x_iload_n X dX9_proof_19 rfl ?_
          refine cv_X9_239 X (c_X9_assumptions (by omega)) dX9_proof_20 rfl ⟨by decide, by decide, by decide, by decide⟩ rfl rfl (Nat.le_of_ble_eq_true rfl) (xk_i ?_)
          have hcb := qCnt_le (σ := σ) (r := n) (n + 1)
          refine x_ifne (tgt := 38) X dX9_proof_23 (by decide) (fun h23 => ?_) (fun h23 => ?_)
          · skip
            rw [xb_ne (x := nI (qCnt σ n (n + 1))) (y := 0) (a := (qCnt σ n (n + 1))) (b := 0) rfl rfl (by omega) (by omega)] at h23
            have hw2 := hw.trans (xFind_f (by omega) (fun z => h23 z.2.1))
            refine x_iinc (k := 0) (v := nI (n + 1)) (lv' := [(2, .int (nI (n + 1))), (1, .int L), (0, .ref (G.2.1 37))]) X dX9_proof_38 rfl (xn_inc _) (by decide) rfl ?_
            refine x_goto (tgt := 2) X dX9_proof_41 (by decide) ?_
            refine x_pick [0, 1, 2] rfl ?_
            exact ih2 _ (by omega) (n + 1) (by omega) hw2 rfl
          · skip
            rw [xb_ne (x := nI (qCnt σ n (n + 1))) (y := 0) (a := (qCnt σ n (n + 1))) (b := 0) rfl rfl (by omega) (by omega)] at h23
            refine x_aload_n X dX9_proof_26 rfl ?_
            refine gf_X9_66 (k' := 54) X dX9_proof_27 rfl rfl ?_
            refine x_iload_n X dX9_proof_30 rfl ?_
            refine x_zaldN X dX9_proof_31 rfl (by omega) (by omega) ?_
            refine x_iload_n X dX9_proof_32 rfl ?_
            refine x_icmpne (tgt := 38) X dX9_proof_33 (by decide) (fun h33 => ?_) (fun h33 => ?_)
            · skip
              have hw2 := hw.trans (xFind_f (by omega) (fun z => h33 z.2.2))
              refine x_iinc (k := 0) (v := nI (n + 1)) (lv' := [(2, .int (nI (n + 1))), (1, .int L), (0, .ref (G.2.1 37))]) X dX9_proof_38 rfl (xn_inc _) (by decide) rfl ?_
              refine x_goto (tgt := 2) X dX9_proof_41 (by decide) ?_
              refine x_pick [0, 1, 2] rfl ?_
              exact ih2 _ (by omega) (n + 1) (by omega) hw2 rfl
            · skip
              refine x_iload_n X dX9_proof_36 rfl ?_
              exact x_iret X dX9_proof_37 (xp_i (by rw [hw, xFind_t (by omega) ⟨h15b, h23, h33⟩]) (by first | rfl | simp [*]))
  refine x_pick [0, 2, 1] rfl ?_
  exact lp2 _ 0 (by omega) rfl rfl

set_option maxHeartbeats 4000000 in
set_option maxRecDepth 100000 in
theorem c_X9_proved {l : Launch} {G : xG} {σ : xS} {V nr : Nat} (hV : xgI σ 37 3 = nI V) (hV8 : V ≤ 8) (hr : xgI σ 37 26 = nI nr) (hr2 : nr ≤ 200) : xFi l G yX9_proved cX9_proved 1 (Option.some Jvm.ClassFile.FieldType.int) 2 45 [.ref (G.2.1 37)] σ (if qPrf σ V nr 0 = -1 then (if qPrf σ V nr 1 = -1 then 0 else 2) else 1) (xsI σ 37 0 0) := by
  refine xM.of (by decide) (Nat.le_of_ble_eq_true rfl) (fun pp ee ss mm aa bel met kk X => ?_)
  have X : xC pp ss mm met kk cX9_proved 1 RX9 (Option.some Jvm.ClassFile.FieldType.int) G := X
  show xW pp l ee { frames := 2, cells := 0, slots := 0, locals := 45 } ss mm aa bel met kk 1 G 0 0 (xQ bel G (fun rv_ tv_ => rv_ = some (.int (if qPrf σ V nr 0 = -1 then (if qPrf σ V nr 1 = -1 then 0 else 2) else 1)) ∧ tv_ = (xsI σ 37 0 0)) aa ss) 0 [(0, .ref (G.2.1 37))] [] σ
  refine x_aload_n X dX9_proved_0 rfl ?_
  refine x_iconst (v := nI 0) X dX9_proved_1 (by decide) ?_
  refine pf_X9_86 X dX9_proved_2 rfl ?_
  refine x_aload_n X dX9_proved_5 rfl ?_
  refine x_iconst (v := nI 0) X dX9_proved_6 (by decide) ?_
  refine cv_X9_249 X (c_X9_proof ((xgI_n (by decide)).trans hV) hV8 ((xgI_n (by decide)).trans hr) hr2) dX9_proved_7 rfl ⟨by decide, by decide, by decide, by decide⟩ rfl rfl (Nat.le_of_ble_eq_true rfl) (xk_i ?_)
  rw [qPrf_0]
  refine x_iconst (v := (-1)) X dX9_proved_10 (by decide) ?_
  refine x_icmpeq (tgt := 18) X dX9_proved_11 (by decide) (fun h11 => ?_) (fun h11 => ?_)
  · skip
    refine x_aload_n X dX9_proved_18 rfl ?_
    refine x_iconst (v := nI 1) X dX9_proved_19 (by decide) ?_
    refine cv_X9_249 X (c_X9_proof ((xgI_n (by decide)).trans hV) hV8 ((xgI_n (by decide)).trans hr) hr2) dX9_proved_20 rfl ⟨by decide, by decide, by decide, by decide⟩ rfl rfl (Nat.le_of_ble_eq_true rfl) (xk_i ?_)
    rw [qPrf_0]
    refine x_iconst (v := (-1)) X dX9_proved_23 (by decide) ?_
    refine x_icmpeq (tgt := 31) X dX9_proved_24 (by decide) (fun h24 => ?_) (fun h24 => ?_)
    · skip
      refine x_iconst (v := nI 0) X dX9_proved_31 (by decide) ?_
      exact x_iret X dX9_proved_32 (xp_i (by first | exact (if_neg h11).symm | exact ((if_pos h11).trans (if_pos h24)).symm | exact ((if_pos h11).trans (if_neg h24)).symm) (by first | rfl | simp [*]))
    · skip
      refine x_iconst (v := nI 2) X dX9_proved_27 (by decide) ?_
      refine x_goto (tgt := 32) X dX9_proved_28 (by decide) ?_
      exact x_iret X dX9_proved_32 (xp_i (by first | exact (if_neg h11).symm | exact ((if_pos h11).trans (if_pos h24)).symm | exact ((if_pos h11).trans (if_neg h24)).symm) (by first | rfl | simp [*]))
  · skip
    refine x_iconst (v := nI 1) X dX9_proved_14 (by decide) ?_
    refine x_goto (tgt := 32) X dX9_proved_15 (by decide) ?_
    exact x_iret X dX9_proved_32 (xp_i (by first | exact (if_neg h11).symm | exact ((if_pos h11).trans (if_pos h24)).symm | exact ((if_pos h11).trans (if_neg h24)).symm) (by first | rfl | simp [*]))

set_option maxHeartbeats 4000000 in
set_option maxRecDepth 100000 in
theorem c_X9_bestT {l : Launch} {G : xG} {σ : xS} {V nr : Nat} (hV : xgI σ 37 3 = nI V) (hV8 : V ≤ 8) (hr : xgI σ 37 26 = nI nr) (hr2 : nr ≤ 200) (h : ¬ qPrf σ V nr 0 = -1 ∨ qPrf σ V nr 1 = -1) : xFl l G yX9_best cX9_best 1 (Option.some Jvm.ClassFile.FieldType.long) 2 45 [.ref (G.2.1 37)] σ (0) (xsI σ 37 0 1) := by
  refine xM.of (by decide) (Nat.le_of_ble_eq_true rfl) (fun pp ee ss mm aa bel met kk X => ?_)
  have X : xC pp ss mm met kk cX9_best 1 RX9 (Option.some Jvm.ClassFile.FieldType.long) G := X
  show xW pp l ee { frames := 2, cells := 0, slots := 0, locals := 45 } ss mm aa bel met kk 1 G 0 0 (xQ bel G (fun rv_ tv_ => rv_ = some (.long (0)) ∧ tv_ = (xsI σ 37 0 1)) aa ss) 0 [(0, .ref (G.2.1 37))] [] σ
  refine x_aload_n X dX9_best_0 rfl ?_
  refine x_aload_n X dX9_best_1 rfl ?_
  refine x_iconst (v := nI 0) X dX9_best_2 (by decide) ?_
  refine cv_X9_249 X (c_X9_proof hV hV8 hr hr2) dX9_best_3 rfl ⟨by decide, by decide, by decide, by decide⟩ rfl rfl (Nat.le_of_ble_eq_true rfl) (xk_i ?_)
  refine x_iconst (v := (-1)) X dX9_best_6 (by decide) ?_
  refine x_icmpne (tgt := 19) X dX9_best_7 (by decide) (fun h7 => ?_) (fun h7 => ?_)
  · skip
    refine x_iconst (v := nI 1) X dX9_best_19 (by decide) ?_
    refine x_goto (tgt := 24) X dX9_best_20 (by decide) ?_
    refine cv_X9_157 X (c_X9_refuses (Or.inr rfl)) dX9_best_24 rfl ⟨by decide, by decide, by decide, by decide⟩ rfl rfl (Nat.le_of_ble_eq_true rfl) (xk_i ?_)
    refine x_ifeq (tgt := 34) X dX9_best_27 (by decide) (fun h27 => ?_) (fun h27 => ?_)
    · skip
      exact absurd h27 (by decide)
    · skip
      refine x_lconst (v := 0) X dX9_best_30 (by decide) ?_
      refine x_goto (tgt := 44) X dX9_best_31 (by decide) ?_
      exact x_lret X dX9_best_44 (xp_l (by first | rfl | simp [*]) (by first | rfl | simp [*]))
  · skip
    refine x_aload_n X dX9_best_10 rfl ?_
    refine x_iconst (v := nI 1) X dX9_best_11 (by decide) ?_
    refine cv_X9_249 X (c_X9_proof hV hV8 hr hr2) dX9_best_12 rfl ⟨by decide, by decide, by decide, by decide⟩ rfl rfl (Nat.le_of_ble_eq_true rfl) (xk_i ?_)
    refine x_iconst (v := (-1)) X dX9_best_15 (by decide) ?_
    refine x_icmpne (tgt := 23) X dX9_best_16 (by decide) (fun h16 => ?_) (fun h16 => ?_)
    · skip
      exact absurd h (fun z => z.elim (fun y => y h7) (fun y => h16 y))
    · skip
      refine x_iconst (v := nI 1) X dX9_best_19 (by decide) ?_
      refine x_goto (tgt := 24) X dX9_best_20 (by decide) ?_
      refine cv_X9_157 X (c_X9_refuses (Or.inr rfl)) dX9_best_24 rfl ⟨by decide, by decide, by decide, by decide⟩ rfl rfl (Nat.le_of_ble_eq_true rfl) (xk_i ?_)
      refine x_ifeq (tgt := 34) X dX9_best_27 (by decide) (fun h27 => ?_) (fun h27 => ?_)
      · skip
        exact absurd h27 (by decide)
      · skip
        refine x_lconst (v := 0) X dX9_best_30 (by decide) ?_
        refine x_goto (tgt := 44) X dX9_best_31 (by decide) ?_
        exact x_lret X dX9_best_44 (xp_l (by first | rfl | simp [*]) (by first | rfl | simp [*]))

set_option maxHeartbeats 4000000 in
set_option maxRecDepth 100000 in
theorem c_X9_best {l : Launch} {G : xG} {σ : xS} {w : Nat} {V nr : Nat} (hV : xgI σ 37 3 = nI V) (hV8 : V ≤ 8) (hr : xgI σ 37 26 = nI nr) (hr2 : nr ≤ 200) (h1 : qPrf σ V nr 0 = -1) (h2 : qPrf σ V nr 1 = nI w) (hw : w < 200) : xFl l G yX9_best cX9_best 1 (Option.some Jvm.ClassFile.FieldType.long) 2 45 [.ref (G.2.1 37)] σ (xgL σ 55 w) (xsI σ 37 0 0) := by
  refine xM.of (by decide) (Nat.le_of_ble_eq_true rfl) (fun pp ee ss mm aa bel met kk X => ?_)
  have X : xC pp ss mm met kk cX9_best 1 RX9 (Option.some Jvm.ClassFile.FieldType.long) G := X
  show xW pp l ee { frames := 2, cells := 0, slots := 0, locals := 45 } ss mm aa bel met kk 1 G 0 0 (xQ bel G (fun rv_ tv_ => rv_ = some (.long (xgL σ 55 w)) ∧ tv_ = (xsI σ 37 0 0)) aa ss) 0 [(0, .ref (G.2.1 37))] [] σ
  refine x_aload_n X dX9_best_0 rfl ?_
  refine x_aload_n X dX9_best_1 rfl ?_
  refine x_iconst (v := nI 0) X dX9_best_2 (by decide) ?_
  refine cv_X9_249 X (c_X9_proof hV hV8 hr hr2) dX9_best_3 rfl ⟨by decide, by decide, by decide, by decide⟩ rfl rfl (Nat.le_of_ble_eq_true rfl) (xk_i ?_)
  refine x_iconst (v := (-1)) X dX9_best_6 (by decide) ?_
  refine x_icmpne (tgt := 19) X dX9_best_7 (by decide) (fun h7 => ?_) (fun h7 => ?_)
  · skip
    exact absurd h1 h7
  · skip
    refine x_aload_n X dX9_best_10 rfl ?_
    refine x_iconst (v := nI 1) X dX9_best_11 (by decide) ?_
    refine cv_X9_249 X (c_X9_proof hV hV8 hr hr2) dX9_best_12 rfl ⟨by decide, by decide, by decide, by decide⟩ rfl rfl (Nat.le_of_ble_eq_true rfl) (xk_i ?_)
    refine x_iconst (v := (-1)) X dX9_best_15 (by decide) ?_
    refine x_icmpne (tgt := 23) X dX9_best_16 (by decide) (fun h16 => ?_) (fun h16 => ?_)
    · skip
      refine x_iconst (v := nI 0) X dX9_best_23 (by decide) ?_
      refine cv_X9_157 X (c_X9_refuses (Or.inl rfl)) dX9_best_24 rfl ⟨by decide, by decide, by decide, by decide⟩ rfl rfl (Nat.le_of_ble_eq_true rfl) (xk_i ?_)
      refine x_ifeq (tgt := 34) X dX9_best_27 (by decide) (fun h27 => ?_) (fun h27 => ?_)
      · skip
        refine x_aload_n X dX9_best_34 rfl ?_
        refine gf_X9_70 (k' := 55) X dX9_best_35 rfl rfl ?_
        refine x_aload_n X dX9_best_38 rfl ?_
        refine x_iconst (v := nI 1) X dX9_best_39 (by decide) ?_
        refine cv_X9_249 X (c_X9_proof ((xgI_n (by decide)).trans hV) hV8 ((xgI_n (by decide)).trans hr) hr2) dX9_best_40 rfl ⟨by decide, by decide, by decide, by decide⟩ rfl rfl (Nat.le_of_ble_eq_true rfl) (xk_i ?_)
        rw [qPrf_0, show qPrf σ V nr (nI 1) = nI w from h2]
        refine x_laldN X dX9_best_43 rfl (by omega) (by omega) ?_
        exact x_lret X dX9_best_44 (xp_l (by first | rfl | simp [*]) (by first | rfl | simp [*]))
      · skip
        exact absurd (by decide) h27
    · skip
      exact absurd ((h2.symm.trans h16) ▸ nI_pos' (n := w) (by omega)) (by decide)

set_option maxHeartbeats 4000000 in
set_option maxRecDepth 100000 in
theorem c_X9_planS {l : Launch} {G : xG} {σ : xS} {z : Nat} (hz : xgI σ 37 2 = nI z) (hV : xgI σ 37 3 = nI 0) : xFi l G yX9_plan cX9_plan 4 (Option.some Jvm.ClassFile.FieldType.int) 1 22 [.ref (G.2.1 37)] σ (-4) (qPz σ) := by
  refine xM.of (by decide) (Nat.le_of_ble_eq_true rfl) (fun pp ee ss mm aa bel met kk X => ?_)
  have X : xC pp ss mm met kk cX9_plan 4 RX9 (Option.some Jvm.ClassFile.FieldType.int) G := X
  show xW pp l ee { frames := 1, cells := 0, slots := 0, locals := 22 } ss mm aa bel met kk 4 G 0 0 (xQ bel G (fun rv_ tv_ => rv_ = some (.int (-4)) ∧ tv_ = (qPz σ)) aa ss) 0 [(0, .ref (G.2.1 37))] [] σ
  refine x_aload_n X dX9_plan_0 rfl ?_
  refine x_iconst (v := nI 0) X dX9_plan_1 (by decide) ?_
  refine pf_X9_86 X dX9_plan_2 rfl ?_
  refine x_aload_n X dX9_plan_5 rfl ?_
  refine gf_X9_93 X dX9_plan_6 rfl ?_
  rw [xgI_n (by decide), hz]
  refine x_istore_n (lv' := [(1, .int (nI z)), (0, .ref (G.2.1 37))]) X dX9_plan_9 rfl (by decide) rfl ?_
  refine x_aload_n X dX9_plan_10 rfl ?_
  refine x_iconst (v := nI 0) X dX9_plan_11 (by decide) ?_
  refine pf_X9_93 X dX9_plan_12 rfl ?_
  refine x_aload_n X dX9_plan_15 rfl ?_
  refine gf_X9_112 X dX9_plan_16 rfl ?_
  rw [show xgI (xsI (xsI σ 37 0 (nI 0)) 37 2 (nI 0)) 37 3 = nI 0 from hV]
  refine x_ifne (tgt := 25) X dX9_plan_19 (by decide) (fun h19 => ?_) (fun h19 => ?_)
  · skip
    exact absurd h19 (by decide)
  · skip
    rw [xb_ne (x := nI 0) (y := 0) (a := 0) (b := 0) rfl rfl (by omega) (by omega)] at h19
    refine x_bipush (v := (-4)) X dX9_plan_22 (by decide) ?_
    exact x_iret X dX9_plan_24 (xp_i (by first | rfl | simp [*]) (by first | rfl | simp [*]))

set_option maxHeartbeats 4000000 in
set_option maxRecDepth 100000 in
theorem c_X9_planO {l : Launch} {G : xG} {σ : xS} {z V : Nat} (hz : xgI σ 37 2 = nI z) (hz2 : z ≤ 1000) (hV : xgI σ 37 3 = nI V) (hV8 : V ≤ 8) (hV1 : 0 < V) (hb : ¬ qPg σ z V z) : xFi l G yX9_plan cX9_plan 4 (Option.some Jvm.ClassFile.FieldType.int) 1 22 [.ref (G.2.1 37)] σ (-3) (qPz σ) := by
  refine xM.of (by decide) (Nat.le_of_ble_eq_true rfl) (fun pp ee ss mm aa bel met kk X => ?_)
  have X : xC pp ss mm met kk cX9_plan 4 RX9 (Option.some Jvm.ClassFile.FieldType.int) G := X
  show xW pp l ee { frames := 1, cells := 0, slots := 0, locals := 22 } ss mm aa bel met kk 4 G 0 0 (xQ bel G (fun rv_ tv_ => rv_ = some (.int (-3)) ∧ tv_ = (qPz σ)) aa ss) 0 [(0, .ref (G.2.1 37))] [] σ
  refine x_aload_n X dX9_plan_0 rfl ?_
  refine x_iconst (v := nI 0) X dX9_plan_1 (by decide) ?_
  refine pf_X9_86 X dX9_plan_2 rfl ?_
  refine x_aload_n X dX9_plan_5 rfl ?_
  refine gf_X9_93 X dX9_plan_6 rfl ?_
  rw [xgI_n (by decide), hz]
  refine x_istore_n (lv' := [(1, .int (nI z)), (0, .ref (G.2.1 37))]) X dX9_plan_9 rfl (by decide) rfl ?_
  refine x_aload_n X dX9_plan_10 rfl ?_
  refine x_iconst (v := nI 0) X dX9_plan_11 (by decide) ?_
  refine pf_X9_93 X dX9_plan_12 rfl ?_
  refine x_aload_n X dX9_plan_15 rfl ?_
  refine gf_X9_112 X dX9_plan_16 rfl ?_
  rw [show xgI (xsI (xsI σ 37 0 (nI 0)) 37 2 (nI 0)) 37 3 = nI V from hV]
  refine x_ifne (tgt := 25) X dX9_plan_19 (by decide) (fun h19 => ?_) (fun h19 => ?_)
  · skip
    rw [xb_ne (x := nI V) (y := 0) (a := V) (b := 0) rfl rfl (by omega) (by omega)] at h19
    refine x_iload_n X dX9_plan_25 rfl ?_
    refine x_aload_n X dX9_plan_26 rfl ?_
    refine gf_X9_112 X dX9_plan_27 rfl ?_
    rw [show xgI (xsI (xsI σ 37 0 (nI 0)) 37 2 (nI 0)) 37 3 = nI V from hV]
    refine x_icmpne (tgt := 37) X dX9_plan_30 (by decide) (fun h30 => ?_) (fun h30 => ?_)
    · skip
      rw [xb_ne (x := nI z) (y := nI V) (a := z) (b := V) rfl rfl (by omega) (by omega)] at h30
      have hi0 : nI 0 = xB (qPg σ z V 0) := (xB_f (fun q => h30 q.1)).symm
      refine x_iconst (v := nI 0) X dX9_plan_37 (by decide) ?_
      refine x_istore_n (lv' := [(2, .int (nI 0)), (1, .int (nI z)), (0, .ref (G.2.1 37))]) X dX9_plan_38 rfl (by decide) rfl ?_
      refine x_iconst (v := nI 0) X dX9_plan_39 (by decide) ?_
      refine x_istore_n (lv' := [(3, .int (nI 0)), (2, .int (nI 0)), (1, .int (nI z)), (0, .ref (G.2.1 37))]) X dX9_plan_40 rfl (by decide) rfl ?_
      have lp41 : ∀ (NN41 : Nat) (k : Nat) (hk : k ≤ z) (is0 : Int32) (his : is0 = xB (qPg σ z V k)), z - k = NN41 → xW pp l ee { frames := 1, cells := 0, slots := 0, locals := 22 } ss mm aa bel met kk 4 G 0 0 (xQ bel G (fun rv_ tv_ => rv_ = some (.int (-3)) ∧ tv_ = (qPz σ)) aa ss) 41 [(3, .int (nI k)), (2, .int is0), (1, .int (nI z)), (0, .ref (G.2.1 37))] [] (qPz σ) := by
        intro NN41
        induction NN41 using Nat.strongRecOn with
        | ind NN41 ih41 =>
          intro k hk is0 his hNN41
          refine x_iload_n X dX9_plan_41 rfl ?_
          refine x_iload_n X dX9_plan_42 rfl ?_
          refine x_icmpge (tgt := 70) X dX9_plan_43 (by decide) (fun h43 => ?_) (fun h43 => ?_)
          · skip
            rw [xb_ge (x := nI k) (y := nI z) (a := k) (b := z) rfl rfl (by omega) (by omega)] at h43
            rw [show k = z by omega] at his
            refine x_iload_n X dX9_plan_70 rfl ?_
            refine x_ifne (tgt := 77) X dX9_plan_71 (by decide) (fun h71 => ?_) (fun h71 => ?_)
            · skip
              exact absurd (xB_f hb) (his ▸ h71)
            · skip
              refine x_bipush (v := (-3)) X dX9_plan_74 (by decide) ?_
              exact x_iret X dX9_plan_76 (xp_i (by first | rfl | simp [*]) (by first | rfl | simp [*]))
          · skip
            rw [xb_ge (x := nI k) (y := nI z) (a := k) (b := z) rfl rfl (by omega) (by omega)] at h43
            refine x_iload_n X dX9_plan_46 rfl ?_
            refine x_ifeq (tgt := 70) X dX9_plan_47 (by decide) (fun h47 => ?_) (fun h47 => ?_)
            · skip
              have h47b : ¬ qPg σ z V k := xB_0.mp (his ▸ h47)
              refine x_iload_n X dX9_plan_70 rfl ?_
              refine x_ifne (tgt := 77) X dX9_plan_71 (by decide) (fun h71 => ?_) (fun h71 => ?_)
              · skip
                exact absurd h47 h71
              · skip
                refine x_bipush (v := (-3)) X dX9_plan_74 (by decide) ?_
                exact x_iret X dX9_plan_76 (xp_i (by first | rfl | simp [*]) (by first | rfl | simp [*]))
            · skip
              have h47b : qPg σ z V k := Classical.not_not.mp (fun q => h47 (by rw [his, xB_f q]))
              refine x_aload_n X dX9_plan_50 rfl ?_
              refine gf_X9_7 (k' := 38) X dX9_plan_51 rfl rfl ?_
              refine x_iload_n X dX9_plan_54 rfl ?_
              refine x_ialdN X dX9_plan_55 rfl (by omega) (by omega) ?_
              rw [show xgI (qPz σ) 38 k = xgI σ 38 k from qPz_o (by omega)]
              refine x_ldc X dX9_plan_56 wk_X9_151 ?_
              refine x_ldc X dX9_plan_58 wk_X9_152 ?_
              refine cs_X9_89 X c_X9_in dX9_plan_60 ⟨by decide, by decide, by decide, by decide⟩ rfl rfl (Nat.le_of_ble_eq_true rfl) (xk_i ?_)
              refine x_topi (fun g hg => ?_)
              refine x_istore_n (lv' := [(2, .int g), (3, .int (nI k)), (1, .int (nI z)), (0, .ref (G.2.1 37))]) X dX9_plan_63 rfl (by decide) rfl ?_
              have his9 : g = xB (qPg σ z V (k + 1)) := by
                rw [hg]
                by_cases q : xIn (xgI σ 38 k) (-1000000) 1000000 = 0
                · rw [q, xB_f (fun y => y.2 k (by omega) q)]
                · rw [xB_t ⟨h47b.1, lt_s h47b.2 q⟩]; exact (xIn_01 (x := _) (lo := _) (hi := _)).resolve_left q
              refine x_iinc (k := 1) (v := nI (k + 1)) (lv' := [(3, .int (nI (k + 1))), (2, .int g), (1, .int (nI z)), (0, .ref (G.2.1 37))]) X dX9_plan_64 rfl (xn_inc _) (by decide) rfl ?_
              refine x_goto (tgt := 41) X dX9_plan_67 (by decide) ?_
              refine x_pick [0, 1, 2, 3] rfl ?_
              exact ih41 _ (by omega) (k + 1) (by omega) _ his9 rfl
      refine x_pick [0, 1, 2, 3] rfl ?_
      exact lp41 _ 0 (by omega) _ hi0 rfl
    · skip
      rw [xb_ne (x := nI z) (y := nI V) (a := z) (b := V) rfl rfl (by omega) (by omega)] at h30
      have hi0 : nI 1 = xB (qPg σ z V 0) := (xB_t ⟨h30, fun j hj => by omega⟩).symm
      refine x_iconst (v := nI 1) X dX9_plan_33 (by decide) ?_
      refine x_goto (tgt := 38) X dX9_plan_34 (by decide) ?_
      refine x_istore_n (lv' := [(2, .int (nI 1)), (1, .int (nI z)), (0, .ref (G.2.1 37))]) X dX9_plan_38 rfl (by decide) rfl ?_
      refine x_iconst (v := nI 0) X dX9_plan_39 (by decide) ?_
      refine x_istore_n (lv' := [(3, .int (nI 0)), (2, .int (nI 1)), (1, .int (nI z)), (0, .ref (G.2.1 37))]) X dX9_plan_40 rfl (by decide) rfl ?_
      have lp41 : ∀ (NN41 : Nat) (k : Nat) (hk : k ≤ z) (is0 : Int32) (his : is0 = xB (qPg σ z V k)), z - k = NN41 → xW pp l ee { frames := 1, cells := 0, slots := 0, locals := 22 } ss mm aa bel met kk 4 G 0 0 (xQ bel G (fun rv_ tv_ => rv_ = some (.int (-3)) ∧ tv_ = (qPz σ)) aa ss) 41 [(3, .int (nI k)), (2, .int is0), (1, .int (nI z)), (0, .ref (G.2.1 37))] [] (qPz σ) := by
        intro NN41
        induction NN41 using Nat.strongRecOn with
        | ind NN41 ih41 =>
          intro k hk is0 his hNN41
          refine x_iload_n X dX9_plan_41 rfl ?_
          refine x_iload_n X dX9_plan_42 rfl ?_
          refine x_icmpge (tgt := 70) X dX9_plan_43 (by decide) (fun h43 => ?_) (fun h43 => ?_)
          · skip
            rw [xb_ge (x := nI k) (y := nI z) (a := k) (b := z) rfl rfl (by omega) (by omega)] at h43
            rw [show k = z by omega] at his
            refine x_iload_n X dX9_plan_70 rfl ?_
            refine x_ifne (tgt := 77) X dX9_plan_71 (by decide) (fun h71 => ?_) (fun h71 => ?_)
            · skip
              exact absurd (xB_f hb) (his ▸ h71)
            · skip
              refine x_bipush (v := (-3)) X dX9_plan_74 (by decide) ?_
              exact x_iret X dX9_plan_76 (xp_i (by first | rfl | simp [*]) (by first | rfl | simp [*]))
          · skip
            rw [xb_ge (x := nI k) (y := nI z) (a := k) (b := z) rfl rfl (by omega) (by omega)] at h43
            refine x_iload_n X dX9_plan_46 rfl ?_
            refine x_ifeq (tgt := 70) X dX9_plan_47 (by decide) (fun h47 => ?_) (fun h47 => ?_)
            · skip
              have h47b : ¬ qPg σ z V k := xB_0.mp (his ▸ h47)
              refine x_iload_n X dX9_plan_70 rfl ?_
              refine x_ifne (tgt := 77) X dX9_plan_71 (by decide) (fun h71 => ?_) (fun h71 => ?_)
              · skip
                exact absurd h47 h71
              · skip
                refine x_bipush (v := (-3)) X dX9_plan_74 (by decide) ?_
                exact x_iret X dX9_plan_76 (xp_i (by first | rfl | simp [*]) (by first | rfl | simp [*]))
            · skip
              have h47b : qPg σ z V k := Classical.not_not.mp (fun q => h47 (by rw [his, xB_f q]))
              refine x_aload_n X dX9_plan_50 rfl ?_
              refine gf_X9_7 (k' := 38) X dX9_plan_51 rfl rfl ?_
              refine x_iload_n X dX9_plan_54 rfl ?_
              refine x_ialdN X dX9_plan_55 rfl (by omega) (by omega) ?_
              rw [show xgI (qPz σ) 38 k = xgI σ 38 k from qPz_o (by omega)]
              refine x_ldc X dX9_plan_56 wk_X9_151 ?_
              refine x_ldc X dX9_plan_58 wk_X9_152 ?_
              refine cs_X9_89 X c_X9_in dX9_plan_60 ⟨by decide, by decide, by decide, by decide⟩ rfl rfl (Nat.le_of_ble_eq_true rfl) (xk_i ?_)
              refine x_topi (fun g hg => ?_)
              refine x_istore_n (lv' := [(2, .int g), (3, .int (nI k)), (1, .int (nI z)), (0, .ref (G.2.1 37))]) X dX9_plan_63 rfl (by decide) rfl ?_
              have his9 : g = xB (qPg σ z V (k + 1)) := by
                rw [hg]
                by_cases q : xIn (xgI σ 38 k) (-1000000) 1000000 = 0
                · rw [q, xB_f (fun y => y.2 k (by omega) q)]
                · rw [xB_t ⟨h47b.1, lt_s h47b.2 q⟩]; exact (xIn_01 (x := _) (lo := _) (hi := _)).resolve_left q
              refine x_iinc (k := 1) (v := nI (k + 1)) (lv' := [(3, .int (nI (k + 1))), (2, .int g), (1, .int (nI z)), (0, .ref (G.2.1 37))]) X dX9_plan_64 rfl (xn_inc _) (by decide) rfl ?_
              refine x_goto (tgt := 41) X dX9_plan_67 (by decide) ?_
              refine x_pick [0, 1, 2, 3] rfl ?_
              exact ih41 _ (by omega) (k + 1) (by omega) _ his9 rfl
      refine x_pick [0, 1, 2, 3] rfl ?_
      exact lp41 _ 0 (by omega) _ hi0 rfl
  · skip
    rw [xb_ne (x := nI V) (y := 0) (a := V) (b := 0) rfl rfl (by omega) (by omega)] at h19
    omega

set_option maxHeartbeats 4000000 in
set_option maxRecDepth 100000 in
theorem c_X9_planR {l : Launch} {G : xG} {σ : xS} {z V : Nat} (hz : xgI σ 37 2 = nI z) (hz2 : z ≤ 1000) (hV : xgI σ 37 3 = nI V) (hV8 : V ≤ 8) (hV1 : 0 < V) (hg0 : qPg σ z V z) (hc : xgI σ 37 17 = nI 8) : xFi l G yX9_plan cX9_plan 4 (Option.some Jvm.ClassFile.FieldType.int) 1 22 [.ref (G.2.1 37)] σ (-5) (qPz σ) := by
  refine xM.of (by decide) (Nat.le_of_ble_eq_true rfl) (fun pp ee ss mm aa bel met kk X => ?_)
  have X : xC pp ss mm met kk cX9_plan 4 RX9 (Option.some Jvm.ClassFile.FieldType.int) G := X
  show xW pp l ee { frames := 1, cells := 0, slots := 0, locals := 22 } ss mm aa bel met kk 4 G 0 0 (xQ bel G (fun rv_ tv_ => rv_ = some (.int (-5)) ∧ tv_ = (qPz σ)) aa ss) 0 [(0, .ref (G.2.1 37))] [] σ
  refine x_aload_n X dX9_plan_0 rfl ?_
  refine x_iconst (v := nI 0) X dX9_plan_1 (by decide) ?_
  refine pf_X9_86 X dX9_plan_2 rfl ?_
  refine x_aload_n X dX9_plan_5 rfl ?_
  refine gf_X9_93 X dX9_plan_6 rfl ?_
  rw [xgI_n (by decide), hz]
  refine x_istore_n (lv' := [(1, .int (nI z)), (0, .ref (G.2.1 37))]) X dX9_plan_9 rfl (by decide) rfl ?_
  refine x_aload_n X dX9_plan_10 rfl ?_
  refine x_iconst (v := nI 0) X dX9_plan_11 (by decide) ?_
  refine pf_X9_93 X dX9_plan_12 rfl ?_
  refine x_aload_n X dX9_plan_15 rfl ?_
  refine gf_X9_112 X dX9_plan_16 rfl ?_
  rw [show xgI (xsI (xsI σ 37 0 (nI 0)) 37 2 (nI 0)) 37 3 = nI V from hV]
  refine x_ifne (tgt := 25) X dX9_plan_19 (by decide) (fun h19 => ?_) (fun h19 => ?_)
  · skip
    rw [xb_ne (x := nI V) (y := 0) (a := V) (b := 0) rfl rfl (by omega) (by omega)] at h19
    refine x_iload_n X dX9_plan_25 rfl ?_
    refine x_aload_n X dX9_plan_26 rfl ?_
    refine gf_X9_112 X dX9_plan_27 rfl ?_
    rw [show xgI (xsI (xsI σ 37 0 (nI 0)) 37 2 (nI 0)) 37 3 = nI V from hV]
    refine x_icmpne (tgt := 37) X dX9_plan_30 (by decide) (fun h30 => ?_) (fun h30 => ?_)
    · skip
      rw [xb_ne (x := nI z) (y := nI V) (a := z) (b := V) rfl rfl (by omega) (by omega)] at h30
      have hi0 : nI 0 = xB (qPg σ z V 0) := (xB_f (fun q => h30 q.1)).symm
      refine x_iconst (v := nI 0) X dX9_plan_37 (by decide) ?_
      refine x_istore_n (lv' := [(2, .int (nI 0)), (1, .int (nI z)), (0, .ref (G.2.1 37))]) X dX9_plan_38 rfl (by decide) rfl ?_
      refine x_iconst (v := nI 0) X dX9_plan_39 (by decide) ?_
      refine x_istore_n (lv' := [(3, .int (nI 0)), (2, .int (nI 0)), (1, .int (nI z)), (0, .ref (G.2.1 37))]) X dX9_plan_40 rfl (by decide) rfl ?_
      have lp41 : ∀ (NN41 : Nat) (k : Nat) (hk : k ≤ z) (is0 : Int32) (his : is0 = xB (qPg σ z V k)), z - k = NN41 → xW pp l ee { frames := 1, cells := 0, slots := 0, locals := 22 } ss mm aa bel met kk 4 G 0 0 (xQ bel G (fun rv_ tv_ => rv_ = some (.int (-5)) ∧ tv_ = (qPz σ)) aa ss) 41 [(3, .int (nI k)), (2, .int is0), (1, .int (nI z)), (0, .ref (G.2.1 37))] [] (qPz σ) := by
        intro NN41
        induction NN41 using Nat.strongRecOn with
        | ind NN41 ih41 =>
          intro k hk is0 his hNN41
          refine x_iload_n X dX9_plan_41 rfl ?_
          refine x_iload_n X dX9_plan_42 rfl ?_
          refine x_icmpge (tgt := 70) X dX9_plan_43 (by decide) (fun h43 => ?_) (fun h43 => ?_)
          · skip
            rw [xb_ge (x := nI k) (y := nI z) (a := k) (b := z) rfl rfl (by omega) (by omega)] at h43
            rw [show k = z by omega] at his
            refine x_iload_n X dX9_plan_70 rfl ?_
            refine x_ifne (tgt := 77) X dX9_plan_71 (by decide) (fun h71 => ?_) (fun h71 => ?_)
            · skip
              refine x_aload_n X dX9_plan_77 rfl ?_
              refine gf_X9_127 X dX9_plan_78 rfl ?_
              rw [show xgI (qPz σ) 37 17 = nI 8 from hc]
              refine x_bipush (v := nI 8) X dX9_plan_81 (by decide) ?_
              refine x_icmpne (tgt := 89) X dX9_plan_83 (by decide) (fun h83 => ?_) (fun h83 => ?_)
              · skip
                exact absurd h83 (by decide)
              · skip
                rw [xb_ne (x := nI 8) (y := nI 8) (a := 8) (b := 8) rfl rfl (by omega) (by omega)] at h83
                refine x_bipush (v := (-5)) X dX9_plan_86 (by decide) ?_
                exact x_iret X dX9_plan_88 (xp_i (by first | rfl | simp [*]) (by first | rfl | simp [*]))
            · skip
              exact absurd (his ▸ h71) (by rw [xB_t hg0]; decide)
          · skip
            rw [xb_ge (x := nI k) (y := nI z) (a := k) (b := z) rfl rfl (by omega) (by omega)] at h43
            refine x_iload_n X dX9_plan_46 rfl ?_
            refine x_ifeq (tgt := 70) X dX9_plan_47 (by decide) (fun h47 => ?_) (fun h47 => ?_)
            · skip
              have h47b : ¬ qPg σ z V k := xB_0.mp (his ▸ h47)
              refine x_iload_n X dX9_plan_70 rfl ?_
              refine x_ifne (tgt := 77) X dX9_plan_71 (by decide) (fun h71 => ?_) (fun h71 => ?_)
              · skip
                exact absurd hg0 (fun q => h47b ⟨q.1, fun j hj => q.2 j (by omega)⟩)
              · skip
                exact absurd hg0 (fun q => h47b ⟨q.1, fun j hj => q.2 j (by omega)⟩)
            · skip
              have h47b : qPg σ z V k := Classical.not_not.mp (fun q => h47 (by rw [his, xB_f q]))
              refine x_aload_n X dX9_plan_50 rfl ?_
              refine gf_X9_7 (k' := 38) X dX9_plan_51 rfl rfl ?_
              refine x_iload_n X dX9_plan_54 rfl ?_
              refine x_ialdN X dX9_plan_55 rfl (by omega) (by omega) ?_
              rw [show xgI (qPz σ) 38 k = xgI σ 38 k from qPz_o (by omega)]
              refine x_ldc X dX9_plan_56 wk_X9_151 ?_
              refine x_ldc X dX9_plan_58 wk_X9_152 ?_
              refine cs_X9_89 X c_X9_in dX9_plan_60 ⟨by decide, by decide, by decide, by decide⟩ rfl rfl (Nat.le_of_ble_eq_true rfl) (xk_i ?_)
              refine x_topi (fun g hg => ?_)
              refine x_istore_n (lv' := [(2, .int g), (3, .int (nI k)), (1, .int (nI z)), (0, .ref (G.2.1 37))]) X dX9_plan_63 rfl (by decide) rfl ?_
              have his9 : g = xB (qPg σ z V (k + 1)) := by
                rw [hg]
                by_cases q : xIn (xgI σ 38 k) (-1000000) 1000000 = 0
                · rw [q, xB_f (fun y => y.2 k (by omega) q)]
                · rw [xB_t ⟨h47b.1, lt_s h47b.2 q⟩]; exact (xIn_01 (x := _) (lo := _) (hi := _)).resolve_left q
              refine x_iinc (k := 1) (v := nI (k + 1)) (lv' := [(3, .int (nI (k + 1))), (2, .int g), (1, .int (nI z)), (0, .ref (G.2.1 37))]) X dX9_plan_64 rfl (xn_inc _) (by decide) rfl ?_
              refine x_goto (tgt := 41) X dX9_plan_67 (by decide) ?_
              refine x_pick [0, 1, 2, 3] rfl ?_
              exact ih41 _ (by omega) (k + 1) (by omega) _ his9 rfl
      refine x_pick [0, 1, 2, 3] rfl ?_
      exact lp41 _ 0 (by omega) _ hi0 rfl
    · skip
      rw [xb_ne (x := nI z) (y := nI V) (a := z) (b := V) rfl rfl (by omega) (by omega)] at h30
      have hi0 : nI 1 = xB (qPg σ z V 0) := (xB_t ⟨h30, fun j hj => by omega⟩).symm
      refine x_iconst (v := nI 1) X dX9_plan_33 (by decide) ?_
      refine x_goto (tgt := 38) X dX9_plan_34 (by decide) ?_
      refine x_istore_n (lv' := [(2, .int (nI 1)), (1, .int (nI z)), (0, .ref (G.2.1 37))]) X dX9_plan_38 rfl (by decide) rfl ?_
      refine x_iconst (v := nI 0) X dX9_plan_39 (by decide) ?_
      refine x_istore_n (lv' := [(3, .int (nI 0)), (2, .int (nI 1)), (1, .int (nI z)), (0, .ref (G.2.1 37))]) X dX9_plan_40 rfl (by decide) rfl ?_
      have lp41 : ∀ (NN41 : Nat) (k : Nat) (hk : k ≤ z) (is0 : Int32) (his : is0 = xB (qPg σ z V k)), z - k = NN41 → xW pp l ee { frames := 1, cells := 0, slots := 0, locals := 22 } ss mm aa bel met kk 4 G 0 0 (xQ bel G (fun rv_ tv_ => rv_ = some (.int (-5)) ∧ tv_ = (qPz σ)) aa ss) 41 [(3, .int (nI k)), (2, .int is0), (1, .int (nI z)), (0, .ref (G.2.1 37))] [] (qPz σ) := by
        intro NN41
        induction NN41 using Nat.strongRecOn with
        | ind NN41 ih41 =>
          intro k hk is0 his hNN41
          refine x_iload_n X dX9_plan_41 rfl ?_
          refine x_iload_n X dX9_plan_42 rfl ?_
          refine x_icmpge (tgt := 70) X dX9_plan_43 (by decide) (fun h43 => ?_) (fun h43 => ?_)
          · skip
            rw [xb_ge (x := nI k) (y := nI z) (a := k) (b := z) rfl rfl (by omega) (by omega)] at h43
            rw [show k = z by omega] at his
            refine x_iload_n X dX9_plan_70 rfl ?_
            refine x_ifne (tgt := 77) X dX9_plan_71 (by decide) (fun h71 => ?_) (fun h71 => ?_)
            · skip
              refine x_aload_n X dX9_plan_77 rfl ?_
              refine gf_X9_127 X dX9_plan_78 rfl ?_
              rw [show xgI (qPz σ) 37 17 = nI 8 from hc]
              refine x_bipush (v := nI 8) X dX9_plan_81 (by decide) ?_
              refine x_icmpne (tgt := 89) X dX9_plan_83 (by decide) (fun h83 => ?_) (fun h83 => ?_)
              · skip
                exact absurd h83 (by decide)
              · skip
                rw [xb_ne (x := nI 8) (y := nI 8) (a := 8) (b := 8) rfl rfl (by omega) (by omega)] at h83
                refine x_bipush (v := (-5)) X dX9_plan_86 (by decide) ?_
                exact x_iret X dX9_plan_88 (xp_i (by first | rfl | simp [*]) (by first | rfl | simp [*]))
            · skip
              exact absurd (his ▸ h71) (by rw [xB_t hg0]; decide)
          · skip
            rw [xb_ge (x := nI k) (y := nI z) (a := k) (b := z) rfl rfl (by omega) (by omega)] at h43
            refine x_iload_n X dX9_plan_46 rfl ?_
            refine x_ifeq (tgt := 70) X dX9_plan_47 (by decide) (fun h47 => ?_) (fun h47 => ?_)
            · skip
              have h47b : ¬ qPg σ z V k := xB_0.mp (his ▸ h47)
              refine x_iload_n X dX9_plan_70 rfl ?_
              refine x_ifne (tgt := 77) X dX9_plan_71 (by decide) (fun h71 => ?_) (fun h71 => ?_)
              · skip
                exact absurd hg0 (fun q => h47b ⟨q.1, fun j hj => q.2 j (by omega)⟩)
              · skip
                exact absurd hg0 (fun q => h47b ⟨q.1, fun j hj => q.2 j (by omega)⟩)
            · skip
              have h47b : qPg σ z V k := Classical.not_not.mp (fun q => h47 (by rw [his, xB_f q]))
              refine x_aload_n X dX9_plan_50 rfl ?_
              refine gf_X9_7 (k' := 38) X dX9_plan_51 rfl rfl ?_
              refine x_iload_n X dX9_plan_54 rfl ?_
              refine x_ialdN X dX9_plan_55 rfl (by omega) (by omega) ?_
              rw [show xgI (qPz σ) 38 k = xgI σ 38 k from qPz_o (by omega)]
              refine x_ldc X dX9_plan_56 wk_X9_151 ?_
              refine x_ldc X dX9_plan_58 wk_X9_152 ?_
              refine cs_X9_89 X c_X9_in dX9_plan_60 ⟨by decide, by decide, by decide, by decide⟩ rfl rfl (Nat.le_of_ble_eq_true rfl) (xk_i ?_)
              refine x_topi (fun g hg => ?_)
              refine x_istore_n (lv' := [(2, .int g), (3, .int (nI k)), (1, .int (nI z)), (0, .ref (G.2.1 37))]) X dX9_plan_63 rfl (by decide) rfl ?_
              have his9 : g = xB (qPg σ z V (k + 1)) := by
                rw [hg]
                by_cases q : xIn (xgI σ 38 k) (-1000000) 1000000 = 0
                · rw [q, xB_f (fun y => y.2 k (by omega) q)]
                · rw [xB_t ⟨h47b.1, lt_s h47b.2 q⟩]; exact (xIn_01 (x := _) (lo := _) (hi := _)).resolve_left q
              refine x_iinc (k := 1) (v := nI (k + 1)) (lv' := [(3, .int (nI (k + 1))), (2, .int g), (1, .int (nI z)), (0, .ref (G.2.1 37))]) X dX9_plan_64 rfl (xn_inc _) (by decide) rfl ?_
              refine x_goto (tgt := 41) X dX9_plan_67 (by decide) ?_
              refine x_pick [0, 1, 2, 3] rfl ?_
              exact ih41 _ (by omega) (k + 1) (by omega) _ his9 rfl
      refine x_pick [0, 1, 2, 3] rfl ?_
      exact lp41 _ 0 (by omega) _ hi0 rfl
  · skip
    rw [xb_ne (x := nI V) (y := 0) (a := V) (b := 0) rfl rfl (by omega) (by omega)] at h19
    omega

set_option maxHeartbeats 4000000 in
set_option maxRecDepth 100000 in
theorem c_X9_plan {l : Launch} {G : xG} {σ : xS} {np : Nat} {z V : Nat} (hz : xgI σ 37 2 = nI z) (hz2 : z ≤ 1000) (hV : xgI σ 37 3 = nI V) (hV8 : V ≤ 8) (hV1 : 0 < V) (hg0 : qPg σ z V z) (hc : xgI σ 37 17 = nI np) (hp : np < 8) : xFi l G yX9_plan cX9_plan 4 (Option.some Jvm.ClassFile.FieldType.int) 1 22 [.ref (G.2.1 37)] σ (nI np) (xsI (qPl σ np z) 37 17 (nI (np + 1))) := by
  refine xM.of (by decide) (Nat.le_of_ble_eq_true rfl) (fun pp ee ss mm aa bel met kk X => ?_)
  have X : xC pp ss mm met kk cX9_plan 4 RX9 (Option.some Jvm.ClassFile.FieldType.int) G := X
  show xW pp l ee { frames := 1, cells := 0, slots := 0, locals := 22 } ss mm aa bel met kk 4 G 0 0 (xQ bel G (fun rv_ tv_ => rv_ = some (.int (nI np)) ∧ tv_ = (xsI (qPl σ np z) 37 17 (nI (np + 1)))) aa ss) 0 [(0, .ref (G.2.1 37))] [] σ
  refine x_aload_n X dX9_plan_0 rfl ?_
  refine x_iconst (v := nI 0) X dX9_plan_1 (by decide) ?_
  refine pf_X9_86 X dX9_plan_2 rfl ?_
  refine x_aload_n X dX9_plan_5 rfl ?_
  refine gf_X9_93 X dX9_plan_6 rfl ?_
  rw [xgI_n (by decide), hz]
  refine x_istore_n (lv' := [(1, .int (nI z)), (0, .ref (G.2.1 37))]) X dX9_plan_9 rfl (by decide) rfl ?_
  refine x_aload_n X dX9_plan_10 rfl ?_
  refine x_iconst (v := nI 0) X dX9_plan_11 (by decide) ?_
  refine pf_X9_93 X dX9_plan_12 rfl ?_
  refine x_aload_n X dX9_plan_15 rfl ?_
  refine gf_X9_112 X dX9_plan_16 rfl ?_
  rw [show xgI (xsI (xsI σ 37 0 (nI 0)) 37 2 (nI 0)) 37 3 = nI V from hV]
  refine x_ifne (tgt := 25) X dX9_plan_19 (by decide) (fun h19 => ?_) (fun h19 => ?_)
  · skip
    rw [xb_ne (x := nI V) (y := 0) (a := V) (b := 0) rfl rfl (by omega) (by omega)] at h19
    refine x_iload_n X dX9_plan_25 rfl ?_
    refine x_aload_n X dX9_plan_26 rfl ?_
    refine gf_X9_112 X dX9_plan_27 rfl ?_
    rw [show xgI (xsI (xsI σ 37 0 (nI 0)) 37 2 (nI 0)) 37 3 = nI V from hV]
    refine x_icmpne (tgt := 37) X dX9_plan_30 (by decide) (fun h30 => ?_) (fun h30 => ?_)
    · skip
      rw [xb_ne (x := nI z) (y := nI V) (a := z) (b := V) rfl rfl (by omega) (by omega)] at h30
      have hi0 : nI 0 = xB (qPg σ z V 0) := (xB_f (fun q => h30 q.1)).symm
      refine x_iconst (v := nI 0) X dX9_plan_37 (by decide) ?_
      refine x_istore_n (lv' := [(2, .int (nI 0)), (1, .int (nI z)), (0, .ref (G.2.1 37))]) X dX9_plan_38 rfl (by decide) rfl ?_
      refine x_iconst (v := nI 0) X dX9_plan_39 (by decide) ?_
      refine x_istore_n (lv' := [(3, .int (nI 0)), (2, .int (nI 0)), (1, .int (nI z)), (0, .ref (G.2.1 37))]) X dX9_plan_40 rfl (by decide) rfl ?_
      have lp41 : ∀ (NN41 : Nat) (k : Nat) (hk : k ≤ z) (is0 : Int32) (his : is0 = xB (qPg σ z V k)), z - k = NN41 → xW pp l ee { frames := 1, cells := 0, slots := 0, locals := 22 } ss mm aa bel met kk 4 G 0 0 (xQ bel G (fun rv_ tv_ => rv_ = some (.int (nI np)) ∧ tv_ = (xsI (qPl σ np z) 37 17 (nI (np + 1)))) aa ss) 41 [(3, .int (nI k)), (2, .int is0), (1, .int (nI z)), (0, .ref (G.2.1 37))] [] (qPz σ) := by
        intro NN41
        induction NN41 using Nat.strongRecOn with
        | ind NN41 ih41 =>
          intro k hk is0 his hNN41
          refine x_iload_n X dX9_plan_41 rfl ?_
          refine x_iload_n X dX9_plan_42 rfl ?_
          refine x_icmpge (tgt := 70) X dX9_plan_43 (by decide) (fun h43 => ?_) (fun h43 => ?_)
          · skip
            rw [xb_ge (x := nI k) (y := nI z) (a := k) (b := z) rfl rfl (by omega) (by omega)] at h43
            rw [show k = z by omega] at his
            refine x_iload_n X dX9_plan_70 rfl ?_
            refine x_ifne (tgt := 77) X dX9_plan_71 (by decide) (fun h71 => ?_) (fun h71 => ?_)
            · skip
              refine x_aload_n X dX9_plan_77 rfl ?_
              refine gf_X9_127 X dX9_plan_78 rfl ?_
              rw [show xgI (qPz σ) 37 17 = nI np from hc]
              refine x_bipush (v := nI 8) X dX9_plan_81 (by decide) ?_
              refine x_icmpne (tgt := 89) X dX9_plan_83 (by decide) (fun h83 => ?_) (fun h83 => ?_)
              · skip
                rw [xb_ne (x := nI np) (y := nI 8) (a := np) (b := 8) rfl rfl (by omega) (by omega)] at h83
                refine x_iconst (v := nI 0) X dX9_plan_89 (by decide) ?_
                refine x_istore_n (lv' := [(3, .int (nI 0)), (2, .int is0), (1, .int (nI z)), (0, .ref (G.2.1 37))]) X dX9_plan_90 rfl (by decide) rfl ?_
                have lp91 : ∀ (NN91 : Nat) (k2 : Nat) (hk2 : k2 ≤ z), z - k2 = NN91 → xW pp l ee { frames := 1, cells := 0, slots := 0, locals := 22 } ss mm aa bel met kk 4 G 0 0 (xQ bel G (fun rv_ tv_ => rv_ = some (.int (nI np)) ∧ tv_ = (xsI (qPl σ np z) 37 17 (nI (np + 1)))) aa ss) 91 [(3, .int (nI k2)), (2, .int is0), (1, .int (nI z)), (0, .ref (G.2.1 37))] [] (qPl σ np k2) := by
                  intro NN91
                  induction NN91 using Nat.strongRecOn with
                  | ind NN91 ih91 =>
                    intro k2 hk2 hNN91
                    refine x_iload_n X dX9_plan_91 rfl ?_
                    refine x_iload_n X dX9_plan_92 rfl ?_
                    refine x_icmpge (tgt := 122) X dX9_plan_93 (by decide) (fun h93 => ?_) (fun h93 => ?_)
                    · skip
                      rw [xb_ge (x := nI k2) (y := nI z) (a := k2) (b := z) rfl rfl (by omega) (by omega)] at h93
                      obtain rfl : k2 = z := by omega
                      refine x_aload_n X dX9_plan_122 rfl ?_
                      refine x_dup X dX9_plan_123 rfl ?_
                      refine gf_X9_127 X dX9_plan_124 rfl ?_
                      rw [qPl_o 17 (by omega) _, show xgI (qPz σ) 37 17 = nI np from hc]
                      refine x_iconst (v := nI 1) X dX9_plan_127 (by decide) ?_
                      refine x_iadd X dX9_plan_128 ?_
                      rw [nI_add np 1]
                      refine pf_X9_127 X dX9_plan_129 rfl ?_
                      refine x_aload_n X dX9_plan_132 rfl ?_
                      refine gf_X9_127 X dX9_plan_133 rfl ?_
                      rw [xgI_s]
                      refine x_iconst (v := nI 1) X dX9_plan_136 (by decide) ?_
                      refine x_isub X dX9_plan_137 ?_
                      rw [pk_sub (a := (np + 1)) (b := 1) (by omega)]
                      rw [show (np + 1) - 1 = np by omega]
                      exact x_iret X dX9_plan_138 (xp_i (by first | rfl | simp [*]) (by first | rfl | simp [*]))
                    · skip
                      rw [xb_ge (x := nI k2) (y := nI z) (a := k2) (b := z) rfl rfl (by omega) (by omega)] at h93
                      refine x_aload_n X dX9_plan_96 rfl ?_
                      refine gf_X9_43 (k' := 49) X dX9_plan_97 rfl rfl ?_
                      refine x_bipush (v := nI 8) X dX9_plan_100 (by decide) ?_
                      refine x_aload_n X dX9_plan_102 rfl ?_
                      refine gf_X9_127 X dX9_plan_103 rfl ?_
                      rw [qPl_o 17 (by omega) k2, show xgI (qPz σ) 37 17 = nI np from hc]
                      refine x_imul X dX9_plan_106 ?_
                      rw [pk_mul 8 np]
                      refine x_iload_n X dX9_plan_107 rfl ?_
                      refine x_iadd X dX9_plan_108 ?_
                      rw [nI_add (8 * np) k2]
                      refine x_aload_n X dX9_plan_109 rfl ?_
                      refine gf_X9_7 (k' := 38) X dX9_plan_110 rfl rfl ?_
                      refine x_iload_n X dX9_plan_113 rfl ?_
                      refine x_ialdN X dX9_plan_114 rfl (by omega) (by omega) ?_
                      rw [qPl_o k2 (by omega) k2, show xgI (qPz σ) 38 k2 = xgI σ 38 k2 from qPz_o (by omega)]
                      refine x_iastN X dX9_plan_115 rfl (by have := hg0.1; omega) (by omega) ?_
                      refine x_iinc (k := 0) (v := nI (k2 + 1)) (lv' := [(3, .int (nI (k2 + 1))), (2, .int is0), (1, .int (nI z)), (0, .ref (G.2.1 37))]) X dX9_plan_116 rfl (xn_inc _) (by decide) rfl ?_
                      refine x_goto (tgt := 91) X dX9_plan_119 (by decide) ?_
                      refine x_pick [0, 1, 2, 3] rfl ?_
                      exact ih91 _ (by omega) (k2 + 1) (by omega) rfl
                refine x_pick [0, 1, 2, 3] rfl ?_
                exact lp91 _ 0 (by omega) rfl
              · skip
                rw [xb_ne (x := nI np) (y := nI 8) (a := np) (b := 8) rfl rfl (by omega) (by omega)] at h83
                omega
            · skip
              exact absurd (his ▸ h71) (by rw [xB_t hg0]; decide)
          · skip
            rw [xb_ge (x := nI k) (y := nI z) (a := k) (b := z) rfl rfl (by omega) (by omega)] at h43
            refine x_iload_n X dX9_plan_46 rfl ?_
            refine x_ifeq (tgt := 70) X dX9_plan_47 (by decide) (fun h47 => ?_) (fun h47 => ?_)
            · skip
              have h47b : ¬ qPg σ z V k := xB_0.mp (his ▸ h47)
              refine x_iload_n X dX9_plan_70 rfl ?_
              refine x_ifne (tgt := 77) X dX9_plan_71 (by decide) (fun h71 => ?_) (fun h71 => ?_)
              · skip
                exact absurd hg0 (fun q => h47b ⟨q.1, fun j hj => q.2 j (by omega)⟩)
              · skip
                exact absurd hg0 (fun q => h47b ⟨q.1, fun j hj => q.2 j (by omega)⟩)
            · skip
              have h47b : qPg σ z V k := Classical.not_not.mp (fun q => h47 (by rw [his, xB_f q]))
              refine x_aload_n X dX9_plan_50 rfl ?_
              refine gf_X9_7 (k' := 38) X dX9_plan_51 rfl rfl ?_
              refine x_iload_n X dX9_plan_54 rfl ?_
              refine x_ialdN X dX9_plan_55 rfl (by omega) (by omega) ?_
              rw [show xgI (qPz σ) 38 k = xgI σ 38 k from qPz_o (by omega)]
              refine x_ldc X dX9_plan_56 wk_X9_151 ?_
              refine x_ldc X dX9_plan_58 wk_X9_152 ?_
              refine cs_X9_89 X c_X9_in dX9_plan_60 ⟨by decide, by decide, by decide, by decide⟩ rfl rfl (Nat.le_of_ble_eq_true rfl) (xk_i ?_)
              refine x_topi (fun g hg => ?_)
              refine x_istore_n (lv' := [(2, .int g), (3, .int (nI k)), (1, .int (nI z)), (0, .ref (G.2.1 37))]) X dX9_plan_63 rfl (by decide) rfl ?_
              have his9 : g = xB (qPg σ z V (k + 1)) := by
                rw [hg]
                by_cases q : xIn (xgI σ 38 k) (-1000000) 1000000 = 0
                · rw [q, xB_f (fun y => y.2 k (by omega) q)]
                · rw [xB_t ⟨h47b.1, lt_s h47b.2 q⟩]; exact (xIn_01 (x := _) (lo := _) (hi := _)).resolve_left q
              refine x_iinc (k := 1) (v := nI (k + 1)) (lv' := [(3, .int (nI (k + 1))), (2, .int g), (1, .int (nI z)), (0, .ref (G.2.1 37))]) X dX9_plan_64 rfl (xn_inc _) (by decide) rfl ?_
              refine x_goto (tgt := 41) X dX9_plan_67 (by decide) ?_
              refine x_pick [0, 1, 2, 3] rfl ?_
              exact ih41 _ (by omega) (k + 1) (by omega) _ his9 rfl
      refine x_pick [0, 1, 2, 3] rfl ?_
      exact lp41 _ 0 (by omega) _ hi0 rfl
    · skip
      rw [xb_ne (x := nI z) (y := nI V) (a := z) (b := V) rfl rfl (by omega) (by omega)] at h30
      have hi0 : nI 1 = xB (qPg σ z V 0) := (xB_t ⟨h30, fun j hj => by omega⟩).symm
      refine x_iconst (v := nI 1) X dX9_plan_33 (by decide) ?_
      refine x_goto (tgt := 38) X dX9_plan_34 (by decide) ?_
      refine x_istore_n (lv' := [(2, .int (nI 1)), (1, .int (nI z)), (0, .ref (G.2.1 37))]) X dX9_plan_38 rfl (by decide) rfl ?_
      refine x_iconst (v := nI 0) X dX9_plan_39 (by decide) ?_
      refine x_istore_n (lv' := [(3, .int (nI 0)), (2, .int (nI 1)), (1, .int (nI z)), (0, .ref (G.2.1 37))]) X dX9_plan_40 rfl (by decide) rfl ?_
      have lp41 : ∀ (NN41 : Nat) (k : Nat) (hk : k ≤ z) (is0 : Int32) (his : is0 = xB (qPg σ z V k)), z - k = NN41 → xW pp l ee { frames := 1, cells := 0, slots := 0, locals := 22 } ss mm aa bel met kk 4 G 0 0 (xQ bel G (fun rv_ tv_ => rv_ = some (.int (nI np)) ∧ tv_ = (xsI (qPl σ np z) 37 17 (nI (np + 1)))) aa ss) 41 [(3, .int (nI k)), (2, .int is0), (1, .int (nI z)), (0, .ref (G.2.1 37))] [] (qPz σ) := by
        intro NN41
        induction NN41 using Nat.strongRecOn with
        | ind NN41 ih41 =>
          intro k hk is0 his hNN41
          refine x_iload_n X dX9_plan_41 rfl ?_
          refine x_iload_n X dX9_plan_42 rfl ?_
          refine x_icmpge (tgt := 70) X dX9_plan_43 (by decide) (fun h43 => ?_) (fun h43 => ?_)
          · skip
            rw [xb_ge (x := nI k) (y := nI z) (a := k) (b := z) rfl rfl (by omega) (by omega)] at h43
            rw [show k = z by omega] at his
            refine x_iload_n X dX9_plan_70 rfl ?_
            refine x_ifne (tgt := 77) X dX9_plan_71 (by decide) (fun h71 => ?_) (fun h71 => ?_)
            · skip
              refine x_aload_n X dX9_plan_77 rfl ?_
              refine gf_X9_127 X dX9_plan_78 rfl ?_
              rw [show xgI (qPz σ) 37 17 = nI np from hc]
              refine x_bipush (v := nI 8) X dX9_plan_81 (by decide) ?_
              refine x_icmpne (tgt := 89) X dX9_plan_83 (by decide) (fun h83 => ?_) (fun h83 => ?_)
              · skip
                rw [xb_ne (x := nI np) (y := nI 8) (a := np) (b := 8) rfl rfl (by omega) (by omega)] at h83
                refine x_iconst (v := nI 0) X dX9_plan_89 (by decide) ?_
                refine x_istore_n (lv' := [(3, .int (nI 0)), (2, .int is0), (1, .int (nI z)), (0, .ref (G.2.1 37))]) X dX9_plan_90 rfl (by decide) rfl ?_
                have lp91 : ∀ (NN91 : Nat) (k2 : Nat) (hk2 : k2 ≤ z), z - k2 = NN91 → xW pp l ee { frames := 1, cells := 0, slots := 0, locals := 22 } ss mm aa bel met kk 4 G 0 0 (xQ bel G (fun rv_ tv_ => rv_ = some (.int (nI np)) ∧ tv_ = (xsI (qPl σ np z) 37 17 (nI (np + 1)))) aa ss) 91 [(3, .int (nI k2)), (2, .int is0), (1, .int (nI z)), (0, .ref (G.2.1 37))] [] (qPl σ np k2) := by
                  intro NN91
                  induction NN91 using Nat.strongRecOn with
                  | ind NN91 ih91 =>
                    intro k2 hk2 hNN91
                    refine x_iload_n X dX9_plan_91 rfl ?_
                    refine x_iload_n X dX9_plan_92 rfl ?_
                    refine x_icmpge (tgt := 122) X dX9_plan_93 (by decide) (fun h93 => ?_) (fun h93 => ?_)
                    · skip
                      rw [xb_ge (x := nI k2) (y := nI z) (a := k2) (b := z) rfl rfl (by omega) (by omega)] at h93
                      obtain rfl : k2 = z := by omega
                      refine x_aload_n X dX9_plan_122 rfl ?_
                      refine x_dup X dX9_plan_123 rfl ?_
                      refine gf_X9_127 X dX9_plan_124 rfl ?_
                      rw [qPl_o 17 (by omega) _, show xgI (qPz σ) 37 17 = nI np from hc]
                      refine x_iconst (v := nI 1) X dX9_plan_127 (by decide) ?_
                      refine x_iadd X dX9_plan_128 ?_
                      rw [nI_add np 1]
                      refine pf_X9_127 X dX9_plan_129 rfl ?_
                      refine x_aload_n X dX9_plan_132 rfl ?_
                      refine gf_X9_127 X dX9_plan_133 rfl ?_
                      rw [xgI_s]
                      refine x_iconst (v := nI 1) X dX9_plan_136 (by decide) ?_
                      refine x_isub X dX9_plan_137 ?_
                      rw [pk_sub (a := (np + 1)) (b := 1) (by omega)]
                      rw [show (np + 1) - 1 = np by omega]
                      exact x_iret X dX9_plan_138 (xp_i (by first | rfl | simp [*]) (by first | rfl | simp [*]))
                    · skip
                      rw [xb_ge (x := nI k2) (y := nI z) (a := k2) (b := z) rfl rfl (by omega) (by omega)] at h93
                      refine x_aload_n X dX9_plan_96 rfl ?_
                      refine gf_X9_43 (k' := 49) X dX9_plan_97 rfl rfl ?_
                      refine x_bipush (v := nI 8) X dX9_plan_100 (by decide) ?_
                      refine x_aload_n X dX9_plan_102 rfl ?_
                      refine gf_X9_127 X dX9_plan_103 rfl ?_
                      rw [qPl_o 17 (by omega) k2, show xgI (qPz σ) 37 17 = nI np from hc]
                      refine x_imul X dX9_plan_106 ?_
                      rw [pk_mul 8 np]
                      refine x_iload_n X dX9_plan_107 rfl ?_
                      refine x_iadd X dX9_plan_108 ?_
                      rw [nI_add (8 * np) k2]
                      refine x_aload_n X dX9_plan_109 rfl ?_
                      refine gf_X9_7 (k' := 38) X dX9_plan_110 rfl rfl ?_
                      refine x_iload_n X dX9_plan_113 rfl ?_
                      refine x_ialdN X dX9_plan_114 rfl (by omega) (by omega) ?_
                      rw [qPl_o k2 (by omega) k2, show xgI (qPz σ) 38 k2 = xgI σ 38 k2 from qPz_o (by omega)]
                      refine x_iastN X dX9_plan_115 rfl (by have := hg0.1; omega) (by omega) ?_
                      refine x_iinc (k := 0) (v := nI (k2 + 1)) (lv' := [(3, .int (nI (k2 + 1))), (2, .int is0), (1, .int (nI z)), (0, .ref (G.2.1 37))]) X dX9_plan_116 rfl (xn_inc _) (by decide) rfl ?_
                      refine x_goto (tgt := 91) X dX9_plan_119 (by decide) ?_
                      refine x_pick [0, 1, 2, 3] rfl ?_
                      exact ih91 _ (by omega) (k2 + 1) (by omega) rfl
                refine x_pick [0, 1, 2, 3] rfl ?_
                exact lp91 _ 0 (by omega) rfl
              · skip
                rw [xb_ne (x := nI np) (y := nI 8) (a := np) (b := 8) rfl rfl (by omega) (by omega)] at h83
                omega
            · skip
              exact absurd (his ▸ h71) (by rw [xB_t hg0]; decide)
          · skip
            rw [xb_ge (x := nI k) (y := nI z) (a := k) (b := z) rfl rfl (by omega) (by omega)] at h43
            refine x_iload_n X dX9_plan_46 rfl ?_
            refine x_ifeq (tgt := 70) X dX9_plan_47 (by decide) (fun h47 => ?_) (fun h47 => ?_)
            · skip
              have h47b : ¬ qPg σ z V k := xB_0.mp (his ▸ h47)
              refine x_iload_n X dX9_plan_70 rfl ?_
              refine x_ifne (tgt := 77) X dX9_plan_71 (by decide) (fun h71 => ?_) (fun h71 => ?_)
              · skip
                exact absurd hg0 (fun q => h47b ⟨q.1, fun j hj => q.2 j (by omega)⟩)
              · skip
                exact absurd hg0 (fun q => h47b ⟨q.1, fun j hj => q.2 j (by omega)⟩)
            · skip
              have h47b : qPg σ z V k := Classical.not_not.mp (fun q => h47 (by rw [his, xB_f q]))
              refine x_aload_n X dX9_plan_50 rfl ?_
              refine gf_X9_7 (k' := 38) X dX9_plan_51 rfl rfl ?_
              refine x_iload_n X dX9_plan_54 rfl ?_
              refine x_ialdN X dX9_plan_55 rfl (by omega) (by omega) ?_
              rw [show xgI (qPz σ) 38 k = xgI σ 38 k from qPz_o (by omega)]
              refine x_ldc X dX9_plan_56 wk_X9_151 ?_
              refine x_ldc X dX9_plan_58 wk_X9_152 ?_
              refine cs_X9_89 X c_X9_in dX9_plan_60 ⟨by decide, by decide, by decide, by decide⟩ rfl rfl (Nat.le_of_ble_eq_true rfl) (xk_i ?_)
              refine x_topi (fun g hg => ?_)
              refine x_istore_n (lv' := [(2, .int g), (3, .int (nI k)), (1, .int (nI z)), (0, .ref (G.2.1 37))]) X dX9_plan_63 rfl (by decide) rfl ?_
              have his9 : g = xB (qPg σ z V (k + 1)) := by
                rw [hg]
                by_cases q : xIn (xgI σ 38 k) (-1000000) 1000000 = 0
                · rw [q, xB_f (fun y => y.2 k (by omega) q)]
                · rw [xB_t ⟨h47b.1, lt_s h47b.2 q⟩]; exact (xIn_01 (x := _) (lo := _) (hi := _)).resolve_left q
              refine x_iinc (k := 1) (v := nI (k + 1)) (lv' := [(3, .int (nI (k + 1))), (2, .int g), (1, .int (nI z)), (0, .ref (G.2.1 37))]) X dX9_plan_64 rfl (xn_inc _) (by decide) rfl ?_
              refine x_goto (tgt := 41) X dX9_plan_67 (by decide) ?_
              refine x_pick [0, 1, 2, 3] rfl ?_
              exact ih41 _ (by omega) (k + 1) (by omega) _ his9 rfl
      refine x_pick [0, 1, 2, 3] rfl ?_
      exact lp41 _ 0 (by omega) _ hi0 rfl
  · skip
    rw [xb_ne (x := nI V) (y := 0) (a := V) (b := 0) rfl rfl (by omega) (by omega)] at h19
    omega
