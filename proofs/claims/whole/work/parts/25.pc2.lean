/-! PlanCertificates: rows, proofs, reading -/
def xUs (x : Int64) (y : Int32) : Int64 := (x.toUInt64 >>> (y.toInt64.toUInt64 &&& Int64.toUInt64 63)).toInt64
def xBc1 (x : Int64) : Int64 := x - (xUs x 1 &&& 6148914691236517205)
def xBc2 (x : Int64) : Int64 := (x &&& 3689348814741910323) + (xUs x 2 &&& 3689348814741910323)
def xBc3 (x : Int64) : Int64 := (x + xUs x 4) &&& 1085102592571150095
def xBc (x : Int64) : Int32 := ((xBc3 (xBc2 (xBc1 x)) + xUs (xBc3 (xBc2 (xBc1 x))) 8 + xUs (xBc3 (xBc2 (xBc1 x)) + xUs (xBc3 (xBc2 (xBc1 x))) 8) 16) + xUs (xBc3 (xBc2 (xBc1 x)) + xUs (xBc3 (xBc2 (xBc1 x))) 8 + xUs (xBc3 (xBc2 (xBc1 x)) + xUs (xBc3 (xBc2 (xBc1 x))) 8) 16) 32).toInt32 &&& 127
/-- the numbers f 0, f 1 .. taken one behind the other -/
def xTks (Tk : xS → Int32 → xS → Prop) (f : xS → Nat → Int32) (σ : xS) : Nat → xS → Prop
  | 0, t => t = σ
  | n + 1, t => ∃ u, xTks Tk f σ n u ∧ Tk u (f u n) t
noncomputable def pHolds (σ : xS) (w j c nb : Nat) (bj : Nat → Nat) : Int32 := @ite _ (∀ b, b < nb → xBit (xgL σ (61 + w) 2) b → rKept σ (bj b) (463 + j)) (Classical.propDecidable _) (if xgI σ (61 + w) 3 = 0 then xB (rKept σ w (463 + j)) else if xSum (xgI σ (c + 3)) (xgI σ (463 + j)) 8 < xgL σ (61 + w) 4 then xB (rKept σ w (463 + j)) else 2) 2

set_option maxHeartbeats 4000000 in
set_option maxRecDepth 100000 in
theorem c_J13_bitCount_95d88 {l : Launch} {G : xG} {σ : xS} {x : Int64} : xFi l G yJ13_bitCount_95d88 cJ13_bitCount_95d88 2 (Option.some Jvm.ClassFile.FieldType.int) 0 0 [.long x] σ (xBc x) (σ) := by
  refine xM.ofJ (by decide +kernel) (Nat.le_of_ble_eq_true rfl) (fun pp ee ss mm aa bel met kk X => ?_)
  have X : xC pp ss mm met kk cJ13_bitCount_95d88 2 RJ13 (Option.some Jvm.ClassFile.FieldType.int) G := X
  show xW pp l ee { frames := 0, cells := 0, slots := 0, locals := 0 } ss mm aa bel met kk 2 G 0 0 (xQ bel G (fun rv_ tv_ => rv_ = some (.int (xBc x)) ∧ tv_ = (σ)) aa ss) 0 [(0, .long x)] [] σ
  refine x_lload_n X dJ13_bitCount_95d88_0 rfl ?_
  refine x_lload_n X dJ13_bitCount_95d88_1 rfl ?_
  refine x_iconst (v := 1) X dJ13_bitCount_95d88_2 (by decide) ?_
  refine x_lushr X dJ13_bitCount_95d88_3 ?_
  refine x_ldc2 X dJ13_bitCount_95d88_4 wk_J13_314 ?_
  refine x_land X dJ13_bitCount_95d88_7 ?_
  refine x_lsub X dJ13_bitCount_95d88_8 ?_
  refine x_topl (fun a1 ha1 => ?_)
  refine x_lstore_n (lv' := [(0, .long a1)]) X dJ13_bitCount_95d88_9 rfl (by decide) rfl ?_
  refine x_lload_n X dJ13_bitCount_95d88_10 rfl ?_
  refine x_ldc2 X dJ13_bitCount_95d88_11 wk_J13_316 ?_
  refine x_land X dJ13_bitCount_95d88_14 ?_
  refine x_lload_n X dJ13_bitCount_95d88_15 rfl ?_
  refine x_iconst (v := 2) X dJ13_bitCount_95d88_16 (by decide) ?_
  refine x_lushr X dJ13_bitCount_95d88_17 ?_
  refine x_ldc2 X dJ13_bitCount_95d88_18 wk_J13_316 ?_
  refine x_land X dJ13_bitCount_95d88_21 ?_
  refine x_ladd X dJ13_bitCount_95d88_22 ?_
  refine x_topl (fun a2 ha2 => ?_)
  refine x_lstore_n (lv' := [(0, .long a2)]) X dJ13_bitCount_95d88_23 rfl (by decide) rfl ?_
  refine x_lload_n X dJ13_bitCount_95d88_24 rfl ?_
  refine x_lload_n X dJ13_bitCount_95d88_25 rfl ?_
  refine x_iconst (v := 4) X dJ13_bitCount_95d88_26 (by decide) ?_
  refine x_lushr X dJ13_bitCount_95d88_27 ?_
  refine x_ladd X dJ13_bitCount_95d88_28 ?_
  refine x_ldc2 X dJ13_bitCount_95d88_29 wk_J13_318 ?_
  refine x_land X dJ13_bitCount_95d88_32 ?_
  refine x_topl (fun a3 ha3 => ?_)
  refine x_lstore_n (lv' := [(0, .long a3)]) X dJ13_bitCount_95d88_33 rfl (by decide) rfl ?_
  refine x_lload_n X dJ13_bitCount_95d88_34 rfl ?_
  refine x_lload_n X dJ13_bitCount_95d88_35 rfl ?_
  refine x_bipush (v := 8) X dJ13_bitCount_95d88_36 (by decide) ?_
  refine x_lushr X dJ13_bitCount_95d88_38 ?_
  refine x_ladd X dJ13_bitCount_95d88_39 ?_
  refine x_topl (fun a4 ha4 => ?_)
  refine x_lstore_n (lv' := [(0, .long a4)]) X dJ13_bitCount_95d88_40 rfl (by decide) rfl ?_
  refine x_lload_n X dJ13_bitCount_95d88_41 rfl ?_
  refine x_lload_n X dJ13_bitCount_95d88_42 rfl ?_
  refine x_bipush (v := 16) X dJ13_bitCount_95d88_43 (by decide) ?_
  refine x_lushr X dJ13_bitCount_95d88_45 ?_
  refine x_ladd X dJ13_bitCount_95d88_46 ?_
  refine x_topl (fun a5 ha5 => ?_)
  refine x_lstore_n (lv' := [(0, .long a5)]) X dJ13_bitCount_95d88_47 rfl (by decide) rfl ?_
  refine x_lload_n X dJ13_bitCount_95d88_48 rfl ?_
  refine x_lload_n X dJ13_bitCount_95d88_49 rfl ?_
  refine x_bipush (v := 32) X dJ13_bitCount_95d88_50 (by decide) ?_
  refine x_lushr X dJ13_bitCount_95d88_52 ?_
  refine x_ladd X dJ13_bitCount_95d88_53 ?_
  refine x_topl (fun a6 ha6 => ?_)
  refine x_lstore_n (lv' := [(0, .long a6)]) X dJ13_bitCount_95d88_54 rfl (by decide) rfl ?_
  refine x_lload_n X dJ13_bitCount_95d88_55 rfl ?_
  refine x_l2i X dJ13_bitCount_95d88_56 ?_
  refine x_bipush (v := 127) X dJ13_bitCount_95d88_57 (by decide) ?_
  refine x_iand X dJ13_bitCount_95d88_59 ?_
  exact x_iret X dJ13_bitCount_95d88_60 (xp_i (by subst ha6 ha5 ha4 ha3 ha2 ha1; rfl) (by first | rfl | simp [*]))

set_option maxHeartbeats 4000000 in
set_option maxRecDepth 100000 in
theorem c_X8_rowF {l : Launch} {G : xG} {σ : xS} {c : Nat} (hm : xMod c) (hC : xgC σ = c) {V : Nat} (hV : xgI σ c 0 = nI V) (hV8 : V ≤ 8) {nr w : Nat} (hr : nr ≤ 200) (hrc : xgI σ 8 3 = nI nr) (hw : w < nr) {j : Nat} (hj : j < V) : xFl l G yX8_row cX8_row 4 (Option.some Jvm.ClassFile.FieldType.long) 3 67 [.ref (G.2.1 0), .int (nI w), .int (nI j)] σ (xgL σ (262 + w) j) (σ) := by
  refine xM.of (by decide) (Nat.le_of_ble_eq_true rfl) (fun pp ee ss mm aa bel met kk X => ?_)
  have X : xC pp ss mm met kk cX8_row 4 RX8 (Option.some Jvm.ClassFile.FieldType.long) G := X
  show xW pp l ee { frames := 3, cells := 0, slots := 0, locals := 67 } ss mm aa bel met kk 4 G 0 0 (xQ bel G (fun rv_ tv_ => rv_ = some (.long (xgL σ (262 + w) j)) ∧ tv_ = (σ)) aa ss) 0 [(0, .ref (G.2.1 0)), (1, .int (nI w)), (2, .int (nI j))] [] σ
  refine x_aload_n X dX8_row_0 rfl ?_
  refine x_iload_n X dX8_row_1 rfl ?_
  refine cv_X8_141 X (c_X8_demandRow hr hrc hw) dX8_row_2 rfl ⟨by decide, by decide, by decide, by decide⟩ rfl rfl (Nat.le_of_ble_eq_true rfl) (xk_v ?_)
  refine x_aload_n X dX8_row_5 rfl ?_
  refine gf_X8_26 (k' := 6) X dX8_row_6 rfl rfl ?_
  refine gf_X8_126 (k' := 8) X dX8_row_9 rfl rfl ?_
  refine x_iload_n X dX8_row_12 rfl ?_
  refine cv_X8_144 X (c_X6_at hr hrc hw) dX8_row_13 rfl ⟨by decide, by decide, by decide, by decide⟩ rfl rfl (Nat.le_of_ble_eq_true rfl) (xk_r ?_)
  refine x_astore_n (lv' := [(3, .ref (G.2.1 (61 + w))), (0, .ref (G.2.1 0)), (1, .int (nI w)), (2, .int (nI j))]) X dX8_row_16 rfl (by decide) rfl ?_
  refine x_iload_n X dX8_row_17 rfl ?_
  refine x_iflt (tgt := 38) X dX8_row_18 (by decide) (fun h18 => ?_) (fun h18 => ?_)
  · skip
    rw [xb_lt (x := nI j) (y := 0) (a := j) (b := 0) rfl rfl (by omega) (by omega)] at h18
    omega
  · skip
    rw [xb_lt (x := nI j) (y := 0) (a := j) (b := 0) rfl rfl (by omega) (by omega)] at h18
    refine x_iload_n X dX8_row_21 rfl ?_
    refine x_aload_n X dX8_row_22 rfl ?_
    refine gf_X8_33 (k' := c) X dX8_row_23 rfl hC ?_
    refine gf_X8_74 X dX8_row_26 (xk0 hm) ?_
    rw [hV]
    refine x_icmpge (tgt := 38) X dX8_row_29 (by decide) (fun h29 => ?_) (fun h29 => ?_)
    · skip
      rw [xb_ge (x := nI j) (y := nI V) (a := j) (b := V) rfl rfl (by omega) (by omega)] at h29
      omega
    · skip
      rw [xb_ge (x := nI j) (y := nI V) (a := j) (b := V) rfl rfl (by omega) (by omega)] at h29
      refine x_aload_n X dX8_row_32 rfl ?_
      refine x_iload_n X dX8_row_33 rfl ?_
      refine cv_X8_147 X (c_X5_factorOf (by omega)) dX8_row_34 (xck_row (i := w) (by omega)) ⟨by decide, by decide, by decide, by decide⟩ rfl rfl (Nat.le_of_ble_eq_true rfl) (xk_l ?_)
      rw [rFac_n (by omega)]
      exact x_lret X dX8_row_37 (xp_l (by first | rfl | simp [*]) (by first | rfl | simp [*]))

set_option maxHeartbeats 4000000 in
set_option maxRecDepth 100000 in
theorem c_X8_row8 {l : Launch} {G : xG} {σ : xS} {c : Nat} (hm : xMod c) (hC : xgC σ = c) {V : Nat} (hV : xgI σ c 0 = nI V) (hV8 : V ≤ 8) {nr w : Nat} (hr : nr ≤ 200) (hrc : xgI σ 8 3 = nI nr) (hw : w < nr) : xFl l G yX8_row cX8_row 4 (Option.some Jvm.ClassFile.FieldType.long) 3 67 [.ref (G.2.1 0), .int (nI w), .int 8] σ (xgL σ (61 + w) 1) (σ) := by
  refine xM.of (by decide) (Nat.le_of_ble_eq_true rfl) (fun pp ee ss mm aa bel met kk X => ?_)
  have X : xC pp ss mm met kk cX8_row 4 RX8 (Option.some Jvm.ClassFile.FieldType.long) G := X
  show xW pp l ee { frames := 3, cells := 0, slots := 0, locals := 67 } ss mm aa bel met kk 4 G 0 0 (xQ bel G (fun rv_ tv_ => rv_ = some (.long (xgL σ (61 + w) 1)) ∧ tv_ = (σ)) aa ss) 0 [(0, .ref (G.2.1 0)), (1, .int (nI w)), (2, .int 8)] [] σ
  refine x_aload_n X dX8_row_0 rfl ?_
  refine x_iload_n X dX8_row_1 rfl ?_
  refine cv_X8_141 X (c_X8_demandRow hr hrc hw) dX8_row_2 rfl ⟨by decide, by decide, by decide, by decide⟩ rfl rfl (Nat.le_of_ble_eq_true rfl) (xk_v ?_)
  refine x_aload_n X dX8_row_5 rfl ?_
  refine gf_X8_26 (k' := 6) X dX8_row_6 rfl rfl ?_
  refine gf_X8_126 (k' := 8) X dX8_row_9 rfl rfl ?_
  refine x_iload_n X dX8_row_12 rfl ?_
  refine cv_X8_144 X (c_X6_at hr hrc hw) dX8_row_13 rfl ⟨by decide, by decide, by decide, by decide⟩ rfl rfl (Nat.le_of_ble_eq_true rfl) (xk_r ?_)
  refine x_astore_n (lv' := [(3, .ref (G.2.1 (61 + w))), (0, .ref (G.2.1 0)), (1, .int (nI w)), (2, .int 8)]) X dX8_row_16 rfl (by decide) rfl ?_
  refine x_iload_n X dX8_row_17 rfl ?_
  refine x_iflt (tgt := 38) X dX8_row_18 (by decide) (fun h18 => ?_) (fun h18 => ?_)
  · skip
    exact absurd h18 (by decide)
  · skip
    refine x_iload_n X dX8_row_21 rfl ?_
    refine x_aload_n X dX8_row_22 rfl ?_
    refine gf_X8_33 (k' := c) X dX8_row_23 rfl hC ?_
    refine gf_X8_74 X dX8_row_26 (xk0 hm) ?_
    rw [hV]
    refine x_icmpge (tgt := 38) X dX8_row_29 (by decide) (fun h29 => ?_) (fun h29 => ?_)
    · skip
      rw [xb_ge (x := 8) (y := nI V) (a := 8) (b := V) rfl rfl (by omega) (by omega)] at h29
      refine x_iload_n X dX8_row_38 rfl ?_
      refine x_tableIn (off := 37) (tgt := 76) X dX8_row_39 (by decide) (by decide) rfl (by decide) ?_
      refine x_aload_n X dX8_row_76 rfl ?_
      refine gf_X8_153 X dX8_row_77 (xck_row (i := w) (by omega)) ?_
      exact x_lret X dX8_row_80 (xp_l (by first | rfl | simp [*]) (by first | rfl | simp [*]))
    · skip
      rw [xb_ge (x := 8) (y := nI V) (a := 8) (b := V) rfl rfl (by omega) (by omega)] at h29
      omega

set_option maxHeartbeats 4000000 in
set_option maxRecDepth 100000 in
theorem c_X8_row9 {l : Launch} {G : xG} {σ : xS} {c : Nat} (hm : xMod c) (hC : xgC σ = c) {V : Nat} (hV : xgI σ c 0 = nI V) (hV8 : V ≤ 8) {nr w : Nat} (hr : nr ≤ 200) (hrc : xgI σ 8 3 = nI nr) (hw : w < nr) : xFl l G yX8_row cX8_row 4 (Option.some Jvm.ClassFile.FieldType.long) 3 67 [.ref (G.2.1 0), .int (nI w), .int 9] σ ((xBc (xgL σ (61 + w) 2)).toInt64) (σ) := by
  refine xM.of (by decide) (Nat.le_of_ble_eq_true rfl) (fun pp ee ss mm aa bel met kk X => ?_)
  have X : xC pp ss mm met kk cX8_row 4 RX8 (Option.some Jvm.ClassFile.FieldType.long) G := X
  show xW pp l ee { frames := 3, cells := 0, slots := 0, locals := 67 } ss mm aa bel met kk 4 G 0 0 (xQ bel G (fun rv_ tv_ => rv_ = some (.long ((xBc (xgL σ (61 + w) 2)).toInt64)) ∧ tv_ = (σ)) aa ss) 0 [(0, .ref (G.2.1 0)), (1, .int (nI w)), (2, .int 9)] [] σ
  refine x_aload_n X dX8_row_0 rfl ?_
  refine x_iload_n X dX8_row_1 rfl ?_
  refine cv_X8_141 X (c_X8_demandRow hr hrc hw) dX8_row_2 rfl ⟨by decide, by decide, by decide, by decide⟩ rfl rfl (Nat.le_of_ble_eq_true rfl) (xk_v ?_)
  refine x_aload_n X dX8_row_5 rfl ?_
  refine gf_X8_26 (k' := 6) X dX8_row_6 rfl rfl ?_
  refine gf_X8_126 (k' := 8) X dX8_row_9 rfl rfl ?_
  refine x_iload_n X dX8_row_12 rfl ?_
  refine cv_X8_144 X (c_X6_at hr hrc hw) dX8_row_13 rfl ⟨by decide, by decide, by decide, by decide⟩ rfl rfl (Nat.le_of_ble_eq_true rfl) (xk_r ?_)
  refine x_astore_n (lv' := [(3, .ref (G.2.1 (61 + w))), (0, .ref (G.2.1 0)), (1, .int (nI w)), (2, .int 9)]) X dX8_row_16 rfl (by decide) rfl ?_
  refine x_iload_n X dX8_row_17 rfl ?_
  refine x_iflt (tgt := 38) X dX8_row_18 (by decide) (fun h18 => ?_) (fun h18 => ?_)
  · skip
    exact absurd h18 (by decide)
  · skip
    refine x_iload_n X dX8_row_21 rfl ?_
    refine x_aload_n X dX8_row_22 rfl ?_
    refine gf_X8_33 (k' := c) X dX8_row_23 rfl hC ?_
    refine gf_X8_74 X dX8_row_26 (xk0 hm) ?_
    rw [hV]
    refine x_icmpge (tgt := 38) X dX8_row_29 (by decide) (fun h29 => ?_) (fun h29 => ?_)
    · skip
      rw [xb_ge (x := 9) (y := nI V) (a := 9) (b := V) rfl rfl (by omega) (by omega)] at h29
      refine x_iload_n X dX8_row_38 rfl ?_
      refine x_tableIn (off := 42) (tgt := 81) X dX8_row_39 (by decide) (by decide) rfl (by decide) ?_
      refine x_aload_n X dX8_row_81 rfl ?_
      refine gf_X8_157 X dX8_row_82 (xck_row (i := w) (by omega)) ?_
      refine cs_X8_160 X c_J13_bitCount_95d88 dX8_row_85 ⟨by decide, by decide, by decide, by decide⟩ rfl rfl (Nat.le_of_ble_eq_true rfl) (xk_i ?_)
      refine x_i2l X dX8_row_88 ?_
      exact x_lret X dX8_row_89 (xp_l (by first | rfl | simp [*]) (by first | rfl | simp [*]))
    · skip
      rw [xb_ge (x := 9) (y := nI V) (a := 9) (b := V) rfl rfl (by omega) (by omega)] at h29
      omega

set_option maxHeartbeats 4000000 in
set_option maxRecDepth 100000 in
theorem c_X8_row10 {l : Launch} {G : xG} {σ : xS} {c : Nat} (hm : xMod c) (hC : xgC σ = c) {V : Nat} (hV : xgI σ c 0 = nI V) (hV8 : V ≤ 8) {nr w : Nat} (hr : nr ≤ 200) (hrc : xgI σ 8 3 = nI nr) (hw : w < nr) : xFl l G yX8_row cX8_row 4 (Option.some Jvm.ClassFile.FieldType.long) 3 67 [.ref (G.2.1 0), .int (nI w), .int 10] σ (if xgI σ (61 + w) 3 = 0 then 0 else 1) (σ) := by
  refine xM.of (by decide) (Nat.le_of_ble_eq_true rfl) (fun pp ee ss mm aa bel met kk X => ?_)
  have X : xC pp ss mm met kk cX8_row 4 RX8 (Option.some Jvm.ClassFile.FieldType.long) G := X
  show xW pp l ee { frames := 3, cells := 0, slots := 0, locals := 67 } ss mm aa bel met kk 4 G 0 0 (xQ bel G (fun rv_ tv_ => rv_ = some (.long (if xgI σ (61 + w) 3 = 0 then 0 else 1)) ∧ tv_ = (σ)) aa ss) 0 [(0, .ref (G.2.1 0)), (1, .int (nI w)), (2, .int 10)] [] σ
  refine x_aload_n X dX8_row_0 rfl ?_
  refine x_iload_n X dX8_row_1 rfl ?_
  refine cv_X8_141 X (c_X8_demandRow hr hrc hw) dX8_row_2 rfl ⟨by decide, by decide, by decide, by decide⟩ rfl rfl (Nat.le_of_ble_eq_true rfl) (xk_v ?_)
  refine x_aload_n X dX8_row_5 rfl ?_
  refine gf_X8_26 (k' := 6) X dX8_row_6 rfl rfl ?_
  refine gf_X8_126 (k' := 8) X dX8_row_9 rfl rfl ?_
  refine x_iload_n X dX8_row_12 rfl ?_
  refine cv_X8_144 X (c_X6_at hr hrc hw) dX8_row_13 rfl ⟨by decide, by decide, by decide, by decide⟩ rfl rfl (Nat.le_of_ble_eq_true rfl) (xk_r ?_)
  refine x_astore_n (lv' := [(3, .ref (G.2.1 (61 + w))), (0, .ref (G.2.1 0)), (1, .int (nI w)), (2, .int 10)]) X dX8_row_16 rfl (by decide) rfl ?_
  refine x_iload_n X dX8_row_17 rfl ?_
  refine x_iflt (tgt := 38) X dX8_row_18 (by decide) (fun h18 => ?_) (fun h18 => ?_)
  · skip
    exact absurd h18 (by decide)
  · skip
    refine x_iload_n X dX8_row_21 rfl ?_
    refine x_aload_n X dX8_row_22 rfl ?_
    refine gf_X8_33 (k' := c) X dX8_row_23 rfl hC ?_
    refine gf_X8_74 X dX8_row_26 (xk0 hm) ?_
    rw [hV]
    refine x_icmpge (tgt := 38) X dX8_row_29 (by decide) (fun h29 => ?_) (fun h29 => ?_)
    · skip
      rw [xb_ge (x := 10) (y := nI V) (a := 10) (b := V) rfl rfl (by omega) (by omega)] at h29
      refine x_iload_n X dX8_row_38 rfl ?_
      refine x_tableIn (off := 51) (tgt := 90) X dX8_row_39 (by decide) (by decide) rfl (by decide) ?_
      refine x_aload_n X dX8_row_90 rfl ?_
      refine gf_X8_166 X dX8_row_91 (xck_row (i := w) (by omega)) ?_
      refine x_ifeq (tgt := 101) X dX8_row_94 (by decide) (fun h94 => ?_) (fun h94 => ?_)
      · skip
        refine x_lconst (v := 0) X dX8_row_101 (by decide) ?_
        exact x_lret X dX8_row_102 (xp_l (by first | rfl | simp [*]) (by first | rfl | simp [*]))
      · skip
        refine x_lconst (v := 1) X dX8_row_97 (by decide) ?_
        refine x_goto (tgt := 102) X dX8_row_98 (by decide) ?_
        exact x_lret X dX8_row_102 (xp_l (by first | rfl | simp [*]) (by first | rfl | simp [*]))
    · skip
      rw [xb_ge (x := 10) (y := nI V) (a := 10) (b := V) rfl rfl (by omega) (by omega)] at h29
      omega

set_option maxHeartbeats 4000000 in
set_option maxRecDepth 100000 in
theorem c_X8_row11 {l : Launch} {G : xG} {σ : xS} {c : Nat} (hm : xMod c) (hC : xgC σ = c) {V : Nat} (hV : xgI σ c 0 = nI V) (hV8 : V ≤ 8) {nr w : Nat} (hr : nr ≤ 200) (hrc : xgI σ 8 3 = nI nr) (hw : w < nr) : xFl l G yX8_row cX8_row 4 (Option.some Jvm.ClassFile.FieldType.long) 3 67 [.ref (G.2.1 0), .int (nI w), .int 11] σ (if xgI σ (61 + w) 3 = 0 then 0 else xgL σ (61 + w) 4) (σ) := by
  refine xM.of (by decide) (Nat.le_of_ble_eq_true rfl) (fun pp ee ss mm aa bel met kk X => ?_)
  have X : xC pp ss mm met kk cX8_row 4 RX8 (Option.some Jvm.ClassFile.FieldType.long) G := X
  show xW pp l ee { frames := 3, cells := 0, slots := 0, locals := 67 } ss mm aa bel met kk 4 G 0 0 (xQ bel G (fun rv_ tv_ => rv_ = some (.long (if xgI σ (61 + w) 3 = 0 then 0 else xgL σ (61 + w) 4)) ∧ tv_ = (σ)) aa ss) 0 [(0, .ref (G.2.1 0)), (1, .int (nI w)), (2, .int 11)] [] σ
  refine x_aload_n X dX8_row_0 rfl ?_
  refine x_iload_n X dX8_row_1 rfl ?_
  refine cv_X8_141 X (c_X8_demandRow hr hrc hw) dX8_row_2 rfl ⟨by decide, by decide, by decide, by decide⟩ rfl rfl (Nat.le_of_ble_eq_true rfl) (xk_v ?_)
  refine x_aload_n X dX8_row_5 rfl ?_
  refine gf_X8_26 (k' := 6) X dX8_row_6 rfl rfl ?_
  refine gf_X8_126 (k' := 8) X dX8_row_9 rfl rfl ?_
  refine x_iload_n X dX8_row_12 rfl ?_
  refine cv_X8_144 X (c_X6_at hr hrc hw) dX8_row_13 rfl ⟨by decide, by decide, by decide, by decide⟩ rfl rfl (Nat.le_of_ble_eq_true rfl) (xk_r ?_)
  refine x_astore_n (lv' := [(3, .ref (G.2.1 (61 + w))), (0, .ref (G.2.1 0)), (1, .int (nI w)), (2, .int 11)]) X dX8_row_16 rfl (by decide) rfl ?_
  refine x_iload_n X dX8_row_17 rfl ?_
  refine x_iflt (tgt := 38) X dX8_row_18 (by decide) (fun h18 => ?_) (fun h18 => ?_)
  · skip
    exact absurd h18 (by decide)
  · skip
    refine x_iload_n X dX8_row_21 rfl ?_
    refine x_aload_n X dX8_row_22 rfl ?_
    refine gf_X8_33 (k' := c) X dX8_row_23 rfl hC ?_
    refine gf_X8_74 X dX8_row_26 (xk0 hm) ?_
    rw [hV]
    refine x_icmpge (tgt := 38) X dX8_row_29 (by decide) (fun h29 => ?_) (fun h29 => ?_)
    · skip
      rw [xb_ge (x := 11) (y := nI V) (a := 11) (b := V) rfl rfl (by omega) (by omega)] at h29
      refine x_iload_n X dX8_row_38 rfl ?_
      refine x_tableIn (off := 64) (tgt := 103) X dX8_row_39 (by decide) (by decide) rfl (by decide) ?_
      refine x_aload_n X dX8_row_103 rfl ?_
      refine gf_X8_166 X dX8_row_104 (xck_row (i := w) (by omega)) ?_
      refine x_ifeq (tgt := 117) X dX8_row_107 (by decide) (fun h107 => ?_) (fun h107 => ?_)
      · skip
        refine x_lconst (v := 0) X dX8_row_117 (by decide) ?_
        exact x_lret X dX8_row_118 (xp_l (by first | rfl | simp [*]) (by first | rfl | simp [*]))
      · skip
        refine x_aload_n X dX8_row_110 rfl ?_
        refine gf_X8_169 X dX8_row_111 (xck_row (i := w) (by omega)) ?_
        refine x_goto (tgt := 118) X dX8_row_114 (by decide) ?_
        exact x_lret X dX8_row_118 (xp_l (by first | rfl | simp [*]) (by first | rfl | simp [*]))
    · skip
      rw [xb_ge (x := 11) (y := nI V) (a := 11) (b := V) rfl rfl (by omega) (by omega)] at h29
      omega

set_option maxHeartbeats 4000000 in
set_option maxRecDepth 100000 in
theorem c_X8_row12 {l : Launch} {G : xG} {σ : xS} {c : Nat} (hm : xMod c) (hC : xgC σ = c) {V : Nat} (hV : xgI σ c 0 = nI V) (hV8 : V ≤ 8) {nr w : Nat} (hr : nr ≤ 200) (hrc : xgI σ 8 3 = nI nr) (hw : w < nr) : xFl l G yX8_row cX8_row 4 (Option.some Jvm.ClassFile.FieldType.long) 3 67 [.ref (G.2.1 0), .int (nI w), .int 12] σ ((xgI σ (61 + w) 5).toInt64) (σ) := by
  refine xM.of (by decide) (Nat.le_of_ble_eq_true rfl) (fun pp ee ss mm aa bel met kk X => ?_)
  have X : xC pp ss mm met kk cX8_row 4 RX8 (Option.some Jvm.ClassFile.FieldType.long) G := X
  show xW pp l ee { frames := 3, cells := 0, slots := 0, locals := 67 } ss mm aa bel met kk 4 G 0 0 (xQ bel G (fun rv_ tv_ => rv_ = some (.long ((xgI σ (61 + w) 5).toInt64)) ∧ tv_ = (σ)) aa ss) 0 [(0, .ref (G.2.1 0)), (1, .int (nI w)), (2, .int 12)] [] σ
  refine x_aload_n X dX8_row_0 rfl ?_
  refine x_iload_n X dX8_row_1 rfl ?_
  refine cv_X8_141 X (c_X8_demandRow hr hrc hw) dX8_row_2 rfl ⟨by decide, by decide, by decide, by decide⟩ rfl rfl (Nat.le_of_ble_eq_true rfl) (xk_v ?_)
  refine x_aload_n X dX8_row_5 rfl ?_
  refine gf_X8_26 (k' := 6) X dX8_row_6 rfl rfl ?_
  refine gf_X8_126 (k' := 8) X dX8_row_9 rfl rfl ?_
  refine x_iload_n X dX8_row_12 rfl ?_
  refine cv_X8_144 X (c_X6_at hr hrc hw) dX8_row_13 rfl ⟨by decide, by decide, by decide, by decide⟩ rfl rfl (Nat.le_of_ble_eq_true rfl) (xk_r ?_)
  refine x_astore_n (lv' := [(3, .ref (G.2.1 (61 + w))), (0, .ref (G.2.1 0)), (1, .int (nI w)), (2, .int 12)]) X dX8_row_16 rfl (by decide) rfl ?_
  refine x_iload_n X dX8_row_17 rfl ?_
  refine x_iflt (tgt := 38) X dX8_row_18 (by decide) (fun h18 => ?_) (fun h18 => ?_)
  · skip
    exact absurd h18 (by decide)
  · skip
    refine x_iload_n X dX8_row_21 rfl ?_
    refine x_aload_n X dX8_row_22 rfl ?_
    refine gf_X8_33 (k' := c) X dX8_row_23 rfl hC ?_
    refine gf_X8_74 X dX8_row_26 (xk0 hm) ?_
    rw [hV]
    refine x_icmpge (tgt := 38) X dX8_row_29 (by decide) (fun h29 => ?_) (fun h29 => ?_)
    · skip
      rw [xb_ge (x := 12) (y := nI V) (a := 12) (b := V) rfl rfl (by omega) (by omega)] at h29
      refine x_iload_n X dX8_row_38 rfl ?_
      refine x_tableIn (off := 80) (tgt := 119) X dX8_row_39 (by decide) (by decide) rfl (by decide) ?_
      refine x_aload_n X dX8_row_119 rfl ?_
      refine gf_X8_172 X dX8_row_120 (xck_row (i := w) (by omega)) ?_
      refine x_i2l X dX8_row_123 ?_
      exact x_lret X dX8_row_124 (xp_l (by first | rfl | simp [*]) (by first | rfl | simp [*]))
    · skip
      rw [xb_ge (x := 12) (y := nI V) (a := 12) (b := V) rfl rfl (by omega) (by omega)] at h29
      omega

set_option maxHeartbeats 4000000 in
set_option maxRecDepth 100000 in
theorem c_X8_row13 {l : Launch} {G : xG} {σ : xS} {c : Nat} (hm : xMod c) (hC : xgC σ = c) {V : Nat} (hV : xgI σ c 0 = nI V) (hV8 : V ≤ 8) {nr w : Nat} (hr : nr ≤ 200) (hrc : xgI σ 8 3 = nI nr) (hw : w < nr) {kd sa ln : Nat → Nat} (hra : rowsAt σ nr kd sa ln) : xFl l G yX8_row cX8_row 4 (Option.some Jvm.ClassFile.FieldType.long) 3 67 [.ref (G.2.1 0), .int (nI w), .int 13] σ ((nI (sNd nr kd sa ln 200 (0, sN0 σ w 200)).1).toInt64) ((sNd nr kd sa ln 200 (0, sN0 σ w 200)).2) := by
  refine xM.of (by decide) (Nat.le_of_ble_eq_true rfl) (fun pp ee ss mm aa bel met kk X => ?_)
  have X : xC pp ss mm met kk cX8_row 4 RX8 (Option.some Jvm.ClassFile.FieldType.long) G := X
  show xW pp l ee { frames := 3, cells := 0, slots := 0, locals := 67 } ss mm aa bel met kk 4 G 0 0 (xQ bel G (fun rv_ tv_ => rv_ = some (.long ((nI (sNd nr kd sa ln 200 (0, sN0 σ w 200)).1).toInt64)) ∧ tv_ = ((sNd nr kd sa ln 200 (0, sN0 σ w 200)).2)) aa ss) 0 [(0, .ref (G.2.1 0)), (1, .int (nI w)), (2, .int 13)] [] σ
  refine x_aload_n X dX8_row_0 rfl ?_
  refine x_iload_n X dX8_row_1 rfl ?_
  refine cv_X8_141 X (c_X8_demandRow hr hrc hw) dX8_row_2 rfl ⟨by decide, by decide, by decide, by decide⟩ rfl rfl (Nat.le_of_ble_eq_true rfl) (xk_v ?_)
  refine x_aload_n X dX8_row_5 rfl ?_
  refine gf_X8_26 (k' := 6) X dX8_row_6 rfl rfl ?_
  refine gf_X8_126 (k' := 8) X dX8_row_9 rfl rfl ?_
  refine x_iload_n X dX8_row_12 rfl ?_
  refine cv_X8_144 X (c_X6_at hr hrc hw) dX8_row_13 rfl ⟨by decide, by decide, by decide, by decide⟩ rfl rfl (Nat.le_of_ble_eq_true rfl) (xk_r ?_)
  refine x_astore_n (lv' := [(3, .ref (G.2.1 (61 + w))), (0, .ref (G.2.1 0)), (1, .int (nI w)), (2, .int 13)]) X dX8_row_16 rfl (by decide) rfl ?_
  refine x_iload_n X dX8_row_17 rfl ?_
  refine x_iflt (tgt := 38) X dX8_row_18 (by decide) (fun h18 => ?_) (fun h18 => ?_)
  · skip
    exact absurd h18 (by decide)
  · skip
    refine x_iload_n X dX8_row_21 rfl ?_
    refine x_aload_n X dX8_row_22 rfl ?_
    refine gf_X8_33 (k' := c) X dX8_row_23 rfl hC ?_
    refine gf_X8_74 X dX8_row_26 (xk0 hm) ?_
    rw [hV]
    refine x_icmpge (tgt := 38) X dX8_row_29 (by decide) (fun h29 => ?_) (fun h29 => ?_)
    · skip
      rw [xb_ge (x := 13) (y := nI V) (a := 13) (b := V) rfl rfl (by omega) (by omega)] at h29
      refine x_iload_n X dX8_row_38 rfl ?_
      refine x_tableIn (off := 86) (tgt := 125) X dX8_row_39 (by decide) (by decide) rfl (by decide) ?_
      refine x_aload_n X dX8_row_125 rfl ?_
      refine gf_X8_26 (k' := 6) X dX8_row_126 rfl rfl ?_
      refine x_iload_n X dX8_row_129 rfl ?_
      refine cv_X8_175 X (c_X0_markNeeded hr hrc hra hw) dX8_row_130 rfl ⟨by decide, by decide, by decide, by decide⟩ rfl rfl (Nat.le_of_ble_eq_true rfl) (xk_i ?_)
      refine x_i2l X dX8_row_133 ?_
      exact x_lret X dX8_row_134 (xp_l (by first | rfl | simp [*]) (by first | rfl | simp [*]))
    · skip
      rw [xb_ge (x := 13) (y := nI V) (a := 13) (b := V) rfl rfl (by omega) (by omega)] at h29
      omega

set_option maxHeartbeats 4000000 in
set_option maxRecDepth 100000 in
theorem c_X8_assumes {l : Launch} {G : xG} {σ : xS} {i : Int32} {nr w : Nat} (hr : nr ≤ 200) (hrc : xgI σ 8 3 = nI nr) (hw : w < nr) {nb : Nat} (hb : nb ≤ 60) (hd : xgI σ 8 4 = nI nb) : xFi l G yX8_assumes cX8_assumes 3 (Option.some Jvm.ClassFile.FieldType.int) 3 68 [.ref (G.2.1 0), .int (nI w), .int i] σ (kAss (xgL σ (61 + w) 2) (xgI σ 10) i nb 0 0) (σ) := by
  refine xM.of (by decide) (Nat.le_of_ble_eq_true rfl) (fun pp ee ss mm aa bel met kk X => ?_)
  have X : xC pp ss mm met kk cX8_assumes 3 RX8 (Option.some Jvm.ClassFile.FieldType.int) G := X
  show xW pp l ee { frames := 3, cells := 0, slots := 0, locals := 68 } ss mm aa bel met kk 3 G 0 0 (xQ bel G (fun rv_ tv_ => rv_ = some (.int (kAss (xgL σ (61 + w) 2) (xgI σ 10) i nb 0 0)) ∧ tv_ = (σ)) aa ss) 0 [(0, .ref (G.2.1 0)), (1, .int (nI w)), (2, .int i)] [] σ
  refine x_aload_n X dX8_assumes_0 rfl ?_
  refine x_iload_n X dX8_assumes_1 rfl ?_
  refine cv_X8_141 X (c_X8_demandRow hr hrc hw) dX8_assumes_2 rfl ⟨by decide, by decide, by decide, by decide⟩ rfl rfl (Nat.le_of_ble_eq_true rfl) (xk_v ?_)
  refine x_aload_n X dX8_assumes_5 rfl ?_
  refine gf_X8_26 (k' := 6) X dX8_assumes_6 rfl rfl ?_
  refine gf_X8_126 (k' := 8) X dX8_assumes_9 rfl rfl ?_
  refine x_iload_n X dX8_assumes_12 rfl ?_
  refine x_iload_n X dX8_assumes_13 rfl ?_
  refine cv_X8_180 X (c_X6_assumption hr hrc hb hd hw) dX8_assumes_14 rfl ⟨by decide, by decide, by decide, by decide⟩ rfl rfl (Nat.le_of_ble_eq_true rfl) (xk_i ?_)
  exact x_iret X dX8_assumes_17 (xp_i (by first | rfl | simp [*]) (by first | rfl | simp [*]))

set_option maxHeartbeats 4000000 in
set_option maxRecDepth 100000 in
theorem c_X8_holds {l : Launch} {G : xG} {σ : xS} {c : Nat} (hm : xMod c) (hC : xgC σ = c) {nr w : Nat} (hr : nr ≤ 200) (hrc : xgI σ 8 3 = nI nr) (hw : w < nr) {nb : Nat} (hb : nb ≤ 60) (hd : xgI σ 8 4 = nI nb) {np j : Nat} {bj : Nat → Nat} (hp : np ≤ 8) (hc : xgI σ 3 2 = nI np) (hj : j < np) (hbj : ∀ b, b < nb → xgI σ 10 b = nI (bj b) ∧ bj b < nr) : xFi l G yX8_holds cX8_holds 5 (Option.some Jvm.ClassFile.FieldType.int) 3 68 [.ref (G.2.1 0), .int (nI w), .int (nI j)] σ (pHolds σ w j c nb bj) (σ) := by
  refine xM.of (by decide) (Nat.le_of_ble_eq_true rfl) (fun pp ee ss mm aa bel met kk X => ?_)
  have X : xC pp ss mm met kk cX8_holds 5 RX8 (Option.some Jvm.ClassFile.FieldType.int) G := X
  show xW pp l ee { frames := 3, cells := 0, slots := 0, locals := 68 } ss mm aa bel met kk 5 G 0 0 (xQ bel G (fun rv_ tv_ => rv_ = some (.int (pHolds σ w j c nb bj)) ∧ tv_ = (σ)) aa ss) 0 [(0, .ref (G.2.1 0)), (1, .int (nI w)), (2, .int (nI j))] [] σ
  refine x_aload_n X dX8_holds_0 rfl ?_
  refine x_iload_n X dX8_holds_1 rfl ?_
  refine cv_X8_141 X (c_X8_demandRow hr hrc hw) dX8_holds_2 rfl ⟨by decide, by decide, by decide, by decide⟩ rfl rfl (Nat.le_of_ble_eq_true rfl) (xk_v ?_)
  refine x_aload_n X dX8_holds_5 rfl ?_
  refine gf_X8_19 (k' := 3) X dX8_holds_6 rfl rfl ?_
  refine x_iload_n X dX8_holds_9 rfl ?_
  refine cv_X8_84 X (c_X4_has hp hc) dX8_holds_10 rfl ⟨by decide, by decide, by decide, by decide⟩ rfl rfl (Nat.le_of_ble_eq_true rfl) (xk_i ?_)
  refine x_ifne (tgt := 26) X dX8_holds_13 (by decide) (fun h13 => ?_) (fun h13 => ?_)
  · skip
    refine x_aload_n X dX8_holds_26 rfl ?_
    refine gf_X8_26 (k' := 6) X dX8_holds_27 rfl rfl ?_
    refine gf_X8_126 (k' := 8) X dX8_holds_30 rfl rfl ?_
    refine x_iload_n X dX8_holds_33 rfl ?_
    refine cv_X8_144 X (c_X6_at hr hrc hw) dX8_holds_34 rfl ⟨by decide, by decide, by decide, by decide⟩ rfl rfl (Nat.le_of_ble_eq_true rfl) (xk_r ?_)
    refine x_astore_n (lv' := [(3, .ref (G.2.1 (61 + w))), (0, .ref (G.2.1 0)), (1, .int (nI w)), (2, .int (nI j))]) X dX8_holds_37 rfl (by decide) rfl ?_
    refine x_aload_n X dX8_holds_38 rfl ?_
    refine gf_X8_19 (k' := 3) X dX8_holds_39 rfl rfl ?_
    refine x_iload_n X dX8_holds_42 rfl ?_
    refine cv_X8_87 X (c_X4_at hp hc hj) dX8_holds_43 rfl ⟨by decide, by decide, by decide, by decide⟩ rfl rfl (Nat.le_of_ble_eq_true rfl) (xk_r ?_)
    refine x_astore (lv' := [(4, .ref (G.2.1 (463 + j))), (3, .ref (G.2.1 (61 + w))), (0, .ref (G.2.1 0)), (1, .int (nI w)), (2, .int (nI j))]) X dX8_holds_46 (by decide) rfl ?_
    refine x_aload_n X dX8_holds_48 rfl ?_
    refine gf_X8_26 (k' := 6) X dX8_holds_49 rfl rfl ?_
    refine gf_X8_126 (k' := 8) X dX8_holds_52 rfl rfl ?_
    refine x_aload_n X dX8_holds_55 rfl ?_
    refine x_aload X dX8_holds_56 rfl ?_
    refine cv_X8_184 X (c_X6_keepsAssumptions hr hrc hb hd (by omega) (xck_pln (i := j) (by omega)) hbj) dX8_holds_58 rfl ⟨by decide, by decide, by decide, by decide⟩ rfl rfl (Nat.le_of_ble_eq_true rfl) (xk_i ?_)
    refine x_ifne (tgt := 66) X dX8_holds_61 (by decide) (fun h61 => ?_) (fun h61 => ?_)
    · skip
      have h61b := Classical.not_not.mp (fun z => h61 (xB_f z))
      refine x_aload_n X dX8_holds_66 rfl ?_
      refine gf_X8_166 X dX8_holds_67 (xck_row (i := w) (by omega)) ?_
      refine x_ifeq (tgt := 92) X dX8_holds_70 (by decide) (fun h70 => ?_) (fun h70 => ?_)
      · skip
        refine x_aload_n X dX8_holds_92 rfl ?_
        refine x_aload X dX8_holds_93 rfl ?_
        refine cv_X8_188 X (c_X5_isKeptBy (by omega) (xck_pln (i := j) (by omega))) dX8_holds_95 (xck_row (i := w) (by omega)) ⟨by decide, by decide, by decide, by decide⟩ rfl rfl (Nat.le_of_ble_eq_true rfl) (xk_i ?_)
        refine x_ifeq (tgt := 105) X dX8_holds_98 (by decide) (fun h98 => ?_) (fun h98 => ?_)
        · skip
          have h98b : xB (rKept σ w (463 + j)) = 0 := h98
          refine x_iconst (v := 0) X dX8_holds_105 (by decide) ?_
          exact x_iret X dX8_holds_106 (xp_i (by unfold pHolds; first | (rw [if_neg h61b]; done) | (rw [if_pos h61b, if_pos h70, h98b]; done) | (rw [if_pos h61b, if_neg h70, if_pos h87, h98b]; done) | (rw [if_pos h61b, if_neg h70, if_neg h87]; done)) (by first | rfl | simp [*]))
        · skip
          have h98b : xB (rKept σ w (463 + j)) = 1 := by rcases xB_01 (rKept σ w (463 + j)) with z | z; exact absurd z h98; exact z
          refine x_iconst (v := 1) X dX8_holds_101 (by decide) ?_
          refine x_goto (tgt := 106) X dX8_holds_102 (by decide) ?_
          exact x_iret X dX8_holds_106 (xp_i (by unfold pHolds; first | (rw [if_neg h61b]; done) | (rw [if_pos h61b, if_pos h70, h98b]; done) | (rw [if_pos h61b, if_neg h70, if_pos h87, h98b]; done) | (rw [if_pos h61b, if_neg h70, if_neg h87]; done)) (by first | rfl | simp [*]))
      · skip
        refine x_aload_n X dX8_holds_73 rfl ?_
        refine gf_X8_33 (k' := c) X dX8_holds_74 rfl hC ?_
        refine x_aload X dX8_holds_77 rfl ?_
        refine cv_X8_102 X (c_X2_costOf hm (xck_pln (i := j) (by omega))) dX8_holds_79 (xk0 hm) ⟨by decide, by decide, by decide, by decide⟩ rfl rfl (Nat.le_of_ble_eq_true rfl) (xk_l ?_)
        refine x_aload_n X dX8_holds_82 rfl ?_
        refine gf_X8_169 X dX8_holds_83 (xck_row (i := w) (by omega)) ?_
        refine x_lcmp X dX8_holds_86 ?_
        refine x_iflt (tgt := 92) X dX8_holds_87 (by decide) (fun h87 => ?_) (fun h87 => ?_)
        · skip
          rw [lg_cmp_lt] at h87
          refine x_aload_n X dX8_holds_92 rfl ?_
          refine x_aload X dX8_holds_93 rfl ?_
          refine cv_X8_188 X (c_X5_isKeptBy (by omega) (xck_pln (i := j) (by omega))) dX8_holds_95 (xck_row (i := w) (by omega)) ⟨by decide, by decide, by decide, by decide⟩ rfl rfl (Nat.le_of_ble_eq_true rfl) (xk_i ?_)
          refine x_ifeq (tgt := 105) X dX8_holds_98 (by decide) (fun h98 => ?_) (fun h98 => ?_)
          · skip
            have h98b : xB (rKept σ w (463 + j)) = 0 := h98
            refine x_iconst (v := 0) X dX8_holds_105 (by decide) ?_
            exact x_iret X dX8_holds_106 (xp_i (by unfold pHolds; first | (rw [if_neg h61b]; done) | (rw [if_pos h61b, if_pos h70, h98b]; done) | (rw [if_pos h61b, if_neg h70, if_pos h87, h98b]; done) | (rw [if_pos h61b, if_neg h70, if_neg h87]; done)) (by first | rfl | simp [*]))
          · skip
            have h98b : xB (rKept σ w (463 + j)) = 1 := by rcases xB_01 (rKept σ w (463 + j)) with z | z; exact absurd z h98; exact z
            refine x_iconst (v := 1) X dX8_holds_101 (by decide) ?_
            refine x_goto (tgt := 106) X dX8_holds_102 (by decide) ?_
            exact x_iret X dX8_holds_106 (xp_i (by unfold pHolds; first | (rw [if_neg h61b]; done) | (rw [if_pos h61b, if_pos h70, h98b]; done) | (rw [if_pos h61b, if_neg h70, if_pos h87, h98b]; done) | (rw [if_pos h61b, if_neg h70, if_neg h87]; done)) (by first | rfl | simp [*]))
        · skip
          rw [lg_cmp_lt] at h87
          refine x_iconst (v := 2) X dX8_holds_90 (by decide) ?_
          exact x_iret X dX8_holds_91 (xp_i (by unfold pHolds; first | (rw [if_neg h61b]; done) | (rw [if_pos h61b, if_pos h70, h98b]; done) | (rw [if_pos h61b, if_neg h70, if_pos h87, h98b]; done) | (rw [if_pos h61b, if_neg h70, if_neg h87]; done)) (by first | rfl | simp [*]))
    · skip
      have h61b := xB_0.mp h61
      refine x_iconst (v := 2) X dX8_holds_64 (by decide) ?_
      exact x_iret X dX8_holds_65 (xp_i (by unfold pHolds; first | (rw [if_neg h61b]; done) | (rw [if_pos h61b, if_pos h70, h98b]; done) | (rw [if_pos h61b, if_neg h70, if_pos h87, h98b]; done) | (rw [if_pos h61b, if_neg h70, if_neg h87]; done)) (by first | rfl | simp [*]))
  · skip
    exact absurd ⟨j, hj, rfl⟩ (xB_0.mp h13)

set_option maxHeartbeats 4000000 in
set_option maxRecDepth 100000 in
theorem c_X8_best {l : Launch} {G : xG} {σ : xS} {nr w : Nat} (hr : nr ≤ 200) (hrc : xgI σ 8 3 = nI nr) (hw : w < nr) (h1 : kPrf σ 0 nr 0 = -1) (h2 : kPrf σ 1 nr 0 = nI w) : xFl l G yX8_best cX8_best 2 (Option.some Jvm.ClassFile.FieldType.long) 3 64 [.ref (G.2.1 0)] σ (xgL σ (61 + w) 4) (σ) := by
  refine xM.of (by decide) (Nat.le_of_ble_eq_true rfl) (fun pp ee ss mm aa bel met kk X => ?_)
  have X : xC pp ss mm met kk cX8_best 2 RX8 (Option.some Jvm.ClassFile.FieldType.long) G := X
  show xW pp l ee { frames := 3, cells := 0, slots := 0, locals := 64 } ss mm aa bel met kk 2 G 0 0 (xQ bel G (fun rv_ tv_ => rv_ = some (.long (xgL σ (61 + w) 4)) ∧ tv_ = (σ)) aa ss) 0 [(0, .ref (G.2.1 0))] [] σ
  refine x_aload_n X dX8_best_0 rfl ?_
  refine gf_X8_26 (k' := 6) X dX8_best_1 rfl rfl ?_
  refine gf_X8_126 (k' := 8) X dX8_best_4 rfl rfl ?_
  refine x_iconst (v := 0) X dX8_best_7 (by decide) ?_
  refine cv_X8_192 X (c_X6_firstProof hr hrc) dX8_best_8 rfl ⟨by decide, by decide, by decide, by decide⟩ rfl rfl (Nat.le_of_ble_eq_true rfl) (xk_i ?_)
  refine x_iconst (v := (-1)) X dX8_best_11 (by decide) ?_
  refine x_icmpeq (tgt := 25) X dX8_best_12 (by decide) (fun h12 => ?_) (fun h12 => ?_)
  · skip
    refine x_aload_n X dX8_best_25 rfl ?_
    refine gf_X8_26 (k' := 6) X dX8_best_26 rfl rfl ?_
    refine gf_X8_126 (k' := 8) X dX8_best_29 rfl rfl ?_
    refine x_iconst (v := 1) X dX8_best_32 (by decide) ?_
    refine cv_X8_192 X (c_X6_firstProof hr hrc) dX8_best_33 rfl ⟨by decide, by decide, by decide, by decide⟩ rfl rfl (Nat.le_of_ble_eq_true rfl) (xk_i ?_)
    rw [h2]
    refine x_istore_n (lv' := [(1, .int (nI w)), (0, .ref (G.2.1 0))]) X dX8_best_36 rfl (by decide) rfl ?_
    refine x_iload_n X dX8_best_37 rfl ?_
    refine x_iconst (v := (-1)) X dX8_best_38 (by decide) ?_
    refine x_icmpne (tgt := 52) X dX8_best_39 (by decide) (fun h39 => ?_) (fun h39 => ?_)
    · skip
      refine x_aload_n X dX8_best_52 rfl ?_
      refine gf_X8_26 (k' := 6) X dX8_best_53 rfl rfl ?_
      refine gf_X8_126 (k' := 8) X dX8_best_56 rfl rfl ?_
      refine x_iload_n X dX8_best_59 rfl ?_
      refine cv_X8_144 X (c_X6_at hr hrc hw) dX8_best_60 rfl ⟨by decide, by decide, by decide, by decide⟩ rfl rfl (Nat.le_of_ble_eq_true rfl) (xk_r ?_)
      refine gf_X8_169 X dX8_best_63 (xck_row (i := w) (by omega)) ?_
      exact x_lret X dX8_best_66 (xp_l (by first | rfl | simp [*]) (by first | rfl | simp [*]))
    · skip
      exact absurd (h39 ▸ nI_pos' (n := w) (by omega)) (by decide)
  · skip
    exact absurd h1 h12

set_option maxHeartbeats 4000000 in
set_option maxRecDepth 100000 in
theorem c_X8_least {l : Launch} {G : xG} {σ : xS} {c : Nat} (hm : xMod c) (hC : xgC σ = c) {nr : Nat} (hr : nr ≤ 200) (hrc : xgI σ 8 3 = nI nr) (hg : ¬ kGb σ (c + 3) nr = -1000000000001) : xFl l G yX8_least cX8_least 3 (Option.some Jvm.ClassFile.FieldType.long) 4 93 [.ref (G.2.1 0)] σ (kGb σ (c + 3) nr) (σ) := by
  refine xM.of (by decide) (Nat.le_of_ble_eq_true rfl) (fun pp ee ss mm aa bel met kk X => ?_)
  have X : xC pp ss mm met kk cX8_least 3 RX8 (Option.some Jvm.ClassFile.FieldType.long) G := X
  show xW pp l ee { frames := 4, cells := 0, slots := 0, locals := 93 } ss mm aa bel met kk 3 G 0 0 (xQ bel G (fun rv_ tv_ => rv_ = some (.long (kGb σ (c + 3) nr)) ∧ tv_ = (σ)) aa ss) 0 [(0, .ref (G.2.1 0))] [] σ
  refine x_aload_n X dX8_least_0 rfl ?_
  refine gf_X8_26 (k' := 6) X dX8_least_1 rfl rfl ?_
  refine gf_X8_126 (k' := 8) X dX8_least_4 rfl rfl ?_
  refine x_aload_n X dX8_least_7 rfl ?_
  refine gf_X8_33 (k' := c) X dX8_least_8 rfl hC ?_
  refine gf_X8_203 (k' := c + 3) X dX8_least_11 (xk0 hm) (xm6 hm) ?_
  refine cv_X8_207 X (c_X6_greatestBound hr hrc (xk3 hm)) dX8_least_14 rfl ⟨by decide, by decide, by decide, by decide⟩ rfl rfl (Nat.le_of_ble_eq_true rfl) (xk_l ?_)
  refine x_topl (fun bo hbo => ?_)
  refine x_lstore_n (lv' := [(1, .long bo), (0, .ref (G.2.1 0))]) X dX8_least_17 rfl (by decide) rfl ?_
  refine x_lload_n X dX8_least_18 rfl ?_
  refine x_ldc2 X dX8_least_19 wk_X8_210 ?_
  refine x_lcmp X dX8_least_22 ?_
  refine x_ifne (tgt := 36) X dX8_least_23 (by decide) (fun h23 => ?_) (fun h23 => ?_)
  · skip
    rw [lg_cmp_eq] at h23
    refine x_lload_n X dX8_least_36 rfl ?_
    exact x_lret X dX8_least_37 (xp_l (by exact hbo) (by first | rfl | simp [*]))
  · skip
    rw [lg_cmp_eq] at h23
    exact absurd (hbo ▸ h23) hg

set_option maxHeartbeats 4000000 in
set_option maxRecDepth 100000 in
theorem c_X8_number {l : Launch} {G : xG} {σ : xS} {j z : Nat} (hj : j < z) (hz : xgI σ 6 1 = nI z) (hz2 : z ≤ 1500) : xFi l G yX8_number cX8_number 2 (Option.some Jvm.ClassFile.FieldType.int) 1 21 [.ref (G.2.1 0), .int (nI j)] σ (xgI σ 7 j) (σ) := by
  refine xM.of (by decide) (Nat.le_of_ble_eq_true rfl) (fun pp ee ss mm aa bel met kk X => ?_)
  have X : xC pp ss mm met kk cX8_number 2 RX8 (Option.some Jvm.ClassFile.FieldType.int) G := X
  show xW pp l ee { frames := 1, cells := 0, slots := 0, locals := 21 } ss mm aa bel met kk 2 G 0 0 (xQ bel G (fun rv_ tv_ => rv_ = some (.int (xgI σ 7 j)) ∧ tv_ = (σ)) aa ss) 0 [(0, .ref (G.2.1 0)), (1, .int (nI j))] [] σ
  refine x_iload_n X dX8_number_0 rfl ?_
  refine x_iflt (tgt := 15) X dX8_number_1 (by decide) (fun h1 => ?_) (fun h1 => ?_)
  · skip
    rw [xb_lt (x := nI j) (y := 0) (a := j) (b := 0) rfl rfl (by omega) (by omega)] at h1
    omega
  · skip
    rw [xb_lt (x := nI j) (y := 0) (a := j) (b := 0) rfl rfl (by omega) (by omega)] at h1
    refine x_iload_n X dX8_number_4 rfl ?_
    refine x_aload_n X dX8_number_5 rfl ?_
    refine gf_X8_26 (k' := 6) X dX8_number_6 rfl rfl ?_
    refine gf_X8_109 X dX8_number_9 rfl ?_
    rw [hz]
    refine x_icmplt (tgt := 25) X dX8_number_12 (by decide) (fun h12 => ?_) (fun h12 => ?_)
    · skip
      rw [xb_lt (x := nI j) (y := nI z) (a := j) (b := z) rfl rfl (by omega) (by omega)] at h12
      refine x_aload_n X dX8_number_25 rfl ?_
      refine gf_X8_26 (k' := 6) X dX8_number_26 rfl rfl ?_
      refine x_iload_n X dX8_number_29 rfl ?_
      refine cv_X8_217 X (c_X0_numberAt (by omega)) dX8_number_30 rfl ⟨by decide, by decide, by decide, by decide⟩ rfl rfl (Nat.le_of_ble_eq_true rfl) (xk_i ?_)
      exact x_iret X dX8_number_33 (xp_i (by first | rfl | simp [*]) (by first | rfl | simp [*]))
    · skip
      rw [xb_lt (x := nI j) (y := nI z) (a := j) (b := z) rfl rfl (by omega) (by omega)] at h12
      omega

set_option maxHeartbeats 4000000 in
set_option maxRecDepth 100000 in
theorem c_X8_readN {l : Launch} {G : xG} {σ : xS} (hg : xgI σ 6 2 = 0) : xFi l G yX8_read cX8_read 2 (Option.some Jvm.ClassFile.FieldType.int) 6 154 [.ref (G.2.1 0)] σ (-4) (xsI σ 1 1 0) := by
  refine xM.of (by decide) (Nat.le_of_ble_eq_true rfl) (fun pp ee ss mm aa bel met kk X => ?_)
  have X : xC pp ss mm met kk cX8_read 2 RX8 (Option.some Jvm.ClassFile.FieldType.int) G := X
  show xW pp l ee { frames := 6, cells := 0, slots := 0, locals := 154 } ss mm aa bel met kk 2 G 0 0 (xQ bel G (fun rv_ tv_ => rv_ = some (.int (-4)) ∧ tv_ = (xsI σ 1 1 0)) aa ss) 0 [(0, .ref (G.2.1 0))] [] σ
  refine x_aload_n X dX8_read_0 rfl ?_
  refine gf_X8_26 (k' := 6) X dX8_read_1 rfl rfl ?_
  refine gf_X8_113 X dX8_read_4 rfl ?_
  refine x_ifne (tgt := 20) X dX8_read_7 (by decide) (fun h7 => ?_) (fun h7 => ?_)
  · skip
    exact absurd hg h7
  · skip
    refine x_aload_n X dX8_read_10 rfl ?_
    refine gf_X8_12 (k' := 1) X dX8_read_11 rfl rfl ?_
    refine cv_X8_52 X c_X7_clear dX8_read_14 rfl ⟨by decide, by decide, by decide, by decide⟩ rfl rfl (Nat.le_of_ble_eq_true rfl) (xk_v ?_)
    refine x_bipush (v := (-4)) X dX8_read_17 (by decide) ?_
    exact x_iret X dX8_read_19 (xp_i (by first | rfl | simp [*]) (by first | rfl | simp [*]))

set_option maxHeartbeats 4000000 in
set_option maxRecDepth 100000 in
theorem c_X8_read {l : Launch} {G : xG} {σ : xS} {c z : Nat} {I : xS → Prop} {Tk : xS → Int32 → xS → Prop} (hm : xMod c) (hg : ¬ xgI σ 6 2 = 0) (hz : z ≤ 1000) (hs : xgI σ 1 1 = nI z) (hI : I σ) (hIt : ∀ τ, I τ → (∀ b, xgI τ 1 b = xgI σ 1 b) ∧ (∀ b, xgI τ 2 b = xgI σ 2 b) ∧ xgC τ = c) (hTk : ∀ τ x, I τ → xM l G yX0_take cX0_take 6 (Option.none : Option Jvm.ClassFile.FieldType) 5 129 [.ref (G.2.1 6), .int x, .ref (G.2.1 c), .ref (G.2.1 3)] τ (fun r t => r = none ∧ Tk τ x t ∧ I t)) : xM l G yX8_read cX8_read 2 (Option.some Jvm.ClassFile.FieldType.int) 6 154 [.ref (G.2.1 0)] σ (fun r t => ∃ u, xTks Tk (fun u i => tAt u (nI i)) σ z u ∧ I u ∧ r = some (.int (if xgI u 6 3 = 0 then xgI u 8 3 else -10 - xgI u 6 3)) ∧ t = xsI u 1 1 0) := by
  refine xM.of (by decide) (Nat.le_of_ble_eq_true rfl) (fun pp ee ss mm aa bel met kk X => ?_)
  have X : xC pp ss mm met kk cX8_read 2 RX8 (Option.some Jvm.ClassFile.FieldType.int) G := X
  show xW pp l ee { frames := 6, cells := 0, slots := 0, locals := 154 } ss mm aa bel met kk 2 G 0 0 (xQ bel G (fun r t => ∃ u, xTks Tk (fun u i => tAt u (nI i)) σ z u ∧ I u ∧ r = some (.int (if xgI u 6 3 = 0 then xgI u 8 3 else -10 - xgI u 6 3)) ∧ t = xsI u 1 1 0) aa ss) 0 [(0, .ref (G.2.1 0))] [] σ
  refine x_aload_n X dX8_read_0 rfl ?_
  refine gf_X8_26 (k' := 6) X dX8_read_1 rfl rfl ?_
  refine gf_X8_113 X dX8_read_4 rfl ?_
  refine x_ifne (tgt := 20) X dX8_read_7 (by decide) (fun h7 => ?_) (fun h7 => ?_)
  · skip
    refine x_iconst (v := 0) X dX8_read_20 (by decide) ?_
    refine x_istore_n (lv' := [(1, .int 0), (0, .ref (G.2.1 0))]) X dX8_read_21 rfl (by decide) rfl ?_
    have lp22 : ∀ (NN22 : Nat) (n : Nat) (hn : n ≤ z) (τ : xS) (hi : I τ) (ht : xTks Tk (fun u i => tAt u (nI i)) σ n τ), z - n = NN22 → xW pp l ee { frames := 6, cells := 0, slots := 0, locals := 154 } ss mm aa bel met kk 2 G 0 0 (xQ bel G (fun r t => ∃ u, xTks Tk (fun u i => tAt u (nI i)) σ z u ∧ I u ∧ r = some (.int (if xgI u 6 3 = 0 then xgI u 8 3 else -10 - xgI u 6 3)) ∧ t = xsI u 1 1 0) aa ss) 22 [(1, .int (nI n)), (0, .ref (G.2.1 0))] [] (τ) := by
      intro NN22
      induction NN22 using Nat.strongRecOn with
      | ind NN22 ih22 =>
        intro n hn τ hi ht hNN22
        refine x_iload_n X dX8_read_22 rfl ?_
        refine x_aload_n X dX8_read_23 rfl ?_
        refine gf_X8_12 (k' := 1) X dX8_read_24 rfl rfl ?_
        refine gf_X8_48 X dX8_read_27 rfl ?_
        rw [(hIt τ hi).1 1, hs]
        refine x_icmpge (tgt := 62) X dX8_read_30 (by decide) (fun h30 => ?_) (fun h30 => ?_)
        · skip
          rw [xb_ge (x := nI n) (y := nI z) (a := n) (b := z) rfl rfl (by omega) (by omega)] at h30
          obtain rfl : n = z := by omega
          refine x_aload_n X dX8_read_62 rfl ?_
          refine gf_X8_12 (k' := 1) X dX8_read_63 rfl rfl ?_
          refine cv_X8_52 X c_X7_clear dX8_read_66 rfl ⟨by decide, by decide, by decide, by decide⟩ rfl rfl (Nat.le_of_ble_eq_true rfl) (xk_v ?_)
          refine x_aload_n X dX8_read_69 rfl ?_
          refine gf_X8_26 (k' := 6) X dX8_read_70 rfl rfl ?_
          refine gf_X8_123 X dX8_read_73 rfl ?_
          rw [xgI_n (by omega)]
          refine x_ifeq (tgt := 90) X dX8_read_76 (by decide) (fun h76 => ?_) (fun h76 => ?_)
          · skip
            refine x_aload_n X dX8_read_90 rfl ?_
            refine gf_X8_26 (k' := 6) X dX8_read_91 rfl rfl ?_
            refine gf_X8_126 (k' := 8) X dX8_read_94 rfl rfl ?_
            refine gf_X8_130 X dX8_read_97 rfl ?_
            rw [xgI_n (by omega)]
            exact x_iret X dX8_read_100 (⟨τ, ht, hi, by rw [if_pos h76], rfl⟩)
          · skip
            refine x_bipush (v := (-10)) X dX8_read_79 (by decide) ?_
            refine x_aload_n X dX8_read_81 rfl ?_
            refine gf_X8_26 (k' := 6) X dX8_read_82 rfl rfl ?_
            refine gf_X8_123 X dX8_read_85 rfl ?_
            rw [xgI_n (by omega)]
            refine x_isub X dX8_read_88 ?_
            exact x_iret X dX8_read_89 (⟨τ, ht, hi, by rw [if_neg h76], rfl⟩)
        · skip
          rw [xb_ge (x := nI n) (y := nI z) (a := n) (b := z) rfl rfl (by omega) (by omega)] at h30
          refine x_aload_n X dX8_read_33 rfl ?_
          refine gf_X8_26 (k' := 6) X dX8_read_34 rfl rfl ?_
          refine x_aload_n X dX8_read_37 rfl ?_
          refine gf_X8_12 (k' := 1) X dX8_read_38 rfl rfl ?_
          refine x_iload_n X dX8_read_41 rfl ?_
          refine cv_X8_116 X c_X7_at dX8_read_42 rfl ⟨by decide, by decide, by decide, by decide⟩ rfl rfl (Nat.le_of_ble_eq_true rfl) (xk_i ?_)
          refine x_aload_n X dX8_read_45 rfl ?_
          refine gf_X8_33 (k' := c) X dX8_read_46 rfl (hIt τ hi).2.2 ?_
          refine x_aload_n X dX8_read_49 rfl ?_
          refine gf_X8_19 (k' := 3) X dX8_read_50 rfl rfl ?_
          refine cv_X8_119 X (hTk τ _ hi) dX8_read_53 rfl ⟨by decide, by decide, by decide, by decide⟩ rfl rfl (Nat.le_of_ble_eq_true rfl) (fun r0 u hpo => ?_)
          obtain ⟨rfl, hpo1, hpo2⟩ := hpo
          refine x_iinc (k := 0) (v := nI (n + 1)) (lv' := [(1, .int (nI (n + 1))), (0, .ref (G.2.1 0))]) X dX8_read_56 rfl (xn_inc _) (by decide) rfl ?_
          refine x_goto (tgt := 22) X dX8_read_59 (by decide) ?_
          refine x_pick [0, 1] rfl ?_
          exact ih22 _ (by omega) (n + 1) (by omega) u hpo2 ⟨τ, ht, hpo1⟩ rfl
    refine x_pick [0, 1] rfl ?_
    exact lp22 _ 0 (by omega) σ hI rfl rfl
  · skip
    exact absurd h7 hg
