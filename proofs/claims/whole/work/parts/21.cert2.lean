/-! Certificate: taking a number; what a row needs; closing the gaps -/
/-- behind the judging of a number at place z0 -/
def cTk (PJ : Option Value → xS → Prop) (z0 : Nat) : Option Value → xS → Prop := fun r t => r = none ∧ ∃ (x : Int32) (u : xS), PJ (some (.int x)) u ∧ ((x = 0 ∧ t = u) ∨ (¬ x = 0 ∧ t = cFail u x (xgI u 8 3) z0))
noncomputable def sMark (σ : xS) (s0 nr : Nat) (q : Int32) : Nat → xS
  | 0 => σ
  | i + 1 => if i = 0 then sMark σ s0 nr q i else @ite _ (dMean q (nI i) = 6 ∧ xLt (xgI σ 7 (s0 + i)) nr) (Classical.propDecidable _) (xsI (sMark σ s0 nr q i) 13 (xgI σ 7 (s0 + i)).toNatClampNeg 1) (sMark σ s0 nr q i)
theorem sMark_o {σ : xS} {s0 nr : Nat} {q : Int32} {a : Nat} (b : Nat) (h : a ≠ 13) : ∀ n, xgI (sMark σ s0 nr q n) a b = xgI σ a b
  | 0 => rfl
  | n + 1 => by
    rw [sMark]
    split
    · exact sMark_o b h n
    · split
      · rw [xgI_n (fun z => h z.1), sMark_o b h n]
      · exact sMark_o b h n
theorem sMark_L {σ : xS} {s0 nr : Nat} {q : Int32} : ∀ n, (sMark σ s0 nr q n).2 = σ.2
  | 0 => rfl
  | n + 1 => by
    rw [sMark]
    split
    · exact sMark_L n
    · split
      · exact sMark_L n
      · exact sMark_L n
theorem sMark_1 {σ : xS} {s0 nr : Nat} {q : Int32} {n : Nat} (h0 : ¬ n = 0) (h : dMean q (nI n) = 6 ∧ xLt (xgI σ 7 (s0 + n)) nr) : sMark σ s0 nr q (n + 1) = xsI (sMark σ s0 nr q n) 13 (xgI σ 7 (s0 + n)).toNatClampNeg 1 := by rw [sMark, if_neg h0, if_pos h]
theorem sMark_0 {σ : xS} {s0 nr : Nat} {q : Int32} {n : Nat} (h0 : ¬ n = 0) (h : ¬ (dMean q (nI n) = 6 ∧ xLt (xgI σ 7 (s0 + n)) nr)) : sMark σ s0 nr q (n + 1) = sMark σ s0 nr q n := by rw [sMark, if_neg h0, if_neg h]
/-- moving a row's numbers to place t0 on -/
noncomputable def sMove (σ : xS) (s0 t0 nr : Nat) (q : Int32) : Nat → xS
  | 0 => σ
  | i + 1 => xsI (sMove σ s0 t0 nr q i) 7 (t0 + i) (@ite _ (dMean q (nI i) = 6 ∧ xLt (xgI (sMove σ s0 t0 nr q i) 7 (s0 + i)) nr) (Classical.propDecidable _) (xgI σ 14 (xgI (sMove σ s0 t0 nr q i) 7 (s0 + i)).toNatClampNeg) (xgI (sMove σ s0 t0 nr q i) 7 (s0 + i)))
theorem sMove_o {σ : xS} {s0 t0 nr : Nat} {q : Int32} {a : Nat} (b : Nat) (h : a ≠ 7) : ∀ n, xgI (sMove σ s0 t0 nr q n) a b = xgI σ a b
  | 0 => rfl
  | n + 1 => by rw [sMove, xgI_n (fun z => h z.1), sMove_o b h n]
theorem sMove_1 {σ : xS} {s0 t0 nr : Nat} {q : Int32} {n : Nat} (h : dMean q (nI n) = 6 ∧ xLt (xgI (sMove σ s0 t0 nr q n) 7 (s0 + n)) nr) : sMove σ s0 t0 nr q (n + 1) = xsI (sMove σ s0 t0 nr q n) 7 (t0 + n) (xgI σ 14 (xgI (sMove σ s0 t0 nr q n) 7 (s0 + n)).toNatClampNeg) := by rw [sMove, if_pos h]
theorem sMove_0 {σ : xS} {s0 t0 nr : Nat} {q : Int32} {n : Nat} (h : ¬ (dMean q (nI n) = 6 ∧ xLt (xgI (sMove σ s0 t0 nr q n) 7 (s0 + n)) nr)) : sMove σ s0 t0 nr q (n + 1) = xsI (sMove σ s0 t0 nr q n) 7 (t0 + n) (xgI (sMove σ s0 t0 nr q n) 7 (s0 + n)) := by rw [sMove, if_neg h]

set_option maxHeartbeats 4000000 in
set_option maxRecDepth 100000 in
theorem c_X0_takeF {l : Launch} {G : xG} {σ : xS} {x : Int32} {c : Nat} (hm : xMod c) (hf : ¬ xgI σ 6 3 = 0) : xFv l G yX0_take cX0_take 6 (Option.none : Option Jvm.ClassFile.FieldType) 5 129 [.ref (G.2.1 6), .int x, .ref (G.2.1 c), .ref (G.2.1 3)] σ (σ) := by
  refine xM.of (by decide) (Nat.le_of_ble_eq_true rfl) (fun pp ee ss mm aa bel met kk X => ?_)
  have X : xC pp ss mm met kk cX0_take 6 RX0 (Option.none : Option Jvm.ClassFile.FieldType) G := X
  show xW pp l ee { frames := 5, cells := 0, slots := 0, locals := 129 } ss mm aa bel met kk 6 G 0 0 (xQ bel G (fun r t => r = none ∧ t = (σ)) aa ss) 0 [(0, .ref (G.2.1 6)), (1, .int x), (2, .ref (G.2.1 c)), (3, .ref (G.2.1 3))] [] σ
  refine x_aload_n X dX0_take_0 rfl ?_
  refine gf_X0_53 X dX0_take_1 rfl ?_
  refine x_ifeq (tgt := 8) X dX0_take_4 (by decide) (fun h4 => ?_) (fun h4 => ?_)
  · skip
    exact absurd h4 hf
  · skip
    exact x_vret X dX0_take_7 (⟨rfl, by first | rfl | simp [*]⟩)

set_option maxHeartbeats 4000000 in
set_option maxRecDepth 100000 in
theorem c_X0_takeE {l : Launch} {G : xG} {σ : xS} {x : Int32} {c : Nat} (hm : xMod c) (hf : xgI σ 6 3 = 0) (hz : xgI σ 6 1 = nI 1500) : xFv l G yX0_take cX0_take 6 (Option.none : Option Jvm.ClassFile.FieldType) 5 129 [.ref (G.2.1 6), .int x, .ref (G.2.1 c), .ref (G.2.1 3)] σ (cFail σ 9 (xgI σ 8 3) 1500) := by
  refine xM.of (by decide) (Nat.le_of_ble_eq_true rfl) (fun pp ee ss mm aa bel met kk X => ?_)
  have X : xC pp ss mm met kk cX0_take 6 RX0 (Option.none : Option Jvm.ClassFile.FieldType) G := X
  show xW pp l ee { frames := 5, cells := 0, slots := 0, locals := 129 } ss mm aa bel met kk 6 G 0 0 (xQ bel G (fun r t => r = none ∧ t = (cFail σ 9 (xgI σ 8 3) 1500)) aa ss) 0 [(0, .ref (G.2.1 6)), (1, .int x), (2, .ref (G.2.1 c)), (3, .ref (G.2.1 3))] [] σ
  refine x_aload_n X dX0_take_0 rfl ?_
  refine gf_X0_53 X dX0_take_1 rfl ?_
  refine x_ifeq (tgt := 8) X dX0_take_4 (by decide) (fun h4 => ?_) (fun h4 => ?_)
  · skip
    refine x_aload_n X dX0_take_8 rfl ?_
    refine gf_X0_50 X dX0_take_9 rfl ?_
    rw [hz]
    refine x_istore (lv' := [(4, .int (nI 1500)), (0, .ref (G.2.1 6)), (1, .int x), (2, .ref (G.2.1 c)), (3, .ref (G.2.1 3))]) X dX0_take_12 (by decide) rfl ?_
    refine x_bipush (v := 9) X dX0_take_14 (by decide) ?_
    refine x_istore (lv' := [(5, .int 9), (4, .int (nI 1500)), (0, .ref (G.2.1 6)), (1, .int x), (2, .ref (G.2.1 c)), (3, .ref (G.2.1 3))]) X dX0_take_16 (by decide) rfl ?_
    refine x_iload X dX0_take_18 rfl ?_
    refine x_sipush (v := 1500) X dX0_take_20 (by decide) ?_
    refine x_icmpge (tgt := 65) X dX0_take_23 (by decide) (fun h23 => ?_) (fun h23 => ?_)
    · skip
      rw [xb_ge (x := nI 1500) (y := 1500) (a := 1500) (b := 1500) rfl rfl (by omega) (by omega)] at h23
      refine x_iload X dX0_take_65 rfl ?_
      refine x_ifeq (tgt := 102) X dX0_take_67 (by decide) (fun h67 => ?_) (fun h67 => ?_)
      · skip
        exact absurd h67 (by decide)
      · skip
        refine x_aload_n X dX0_take_70 rfl ?_
        refine x_iload X dX0_take_71 rfl ?_
        refine pf_X0_53 X dX0_take_73 rfl ?_
        refine x_aload_n X dX0_take_76 rfl ?_
        refine x_iload X dX0_take_77 rfl ?_
        refine x_ifne (tgt := 86) X dX0_take_79 (by decide) (fun h79 => ?_) (fun h79 => ?_)
        · skip
          rw [xb_ne (x := nI 1500) (y := 0) (a := 1500) (b := 0) rfl rfl (by omega) (by omega)] at h79
          refine x_aload_n X dX0_take_86 rfl ?_
          refine gf_X0_25 (k' := 8) X dX0_take_87 rfl rfl ?_
          refine gf_X0_72 X dX0_take_90 rfl ?_
          refine pf_X0_15 X dX0_take_93 rfl ?_
          refine x_aload_n X dX0_take_96 rfl ?_
          refine x_iload X dX0_take_97 rfl ?_
          refine pf_X0_19 X dX0_take_99 rfl ?_
          exact x_vret X dX0_take_102 (⟨rfl, by unfold cFail; rw [xgI_n (by omega)]⟩)
        · skip
          rw [xb_ne (x := nI 1500) (y := 0) (a := 1500) (b := 0) rfl rfl (by omega) (by omega)] at h79
          omega
    · skip
      rw [xb_ge (x := nI 1500) (y := 1500) (a := 1500) (b := 1500) rfl rfl (by omega) (by omega)] at h23
      omega
  · skip
    exact absurd hf h4

set_option maxHeartbeats 4000000 in
set_option maxRecDepth 100000 in
theorem c_X0_takeD {l : Launch} {G : xG} {σ : xS} {x : Int32} {c : Nat} (hm : xMod c) (hf : xgI σ 6 3 = 0) (hz : xgI σ 6 1 = nI 0) : xFv l G yX0_take cX0_take 6 (Option.none : Option Jvm.ClassFile.FieldType) 5 129 [.ref (G.2.1 6), .int x, .ref (G.2.1 c), .ref (G.2.1 3)] σ (if x = xgI σ c 3 then cPut σ 0 x else cFail (cPut σ 0 x) 1 (-1) 0) := by
  refine xM.of (by decide) (Nat.le_of_ble_eq_true rfl) (fun pp ee ss mm aa bel met kk X => ?_)
  have X : xC pp ss mm met kk cX0_take 6 RX0 (Option.none : Option Jvm.ClassFile.FieldType) G := X
  show xW pp l ee { frames := 5, cells := 0, slots := 0, locals := 129 } ss mm aa bel met kk 6 G 0 0 (xQ bel G (fun r t => r = none ∧ t = (if x = xgI σ c 3 then cPut σ 0 x else cFail (cPut σ 0 x) 1 (-1) 0)) aa ss) 0 [(0, .ref (G.2.1 6)), (1, .int x), (2, .ref (G.2.1 c)), (3, .ref (G.2.1 3))] [] σ
  refine x_aload_n X dX0_take_0 rfl ?_
  refine gf_X0_53 X dX0_take_1 rfl ?_
  refine x_ifeq (tgt := 8) X dX0_take_4 (by decide) (fun h4 => ?_) (fun h4 => ?_)
  · skip
    refine x_aload_n X dX0_take_8 rfl ?_
    refine gf_X0_50 X dX0_take_9 rfl ?_
    rw [hz]
    refine x_istore (lv' := [(4, .int (nI 0)), (0, .ref (G.2.1 6)), (1, .int x), (2, .ref (G.2.1 c)), (3, .ref (G.2.1 3))]) X dX0_take_12 (by decide) rfl ?_
    refine x_bipush (v := 9) X dX0_take_14 (by decide) ?_
    refine x_istore (lv' := [(5, .int 9), (4, .int (nI 0)), (0, .ref (G.2.1 6)), (1, .int x), (2, .ref (G.2.1 c)), (3, .ref (G.2.1 3))]) X dX0_take_16 (by decide) rfl ?_
    refine x_iload X dX0_take_18 rfl ?_
    refine x_sipush (v := 1500) X dX0_take_20 (by decide) ?_
    refine x_icmpge (tgt := 65) X dX0_take_23 (by decide) (fun h23 => ?_) (fun h23 => ?_)
    · skip
      rw [xb_ge (x := nI 0) (y := 1500) (a := 0) (b := 1500) rfl rfl (by omega) (by omega)] at h23
      omega
    · skip
      rw [xb_ge (x := nI 0) (y := 1500) (a := 0) (b := 1500) rfl rfl (by omega) (by omega)] at h23
      refine x_aload_n X dX0_take_26 rfl ?_
      refine x_iload X dX0_take_27 rfl ?_
      refine x_iload_n X dX0_take_29 rfl ?_
      refine cv_X0_60 X (c_X0_setNumber (by omega)) dX0_take_30 rfl ⟨by decide, by decide, by decide, by decide⟩ rfl rfl (Nat.le_of_ble_eq_true rfl) (xk_v ?_)
      refine x_aload_n X dX0_take_33 rfl ?_
      refine x_dup X dX0_take_34 rfl ?_
      refine gf_X0_50 X dX0_take_35 rfl ?_
      rw [xgI_n (by omega), hz]
      refine x_iconst (v := 1) X dX0_take_38 (by decide) ?_
      refine x_iadd X dX0_take_39 ?_
      rw [nI_1]
      refine pf_X0_50 X dX0_take_40 rfl ?_
      refine x_iload X dX0_take_43 rfl ?_
      refine x_ifne (tgt := 56) X dX0_take_45 (by decide) (fun h45 => ?_) (fun h45 => ?_)
      · skip
        rw [xb_ne (x := nI 0) (y := 0) (a := 0) (b := 0) rfl rfl (by omega) (by omega)] at h45
        exact absurd rfl h45
      · skip
        rw [xb_ne (x := nI 0) (y := 0) (a := 0) (b := 0) rfl rfl (by omega) (by omega)] at h45
        refine x_iload_n X dX0_take_48 rfl ?_
        refine x_aload_n X dX0_take_49 rfl ?_
        refine cs_X0_64 X (c_X0_faultOfDigest hm) dX0_take_50 ⟨by decide, by decide, by decide, by decide⟩ rfl rfl (Nat.le_of_ble_eq_true rfl) (xk_i ?_)
        rw [show xgI (xsI (xsI σ 7 0 x) 6 1 (nI (0 + 1))) c 3 = xgI σ c 3 by rw [xgI_n (by have := mC_b hm; omega), xgI_n (by have := mC_b hm; omega)]]
        refine x_goto (tgt := 63) X dX0_take_53 (by decide) ?_
        refine x_topi (fun fl hfl => ?_)
        refine x_istore (lv' := [(5, .int fl), (4, .int (nI 0)), (0, .ref (G.2.1 6)), (1, .int x), (2, .ref (G.2.1 c)), (3, .ref (G.2.1 3))]) X dX0_take_63 (by decide) rfl ?_
        refine x_iload X dX0_take_65 rfl ?_
        refine x_ifeq (tgt := 102) X dX0_take_67 (by decide) (fun h67 => ?_) (fun h67 => ?_)
        · skip
          have h67b : x = xgI σ c 3 := Classical.not_not.mp (fun z => by rw [if_neg z] at hfl; rw [hfl] at h67; exact absurd h67 (by decide))
          exact x_vret X dX0_take_102 (⟨rfl, by first | (rw [if_pos h67b]; rfl) | (rw [if_neg h67b, ← h67c]; rfl)⟩)
        · skip
          have h67b : ¬ x = xgI σ c 3 := fun z => h67 (by rw [hfl, if_pos z])
          have h67c : fl = 1 := by rw [hfl, if_neg h67b]
          refine x_aload_n X dX0_take_70 rfl ?_
          refine x_iload X dX0_take_71 rfl ?_
          refine pf_X0_53 X dX0_take_73 rfl ?_
          refine x_aload_n X dX0_take_76 rfl ?_
          refine x_iload X dX0_take_77 rfl ?_
          refine x_ifne (tgt := 86) X dX0_take_79 (by decide) (fun h79 => ?_) (fun h79 => ?_)
          · skip
            rw [xb_ne (x := nI 0) (y := 0) (a := 0) (b := 0) rfl rfl (by omega) (by omega)] at h79
            exact absurd rfl h79
          · skip
            rw [xb_ne (x := nI 0) (y := 0) (a := 0) (b := 0) rfl rfl (by omega) (by omega)] at h79
            refine x_iconst (v := (-1)) X dX0_take_82 (by decide) ?_
            refine x_goto (tgt := 93) X dX0_take_83 (by decide) ?_
            refine pf_X0_15 X dX0_take_93 rfl ?_
            refine x_aload_n X dX0_take_96 rfl ?_
            refine x_iload X dX0_take_97 rfl ?_
            refine pf_X0_19 X dX0_take_99 rfl ?_
            exact x_vret X dX0_take_102 (⟨rfl, by first | (rw [if_pos h67b]; rfl) | (rw [if_neg h67b, ← h67c]; rfl)⟩)
  · skip
    exact absurd hf h4

set_option maxHeartbeats 4000000 in
set_option maxRecDepth 100000 in
theorem c_X0_takeJ {l : Launch} {G : xG} {σ : xS} {x : Int32} {c : Nat} (hm : xMod c) {z0 : Nat} (hf : xgI σ 6 3 = 0) (hz : xgI σ 6 1 = nI z0) (hz0 : 0 < z0) (hz2 : z0 < 1500) {PJ : Option Value → xS → Prop} (hJ : xM l G yX0_judge cX0_judge 6 (Option.some Jvm.ClassFile.FieldType.int) 4 104 [.ref (G.2.1 6), .int x, .ref (G.2.1 c), .ref (G.2.1 3)] (cPut σ z0 x) PJ) (hPJ : ∀ r t, PJ r t → ∃ y : Int32, r = some (.int y)) : xM l G yX0_take cX0_take 6 (Option.none : Option Jvm.ClassFile.FieldType) 5 129 [.ref (G.2.1 6), .int x, .ref (G.2.1 c), .ref (G.2.1 3)] σ (cTk PJ z0) := by
  refine xM.of (by decide) (Nat.le_of_ble_eq_true rfl) (fun pp ee ss mm aa bel met kk X => ?_)
  have X : xC pp ss mm met kk cX0_take 6 RX0 (Option.none : Option Jvm.ClassFile.FieldType) G := X
  show xW pp l ee { frames := 5, cells := 0, slots := 0, locals := 129 } ss mm aa bel met kk 6 G 0 0 (xQ bel G (cTk PJ z0) aa ss) 0 [(0, .ref (G.2.1 6)), (1, .int x), (2, .ref (G.2.1 c)), (3, .ref (G.2.1 3))] [] σ
  refine x_aload_n X dX0_take_0 rfl ?_
  refine gf_X0_53 X dX0_take_1 rfl ?_
  refine x_ifeq (tgt := 8) X dX0_take_4 (by decide) (fun h4 => ?_) (fun h4 => ?_)
  · skip
    refine x_aload_n X dX0_take_8 rfl ?_
    refine gf_X0_50 X dX0_take_9 rfl ?_
    rw [hz]
    refine x_istore (lv' := [(4, .int (nI z0)), (0, .ref (G.2.1 6)), (1, .int x), (2, .ref (G.2.1 c)), (3, .ref (G.2.1 3))]) X dX0_take_12 (by decide) rfl ?_
    refine x_bipush (v := 9) X dX0_take_14 (by decide) ?_
    refine x_istore (lv' := [(5, .int 9), (4, .int (nI z0)), (0, .ref (G.2.1 6)), (1, .int x), (2, .ref (G.2.1 c)), (3, .ref (G.2.1 3))]) X dX0_take_16 (by decide) rfl ?_
    refine x_iload X dX0_take_18 rfl ?_
    refine x_sipush (v := 1500) X dX0_take_20 (by decide) ?_
    refine x_icmpge (tgt := 65) X dX0_take_23 (by decide) (fun h23 => ?_) (fun h23 => ?_)
    · skip
      rw [xb_ge (x := nI z0) (y := 1500) (a := z0) (b := 1500) rfl rfl (by omega) (by omega)] at h23
      omega
    · skip
      rw [xb_ge (x := nI z0) (y := 1500) (a := z0) (b := 1500) rfl rfl (by omega) (by omega)] at h23
      refine x_aload_n X dX0_take_26 rfl ?_
      refine x_iload X dX0_take_27 rfl ?_
      refine x_iload_n X dX0_take_29 rfl ?_
      refine cv_X0_60 X (c_X0_setNumber (by omega)) dX0_take_30 rfl ⟨by decide, by decide, by decide, by decide⟩ rfl rfl (Nat.le_of_ble_eq_true rfl) (xk_v ?_)
      refine x_aload_n X dX0_take_33 rfl ?_
      refine x_dup X dX0_take_34 rfl ?_
      refine gf_X0_50 X dX0_take_35 rfl ?_
      rw [xgI_n (by omega), hz]
      refine x_iconst (v := 1) X dX0_take_38 (by decide) ?_
      refine x_iadd X dX0_take_39 ?_
      rw [nI_1]
      refine pf_X0_50 X dX0_take_40 rfl ?_
      refine x_iload X dX0_take_43 rfl ?_
      refine x_ifne (tgt := 56) X dX0_take_45 (by decide) (fun h45 => ?_) (fun h45 => ?_)
      · skip
        rw [xb_ne (x := nI z0) (y := 0) (a := z0) (b := 0) rfl rfl (by omega) (by omega)] at h45
        refine x_aload_n X dX0_take_56 rfl ?_
        refine x_iload_n X dX0_take_57 rfl ?_
        refine x_aload_n X dX0_take_58 rfl ?_
        refine x_aload_n X dX0_take_59 rfl ?_
        refine cv_X0_68 X hJ dX0_take_60 rfl ⟨by decide, by decide, by decide, by decide⟩ rfl rfl (Nat.le_of_ble_eq_true rfl) (fun r0 u hpo => ?_)
        obtain ⟨y, rfl⟩ := hPJ r0 u hpo
        refine x_istore (lv' := [(5, .int y), (4, .int (nI z0)), (0, .ref (G.2.1 6)), (1, .int x), (2, .ref (G.2.1 c)), (3, .ref (G.2.1 3))]) X dX0_take_63 (by decide) rfl ?_
        refine x_iload X dX0_take_65 rfl ?_
        refine x_ifeq (tgt := 102) X dX0_take_67 (by decide) (fun h67 => ?_) (fun h67 => ?_)
        · skip
          exact x_vret X dX0_take_102 (by first | exact ⟨rfl, y, _, hpo, Or.inl ⟨h67, rfl⟩⟩ | exact ⟨rfl, y, _, hpo, Or.inr ⟨h67, rfl⟩⟩)
        · skip
          refine x_aload_n X dX0_take_70 rfl ?_
          refine x_iload X dX0_take_71 rfl ?_
          refine pf_X0_53 X dX0_take_73 rfl ?_
          refine x_aload_n X dX0_take_76 rfl ?_
          refine x_iload X dX0_take_77 rfl ?_
          refine x_ifne (tgt := 86) X dX0_take_79 (by decide) (fun h79 => ?_) (fun h79 => ?_)
          · skip
            rw [xb_ne (x := nI z0) (y := 0) (a := z0) (b := 0) rfl rfl (by omega) (by omega)] at h79
            refine x_aload_n X dX0_take_86 rfl ?_
            refine gf_X0_25 (k' := 8) X dX0_take_87 rfl rfl ?_
            refine gf_X0_72 X dX0_take_90 rfl ?_
            rw [xgI_n (by omega)]
            refine pf_X0_15 X dX0_take_93 rfl ?_
            refine x_aload_n X dX0_take_96 rfl ?_
            refine x_iload X dX0_take_97 rfl ?_
            refine pf_X0_19 X dX0_take_99 rfl ?_
            exact x_vret X dX0_take_102 (by first | exact ⟨rfl, y, _, hpo, Or.inl ⟨h67, rfl⟩⟩ | exact ⟨rfl, y, _, hpo, Or.inr ⟨h67, rfl⟩⟩)
          · skip
            rw [xb_ne (x := nI z0) (y := 0) (a := z0) (b := 0) rfl rfl (by omega) (by omega)] at h79
            omega
      · skip
        rw [xb_ne (x := nI z0) (y := 0) (a := z0) (b := 0) rfl rfl (by omega) (by omega)] at h45
        omega
  · skip
    exact absurd hf h4

set_option maxHeartbeats 4000000 in
set_option maxRecDepth 100000 in
theorem c_X0_markSources {l : Launch} {G : xG} {σ : xS} {i s0 n nr q : Nat} (hi : i < 201) (hk : xgI σ (61 + i) 5 = nI q) (hq : q < 10) (hs : xgI σ (61 + i) 6 = nI s0) (hl : xgI σ (61 + i) 7 = nI n) (hn : s0 + n ≤ 1500) (hr : nr ≤ 200) (hc : xgI σ 8 3 = nI nr) (hn1 : 1 ≤ n) : xFv l G yX0_markSources cX0_markSources 4 (Option.none : Option Jvm.ClassFile.FieldType) 1 21 [.ref (G.2.1 6), .ref (G.2.1 (61 + i))] σ (sMark σ s0 nr (nI q) n) := by
  refine xM.of (by decide) (Nat.le_of_ble_eq_true rfl) (fun pp ee ss mm aa bel met kk X => ?_)
  have X : xC pp ss mm met kk cX0_markSources 4 RX0 (Option.none : Option Jvm.ClassFile.FieldType) G := X
  show xW pp l ee { frames := 1, cells := 0, slots := 0, locals := 21 } ss mm aa bel met kk 4 G 0 0 (xQ bel G (fun r t => r = none ∧ t = (sMark σ s0 nr (nI q) n)) aa ss) 0 [(0, .ref (G.2.1 6)), (1, .ref (G.2.1 (61 + i)))] [] σ
  refine x_iconst (v := 1) X dX0_markSources_0 (by decide) ?_
  refine x_istore_n (lv' := [(2, .int 1), (0, .ref (G.2.1 6)), (1, .ref (G.2.1 (61 + i)))]) X dX0_markSources_1 rfl (by decide) rfl ?_
  have lp2 : ∀ (NN2 : Nat) (m : Nat) (hm1 : 1 ≤ m) (hm : m ≤ n), n - m = NN2 → xW pp l ee { frames := 1, cells := 0, slots := 0, locals := 21 } ss mm aa bel met kk 4 G 0 0 (xQ bel G (fun r t => r = none ∧ t = (sMark σ s0 nr (nI q) n)) aa ss) 2 [(2, .int (nI m)), (1, .ref (G.2.1 (61 + i))), (0, .ref (G.2.1 6))] [] (sMark σ s0 nr (nI q) m) := by
    intro NN2
    induction NN2 using Nat.strongRecOn with
    | ind NN2 ih2 =>
      intro m hm1 hm hNN2
      refine x_iload_n X dX0_markSources_2 rfl ?_
      refine x_aload_n X dX0_markSources_3 rfl ?_
      refine gf_X0_120 X dX0_markSources_4 (xck_row hi) ?_
      rw [sMark_o 7 (by omega) m, hl]
      refine x_icmpge (tgt := 58) X dX0_markSources_7 (by decide) (fun h7 => ?_) (fun h7 => ?_)
      · skip
        rw [xb_ge (x := nI m) (y := nI n) (a := m) (b := n) rfl rfl (by omega) (by omega)] at h7
        obtain rfl : m = n := by omega
        exact x_vret X dX0_markSources_58 (⟨rfl, by first | rfl | simp [*]⟩)
      · skip
        rw [xb_ge (x := nI m) (y := nI n) (a := m) (b := n) rfl rfl (by omega) (by omega)] at h7
        refine x_aload_n X dX0_markSources_10 rfl ?_
        refine x_aload_n X dX0_markSources_11 rfl ?_
        refine gf_X0_97 X dX0_markSources_12 (xck_row hi) ?_
        rw [sMark_o 6 (by omega) m, hs]
        refine x_iload_n X dX0_markSources_15 rfl ?_
        refine x_iadd X dX0_markSources_16 ?_
        rw [nI_add]
        refine cv_X0_123 X (c_X0_numberAt (j := s0 + m) (by omega)) dX0_markSources_17 rfl ⟨by decide, by decide, by decide, by decide⟩ rfl rfl (Nat.le_of_ble_eq_true rfl) (xk_i ?_)
        rw [sMark_o (s0 + m) (by omega) m]
        refine x_topi (fun nu hnu => ?_)
        refine x_istore_n (lv' := [(3, .int nu), (2, .int (nI m)), (1, .ref (G.2.1 (61 + i))), (0, .ref (G.2.1 6))]) X dX0_markSources_20 rfl (by decide) rfl ?_
        refine x_aload_n X dX0_markSources_21 rfl ?_
        refine gf_X0_127 X dX0_markSources_22 (xck_row hi) ?_
        rw [sMark_o 5 (by omega) m, hk]
        refine x_iload_n X dX0_markSources_25 rfl ?_
        refine cs_X0_130 X (c_X1_meaningAt (Or.inr ⟨q, hq, rfl⟩)) dX0_markSources_26 ⟨by decide, by decide, by decide, by decide⟩ rfl rfl (Nat.le_of_ble_eq_true rfl) (xk_i ?_)
        refine x_bipush (v := 6) X dX0_markSources_29 (by decide) ?_
        refine x_icmpne (tgt := 52) X dX0_markSources_31 (by decide) (fun h31 => ?_) (fun h31 => ?_)
        · skip
          have hs2 := sMark_0 (σ := σ) (s0 := s0) (nr := nr) (show ¬ m = 0 by omega) (fun z => h31 z.1)
          rw [← hs2]
          refine x_iinc (k := 1) (v := nI (m + 1)) (lv' := [(2, .int (nI (m + 1))), (3, .int nu), (1, .ref (G.2.1 (61 + i))), (0, .ref (G.2.1 6))]) X dX0_markSources_52 rfl (xn_inc _) (by decide) rfl ?_
          refine x_goto (tgt := 2) X dX0_markSources_55 (by decide) ?_
          refine x_pick [0, 2, 3] rfl ?_
          exact ih2 _ (by omega) (m + 1) (by omega) (by omega) rfl
        · skip
          refine x_aload_n X dX0_markSources_34 rfl ?_
          refine gf_X0_25 (k' := 8) X dX0_markSources_35 rfl rfl ?_
          refine x_iload_n X dX0_markSources_38 rfl ?_
          refine cv_X0_134 X (c_X6_has hr ((sMark_o 3 (by omega) m).trans hc)) dX0_markSources_39 rfl ⟨by decide, by decide, by decide, by decide⟩ rfl rfl (Nat.le_of_ble_eq_true rfl) (xk_i ?_)
          refine x_ifeq (tgt := 52) X dX0_markSources_42 (by decide) (fun h42 => ?_) (fun h42 => ?_)
          · skip
            have hs2 := sMark_0 (σ := σ) (s0 := s0) (nr := nr) (q := nI q) (show ¬ m = 0 by omega) (fun z => (xB_0.mp h42) (hnu ▸ z.2))
            rw [← hs2]
            refine x_iinc (k := 1) (v := nI (m + 1)) (lv' := [(2, .int (nI (m + 1))), (3, .int nu), (1, .ref (G.2.1 (61 + i))), (0, .ref (G.2.1 6))]) X dX0_markSources_52 rfl (xn_inc _) (by decide) rfl ?_
            refine x_goto (tgt := 2) X dX0_markSources_55 (by decide) ?_
            refine x_pick [0, 2, 3] rfl ?_
            exact ih2 _ (by omega) (m + 1) (by omega) (by omega) rfl
          · skip
            have hlt : xLt nu nr := Classical.not_not.mp (fun z => h42 (xB_f z))
            have hs2 := sMark_1 (σ := σ) (s0 := s0) (nr := nr) (q := nI q) (show ¬ m = 0 by omega) ⟨h31, hnu ▸ hlt⟩
            rw [← hnu] at hs2
            refine x_aload_n X dX0_markSources_45 rfl ?_
            refine gf_X0_36 (k' := 13) X dX0_markSources_46 rfl rfl ?_
            refine x_iload_n X dX0_markSources_49 rfl ?_
            refine x_iconst (v := 1) X dX0_markSources_50 (by decide) ?_
            refine x_zast X dX0_markSources_51 rfl (by obtain ⟨j, hj, rfl⟩ := hlt; exact vp_in_nI (by omega) (by omega)) (Or.inr rfl) ?_
            rw [← hs2]
            refine x_iinc (k := 1) (v := nI (m + 1)) (lv' := [(2, .int (nI (m + 1))), (3, .int nu), (1, .ref (G.2.1 (61 + i))), (0, .ref (G.2.1 6))]) X dX0_markSources_52 rfl (xn_inc _) (by decide) rfl ?_
            refine x_goto (tgt := 2) X dX0_markSources_55 (by decide) ?_
            refine x_pick [0, 2, 3] rfl ?_
            exact ih2 _ (by omega) (m + 1) (by omega) (by omega) rfl
  refine x_pick [0, 2, 1] rfl ?_
  exact lp2 _ 1 (by omega) (by omega) rfl

set_option maxHeartbeats 4000000 in
set_option maxRecDepth 100000 in
theorem c_X0_moveNumbers {l : Launch} {G : xG} {σ : xS} {t0 : Nat} {i s0 n nr q : Nat} (hi : i < 201) (hk : xgI σ (61 + i) 5 = nI q) (hq : q < 10) (hs : xgI σ (61 + i) 6 = nI s0) (hl : xgI σ (61 + i) 7 = nI n) (hn : s0 + n ≤ 1500) (hr : nr ≤ 200) (hc : xgI σ 8 3 = nI nr) (ht : t0 + n ≤ 1500) : xFi l G yX0_moveNumbers cX0_moveNumbers 5 (Option.some Jvm.ClassFile.FieldType.int) 1 22 [.ref (G.2.1 6), .ref (G.2.1 (61 + i)), .int (nI t0)] σ (nI (t0 + n)) (sMove σ s0 t0 nr (nI q) n) := by
  refine xM.of (by decide) (Nat.le_of_ble_eq_true rfl) (fun pp ee ss mm aa bel met kk X => ?_)
  have X : xC pp ss mm met kk cX0_moveNumbers 5 RX0 (Option.some Jvm.ClassFile.FieldType.int) G := X
  show xW pp l ee { frames := 1, cells := 0, slots := 0, locals := 22 } ss mm aa bel met kk 5 G 0 0 (xQ bel G (fun r t => r = some (.int (nI (t0 + n))) ∧ t = (sMove σ s0 t0 nr (nI q) n)) aa ss) 0 [(0, .ref (G.2.1 6)), (1, .ref (G.2.1 (61 + i))), (2, .int (nI t0))] [] σ
  refine x_iconst (v := 0) X dX0_moveNumbers_0 (by decide) ?_
  refine x_istore_n (lv' := [(3, .int 0), (0, .ref (G.2.1 6)), (1, .ref (G.2.1 (61 + i))), (2, .int (nI t0))]) X dX0_moveNumbers_1 rfl (by decide) rfl ?_
  have lp2 : ∀ (NN2 : Nat) (m : Nat) (hm : m ≤ n), n - m = NN2 → xW pp l ee { frames := 1, cells := 0, slots := 0, locals := 22 } ss mm aa bel met kk 5 G 0 0 (xQ bel G (fun r t => r = some (.int (nI (t0 + n))) ∧ t = (sMove σ s0 t0 nr (nI q) n)) aa ss) 2 [(3, .int (nI m)), (2, .int (nI t0)), (1, .ref (G.2.1 (61 + i))), (0, .ref (G.2.1 6))] [] (sMove σ s0 t0 nr (nI q) m) := by
    intro NN2
    induction NN2 using Nat.strongRecOn with
    | ind NN2 ih2 =>
      intro m hm hNN2
      refine x_iload_n X dX0_moveNumbers_2 rfl ?_
      refine x_aload_n X dX0_moveNumbers_3 rfl ?_
      refine gf_X0_120 X dX0_moveNumbers_4 (xck_row hi) ?_
      rw [sMove_o 7 (by omega) m, hl]
      refine x_icmpge (tgt := 71) X dX0_moveNumbers_7 (by decide) (fun h7 => ?_) (fun h7 => ?_)
      · skip
        rw [xb_ge (x := nI m) (y := nI n) (a := m) (b := n) rfl rfl (by omega) (by omega)] at h7
        obtain rfl : m = n := by omega
        refine x_iload_n X dX0_moveNumbers_71 rfl ?_
        refine x_aload_n X dX0_moveNumbers_72 rfl ?_
        refine gf_X0_120 X dX0_moveNumbers_73 (xck_row hi) ?_
        rw [sMove_o 7 (by omega) _, hl]
        refine x_iadd X dX0_moveNumbers_76 ?_
        exact x_iret X dX0_moveNumbers_77 (xp_i (by exact nI_add _ _) (by first | rfl | simp [*]))
      · skip
        rw [xb_ge (x := nI m) (y := nI n) (a := m) (b := n) rfl rfl (by omega) (by omega)] at h7
        refine x_aload_n X dX0_moveNumbers_10 rfl ?_
        refine x_aload_n X dX0_moveNumbers_11 rfl ?_
        refine gf_X0_97 X dX0_moveNumbers_12 (xck_row hi) ?_
        rw [sMove_o 6 (by omega) m, hs]
        refine x_iload_n X dX0_moveNumbers_15 rfl ?_
        refine x_iadd X dX0_moveNumbers_16 ?_
        rw [nI_add]
        refine cv_X0_123 X (c_X0_numberAt (j := s0 + m) (by omega)) dX0_moveNumbers_17 rfl ⟨by decide, by decide, by decide, by decide⟩ rfl rfl (Nat.le_of_ble_eq_true rfl) (xk_i ?_)
        refine x_topi (fun nu hnu => ?_)
        refine x_istore (lv' := [(4, .int nu), (3, .int (nI m)), (2, .int (nI t0)), (1, .ref (G.2.1 (61 + i))), (0, .ref (G.2.1 6))]) X dX0_moveNumbers_20 (by decide) rfl ?_
        refine x_aload_n X dX0_moveNumbers_22 rfl ?_
        refine gf_X0_127 X dX0_moveNumbers_23 (xck_row hi) ?_
        rw [sMove_o 5 (by omega) m, hk]
        refine x_iload_n X dX0_moveNumbers_26 rfl ?_
        refine cs_X0_130 X (c_X1_meaningAt (Or.inr ⟨q, hq, rfl⟩)) dX0_moveNumbers_27 ⟨by decide, by decide, by decide, by decide⟩ rfl rfl (Nat.le_of_ble_eq_true rfl) (xk_i ?_)
        refine x_bipush (v := 6) X dX0_moveNumbers_30 (by decide) ?_
        refine x_icmpne (tgt := 56) X dX0_moveNumbers_32 (by decide) (fun h32 => ?_) (fun h32 => ?_)
        · skip
          have hs2 := sMove_0 (σ := σ) (s0 := s0) (t0 := t0) (nr := nr) (fun z => h32 z.1)
          rw [← hnu] at hs2
          try rw [← hnu2] at hs2
          refine x_aload_n X dX0_moveNumbers_56 rfl ?_
          refine x_iload_n X dX0_moveNumbers_57 rfl ?_
          refine x_iload_n X dX0_moveNumbers_58 rfl ?_
          refine x_iadd X dX0_moveNumbers_59 ?_
          refine x_iload X dX0_moveNumbers_60 rfl ?_
          rw [nI_add]
          refine cv_X0_60 X (c_X0_setNumber (by omega)) dX0_moveNumbers_62 rfl ⟨by decide, by decide, by decide, by decide⟩ rfl rfl (Nat.le_of_ble_eq_true rfl) (xk_v ?_)
          rw [← hs2]
          refine x_iinc (k := 1) (v := nI (m + 1)) (lv' := [(3, .int (nI (m + 1))), (4, .int nu), (2, .int (nI t0)), (1, .ref (G.2.1 (61 + i))), (0, .ref (G.2.1 6))]) X dX0_moveNumbers_65 rfl (xn_inc _) (by decide) rfl ?_
          refine x_goto (tgt := 2) X dX0_moveNumbers_68 (by decide) ?_
          refine x_pick [0, 2, 3, 4] rfl ?_
          exact ih2 _ (by omega) (m + 1) (by omega) rfl
        · skip
          refine x_aload_n X dX0_moveNumbers_35 rfl ?_
          refine gf_X0_25 (k' := 8) X dX0_moveNumbers_36 rfl rfl ?_
          refine x_iload X dX0_moveNumbers_39 rfl ?_
          refine cv_X0_134 X (c_X6_has hr ((sMove_o 3 (by omega) m).trans hc)) dX0_moveNumbers_41 rfl ⟨by decide, by decide, by decide, by decide⟩ rfl rfl (Nat.le_of_ble_eq_true rfl) (xk_i ?_)
          refine x_ifeq (tgt := 56) X dX0_moveNumbers_44 (by decide) (fun h44 => ?_) (fun h44 => ?_)
          · skip
            have hs2 := sMove_0 (σ := σ) (s0 := s0) (t0 := t0) (nr := nr) (q := nI q) (fun z => (xB_0.mp h44) (hnu ▸ z.2))
            rw [← hnu] at hs2
            try rw [← hnu2] at hs2
            refine x_aload_n X dX0_moveNumbers_56 rfl ?_
            refine x_iload_n X dX0_moveNumbers_57 rfl ?_
            refine x_iload_n X dX0_moveNumbers_58 rfl ?_
            refine x_iadd X dX0_moveNumbers_59 ?_
            refine x_iload X dX0_moveNumbers_60 rfl ?_
            rw [nI_add]
            refine cv_X0_60 X (c_X0_setNumber (by omega)) dX0_moveNumbers_62 rfl ⟨by decide, by decide, by decide, by decide⟩ rfl rfl (Nat.le_of_ble_eq_true rfl) (xk_v ?_)
            rw [← hs2]
            refine x_iinc (k := 1) (v := nI (m + 1)) (lv' := [(3, .int (nI (m + 1))), (4, .int nu), (2, .int (nI t0)), (1, .ref (G.2.1 (61 + i))), (0, .ref (G.2.1 6))]) X dX0_moveNumbers_65 rfl (xn_inc _) (by decide) rfl ?_
            refine x_goto (tgt := 2) X dX0_moveNumbers_68 (by decide) ?_
            refine x_pick [0, 2, 3, 4] rfl ?_
            exact ih2 _ (by omega) (m + 1) (by omega) rfl
          · skip
            have hlt : xLt nu nr := Classical.not_not.mp (fun z => h44 (xB_f z))
            have hs2 := sMove_1 (σ := σ) (s0 := s0) (t0 := t0) (nr := nr) (q := nI q) ⟨h32, hnu ▸ hlt⟩
            rw [← hnu] at hs2
            refine x_aload_n X dX0_moveNumbers_47 rfl ?_
            refine gf_X0_40 (k' := 14) X dX0_moveNumbers_48 rfl rfl ?_
            refine x_iload X dX0_moveNumbers_51 rfl ?_
            refine x_iald X dX0_moveNumbers_53 rfl (by obtain ⟨j, hj, rfl⟩ := hlt; exact vp_in_nI (by omega) (by omega)) ?_
            rw [sMove_o _ (by omega) m]
            refine x_topi (fun nu2 hnu2 => ?_)
            refine x_istore (lv' := [(4, .int nu2), (3, .int (nI m)), (2, .int (nI t0)), (1, .ref (G.2.1 (61 + i))), (0, .ref (G.2.1 6))]) X dX0_moveNumbers_54 (by decide) rfl ?_
            try rw [← hnu2] at hs2
            refine x_aload_n X dX0_moveNumbers_56 rfl ?_
            refine x_iload_n X dX0_moveNumbers_57 rfl ?_
            refine x_iload_n X dX0_moveNumbers_58 rfl ?_
            refine x_iadd X dX0_moveNumbers_59 ?_
            refine x_iload X dX0_moveNumbers_60 rfl ?_
            rw [nI_add]
            refine cv_X0_60 X (c_X0_setNumber (by omega)) dX0_moveNumbers_62 rfl ⟨by decide, by decide, by decide, by decide⟩ rfl rfl (Nat.le_of_ble_eq_true rfl) (xk_v ?_)
            rw [← hs2]
            refine x_iinc (k := 1) (v := nI (m + 1)) (lv' := [(3, .int (nI (m + 1))), (4, .int nu2), (2, .int (nI t0)), (1, .ref (G.2.1 (61 + i))), (0, .ref (G.2.1 6))]) X dX0_moveNumbers_65 rfl (xn_inc _) (by decide) rfl ?_
            refine x_goto (tgt := 2) X dX0_moveNumbers_68 (by decide) ?_
            refine x_pick [0, 2, 3, 4] rfl ?_
            exact ih2 _ (by omega) (m + 1) (by omega) rfl
  refine x_pick [0, 3, 2, 1] rfl ?_
  exact lp2 _ 0 (by omega) rfl
