/-! Row i (cell 61 + i, its factors 262 + i; row 200 is noRow): what its methods do -/
theorem xAt_n {σ : xS} {k n v : Nat} (h : v < n) (hn : n < 2 ^ 31) : xAt σ k n (nI v) = xgI σ k v := by
  unfold xAt
  rw [if_neg (nI_pos (by omega)), if_neg (nI_ge h hn), nI_clamp (by omega)]
def rZ (σ : xS) (i : Nat) : Nat → xS
  | 0 => σ
  | n + 1 => xsL (rZ σ i n) (262 + i) n 0
def rClear (σ : xS) (i : Nat) : xS := xsL (xsI (xsL (xsL (rZ σ i 8) (61 + i) 1 0) (61 + i) 2 0) (61 + i) 3 0) (61 + i) 4 0
def rSet (σ : xS) (i : Nat) (v : Int32) (f : Int64) : xS := if v < 0 then σ else if 8 ≤ v then σ else xsL σ (262 + i) v.toNatClampNeg f
def rFac (σ : xS) (i : Nat) (v : Int32) : Int64 := if v < 0 then 0 else if 8 ≤ v then 0 else xgL σ (262 + i) v.toNatClampNeg
def rSingle (σ : xS) (i : Nat) (v : Int32) (f r : Int64) : xS := xsL (rSet σ i v f) (61 + i) 1 r
def rLimit (σ : xS) (i : Nat) (x : Int64) : xS := xsL (xsI σ (61 + i) 3 1) (61 + i) 4 x
def rInhA (σ : xS) (i j : Nat) : xS := xsL σ (61 + i) 2 (xgL σ (61 + i) 2 ||| xgL σ (61 + j) 2)
def rInhL (σ : xS) (i j : Nat) : xS := if xgI σ (61 + j) 3 = 0 then σ else if xgI σ (61 + i) 3 = 0 then rLimit σ i (xgL σ (61 + j) 4) else if xgL σ (61 + i) 4 ≤ xgL σ (61 + j) 4 then σ else rLimit σ i (xgL σ (61 + j) 4)
def rAdd (σ : xS) (i j : Nat) (o : Int64) : Nat → xS
  | 0 => σ
  | n + 1 => xsL (rAdd σ i j o n) (262 + i) n (xgL (rAdd σ i j o n) (262 + i) n + o * xgL (rAdd σ i j o n) (262 + j) n)
def rAddT (σ : xS) (i j : Nat) (o : Int64) : xS := xsL (rAdd σ i j o 8) (61 + i) 1 (xgL (rAdd σ i j o 8) (61 + i) 1 + o * xgL (rAdd σ i j o 8) (61 + j) 1)
def rZeros (σ : xS) (i : Nat) : Prop := ∀ v, v < 8 → xgL σ (262 + i) v = 0
def rImp (σ : xS) (i : Nat) : Prop := xgL σ (61 + i) 1 < 0 ∧ rZeros σ i
def rSame (σ : xS) (i j : Nat) : Prop := ∀ v, v < 8 → xgL σ (262 + i) v = xgL σ (262 + j) v
def rFits (σ : xS) (i : Nat) : Prop := (∀ v, v < 8 → -1000000000000 ≤ xgL σ (262 + i) v ∧ xgL σ (262 + i) v ≤ 1000000000000) ∧ -1000000000000 ≤ xgL σ (61 + i) 1 ∧ xgL σ (61 + i) 1 ≤ 1000000000000
noncomputable def xB (p : Prop) : Int32 := @ite _ p (Classical.propDecidable p) 1 0
theorem xB_t {p : Prop} (h : p) : xB p = 1 := if_pos h
theorem xB_f {p : Prop} (h : ¬ p) : xB p = 0 := if_neg h
theorem xB_01 (p : Prop) : xB p = 0 ∨ xB p = 1 := by by_cases h : p; exact Or.inr (xB_t h); exact Or.inl (xB_f h)
theorem xB_0 {p : Prop} : xB p = 0 ↔ ¬ p := by by_cases h : p; rw [xB_t h]; simp [h]; rw [xB_f h]; simp [h]
theorem xB_1 {p : Prop} : xB p = 1 ↔ p := by by_cases h : p; rw [xB_t h]; simp [h]; rw [xB_f h]; simp [h]
def xSumL (f : Nat → Int64) (g : Nat → Int32) : Nat → Int64
  | 0 => 0
  | n + 1 => xSumL f g n + f n * (g n).toInt64
def rKept (σ : xS) (i b : Nat) : Prop := xSumL (xgL σ (262 + i)) (xgI σ b) 8 ≤ xgL σ (61 + i) 1
/-- floorDiv -/
def xFd (x y : Int64) : Int64 := if 0 ≤ x ^^^ y then x / y else if x / y * y = x then x / y else x / y - 1
def rFst (f : Nat → Int64) (g : Nat → Int32) : Nat → Nat → Int64
  | 0, _ => 0
  | n + 1, v => if g v = 0 then rFst f g n (v + 1) else -(f v / (g v).toInt64)
noncomputable def rTimes (f : Nat → Int64) (g : Nat → Int32) : Int64 := if rFst f g 8 0 < 1 then 0 else @ite _ (∀ v, v < 8 → f v = -(rFst f g 8 0) * (g v).toInt64) (Classical.propDecidable _) (rFst f g 8 0) 0
noncomputable def rBound (σ : xS) (i b : Nat) : Int64 := if xgL σ (61 + i) 2 = 0 then (if xgI σ (61 + i) 3 = 0 then (if 1 ≤ rTimes (xgL σ (262 + i)) (xgI σ b) then -xFd (xgL σ (61 + i) 1) (rTimes (xgL σ (262 + i)) (xgI σ b)) else -1000000000001) else -1000000000001) else -1000000000001
theorem xi64_nlt {x y : Int64} : ¬ x < y ↔ y ≤ x := by rw [Int64.lt_iff_toInt_lt, Int64.le_iff_toInt_le]; omega
theorem xi64_nle {x y : Int64} : ¬ x ≤ y ↔ y < x := by rw [Int64.lt_iff_toInt_lt, Int64.le_iff_toInt_le]; omega
theorem xi32_nlt {x y : Int32} : ¬ x < y ↔ y ≤ x := by rw [Int32.lt_iff_toInt_lt, Int32.le_iff_toInt_le]; omega
theorem xi32_nle {x y : Int32} : ¬ x ≤ y ↔ y < x := by rw [Int32.lt_iff_toInt_lt, Int32.le_iff_toInt_le]; omega

set_option maxHeartbeats 4000000 in
set_option maxRecDepth 100000 in
theorem c_X5_clear {l : Launch} {G : xG} {σ : xS} {i : Nat} (hi : i < 201) : xFv l G yX5_clear cX5_clear 2 (Option.none : Option Jvm.ClassFile.FieldType) 0 0 [.ref (G.2.1 (61 + i))] σ (rClear σ i) := by
  refine xM.of (by decide) (Nat.le_of_ble_eq_true rfl) (fun pp ee ss mm aa bel met kk X => ?_)
  have X : xC pp ss mm met kk cX5_clear 2 RX5 (Option.none : Option Jvm.ClassFile.FieldType) G := X
  show xW pp l ee { frames := 0, cells := 0, slots := 0, locals := 0 } ss mm aa bel met kk 2 G 0 0 (xQ bel G (fun r t => r = none ∧ t = (rClear σ i)) aa ss) 0 [(0, .ref (G.2.1 (61 + i)))] [] σ
  refine x_iconst (v := 0) X dX5_clear_0 (by decide) ?_
  refine x_istore_n (lv' := [(1, .int 0), (0, .ref (G.2.1 (61 + i)))]) X dX5_clear_1 rfl (by decide) rfl ?_
  have lp2 : ∀ (NN2 : Nat) (n : Nat) (hn : n ≤ 8), 8 - n = NN2 → xW pp l ee { frames := 0, cells := 0, slots := 0, locals := 0 } ss mm aa bel met kk 2 G 0 0 (xQ bel G (fun r t => r = none ∧ t = (rClear σ i)) aa ss) 2 [(1, .int (nI n)), (0, .ref (G.2.1 (61 + i)))] [] (rZ σ i n) := by
    intro NN2
    induction NN2 using Nat.strongRecOn with
    | ind NN2 ih2 =>
      intro n hn hNN2
      refine x_iload_n X dX5_clear_2 rfl ?_
      refine x_bipush (v := 8) X dX5_clear_3 (by decide) ?_
      refine x_icmpge (tgt := 21) X dX5_clear_5 (by decide) (fun h5 => ?_) (fun h5 => ?_)
      · skip
        rw [xb_ge (x := nI n) (y := 8) (a := n) (b := 8) rfl rfl (by omega) (by omega)] at h5
        obtain rfl : n = 8 := by omega
        refine x_aload_n X dX5_clear_21 rfl ?_
        refine x_lconst (v := 0) X dX5_clear_22 (by decide) ?_
        refine pf_X5_15 X dX5_clear_23 (xck_row hi) ?_
        refine x_aload_n X dX5_clear_26 rfl ?_
        refine x_lconst (v := 0) X dX5_clear_27 (by decide) ?_
        refine pf_X5_19 X dX5_clear_28 (xck_row hi) ?_
        refine x_aload_n X dX5_clear_31 rfl ?_
        refine x_iconst (v := 0) X dX5_clear_32 (by decide) ?_
        refine pf_X5_22 X dX5_clear_33 (xck_row hi) (Or.inl rfl) ?_
        refine x_aload_n X dX5_clear_36 rfl ?_
        refine x_lconst (v := 0) X dX5_clear_37 (by decide) ?_
        refine pf_X5_26 X dX5_clear_38 (xck_row hi) ?_
        exact x_vret X dX5_clear_41 (⟨rfl, by first | rfl | simp [*]⟩)
      · skip
        rw [xb_ge (x := nI n) (y := 8) (a := n) (b := 8) rfl rfl (by omega) (by omega)] at h5
        refine x_aload_n X dX5_clear_8 rfl ?_
        refine gf_X5_9 (k' := 262 + i) X dX5_clear_9 (xck_row hi) xrf_row ?_
        refine x_iload_n X dX5_clear_12 rfl ?_
        refine x_lconst (v := 0) X dX5_clear_13 (by decide) ?_
        refine x_lastN X dX5_clear_14 (xck_fac hi) (by omega) (by omega) ?_
        refine x_iinc (k := 0) (v := nI (n + 1)) (lv' := [(1, .int (nI (n + 1))), (0, .ref (G.2.1 (61 + i)))]) X dX5_clear_15 rfl (xn_inc _) (by decide) rfl ?_
        refine x_goto (tgt := 2) X dX5_clear_18 (by decide) ?_
        refine x_pick [0, 1] rfl ?_
        exact ih2 _ (by omega) (n + 1) (by omega) rfl
  refine x_pick [0, 1] rfl ?_
  exact lp2 _ 0 (by omega) rfl

set_option maxHeartbeats 4000000 in
set_option maxRecDepth 100000 in
theorem c_X5_setFactor {l : Launch} {G : xG} {σ : xS} {i : Nat} (hi : i < 201) {v : Int32} {f : Int64} : xFv l G yX5_setFactor cX5_setFactor 4 (Option.none : Option Jvm.ClassFile.FieldType) 0 0 [.ref (G.2.1 (61 + i)), .int v, .long f] σ (rSet σ i v f) := by
  refine xM.of (by decide) (Nat.le_of_ble_eq_true rfl) (fun pp ee ss mm aa bel met kk X => ?_)
  have X : xC pp ss mm met kk cX5_setFactor 4 RX5 (Option.none : Option Jvm.ClassFile.FieldType) G := X
  show xW pp l ee { frames := 0, cells := 0, slots := 0, locals := 0 } ss mm aa bel met kk 4 G 0 0 (xQ bel G (fun r t => r = none ∧ t = (rSet σ i v f)) aa ss) 0 [(0, .ref (G.2.1 (61 + i))), (1, .int v), (2, .long f)] [] σ
  refine x_iload_n X dX5_setFactor_0 rfl ?_
  refine x_iflt (tgt := 17) X dX5_setFactor_1 (by decide) (fun h1 => ?_) (fun h1 => ?_)
  · skip
    exact x_vret X dX5_setFactor_17 (⟨rfl, by simp [rSet, *]⟩)
  · skip
    refine x_iload_n X dX5_setFactor_4 rfl ?_
    refine x_bipush (v := 8) X dX5_setFactor_5 (by decide) ?_
    refine x_icmpge (tgt := 17) X dX5_setFactor_7 (by decide) (fun h7 => ?_) (fun h7 => ?_)
    · skip
      exact x_vret X dX5_setFactor_17 (⟨rfl, by simp [rSet, *]⟩)
    · skip
      refine x_aload_n X dX5_setFactor_10 rfl ?_
      refine gf_X5_9 (k' := 262 + i) X dX5_setFactor_11 (xck_row hi) xrf_row ?_
      refine x_iload_n X dX5_setFactor_14 rfl ?_
      refine x_lload_n X dX5_setFactor_15 rfl ?_
      refine x_last X dX5_setFactor_16 (xck_fac hi) (xin_lt h1 h7 (by decide)) ?_
      exact x_vret X dX5_setFactor_17 (⟨rfl, by simp [rSet, *]⟩)

set_option maxHeartbeats 4000000 in
set_option maxRecDepth 100000 in
theorem c_X5_factorOf {l : Launch} {G : xG} {σ : xS} {i : Nat} (hi : i < 201) {v : Int32} : xFl l G yX5_factorOf cX5_factorOf 2 (Option.some Jvm.ClassFile.FieldType.long) 0 0 [.ref (G.2.1 (61 + i)), .int v] σ (rFac σ i v) (σ) := by
  refine xM.of (by decide) (Nat.le_of_ble_eq_true rfl) (fun pp ee ss mm aa bel met kk X => ?_)
  have X : xC pp ss mm met kk cX5_factorOf 2 RX5 (Option.some Jvm.ClassFile.FieldType.long) G := X
  show xW pp l ee { frames := 0, cells := 0, slots := 0, locals := 0 } ss mm aa bel met kk 2 G 0 0 (xQ bel G (fun r t => r = some (.long (rFac σ i v)) ∧ t = (σ)) aa ss) 0 [(0, .ref (G.2.1 (61 + i))), (1, .int v)] [] σ
  refine x_iload_n X dX5_factorOf_0 rfl ?_
  refine x_iflt (tgt := 19) X dX5_factorOf_1 (by decide) (fun h1 => ?_) (fun h1 => ?_)
  · skip
    refine x_lconst (v := 0) X dX5_factorOf_19 (by decide) ?_
    exact x_lret X dX5_factorOf_20 (xp_l (by simp [rFac, *]) (by first | rfl | simp [*]))
  · skip
    refine x_iload_n X dX5_factorOf_4 rfl ?_
    refine x_bipush (v := 8) X dX5_factorOf_5 (by decide) ?_
    refine x_icmpge (tgt := 19) X dX5_factorOf_7 (by decide) (fun h7 => ?_) (fun h7 => ?_)
    · skip
      refine x_lconst (v := 0) X dX5_factorOf_19 (by decide) ?_
      exact x_lret X dX5_factorOf_20 (xp_l (by simp [rFac, *]) (by first | rfl | simp [*]))
    · skip
      refine x_aload_n X dX5_factorOf_10 rfl ?_
      refine gf_X5_9 (k' := 262 + i) X dX5_factorOf_11 (xck_row hi) xrf_row ?_
      refine x_iload_n X dX5_factorOf_14 rfl ?_
      refine x_lald X dX5_factorOf_15 (xck_fac hi) (xin_lt h1 h7 (by decide)) ?_
      refine x_goto (tgt := 20) X dX5_factorOf_16 (by decide) ?_
      exact x_lret X dX5_factorOf_20 (xp_l (by simp [rFac, *]) (by first | rfl | simp [*]))

set_option maxHeartbeats 4000000 in
set_option maxRecDepth 100000 in
theorem c_X5_setSingle {l : Launch} {G : xG} {σ : xS} {i : Nat} (hi : i < 201) {v : Int32} {f rr : Int64} : xFv l G yX5_setSingle cX5_setSingle 6 (Option.none : Option Jvm.ClassFile.FieldType) 1 23 [.ref (G.2.1 (61 + i)), .int v, .long f, .long rr] σ (rSingle σ i v f rr) := by
  refine xM.of (by decide) (Nat.le_of_ble_eq_true rfl) (fun pp ee ss mm aa bel met kk X => ?_)
  have X : xC pp ss mm met kk cX5_setSingle 6 RX5 (Option.none : Option Jvm.ClassFile.FieldType) G := X
  show xW pp l ee { frames := 1, cells := 0, slots := 0, locals := 23 } ss mm aa bel met kk 6 G 0 0 (xQ bel G (fun r t => r = none ∧ t = (rSingle σ i v f rr)) aa ss) 0 [(0, .ref (G.2.1 (61 + i))), (1, .int v), (2, .long f), (4, .long rr)] [] σ
  refine x_aload_n X dX5_setSingle_0 rfl ?_
  refine x_iload_n X dX5_setSingle_1 rfl ?_
  refine x_lload_n X dX5_setSingle_2 rfl ?_
  refine cv_X5_29 X (c_X5_setFactor hi) dX5_setSingle_3 (xck_row hi) ⟨by decide, by decide, by decide, by decide⟩ rfl rfl (Nat.le_of_ble_eq_true rfl) (xk_v ?_)
  refine x_aload_n X dX5_setSingle_6 rfl ?_
  refine x_lload X dX5_setSingle_7 rfl ?_
  refine pf_X5_15 X dX5_setSingle_9 (xck_row hi) ?_
  exact x_vret X dX5_setSingle_12 (⟨rfl, by first | rfl | simp [*]⟩)

set_option maxHeartbeats 4000000 in
set_option maxRecDepth 100000 in
theorem c_X5_setLimit {l : Launch} {G : xG} {σ : xS} {i : Nat} (hi : i < 201) {x : Int64} : xFv l G yX5_setLimit cX5_setLimit 3 (Option.none : Option Jvm.ClassFile.FieldType) 0 0 [.ref (G.2.1 (61 + i)), .long x] σ (rLimit σ i x) := by
  refine xM.of (by decide) (Nat.le_of_ble_eq_true rfl) (fun pp ee ss mm aa bel met kk X => ?_)
  have X : xC pp ss mm met kk cX5_setLimit 3 RX5 (Option.none : Option Jvm.ClassFile.FieldType) G := X
  show xW pp l ee { frames := 0, cells := 0, slots := 0, locals := 0 } ss mm aa bel met kk 3 G 0 0 (xQ bel G (fun r t => r = none ∧ t = (rLimit σ i x)) aa ss) 0 [(0, .ref (G.2.1 (61 + i))), (1, .long x)] [] σ
  refine x_aload_n X dX5_setLimit_0 rfl ?_
  refine x_iconst (v := 1) X dX5_setLimit_1 (by decide) ?_
  refine pf_X5_22 X dX5_setLimit_2 (xck_row hi) (Or.inr rfl) ?_
  refine x_aload_n X dX5_setLimit_5 rfl ?_
  refine x_lload_n X dX5_setLimit_6 rfl ?_
  refine pf_X5_26 X dX5_setLimit_7 (xck_row hi) ?_
  exact x_vret X dX5_setLimit_10 (⟨rfl, by first | rfl | simp [*]⟩)

set_option maxHeartbeats 4000000 in
set_option maxRecDepth 100000 in
theorem c_X5_inheritAssumptions {l : Launch} {G : xG} {σ : xS} {i j : Nat} (hi : i < 201) (hj : j < 201) : xFv l G yX5_inheritAssumptions cX5_inheritAssumptions 2 (Option.none : Option Jvm.ClassFile.FieldType) 0 0 [.ref (G.2.1 (61 + i)), .ref (G.2.1 (61 + j))] σ (rInhA σ i j) := by
  refine xM.of (by decide) (Nat.le_of_ble_eq_true rfl) (fun pp ee ss mm aa bel met kk X => ?_)
  have X : xC pp ss mm met kk cX5_inheritAssumptions 2 RX5 (Option.none : Option Jvm.ClassFile.FieldType) G := X
  show xW pp l ee { frames := 0, cells := 0, slots := 0, locals := 0 } ss mm aa bel met kk 2 G 0 0 (xQ bel G (fun r t => r = none ∧ t = (rInhA σ i j)) aa ss) 0 [(0, .ref (G.2.1 (61 + i))), (1, .ref (G.2.1 (61 + j)))] [] σ
  refine x_aload_n X dX5_inheritAssumptions_0 rfl ?_
  refine x_dup X dX5_inheritAssumptions_1 rfl ?_
  refine gf_X5_19 X dX5_inheritAssumptions_2 (xck_row hi) ?_
  refine x_aload_n X dX5_inheritAssumptions_5 rfl ?_
  refine gf_X5_19 X dX5_inheritAssumptions_6 (xck_row hj) ?_
  refine x_lor X dX5_inheritAssumptions_9 ?_
  refine pf_X5_19 X dX5_inheritAssumptions_10 (xck_row hi) ?_
  exact x_vret X dX5_inheritAssumptions_13 (⟨rfl, by first | rfl | simp [*]⟩)

set_option maxHeartbeats 4000000 in
set_option maxRecDepth 100000 in
theorem c_X5_inheritLimit {l : Launch} {G : xG} {σ : xS} {i j : Nat} (hi : i < 201) (hj : j < 201) : xFv l G yX5_inheritLimit cX5_inheritLimit 2 (Option.none : Option Jvm.ClassFile.FieldType) 1 22 [.ref (G.2.1 (61 + i)), .ref (G.2.1 (61 + j))] σ (rInhL σ i j) := by
  refine xM.of (by decide) (Nat.le_of_ble_eq_true rfl) (fun pp ee ss mm aa bel met kk X => ?_)
  have X : xC pp ss mm met kk cX5_inheritLimit 2 RX5 (Option.none : Option Jvm.ClassFile.FieldType) G := X
  show xW pp l ee { frames := 1, cells := 0, slots := 0, locals := 22 } ss mm aa bel met kk 2 G 0 0 (xQ bel G (fun r t => r = none ∧ t = (rInhL σ i j)) aa ss) 0 [(0, .ref (G.2.1 (61 + i))), (1, .ref (G.2.1 (61 + j)))] [] σ
  refine x_aload_n X dX5_inheritLimit_0 rfl ?_
  refine gf_X5_22 X dX5_inheritLimit_1 (xck_row hj) ?_
  refine x_ifeq (tgt := 34) X dX5_inheritLimit_4 (by decide) (fun h4 => ?_) (fun h4 => ?_)
  · skip
    exact x_vret X dX5_inheritLimit_34 (⟨rfl, by simp [rInhL, *]⟩)
  · skip
    refine x_aload_n X dX5_inheritLimit_7 rfl ?_
    refine gf_X5_22 X dX5_inheritLimit_8 (xck_row hi) ?_
    refine x_ifeq (tgt := 26) X dX5_inheritLimit_11 (by decide) (fun h11 => ?_) (fun h11 => ?_)
    · skip
      refine x_aload_n X dX5_inheritLimit_26 rfl ?_
      refine x_aload_n X dX5_inheritLimit_27 rfl ?_
      refine gf_X5_26 X dX5_inheritLimit_28 (xck_row hj) ?_
      refine cv_X5_33 X (c_X5_setLimit hi) dX5_inheritLimit_31 (xck_row hi) ⟨by decide, by decide, by decide, by decide⟩ rfl rfl (Nat.le_of_ble_eq_true rfl) (xk_v ?_)
      exact x_vret X dX5_inheritLimit_34 (⟨rfl, by simp [rInhL, *]⟩)
    · skip
      refine x_aload_n X dX5_inheritLimit_14 rfl ?_
      refine gf_X5_26 X dX5_inheritLimit_15 (xck_row hj) ?_
      refine x_aload_n X dX5_inheritLimit_18 rfl ?_
      refine gf_X5_26 X dX5_inheritLimit_19 (xck_row hi) ?_
      refine x_lcmp X dX5_inheritLimit_22 ?_
      refine x_ifge (tgt := 34) X dX5_inheritLimit_23 (by decide) (fun h23 => ?_) (fun h23 => ?_)
      · skip
        rw [lg_cmp_ge] at h23
        exact x_vret X dX5_inheritLimit_34 (⟨rfl, by simp [rInhL, *]⟩)
      · skip
        rw [lg_cmp_ge] at h23
        refine x_aload_n X dX5_inheritLimit_26 rfl ?_
        refine x_aload_n X dX5_inheritLimit_27 rfl ?_
        refine gf_X5_26 X dX5_inheritLimit_28 (xck_row hj) ?_
        refine cv_X5_33 X (c_X5_setLimit hi) dX5_inheritLimit_31 (xck_row hi) ⟨by decide, by decide, by decide, by decide⟩ rfl rfl (Nat.le_of_ble_eq_true rfl) (xk_v ?_)
        exact x_vret X dX5_inheritLimit_34 (⟨rfl, by simp [rInhL, *]⟩)

set_option maxHeartbeats 4000000 in
set_option maxRecDepth 100000 in
theorem c_X5_addTimes {l : Launch} {G : xG} {σ : xS} {i j : Nat} (hi : i < 201) (hj : j < 201) {o : Int64} : xFv l G yX5_addTimes cX5_addTimes 5 (Option.none : Option Jvm.ClassFile.FieldType) 0 0 [.ref (G.2.1 (61 + i)), .ref (G.2.1 (61 + j)), .long o] σ (rAddT σ i j o) := by
  refine xM.of (by decide) (Nat.le_of_ble_eq_true rfl) (fun pp ee ss mm aa bel met kk X => ?_)
  have X : xC pp ss mm met kk cX5_addTimes 5 RX5 (Option.none : Option Jvm.ClassFile.FieldType) G := X
  show xW pp l ee { frames := 0, cells := 0, slots := 0, locals := 0 } ss mm aa bel met kk 5 G 0 0 (xQ bel G (fun r t => r = none ∧ t = (rAddT σ i j o)) aa ss) 0 [(0, .ref (G.2.1 (61 + i))), (1, .ref (G.2.1 (61 + j))), (2, .long o)] [] σ
  refine x_iconst (v := 0) X dX5_addTimes_0 (by decide) ?_
  refine x_istore (lv' := [(4, .int 0), (0, .ref (G.2.1 (61 + i))), (1, .ref (G.2.1 (61 + j))), (2, .long o)]) X dX5_addTimes_1 (by decide) rfl ?_
  have lp3 : ∀ (NN3 : Nat) (n : Nat) (hn : n ≤ 8), 8 - n = NN3 → xW pp l ee { frames := 0, cells := 0, slots := 0, locals := 0 } ss mm aa bel met kk 5 G 0 0 (xQ bel G (fun r t => r = none ∧ t = (rAddT σ i j o)) aa ss) 3 [(4, .int (nI n)), (2, .long o), (1, .ref (G.2.1 (61 + j))), (0, .ref (G.2.1 (61 + i)))] [] (rAdd σ i j o n) := by
    intro NN3
    induction NN3 using Nat.strongRecOn with
    | ind NN3 ih3 =>
      intro n hn hNN3
      refine x_iload X dX5_addTimes_3 rfl ?_
      refine x_bipush (v := 8) X dX5_addTimes_5 (by decide) ?_
      refine x_icmpge (tgt := 35) X dX5_addTimes_7 (by decide) (fun h7 => ?_) (fun h7 => ?_)
      · skip
        rw [xb_ge (x := nI n) (y := 8) (a := n) (b := 8) rfl rfl (by omega) (by omega)] at h7
        obtain rfl : n = 8 := by omega
        refine x_aload_n X dX5_addTimes_35 rfl ?_
        refine x_dup X dX5_addTimes_36 rfl ?_
        refine gf_X5_15 X dX5_addTimes_37 (xck_row hi) ?_
        refine x_lload_n X dX5_addTimes_40 rfl ?_
        refine x_aload_n X dX5_addTimes_41 rfl ?_
        refine gf_X5_15 X dX5_addTimes_42 (xck_row hj) ?_
        refine x_lmul X dX5_addTimes_45 ?_
        refine x_ladd X dX5_addTimes_46 ?_
        refine pf_X5_15 X dX5_addTimes_47 (xck_row hi) ?_
        exact x_vret X dX5_addTimes_50 (⟨rfl, by first | rfl | simp [*]⟩)
      · skip
        rw [xb_ge (x := nI n) (y := 8) (a := n) (b := 8) rfl rfl (by omega) (by omega)] at h7
        refine x_aload_n X dX5_addTimes_10 rfl ?_
        refine gf_X5_9 (k' := 262 + i) X dX5_addTimes_11 (xck_row hi) xrf_row ?_
        refine x_iload X dX5_addTimes_14 rfl ?_
        refine x_dup2 X dX5_addTimes_16 rfl rfl ?_
        refine x_laldN X dX5_addTimes_17 (xck_fac hi) (by omega) (by omega) ?_
        refine x_lload_n X dX5_addTimes_18 rfl ?_
        refine x_aload_n X dX5_addTimes_19 rfl ?_
        refine gf_X5_9 (k' := 262 + j) X dX5_addTimes_20 (xck_row hj) xrf_row ?_
        refine x_iload X dX5_addTimes_23 rfl ?_
        refine x_laldN X dX5_addTimes_25 (xck_fac hj) (by omega) (by omega) ?_
        refine x_lmul X dX5_addTimes_26 ?_
        refine x_ladd X dX5_addTimes_27 ?_
        refine x_lastN X dX5_addTimes_28 (xck_fac hi) (by omega) (by omega) ?_
        refine x_iinc (k := 0) (v := nI (n + 1)) (lv' := [(4, .int (nI (n + 1))), (2, .long o), (1, .ref (G.2.1 (61 + j))), (0, .ref (G.2.1 (61 + i)))]) X dX5_addTimes_29 rfl (xn_inc _) (by decide) rfl ?_
        refine x_goto (tgt := 3) X dX5_addTimes_32 (by decide) ?_
        refine x_pick [0, 1, 2, 3] rfl ?_
        exact ih3 _ (by omega) (n + 1) (by omega) rfl
  refine x_pick [0, 3, 2, 1] rfl ?_
  exact lp3 _ 0 (by omega) rfl

set_option maxHeartbeats 4000000 in
set_option maxRecDepth 100000 in
theorem c_X5_isMadeOfZeros {l : Launch} {G : xG} {σ : xS} {i : Nat} (hi : i < 201) : xFi l G yX5_isMadeOfZeros cX5_isMadeOfZeros 2 (Option.some Jvm.ClassFile.FieldType.boolean) 0 0 [.ref (G.2.1 (61 + i))] σ (xB (rZeros σ i)) (σ) := by
  refine xM.of (by decide) (Nat.le_of_ble_eq_true rfl) (fun pp ee ss mm aa bel met kk X => ?_)
  have X : xC pp ss mm met kk cX5_isMadeOfZeros 2 RX5 (Option.some Jvm.ClassFile.FieldType.boolean) G := X
  show xW pp l ee { frames := 0, cells := 0, slots := 0, locals := 0 } ss mm aa bel met kk 2 G 0 0 (xQ bel G (fun r t => r = some (.int (xB (rZeros σ i))) ∧ t = (σ)) aa ss) 0 [(0, .ref (G.2.1 (61 + i)))] [] σ
  refine x_iconst (v := 0) X dX5_isMadeOfZeros_0 (by decide) ?_
  refine x_istore_n (lv' := [(1, .int 0), (0, .ref (G.2.1 (61 + i)))]) X dX5_isMadeOfZeros_1 rfl (by decide) rfl ?_
  have lp2 : ∀ (NN2 : Nat) (n : Nat) (hn : n ≤ 8) (hz : ∀ v, v < n → xgL σ (262 + i) v = 0), 8 - n = NN2 → xW pp l ee { frames := 0, cells := 0, slots := 0, locals := 0 } ss mm aa bel met kk 2 G 0 0 (xQ bel G (fun r t => r = some (.int (xB (rZeros σ i))) ∧ t = (σ)) aa ss) 2 [(1, .int (nI n)), (0, .ref (G.2.1 (61 + i)))] [] (σ) := by
    intro NN2
    induction NN2 using Nat.strongRecOn with
    | ind NN2 ih2 =>
      intro n hn hz hNN2
      refine x_iload_n X dX5_isMadeOfZeros_2 rfl ?_
      refine x_bipush (v := 8) X dX5_isMadeOfZeros_3 (by decide) ?_
      refine x_icmpge (tgt := 27) X dX5_isMadeOfZeros_5 (by decide) (fun h5 => ?_) (fun h5 => ?_)
      · skip
        rw [xb_ge (x := nI n) (y := 8) (a := n) (b := 8) rfl rfl (by omega) (by omega)] at h5
        obtain rfl : n = 8 := by omega
        refine x_iconst (v := 1) X dX5_isMadeOfZeros_27 (by decide) ?_
        exact x_zret X dX5_isMadeOfZeros_28 (Or.inr rfl) (xp_i (by exact (xB_t hz).symm) (by first | rfl | simp [*]))
      · skip
        rw [xb_ge (x := nI n) (y := 8) (a := n) (b := 8) rfl rfl (by omega) (by omega)] at h5
        refine x_aload_n X dX5_isMadeOfZeros_8 rfl ?_
        refine gf_X5_9 (k' := 262 + i) X dX5_isMadeOfZeros_9 (xck_row hi) xrf_row ?_
        refine x_iload_n X dX5_isMadeOfZeros_12 rfl ?_
        refine x_laldN X dX5_isMadeOfZeros_13 (xck_fac hi) (by omega) (by omega) ?_
        refine x_lconst (v := 0) X dX5_isMadeOfZeros_14 (by decide) ?_
        refine x_lcmp X dX5_isMadeOfZeros_15 ?_
        refine x_ifeq (tgt := 21) X dX5_isMadeOfZeros_16 (by decide) (fun h16 => ?_) (fun h16 => ?_)
        · skip
          rw [lg_cmp_eq] at h16
          have hz2 := lt_s hz h16
          refine x_iinc (k := 0) (v := nI (n + 1)) (lv' := [(1, .int (nI (n + 1))), (0, .ref (G.2.1 (61 + i)))]) X dX5_isMadeOfZeros_21 rfl (xn_inc _) (by decide) rfl ?_
          refine x_goto (tgt := 2) X dX5_isMadeOfZeros_24 (by decide) ?_
          refine x_pick [0, 1] rfl ?_
          exact ih2 _ (by omega) (n + 1) (by omega) hz2 rfl
        · skip
          rw [lg_cmp_eq] at h16
          refine x_iconst (v := 0) X dX5_isMadeOfZeros_19 (by decide) ?_
          exact x_zret X dX5_isMadeOfZeros_20 (Or.inl rfl) (xp_i (by exact (xB_f (fun q => h16 (q n (by omega)))).symm) (by first | rfl | simp [*]))
  refine x_pick [0, 1] rfl ?_
  exact lp2 _ 0 (by omega) lt_0 rfl

set_option maxHeartbeats 4000000 in
set_option maxRecDepth 100000 in
theorem c_X5_isImpossible {l : Launch} {G : xG} {σ : xS} {i : Nat} (hi : i < 201) : xFi l G yX5_isImpossible cX5_isImpossible 1 (Option.some Jvm.ClassFile.FieldType.boolean) 1 21 [.ref (G.2.1 (61 + i))] σ (xB (rImp σ i)) (σ) := by
  refine xM.of (by decide) (Nat.le_of_ble_eq_true rfl) (fun pp ee ss mm aa bel met kk X => ?_)
  have X : xC pp ss mm met kk cX5_isImpossible 1 RX5 (Option.some Jvm.ClassFile.FieldType.boolean) G := X
  show xW pp l ee { frames := 1, cells := 0, slots := 0, locals := 21 } ss mm aa bel met kk 1 G 0 0 (xQ bel G (fun r t => r = some (.int (xB (rImp σ i))) ∧ t = (σ)) aa ss) 0 [(0, .ref (G.2.1 (61 + i)))] [] σ
  refine x_aload_n X dX5_isImpossible_0 rfl ?_
  refine gf_X5_15 X dX5_isImpossible_1 (xck_row hi) ?_
  refine x_lconst (v := 0) X dX5_isImpossible_4 (by decide) ?_
  refine x_lcmp X dX5_isImpossible_5 ?_
  refine x_ifge (tgt := 20) X dX5_isImpossible_6 (by decide) (fun h6 => ?_) (fun h6 => ?_)
  · skip
    rw [lg_cmp_ge] at h6
    refine x_iconst (v := 0) X dX5_isImpossible_20 (by decide) ?_
    exact x_zret X dX5_isImpossible_21 (Or.inl rfl) (xp_i (by first | exact (xB_t ⟨xi64_nle.mp h6, h13⟩).symm | exact (xB_f (fun q => h13 q.2)).symm | exact (xB_f (fun q => xi64_nle.mpr q.1 h6)).symm) (by first | rfl | simp [*]))
  · skip
    rw [lg_cmp_ge] at h6
    refine x_aload_n X dX5_isImpossible_9 rfl ?_
    refine cv_X5_37 X (c_X5_isMadeOfZeros hi) dX5_isImpossible_10 (xck_row hi) ⟨by decide, by decide, by decide, by decide⟩ rfl rfl (Nat.le_of_ble_eq_true rfl) (xk_i ?_)
    refine x_ifeq (tgt := 20) X dX5_isImpossible_13 (by decide) (fun h13 => ?_) (fun h13 => ?_)
    · skip
      rw [xB_0] at h13
      refine x_iconst (v := 0) X dX5_isImpossible_20 (by decide) ?_
      exact x_zret X dX5_isImpossible_21 (Or.inl rfl) (xp_i (by first | exact (xB_t ⟨xi64_nle.mp h6, h13⟩).symm | exact (xB_f (fun q => h13 q.2)).symm | exact (xB_f (fun q => xi64_nle.mpr q.1 h6)).symm) (by first | rfl | simp [*]))
    · skip
      rw [xB_0, Classical.not_not] at h13
      refine x_iconst (v := 1) X dX5_isImpossible_16 (by decide) ?_
      refine x_goto (tgt := 21) X dX5_isImpossible_17 (by decide) ?_
      exact x_zret X dX5_isImpossible_21 (Or.inr rfl) (xp_i (by first | exact (xB_t ⟨xi64_nle.mp h6, h13⟩).symm | exact (xB_f (fun q => h13 q.2)).symm | exact (xB_f (fun q => xi64_nle.mpr q.1 h6)).symm) (by first | rfl | simp [*]))

set_option maxHeartbeats 4000000 in
set_option maxRecDepth 100000 in
theorem c_X5_hasFactorsOf {l : Launch} {G : xG} {σ : xS} {i j : Nat} (hi : i < 201) (hj : j < 201) : xFi l G yX5_hasFactorsOf cX5_hasFactorsOf 3 (Option.some Jvm.ClassFile.FieldType.boolean) 0 0 [.ref (G.2.1 (61 + i)), .ref (G.2.1 (61 + j))] σ (xB (rSame σ i j)) (σ) := by
  refine xM.of (by decide) (Nat.le_of_ble_eq_true rfl) (fun pp ee ss mm aa bel met kk X => ?_)
  have X : xC pp ss mm met kk cX5_hasFactorsOf 3 RX5 (Option.some Jvm.ClassFile.FieldType.boolean) G := X
  show xW pp l ee { frames := 0, cells := 0, slots := 0, locals := 0 } ss mm aa bel met kk 3 G 0 0 (xQ bel G (fun r t => r = some (.int (xB (rSame σ i j))) ∧ t = (σ)) aa ss) 0 [(0, .ref (G.2.1 (61 + i))), (1, .ref (G.2.1 (61 + j)))] [] σ
  refine x_iconst (v := 0) X dX5_hasFactorsOf_0 (by decide) ?_
  refine x_istore_n (lv' := [(2, .int 0), (0, .ref (G.2.1 (61 + i))), (1, .ref (G.2.1 (61 + j)))]) X dX5_hasFactorsOf_1 rfl (by decide) rfl ?_
  have lp2 : ∀ (NN2 : Nat) (n : Nat) (hn : n ≤ 8) (hz : ∀ v, v < n → xgL σ (262 + i) v = xgL σ (262 + j) v), 8 - n = NN2 → xW pp l ee { frames := 0, cells := 0, slots := 0, locals := 0 } ss mm aa bel met kk 3 G 0 0 (xQ bel G (fun r t => r = some (.int (xB (rSame σ i j))) ∧ t = (σ)) aa ss) 2 [(2, .int (nI n)), (1, .ref (G.2.1 (61 + j))), (0, .ref (G.2.1 (61 + i)))] [] (σ) := by
    intro NN2
    induction NN2 using Nat.strongRecOn with
    | ind NN2 ih2 =>
      intro n hn hz hNN2
      refine x_iload_n X dX5_hasFactorsOf_2 rfl ?_
      refine x_bipush (v := 8) X dX5_hasFactorsOf_3 (by decide) ?_
      refine x_icmpge (tgt := 32) X dX5_hasFactorsOf_5 (by decide) (fun h5 => ?_) (fun h5 => ?_)
      · skip
        rw [xb_ge (x := nI n) (y := 8) (a := n) (b := 8) rfl rfl (by omega) (by omega)] at h5
        obtain rfl : n = 8 := by omega
        refine x_iconst (v := 1) X dX5_hasFactorsOf_32 (by decide) ?_
        exact x_zret X dX5_hasFactorsOf_33 (Or.inr rfl) (xp_i (by exact (xB_t hz).symm) (by first | rfl | simp [*]))
      · skip
        rw [xb_ge (x := nI n) (y := 8) (a := n) (b := 8) rfl rfl (by omega) (by omega)] at h5
        refine x_aload_n X dX5_hasFactorsOf_8 rfl ?_
        refine gf_X5_9 (k' := 262 + i) X dX5_hasFactorsOf_9 (xck_row hi) xrf_row ?_
        refine x_iload_n X dX5_hasFactorsOf_12 rfl ?_
        refine x_laldN X dX5_hasFactorsOf_13 (xck_fac hi) (by omega) (by omega) ?_
        refine x_aload_n X dX5_hasFactorsOf_14 rfl ?_
        refine gf_X5_9 (k' := 262 + j) X dX5_hasFactorsOf_15 (xck_row hj) xrf_row ?_
        refine x_iload_n X dX5_hasFactorsOf_18 rfl ?_
        refine x_laldN X dX5_hasFactorsOf_19 (xck_fac hj) (by omega) (by omega) ?_
        refine x_lcmp X dX5_hasFactorsOf_20 ?_
        refine x_ifeq (tgt := 26) X dX5_hasFactorsOf_21 (by decide) (fun h21 => ?_) (fun h21 => ?_)
        · skip
          rw [lg_cmp_eq] at h21
          have hz2 := lt_s hz h21
          refine x_iinc (k := 0) (v := nI (n + 1)) (lv' := [(2, .int (nI (n + 1))), (1, .ref (G.2.1 (61 + j))), (0, .ref (G.2.1 (61 + i)))]) X dX5_hasFactorsOf_26 rfl (xn_inc _) (by decide) rfl ?_
          refine x_goto (tgt := 2) X dX5_hasFactorsOf_29 (by decide) ?_
          refine x_pick [0, 1, 2] rfl ?_
          exact ih2 _ (by omega) (n + 1) (by omega) hz2 rfl
        · skip
          rw [lg_cmp_eq] at h21
          refine x_iconst (v := 0) X dX5_hasFactorsOf_24 (by decide) ?_
          exact x_zret X dX5_hasFactorsOf_25 (Or.inl rfl) (xp_i (by exact (xB_f (fun q => h21 (q n (by omega)))).symm) (by first | rfl | simp [*]))
  refine x_pick [0, 2, 1] rfl ?_
  exact lp2 _ 0 (by omega) lt_0 rfl

set_option maxHeartbeats 4000000 in
set_option maxRecDepth 100000 in
theorem c_X5_isTooGreat {l : Launch} {G : xG} {σ : xS} {i : Nat} (hi : i < 201) : xFi l G yX5_isTooGreat cX5_isTooGreat 2 (Option.some Jvm.ClassFile.FieldType.boolean) 0 0 [.ref (G.2.1 (61 + i))] σ (xB (¬ rFits σ i)) (σ) := by
  refine xM.of (by decide) (Nat.le_of_ble_eq_true rfl) (fun pp ee ss mm aa bel met kk X => ?_)
  have X : xC pp ss mm met kk cX5_isTooGreat 2 RX5 (Option.some Jvm.ClassFile.FieldType.boolean) G := X
  show xW pp l ee { frames := 0, cells := 0, slots := 0, locals := 0 } ss mm aa bel met kk 2 G 0 0 (xQ bel G (fun r t => r = some (.int (xB (¬ rFits σ i))) ∧ t = (σ)) aa ss) 0 [(0, .ref (G.2.1 (61 + i)))] [] σ
  refine x_iconst (v := 0) X dX5_isTooGreat_0 (by decide) ?_
  refine x_istore_n (lv' := [(1, .int 0), (0, .ref (G.2.1 (61 + i)))]) X dX5_isTooGreat_1 rfl (by decide) rfl ?_
  have lp2 : ∀ (NN2 : Nat) (n : Nat) (hn : n ≤ 8) (hz : ∀ v, v < n → -1000000000000 ≤ xgL σ (262 + i) v ∧ xgL σ (262 + i) v ≤ 1000000000000), 8 - n = NN2 → xW pp l ee { frames := 0, cells := 0, slots := 0, locals := 0 } ss mm aa bel met kk 2 G 0 0 (xQ bel G (fun r t => r = some (.int (xB (¬ rFits σ i))) ∧ t = (σ)) aa ss) 2 [(1, .int (nI n)), (0, .ref (G.2.1 (61 + i)))] [] (σ) := by
    intro NN2
    induction NN2 using Nat.strongRecOn with
    | ind NN2 ih2 =>
      intro n hn hz hNN2
      refine x_iload_n X dX5_isTooGreat_2 rfl ?_
      refine x_bipush (v := 8) X dX5_isTooGreat_3 (by decide) ?_
      refine x_icmpge (tgt := 42) X dX5_isTooGreat_5 (by decide) (fun h5 => ?_) (fun h5 => ?_)
      · skip
        rw [xb_ge (x := nI n) (y := 8) (a := n) (b := 8) rfl rfl (by omega) (by omega)] at h5
        obtain rfl : n = 8 := by omega
        refine x_aload_n X dX5_isTooGreat_42 rfl ?_
        refine gf_X5_15 X dX5_isTooGreat_43 (xck_row hi) ?_
        refine x_ldc2 X dX5_isTooGreat_46 wk_X5_41 ?_
        refine x_lcmp X dX5_isTooGreat_49 ?_
        refine x_iflt (tgt := 64) X dX5_isTooGreat_50 (by decide) (fun h50 => ?_) (fun h50 => ?_)
        · skip
          rw [lg_cmp_lt] at h50
          refine x_iconst (v := 1) X dX5_isTooGreat_64 (by decide) ?_
          refine x_goto (tgt := 69) X dX5_isTooGreat_65 (by decide) ?_
          exact x_zret X dX5_isTooGreat_69 (Or.inr rfl) (xp_i (by first | exact (xB_t (fun q => xi64_nlt.mpr q.2.1 h50)).symm | exact (xB_t (fun q => h61 q.2.2)).symm | exact (xB_f (fun q => q ⟨hz, xi64_nlt.mp h50, h61⟩)).symm) (by first | rfl | simp [*]))
        · skip
          rw [lg_cmp_lt] at h50
          refine x_aload_n X dX5_isTooGreat_53 rfl ?_
          refine gf_X5_15 X dX5_isTooGreat_54 (xck_row hi) ?_
          refine x_ldc2 X dX5_isTooGreat_57 wk_X5_43 ?_
          refine x_lcmp X dX5_isTooGreat_60 ?_
          refine x_ifle (tgt := 68) X dX5_isTooGreat_61 (by decide) (fun h61 => ?_) (fun h61 => ?_)
          · skip
            rw [lg_cmp_le] at h61
            refine x_iconst (v := 0) X dX5_isTooGreat_68 (by decide) ?_
            exact x_zret X dX5_isTooGreat_69 (Or.inl rfl) (xp_i (by first | exact (xB_t (fun q => xi64_nlt.mpr q.2.1 h50)).symm | exact (xB_t (fun q => h61 q.2.2)).symm | exact (xB_f (fun q => q ⟨hz, xi64_nlt.mp h50, h61⟩)).symm) (by first | rfl | simp [*]))
          · skip
            rw [lg_cmp_le] at h61
            refine x_iconst (v := 1) X dX5_isTooGreat_64 (by decide) ?_
            refine x_goto (tgt := 69) X dX5_isTooGreat_65 (by decide) ?_
            exact x_zret X dX5_isTooGreat_69 (Or.inr rfl) (xp_i (by first | exact (xB_t (fun q => xi64_nlt.mpr q.2.1 h50)).symm | exact (xB_t (fun q => h61 q.2.2)).symm | exact (xB_f (fun q => q ⟨hz, xi64_nlt.mp h50, h61⟩)).symm) (by first | rfl | simp [*]))
      · skip
        rw [xb_ge (x := nI n) (y := 8) (a := n) (b := 8) rfl rfl (by omega) (by omega)] at h5
        refine x_aload_n X dX5_isTooGreat_8 rfl ?_
        refine gf_X5_9 (k' := 262 + i) X dX5_isTooGreat_9 (xck_row hi) xrf_row ?_
        refine x_iload_n X dX5_isTooGreat_12 rfl ?_
        refine x_laldN X dX5_isTooGreat_13 (xck_fac hi) (by omega) (by omega) ?_
        refine x_ldc2 X dX5_isTooGreat_14 wk_X5_41 ?_
        refine x_lcmp X dX5_isTooGreat_17 ?_
        refine x_iflt (tgt := 34) X dX5_isTooGreat_18 (by decide) (fun h18 => ?_) (fun h18 => ?_)
        · skip
          rw [lg_cmp_lt] at h18
          refine x_iconst (v := 1) X dX5_isTooGreat_34 (by decide) ?_
          exact x_zret X dX5_isTooGreat_35 (Or.inr rfl) (xp_i (by first | exact (xB_t (fun q => xi64_nlt.mpr (q.1 n (by omega)).1 h18)).symm | exact (xB_t (fun q => h31 (q.1 n (by omega)).2)).symm) (by first | rfl | simp [*]))
        · skip
          rw [lg_cmp_lt] at h18
          refine x_aload_n X dX5_isTooGreat_21 rfl ?_
          refine gf_X5_9 (k' := 262 + i) X dX5_isTooGreat_22 (xck_row hi) xrf_row ?_
          refine x_iload_n X dX5_isTooGreat_25 rfl ?_
          refine x_laldN X dX5_isTooGreat_26 (xck_fac hi) (by omega) (by omega) ?_
          refine x_ldc2 X dX5_isTooGreat_27 wk_X5_43 ?_
          refine x_lcmp X dX5_isTooGreat_30 ?_
          refine x_ifle (tgt := 36) X dX5_isTooGreat_31 (by decide) (fun h31 => ?_) (fun h31 => ?_)
          · skip
            rw [lg_cmp_le] at h31
            have hz2 := lt_s hz ⟨xi64_nlt.mp h18, h31⟩
            refine x_iinc (k := 0) (v := nI (n + 1)) (lv' := [(1, .int (nI (n + 1))), (0, .ref (G.2.1 (61 + i)))]) X dX5_isTooGreat_36 rfl (xn_inc _) (by decide) rfl ?_
            refine x_goto (tgt := 2) X dX5_isTooGreat_39 (by decide) ?_
            refine x_pick [0, 1] rfl ?_
            exact ih2 _ (by omega) (n + 1) (by omega) hz2 rfl
          · skip
            rw [lg_cmp_le] at h31
            refine x_iconst (v := 1) X dX5_isTooGreat_34 (by decide) ?_
            exact x_zret X dX5_isTooGreat_35 (Or.inr rfl) (xp_i (by first | exact (xB_t (fun q => xi64_nlt.mpr (q.1 n (by omega)).1 h18)).symm | exact (xB_t (fun q => h31 (q.1 n (by omega)).2)).symm) (by first | rfl | simp [*]))
  refine x_pick [0, 1] rfl ?_
  exact lp2 _ 0 (by omega) lt_0 rfl

set_option maxHeartbeats 4000000 in
set_option maxRecDepth 100000 in
theorem c_X5_isBranch {l : Launch} {G : xG} {σ : xS} {i : Nat} (hi : i < 201) {x : Int32} : xFi l G yX5_isBranch cX5_isBranch 2 (Option.some Jvm.ClassFile.FieldType.boolean) 0 0 [.ref (G.2.1 (61 + i)), .int x] σ (xB (xgI σ (61 + i) 5 = 6 ∧ xgI σ (61 + i) 10 = x)) (σ) := by
  refine xM.of (by decide) (Nat.le_of_ble_eq_true rfl) (fun pp ee ss mm aa bel met kk X => ?_)
  have X : xC pp ss mm met kk cX5_isBranch 2 RX5 (Option.some Jvm.ClassFile.FieldType.boolean) G := X
  show xW pp l ee { frames := 0, cells := 0, slots := 0, locals := 0 } ss mm aa bel met kk 2 G 0 0 (xQ bel G (fun r t => r = some (.int (xB (xgI σ (61 + i) 5 = 6 ∧ xgI σ (61 + i) 10 = x))) ∧ t = (σ)) aa ss) 0 [(0, .ref (G.2.1 (61 + i))), (1, .int x)] [] σ
  refine x_aload_n X dX5_isBranch_0 rfl ?_
  refine gf_X5_45 X dX5_isBranch_1 (xck_row hi) ?_
  refine x_bipush (v := 6) X dX5_isBranch_4 (by decide) ?_
  refine x_icmpne (tgt := 21) X dX5_isBranch_6 (by decide) (fun h6 => ?_) (fun h6 => ?_)
  · skip
    refine x_iconst (v := 0) X dX5_isBranch_21 (by decide) ?_
    exact x_zret X dX5_isBranch_22 (Or.inl rfl) (xp_i (by first | exact (xB_t ⟨h6, h14⟩).symm | exact (xB_f (fun q => h14 q.2)).symm | exact (xB_f (fun q => h6 q.1)).symm) (by first | rfl | simp [*]))
  · skip
    refine x_aload_n X dX5_isBranch_9 rfl ?_
    refine gf_X5_49 X dX5_isBranch_10 (xck_row hi) ?_
    refine x_iload_n X dX5_isBranch_13 rfl ?_
    refine x_icmpne (tgt := 21) X dX5_isBranch_14 (by decide) (fun h14 => ?_) (fun h14 => ?_)
    · skip
      refine x_iconst (v := 0) X dX5_isBranch_21 (by decide) ?_
      exact x_zret X dX5_isBranch_22 (Or.inl rfl) (xp_i (by first | exact (xB_t ⟨h6, h14⟩).symm | exact (xB_f (fun q => h14 q.2)).symm | exact (xB_f (fun q => h6 q.1)).symm) (by first | rfl | simp [*]))
    · skip
      refine x_iconst (v := 1) X dX5_isBranch_17 (by decide) ?_
      refine x_goto (tgt := 22) X dX5_isBranch_18 (by decide) ?_
      exact x_zret X dX5_isBranch_22 (Or.inr rfl) (xp_i (by first | exact (xB_t ⟨h6, h14⟩).symm | exact (xB_f (fun q => h14 q.2)).symm | exact (xB_f (fun q => h6 q.1)).symm) (by first | rfl | simp [*]))

set_option maxHeartbeats 4000000 in
set_option maxRecDepth 100000 in
theorem c_X5_isKeptBy {l : Launch} {G : xG} {σ : xS} {i b : Nat} (hi : i < 201) (hb : xck b = (10, 8)) : xFi l G yX5_isKeptBy cX5_isKeptBy 5 (Option.some Jvm.ClassFile.FieldType.boolean) 1 21 [.ref (G.2.1 (61 + i)), .ref (G.2.1 b)] σ (xB (rKept σ i b)) (σ) := by
  refine xM.of (by decide) (Nat.le_of_ble_eq_true rfl) (fun pp ee ss mm aa bel met kk X => ?_)
  have X : xC pp ss mm met kk cX5_isKeptBy 5 RX5 (Option.some Jvm.ClassFile.FieldType.boolean) G := X
  show xW pp l ee { frames := 1, cells := 0, slots := 0, locals := 21 } ss mm aa bel met kk 5 G 0 0 (xQ bel G (fun r t => r = some (.int (xB (rKept σ i b))) ∧ t = (σ)) aa ss) 0 [(0, .ref (G.2.1 (61 + i))), (1, .ref (G.2.1 b))] [] σ
  refine x_lconst (v := 0) X dX5_isKeptBy_0 (by decide) ?_
  refine x_lstore_n (lv' := [(2, .long 0), (0, .ref (G.2.1 (61 + i))), (1, .ref (G.2.1 b))]) X dX5_isKeptBy_1 rfl (by decide) rfl ?_
  refine x_iconst (v := 0) X dX5_isKeptBy_2 (by decide) ?_
  refine x_istore (lv' := [(4, .int 0), (2, .long 0), (0, .ref (G.2.1 (61 + i))), (1, .ref (G.2.1 b))]) X dX5_isKeptBy_3 (by decide) rfl ?_
  have lp5 : ∀ (NN5 : Nat) (n : Nat) (hn : n ≤ 8), 8 - n = NN5 → xW pp l ee { frames := 1, cells := 0, slots := 0, locals := 21 } ss mm aa bel met kk 5 G 0 0 (xQ bel G (fun r t => r = some (.int (xB (rKept σ i b))) ∧ t = (σ)) aa ss) 5 [(4, .int (nI n)), (2, .long (xSumL (xgL σ (262 + i)) (xgI σ b) n)), (1, .ref (G.2.1 b)), (0, .ref (G.2.1 (61 + i)))] [] (σ) := by
    intro NN5
    induction NN5 using Nat.strongRecOn with
    | ind NN5 ih5 =>
      intro n hn hNN5
      refine x_iload X dX5_isKeptBy_5 rfl ?_
      refine x_bipush (v := 8) X dX5_isKeptBy_7 (by decide) ?_
      refine x_icmpge (tgt := 36) X dX5_isKeptBy_9 (by decide) (fun h9 => ?_) (fun h9 => ?_)
      · skip
        rw [xb_ge (x := nI n) (y := 8) (a := n) (b := 8) rfl rfl (by omega) (by omega)] at h9
        obtain rfl : n = 8 := by omega
        refine x_lload_n X dX5_isKeptBy_36 rfl ?_
        refine x_aload_n X dX5_isKeptBy_37 rfl ?_
        refine gf_X5_15 X dX5_isKeptBy_38 (xck_row hi) ?_
        refine x_lcmp X dX5_isKeptBy_41 ?_
        refine x_ifgt (tgt := 49) X dX5_isKeptBy_42 (by decide) (fun h42 => ?_) (fun h42 => ?_)
        · skip
          rw [lg_cmp_gt] at h42
          refine x_iconst (v := 0) X dX5_isKeptBy_49 (by decide) ?_
          exact x_zret X dX5_isKeptBy_50 (Or.inl rfl) (xp_i (by first | exact (xB_f (xi64_nle.mpr h42)).symm | exact (xB_t (xi64_nlt.mp h42)).symm) (by first | rfl | simp [*]))
        · skip
          rw [lg_cmp_gt] at h42
          refine x_iconst (v := 1) X dX5_isKeptBy_45 (by decide) ?_
          refine x_goto (tgt := 50) X dX5_isKeptBy_46 (by decide) ?_
          exact x_zret X dX5_isKeptBy_50 (Or.inr rfl) (xp_i (by first | exact (xB_f (xi64_nle.mpr h42)).symm | exact (xB_t (xi64_nlt.mp h42)).symm) (by first | rfl | simp [*]))
      · skip
        rw [xb_ge (x := nI n) (y := 8) (a := n) (b := 8) rfl rfl (by omega) (by omega)] at h9
        refine x_lload_n X dX5_isKeptBy_12 rfl ?_
        refine x_aload_n X dX5_isKeptBy_13 rfl ?_
        refine gf_X5_9 (k' := 262 + i) X dX5_isKeptBy_14 (xck_row hi) xrf_row ?_
        refine x_iload X dX5_isKeptBy_17 rfl ?_
        refine x_laldN X dX5_isKeptBy_19 (xck_fac hi) (by omega) (by omega) ?_
        refine x_aload_n X dX5_isKeptBy_20 rfl ?_
        refine x_iload X dX5_isKeptBy_21 rfl ?_
        refine cs_X5_52 X (c_X3_at hb (by decide)) dX5_isKeptBy_23 ⟨by decide, by decide, by decide, by decide⟩ rfl rfl (Nat.le_of_ble_eq_true rfl) (xk_i ?_)
        rw [xAt_n (by omega) (by decide)]
        refine x_i2l X dX5_isKeptBy_26 ?_
        refine x_lmul X dX5_isKeptBy_27 ?_
        refine x_ladd X dX5_isKeptBy_28 ?_
        refine x_topl (fun sm hsm => ?_)
        refine x_lstore_n (lv' := [(2, .long sm), (4, .int (nI n)), (1, .ref (G.2.1 b)), (0, .ref (G.2.1 (61 + i)))]) X dX5_isKeptBy_29 rfl (by decide) rfl ?_
        refine x_iinc (k := 1) (v := nI (n + 1)) (lv' := [(4, .int (nI (n + 1))), (2, .long sm), (1, .ref (G.2.1 b)), (0, .ref (G.2.1 (61 + i)))]) X dX5_isKeptBy_30 rfl (xn_inc _) (by decide) rfl ?_
        refine x_goto (tgt := 5) X dX5_isKeptBy_33 (by decide) ?_
        subst hsm
        refine x_pick [0, 1, 2, 3] rfl ?_
        exact ih5 _ (by omega) (n + 1) (by omega) rfl
  refine x_pick [0, 1, 3, 2] rfl ?_
  exact lp5 _ 0 (by omega) rfl

set_option maxHeartbeats 4000000 in
set_option maxRecDepth 100000 in
theorem c_J9_floorDiv_f86c9 {l : Launch} {G : xG} {σ : xS} {x y : Int64} (hy : ¬ y = 0) : xFl l G yJ9_floorDiv_f86c9 cJ9_floorDiv_f86c9 6 (Option.some Jvm.ClassFile.FieldType.long) 0 0 [.long x, .long y] σ (xFd x y) (σ) := by
  refine xM.ofJ (by decide +kernel) (Nat.le_of_ble_eq_true rfl) (fun pp ee ss mm aa bel met kk X => ?_)
  have X : xC pp ss mm met kk cJ9_floorDiv_f86c9 6 RJ9 (Option.some Jvm.ClassFile.FieldType.long) G := X
  show xW pp l ee { frames := 0, cells := 0, slots := 0, locals := 0 } ss mm aa bel met kk 6 G 0 0 (xQ bel G (fun r t => r = some (.long (xFd x y)) ∧ t = (σ)) aa ss) 0 [(0, .long x), (2, .long y)] [] σ
  refine x_lload_n X dJ9_floorDiv_f86c9_0 rfl ?_
  refine x_lload_n X dJ9_floorDiv_f86c9_1 rfl ?_
  refine x_ldiv X dJ9_floorDiv_f86c9_2 hy ?_
  refine x_topl (fun q hq => ?_)
  refine x_lstore (lv' := [(4, .long q), (0, .long x), (2, .long y)]) X dJ9_floorDiv_f86c9_3 (by decide) rfl ?_
  refine x_lload_n X dJ9_floorDiv_f86c9_5 rfl ?_
  refine x_lload_n X dJ9_floorDiv_f86c9_6 rfl ?_
  refine x_lxor X dJ9_floorDiv_f86c9_7 ?_
  refine x_lconst (v := 0) X dJ9_floorDiv_f86c9_8 (by decide) ?_
  refine x_lcmp X dJ9_floorDiv_f86c9_9 ?_
  refine x_ifge (tgt := 27) X dJ9_floorDiv_f86c9_10 (by decide) (fun h10 => ?_) (fun h10 => ?_)
  · skip
    rw [lg_cmp_ge] at h10
    subst hq
    refine x_lload X dJ9_floorDiv_f86c9_27 rfl ?_
    exact x_lret X dJ9_floorDiv_f86c9_29 (xp_l (by simp [xFd, *]) (by first | rfl | simp [*]))
  · skip
    rw [lg_cmp_ge] at h10
    subst hq
    refine x_lload X dJ9_floorDiv_f86c9_13 rfl ?_
    refine x_lload_n X dJ9_floorDiv_f86c9_15 rfl ?_
    refine x_lmul X dJ9_floorDiv_f86c9_16 ?_
    refine x_lload_n X dJ9_floorDiv_f86c9_17 rfl ?_
    refine x_lcmp X dJ9_floorDiv_f86c9_18 ?_
    refine x_ifeq (tgt := 27) X dJ9_floorDiv_f86c9_19 (by decide) (fun h19 => ?_) (fun h19 => ?_)
    · skip
      rw [lg_cmp_eq] at h19
      refine x_lload X dJ9_floorDiv_f86c9_27 rfl ?_
      exact x_lret X dJ9_floorDiv_f86c9_29 (xp_l (by simp [xFd, *]) (by first | rfl | simp [*]))
    · skip
      rw [lg_cmp_eq] at h19
      refine x_lload X dJ9_floorDiv_f86c9_22 rfl ?_
      refine x_lconst (v := 1) X dJ9_floorDiv_f86c9_24 (by decide) ?_
      refine x_lsub X dJ9_floorDiv_f86c9_25 ?_
      exact x_lret X dJ9_floorDiv_f86c9_26 (xp_l (by simp [xFd, *]) (by first | rfl | simp [*]))

set_option maxHeartbeats 4000000 in
set_option maxRecDepth 100000 in
theorem c_J9_max_f86c9 {l : Launch} {G : xG} {σ : xS} {x y : Int64} : xFl l G yJ9_max_f86c9 cJ9_max_f86c9 4 (Option.some Jvm.ClassFile.FieldType.long) 0 0 [.long x, .long y] σ (if x < y then y else x) (σ) := by
  refine xM.ofJ (by decide +kernel) (Nat.le_of_ble_eq_true rfl) (fun pp ee ss mm aa bel met kk X => ?_)
  have X : xC pp ss mm met kk cJ9_max_f86c9 4 RJ9 (Option.some Jvm.ClassFile.FieldType.long) G := X
  show xW pp l ee { frames := 0, cells := 0, slots := 0, locals := 0 } ss mm aa bel met kk 4 G 0 0 (xQ bel G (fun r t => r = some (.long (if x < y then y else x)) ∧ t = (σ)) aa ss) 0 [(0, .long x), (2, .long y)] [] σ
  refine x_lload_n X dJ9_max_f86c9_0 rfl ?_
  refine x_lload_n X dJ9_max_f86c9_1 rfl ?_
  refine x_lcmp X dJ9_max_f86c9_2 ?_
  refine x_iflt (tgt := 10) X dJ9_max_f86c9_3 (by decide) (fun h3 => ?_) (fun h3 => ?_)
  · skip
    rw [lg_cmp_lt] at h3
    refine x_lload_n X dJ9_max_f86c9_10 rfl ?_
    exact x_lret X dJ9_max_f86c9_11 (xp_l (by simp [*]) (by first | rfl | simp [*]))
  · skip
    rw [lg_cmp_lt] at h3
    refine x_lload_n X dJ9_max_f86c9_6 rfl ?_
    refine x_goto (tgt := 11) X dJ9_max_f86c9_7 (by decide) ?_
    exact x_lret X dJ9_max_f86c9_11 (xp_l (by simp [*]) (by first | rfl | simp [*]))

set_option maxHeartbeats 4000000 in
set_option maxRecDepth 100000 in
theorem c_J9_min_f86c9 {l : Launch} {G : xG} {σ : xS} {x y : Int64} : xFl l G yJ9_min_f86c9 cJ9_min_f86c9 4 (Option.some Jvm.ClassFile.FieldType.long) 0 0 [.long x, .long y] σ (if y < x then y else x) (σ) := by
  refine xM.ofJ (by decide +kernel) (Nat.le_of_ble_eq_true rfl) (fun pp ee ss mm aa bel met kk X => ?_)
  have X : xC pp ss mm met kk cJ9_min_f86c9 4 RJ9 (Option.some Jvm.ClassFile.FieldType.long) G := X
  show xW pp l ee { frames := 0, cells := 0, slots := 0, locals := 0 } ss mm aa bel met kk 4 G 0 0 (xQ bel G (fun r t => r = some (.long (if y < x then y else x)) ∧ t = (σ)) aa ss) 0 [(0, .long x), (2, .long y)] [] σ
  refine x_lload_n X dJ9_min_f86c9_0 rfl ?_
  refine x_lload_n X dJ9_min_f86c9_1 rfl ?_
  refine x_lcmp X dJ9_min_f86c9_2 ?_
  refine x_ifgt (tgt := 10) X dJ9_min_f86c9_3 (by decide) (fun h3 => ?_) (fun h3 => ?_)
  · skip
    rw [lg_cmp_gt] at h3
    refine x_lload_n X dJ9_min_f86c9_10 rfl ?_
    exact x_lret X dJ9_min_f86c9_11 (xp_l (by simp [*]) (by first | rfl | simp [*]))
  · skip
    rw [lg_cmp_gt] at h3
    refine x_lload_n X dJ9_min_f86c9_6 rfl ?_
    refine x_goto (tgt := 11) X dJ9_min_f86c9_7 (by decide) ?_
    exact x_lret X dJ9_min_f86c9_11 (xp_l (by simp [*]) (by first | rfl | simp [*]))
