/-! The reference's row i is w; its model is D -/
def oQl (σ : xS) (i : Nat) : Option Int64 → Prop
  | none => xgI σ 54 i = 0
  | some x => xgI σ 54 i = 1 ∧ xgL σ 55 i = x
def oBi (b : Bool) : Int32 := if b = true then 1 else 0
def oQr (σ : xS) (i : Nat) (w : oRow) : Prop := (∀ v, v < 8 → xgL σ 52 (8 * i + v) = oF w v) ∧ xgL σ 53 i = oR w ∧ (∀ b, b < 200 → xgI σ 56 (200 * i + b) = oBi (oS w b)) ∧ oQl σ i (oL w)
theorem oBi_0 {b : Bool} : oBi b = 0 ↔ b = false := by cases b <;> decide
theorem oQl_c {σ τ : xS} {i : Nat} {o : Option Int64} (h : oQl σ i o) (h1 : xgI τ 54 i = xgI σ 54 i) (h2 : xgL τ 55 i = xgL σ 55 i) : oQl τ i o := by
  cases o with
  | none => exact h1.trans h
  | some x => exact ⟨h1.trans h.1, h2.trans h.2⟩
theorem oQr_c {σ τ : xS} {i : Nat} {w : oRow} (hF : ∀ v, v < 8 → xgL τ 52 (8 * i + v) = xgL σ 52 (8 * i + v)) (hR : xgL τ 53 i = xgL σ 53 i) (hS : ∀ b, b < 200 → xgI τ 56 (200 * i + b) = xgI σ 56 (200 * i + b)) (h1 : xgI τ 54 i = xgI σ 54 i) (h2 : xgL τ 55 i = xgL σ 55 i) (h : oQr σ i w) : oQr τ i w :=
  ⟨fun v hv => (hF v hv).trans (h.1 v hv), hR.trans h.2.1, fun b hb => (hS b hb).trans (h.2.2.1 b hb), oQl_c h.2.2.2 h1 h2⟩
theorem oQr_off {σ τ : xS} {n i : Nat} {w : oRow} (hin : i ≠ n) (ho : qOff n σ τ) (h : oQr σ i w) : oQr τ i w :=
  oQr_c (fun v hv => ho.2.2.2.2.1 _ (by omega)) (ho.2.2.2.2.2.1 i hin).1 (fun b hb => ho.2.2.1 _ (by omega)) (ho.2.1 i hin) (ho.2.2.2.2.2.1 i hin).2 h
def oQm (D : oMd) (σ : xS) : Prop := (xgI σ 37 3 = nI (oV D) ∧ xgI σ 37 7 = nI (oN D) ∧ xgI σ 37 10 = nI (oM D) ∧ xgI σ 37 16 = oDg D) ∧ (∀ v, v < oV D → xgI σ 39 v = oLo D v ∧ xgI σ 40 v = oHi D v ∧ xgI σ 41 v = oCo D v) ∧ (∀ r, r < oN D → (∀ v, v < oV D → xgI σ 42 (8 * r + v) = oRu D r v) ∧ xgI σ 43 r = oRr D r) ∧ (∀ t, t < oM D → xgI σ 44 t = nI (oFs D t) ∧ xgI σ 45 t = nI (oGs D t) ∧ xgI σ 46 t = nI (oPs D t) ∧ ∀ k, k < oPs D t → xgI σ 47 (20 * t + k) = oP1 D t k ∧ xgI σ 48 (20 * t + k) = oP2 D t k) ∧ xgI σ 37 17 = nI (oNp D) ∧ (∀ p, p < oNp D → ∀ v, v < oV D → xgI σ 49 (8 * p + v) = oPl D p v)
theorem oQm_c {D : oMd} {σ τ : xS} (hm : oQm D σ) (h : ∀ a b, (a = 37 ∧ (b = 3 ∨ b = 7 ∨ b = 10 ∨ b = 16 ∨ b = 17)) ∨ (39 ≤ a ∧ a ≤ 49) → xgI τ a b = xgI σ a b) : oQm D τ := by
  obtain ⟨⟨a1, a2, a3, a4⟩, a5, a6, a7, a8, a9⟩ := hm
  refine ⟨⟨?_, ?_, ?_, ?_⟩, fun v hv => ⟨?_, ?_, ?_⟩, fun r hr => ⟨fun v hv => ?_, ?_⟩, fun t ht => ⟨?_, ?_, ?_, fun k hk => ⟨?_, ?_⟩⟩, ?_, fun p hp v hv => ?_⟩
  · rw [h _ _ (by omega)]; exact a1
  · rw [h _ _ (by omega)]; exact a2
  · rw [h _ _ (by omega)]; exact a3
  · rw [h _ _ (by omega)]; exact a4
  · rw [h _ _ (by omega)]; exact (a5 v hv).1
  · rw [h _ _ (by omega)]; exact (a5 v hv).2.1
  · rw [h _ _ (by omega)]; exact (a5 v hv).2.2
  · rw [h _ _ (by omega)]; exact (a6 r hr).1 v hv
  · rw [h _ _ (by omega)]; exact (a6 r hr).2
  · rw [h _ _ (by omega)]; exact (a7 t ht).1
  · rw [h _ _ (by omega)]; exact (a7 t ht).2.1
  · rw [h _ _ (by omega)]; exact (a7 t ht).2.2.1
  · rw [h _ _ (by omega)]; exact ((a7 t ht).2.2.2 k hk).1
  · rw [h _ _ (by omega)]; exact ((a7 t ht).2.2.2 k hk).2
  · rw [h _ _ (by omega)]; exact a8
  · rw [h _ _ (by omega)]; exact a9 p hp v hv
theorem oQm_off {D : oMd} {σ τ : xS} {n : Nat} (hm : oQm D σ) (h : qOff n σ τ) : oQm D τ := oQm_c hm (fun a b _ => h.1 a b (by omega) (by omega))
theorem oTabs {D : oMd} {σ : xS} (hm : oQm D σ) (hw : oWm D) : tabsAt σ (oM D) (oFs D) (oGs D) (oPs D) := fun t ht => by
  obtain ⟨t1, t2, t3, t4⟩ := hm.2.2.2.1 t ht
  obtain ⟨u1, u2, u3⟩ := hw.2.2.2.2 t ht
  have := hw.1.1
  exact ⟨t1, by omega, t2, by omega, t3, u3⟩
theorem qBrk_e {D : oMd} {σ : xS} {j : Nat} (hm : oQm D σ) (hw : oWm D) (hj : j < oNp D) : qBrk σ j (oV D) (oN D) (oM D) (oFs D) (oGs D) (oPs D) = oBrk D j := by
  obtain ⟨⟨a1, a2, a3, a4⟩, a5, a6, a7, a8, a9⟩ := hm
  obtain ⟨⟨w1, w2, w3, w4⟩, w5, w6, w7, w8⟩ := hw
  unfold qBrk oBrk
  rw [xFind_pad (oV D) 8 0 w1 (fun k k1 k2 => by
    rw [w7 j k (by omega), (w5 k (by omega)).1, (w5 k (by omega)).2.1]
    decide)]
  refine xFind_c ?_ _ 0 (fun v _ hv => ⟨?_, rfl⟩)
  · unfold qBrR oBrR
    refine xFind_c ?_ _ 0 (fun r _ hr => ⟨?_, rfl⟩)
    · unfold qBrT oBrT
      refine xFind_c rfl _ 0 (fun t _ ht => ⟨?_, rfl⟩)
      have ht : t < oM D := by omega
      obtain ⟨t1, t2, t3, t4⟩ := a7 t ht
      obtain ⟨u1, u2, u3⟩ := w8 t ht
      unfold qPT oHas qHas
      rw [a9 j hj _ u1, a9 j hj _ u2]
      constructor
      · rintro z ⟨k, k1, k2, k3⟩
        exact z ⟨k, k1, by rw [(t4 k k1).1]; exact k2, by rw [(t4 k k1).2]; exact k3⟩
      · rintro z ⟨k, k1, k2, k3⟩
        exact z ⟨k, k1, by rw [(t4 k k1).1] at k2; exact k2, by rw [(t4 k k1).2] at k3; exact k3⟩
    · have hr : r < oN D := by omega
      unfold qPR
      rw [(a6 r hr).2, xSum_c (oV D) (fun v hv => ⟨(a6 r hr).1 v hv, a9 j hj v hv⟩), ← xSum_pad (g := oPl D j) 8 (oV D) w1 (fun v hv => w6 r v hv)]
  · unfold qPV
    have hv : v < oV D := by omega
    rw [a9 j hj v hv, (a5 v hv).1, (a5 v hv).2.1]
theorem qCost_e {D : oMd} {σ : xS} {j : Nat} (hm : oQm D σ) (hw : oWm D) (hj : j < oNp D) : qCost σ j (oV D) = oCst D j := by
  unfold qCost oCst
  rw [xSum_c (oV D) (fun v hv => ⟨(hm.2.1 v hv).2.2, hm.2.2.2.2.2 j hj v hv⟩), ← xSum_pad (g := oPl D j) 8 (oV D) hw.1.1 (fun v hv => (hw.2.1 v hv).2.2)]
theorem qGood_e {D : oMd} {σ : xS} {x : Int32} (hm : oQm D σ) (hw : oWm D) : qGood σ (oNp D) (oV D) (oN D) (oM D) (oFs D) (oGs D) (oPs D) x ↔ oGood D x := by
  constructor
  · rintro ⟨j, h1, h2, h3⟩
    exact ⟨j, h1, h2, by rw [← qBrk_e hm hw h1]; exact h3⟩
  · rintro ⟨j, h1, h2, h3⟩
    exact ⟨j, h1, h2, by rw [qBrk_e hm hw h1]; exact h3⟩
/-! a row made ready -/
theorem qW1_F {σ : xS} {n v : Nat} : ∀ k, xgL (qW1 σ n k) 52 (8 * n + v) = if v < k then 0 else xgL σ 52 (8 * n + v)
  | 0 => by simp [qW1]
  | k + 1 => by
    rw [qW1, xgL_i, qW1_F k]
    by_cases h : v = k
    · simp [h]
    · by_cases h2 : v < k
      · rw [if_neg (by omega), if_pos h2, if_pos (by omega)]
      · rw [if_neg (by omega), if_neg h2, if_neg (by omega)]
theorem qW2_S {σ : xS} {n v : Nat} : ∀ k, xgI (qW2 σ n k) 56 (200 * n + v) = if v < k then 0 else xgI σ 56 (200 * n + v)
  | 0 => by simp [qW2]
  | k + 1 => by
    rw [qW2, xgI_i, qW2_S k]
    by_cases h : v = k
    · simp [h]
    · by_cases h2 : v < k
      · rw [if_neg (by omega), if_pos h2, if_pos (by omega)]
      · rw [if_neg (by omega), if_neg h2, if_neg (by omega)]
theorem qW2_L {σ : xS} {n a b : Nat} : ∀ k, xgL (qW2 σ n k) a b = xgL σ a b
  | 0 => rfl
  | k + 1 => by rw [qW2, xgL_I, qW2_L k]
theorem oQr_nil {σ : xS} {n : Nat} : oQr (qWc σ n) n oNil := by
  unfold qWc
  refine ⟨fun v hv => ?_, ?_, fun b hb => ?_, ?_⟩
  · rw [xgL_n (by omega), xgL_I, xgL_n (by omega), qW2_L, qW1_F, if_pos hv]; rfl
  · rw [xgL_n (by omega), xgL_I, xgL_s]; rfl
  · rw [xgI_L, xgI_n (by omega), xgI_L, qW2_S, if_pos hb]; rfl
  · show xgI _ 54 n = 0
    rw [xgI_L, xgI_s]
/-! inheriting -/
theorem qAss_S {σ : xS} {n o v : Nat} {but : Int32} (hno : o ≠ n) (hv : v < 200) : ∀ k, k ≤ 200 → xgI (qAss σ n o but k) 56 (200 * n + v) = (if v < k then (if xgI σ 56 (200 * n + v) = 0 then (if xgI σ 56 (200 * o + v) = 0 then 0 else if nI v = but then 0 else 1) else 1) else xgI σ 56 (200 * n + v)) ∧ xgI (qAss σ n o but k) 56 (200 * o + v) = xgI σ 56 (200 * o + v)
  | 0, _ => by simp [qAss]
  | k + 1, hk => by
    have ih := qAss_S (σ := σ) (but := but) hno hv k (by omega)
    rw [qAss, xgI_i]
    refine ⟨?_, ?_⟩
    · by_cases h : v = k
      · subst h
        rw [if_pos ⟨rfl, rfl⟩, if_pos (show v < v + 1 by omega), ih.1, ih.2, if_neg (show ¬ v < v by omega)]
      · rw [if_neg (by omega), ih.1]
        by_cases h2 : v < k
        · rw [if_pos h2, if_pos (show v < k + 1 by omega)]
        · rw [if_neg h2, if_neg (show ¬ v < k + 1 by omega)]
    · rw [xgI_n (by omega)]
      exact ih.2
theorem qAss_I {σ : xS} {n o a b : Nat} {but : Int32} (h : a ≠ 56) : ∀ k, xgI (qAss σ n o but k) a b = xgI σ a b
  | 0 => rfl
  | k + 1 => by rw [qAss, xgI_n (by omega), qAss_I h k]
theorem qAss_L {σ : xS} {n o a b : Nat} {but : Int32} : ∀ k, xgL (qAss σ n o but k) a b = xgL σ a b
  | 0 => rfl
  | k + 1 => by rw [qAss, xgL_I, qAss_L k]
theorem oQl_inh {σ : xS} {n o : Nat} {p q : Option Int64} (ha : oQl σ n p) (hb : oQl σ o q) : oQl (qLim σ n o) n (oInh p q) := by
  unfold qLim oInh
  cases q with
  | none =>
    have hb : xgI σ 54 o = 0 := hb
    rw [if_pos hb]
    exact ha
  | some y =>
    obtain ⟨b1, b2⟩ := hb
    rw [if_neg (by rw [b1]; decide)]
    cases p with
    | none =>
      have ha : xgI σ 54 n = 0 := ha
      exact ⟨by rw [xgI_s], by rw [xgL_I, xgL_s, if_pos ha, b2]⟩
    | some x =>
      obtain ⟨a1, a2⟩ := ha
      by_cases h : x ≤ y
      · simp only [h, if_true]
        refine ⟨by rw [xgI_s], ?_⟩
        rw [xgL_I, xgL_s, if_neg (by rw [a1]; decide), a2, b2]
        by_cases h2 : y ≤ x
        · rw [if_pos h2]
          exact Int64.le_antisymm h2 h
        · rw [if_neg h2]
      · simp only [h, if_false]
        refine ⟨by rw [xgI_s], ?_⟩
        rw [xgL_I, xgL_s, if_neg (by rw [a1]; decide), a2, b2, if_pos]
        exact Int64.le_of_lt (xi64_nle.mp h)
theorem qLim_S {σ : xS} {n o b : Nat} : xgI (qLim σ n o) 56 b = xgI σ 56 b := by
  unfold qLim
  split
  · rfl
  · rw [xgI_n (by omega), xgI_L]
theorem qLim_L {σ : xS} {n o a b : Nat} (h : a ≠ 55) : xgL (qLim σ n o) a b = xgL σ a b := by
  unfold qLim
  split
  · rfl
  · rw [xgL_I, xgL_n (by omega)]
/-- row n inherits of row o what it assumes, but for one, and its limit; what is assumed stands before n -/
theorem oQr_ass {σ : xS} {n o : Nat} {a b : oRow} {but : Int32} (hn : n < 200) (hno : o ≠ n) (hb0 : ∀ x, oS b x = true → x < n) (ha : oQr σ n a) (hb : oQr σ o b) : oQr (qAssumes σ n o but) n (oF a, oR a, (fun x => oS a x || (oS b x && !decide (nI x = but))), oInh (oL a) (oL b), oB a) := by
  unfold qAssumes
  refine ⟨fun v hv => ?_, ?_, fun x hx => ?_, ?_⟩
  · rw [qLim_L (by omega), qAss_L]; exact ha.1 v hv
  · rw [qLim_L (by omega), qAss_L]; exact ha.2.1
  · rw [qLim_S, (qAss_S hno hx n (by omega)).1, ha.2.2.1 x hx, hb.2.2.1 x hx]
    show _ = oBi (oS a x || (oS b x && !decide (nI x = but)))
    by_cases c : x < n
    · rw [if_pos c]
      cases oS a x <;> cases oS b x <;> by_cases d : nI x = but <;> simp [oBi, d]
    · rw [if_neg c]
      have : oS b x = false := by
        cases h : oS b x with
        | false => rfl
        | true => exact absurd (hb0 x h) c
      rw [this]
      simp
  · exact oQl_inh (oQl_c ha.2.2.2 (qAss_I (by omega) _) (qAss_L _)) (oQl_c hb.2.2.2 (qAss_I (by omega) _) (qAss_L _))
theorem oQr_e {σ : xS} {i : Nat} {w w' : oRow} (h : oQr σ i w) (hF : ∀ v, v < 8 → oF w v = oF w' v) (hR : oR w = oR w') (hS : ∀ x, x < 200 → oS w x = oS w' x) (hL : oL w = oL w') : oQr σ i w' :=
  ⟨fun v hv => (h.1 v hv).trans (hF v hv), h.2.1.trans hR, fun b hb => by rw [h.2.2.1 b hb, hS b hb], by rw [← hL]; exact h.2.2.2⟩
theorem nI_m1 {x : Nat} (h : x < 200) : ¬ nI x = -1 := fun z => by
  have := nI_pos (n := x) (by omega)
  rw [z] at this
  exact this (by decide)
/-! rounding down -/
theorem i64_dm {x y : Int64} (hy : 0 < y) : (x / y * y).toInt = x.toInt.tdiv y.toInt * y.toInt ∧ (0 ≤ x.toInt → x.toInt.tdiv y.toInt * y.toInt ≤ x.toInt) ∧ (x.toInt < 0 → x.toInt ≤ x.toInt.tdiv y.toInt * y.toInt) := by
  rw [Int64.lt_iff_toInt_lt, show (0 : Int64).toInt = 0 from by decide] at hy
  have xl := Int64.toInt_lt x
  have xg := Int64.le_toInt x
  have key : ∀ a : Int, 0 ≤ a → 0 ≤ a.tdiv y.toInt ∧ a.tdiv y.toInt ≤ a ∧ a.tdiv y.toInt * y.toInt ≤ a ∧ 0 ≤ a.tdiv y.toInt * y.toInt := by
    intro a ha
    have h1 := Int.tdiv_nonneg ha (Int.le_of_lt hy)
    have h2 := Int.mul_nonneg h1 (Int.le_of_lt hy)
    refine ⟨h1, ?_, ?_, h2⟩
    · rw [Int.tdiv_eq_ediv_of_nonneg ha]
      exact Int.ediv_le_self _ ha
    · rw [Int.tdiv_eq_ediv_of_nonneg ha]
      exact Int.ediv_mul_le _ (by omega)
  have all : -2 ^ 63 ≤ x.toInt.tdiv y.toInt ∧ x.toInt.tdiv y.toInt < 2 ^ 63 ∧ -2 ^ 63 ≤ x.toInt.tdiv y.toInt * y.toInt ∧ x.toInt.tdiv y.toInt * y.toInt < 2 ^ 63 ∧ (0 ≤ x.toInt → x.toInt.tdiv y.toInt * y.toInt ≤ x.toInt) ∧ (x.toInt < 0 → x.toInt ≤ x.toInt.tdiv y.toInt * y.toInt) := by
    by_cases h : 0 ≤ x.toInt
    · obtain ⟨k1, k2, k3, k4⟩ := key x.toInt h
      exact ⟨by omega, by omega, by omega, by omega, fun _ => k3, fun z => by omega⟩
    · obtain ⟨k1, k2, k3, k4⟩ := key (-x.toInt) (by omega)
      rw [Int.neg_tdiv, Int.neg_mul] at k3 k4
      rw [Int.neg_tdiv] at k1 k2
      exact ⟨by omega, by omega, by omega, by omega, fun z => absurd z h, fun _ => by omega⟩
  obtain ⟨b1, b2, b3, b4, b5, b6⟩ := all
  have hd : (x / y).toInt = x.toInt.tdiv y.toInt := by
    rw [Int64.toInt_div]
    exact Int.bmod_eq_of_le (by omega) (by omega)
  refine ⟨?_, b5, b6⟩
  rw [Int64.toInt_mul, hd]
  exact Int.bmod_eq_of_le (by omega) (by omega)
theorem i64_neg {x : Int64} : x < 0 ↔ x.toBitVec.msb = true := by
  rw [Int64.lt_iff_toInt_lt, show (0 : Int64).toInt = 0 from by decide]
  show x.toBitVec.toInt < 0 ↔ _
  rw [BitVec.msb_eq_toInt]
  simp
theorem xFd_q {x y : Int64} (hy : 0 < y) : xFd x y = qDown x y := by
  obtain ⟨e, h1, h2⟩ := i64_dm (x := x) hy
  have ym : y.toBitVec.msb = false := by
    cases h : y.toBitVec.msb with
    | false => rfl
    | true => exact (Int64.lt_irrefl (Int64.lt_trans (i64_neg.mpr h) hy)).elim
  have hx : 0 ≤ x ^^^ y ↔ 0 ≤ x := by
    rw [← xi64_nlt, ← xi64_nlt, i64_neg, i64_neg, Int64.toBitVec_xor, BitVec.msb_xor, ym, Bool.xor_false]
  unfold xFd qDown
  by_cases c : 0 ≤ x
  · rw [if_pos (hx.mpr c), if_pos]
    rw [Int64.le_iff_toInt_le, e]
    rw [Int64.le_iff_toInt_le, show (0 : Int64).toInt = 0 from by decide] at c
    exact h1 c
  · rw [if_neg (fun z => c (hx.mp z))]
    rw [Int64.le_iff_toInt_le, show (0 : Int64).toInt = 0 from by decide] at c
    have h3 := h2 (by omega)
    by_cases d : x / y * y = x
    · rw [if_pos d, if_pos (by rw [d]; exact Int64.le_refl _)]
    · rw [if_neg d, if_neg]
      intro z
      rw [Int64.le_iff_toInt_le, e] at z
      exact d (Int64.toInt_inj.mp (by rw [e]; omega))
