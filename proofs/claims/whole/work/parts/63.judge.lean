theorem xFind_c {P Q : Nat → Prop} {g h : Nat → Int32} {d e : Int32} (hd : d = e) : ∀ n v, (∀ k, v ≤ k → k < v + n → (P k ↔ Q k) ∧ g k = h k) → xFind P g d n v = xFind Q h e n v
  | 0, _, _ => hd
  | n + 1, v, H => by
    obtain ⟨h1, h2⟩ := H v (Nat.le_refl _) (by omega)
    have ih := xFind_c (P := P) (Q := Q) (g := g) (h := h) hd n (v + 1) (fun k k1 k2 => H k (by omega) (by omega))
    rw [xFind, xFind, ih, h2]
    by_cases c : P v
    · rw [if_pos c, if_pos (h1.mp c)]
    · rw [if_neg c, if_neg (fun z => c (h1.mpr z))]
theorem xFind_no {P : Nat → Prop} {g : Nat → Int32} {d : Int32} : ∀ n v, (∀ k, v ≤ k → k < v + n → ¬ P k) → xFind P g d n v = d
  | 0, _, _ => rfl
  | n + 1, v, H => by
    rw [xFind, if_neg (H v (Nat.le_refl _) (by omega)), xFind_no n (v + 1) (fun k k1 k2 => H k (by omega) (by omega))]
theorem xFind_pad {P : Nat → Prop} {g : Nat → Int32} {d : Int32} : ∀ m n v, m ≤ n → (∀ k, v + m ≤ k → k < v + n → ¬ P k) → xFind P g d n v = xFind P g d m v
  | 0, n, v, _, H => xFind_no n v (fun k k1 k2 => H k (by omega) k2)
  | m + 1, n + 1, v, hm, H => by
    rw [xFind, xFind, xFind_pad m n (v + 1) (by omega) (fun k k1 k2 => H k (by omega) (by omega))]
  | m + 1, 0, _, hm, _ => absurd hm (by omega)
theorem xSum_c {f f' g g' : Nat → Int32} : ∀ n, (∀ v, v < n → f v = f' v ∧ g v = g' v) → xSum f g n = xSum f' g' n
  | 0, _ => rfl
  | n + 1, h => by rw [xSum, xSum, xSum_c n (fun v hv => h v (by omega)), (h n (by omega)).1, (h n (by omega)).2]
theorem xSum_pad {f g : Nat → Int32} : ∀ n m, m ≤ n → (∀ v, m ≤ v → f v = 0) → xSum f g n = xSum f g m
  | 0, m, h, _ => by rw [show m = 0 by omega]
  | n + 1, m, h, hz => by
    by_cases e : m = n + 1
    · rw [e]
    · rw [xSum, xSum_pad n m (by omega) hz, hz n (by omega)]
      show xSum f g m + (0 : Int32).toInt64 * _ = _
      rw [show (0 : Int32).toInt64 = 0 from by decide, Int64.zero_mul, Int64.add_zero]
theorem xSumL_c {f f' : Nat → Int64} {g g' : Nat → Int32} : ∀ n, (∀ v, v < n → f v = f' v ∧ g v = g' v) → xSumL f g n = xSumL f' g' n
  | 0, _ => rfl
  | n + 1, h => by rw [xSumL, xSumL, xSumL_c n (fun v hv => h v (by omega)), (h n (by omega)).1, (h n (by omega)).2]
theorem xSumL_pad {f : Nat → Int64} {g : Nat → Int32} : ∀ n m, m ≤ n → (∀ v, m ≤ v → f v = 0) → xSumL f g n = xSumL f g m
  | 0, m, h, _ => by rw [show m = 0 by omega]
  | n + 1, m, h, hz => by
    by_cases e : m = n + 1
    · rw [e]
    · rw [xSumL, xSumL_pad n m (by omega) hz, hz n (by omega), Int64.zero_mul, Int64.add_zero]
/-! what a plan breaks first -/
def oHas (D : oMd) (j t : Nat) : Prop := ∃ k, k < oPs D t ∧ oP1 D t k = oPl D j (oFs D t) ∧ oP2 D t k = oPl D j (oGs D t)
noncomputable def oBrT (D : oMd) (j : Nat) : Int32 := xFind (fun t => ¬ oHas D j t) (fun t => 200 + nI t) (-1) (oM D) 0
noncomputable def oBrR (D : oMd) (j : Nat) : Int32 := xFind (fun r => (oRr D r).toInt64 < xSum (oRu D r) (oPl D j) 8) (fun r => 100 + nI r) (oBrT D j) (oN D) 0
noncomputable def oBrk (D : oMd) (j : Nat) : Int32 := xFind (fun v => xIn (oPl D j v) (oLo D v) (oHi D v) = 0) nI (oBrR D j) 8 0
theorem mBrk_e {D : oMd} {σ : xS} {c j : Nat} (hm : oCm D σ c) (hw : oWm D) (hj : j < oNp D) : mBrk σ c (463 + j) (oN D) (oM D) = oBrk D j := by
  obtain ⟨m0, ⟨a1, a2, a3, a4⟩, a5, a6, a7, a8, a9⟩ := hm
  obtain ⟨⟨w1, w2, w3, w4⟩, w5, w6, w7, w8⟩ := hw
  unfold mBrk oBrk
  refine xFind_c ?_ 8 0 (fun v _ hv => ⟨?_, rfl⟩)
  · unfold mBrR oBrR
    refine xFind_c ?_ _ 0 (fun r _ hr => ⟨?_, rfl⟩)
    · unfold mBrT oBrT
      refine xFind_c rfl _ 0 (fun t _ ht => ⟨?_, rfl⟩)
      have ht : t < oM D := by omega
      obtain ⟨t1, t2, t3, t4⟩ := a7 t ht
      obtain ⟨u1, u2, u3⟩ := w8 t ht
      unfold mPT oHas mHas
      rw [t3, nI_clamp (by omega), t1, t2, xAt_n (by omega) (by omega), xAt_n (by omega) (by omega), a9 j hj _ (by omega), a9 j hj _ (by omega)]
      constructor
      · rintro z ⟨k, k1, k2, k3⟩
        exact z ⟨k, k1, by rw [(t4 k k1).1]; exact k2, by rw [(t4 k k1).2]; exact k3⟩
      · rintro z ⟨k, k1, k2, k3⟩
        exact z ⟨k, k1, by rw [(t4 k k1).1] at k2; exact k2, by rw [(t4 k k1).2] at k3; exact k3⟩
    · have hr : r < oN D := by omega
      unfold mPR
      rw [(a6 r hr).2, xSum_c 8 (fun v hv => ⟨(a6 r hr).1 v hv, a9 j hj v hv⟩)]
  · unfold mPV
    have hv : v < 8 := by omega
    rw [a9 j hj v hv, (a5 v hv).1, (a5 v hv).2.1]
def oGood (D : oMd) (x : Int32) : Prop := ∃ j, j < oNp D ∧ x = nI j ∧ oBrk D j = -1
theorem dGood_e {D : oMd} {σ : xS} {c : Nat} {x : Int32} (hm : oCm D σ c) (hw : oWm D) : dGood σ c (oNp D) (oN D) (oM D) x ↔ oGood D x := by
  constructor
  · rintro ⟨j, h1, h2, h3⟩
    exact ⟨j, h1, h2, by rw [← mBrk_e hm hw h1]; exact h3⟩
  · rintro ⟨j, h1, h2, h3⟩
    exact ⟨j, h1, h2, by rw [mBrk_e hm hw h1]; exact h3⟩
/-- the fault of number x at place k of a row of kind p0 -/
noncomputable def oFlt (D : oMd) (nr nb : Nat) (p0 : Int32) (k : Nat) (x : Int32) : Int32 := dFltG (oGood D x) nr nb (oV D) (oN D) (oM D) (dMean p0 (nI k)) x
theorem oFlt_0 {D : oMd} {nr nb : Nat} {p0 x : Int32} : oFlt D nr nb p0 0 x = dKind x nr nb := dFltG_0
theorem dKind_0 {x : Int32} {nr nb : Nat} (h : dKind x nr nb = 0) (hr : nr ≤ 200) : (∃ q, q < 10 ∧ x = nI q ∧ (q = 6 → ¬ nb = 60)) ∧ nr < 200 := by
  unfold dKind at h
  by_cases h1 : xIn x 0 9 = 0
  · rw [if_pos h1] at h
    exact absurd h (by decide)
  · rw [if_neg h1] at h
    by_cases h2 : nr = 200
    · rw [if_pos h2] at h
      exact absurd h (by decide)
    · rw [if_neg h2] at h
      obtain ⟨a1, a2⟩ := xIn_1 h1
      obtain ⟨q, hq, e⟩ := nI_of2 (n := 9) (by decide) a1 (xi32_nlt.mp a2)
      refine ⟨⟨q, by omega, e, fun h6 hn => ?_⟩, by omega⟩
      rw [if_pos ⟨by rw [e, h6]; rfl, hn⟩] at h
      exact absurd h (by decide)
theorem dKind_y {x : Int32} {nr nb q : Nat} (hx : x = nI q) (hq : q < 10) (hr : nr < 200) (hb : q = 6 → nb < 60) : dKind x nr nb = 0 := by
  have h1 : ¬ xIn x 0 9 = 0 := by
    subst hx
    unfold xIn
    rw [if_neg (nI_pos (by omega)), if_neg (by exact nI_nlt (a := 9) (b := q) (by omega) (by omega))]
    decide
  by_cases h6 : q = 6
  · exact dKind_4 h1 (by omega) (by have := hb h6; omega)
  · exact dKind_5 h1 (by omega) (by rw [hx]; intro z; exact h6 ((nI_eq (a := q) (b := 6) (by omega) (by omega)).mp z))
theorem xD_0 {P : Prop} {v : Int32} (hv : ¬ v = 0) (h : xD P v = 0) : P := by
  by_cases c : P
  · exact c
  · rw [xD_f c] at h
    exact absurd h hv
theorem dBey_0 {x a b : Int32} (h : dBey x a b = 0) : ¬ x < a ∧ ¬ b < x := by
  unfold dBey at h
  by_cases c : xIn x a b = 0
  · rw [if_pos c] at h
    exact absurd h (by decide)
  · exact xIn_1 c
theorem dFltG_1 {g : Prop} {nr nb V N M : Nat} {x : Int32} : dFltG g nr nb V N M (nI 1) x = xD (xLt x N) 3 := by
  unfold dFltG
  rw [if_neg (by decide), if_pos (by decide)]
theorem dFltG_2 {g : Prop} {nr nb V N M : Nat} {x : Int32} : dFltG g nr nb V N M (nI 2) x = xD (xLt x V) 3 := by
  unfold dFltG
  rw [if_neg (by decide), if_neg (by decide), if_pos (by decide)]
theorem dFltG_3 {g : Prop} {nr nb V N M : Nat} {x : Int32} : dFltG g nr nb V N M (nI 3) x = xD (xLt x M) 4 := by
  unfold dFltG
  rw [if_neg (by decide), if_neg (by decide), if_neg (by decide), if_pos (by decide)]
theorem dFltG_4 {g : Prop} {nr nb V N M : Nat} {x : Int32} : dFltG g nr nb V N M (nI 4) x = dBey x (-100) 100 := by
  unfold dFltG
  rw [if_neg (by decide), if_neg (by decide), if_neg (by decide), if_neg (by decide), if_pos (by decide)]
theorem dFltG_5 {g : Prop} {nr nb V N M : Nat} {x : Int32} : dFltG g nr nb V N M (nI 5) x = dBey x 1 4 := by
  unfold dFltG
  rw [if_neg (by decide), if_neg (by decide), if_neg (by decide), if_neg (by decide), if_neg (by decide), if_pos (by decide)]
theorem dFltG_6 {g : Prop} {nr nb V N M : Nat} {x : Int32} : dFltG g nr nb V N M (nI 6) x = xD (xLt x nr) 4 := by
  unfold dFltG
  rw [if_neg (by decide), if_neg (by decide), if_neg (by decide), if_neg (by decide), if_neg (by decide), if_neg (by decide), if_pos (by decide)]
theorem dFltG_7 {g : Prop} {nr nb V N M : Nat} {x : Int32} : dFltG g nr nb V N M (nI 7) x = dBey x 1 1000 := by
  unfold dFltG
  rw [if_neg (by decide), if_neg (by decide), if_neg (by decide), if_neg (by decide), if_neg (by decide), if_neg (by decide), if_neg (by decide), if_pos (by decide)]
theorem dFltG_8 {g : Prop} {nr nb V N M : Nat} {x : Int32} : dFltG g nr nb V N M (nI 8) x = dBey x 2 1000 := by
  unfold dFltG
  rw [if_neg (by decide), if_neg (by decide), if_neg (by decide), if_neg (by decide), if_neg (by decide), if_neg (by decide), if_neg (by decide), if_neg (by decide), if_pos (by decide)]
theorem dFltG_9 {g : Prop} {nr nb V N M : Nat} {x : Int32} : dFltG g nr nb V N M (nI 9) x = dBey x (-1000) 1000 := by
  unfold dFltG
  rw [if_neg (by decide), if_neg (by decide), if_neg (by decide), if_neg (by decide), if_neg (by decide), if_neg (by decide), if_neg (by decide), if_neg (by decide), if_neg (by decide), if_pos (by decide)]
theorem dFltG_10 {g : Prop} {nr nb V N M : Nat} {x : Int32} : dFltG g nr nb V N M (nI 10) x = dBey x 0 1 := by
  unfold dFltG
  rw [if_neg (by decide), if_neg (by decide), if_neg (by decide), if_neg (by decide), if_neg (by decide), if_neg (by decide), if_neg (by decide), if_neg (by decide), if_neg (by decide), if_neg (by decide), if_pos (by decide)]
theorem dFltG_11 {g : Prop} {nr nb V N M : Nat} {x : Int32} : dFltG g nr nb V N M (nI 11) x = xD g 4 := by
  unfold dFltG
  rw [if_neg (by decide), if_neg (by decide), if_neg (by decide), if_neg (by decide), if_neg (by decide), if_neg (by decide), if_neg (by decide), if_neg (by decide), if_neg (by decide), if_neg (by decide), if_neg (by decide)]
theorem oFlt_m {D : oMd} {nr nb q k c : Nat} {x : Int32} (hq : q < 10) (hk : k < 10) (h0 : ¬ k = 0) (h : dmN q k = c) : oFlt D nr nb (nI q) k x = dFltG (oGood D x) nr nb (oV D) (oN D) (oM D) (nI c) x := by
  unfold oFlt
  rw [dmv hq hk h0 h]
/-- what the places of a row mean, once they are judged good -/
theorem oPl_row {D : oMd} {nr nb q k : Nat} {x : Int32} (hq : q < 10) (hk : k < 10) (h0 : ¬ k = 0) (h : dmN q k = 6) (hf : oFlt D nr nb (nI q) k x = 0) : ∃ j, j < nr ∧ x = nI j := by
  rw [oFlt_m hq hk h0 h, dFltG_6] at hf
  exact xD_0 (by decide) hf
theorem oPl_var {D : oMd} {nr nb q k : Nat} {x : Int32} (hq : q < 10) (hk : k < 10) (h0 : ¬ k = 0) (h : dmN q k = 2) (hf : oFlt D nr nb (nI q) k x = 0) : ∃ j, j < oV D ∧ x = nI j := by
  rw [oFlt_m hq hk h0 h, dFltG_2] at hf
  exact xD_0 (by decide) hf
theorem oPl_rule {D : oMd} {nr nb q k : Nat} {x : Int32} (hq : q < 10) (hk : k < 10) (h0 : ¬ k = 0) (h : dmN q k = 1) (hf : oFlt D nr nb (nI q) k x = 0) : ∃ j, j < oN D ∧ x = nI j := by
  rw [oFlt_m hq hk h0 h, dFltG_1] at hf
  exact xD_0 (by decide) hf
theorem oPl_tab {D : oMd} {nr nb q k : Nat} {x : Int32} (hq : q < 10) (hk : k < 10) (h0 : ¬ k = 0) (h : dmN q k = 3) (hf : oFlt D nr nb (nI q) k x = 0) : ∃ j, j < oM D ∧ x = nI j := by
  rw [oFlt_m hq hk h0 h, dFltG_3] at hf
  exact xD_0 (by decide) hf
theorem oPl_plan {D : oMd} {nr nb q k : Nat} {x : Int32} (hq : q < 10) (hk : k < 10) (h0 : ¬ k = 0) (h : dmN q k = 11) (hf : oFlt D nr nb (nI q) k x = 0) : oGood D x := by
  rw [oFlt_m hq hk h0 h, dFltG_11] at hf
  exact xD_0 (by decide) hf
theorem oPl_cnt {D : oMd} {nr nb q k : Nat} {x : Int32} (hq : q < 10) (hk : k < 10) (h0 : ¬ k = 0) (h : dmN q k = 5) (hf : oFlt D nr nb (nI q) k x = 0) : ∃ j, 1 ≤ j ∧ j ≤ 4 ∧ x = nI j := by
  rw [oFlt_m hq hk h0 h, dFltG_5] at hf
  obtain ⟨h1, h2⟩ := dBey_0 hf
  obtain ⟨j, h3, h4⟩ := nI_of2 (n := 4) (by decide) (fun z => h1 (Int32.lt_of_lt_of_le z (by decide))) (xi32_nlt.mp h2)
  refine ⟨j, ?_, h3, h4⟩
  by_cases e : j = 0
  · subst e
    rw [h4] at h1
    exact absurd (by decide) h1
  · omega
theorem oPl_div {D : oMd} {nr nb q k : Nat} {x : Int32} (hq : q < 10) (hk : k < 10) (h0 : ¬ k = 0) (h : dmN q k = 8) (hf : oFlt D nr nb (nI q) k x = 0) : ∃ j, 2 ≤ j ∧ j ≤ 1000 ∧ x = nI j := by
  rw [oFlt_m hq hk h0 h, dFltG_8] at hf
  obtain ⟨h1, h2⟩ := dBey_0 hf
  obtain ⟨j, h3, h4⟩ := nI_of2 (n := 1000) (by decide) (fun z => h1 (Int32.lt_of_lt_of_le z (by decide))) (xi32_nlt.mp h2)
  refine ⟨j, ?_, h3, h4⟩
  by_cases e : j < 2
  · rw [h4] at h1
    exact absurd (nI_lt (a := j) (b := 2) e (by omega)) h1
  · omega
theorem oPl_bnd {D : oMd} {nr nb q k : Nat} {x : Int32} (hq : q < 10) (hk : k < 10) (h0 : ¬ k = 0) (h : dmN q k = 9) (hf : oFlt D nr nb (nI q) k x = 0) : -1000 ≤ x ∧ x ≤ 1000 := by
  rw [oFlt_m hq hk h0 h, dFltG_9] at hf
  obtain ⟨h1, h2⟩ := dBey_0 hf
  exact ⟨xi32_nlt.mp h1, xi32_nlt.mp h2⟩
