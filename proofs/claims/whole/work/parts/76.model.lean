/-! the model that a tape tells -/
def jS (t : Nat → Int32) (z v : Nat) : Nat × Bool := aIt (vS t z) v (g1 t z)
def jLo (t : Nat → Int32) (z V : Nat) (s : Nat × Bool) (v : Nat) : Int32 := if v < V then nv t z (aIt (vS t z) v s) (-1000) 1000 else 0
def jHi (t : Nat → Int32) (z V : Nat) (s : Nat × Bool) (v : Nat) : Int32 := if v < V then nv t z (nx t z (aIt (vS t z) v s) (-1000) 1000) (nv t z (aIt (vS t z) v s) (-1000) 1000) 1000 else 0
def jCo (t : Nat → Int32) (z V : Nat) (s : Nat × Bool) (v : Nat) : Int32 := if v < V then nv t z (nx t z (nx t z (aIt (vS t z) v s) (-1000) 1000) (nv t z (aIt (vS t z) v s) (-1000) 1000) 1000) (-100) 100 else 0
def jFa (t : Nat → Int32) (z V : Nat) (s : Nat × Bool) (v : Nat) : Int32 := if v < V then nv t z (aIt (fS t z) v s) (-100) 100 else 0
def jRr (t : Nat → Int32) (z V : Nat) (s : Nat × Bool) : Int32 := nv t z (aIt (fS t z) V s) (-100000) 100000
def jP1 (t : Nat → Int32) (z : Nat) (s : Nat × Bool) (i : Nat) : Int32 := nv t z (aIt (pS t z) i s) (-1000) 1000
def jP2 (t : Nat → Int32) (z : Nat) (s : Nat × Bool) (i : Nat) : Int32 := nv t z (nx t z (aIt (pS t z) i s) (-1000) 1000) (-1000) 1000
theorem tPut_r {σ : xS} {t : Nat → Int32} {z k j : Nat} {s : Nat × Bool} {a b : Int32} (h : oRd σ t z s) (hz : z ≤ 1000) (hk : k ≠ 1) (hk2 : k ≠ 2) : oRd (tPut σ a b k j) t z (nx t z s a b) ∧ xgI (tPut σ a b k j) k j = nv t z s a b ∧ (∀ x y, x ≠ 1 → ¬ (x = k ∧ y = j) → xgI (tPut σ a b k j) x y = xgI σ x y) := by
  obtain ⟨n1, n2, n3⟩ := tNext_r (a := a) (b := b) h hz
  refine ⟨?_, ?_, fun x y h1 h2 => tPut_o y h1 h2⟩
  · unfold tPut
    exact oRd_c n2 (fun b => xgI_n (by omega)) (fun b => xgI_n (by omega))
  · rw [tPut_s, n1]
/-- the variables -/
theorem mVs_r {σ : xS} {t : Nat → Int32} {z c V : Nat} {s : Nat × Bool} (hc : 15 ≤ c) (h : oRd σ t z s) (hz : z ≤ 1000) : ∀ n, oRd (mVs σ c V n) t z (aIt (vS t z) (if n ≤ V then n else V) s) ∧ ∀ v, v < n → xgI (mVs σ c V n) (c + 1) v = jLo t z V s v ∧ xgI (mVs σ c V n) (c + 2) v = jHi t z V s v ∧ xgI (mVs σ c V n) (c + 3) v = jCo t z V s v
  | 0 => ⟨by rw [if_pos (Nat.zero_le _)]; exact h, fun v hv => absurd hv (by omega)⟩
  | n + 1 => by
    obtain ⟨i1, i2⟩ := mVs_r (V := V) hc h hz n
    rw [mVs]
    unfold mVar
    by_cases c1 : n < V
    · rw [if_pos c1, if_pos (show n + 1 ≤ V by omega)]
      rw [if_pos (show n ≤ V by omega)] at i1
      obtain ⟨a1, a2, a3⟩ := tPut_r (a := -1000) (b := 1000) (k := c + 1) (j := n) i1 hz (by omega) (by omega)
      rw [a2]
      obtain ⟨b1, b2, b3⟩ := tPut_r (a := nv t z (aIt (vS t z) n s) (-1000) 1000) (b := 1000) (k := c + 2) (j := n) a1 hz (by omega) (by omega)
      obtain ⟨d1, d2, d3⟩ := tPut_r (a := -100) (b := 100) (k := c + 3) (j := n) b1 hz (by omega) (by omega)
      refine ⟨by rw [aIt_s]; exact d1, fun v hv => ?_⟩
      by_cases e : v = n
      · subst e
        unfold jLo jHi jCo
        rw [if_pos c1, if_pos c1, if_pos c1]
        refine ⟨?_, ?_, d2⟩
        · rw [d3 _ _ (by omega) (by omega), b3 _ _ (by omega) (by omega)]; exact a2
        · rw [d3 _ _ (by omega) (by omega)]; exact b2
      · obtain ⟨j1, j2, j3⟩ := i2 v (by omega)
        refine ⟨?_, ?_, ?_⟩
        · rw [d3 _ _ (by omega) (by omega), b3 _ _ (by omega) (by omega), a3 _ _ (by omega) (by omega)]; exact j1
        · rw [d3 _ _ (by omega) (by omega), b3 _ _ (by omega) (by omega), a3 _ _ (by omega) (by omega)]; exact j2
        · rw [d3 _ _ (by omega) (by omega), b3 _ _ (by omega) (by omega), a3 _ _ (by omega) (by omega)]; exact j3
    · rw [if_neg c1]
      have e1 : (if n + 1 ≤ V then n + 1 else V) = (if n ≤ V then n else V) := by
        by_cases e : n ≤ V
        · rw [if_pos e, if_neg (by omega)]; omega
        · rw [if_neg e, if_neg (by omega)]
      rw [e1]
      refine ⟨oRd_c i1 (fun b => by rw [xgI_n (by omega), xgI_n (by omega), xgI_n (by omega)]) (fun b => by rw [xgI_n (by omega), xgI_n (by omega), xgI_n (by omega)]), fun v hv => ?_⟩
      by_cases e : v = n
      · subst e
        unfold jLo jHi jCo
        rw [if_neg c1, if_neg c1, if_neg c1]
        exact ⟨by rw [xgI_n (by omega), xgI_n (by omega), xgI_s], by rw [xgI_n (by omega), xgI_s], by rw [xgI_s]⟩
      · obtain ⟨j1, j2, j3⟩ := i2 v (by omega)
        exact ⟨by rw [xgI_n (by omega), xgI_n (by omega), xgI_n (by omega)]; exact j1, by rw [xgI_n (by omega), xgI_n (by omega), xgI_n (by omega)]; exact j2, by rw [xgI_n (by omega), xgI_n (by omega), xgI_n (by omega)]; exact j3⟩
/-- a rule's factors -/
theorem mFs_r {σ : xS} {t : Nat → Int32} {z c V r : Nat} {s : Nat × Bool} (hm : xMod c) (h : oRd σ t z s) (hz : z ≤ 1000) : ∀ n, oRd (mFs σ c V r n) t z (aIt (fS t z) (if n ≤ V then n else V) s) ∧ (∀ v, v < n → xgI (mFs σ c V r n) (mF c + r) v = jFa t z V s v) ∧ (∀ x y, x ≠ 1 → x ≠ mF c + r → xgI (mFs σ c V r n) x y = xgI σ x y)
  | 0 => ⟨by rw [if_pos (Nat.zero_le _)]; exact h, fun v hv => absurd hv (by omega), fun _ _ _ _ => rfl⟩
  | n + 1 => by
    obtain ⟨i1, i2, i3⟩ := mFs_r (V := V) (r := r) hm h hz n
    have hFb := mF_b hm
    rw [mFs]
    by_cases c1 : n < V
    · rw [if_pos c1, if_pos (show n + 1 ≤ V by omega)]
      rw [if_pos (show n ≤ V by omega)] at i1
      obtain ⟨a1, a2, a3⟩ := tPut_r (a := -100) (b := 100) (k := mF c + r) (j := n) i1 hz (by omega) (by omega)
      refine ⟨by rw [aIt_s]; exact a1, fun v hv => ?_, fun x y h1 h2 => ?_⟩
      · by_cases e : v = n
        · subst e
          unfold jFa
          rw [if_pos c1]
          exact a2
        · rw [a3 _ _ (by omega) (by omega)]; exact i2 v (by omega)
      · rw [a3 _ _ h1 (by omega)]; exact i3 x y h1 h2
    · rw [if_neg c1]
      have e1 : (if n + 1 ≤ V then n + 1 else V) = (if n ≤ V then n else V) := by
        by_cases e : n ≤ V
        · rw [if_pos e, if_neg (by omega)]; omega
        · rw [if_neg e, if_neg (by omega)]
      rw [e1]
      refine ⟨oRd_c i1 (fun b => xgI_n (by omega)) (fun b => xgI_n (by omega)), fun v hv => ?_, fun x y h1 h2 => ?_⟩
      · by_cases e : v = n
        · subst e
          unfold jFa
          rw [if_neg c1, xgI_s]
        · rw [xgI_n (by omega)]; exact i2 v (by omega)
      · rw [xgI_n (by omega)]; exact i3 x y h1 h2
/-- the rules -/
theorem mRs_r {σ : xS} {t : Nat → Int32} {z c V : Nat} {s : Nat × Bool} (hm : xMod c) (hV : V ≤ 8) (h : oRd σ t z s) (hz : z ≤ 1000) : ∀ r, r ≤ 20 → oRd (mRs σ c V r) t z (aIt (rS t z V) r s) ∧ (∀ k, k < r → (∀ v, v < 8 → xgI (mRs σ c V r) (mF c + k) v = jFa t z V (aIt (rS t z V) k s) v) ∧ xgI (mRs σ c V r) (c + 5) k = jRr t z V (aIt (rS t z V) k s))
  | 0, _ => ⟨h, fun k hk => absurd hk (by omega)⟩
  | r + 1, hr => by
    obtain ⟨i1, i2⟩ := mRs_r (V := V) hm hV h hz r (by omega)
    obtain ⟨f1, f2, f3⟩ := mFs_r (V := V) (r := r) hm i1 hz 8
    have hFb := mF_b hm
    have hcb := mC_b hm
    have e8 : (if 8 ≤ V then 8 else V) = V := by
      by_cases e : 8 ≤ V
      · rw [if_pos e]; omega
      · rw [if_neg e]
    rw [e8] at f1
    obtain ⟨a1, a2, a3⟩ := tPut_r (a := -100000) (b := 100000) (k := c + 5) (j := r) f1 hz (by omega) (by omega)
    rw [mRs]
    refine ⟨by rw [aIt_s]; exact a1, fun k hk => ?_⟩
    by_cases e : k = r
    · subst e
      refine ⟨fun v hv => ?_, a2⟩
      rw [a3 _ _ (by omega) (by omega)]
      exact f2 v hv
    · obtain ⟨j1, j2⟩ := i2 k (by omega)
      refine ⟨fun v hv => ?_, ?_⟩
      · rw [a3 _ _ (by omega) (by omega), f3 _ _ (by omega) (by omega)]; exact j1 v hv
      · rw [a3 _ _ (by omega) (by omega), f3 _ _ (by omega) (by omega)]; exact j2
/-- a table's pairs -/
theorem mPs_r {σ : xS} {t : Nat → Int32} {z c q : Nat} {s : Nat × Bool} (hm : xMod c) (hq : q < 4) (h : oRd σ t z s) (hz : z ≤ 1000) : ∀ n, oRd (mPs σ c q n) t z (aIt (pS t z) n s) ∧ (∀ i, i < n → xgI (mPs σ c q n) (mP c + q) i = jP1 t z s i ∧ xgI (mPs σ c q n) (mQ c + q) i = jP2 t z s i) ∧ (∀ x y, x ≠ 1 → x ≠ mP c + q → x ≠ mQ c + q → xgI (mPs σ c q n) x y = xgI σ x y)
  | 0 => ⟨h, fun i hi => absurd hi (by omega), fun _ _ _ _ _ => rfl⟩
  | n + 1 => by
    obtain ⟨i1, i2, i3⟩ := mPs_r hm hq h hz n
    have hPb := mP_b hm
    have hQb := mQ_b hm
    have hPQ : mP c + q ≠ mQ c + q := by
      unfold mP mQ
      split <;> omega
    obtain ⟨a1, a2, a3⟩ := tPut_r (a := -1000) (b := 1000) (k := mP c + q) (j := n) i1 hz (by omega) (by omega)
    obtain ⟨b1, b2, b3⟩ := tPut_r (a := -1000) (b := 1000) (k := mQ c + q) (j := n) a1 hz (by omega) (by omega)
    rw [mPs]
    refine ⟨by rw [aIt_s]; exact b1, fun i hi => ?_, fun x y h1 h2 h3 => ?_⟩
    · by_cases e : i = n
      · subst e
        exact ⟨by rw [b3 _ _ (by omega) (by omega)]; exact a2, b2⟩
      · obtain ⟨j1, j2⟩ := i2 i (by omega)
        exact ⟨by rw [b3 _ _ (by omega) (by omega), a3 _ _ (by omega) (by omega)]; exact j1, by rw [b3 _ _ (by omega) (by omega), a3 _ _ (by omega) (by omega)]; exact j2⟩
    · rw [b3 _ _ h1 (by omega), a3 _ _ h1 (by omega)]; exact i3 x y h1 h2 h3
/-- a table's variables: the second must be another one than the first -/
theorem tBut_r {σ : xS} {t : Nat → Int32} {z V : Nat} {s : Nat × Bool} (h : oRd σ t z (nx t z s 0 (nI V - nI 1))) (hz : z ≤ 1000) : oRd (tNext (tBut σ (tA t z V s)) 0 (nI V - nI 1)).2 t z (tC t z V s) ∧ (¬ (tC t z V s).2 = true → (tNext (tBut σ (tA t z V s)) 0 (nI V - nI 1)).1 = tB t z V s) := by
  generalize hs1 : nx t z s 0 (nI V - nI 1) = s1 at h
  have hP : tP t z V s = nx t z s1 0 (nI V - nI 1) := by unfold tP; rw [hs1]
  have hB : tB t z V s = nv t z s1 0 (nI V - nI 1) := by unfold tB; rw [hs1]
  obtain ⟨h1, h2, h3, h4⟩ := h
  have ok : oRd σ t z s1 := ⟨h1, h2, h3, h4⟩
  by_cases c1 : s1.2 = true
  · have e1 : oRd (tBut σ (tA t z V s)) t z s1 := by
      unfold tBut
      split
      · exact ok
      · split
        · exact ⟨oTp_1 h1 (by omega), (xgI_n (by omega)).trans h2, ⟨fun _ => c1, fun _ => xgI_s _ _ _ _⟩, h4⟩
        · exact ok
    have e2 : tC t z V s = s1 := by
      have : tP t z V s = s1 := by rw [hP, nx_b c1]
      rw [tC_p (Or.inl (by rw [this]; exact c1)), this]
    obtain ⟨n1, n2, n3⟩ := tNext_r (a := 0) (b := nI V - nI 1) e1 hz
    rw [nx_b c1] at n2
    rw [e2]
    exact ⟨n2, fun y => absurd c1 y⟩
  · by_cases c2 : z ≤ s1.1
    · have e1 : tBut σ (tA t z V s) = σ := by
        unfold tBut
        rw [h1.1, h2, if_pos (nI_le c2 (by omega))]
      have e3 : nx t z s1 0 (nI V - nI 1) = (s1.1, true) := by
        show (aNx t z s1 0 (nI V - nI 1)).2 = _
        unfold aNx
        rw [if_neg c1, if_pos c2]
      have e2 : tC t z V s = (s1.1, true) := by rw [tC_p (Or.inl (by rw [hP, e3])), hP, e3]
      obtain ⟨n1, n2, n3⟩ := tNext_r (a := 0) (b := nI V - nI 1) ok hz
      rw [e1, e2]
      rw [e3] at n2
      exact ⟨n2, fun y => absurd rfl y⟩
    · have hx : tAt σ (nI s1.1) = t s1.1 := tAt_n h1 hz (by omega)
      by_cases c3 : t s1.1 = tA t z V s
      · have hA : tA t z V s = t s.1 ∧ ¬ xIn (t s.1) 0 (nI V - nI 1) = 0 := by
          have : ¬ (nx t z s 0 (nI V - nI 1)).2 = true := by rw [hs1]; exact c1
          obtain ⟨x1, x2, x3, x4⟩ := nx_1 this
          exact ⟨x2, x4⟩
        have e1 : tBut σ (tA t z V s) = xsI σ 1 3 0 := by
          unfold tBut
          rw [h1.1, h2, if_neg (nI_ge (by omega) (by omega)), hx, if_pos c3]
        have r1 : oRd (xsI σ 1 3 0) t z (s1.1, true) := ⟨oTp_1 h1 (by omega), (xgI_n (by omega)).trans h2, ⟨fun _ => rfl, fun _ => xgI_s _ _ _ _⟩, h4⟩
        have e3 : aNx t z s1 0 (nI V - nI 1) = (t s1.1, s1.1 + 1, false) := by
          unfold aNx
          rw [if_neg c1, if_neg c2, if_neg]
          rw [c3, hA.1]
          exact hA.2
        have e4 : tP t z V s = (s1.1 + 1, false) := by rw [hP]; show (aNx t z s1 0 (nI V - nI 1)).2 = _; rw [e3]
        have e5 : tB t z V s = t s1.1 := by rw [hB]; show (aNx t z s1 0 (nI V - nI 1)).1 = _; rw [e3]
        have e2 : tC t z V s = (s1.1, true) := by
          rw [tC_t (by rw [e4]; exact (show ¬ false = true by decide)) (by rw [e5, c3]), e4]
          rfl
        obtain ⟨n1, n2, n3⟩ := tNext_r (a := 0) (b := nI V - nI 1) r1 hz
        rw [nx_b rfl] at n2
        rw [e1, e2]
        exact ⟨n2, fun y => absurd rfl y⟩
      · have e1 : tBut σ (tA t z V s) = σ := by
          unfold tBut
          rw [h1.1, h2, if_neg (nI_ge (by omega) (by omega)), hx, if_neg c3]
        obtain ⟨n1, n2, n3⟩ := tNext_r (a := 0) (b := nI V - nI 1) ok hz
        have e2 : tC t z V s = nx t z s1 0 (nI V - nI 1) := by
          by_cases c4 : (nx t z s1 0 (nI V - nI 1)).2 = true
          · rw [tC_p (Or.inl (by rw [hP]; exact c4)), hP]
          · rw [tC_p (Or.inr ?_), hP]
            rw [hB, (nx_1 c4).2.1]
            exact fun y => c3 y.symm
        rw [e1, e2]
        exact ⟨n2, fun _ => by rw [n1, hB]⟩
theorem mT3_r {σ : xS} {t : Nat → Int32} {z c V q : Nat} {s : Nat × Bool} (hc : 15 ≤ c) (h : oRd σ t z s) (hz : z ≤ 1000) : oRd (mT3 σ c V q) t z (tD t z V s) ∧ xgI (mT3 σ c V q) (c + 6) q = tA t z V s ∧ (¬ (tC t z V s).2 = true → xgI (mT3 σ c V q) (c + 7) q = tB t z V s) ∧ xgI (mT3 σ c V q) (c + 8) q = nI (tN t z V s) ∧ (∀ x y, x ≠ 1 → (y = q → x ≠ c + 6 ∧ x ≠ c + 7 ∧ x ≠ c + 8) → xgI (mT3 σ c V q) x y = xgI σ x y) := by
  have e1 : nI V - 1 = nI V - nI 1 := rfl
  unfold mT3
  rw [e1]
  obtain ⟨a1, a2, a3⟩ := tPut_r (a := 0) (b := nI V - nI 1) (k := c + 6) (j := q) h hz (by omega) (by omega)
  rw [a2]
  obtain ⟨b1, b2⟩ := tBut_r (V := V) (s := s) a1 hz
  have b1' : oRd (tPut (tBut (tPut σ 0 (nI V - nI 1) (c + 6) q) (tA t z V s)) 0 (nI V - nI 1) (c + 7) q) t z (tC t z V s) := by
    unfold tPut
    exact oRd_c b1 (fun b => xgI_n (by omega)) (fun b => xgI_n (by omega))
  obtain ⟨d1, d2, d3⟩ := tPut_r (a := 1) (b := 20) (k := c + 8) (j := q) b1' hz (by omega) (by omega)
  refine ⟨d1, ?_, fun y => ?_, ?_, fun x y h1 h2 => ?_⟩
  · show xgI (tPut (tPut (tBut (tPut σ 0 (nI V - nI 1) (c + 6) q) (tA t z V s)) 0 (nI V - nI 1) (c + 7) q) 1 20 (c + 8) q) (c + 6) q = tA t z V s
    rw [d3 _ _ (by omega) (by omega), tPut_o _ (by omega) (by omega), tBut_o _ (by omega)]
    exact a2
  · show xgI (tPut (tPut (tBut (tPut σ 0 (nI V - nI 1) (c + 6) q) (tA t z V s)) 0 (nI V - nI 1) (c + 7) q) 1 20 (c + 8) q) (c + 7) q = tB t z V s
    rw [d3 _ _ (by omega) (by omega), tPut_s]
    exact b2 y
  · show xgI (tPut (tPut (tBut (tPut σ 0 (nI V - nI 1) (c + 6) q) (tA t z V s)) 0 (nI V - nI 1) (c + 7) q) 1 20 (c + 8) q) (c + 8) q = nI (tN t z V s)
    rw [d2]
    exact (tN_n t z V s).1
  · show xgI (tPut (tPut (tBut (tPut σ 0 (nI V - nI 1) (c + 6) q) (tA t z V s)) 0 (nI V - nI 1) (c + 7) q) 1 20 (c + 8) q) x y = xgI σ x y
    rw [d3 _ _ h1 (by omega), tPut_o _ h1 (by omega), tBut_o _ h1, a3 _ _ h1 (by omega)]
theorem tS_e (t : Nat → Int32) (z V : Nat) (s : Nat × Bool) : tS t z V s = aIt (pS t z) (tN t z V s) (tD t z V s) := rfl
/-- the tables -/
theorem mTs_r {σ : xS} {t : Nat → Int32} {z c V : Nat} {s : Nat × Bool} (hm : xMod c) (h : oRd σ t z s) (hz : z ≤ 1000) : ∀ k, k ≤ 4 → oRd (mTs σ c V k) t z (aIt (tS t z V) k s) ∧ (∀ q, q < k → xgI (mTs σ c V k) (c + 6) q = tA t z V (aIt (tS t z V) q s) ∧ (¬ (aIt (tS t z V) (q + 1) s).2 = true → xgI (mTs σ c V k) (c + 7) q = tB t z V (aIt (tS t z V) q s)) ∧ xgI (mTs σ c V k) (c + 8) q = nI (tN t z V (aIt (tS t z V) q s)) ∧ ∀ i, i < tN t z V (aIt (tS t z V) q s) → xgI (mTs σ c V k) (mP c + q) i = jP1 t z (tD t z V (aIt (tS t z V) q s)) i ∧ xgI (mTs σ c V k) (mQ c + q) i = jP2 t z (tD t z V (aIt (tS t z V) q s)) i)
  | 0, _ => ⟨h, fun q hq => absurd hq (by omega)⟩
  | k + 1, hk => by
    obtain ⟨i1, i2⟩ := mTs_r (V := V) hm h hz k (by omega)
    have hPb := mP_b hm
    have hQb := mQ_b hm
    have hcb := mC_b hm
    have hPQ : ∀ q q', q < 4 → q' < 4 → mP c + q ≠ mQ c + q' := fun q q' h1 h2 => by
      unfold mP mQ
      split <;> omega
    obtain ⟨a1, a2, a3, a4, a5⟩ := mT3_r (c := c) (V := V) (q := k) (by omega) i1 hz
    have hn : (xgI (mT3 (mTs σ c V k) c V k) (c + 8) k).toNatClampNeg = tN t z V (aIt (tS t z V) k s) := by
      have := (tN_n t z V (aIt (tS t z V) k s)).2.2
      rw [a4, nI_clamp (by omega)]
    obtain ⟨p1, p2, p3⟩ := mPs_r (q := k) hm (by omega) a1 hz (tN t z V (aIt (tS t z V) k s))
    rw [mTs, mTab, hn]
    refine ⟨by rw [aIt_s, tS_e]; exact p1, fun q hq => ?_⟩
    by_cases e : q = k
    · subst e
      refine ⟨?_, fun y => ?_, ?_, p2⟩
      · rw [p3 _ _ (by omega) (by omega) (by omega)]; exact a2
      · rw [p3 _ _ (by omega) (by omega) (by omega)]
        apply a3
        intro w
        apply y
        rw [aIt_s, tS_e]
        have wd : (tD t z V (aIt (tS t z V) q s)).2 = true := by
          show (nx t z (tC t z V (aIt (tS t z V) q s)) 1 20).2 = true
          rw [nx_b w]
          exact w
        rw [aIt_b (fun s hs => pS_b s hs) wd]
        exact wd
      · rw [p3 _ _ (by omega) (by omega) (by omega)]; exact a4
    · obtain ⟨j1, j2, j3, j4⟩ := i2 q (by omega)
      have fr : ∀ x y, (x = c + 6 ∨ x = c + 7 ∨ x = c + 8) → y = q → xgI (mPs (mT3 (mTs σ c V k) c V k) c k (tN t z V (aIt (tS t z V) k s))) x y = xgI (mTs σ c V k) x y := fun x y h1 h2 => by
        rw [p3 _ _ (by omega) (by omega) (by omega), a5 _ _ (by omega) (fun w => absurd (h2.symm.trans w) e)]
      refine ⟨?_, fun y => ?_, ?_, fun i hi => ?_⟩
      · rw [fr _ _ (by omega) rfl]; exact j1
      · rw [fr _ _ (by omega) rfl]; exact j2 y
      · rw [fr _ _ (by omega) rfl]; exact j3
      · have := hPQ q k (by omega) (by omega)
        have := hPQ k q (by omega) (by omega)
        rw [p3 _ _ (by omega) (by omega) (by omega), p3 _ _ (by omega) (by omega) (by omega), a5 _ _ (by omega) (fun _ => by omega), a5 _ _ (by omega) (fun _ => by omega)]
        exact j4 i hi
/-- what a tape tells, as a model -/
def oPars (t : Nat → Int32) (z : Nat) : oMd := ((gV t z, gN t z, gM t z), (jLo t z (gV t z) (g1 t z), jHi t z (gV t z) (g1 t z), jCo t z (gV t z) (g1 t z)), (fun r => jFa t z (gV t z) (aIt (rS t z (gV t z)) r (g3 t z)), fun r => jRr t z (gV t z) (aIt (rS t z (gV t z)) r (g3 t z))), ((fun q => (tA t z (gV t z) (aIt (tS t z (gV t z)) q (g5 t z))).toNatClampNeg), (fun q => (tB t z (gV t z) (aIt (tS t z (gV t z)) q (g5 t z))).toNatClampNeg), (fun q => tN t z (gV t z) (aIt (tS t z (gV t z)) q (g5 t z))), (fun q => jP1 t z (tD t z (gV t z) (aIt (tS t z (gV t z)) q (g5 t z)))), (fun q => jP2 t z (tD t z (gV t z) (aIt (tS t z (gV t z)) q (g5 t z))))), aDig t z, 0, fun _ _ => 0)
theorem jAB {t : Nat → Int32} {z V : Nat} {s : Nat × Bool} (h1 : 1 ≤ V) (h8 : V ≤ 8) (h : ¬ (tC t z V s).2 = true) : tA t z V s = nI (tA t z V s).toNatClampNeg ∧ (tA t z V s).toNatClampNeg < V ∧ tB t z V s = nI (tB t z V s).toNatClampNeg ∧ (tB t z V s).toNatClampNeg < V := by
  have e : nI V - nI 1 = nI (V - 1) := nI_sub2 (a := V - 1) (b := 1) (by omega)
  have hab : (0 : Int32) ≤ nI V - nI 1 := by rw [e]; exact nI_pos' (by omega)
  have a := aNx_v (t := t) (z := z) (s := s) hab
  have b := aNx_v (t := t) (z := z) (s := nx t z s 0 (nI V - nI 1)) hab
  have k : ∀ x : Int32, (0 : Int32) ≤ x ∧ x ≤ nI V - nI 1 → x = nI x.toNatClampNeg ∧ x.toNatClampNeg < V := fun x hx => by
    rw [e] at hx
    obtain ⟨k1, k2, k3⟩ := nI_rng (x := x) (a := 0) (b := V - 1) hx.1 hx.2 (by omega) (by omega)
    exact ⟨k1, by omega⟩
  exact ⟨(k _ a).1, (k _ a).2, (k _ b).1, (k _ b).2⟩
theorem g6_ok {t : Nat → Int32} {z : Nat} (h : ¬ (g7 t z).2 = true) : ¬ (g6 t z).2 = true := by
  rw [(g7_e h).2]
  exact (show ¬ false = true by decide)
theorem tS_ok {t : Nat → Int32} {z q : Nat} (h : ¬ (g7 t z).2 = true) (hq : q < gM t z) : ¬ (aIt (tS t z (gV t z)) (q + 1) (g5 t z)).2 = true ∧ ¬ (tC t z (gV t z) (aIt (tS t z (gV t z)) q (g5 t z))).2 = true := by
  have h1 : ¬ (aIt (tS t z (gV t z)) (q + 1) (g5 t z)).2 = true := aIt_n (fun s hs => tS_b s hs) (g6_ok h) hq
  refine ⟨h1, fun w => h1 ?_⟩
  rw [aIt_s, tS_e]
  have wd : (tD t z (gV t z) (aIt (tS t z (gV t z)) q (g5 t z))).2 = true := by
    show (nx t z (tC t z (gV t z) (aIt (tS t z (gV t z)) q (g5 t z))) 1 20).2 = true
    rw [nx_b w]
    exact w
  rw [aIt_b (fun s hs => pS_b s hs) wd]
  exact wd
theorem oPars_w {t : Nat → Int32} {z : Nat} (h : ¬ (g7 t z).2 = true) : oWm (oPars t z) := by
  obtain ⟨-, v1, v8⟩ := gV_n t z
  obtain ⟨-, -, n20⟩ := gN_n t z
  obtain ⟨-, -, m4⟩ := gM_n t z
  refine ⟨⟨v8, n20, m4, Nat.zero_le _⟩, fun v hv => ⟨if_neg ?_, if_neg ?_, if_neg ?_⟩, fun r v hv => if_neg ?_, fun p v hv => rfl, fun q hq => ?_⟩
  · exact Nat.not_lt.mpr hv
  · exact Nat.not_lt.mpr hv
  · exact Nat.not_lt.mpr hv
  · exact Nat.not_lt.mpr hv
  · obtain ⟨k1, k2⟩ := tS_ok h hq
    obtain ⟨a1, a2, a3, a4⟩ := jAB v1 v8 k2
    exact ⟨a2, a4, (tN_n t z (gV t z) _).2.2⟩
