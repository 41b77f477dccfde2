/-- a limit, as it is kept -/
def oLm (σ : xS) (i : Nat) : Option Int64 → Prop
  | none => xgI σ (61 + i) 3 = 0
  | some x => xgI σ (61 + i) 3 = 1 ∧ xgL σ (61 + i) 4 = x
/-- its row i is w -/
def oCr (br : Nat → Nat) (nb : Nat) (σ : xS) (i : Nat) (w : oRow) : Prop := (∀ v, v < 8 → xgL σ (262 + i) v = oF w v) ∧ xgL σ (61 + i) 1 = oR w ∧ oMk br nb (oS w) (xgL σ (61 + i) 2) ∧ oLm σ i (oL w)
theorem oLm_c {σ τ : xS} {i : Nat} {o : Option Int64} (h : oLm σ i o) (h1 : xgI τ (61 + i) 3 = xgI σ (61 + i) 3) (h2 : xgL τ (61 + i) 4 = xgL σ (61 + i) 4) : oLm τ i o := by
  cases o with
  | none => exact h1.trans h
  | some x => exact ⟨h1.trans h.1, h2.trans h.2⟩
theorem oCr_c {br : Nat → Nat} {nb : Nat} {σ τ : xS} {j : Nat} {w : oRow} (hF : ∀ v, v < 8 → xgL τ (262 + j) v = xgL σ (262 + j) v) (h1 : xgL τ (61 + j) 1 = xgL σ (61 + j) 1) (h2 : xgL τ (61 + j) 2 = xgL σ (61 + j) 2) (h3 : xgI τ (61 + j) 3 = xgI σ (61 + j) 3) (h4 : xgL τ (61 + j) 4 = xgL σ (61 + j) 4) (h : oCr br nb σ j w) : oCr br nb τ j w :=
  ⟨fun v hv => (hF v hv).trans (h.1 v hv), h1.trans h.2.1, by rw [h2]; exact h.2.2.1, oLm_c h.2.2.2 h3 h4⟩
theorem oCr_off {br : Nat → Nat} {nb : Nat} {σ τ : xS} {i j : Nat} {w : oRow} (hi : i < 201) (hj : j < 201) (hij : j ≠ i) (ho : xOff i σ τ) (h : oCr br nb σ j w) : oCr br nb τ j w :=
  oCr_c (fun v _ => ho.2.1 _ _ (by omega) (by omega)) (ho.2.1 _ _ (by omega) (by omega)) (ho.2.1 _ _ (by omega) (by omega)) (ho.1 _ _ (by omega)) (ho.2.1 _ _ (by omega) (by omega)) h
theorem rZ_F {σ : xS} {i v : Nat} : ∀ n, xgL (rZ σ i n) (262 + i) v = if v < n then 0 else xgL σ (262 + i) v
  | 0 => by simp [rZ]
  | n + 1 => by
    rw [rZ, xgL_i, rZ_F n]
    by_cases h : v = n
    · simp [h]
    · by_cases h2 : v < n
      · simp [h, h2, Nat.lt_succ_of_lt h2]
      · simp [h, h2, show ¬ v < n + 1 by omega]
theorem oCr_clear {br : Nat → Nat} {nb : Nat} {σ : xS} {i : Nat} (hi : i < 201) : oCr br nb (rClear σ i) i oNil := by
  unfold rClear
  refine ⟨fun v hv => ?_, ?_, ?_, ?_⟩
  · rw [xgL_n (by omega), xgL_I, xgL_n (by omega), xgL_n (by omega), rZ_F, if_pos hv]
    rfl
  · rw [xgL_n (by omega), xgL_I, xgL_n (by omega), xgL_s]
    rfl
  · rw [xgL_n (by omega), xgL_I, xgL_s]
    exact oMk_nil
  · show xgI (xsL _ _ _ _) _ _ = 0
    rw [xgI_L, xgI_s]
theorem rAdd_F {σ : xS} {i j v : Nat} {o : Int64} (hij : i ≠ j) : ∀ n, xgL (rAdd σ i j o n) (262 + i) v = (if v < n then xgL σ (262 + i) v + o * xgL σ (262 + j) v else xgL σ (262 + i) v) ∧ xgL (rAdd σ i j o n) (262 + j) v = xgL σ (262 + j) v
  | 0 => by simp [rAdd]
  | n + 1 => by
    have ih := rAdd_F (σ := σ) (v := v) (o := o) hij n
    have ihn := rAdd_F (σ := σ) (v := n) (o := o) hij n
    rw [rAdd, xgL_i, xgL_n (a := 262 + j) (by omega)]
    refine ⟨?_, ih.2⟩
    by_cases h : v = n
    · subst h
      rw [if_pos ⟨rfl, rfl⟩, if_pos (by omega), ihn.2, ihn.1, if_neg (by omega)]
    · rw [if_neg (fun z => h z.2), ih.1]
      by_cases h2 : v < n
      · rw [if_pos h2, if_pos (by omega)]
      · rw [if_neg h2, if_neg (by omega)]
theorem rAdd_o {σ : xS} {i j a b : Nat} {o : Int64} (h : a ≠ 262 + i) : ∀ n, xgL (rAdd σ i j o n) a b = xgL σ a b
  | 0 => rfl
  | n + 1 => by rw [rAdd, xgL_n (fun z => h z.1), rAdd_o h n]
theorem rAdd_I {σ : xS} {i j a b : Nat} {o : Int64} : ∀ n, xgI (rAdd σ i j o n) a b = xgI σ a b
  | 0 => rfl
  | n + 1 => by rw [rAdd, xgI_L, rAdd_I n]
theorem oCr_addT {br : Nat → Nat} {nb : Nat} {σ : xS} {i j : Nat} {a b : oRow} {o : Int64} (hi : i < 201) (hj : j < 201) (hij : i ≠ j) (ha : oCr br nb σ i a) (hb : oCr br nb σ j b) : oCr br nb (rAddT σ i j o) i (fun v => oF a v + o * oF b v, oR a + o * oR b, oS a, oL a, oB a) := by
  unfold rAddT
  refine ⟨fun v hv => ?_, ?_, ?_, ?_⟩
  · rw [xgL_n (by omega), (rAdd_F hij 8).1, if_pos hv, ha.1 v hv, hb.1 v hv]
    rfl
  · rw [xgL_s, rAdd_o (by omega), rAdd_o (by omega), ha.2.1, hb.2.1]
    rfl
  · rw [xgL_n (by omega), rAdd_o (by omega)]
    exact ha.2.2.1
  · refine oLm_c ha.2.2.2 ?_ ?_
    · rw [xgI_L, rAdd_I]
    · rw [xgL_n (by omega), rAdd_o (by omega)]
theorem oCr_inhA {br : Nat → Nat} {nb : Nat} {σ : xS} {i j : Nat} {a b : oRow} (ha : oCr br nb σ i a) (hb : oCr br nb σ j b) : oCr br nb (rInhA σ i j) i (oF a, oR a, (fun x => oS a x || oS b x), oL a, oB a) := by
  unfold rInhA
  refine ⟨fun v hv => ?_, ?_, ?_, ?_⟩
  · by_cases h : 262 + i = 61 + i
    · omega
    · rw [xgL_n (by omega)]; exact ha.1 v hv
  · rw [xgL_n (by omega)]; exact ha.2.1
  · rw [xgL_s]; exact oMk_or ha.2.2.1 hb.2.2.1
  · exact oLm_c ha.2.2.2 rfl (by rw [xgL_n (by omega)])
theorem rLimit_L {σ : xS} {i a b : Nat} {x : Int64} (h : ¬ (a = 61 + i ∧ b = 4)) : xgL (rLimit σ i x) a b = xgL σ a b := by
  unfold rLimit
  rw [xgL_n h, xgL_I]
theorem rInhL_L {σ : xS} {i j a b : Nat} (h : ¬ (a = 61 + i ∧ b = 4)) : xgL (rInhL σ i j) a b = xgL σ a b := by
  unfold rInhL
  repeat' split
  all_goals first | rfl | exact rLimit_L h
theorem oLm_set {σ : xS} {i : Nat} {x : Int64} : oLm (rLimit σ i x) i (some x) := by
  unfold rLimit
  exact ⟨by rw [xgI_L, xgI_s], by rw [xgL_s]⟩
theorem oLm_inh {σ : xS} {i j : Nat} {p q : Option Int64} (ha : oLm σ i p) (hb : oLm σ j q) : oLm (rInhL σ i j) i (oInh p q) := by
  unfold rInhL oInh
  cases q with
  | none =>
    have hb : xgI σ (61 + j) 3 = 0 := hb
    rw [if_pos hb]
    exact ha
  | some y =>
    obtain ⟨b1, b2⟩ := hb
    rw [if_neg (by rw [b1]; decide)]
    cases p with
    | none =>
      have ha : xgI σ (61 + i) 3 = 0 := ha
      rw [if_pos ha, b2]
      exact oLm_set
    | some x =>
      obtain ⟨a1, a2⟩ := ha
      rw [if_neg (by rw [a1]; decide), a2, b2]
      by_cases h : x ≤ y
      · rw [if_pos h]
        simp only [h, if_true]
        exact ⟨a1, a2⟩
      · rw [if_neg h]
        simp only [h, if_false]
        exact oLm_set
theorem oCr_inhL {br : Nat → Nat} {nb : Nat} {σ : xS} {i j : Nat} {a b : oRow} (ha : oCr br nb σ i a) (hb : oCr br nb σ j b) : oCr br nb (rInhL σ i j) i (oF a, oR a, oS a, oInh (oL a) (oL b), oB a) := by
  refine ⟨fun v hv => ?_, ?_, ?_, ?_⟩
  · rw [rInhL_L (by omega)]; exact ha.1 v hv
  · rw [rInhL_L (by omega)]; exact ha.2.1
  · rw [rInhL_L (by omega)]; exact ha.2.2.1
  · exact oLm_inh ha.2.2.2 hb.2.2.2
/-- SUM -/
theorem oCr_sum {br : Nat → Nat} {nb : Nat} {σ : xS} {i : Nat} {R : Nat → oRow} {p : Nat → Int32} {pr : Nat → Nat} {po : Nat → Int32} (hi : i < 201) (h0 : oCr br nb σ i oNil) : ∀ k, (∀ m, m < k → p (2 + 2 * m) = nI (pr m) ∧ pr m < i ∧ po m = p (2 + 2 * m + 1) ∧ oCr br nb σ (pr m) (R (pr m))) → oCr br nb (dSum σ i pr po k) i (oSum R p k)
  | 0, _ => h0
  | k + 1, h => by
    have ih := oCr_sum (R := R) (p := p) (pr := pr) (po := po) hi h0 k (fun m hm => h m (by omega))
    obtain ⟨h1, h2, h3, h4⟩ := h k (by omega)
    rw [dSum, oSum, h1, nI_clamp (by omega), ← h3]
    have hj : oCr br nb (dSum σ i pr po k) (pr k) (R (pr k)) := oCr_off hi (by omega) (by omega) (dSum_off k) h4
    have s1 := oCr_addT (o := (po k).toInt64) hi (by omega) (by omega) ih hj
    have hj1 := oCr_off hi (by omega) (by omega) (rAddT_off (σ := dSum σ i pr po k) (i := i) (j := pr k) (o := (po k).toInt64)) hj
    have s2 := oCr_inhA s1 hj1
    have hj2 := oCr_off hi (by omega) (by omega) (rInhA_off (σ := rAddT (dSum σ i pr po k) i (pr k) (po k).toInt64) (i := i) (j := pr k)) hj1
    exact oCr_inhL s2 hj2
