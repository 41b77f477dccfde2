/-- cases of a kind -/
theorem oMake_k {D : oMd} {R : Nat → oRow} {p : Nat → Int32} {q : Nat} (h : oNn p 0 = q) (hq : q < 10) :
    (q = 0 ∧ oMake D R p = (0, oGiv D (oNn p 1))) ∨ (q = 1 ∧ oMake D R p = (0, oSgl (oNn p 1) 1 (oHi D (oNn p 1)).toInt64 (fun _ => false) none)) ∨ (q = 2 ∧ oMake D R p = (0, oSgl (oNn p 1) (-1) (-oLo D (oNn p 1)).toInt64 (fun _ => false) none)) ∨ (q = 3 ∧ oMake D R p = (0, oTab D (oNn p 1) (p 2) (p 3))) ∨ (q = 4 ∧ oMake D R p = (0, oSum R p (oNn p 1))) ∨ (q = 5 ∧ oMake D R p = oIf (oDivs (R (oNn p 1)) (p 2).toInt64) (0, oDiv (R (oNn p 1)) (p 2).toInt64) (5, oNil)) ∨ (q = 6 ∧ oMake D R p = (0, oBrn p)) ∨ (q = 7 ∧ oMake D R p = oJoin (R (oNn p 1)) (R (oNn p 2)) (R (oNn p 3)) (R (oNn p 4))) ∨ (q = 8 ∧ oMake D R p = (0, oBet D (oNn p 1))) ∨ (q = 9 ∧ oMake D R p = oPush D (R (oNn p 1)) (oNn p 2)) := by
  unfold oMake
  rw [h]
  rcases (show q = 0 ∨ q = 1 ∨ q = 2 ∨ q = 3 ∨ q = 4 ∨ q = 5 ∨ q = 6 ∨ q = 7 ∨ q = 8 ∨ q = 9 by omega) with e | e | e | e | e | e | e | e | e | e <;> subst e <;> simp
theorem oJoin_k {a b c d : oRow} : oJoin a b c d = (6, oNil) ∨ oJoin a b c d = (7, oNil) ∨ ∃ x, (x = a ∨ x = b) ∧ oJoin a b c d = (0, oJn a b c d x) := by
  unfold oJoin
  by_cases h1 : oJc c d
  · rw [oIf_t h1]
    by_cases h2 : ∀ v, v < 8 → oF a v = oF b v
    · rw [oIf_t h2]
      split
      · exact Or.inr (Or.inr ⟨b, Or.inr rfl, rfl⟩)
      · exact Or.inr (Or.inr ⟨a, Or.inl rfl, rfl⟩)
    · rw [oIf_f h2]
      by_cases h3 : oImp a
      · rw [oIf_t h3]
        exact Or.inr (Or.inr ⟨b, Or.inr rfl, rfl⟩)
      · rw [oIf_f h3]
        by_cases h4 : oImp b
        · rw [oIf_t h4]
          exact Or.inr (Or.inr ⟨a, Or.inl rfl, rfl⟩)
        · rw [oIf_f h4]
          exact Or.inr (Or.inl rfl)
  · rw [oIf_f h1]
    exact Or.inl rfl
/-- what a row may be: no factor beyond the variables, assumes only what Q allows -/
def oGd (V : Nat) (Q : Nat → Prop) (w : oRow) : Prop := (∀ v, V ≤ v → oF w v = 0) ∧ (∀ b, oS w b = true → Q b) ∧ oB w = none
theorem oGd_nil {V : Nat} {Q : Nat → Prop} : oGd V Q oNil := ⟨fun _ _ => rfl, fun b hb => absurd hb (by show ¬ false = true; decide), rfl⟩
theorem oGd_sgl {V v : Nat} {Q : Nat → Prop} {f r : Int64} {S : Nat → Bool} {L : Option Int64} (hv : v < V) (hS : ∀ b, S b = true → Q b) : oGd V Q (oSgl v f r S L) := ⟨fun u hu => if_neg (by omega), hS, rfl⟩
theorem oGd_sum {V : Nat} {Q : Nat → Prop} {R : Nat → oRow} {p : Nat → Int32} : ∀ k, (∀ m, m < k → (∀ v, V ≤ v → oF (R (oNn p (2 + 2 * m))) v = 0) ∧ ∀ b, oS (R (oNn p (2 + 2 * m))) b = true → Q b) → oGd V Q (oSum R p k)
  | 0, _ => oGd_nil
  | k + 1, h => by
    obtain ⟨i1, i2, i3⟩ := oGd_sum (V := V) (Q := Q) (R := R) (p := p) k (fun m hm => h m (by omega))
    obtain ⟨h1, h2⟩ := h k (by omega)
    refine ⟨fun v hv => ?_, fun b hb => ?_, i3⟩
    · show oF (oSum R p k) v + (p (2 + 2 * k + 1)).toInt64 * oF (R (oNn p (2 + 2 * k))) v = 0
      rw [i1 v hv, h1 v hv, Int64.mul_zero, Int64.add_zero]
    · have hb : (oS (oSum R p k) b || oS (R (oNn p (2 + 2 * k))) b) = true := hb
      rcases Bool.or_eq_true_iff.mp hb with e | e
      · exact i2 b e
      · exact h2 b e
theorem oGd_make {D : oMd} {R : Nat → oRow} {p : Nat → Int32} {r nb q : Nat} {Q : Nat → Prop} (hwm : oWm D) (hr : r ≤ 200) (hq : p 0 = nI q) (hq9 : q < 10) (h : ∀ k, k < oLen p → oFlt D r nb (p 0) k (p k) = 0) (hR : ∀ k, k < r → (∀ v, oV D ≤ v → oF (R k) v = 0) ∧ ∀ b, oS (R k) b = true → Q b) : oGd (oV D) Q (oMake D R p).2 := by
  obtain ⟨⟨v1, v2, v3, v4⟩, w5, w6, w7, w8⟩ := hwm
  have hn : oNn p 0 = q := by unfold oNn; rw [hq, nI_clamp (by omega)]
  have hlb := oLen_b (p := p)
  obtain ⟨s4, s5, s7⟩ := oSrc hr hq hq9 h
  have var : ∀ k, k < oLen p → k < 10 → ¬ k = 0 → dmN q k = 2 → oNn p k < oV D := by
    intro k k1 k2 k3 k4
    have hk := h k k1
    rw [hq] at hk
    obtain ⟨j, hj, e⟩ := oPl_var hq9 k2 k3 k4 hk
    unfold oNn
    rw [e, nI_clamp (by omega)]
    exact hj
  rcases oMake_k (D := D) (R := R) hn hq9 with ⟨e, m⟩ | ⟨e, m⟩ | ⟨e, m⟩ | ⟨e, m⟩ | ⟨e, m⟩ | ⟨e, m⟩ | ⟨e, m⟩ | ⟨e, m⟩ | ⟨e, m⟩ | ⟨e, m⟩ <;> rw [m] <;> subst e
  · refine ⟨fun v hv => ?_, fun b hb => absurd hb (by show ¬ false = true; decide), rfl⟩
    show (oRu D (oNn p 1) v).toInt64 = 0
    rw [w6 _ v hv]
    decide
  · exact oGd_sgl (var 1 (by omega) (by omega) (by omega) rfl) (fun b hb => absurd hb (by decide))
  · exact oGd_sgl (var 1 (by omega) (by omega) (by omega) rfl) (fun b hb => absurd hb (by decide))
  · have hk := h 1 (by omega)
    rw [hq] at hk
    obtain ⟨j, hj, e⟩ := oPl_tab hq9 (by omega) (by omega) rfl hk
    have e1 : oNn p 1 = j := by unfold oNn; rw [e, nI_clamp (by omega)]
    refine ⟨fun v hv => ?_, fun b hb => absurd hb (by show ¬ false = true; decide), rfl⟩
    obtain ⟨t1, t2, -⟩ := w8 j hj
    show (if v = oGs D (oNn p 1) then _ else if v = oFs D (oNn p 1) then _ else (0 : Int64)) = 0
    rw [e1, if_neg (by omega), if_neg (by omega)]
  · exact oGd_sum _ (fun m hm => hR _ (((s4 rfl).2.2.2.2 m hm).2))
  · obtain ⟨a1, a2⟩ := s5 (Or.inl rfl)
    obtain ⟨b1, b2⟩ := hR _ a2
    by_cases c : oDivs (R (oNn p 1)) (p 2).toInt64
    · rw [oIf_t c]
      refine ⟨fun v hv => ?_, b2, rfl⟩
      show oF (R (oNn p 1)) v / (p 2).toInt64 = 0
      rw [b1 v hv, Int64.zero_div]
    · rw [oIf_f c]
      exact oGd_nil
  · have hv1 := var 1 (by omega) (by omega) (by omega) rfl
    show oGd (oV D) Q (oBrn p)
    unfold oBrn
    split
    · exact oGd_sgl hv1 (fun b hb => absurd hb (by decide))
    · exact oGd_sgl hv1 (fun b hb => absurd hb (by decide))
  · have r1 := hR _ (s7 rfl 1 (by omega) (by omega)).2
    have r2 := hR _ (s7 rfl 2 (by omega) (by omega)).2
    rcases oJoin_k (a := R (oNn p 1)) (b := R (oNn p 2)) (c := R (oNn p 3)) (d := R (oNn p 4)) with j | j | ⟨x, hx, j⟩ <;> rw [j]
    · exact oGd_nil
    · exact oGd_nil
    · refine ⟨fun v hv => ?_, fun b hb => ?_, rfl⟩
      · show oF x v = 0
        rcases hx with e | e <;> rw [e]
        · exact r1.1 v hv
        · exact r2.1 v hv
      · have hb : ((oS (R (oNn p 1)) b && !oS (R (oNn p 3)) b) || (oS (R (oNn p 2)) b && !oS (R (oNn p 4)) b)) = true := hb
        rcases Bool.or_eq_true_iff.mp hb with e | e
        · exact r1.2 b (Bool.and_eq_true_iff.mp e).1
        · exact r2.2 b (Bool.and_eq_true_iff.mp e).1
  · refine ⟨fun v hv => ?_, fun b hb => absurd hb (by show ¬ false = true; decide), rfl⟩
    show (oCo D v).toInt64 = 0
    rw [(w5 v hv).2.2]
    decide
  · obtain ⟨a1, a2⟩ := s5 (Or.inr rfl)
    obtain ⟨b1, b2⟩ := hR _ a2
    have hl : oLen p = 3 := by unfold oLen; rw [hn]; rfl
    have hv2 := var 2 (by omega) (by omega) (by omega) rfl
    unfold oPush
    split
    · exact oGd_nil
    · split
      · exact oGd_sgl hv2 b2
      · exact oGd_sgl hv2 b2
/-- the rows that stand -/
theorem oWc_g {D : oMd} {C : oCt} (hwm : oWm D) (h : oWc D C) : ∀ n r, r < n → r < oNr C → (∀ v, oV D ≤ v → oF (oRw C r) v = 0) ∧ (∀ b, oS (oRw C r) b = true → b ≤ r ∧ oNn (oPr C b) 0 = 6) ∧ oB (oRw C r) = (if oNn (oPr C r) 0 = 6 then some (oPr C r 1, oPr C r 2, oPr C r 3) else none) ∧ (oNn (oPr C r) 0 = 6 → oS (oRw C r) = fun x => x == r)
  | 0, _, h0, _ => absurd h0 (by omega)
  | n + 1, r, hn, hr => by
    have ih := fun k (hk : k < r) => oWc_g hwm h n k (by omega) (by omega)
    obtain ⟨a1, a2, ⟨a3, a4, a5, a6⟩, a7⟩ := h.2.2.2.1 r hr
    have hr2 : r ≤ 200 := by have := h.1.2.1; omega
    obtain ⟨q, q1, q2, q3, q4⟩ := oRk_q (R := oRw C) a3 hr2
    have g := oGd_make (Q := fun b => b ≤ r ∧ oNn (oPr C b) 0 = 6) hwm hr2 q2 q1 a3 (fun k hk => ⟨(ih k hk).1, fun b hb => by have := (ih k hk).2.1 b hb; exact ⟨by omega, this.2⟩⟩)
    rw [a6]
    unfold oKp
    by_cases c : oNn (oPr C r) 0 = 6
    · rw [if_pos c, if_pos c]
      refine ⟨g.1, fun b hb => ?_, rfl, fun _ => rfl⟩
      have hb : (b == r) = true := hb
      have e : b = r := by simpa using hb
      rw [e]
      exact ⟨Nat.le_refl _, c⟩
    · rw [if_neg c, if_neg c]
      exact ⟨g.1, g.2.1, g.2.2, fun z => absurd z c⟩
/-- the branches -/
theorem oBc_at {ps : Nat → Nat → Int32} : ∀ n i, i < oBc ps n → ∃ r, r < n ∧ oNn (ps r) 0 = 6 ∧ oBc ps r = i
  | 0, i, h => absurd h (by show ¬ i < 0; omega)
  | n + 1, i, h => by
    rw [oBc] at h
    by_cases c : oNn (ps n) 0 = 6
    · rw [if_pos c] at h
      by_cases e : i < oBc ps n
      · obtain ⟨r, h1, h2, h3⟩ := oBc_at n i e
        exact ⟨r, by omega, h2, h3⟩
      · exact ⟨n, by omega, c, by omega⟩
    · rw [if_neg c] at h
      obtain ⟨r, h1, h2, h3⟩ := oBc_at n i h
      exact ⟨r, by omega, h2, h3⟩
theorem oWc_b {D : oMd} {C : oCt} (h : oWc D C) {i : Nat} (hi : i < oNb C) : oBr C i < oNr C ∧ oNn (oPr C (oBr C i)) 0 = 6 ∧ oBc (oPr C) (oBr C i) = i := by
  rw [h.1.2.2.2.1] at hi
  obtain ⟨r, h1, h2, h3⟩ := oBc_at _ i hi
  have := (h.2.2.2.1 r h1).2.2.2 h2
  rw [h3] at this
  rw [this]
  exact ⟨h1, h2, h3⟩
