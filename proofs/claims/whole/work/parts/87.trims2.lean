/-! the numbers moved together -/
theorem sMove_2 {σ : xS} {s0 t0 nr : Nat} {q : Int32} : ∀ n, (sMove σ s0 t0 nr q n).2 = σ.2
  | 0 => rfl
  | n + 1 => by rw [sMove, xsI_22, sMove_2 n]
theorem sMove_v {σ : xS} {s0 t0 nr q : Nat} {p : Nat → Int32} {nd : Nat → Int32} (hq : q < 10) (hqn : oNn p 0 = q) (hst : t0 ≤ s0) (hnum : ∀ i, i < oLen p → xgI σ 7 (s0 + i) = p i) (hp : ∀ i, i < oLen p → aIsRow q i → p i = nI (oNn p i) ∧ oNn p i < nr ∧ xgI σ 14 (oNn p i) = nI (oNw nd (oNn p i))) : ∀ n, n ≤ oLen p → n ≤ 10 → ∀ b, xgI (sMove σ s0 t0 nr (nI q) n) 7 b = if t0 ≤ b ∧ b < t0 + n then oEn nd p (b - t0) else xgI σ 7 b
  | 0, _, _, b => by rw [if_neg (by omega)]; rfl
  | n + 1, h1, h2, b => by
    have ih := sMove_v (nd := nd) hq hqn hst hnum hp n (by omega) (by omega)
    have rd : xgI (sMove σ s0 t0 nr (nI q) n) 7 (s0 + n) = p n := by
      rw [ih, if_neg (by omega)]
      exact hnum n (by omega)
    have val : sMove σ s0 t0 nr (nI q) (n + 1) = xsI (sMove σ s0 t0 nr (nI q) n) 7 (t0 + n) (oEn nd p n) := by
      by_cases c : aIsRow q n
      · obtain ⟨p1, p2, p3⟩ := hp n (by omega) c
        have n0 : n ≠ 0 := fun y => by rw [y] at c; exact dm_r0 c
        rw [sMove_1 ⟨(dm_row q hq n (by omega) n0).mpr c, by rw [rd]; exact ⟨_, p2, p1⟩⟩, rd]
        have hcl : (p n).toNatClampNeg = oNn p n := rfl
        have en : oEn nd p n = nI (oNw nd (oNn p n)) := by unfold oEn; rw [hqn]; exact if_pos c
        rw [hcl, p3, en]
      · have en : oEn nd p n = p n := by unfold oEn; rw [hqn]; exact if_neg c
        rw [sMove_0, rd, en]
        rintro ⟨y1, -⟩
        by_cases n0 : n = 0
        · subst n0
          have : ∀ q, q < 10 → ¬ dMean (nI q) (nI 0) = 6 := by decide +kernel
          exact this q hq y1
        · exact c ((dm_row q hq n (by omega) n0).mp y1)
    rw [val, xgI_i, ih b]
    by_cases e : b = t0 + n
    · rw [if_pos ⟨rfl, e⟩, if_pos (by omega), e, show t0 + n - t0 = n by omega]
    · rw [if_neg (fun y => e y.2)]
      by_cases d : t0 ≤ b ∧ b < t0 + n
      · rw [if_pos d, if_pos (by omega)]
      · rw [if_neg d, if_neg (by omega)]
theorem sGap_2 {τ : xS} {nr : Nat} {kd sa ln : Nat → Nat} : ∀ r, (sGap τ nr kd sa ln r).2.2.2 = τ.2
  | 0 => rfl
  | r + 1 => by
    by_cases c : xgI τ 13 r = 0
    · rw [sGap_0 c]; exact sGap_2 r
    · rw [sGap_1 c]
      show (sMove _ _ _ _ _ _).2 = _
      rw [sMove_2, xsI_22]
      exact sGap_2 r
theorem sGap_skip {τ : xS} {nr m : Nat} {kd sa ln : Nat → Nat} : ∀ d, (∀ j, m ≤ j → j < m + d → xgI τ 13 j = 0) → sGap τ nr kd sa ln (m + d) = sGap τ nr kd sa ln m
  | 0, _ => rfl
  | d + 1, h => by
    rw [show m + (d + 1) = (m + d) + 1 by omega, sGap_0 (h (m + d) (by omega) (by omega)), sGap_skip d (fun j h1 h2 => h j h1 (by omega))]
theorem sGap_e {D : oMd} {C : oCt} {τ : xS} {nd : Nat → Int32} {w : Nat} {dg : Int32} (h : oWc D C) (hw : w < oNr C) (h7 : ∀ i, i < oZ C → xgI τ 7 i = oU C i) (h13 : ∀ b, b < 200 → xgI τ 13 b = nd b) (hcl : ∀ j, j ≤ w → ¬ nd j = 0 → ∀ b, oIn (oPr C j) b → ¬ nd b = 0) (h0 : oU C 0 = dg) : ∀ r, r ≤ w + 1 → (sGap τ (oNr C) (oKd C) (oRf C) (oLn C) r).1 = oMn (oPr C) nd r ∧ (sGap τ (oNr C) (oKd C) (oRf C) (oLn C) r).2.1 = oNw nd r ∧ (∀ b, b < r → ¬ nd b = 0 → xgI (sGap τ (oNr C) (oKd C) (oRf C) (oLn C) r).2.2 14 b = nI (oNw nd b)) ∧ (∀ b, b < oMn (oPr C) nd r → xgI (sGap τ (oNr C) (oKd C) (oRf C) (oLn C) r).2.2 7 b = oKep dg (oPr C) nd r b) ∧ (∀ b, oRf C r ≤ b → b < oZ C → xgI (sGap τ (oNr C) (oKd C) (oRf C) (oLn C) r).2.2 7 b = oU C b)
  | 0, _ => ⟨rfl, rfl, fun b hb => absurd hb (by omega), fun b hb => by
      have hb : b < 1 := hb
      have hz := oRf_z h hw
      have := oLen_b (p := oPr C w)
      rw [show b = 0 by omega]
      exact (h7 0 (by omega)).trans h0, fun b _ hb => h7 b hb⟩
  | r + 1, hr => by
    have h200 := h.1.2.1
    have hrn : r < oNr C := by omega
    obtain ⟨i1, i2, i3, i4, i5⟩ := sGap_e h hw h7 h13 hcl h0 r (by omega)
    have hz := oRf_z h hrn
    have hlb := oLen_b (p := oPr C r)
    have hl10 := oLen_10 h hrn
    have hrf := (h.2.2.2.1 r hrn).1
    obtain ⟨q, q1, q2, q3, q4⟩ := oRk_q (R := oRw C) (h.2.2.2.1 r hrn).2.2.1.1 (by omega)
    have ed := h13 r (by omega)
    have hmz := oMn_z (nd := nd) h r (by omega)
    by_cases c : nd r = 0
    · rw [sGap_0 (ed.trans c), oMn, oNw, oKep, if_pos c, if_pos c, if_pos c]
      refine ⟨i1, i2, fun b hb hn => ?_, i4, fun b hb hbz => i5 b (by omega) hbz⟩
      by_cases k : b = r
      · rw [k] at hn; exact absurd c hn
      · exact i3 b (by omega) hn
    · have mv := sMove_v (σ := xsI (sGap τ (oNr C) (oKd C) (oRf C) (oLn C) r).2.2 14 r (nI (oNw nd r))) (s0 := oRf C r) (t0 := oMn (oPr C) nd r) (nr := oNr C) (q := oKd C r) (p := oPr C r) (nd := nd) (by show oNn (oPr C r) 0 < 10; omega) rfl hmz (fun i hi => by
        rw [xgI_n (by omega), i5 _ (by omega) (by omega)]
        exact (h.2.2.2.1 r hrn).2.1 i hi) (fun i hi hR => by
        have pl := oPlace h hrn hi hR
        refine ⟨pl.1, by omega, ?_⟩
        rw [xgI_n (by omega)]
        exact i3 _ pl.2 (hcl r (by omega) c _ ⟨i, hi, hR, rfl⟩)) (oLn C r) (Nat.le_refl _) hl10
      rw [sGap_1 (fun y => c (ed.symm.trans y)), oMn, oNw, oKep, if_neg c, if_neg c, if_neg c, i1, i2]
      have eln : oLn C r = oLen (oPr C r) := rfl
      refine ⟨rfl, rfl, fun b hb hn => ?_, fun b hb => ?_, fun b hb hbz => ?_⟩
      · show xgI (sMove _ _ _ _ _ _) 14 b = _
        rw [sMove_o b (by omega), xgI_i]
        by_cases k : b = r
        · rw [if_pos ⟨rfl, k⟩, k]
        · rw [if_neg (fun y => k y.2)]
          exact i3 b (by omega) hn
      · show xgI (sMove (xsI (sGap τ (oNr C) (oKd C) (oRf C) (oLn C) r).2.2 14 r (nI (oNw nd r))) (oRf C r) (oMn (oPr C) nd r) (oNr C) (nI (oKd C r)) (oLn C r)) 7 b = if b < oMn (oPr C) nd r then oKep dg (oPr C) nd r b else oEn nd (oPr C r) (b - oMn (oPr C) nd r)
        rw [mv b]
        by_cases k : b < oMn (oPr C) nd r
        · rw [if_neg (by omega), if_pos k, xgI_n (by omega)]
          exact i4 b k
        · rw [if_pos (by omega), if_neg k]
      · show xgI (sMove (xsI (sGap τ (oNr C) (oKd C) (oRf C) (oLn C) r).2.2 14 r (nI (oNw nd r))) (oRf C r) (oMn (oPr C) nd r) (oNr C) (nI (oKd C r)) (oLn C r)) 7 b = oU C b
        rw [mv b, if_neg (by omega), xgI_n (by omega)]
        exact i5 b (by omega) hbz
/-- a certificate begins anew, whatever its numbers are -/
theorem oIc_new2 {D : oMd} {C : oCt} {z : Nat} {t : Nat → Int32} {g : Int32} {σ τ : xS} (hw : oIw D C z) (h : oIc D C z t g σ) (hI : ∀ a b, a ≠ 7 → a ≠ 13 → a ≠ 14 → xgI τ a b = xgI σ a b) (h2 : τ.2 = σ.2) : oIc D oNew z t 1 (cStart τ) := by
  obtain ⟨⟨a1, a2⟩, b, c, d, -, -⟩ := h
  have k : ∀ a b, a ≠ 6 → a ≠ 8 → a ≠ 11 → a ≠ 7 → a ≠ 13 → a ≠ 14 → xgI (cStart τ) a b = xgI σ a b := fun a b h1 h2 h3 h4 h5 h6 => by
    unfold cStart
    rw [xgI_n (by omega), cEnd_u.1 a b h1 h2 h3]
    exact hI a b h4 h5 h6
  have eC : xgC (cStart τ) = xgC σ := by
    unfold xgC
    show (cEnd τ).2.2.1 = _
    rw [cEnd_u.2, h2]
  have eD : xgD (cStart τ) = xgD σ := by
    unfold xgD
    show (cEnd τ).2.2.2 = _
    rw [cEnd_u.2, h2]
  refine ⟨⟨?_, fun i hi => ?_⟩, ?_, ?_, ?_, oNew_c, by unfold cStart; rw [xgI_s]⟩
  · rw [k _ _ (by omega) (by omega) (by omega) (by omega) (by omega) (by omega)]; exact a1
  · rw [k _ _ (by omega) (by omega) (by omega) (by omega) (by omega) (by omega)]; exact a2 i hi
  · rw [eC]
    exact oCm_c b hw.1.1.2.1 hw.1.1.2.2.1 hw.1.1.2.2.2 (fun a b hab => k a b (by omega) (by omega) (by omega) (by omega) (by omega) (by omega))
  · rw [eC, eD]; exact c
  · rw [k _ _ (by omega) (by omega) (by omega) (by omega) (by omega) (by omega)]; exact d
theorem o_trim {l : Launch} {G : xG} {σ : xS} {D : oMd} {C : oCt} {z w : Nat} {t : Nat → Int32} {g : Int32} (hw : oIw D C z) (hw1 : oW1 D C) (h : oIc D C z t g σ) (hn : w < oNr C) : xM l G yX8_trim cX8_trim 4 (Option.some Jvm.ClassFile.FieldType.int) 6 154 [.ref (G.2.1 0), .int (nI w)] σ (oAc D (oTrm D C w) z t 1 σ (nI (oNeed (oPr C) w).1)) := by
  have hW := hw.2.1
  have h200 := hW.1.2.1
  have hc := h.2.2.2.2.1
  obtain ⟨k1, k2, k3, k4⟩ := oNeed_k hW hn
  obtain ⟨s1, s2, s3, s4⟩ := sNeed_e hW hc.1 hn
  have hz := oRf_z hW hn
  have hlb := oLen_b (p := oPr C w)
  have hrf1 : 1 ≤ oRf C w := by
    have := oMn_z (nd := fun _ => 0) hW w (by omega)
    have := oMn_1 (ps := oPr C) (nd := fun _ => 0) (r := w)
    omega
  have hdg : oU C 0 = oDg D := hw1 (by omega) (Or.inr (by omega))
  have eN : sNeed σ (oNr C) w (oKd C) (oRf C) (oLn C) = (sNd (oNr C) (oKd C) (oRf C) (oLn C) 200 (0, sN0 σ w 200)).2 := rfl
  obtain ⟨τ, hτ⟩ : ∃ τ, sNeed σ (oNr C) w (oKd C) (oRf C) (oLn C) = τ := ⟨_, rfl⟩
  rw [← eN, hτ] at s2 s3 s4
  obtain ⟨g1, g2, g3, g4, g5⟩ := sGap_e (nd := oTn C w) hW hn (fun i hi => (s3 _ _ (by omega)).trans (hc.1.2.1 i hi)) s2 k2 hdg (w + 1) (Nat.le_refl _)
  have sk := sGap_skip (τ := τ) (nr := oNr C) (kd := oKd C) (sa := oRf C) (ln := oLn C) (m := w + 1) (200 - (w + 1)) (fun j j1 j2 => by
    rw [s2 j (by omega)]
    exact k4 j (by omega))
  rw [show w + 1 + (200 - (w + 1)) = 200 by omega] at sk
  obtain ⟨γ, hγ⟩ : ∃ γ, (sGap τ (oNr C) (oKd C) (oRf C) (oLn C) 200).2.2 = γ := ⟨_, rfl⟩
  rw [← sk] at g1 g4
  rw [hγ] at g4
  have hm15 := oMn_15 (nd := oTn C w) hW hn
  have hγI : ∀ a b, a ≠ 7 → a ≠ 13 → a ≠ 14 → xgI γ a b = xgI σ a b := fun a b x1 x2 x3 => by
    rw [← hγ, sGap_o b x1 x3]
    exact s3 a b x2
  have hγ2 : γ.2 = σ.2 := by rw [← hγ, sGap_2]; exact s4
  have hKS : oKc σ (cStart γ) := ⟨fun a b x1 x2 => by
    unfold cStart
    rw [xgI_n (by omega), cEnd_u.1 a b (by omega) (by omega) (by omega)]
    exact hγI a b (by omega) (by omega) (by omega), fun a b _ _ => by
    show (cEnd γ).2.1 a b = σ.2.1 a b
    rw [cEnd_u.2, hγ2]⟩
  have hk : ∀ k, oIw D (oTks D oNew (oKep (oDg D) (oPr C) (oTn C w) (w + 1)) k) z := fun k => ⟨hw.1, oTks_w oNew_w k, hw.2.2⟩
  refine xM.mono (c_X8_trimI (le := oMn (oPr C) (oTn C w) (w + 1)) (g := γ) (I := fun k τ' => oIc D (oTks D oNew (oKep (oDg D) (oPr C) (oTn C w) (w + 1)) k) z t 1 τ' ∧ oCu (cStart γ) τ' ∧ ∀ i, k ≤ i → i < oMn (oPr C) (oTn C w) (w + 1) → xgI τ' 7 i = oKep (oDg D) (oPr C) (oTn C w) (w + 1) i) h.2.1.1 h200 hc.1.2.2.1.1 hn (oRowsAt hW hc.1) (fun _ => hW.1.2.2.2.2) (fun r hr => (hW.2.2.2.1 r (by omega)).1) (by rw [hτ]; exact g1) (by rw [hτ]; exact hγ) hm15 ⟨oIc_new2 hw h hγI hγ2, oCu.rf, fun i _ hi => ?_⟩ (fun k τ' hI => ?_) (fun k τ' hkl hI => ?_)) (fun r u e => ?_)
  · unfold cStart
    rw [xgI_n (by omega), cEnd_u.1 _ _ (by omega) (by omega) (by omega)]
    exact g4 i hi
  · rw [hI.2.1.2.2.1]
    show (cEnd γ).2.2.1 = _
    rw [cEnd_u.2, hγ2]
    rfl
  · have e : xgC τ' = xgC σ := by
      rw [hI.2.1.2.2.1]
      show (cEnd γ).2.2.1 = _
      rw [cEnd_u.2, hγ2]
      rfl
    rw [hI.2.2 k (Nat.le_refl _) hkl, ← e]
    refine xM.mono (o_take7 hI.1.2.1 hw.1 (oTks_w oNew_w k) hI.1.2.2.2.2.1) (fun r u e => ⟨e.1, oIc_C (hk k) hI.1 e.2.2.1 e.2.1, hI.2.1.tr e.2.2.1, fun i i1 i2 => ?_⟩)
    have hzk := oTks_z (D := D) (f := oKep (oDg D) (oPr C) (oTn C w) (w + 1)) k
    rw [e.2.2.2 i (by omega)]
    exact hI.2.2 i (by omega) i2
  · obtain ⟨⟨e1, e2, -⟩, e3⟩ := e
    refine ⟨?_, e1, hKS.tr (oKc.u e2)⟩
    rw [e3, e1.2.2.2.2.1.1.2.2.1.1, ← (oTrm_a (D := D) hW hn).2]
    rfl
