/-! model -/
def oSp (d a : Nat) : Prop := (d ≤ a ∧ a ≤ d + 10) ∨ (mF d ≤ a ∧ a < mF d + 20) ∨ (mP d ≤ a ∧ a < mP d + 4) ∨ (mQ d ≤ a ∧ a < mQ d + 4)
theorem oSp_d {c d a : Nat} (hc : xMod c) (hd : xMod d) (h : d ≠ c) (ha : oSp c a) : ¬ oSp d a := by
  unfold oSp mF mP mQ at *
  rcases hc with e | e <;> rcases hd with f | f <;> subst e <;> subst f
  · omega
  · simp only [if_pos, if_neg (show ¬ (26 : Nat) = 15 by omega)] at ha ⊢
    omega
  · simp only [if_pos, if_neg (show ¬ (26 : Nat) = 15 by omega)] at ha ⊢
    omega
  · omega
theorem oCm_c2 {D : oMd} {σ τ : xS} {c : Nat} (hw : oWm D) (hm : oCm D σ c) (h : ∀ a b, oSp c a ∨ a = 3 ∨ (463 ≤ a ∧ a < 471) → xgI τ a b = xgI σ a b) : oCm D τ c := by
  obtain ⟨⟨v1, v2, v3, v4⟩, -⟩ := hw
  obtain ⟨m0, ⟨a1, a2, a3, a4⟩, a5, a6, a7, a8, a9⟩ := hm
  unfold oSp at h
  refine ⟨m0, ⟨?_, ?_, ?_, ?_⟩, fun v hv => ⟨?_, ?_, ?_⟩, fun r hr => ⟨fun v hv => ?_, ?_⟩, fun t ht => ⟨?_, ?_, ?_, fun k hk => ⟨?_, ?_⟩⟩, ?_, fun p hp v hv => ?_⟩
  · rw [h _ _ (by omega)]; exact a1
  · rw [h _ _ (by omega)]; exact a2
  · rw [h _ _ (by omega)]; exact a3
  · rw [h _ _ (by omega)]; exact a4
  · rw [h _ _ (by omega)]; exact (a5 v hv).1
  · rw [h _ _ (by omega)]; exact (a5 v hv).2.1
  · rw [h _ _ (by omega)]; exact (a5 v hv).2.2
  · rw [h _ _ (by omega)]; exact (a6 r hr).1 v hv
  · rw [h _ _ (by omega)]; exact (a6 r hr).2
  · rw [h _ _ (by omega)]; exact (a7 t ht).1
  · rw [h _ _ (by omega)]; exact (a7 t ht).2.1
  · rw [h _ _ (by omega)]; exact (a7 t ht).2.2.1
  · rw [h _ _ (by omega)]; exact ((a7 t ht).2.2.2 k hk).1
  · rw [h _ _ (by omega)]; exact ((a7 t ht).2.2.2 k hk).2
  · rw [h _ _ (by omega)]; exact a8
  · rw [h _ _ (by omega)]; exact a9 p hp v hv
theorem mS7_o {σ : xS} {d z a : Nat} (b : Nat) (hm : xMod d) (h : a ≠ 1) (hs : ¬ oSp d a) : xgI (mS7 σ d z) a b = xgI σ a b := by
  unfold oSp at hs
  unfold mS7 mS6 mS5 mS4 mS3 mS2 mS1 tRew
  rw [xgI_n (by omega), mTs_o b h (by omega) (by omega) (by omega) (by omega) (by omega) _ (mT_ok σ d).1, tPut_o b h (by omega), mRs_o b h (by omega) (by omega) _ (mR_ok σ d).1, tPut_o b h (by omega), mVs_o b h (by omega) (by omega) (by omega), tPut_o b h (by omega), xgI_n (by omega), xgI_n (by omega)]
/-- the whole reading: the reader's end, and the cells -/
theorem mS_all {σ : xS} {t : Nat → Int32} {z d : Nat} (hm : xMod d) (h : oTp σ z t) (hz : z ≤ 1000) : (mV σ d = gV t z ∧ mR σ d = gN t z ∧ mT σ d = gM t z) ∧ oRd (mS6 σ d) t z (g6 t z) ∧ (xgI (mS6 σ d) d 0 = nI (gV t z) ∧ xgI (mS6 σ d) d 1 = nI (gN t z) ∧ xgI (mS6 σ d) d 2 = nI (gM t z)) ∧ (∀ v, v < 8 → xgI (mS6 σ d) (d + 1) v = jLo t z (gV t z) (g1 t z) v ∧ xgI (mS6 σ d) (d + 2) v = jHi t z (gV t z) (g1 t z) v ∧ xgI (mS6 σ d) (d + 3) v = jCo t z (gV t z) (g1 t z) v) ∧ (∀ k, k < gN t z → (∀ v, v < 8 → xgI (mS6 σ d) (mF d + k) v = jFa t z (gV t z) (aIt (rS t z (gV t z)) k (g3 t z)) v) ∧ xgI (mS6 σ d) (d + 5) k = jRr t z (gV t z) (aIt (rS t z (gV t z)) k (g3 t z))) ∧ (∀ q, q < gM t z → xgI (mS6 σ d) (d + 6) q = tA t z (gV t z) (aIt (tS t z (gV t z)) q (g5 t z)) ∧ (¬ (aIt (tS t z (gV t z)) (q + 1) (g5 t z)).2 = true → xgI (mS6 σ d) (d + 7) q = tB t z (gV t z) (aIt (tS t z (gV t z)) q (g5 t z))) ∧ xgI (mS6 σ d) (d + 8) q = nI (tN t z (gV t z) (aIt (tS t z (gV t z)) q (g5 t z))) ∧ ∀ i, i < tN t z (gV t z) (aIt (tS t z (gV t z)) q (g5 t z)) → xgI (mS6 σ d) (mP d + q) i = jP1 t z (tD t z (gV t z) (aIt (tS t z (gV t z)) q (g5 t z))) i ∧ xgI (mS6 σ d) (mQ d + q) i = jP2 t z (tD t z (gV t z) (aIt (tS t z (gV t z)) q (g5 t z))) i) := by
  have hcb := mC_b hm
  have hFb := mF_b hm
  have hPb := mP_b hm
  have hQb := mQ_b hm
  have hFP : mF d + 20 ≤ mP d ∧ mF d + 20 ≤ mQ d := by
    unfold mF mP mQ
    rcases hm with e | e <;> subst e <;> decide
  obtain ⟨gv, gv1, gv8⟩ := gV_n t z
  obtain ⟨gn, -, gn20⟩ := gN_n t z
  obtain ⟨gm, -, gm4⟩ := gM_n t z
  obtain ⟨a1, a2, a3⟩ := tPut_r (a := 1) (b := 8) (k := d) (j := 0) (oRd_0 h) hz (by omega) (by omega)
  have eV : mV σ d = gV t z := by
    unfold mV mS1
    rw [a2, gv, nI_clamp (by omega)]
  obtain ⟨b1, b2⟩ := mVs_r (c := d) (V := gV t z) (by omega) a1 hz 8
  have e8 : (if 8 ≤ gV t z then 8 else gV t z) = gV t z := by
    by_cases e : 8 ≤ gV t z
    · rw [if_pos e]; omega
    · rw [if_neg e]
  rw [e8] at b1
  have e2 : mS2 σ d = mVs (tPut (tRew σ) 1 8 d 0) d (gV t z) 8 := by unfold mS2 mS1; rw [eV]
  have b1' : oRd (mS2 σ d) t z (g2 t z) := by rw [e2]; exact b1
  obtain ⟨c1, c2, c3⟩ := tPut_r (a := 0) (b := 20) (k := d) (j := 1) b1' hz (by omega) (by omega)
  have eR : mR σ d = gN t z := by
    unfold mR mS3
    rw [c2, gn, nI_clamp (by omega)]
  have c1' : oRd (mS3 σ d) t z (g3 t z) := c1
  obtain ⟨d1, d2⟩ := mRs_r (c := d) (V := gV t z) hm gv8 c1' hz (gN t z) gn20
  have e4 : mS4 σ d = mRs (mS3 σ d) d (gV t z) (gN t z) := by unfold mS4; rw [eV, eR]
  have d1' : oRd (mS4 σ d) t z (g4 t z) := by rw [e4]; exact d1
  obtain ⟨f1, f2, f3⟩ := tPut_r (a := 0) (b := 4) (k := d) (j := 2) d1' hz (by omega) (by omega)
  have eT : mT σ d = gM t z := by
    unfold mT mS5
    rw [f2, gm, nI_clamp (by omega)]
  have f1' : oRd (mS5 σ d) t z (g5 t z) := f1
  obtain ⟨h1, h2⟩ := mTs_r (c := d) (V := gV t z) hm f1' hz (gM t z) gm4
  have e6 : mS6 σ d = mTs (mS5 σ d) d (gV t z) (gM t z) := by unfold mS6; rw [eV, eT]
  have k6 : ∀ a b, a ≠ 1 → a ≠ d + 6 → a ≠ d + 7 → a ≠ d + 8 → (a < mP d ∨ mP d + 4 ≤ a) → (a < mQ d ∨ mQ d + 4 ≤ a) → ¬ (a = d ∧ b = 2) → xgI (mS6 σ d) a b = xgI (mS4 σ d) a b := fun a b x1 x2 x3 x4 x5 x6 x7 => by
    rw [e6, mTs_o b x1 x2 x3 x4 x5 x6 _ gm4]
    exact f3 a b x1 x7
  refine ⟨⟨eV, eR, eT⟩, by rw [e6]; exact h1, ⟨?_, ?_, ?_⟩, fun v hv => ?_, fun k hk => ?_, fun q hq => by rw [e6]; exact h2 q hq⟩
  · have := mTs_V (σ := σ) hm (gM t z) gm4
    rw [eV] at this
    rw [e6]; exact this
  · rw [k6 _ _ (by omega) (by omega) (by omega) (by omega) (by omega) (by omega) (by omega)]
    have := mRs_R (σ := σ) hm (gN t z) gn20
    rw [eV, eR] at this
    rw [e4]; exact this
  · have := mTs_T (σ := σ) hm (gM t z) gm4
    rw [eV, eT] at this
    rw [e6]; exact this
  · have k4 : ∀ a b, a ≠ 1 → a < mF d → a ≠ d + 5 → ¬ (a = d ∧ b = 1) → xgI (mS4 σ d) a b = xgI (mS2 σ d) a b := fun a b x1 x2 x3 x4 => by
      rw [e4, mRs_o b x1 (Or.inl x2) x3 _ gn20]
      exact c3 a b x1 x4
    obtain ⟨y1, y2, y3⟩ := b2 v hv
    rw [k6 _ _ (by omega) (by omega) (by omega) (by omega) (by omega) (by omega) (by omega), k6 _ _ (by omega) (by omega) (by omega) (by omega) (by omega) (by omega) (by omega), k6 _ _ (by omega) (by omega) (by omega) (by omega) (by omega) (by omega) (by omega), k4 _ _ (by omega) (by omega) (by omega) (by omega), k4 _ _ (by omega) (by omega) (by omega) (by omega), k4 _ _ (by omega) (by omega) (by omega) (by omega), e2]
    exact ⟨y1, y2, y3⟩
  · obtain ⟨y1, y2⟩ := d2 k hk
    refine ⟨fun v hv => ?_, ?_⟩
    · rw [k6 _ _ (by omega) (by omega) (by omega) (by omega) (by omega) (by omega) (by omega), e4]; exact y1 v hv
    · rw [k6 _ _ (by omega) (by omega) (by omega) (by omega) (by omega) (by omega) (by omega), e4]; exact y2
theorem tDig_e {σ : xS} {t : Nat → Int32} {z : Nat} (h : oTp σ z t) (hz : z ≤ 1000) : ∀ k, k ≤ z → tDig σ k = aDig t k
  | 0, _ => rfl
  | k + 1, hk => by rw [tDig, aDig, tDig_e h hz k (by omega), tAt_n h hz (by omega)]
theorem g7_1 (t : Nat → Int32) (z : Nat) : (g7 t z).1 = (g6 t z).1 ∧ ((g7 t z).2 = true ↔ ¬ ((g6 t z).2 = false ∧ (g6 t z).1 = z)) := by
  have hq := g6_q t z
  unfold g7
  by_cases e : (g6 t z).2 = true
  · rw [if_pos e]
    exact ⟨rfl, fun _ y => by rw [e] at y; exact absurd y.1 (by decide), fun _ => e⟩
  · rw [if_neg e]
    have e' : (g6 t z).2 = false := by simpa using e
    by_cases e2 : z ≤ (g6 t z).1
    · rw [if_pos e2]
      exact ⟨rfl, fun y => absurd y e, fun y => absurd ⟨e', by omega⟩ y⟩
    · rw [if_neg e2]
      exact ⟨rfl, fun _ y => e2 (by omega), fun _ => rfl⟩
theorem oNew_c2 {σ : xS} : oCc oNew (cEnd σ) := by
  unfold cEnd
  refine ⟨⟨⟨?_, ?_, ?_, ?_⟩, fun i hi => absurd hi (by show ¬ i < 0; omega), ⟨?_, ?_, fun i hi => absurd hi (by show ¬ i < 0; omega)⟩, fun r hr => absurd hr (by show ¬ r < 0; omega)⟩, fun _ => ⟨?_, fun i hi => absurd hi (by show ¬ i < 0 - 1; omega)⟩⟩
  all_goals rfl
theorem oNew_r2 {σ : xS} : oRc oNew (qForget σ) := by
  unfold qForget
  refine ⟨⟨?_, ?_, ?_, ?_⟩, fun i hi => absurd hi (by show ¬ i < 0; omega), ⟨?_, ?_, ?_⟩, fun r hr => absurd hr (by show ¬ r < 0; omega)⟩
  all_goals rfl
def oMa (t : Nat → Int32) (z : Nat) : Int32 := if (g7 t z).2 = true then -10 - nI (g7 t z).1 else 1
def oMD (D : oMd) (t : Nat → Int32) (z : Nat) : oMd := if (g7 t z).2 = true then D else oPars t z
def oMC (C : oCt) (t : Nat → Int32) (z : Nat) : oCt := if (g7 t z).2 = true then C else oNew
def oMg (g : Int32) (t : Nat → Int32) (z : Nat) : Int32 := if (g7 t z).2 = true then g else 0
theorem o_model {l : Launch} {G : xG} {σ : xS} {D : oMd} {C : oCt} {z : Nat} {t : Nat → Int32} {g : Int32} (hw : oIw D C z) (h : oIc D C z t g σ) : xM l G yX8_model cX8_model 4 (Option.some Jvm.ClassFile.FieldType.int) 5 114 [.ref (G.2.1 0)] σ (oAc (oMD D t z) (oMC C t z) 0 t (oMg g t z) σ (oMa t z)) := by
  have hz := hw.2.2
  have m0 := h.2.1.1
  obtain ⟨md, hne⟩ := h.2.2.1
  obtain ⟨-, hR, ⟨k0, k1, k2⟩, kv, kr, kt⟩ := mS_all (t := t) (z := z) md h.1 hz
  have hcb := mC_b md
  have hFb := mF_b md
  have hPb := mP_b md
  have hQb := mQ_b md
  have hR7 : oRd (mS7 σ (xgD σ) z) t z (g6 t z) := by
    unfold mS7
    exact oRd_c hR (fun b => xgI_n (by omega)) (fun b => xgI_n (by omega))
  have h2 := mS7_2 (σ := σ) (c := xgD σ) (z := z)
  obtain ⟨q1, q2⟩ := g7_1 t z
  have hwh : tWhole (mS7 σ (xgD σ) z) = 0 ↔ (g7 t z).2 = true := by
    rw [tWhole_r hR7 hz, q2]
  have fr : ∀ a b, a ≠ 1 → ¬ oSp (xgD σ) a → xgI (mS7 σ (xgD σ) z) a b = xgI σ a b := fun a b h1 h2 => mS7_o b md h1 h2
  refine xM.mono (c_X8_model m0 rfl md rfl hz h.1.1) (fun r u e => ?_)
  rw [e.2]
  have e1 := e.1
  unfold pModel at e1 ⊢
  unfold oMD oMC oMg oMa
  by_cases c : (g7 t z).2 = true
  · rw [if_pos (hwh.mpr c)] at e1 ⊢
    rw [if_pos c, if_pos c, if_pos c, if_pos c]
    have kI : ∀ a b, a ≠ 1 → ¬ oSp (xgD σ) a → xgI (xsI (mS7 σ (xgD σ) z) 1 1 0) a b = xgI σ a b := fun a b x1 x2 => by rw [xgI_n (by omega)]; exact fr a b x1 x2
    have sp : ∀ a, a < 15 ∨ (36 < a ∧ a < 471) → ¬ oSp (xgD σ) a := fun a ha => by unfold oSp; omega
    obtain ⟨g1', g3, g4, g5, ⟨g6', g7'⟩, g8⟩ := h
    have hnr := hw.2.1.1.2.1
    have kL : ∀ a b, xgL (xsI (mS7 σ (xgD σ) z) 1 1 0) a b = xgL σ a b := fun a b => by unfold xgL; rw [xsI_22, h2]
    have hC2 : xgC (xsI (mS7 σ (xgD σ) z) 1 1 0) = xgC σ := xgC_of (by rw [xsI_22]; exact h2)
    have hD2 : xgD (xsI (mS7 σ (xgD σ) z) 1 1 0) = xgD σ := xgD_of (by rw [xsI_22]; exact h2)
    refine ⟨?_, ⟨⟨by rw [xgI_s]; rfl, fun i hi => absurd hi (by omega)⟩, ?_, ?_, ?_, ⟨?_, fun y => ?_⟩, ?_⟩, ?_⟩
    · rw [e1, hR7.2.1, q1]
    · show oCm D (xsI (mS7 σ (xgD σ) z) 1 1 0) (xgC (xsI (mS7 σ (xgD σ) z) 1 1 0))
      rw [hC2]
      exact oCm_c2 hw.1 g3 (fun a b hab => kI a b (by unfold oSp at hab; have := mC_b m0; have := mF_b m0; have := mP_b m0; have := mQ_b m0; omega) (by
        rcases hab with x | x
        · exact oSp_d m0 md hne x
        · exact sp a (by omega)))
    · show xMod (xgD (xsI (mS7 σ (xgD σ) z) 1 1 0)) ∧ xgD (xsI (mS7 σ (xgD σ) z) 1 1 0) ≠ xgC (xsI (mS7 σ (xgD σ) z) 1 1 0)
      rw [hC2, hD2]
      exact g4
    · rw [kI _ _ (by omega) (sp _ (by omega))]; exact g5
    · exact oCn_c hnr g6' (fun b _ => kI _ _ (by omega) (sp _ (by omega))) (fun b => kI _ _ (by omega) (sp _ (by omega))) (fun b => kI _ _ (by omega) (sp _ (by omega))) (fun b => kI _ _ (by omega) (sp _ (by omega))) (fun r b hr => kI _ _ (by omega) (sp _ (by omega))) (fun r b _ => kL _ _) (fun r b _ => kL _ _)
    · obtain ⟨x1, x2⟩ := g7' y
      exact ⟨(kI _ _ (by omega) (sp _ (by omega))).trans x1, fun i hi => (kI _ _ (by omega) (sp _ (by omega))).trans (x2 i hi)⟩
    · rw [kI _ _ (by omega) (sp _ (by omega))]; exact g8
    · exact ⟨fun a b x1 x2 => kI _ _ (by omega) (sp _ (by omega)), fun a b _ _ => kL a b⟩
  · rw [if_neg (fun y => c (hwh.mp y))] at e1 ⊢
    rw [if_neg c, if_neg c, if_neg c, if_neg c]
    have kI : ∀ a b, a ≠ 6 → a ≠ 8 → a ≠ 11 → a ≠ 0 → a ≠ 3 → a ≠ 1 → xgI (cEnd (xsI (xsI (xsD (xsC (xsI (mS7 σ (xgD σ) z) 1 1 0) (xgD σ)) (xgC σ)) 0 3 1) 3 2 0)) a b = xgI (mS7 σ (xgD σ) z) a b := fun a b x1 x2 x3 x4 x5 x6 => by
      rw [cEnd_u.1 a b x1 x2 x3, xgI_n (by omega), xgI_n (by omega), xgI_D, xgI_C, xgI_n (by omega)]
    have k7 : ∀ a b, ¬ (a = xgD σ ∧ b = 3) → xgI (mS7 σ (xgD σ) z) a b = xgI (mS6 σ (xgD σ)) a b := fun a b x => by
      unfold mS7
      rw [xgI_n x]
    obtain ⟨gv, gv1, gv8⟩ := gV_n t z
    obtain ⟨gn, -, gn20⟩ := gN_n t z
    obtain ⟨gm, -, gm4⟩ := gM_n t z
    refine ⟨e1, ⟨⟨?_, fun i hi => absurd hi (by omega)⟩, ?_, ⟨m0, fun y => hne y.symm⟩, ?_, oNew_c2, ?_⟩, ?_⟩
    · rw [cEnd_u.1 _ _ (by omega) (by omega) (by omega), xgI_n (by omega), xgI_n (by omega), xgI_D, xgI_C, xgI_s]; rfl
    · show oCm (oPars t z) _ (xgD σ)
      refine ⟨md, ⟨?_, ?_, ?_, ?_⟩, fun v hv => ?_, fun r hr => ?_, fun q hq => ?_, ?_, fun p hp => absurd hp (by show ¬ p < 0; omega)⟩
      · rw [kI _ _ (by omega) (by omega) (by omega) (by omega) (by omega) (by omega), k7 _ _ (by omega)]; exact k0
      · rw [kI _ _ (by omega) (by omega) (by omega) (by omega) (by omega) (by omega), k7 _ _ (by omega)]; exact k1
      · rw [kI _ _ (by omega) (by omega) (by omega) (by omega) (by omega) (by omega), k7 _ _ (by omega)]; exact k2
      · rw [kI _ _ (by omega) (by omega) (by omega) (by omega) (by omega) (by omega)]
        unfold mS7
        rw [xgI_s, tDig_e hR.1 hz z (Nat.le_refl _)]
        rfl
      · rw [kI _ _ (by omega) (by omega) (by omega) (by omega) (by omega) (by omega), k7 _ _ (by omega), kI _ _ (by omega) (by omega) (by omega) (by omega) (by omega) (by omega), k7 _ _ (by omega), kI _ _ (by omega) (by omega) (by omega) (by omega) (by omega) (by omega), k7 _ _ (by omega)]
        exact kv v hv
      · have hr : r < gN t z := hr
        refine ⟨fun v hv => ?_, ?_⟩
        · rw [kI _ _ (by omega) (by omega) (by omega) (by omega) (by omega) (by omega), k7 _ _ (by omega)]; exact (kr r hr).1 v hv
        · rw [kI _ _ (by omega) (by omega) (by omega) (by omega) (by omega) (by omega), k7 _ _ (by omega)]; exact (kr r hr).2
      · have hq : q < gM t z := hq
        obtain ⟨y1, y2, y3, y4⟩ := kt q hq
        obtain ⟨s1, s2⟩ := tS_ok c hq
        obtain ⟨j1, j2, j3, j4⟩ := jAB gv1 gv8 s2
        refine ⟨?_, ?_, ?_, fun i hi => ⟨?_, ?_⟩⟩
        · rw [kI _ _ (by omega) (by omega) (by omega) (by omega) (by omega) (by omega), k7 _ _ (by omega), y1]; exact j1
        · rw [kI _ _ (by omega) (by omega) (by omega) (by omega) (by omega) (by omega), k7 _ _ (by omega), y2 s1]; exact j3
        · rw [kI _ _ (by omega) (by omega) (by omega) (by omega) (by omega) (by omega), k7 _ _ (by omega)]; exact y3
        · rw [kI _ _ (by omega) (by omega) (by omega) (by omega) (by omega) (by omega), k7 _ _ (by omega)]; exact (y4 i hi).1
        · rw [kI _ _ (by omega) (by omega) (by omega) (by omega) (by omega) (by omega), k7 _ _ (by omega)]; exact (y4 i hi).2
      · rw [cEnd_u.1 _ _ (by omega) (by omega) (by omega), xgI_s]; rfl
    · rw [cEnd_u.1 _ _ (by omega) (by omega) (by omega), xgI_n (by omega), xgI_s]
      refine ⟨fun y => absurd y (by decide), fun y => ?_⟩
      have y : gV t z = 0 := y
      omega
    · rfl
    · refine ⟨fun a b x1 x2 => ?_, fun a b _ _ => ?_⟩
      · rw [kI _ _ (by omega) (by omega) (by omega) (by omega) (by omega) (by omega)]
        exact fr a b (by omega) (by unfold oSp; omega)
      · show xgL (mS7 σ (xgD σ) z) a b = xgL σ a b
        unfold xgL
        rw [h2]
