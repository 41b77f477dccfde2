/-! row -/
noncomputable def oRowV (D : oMd) (C : oCt) (w : Nat) (wh : Int32) : Int64 := oIf (xLt wh (oV D)) (oF (oRw C w) wh.toNatClampNeg) (if wh = 8 then oR (oRw C w) else if wh = 9 then (nI (oCnt (oS (oRw C w)) (w + 1))).toInt64 else if wh = 10 then (if oLi (oRw C w) = 0 then 0 else 1) else if wh = 11 then oBv (oRw C w) else if wh = 12 then (oPr C w 0).toInt64 else (nI (oNeed (oPr C) w).1).toInt64)
theorem xIn_813 {n : Int32} (h : ¬ xIn n 8 13 = 0) : n = 8 ∨ n = 9 ∨ n = 10 ∨ n = 11 ∨ n = 12 ∨ n = 13 := by
  obtain ⟨h1, h2⟩ := xIn_1 h
  obtain ⟨j, h3, h4⟩ := nI_of2 (n := 13) (by decide) (fun z => h1 (Int32.lt_of_lt_of_le z (by decide))) (xi32_nlt.mp h2)
  have h5 : 8 ≤ j := by
    by_cases c : j < 8
    · rw [h4] at h1
      exact absurd (nI_lt (a := j) (b := 8) c (by omega)) h1
    · omega
  rcases (show j = 8 ∨ j = 9 ∨ j = 10 ∨ j = 11 ∨ j = 12 ∨ j = 13 by omega) with e | e | e | e | e | e <;> subst e <;> rw [h4]
  · exact Or.inl rfl
  · exact Or.inr (Or.inl rfl)
  · exact Or.inr (Or.inr (Or.inl rfl))
  · exact Or.inr (Or.inr (Or.inr (Or.inl rfl)))
  · exact Or.inr (Or.inr (Or.inr (Or.inr (Or.inl rfl))))
  · exact Or.inr (Or.inr (Or.inr (Or.inr (Or.inr rfl))))
theorem xLt_813 {n V : Nat} (hn : 8 ≤ n) (h2 : n ≤ 13) (hV : V ≤ 8) : ¬ xLt (nI n) V := by
  rintro ⟨j, j1, j2⟩
  have := (nI_eq (a := n) (b := j) (by omega) (by omega)).mp j2
  omega
theorem oCc_13 {D : oMd} {C : oCt} {σ τ : xS} (hw : oWc D C) (h : oCc C σ) (hI : ∀ a b, a ≠ 13 → xgI τ a b = xgI σ a b) (h2 : τ.2 = σ.2) : oCc C τ ∧ oCu σ τ := by
  have hr := hw.1.2.1
  have hL : ∀ a b, xgL τ a b = xgL σ a b := fun a b => by unfold xgL; rw [h2]
  refine ⟨⟨oCn_c hr h.1 (fun b _ => hI _ _ (by omega)) (fun b => hI _ _ (by omega)) (fun b => hI _ _ (by omega)) (fun b => hI _ _ (by omega)) (fun r b _ => hI _ _ (by omega)) (fun r b _ => hL _ _) (fun r b _ => hL _ _), fun y => ?_⟩, ⟨fun a b _ _ _ _ _ _ h7 _ _ => hI a b h7, fun a b _ => hL a b, by unfold xgC; rw [h2], by unfold xgD; rw [h2], hI _ _ (by omega)⟩⟩
  obtain ⟨x1, x2⟩ := h.2 y
  exact ⟨(hI _ _ (by omega)).trans x1, fun i hi => (hI _ _ (by omega)).trans (x2 i hi)⟩
theorem o_row {l : Launch} {G : xG} {σ : xS} {D : oMd} {C : oCt} {z w : Nat} {t : Nat → Int32} {g wh : Int32} (hw : oIw D C z) (h : oIc D C z t g σ) (hn : w < oNr C) (hv : xLt wh (oV D) ∨ ¬ xIn wh 8 13 = 0) : xM l G yX8_row cX8_row 4 (Option.some Jvm.ClassFile.FieldType.long) 3 67 [.ref (G.2.1 0), .int (nI w), .int wh] σ (oAcl D C z t g σ (oRowV D C w wh)) := by
  have m0 := h.2.1.1
  have hV := h.2.1.2.1.1
  have hV8 := hw.1.1.1
  have h200 := hw.2.1.1.2.1
  have hc := h.2.2.2.2.1
  have hrc := hc.1.2.2.1.1
  obtain ⟨d1, d2, d3, d4, d5⟩ := hc.1.2.2.2 w hn
  have hg := oWc_g hw.1 hw.2.1 (w + 1) w (by omega) hn
  unfold oRowV
  by_cases c : xLt wh (oV D)
  · rw [oIf_t c]
    obtain ⟨j, hj, e⟩ := c
    subst e
    rw [nI_clamp (by omega)]
    refine xM.mono (c_X8_rowF m0 rfl hV hV8 h200 hrc hn hj) (fun r u e => ?_)
    rw [e.2, ← d1.1 j (by omega)]
    exact ⟨e.1, h, oKc.rf⟩
  · rw [oIf_f c]
    rcases hv with y | y
    · exact absurd y c
    · rcases xIn_813 y with e | e | e | e | e | e <;> subst e
      · rw [if_pos rfl]
        refine xM.mono (c_X8_row8 m0 rfl hV hV8 h200 hrc hn) (fun r u e => ?_)
        rw [e.2, ← d1.2.1]
        exact ⟨e.1, h, oKc.rf⟩
      · rw [if_neg (by decide), if_pos rfl]
        refine xM.mono (c_X8_row9 m0 rfl hV hV8 h200 hrc hn) (fun r u e => ?_)
        rw [e.2, ← xBc_cnt hw.2.1 d1.2.2.1 (fun b hb => hg.2.1 b hb) hn]
        exact ⟨e.1, h, oKc.rf⟩
      · rw [if_neg (by decide), if_neg (by decide), if_pos rfl]
        refine xM.mono (c_X8_row10 m0 rfl hV hV8 h200 hrc hn) (fun r u e => ?_)
        rw [e.2, ← oLi_c d1.2.2.2]
        exact ⟨e.1, h, oKc.rf⟩
      · rw [if_neg (by decide), if_neg (by decide), if_neg (by decide), if_pos rfl]
        refine xM.mono (c_X8_row11 m0 rfl hV hV8 h200 hrc hn) (fun r u e => ?_)
        rw [e.2]
        refine ⟨e.1.trans ?_, h, oKc.rf⟩
        have dl := d1.2.2.2
        unfold oBv
        cases q : oL (oRw C w) with
        | none =>
          rw [q] at dl
          have dl : xgI σ (61 + w) 3 = 0 := dl
          rw [if_pos dl]
        | some x =>
          rw [q] at dl
          rw [if_neg (by rw [dl.1]; decide), dl.2]
      · rw [if_neg (by decide), if_neg (by decide), if_neg (by decide), if_neg (by decide), if_pos rfl]
        refine xM.mono (c_X8_row12 m0 rfl hV hV8 h200 hrc hn) (fun r u e => ?_)
        rw [e.2, ← d2]
        exact ⟨e.1, h, oKc.rf⟩
      · rw [if_neg (by decide), if_neg (by decide), if_neg (by decide), if_neg (by decide), if_neg (by decide)]
        refine xM.mono (c_X8_row13 m0 rfl hV hV8 h200 hrc hn (oRowsAt hw.2.1 hc.1)) (fun r u e => ?_)
        obtain ⟨k1, k2, k3, k4⟩ := sNeed_e hw.2.1 hc.1 hn
        obtain ⟨x1, x2⟩ := oCc_13 hw.2.1 hc k3 k4
        rw [e.2, ← k1]
        exact ⟨e.1, oIc_C hw h x2 x1, oKc.u x2⟩
theorem oIr_57 {D : oMd} {C : oCt} {z : Nat} {t : Nat → Int32} {g : Int32} {σ : xS} {f : Nat → Int32} (h : oIr D C z t g σ) : oIr D C z t g (xsF σ 57 f) :=
  oIr_t h (fun a b hab => xgI_Fn (by omega)) (fun _ _ _ _ => rfl) ((xgI_Fn (by omega)).trans h.1.1) (fun i => (xgI_Fn (by omega)).trans (h.1.2 i))
theorem oKr_57 {σ : xS} {f : Nat → Int32} : oKr σ (xsF σ 57 f) := ⟨fun a b hab => xgI_Fn (by omega), fun _ _ _ => rfl, rfl, rfl⟩
theorem o_rowR {l : Launch} {G : xG} {σ : xS} {D : oMd} {C : oCt} {z w : Nat} {t : Nat → Int32} {g wh : Int32} (hw : oIw D C z) (h : oIr D C z t g σ) (hn : w < oNr C) (hv : xLt wh (oV D) ∨ ¬ xIn wh 8 13 = 0) : xM l G yX9_row_ cX9_row_ 3 (Option.some Jvm.ClassFile.FieldType.long) 1 26 [.ref (G.2.1 37), .int (nI w), .int wh] σ (oArl D C z t g σ (oRowV D C w wh) 0) := by
  have hV := h.2.1.1.1
  have hV8 := hw.1.1.1
  have h200 := hw.2.1.1.2.1
  have hc := h.2.2.1
  have hrc := hc.2.2.1.1
  obtain ⟨d1, d2⟩ := hc.2.2.2 w hn
  have hz := oRf_z hw.2.1 hn
  have hz15 := hw.2.1.1.1
  have hlb := oLen_b (p := oPr C w)
  unfold oRowV
  by_cases c : xLt wh (oV D)
  · rw [oIf_t c]
    obtain ⟨j, hj, e⟩ := c
    subst e
    rw [nI_clamp (by omega)]
    refine xM.mono (c_X9_rowF hrc h200 hV hV8 hn hj) (fun r u e => ?_)
    rw [e.2, ← d1.1 j (by omega)]
    exact ⟨e.1, oIr_0 h, oKr.I (by omega), xgI_s _ _ _ _⟩
  · rw [oIf_f c]
    rcases hv with y | y
    · exact absurd y c
    · rcases xIn_813 y with e | e | e | e | e | e <;> subst e
      · rw [if_pos rfl]
        refine xM.mono (c_X9_row8 hrc h200 hV hV8 hn) (fun r u e => ?_)
        rw [e.2, ← d1.2.1]
        exact ⟨e.1, oIr_0 h, oKr.I (by omega), xgI_s _ _ _ _⟩
      · rw [if_neg (by decide), if_pos rfl]
        refine xM.mono (c_X9_row9 hrc h200 hV hV8 hn) (fun r u e => ?_)
        rw [e.2, ← qCnt_e (w + 1) (fun b hb => d1.2.2.1 b (by omega))]
        exact ⟨e.1, oIr_0 h, oKr.I (by omega), xgI_s _ _ _ _⟩
      · rw [if_neg (by decide), if_neg (by decide), if_pos rfl]
        refine xM.mono (c_X9_row10 hrc h200 hV hV8 hn) (fun r u e => ?_)
        rw [e.2, ← oLi_r d1.2.2.2]
        exact ⟨e.1, oIr_0 h, oKr.I (by omega), xgI_s _ _ _ _⟩
      · rw [if_neg (by decide), if_neg (by decide), if_neg (by decide), if_pos rfl]
        refine xM.mono (c_X9_row11 hrc h200 hV hV8 hn) (fun r u e => ?_)
        rw [e.2]
        refine ⟨e.1.trans ?_, oIr_0 h, oKr.I (by omega), xgI_s _ _ _ _⟩
        have dl := d1.2.2.2
        unfold oBv
        cases q : oL (oRw C w) with
        | none =>
          rw [q] at dl
          have dl : xgI σ 54 w = 0 := dl
          rw [if_pos dl]
        | some x =>
          rw [q] at dl
          rw [if_neg (by rw [dl.1]; decide), dl.2]
      · rw [if_neg (by decide), if_neg (by decide), if_neg (by decide), if_neg (by decide), if_pos rfl]
        refine xM.mono (c_X9_row12 hrc h200 hV hV8 hn d2 (by omega)) (fun r u e => ?_)
        have n0 : xgI σ 50 (oRf C w) = oPr C w 0 := by
          have := (hw.2.1.2.2.2.1 w hn).2.1 0 (by omega)
          rw [Nat.add_zero] at this
          rw [hc.2.1 _ (by omega), this]
        rw [e.2, ← n0]
        exact ⟨e.1, oIr_0 h, oKr.I (by omega), xgI_s _ _ _ _⟩
      · rw [if_neg (by decide), if_neg (by decide), if_neg (by decide), if_neg (by decide), if_neg (by decide)]
        refine xM.mono (c_X9_row13 hrc h200 hV hV8 hn (oRows hw.2.1 hc (by omega))) (fun r u e => ?_)
        obtain ⟨k1, -⟩ := aNeed_e hw.2.1 (oIr_0 (v := 0) h).2.2.1 hn
        rw [e.2, ← k1]
        exact ⟨e.1, oIr_57 (oIr_0 h), (oKr.I (by omega)).tr oKr_57, (xgI_Fn (by omega)).trans (xgI_s _ _ _ _)⟩
theorem o_rowT {l : Launch} {G : xG} {σ : xS} {D : oMd} {C : oCt} {z : Nat} {x : Int32} {t : Nat → Int32} {g wh : Int32} (hw : oIw D C z) (h : oIr D C z t g σ) (hx : ¬ xLt x (oNr C) ∨ (¬ xLt wh (oV D) ∧ xIn wh 8 13 = 0)) : xM l G yX9_row_ cX9_row_ 3 (Option.some Jvm.ClassFile.FieldType.long) 1 26 [.ref (G.2.1 37), .int x, .int wh] σ (oArl D C z t g σ 0 1) :=
  xM.mono (c_X9_rowT h.2.2.1.2.2.1.1 hw.2.1.1.2.1 h.2.1.1.1 hw.1.1.1 hx) (fun r u e => by
    rw [e.2]
    exact ⟨e.1, oIr_0 h, oKr.I (by omega), xgI_s _ _ _ _⟩)
