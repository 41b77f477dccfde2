/-! THE INVARIANT: its two sides of one picture (D the model and plans, C the certificate, z and t the tape, g begun) -/
def oIw (D : oMd) (C : oCt) (z : Nat) : Prop := oWm D ∧ oWc D C ∧ z ≤ 1000
def oIc (D : oMd) (C : oCt) (z : Nat) (t : Nat → Int32) (g : Int32) (σ : xS) : Prop := (xgI σ 1 1 = nI z ∧ ∀ i, i < z → xgI σ 2 i = t i) ∧ oCm D σ (xgC σ) ∧ (xMod (xgD σ) ∧ xgD σ ≠ xgC σ) ∧ (xgI σ 0 3 = 0 ↔ oV D = 0) ∧ oCc C σ ∧ xgI σ 6 2 = g
def oIr (D : oMd) (C : oCt) (z : Nat) (t : Nat → Int32) (g : Int32) (σ : xS) : Prop := (xgI σ 37 2 = nI z ∧ ∀ i, xgI σ 38 i = t i) ∧ oQm D σ ∧ oRc C σ ∧ xgI σ 37 19 = g
/-- the reference's cells are as they were; all others are -/
def oKc (σ τ : xS) : Prop := (∀ a b, 37 ≤ a → a < 60 → xgI τ a b = xgI σ a b) ∧ (∀ a b, 37 ≤ a → a < 60 → xgL τ a b = xgL σ a b)
def oKr (σ τ : xS) : Prop := (∀ a b, a < 37 ∨ 60 ≤ a → xgI τ a b = xgI σ a b) ∧ (∀ a b, a < 37 ∨ 60 ≤ a → xgL τ a b = xgL σ a b) ∧ xgC τ = xgC σ ∧ xgD τ = xgD σ
theorem oKc.rf {σ : xS} : oKc σ σ := ⟨fun _ _ _ _ => rfl, fun _ _ _ _ => rfl⟩
theorem oKc.tr {σ τ ρ : xS} (h : oKc σ τ) (k : oKc τ ρ) : oKc σ ρ := ⟨fun a b h1 h2 => (k.1 a b h1 h2).trans (h.1 a b h1 h2), fun a b h1 h2 => (k.2 a b h1 h2).trans (h.2 a b h1 h2)⟩
theorem oKc.I {σ : xS} {a j : Nat} {v : Int32} (h : a < 37 ∨ 60 ≤ a) : oKc σ (xsI σ a j v) := ⟨fun a' b h1 h2 => xgI_n (by omega), fun _ _ _ _ => rfl⟩
theorem oKc.L {σ : xS} {a j : Nat} {v : Int64} (h : a < 37 ∨ 60 ≤ a) : oKc σ (xsL σ a j v) := ⟨fun _ _ _ _ => rfl, fun a' b h1 h2 => xgL_n (by omega)⟩
theorem oKc.u {σ τ : xS} (h : oCu σ τ) : oKc σ τ := ⟨fun a b h1 h2 => h.1 a b (by omega) (by omega) (by omega) (by omega) (by omega) (by omega) (by omega) (by omega) (by omega), fun a b h1 h2 => h.2.1 a b (by omega)⟩
theorem oKr.rf {σ : xS} : oKr σ σ := ⟨fun _ _ _ => rfl, fun _ _ _ => rfl, rfl, rfl⟩
theorem oKr.tr {σ τ ρ : xS} (h : oKr σ τ) (k : oKr τ ρ) : oKr σ ρ := ⟨fun a b h1 => (k.1 a b h1).trans (h.1 a b h1), fun a b h1 => (k.2.1 a b h1).trans (h.2.1 a b h1), k.2.2.1.trans h.2.2.1, k.2.2.2.trans h.2.2.2⟩
theorem oKr.I {σ : xS} {a j : Nat} {v : Int32} (h : 37 ≤ a ∧ a < 60) : oKr σ (xsI σ a j v) := ⟨fun a' b h1 => xgI_n (by omega), fun _ _ _ => rfl, rfl, rfl⟩
theorem oKr.u {σ τ : xS} (h : oRv σ τ) : oKr σ τ := ⟨fun a b h1 => h.1 a b (by omega) (by omega) (by omega) (by omega) (by omega), fun a b h1 => h.2.1 a b (by omega) (by omega) (by omega), h.2.2.1, h.2.2.2⟩
theorem oRc_c {C : oCt} {σ τ : xS} (h : oRc C σ) (hI : ∀ a b, (a = 37 ∧ 20 ≤ b ∧ b ≤ 27) ∨ (50 ≤ a ∧ a ≤ 56) → xgI τ a b = xgI σ a b) (hL : ∀ a b, 50 ≤ a → a ≤ 56 → xgL τ a b = xgL σ a b) : oRc C τ := by
  obtain ⟨⟨a1, a2, a3, a4⟩, b1, ⟨c1, c2, c3⟩, d⟩ := h
  refine ⟨⟨?_, ?_, ?_, ?_⟩, fun i hi => ?_, ⟨?_, ?_, ?_⟩, fun r hr2 => ⟨?_, ?_⟩⟩
  · rw [hI _ _ (by omega)]; exact a1
  · rw [hI _ _ (by omega)]; exact a2
  · rw [hI _ _ (by omega)]; exact a3
  · rw [hI _ _ (by omega)]; exact a4
  · rw [hI _ _ (by omega)]; exact b1 i hi
  · rw [hI _ _ (by omega)]; exact c1
  · rw [hI _ _ (by omega)]; exact c2
  · rw [hI _ _ (by omega)]; exact c3
  · exact oQr_c (fun v hv => hL _ _ (by omega) (by omega)) (hL _ _ (by omega) (by omega)) (fun b hb => hI _ _ (by omega)) (hI _ _ (by omega)) (hL _ _ (by omega) (by omega)) (d r hr2).1
  · rw [hI _ _ (by omega)]; exact (d r hr2).2
theorem oIr_k {D : oMd} {C : oCt} {z : Nat} {t : Nat → Int32} {g : Int32} {σ τ : xS} (h : oIr D C z t g σ) (k : oKc σ τ) : oIr D C z t g τ := by
  obtain ⟨⟨a1, a2⟩, b, c, d⟩ := h
  refine ⟨⟨?_, fun i => ?_⟩, oQm_c b (fun a b hab => k.1 a b (by omega) (by omega)), oRc_c c (fun a b hab => k.1 a b (by omega) (by omega)) (fun a b h1 h2 => k.2 a b (by omega) (by omega)), ?_⟩
  · rw [k.1 _ _ (by omega) (by omega)]; exact a1
  · rw [k.1 _ _ (by omega) (by omega)]; exact a2 i
  · rw [k.1 _ _ (by omega) (by omega)]; exact d
/-- the written side, when the tape alone has changed -/
theorem oIc_t {D : oMd} {C : oCt} {z z' : Nat} {t t' : Nat → Int32} {g : Int32} {σ τ : xS} (hw : oIw D C z) (h : oIc D C z t g σ) (hI : ∀ a b, a ≠ 1 → a ≠ 2 → a < 37 ∨ 60 ≤ a → xgI τ a b = xgI σ a b) (hL : ∀ a b, a < 37 ∨ 60 < a → xgL τ a b = xgL σ a b) (hC : xgC τ = xgC σ) (hD : xgD τ = xgD σ) (h1 : xgI τ 1 1 = nI z') (h2 : ∀ i, i < z' → xgI τ 2 i = t' i) : oIc D C z' t' g τ := by
  obtain ⟨-, b, c, d, ⟨e1, e2⟩, f⟩ := h
  obtain ⟨w1, w2, w3⟩ := hw
  have hr := w2.1.2.1
  have hn : oNr C ≤ 200 := hr
  refine ⟨⟨h1, h2⟩, ?_, ?_, ?_, ⟨?_, fun z => ?_⟩, ?_⟩
  · rw [hC]
    exact oCm_c b w1.1.2.1 w1.1.2.2.1 w1.1.2.2.2 (fun a b hab => hI a b (by omega) (by omega) (by omega))
  · rw [hC, hD]; exact c
  · rw [hI _ _ (by omega) (by omega) (by omega)]; exact d
  · exact oCn_c hr e1 (fun b _ => hI _ _ (by omega) (by omega) (by omega)) (fun b => hI _ _ (by omega) (by omega) (by omega)) (fun b => hI _ _ (by omega) (by omega) (by omega)) (fun b => hI _ _ (by omega) (by omega) (by omega)) (fun r b _ => hI _ _ (by omega) (by omega) (by omega)) (fun r b _ => hL _ _ (by omega)) (fun r b _ => hL _ _ (by omega))
  · obtain ⟨g1, g2⟩ := e2 z
    refine ⟨?_, fun i hi => ?_⟩
    · rw [hI _ _ (by omega) (by omega) (by omega)]; exact g1
    · rw [hI _ _ (by omega) (by omega) (by omega)]; exact g2 i hi
  · rw [hI _ _ (by omega) (by omega) (by omega)]; exact f
theorem oIc_k {D : oMd} {C : oCt} {z : Nat} {t : Nat → Int32} {g : Int32} {σ τ : xS} (hw : oIw D C z) (h : oIc D C z t g σ) (k : oKr σ τ) : oIc D C z t g τ :=
  oIc_t hw h (fun a b _ _ hab => k.1 a b hab) (fun a b hab => k.2.1 a b (by omega)) k.2.2.1 k.2.2.2 ((k.1 _ _ (by omega)).trans h.1.1) (fun i hi => (k.1 _ _ (by omega)).trans (h.1.2 i hi))
/-- .. and when the out cell has -/
theorem oIc_o {D : oMd} {C : oCt} {z : Nat} {t : Nat → Int32} {g : Int32} {σ : xS} {v : Int64} (hw : oIw D C z) (h : oIc D C z t g σ) : oIc D C z t g (xsL σ 60 0 v) :=
  oIc_t hw h (fun a b _ _ _ => rfl) (fun a b hab => xgL_n (by omega)) rfl rfl h.1.1 h.1.2
/-- the reference's, when only its first fields and the tape have changed -/
theorem oIr_t {D : oMd} {C : oCt} {z z' : Nat} {t t' : Nat → Int32} {g : Int32} {σ τ : xS} (h : oIr D C z t g σ) (hI : ∀ a b, (a = 37 ∧ (b = 3 ∨ b = 7 ∨ b = 10 ∨ b = 16 ∨ b = 17 ∨ (19 ≤ b ∧ b ≤ 27))) ∨ (39 ≤ a ∧ a ≤ 56) → xgI τ a b = xgI σ a b) (hL : ∀ a b, 50 ≤ a → a ≤ 56 → xgL τ a b = xgL σ a b) (h1 : xgI τ 37 2 = nI z') (h2 : ∀ i, xgI τ 38 i = t' i) : oIr D C z' t' g τ :=
  ⟨⟨h1, h2⟩, oQm_c h.2.1 (fun a b hab => hI a b (by omega)), oRc_c h.2.2.1 (fun a b hab => hI a b (by omega)) hL, (hI _ _ (by omega)).trans h.2.2.2⟩
theorem oIr_0 {D : oMd} {C : oCt} {z : Nat} {t : Nat → Int32} {g v : Int32} {σ : xS} (h : oIr D C z t g σ) : oIr D C z t g (xsI σ 37 0 v) :=
  oIr_t h (fun a b hab => xgI_n (by omega)) (fun _ _ _ _ => rfl) ((xgI_n (by omega)).trans h.1.1) (fun i => (xgI_n (by omega)).trans (h.1.2 i))
/-! what a call answers and leaves, on either side -/
def oAc (D : oMd) (C : oCt) (z : Nat) (t : Nat → Int32) (g : Int32) (σ : xS) (v : Int32) : Option Value → xS → Prop := fun r u => r = some (.int v) ∧ oIc D C z t g u ∧ oKc σ u
def oAr (D : oMd) (C : oCt) (z : Nat) (t : Nat → Int32) (g : Int32) (σ : xS) (v : Int32) : Option Value → xS → Prop := fun r u => r = some (.int v) ∧ oIr D C z t g u ∧ oKr σ u
theorem o_drop {l : Launch} {G : xG} {σ : xS} {D : oMd} {C : oCt} {z : Nat} {t : Nat → Int32} {g : Int32} (hw : oIw D C z) (h : oIc D C z t g σ) : xM l G yX8_drop cX8_drop 2 (Option.some Jvm.ClassFile.FieldType.int) 1 20 [.ref (G.2.1 0)] σ (oAc D C 0 t g σ (nI z)) :=
  xM.mono c_X8_drop (fun r u e => by
    rw [e.2, ← h.1.1]
    exact ⟨e.1, oIc_t hw h (fun a b h1 _ _ => xgI_n (by omega)) (fun _ _ _ => rfl) rfl rfl (by rw [xgI_s]; rfl) (fun i hi => absurd hi (by omega)), oKc.I (by omega)⟩)
theorem o_dropR {l : Launch} {G : xG} {σ : xS} {D : oMd} {C : oCt} {z : Nat} {t : Nat → Int32} {g : Int32} (h : oIr D C z t g σ) : xM l G yX9_drop cX9_drop 2 (Option.some Jvm.ClassFile.FieldType.int) 0 0 [.ref (G.2.1 37)] σ (oAr D C 0 t g σ (nI z)) :=
  xM.mono c_X9_drop (fun r u e => by
    rw [e.2, ← h.1.1]
    exact ⟨e.1, oIr_t h (fun a b hab => by rw [xgI_n (by omega), xgI_n (by omega)]) (fun _ _ _ _ => rfl) (by rw [xgI_s]; rfl) (fun i => by rw [xgI_n (by omega), xgI_n (by omega)]; exact h.1.2 i), (oKr.I (by omega)).tr (oKr.I (by omega))⟩)
/-- digest -/
theorem o_digest {l : Launch} {G : xG} {σ : xS} {D : oMd} {C : oCt} {z : Nat} {t : Nat → Int32} {g : Int32} (h : oIc D C z t g σ) : xM l G yX8_digest cX8_digest 1 (Option.some Jvm.ClassFile.FieldType.int) 0 0 [.ref (G.2.1 0)] σ (oAc D C z t g σ (if oV D = 0 then 0 else oDg D)) :=
  xM.mono (c_X8_digest h.2.1.1 rfl) (fun r u e => by
    rw [e.2]
    refine ⟨e.1.trans ?_, h, oKc.rf⟩
    rw [h.2.1.2.1.2.2.2]
    by_cases c : oV D = 0
    · rw [if_pos c, if_pos (h.2.2.2.1.mpr c)]
    · rw [if_neg c, if_neg (fun y => c (h.2.2.2.1.mp y))])
theorem oV_0 {D : oMd} {σ : xS} (hm : oQm D σ) (hw : oWm D) : xgI σ 37 3 = 0 ↔ oV D = 0 := by
  have := hw.1.1
  rw [hm.1.1]
  exact nI_eq (a := oV D) (b := 0) (by omega) (by omega)
theorem o_digestR {l : Launch} {G : xG} {σ : xS} {D : oMd} {C : oCt} {z : Nat} {t : Nat → Int32} {g : Int32} (hw : oIw D C z) (h : oIr D C z t g σ) : xM l G yX9_digest cX9_digest 1 (Option.some Jvm.ClassFile.FieldType.int) 0 0 [.ref (G.2.1 37)] σ (oAr D C z t g σ (if oV D = 0 then 0 else oDg D)) :=
  xM.mono c_X9_digest (fun r u e => by
    rw [e.2]
    refine ⟨e.1.trans ?_, oIr_0 h, oKr.I (by omega)⟩
    rw [h.2.1.1.2.2.2]
    by_cases c : oV D = 0
    · rw [if_pos c, if_pos ((oV_0 h.2.1 hw.1).mpr c)]
    · rw [if_neg c, if_neg (fun y => c ((oV_0 h.2.1 hw.1).mp y))])
/-! begin -/
def oNew : oCt := ((0, fun _ => 0), (0, -1, -1), (0, 0), (fun _ => 1), (fun _ => 0), (fun _ => oNil), (fun _ _ => 0))
theorem oNew_w {D : oMd} : oWc D oNew := by
  refine ⟨⟨by decide, by decide, by decide, rfl, rfl⟩, fun _ => ⟨rfl, rfl⟩, fun z => absurd z (by decide), fun r hr => absurd hr (by show ¬ r < 0; omega), fun _ => ⟨fun k hk => absurd hk (by show ¬ k < 0 - 1; omega), fun z => absurd z.1 (by decide)⟩⟩
theorem oNew_c {σ : xS} {g : Int32} : oCc oNew (xsI (cEnd σ) 6 2 g) := by
  unfold cEnd
  refine ⟨⟨⟨?_, ?_, ?_, ?_⟩, fun i hi => absurd hi (by show ¬ i < 0; omega), ⟨?_, ?_, fun i hi => absurd hi (by show ¬ i < 0; omega)⟩, fun r hr => absurd hr (by show ¬ r < 0; omega)⟩, fun _ => ⟨?_, fun i hi => absurd hi (by show ¬ i < 0 - 1; omega)⟩⟩
  all_goals rfl
theorem oNew_r {σ : xS} {g : Int32} : oRc oNew (xsI (qForget σ) 37 19 g) := by
  unfold qForget
  refine ⟨⟨?_, ?_, ?_, ?_⟩, fun i hi => absurd hi (by show ¬ i < 0; omega), ⟨?_, ?_, ?_⟩, fun r hr => absurd hr (by show ¬ r < 0; omega)⟩
  all_goals rfl
theorem cEnd_u {σ : xS} : (∀ a b, a ≠ 6 → a ≠ 8 → a ≠ 11 → xgI (cEnd σ) a b = xgI σ a b) ∧ (cEnd σ).2 = σ.2 := by
  refine ⟨fun a b h1 h2 h3 => ?_, rfl⟩
  unfold cEnd
  rw [xgI_n (by omega), xgI_n (by omega), xgI_n (by omega), xgI_n (by omega), xgI_n (by omega), xgI_n (by omega), xgI_n (by omega), xgI_n (by omega)]
theorem qForget_u {σ : xS} : (∀ a b, ¬ (a = 37 ∧ 19 ≤ b ∧ b ≤ 27) → xgI (qForget σ) a b = xgI σ a b) ∧ (qForget σ).2 = σ.2 := by
  refine ⟨fun a b h => ?_, rfl⟩
  unfold qForget
  rw [xgI_n (by omega), xgI_n (by omega), xgI_n (by omega), xgI_n (by omega), xgI_n (by omega), xgI_n (by omega), xgI_n (by omega), xgI_n (by omega)]
/-- a certificate begins anew -/
theorem oIc_new {D : oMd} {C : oCt} {z : Nat} {t : Nat → Int32} {g g' : Int32} {σ : xS} (hw : oIw D C z) (h : oIc D C z t g σ) : oIc D oNew z t g' (xsI (cEnd σ) 6 2 g') := by
  obtain ⟨⟨a1, a2⟩, b, c, d, -, -⟩ := h
  have k : ∀ a b, a ≠ 6 → a ≠ 8 → a ≠ 11 → xgI (xsI (cEnd σ) 6 2 g') a b = xgI σ a b := fun a b h1 h2 h3 => by rw [xgI_n (by omega)]; exact cEnd_u.1 a b h1 h2 h3
  refine ⟨⟨?_, fun i hi => ?_⟩, oCm_c b hw.1.1.2.1 hw.1.1.2.2.1 hw.1.1.2.2.2 (fun a b hab => k a b (by omega) (by omega) (by omega)), c, ?_, oNew_c, by rw [xgI_s]⟩
  · rw [k _ _ (by omega) (by omega) (by omega)]; exact a1
  · rw [k _ _ (by omega) (by omega) (by omega)]; exact a2 i hi
  · rw [k _ _ (by omega) (by omega) (by omega)]; exact d
theorem oIr_new {D : oMd} {C : oCt} {z : Nat} {t : Nat → Int32} {g g' : Int32} {σ : xS} (h : oIr D C z t g σ) : oIr D oNew z t g' (xsI (qForget σ) 37 19 g') := by
  obtain ⟨⟨a1, a2⟩, b, c, d⟩ := h
  have k : ∀ a b, ¬ (a = 37 ∧ 19 ≤ b ∧ b ≤ 27) → xgI (xsI (qForget σ) 37 19 g') a b = xgI σ a b := fun a b h1 => by rw [xgI_n (by omega)]; exact qForget_u.1 a b h1
  refine ⟨⟨?_, fun i => ?_⟩, oQm_c b (fun a b hab => k a b (by omega)), oNew_r, by rw [xgI_s]⟩
  · rw [k _ _ (by omega)]; exact a1
  · rw [k _ _ (by omega)]; exact a2 i
theorem oKc_end {σ : xS} {g : Int32} : oKc σ (xsI (cEnd σ) 6 2 g) := ⟨fun a b h1 h2 => by rw [xgI_n (by omega)]; exact cEnd_u.1 a b (by omega) (by omega) (by omega), fun _ _ _ _ => rfl⟩
theorem oKr_forget {σ : xS} {g : Int32} : oKr σ (xsI (qForget σ) 37 19 g) := ⟨fun a b h1 => by rw [xgI_n (by omega)]; exact qForget_u.1 a b (by omega), fun _ _ _ => rfl, rfl, rfl⟩
theorem o_begin {l : Launch} {G : xG} {σ : xS} {D : oMd} {C : oCt} {z : Nat} {t : Nat → Int32} {g : Int32} (hw : oIw D C z) (h : oIc D C z t g σ) : xM l G yX8_begin cX8_begin 2 (Option.some Jvm.ClassFile.FieldType.int) 3 60 [.ref (G.2.1 0)] σ (oAc D (if oV D = 0 then C else oNew) z t (if oV D = 0 then g else 1) σ (if oV D = 0 then -4 else nI (oZ C))) :=
  xM.mono c_X8_begin (fun r u e => by
    rw [e.2]
    have e1 := e.1
    rw [h.2.2.2.2.1.1.1.1] at e1
    by_cases c : oV D = 0
    · rw [if_pos (h.2.2.2.1.mpr c)] at e1 ⊢
      rw [if_pos c, if_pos c, if_pos c]
      exact ⟨e1, h, oKc.rf⟩
    · rw [if_neg (fun y => c (h.2.2.2.1.mp y))] at e1 ⊢
      rw [if_neg c, if_neg c, if_neg c]
      exact ⟨e1, oIc_new hw h, oKc_end⟩)
theorem o_beginR {l : Launch} {G : xG} {σ : xS} {D : oMd} {C : oCt} {z : Nat} {t : Nat → Int32} {g : Int32} (hw : oIw D C z) (h : oIr D C z t g σ) : xM l G yX9_begin cX9_begin 2 (Option.some Jvm.ClassFile.FieldType.int) 1 20 [.ref (G.2.1 37)] σ (oAr D (if oV D = 0 then C else oNew) z t (if oV D = 0 then g else 1) σ (if oV D = 0 then -4 else nI (oZ C))) :=
  xM.mono c_X9_begin (fun r u e => by
    rw [e.2]
    have e1 := e.1
    rw [h.2.2.1.1.1] at e1
    by_cases c : oV D = 0
    · rw [if_pos ((oV_0 h.2.1 hw.1).mpr c)] at e1 ⊢
      rw [if_pos c, if_pos c, if_pos c]
      exact ⟨e1, oIr_0 h, oKr.I (by omega)⟩
    · rw [if_neg (fun y => c ((oV_0 h.2.1 hw.1).mp y))] at e1 ⊢
      rw [if_neg c, if_neg c, if_neg c]
      exact ⟨e1, oIr_new (oIr_0 h), (oKr.I (by omega)).tr oKr_forget⟩)
/-- fault, told -/
theorem o_fault {l : Launch} {G : xG} {σ : xS} {D : oMd} {C : oCt} {z : Nat} {t : Nat → Int32} {g w : Int32} (h : oIc D C z t g σ) : xM l G yX8_fault cX8_fault 2 (Option.some Jvm.ClassFile.FieldType.int) 0 0 [.ref (G.2.1 0), .int w] σ (oAc D C z t g σ (if w = 0 then oFa C else if w = 1 then oFb C else if w = 2 then oFc C else -3)) :=
  xM.mono c_X8_fault (fun r u e => by
    rw [e.2]
    obtain ⟨a1, a2, a3, a4⟩ := h.2.2.2.2.1.1.1
    rw [← a2, ← a3, ← a4]
    exact ⟨e.1, h, oKc.rf⟩)
theorem o_faultR {l : Launch} {G : xG} {σ : xS} {D : oMd} {C : oCt} {z : Nat} {t : Nat → Int32} {g w : Int32} (h : oIr D C z t g σ) : xM l G yX9_fault cX9_fault 2 (Option.some Jvm.ClassFile.FieldType.int) 0 0 [.ref (G.2.1 37), .int w] σ (oAr D C z t g σ (if w = 0 then oFa C else if w = 1 then oFb C else if w = 2 then oFc C else -3)) :=
  xM.mono c_X9_fault (fun r u e => by
    rw [e.2]
    obtain ⟨a1, a2, a3, a4⟩ := h.2.2.1.1
    rw [← a2, ← a3, ← a4]
    exact ⟨e.1, oIr_0 h, oKr.I (by omega)⟩)
def oTold (D : oMd) (C : oCt) (z : Nat) (w : Int32) : Int32 := if w = 0 then nI z else if w = 1 then (if oV D = 0 then 0 else nI (oV D)) else if w = 2 then (if oV D = 0 then 0 else nI (oN D)) else if w = 3 then (if oV D = 0 then 0 else nI (oM D)) else if w = 4 then nI (oNp D) else if w = 5 then nI (oNr C) else if w = 6 then nI (oNb C) else if w = 7 then nI (oZ C) else -3
theorem o_told {l : Launch} {G : xG} {σ : xS} {D : oMd} {C : oCt} {z : Nat} {t : Nat → Int32} {g w : Int32} (h : oIc D C z t g σ) : xM l G yX8_told cX8_told 2 (Option.some Jvm.ClassFile.FieldType.int) 0 0 [.ref (G.2.1 0), .int w] σ (oAc D C z t g σ (oTold D C z w)) :=
  xM.mono (c_X8_told h.2.1.1 rfl) (fun r u e => by
    rw [e.2]
    refine ⟨e.1.trans ?_, h, oKc.rf⟩
    obtain ⟨-, ⟨b1, b2, b3, b4⟩, -, -, -, b8, -⟩ := h.2.1
    obtain ⟨c1, -, c3, -⟩ := h.2.2.2.2.1.1
    rw [h.1.1, b1, b2, b3, b8, c3.1, c3.2.1, c1.1]
    unfold oTold
    by_cases c : oV D = 0
    · simp only [h.2.2.2.1.mpr c, c, if_true]
    · have : ¬ xgI σ 0 3 = 0 := fun y => c (h.2.2.2.1.mp y)
      simp only [this, c, if_false])
/-- without a model nothing is told of one -/
def oW0 (D : oMd) : Prop := oV D = 0 → oN D = 0 ∧ oM D = 0
theorem o_toldR {l : Launch} {G : xG} {σ : xS} {D : oMd} {C : oCt} {z : Nat} {t : Nat → Int32} {g w : Int32} (hw0 : oW0 D) (h : oIr D C z t g σ) : xM l G yX9_told cX9_told 2 (Option.some Jvm.ClassFile.FieldType.int) 0 0 [.ref (G.2.1 37), .int w] σ (oAr D C z t g σ (oTold D C z w)) :=
  xM.mono c_X9_told (fun r u e => by
    rw [e.2]
    refine ⟨e.1.trans ?_, oIr_0 h, oKr.I (by omega)⟩
    obtain ⟨⟨b1, b2, b3, b4⟩, -, -, -, b8, -⟩ := h.2.1
    obtain ⟨c1, -, c3, -⟩ := h.2.2.1
    rw [h.1.1, b1, b2, b3, b8, c3.1, c3.2.1, c1.1]
    unfold oTold
    by_cases c : oV D = 0
    · obtain ⟨d1, d2⟩ := hw0 c
      rw [c, d1, d2]
      rfl
    · simp only [c, if_false])
