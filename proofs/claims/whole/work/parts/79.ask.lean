/-! what the rows answer -/
def oNoA (w : oRow) : Prop := ∀ b, oS w b = false
theorem oS_br {D : oMd} {C : oCt} {r b : Nat} (hwm : oWm D) (h : oWc D C) (hr : r < oNr C) (hb : oS (oRw C r) b = true) : ∃ i, i < oNb C ∧ oBr C i = b := by
  obtain ⟨h1, h2⟩ := (oWc_g hwm h (r + 1) r (by omega) hr).2.1 b hb
  refine ⟨oBc (oPr C) b, ?_, (h.2.2.2.1 b (by omega)).2.2.2 h2⟩
  have : oBc (oPr C) (b + 1) ≤ oBc (oPr C) (oNr C) := oBc_le (by omega)
  rw [oBc, if_pos h2] at this
  rw [h.1.2.2.2.1]
  omega
theorem oNoA_c {D : oMd} {C : oCt} {σ : xS} {r : Nat} (hwm : oWm D) (h : oWc D C) (hc : oCc C σ) (hr : r < oNr C) : xgL σ (61 + r) 2 = 0 ↔ oNoA (oRw C r) := by
  have hb := h.1.2.2.1
  rw [oMk_0 (hc.1.2.2.2 r hr).1.2.2.1 (by omega)]
  constructor
  · intro y b
    cases e : oS (oRw C r) b with
    | false => rfl
    | true =>
      obtain ⟨i, i1, i2⟩ := oS_br hwm h hr e
      rw [← i2, y i i1] at e
      exact absurd e (by decide)
  · exact fun y i _ => y _
theorem qCnt_z {σ : xS} {r : Nat} : ∀ n, qCnt σ r n = 0 ↔ ∀ b, b < n → xgI σ 56 (200 * r + b) = 0
  | 0 => ⟨fun _ b hb => absurd hb (by omega), fun _ => rfl⟩
  | n + 1 => by
    rw [qCnt]
    constructor
    · intro y b hb
      by_cases e : xgI σ 56 (200 * r + n) = 0
      · rw [if_pos e] at y
        by_cases c : b = n
        · rw [c]; exact e
        · exact (qCnt_z n).mp (by omega) b (by omega)
      · rw [if_neg e] at y
        omega
    · intro y
      rw [if_pos (y n (by omega)), (qCnt_z n).mpr (fun b hb => y b (by omega))]
theorem oNoA_r {D : oMd} {C : oCt} {σ : xS} {r : Nat} (hwm : oWm D) (h : oWc D C) (hc : oRc C σ) (hr : r < oNr C) : qCnt σ r (r + 1) = 0 ↔ oNoA (oRw C r) := by
  have h200 := h.1.2.1
  rw [qCnt_z]
  have hq := (hc.2.2.2 r hr).1.2.2.1
  constructor
  · intro y b
    cases e : oS (oRw C r) b with
    | false => rfl
    | true =>
      have hb := ((oWc_g hwm h (r + 1) r (by omega) hr).2.1 b e).1
      have := y b (by omega)
      rw [hq b (by omega), e] at this
      exact absurd this (by decide)
  · intro y b hb
    rw [hq b (by omega), y b]
    rfl
def oLi (w : oRow) : Int32 := match oL w with
  | none => 0
  | some _ => 1
theorem oLi_c {σ : xS} {i : Nat} {w : oRow} (h : oLm σ i (oL w)) : xgI σ (61 + i) 3 = oLi w := by
  unfold oLi
  cases e : oL w with
  | none => rw [e] at h; exact h
  | some x => rw [e] at h; exact h.1
theorem oLi_r {σ : xS} {i : Nat} {w : oRow} (h : oQl σ i (oL w)) : xgI σ 54 i = oLi w := by
  unfold oLi
  cases e : oL w with
  | none => rw [e] at h; exact h
  | some x => rw [e] at h; exact h.1
def oPP (C : oCt) (L : Int32) (r : Nat) : Prop := oNoA (oRw C r) ∧ oLi (oRw C r) = L ∧ oImp (oRw C r)
noncomputable def oPrf (C : oCt) (L : Int32) : Int32 := xFind (oPP C L) nI (-1) (oNr C) 0
theorem kPrf_x {σ : xS} {L : Int32} : ∀ n r, kPrf σ L n r = xFind (kIs σ L) nI (-1) n r
  | 0, _ => rfl
  | n + 1, r => by rw [kPrf, xFind, kPrf_x n (r + 1)]
theorem oImp_c {br : Nat → Nat} {nb : Nat} {σ : xS} {r : Nat} {w : oRow} (hr : oCr br nb σ r w) : rImp σ r ↔ oImp w := by
  unfold rImp rZeros oImp
  rw [hr.2.1]
  constructor
  · rintro ⟨z1, z2⟩
    exact ⟨z1, fun v hv => by rw [← hr.1 v hv]; exact z2 v hv⟩
  · rintro ⟨z1, z2⟩
    exact ⟨z1, fun v hv => by rw [hr.1 v hv]; exact z2 v hv⟩
theorem oImp_r {σ : xS} {r V : Nat} {w : oRow} (hV : V ≤ 8) (hz : ∀ v, V ≤ v → oF w v = 0) (hq : oQr σ r w) : qImp σ r V ↔ oImp w := by
  unfold qImp oImp
  rw [hq.2.1]
  constructor
  · rintro ⟨z1, z2⟩
    refine ⟨z1, fun v hv => ?_⟩
    by_cases c : v < V
    · rw [← hq.1 v hv]; exact z2 v c
    · exact hz v (by omega)
  · rintro ⟨z1, z2⟩
    exact ⟨z1, fun v hv => by rw [hq.1 v (by omega)]; exact z2 v (by omega)⟩
theorem kPrf_e {D : oMd} {C : oCt} {σ : xS} {L : Int32} (hwm : oWm D) (h : oWc D C) (hc : oCc C σ) : kPrf σ L (oNr C) 0 = oPrf C L := by
  rw [kPrf_x]
  refine xFind_c rfl _ _ (fun r _ hr => ⟨?_, rfl⟩)
  have hr : r < oNr C := by omega
  have d := (hc.1.2.2.2 r hr).1
  unfold kIs oPP
  rw [oNoA_c hwm h hc hr, oLi_c d.2.2.2, oImp_c d]
theorem qPrf_e {D : oMd} {C : oCt} {σ : xS} {L : Int32} (hwm : oWm D) (h : oWc D C) (hc : oRc C σ) : qPrf σ (oV D) (oNr C) L = oPrf C L := by
  unfold qPrf oPrf
  refine xFind_c rfl _ _ (fun r _ hr => ⟨?_, rfl⟩)
  have hr : r < oNr C := by omega
  have d := (hc.2.2.2 r hr).1
  unfold qPP oPP
  rw [oNoA_r hwm h hc hr, oLi_r d.2.2.2, oImp_r hwm.1.1 (oWc_g hwm h (r + 1) r (by omega) hr).1 d]
  exact ⟨fun y => ⟨y.2.1, y.2.2, y.1⟩, fun y => ⟨y.2.2, y.1, y.2.1⟩⟩
theorem xFind_w {P : Nat → Prop} : ∀ n v, xFind P nI (-1) n v = -1 ∨ ∃ w, v ≤ w ∧ w < v + n ∧ P w ∧ xFind P nI (-1) n v = nI w
  | 0, _ => Or.inl rfl
  | n + 1, v => by
    rw [xFind]
    by_cases c : P v
    · rw [if_pos c]
      exact Or.inr ⟨v, Nat.le_refl _, by omega, c, rfl⟩
    · rw [if_neg c]
      rcases xFind_w (P := P) n (v + 1) with e | ⟨w, w1, w2, w3, w4⟩
      · exact Or.inl e
      · exact Or.inr ⟨w, by omega, by omega, w3, w4⟩
theorem o_proved {l : Launch} {G : xG} {σ : xS} {D : oMd} {C : oCt} {z : Nat} {t : Nat → Int32} {g : Int32} (hw : oIw D C z) (h : oIc D C z t g σ) : xM l G yX8_proved cX8_proved 1 (Option.some Jvm.ClassFile.FieldType.int) 3 64 [.ref (G.2.1 0)] σ (oAc D C z t g σ (if oPrf C 0 = -1 then (if oPrf C 1 = -1 then 0 else 2) else 1)) :=
  xM.mono (c_X8_proved hw.2.1.1.2.1 h.2.2.2.2.1.1.2.2.1.1) (fun r u e => by
    rw [e.2, ← kPrf_e (L := 0) hw.1 hw.2.1 h.2.2.2.2.1, ← kPrf_e (L := 1) hw.1 hw.2.1 h.2.2.2.2.1]
    exact ⟨e.1, h, oKc.rf⟩)
theorem o_provedR {l : Launch} {G : xG} {σ : xS} {D : oMd} {C : oCt} {z : Nat} {t : Nat → Int32} {g : Int32} (hw : oIw D C z) (h : oIr D C z t g σ) : xM l G yX9_proved cX9_proved 1 (Option.some Jvm.ClassFile.FieldType.int) 2 45 [.ref (G.2.1 37)] σ (oAr D C z t g σ (if oPrf C 0 = -1 then (if oPrf C 1 = -1 then 0 else 2) else 1)) :=
  xM.mono (c_X9_proved h.2.1.1.1 hw.1.1.1 h.2.2.1.2.2.1.1 hw.2.1.1.2.1) (fun r u e => by
    rw [e.2, ← qPrf_e (L := 0) hw.1 hw.2.1 h.2.2.1, ← qPrf_e (L := 1) hw.1 hw.2.1 h.2.2.1]
    exact ⟨e.1, oIr_0 h, oKr.I (by omega)⟩)
/-! a long answer -/
def oAcl (D : oMd) (C : oCt) (z : Nat) (t : Nat → Int32) (g : Int32) (σ : xS) (v : Int64) : Option Value → xS → Prop := fun r u => r = some (.long v) ∧ oIc D C z t g u ∧ oKc σ u
/-- the reference's long answer, and whether it refuses -/
def oArl (D : oMd) (C : oCt) (z : Nat) (t : Nat → Int32) (g : Int32) (σ : xS) (v : Int64) (th : Int32) : Option Value → xS → Prop := fun r u => r = some (.long v) ∧ oIr D C z t g u ∧ oKr σ u ∧ xgI u 37 0 = th
def oAri (D : oMd) (C : oCt) (z : Nat) (t : Nat → Int32) (g : Int32) (σ : xS) (v : Int32) (th : Int32) : Option Value → xS → Prop := fun r u => r = some (.int v) ∧ oIr D C z t g u ∧ oKr σ u ∧ xgI u 37 0 = th
theorem oCost_c {D : oMd} {σ : xS} {c j : Nat} (hm : oCm D σ c) (hj : j < oNp D) : xSum (xgI σ (c + 3)) (xgI σ (463 + j)) 8 = oCst D j := xSum_c 8 (fun v hv => ⟨(hm.2.2.1 v hv).2.2, hm.2.2.2.2.2.2 j hj v hv⟩)
theorem o_cost {l : Launch} {G : xG} {σ : xS} {D : oMd} {C : oCt} {z j : Nat} {t : Nat → Int32} {g : Int32} (hw : oIw D C z) (h : oIc D C z t g σ) (hj : j < oNp D) : xM l G yX8_cost cX8_cost 2 (Option.some Jvm.ClassFile.FieldType.long) 2 45 [.ref (G.2.1 0), .int (nI j)] σ (oAcl D C z t g σ (oCst D j)) :=
  xM.mono (c_X8_cost h.2.1.1 rfl hw.1.1.2.2.2 h.2.1.2.2.2.2.2.1 hj) (fun r u e => by
    rw [e.2, ← oCost_c h.2.1 hj]
    exact ⟨e.1, h, oKc.rf⟩)
theorem o_costR {l : Launch} {G : xG} {σ : xS} {D : oMd} {C : oCt} {z j : Nat} {t : Nat → Int32} {g : Int32} (hw : oIw D C z) (h : oIr D C z t g σ) (hj : j < oNp D) : xM l G yX9_cost cX9_cost 2 (Option.some Jvm.ClassFile.FieldType.long) 1 24 [.ref (G.2.1 37), .int (nI j)] σ (oArl D C z t g σ (oCst D j) 0) :=
  xM.mono (c_X9_cost hw.1.1.2.2.2 h.2.1.2.2.2.2.1 h.2.1.1.1 hw.1.1.1 hj) (fun r u e => by
    rw [e.2, ← qCost_e h.2.1 hw.1 hj]
    exact ⟨e.1, oIr_0 h, oKr.I (by omega), xgI_s _ _ _ _⟩)
theorem o_costT {l : Launch} {G : xG} {σ : xS} {D : oMd} {C : oCt} {z : Nat} {x : Int32} {t : Nat → Int32} {g : Int32} (hw : oIw D C z) (h : oIr D C z t g σ) (hx : ¬ xLt x (oNp D)) : xM l G yX9_cost cX9_cost 2 (Option.some Jvm.ClassFile.FieldType.long) 1 24 [.ref (G.2.1 37), .int x] σ (oArl D C z t g σ 0 1) :=
  xM.mono (c_X9_costT hw.1.1.2.2.2 h.2.1.2.2.2.2.1 hx) (fun r u e => by
    rw [e.2]
    exact ⟨e.1, oIr_0 h, oKr.I (by omega), xgI_s _ _ _ _⟩)
theorem o_number {l : Launch} {G : xG} {σ : xS} {D : oMd} {C : oCt} {z j : Nat} {t : Nat → Int32} {g : Int32} (hw : oIw D C z) (h : oIc D C z t g σ) (hj : j < oZ C) : xM l G yX8_number cX8_number 2 (Option.some Jvm.ClassFile.FieldType.int) 1 21 [.ref (G.2.1 0), .int (nI j)] σ (oAc D C z t g σ (oU C j)) :=
  xM.mono (c_X8_number hj h.2.2.2.2.1.1.1.1 hw.2.1.1.1) (fun r u e => by
    rw [e.2, ← h.2.2.2.2.1.1.2.1 j hj]
    exact ⟨e.1, h, oKc.rf⟩)
theorem o_numberR {l : Launch} {G : xG} {σ : xS} {D : oMd} {C : oCt} {z j : Nat} {t : Nat → Int32} {g : Int32} (hw : oIw D C z) (h : oIr D C z t g σ) (hj : j < oZ C) : xM l G yX9_number cX9_number 2 (Option.some Jvm.ClassFile.FieldType.int) 1 22 [.ref (G.2.1 37), .int (nI j)] σ (oAri D C z t g σ (oU C j) 0) :=
  xM.mono (c_X9_number h.2.2.1.1.1 hw.2.1.1.1 hj) (fun r u e => by
    rw [e.2, ← h.2.2.1.2.1 j hj]
    exact ⟨e.1, oIr_0 h, oKr.I (by omega), xgI_s _ _ _ _⟩)
theorem o_numberT {l : Launch} {G : xG} {σ : xS} {D : oMd} {C : oCt} {z : Nat} {x : Int32} {t : Nat → Int32} {g : Int32} (hw : oIw D C z) (h : oIr D C z t g σ) (hx : ¬ xLt x (oZ C)) : xM l G yX9_number cX9_number 2 (Option.some Jvm.ClassFile.FieldType.int) 1 22 [.ref (G.2.1 37), .int x] σ (oAri D C z t g σ 0 1) :=
  xM.mono (c_X9_numberT h.2.2.1.1.1 hw.2.1.1.1 hx) (fun r u e => by
    rw [e.2]
    exact ⟨e.1, oIr_0 h, oKr.I (by omega), xgI_s _ _ _ _⟩)
/-! best -/
def oBv (w : oRow) : Int64 := match oL w with
  | none => 0
  | some x => x
theorem oBest {C : oCt} (h : ¬ oPrf C 1 = -1) : ∃ w, w < oNr C ∧ oPP C 1 w ∧ oPrf C 1 = nI w := by
  rcases xFind_w (P := oPP C 1) (oNr C) 0 with e | ⟨w, -, w2, w3, w4⟩
  · exact absurd e h
  · exact ⟨w, by omega, w3, w4⟩
theorem o_best {l : Launch} {G : xG} {σ : xS} {D : oMd} {C : oCt} {z w : Nat} {t : Nat → Int32} {g : Int32} (hw : oIw D C z) (h : oIc D C z t g σ) (h0 : oPrf C 0 = -1) (hn : w < oNr C) (hp : oPP C 1 w) (h1 : oPrf C 1 = nI w) : xM l G yX8_best cX8_best 2 (Option.some Jvm.ClassFile.FieldType.long) 3 64 [.ref (G.2.1 0)] σ (oAcl D C z t g σ (oBv (oRw C w))) :=
  xM.mono (c_X8_best hw.2.1.1.2.1 h.2.2.2.2.1.1.2.2.1.1 hn ((kPrf_e hw.1 hw.2.1 h.2.2.2.2.1).trans h0) ((kPrf_e hw.1 hw.2.1 h.2.2.2.2.1).trans h1)) (fun r u e => by
    rw [e.2]
    refine ⟨e.1.trans ?_, h, oKc.rf⟩
    have d := (h.2.2.2.2.1.1.2.2.2 w hn).1.2.2.2
    have hl := hp.2.1
    unfold oLi at hl
    unfold oBv
    cases c : oL (oRw C w) with
    | none => rw [c] at hl; exact absurd hl (by decide)
    | some x => rw [c] at d; rw [d.2])
theorem o_bestR {l : Launch} {G : xG} {σ : xS} {D : oMd} {C : oCt} {z w : Nat} {t : Nat → Int32} {g : Int32} (hw : oIw D C z) (h : oIr D C z t g σ) (h0 : oPrf C 0 = -1) (hn : w < oNr C) (hp : oPP C 1 w) (h1 : oPrf C 1 = nI w) : xM l G yX9_best cX9_best 1 (Option.some Jvm.ClassFile.FieldType.long) 2 45 [.ref (G.2.1 37)] σ (oArl D C z t g σ (oBv (oRw C w)) 0) := by
  have h200 := hw.2.1.1.2.1
  refine xM.mono (c_X9_best h.2.1.1.1 hw.1.1.1 h.2.2.1.2.2.1.1 h200 ((qPrf_e hw.1 hw.2.1 h.2.2.1).trans h0) ((qPrf_e hw.1 hw.2.1 h.2.2.1).trans h1) (by omega)) (fun r u e => ?_)
  rw [e.2]
  refine ⟨e.1.trans ?_, oIr_0 h, oKr.I (by omega), xgI_s _ _ _ _⟩
  have d := (h.2.2.1.2.2.2 w hn).1.2.2.2
  have hl := hp.2.1
  unfold oLi at hl
  unfold oBv
  cases c : oL (oRw C w) with
  | none => rw [c] at hl; exact absurd hl (by decide)
  | some x => rw [c] at d; rw [d.2]
theorem o_bestT {l : Launch} {G : xG} {σ : xS} {D : oMd} {C : oCt} {z : Nat} {t : Nat → Int32} {g : Int32} (hw : oIw D C z) (h : oIr D C z t g σ) (h0 : ¬ oPrf C 0 = -1 ∨ oPrf C 1 = -1) : xM l G yX9_best cX9_best 1 (Option.some Jvm.ClassFile.FieldType.long) 2 45 [.ref (G.2.1 37)] σ (oArl D C z t g σ 0 1) :=
  xM.mono (c_X9_bestT h.2.1.1.1 hw.1.1.1 h.2.2.1.2.2.1.1 hw.2.1.1.2.1 (by rw [qPrf_e hw.1 hw.2.1 h.2.2.1, qPrf_e hw.1 hw.2.1 h.2.2.1]; exact h0)) (fun r u e => by
    rw [e.2]
    exact ⟨e.1, oIr_0 h, oKr.I (by omega), xgI_s _ _ _ _⟩)
/-! holds -/
def oKpt (D : oMd) (w : oRow) (j : Nat) : Prop := xSumL (oF w) (oPl D j) 8 ≤ oR w
noncomputable def oHld (D : oMd) (C : oCt) (w j : Nat) : Int32 := oIf ((∀ b, oS (oRw C w) b = true → oKpt D (oRw C b) j) ∧ (∀ x, oL (oRw C w) = some x → oCst D j < x)) (xB (oKpt D (oRw C w) j)) 2
theorem rKept_e {D : oMd} {σ : xS} {c r j : Nat} {br : Nat → Nat} {nb : Nat} {w : oRow} (hm : oCm D σ c) (hj : j < oNp D) (hr : oCr br nb σ r w) : rKept σ r (463 + j) ↔ oKpt D w j := by
  unfold rKept oKpt
  rw [hr.2.1, xSumL_c 8 (fun v hv => ⟨hr.1 v hv, hm.2.2.2.2.2.2 j hj v hv⟩)]
theorem qSumR_e {D : oMd} {σ : xS} {r j : Nat} {w : oRow} (hm : oQm D σ) (hw : oWm D) (hj : j < oNp D) (hz : ∀ v, oV D ≤ v → oF w v = 0) (hr : oQr σ r w) : qSumR σ r j (oV D) = xSumL (oF w) (oPl D j) 8 := by
  have := hw.1.1
  unfold qSumR
  rw [xSumL_c (oV D) (fun v hv => ⟨hr.1 v (by omega), hm.2.2.2.2.2 j hj v hv⟩), ← xSumL_pad (g := oPl D j) 8 (oV D) hw.1.1 hz]
theorem o_holds {l : Launch} {G : xG} {σ : xS} {D : oMd} {C : oCt} {z w j : Nat} {t : Nat → Int32} {g : Int32} (hw : oIw D C z) (h : oIc D C z t g σ) (hn : w < oNr C) (hj : j < oNp D) : xM l G yX8_holds cX8_holds 5 (Option.some Jvm.ClassFile.FieldType.int) 3 68 [.ref (G.2.1 0), .int (nI w), .int (nI j)] σ (oAc D C z t g σ (oHld D C w j)) := by
  obtain ⟨e1, e2⟩ := h.2.2.2.2.1
  have h60 := hw.2.1.1.2.2.1
  refine xM.mono (c_X8_holds h.2.1.1 rfl hw.2.1.1.2.1 e1.2.2.1.1 hn h60 e1.2.2.1.2.1 hw.1.1.2.2.2 h.2.1.2.2.2.2.2.1 hj (bj := oBr C) (fun b hb => ⟨e1.2.2.1.2.2 b hb, (oWc_b hw.2.1 hb).1⟩)) (fun r u e => ?_)
  rw [e.2]
  refine ⟨e.1.trans ?_, h, oKc.rf⟩
  have dw := (e1.2.2.2 w hn).1
  have hA : (∀ b, b < oNb C → xBit (xgL σ (61 + w) 2) b → rKept σ (oBr C b) (463 + j)) ↔ ∀ b, oS (oRw C w) b = true → oKpt D (oRw C b) j := by
    constructor
    · intro y b hb
      obtain ⟨i, i1, i2⟩ := oS_br hw.1 hw.2.1 hn hb
      have := y i i1 ((o_bits dw.2.2.1 i1 (by omega)).mpr (by rw [i2]; exact hb))
      rw [i2] at this
      have hbn := ((oWc_g hw.1 hw.2.1 (w + 1) w (by omega) hn).2.1 b hb).1
      exact (rKept_e h.2.1 hj (e1.2.2.2 b (by omega)).1).mp this
    · intro y b hb hx
      have hS := (o_bits dw.2.2.1 hb (by omega)).mp hx
      exact (rKept_e h.2.1 hj (e1.2.2.2 _ (oWc_b hw.2.1 hb).1).1).mpr (y _ hS)
  have hK := rKept_e h.2.1 hj dw
  unfold pHolds oHld
  rw [oCost_c h.2.1 hj]
  by_cases c : ∀ b, b < oNb C → xBit (xgL σ (61 + w) 2) b → rKept σ (oBr C b) (463 + j)
  · rw [if_pos c]
    have c' := hA.mp c
    have hB : xB (rKept σ w (463 + j)) = xB (oKpt D (oRw C w) j) := by rw [show rKept σ w (463 + j) = oKpt D (oRw C w) j from propext hK]
    rw [hB]
    have dl := dw.2.2.2
    cases hl : oL (oRw C w) with
    | none =>
      rw [hl] at dl
      have dl : xgI σ (61 + w) 3 = 0 := dl
      rw [if_pos dl, oIf_t ⟨c', fun x hx => by cases hx⟩]
    | some x =>
      rw [hl] at dl
      rw [if_neg (by rw [dl.1]; decide), dl.2]
      by_cases d : oCst D j < x
      · rw [if_pos d, oIf_t ⟨c', fun y hy => by cases hy; exact d⟩]
      · rw [if_neg d, oIf_f (fun y => d (y.2 x rfl))]
  · rw [if_neg c, oIf_f (fun y => c (hA.mpr y.1))]
theorem o_holdsR {l : Launch} {G : xG} {σ : xS} {D : oMd} {C : oCt} {z w j : Nat} {t : Nat → Int32} {g : Int32} (hw : oIw D C z) (h : oIr D C z t g σ) (hn : w < oNr C) (hj : j < oNp D) : xM l G yX9_holds cX9_holds 5 (Option.some Jvm.ClassFile.FieldType.int) 1 25 [.ref (G.2.1 37), .int (nI w), .int (nI j)] σ (oAri D C z t g σ (oHld D C w j) 0) := by
  have h200 := hw.2.1.1.2.1
  refine xM.mono (c_X9_holds h.2.2.1.2.2.1.1 hw.2.1.1.2.1 h.2.1.1.1 hw.1.1.1 hw.1.1.2.2.2 h.2.1.2.2.2.2.1 hn hj) (fun r u e => ?_)
  rw [e.2]
  refine ⟨e.1.trans ?_, oIr_0 h, oKr.I (by omega), xgI_s _ _ _ _⟩
  have dw := (h.2.2.1.2.2.2 w hn).1
  have hz : ∀ r, r < oNr C → ∀ v, oV D ≤ v → oF (oRw C r) v = 0 := fun r hr => (oWc_g hw.1 hw.2.1 (r + 1) r (by omega) hr).1
  have hS := (oWc_g hw.1 hw.2.1 (w + 1) w (by omega) hn).2.1
  have hQ : qKa σ w j (oV D) (w + 1) ↔ (∀ b, oS (oRw C w) b = true → oKpt D (oRw C b) j) ∧ (∀ x, oL (oRw C w) = some x → oCst D j < x) := by
    unfold qKa
    rw [qCost_e h.2.1 hw.1 hj]
    have dl := dw.2.2.2
    constructor
    · rintro ⟨y1, y2⟩
      refine ⟨fun b hb => ?_, fun x hx => ?_⟩
      · have hbn := (hS b hb).1
        have := y2 b (by omega) (by rw [dw.2.2.1 b (by omega), hb]; decide)
        rw [qSumR_e h.2.1 hw.1 hj (hz b (by omega)) (h.2.2.1.2.2.2 b (by omega)).1, (h.2.2.1.2.2.2 b (by omega)).1.2.1] at this
        exact this
      · rw [hx] at dl
        rcases y1 with y | y
        · rw [dl.1] at y
          exact absurd y (by decide)
        · rw [dl.2] at y
          exact y
    · rintro ⟨y1, y2⟩
      refine ⟨?_, fun b hb hx => ?_⟩
      · cases hl : oL (oRw C w) with
        | none => rw [hl] at dl; exact Or.inl dl
        | some x => rw [hl] at dl; rw [dl.2]; exact Or.inr (y2 x hl)
      · rw [dw.2.2.1 b (by omega)] at hx
        have hb2 : oS (oRw C w) b = true := by
          cases c : oS (oRw C w) b with
          | true => rfl
          | false => rw [c] at hx; exact absurd rfl hx
        rw [qSumR_e h.2.1 hw.1 hj (hz b (by omega)) (h.2.2.1.2.2.2 b (by omega)).1, (h.2.2.1.2.2.2 b (by omega)).1.2.1]
        exact y1 b hb2
  unfold qHolds oHld
  have hB : xB (qSumR σ w j (oV D) ≤ xgL σ 53 w) = xB (oKpt D (oRw C w) j) := by
    rw [qSumR_e h.2.1 hw.1 hj (hz w hn) dw, dw.2.1]
    rfl
  rw [hB]
  by_cases c : qKa σ w j (oV D) (w + 1)
  · rw [if_pos c, oIf_t (hQ.mp c)]
  · rw [if_neg c, oIf_f (fun y => c (hQ.mpr y))]
theorem o_holdsT {l : Launch} {G : xG} {σ : xS} {D : oMd} {C : oCt} {z : Nat} {x y : Int32} {t : Nat → Int32} {g : Int32} (hw : oIw D C z) (h : oIr D C z t g σ) (hx : ¬ xLt x (oNr C) ∨ ¬ xLt y (oNp D)) : xM l G yX9_holds cX9_holds 5 (Option.some Jvm.ClassFile.FieldType.int) 1 25 [.ref (G.2.1 37), .int x, .int y] σ (oAri D C z t g σ 0 1) :=
  xM.mono (c_X9_holdsT h.2.2.1.2.2.1.1 hw.2.1.1.2.1 hw.1.1.2.2.2 h.2.1.2.2.2.2.1 hx) (fun r u e => by
    rw [e.2]
    exact ⟨e.1, oIr_0 h, oKr.I (by omega), xgI_s _ _ _ _⟩)
/-! assumes: the branches in their order -/
def oAs (S : Nat → Bool) (i : Int32) : Nat → Nat → Nat → Int32
  | 0, _, _ => -1
  | n + 1, b, c => if S b = false then oAs S i n (b + 1) c else if nI c = i then nI b else oAs S i n (b + 1) (c + 1)
theorem qAs_e {σ : xS} {r : Nat} {i : Int32} {S : Nat → Bool} : ∀ n b c, (∀ x, b ≤ x → x < b + n → xgI σ 56 (200 * r + x) = oBi (S x)) → qAs σ r i n b c = oAs S i n b c
  | 0, _, _, _ => rfl
  | n + 1, b, c, h => by
    have h0 := h b (Nat.le_refl _) (by omega)
    rw [qAs, oAs, qAs_e n (b + 1) c (fun x x1 x2 => h x (by omega) (by omega)), qAs_e n (b + 1) (c + 1) (fun x x1 x2 => h x (by omega) (by omega)), h0]
    by_cases e : S b = false
    · rw [if_pos (oBi_0.mpr e), if_pos e]
    · rw [if_neg (fun y => e (oBi_0.mp y)), if_neg e]
theorem oAs_x {S : Nat → Bool} {i : Int32} : ∀ m b c, (∀ x, b ≤ x → S x = false) → oAs S i m b c = -1
  | 0, _, _, _ => rfl
  | m + 1, b, c, h => by rw [oAs, if_pos (h b (Nat.le_refl _)), oAs_x m (b + 1) c (fun x hx => h x (by omega))]
theorem oAs_ext {S : Nat → Bool} {i : Int32} : ∀ n m b c, (∀ x, b + n ≤ x → S x = false) → oAs S i (n + m) b c = oAs S i n b c
  | 0, m, b, c, h => by rw [Nat.zero_add, oAs_x m b c (fun x hx => h x (by omega))]; rfl
  | n + 1, m, b, c, h => by
    rw [show n + 1 + m = (n + m) + 1 by omega, oAs, oAs, oAs_ext n m (b + 1) c (fun x hx => h x (by omega)), oAs_ext n m (b + 1) (c + 1) (fun x hx => h x (by omega))]
theorem kAss_e {D : oMd} {C : oCt} {σ : xS} {A : Int64} {S : Nat → Bool} {i : Int32} (h : oWc D C) (hc : oCc C σ) (hA : oMk (oBr C) (oNb C) S A) (hS : ∀ b, b < oNr C → S b = true → oNn (oPr C b) 0 = 6) : ∀ d b c, b + d = oNr C → kAss A (xgI σ 10) i (oNb C - oBc (oPr C) b) (oBc (oPr C) b) (nI c) = oAs S i d b c
  | 0, b, c, e => by
    have : b = oNr C := by omega
    rw [this, ← h.1.2.2.2.1, Nat.sub_self]
    rfl
  | d + 1, b, c, e => by
    have h60 := h.1.2.2.1
    have ih := kAss_e (i := i) h hc hA hS d (b + 1)
    rw [oBc] at ih
    rw [oAs]
    by_cases k : oNn (oPr C b) 0 = 6
    · rw [if_pos k] at ih
      have hlt : oBc (oPr C) b < oNb C := by
        have : oBc (oPr C) (b + 1) ≤ oBc (oPr C) (oNr C) := oBc_le (by omega)
        rw [oBc, if_pos k] at this
        rw [h.1.2.2.2.1]
        omega
      have hbr := (h.2.2.2.1 b (by omega)).2.2.2 k
      have hbit := o_bits hA hlt (by omega)
      rw [hbr] at hbit
      by_cases s : S b = true
      · rw [kAss_t hlt (hbit.mpr s), if_neg (show ¬ S b = false by rw [s]; decide), hc.1.2.2.1.2.2 _ hlt, hbr, nI_1, ih (c + 1) (by omega)]
      · have s' : S b = false := by simpa using s
        rw [kAss_f hlt (fun y => s (hbit.mp y)), if_pos s', ih c (by omega)]
    · simp only [if_neg k, Nat.add_zero] at ih
      have s' : S b = false := by
        cases q : S b with
        | false => rfl
        | true => exact absurd (hS b (by omega) q) k
      rw [if_pos s', ih c (by omega)]
theorem o_assumes {l : Launch} {G : xG} {σ : xS} {D : oMd} {C : oCt} {z w : Nat} {t : Nat → Int32} {g i : Int32} (hw : oIw D C z) (h : oIc D C z t g σ) (hn : w < oNr C) : xM l G yX8_assumes cX8_assumes 3 (Option.some Jvm.ClassFile.FieldType.int) 3 68 [.ref (G.2.1 0), .int (nI w), .int i] σ (oAc D C z t g σ (oAs (oS (oRw C w)) i (w + 1) 0 0)) := by
  obtain ⟨e1, e2⟩ := h.2.2.2.2.1
  refine xM.mono (c_X8_assumes hw.2.1.1.2.1 e1.2.2.1.1 hn hw.2.1.1.2.2.1 e1.2.2.1.2.1) (fun r u e => ?_)
  rw [e.2]
  refine ⟨e.1.trans ?_, h, oKc.rf⟩
  have hg := oWc_g hw.1 hw.2.1 (w + 1) w (by omega) hn
  have k := kAss_e (i := i) hw.2.1 h.2.2.2.2.1 (e1.2.2.2 w hn).1.2.2.1 (fun b _ hb => (hg.2.1 b hb).2) (oNr C) 0 0 (by omega)
  have x := oAs_ext (S := oS (oRw C w)) (i := i) (w + 1) (oNr C - (w + 1)) 0 0 (fun x hx => by
    cases q : oS (oRw C w) x with
    | false => rfl
    | true => have := (hg.2.1 x q).1; omega)
  rw [show w + 1 + (oNr C - (w + 1)) = oNr C by omega] at x
  rw [← x, ← k]
  rfl
theorem o_assumesR {l : Launch} {G : xG} {σ : xS} {D : oMd} {C : oCt} {z w : Nat} {t : Nat → Int32} {g i : Int32} (hw : oIw D C z) (h : oIr D C z t g σ) (hn : w < oNr C) : xM l G yX9_assumes_ cX9_assumes_ 5 (Option.some Jvm.ClassFile.FieldType.int) 1 22 [.ref (G.2.1 37), .int (nI w), .int i] σ (oAri D C z t g σ (oAs (oS (oRw C w)) i (w + 1) 0 0) 0) := by
  have h200 := hw.2.1.1.2.1
  refine xM.mono (c_X9_assumesI h.2.2.1.2.2.1.1 hw.2.1.1.2.1 hn) (fun r u e => ?_)
  rw [e.2]
  refine ⟨e.1.trans ?_, oIr_0 h, oKr.I (by omega), xgI_s _ _ _ _⟩
  rw [qAs_e (w + 1) 0 0 (fun x _ hx => (h.2.2.1.2.2.2 w hn).1.2.2.1 x (by omega))]
theorem o_assumesT {l : Launch} {G : xG} {σ : xS} {D : oMd} {C : oCt} {z : Nat} {x : Int32} {t : Nat → Int32} {g i : Int32} (hw : oIw D C z) (h : oIr D C z t g σ) (hx : ¬ xLt x (oNr C)) : xM l G yX9_assumes_ cX9_assumes_ 5 (Option.some Jvm.ClassFile.FieldType.int) 1 22 [.ref (G.2.1 37), .int x, .int i] σ (oAri D C z t g σ 0 1) :=
  xM.mono (c_X9_assumesT h.2.2.1.2.2.1.1 hw.2.1.1.2.1 hx) (fun r u e => by
    rw [e.2]
    exact ⟨e.1, oIr_0 h, oKr.I (by omega), xgI_s _ _ _ _⟩)
