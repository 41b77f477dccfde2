/-! the reader of the tape, by place and whether it has stopped -/
def oRd (σ : xS) (t : Nat → Int32) (z : Nat) (s : Nat × Bool) : Prop := oTp σ z t ∧ xgI σ 1 2 = nI s.1 ∧ (xgI σ 1 3 = 0 ↔ s.2 = true) ∧ s.1 ≤ z
theorem oTp_1 {σ : xS} {z j : Nat} {t : Nat → Int32} {v : Int32} (h : oTp σ z t) (hj : j ≠ 1) : oTp (xsI σ 1 j v) z t := ⟨(xgI_n (by omega)).trans h.1, fun i hi => (xgI_n (by omega)).trans (h.2 i hi)⟩
theorem tNext_r {σ : xS} {t : Nat → Int32} {z : Nat} {s : Nat × Bool} {a b : Int32} (h : oRd σ t z s) (hz : z ≤ 1000) : (tNext σ a b).1 = nv t z s a b ∧ oRd (tNext σ a b).2 t z (nx t z s a b) ∧ oTf σ (tNext σ a b).2 := by
  obtain ⟨h1, h2, h3, h4⟩ := h
  show _ = (aNx t z s a b).1 ∧ oRd _ t z (aNx t z s a b).2 ∧ _
  unfold tNext aNx
  by_cases c1 : s.2 = true
  · rw [if_pos (h3.mpr c1), if_pos c1]
    exact ⟨rfl, ⟨h1, h2, h3, h4⟩, oTf.rf⟩
  · rw [if_neg (fun y => c1 (h3.mp y)), if_neg c1, h1.1, h2]
    by_cases c2 : z ≤ s.1
    · rw [if_pos (nI_le c2 (by omega)), if_pos c2]
      exact ⟨rfl, ⟨oTp_1 h1 (by omega), (xgI_n (by omega)).trans h2, ⟨fun _ => rfl, fun _ => xgI_s _ _ _ _⟩, h4⟩, oTf.I (by omega)⟩
    · rw [if_neg (nI_ge (by omega) (by omega)), if_neg c2, tAt_n h1 hz (by omega)]
      by_cases c3 : xIn (t s.1) a b = 0
      · rw [if_pos c3, if_pos c3]
        exact ⟨rfl, ⟨oTp_1 h1 (by omega), (xgI_n (by omega)).trans h2, ⟨fun _ => rfl, fun _ => xgI_s _ _ _ _⟩, h4⟩, oTf.I (by omega)⟩
      · rw [if_neg c3, if_neg c3]
        refine ⟨rfl, ⟨oTp_1 h1 (by omega), ?_, ⟨fun y => ?_, fun y => absurd y (show ¬ false = true by decide)⟩, ?_⟩, oTf.I (by omega)⟩
        · rw [xgI_s, nI_1]
        · rw [xgI_n (by omega)] at y
          exact absurd (h3.mp y) c1
        · show s.1 + 1 ≤ z
          omega
theorem oRd_0 {σ : xS} {t : Nat → Int32} {z : Nat} (h : oTp σ z t) : oRd (tRew σ) t z (0, false) := by
  unfold tRew
  exact ⟨oTp_1 (oTp_1 h (by omega)) (by omega), by rw [xgI_n (by omega), xgI_s]; rfl, ⟨fun y => by rw [xgI_s] at y; exact absurd y (by decide), fun y => absurd y (by decide)⟩, Nat.zero_le _⟩
theorem oTf_rew {σ : xS} : oTf σ (tRew σ) := (oTf.I (by omega)).tr (oTf.I (by omega))
theorem oRd_c {σ τ : xS} {t : Nat → Int32} {z : Nat} {s : Nat × Bool} (h : oRd σ t z s) (h1 : ∀ b, xgI τ 1 b = xgI σ 1 b) (h2 : ∀ b, xgI τ 2 b = xgI σ 2 b) : oRd τ t z s := ⟨⟨(h1 1).trans h.1.1, fun i hi => (h2 i).trans (h.1.2 i hi)⟩, (h1 2).trans h.2.1, by rw [h1 3]; exact h.2.2.1, h.2.2.2⟩
theorem tWhole_r {σ : xS} {t : Nat → Int32} {z : Nat} {s : Nat × Bool} (h : oRd σ t z s) (hz : z ≤ 1000) : tWhole σ = 0 ↔ ¬ (s.2 = false ∧ s.1 = z) := by
  obtain ⟨h1, h2, h3, h4⟩ := h
  unfold tWhole
  by_cases c1 : s.2 = true
  · rw [if_pos (h3.mpr c1)]
    exact ⟨fun _ y => by rw [c1] at y; exact absurd y.1 (by decide), fun _ => rfl⟩
  · rw [if_neg (fun y => c1 (h3.mp y)), h1.1, h2]
    have c1' : s.2 = false := by simpa using c1
    by_cases c2 : s.1 = z
    · rw [if_pos (by rw [c2])]
      exact ⟨fun y => absurd y (by decide), fun y => absurd ⟨c1', c2⟩ y⟩
    · rw [if_neg (fun y => c2 ((nI_eq (by omega) (by omega)).mp y))]
      exact ⟨fun _ y => c2 y.2, fun _ => rfl⟩
theorem tSkip_r {σ : xS} {t : Nat → Int32} {z : Nat} {s : Nat × Bool} {a b : Int32} (h : oRd σ t z s) (hz : z ≤ 1000) : ∀ k, oRd (tSkip a b σ k) t z (aIt (fun s => nx t z s a b) k s) ∧ oTf σ (tSkip a b σ k)
  | 0 => ⟨h, oTf.rf⟩
  | k + 1 => by
    obtain ⟨i1, i2⟩ := tSkip_r (a := a) (b := b) h hz k
    obtain ⟨n1, n2, n3⟩ := tNext_r (a := a) (b := b) i1 hz
    rw [aIt_s]
    exact ⟨n2, i2.tr n3⟩
theorem plan_it {t : Nat → Int32} {z : Nat} {a b : Int32} : ∀ k, ((∀ j, j < k → j < z ∧ ¬ xIn (t j) a b = 0) → aIt (fun s => nx t z s a b) k (0, false) = (k, false)) ∧ (¬ (∀ j, j < k → j < z ∧ ¬ xIn (t j) a b = 0) → (aIt (fun s => nx t z s a b) k (0, false)).2 = true)
  | 0 => ⟨fun _ => rfl, fun y => absurd (fun j hj => absurd hj (by omega)) y⟩
  | k + 1 => by
    obtain ⟨i1, i2⟩ := plan_it (t := t) (z := z) (a := a) (b := b) k
    rw [aIt_s]
    by_cases c : ∀ j, j < k → j < z ∧ ¬ xIn (t j) a b = 0
    · rw [i1 c]
      refine ⟨fun y => ?_, fun y => ?_⟩
      · obtain ⟨y1, y2⟩ := y k (by omega)
        show (aNx t z (k, false) a b).2 = _
        unfold aNx
        rw [if_neg (show ¬ false = true by decide), if_neg (by show ¬ z ≤ k; omega), if_neg y2]
      · show (aNx t z (k, false) a b).2.2 = true
        unfold aNx
        rw [if_neg (show ¬ false = true by decide)]
        by_cases d : z ≤ k
        · rw [if_pos d]
        · rw [if_neg d]
          by_cases f : xIn (t k) a b = 0
          · rw [if_pos f]
          · exact absurd (fun j hj => by
              by_cases e : j = k
              · rw [e]; exact ⟨by omega, f⟩
              · exact c j (by omega)) y
    · refine ⟨fun y => absurd (fun j hj => y j (by omega)) c, fun _ => ?_⟩
      have := i2 c
      show (nx t z _ a b).2 = true
      rw [nx_b this]
      exact this
/-! plan -/
def oPg (V z : Nat) (t : Nat → Int32) : Prop := z = V ∧ ∀ j, j < z → ¬ xIn (t j) (-1000000) 1000000 = 0
def oAddP (D : oMd) (t : Nat → Int32) : oMd := (D.1, D.2.1, D.2.2.1, D.2.2.2.1, D.2.2.2.2.1, oNp D + 1, fun p v => if p = oNp D then (if v < oV D then t v else 0) else oPl D p v)
noncomputable def oPlan (D : oMd) (z : Nat) (t : Nat → Int32) : Int32 × oMd := if oV D = 0 then (-4, D) else oIf (oPg (oV D) z t) (if oNp D = 8 then (-5, D) else (nI (oNp D), oAddP D t)) (-3, D)
theorem oAddP_w {D : oMd} {t : Nat → Int32} (h : oWm D) (hp : oNp D < 8) : oWm (oAddP D t) := by
  obtain ⟨⟨v1, v2, v3, v4⟩, w5, w6, w7, w8⟩ := h
  refine ⟨⟨v1, v2, v3, by show oNp D + 1 ≤ 8; omega⟩, w5, w6, fun p v hv => ?_, w8⟩
  show (if p = oNp D then (if v < oV D then t v else 0) else oPl D p v) = 0
  have hv : oV D ≤ v := hv
  split
  · exact if_neg (by omega)
  · exact w7 p v hv
theorem pSk_r {σ : xS} {t : Nat → Int32} {z V : Nat} (h : oTp σ z t) (hz : z ≤ 1000) : oTp (pSk σ V) z t ∧ oTf σ (pSk σ V) ∧ (tWhole (pSk σ V) = 0 ↔ ¬ oPg V z t) := by
  obtain ⟨r1, r2⟩ := tSkip_r (a := -1000000) (b := 1000000) (oRd_0 h) hz V
  refine ⟨r1.1, oTf_rew.tr r2, ?_⟩
  unfold pSk
  rw [tWhole_r r1 hz]
  obtain ⟨p1, p2⟩ := plan_it (t := t) (z := z) (a := -1000000) (b := 1000000) V
  unfold oPg
  by_cases c : ∀ j, j < V → j < z ∧ ¬ xIn (t j) (-1000000) 1000000 = 0
  · rw [p1 c]
    constructor
    · intro y x
      exact y ⟨rfl, x.1.symm⟩
    · intro y x
      have x2 : V = z := x.2
      exact y ⟨x2.symm, fun j hj => (c j (by omega)).2⟩
  · have p3 := p2 c
    constructor
    · intro y x
      exact c (fun j hj => ⟨by omega, x.2 j (by omega)⟩)
    · intro y x
      rw [p3] at x
      exact absurd x.1 (by decide)
theorem pAdd_v {σ : xS} {np V v : Nat} : ∀ n, xgI (pAdd σ np V n) (463 + np) v = if v < n then (if v < V then tAt σ (nI v) else 0) else xgI σ (463 + np) v
  | 0 => by rw [pAdd, if_neg (by omega)]
  | n + 1 => by
    rw [pAdd, xgI_i, pAdd_v n]
    by_cases c : v = n
    · rw [if_pos ⟨rfl, c⟩, if_pos (show v < n + 1 by omega), c]
    · rw [if_neg (fun y => c y.2)]
      by_cases d : v < n
      · rw [if_pos d, if_pos (show v < n + 1 by omega)]
      · rw [if_neg d, if_neg (show ¬ v < n + 1 by omega)]
theorem xsI_22 (σ : xS) (k j : Nat) (v : Int32) : (xsI σ k j v).2 = σ.2 := rfl
theorem pAdd_2 {σ : xS} {np V : Nat} : ∀ n, (pAdd σ np V n).2 = σ.2
  | 0 => rfl
  | n + 1 => by rw [pAdd]; exact pAdd_2 n
theorem o_plan {l : Launch} {G : xG} {σ : xS} {D : oMd} {C : oCt} {z : Nat} {t : Nat → Int32} {g : Int32} (hw : oIw D C z) (h : oIc D C z t g σ) : xM l G yX8_plan cX8_plan 2 (Option.some Jvm.ClassFile.FieldType.int) 4 87 [.ref (G.2.1 0)] σ (oAc (oPlan D z t).2 C 0 t g σ (oPlan D z t).1) := by
  obtain ⟨m0, ⟨b1, b2, b3, b4⟩, b5, b6, b7, b8, b9⟩ := h.2.1
  have v1 := hw.1.1.1
  have v4 := hw.1.1.2.2.2
  obtain ⟨s1, s2, s3⟩ := pSk_r (V := oV D) h.1 hw.2.2
  have z0 : ∀ τ : xS, oTf σ τ → oIc D C 0 t g (xsI τ 1 1 0) ∧ oKc σ (xsI τ 1 1 0) := fun τ hf => by
    have hf2 := hf.tr (oTf.I (σ := τ) (a := 1) (j := 1) (v := 0) (by omega))
    exact ⟨oIc_f hw h hf2 ⟨by rw [xgI_s]; rfl, fun i hi => absurd hi (by omega)⟩, hf2.K⟩
  refine xM.mono (c_X8_plan m0 rfl b1 v1 v4 b8 ⟨z, hw.2.2, h.1.1⟩) (fun r u e => ?_)
  rw [e.2]
  have e1 := e.1
  unfold pTell at e1 ⊢
  unfold oPlan
  by_cases c : oV D = 0
  · rw [if_pos (h.2.2.2.1.mpr c)] at e1 ⊢
    rw [if_pos c]
    exact ⟨e1, z0 σ oTf.rf⟩
  · have c' : ¬ xgI σ 0 3 = 0 := fun y => c (h.2.2.2.1.mp y)
    rw [if_neg c'] at e1 ⊢
    rw [if_neg c]
    by_cases d : oPg (oV D) z t
    · have d' : ¬ tWhole (pSk σ (oV D)) = 0 := fun y => s3.mp y d
      rw [if_neg d'] at e1 ⊢
      rw [oIf_t d]
      by_cases f : oNp D = 8
      · rw [if_pos f] at e1 ⊢
        rw [if_pos f]
        exact ⟨e1, z0 _ s2⟩
      · rw [if_neg f] at e1 ⊢
        rw [if_neg f]
        refine ⟨e1, ?_, ?_⟩
        · have hI := (z0 _ s2).1
          have cc : xgC (pSk σ (oV D)) = xgC σ := s2.C
          have dd : xgD (pSk σ (oV D)) = xgD σ := s2.D
          have k2 : (xsI (pNew (pSk σ (oV D)) (oNp D) (oV D)) 1 1 0).2 = (pSk σ (oV D)).2 := by
            unfold pNew
            rw [xsI_22, xsI_22, pAdd_2]
          have kC : xgC (xsI (pNew (pSk σ (oV D)) (oNp D) (oV D)) 1 1 0) = xgC σ := by
            unfold xgC at cc ⊢
            rw [k2]; exact cc
          have kD : xgD (xsI (pNew (pSk σ (oV D)) (oNp D) (oV D)) 1 1 0) = xgD σ := by
            unfold xgD at dd ⊢
            rw [k2]; exact dd
          have kL : ∀ a b, xgL (xsI (pNew (pSk σ (oV D)) (oNp D) (oV D)) 1 1 0) a b = xgL (pSk σ (oV D)) a b := fun a b => by
            unfold xgL
            rw [k2]
          have kI : ∀ a b, a ≠ 1 → a ≠ 3 → a ≠ 463 + oNp D → xgI (xsI (pNew (pSk σ (oV D)) (oNp D) (oV D)) 1 1 0) a b = xgI (pSk σ (oV D)) a b := fun a b h1 h2 h3 => by
            unfold pNew
            rw [xgI_n (by omega), xgI_n (by omega), pAdd_o _ _ _ _ h3]
          have kP : ∀ p v, p < oNp D → v < 8 → xgI (xsI (pNew (pSk σ (oV D)) (oNp D) (oV D)) 1 1 0) (463 + p) v = oPl D p v := fun p v hp hv => by
            rw [kI _ _ (by omega) (by omega) (by omega), s2.1 _ _ (by omega) (by omega)]
            exact b9 p hp v hv
          obtain ⟨⟨g1, g2⟩, g3, g4, g5, ⟨g6, g7⟩, g8⟩ := h
          have hcb := mC_b m0
          have hFb := mF_b m0
          have hPb := mP_b m0
          have hQb := mQ_b m0
          have kk : ∀ a b, a ≠ 1 → a ≠ 2 → a ≠ 3 → a ≠ 463 + oNp D → xgI (xsI (pNew (pSk σ (oV D)) (oNp D) (oV D)) 1 1 0) a b = xgI σ a b := fun a b h1 h2 h3 h4 => (kI a b h1 h3 h4).trans (s2.1 a b h1 h2)
          have hnr := hw.2.1.1.2.1
          refine ⟨⟨by rw [xgI_s]; rfl, fun i hi => absurd hi (by omega)⟩, ?_, ?_, ?_, ⟨?_, fun y => ?_⟩, ?_⟩
          · rw [kC]
            have hV8 := v1
            have hNN : oN D ≤ 20 := hw.1.1.2.1
            have hMM : oM D ≤ 4 := hw.1.1.2.2.1
            refine ⟨m0, ⟨?_, ?_, ?_, ?_⟩, fun v hv => ⟨?_, ?_, ?_⟩, fun r hr => ⟨fun v hv => ?_, ?_⟩, fun t ht => ⟨?_, ?_, ?_, fun k hk => ⟨?_, ?_⟩⟩, ?_, fun p hp v hv => ?_⟩
            · rw [kk _ _ (by omega) (by omega) (by omega) (by omega)]; exact b1
            · rw [kk _ _ (by omega) (by omega) (by omega) (by omega)]; exact b2
            · rw [kk _ _ (by omega) (by omega) (by omega) (by omega)]; exact b3
            · rw [kk _ _ (by omega) (by omega) (by omega) (by omega)]; exact b4
            · rw [kk _ _ (by omega) (by omega) (by omega) (by omega)]; exact (b5 v hv).1
            · rw [kk _ _ (by omega) (by omega) (by omega) (by omega)]; exact (b5 v hv).2.1
            · rw [kk _ _ (by omega) (by omega) (by omega) (by omega)]; exact (b5 v hv).2.2
            · have hr : r < oN D := hr
              rw [kk _ _ (by omega) (by omega) (by omega) (by omega)]; exact (b6 r hr).1 v hv
            · rw [kk _ _ (by omega) (by omega) (by omega) (by omega)]; exact (b6 r hr).2
            · rw [kk _ _ (by omega) (by omega) (by omega) (by omega)]; exact (b7 t ht).1
            · rw [kk _ _ (by omega) (by omega) (by omega) (by omega)]; exact (b7 t ht).2.1
            · rw [kk _ _ (by omega) (by omega) (by omega) (by omega)]; exact (b7 t ht).2.2.1
            · have ht : t < oM D := ht
              rw [kk _ _ (by omega) (by omega) (by omega) (by omega)]; exact ((b7 t ht).2.2.2 k hk).1
            · have ht : t < oM D := ht
              rw [kk _ _ (by omega) (by omega) (by omega) (by omega)]; exact ((b7 t ht).2.2.2 k hk).2
            · unfold pNew
              rw [xgI_n (by omega), xgI_s]; rfl
            · have hp : p < oNp D + 1 := hp
              show _ = if p = oNp D then (if v < oV D then t v else 0) else oPl D p v
              by_cases c1 : p = oNp D
              · rw [if_pos c1, c1]
                unfold pNew
                rw [xgI_n (by omega), xgI_n (by omega), pAdd_v, if_pos hv]
                by_cases c2 : v < oV D
                · rw [if_pos c2, if_pos c2, tAt_n s1 hw.2.2 (by have := d.1; omega)]
                · rw [if_neg c2, if_neg c2]
              · rw [if_neg c1]
                exact kP p v (by omega) hv
          · rw [kC, kD]; exact g4
          · rw [kk _ _ (by omega) (by omega) (by omega) (by omega)]; exact g5
          · exact oCn_c hnr g6 (fun b _ => kk _ _ (by omega) (by omega) (by omega) (by omega)) (fun b => kk _ _ (by omega) (by omega) (by omega) (by omega)) (fun b => kk _ _ (by omega) (by omega) (by omega) (by omega)) (fun b => kk _ _ (by omega) (by omega) (by omega) (by omega)) (fun r b _ => kk _ _ (by omega) (by omega) (by omega) (by omega)) (fun r b _ => (kL _ _).trans (s2.L _ _)) (fun r b _ => (kL _ _).trans (s2.L _ _))
          · obtain ⟨x1, x2⟩ := g7 y
            exact ⟨(kk _ _ (by omega) (by omega) (by omega) (by omega)).trans x1, fun i hi => (kk _ _ (by omega) (by omega) (by omega) (by omega)).trans (x2 i hi)⟩
          · rw [kk _ _ (by omega) (by omega) (by omega) (by omega)]; exact g8
        · refine ⟨fun a b h1 h2 => ?_, fun a b _ _ => ?_⟩
          · unfold pNew
            rw [xgI_n (by omega), xgI_n (by omega), pAdd_o _ _ _ _ (by omega)]
            exact s2.1 a b (by omega) (by omega)
          · have k2 : (xsI (pNew (pSk σ (oV D)) (oNp D) (oV D)) 1 1 0).2 = (pSk σ (oV D)).2 := by
              unfold pNew
              rw [xsI_22, xsI_22, pAdd_2]
            rw [← s2.L a b]
            unfold xgL
            rw [k2]
    · rw [if_pos (s3.mpr d)] at e1 ⊢
      rw [oIf_f d]
      exact ⟨e1, z0 _ s2⟩
theorem qPl_v {σ : xS} {np i : Nat} : ∀ k, xgI (qPl σ np k) 49 i = if 8 * np ≤ i ∧ i < 8 * np + k then xgI σ 38 (i - 8 * np) else xgI σ 49 i
  | 0 => by rw [qPl, qPz_o (by omega), if_neg (by omega)]
  | k + 1 => by
    rw [qPl, xgI_i, qPl_v k]
    by_cases c : i = 8 * np + k
    · rw [if_pos ⟨rfl, c⟩, if_pos (by omega), c, show 8 * np + k - 8 * np = k by omega]
    · rw [if_neg (by omega)]
      by_cases d : 8 * np ≤ i ∧ i < 8 * np + k
      · rw [if_pos d, if_pos (by omega)]
      · rw [if_neg d, if_neg (by omega)]
theorem qPl_2 {σ : xS} {np : Nat} : ∀ k, (qPl σ np k).2 = σ.2
  | 0 => rfl
  | k + 1 => by rw [qPl]; exact qPl_2 k
theorem o_planR {l : Launch} {G : xG} {σ : xS} {D : oMd} {C : oCt} {z : Nat} {t : Nat → Int32} {g : Int32} (hw : oIw D C z) (h : oIr D C z t g σ) : xM l G yX9_plan cX9_plan 4 (Option.some Jvm.ClassFile.FieldType.int) 1 22 [.ref (G.2.1 37)] σ (oAr (oPlan D z t).2 C 0 t g σ (oPlan D z t).1) := by
  obtain ⟨⟨b1, b2, b3, b4⟩, b5, b6, b7, b8, b9⟩ := h.2.1
  have v1 := hw.1.1.1
  have v4 := hw.1.1.2.2.2
  have hpg : ∀ V, qPg σ z V z ↔ oPg V z t := fun V => by
    unfold qPg oPg
    constructor
    · rintro ⟨y1, y2⟩
      exact ⟨y1, fun j hj => by rw [← h.1.2 j]; exact y2 j hj⟩
    · rintro ⟨y1, y2⟩
      exact ⟨y1, fun j hj => by rw [h.1.2 j]; exact y2 j hj⟩
  unfold oPlan
  by_cases c : oV D = 0
  · rw [if_pos c]
    refine xM.mono (c_X9_planS h.1.1 (by rw [b1, c])) (fun r u e => ?_)
    rw [e.2]
    exact ⟨e.1, oIr_z h, oKr_z⟩
  · rw [if_neg c]
    by_cases d : oPg (oV D) z t
    · rw [oIf_t d]
      by_cases f : oNp D = 8
      · rw [if_pos f]
        refine xM.mono (c_X9_planR h.1.1 hw.2.2 b1 v1 (by omega) ((hpg _).mpr d) (by rw [b8, f])) (fun r u e => ?_)
        rw [e.2]
        exact ⟨e.1, oIr_z h, oKr_z⟩
      · rw [if_neg f]
        refine xM.mono (c_X9_plan (np := oNp D) h.1.1 hw.2.2 b1 v1 (by omega) ((hpg _).mpr d) b8 (by omega)) (fun r u e => ?_)
        rw [e.2]
        have kI : ∀ a b, a ≠ 49 → ¬ (a = 37 ∧ (b = 0 ∨ b = 2 ∨ b = 17)) → xgI (xsI (qPl σ (oNp D) z) 37 17 (nI (oNp D + 1))) a b = xgI σ a b := fun a b h1 h2 => by
          rw [xgI_n (by omega), qPl_o b h1]
          unfold qPz
          rw [xgI_n (by omega), xgI_n (by omega)]
        have k2 : (xsI (qPl σ (oNp D) z) 37 17 (nI (oNp D + 1))).2 = σ.2 := by rw [xsI_22, qPl_2]
        refine ⟨e.1, ⟨⟨?_, fun i => (kI _ _ (by omega) (by omega)).trans (h.1.2 i)⟩, ⟨⟨?_, ?_, ?_, ?_⟩, fun v hv => ⟨?_, ?_, ?_⟩, fun r hr => ⟨fun v hv => ?_, ?_⟩, fun t ht => ⟨?_, ?_, ?_, fun k hk => ⟨?_, ?_⟩⟩, ?_, fun p hp v hv => ?_⟩, ?_, ?_⟩, ⟨fun a b hab => kI a b (by omega) (by omega), fun a b _ => by unfold xgL; rw [k2], by unfold xgC; rw [k2], by unfold xgD; rw [k2]⟩⟩
        · rw [xgI_n (by omega), qPl_o _ (by omega)]
          unfold qPz
          rw [xgI_s]; rfl
        · rw [kI _ _ (by omega) (by omega)]; exact b1
        · rw [kI _ _ (by omega) (by omega)]; exact b2
        · rw [kI _ _ (by omega) (by omega)]; exact b3
        · rw [kI _ _ (by omega) (by omega)]; exact b4
        · rw [kI _ _ (by omega) (by omega)]; exact (b5 v hv).1
        · rw [kI _ _ (by omega) (by omega)]; exact (b5 v hv).2.1
        · rw [kI _ _ (by omega) (by omega)]; exact (b5 v hv).2.2
        · rw [kI _ _ (by omega) (by omega)]; exact (b6 r hr).1 v hv
        · rw [kI _ _ (by omega) (by omega)]; exact (b6 r hr).2
        · rw [kI _ _ (by omega) (by omega)]; exact (b7 t ht).1
        · rw [kI _ _ (by omega) (by omega)]; exact (b7 t ht).2.1
        · rw [kI _ _ (by omega) (by omega)]; exact (b7 t ht).2.2.1
        · rw [kI _ _ (by omega) (by omega)]; exact ((b7 t ht).2.2.2 k hk).1
        · rw [kI _ _ (by omega) (by omega)]; exact ((b7 t ht).2.2.2 k hk).2
        · rw [xgI_s]; rfl
        · have hp : p < oNp D + 1 := hp
          have hv : v < oV D := hv
          have dz := d.1
          show _ = if p = oNp D then (if v < oV D then t v else 0) else oPl D p v
          rw [xgI_n (by omega), qPl_v]
          by_cases c1 : p = oNp D
          · rw [if_pos c1, if_pos hv, if_pos (by omega), c1, show 8 * oNp D + v - 8 * oNp D = v by omega]
            exact h.1.2 v
          · rw [if_neg c1, if_neg (by omega)]
            exact b9 p (by omega) v hv
        · exact oRc_c h.2.2.1 (fun a b hab => kI a b (by omega) (by omega)) (fun a b _ _ => by unfold xgL; rw [k2])
        · rw [kI _ _ (by omega) (by omega)]; exact h.2.2.2
    · rw [oIf_f d]
      refine xM.mono (c_X9_planO h.1.1 hw.2.2 b1 v1 (by omega) (fun y => d ((hpg _).mp y))) (fun r u e => ?_)
      rw [e.2]
      exact ⟨e.1, oIr_z h, oKr_z⟩
