
/-! WHAT HOLDS BETWEEN THE CALLS, and that it does at first -/
theorem oPars_b {t : Nat → Int32} {z : Nat} : oWb (oPars t z) := fun v => by
  show -100 ≤ jCo t z (gV t z) (g1 t z) v ∧ jCo t z (gV t z) (g1 t z) v ≤ 100
  unfold jCo
  split
  · exact aNx_v (by decide)
  · exact ⟨by decide, by decide⟩
theorem oPars_0 {t : Nat → Int32} {z : Nat} : oW0 (oPars t z) := fun h => absurd (show gV t z = 0 from h) (by have := (gV_n t z).2.1; omega)
theorem oMD_b {D : oMd} {t : Nat → Int32} {z : Nat} (h : oWb D) : oWb (oMD D t z) := by unfold oMD; split; exact h; exact oPars_b
theorem oMD_0 {D : oMd} {t : Nat → Int32} {z : Nat} (h : oW0 D) : oW0 (oMD D t z) := by unfold oMD; split; exact h; exact oPars_0
theorem oAddP_p {D : oMd} {t : Nat → Int32} {j : Nat} (h : ¬ j = oNp D) : oPl (oAddP D t) j = oPl D j := by
  funext v
  exact if_neg h
theorem oAddP_g {D : oMd} {t : Nat → Int32} {x : Int32} (h : oGood D x) : oGood (oAddP D t) x := by
  obtain ⟨j, h1, h2, h3⟩ := h
  refine ⟨j, Nat.lt_succ_of_lt h1, h2, ?_⟩
  have e : oPl (oAddP D t) j = oPl D j := oAddP_p (by omega)
  have eb : oBrk (oAddP D t) j = oBrk D j := by
    unfold oBrk oBrR oBrT oHas
    rw [e]
    rfl
  rw [eb]
  exact h3
theorem dFltG_up {g g' : Prop} {nr nb V N M : Nat} {m x : Int32} (hg : g → g') (h : dFltG g nr nb V N M m x = 0) : dFltG g' nr nb V N M m x = 0 := by
  unfold dFltG at h ⊢
  by_cases a0 : m = 0
  · rw [if_pos a0] at h ⊢; exact h
  rw [if_neg a0] at h ⊢
  by_cases a1 : m = 1
  · rw [if_pos a1] at h ⊢; exact h
  rw [if_neg a1] at h ⊢
  by_cases a2 : m = 2
  · rw [if_pos a2] at h ⊢; exact h
  rw [if_neg a2] at h ⊢
  by_cases a3 : m = 3
  · rw [if_pos a3] at h ⊢; exact h
  rw [if_neg a3] at h ⊢
  by_cases a4 : m = 4
  · rw [if_pos a4] at h ⊢; exact h
  rw [if_neg a4] at h ⊢
  by_cases a5 : m = 5
  · rw [if_pos a5] at h ⊢; exact h
  rw [if_neg a5] at h ⊢
  by_cases a6 : m = 6
  · rw [if_pos a6] at h ⊢; exact h
  rw [if_neg a6] at h ⊢
  by_cases a7 : m = 7
  · rw [if_pos a7] at h ⊢; exact h
  rw [if_neg a7] at h ⊢
  by_cases a8 : m = 8
  · rw [if_pos a8] at h ⊢; exact h
  rw [if_neg a8] at h ⊢
  by_cases a9 : m = 9
  · rw [if_pos a9] at h ⊢; exact h
  rw [if_neg a9] at h ⊢
  by_cases a10 : m = 10
  · rw [if_pos a10] at h ⊢; exact h
  rw [if_neg a10] at h ⊢
  unfold xD at h ⊢
  by_cases c : g
  · exact if_pos (hg c)
  · rw [if_neg c] at h
    exact absurd h (by decide)
theorem oAddP_f {D : oMd} {t : Nat → Int32} {nr nb k : Nat} {p0 x : Int32} (h : oFlt D nr nb p0 k x = 0) : oFlt (oAddP D t) nr nb p0 k x = 0 := dFltG_up oAddP_g h
theorem oMake_a {D : oMd} {t : Nat → Int32} {R : Nat → oRow} {p : Nat → Int32} (h : oNn p 0 = 8 → ¬ oNn p 1 = oNp D) : oMake (oAddP D t) R p = oMake D R p := by
  by_cases h8 : oNn p 0 = 8
  · have e : oBet (oAddP D t) (oNn p 1) = oBet D (oNn p 1) := by
      unfold oBet oCst
      rw [oAddP_p (h h8)]
      rfl
    unfold oMake
    simp only [h8]
    rw [e]
    rfl
  · unfold oMake
    rw [if_neg h8, if_neg h8]
    rfl
theorem oGood8 {D : oMd} {nr nb : Nat} {p : Nat → Int32} (hr : nr ≤ 200) (hp : oNp D ≤ 8) (h : ∀ k, k < oLen p → oFlt D nr nb (p 0) k (p k) = 0) (h8 : oNn p 0 = 8) : ¬ oNn p 1 = oNp D := by
  have hlen : 1 < oLen p := by
    unfold oLen
    rw [h8]
    show 1 < 2
    decide
  have h0 := h 0 (by omega)
  rw [oFlt_0] at h0
  obtain ⟨⟨q, hq, e, -⟩, -⟩ := dKind_0 h0 hr
  have hq8 : q = 8 := by
    have : oNn p 0 = q := by unfold oNn; rw [e, nI_clamp (by omega)]
    omega
  subst hq8
  have h1 := h 1 hlen
  rw [e, oFlt_m (q := 8) (c := 11) (by decide) (by decide) (by decide) (by decide)] at h1
  have hg : oGood D (p 1) := by
    apply Classical.byContradiction
    intro c
    have h1 : xD (oGood D (p 1)) 4 = 0 := h1
    unfold xD at h1
    rw [if_neg c] at h1
    exact absurd h1 (by decide)
  obtain ⟨j, j1, j2, -⟩ := hg
  unfold oNn
  rw [j2]
  intro z
  rw [nI_clamp (by omega)] at z
  omega
theorem oAddP_c {D : oMd} {C : oCt} {t : Nat → Int32} (hp : oNp D ≤ 8) (h : oWc D C) : oWc (oAddP D t) C := by
  refine ⟨h.1, h.2.1, h.2.2.1, fun r hr => ?_, fun h0 => ⟨fun k hk => oAddP_f ((h.2.2.2.2 h0).1 k hk), (h.2.2.2.2 h0).2⟩⟩
  obtain ⟨a1, a2, ⟨b1, b2, b3, b4⟩, a4⟩ := h.2.2.2.1 r hr
  have e : oMake (oAddP D t) (oRw C) (oPr C r) = oMake D (oRw C) (oPr C r) := oMake_a (oGood8 (nr := r) (by have := h.1.2.1; omega) hp b1)
  exact ⟨a1, a2, ⟨fun k hk => oAddP_f (b1 k hk), by rw [e]; exact b2, by rw [e]; exact b3, by rw [e]; exact b4⟩, a4⟩
theorem oPlan_c {D : oMd} {z : Nat} {t : Nat → Int32} (hp : oNp D ≤ 8) : (oPlan D z t).2 = D ∨ (oNp D < 8 ∧ (oPlan D z t).2 = oAddP D t) := by
  unfold oPlan
  split
  · exact Or.inl rfl
  · by_cases c : oPg (oV D) z t
    · rw [oIf_t c]
      split
      · exact Or.inl rfl
      · exact Or.inr ⟨by omega, rfl⟩
    · rw [oIf_f c]
      exact Or.inl rfl
/-- between two calls -/
def oI (σ : xS) : Prop := ∃ (D : oMd) (C : oCt) (z : Nat) (t : Nat → Int32) (g : Int32), oIw D C z ∧ (oW0 D ∧ oWb D ∧ oW1 D C ∧ (¬ g = 0 → oRf C 300 = 1)) ∧ oIc D C z t g σ ∧ oIr D C z t g σ
def oD0 : oMd := ((0, 0, 0), (fun _ => 0, fun _ => 0, fun _ => 0), (fun _ _ => 0, fun _ => 0), (fun _ => 0, fun _ => 0, fun _ => 0, fun _ _ => 0, fun _ _ => 0), 0, 0, fun _ _ => 0)
def oC0 : oCt := ((0, fun _ => 0), (0, -1, -1), (0, 0), (fun i => if i = 300 then 0 else 1), (fun _ => 0), (fun _ => oNil), (fun _ _ => 0))
theorem oD0_w : oWm oD0 := ⟨⟨by decide, by decide, by decide, by decide⟩, fun _ _ => ⟨rfl, rfl, rfl⟩, fun _ _ _ => rfl, fun _ _ _ => rfl, fun t ht => absurd ht (Nat.not_lt_zero t)⟩
theorem oC0_w : oWc oD0 oC0 := by
  refine ⟨⟨by decide, by decide, by decide, rfl, rfl⟩, fun _ => ⟨rfl, rfl⟩, fun h => absurd h (by decide), fun r hr => absurd hr (Nat.not_lt_zero r), fun _ => ⟨fun k hk => absurd hk (Nat.not_lt_zero k), fun h => absurd h.1 (by decide)⟩⟩
theorem oI_first : oI y0 := by
  refine ⟨oD0, oC0, 0, fun _ => 0, 0, ⟨oD0_w, oC0_w, by decide⟩, ⟨fun _ => ⟨rfl, rfl⟩, fun v => (show (-100 : Int32) ≤ 0 ∧ (0 : Int32) ≤ 100 by decide), fun h => absurd rfl h, fun h => absurd rfl h⟩, ?_, ?_⟩
  · refine ⟨⟨rfl, fun i hi => absurd hi (Nat.not_lt_zero i)⟩, ⟨Or.inl rfl, ⟨rfl, rfl, rfl, rfl⟩, fun v hv => ⟨rfl, rfl, rfl⟩, fun r hr => absurd hr (Nat.not_lt_zero r), fun t ht => absurd ht (Nat.not_lt_zero t), rfl, fun p hp => absurd hp (Nat.not_lt_zero p)⟩, ⟨Or.inr rfl, by decide⟩, ⟨fun _ => rfl, fun _ => rfl⟩, ⟨⟨⟨rfl, rfl, rfl, rfl⟩, fun i hi => absurd hi (Nat.not_lt_zero i), ⟨rfl, rfl, fun i hi => absurd hi (Nat.not_lt_zero i)⟩, fun r hr => absurd hr (Nat.not_lt_zero r)⟩, fun _ => ⟨rfl, fun i hi => absurd hi (Nat.not_lt_zero i)⟩⟩, rfl⟩
  · refine ⟨⟨rfl, fun i => rfl⟩, ⟨⟨rfl, rfl, rfl, rfl⟩, fun v hv => absurd hv (Nat.not_lt_zero v), fun r hr => absurd hr (Nat.not_lt_zero r), fun t ht => absurd ht (Nat.not_lt_zero t), rfl, fun p hp => absurd hp (Nat.not_lt_zero p)⟩, ⟨⟨rfl, rfl, rfl, rfl⟩, fun i hi => absurd hi (Nat.not_lt_zero i), ⟨rfl, rfl, rfl⟩, fun r hr => absurd hr (Nat.not_lt_zero r)⟩, rfl⟩
/-- when all is made, the heap holds the first state -/
theorem yH_x {D : va_G} {cs : Nat → ClassId} {n0 : Nat} {B : Nat → va_E} {H : Heap} (h : yH D n0 527 B H) (e : ∀ x, x < 527 → B x = yF D cs n0 x) : xH (yG D cs n0) y0 H := by
  intro k q hq
  have hk := (List.getElem?_eq_some_iff.mp hq).1
  rw [xwl_len] at hk
  rw [xwl_at hk] at hq
  cases hq
  obtain ⟨h1, h2⟩ := ycof_off k hk
  have := h.2 (yoff k) h2
  rw [e _ h2] at this
  unfold yF at this
  rw [h1] at this
  exact this
