/-! put -/
def oTp (σ : xS) (z : Nat) (t : Nat → Int32) : Prop := xgI σ 1 1 = nI z ∧ ∀ i, i < z → xgI σ 2 i = t i
/-- nothing but the tape has changed -/
def oTf (σ τ : xS) : Prop := (∀ a b, a ≠ 1 → a ≠ 2 → xgI τ a b = xgI σ a b) ∧ τ.2 = σ.2
theorem oTf.rf {σ : xS} : oTf σ σ := ⟨fun _ _ _ _ => rfl, rfl⟩
theorem oTf.tr {σ τ ρ : xS} (h : oTf σ τ) (k : oTf τ ρ) : oTf σ ρ := ⟨fun a b h1 h2 => (k.1 a b h1 h2).trans (h.1 a b h1 h2), k.2.trans h.2⟩
theorem oTf.L {σ τ : xS} (h : oTf σ τ) (a b : Nat) : xgL τ a b = xgL σ a b := by unfold xgL; rw [h.2]
theorem oTf.C {σ τ : xS} (h : oTf σ τ) : xgC τ = xgC σ := by unfold xgC; rw [h.2]
theorem oTf.D {σ τ : xS} (h : oTf σ τ) : xgD τ = xgD σ := by unfold xgD; rw [h.2]
theorem oTf.I {σ : xS} {a j : Nat} {v : Int32} (h : a = 1 ∨ a = 2) : oTf σ (xsI σ a j v) := ⟨fun _ _ h1 h2 => xgI_n (by omega), rfl⟩
theorem oTf.K {σ τ : xS} (h : oTf σ τ) : oKc σ τ := ⟨fun a b h1 h2 => h.1 a b (by omega) (by omega), fun a b _ _ => h.L a b⟩
theorem oIc_f {D : oMd} {C : oCt} {z z' : Nat} {t t' : Nat → Int32} {g : Int32} {σ τ : xS} (hw : oIw D C z) (h : oIc D C z t g σ) (hf : oTf σ τ) (hT : oTp τ z' t') : oIc D C z' t' g τ := oIc_t hw h (fun a b h1 h2 _ => hf.1 a b h1 h2) (fun a b _ => hf.L a b) hf.C hf.D hT.1 hT.2
theorem tApp {σ : xS} {z : Nat} {t : Nat → Int32} {x : Int32} (h : oTp σ z t) (hz : z < 1000) : oTp (tAppend σ x) (z + 1) (fun i => if i = z then x else t i) ∧ oTf σ (tAppend σ x) := by
  have e : tAppend σ x = xsI (xsI σ 2 z x) 1 1 (nI (z + 1)) := by
    unfold tAppend
    rw [h.1, if_neg (nI_pos (by omega)), if_neg (show ¬ (1000 : Int32) ≤ nI z from nI_ge (b := 1000) hz (by omega)), nI_clamp (by omega), xgI_n (by omega), h.1, nI_1]
  rw [e]
  refine ⟨⟨by rw [xgI_s], fun i hi => ?_⟩, (oTf.I (by omega)).tr (oTf.I (by omega))⟩
  rw [xgI_n (by omega), xgI_i]
  by_cases c : i = z
  · rw [if_pos ⟨rfl, c⟩]; show x = if i = z then x else t i; rw [if_pos c]
  · rw [if_neg (fun y => c y.2), h.2 i (by omega)]; show t i = if i = z then x else t i; rw [if_neg c]
theorem oTp_e {σ : xS} {z z' : Nat} {t t' : Nat → Int32} (h : oTp σ z t) (hz : z = z') (ht : ∀ i, i < z' → t i = t' i) : oTp σ z' t' := by
  subst hz
  exact ⟨h.1, fun i hi => (h.2 i hi).trans (ht i hi)⟩
def oPt (z m : Nat) (t : Nat → Int32) (a b c d : Int32) : Nat → Int32 := fun i => if z ≤ i ∧ i < z + m then qSel a b c d (i - z) else t i
/-- what put answers, and the tape behind it -/
def oPu (z : Nat) (t : Nat → Int32) (n a b c d : Int32) : Int32 × Nat × (Nat → Int32) := if xIn n 1 4 = 0 then (-3, z, t) else if 1000 < z + n.toNatClampNeg then (-5, z, t) else (nI (z + n.toNatClampNeg), z + n.toNatClampNeg, oPt z n.toNatClampNeg t a b c d)
theorem xIn_14 {n : Int32} (h : ¬ xIn n 1 4 = 0) : ∃ m, 1 ≤ m ∧ m ≤ 4 ∧ n = nI m := by
  obtain ⟨h1, h2⟩ := xIn_1 h
  obtain ⟨j, h3, h4⟩ := nI_of2 (n := 4) (by decide) (fun z => h1 (Int32.lt_of_lt_of_le z (by decide))) (xi32_nlt.mp h2)
  refine ⟨j, ?_, h3, h4⟩
  by_cases e : j = 0
  · subst e
    rw [h4] at h1
    exact absurd (by decide) h1
  · omega
theorem xIn_nI {n a b : Nat} (hb : b < 2 ^ 31) (h1 : a ≤ n) (h2 : n ≤ b) : ¬ xIn (nI n) (nI a) (nI b) = 0 := by
  unfold xIn
  rw [if_neg (nI_nlt h1 (by omega)), if_neg (nI_nlt h2 hb)]
  decide
theorem oPu_w {z : Nat} {t : Nat → Int32} {n a b c d : Int32} (hz : z ≤ 1000) : (oPu z t n a b c d).2.1 ≤ 1000 := by
  unfold oPu
  split
  · exact hz
  · split
    · exact hz
    · show z + n.toNatClampNeg ≤ 1000
      omega
theorem pPut_e {σ : xS} {z : Nat} {t : Nat → Int32} {n a b c d : Int32} (hz : z ≤ 1000) (h : oTp σ z t) : (pPut σ n a b c d).1 = (oPu z t n a b c d).1 ∧ oTp (pPut σ n a b c d).2 (oPu z t n a b c d).2.1 (oPu z t n a b c d).2.2 ∧ oTf σ (pPut σ n a b c d).2 := by
  unfold oPu
  by_cases e1 : xIn n 1 4 = 0
  · rw [if_pos e1]
    have : pPut σ n a b c d = (-3, σ) := by
      unfold pPut
      by_cases c1 : n < 1
      · rw [if_pos c1]
      · rw [if_neg c1]
        by_cases c2 : n ≤ 4
        · unfold xIn at e1
          rw [if_neg c1, if_neg (xi32_nlt.mpr c2)] at e1
          exact absurd e1 (by decide)
        · rw [if_neg c2]
    rw [this]
    exact ⟨rfl, h, oTf.rf⟩
  · rw [if_neg e1]
    obtain ⟨m, m1, m2, e⟩ := xIn_14 e1
    subst e
    rw [nI_clamp (by omega)]
    have n1 : ¬ nI m < 1 := nI_nlt (a := m) (b := 1) m1 (by omega)
    have n4 : nI m ≤ 4 := nI_le (a := m) (b := 4) m2 (by omega)
    have hroom : tRoom σ (nI m) = if 1000 < z + m then 0 else 1 := by
      unfold tRoom
      rw [h.1, show (1000 : Int32) - nI z = nI (1000 - z) from nI_sub2 (a := 1000 - z) (b := z) (c := 1000) (by omega)]
      by_cases c : 1000 < z + m
      · rw [if_pos c, if_pos (nI_lt (by omega) (by omega))]
      · rw [if_neg c, if_neg (nI_nlt (by omega) (by omega))]
    by_cases e2 : 1000 < z + m
    · rw [if_pos e2]
      have : pPut σ (nI m) a b c d = (-5, σ) := by
        unfold pPut
        rw [if_neg n1, if_pos n4, hroom, if_pos e2, if_pos rfl]
      rw [this]
      exact ⟨rfl, h, oTf.rf⟩
    · rw [if_neg e2]
      have key : ∃ τ, pPut σ (nI m) a b c d = (xgI τ 1 1, τ) ∧ oTp τ (z + m) (oPt z m t a b c d) ∧ oTf σ τ := by
        have hr0 : ¬ tRoom σ (nI m) = 0 := by rw [hroom, if_neg e2]; decide
        obtain ⟨t1, f1⟩ := tApp (x := a) h (by omega)
        unfold pPut
        rw [if_neg n1, if_pos n4, if_neg hr0]
        rcases (show m = 1 ∨ m = 2 ∨ m = 3 ∨ m = 4 by omega) with e | e | e | e <;> subst e
        · rw [if_pos (show nI 1 ≤ 3 by decide), if_pos (show nI 1 ≤ 2 by decide), if_pos (show nI 1 ≤ 1 by decide)]
          refine ⟨_, rfl, oTp_e t1 rfl (fun i hi => ?_), f1⟩
          show (if i = z then a else t i) = if z ≤ i ∧ i < z + 1 then qSel a b c d (i - z) else t i
          by_cases c1 : i = z
          · rw [if_pos c1, if_pos (by omega), c1, Nat.sub_self]; rfl
          · rw [if_neg c1, if_neg (by omega)]
        · obtain ⟨t2, f2⟩ := tApp (x := b) t1 (by omega)
          rw [if_pos (show nI 2 ≤ 3 by decide), if_pos (show nI 2 ≤ 2 by decide), if_neg (show ¬ nI 2 ≤ 1 by decide)]
          refine ⟨_, rfl, oTp_e t2 rfl (fun i hi => ?_), f1.tr f2⟩
          show (if i = z + 1 then b else if i = z then a else t i) = if z ≤ i ∧ i < z + 2 then qSel a b c d (i - z) else t i
          by_cases c2 : i = z + 1
          · rw [if_pos c2, if_pos (by omega), c2, show z + 1 - z = 1 by omega]; rfl
          · by_cases c1 : i = z
            · rw [if_neg c2, if_pos c1, if_pos (by omega), c1, Nat.sub_self]; rfl
            · rw [if_neg c2, if_neg c1, if_neg (by omega)]
        · obtain ⟨t2, f2⟩ := tApp (x := b) t1 (by omega)
          obtain ⟨t3, f3⟩ := tApp (x := c) t2 (by omega)
          rw [if_pos (show nI 3 ≤ 3 by decide), if_neg (show ¬ nI 3 ≤ 2 by decide), if_neg (show ¬ nI 3 ≤ 1 by decide)]
          refine ⟨_, rfl, oTp_e t3 rfl (fun i hi => ?_), (f1.tr f2).tr f3⟩
          show (if i = z + 1 + 1 then c else if i = z + 1 then b else if i = z then a else t i) = if z ≤ i ∧ i < z + 3 then qSel a b c d (i - z) else t i
          by_cases c3 : i = z + 1 + 1
          · rw [if_pos c3, if_pos (by omega), c3, show z + 1 + 1 - z = 2 by omega]; rfl
          · by_cases c2 : i = z + 1
            · rw [if_neg c3, if_pos c2, if_pos (by omega), c2, show z + 1 - z = 1 by omega]; rfl
            · by_cases c1 : i = z
              · rw [if_neg c3, if_neg c2, if_pos c1, if_pos (by omega), c1, Nat.sub_self]; rfl
              · rw [if_neg c3, if_neg c2, if_neg c1, if_neg (by omega)]
        · obtain ⟨t2, f2⟩ := tApp (x := b) t1 (by omega)
          obtain ⟨t3, f3⟩ := tApp (x := c) t2 (by omega)
          obtain ⟨t4, f4⟩ := tApp (x := d) t3 (by omega)
          rw [if_neg (show ¬ nI 4 ≤ 3 by decide), if_neg (show ¬ nI 4 ≤ 2 by decide), if_neg (show ¬ nI 4 ≤ 1 by decide)]
          refine ⟨_, rfl, oTp_e t4 rfl (fun i hi => ?_), ((f1.tr f2).tr f3).tr f4⟩
          show (if i = z + 1 + 1 + 1 then d else if i = z + 1 + 1 then c else if i = z + 1 then b else if i = z then a else t i) = if z ≤ i ∧ i < z + 4 then qSel a b c d (i - z) else t i
          by_cases c4 : i = z + 1 + 1 + 1
          · rw [if_pos c4, if_pos (by omega), c4, show z + 1 + 1 + 1 - z = 3 by omega]; rfl
          · by_cases c3 : i = z + 1 + 1
            · rw [if_neg c4, if_pos c3, if_pos (by omega), c3, show z + 1 + 1 - z = 2 by omega]; rfl
            · by_cases c2 : i = z + 1
              · rw [if_neg c4, if_neg c3, if_pos c2, if_pos (by omega), c2, show z + 1 - z = 1 by omega]; rfl
              · by_cases c1 : i = z
                · rw [if_neg c4, if_neg c3, if_neg c2, if_pos c1, if_pos (by omega), c1, Nat.sub_self]; rfl
                · rw [if_neg c4, if_neg c3, if_neg c2, if_neg c1, if_neg (by omega)]
      obtain ⟨τ, k1, k2, k3⟩ := key
      rw [k1]
      exact ⟨k2.1, k2, k3⟩
theorem o_put {l : Launch} {G : xG} {σ : xS} {D : oMd} {C : oCt} {z : Nat} {t : Nat → Int32} {g n a b c d : Int32} (hw : oIw D C z) (h : oIc D C z t g σ) : xM l G yX8_put cX8_put 6 (Option.some Jvm.ClassFile.FieldType.int) 1 21 [.ref (G.2.1 0), .int n, .int a, .int b, .int c, .int d] σ (oAc D C (oPu z t n a b c d).2.1 (oPu z t n a b c d).2.2 g σ (oPu z t n a b c d).1) :=
  xM.mono c_X8_put (fun r u e => by
    obtain ⟨k1, k2, k3⟩ := pPut_e (n := n) (a := a) (b := b) (c := c) (d := d) hw.2.2 h.1
    rw [e.2]
    exact ⟨by rw [← k1]; exact e.1, oIc_f hw h k3 k2, k3.K⟩)
theorem qPut_o {σ : xS} {a b c d : Int32} {z : Nat} : ∀ k, (∀ x y, x ≠ 38 → ¬ (x = 37 ∧ (y = 0 ∨ y = 2)) → xgI (qPut σ a b c d z k) x y = xgI σ x y) ∧ (qPut σ a b c d z k).2 = σ.2 ∧ ∀ i, xgI (qPut σ a b c d z k) 38 i = if z ≤ i ∧ i < z + k then qSel a b c d (i - z) else xgI σ 38 i
  | 0 => ⟨fun x y h1 h2 => by rw [qPut, xgI_n (by omega)], rfl, fun i => by rw [qPut, xgI_n (by omega), if_neg (by omega)]⟩
  | k + 1 => by
    obtain ⟨h1, h2, h3⟩ := qPut_o (σ := σ) (a := a) (b := b) (c := c) (d := d) (z := z) k
    refine ⟨fun x y g1 g2 => ?_, ?_, fun i => ?_⟩
    · rw [qPut, xgI_n (by omega), xgI_n (by omega)]
      exact h1 x y g1 g2
    · rw [qPut]
      exact h2
    · rw [qPut, xgI_n (by omega), xgI_i, h3 i]
      by_cases e : i = z + k
      · rw [if_pos ⟨rfl, e⟩, if_pos (by omega), e, show z + k - z = k by omega]
      · rw [if_neg (by omega)]
        by_cases e2 : z ≤ i ∧ i < z + k
        · rw [if_pos e2, if_pos (by omega)]
        · rw [if_neg e2, if_neg (by omega)]
theorem o_putR {l : Launch} {G : xG} {σ : xS} {D : oMd} {C : oCt} {z : Nat} {t : Nat → Int32} {g n a b c d : Int32} (hw : oIw D C z) (h : oIr D C z t g σ) : xM l G yX9_put cX9_put 7 (Option.some Jvm.ClassFile.FieldType.int) 1 22 [.ref (G.2.1 37), .int n, .int a, .int b, .int c, .int d] σ (oAr D C (oPu z t n a b c d).2.1 (oPu z t n a b c d).2.2 g σ (oPu z t n a b c d).1) := by
  have hz := hw.2.2
  unfold oPu
  by_cases e1 : xIn n 1 4 = 0
  · rw [if_pos e1]
    refine xM.mono (c_X9_putN e1) (fun r u e => ?_)
    rw [e.2]
    exact ⟨e.1, oIr_0 h, oKr.I (by omega)⟩
  · rw [if_neg e1]
    obtain ⟨m, m1, m2, em⟩ := xIn_14 e1
    subst em
    rw [nI_clamp (by omega)]
    by_cases e2 : 1000 < z + m
    · rw [if_pos e2]
      refine xM.mono (c_X9_putR h.1.1 hz m1 m2 e1 e2) (fun r u e => ?_)
      rw [e.2]
      exact ⟨e.1, oIr_0 h, oKr.I (by omega)⟩
    · rw [if_neg e2]
      refine xM.mono (c_X9_put h.1.1 hz m1 m2 e1 (by omega)) (fun r u e => ?_)
      obtain ⟨q1, q2, q3⟩ := qPut_o (σ := σ) (a := a) (b := b) (c := c) (d := d) (z := z) m
      rw [e.2]
      refine ⟨e.1, oIr_t h (fun x y hxy => q1 x y (by omega) (by omega)) (fun x y _ _ => by unfold xgL; rw [q2]) (qPut_z h.1.1 m) (fun i => ?_), ⟨fun x y hx => q1 x y (by omega) (by omega), fun x y _ => by unfold xgL; rw [q2], by unfold xgC; rw [q2], by unfold xgD; rw [q2]⟩⟩
      rw [q3 i, h.1.2 i]
      rfl
/-! breaks -/
noncomputable def oBk (D : oMd) (x : Int32) : Int32 := oIf (xLt x (oNp D)) (oBrk D x.toNatClampNeg) (-2)
theorem o_breaks {l : Launch} {G : xG} {σ : xS} {D : oMd} {C : oCt} {z : Nat} {t : Nat → Int32} {g x : Int32} (hw : oIw D C z) (h : oIc D C z t g σ) : xM l G yX8_breaks cX8_breaks 2 (Option.some Jvm.ClassFile.FieldType.int) 2 46 [.ref (G.2.1 0), .int x] σ (oAc D C z t g σ (oBk D x)) := by
  have hm := h.2.1
  obtain ⟨m0, ⟨b1, b2, b3, b4⟩, -, -, b7, b8, -⟩ := h.2.1
  have hT : ∀ t, t < oM D → ∃ P, P ≤ 20 ∧ xgI σ (xgC σ + 8) t = nI P := fun t ht => ⟨oPs D t, (hw.1.2.2.2.2 t ht).2.2, (b7 t ht).2.2.1⟩
  unfold oBk
  by_cases c : xLt x (oNp D)
  · rw [oIf_t c]
    obtain ⟨j, hj, e⟩ := c
    have := hw.1.1.2.2.2
    subst e
    rw [nI_clamp (by omega), ← mBrk_e hm hw.1 hj]
    refine xM.mono (c_X8_breaks m0 rfl b2 hw.1.1.2.1 b3 hw.1.1.2.2.1 hT this b8 hj) (fun r u e => ?_)
    rw [e.2]
    exact ⟨e.1, h, oKc.rf⟩
  · rw [oIf_f c]
    refine xM.mono (c_X8_breaksN m0 rfl b2 hw.1.1.2.1 b3 hw.1.1.2.2.1 hT hw.1.1.2.2.2 b8 c) (fun r u e => ?_)
    rw [e.2]
    exact ⟨e.1, h, oKc.rf⟩
theorem o_breaksR {l : Launch} {G : xG} {σ : xS} {D : oMd} {C : oCt} {z : Nat} {t : Nat → Int32} {g x : Int32} (hw : oIw D C z) (h : oIr D C z t g σ) : xM l G yX9_breaks cX9_breaks 2 (Option.some Jvm.ClassFile.FieldType.int) 2 47 [.ref (G.2.1 37), .int x] σ (oAr D C z t g σ (oBk D x)) := by
  have hm := h.2.1
  obtain ⟨⟨b1, b2, b3, b4⟩, -, -, b7, b8, -⟩ := h.2.1
  unfold oBk
  by_cases c : xLt x (oNp D)
  · rw [oIf_t c]
    obtain ⟨j, hj, e⟩ := c
    have := hw.1.1.2.2.2
    subst e
    rw [nI_clamp (by omega), ← qBrk_e hm hw.1 hj]
    refine xM.mono (c_X9_breaks this b8 b1 hw.1.1.1 b2 hw.1.1.2.1 b3 hw.1.1.2.2.1 (oTabs hm hw.1) hj) (fun r u e => ?_)
    rw [e.2]
    exact ⟨e.1, oIr_0 h, oKr.I (by omega)⟩
  · rw [oIf_f c]
    refine xM.mono (c_X9_breaksN hw.1.1.2.2.2 b8 c) (fun r u e => ?_)
    rw [e.2]
    exact ⟨e.1, oIr_0 h, oKr.I (by omega)⟩
/-! read -/
noncomputable def oTks (D : oMd) (C : oCt) (f : Nat → Int32) : Nat → oCt
  | 0 => C
  | n + 1 => oTake D (oTks D C f n) (f n)
theorem oTks_w {D : oMd} {C : oCt} {f : Nat → Int32} (h : oWc D C) : ∀ n, oWc D (oTks D C f n)
  | 0 => h
  | n + 1 => oTake_w (oTks_w h n)
theorem oTks_3 {D : oMd} {C : oCt} {f : Nat → Int32} (h : oWc D C) : ∀ n, oRf (oTks D C f n) 300 = oRf C 300
  | 0 => rfl
  | n + 1 => (oTake_3 (oTks_w h n).1.2.1).trans (oTks_3 h n)
theorem oTks_f {D : oMd} {C : oCt} {f : Nat → Int32} {n : Nat} (h : ¬ oFa (oTks D C f n) = 0) : ∀ d, oTks D C f (n + d) = oTks D C f n
  | 0 => rfl
  | d + 1 => by
    have ih := oTks_f (D := D) (C := C) (f := f) h d
    show oTake D (oTks D C f (n + d)) (f (n + d)) = _
    rw [ih]
    unfold oTake
    rw [if_pos h]
def oRa (C : oCt) : Int32 := if oFa C = 0 then nI (oNr C) else -10 - oFa C
theorem tAt_n {σ : xS} {z k : Nat} {t : Nat → Int32} (h : oTp σ z t) (hz : z ≤ 1000) (hk : k < z) : tAt σ (nI k) = t k := by
  unfold tAt
  rw [if_neg (nI_pos (by omega)), h.1, if_neg (nI_ge hk (by omega)), if_neg (show ¬ (1000 : Int32) ≤ nI k from nI_ge (b := 1000) (by omega) (by omega)), nI_clamp (by omega)]
  exact h.2 k hk
theorem oIc_C {D : oMd} {C C' : oCt} {z : Nat} {t : Nat → Int32} {g : Int32} {σ τ : xS} (hw : oIw D C z) (h : oIc D C z t g σ) (hu : oCu σ τ) (hC : oCc C' τ) : oIc D C' z t g τ := by
  obtain ⟨⟨a1, a2⟩, b, c, d, -, f⟩ := h
  refine ⟨⟨?_, fun i hi => ?_⟩, ?_, ?_, ?_, hC, hu.2.2.2.2.trans f⟩
  · rw [hu.1 _ _ (by omega) (by omega) (by omega) (by omega) (by omega) (by omega) (by omega) (by omega) (by omega)]; exact a1
  · rw [hu.1 _ _ (by omega) (by omega) (by omega) (by omega) (by omega) (by omega) (by omega) (by omega) (by omega)]; exact a2 i hi
  · rw [hu.2.2.1]; exact oCm_u hw.1 b hu
  · rw [hu.2.2.1, hu.2.2.2.1]; exact c
  · rw [hu.1 _ _ (by omega) (by omega) (by omega) (by omega) (by omega) (by omega) (by omega) (by omega) (by omega)]; exact d
theorem o_read {l : Launch} {G : xG} {σ : xS} {D : oMd} {C : oCt} {z : Nat} {t : Nat → Int32} {g : Int32} (hw : oIw D C z) (h : oIc D C z t g σ) : xM l G yX8_read cX8_read 2 (Option.some Jvm.ClassFile.FieldType.int) 6 154 [.ref (G.2.1 0)] σ (oAc D (if g = 0 then C else oTks D C t z) 0 t g σ (if g = 0 then -4 else oRa (oTks D C t z))) := by
  by_cases c : g = 0
  · rw [if_pos c, if_pos c]
    refine xM.mono (c_X8_readN (h.2.2.2.2.2.trans c)) (fun r u e => ?_)
    rw [e.2]
    exact ⟨e.1, oIc_f hw h (oTf.I (by omega)) ⟨by rw [xgI_s]; rfl, fun i hi => absurd hi (by omega)⟩, oKc.I (by omega)⟩
  · rw [if_neg c, if_neg c]
    have hk : ∀ k, oIw D (oTks D C t k) z := fun k => ⟨hw.1, oTks_w hw.2.1 k, hw.2.2⟩
    refine xM.mono (c_X8_readI (I := fun k τ => oIc D (oTks D C t k) z t g τ ∧ oCu σ τ) h.2.1.1 (fun y => c (h.2.2.2.2.2.symm.trans y)) hw.2.2 h.1.1 ⟨h, oCu.rf⟩ (fun k τ hI => ⟨fun b => hI.2.1 _ _ (by omega) (by omega) (by omega) (by omega) (by omega) (by omega) (by omega) (by omega) (by omega), fun b => hI.2.1 _ _ (by omega) (by omega) (by omega) (by omega) (by omega) (by omega) (by omega) (by omega) (by omega), hI.2.2.2.1⟩) (fun k τ hkz hI => ?_)) (fun r u e => ?_)
    · have e : xgC τ = xgC σ := hI.2.2.2.1
      rw [tAt_n hI.1.1 hw.2.2 hkz, ← e]
      exact xM.mono (o_take hI.1.2.1 hw.1 (oTks_w hw.2.1 k) hI.1.2.2.2.2.1) (fun r u e => ⟨e.1, oIc_C (hk k) hI.1 e.2.2 e.2.1, hI.2.tr e.2.2⟩)
    · obtain ⟨v, ⟨i1, i2⟩, e1, e2⟩ := e
      rw [e2]
      obtain ⟨⟨f1, f2, -⟩, -, ⟨f3, -⟩, -⟩ := i1.2.2.2.2.1.1
      refine ⟨?_, oIc_f (hk z) i1 (oTf.I (by omega)) ⟨by rw [xgI_s]; rfl, fun i hi => absurd hi (by omega)⟩, (oKc.u i2).tr (oKc.I (by omega))⟩
      rw [e1, f2, f3]
      rfl
theorem oIr_C {D : oMd} {C C' : oCt} {z : Nat} {t : Nat → Int32} {g : Int32} {σ τ : xS} (h : oIr D C z t g σ) (hu : oRv σ τ) (hC : oRc C' τ) : oIr D C' z t g τ := by
  obtain ⟨⟨a1, a2⟩, b, -, d⟩ := h
  refine ⟨⟨?_, fun i => ?_⟩, oQm_u b hu, hC, ?_⟩
  · rw [hu.1 _ _ (by omega) (by omega) (by omega) (by omega) (by omega)]; exact a1
  · rw [hu.1 _ _ (by omega) (by omega) (by omega) (by omega) (by omega)]; exact a2 i
  · rw [hu.1 _ _ (by omega) (by omega) (by omega) (by omega) (by omega)]; exact d
theorem oIr_z {D : oMd} {C : oCt} {z : Nat} {t : Nat → Int32} {g : Int32} {σ : xS} (h : oIr D C z t g σ) : oIr D C 0 t g (qPz σ) := by
  unfold qPz
  exact oIr_t h (fun a b hab => by rw [xgI_n (by omega), xgI_n (by omega)]) (fun _ _ _ _ => rfl) (by rw [xgI_s]; rfl) (fun i => by rw [xgI_n (by omega), xgI_n (by omega)]; exact h.1.2 i)
theorem oKr_z {σ : xS} : oKr σ (qPz σ) := (oKr.I (by omega)).tr (oKr.I (by omega))
theorem o_readR {l : Launch} {G : xG} {σ : xS} {D : oMd} {C : oCt} {z : Nat} {t : Nat → Int32} {g : Int32} (hw : oIw D C z) (h3 : ¬ g = 0 → oRf C 300 = 1) (h : oIr D C z t g σ) : xM l G yX9_read cX9_read 3 (Option.some Jvm.ClassFile.FieldType.int) 4 102 [.ref (G.2.1 37)] σ (oAr D (if g = 0 then C else oTks D C t z) 0 t g σ (if g = 0 then -4 else oRa (oTks D C t z))) := by
  by_cases c : g = 0
  · rw [if_pos c, if_pos c]
    refine xM.mono (c_X9_readN (h.2.2.2.trans c)) (fun r u e => ?_)
    rw [e.2]
    exact ⟨e.1, oIr_z h, oKr_z⟩
  · rw [if_neg c, if_neg c]
    refine xM.mono (c_X9_readI (z := z) (I := fun k τ => oIr D (oTks D C t k) 0 t g τ ∧ oRv (qPz σ) τ) (fun y => c (h.2.2.2.symm.trans y)) h.1.1 hw.2.2 ⟨oIr_z h, oRv.rf⟩ (fun k τ hI b => (hI.2.1 _ _ (by omega) (by omega) (by omega) (by omega) (by omega)).trans (qPz_o (by omega))) (fun k τ hkz hI hf => ?_)) (fun r u e => ?_)
    · rw [h.1.2 k]
      exact xM.mono (o_takeR hI.1.2.1 hw.1 (oTks_w hw.2.1 k) hI.1.2.2.1 ((oTks_3 hw.2.1 k).trans (h3 c)) (hI.1.2.2.1.1.2.1.symm.trans hf)) (fun r u e => ⟨e.1, oIr_C hI.1 e.2.2 e.2.1, hI.2.tr e.2.2⟩)
    · obtain ⟨n, n1, ⟨i1, i2⟩, n2, e1⟩ := e
      have hT : oTks D C t z = oTks D C t n := by
        rcases n2 with e | e
        · rw [e]
        · have := oTks_f (D := D) (C := C) (f := t) (n := n) (fun y => e (i1.2.2.1.1.2.1.trans y)) (z - n)
          rw [show n + (z - n) = z by omega] at this
          exact this
      obtain ⟨⟨f1, f2, -⟩, -, ⟨f3, -⟩, -⟩ := i1.2.2.1
      rw [hT]
      refine ⟨?_, i1, oKr_z.tr (oKr.u i2)⟩
      rw [e1, f2, f3]
      rfl
