
/-! ONE CALL OF THE LAW: the class answers, the reference answers the same, and what holds between the calls holds again -/
def oX (D : oMd) (C : oCt) (g : Int32) : Prop := oW0 D ∧ oWb D ∧ oW1 D C ∧ (¬ g = 0 → oRf C 300 = 1)
theorem n_of {l : Launch} {G : xG} {σ : xS} {D D' : oMd} {C C' : oCt} {z z' : Nat} {t t' : Nat → Int32} {g g' v : Int32} {y8 y9 : MethodName} {c8 c9 : ByteArray} {n8 n9 f8 f9 l8 l9 : Nat} {a8 a9 : List Value} (h8 : xM l G y8 c8 n8 (Option.some Jvm.ClassFile.FieldType.int) f8 l8 a8 σ (oAc D' C' z' t' g' σ v)) (hr : oIr D C z t g σ) (h9 : ∀ u, oIr D C z t g u → xM l G y9 c9 n9 (Option.some Jvm.ClassFile.FieldType.int) f9 l9 a9 u (oAr D' C' z' t' g' u v)) (hw : oIw D' C' z') (hx : oX D' C' g') :
    ∃ (v : Int32) (J : xS → Prop), xM l G y8 c8 n8 (Option.some Jvm.ClassFile.FieldType.int) f8 l8 a8 σ (fun r u => r = some (.int v) ∧ J u) ∧ ∀ u, J u → xM l G y9 c9 n9 (Option.some Jvm.ClassFile.FieldType.int) f9 l9 a9 u (fun r w => r = some (.int v) ∧ oI w) :=
  ⟨v, fun u => oIc D' C' z' t' g' u ∧ oKc σ u, h8, fun u hu => (h9 u (oIr_k hr hu.2)).mono (fun r w e => ⟨e.1, D', C', z', t', g', hw, hx, oIc_k hw hu.1 e.2.2, e.2.1⟩)⟩
theorem n_okL {l : Launch} {G : xG} {σ : xS} {D D' : oMd} {C C' : oCt} {z z' : Nat} {t t' : Nat → Int32} {g g' : Int32} {v : Int64} {y8 y9 : MethodName} {c8 c9 : ByteArray} {n8 n9 f8 f9 l8 l9 : Nat} {hh : List (Nat × Nat × Nat × Nat)} {a8 a9 : List Value} (h8 : xMw l G y8 c8 n8 (Option.some Jvm.ClassFile.FieldType.int) hh f8 l8 a8 σ (fun r u => r = some (.int 0) ∧ ∃ u0, (oIc D' C' z' t' g' u0 ∧ oKc σ u0) ∧ u = xsL u0 60 0 v)) (hr : oIr D C z t g σ) (h9 : ∀ u, oIr D C z t g u → xM l G y9 c9 n9 (Option.some Jvm.ClassFile.FieldType.long) f9 l9 a9 u (oArl D' C' z' t' g' u v 0)) (hw : oIw D' C' z') (hx : oX D' C' g') :
    ∃ (k : Int32) (v : Int64) (J : xS → Prop), xMw l G y8 c8 n8 (Option.some Jvm.ClassFile.FieldType.int) hh f8 l8 a8 σ (fun r u => r = some (.int k) ∧ J u) ∧ ∀ u, J u → xM l G y9 c9 n9 (Option.some Jvm.ClassFile.FieldType.long) f9 l9 a9 u (fun r w => r = some (.long v) ∧ oI w ∧ xgI w 37 0 = k ∧ (k = 0 → xgL w 60 0 = v)) :=
  ⟨0, v, fun u => ∃ u0, (oIc D' C' z' t' g' u0 ∧ oKc σ u0) ∧ u = xsL u0 60 0 v, h8, fun u ⟨u0, hu, e⟩ => by
    subst e
    refine (h9 _ (oIr_k hr (hu.2.tr (oKc.L (by omega))))).mono (fun r w e => ⟨e.1, ⟨D', C', z', t', g', hw, hx, oIc_k hw (oIc_o hw hu.1) e.2.2.1, e.2.1⟩, e.2.2.2, fun _ => ?_⟩)
    rw [e.2.2.1.2.1 _ _ (by omega)]
    exact xgL_s _ _ _ _⟩
theorem n_noL {l : Launch} {G : xG} {σ : xS} {D : oMd} {C : oCt} {z : Nat} {t : Nat → Int32} {g : Int32} {y8 y9 : MethodName} {c8 c9 : ByteArray} {n8 n9 f8 f9 l8 l9 : Nat} {hh : List (Nat × Nat × Nat × Nat)} {a8 a9 : List Value} (h8 : xMw l G y8 c8 n8 (Option.some Jvm.ClassFile.FieldType.int) hh f8 l8 a8 σ (fun r u => r = some (.int 1) ∧ u = σ)) (hc : oIc D C z t g σ) (h9 : xM l G y9 c9 n9 (Option.some Jvm.ClassFile.FieldType.long) f9 l9 a9 σ (oArl D C z t g σ 0 1)) (hw : oIw D C z) (hx : oX D C g) :
    ∃ (k : Int32) (v : Int64) (J : xS → Prop), xMw l G y8 c8 n8 (Option.some Jvm.ClassFile.FieldType.int) hh f8 l8 a8 σ (fun r u => r = some (.int k) ∧ J u) ∧ ∀ u, J u → xM l G y9 c9 n9 (Option.some Jvm.ClassFile.FieldType.long) f9 l9 a9 u (fun r w => r = some (.long v) ∧ oI w ∧ xgI w 37 0 = k ∧ (k = 0 → xgL w 60 0 = v)) :=
  ⟨1, 0, fun u => u = σ, h8, fun u e => by
    subst e
    exact h9.mono (fun r w e => ⟨e.1, ⟨D, C, z, t, g, hw, hx, oIc_k hw hc e.2.2.1, e.2.1⟩, e.2.2.2, fun h => absurd h (by decide)⟩)⟩
theorem n_okI {l : Launch} {G : xG} {σ : xS} {D D' : oMd} {C C' : oCt} {z z' : Nat} {t t' : Nat → Int32} {g g' : Int32} {v : Int32} {y8 y9 : MethodName} {c8 c9 : ByteArray} {n8 n9 f8 f9 l8 l9 : Nat} {hh : List (Nat × Nat × Nat × Nat)} {a8 a9 : List Value} (h8 : xMw l G y8 c8 n8 (Option.some Jvm.ClassFile.FieldType.int) hh f8 l8 a8 σ (fun r u => r = some (.int 0) ∧ ∃ u0, (oIc D' C' z' t' g' u0 ∧ oKc σ u0) ∧ u = xsL u0 60 0 (v.toInt64))) (hr : oIr D C z t g σ) (h9 : ∀ u, oIr D C z t g u → xM l G y9 c9 n9 (Option.some Jvm.ClassFile.FieldType.int) f9 l9 a9 u (oAri D' C' z' t' g' u v 0)) (hw : oIw D' C' z') (hx : oX D' C' g') :
    ∃ (k v : Int32) (J : xS → Prop), xMw l G y8 c8 n8 (Option.some Jvm.ClassFile.FieldType.int) hh f8 l8 a8 σ (fun r u => r = some (.int k) ∧ J u) ∧ ∀ u, J u → xM l G y9 c9 n9 (Option.some Jvm.ClassFile.FieldType.int) f9 l9 a9 u (fun r w => r = some (.int v) ∧ oI w ∧ xgI w 37 0 = k ∧ (k = 0 → xgL w 60 0 = v.toInt64)) :=
  ⟨0, v, fun u => ∃ u0, (oIc D' C' z' t' g' u0 ∧ oKc σ u0) ∧ u = xsL u0 60 0 (v.toInt64), h8, fun u ⟨u0, hu, e⟩ => by
    subst e
    refine (h9 _ (oIr_k hr (hu.2.tr (oKc.L (by omega))))).mono (fun r w e => ⟨e.1, ⟨D', C', z', t', g', hw, hx, oIc_k hw (oIc_o hw hu.1) e.2.2.1, e.2.1⟩, e.2.2.2, fun _ => ?_⟩)
    rw [e.2.2.1.2.1 _ _ (by omega)]
    exact xgL_s _ _ _ _⟩
theorem n_noI {l : Launch} {G : xG} {σ : xS} {D : oMd} {C : oCt} {z : Nat} {t : Nat → Int32} {g : Int32} {y8 y9 : MethodName} {c8 c9 : ByteArray} {n8 n9 f8 f9 l8 l9 : Nat} {hh : List (Nat × Nat × Nat × Nat)} {a8 a9 : List Value} (h8 : xMw l G y8 c8 n8 (Option.some Jvm.ClassFile.FieldType.int) hh f8 l8 a8 σ (fun r u => r = some (.int 1) ∧ u = σ)) (hc : oIc D C z t g σ) (h9 : xM l G y9 c9 n9 (Option.some Jvm.ClassFile.FieldType.int) f9 l9 a9 σ (oAri D C z t g σ 0 1)) (hw : oIw D C z) (hx : oX D C g) :
    ∃ (k v : Int32) (J : xS → Prop), xMw l G y8 c8 n8 (Option.some Jvm.ClassFile.FieldType.int) hh f8 l8 a8 σ (fun r u => r = some (.int k) ∧ J u) ∧ ∀ u, J u → xM l G y9 c9 n9 (Option.some Jvm.ClassFile.FieldType.int) f9 l9 a9 u (fun r w => r = some (.int v) ∧ oI w ∧ xgI w 37 0 = k ∧ (k = 0 → xgL w 60 0 = v.toInt64)) :=
  ⟨1, 0, fun u => u = σ, h8, fun u e => by
    subst e
    exact h9.mono (fun r w e => ⟨e.1, ⟨D, C, z, t, g, hw, hx, oIc_k hw hc e.2.2.1, e.2.1⟩, e.2.2.2, fun h => absurd h (by decide)⟩)⟩
theorem xIn_i {i : Int32} (h : xIn i 8 13 = 0) : i.toInt < 8 ∨ 13 < i.toInt := by
  unfold xIn at h
  by_cases a : i < 8
  · exact Or.inl (Int32.lt_iff_toInt_lt.mp a)
  · rw [if_neg a] at h
    by_cases b : 13 < i
    · exact Or.inr (Int32.lt_iff_toInt_lt.mp b)
    · rw [if_neg b] at h
      exact absurd h (by decide)
theorem n_drop {l : Launch} {G : xG} {σ : xS} (hI : oI σ) : ∃ (v : Int32) (J : xS → Prop), xM l G yX8_drop cX8_drop 2 (Option.some Jvm.ClassFile.FieldType.int) 1 20 [.ref (G.2.1 0)] σ (fun r u => r = some (.int v) ∧ J u) ∧ ∀ u, J u → xM l G yX9_drop cX9_drop 2 (Option.some Jvm.ClassFile.FieldType.int) 0 0 [.ref (G.2.1 37)] u (fun r w => r = some (.int v) ∧ oI w) := by
  obtain ⟨D, C, z, t, g, hw, hx, hc, hr⟩ := hI
  exact n_of (o_drop hw hc) hr (fun u h => o_dropR h) ⟨hw.1, hw.2.1, by omega⟩ hx
theorem n_put {l : Launch} {G : xG} {σ : xS} {n a b c d : Int32} (hI : oI σ) : ∃ (v : Int32) (J : xS → Prop), xM l G yX8_put cX8_put 6 (Option.some Jvm.ClassFile.FieldType.int) 1 21 [.ref (G.2.1 0), .int n, .int a, .int b, .int c, .int d] σ (fun r u => r = some (.int v) ∧ J u) ∧ ∀ u, J u → xM l G yX9_put cX9_put 7 (Option.some Jvm.ClassFile.FieldType.int) 1 22 [.ref (G.2.1 37), .int n, .int a, .int b, .int c, .int d] u (fun r w => r = some (.int v) ∧ oI w) := by
  obtain ⟨D, C, z, t, g, hw, hx, hc, hr⟩ := hI
  exact n_of (o_put hw hc) hr (fun u h => o_putR hw h) ⟨hw.1, hw.2.1, oPu_w hw.2.2⟩ hx
theorem n_model {l : Launch} {G : xG} {σ : xS} (hI : oI σ) : ∃ (v : Int32) (J : xS → Prop), xM l G yX8_model cX8_model 4 (Option.some Jvm.ClassFile.FieldType.int) 5 114 [.ref (G.2.1 0)] σ (fun r u => r = some (.int v) ∧ J u) ∧ ∀ u, J u → xM l G yX9_model cX9_model 2 (Option.some Jvm.ClassFile.FieldType.int) 3 74 [.ref (G.2.1 37)] u (fun r w => r = some (.int v) ∧ oI w) := by
  obtain ⟨D, C, z, t, g, hw, hx, hc, hr⟩ := hI
  refine n_of (o_model hw hc) hr (fun u h => o_modelR hw h) ⟨?_, ?_, by omega⟩ ⟨oMD_0 hx.1, oMD_b hx.2.1, ?_, ?_⟩
  · unfold oMD
    split
    · exact hw.1
    · exact oPars_w ‹_›
  · unfold oMC oMD
    split
    · exact hw.2.1
    · exact oNew_w
  · unfold oMC oMD
    split
    · exact hx.2.2.1
    · exact oW1_new
  · unfold oMC oMg
    split
    · exact hx.2.2.2
    · exact fun _ => rfl
theorem n_plan {l : Launch} {G : xG} {σ : xS} (hI : oI σ) : ∃ (v : Int32) (J : xS → Prop), xM l G yX8_plan cX8_plan 2 (Option.some Jvm.ClassFile.FieldType.int) 4 87 [.ref (G.2.1 0)] σ (fun r u => r = some (.int v) ∧ J u) ∧ ∀ u, J u → xM l G yX9_plan cX9_plan 4 (Option.some Jvm.ClassFile.FieldType.int) 1 22 [.ref (G.2.1 37)] u (fun r w => r = some (.int v) ∧ oI w) := by
  obtain ⟨D, C, z, t, g, hw, hx, hc, hr⟩ := hI
  have hp := hw.1.1.2.2.2
  refine n_of (o_plan hw hc) hr (fun u h => o_planR hw h) ⟨?_, ?_, by omega⟩ ⟨?_, ?_, ?_, hx.2.2.2⟩
  · rcases oPlan_c (z := z) (t := t) hp with e | ⟨h8, e⟩ <;> rw [e]
    · exact hw.1
    · exact oAddP_w hw.1 h8
  · rcases oPlan_c (z := z) (t := t) hp with e | ⟨h8, e⟩ <;> rw [e]
    · exact hw.2.1
    · exact oAddP_c hp hw.2.1
  · rcases oPlan_c (z := z) (t := t) hp with e | ⟨h8, e⟩ <;> rw [e] <;> exact hx.1
  · rcases oPlan_c (z := z) (t := t) hp with e | ⟨h8, e⟩ <;> rw [e] <;> exact hx.2.1
  · rcases oPlan_c (z := z) (t := t) hp with e | ⟨h8, e⟩ <;> rw [e] <;> exact hx.2.2.1
theorem n_breaks {l : Launch} {G : xG} {σ : xS} {x : Int32} (hI : oI σ) : ∃ (v : Int32) (J : xS → Prop), xM l G yX8_breaks cX8_breaks 2 (Option.some Jvm.ClassFile.FieldType.int) 2 46 [.ref (G.2.1 0), .int x] σ (fun r u => r = some (.int v) ∧ J u) ∧ ∀ u, J u → xM l G yX9_breaks cX9_breaks 2 (Option.some Jvm.ClassFile.FieldType.int) 2 47 [.ref (G.2.1 37), .int x] u (fun r w => r = some (.int v) ∧ oI w) := by
  obtain ⟨D, C, z, t, g, hw, hx, hc, hr⟩ := hI
  exact n_of (o_breaks hw hc) hr (fun u h => o_breaksR hw h) hw hx
theorem n_digest {l : Launch} {G : xG} {σ : xS} (hI : oI σ) : ∃ (v : Int32) (J : xS → Prop), xM l G yX8_digest cX8_digest 1 (Option.some Jvm.ClassFile.FieldType.int) 0 0 [.ref (G.2.1 0)] σ (fun r u => r = some (.int v) ∧ J u) ∧ ∀ u, J u → xM l G yX9_digest cX9_digest 1 (Option.some Jvm.ClassFile.FieldType.int) 0 0 [.ref (G.2.1 37)] u (fun r w => r = some (.int v) ∧ oI w) := by
  obtain ⟨D, C, z, t, g, hw, hx, hc, hr⟩ := hI
  exact n_of (o_digest hc) hr (fun u h => o_digestR hw h) hw hx
theorem n_begin {l : Launch} {G : xG} {σ : xS} (hI : oI σ) : ∃ (v : Int32) (J : xS → Prop), xM l G yX8_begin cX8_begin 2 (Option.some Jvm.ClassFile.FieldType.int) 3 60 [.ref (G.2.1 0)] σ (fun r u => r = some (.int v) ∧ J u) ∧ ∀ u, J u → xM l G yX9_begin cX9_begin 2 (Option.some Jvm.ClassFile.FieldType.int) 1 20 [.ref (G.2.1 37)] u (fun r w => r = some (.int v) ∧ oI w) := by
  obtain ⟨D, C, z, t, g, hw, hx, hc, hr⟩ := hI
  refine n_of (o_begin hw hc) hr (fun u h => o_beginR hw h) ⟨hw.1, ?_, hw.2.2⟩ ⟨hx.1, hx.2.1, ?_, ?_⟩
  · split
    · exact hw.2.1
    · exact oNew_w
  · split
    · exact hx.2.2.1
    · exact oW1_new
  · split
    · exact hx.2.2.2
    · exact fun _ => rfl
theorem n_read {l : Launch} {G : xG} {σ : xS} (hI : oI σ) : ∃ (v : Int32) (J : xS → Prop), xM l G yX8_read cX8_read 2 (Option.some Jvm.ClassFile.FieldType.int) 6 154 [.ref (G.2.1 0)] σ (fun r u => r = some (.int v) ∧ J u) ∧ ∀ u, J u → xM l G yX9_read cX9_read 3 (Option.some Jvm.ClassFile.FieldType.int) 4 102 [.ref (G.2.1 37)] u (fun r w => r = some (.int v) ∧ oI w) := by
  obtain ⟨D, C, z, t, g, hw, hx, hc, hr⟩ := hI
  refine n_of (o_read hw hc) hr (fun u h => o_readR hw hx.2.2.2 h) ⟨hw.1, ?_, by omega⟩ ⟨hx.1, hx.2.1, ?_, ?_⟩
  · split
    · exact hw.2.1
    · exact oTks_w hw.2.1 _
  · split
    · exact hx.2.2.1
    · exact oTks_1 hw.2.1 hx.2.2.1 _
  · split
    · exact hx.2.2.2
    · rw [oTks_3 hw.2.1]
      exact hx.2.2.2
theorem n_fault {l : Launch} {G : xG} {σ : xS} {w : Int32} (hI : oI σ) : ∃ (v : Int32) (J : xS → Prop), xM l G yX8_fault cX8_fault 2 (Option.some Jvm.ClassFile.FieldType.int) 0 0 [.ref (G.2.1 0), .int w] σ (fun r u => r = some (.int v) ∧ J u) ∧ ∀ u, J u → xM l G yX9_fault cX9_fault 2 (Option.some Jvm.ClassFile.FieldType.int) 0 0 [.ref (G.2.1 37), .int w] u (fun r w => r = some (.int v) ∧ oI w) := by
  obtain ⟨D, C, z, t, g, hw, hx, hc, hr⟩ := hI
  exact n_of (o_fault hc) hr (fun u h => o_faultR h) hw hx
theorem n_proved {l : Launch} {G : xG} {σ : xS} (hI : oI σ) : ∃ (v : Int32) (J : xS → Prop), xM l G yX8_proved cX8_proved 1 (Option.some Jvm.ClassFile.FieldType.int) 3 64 [.ref (G.2.1 0)] σ (fun r u => r = some (.int v) ∧ J u) ∧ ∀ u, J u → xM l G yX9_proved cX9_proved 1 (Option.some Jvm.ClassFile.FieldType.int) 2 45 [.ref (G.2.1 37)] u (fun r w => r = some (.int v) ∧ oI w) := by
  obtain ⟨D, C, z, t, g, hw, hx, hc, hr⟩ := hI
  exact n_of (o_proved hw hc) hr (fun u h => o_provedR hw h) hw hx
theorem n_told {l : Launch} {G : xG} {σ : xS} {w : Int32} (hI : oI σ) : ∃ (v : Int32) (J : xS → Prop), xM l G yX8_told cX8_told 2 (Option.some Jvm.ClassFile.FieldType.int) 0 0 [.ref (G.2.1 0), .int w] σ (fun r u => r = some (.int v) ∧ J u) ∧ ∀ u, J u → xM l G yX9_told cX9_told 2 (Option.some Jvm.ClassFile.FieldType.int) 0 0 [.ref (G.2.1 37), .int w] u (fun r w => r = some (.int v) ∧ oI w) := by
  obtain ⟨D, C, z, t, g, hw, hx, hc, hr⟩ := hI
  exact n_of (o_told hc) hr (fun u h => o_toldR hx.1 h) hw hx
theorem n_cost {l : Launch} {G : xG} (hl : l.stackTraces = false) {σ : xS} {q : Int32} (hI : oI σ) : ∃ (k : Int32) (v : Int64) (J : xS → Prop), xMw l G yL_cost cL_cost 4 (Option.some Jvm.ClassFile.FieldType.int) [(0, 8, 11, 13)] 7 103 [.ref (G.2.1 0), .int q, .ref (G.2.1 60)] σ (fun r u => r = some (.int k) ∧ J u) ∧ ∀ u, J u → xM l G yX9_cost cX9_cost 2 (Option.some Jvm.ClassFile.FieldType.long) 1 24 [.ref (G.2.1 37), .int q] u (fun r w => r = some (.long v) ∧ oI w ∧ xgI w 37 0 = k ∧ (k = 0 → xgL w 60 0 = v)) := by
  obtain ⟨D, C, z, t, g, hw, hx, hc, hr⟩ := hI
  by_cases c : xLt q (oNp D)
  · obtain ⟨j, hj, rfl⟩ := c
    exact n_okL (w_cost (I := fun u => oIc D C z t g u ∧ oKc σ u) (o_cost hw hc hj)) hr (fun u h => o_costR hw h hj) hw hx
  · exact n_noL (w_costT (t_X8_cost hl hw.1.1.2.2.2 hc.2.1.2.2.2.2.2.1 c)) hc (o_costT hw hr c) hw hx
theorem n_number {l : Launch} {G : xG} (hl : l.stackTraces = false) {σ : xS} {q : Int32} (hI : oI σ) : ∃ (k : Int32) (v : Int32) (J : xS → Prop), xMw l G yL_number cL_number 4 (Option.some Jvm.ClassFile.FieldType.int) [(0, 9, 12, 13)] 7 103 [.ref (G.2.1 0), .int q, .ref (G.2.1 60)] σ (fun r u => r = some (.int k) ∧ J u) ∧ ∀ u, J u → xM l G yX9_number cX9_number 2 (Option.some Jvm.ClassFile.FieldType.int) 1 22 [.ref (G.2.1 37), .int q] u (fun r w => r = some (.int v) ∧ oI w ∧ xgI w 37 0 = k ∧ (k = 0 → xgL w 60 0 = v.toInt64)) := by
  obtain ⟨D, C, z, t, g, hw, hx, hc, hr⟩ := hI
  by_cases c : xLt q (oZ C)
  · obtain ⟨j, hj, rfl⟩ := c
    exact n_okI (w_number (I := fun u => oIc D C z t g u ∧ oKc σ u) (o_number hw hc hj)) hr (fun u h => o_numberR hw h hj) hw hx
  · exact n_noI (w_numberT (t_X8_number hl c hc.2.2.2.2.1.1.1.1 hw.2.1.1.1)) hc (o_numberT hw hr c) hw hx
theorem n_best {l : Launch} {G : xG} (hl : l.stackTraces = false) {σ : xS} (hI : oI σ) : ∃ (k : Int32) (v : Int64) (J : xS → Prop), xMw l G yL_best cL_best 3 (Option.some Jvm.ClassFile.FieldType.int) [(0, 7, 10, 30)] 7 103 [.ref (G.2.1 0), .ref (G.2.1 60)] σ (fun r u => r = some (.int k) ∧ J u) ∧ ∀ u, J u → xM l G yX9_best cX9_best 1 (Option.some Jvm.ClassFile.FieldType.long) 2 45 [.ref (G.2.1 37)] u (fun r w => r = some (.long v) ∧ oI w ∧ xgI w 37 0 = k ∧ (k = 0 → xgL w 60 0 = v)) := by
  obtain ⟨D, C, z, t, g, hw, hx, hc, hr⟩ := hI
  have e0 := kPrf_e (L := 0) hw.1 hw.2.1 hc.2.2.2.2.1
  have e1 := kPrf_e (L := 1) hw.1 hw.2.1 hc.2.2.2.2.1
  have hn := hw.2.1.1.2.1
  have hrc := hc.2.2.2.2.1.1.2.2.1.1
  by_cases c : oPrf C 0 = -1
  · by_cases c1 : oPrf C 1 = -1
    · exact n_noL (w_bestT (t_X8_best1 hl hn hrc (e0.trans c) (e1.trans c1))) hc (o_bestT hw hr (Or.inr c1)) hw hx
    · obtain ⟨w, w1, w2, w3⟩ := oBest c1
      exact n_okL (w_best (I := fun u => oIc D C z t g u ∧ oKc σ u) (o_best hw hc c w1 w2 w3)) hr (fun u h => o_bestR hw h c w1 w2 w3) hw hx
  · exact n_noL (w_bestT (t_X8_best0 hl hn hrc (by rw [e0]; exact c))) hc (o_bestT hw hr (Or.inl c)) hw hx
theorem n_least {l : Launch} {G : xG} (hl : l.stackTraces = false) {σ : xS} (hI : oI σ) : ∃ (k : Int32) (v : Int64) (J : xS → Prop), xMw l G yL_least cL_least 3 (Option.some Jvm.ClassFile.FieldType.int) [(0, 7, 10, 30)] 7 115 [.ref (G.2.1 0), .ref (G.2.1 60)] σ (fun r u => r = some (.int k) ∧ J u) ∧ ∀ u, J u → xM l G yX9_least cX9_least 9 (Option.some Jvm.ClassFile.FieldType.long) 1 25 [.ref (G.2.1 37)] u (fun r w => r = some (.long v) ∧ oI w ∧ xgI w 37 0 = k ∧ (k = 0 → xgL w 60 0 = v)) := by
  obtain ⟨D, C, z, t, g, hw, hx, hc, hr⟩ := hI
  cases c : oLe D C (oNr C) with
  | none => exact n_noL (w_leastT (t_X8_least hl hc.2.1.1 rfl hw.2.1.1.2.1 hc.2.2.2.2.1.1.2.2.1.1 ((kGb_e hw.1 hw.2.1 hc.2.1 hc.2.2.2.2.1 (oNr C) (Nat.le_refl _)).1 c))) hc (o_leastT hw hx.2.1 hr c) hw hx
  | some b => exact n_okL (w_least (I := fun u => oIc D C z t g u ∧ oKc σ u) (o_least hw hc c)) hr (fun u h => o_leastR hw hx.2.1 h c) hw hx
theorem n_row {l : Launch} {G : xG} (hl : l.stackTraces = false) {σ : xS} {q i : Int32} (hI : oI σ) : ∃ (k : Int32) (v : Int64) (J : xS → Prop), xMw l G yL_row cL_row 5 (Option.some Jvm.ClassFile.FieldType.int) [(0, 9, 12, 13)] 8 126 [.ref (G.2.1 0), .int q, .int i, .ref (G.2.1 60)] σ (fun r u => r = some (.int k) ∧ J u) ∧ ∀ u, J u → xM l G yX9_row_ cX9_row_ 3 (Option.some Jvm.ClassFile.FieldType.long) 1 26 [.ref (G.2.1 37), .int q, .int i] u (fun r w => r = some (.long v) ∧ oI w ∧ xgI w 37 0 = k ∧ (k = 0 → xgL w 60 0 = v)) := by
  obtain ⟨D, C, z, t, g, hw, hx, hc, hr⟩ := hI
  have hn := hw.2.1.1.2.1
  have hrc := hc.2.2.2.2.1.1.2.2.1.1
  by_cases c : xLt q (oNr C)
  · obtain ⟨w, hj, rfl⟩ := c
    by_cases c1 : xLt i (oV D) ∨ ¬ xIn i 8 13 = 0
    · exact n_okL (w_row (I := fun u => oIc D C z t g u ∧ oKc σ u) (o_row hw hc hj c1)) hr (fun u h => o_rowR hw h hj c1) hw hx
    · have c2 : ¬ xLt i (oV D) := fun h => c1 (Or.inl h)
      have c3 : xIn i 8 13 = 0 := Classical.byContradiction (fun h => c1 (Or.inr h))
      exact n_noL (w_rowT (t_X8_rowW hl hc.2.1.1 rfl hn hrc hj hc.2.1.2.1.1 hw.1.1.1 c2 (xIn_i c3))) hc (o_rowT hw hr (Or.inr ⟨c2, c3⟩)) hw hx
  · exact n_noL (w_rowT (t_X8_rowR hl hn hrc c)) hc (o_rowT hw hr (Or.inl c)) hw hx
theorem n_assumes {l : Launch} {G : xG} (hl : l.stackTraces = false) {σ : xS} {q i : Int32} (hI : oI σ) : ∃ (k : Int32) (v : Int32) (J : xS → Prop), xMw l G yL_assumes cL_assumes 5 (Option.some Jvm.ClassFile.FieldType.int) [(0, 10, 13, 13)] 8 125 [.ref (G.2.1 0), .int q, .int i, .ref (G.2.1 60)] σ (fun r u => r = some (.int k) ∧ J u) ∧ ∀ u, J u → xM l G yX9_assumes_ cX9_assumes_ 5 (Option.some Jvm.ClassFile.FieldType.int) 1 22 [.ref (G.2.1 37), .int q, .int i] u (fun r w => r = some (.int v) ∧ oI w ∧ xgI w 37 0 = k ∧ (k = 0 → xgL w 60 0 = v.toInt64)) := by
  obtain ⟨D, C, z, t, g, hw, hx, hc, hr⟩ := hI
  have hn := hw.2.1.1.2.1
  have hrc := hc.2.2.2.2.1.1.2.2.1.1
  by_cases c : xLt q (oNr C)
  · obtain ⟨w, hj, rfl⟩ := c
    exact n_okI (w_assumes (I := fun u => oIc D C z t g u ∧ oKc σ u) (o_assumes hw hc hj)) hr (fun u h => o_assumesR hw h hj) hw hx
  · exact n_noI (w_assumesT (t_X8_assumesR hl hn hrc c)) hc (o_assumesT hw hr c) hw hx
theorem n_holds {l : Launch} {G : xG} (hl : l.stackTraces = false) {σ : xS} {q i : Int32} (hI : oI σ) : ∃ (k : Int32) (v : Int32) (J : xS → Prop), xMw l G yL_holds cL_holds 5 (Option.some Jvm.ClassFile.FieldType.int) [(0, 10, 13, 13)] 8 127 [.ref (G.2.1 0), .int q, .int i, .ref (G.2.1 60)] σ (fun r u => r = some (.int k) ∧ J u) ∧ ∀ u, J u → xM l G yX9_holds cX9_holds 5 (Option.some Jvm.ClassFile.FieldType.int) 1 25 [.ref (G.2.1 37), .int q, .int i] u (fun r w => r = some (.int v) ∧ oI w ∧ xgI w 37 0 = k ∧ (k = 0 → xgL w 60 0 = v.toInt64)) := by
  obtain ⟨D, C, z, t, g, hw, hx, hc, hr⟩ := hI
  have hn := hw.2.1.1.2.1
  have hrc := hc.2.2.2.2.1.1.2.2.1.1
  by_cases c : xLt q (oNr C)
  · obtain ⟨w, hj, rfl⟩ := c
    by_cases c1 : xLt i (oNp D)
    · obtain ⟨j, hp, rfl⟩ := c1
      exact n_okI (w_holds (I := fun u => oIc D C z t g u ∧ oKc σ u) (o_holds hw hc hj hp)) hr (fun u h => o_holdsR hw h hj hp) hw hx
    · exact n_noI (w_holdsT (t_X8_holdsP hl hn hrc hj hw.1.1.2.2.2 hc.2.1.2.2.2.2.2.1 c1)) hc (o_holdsT hw hr (Or.inr c1)) hw hx
  · exact n_noI (w_holdsT (t_X8_holdsR hl hn hrc c)) hc (o_holdsT hw hr (Or.inl c)) hw hx
theorem n_trim {l : Launch} {G : xG} (hl : l.stackTraces = false) {σ : xS} {q : Int32} (hI : oI σ) : ∃ (k : Int32) (v : Int32) (J : xS → Prop), xMw l G yL_trim cL_trim 4 (Option.some Jvm.ClassFile.FieldType.int) [(0, 9, 12, 13)] 8 177 [.ref (G.2.1 0), .int q, .ref (G.2.1 60)] σ (fun r u => r = some (.int k) ∧ J u) ∧ ∀ u, J u → xM l G yX9_trim cX9_trim 12 (Option.some Jvm.ClassFile.FieldType.int) 4 102 [.ref (G.2.1 37), .int q] u (fun r w => r = some (.int v) ∧ oI w ∧ xgI w 37 0 = k ∧ (k = 0 → xgL w 60 0 = v.toInt64)) := by
  obtain ⟨D, C, z, t, g, hw, hx, hc, hr⟩ := hI
  have hn := hw.2.1.1.2.1
  have hrc := hc.2.2.2.2.1.1.2.2.1.1
  by_cases c : xLt q (oNr C)
  · obtain ⟨w, hj, rfl⟩ := c
    exact n_okI (w_trim (I := fun u => oIc D (oTrm D C w) z t 1 u ∧ oKc σ u) (o_trim hw hx.2.2.1 hc hj)) hr (fun u h => o_trimR hw h hj) ⟨hw.1, oTrm_w.1, hw.2.2⟩ ⟨hx.1, hx.2.1, oTrm_w.2, fun _ => (oTks_3 oNew_w _).trans rfl⟩
  · exact n_noI (w_trimT (t_X8_trimR hl hn hrc c)) hc (o_trimT hw hr c) hw hx
