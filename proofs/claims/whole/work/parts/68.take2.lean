/-! take -/
theorem nI_sub2 {a b c : Nat} (h : a + b = c) : nI c - nI b = nI a := by
  rw [← h, ← nI_add, Int32.add_sub_cancel]
theorem dFlt_e {D : oMd} {σ : xS} {c n nr nb : Nat} {a x : Int32} (hm : oCm D σ c) (hwm : oWm D) (h0 : ¬ n = 0 → xgI σ 12 0 = a) : dFlt σ c nr nb (oNp D) (oV D) (oN D) (oM D) (dMean (xgI σ 12 0) (nI n)) x = oFlt D nr nb a n x := by
  rw [dFlt_G, show dGood σ c (oNp D) (oN D) (oM D) x = oGood D x from propext (dGood_e hm hwm)]
  exact oFlt_k (D := D) h0
theorem oCm_u {D : oMd} {σ τ : xS} {c : Nat} (hwm : oWm D) (h : oCm D σ c) (hu : oCu σ τ) : oCm D τ c := oCm_c h hwm.1.2.1 hwm.1.2.2.1 hwm.1.2.2.2 (fun a b hab => hu.1 a b (by omega) (by omega) (by omega) (by omega) (by omega) (by omega) (by omega) (by omega) (by omega))
/-- the draft's kind -/
theorem oDr_q {D : oMd} {C : oCt} (h : oWc D C) (e1 : oFa C = 0) (hn : ¬ oDr C = 0) : ∃ q, q < 10 ∧ oPa C 0 = nI q := by
  have g := (h.2.2.2.2 e1).1 0 (by omega)
  rw [oFlt_0] at g
  obtain ⟨⟨q, q1, q2, -⟩, -⟩ := dKind_0 g h.1.2.1
  exact ⟨q, q1, q2⟩
theorem oDr_10 {D : oMd} {C : oCt} (h : oWc D C) (e1 : oFa C = 0) : oDr C < 10 := by
  obtain ⟨g, nw⟩ := h.2.2.2.2 e1
  by_cases c : oDr C < 2
  · omega
  · obtain ⟨q, q1, q2⟩ := oDr_q h e1 (by omega)
    have hqn : oNn (oPa C) 0 = q := by unfold oNn; rw [q2, nI_clamp (by omega)]
    have hL : oLen (oPa C) ≤ 10 := by
      unfold oLen
      refine (dL_b (fun e => ?_)).2
      have g1 := g 1 (by omega)
      rw [q2] at g1
      rw [hqn] at e
      subst e
      obtain ⟨j, j1, j2, ej⟩ := oPl_cnt q1 (by omega) (by omega) rfl g1
      unfold oNn
      rw [ej, nI_clamp (by omega)]
      exact j2
    have : ¬ oLen (oPa C) ≤ oDr C := fun z => nw ⟨by omega, z⟩
    omega
theorem oFit_e {br : Nat → Nat} {nb : Nat} {u : xS} {i : Nat} {w : oRow} (h : oCr br nb u i w) : rFits u i ↔ oFit w := by
  unfold rFits oFit
  rw [h.2.1]
  constructor
  · rintro ⟨z1, z2⟩
    exact ⟨fun v hv => by rw [← h.1 v hv]; exact z1 v hv, z2⟩
  · rintro ⟨z1, z2⟩
    exact ⟨fun v hv => by rw [h.1 v hv]; exact z1 v hv, z2⟩
/-- no number but the one at z has changed -/
def oC7 (z : Nat) (σ t : xS) : Prop := ∀ i, i ≠ z → xgI t 7 i = xgI σ 7 i
theorem oC7.tr {z : Nat} {σ τ ρ : xS} (h : oC7 z σ τ) (k : oC7 z τ ρ) : oC7 z σ ρ := fun i hi => (k i hi).trans (h i hi)
theorem oC7.rf {z : Nat} {σ : xS} : oC7 z σ σ := fun _ _ => rfl
theorem oC7_fail {z y : Nat} {σ : xS} {a b : Int32} : oC7 z σ (cFail σ a b y) := fun i _ => by
  unfold cFail
  rw [xgI_n (by omega), xgI_n (by omega), xgI_n (by omega)]
theorem oC7_put {z : Nat} {σ : xS} {x : Int32} : oC7 z σ (cPut σ z x) := fun i hi => by
  unfold cPut
  rw [xgI_n (by omega), xgI_n (by omega)]
theorem oC7_add {z n : Nat} {σ : xS} {x : Int32} : oC7 z σ (cAdd σ n x) := fun i _ => by
  unfold cAdd
  rw [xgI_n (by omega), xgI_n (by omega)]
theorem oC7_off {z i : Nat} {σ τ : xS} (h : xOff i σ τ) : oC7 z σ τ := fun _ _ => h.1 _ _ (by omega)
theorem oC7_keep {z nr nb : Nat} {u : xS} : oC7 z u (xsI (kKeep u nr nb) 11 1 0) := fun i _ => by
  unfold kKeep
  rw [xgI_n (by omega), xgI_n (by omega)]
  split
  · rw [xgI_n (by omega), xgI_n (by omega), xgI_L]
  · rfl
theorem o_take7 {l : Launch} {G : xG} {σ : xS} {D : oMd} {c : Nat} {C : oCt} {x : Int32} (hm : oCm D σ c) (hwm : oWm D) (hW : oWc D C) (hC : oCc C σ) : xM l G yX0_take cX0_take 6 (Option.none : Option Jvm.ClassFile.FieldType) 5 129 [.ref (G.2.1 6), .int x, .ref (G.2.1 c), .ref (G.2.1 3)] σ (fun r t => r = none ∧ oCc (oTake D C x) t ∧ oCu σ t ∧ oC7 (oZ C) σ t) := by
  have m0 := hm.1
  obtain ⟨hn0, hdr⟩ := hC
  have hn00 := hn0
  obtain ⟨⟨a1, a2, a3, a4⟩, b1, ⟨c1, c2, c3⟩, dd⟩ := hn0
  have hW0 := hW
  obtain ⟨⟨w1, w2, w3, w4, w5⟩, w6, w7, w8, w9⟩ := hW
  unfold oTake
  by_cases e1 : oFa C = 0
  · rw [if_neg (fun z => z e1)]
    have hf0 : xgI σ 6 3 = 0 := a2.trans e1
    by_cases e2 : oZ C = 1500
    · rw [if_pos e2]
      refine xM.mono (c_X0_takeE m0 hf0 (by rw [a1, e2])) (fun r t h => ⟨h.1, ?_, ?_, ?_⟩)
      · rw [h.2, c1]
        exact oCc_fail w2 (by decide) hn00
      · rw [h.2]
        exact oCu_fail
      · rw [h.2]
        exact oC7_fail
    · rw [if_neg e2]
      by_cases e3 : oZ C = 0
      · rw [if_pos e3]
        obtain ⟨z1, -⟩ := w6 e3
        have hf1 : oRf C (oNr C) = 1 := by rw [z1]; exact w5
        have hp0 := oCn_put (x := x) w2 hn00
        rw [e3] at hp0
        refine xM.mono (c_X0_takeD m0 hf0 (by rw [a1, e3])) (fun r t h => ⟨h.1, ?_⟩)
        rw [h.2, hm.2.1.2.2.2]
        by_cases ex : x = oDg D
        · rw [if_pos ex, if_pos ex]
          refine ⟨⟨hp0, fun _ => ?_⟩, oCu_put, by rw [e3]; exact oC7_put⟩
          have d0 : oDr (oPut C x) = 0 := by unfold oDr; show oZ C + 1 - oRf C (oNr C) = 0; omega
          have d1 : oDr C = 0 := by unfold oDr; omega
          rw [d0]
          refine ⟨?_, fun i hi => absurd hi (by omega)⟩
          have := (hdr e1).1
          rw [d1] at this
          unfold cPut
          rw [xgI_n (by omega), xgI_n (by omega)]
          exact this
        · rw [if_neg ex, if_neg ex]
          exact ⟨oCc_fail (z := 0) w2 (by decide) hp0, oCu_put.tr oCu_fail, by rw [e3]; exact oC7_put.tr oC7_fail⟩
      · rw [if_neg e3]
        have hf := w7 (by omega)
        have hz : oZ C < 1500 := by omega
        have hd10 := oDr_10 hW0 e1
        obtain ⟨h11, h12⟩ := hdr e1
        have hu1 : oCu σ (cPut σ (oZ C) x) := oCu_put
        have hm1 := oCm_u hwm hm hu1
        have hn1 := oCn_put (x := x) w2 hn00
        have q11 : xgI (cPut σ (oZ C) x) 11 1 = nI (oDr C) := by
          unfold cPut
          rw [xgI_n (by omega), xgI_n (by omega)]
          exact h11
        have q12 : ∀ i, xgI (cPut σ (oZ C) x) 12 i = xgI σ 12 i := fun i => by
          unfold cPut
          rw [xgI_n (by omega), xgI_n (by omega)]
        have h0 : ¬ oDr C = 0 → xgI (cPut σ (oZ C) x) 12 0 = oPa C 0 := fun z => by rw [q12]; exact h12 0 (by omega)
        have hflt : dFlt (cPut σ (oZ C) x) c (oNr C) (oNb C) (oNp D) (oV D) (oN D) (oM D) (dMean (xgI (cPut σ (oZ C) x) 12 0) (nI (oDr C))) x = oFlt D (oNr C) (oNb C) (oPa C 0) (oDr C) x := dFlt_e hm1 hwm h0
        have hq : nI (oDr C) = 0 ∨ ∃ z : Nat, z < 10 ∧ xgI (cPut σ (oZ C) x) 12 0 = nI z := by
          by_cases z : oDr C = 0
          · left; rw [z]; rfl
          · obtain ⟨q, q1, q2⟩ := oDr_q hW0 e1 z
            exact Or.inr ⟨q, q1, (h0 z).trans q2⟩
        have hT : ∀ t, t < oM D → ∃ P, P ≤ 20 ∧ xgI (cPut σ (oZ C) x) (c + 8) t = nI P := fun t ht => ⟨oPs D t, (hwm.2.2.2.2 t ht).2.2, (hm1.2.2.2.2.1 t ht).2.2.1⟩
        have z83 : xgI (cPut σ (oZ C) x) 8 3 = nI (oNr C) := hn1.2.2.1.1
        have z84 : xgI (cPut σ (oZ C) x) 8 4 = nI (oNb C) := hn1.2.2.1.2.1
        by_cases e4 : oFlt D (oNr C) (oNb C) (oPa C 0) (oDr C) x = 0
        · rw [if_neg (fun z => z e4)]
          have good : ∀ k, k < oDr C + 1 → oFlt D (oNr C) (oNb C) (oPa (oPut C x) 0) k (oPa (oPut C x) k) = 0 := by
            intro k hk
            have g0 : ¬ k = 0 → oPa (oPut C x) 0 = oPa C 0 := fun z => oPut_a (by unfold oDr at hk; omega)
            rw [oFlt_k g0]
            by_cases e : k = oDr C
            · rw [e, oPut_d hf]
              exact e4
            · rw [oPut_a (by unfold oDr at hk e; omega)]
              exact (w9 e1).1 k (by omega)
          have g0 := good 0 (by omega)
          rw [oFlt_0] at g0
          obtain ⟨⟨q, q1, q2, q3⟩, hr200⟩ := dKind_0 g0 w2
          have hqn : oNn (oPa (oPut C x)) 0 = q := by unfold oNn; rw [q2, nI_clamp (by omega)]
          have hq2 : 1 ≤ oDr C → xgI (cPut σ (oZ C) x) 12 0 = nI q ∧ q < 10 := fun z => by
            rw [h0 (by omega)]
            refine ⟨?_, q1⟩
            rw [← q2]
            exact (oPut_a (x := x) (i := 0) (by unfold oDr at z; omega)).symm
          have hk2 : 1 ≤ oDr C → q = 4 → (if oDr C = 1 then x else xgI (cPut σ (oZ C) x) 12 1) = nI (oNn (oPa (oPut C x)) 1) ∧ oNn (oPa (oPut C x)) 1 ≤ 4 := fun z e => by
            have g1 := good 1 (by omega)
            rw [q2, e] at g1
            obtain ⟨j, j1, j2, ej⟩ := oPl_cnt (by omega) (by omega) (by omega) rfl g1
            have en : oNn (oPa (oPut C x)) 1 = j := by unfold oNn; rw [ej, nI_clamp (by omega)]
            rw [en]
            refine ⟨?_, j2⟩
            by_cases o1 : oDr C = 1
            · rw [if_pos o1, ← ej, ← o1, oPut_d hf]
            · rw [if_neg o1, q12, h12 1 (by omega), ← ej]
              exact (oPut_a (x := x) (i := 1) (by unfold oDr at z o1; omega)).symm
          have p12 : ∀ i, i < oDr C + 1 → xgI (cAdd (cPut σ (oZ C) x) (oDr C) x) 12 i = oPa (oPut C x) i := fun i hi => by
            unfold cAdd
            rw [xgI_n (by omega), xgI_i]
            by_cases e : i = oDr C
            · rw [if_pos ⟨rfl, e⟩, e, oPut_d hf]
            · rw [if_neg (fun z => e z.2), q12, h12 i (by omega)]
              exact (oPut_a (by unfold oDr at hi e; omega)).symm
          have p11 : xgI (cAdd (cPut σ (oZ C) x) (oDr C) x) 11 1 = nI (oDr C + 1) := by
            unfold cAdd
            rw [xgI_s]
          have hn2 : oCn (oPut C x) (cAdd (cPut σ (oZ C) x) (oDr C) x) := oCn_add w2 hn1
          by_cases e5 : 2 ≤ oDr C + 1 ∧ oLen (oPa (oPut C x)) ≤ oDr C + 1
          · rw [if_neg (fun z => z e5)]
            have hL : oLen (oPa (oPut C x)) = oDr C + 1 := by
              have hb := oLen_b (p := oPa (oPut C x))
              by_cases z : 2 ≤ oDr C
              · have := (w9 e1).2
                have e : oLen (oPa (oPut C x)) = oLen (oPa C) := by
                  unfold oLen oNn
                  unfold oDr at z
                  rw [oPut_a (by omega), oPut_a (by omega)]
                rw [← e] at this
                have : ¬ oLen (oPa (oPut C x)) ≤ oDr C := fun y => this ⟨z, y⟩
                omega
              · omega
            have hfo := cFr_off (cPut σ (oZ C) x) (oDr C) (oNr C) (oZ C + 1) x
            have hn3 : oCn (oPut C x) (cFr (cPut σ (oZ C) x) (oDr C) (oNr C) (oZ C + 1) x) := oCn_off (i := oNr C) (by omega) (Nat.le_refl _) hn2 hfo
            have hu3 : oCu σ (cFr (cPut σ (oZ C) x) (oDr C) (oNr C) (oZ C + 1) x) := hu1.tr (oCu_add.tr (oCu.off (by omega) hfo))
            have hc3 : oCr (oBr C) (oNb C) (cFr (cPut σ (oZ C) x) (oDr C) (oNr C) (oZ C + 1) x) (oNr C) oNil := by
              unfold cFr
              exact oCr_c (σ := rClear (cAdd (cPut σ (oZ C) x) (oDr C) x) (oNr C)) (fun v _ => rfl) rfl rfl (by rw [xgI_n (by omega)]) rfl (oCr_clear (by omega))
            have k6 : xgI (cFr (cPut σ (oZ C) x) (oDr C) (oNr C) (oZ C + 1) x) (61 + oNr C) 6 = nI (oRf C (oNr C)) := by
              unfold cFr
              rw [xgI_s]
              exact nI_sub2 (by unfold oDr; omega)
            have hMk := o_make (l := l) (G := G) (R := oRw C) (p := oPa (oPut C x)) (br := oBr C) (nb := oNb C) (nb2 := oNb C) (i := oNr C) (n := oDr C + 1) (q := q) (oCm_u hwm hm hu3) hwm hr200 ((hfo.1 _ _ (by omega)).trans p11) hL.symm (fun k hk => (hfo.1 _ _ (by omega)).trans (p12 k hk)) hn3.2.2.1.1 hc3 q2 q1 (fun k hk => good k (by omega)) (fun r hr => by
              obtain ⟨d1, d2, d3, d4, d5⟩ := hn3.2.2.2 r hr
              have hg := oWc_g hwm hW0 (r + 1) r (by omega) hr
              obtain ⟨qq, qq1, qq2, qq3, -⟩ := oRk_q (R := oRw C) (w8 r hr).2.2.1.1 (by omega)
              have d2' : xgI (cFr (cPut σ (oZ C) x) (oDr C) (oNr C) (oZ C + 1) x) (61 + r) 5 = oPr C r 0 := d2
              refine ⟨d1, ?_, ?_⟩
              · rw [d2', hg.2.2.1]
                by_cases k : oNn (oPr C r) 0 = 6
                · rw [if_pos k]
                  refine ⟨fun _ => by simp, fun _ => ?_⟩
                  rw [qq2, ← qq3, k]
                  rfl
                · rw [if_neg k]
                  refine ⟨fun z => absurd ?_ k, fun z => absurd rfl z⟩
                  rw [qq2] at z
                  rw [qq3]
                  exact (nI_eq (a := qq) (b := 6) (by omega) (by omega)).mp z
              · intro v b s hB
                rw [hg.2.2.1] at hB
                by_cases k : oNn (oPr C r) 0 = 6
                · rw [if_pos k] at hB
                  cases hB
                  exact d5 k
                · rw [if_neg k] at hB
                  cases hB)
            have hJ := c_X0_judgeW (q := q) (k := oNn (oPa (oPut C x)) 1) (z0 := oZ C + 1) m0 hm1.2.1.1 hwm.1.1 hm1.2.1.2.1 hwm.1.2.1 hm1.2.1.2.2.1 hwm.1.2.2.1 hT hwm.1.2.2.2 hm1.2.2.2.2.2.1 w2 z83 w3 z84 q11 hq hd10 (by rw [hflt]; exact e4) hq2 hk2 (by rw [← hqn]; exact e5) hr200 hn1.1.1 (fun z => by have := q3 z; omega) hMk (fun y t h => ⟨h.2.1, fun z => by rw [(h.2.2 z).2.1, q2]⟩)
            refine xM.mono (c_X0_takeJ (z0 := oZ C) m0 hf0 a1 (by omega) hz hJ (fun r t h => ?_)) (fun r t h => ?_)
            · obtain ⟨x', u', -, g⟩ := h
              rcases g with ⟨-, g, -⟩ | ⟨-, -, g, -⟩ | ⟨-, -, g, -⟩
              · exact ⟨_, g⟩
              · exact ⟨_, g⟩
              · exact ⟨_, g⟩
            · obtain ⟨hr1, y, u, ⟨x', u', hPM, g⟩, ht⟩ := h
              refine ⟨hr1, ?_⟩
              obtain ⟨p1, p2, p3⟩ := hPM
              have hn4 : oCn (oPut C x) u' := oCn_off (i := oNr C) (by omega) (Nat.le_refl _) hn3 p2
              have hu4 : oCu σ u' := hu3.tr (oCu.off (by omega) p2)
              have h74 : oC7 (oZ C) σ u' := (oC7_put.tr (oC7_add.tr (oC7_off hfo))).tr (oC7_off p2)
              have z4 : xgI u' 8 3 = nI (oNr C) := hn4.2.2.1.1
              rcases g with ⟨g1, g2, g3⟩ | ⟨g1, g2, g3, g4⟩ | ⟨g1, g2, g3, g4⟩
              · cases g2
                rw [← p1, if_pos g1]
                rcases ht with ⟨t1, -⟩ | ⟨-, t2⟩
                · exact absurd t1 g1
                · rw [t2, g3, z4]
                  exact ⟨oCc_fail (C := oPut C x) w2 g1 hn4, hu4.tr oCu_fail, h74.tr oC7_fail⟩
              · cases g3
                have hw := (p3 g1).1
                rw [← p1, if_neg (fun z => z g1), oIf_f (fun z => g2 ((oFit_e hw).mpr z))]
                rcases ht with ⟨t1, -⟩ | ⟨-, t2⟩
                · exact absurd t1 (by decide)
                · rw [t2, g4, z4]
                  exact ⟨oCc_fail (C := oPut C x) w2 (by decide) hn4, hu4.tr oCu_fail, h74.tr oC7_fail⟩
              · cases g3
                obtain ⟨hw, k5, k7, k6', kb⟩ := p3 g1
                rw [← p1, if_neg (fun z => z g1), oIf_t ((oFit_e hw).mp g2)]
                rcases ht with ⟨-, t1⟩ | ⟨t1, -⟩
                · rw [t1, g4]
                  refine ⟨oCn_keep (C := oPut C x) (f := oRf C (oNr C)) hr200 w3 (fun z => by have := q3 (hqn.symm.trans z); show oNb C < 60; omega) (fun i hi => (oWc_b hW0 hi).1) (fun r hr => ?_) hn4 hw k5 ⟨q, q1, q2⟩ (k6'.trans k6) rfl (by rw [hL]; exact k7) kb, hu4.tr (oCu_keep hr200), h74.tr oC7_keep⟩
                  have hr' : r < oNr C := hr
                  cases hs : oS (oRw (oPut C x) r) (oNr (oPut C x)) with
                  | false => rfl
                  | true =>
                    have := ((oWc_g hwm hW0 (r + 1) r (by omega) hr').2.1 (oNr C) hs).1
                    omega
                · exact absurd rfl t1
          · rw [if_pos e5]
            have hJ := c_X0_judgeN (l := l) (G := G) (q := q) (k := oNn (oPa (oPut C x)) 1) m0 hm1.2.1.1 hwm.1.1 hm1.2.1.2.1 hwm.1.2.1 hm1.2.1.2.2.1 hwm.1.2.2.1 hT hwm.1.2.2.2 hm1.2.2.2.2.2.1 w2 z83 w3 z84 q11 hq hd10 (by rw [hflt]; exact e4) hq2 hk2 (by rw [← hqn]; exact e5)
            refine xM.mono (c_X0_takeJ (z0 := oZ C) m0 hf0 a1 (by omega) hz hJ (fun r t h => ⟨_, h.1⟩)) (fun r t h => ?_)
            obtain ⟨hr1, y, u, ⟨g1, g2⟩, ht⟩ := h
            refine ⟨hr1, ?_⟩
            cases g1
            rcases ht with ⟨-, t1⟩ | ⟨t1, -⟩
            · rw [t1, g2]
              exact ⟨⟨hn2, fun _ => by rw [oPut_n hf]; exact ⟨p11, p12⟩⟩, hu1.tr oCu_add, oC7_put.tr oC7_add⟩
            · exact absurd rfl t1
        · rw [if_pos e4]
          have hJ := c_X0_judgeF (l := l) (G := G) (x := x) m0 hm1.2.1.1 hwm.1.1 hm1.2.1.2.1 hwm.1.2.1 hm1.2.1.2.2.1 hwm.1.2.2.1 hT hwm.1.2.2.2 hm1.2.2.2.2.2.1 w2 z83 w3 z84 q11 hq (by rw [hflt]; exact e4)
          refine xM.mono (c_X0_takeJ (z0 := oZ C) m0 hf0 a1 (by omega) hz hJ (fun r t h => ⟨_, h.1⟩)) (fun r t h => ?_)
          obtain ⟨hr1, y, u, ⟨g1, g2⟩, ht⟩ := h
          refine ⟨hr1, ?_⟩
          cases g1
          rcases ht with ⟨t1, -⟩ | ⟨-, t2⟩
          · rw [hflt] at t1
            exact absurd t1 e4
          · rw [t2, g2, z83, hflt]
            exact ⟨oCc_fail (C := oPut C x) w2 e4 hn1, hu1.tr oCu_fail, oC7_put.tr oC7_fail⟩
  · rw [if_pos e1]
    refine xM.mono (c_X0_takeF m0 (by rw [a2]; exact e1)) (fun r t h => ⟨h.1, ?_, ?_, ?_⟩)
    · rw [h.2]
      exact ⟨hn00, hdr⟩
    · rw [h.2]
      exact oCu.rf
    · rw [h.2]
      exact oC7.rf
theorem o_take {l : Launch} {G : xG} {σ : xS} {D : oMd} {c : Nat} {C : oCt} {x : Int32} (hm : oCm D σ c) (hwm : oWm D) (hW : oWc D C) (hC : oCc C σ) : xM l G yX0_take cX0_take 6 (Option.none : Option Jvm.ClassFile.FieldType) 5 129 [.ref (G.2.1 6), .int x, .ref (G.2.1 c), .ref (G.2.1 3)] σ (fun r t => r = none ∧ oCc (oTake D C x) t ∧ oCu σ t) :=
  xM.mono (o_take7 hm hwm hW hC) (fun r t h => ⟨h.1, h.2.1, h.2.2.1⟩)
