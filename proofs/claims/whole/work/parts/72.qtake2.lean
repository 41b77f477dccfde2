/-! The reference's certificate is C -/
/-- where the row under way begins; a certificate that was never begun (mark 0 at place 300) has 0 there -/
def oFr (C : oCt) : Nat := if oRf C 300 = 0 then 0 else oRf C (oNr C)
theorem oFr_1 {C : oCt} (h : oRf C 300 = 1) : oFr C = oRf C (oNr C) := by unfold oFr; rw [if_neg (by omega)]
theorem oTake_3 {D : oMd} {C : oCt} {x : Int32} (h : oNr C ≤ 200) : oRf (oTake D C x) 300 = oRf C 300 := by
  unfold oTake
  split
  · rfl
  · split
    · rfl
    · split
      · split <;> rfl
      · split
        · rfl
        · split
          · rfl
          · split
            · rfl
            · by_cases c : oFit (oMake D (oRw C) (oPa (oPut C x))).2
              · rw [oIf_t c]
                exact if_neg (show ¬ 300 = oNr C + 1 by omega)
              · rw [oIf_f c]
                rfl
def oRc (C : oCt) (σ : xS) : Prop := (xgI σ 37 20 = nI (oZ C) ∧ xgI σ 37 22 = oFa C ∧ xgI σ 37 23 = oFb C ∧ xgI σ 37 24 = oFc C) ∧ (∀ i, i < oZ C → xgI σ 50 i = oU C i) ∧ (xgI σ 37 26 = nI (oNr C) ∧ xgI σ 37 27 = nI (oNb C) ∧ xgI σ 37 25 = nI (oFr C)) ∧ (∀ r, r < oNr C → oQr σ r (oRw C r) ∧ xgI σ 51 r = nI (oRf C r))
/-- only the certificate's cells have changed -/
def oRv (σ τ : xS) : Prop := (∀ a b, a ≠ 50 → a ≠ 51 → a ≠ 54 → a ≠ 56 → ¬ (a = 37 ∧ 20 ≤ b ∧ b ≤ 27) → xgI τ a b = xgI σ a b) ∧ (∀ a b, a ≠ 52 → a ≠ 53 → a ≠ 55 → xgL τ a b = xgL σ a b) ∧ xgC τ = xgC σ ∧ xgD τ = xgD σ
theorem oRv.rf {σ : xS} : oRv σ σ := ⟨fun _ _ _ _ _ _ _ => rfl, fun _ _ _ _ _ => rfl, rfl, rfl⟩
theorem oRv.tr {σ τ ρ : xS} (h : oRv σ τ) (k : oRv τ ρ) : oRv σ ρ := ⟨fun a b h1 h2 h3 h4 h5 => (k.1 a b h1 h2 h3 h4 h5).trans (h.1 a b h1 h2 h3 h4 h5), fun a b h1 h2 h3 => (k.2.1 a b h1 h2 h3).trans (h.2.1 a b h1 h2 h3), k.2.2.1.trans h.2.2.1, k.2.2.2.trans h.2.2.2⟩
theorem oRv.I {σ : xS} {a j : Nat} {v : Int32} (h : a = 50 ∨ a = 51 ∨ a = 54 ∨ a = 56 ∨ (a = 37 ∧ 20 ≤ j ∧ j ≤ 27)) : oRv σ (xsI σ a j v) := ⟨fun a' b h1 h2 h3 h4 h5 => xgI_n (by omega), fun _ _ _ _ _ => rfl, rfl, rfl⟩
theorem oRv.of {σ τ : xS} {n : Nat} (h : qOf n σ τ) : oRv σ τ := ⟨fun a b h1 h2 h3 h4 h5 => h.1 a b h3 h4 (by omega), h.2.2.2.1, h.2.2.2.2.2.2.1, h.2.2.2.2.2.2.2⟩
theorem oQm_u {D : oMd} {σ τ : xS} (h : oQm D σ) (hu : oRv σ τ) : oQm D τ := oQm_c h (fun a b hab => hu.1 a b (by omega) (by omega) (by omega) (by omega) (by omega))
theorem oQr_I {σ : xS} {i a j : Nat} {v : Int32} {w : oRow} (ha : a ≠ 54) (ha2 : a ≠ 56) (h : oQr σ i w) : oQr (xsI σ a j v) i w := oQr_c (σ := σ) (fun _ _ => rfl) rfl (fun b _ => xgI_n (by omega)) (xgI_n (by omega)) rfl h
theorem oRc_put {C : oCt} {σ : xS} {x : Int32} (h : oRc C σ) : oRc (oPut C x) (qPt σ (oZ C) x) := by
  obtain ⟨⟨a1, a2, a3, a4⟩, b1, ⟨c1, c2, c3⟩, d⟩ := h
  unfold qPt
  refine ⟨⟨?_, ?_, ?_, ?_⟩, fun i hi => ?_, ⟨?_, ?_, ?_⟩, fun r hr2 => ⟨?_, ?_⟩⟩
  · rw [xgI_s]; rfl
  · rw [xgI_n (by omega), xgI_n (by omega)]; exact a2
  · rw [xgI_n (by omega), xgI_n (by omega)]; exact a3
  · rw [xgI_n (by omega), xgI_n (by omega)]; exact a4
  · have hi : i < oZ C + 1 := hi
    rw [xgI_n (by omega), xgI_i]
    show _ = if i = oZ C then x else oU C i
    by_cases e : i = oZ C
    · rw [if_pos ⟨rfl, e⟩, if_pos e]
    · rw [if_neg (fun z => e z.2), if_neg e, b1 i (by omega)]
  · rw [xgI_n (by omega), xgI_n (by omega)]; exact c1
  · rw [xgI_n (by omega), xgI_n (by omega)]; exact c2
  · rw [xgI_n (by omega), xgI_n (by omega)]; exact c3
  · exact oQr_I (by omega) (by omega) (oQr_I (by omega) (by omega) (d r hr2).1)
  · rw [xgI_n (by omega), xgI_n (by omega)]; exact (d r hr2).2
theorem oRc_fail {C : oCt} {σ : xS} {a b c : Int32} (h : oRc C σ) : oRc (oFail C a b c) (qFails σ a b c) := by
  obtain ⟨⟨a1, a2, a3, a4⟩, b1, ⟨c1, c2, c3⟩, d⟩ := h
  unfold qFails
  refine ⟨⟨?_, ?_, ?_, ?_⟩, fun i hi => ?_, ⟨?_, ?_, ?_⟩, fun r hr2 => ⟨?_, ?_⟩⟩
  · rw [xgI_n (by omega), xgI_n (by omega), xgI_n (by omega)]; exact a1
  · rw [xgI_n (by omega), xgI_n (by omega), xgI_s]; rfl
  · rw [xgI_n (by omega), xgI_s]; rfl
  · rw [xgI_s]; rfl
  · rw [xgI_n (by omega), xgI_n (by omega), xgI_n (by omega)]; exact b1 i hi
  · rw [xgI_n (by omega), xgI_n (by omega), xgI_n (by omega)]; exact c1
  · rw [xgI_n (by omega), xgI_n (by omega), xgI_n (by omega)]; exact c2
  · rw [xgI_n (by omega), xgI_n (by omega), xgI_n (by omega)]; exact c3
  · exact oQr_I (by omega) (by omega) (oQr_I (by omega) (by omega) (oQr_I (by omega) (by omega) (d r hr2).1))
  · rw [xgI_n (by omega), xgI_n (by omega), xgI_n (by omega)]; exact (d r hr2).2
theorem oRv_fail {σ : xS} {a b c : Int32} : oRv σ (qFails σ a b c) := by
  unfold qFails
  exact (oRv.I (by omega)).tr ((oRv.I (by omega)).tr (oRv.I (by omega)))
theorem oRv_put {σ : xS} {z : Nat} {x : Int32} : oRv σ (qPt σ z x) := by
  unfold qPt
  exact (oRv.I (by omega)).tr (oRv.I (by omega))
theorem oRc_of {C : oCt} {σ τ : xS} {n : Nat} (hn : oNr C ≤ n) (h : oRc C σ) (ho : qOf n σ τ) (hb : xgI τ 37 27 = nI (oNb C)) : oRc C τ := by
  obtain ⟨⟨a1, a2, a3, a4⟩, b1, ⟨c1, c2, c3⟩, d⟩ := h
  refine ⟨⟨?_, ?_, ?_, ?_⟩, fun i hi => ?_, ⟨?_, hb, ?_⟩, fun r hr2 => ⟨?_, ?_⟩⟩
  · rw [ho.1 _ _ (by omega) (by omega) (by omega)]; exact a1
  · rw [ho.1 _ _ (by omega) (by omega) (by omega)]; exact a2
  · rw [ho.1 _ _ (by omega) (by omega) (by omega)]; exact a3
  · rw [ho.1 _ _ (by omega) (by omega) (by omega)]; exact a4
  · rw [ho.1 _ _ (by omega) (by omega) (by omega)]; exact b1 i hi
  · rw [ho.1 _ _ (by omega) (by omega) (by omega)]; exact c1
  · rw [ho.1 _ _ (by omega) (by omega) (by omega)]; exact c3
  · exact oQr_of (by omega) ho (d r hr2).1
  · rw [ho.1 _ _ (by omega) (by omega) (by omega)]; exact (d r hr2).2
theorem oRc_keep {C : oCt} {σ u : xS} {p : Nat → Int32} {w : oRow} (h : oRc C σ) (ho : qOf (oNr C) σ u) (hb : xgI u 37 27 = nI (oNb C + if oNn p 0 = 6 then 1 else 0)) (hw : oQr u (oNr C) (oKp p (oNr C) w)) (h3 : oRf C 300 = 1) (hn3 : oNr C ≤ 200) : oRc (oKeep C p w) (qKeep u (oNr C) (oRf C (oNr C)) (oZ C)) := by
  obtain ⟨⟨a1, a2, a3, a4⟩, b1, ⟨c1, c2, c3⟩, d⟩ := h
  have k : ∀ a b, a ≠ 54 → a ≠ 56 → a ≠ 51 → ¬ (a = 37 ∧ 25 ≤ b ∧ b ≤ 27) → xgI (qKeep u (oNr C) (oRf C (oNr C)) (oZ C)) a b = xgI σ a b := fun a b z1 z2 z3 z4 => by
    unfold qKeep
    rw [xgI_n (by omega), xgI_n (by omega), xgI_n (by omega)]
    exact ho.1 a b z1 z2 (by omega)
  refine ⟨⟨?_, ?_, ?_, ?_⟩, fun i hi => ?_, ⟨?_, ?_, ?_⟩, fun r hr2 => ?_⟩
  · rw [k _ _ (by omega) (by omega) (by omega) (by omega)]; exact a1
  · rw [k _ _ (by omega) (by omega) (by omega) (by omega)]; exact a2
  · rw [k _ _ (by omega) (by omega) (by omega) (by omega)]; exact a3
  · rw [k _ _ (by omega) (by omega) (by omega) (by omega)]; exact a4
  · rw [k _ _ (by omega) (by omega) (by omega) (by omega)]; exact b1 i hi
  · unfold qKeep
    rw [xgI_n (by omega), xgI_s]; rfl
  · unfold qKeep
    rw [xgI_n (by omega), xgI_n (by omega), xgI_n (by omega)]; exact hb
  · unfold qKeep
    rw [xgI_s, oFr_1 (C := oKeep C p w) ((if_neg (show ¬ 300 = oNr C + 1 by omega)).trans h3)]
    show nI (oZ C) = nI (if oNr C + 1 = oNr C + 1 then oZ C else oRf C (oNr C + 1))
    rw [if_pos rfl]
  · have hr2 : r < oNr C + 1 := hr2
    have eF : oRf (oKeep C p w) r = oRf C r := if_neg (show ¬ r = oNr C + 1 by omega)
    rw [eF]
    unfold qKeep
    by_cases c : r = oNr C
    · subst c
      have eR : oRw (oKeep C p w) (oNr C) = oKp p (oNr C) w := if_pos rfl
      rw [eR]
      refine ⟨oQr_I (by omega) (by omega) (oQr_I (by omega) (by omega) (oQr_I (by omega) (by omega) hw)), ?_⟩
      rw [xgI_n (by omega), xgI_n (by omega), xgI_s]
    · have eR : oRw (oKeep C p w) r = oRw C r := if_neg c
      rw [eR]
      refine ⟨oQr_I (by omega) (by omega) (oQr_I (by omega) (by omega) (oQr_I (by omega) (by omega) (oQr_of c ho (d r (by omega)).1))), ?_⟩
      rw [xgI_n (by omega), xgI_n (by omega), xgI_n (by omega), ho.1 _ _ (by omega) (by omega) (by omega)]
      exact (d r (by omega)).2
theorem oRv_keep {u : xS} {n f z : Nat} : oRv u (qKeep u n f z) := by
  unfold qKeep
  exact (oRv.I (by omega)).tr ((oRv.I (by omega)).tr (oRv.I (by omega)))
theorem oWc_fit {D : oMd} {C : oCt} (h : oWc D C) {r : Nat} (hr : r < oNr C) : oFit (oRw C r) := by
  obtain ⟨-, -, ⟨-, -, a5, a6⟩, -⟩ := h.2.2.2.1 r hr
  rw [a6]
  unfold oKp
  split
  · exact a5
  · exact a5
theorem o_takeR {l : Launch} {G : xG} {σ : xS} {D : oMd} {C : oCt} {x : Int32} (hm : oQm D σ) (hwm : oWm D) (hW : oWc D C) (hC : oRc C σ) (h3 : oRf C 300 = 1) (e1 : oFa C = 0) : xM l G yX9_take cX9_take 3 (Option.none : Option Jvm.ClassFile.FieldType) 3 80 [.ref (G.2.1 37), .int x] σ (fun r t => r = none ∧ oRc (oTake D C x) t ∧ oRv σ t) := by
  have hC0 := hC
  obtain ⟨⟨a1, a2, a3, a4⟩, b1, ⟨c1, c2, c3⟩, dd⟩ := hC
  have hW0 := hW
  obtain ⟨⟨w1, w2, w3, w4, w5⟩, w6, w7, w8, w9⟩ := hW
  unfold oTake
  rw [if_neg (fun z => z e1)]
  by_cases e2 : oZ C = 1500
  · rw [if_pos e2]
    refine xM.mono (c_X9_takeE (by rw [a1, e2])) (fun r t h => ⟨h.1, ?_, ?_⟩)
    · rw [h.2, c1]
      exact oRc_fail hC0
    · rw [h.2]
      exact oRv_fail
  · rw [if_neg e2]
    by_cases e3 : oZ C = 0
    · rw [if_pos e3]
      have hp0 := oRc_put (x := x) hC0
      rw [e3] at hp0
      refine xM.mono (c_X9_takeD (by rw [a1, e3])) (fun r t h => ⟨h.1, ?_⟩)
      rw [h.2, hm.1.2.2.2]
      by_cases ex : x = oDg D
      · rw [if_pos ex, if_pos ex]
        exact ⟨hp0, oRv_put⟩
      · rw [if_neg ex, if_neg ex]
        exact ⟨oRc_fail hp0, oRv_put.tr oRv_fail⟩
    · rw [if_neg e3]
      have hf := w7 (by omega)
      have hz : oZ C < 1500 := by omega
      have hd10 := oDr_10 hW0 e1
      have hzd : oRf C (oNr C) + oDr C = oZ C := by unfold oDr; omega
      have hu1 : oRv σ (qPt σ (oZ C) x) := oRv_put
      have hm1 := oQm_u hm hu1
      have hn1 := oRc_put (x := x) hC0
      obtain ⟨⟨z20, -⟩, z50, ⟨z26, z27, z25⟩, zr⟩ := hn1
      have z26 : xgI (qPt σ (oZ C) x) 37 26 = nI (oNr C) := z26
      have z27 : xgI (qPt σ (oZ C) x) 37 27 = nI (oNb C) := z27
      have z25 : xgI (qPt σ (oZ C) x) 37 25 = nI (oRf C (oNr C)) := z25.trans (congrArg nI (oFr_1 (C := oPut C x) h3))
      have z20 : xgI (qPt σ (oZ C) x) 37 20 = nI (oRf C (oNr C) + oDr C + 1) := by rw [hzd]; exact z20
      have zp : ∀ k, k < oDr C + 1 → xgI (qPt σ (oZ C) x) 50 (oRf C (oNr C) + k) = oPa (oPut C x) k := fun k hk => z50 _ (by show oRf C (oNr C) + k < oZ C + 1; omega)
      have hT := oTabs hm1 hwm
      have hkq : ∃ q, q < 10 ∧ (¬ oDr C = 0 → oPa C 0 = nI q) := by
        by_cases z : oDr C = 0
        · exact ⟨0, by omega, fun y => absurd z y⟩
        · obtain ⟨q, q1, q2⟩ := oDr_q hW0 e1 z
          exact ⟨q, q1, fun _ => q2⟩
      obtain ⟨q', q'1, q'2⟩ := hkq
      have h0 : ¬ oDr C = 0 → xgI (qPt σ (oZ C) x) 50 (oRf C (oNr C)) = oPa C 0 := fun z => by
        have := zp 0 (by omega)
        rw [Nat.add_zero] at this
        rw [this]
        exact oPut_a (by omega)
      have hJ := c_X9_judged (l := l) (G := G) (x := x) (f := oRf C (oNr C)) (n := oDr C) (q := q') hm1.1.1 hwm.1.1 hm1.1.2.1 hwm.1.2.1 hm1.1.2.2.1 hwm.1.2.2.1 hT hwm.1.2.2.2 hm1.2.2.2.2.1 z26 w2 z27 w3 z25 z20 hd10 (by omega) (by rw [zp _ (by omega), oPut_d hf]) q'1 (fun z => (h0 z).trans (q'2 z))
      have hflt : dFltG (qGood (qPt σ (oZ C) x) (oNp D) (oV D) (oN D) (oM D) (oFs D) (oGs D) (oPs D) x) (oNr C) (oNb C) (oV D) (oN D) (oM D) (dMean (xgI (qPt σ (oZ C) x) 50 (oRf C (oNr C))) (nI (oDr C))) x = oFlt D (oNr C) (oNb C) (oPa C 0) (oDr C) x := by
        rw [show qGood (qPt σ (oZ C) x) (oNp D) (oV D) (oN D) (oM D) (oFs D) (oGs D) (oPs D) x = oGood D x from propext (qGood_e hm1 hwm)]
        exact oFlt_k (D := D) h0
      rw [hflt] at hJ
      by_cases e4 : oFlt D (oNr C) (oNb C) (oPa C 0) (oDr C) x = 0
      · rw [if_neg (fun z => z e4)]
        rw [e4] at hJ
        have good : ∀ k, k < oDr C + 1 → oFlt D (oNr C) (oNb C) (oPa (oPut C x) 0) k (oPa (oPut C x) k) = 0 := by
          intro k hk
          have g0 : ¬ k = 0 → oPa (oPut C x) 0 = oPa C 0 := fun z => oPut_a (by omega)
          rw [oFlt_k g0]
          by_cases e : k = oDr C
          · rw [e, oPut_d hf]
            exact e4
          · rw [oPut_a (by omega)]
            exact (w9 e1).1 k (by omega)
        have g0 := good 0 (by omega)
        rw [oFlt_0] at g0
        obtain ⟨⟨q, q1, q2, q3⟩, hr200⟩ := dKind_0 g0 w2
        have hqn : oNn (oPa (oPut C x)) 0 = q := by unfold oNn; rw [q2, nI_clamp (by omega)]
        have hk4 : 2 ≤ oDr C + 1 → q = 4 → xgI (qPt σ (oZ C) x) 50 (oRf C (oNr C) + 1) = nI (oNn (oPa (oPut C x)) 1) ∧ oNn (oPa (oPut C x)) 1 ≤ 4 := fun z e => by
          have g1 := good 1 (by omega)
          rw [q2, e] at g1
          obtain ⟨j, j1, j2, ej⟩ := oPl_cnt (by omega) (by omega) (by omega) rfl g1
          have en : oNn (oPa (oPut C x)) 1 = j := by unfold oNn; rw [ej, nI_clamp (by omega)]
          rw [en, zp 1 (by omega)]
          exact ⟨ej, j2⟩
        have hIW := c_X9_isWhole (l := l) (G := G) (f := oRf C (oNr C)) (n := oDr C + 1) (q := q) (k := oNn (oPa (oPut C x)) 1) z25 z20 (by omega) (by omega) (fun z => by
          have := zp 0 (by omega)
          rw [Nat.add_zero] at this
          rw [this]
          exact ⟨q2, q1⟩) hk4
        have hLd : 2 ≤ oDr C + 1 → oDr C + 1 ≤ oLen (oPa (oPut C x)) := fun _ => by
          have hb := oLen_b (p := oPa (oPut C x))
          by_cases z : 2 ≤ oDr C
          · have := (w9 e1).2
            have e : oLen (oPa (oPut C x)) = oLen (oPa C) := by
              unfold oLen oNn
              rw [oPut_a (by omega), oPut_a (by omega)]
            rw [← e] at this
            have : ¬ oLen (oPa (oPut C x)) ≤ oDr C := fun y => this ⟨z, y⟩
            omega
          · omega
        have hdl : dL q (oNn (oPa (oPut C x)) 1) = oLen (oPa (oPut C x)) := by unfold oLen; rw [hqn]
        rw [hdl] at hIW
        by_cases e5 : 2 ≤ oDr C + 1 ∧ oLen (oPa (oPut C x)) ≤ oDr C + 1
        · rw [if_neg (fun z => z e5)]
          have hL : oLen (oPa (oPut C x)) = oDr C + 1 := by have := hLd e5.1; omega
          rw [xB_t ⟨e5.1, hL⟩] at hIW
          have hK := o_works (l := l) (G := G) (R := oRw C) (p := oPa (oPut C x)) (nb := oNb C) (nb2 := oNb C) (f := oRf C (oNr C)) (q := q) (rf := oRf C) hm1 hwm hr200 z26 z25 z27 (fun k hk => zp k (by omega)) (by omega) q2 q1 (fun k hk => good k (by omega)) (fun r hr => by
            have hg := oWc_g hwm hW0 (r + 1) r (by omega) hr
            exact ⟨(zr r hr).1, hg.1, fun y hy => (hg.2.1 y hy).1, oWc_fit hW0 hr⟩) (fun r hr => ⟨(zr r hr).2, by have := oRf_le hW0 (oNr C - r) r (by omega); omega⟩) (fun r hr => by
            have hg := oWc_g hwm hW0 (r + 1) r (by omega) hr
            obtain ⟨qq, qq1, qq2, qq3, -⟩ := oRk_q (R := oRw C) (w8 r hr).2.2.1.1 (by omega)
            have hz2 := oRf_z hW0 hr
            have hlb := oLen_b (p := oPr C r)
            have num : ∀ i, i < oLen (oPr C r) → xgI (qPt σ (oZ C) x) 50 (oRf C r + i) = oPr C r i := fun i hi => by
              rw [z50 _ (by show oRf C r + i < oZ C + 1; omega), oPut_u (by omega)]
              exact (w8 r hr).2.1 i hi
            have n0 := num 0 (by omega)
            rw [Nat.add_zero] at n0
            refine ⟨?_, fun v b s hB => ?_, fun hB => ?_⟩
            · rw [n0, hg.2.2.1]
              by_cases k : oNn (oPr C r) 0 = 6
              · rw [if_pos k]
                refine ⟨fun _ => by simp, fun _ => ?_⟩
                rw [qq2, ← qq3, k]
                rfl
              · rw [if_neg k]
                refine ⟨fun z => absurd ?_ k, fun z => absurd rfl z⟩
                rw [qq2] at z
                rw [qq3]
                exact (nI_eq (a := qq) (b := 6) (by omega) (by omega)).mp z
            · rw [hg.2.2.1] at hB
              by_cases k : oNn (oPr C r) 0 = 6
              · rw [if_pos k] at hB
                cases hB
                have hl : oLen (oPr C r) = 4 := by unfold oLen; rw [k]; rfl
                exact ⟨num 1 (by omega), num 2 (by omega), num 3 (by omega)⟩
              · rw [if_neg k] at hB
                cases hB
            · rw [hg.2.2.1] at hB
              by_cases k : oNn (oPr C r) 0 = 6
              · exact hg.2.2.2 k
              · rw [if_neg k] at hB
                exact absurd rfl hB)
          have hn1 := oRc_put (x := x) hC0
          refine xM.mono (c_X9_takeW (z := oZ C) (f := oRf C (oNr C)) a1 (by omega) hz hJ hIW hK hr200 (fun r t h => ?_)) (fun r t h => ?_)
          · obtain ⟨y, g1, -, g3, -⟩ := h
            refine ⟨y, g1, ?_, ?_, ?_⟩
            · rw [g3.1 _ _ (by omega) (by omega) (by omega), z20, hzd]
            · rw [g3.1 _ _ (by omega) (by omega) (by omega)]; exact z25
            · rw [g3.1 _ _ (by omega) (by omega) (by omega)]; exact z26
          · obtain ⟨hr1, y, u, ⟨y', g1, p1, p2, ⟨p3, p4⟩, p5⟩, ht⟩ := h
            cases g1
            refine ⟨hr1, ?_⟩
            have hu2 : oRv σ u := hu1.tr (oRv.of p2)
            unfold oY at p1
            by_cases e6 : (oMake D (oRw C) (oPa (oPut C x))).1 = 0
            · rw [if_neg (fun z => z e6)] at p1 ⊢
              by_cases e7 : oFit (oMake D (oRw C) (oPa (oPut C x))).2
              · rw [oIf_t e7] at p1 ⊢
                subst p1
                rcases ht with ⟨t1, -⟩ | ⟨-, t2⟩
                · exact absurd rfl t1
                · rw [t2]
                  exact ⟨oRc_keep hn1 p2 (p3 rfl) (p5 rfl) h3 w2, hu2.tr oRv_keep⟩
              · rw [oIf_f e7] at p1 ⊢
                subst p1
                rcases ht with ⟨-, t2⟩ | ⟨t1, -⟩
                · rw [t2]
                  exact ⟨oRc_fail (oRc_of (C := oPut C x) (Nat.le_refl _) hn1 p2 (p4 (by decide))), hu2.tr oRv_fail⟩
                · exact absurd t1 (by decide)
            · rw [if_pos e6] at p1 ⊢
              rw [← p1] at e6 ⊢
              rcases ht with ⟨-, t2⟩ | ⟨t1, -⟩
              · rw [t2]
                exact ⟨oRc_fail (oRc_of (C := oPut C x) (Nat.le_refl _) hn1 p2 (p4 e6)), hu2.tr oRv_fail⟩
              · exact absurd t1 e6
        · rw [if_pos e5]
          rw [xB_f (fun z => e5 ⟨z.1, Nat.le_of_eq z.2⟩)] at hIW
          refine xM.mono (c_X9_takeN (z := oZ C) a1 (by omega) hz hJ hIW) (fun r t h => ⟨h.1, ?_⟩)
          rw [h.2]
          exact ⟨oRc_put hC0, hu1⟩
      · rw [if_pos e4]
        refine xM.mono (c_X9_takeJ (z := oZ C) a1 (by omega) hz hJ e4) (fun r t h => ⟨h.1, ?_⟩)
        rw [h.2, c1]
        exact ⟨oRc_fail (oRc_put hC0), hu1.tr oRv_fail⟩
