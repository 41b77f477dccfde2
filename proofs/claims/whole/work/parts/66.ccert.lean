/-! THE CERTIFICATE in the cells is C -/
/-- .. but for the draft -/
def oCn (C : oCt) (σ : xS) : Prop := (xgI σ 6 1 = nI (oZ C) ∧ xgI σ 6 3 = oFa C ∧ xgI σ 6 4 = oFb C ∧ xgI σ 6 5 = oFc C) ∧ (∀ i, i < oZ C → xgI σ 7 i = oU C i) ∧ (xgI σ 8 3 = nI (oNr C) ∧ xgI σ 8 4 = nI (oNb C) ∧ ∀ i, i < oNb C → xgI σ 10 i = nI (oBr C i)) ∧ (∀ r, r < oNr C → oCr (oBr C) (oNb C) σ r (oRw C r) ∧ xgI σ (61 + r) 5 = oPr C r 0 ∧ xgI σ (61 + r) 6 = nI (oRf C r) ∧ xgI σ (61 + r) 7 = nI (oLen (oPr C r)) ∧ (oNn (oPr C r) 0 = 6 → xgI σ (61 + r) 8 = oPr C r 1 ∧ xgI σ (61 + r) 9 = oPr C r 2 ∧ xgI σ (61 + r) 10 = oPr C r 3))
def oCc (C : oCt) (σ : xS) : Prop := oCn C σ ∧ (oFa C = 0 → xgI σ 11 1 = nI (oDr C) ∧ ∀ i, i < oDr C → xgI σ 12 i = oPa C i)
/-- only the certificate's cells have changed -/
def oCu (σ τ : xS) : Prop := (∀ a b, a ≠ 6 → a ≠ 7 → a ≠ 8 → a ≠ 10 → a ≠ 11 → a ≠ 12 → a ≠ 13 → a ≠ 14 → (a < 61 ∨ 262 ≤ a) → xgI τ a b = xgI σ a b) ∧ (∀ a b, (a < 61 ∨ 463 ≤ a) → xgL τ a b = xgL σ a b) ∧ xgC τ = xgC σ ∧ xgD τ = xgD σ ∧ xgI τ 6 2 = xgI σ 6 2
theorem oCu.rf {σ : xS} : oCu σ σ := ⟨fun _ _ _ _ _ _ _ _ _ _ _ => rfl, fun _ _ _ => rfl, rfl, rfl, rfl⟩
theorem oCu.tr {σ τ ρ : xS} (h : oCu σ τ) (k : oCu τ ρ) : oCu σ ρ := ⟨fun a b h1 h2 h3 h4 h5 h6 h7 h8 h9 => (k.1 a b h1 h2 h3 h4 h5 h6 h7 h8 h9).trans (h.1 a b h1 h2 h3 h4 h5 h6 h7 h8 h9), fun a b h1 => (k.2.1 a b h1).trans (h.2.1 a b h1), k.2.2.1.trans h.2.2.1, k.2.2.2.1.trans h.2.2.2.1, k.2.2.2.2.trans h.2.2.2.2⟩
theorem oCu.I {σ : xS} {a j : Nat} {v : Int32} (h : (a = 6 ∧ j ≠ 2) ∨ a = 7 ∨ a = 8 ∨ a = 10 ∨ a = 11 ∨ a = 12 ∨ a = 13 ∨ a = 14 ∨ (61 ≤ a ∧ a < 262)) : oCu σ (xsI σ a j v) := ⟨fun a' b h1 h2 h3 h4 h5 h6 h7 h8 h9 => xgI_n (by omega), fun _ _ _ => rfl, rfl, rfl, xgI_n (by omega)⟩
theorem oCu.L {σ : xS} {a j : Nat} {v : Int64} (h : 61 ≤ a ∧ a < 463) : oCu σ (xsL σ a j v) := ⟨fun a' b h1 h2 h3 h4 h5 h6 h7 h8 h9 => rfl, fun _ _ _ => xgL_n (by omega), rfl, rfl, rfl⟩
theorem oCu.off {σ τ : xS} {i : Nat} (hi : i < 201) (h : xOff i σ τ) : oCu σ τ := ⟨fun a b h1 h2 h3 h4 h5 h6 h7 h8 h9 => h.1 a b (by omega), fun a b h1 => h.2.1 a b (by omega) (by omega), h.2.2.1, h.2.2.2, h.1 _ _ (by omega)⟩
theorem oCn_c {C : oCt} {σ τ : xS} (hr : oNr C ≤ 200) (h : oCn C σ) (h6 : ∀ b, b = 1 ∨ b = 3 ∨ b = 4 ∨ b = 5 → xgI τ 6 b = xgI σ 6 b) (h7 : ∀ b, xgI τ 7 b = xgI σ 7 b) (h8 : ∀ b, xgI τ 8 b = xgI σ 8 b) (h10 : ∀ b, xgI τ 10 b = xgI σ 10 b) (hI : ∀ r b, r < oNr C → xgI τ (61 + r) b = xgI σ (61 + r) b) (hL : ∀ r b, r < oNr C → xgL τ (61 + r) b = xgL σ (61 + r) b) (hF : ∀ r b, r < oNr C → xgL τ (262 + r) b = xgL σ (262 + r) b) : oCn C τ := by
  obtain ⟨⟨a1, a2, a3, a4⟩, b1, ⟨c1, c2, c3⟩, d⟩ := h
  refine ⟨⟨?_, ?_, ?_, ?_⟩, fun i hi => ?_, ⟨?_, ?_, fun i hi => ?_⟩, fun r hr2 => ?_⟩
  · rw [h6 _ (by omega)]; exact a1
  · rw [h6 _ (by omega)]; exact a2
  · rw [h6 _ (by omega)]; exact a3
  · rw [h6 _ (by omega)]; exact a4
  · rw [h7]; exact b1 i hi
  · rw [h8]; exact c1
  · rw [h8]; exact c2
  · rw [h10]; exact c3 i hi
  · obtain ⟨d1, d2, d3, d4, d5⟩ := d r hr2
    refine ⟨oCr_c (fun v _ => hF r v hr2) (hL r 1 hr2) (hL r 2 hr2) (hI r 3 hr2) (hL r 4 hr2) d1, ?_, ?_, ?_, fun e => ?_⟩
    · rw [hI r _ hr2]; exact d2
    · rw [hI r _ hr2]; exact d3
    · rw [hI r _ hr2]; exact d4
    · rw [hI r _ hr2, hI r _ hr2, hI r _ hr2]; exact d5 e
theorem oCn_off {C : oCt} {σ τ : xS} {i : Nat} (hi : i < 201) (hr : oNr C ≤ i) (h : oCn C σ) (ho : xOff i σ τ) : oCn C τ :=
  oCn_c (by omega) h (fun b _ => ho.1 _ _ (by omega)) (fun b => ho.1 _ _ (by omega)) (fun b => ho.1 _ _ (by omega)) (fun b => ho.1 _ _ (by omega)) (fun r b hr => ho.1 _ _ (by omega)) (fun r b hr => ho.2.1 _ _ (by omega) (by omega)) (fun r b hr => ho.2.1 _ _ (by omega) (by omega))
theorem oCn_put {C : oCt} {σ : xS} {x : Int32} (hr : oNr C ≤ 200) (h : oCn C σ) : oCn (oPut C x) (cPut σ (oZ C) x) := by
  obtain ⟨⟨a1, a2, a3, a4⟩, b1, ⟨c1, c2, c3⟩, d⟩ := h
  unfold cPut
  refine ⟨⟨?_, ?_, ?_, ?_⟩, fun i hi => ?_, ⟨?_, ?_, fun i hi => ?_⟩, fun r hr2 => ?_⟩
  · rw [xgI_s]; rfl
  · rw [xgI_n (by omega), xgI_n (by omega)]; exact a2
  · rw [xgI_n (by omega), xgI_n (by omega)]; exact a3
  · rw [xgI_n (by omega), xgI_n (by omega)]; exact a4
  · have hi : i < oZ C + 1 := hi
    rw [xgI_n (by omega), xgI_i]
    show _ = if i = oZ C then x else oU C i
    by_cases e : i = oZ C
    · rw [if_pos ⟨rfl, e⟩, if_pos e]
    · rw [if_neg (fun z => e z.2), if_neg e, b1 i (by omega)]
  · rw [xgI_n (by omega), xgI_n (by omega)]; exact c1
  · rw [xgI_n (by omega), xgI_n (by omega)]; exact c2
  · rw [xgI_n (by omega), xgI_n (by omega)]; exact c3 i hi
  · have hr2 : r < oNr C := hr2
    obtain ⟨d1, d2, d3, d4, d5⟩ := d r hr2
    refine ⟨oCr_c (σ := σ) (fun v _ => rfl) rfl rfl (by rw [xgI_n (by omega), xgI_n (by omega)]) rfl d1, ?_, ?_, ?_, fun e => ?_⟩
    · rw [xgI_n (by omega), xgI_n (by omega)]; exact d2
    · rw [xgI_n (by omega), xgI_n (by omega)]; exact d3
    · rw [xgI_n (by omega), xgI_n (by omega)]; exact d4
    · rw [xgI_n (by omega), xgI_n (by omega), xgI_n (by omega), xgI_n (by omega), xgI_n (by omega), xgI_n (by omega)]; exact d5 e
theorem oCn_fail {C : oCt} {σ : xS} {a b c : Int32} (hr : oNr C ≤ 200) (h : oCn C σ) : oCn (oFail C a b c) (xsI (xsI (xsI σ 6 3 a) 6 4 b) 6 5 c) := by
  obtain ⟨⟨a1, a2, a3, a4⟩, b1, ⟨c1, c2, c3⟩, d⟩ := h
  refine ⟨⟨?_, ?_, ?_, ?_⟩, fun i hi => ?_, ⟨?_, ?_, fun i hi => ?_⟩, fun r hr2 => ?_⟩
  · rw [xgI_n (by omega), xgI_n (by omega), xgI_n (by omega)]; exact a1
  · rw [xgI_n (by omega), xgI_n (by omega), xgI_s]; rfl
  · rw [xgI_n (by omega), xgI_s]; rfl
  · rw [xgI_s]; rfl
  · rw [xgI_n (by omega), xgI_n (by omega), xgI_n (by omega)]; exact b1 i hi
  · rw [xgI_n (by omega), xgI_n (by omega), xgI_n (by omega)]; exact c1
  · rw [xgI_n (by omega), xgI_n (by omega), xgI_n (by omega)]; exact c2
  · rw [xgI_n (by omega), xgI_n (by omega), xgI_n (by omega)]; exact c3 i hi
  · have hr2 : r < oNr C := hr2
    obtain ⟨d1, d2, d3, d4, d5⟩ := d r hr2
    have k : ∀ j, xgI (xsI (xsI (xsI σ 6 3 a) 6 4 b) 6 5 c) (61 + r) j = xgI σ (61 + r) j := fun j => by rw [xgI_n (by omega), xgI_n (by omega), xgI_n (by omega)]
    refine ⟨oCr_c (σ := σ) (fun v _ => rfl) rfl rfl (k 3) rfl d1, ?_, ?_, ?_, fun e => ?_⟩
    · rw [k]; exact d2
    · rw [k]; exact d3
    · rw [k]; exact d4
    · rw [k, k, k]; exact d5 e
theorem oCc_fail {C : oCt} {σ : xS} {a b : Int32} {z : Nat} (hr : oNr C ≤ 200) (ha : ¬ a = 0) (h : oCn C σ) : oCc (oFail C a b (nI z)) (cFail σ a b z) := ⟨oCn_fail hr h, fun e => absurd e ha⟩
theorem oCu_fail {σ : xS} {a b : Int32} {z : Nat} : oCu σ (cFail σ a b z) := by
  unfold cFail
  exact (oCu.I (by omega)).tr ((oCu.I (by omega)).tr (oCu.I (by omega)))
theorem oCu_put {σ : xS} {x : Int32} {z : Nat} : oCu σ (cPut σ z x) := by
  unfold cPut
  exact (oCu.I (by omega)).tr (oCu.I (by omega))
theorem oCu_add {σ : xS} {x : Int32} {n : Nat} : oCu σ (cAdd σ n x) := by
  unfold cAdd
  exact (oCu.I (by omega)).tr (oCu.I (by omega))
theorem oCn_add {C : oCt} {σ : xS} {x : Int32} {n : Nat} (hr : oNr C ≤ 200) (h : oCn C σ) : oCn C (cAdd σ n x) := by
  unfold cAdd
  exact oCn_c hr h (fun b _ => by rw [xgI_n (by omega), xgI_n (by omega)]) (fun b => by rw [xgI_n (by omega), xgI_n (by omega)]) (fun b => by rw [xgI_n (by omega), xgI_n (by omega)]) (fun b => by rw [xgI_n (by omega), xgI_n (by omega)]) (fun r b hr => by rw [xgI_n (by omega), xgI_n (by omega)]) (fun _ _ _ => rfl) (fun _ _ _ => rfl)
/-- a row that is kept -/
theorem oCn_keep {C : oCt} {u : xS} {p : Nat → Int32} {w : oRow} {f : Nat} (hr : oNr C < 200) (hb : oNb C ≤ 60) (hb6 : oNn p 0 = 6 → oNb C < 60) (hbi : ∀ i, i < oNb C → oBr C i < oNr C) (hS : ∀ r, r < oNr C → oS (oRw C r) (oNr C) = false) (h : oCn C u) (hw : oCr (oBr C) (oNb C) u (oNr C) w) (k5 : xgI u (61 + oNr C) 5 = p 0) (kq : ∃ q, q < 10 ∧ p 0 = nI q) (k6 : xgI u (61 + oNr C) 6 = nI f) (hf : f = oRf C (oNr C)) (k7 : xgI u (61 + oNr C) 7 = nI (oLen p)) (kb : oNn p 0 = 6 → xgI u (61 + oNr C) 8 = p 1 ∧ xgI u (61 + oNr C) 9 = p 2 ∧ xgI u (61 + oNr C) 10 = p 3) : oCc (oKeep C p w) (xsI (kKeep u (oNr C) (oNb C)) 11 1 0) := by
  obtain ⟨⟨a1, a2, a3, a4⟩, b1, ⟨c1, c2, c3⟩, d⟩ := h
  obtain ⟨q, hq9, hq⟩ := kq
  have hqn : oNn p 0 = q := by unfold oNn; rw [hq, nI_clamp (by omega)]
  have h6i : xgI u (61 + oNr C) 5 = 6 ↔ oNn p 0 = 6 := by
    rw [k5, hq, hqn]
    exact nI_eq (a := q) (b := 6) (by omega) (by omega)
  have dr : oDr (oKeep C p w) = 0 := by
    show oZ C - (if oNr C + 1 = oNr C + 1 then oZ C else oRf C (oNr C + 1)) = 0
    rw [if_pos rfl]
    omega
  refine ⟨?_, fun _ => ⟨by rw [xgI_s, dr]; rfl, fun i hi => absurd hi (by rw [dr]; omega)⟩⟩
  unfold kKeep
  by_cases c6 : oNn p 0 = 6
  · rw [if_pos (h6i.mpr c6)]
    have kI : ∀ a b, a ≠ 10 → a ≠ 8 → a ≠ 11 → xgI (xsI (xsI (xsI (xsI (xsL u (61 + oNr C) 2 ((1 : Int64) <<< ((nI (oNb C)).toInt64 &&& 63))) 10 (oNb C) (nI (oNr C))) 8 4 (nI (oNb C + 1))) 8 3 (nI (oNr C + 1))) 11 1 0) a b = xgI u a b := fun a b z1 z2 z3 => by
      rw [xgI_n (by omega), xgI_n (by omega), xgI_n (by omega), xgI_n (by omega), xgI_L]
    have kL : ∀ a b, ¬ (a = 61 + oNr C ∧ b = 2) → xgL (xsI (xsI (xsI (xsI (xsL u (61 + oNr C) 2 ((1 : Int64) <<< ((nI (oNb C)).toInt64 &&& 63))) 10 (oNb C) (nI (oNr C))) 8 4 (nI (oNb C + 1))) 8 3 (nI (oNr C + 1))) 11 1 0) a b = xgL u a b := fun a b z => by
      rw [xgL_I, xgL_I, xgL_I, xgL_I, xgL_n z]
    have eBr : oBr (oKeep C p w) = fun i => if i = oNb C then oNr C else oBr C i := by
      show (if oNn p 0 = 6 then fun i => if i = oNb C then oNr C else oBr C i else oBr C) = _
      rw [if_pos c6]
    have eNb : oNb (oKeep C p w) = oNb C + 1 := by
      show oNb C + (if oNn p 0 = 6 then 1 else 0) = _
      rw [if_pos c6]
    refine ⟨⟨?_, ?_, ?_, ?_⟩, fun i hi => ?_, ⟨?_, ?_, fun i hi => ?_⟩, fun r hr2 => ?_⟩
    · rw [kI _ _ (by omega) (by omega) (by omega)]; exact a1
    · rw [kI _ _ (by omega) (by omega) (by omega)]; exact a2
    · rw [kI _ _ (by omega) (by omega) (by omega)]; exact a3
    · rw [kI _ _ (by omega) (by omega) (by omega)]; exact a4
    · rw [kI _ _ (by omega) (by omega) (by omega)]; exact b1 i hi
    · rw [xgI_n (by omega), xgI_s]; rfl
    · rw [xgI_n (by omega), xgI_n (by omega), xgI_s, eNb]
    · rw [eNb] at hi
      rw [xgI_n (by omega), xgI_n (by omega), xgI_n (by omega), xgI_i, eBr]
      by_cases e : i = oNb C
      · rw [if_pos ⟨rfl, e⟩]
        show _ = nI (if i = oNb C then oNr C else oBr C i)
        rw [if_pos e]
      · rw [if_neg (fun z => e z.2), xgI_L, c3 i (by omega)]
        show _ = nI (if i = oNb C then oNr C else oBr C i)
        rw [if_neg e]
    · have hr2 : r < oNr C + 1 := hr2
      rw [eBr, eNb]
      by_cases c : r = oNr C
      · subst c
        have eR : oRw (oKeep C p w) (oNr C) = oKp p (oNr C) w := if_pos rfl
        have eP : oPr (oKeep C p w) (oNr C) = p := if_pos rfl
        have eF : oRf (oKeep C p w) (oNr C) = oRf C (oNr C) := if_neg (by omega)
        rw [eR, eP, eF, ← hf]
        unfold oKp
        rw [if_pos c6, kI _ _ (by omega) (by omega) (by omega), kI _ _ (by omega) (by omega) (by omega), kI _ _ (by omega) (by omega) (by omega), kI _ _ (by omega) (by omega) (by omega), kI _ _ (by omega) (by omega) (by omega), kI _ _ (by omega) (by omega) (by omega)]
        refine ⟨⟨fun v hv => ?_, ?_, ?_, ?_⟩, k5, k6, k7, kb⟩
        · rw [kL _ _ (by omega)]; exact hw.1 v hv
        · rw [kL _ _ (by omega)]; exact hw.2.1
        · rw [xgL_I, xgL_I, xgL_I, xgL_I, xgL_s]
          exact oMk_1 (by have := hb6 c6; omega) (fun i hi => by have := hbi i hi; omega)
        · exact oLm_c hw.2.2.2 (kI _ _ (by omega) (by omega) (by omega)) (kL _ _ (by omega))
      · have hrn : r < oNr C := by omega
        obtain ⟨d1, d2, d3, d4, d5⟩ := d r hrn
        have eR : oRw (oKeep C p w) r = oRw C r := if_neg c
        have eP : oPr (oKeep C p w) r = oPr C r := if_neg c
        have eF : oRf (oKeep C p w) r = oRf C r := if_neg (show ¬ r = oNr C + 1 by omega)
        rw [eR, eP, eF, kI _ _ (by omega) (by omega) (by omega), kI _ _ (by omega) (by omega) (by omega), kI _ _ (by omega) (by omega) (by omega), kI _ _ (by omega) (by omega) (by omega), kI _ _ (by omega) (by omega) (by omega), kI _ _ (by omega) (by omega) (by omega)]
        refine ⟨⟨fun v hv => ?_, ?_, ?_, ?_⟩, d2, d3, d4, d5⟩
        · rw [kL _ _ (by omega)]; exact d1.1 v hv
        · rw [kL _ _ (by omega)]; exact d1.2.1
        · rw [kL _ _ (by omega)]
          exact oMk_up d1.2.2.1 (hS r hrn)
        · exact oLm_c d1.2.2.2 (kI _ _ (by omega) (by omega) (by omega)) (kL _ _ (by omega))
  · rw [if_neg (fun z => c6 (h6i.mp z))]
    have kI : ∀ a b, a ≠ 8 → a ≠ 11 → xgI (xsI (xsI u 8 3 (nI (oNr C + 1))) 11 1 0) a b = xgI u a b := fun a b z1 z2 => by
      rw [xgI_n (by omega), xgI_n (by omega)]
    have eBr : oBr (oKeep C p w) = oBr C := by
      show (if oNn p 0 = 6 then fun i => if i = oNb C then oNr C else oBr C i else oBr C) = _
      rw [if_neg c6]
    have eNb : oNb (oKeep C p w) = oNb C := by
      show oNb C + (if oNn p 0 = 6 then 1 else 0) = _
      rw [if_neg c6]
      rfl
    refine ⟨⟨?_, ?_, ?_, ?_⟩, fun i hi => ?_, ⟨?_, ?_, fun i hi => ?_⟩, fun r hr2 => ?_⟩
    · rw [kI _ _ (by omega) (by omega)]; exact a1
    · rw [kI _ _ (by omega) (by omega)]; exact a2
    · rw [kI _ _ (by omega) (by omega)]; exact a3
    · rw [kI _ _ (by omega) (by omega)]; exact a4
    · rw [kI _ _ (by omega) (by omega)]; exact b1 i hi
    · rw [xgI_n (by omega), xgI_s]; rfl
    · rw [xgI_n (by omega), xgI_n (by omega), eNb]; exact c2
    · rw [eNb] at hi
      rw [kI _ _ (by omega) (by omega), eBr]
      exact c3 i hi
    · have hr2 : r < oNr C + 1 := hr2
      rw [eBr, eNb]
      by_cases c : r = oNr C
      · subst c
        have eR : oRw (oKeep C p w) (oNr C) = oKp p (oNr C) w := if_pos rfl
        have eP : oPr (oKeep C p w) (oNr C) = p := if_pos rfl
        have eF : oRf (oKeep C p w) (oNr C) = oRf C (oNr C) := if_neg (by omega)
        rw [eR, eP, eF, ← hf]
        unfold oKp
        rw [if_neg c6, kI _ _ (by omega) (by omega), kI _ _ (by omega) (by omega), kI _ _ (by omega) (by omega)]
        exact ⟨oCr_c (σ := u) (fun v _ => rfl) rfl rfl (kI _ _ (by omega) (by omega)) rfl hw, k5, k6, k7, fun z => absurd z c6⟩
      · have hrn : r < oNr C := by omega
        obtain ⟨d1, d2, d3, d4, d5⟩ := d r hrn
        have eR : oRw (oKeep C p w) r = oRw C r := if_neg c
        have eP : oPr (oKeep C p w) r = oPr C r := if_neg c
        have eF : oRf (oKeep C p w) r = oRf C r := if_neg (show ¬ r = oNr C + 1 by omega)
        rw [eR, eP, eF, kI _ _ (by omega) (by omega), kI _ _ (by omega) (by omega), kI _ _ (by omega) (by omega), kI _ _ (by omega) (by omega), kI _ _ (by omega) (by omega), kI _ _ (by omega) (by omega)]
        exact ⟨oCr_c (σ := u) (fun v _ => rfl) rfl rfl (kI _ _ (by omega) (by omega)) rfl d1, d2, d3, d4, d5⟩
theorem oCu_keep {u : xS} {nr nb : Nat} (hr : nr < 200) : oCu u (xsI (kKeep u nr nb) 11 1 0) := by
  unfold kKeep
  refine oCu.tr (oCu.tr ?_ (oCu.I (a := 8) (by omega))) (oCu.I (a := 11) (by omega))
  split
  · exact (oCu.L (by omega)).tr ((oCu.I (by omega)).tr (oCu.I (by omega)))
  · exact oCu.rf
