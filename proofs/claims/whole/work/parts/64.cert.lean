/-! The certificate: how many numbers, the numbers; the fault; rows, branches; where the rows begin (the last: the draft); the branches' rows; the rows; their numbers -/
abbrev oCt : Type := (Nat × (Nat → Int32)) × (Int32 × Int32 × Int32) × (Nat × Nat) × (Nat → Nat) × (Nat → Nat) × (Nat → oRow) × (Nat → Nat → Int32)
def oZ (C : oCt) : Nat := C.1.1
def oU (C : oCt) : Nat → Int32 := C.1.2
def oFa (C : oCt) : Int32 := C.2.1.1
def oFb (C : oCt) : Int32 := C.2.1.2.1
def oFc (C : oCt) : Int32 := C.2.1.2.2
def oNr (C : oCt) : Nat := C.2.2.1.1
def oNb (C : oCt) : Nat := C.2.2.1.2
def oRf (C : oCt) : Nat → Nat := C.2.2.2.1
def oBr (C : oCt) : Nat → Nat := C.2.2.2.2.1
def oRw (C : oCt) : Nat → oRow := C.2.2.2.2.2.1
def oPr (C : oCt) : Nat → Nat → Int32 := C.2.2.2.2.2.2
def oPut (C : oCt) (x : Int32) : oCt := ((oZ C + 1, fun i => if i = oZ C then x else oU C i), C.2)
def oFail (C : oCt) (a b c : Int32) : oCt := (C.1, (a, b, c), C.2.2)
/-- the draft: its numbers, and how many they are -/
def oPa (C : oCt) : Nat → Int32 := fun i => oU C (oRf C (oNr C) + i)
def oDr (C : oCt) : Nat := oZ C - oRf C (oNr C)
def oLen (p : Nat → Int32) : Nat := dL (oNn p 0) (oNn p 1)
def oKeep (C : oCt) (p : Nat → Int32) (w : oRow) : oCt := (C.1, C.2.1, (oNr C + 1, oNb C + if oNn p 0 = 6 then 1 else 0), (fun r => if r = oNr C + 1 then oZ C else oRf C r), (if oNn p 0 = 6 then fun i => if i = oNb C then oNr C else oBr C i else oBr C), (fun r => if r = oNr C then oKp p (oNr C) w else oRw C r), (fun r => if r = oNr C then p else oPr C r))
noncomputable def oTake (D : oMd) (C : oCt) (x : Int32) : oCt :=
  if ¬ oFa C = 0 then C
  else if oZ C = 1500 then oFail C 9 (nI (oNr C)) (nI 1500)
  else if oZ C = 0 then (if x = oDg D then oPut C x else oFail (oPut C x) 1 (-1) 0)
  else if ¬ oFlt D (oNr C) (oNb C) (oPa C 0) (oDr C) x = 0 then oFail (oPut C x) (oFlt D (oNr C) (oNb C) (oPa C 0) (oDr C) x) (nI (oNr C)) (nI (oZ C))
  else if ¬ (2 ≤ oDr C + 1 ∧ oLen (oPa (oPut C x)) ≤ oDr C + 1) then oPut C x
  else if ¬ (oMake D (oRw C) (oPa (oPut C x))).1 = 0 then oFail (oPut C x) (oMake D (oRw C) (oPa (oPut C x))).1 (nI (oNr C)) (nI (oZ C))
  else oIf (oFit (oMake D (oRw C) (oPa (oPut C x))).2) (oKeep (oPut C x) (oPa (oPut C x)) (oMake D (oRw C) (oPa (oPut C x))).2) (oFail (oPut C x) 8 (nI (oNr C)) (nI (oZ C)))
def oBc (ps : Nat → Nat → Int32) : Nat → Nat
  | 0 => 0
  | r + 1 => oBc ps r + if oNn (ps r) 0 = 6 then 1 else 0
/-- a row that stands: its numbers are good, and it is what they make -/
def oRk (D : oMd) (R : Nat → oRow) (ps : Nat → Nat → Int32) (r : Nat) : Prop := (∀ k, k < oLen (ps r) → oFlt D r (oBc ps r) (ps r 0) k (ps r k) = 0) ∧ (oMake D R (ps r)).1 = 0 ∧ oFit (oMake D R (ps r)).2 ∧ R r = oKp (ps r) r (oMake D R (ps r)).2
def oWc (D : oMd) (C : oCt) : Prop := (oZ C ≤ 1500 ∧ oNr C ≤ 200 ∧ oNb C ≤ 60 ∧ oNb C = oBc (oPr C) (oNr C) ∧ oRf C 0 = 1) ∧ (oZ C = 0 → oNr C = 0 ∧ oFa C = 0) ∧ (0 < oZ C → oRf C (oNr C) ≤ oZ C) ∧ (∀ r, r < oNr C → oRf C (r + 1) = oRf C r + oLen (oPr C r) ∧ (∀ i, i < oLen (oPr C r) → oU C (oRf C r + i) = oPr C r i) ∧ oRk D (oRw C) (oPr C) r ∧ (oNn (oPr C r) 0 = 6 → oBr C (oBc (oPr C) r) = r)) ∧ (oFa C = 0 → (∀ k, k < oDr C → oFlt D (oNr C) (oNb C) (oPa C 0) k (oPa C k) = 0) ∧ ¬ (2 ≤ oDr C ∧ oLen (oPa C) ≤ oDr C))
theorem oFlt_k {D : oMd} {nr nb : Nat} {a b x : Int32} {k : Nat} (h : ¬ k = 0 → a = b) : oFlt D nr nb a k x = oFlt D nr nb b k x := by
  by_cases e : k = 0
  · subst e
    rw [oFlt_0, oFlt_0]
  · rw [h e]
theorem oBc_c {ps qs : Nat → Nat → Int32} : ∀ r, (∀ k, k < r → ps k = qs k) → oBc ps r = oBc qs r
  | 0, _ => rfl
  | r + 1, h => by rw [oBc, oBc, oBc_c r (fun k hk => h k (by omega)), h r (by omega)]
theorem oBc_le {ps : Nat → Nat → Int32} {r s : Nat} (h : r ≤ s) : oBc ps r ≤ oBc ps s := by
  induction s with
  | zero => rw [show r = 0 by omega]; exact Nat.le_refl _
  | succ s ih =>
    by_cases e : r = s + 1
    · rw [e]; exact Nat.le_refl _
    · rw [oBc]
      have := ih (by omega)
      omega
/-- the kind of a row that stands, and its length -/
theorem oRk_q {D : oMd} {R : Nat → oRow} {ps : Nat → Nat → Int32} {r : Nat} (h : ∀ k, k < oLen (ps r) → oFlt D r (oBc ps r) (ps r 0) k (ps r k) = 0) (hr : r ≤ 200) : ∃ q, q < 10 ∧ ps r 0 = nI q ∧ oNn (ps r) 0 = q ∧ (q = 6 → ¬ oBc ps r = 60) := by
  have h2 : 0 < oLen (ps r) := by
    unfold oLen dL
    split
    · omega
    · split
      · omega
      · split
        · omega
        · split <;> omega
  have h0 := h 0 h2
  rw [oFlt_0] at h0
  obtain ⟨⟨q, q1, q2, q3⟩, -⟩ := dKind_0 h0 hr
  exact ⟨q, q1, q2, by unfold oNn; rw [q2, nI_clamp (by omega)], q3⟩
/-- what a row is made of: only the rows that it names -/
theorem oSum_c {R R' : Nat → oRow} {p : Nat → Int32} : ∀ k, (∀ m, m < k → R (oNn p (2 + 2 * m)) = R' (oNn p (2 + 2 * m))) → oSum R p k = oSum R' p k
  | 0, _ => rfl
  | k + 1, h => by
    have e := h k (by omega)
    unfold oNn at e
    rw [oSum, oSum, oSum_c k (fun m hm => h m (by omega)), e]
theorem oMake_c {D : oMd} {R R' : Nat → oRow} {p : Nat → Int32} (h4 : oNn p 0 = 4 → ∀ m, m < oNn p 1 → R (oNn p (2 + 2 * m)) = R' (oNn p (2 + 2 * m))) (h5 : oNn p 0 = 5 → R (oNn p 1) = R' (oNn p 1)) (h7 : oNn p 0 = 7 → ∀ k, 1 ≤ k → k ≤ 4 → R (oNn p k) = R' (oNn p k)) (h9 : 9 ≤ oNn p 0 → R (oNn p 1) = R' (oNn p 1)) : oMake D R p = oMake D R' p := by
  unfold oMake
  by_cases e0 : oNn p 0 = 0
  · rw [if_pos e0, if_pos e0]
  · rw [if_neg e0, if_neg e0]
    by_cases e1 : oNn p 0 = 1
    · rw [if_pos e1, if_pos e1]
    · rw [if_neg e1, if_neg e1]
      by_cases e2 : oNn p 0 = 2
      · rw [if_pos e2, if_pos e2]
      · rw [if_neg e2, if_neg e2]
        by_cases e3 : oNn p 0 = 3
        · rw [if_pos e3, if_pos e3]
        · rw [if_neg e3, if_neg e3]
          by_cases e4 : oNn p 0 = 4
          · rw [if_pos e4, if_pos e4, oSum_c _ (h4 e4)]
          · rw [if_neg e4, if_neg e4]
            by_cases e5 : oNn p 0 = 5
            · rw [if_pos e5, if_pos e5, h5 e5]
            · rw [if_neg e5, if_neg e5]
              by_cases e6 : oNn p 0 = 6
              · rw [if_pos e6, if_pos e6]
              · rw [if_neg e6, if_neg e6]
                by_cases e7 : oNn p 0 = 7
                · rw [if_pos e7, if_pos e7, h7 e7 1 (by omega) (by omega), h7 e7 2 (by omega) (by omega), h7 e7 3 (by omega) (by omega), h7 e7 4 (by omega) (by omega)]
                · rw [if_neg e7, if_neg e7]
                  by_cases e8 : oNn p 0 = 8
                  · rw [if_pos e8, if_pos e8]
                  · rw [if_neg e8, if_neg e8, h9 (by omega)]
theorem oLen_b {p : Nat → Int32} : 2 ≤ oLen p := by
  unfold oLen dL
  split
  · omega
  · split
    · omega
    · split
      · omega
      · split <;> omega
/-- the rows that a row names stand before it -/
theorem oSrc {D : oMd} {nr nb q : Nat} {p : Nat → Int32} (hr : nr ≤ 200) (hq : p 0 = nI q) (hq9 : q < 10) (h : ∀ k, k < oLen p → oFlt D nr nb (p 0) k (p k) = 0) : (q = 4 → 1 ≤ oNn p 1 ∧ oNn p 1 ≤ 4 ∧ p 1 = nI (oNn p 1) ∧ oLen p = 2 + 2 * oNn p 1 ∧ ∀ m, m < oNn p 1 → p (2 + 2 * m) = nI (oNn p (2 + 2 * m)) ∧ oNn p (2 + 2 * m) < nr) ∧ ((q = 5 ∨ q = 9) → p 1 = nI (oNn p 1) ∧ oNn p 1 < nr) ∧ (q = 7 → ∀ k, 1 ≤ k → k ≤ 4 → p k = nI (oNn p k) ∧ oNn p k < nr) := by
  have hn : oNn p 0 = q := by unfold oNn; rw [hq, nI_clamp (by omega)]
  have row : ∀ k, k < oLen p → k < 10 → ¬ k = 0 → dmN q k = 6 → p k = nI (oNn p k) ∧ oNn p k < nr := by
    intro k k1 k2 k3 k4
    have hk := h k k1
    rw [hq] at hk
    obtain ⟨j, hj, e⟩ := oPl_row hq9 k2 k3 k4 hk
    have e2 : oNn p k = j := by unfold oNn; rw [e, nI_clamp (by omega)]
    rw [e2]
    exact ⟨e, hj⟩
  have hl : oLen p = dL q (oNn p 1) := by unfold oLen; rw [hn]
  refine ⟨fun e => ?_, fun e => ?_, fun e k k1 k2 => ?_⟩
  · subst e
    have hk := h 1 (by have := oLen_b (p := p); omega)
    rw [hq] at hk
    obtain ⟨j, j1, j2, e⟩ := oPl_cnt hq9 (by omega) (by omega) rfl hk
    have e2 : oNn p 1 = j := by unfold oNn; rw [e, nI_clamp (by omega)]
    have hl2 : oLen p = 2 + 2 * j := by rw [hl, e2]; rfl
    rw [e2]
    refine ⟨j1, j2, e, hl2, fun m hm => row _ (by omega) (by omega) (by omega) ?_⟩
    unfold dmN
    rw [if_neg (by omega), if_neg (by omega), if_neg (by omega), if_pos rfl, if_neg (by omega), if_pos (by omega)]
  · have hb := oLen_b (p := p)
    refine row 1 (by omega) (by omega) (by omega) ?_
    rcases e with e | e <;> subst e <;> rfl
  · subst e
    have : oLen p = 5 := by rw [hl]; rfl
    refine row k (by omega) (by omega) (by omega) ?_
    rfl
theorem oRk_c {D : oMd} {R R' : Nat → oRow} {ps ps' : Nat → Nat → Int32} {r : Nat} (hr : r ≤ 200) (hR : ∀ k, k ≤ r → R k = R' k) (hp : ∀ k, k ≤ r → ps k = ps' k) (h : oRk D R ps r) : oRk D R' ps' r := by
  obtain ⟨h1, h2, h3, h4⟩ := h
  obtain ⟨q, q1, q2, q3, q4⟩ := oRk_q (R := R) h1 hr
  obtain ⟨s4, s5, s7⟩ := oSrc hr q2 q1 h1
  have e : oMake D R (ps r) = oMake D R' (ps r) := oMake_c (fun e m hm => hR _ (by have := ((s4 (by omega)).2.2.2.2 m hm).2; omega)) (fun e => hR _ (by have := (s5 (by omega)).2; omega)) (fun e k k1 k2 => hR _ (by have := (s7 (by omega) k k1 k2).2; omega)) (fun e => hR _ (by have := (s5 (by omega)).2; omega))
  unfold oRk
  rw [← hp r (Nat.le_refl _), ← hR r (Nat.le_refl _), ← e, ← oBc_c r (fun k hk => hp k (by omega))]
  exact ⟨h1, h2, h3, h4⟩
theorem oPut_z {C : oCt} {x : Int32} : oZ (oPut C x) = oZ C + 1 := rfl
theorem oPut_u {C : oCt} {x : Int32} {i : Nat} (h : i < oZ C) : oU (oPut C x) i = oU C i := if_neg (by omega)
theorem oPut_x {C : oCt} {x : Int32} : oU (oPut C x) (oZ C) = x := if_pos rfl
theorem oPut_a {C : oCt} {x : Int32} {i : Nat} (h : oRf C (oNr C) + i < oZ C) : oPa (oPut C x) i = oPa C i := oPut_u h
theorem oPut_d {C : oCt} {x : Int32} (h : oRf C (oNr C) ≤ oZ C) : oPa (oPut C x) (oDr C) = x := by
  unfold oPa oDr
  show oU (oPut C x) (oRf C (oNr C) + (oZ C - oRf C (oNr C))) = x
  rw [show oRf C (oNr C) + (oZ C - oRf C (oNr C)) = oZ C by omega, oPut_x]
theorem oPut_n {C : oCt} {x : Int32} (h : oRf C (oNr C) ≤ oZ C) : oDr (oPut C x) = oDr C + 1 := by
  unfold oDr
  show oZ C + 1 - oRf C (oNr C) = _
  omega
/-- the rows that stand begin before the draft -/
theorem oRf_le {D : oMd} {C : oCt} (h : oWc D C) : ∀ d r, r + d = oNr C → oRf C r + 2 * d ≤ oRf C (oNr C)
  | 0, r, e => by rw [show r = oNr C by omega]; omega
  | d + 1, r, e => by
    have := oRf_le h d (r + 1) (by omega)
    have e2 := (h.2.2.2.1 r (by omega)).1
    have := oLen_b (p := oPr C r)
    omega
theorem oRf_z {D : oMd} {C : oCt} (h : oWc D C) {r : Nat} (hr : r < oNr C) : oRf C r + oLen (oPr C r) ≤ oZ C := by
  have e2 := (h.2.2.2.1 r hr).1
  have := oRf_le h (oNr C - (r + 1)) (r + 1) (by omega)
  have hz : 0 < oZ C := by
    by_cases c : oZ C = 0
    · have := (h.2.1 c).1; omega
    · omega
  have := h.2.2.1 hz
  omega
theorem oWc_fail {D : oMd} {C : oCt} {a b c : Int32} (h : oWc D C) (ha : ¬ a = 0) (hz : ¬ oZ C = 0) : oWc D (oFail C a b c) := ⟨h.1, fun z => absurd z hz, h.2.2.1, h.2.2.2.1, fun z => absurd z ha⟩
/-- a number more, and nothing said yet of the draft -/
theorem oWc_put {D : oMd} {C : oCt} {x : Int32} (h : oWc D C) (hz : oZ C < 1500) (hz0 : oZ C = 0 → oRf C (oNr C) = 1) : ∀ a b c, ((a : Int32) = 0 → (∀ k, k < oDr (oPut C x) → oFlt D (oNr C) (oNb C) (oPa (oPut C x) 0) k (oPa (oPut C x) k) = 0) ∧ ¬ (2 ≤ oDr (oPut C x) ∧ oLen (oPa (oPut C x)) ≤ oDr (oPut C x))) → oWc D (oFail (oPut C x) a b c) := by
  intro a b c hd
  refine ⟨⟨by show oZ C + 1 ≤ 1500; omega, h.1.2⟩, fun z => absurd z (Nat.succ_ne_zero _), fun _ => ?_, fun r hr => ?_, hd⟩
  · show oRf C (oNr C) ≤ oZ C + 1
    by_cases e : oZ C = 0
    · rw [hz0 e]; omega
    · have := h.2.2.1 (by omega); omega
  · obtain ⟨h1, h2, h3, h4⟩ := h.2.2.2.1 r hr
    refine ⟨h1, fun i hi => ?_, h3, h4⟩
    have hi : i < oLen (oPr C r) := hi
    have hr : r < oNr C := hr
    show oU (oPut C x) (oRf C r + i) = _
    rw [oPut_u (by have := oRf_z h hr; omega)]
    exact h2 i hi
/-- a row that is kept -/
theorem oWc_keep {D : oMd} {C : oCt} {x : Int32} (h : oWc D C) (hz : oZ C < 1500) (e1 : oFa C = 0) (hf : oRf C (oNr C) ≤ oZ C) (good : ∀ k, k < oDr (oPut C x) → oFlt D (oNr C) (oNb C) (oPa (oPut C x) 0) k (oPa (oPut C x) k) = 0) (e5 : 2 ≤ oDr C + 1 ∧ oLen (oPa (oPut C x)) ≤ oDr C + 1) (e6 : (oMake D (oRw C) (oPa (oPut C x))).1 = 0) (e7 : oFit (oMake D (oRw C) (oPa (oPut C x))).2) : oLen (oPa (oPut C x)) = oDr C + 1 ∧ oNr C < 200 ∧ oWc D (oKeep (oPut C x) (oPa (oPut C x)) (oMake D (oRw C) (oPa (oPut C x))).2) := by
  obtain ⟨⟨w1, w2, w3, w4, w5⟩, w6, w7, w8, w9⟩ := h
  have hL : oLen (oPa (oPut C x)) = oDr C + 1 := by
    have hb := oLen_b (p := oPa (oPut C x))
    by_cases c : 2 ≤ oDr C
    · have := (w9 e1).2
      have e : oLen (oPa (oPut C x)) = oLen (oPa C) := by
        unfold oLen oNn
        unfold oDr at c
        rw [oPut_a (by omega), oPut_a (by omega)]
      rw [← e] at this
      have : ¬ oLen (oPa (oPut C x)) ≤ oDr C := fun z => this ⟨c, z⟩
      omega
    · omega
  have g0 := good 0 (by rw [oPut_n hf]; omega)
  rw [oFlt_0] at g0
  obtain ⟨⟨q, q1, q2, q3⟩, hr⟩ := dKind_0 g0 w2
  have hq : oNn (oPa (oPut C x)) 0 = q := by unfold oNn; rw [q2, nI_clamp (by omega)]
  generalize hp : oPa (oPut C x) = p at *
  have hBc : oBc (fun r => if r = oNr C then p else oPr C r) (oNr C) = oNb C := by
    rw [w4]
    exact oBc_c _ (fun k hk => if_neg (by omega))
  refine ⟨hL, hr, ⟨?_, ?_, ?_, ?_, ?_⟩, fun z => absurd z (Nat.succ_ne_zero _), fun _ => ?_, fun r hr2 => ?_, fun _ => ?_⟩
  · show oZ C + 1 ≤ 1500
    omega
  · show oNr C + 1 ≤ 200
    omega
  · show oNb C + (if oNn p 0 = 6 then 1 else 0) ≤ 60
    by_cases c : oNn p 0 = 6
    · rw [if_pos c]
      have := q3 (by omega)
      omega
    · rw [if_neg c]
      omega
  · show oNb C + (if oNn p 0 = 6 then 1 else 0) = oBc (fun r => if r = oNr C then p else oPr C r) (oNr C + 1)
    rw [oBc, hBc, if_pos rfl]
  · show (if 0 = oNr C + 1 then oZ C + 1 else oRf C 0) = 1
    rw [if_neg (by omega)]
    exact w5
  · show (if oNr C + 1 = oNr C + 1 then oZ C + 1 else oRf C (oNr C + 1)) ≤ oZ C + 1
    rw [if_pos rfl]
    exact Nat.le_refl _
  · have hr2 : r < oNr C + 1 := hr2
    by_cases c : r = oNr C
    · subst c
      obtain ⟨s4, s5, s7⟩ := oSrc (by omega) q2 q1 (fun k hk => good k (by rw [oPut_n hf]; omega))
      have eM : oMake D (fun r => if r = oNr C then oKp p (oNr C) (oMake D (oRw C) p).2 else oRw C r) p = oMake D (oRw C) p := oMake_c (fun e m hm => if_neg (by have := ((s4 (by omega)).2.2.2.2 m hm).2; omega)) (fun e => if_neg (by have := (s5 (by omega)).2; omega)) (fun e k k1 k2 => if_neg (by have := (s7 (by omega) k k1 k2).2; omega)) (fun e => if_neg (by have := (s5 (by omega)).2; omega))
      have eP : (fun r => if r = oNr C then p else oPr C r) (oNr C) = p := if_pos rfl
      refine ⟨?_, fun i hi => ?_, ⟨?_, ?_, ?_, ?_⟩, fun h6 => ?_⟩
      · show (if oNr C + 1 = oNr C + 1 then oZ C + 1 else oRf C (oNr C + 1)) = (if oNr C = oNr C + 1 then oZ C + 1 else oRf C (oNr C)) + oLen ((fun r => if r = oNr C then p else oPr C r) (oNr C))
        rw [if_pos rfl, if_neg (by omega), eP, hL]
        unfold oDr
        omega
      · show oU (oPut C x) ((if oNr C = oNr C + 1 then oZ C + 1 else oRf C (oNr C)) + i) = (fun r => if r = oNr C then p else oPr C r) (oNr C) i
        rw [if_neg (by omega), eP, ← hp]
        rfl
      · show ∀ k, k < oLen ((fun r => if r = oNr C then p else oPr C r) (oNr C)) → oFlt D (oNr C) (oBc (fun r => if r = oNr C then p else oPr C r) (oNr C)) ((fun r => if r = oNr C then p else oPr C r) (oNr C) 0) k ((fun r => if r = oNr C then p else oPr C r) (oNr C) k) = 0
        rw [eP, hBc]
        exact fun k hk => good k (by rw [oPut_n hf]; omega)
      · show (oMake D (fun r => if r = oNr C then oKp p (oNr C) (oMake D (oRw C) p).2 else oRw C r) ((fun r => if r = oNr C then p else oPr C r) (oNr C))).1 = 0
        rw [eP, eM]
        exact e6
      · show oFit (oMake D (fun r => if r = oNr C then oKp p (oNr C) (oMake D (oRw C) p).2 else oRw C r) ((fun r => if r = oNr C then p else oPr C r) (oNr C))).2
        rw [eP, eM]
        exact e7
      · show (fun r => if r = oNr C then oKp p (oNr C) (oMake D (oRw C) p).2 else oRw C r) (oNr C) = oKp ((fun r => if r = oNr C then p else oPr C r) (oNr C)) (oNr C) (oMake D (fun r => if r = oNr C then oKp p (oNr C) (oMake D (oRw C) p).2 else oRw C r) ((fun r => if r = oNr C then p else oPr C r) (oNr C))).2
        rw [eP, eM]
        exact if_pos rfl
      · have h6 : oNn ((fun r => if r = oNr C then p else oPr C r) (oNr C)) 0 = 6 := h6
        rw [eP] at h6
        show (if oNn p 0 = 6 then fun i => if i = oNb C then oNr C else oBr C i else oBr C) (oBc (fun r => if r = oNr C then p else oPr C r) (oNr C)) = oNr C
        rw [if_pos h6, hBc, if_pos rfl]
    · have hrn : r < oNr C := by omega
      obtain ⟨a1, a2, a3, a4⟩ := w8 r hrn
      have eP : (fun r => if r = oNr C then p else oPr C r) r = oPr C r := if_neg c
      have eB : oBc (fun r => if r = oNr C then p else oPr C r) r = oBc (oPr C) r := oBc_c _ (fun k hk => if_neg (by omega))
      refine ⟨?_, fun i hi => ?_, ?_, fun h6 => ?_⟩
      · show (if r + 1 = oNr C + 1 then oZ C + 1 else oRf C (r + 1)) = (if r = oNr C + 1 then oZ C + 1 else oRf C r) + oLen ((fun r => if r = oNr C then p else oPr C r) r)
        rw [if_neg (by omega), if_neg (by omega), eP]
        exact a1
      · have hi : i < oLen ((fun r => if r = oNr C then p else oPr C r) r) := hi
        rw [eP] at hi
        show oU (oPut C x) ((if r = oNr C + 1 then oZ C + 1 else oRf C r) + i) = (fun r => if r = oNr C then p else oPr C r) r i
        rw [if_neg (by omega), eP, oPut_u (by have := oRf_z ⟨⟨w1, w2, w3, w4, w5⟩, w6, w7, w8, w9⟩ hrn; omega)]
        exact a2 i hi
      · refine oRk_c (by omega) (fun k hk => ?_) (fun k hk => ?_) a3
        · exact (if_neg (show ¬ k = oNr C by omega)).symm
        · exact (if_neg (show ¬ k = oNr C by omega)).symm
      · have h6 : oNn ((fun r => if r = oNr C then p else oPr C r) r) 0 = 6 := h6
        rw [eP] at h6
        show (if oNn p 0 = 6 then fun i => if i = oNb C then oNr C else oBr C i else oBr C) (oBc (fun r => if r = oNr C then p else oPr C r) r) = r
        rw [eB]
        have hlt : oBc (oPr C) r < oNb C := by
          have : oBc (oPr C) (r + 1) ≤ oBc (oPr C) (oNr C) := oBc_le (by omega)
          rw [oBc, if_pos h6] at this
          omega
        split
        · show (if oBc (oPr C) r = oNb C then oNr C else oBr C (oBc (oPr C) r)) = r
          rw [if_neg (by omega)]
          exact a4 h6
        · exact a4 h6
  · have e : oDr (oKeep (oPut C x) p (oMake D (oRw C) p).2) = 0 := by
      show oZ C + 1 - (if oNr C + 1 = oNr C + 1 then oZ C + 1 else oRf C (oNr C + 1)) = 0
      rw [if_pos rfl]
      omega
    rw [e]
    exact ⟨fun k hk => absurd hk (by omega), fun z => absurd z.1 (by omega)⟩
theorem oTake_w {D : oMd} {C : oCt} {x : Int32} (h : oWc D C) : oWc D (oTake D C x) := by
  have hZ := h.1.1
  unfold oTake
  by_cases e1 : oFa C = 0
  · rw [if_neg (fun z => z e1)]
    by_cases e2 : oZ C = 1500
    · rw [if_pos e2]
      exact oWc_fail h (by decide) (by omega)
    · rw [if_neg e2]
      by_cases e3 : oZ C = 0
      · have h0 := h.2.1 e3
        have hf : oRf C (oNr C) = 1 := by rw [h0.1]; exact h.1.2.2.2.2
        rw [if_pos e3]
        split
        · have := oWc_put (x := x) h (by omega) (fun _ => hf) 0 (oFb C) (oFc C) (fun _ => by
            have hd : oDr (oPut C x) = 0 := by unfold oDr; show oZ C + 1 - oRf C (oNr C) = 0; omega
            rw [hd]
            exact ⟨fun k hk => absurd hk (by omega), fun z => absurd z.1 (by omega)⟩)
          have e : oFail (oPut C x) 0 (oFb C) (oFc C) = oPut C x := by
            unfold oFail oPut
            rw [← e1]
            rfl
          rw [e] at this
          exact this
        · exact oWc_put h (by omega) (fun _ => hf) 1 (-1) 0 (fun z => absurd z (by decide))
      · rw [if_neg e3]
        have hf := h.2.2.1 (by omega)
        by_cases e4 : oFlt D (oNr C) (oNb C) (oPa C 0) (oDr C) x = 0
        · rw [if_neg (fun z => z e4)]
          have good : ∀ k, k < oDr (oPut C x) → oFlt D (oNr C) (oNb C) (oPa (oPut C x) 0) k (oPa (oPut C x) k) = 0 := by
            intro k hk
            rw [oPut_n hf] at hk
            have h0 : ¬ k = 0 → oPa (oPut C x) 0 = oPa C 0 := fun z => oPut_a (by unfold oDr at hk; omega)
            rw [oFlt_k h0]
            by_cases e : k = oDr C
            · rw [e, oPut_d hf]
              exact e4
            · rw [oPut_a (by unfold oDr at hk e; omega)]
              exact (h.2.2.2.2 e1).1 k (by omega)
          by_cases e5 : 2 ≤ oDr C + 1 ∧ oLen (oPa (oPut C x)) ≤ oDr C + 1
          · rw [if_neg (fun z => z e5)]
            by_cases e6 : (oMake D (oRw C) (oPa (oPut C x))).1 = 0
            · rw [if_neg (fun z => z e6)]
              by_cases e7 : oFit (oMake D (oRw C) (oPa (oPut C x))).2
              · rw [oIf_t e7]
                exact (oWc_keep h (by omega) e1 hf good e5 e6 e7).2.2
              · rw [oIf_f e7]
                exact oWc_put h (by omega) (fun z => absurd z e3) 8 _ _ (fun z => absurd z (by decide))
            · rw [if_pos e6]
              exact oWc_put h (by omega) (fun z => absurd z e3) _ _ _ (fun z => absurd z e6)
          · rw [if_pos e5]
            have := oWc_put (x := x) h (by omega) (fun z => absurd z e3) 0 (oFb C) (oFc C) (fun _ => ⟨good, by rw [oPut_n hf]; exact e5⟩)
            have e : oFail (oPut C x) 0 (oFb C) (oFc C) = oPut C x := by
              unfold oFail oPut
              rw [← e1]
              rfl
            rw [e] at this
            exact this
        · rw [if_pos e4]
          exact oWc_put h (by omega) (fun z => absurd z e3) _ _ _ (fun z => absurd z e4)
  · rw [if_pos e1]
    exact h
