/-! the rows that a row needs: what marking leaves -/
theorem oNd_mono {ps : Nat → Nat → Int32} {b : Nat} : ∀ k (s : Nat × (Nat → Int32)), ¬ s.2 b = 0 → ¬ (oNd ps k s).2 b = 0
  | 0, _, h => h
  | k + 1, s, h => by
    rw [oNd]
    split
    · exact oNd_mono k s h
    · refine oNd_mono k _ ?_
      show ¬ oIf (oIn (ps k) b) 1 (s.2 b) = 0
      by_cases c : oIn (ps k) b
      · rw [oIf_t c]; decide
      · rw [oIf_f c]; exact h
theorem oNd_top {ps : Nat → Nat → Int32} {b : Nat} : ∀ k (s : Nat × (Nat → Int32)), (∀ j, j < k → oIn (ps j) b → b < j) → k ≤ b → (oNd ps k s).2 b = s.2 b
  | 0, _, _, _ => rfl
  | k + 1, s, h, hb => by
    rw [oNd]
    split
    · exact oNd_top k s (fun j hj => h j (by omega)) (by omega)
    · rw [oNd_top k _ (fun j hj => h j (by omega)) (by omega)]
      exact oIf_f (fun y => by have := h k (by omega) y; omega)
theorem oNd_cl {ps : Nat → Nat → Int32} : ∀ k (s : Nat × (Nat → Int32)), (∀ j b, j < k → oIn (ps j) b → b < j) → ∀ j, j < k → ¬ (oNd ps k s).2 j = 0 → ∀ b, oIn (ps j) b → ¬ (oNd ps k s).2 b = 0
  | 0, _, _, j, hj => absurd hj (by omega)
  | k + 1, s, h, j, hj => by
    rw [oNd]
    by_cases c : s.2 k = 0
    · rw [if_pos c]
      intro hn b hb
      by_cases e : j = k
      · rw [e, oNd_top k s (fun j hj => h j k (by omega)) (Nat.le_refl _)] at hn
        exact absurd c hn
      · exact oNd_cl k s (fun j b hj => h j b (by omega)) j (by omega) hn b hb
    · rw [if_neg c]
      intro hn b hb
      by_cases e : j = k
      · subst e
        refine oNd_mono j _ ?_
        show ¬ oIf (oIn (ps j) b) 1 (s.2 b) = 0
        rw [oIf_t hb]
        decide
      · exact oNd_cl k _ (fun j b hj => h j b (by omega)) j (by omega) hn b hb
/-- how many are marked, and how many numbers they have -/
def oNw (nd : Nat → Int32) : Nat → Nat
  | 0 => 0
  | r + 1 => oNw nd r + if nd r = 0 then 0 else 1
def oMn (ps : Nat → Nat → Int32) (nd : Nat → Int32) : Nat → Nat
  | 0 => 1
  | r + 1 => oMn ps nd r + if nd r = 0 then 0 else oLen (ps r)
theorem oNw_c {nd nd' : Nat → Int32} : ∀ r, (∀ k, k < r → nd k = nd' k) → oNw nd r = oNw nd' r
  | 0, _ => rfl
  | r + 1, h => by rw [oNw, oNw, oNw_c r (fun k hk => h k (by omega)), h r (by omega)]
theorem oNd_n {ps : Nat → Nat → Int32} : ∀ k (s : Nat × (Nat → Int32)), (∀ j b, j < k → oIn (ps j) b → b < j) → (oNd ps k s).1 = s.1 + oNw (oNd ps k s).2 k
  | 0, _, _ => rfl
  | k + 1, s, h => by
    rw [oNd]
    by_cases c : s.2 k = 0
    · rw [if_pos c, oNd_n k s (fun j b hj => h j b (by omega)), oNw, oNd_top k s (fun j hj => h j k (by omega)) (Nat.le_refl _), if_pos c]
      rfl
    · rw [if_neg c]
      have e : (oNd ps k (s.1 + 1, fun b => oIf (oIn (ps k) b) 1 (s.2 b))).2 k = s.2 k := by
        rw [oNd_top k _ (fun j hj => h j k (by omega)) (Nat.le_refl _)]
        exact oIf_f (fun y => by have := h k k (by omega) y; omega)
      rw [oNd_n k _ (fun j b hj => h j b (by omega)), oNw, e, if_neg c]
      show s.1 + 1 + _ = _
      omega
theorem oNw_le {nd : Nat → Int32} {r s : Nat} (h : r ≤ s) : oNw nd r ≤ oNw nd s := by
  induction s with
  | zero => rw [show r = 0 by omega]; exact Nat.le_refl _
  | succ s ih =>
    by_cases e : r = s + 1
    · rw [e]; exact Nat.le_refl _
    · rw [oNw]
      have := ih (by omega)
      omega
theorem oNw_r {nd : Nat → Int32} : ∀ r, oNw nd r ≤ r
  | 0 => Nat.le_refl _
  | r + 1 => by
    have := oNw_r (nd := nd) r
    rw [oNw]
    split <;> omega
/-- a marked row has a smaller new number than a later row's -/
theorem oNw_lt {nd : Nat → Int32} {x r : Nat} (hx : ¬ nd x = 0) (h : x < r) : oNw nd x < oNw nd r := by
  have := oNw_le (nd := nd) (r := x + 1) (s := r) (by omega)
  rw [oNw, if_neg hx] at this
  omega
theorem oNw_inj {nd : Nat → Int32} {x y : Nat} (hx : ¬ nd x = 0) (hy : ¬ nd y = 0) (h : oNw nd x = oNw nd y) : x = y := by
  rcases Nat.lt_trichotomy x y with c | c | c
  · have := oNw_lt hx c; omega
  · exact c
  · have := oNw_lt hy c; omega
theorem oIn_lt {D : oMd} {C : oCt} (h : oWc D C) {j b : Nat} (hj : j < oNr C) (hb : oIn (oPr C j) b) : b < j := by
  obtain ⟨i, i1, i2, i3⟩ := hb
  have := (oPlace h hj i1 i2).2
  omega
/-- what is known of the rows that w needs -/
theorem oNeed_k {D : oMd} {C : oCt} {w : Nat} (h : oWc D C) (hw : w < oNr C) : ¬ (oNeed (oPr C) w).2 w = 0 ∧ (∀ j, j ≤ w → ¬ (oNeed (oPr C) w).2 j = 0 → ∀ b, oIn (oPr C j) b → ¬ (oNeed (oPr C) w).2 b = 0) ∧ (oNeed (oPr C) w).1 = oNw (oNeed (oPr C) w).2 (w + 1) ∧ (∀ b, w < b → (oNeed (oPr C) w).2 b = 0) := by
  have hl : ∀ j b, j < w + 1 → oIn (oPr C j) b → b < j := fun j b hj hb => oIn_lt h (by omega) hb
  unfold oNeed
  refine ⟨oNd_mono _ _ (by show ¬ (if w = w then (1 : Int32) else 0) = 0; rw [if_pos rfl]; decide), fun j hj => oNd_cl (w + 1) _ hl j (by omega), ?_, fun b hb => ?_⟩
  · rw [oNd_n (w + 1) _ hl, Nat.zero_add]
  · rw [oNd_top (w + 1) _ (fun j hj => hl j b (by omega)) (by omega)]
    exact if_neg (by omega)
/-! the numbers that are kept -/
def oEn (nd : Nat → Int32) (p : Nat → Int32) (i : Nat) : Int32 := if aIsRow (oNn p 0) i then nI (oNw nd (oNn p i)) else p i
def oKep (dg : Int32) (ps : Nat → Nat → Int32) (nd : Nat → Int32) : Nat → Nat → Int32
  | 0 => fun _ => dg
  | r + 1 => if nd r = 0 then oKep dg ps nd r else fun b => if b < oMn ps nd r then oKep dg ps nd r b else oEn nd (ps r) (b - oMn ps nd r)
theorem oKep_lt {dg : Int32} {ps : Nat → Nat → Int32} {nd : Nat → Int32} {b : Nat} : ∀ d r, b < oMn ps nd r → oKep dg ps nd (r + d) b = oKep dg ps nd r b
  | 0, _, _ => rfl
  | d + 1, r, h => by
    have ih := oKep_lt (dg := dg) d r h
    have hm : oMn ps nd r ≤ oMn ps nd (r + d) := by
      clear ih
      induction d with
      | zero => exact Nat.le_refl _
      | succ d ih2 =>
        rw [show r + (d + 1) = (r + d) + 1 by omega, oMn]
        omega
    show oKep dg ps nd ((r + d) + 1) b = _
    rw [oKep]
    split
    · exact ih
    · show (if b < oMn ps nd (r + d) then oKep dg ps nd (r + d) b else _) = _
      rw [if_pos (by omega)]
      exact ih
theorem oMn_le {ps : Nat → Nat → Int32} {nd : Nat → Int32} {r s : Nat} (h : r ≤ s) : oMn ps nd r ≤ oMn ps nd s := by
  induction s with
  | zero => rw [show r = 0 by omega]; exact Nat.le_refl _
  | succ s ih =>
    by_cases e : r = s + 1
    · rw [e]; exact Nat.le_refl _
    · rw [oMn]
      have := ih (by omega)
      omega
theorem oKep_e {dg : Int32} {ps : Nat → Nat → Int32} {nd : Nat → Int32} {r s i : Nat} (hr : r < s) (hn : ¬ nd r = 0) (hi : i < oLen (ps r)) : oKep dg ps nd s (oMn ps nd r + i) = oEn nd (ps r) i := by
  have hm : oMn ps nd (r + 1) = oMn ps nd r + oLen (ps r) := by rw [oMn, if_neg hn]
  have := oKep_lt (dg := dg) (ps := ps) (nd := nd) (b := oMn ps nd r + i) (s - (r + 1)) (r + 1) (by omega)
  rw [show r + 1 + (s - (r + 1)) = s by omega] at this
  rw [this, oKep, if_neg hn]
  show (if oMn ps nd r + i < oMn ps nd r then _ else oEn nd (ps r) (oMn ps nd r + i - oMn ps nd r)) = _
  rw [if_neg (by omega), show oMn ps nd r + i - oMn ps nd r = i by omega]
theorem oMn_z {D : oMd} {C : oCt} {nd : Nat → Int32} (h : oWc D C) : ∀ r, r ≤ oNr C → oMn (oPr C) nd r ≤ oRf C r
  | 0, _ => by rw [h.1.2.2.2.2]; exact Nat.le_refl _
  | r + 1, hr => by
    have ih := oMn_z (nd := nd) h r (by omega)
    rw [oMn, (h.2.2.2.1 r (by omega)).1]
    split <;> omega
/-! a row's numbers are taken one by one -/
theorem oTks_add {D : oMd} {C : oCt} {f : Nat → Int32} {a : Nat} : ∀ n, oTks D C f (a + n) = oTks D (oTks D C f a) (fun i => f (a + i)) n
  | 0 => rfl
  | n + 1 => by
    show oTake D (oTks D C f (a + n)) (f (a + n)) = oTake D (oTks D (oTks D C f a) (fun i => f (a + i)) n) (f (a + n))
    rw [oTks_add n]
theorem oTks_c {D : oMd} {C : oCt} {f f' : Nat → Int32} : ∀ n, (∀ i, i < n → f i = f' i) → oTks D C f n = oTks D C f' n
  | 0, _ => rfl
  | n + 1, h => by
    show oTake D (oTks D C f n) (f n) = oTake D (oTks D C f' n) (f' n)
    rw [oTks_c n (fun i hi => h i (by omega)), h n (by omega)]
def oPuts (C : oCt) (p : Nat → Int32) : Nat → oCt
  | 0 => C
  | i + 1 => oPut (oPuts C p i) (p i)
theorem oPuts_f {C : oCt} {p : Nat → Int32} : ∀ i, oZ (oPuts C p i) = oZ C + i ∧ (oPuts C p i).2 = C.2 ∧ (∀ k, k < i → oU (oPuts C p i) (oZ C + k) = p k) ∧ (∀ k, k < oZ C → oU (oPuts C p i) k = oU C k)
  | 0 => ⟨rfl, rfl, fun k hk => absurd hk (by omega), fun _ _ => rfl⟩
  | i + 1 => by
    obtain ⟨h1, h2, h3, h4⟩ := oPuts_f (C := C) (p := p) i
    refine ⟨?_, h2, fun k hk => ?_, fun k hk => ?_⟩
    · show oZ (oPuts C p i) + 1 = _
      omega
    · show (if oZ C + k = oZ (oPuts C p i) then p i else oU (oPuts C p i) (oZ C + k)) = p k
      by_cases e : k = i
      · rw [if_pos (by omega), e]
      · rw [if_neg (by omega)]
        exact h3 k (by omega)
    · show (if k = oZ (oPuts C p i) then p i else oU (oPuts C p i) k) = oU C k
      rw [if_neg (by omega)]
      exact h4 k hk
theorem oMake_p {D : oMd} {R : Nat → oRow} {p p' : Nat → Int32} {q : Nat} (hq : oNn p 0 = q) (hq9 : q < 10) (h4 : q = 4 → oLen p = 2 + 2 * oNn p 1) (h : ∀ i, i < oLen p → p i = p' i) : oMake D R p = oMake D R p' := by
  have hlb := oLen_b (p := p)
  have hn : ∀ i, i < oLen p → oNn p i = oNn p' i := fun i hi => by unfold oNn; rw [h i hi]
  have hq' : oNn p' 0 = q := by rw [← hn 0 (by omega), hq]
  have hL : oLen p = dL q (oNn p 1) := by unfold oLen; rw [hq]
  have h1 := hn 1 (by omega)
  rcases (show q = 0 ∨ q = 1 ∨ q = 2 ∨ q = 3 ∨ q = 4 ∨ q = 5 ∨ q = 6 ∨ q = 7 ∨ q = 8 ∨ q = 9 by omega) with e | e | e | e | e | e | e | e | e | e <;> subst e
  · rw [oMake_0 hq, oMake_0 hq', h1]
  · rw [oMake_1 hq, oMake_1 hq', h1]
  · rw [oMake_2 hq, oMake_2 hq', h1]
  · have hl : oLen p = 4 := hL
    rw [oMake_3 hq, oMake_3 hq', h1, h 2 (by omega), h 3 (by omega)]
  · have hl := h4 rfl
    have key : ∀ k, k ≤ oNn p 1 → oSum R p k = oSum R p' k := by
      intro k
      induction k with
      | zero => intro _; rfl
      | succ k ih =>
        intro hk
        rw [oSum, oSum, ih (by omega), h (2 + 2 * k) (by omega), h (2 + 2 * k + 1) (by omega)]
    rw [oMake_4 hq, oMake_4 hq', ← h1, key _ (Nat.le_refl _)]
  · have hl : oLen p = 3 := hL
    rw [oMake_5 hq, oMake_5 hq', h1, h 2 (by omega)]
  · have hl : oLen p = 4 := hL
    have e6 : oBrn p = oBrn p' := by
      unfold oBrn
      rw [h 1 (by omega), h 2 (by omega), h 3 (by omega)]
    rw [oMake_6 hq, oMake_6 hq', e6]
  · have hl : oLen p = 5 := hL
    rw [oMake_7 hq, oMake_7 hq', h1, hn 2 (by omega), hn 3 (by omega), hn 4 (by omega)]
  · rw [oMake_8 hq, oMake_8 hq', h1]
  · have hl : oLen p = 3 := hL
    rw [oMake_9 hq, oMake_9 hq', h1, hn 2 (by omega)]
/-- a whole good row, taken: it is kept -/
theorem oTks_row {D : oMd} {C : oCt} {p : Nat → Int32} {q : Nat} (hW : oWc D C) (e1 : oFa C = 0) (hz0 : 0 < oZ C) (hd : oRf C (oNr C) = oZ C) (hz : oZ C + oLen p ≤ 1500) (hq : p 0 = nI q) (hq9 : q < 10) (hL10 : oLen p ≤ 10) (h4 : q = 4 → oLen p = 2 + 2 * oNn p 1) (hg : ∀ i, i < oLen p → oFlt D (oNr C) (oNb C) (p 0) i (p i) = 0) (hm : (oMake D (oRw C) p).1 = 0) (hf : oFit (oMake D (oRw C) p).2) : ∃ p', (∀ i, i < oLen p → p' i = p i) ∧ oTks D C p (oLen p) = oKeep (oPuts C p (oLen p)) p' (oMake D (oRw C) p).2 := by
  have hlb := oLen_b (p := p)
  have hqn : oNn p 0 = q := by unfold oNn; rw [hq, nI_clamp (by omega)]
  have pa : ∀ i k, k < i → oPa (oPuts C p i) k = p k := fun i k hk => by
    obtain ⟨h1, h2, h3, h4⟩ := oPuts_f (C := C) (p := p) i
    have e : oRf (oPuts C p i) (oNr (oPuts C p i)) = oZ C := by
      unfold oRf oNr
      rw [h2]
      exact hd
    unfold oPa
    rw [e]
    exact h3 k hk
  have st : ∀ i, i < oLen p → oTake D (oPuts C p i) (p i) = if i + 1 < oLen p then oPuts C p (i + 1) else oKeep (oPuts C p (i + 1)) (oPa (oPuts C p (i + 1))) (oMake D (oRw C) (oPa (oPuts C p (i + 1)))).2 := by
    intro i hi
    obtain ⟨h1, h2, h3, h5⟩ := oPuts_f (C := C) (p := p) i
    have eFa : oFa (oPuts C p i) = 0 := by unfold oFa; rw [h2]; exact e1
    have eNr : oNr (oPuts C p i) = oNr C := by unfold oNr; rw [h2]
    have eNb : oNb (oPuts C p i) = oNb C := by unfold oNb; rw [h2]
    have eRw : oRw (oPuts C p i) = oRw C := by unfold oRw; rw [h2]
    have eRf : oRf (oPuts C p i) = oRf C := by unfold oRf; rw [h2]
    have eDr : oDr (oPuts C p i) = i := by unfold oDr; rw [h1, eRf, eNr, hd]; omega
    unfold oTake
    rw [if_neg (fun y => y eFa), if_neg (by omega), if_neg (by omega), eNr, eNb, eDr, eRw]
    have hfl : oFlt D (oNr C) (oNb C) (oPa (oPuts C p i) 0) i (p i) = 0 := by
      rw [oFlt_k (b := p 0) (fun y => pa i 0 (by omega))]
      exact hg i hi
    rw [if_neg (fun y => y hfl)]
    show (if ¬ (2 ≤ i + 1 ∧ oLen (oPa (oPuts C p (i + 1))) ≤ i + 1) then oPuts C p (i + 1) else _) = _
    have eL : 2 ≤ i + 1 → oLen (oPa (oPuts C p (i + 1))) = oLen p := fun y => by
      unfold oLen oNn
      rw [pa (i + 1) 0 (by omega), pa (i + 1) 1 (by omega)]
    by_cases c : i + 1 < oLen p
    · rw [if_pos c, if_pos]
      rintro ⟨y1, y2⟩
      rw [eL y1] at y2
      omega
    · rw [if_neg c, if_neg (fun y => y ⟨by omega, by rw [eL (by omega)]; omega⟩)]
      have eM : oMake D (oRw C) (oPa (oPuts C p (i + 1))) = oMake D (oRw C) p := (oMake_p hqn hq9 h4 (fun k hk => (pa (i + 1) k (by omega)).symm)).symm
      show (if ¬ (oMake D (oRw C) (oPa (oPuts C p (i + 1)))).1 = 0 then _ else oIf (oFit (oMake D (oRw C) (oPa (oPuts C p (i + 1)))).2) (oKeep (oPuts C p (i + 1)) (oPa (oPuts C p (i + 1))) (oMake D (oRw C) (oPa (oPuts C p (i + 1)))).2) _) = _
      rw [eM, if_neg (fun y => y hm), oIf_t hf]
  have it : ∀ i, i < oLen p → oTks D C p i = oPuts C p i := by
    intro i
    induction i with
    | zero => intro _; rfl
    | succ i ih =>
      intro hi
      show oTake D (oTks D C p i) (p i) = _
      rw [ih (by omega), st i (by omega), if_pos hi]
  refine ⟨oPa (oPuts C p (oLen p)), fun i hi => pa _ i hi, ?_⟩
  have e : oLen p = (oLen p - 1) + 1 := by omega
  have eM : oMake D (oRw C) (oPa (oPuts C p (oLen p))) = oMake D (oRw C) p := (oMake_p hqn hq9 h4 (fun k hk => (pa _ k hk).symm)).symm
  have key : oTks D C p ((oLen p - 1) + 1) = oKeep (oPuts C p ((oLen p - 1) + 1)) (oPa (oPuts C p ((oLen p - 1) + 1))) (oMake D (oRw C) (oPa (oPuts C p ((oLen p - 1) + 1)))).2 := by
    show oTake D (oTks D C p (oLen p - 1)) (p (oLen p - 1)) = _
    rw [it _ (by omega), st _ (by omega), if_neg (by omega)]
  rw [← e, eM] at key
  exact key
