/-! a row and its renamed one -/
def oRs (nd : Nat → Int32) (S S' : Nat → Bool) : Prop := (∀ x, ¬ nd x = 0 → S' (oNw nd x) = S x) ∧ (∀ y, (∀ x, ¬ nd x = 0 → y ≠ oNw nd x) → S' y = false)
def oRn (nd : Nat → Int32) (w w' : oRow) : Prop := (∀ v, oF w' v = oF w v) ∧ oR w' = oR w ∧ oRs nd (oS w) (oS w') ∧ oL w' = oL w ∧ oB w' = oB w
theorem oRs_0 {nd : Nat → Int32} : oRs nd (fun _ => false) (fun _ => false) := ⟨fun _ _ => rfl, fun _ _ => rfl⟩
theorem oRn_same {nd : Nat → Int32} {w : oRow} (h : oS w = fun _ => false) : oRn nd w w := ⟨fun _ => rfl, rfl, by rw [h]; exact oRs_0, rfl, rfl⟩
theorem oRs_or {nd : Nat → Int32} {S S' T T' : Nat → Bool} (h : oRs nd S S') (k : oRs nd T T') : oRs nd (fun x => S x || T x) (fun x => S' x || T' x) := ⟨fun x hx => by show (S' (oNw nd x) || T' (oNw nd x)) = _; rw [h.1 x hx, k.1 x hx], fun y hy => by show (S' y || T' y) = false; rw [h.2 y hy, k.2 y hy]; rfl⟩
theorem oRs_but {nd : Nat → Int32} {S S' T T' : Nat → Bool} (h : oRs nd S S') (k : oRs nd T T') : oRs nd (fun x => S x && !T x) (fun x => S' x && !T' x) := ⟨fun x hx => by show (S' (oNw nd x) && !T' (oNw nd x)) = _; rw [h.1 x hx, k.1 x hx], fun y hy => by show (S' y && !T' y) = false; rw [h.2 y hy]; rfl⟩
theorem oRn_sum {nd : Nat → Int32} {R R' : Nat → oRow} {p e : Nat → Int32} : ∀ k, (∀ m, m < k → oRn nd (R (oNn p (2 + 2 * m))) (R' (oNn e (2 + 2 * m))) ∧ e (2 + 2 * m + 1) = p (2 + 2 * m + 1)) → oRn nd (oSum R p k) (oSum R' e k)
  | 0, _ => oRn_same rfl
  | k + 1, h => by
    obtain ⟨a1, a2, a3, a4, a5⟩ := oRn_sum (nd := nd) (R := R) (R' := R') (p := p) (e := e) k (fun m hm => h m (by omega))
    obtain ⟨⟨b1, b2, b3, b4, b5⟩, b6⟩ := h k (by omega)
    refine ⟨fun v => ?_, ?_, oRs_or a3 b3, ?_, a5⟩
    · show oF (oSum R' e k) v + (e (2 + 2 * k + 1)).toInt64 * oF (R' (oNn e (2 + 2 * k))) v = oF (oSum R p k) v + (p (2 + 2 * k + 1)).toInt64 * oF (R (oNn p (2 + 2 * k))) v
      rw [a1 v, b1 v, b6]
    · show oR (oSum R' e k) + (e (2 + 2 * k + 1)).toInt64 * oR (R' (oNn e (2 + 2 * k))) = oR (oSum R p k) + (p (2 + 2 * k + 1)).toInt64 * oR (R (oNn p (2 + 2 * k)))
      rw [a2, b2, b6]
    · show oInh (oL (oSum R' e k)) (oL (R' (oNn e (2 + 2 * k)))) = oInh (oL (oSum R p k)) (oL (R (oNn p (2 + 2 * k))))
      rw [a4, b4]
theorem oRn_jn {nd : Nat → Int32} {a b c d x a' b' c' d' x' : oRow} (ha : oRn nd a a') (hb : oRn nd b b') (hc : oRn nd c c') (hd : oRn nd d d') (hx : oRn nd x x') : oRn nd (oJn a b c d x) (oJn a' b' c' d' x') := by
  refine ⟨hx.1, hx.2.1, oRs_or (oRs_but ha.2.2.1 hc.2.2.1) (oRs_but hb.2.2.1 hd.2.2.1), ?_, rfl⟩
  show oInh (oL a') (oL b') = oInh (oL a) (oL b)
  rw [ha.2.2.2.1, hb.2.2.2.1]
theorem oRn_join {nd : Nat → Int32} {a b c d a' b' c' d' : oRow} (ha : oRn nd a a') (hb : oRn nd b b') (hc : oRn nd c c') (hd : oRn nd d d') : (oJoin a' b' c' d').1 = (oJoin a b c d).1 ∧ oRn nd (oJoin a b c d).2 (oJoin a' b' c' d').2 := by
  have j1 : oJc c' d' = oJc c d := by unfold oJc; rw [hc.2.2.2.2, hd.2.2.2.2]
  have j2 : (∀ v, v < 8 → oF a' v = oF b' v) = (∀ v, v < 8 → oF a v = oF b v) := propext ⟨fun y v hv => by rw [← ha.1, ← hb.1]; exact y v hv, fun y v hv => by rw [ha.1, hb.1]; exact y v hv⟩
  have ji : ∀ u u' : oRow, oRn nd u u' → oImp u' = oImp u := fun u u' h => by
    unfold oImp
    rw [h.2.1]
    exact propext ⟨fun y => ⟨y.1, fun v hv => by rw [← h.1]; exact y.2 v hv⟩, fun y => ⟨y.1, fun v hv => by rw [h.1]; exact y.2 v hv⟩⟩
  unfold oJoin
  rw [j1, j2, ji a a' ha, ji b b' hb, ha.2.1, hb.2.1]
  by_cases c1 : oJc c d
  · rw [oIf_t c1, oIf_t c1]
    by_cases c2 : ∀ v, v < 8 → oF a v = oF b v
    · rw [oIf_t c2, oIf_t c2]
      split
      · exact ⟨rfl, oRn_jn ha hb hc hd hb⟩
      · exact ⟨rfl, oRn_jn ha hb hc hd ha⟩
    · rw [oIf_f c2, oIf_f c2]
      by_cases c3 : oImp a
      · rw [oIf_t c3, oIf_t c3]
        exact ⟨rfl, oRn_jn ha hb hc hd hb⟩
      · rw [oIf_f c3, oIf_f c3]
        by_cases c4 : oImp b
        · rw [oIf_t c4, oIf_t c4]
          exact ⟨rfl, oRn_jn ha hb hc hd ha⟩
        · rw [oIf_f c4, oIf_f c4]
          exact ⟨rfl, oRn_same rfl⟩
  · rw [oIf_f c1, oIf_f c1]
    exact ⟨rfl, oRn_same rfl⟩
theorem oRst_n {D : oMd} {w w' : oRow} {j : Nat} (hF : ∀ v, oF w' v = oF w v) (hR : oR w' = oR w) : ∀ n, oRst D w' j n = oRst D w j n
  | 0 => hR
  | n + 1 => by rw [oRst, oRst, oRst_n hF hR n, hF n]
theorem oRn_push {nd : Nat → Int32} {D : oMd} {w w' : oRow} {j : Nat} (h : oRn nd w w') : (oPush D w' j).1 = (oPush D w j).1 ∧ oRn nd (oPush D w j).2 (oPush D w' j).2 := by
  unfold oPush
  rw [h.1 j, oRst_n h.1 h.2.1 8]
  split
  · exact ⟨rfl, oRn_same rfl⟩
  · split
    · exact ⟨rfl, fun _ => rfl, rfl, h.2.2.1, h.2.2.2.1, rfl⟩
    · exact ⟨rfl, fun _ => rfl, rfl, h.2.2.1, h.2.2.2.1, rfl⟩
/-- the renamed numbers -/
theorem oEn_f {nd : Nat → Int32} {p : Nat → Int32} {q : Nat} (hq : oNn p 0 = q) (hb : ∀ i, i < oLen p → aIsRow q i → oNn p i < 200) : oEn nd p 0 = p 0 ∧ oLen (oEn nd p) = oLen p ∧ (∀ i, ¬ aIsRow q i → oEn nd p i = p i) ∧ (∀ i, i < oLen p → aIsRow q i → oNn (oEn nd p) i = oNw nd (oNn p i) ∧ oEn nd p i = nI (oNw nd (oNn p i))) := by
  have e0 : oEn nd p 0 = p 0 := by unfold oEn; exact if_neg dm_r0
  have e1 : ∀ i, ¬ aIsRow q i → oEn nd p i = p i := fun i h => by unfold oEn; rw [hq]; exact if_neg h
  have e2 : ∀ i, i < oLen p → aIsRow q i → oEn nd p i = nI (oNw nd (oNn p i)) := fun i _ h => by unfold oEn; rw [hq]; exact if_pos h
  have q' : oNn (oEn nd p) 0 = q := by unfold oNn; rw [e0]; exact hq
  refine ⟨e0, ?_, e1, fun i hi h => ⟨?_, e2 i hi h⟩⟩
  · unfold oLen
    rw [q', hq]
    by_cases c : q = 4
    · have : oEn nd p 1 = p 1 := e1 1 (by unfold aIsRow; omega)
      unfold oNn
      rw [this]
    · unfold dL
      simp [c]
  · have := hb i hi h
    have := oNw_r (nd := nd) (oNn p i)
    unfold oNn
    rw [e2 i hi h, nI_clamp (by unfold oNn at *; omega)]
    rfl
theorem oMake_rn {D : oMd} {R R' : Nat → oRow} {p : Nat → Int32} {nd : Nat → Int32} {q : Nat} (hq : oNn p 0 = q) (hq9 : q < 10) (h4 : q = 4 → oLen p = 2 + 2 * oNn p 1) (hb : ∀ i, i < oLen p → aIsRow q i → oNn p i < 200) (hr : ∀ i, i < oLen p → aIsRow q i → oRn nd (R (oNn p i)) (R' (oNw nd (oNn p i)))) : (oMake D R' (oEn nd p)).1 = (oMake D R p).1 ∧ oRn nd (oMake D R p).2 (oMake D R' (oEn nd p)).2 := by
  obtain ⟨e0, eL, e1, e2⟩ := oEn_f (nd := nd) hq hb
  have hlb := oLen_b (p := p)
  have hL : oLen p = dL q (oNn p 1) := by unfold oLen; rw [hq]
  have q' : oNn (oEn nd p) 0 = q := by unfold oNn; rw [e0]; exact hq
  have n1 : ∀ i, ¬ aIsRow q i → oNn (oEn nd p) i = oNn p i := fun i h => by unfold oNn; rw [e1 i h]
  rcases (show q = 0 ∨ q = 1 ∨ q = 2 ∨ q = 3 ∨ q = 4 ∨ q = 5 ∨ q = 6 ∨ q = 7 ∨ q = 8 ∨ q = 9 by omega) with e | e | e | e | e | e | e | e | e | e <;> subst e
  · rw [oMake_0 hq, oMake_0 q', n1 1 (by unfold aIsRow; omega)]
    exact ⟨rfl, oRn_same rfl⟩
  · rw [oMake_1 hq, oMake_1 q', n1 1 (by unfold aIsRow; omega)]
    exact ⟨rfl, oRn_same rfl⟩
  · rw [oMake_2 hq, oMake_2 q', n1 1 (by unfold aIsRow; omega)]
    exact ⟨rfl, oRn_same rfl⟩
  · rw [oMake_3 hq, oMake_3 q', n1 1 (by unfold aIsRow; omega), e1 2 (by unfold aIsRow; omega), e1 3 (by unfold aIsRow; omega)]
    exact ⟨rfl, oRn_same rfl⟩
  · have hl := h4 rfl
    rw [oMake_4 hq, oMake_4 q', n1 1 (by unfold aIsRow; omega)]
    refine ⟨rfl, oRn_sum _ (fun m hm => ⟨?_, e1 _ (by unfold aIsRow; omega)⟩)⟩
    have hR : aIsRow 4 (2 + 2 * m) := Or.inl ⟨rfl, by omega, by omega⟩
    rw [(e2 _ (by omega) hR).1]
    exact hr _ (by omega) hR
  · have hl : oLen p = 3 := hL
    have hR : aIsRow 5 1 := Or.inr (Or.inl ⟨Or.inl rfl, rfl⟩)
    have h := hr 1 (by omega) hR
    rw [oMake_5 hq, oMake_5 q', (e2 1 (by omega) hR).1, e1 2 (by unfold aIsRow; omega)]
    have hd : oDivs (R' (oNw nd (oNn p 1))) (p 2).toInt64 = oDivs (R (oNn p 1)) (p 2).toInt64 := by
      unfold oDivs
      exact propext ⟨fun y v hv => by rw [← h.1]; exact y v hv, fun y v hv => by rw [h.1]; exact y v hv⟩
    rw [hd]
    by_cases c : oDivs (R (oNn p 1)) (p 2).toInt64
    · rw [oIf_t c, oIf_t c]
      refine ⟨rfl, fun v => ?_, ?_, h.2.2.1, h.2.2.2.1, rfl⟩
      · show oF (R' (oNw nd (oNn p 1))) v / (p 2).toInt64 = oF (R (oNn p 1)) v / (p 2).toInt64
        rw [h.1 v]
      · show xFd (oR (R' (oNw nd (oNn p 1)))) (p 2).toInt64 = xFd (oR (R (oNn p 1))) (p 2).toInt64
        rw [h.2.1]
    · rw [oIf_f c, oIf_f c]
      exact ⟨rfl, oRn_same rfl⟩
  · have e6 : oBrn (oEn nd p) = oBrn p := by
      unfold oBrn
      rw [e1 1 (by unfold aIsRow; omega), e1 2 (by unfold aIsRow; omega), e1 3 (by unfold aIsRow; omega)]
    rw [oMake_6 hq, oMake_6 q', e6]
    refine ⟨rfl, oRn_same ?_⟩
    show oS (oBrn p) = _
    unfold oBrn
    split <;> rfl
  · have hl : oLen p = 5 := hL
    have hR : ∀ i, 0 < i → aIsRow 7 i := fun i hi => Or.inr (Or.inr ⟨rfl, hi⟩)
    rw [oMake_7 hq, oMake_7 q', (e2 1 (by omega) (hR 1 (by omega))).1, (e2 2 (by omega) (hR 2 (by omega))).1, (e2 3 (by omega) (hR 3 (by omega))).1, (e2 4 (by omega) (hR 4 (by omega))).1]
    exact oRn_join (hr 1 (by omega) (hR 1 (by omega))) (hr 2 (by omega) (hR 2 (by omega))) (hr 3 (by omega) (hR 3 (by omega))) (hr 4 (by omega) (hR 4 (by omega)))
  · rw [oMake_8 hq, oMake_8 q', n1 1 (by unfold aIsRow; omega)]
    exact ⟨rfl, oRn_same rfl⟩
  · have hl : oLen p = 3 := hL
    have hR : aIsRow 9 1 := Or.inr (Or.inl ⟨Or.inr rfl, rfl⟩)
    rw [oMake_9 hq, oMake_9 q', (e2 1 (by omega) hR).1, n1 2 (by unfold aIsRow; omega)]
    exact oRn_push (hr 1 (by omega) hR)
/-- the judge is content with the renamed numbers -/
theorem dm_le : ∀ q, q < 10 → ∀ i, i < 10 → i ≠ 0 → 1 ≤ dmN q i ∧ dmN q i ≤ 11 := by decide +kernel
theorem dm_6 {q i : Nat} (hq : q < 10) (hi : i < 10) (h0 : i ≠ 0) : dmN q i = 6 ↔ aIsRow q i := by
  rw [← dm_row q hq i hi h0, dmv_all q hq i hi h0]
  have := dm_le q hq i hi h0
  exact (nI_eq (a := dmN q i) (b := 6) (by omega) (by omega)).symm
theorem oFlt_nr {D : oMd} {nr nb nr' nb' q i : Nat} {x : Int32} (hq : q < 10) (hi : i < 10) (h0 : i ≠ 0) (h6 : ¬ dmN q i = 6) : oFlt D nr' nb' (nI q) i x = oFlt D nr nb (nI q) i x := by
  rw [oFlt_m hq hi h0 rfl, oFlt_m hq hi h0 rfl]
  have := dm_le q hq i hi h0
  rcases (show dmN q i = 1 ∨ dmN q i = 2 ∨ dmN q i = 3 ∨ dmN q i = 4 ∨ dmN q i = 5 ∨ dmN q i = 7 ∨ dmN q i = 8 ∨ dmN q i = 9 ∨ dmN q i = 10 ∨ dmN q i = 11 by omega) with e | e | e | e | e | e | e | e | e | e <;> rw [e]
  · rw [dFltG_1, dFltG_1]
  · rw [dFltG_2, dFltG_2]
  · rw [dFltG_3, dFltG_3]
  · rw [dFltG_4, dFltG_4]
  · rw [dFltG_5, dFltG_5]
  · rw [dFltG_7, dFltG_7]
  · rw [dFltG_8, dFltG_8]
  · rw [dFltG_9, dFltG_9]
  · rw [dFltG_10, dFltG_10]
  · rw [dFltG_11, dFltG_11]
/-- what the rows up to r make, when they are read anew -/
def oAn (D : oMd) (C : oCt) (nd : Nat → Int32) (r : Nat) (E : oCt) : Prop := (oFa E = 0 ∧ oZ E = oMn (oPr C) nd r ∧ oNr E = oNw nd r ∧ oRf E (oNr E) = oZ E ∧ oNb E ≤ oBc (oPr C) r) ∧ ∀ x, x < r → ¬ nd x = 0 → oRn nd (oRw C x) (oRw E (oNw nd x))
theorem oMn_1 {ps : Nat → Nat → Int32} {nd : Nat → Int32} {r : Nat} : 1 ≤ oMn ps nd r := oMn_le (r := 0) (Nat.zero_le _)
theorem o_anew {D : oMd} {C : oCt} {w : Nat} {nd : Nat → Int32} (h : oWc D C) (hw : w < oNr C) (hcl : ∀ j, j ≤ w → ¬ nd j = 0 → ∀ b, oIn (oPr C j) b → ¬ nd b = 0) : ∀ r, r ≤ w + 1 → oAn D C nd r (oTks D oNew (oKep (oDg D) (oPr C) nd (w + 1)) (oMn (oPr C) nd r))
  | 0, _ => by
    have e0 : oKep (oDg D) (oPr C) nd (w + 1) 0 = oDg D := by
      have := oKep_lt (dg := oDg D) (ps := oPr C) (nd := nd) (b := 0) (w + 1) 0 (by show 0 < 1; omega)
      rw [Nat.zero_add] at this
      exact this
    have e1 : oTks D oNew (oKep (oDg D) (oPr C) nd (w + 1)) (oMn (oPr C) nd 0) = oPut oNew (oDg D) := by
      show oTake D oNew (oKep (oDg D) (oPr C) nd (w + 1) 0) = _
      rw [e0]
      unfold oTake
      rw [if_neg (fun y => y rfl), if_neg (by show ¬ (0 : Nat) = 1500; omega), if_pos (show oZ oNew = 0 from rfl), if_pos rfl]
    rw [e1]
    exact ⟨⟨rfl, rfl, rfl, rfl, Nat.le_refl _⟩, fun x hx => absurd hx (by omega)⟩
  | r + 1, hr => by
    have ih := o_anew h hw hcl r (by omega)
    by_cases c : nd r = 0
    · have e1 : oMn (oPr C) nd (r + 1) = oMn (oPr C) nd r := by rw [oMn, if_pos c]; rfl
      have e2 : oNw nd (r + 1) = oNw nd r := by rw [oNw, if_pos c]; rfl
      rw [e1]
      obtain ⟨⟨a1, a2, a3, a4, a5⟩, a6⟩ := ih
      refine ⟨⟨a1, a2.trans e1.symm, a3.trans e2.symm, a4, Nat.le_trans a5 (oBc_le (by omega))⟩, fun x hx hn => ?_⟩
      by_cases k : x = r
      · rw [k] at hn
        exact absurd c hn
      · exact a6 x (by omega) hn
    · have hrn : r < oNr C := by omega
      have h200 := h.1.2.1
      have hz15 := h.1.1
      obtain ⟨g1, g2, ⟨g3, g4, g5, g6⟩, g7⟩ := h.2.2.2.1 r hrn
      obtain ⟨q, q1, q2, q3, q4⟩ := oRk_q (R := oRw C) g3 (by omega)
      have hlb := oLen_b (p := oPr C r)
      have hl10 := oLen_10 h hrn
      have hpl : ∀ i, i < oLen (oPr C r) → aIsRow q i → oPr C r i = nI (oNn (oPr C r) i) ∧ oNn (oPr C r) i < r := fun i hi hR => oPlace h hrn hi (by rw [q3]; exact hR)
      obtain ⟨f0, fL, f1, f2⟩ := oEn_f (nd := nd) q3 (fun i hi hR => by have := (hpl i hi hR).2; omega)
      obtain ⟨⟨a1, a2, a3, a4, a5⟩, a6⟩ := ih
      have e1 : oMn (oPr C) nd (r + 1) = oMn (oPr C) nd r + oLen (oPr C r) := by rw [oMn, if_neg c]
      have e2 : oNw nd (r + 1) = oNw nd r + 1 := by rw [oNw, if_neg c]
      have hzz := oMn_z (nd := nd) h (r + 1) (by omega)
      have hrfz : oRf C (r + 1) ≤ oZ C := by have := oRf_z h hrn; omega
      have hEW : oWc D (oTks D oNew (oKep (oDg D) (oPr C) nd (w + 1)) (oMn (oPr C) nd r)) := oTks_w oNew_w _
      have hbr : q = 6 → oBc (oPr C) r < 60 := fun e => by
        have : oBc (oPr C) (r + 1) ≤ oBc (oPr C) (oNr C) := oBc_le (by omega)
        rw [oBc, if_pos (q3.trans e)] at this
        have := h.1.2.2.1
        have := h.1.2.2.2.1
        omega
      have hnw := oNw_r (nd := nd) r
      have hrel : ∀ i, i < oLen (oPr C r) → aIsRow q i → oRn nd (oRw C (oNn (oPr C r) i)) (oRw (oTks D oNew (oKep (oDg D) (oPr C) nd (w + 1)) (oMn (oPr C) nd r)) (oNw nd (oNn (oPr C r) i))) := fun i hi hR => a6 _ (hpl i hi hR).2 (hcl r (by omega) c _ ⟨i, hi, by rw [q3]; exact hR, rfl⟩)
      have hnd : ∀ i, i < oLen (oPr C r) → aIsRow q i → ¬ nd (oNn (oPr C r) i) = 0 := fun i hi hR => hcl r (by omega) c _ ⟨i, hi, by rw [q3]; exact hR, rfl⟩
      obtain ⟨mk1, mk2⟩ := oMake_rn (D := D) (R := oRw C) (R' := oRw (oTks D oNew (oKep (oDg D) (oPr C) nd (w + 1)) (oMn (oPr C) nd r))) (nd := nd) q3 q1 (fun e => (oSrc4 h hrn q2 q1 e).2) (fun i hi hR => by have := (hpl i hi hR).2; omega) hrel
      rw [e1, oTks_add, oTks_c (f' := oEn nd (oPr C r)) _ (fun i hi => oKep_e (by omega) c hi)]
      generalize oTks D oNew (oKep (oDg D) (oPr C) nd (w + 1)) (oMn (oPr C) nd r) = E at *
      have hE0 : oEn nd (oPr C r) 0 = nI q := f0.trans q2
      have hgood : ∀ i, i < oLen (oEn nd (oPr C r)) → oFlt D (oNr E) (oNb E) (oEn nd (oPr C r) 0) i (oEn nd (oPr C r) i) = 0 := by
        intro i hi
        rw [fL] at hi
        rw [hE0]
        by_cases i0 : i = 0
        · subst i0
          rw [oFlt_0, hE0]
          exact dKind_y rfl q1 (by omega) (fun e => by have := hbr e; omega)
        · have go := g3 i hi
          rw [q2] at go
          by_cases hR : aIsRow q i
          · rw [(f2 i hi hR).2, oFlt_m q1 (by omega) i0 ((dm_6 q1 (by omega) i0).mpr hR), dFltG_6]
            refine xD_t ⟨oNw nd (oNn (oPr C r) i), ?_, rfl⟩
            rw [a3]
            exact oNw_lt (hnd i hi hR) (hpl i hi hR).2
          · rw [f1 i hR, oFlt_nr (nr := r) (nb := oBc (oPr C) r) q1 (by omega) i0 (fun y => hR ((dm_6 q1 (by omega) i0).mp y))]
            exact go
      have hfit : oFit (oMake D (oRw E) (oEn nd (oPr C r))).2 := by
        refine ⟨fun v hv => ?_, ?_⟩
        · rw [mk2.1 v]; exact g5.1 v hv
        · rw [mk2.2.1]; exact g5.2
      obtain ⟨p', p1, p2⟩ := oTks_row (p := oEn nd (oPr C r)) hEW a1 (by have := oMn_1 (ps := oPr C) (nd := nd) (r := r); omega) a4 (by rw [fL]; omega) hE0 q1 (by rw [fL]; omega) (fun e => by
        have := (oSrc4 h hrn q2 q1 e).2
        rw [fL, this]
        have n1 : oEn nd (oPr C r) 1 = oPr C r 1 := f1 1 (by unfold aIsRow; omega)
        unfold oNn
        rw [n1]) hgood (mk1.trans g4) hfit
      rw [fL] at p1 p2
      rw [p2]
      obtain ⟨u1, u2, u3, u4⟩ := oPuts_f (C := E) (p := oEn nd (oPr C r)) (oLen (oPr C r))
      have eNr : oNr (oPuts E (oEn nd (oPr C r)) (oLen (oPr C r))) = oNr E := by unfold oNr; rw [u2]
      have eNb : oNb (oPuts E (oEn nd (oPr C r)) (oLen (oPr C r))) = oNb E := by unfold oNb; rw [u2]
      have eRw : oRw (oPuts E (oEn nd (oPr C r)) (oLen (oPr C r))) = oRw E := by unfold oRw; rw [u2]
      have eFa : oFa (oPuts E (oEn nd (oPr C r)) (oLen (oPr C r))) = oFa E := by unfold oFa; rw [u2]
      have q6 : oNn p' 0 = q := by unfold oNn; rw [p1 0 (by omega), hE0, nI_clamp (by omega)]
      refine ⟨⟨eFa.trans a1, ?_, ?_, ?_, ?_⟩, fun x hx hn => ?_⟩
      · show oZ (oPuts E (oEn nd (oPr C r)) (oLen (oPr C r))) = _
        rw [u1, a2, e1]
      · show oNr (oPuts E (oEn nd (oPr C r)) (oLen (oPr C r))) + 1 = _
        rw [eNr, a3, e2]
      · show (if oNr (oPuts E (oEn nd (oPr C r)) (oLen (oPr C r))) + 1 = oNr (oPuts E (oEn nd (oPr C r)) (oLen (oPr C r))) + 1 then oZ (oPuts E (oEn nd (oPr C r)) (oLen (oPr C r))) else _) = oZ (oPuts E (oEn nd (oPr C r)) (oLen (oPr C r)))
        rw [if_pos rfl]
      · show oNb (oPuts E (oEn nd (oPr C r)) (oLen (oPr C r))) + (if oNn p' 0 = 6 then 1 else 0) ≤ oBc (oPr C) (r + 1)
        rw [eNb, oBc, q6, q3]
        omega
      · show oRn nd (oRw C x) (if oNw nd x = oNr (oPuts E (oEn nd (oPr C r)) (oLen (oPr C r))) then oKp p' (oNr (oPuts E (oEn nd (oPr C r)) (oLen (oPr C r)))) (oMake D (oRw E) (oEn nd (oPr C r))).2 else oRw (oPuts E (oEn nd (oPr C r)) (oLen (oPr C r))) (oNw nd x))
        rw [eNr, eRw, a3]
        by_cases k : x = r
        · subst k
          rw [if_pos rfl, g6]
          unfold oKp
          rw [q6, q3]
          by_cases k6 : q = 6
          · rw [if_pos k6, if_pos k6]
            have hl4 : oLen (oPr C x) = 4 := by unfold oLen; rw [q3, k6]; rfl
            have pp : ∀ i, i < 4 → p' i = oPr C x i := fun i hi => by rw [p1 i (by omega), f1 i (by unfold aIsRow; omega)]
            refine ⟨mk2.1, mk2.2.1, ⟨fun y hy => ?_, fun y hy => ?_⟩, mk2.2.2.2.1, ?_⟩
            · show (oNw nd y == oNw nd x) = (y == x)
              by_cases e : y = x
              · rw [e]; simp
              · have : ¬ oNw nd y = oNw nd x := fun z => e (oNw_inj hy c z)
                rw [beq_eq_false_iff_ne.mpr this, beq_eq_false_iff_ne.mpr e]
            · show (y == oNw nd x) = false
              exact beq_eq_false_iff_ne.mpr (hy x c)
            · show some (p' 1, p' 2, p' 3) = some (oPr C x 1, oPr C x 2, oPr C x 3)
              rw [pp 1 (by omega), pp 2 (by omega), pp 3 (by omega)]
          · rw [if_neg k6, if_neg k6]
            exact mk2
        · have := oNw_lt hn (show x < r by omega)
          rw [if_neg (by omega)]
          exact a6 x (by omega) hn
