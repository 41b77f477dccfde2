/-! What make leaves, and take -/
theorem xM.mono {l : Launch} {G : xG} {y : MethodName} {cc : ByteArray} {n : Nat} {ret : Option FieldType} {f lo : Nat} {av : List Value} {σ : xS} {P Q : Option Value → xS → Prop} (h : xM l G y cc n ret f lo av σ P) (hi : ∀ r t, P r t → Q r t) : xM l G y cc n ret f lo av σ Q := by
  unfold xM Met at h ⊢
  refine Jvm.Free.MetFree.mono h (fun _ _ z => z) (fun _ _ _ _ _ z => z) (fun a s o s' _ hq => ?_)
  obtain ⟨⟨⟨r, τ, h1, h2, h3⟩, h4⟩, h5⟩ := hq
  exact ⟨⟨⟨r, τ, h1, hi r τ h2, h3⟩, h4⟩, h5⟩
def oPM (D : oMd) (R : Nat → oRow) (p : Nat → Int32) (br : Nat → Nat) (nb : Nat) (σ : xS) (i n : Nat) (y : Int32) (t : xS) : Prop := y = (oMake D R p).1 ∧ xOff i σ t ∧ (y = 0 → oCr br nb t i (oMake D R p).2 ∧ xgI t (61 + i) 5 = p 0 ∧ xgI t (61 + i) 7 = nI n ∧ xgI t (61 + i) 6 = xgI σ (61 + i) 6 ∧ (oNn p 0 = 6 → xgI t (61 + i) 8 = p 1 ∧ xgI t (61 + i) 9 = p 2 ∧ xgI t (61 + i) 10 = p 3))
/-- kind, beginning and length stay -/
def oKe (i : Nat) (σ t : xS) : Prop := ∀ b, b = 5 ∨ b = 6 ∨ b = 7 → xgI t (61 + i) b = xgI σ (61 + i) b
theorem oKe.tr {i : Nat} {σ t u : xS} (h : oKe i σ t) (k : oKe i t u) : oKe i σ u := fun b hb => (k b hb).trans (h b hb)
theorem oKe_L {i a j : Nat} {σ : xS} {v : Int64} : oKe i σ (xsL σ a j v) := fun _ _ => rfl
theorem oKe_lim {i : Nat} {σ : xS} {x : Int64} : oKe i σ (rLimit σ i x) := fun b hb => by
  unfold rLimit
  rw [xgI_L, xgI_n (by omega)]
theorem oKe_inhL {i j : Nat} {σ : xS} : oKe i σ (rInhL σ i j) := by
  unfold rInhL
  repeat' split
  all_goals first | exact fun _ _ => rfl | exact oKe_lim
theorem oKe_inhA {i j : Nat} {σ : xS} : oKe i σ (rInhA σ i j) := fun _ _ => rfl
theorem oKe_addT {i j : Nat} {σ : xS} {o : Int64} : oKe i σ (rAddT σ i j o) := fun b _ => by
  unfold rAddT
  rw [xgI_L, rAdd_I]
theorem oKe_set {i : Nat} {σ : xS} {v : Int32} {f : Int64} : oKe i σ (rSet σ i v f) := by
  unfold rSet
  repeat' split
  all_goals exact fun _ _ => rfl
theorem oKe_sgl {i : Nat} {σ : xS} {v : Int32} {f r : Int64} : oKe i σ (rSingle σ i v f r) := oKe_set.tr oKe_L
theorem oKe_sum {i : Nat} {σ : xS} {pr : Nat → Nat} {po : Nat → Int32} : ∀ k, oKe i σ (dSum σ i pr po k)
  | 0 => fun _ _ => rfl
  | k + 1 => by
    rw [dSum]
    exact (oKe_sum k).tr (oKe_addT.tr (oKe_inhA.tr oKe_inhL))
theorem oKe_done {i j : Nat} {σ : xS} {d : Int64} : oKe i σ (dDone σ i j d) := by
  unfold dDone
  refine oKe.tr ?_ (oKe_inhA.tr oKe_inhL)
  exact fun b _ => by rw [xgI_L, dDv_I]
theorem oKe_brn {i : Nat} {σ : xS} : oKe i σ (dBrn σ i) := by
  have h : oKe i σ (dBr1 σ i) := fun b hb => by
    unfold dBr1
    rw [xgI_n (by omega), xgI_n (by omega), xgI_n (by omega)]
  unfold dBrn
  split
  · exact h.tr oKe_sgl
  · exact h.tr oKe_sgl
theorem oKe_jf {i a b c d x : Nat} {σ : xS} : oKe i σ (dJf σ i a b c d x) := by
  unfold dJf dJa
  exact oKe_addT.tr (oKe_L.tr (oKe_inhL.tr oKe_inhL))
theorem oKe_bet {i c p : Nat} {σ : xS} : oKe i σ (dBet σ i c p) := by
  unfold dBet
  exact (show oKe i σ (mCr σ i (xgI σ (c + 3)) 8) from fun b _ => mCr_I _ _ _ _ _ _).tr (oKe_L.tr oKe_lim)
theorem oKe_push {i j c V w : Nat} {σ : xS} : oKe i σ (dPush σ i j c V w).2 := by
  unfold dPush
  repeat' split
  · exact fun _ _ => rfl
  · exact oKe_sgl.tr (oKe_inhA.tr oKe_inhL)
  · exact oKe_sgl.tr (oKe_inhA.tr oKe_inhL)
theorem dK_I {σ : xS} {i n a b : Nat} {q : Int32} (h : a ≠ 61 + i ∨ (b ≠ 5 ∧ b ≠ 7)) : xgI (dK σ i q n) a b = xgI σ a b := by
  unfold dK
  rw [xgI_n (by omega), xgI_n (by omega)]
theorem dK_5 {σ : xS} {i n : Nat} {q : Int32} : xgI (dK σ i q n) (61 + i) 5 = q := by
  unfold dK
  rw [xgI_n (by omega), xgI_s]
theorem dK_7 {σ : xS} {i n : Nat} {q : Int32} : xgI (dK σ i q n) (61 + i) 7 = nI n := by
  unfold dK
  rw [xgI_s]
theorem oCm_K {D : oMd} {σ : xS} {c i n : Nat} {q : Int32} (hi : i < 201) (hwm : oWm D) (h : oCm D σ c) : oCm D (dK σ i q n) c := oCm_c h hwm.1.2.1 hwm.1.2.2.1 hwm.1.2.2.2 (fun a b _ => dK_I (by omega))
/-- the end of a make that tells no fault -/
theorem oPM_ok {D : oMd} {R : Nat → oRow} {p : Nat → Int32} {br : Nat → Nat} {nb : Nat} {σ t : xS} {i n : Nat} {w : oRow} {q : Int32} (e : oMake D R p = (0, w)) (hq : q = p 0) (ho : xOff i (dK σ i q n) t) (hk : oKe i (dK σ i q n) t) (hc : oCr br nb t i w) (h6 : oNn p 0 = 6 → xgI t (61 + i) 8 = p 1 ∧ xgI t (61 + i) 9 = p 2 ∧ xgI t (61 + i) 10 = p 3) : oPM D R p br nb σ i n 0 t := by
  refine ⟨by rw [e], dK_off.tr ho, fun _ => ⟨by rw [e]; exact hc, ?_, ?_, ?_, h6⟩⟩
  · rw [hk 5 (by omega), dK_5, hq]
  · rw [hk 7 (by omega), dK_7]
  · rw [hk 6 (by omega), dK_I (by omega)]
theorem oPM_no {D : oMd} {R : Nat → oRow} {p : Nat → Int32} {br : Nat → Nat} {nb : Nat} {σ t : xS} {i n : Nat} {w : oRow} {y : Int32} {q : Int32} (e : oMake D R p = (y, w)) (hy : ¬ y = 0) (ho : xOff i (dK σ i q n) t) : oPM D R p br nb σ i n y t := ⟨by rw [e], dK_off.tr ho, fun z => absurd z hy⟩
theorem oMake_0 {D : oMd} {R : Nat → oRow} {p : Nat → Int32} (h : oNn p 0 = 0) : oMake D R p = (0, oGiv D (oNn p 1)) := by
  unfold oMake
  rw [if_pos h]
theorem oMake_1 {D : oMd} {R : Nat → oRow} {p : Nat → Int32} (h : oNn p 0 = 1) : oMake D R p = (0, oSgl (oNn p 1) 1 (oHi D (oNn p 1)).toInt64 (fun _ => false) none) := by
  unfold oMake
  rw [if_neg (by omega), if_pos h]
theorem oMake_2 {D : oMd} {R : Nat → oRow} {p : Nat → Int32} (h : oNn p 0 = 2) : oMake D R p = (0, oSgl (oNn p 1) (-1) (-oLo D (oNn p 1)).toInt64 (fun _ => false) none) := by
  unfold oMake
  rw [if_neg (by omega), if_neg (by omega), if_pos h]
theorem oMake_3 {D : oMd} {R : Nat → oRow} {p : Nat → Int32} (h : oNn p 0 = 3) : oMake D R p = (0, oTab D (oNn p 1) (p 2) (p 3)) := by
  unfold oMake
  rw [if_neg (by omega), if_neg (by omega), if_neg (by omega), if_pos h]
theorem oMake_4 {D : oMd} {R : Nat → oRow} {p : Nat → Int32} (h : oNn p 0 = 4) : oMake D R p = (0, oSum R p (oNn p 1)) := by
  unfold oMake
  rw [if_neg (by omega), if_neg (by omega), if_neg (by omega), if_neg (by omega), if_pos h]
theorem oMake_5 {D : oMd} {R : Nat → oRow} {p : Nat → Int32} (h : oNn p 0 = 5) : oMake D R p = oIf (oDivs (R (oNn p 1)) (p 2).toInt64) (0, oDiv (R (oNn p 1)) (p 2).toInt64) (5, oNil) := by
  unfold oMake
  rw [if_neg (by omega), if_neg (by omega), if_neg (by omega), if_neg (by omega), if_neg (by omega), if_pos h]
theorem oMake_6 {D : oMd} {R : Nat → oRow} {p : Nat → Int32} (h : oNn p 0 = 6) : oMake D R p = (0, oBrn p) := by
  unfold oMake
  rw [if_neg (by omega), if_neg (by omega), if_neg (by omega), if_neg (by omega), if_neg (by omega), if_neg (by omega), if_pos h]
theorem oMake_7 {D : oMd} {R : Nat → oRow} {p : Nat → Int32} (h : oNn p 0 = 7) : oMake D R p = oJoin (R (oNn p 1)) (R (oNn p 2)) (R (oNn p 3)) (R (oNn p 4)) := by
  unfold oMake
  rw [if_neg (by omega), if_neg (by omega), if_neg (by omega), if_neg (by omega), if_neg (by omega), if_neg (by omega), if_neg (by omega), if_pos h]
theorem oMake_8 {D : oMd} {R : Nat → oRow} {p : Nat → Int32} (h : oNn p 0 = 8) : oMake D R p = (0, oBet D (oNn p 1)) := by
  unfold oMake
  rw [if_neg (by omega), if_neg (by omega), if_neg (by omega), if_neg (by omega), if_neg (by omega), if_neg (by omega), if_neg (by omega), if_neg (by omega), if_pos h]
theorem oMake_9 {D : oMd} {R : Nat → oRow} {p : Nat → Int32} (h : oNn p 0 = 9) : oMake D R p = oPush D (R (oNn p 1)) (oNn p 2) := by
  unfold oMake
  rw [if_neg (by omega), if_neg (by omega), if_neg (by omega), if_neg (by omega), if_neg (by omega), if_neg (by omega), if_neg (by omega), if_neg (by omega), if_neg (by omega)]

/-- make: the row is what its numbers make -/
theorem o_make {l : Launch} {G : xG} {σ : xS} {D : oMd} {c : Nat} {R : Nat → oRow} {p : Nat → Int32} {br : Nat → Nat} {nb nb2 i n q : Nat} (hm : oCm D σ c) (hwm : oWm D) (hi : i < 200) (hn : xgI σ 11 1 = nI n) (hnL : n = oLen p) (hp : ∀ k, k < n → xgI σ 12 k = p k) (hrc : xgI σ 8 3 = nI i) (h0 : oCr br nb σ i oNil) (hq : p 0 = nI q) (hq9 : q < 10) (hg : ∀ k, k < oLen p → oFlt D i nb2 (p 0) k (p k) = 0) (hR : ∀ r, r < i → oCr br nb σ r (R r) ∧ (xgI σ (61 + r) 5 = 6 ↔ ¬ oB (R r) = none) ∧ ∀ v b s, oB (R r) = some (v, b, s) → xgI σ (61 + r) 8 = v ∧ xgI σ (61 + r) 9 = b ∧ xgI σ (61 + r) 10 = s) : xM l G yX1_make cX1_make 5 (Option.some Jvm.ClassFile.FieldType.int) 3 80 [.ref (G.2.1 11), .ref (G.2.1 (61 + i)), .ref (G.2.1 8), .ref (G.2.1 c), .ref (G.2.1 3)] σ (fun r t => ∃ y : Int32, r = some (.int y) ∧ oPM D R p br nb σ i n y t) := by
  have hw0 := hwm
  obtain ⟨⟨v1, v2, v3, v4⟩, w5, w6, w7, w8⟩ := hwm
  have hm0 := hm
  obtain ⟨m0, ⟨a1, a2, a3, a4⟩, a5, a6, a7, a8, a9⟩ := hm
  have hcb := mC_b m0
  have hFb := mF_b m0
  have hPb := mP_b m0
  have hQb := mQ_b m0
  have hqn : oNn p 0 = q := by unfold oNn; rw [hq, nI_clamp (by omega)]
  have hlb := oLen_b (p := p)
  have hL : oLen p = dL q (oNn p 1) := by unfold oLen; rw [hqn]
  have p0 : xgI σ 12 0 = nI q := (hp 0 (by omega)).trans hq
  obtain ⟨s4, s5, s7⟩ := oSrc (by omega) hq hq9 hg
  have h0' : ∀ z : Int32, oCr br nb (dK σ i z n) i oNil := fun z => oCr_K h0
  have hR' : ∀ (z : Int32) r, r < i → oCr br nb (dK σ i z n) r (R r) := fun z r hr => oCr_off (by omega) (by omega) (by omega) dK_off (hR r hr).1
  have hm' : ∀ z : Int32, oCm D (dK σ i z n) c := fun z => oCm_K (by omega) hw0 hm0
  have at' : ∀ k, k < oLen p → oFlt D i nb2 (nI q) k (p k) = 0 := fun k hk => by have := hg k hk; rw [hq] at this; exact this
  rcases (show q = 0 ∨ q = 1 ∨ q = 2 ∨ q = 3 ∨ q = 4 ∨ q = 5 ∨ q = 6 ∨ q = 7 ∨ q = 8 ∨ q = 9 by omega) with e | e | e | e | e | e | e | e | e | e <;> subst e
  · obtain ⟨j, hj, ej⟩ := oPl_rule hq9 (by omega) (by omega) rfl (at' 1 (by omega))
    have e1 : oNn p 1 = j := by unfold oNn; rw [ej, nI_clamp (by omega)]
    refine xM.mono (c_X1_make0 (i := i) (n := n) (by omega) m0 hn p0 a2 v2 ((hp 1 (by omega)).trans ej) hj) (fun r t h => ⟨0, h.1, ?_⟩)
    rw [h.2]
    refine oPM_ok (by rw [oMake_0 hqn, e1]) hq.symm ((mCr_off 8).tr xOff.L) (oKe.tr (fun b _ => mCr_I _ _ _ _ _ _) oKe_L) ?_ (fun z => absurd (hqn.symm.trans z) (by omega))
    rw [dK_I (a := c + 5) (by omega), (a6 j hj).2]
    exact oCr_giv (fun v hv => by rw [dK_I (by omega)]; exact (a6 j hj).1 v hv) (h0' _)
  · obtain ⟨v, hv, ev⟩ := oPl_var hq9 (by omega) (by omega) rfl (at' 1 (by omega))
    have e1 : oNn p 1 = v := by unfold oNn; rw [ev, nI_clamp (by omega)]
    refine xM.mono (c_X1_make1 (i := i) (n := n) (by omega) m0 hn p0 a1 v1 ((hp 1 (by omega)).trans ev) hv) (fun r t h => ⟨0, h.1, ?_⟩)
    rw [h.2]
    refine oPM_ok (by rw [oMake_1 hqn, e1]) hq.symm rSingle_off oKe_sgl ?_ (fun z => absurd (hqn.symm.trans z) (by omega))
    rw [dK_I (by omega), (a5 v (by omega)).2.1]
    exact oCr_sgl (by omega) (h0' _)
  · obtain ⟨v, hv, ev⟩ := oPl_var hq9 (by omega) (by omega) rfl (at' 1 (by omega))
    have e1 : oNn p 1 = v := by unfold oNn; rw [ev, nI_clamp (by omega)]
    refine xM.mono (c_X1_make2 (i := i) (n := n) (by omega) m0 hn p0 a1 v1 ((hp 1 (by omega)).trans ev) hv) (fun r t h => ⟨0, h.1, ?_⟩)
    rw [h.2]
    refine oPM_ok (by rw [oMake_2 hqn, e1]) hq.symm rSingle_off oKe_sgl ?_ (fun z => absurd (hqn.symm.trans z) (by omega))
    rw [dK_I (by omega), (a5 v (by omega)).1]
    exact oCr_sgl (by omega) (h0' _)
  · obtain ⟨j, hj, ej⟩ := oPl_tab hq9 (by omega) (by omega) rfl (at' 1 (by omega))
    have e1 : oNn p 1 = j := by unfold oNn; rw [ej, nI_clamp (by omega)]
    obtain ⟨t1, t2, t3, t4⟩ := a7 j hj
    obtain ⟨u1, u2, u3⟩ := w8 j hj
    have hl4 : oLen p = 4 := hL
    refine xM.mono (c_X1_make3 (i := i) (n := n) (by omega) m0 hn p0 a3 v3 ((hp 1 (by omega)).trans ej) hj t1 (by omega) t2 (by omega) t3 u3) (fun r t h => ⟨0, h.1, ?_⟩)
    rw [h.2]
    refine oPM_ok (by rw [oMake_3 hqn, e1]) hq.symm (xOff.F.tr (xOff.F.tr (mCt_off _))) (fun b _ => by rw [mCt_I]; rfl) ?_ (fun z => absurd (hqn.symm.trans z) (by omega))
    rw [hp 2 (by omega), hp 3 (by omega)]
    refine oCr_tab (by omega) (by omega) (fun k hk => ?_) (h0' _)
    unfold mG
    rw [dK_I (by omega), dK_I (by omega), (t4 k hk).1, (t4 k hk).2]
  · obtain ⟨k1, k2, k3, k4, k5⟩ := s4 rfl
    refine xM.mono (c_X1_make4 (i := i) (n := n) (by omega) m0 hn p0 (by omega) hrc (k := oNn p 1) (pr := fun m => oNn p (2 + 2 * m)) k2 (by omega) (fun m hm => ⟨(hp _ (by omega)).trans (k5 m hm).1, (k5 m hm).2⟩)) (fun r t h => ⟨0, h.1, ?_⟩)
    rw [h.2]
    refine oPM_ok (oMake_4 hqn) hq.symm (dSum_off _) (oKe_sum _) ?_ (fun z => absurd (hqn.symm.trans z) (by omega))
    exact oCr_sum (by omega) (h0' _) _ (fun m hm => ⟨(k5 m hm).1, (k5 m hm).2, by rw [dK_I (by omega)]; exact hp _ (by omega), hR' _ _ (k5 m hm).2⟩)
  · obtain ⟨k1, k2⟩ := s5 (Or.inl rfl)
    have hl3 : oLen p = 3 := hL
    obtain ⟨d, d1, d2, d3⟩ := oPl_div hq9 (by omega) (by omega) rfl (at' 2 (by omega))
    have hj := hR' 5 _ k2
    have hdv : dDivs (dK σ i 5 n) (oNn p 1) (nI d).toInt64 ↔ oDivs (R (oNn p 1)) (p 2).toInt64 := by
      unfold dDivs oDivs
      rw [d3]
      constructor
      · intro z v hv
        have := z v hv
        rw [hj.1 v hv] at this
        exact this
      · intro z v hv
        rw [hj.1 v hv]
        exact z v hv
    refine xM.mono (c_X1_make5 (i := i) (n := n) (by omega) m0 hn p0 (by omega) hrc ((hp 1 (by omega)).trans k1) k2 ((hp 2 (by omega)).trans d3) d1 d2 (by omega)) (fun r t h => ?_)
    rcases h with ⟨g1, g2, g3⟩ | ⟨g1, g2, g3⟩
    · refine ⟨0, g2, ?_⟩
      rw [g3]
      refine oPM_ok (by rw [oMake_5 hqn, oIf_t (hdv.mp g1)]) hq.symm ?_ oKe_done ?_ (fun z => absurd (hqn.symm.trans z) (by omega))
      · unfold dDone
        exact ((dDv_off 8).tr xOff.L).tr (rInhA_off.tr rInhL_off)
      · rw [d3]
        exact oCr_div (by omega) (by omega) (by omega) (h0' _) hj
    · exact ⟨5, g2, oPM_no (by rw [oMake_5 hqn, oIf_f (fun z => g1 (hdv.mpr z))]) (by decide) g3⟩
  · obtain ⟨v, hv, ev⟩ := oPl_var hq9 (by omega) (by omega) rfl (at' 1 (by omega))
    have hl4 : oLen p = 4 := hL
    refine xM.mono (c_X1_make6 (i := i) (n := n) (by omega) m0 hn p0) (fun r t h => ⟨0, h.1, ?_⟩)
    rw [h.2]
    have f1 : xgI (dK σ i 6 n) 12 1 = p 1 := by rw [dK_I (by omega)]; exact hp 1 (by omega)
    have f2 : xgI (dK σ i 6 n) 12 2 = p 2 := by rw [dK_I (by omega)]; exact hp 2 (by omega)
    have f3 : xgI (dK σ i 6 n) 12 3 = p 3 := by rw [dK_I (by omega)]; exact hp 3 (by omega)
    have hoff : ∀ τ : xS, xOff i τ (dBr1 τ i) := fun τ => by unfold dBr1; exact xOff.I.tr (xOff.I.tr xOff.I)
    refine oPM_ok (oMake_6 hqn) hq.symm ?_ oKe_brn (oCr_brn f1 f2 f3 ev (by omega) (h0' _)) (fun _ => ?_)
    · unfold dBrn
      split
      · exact (hoff _).tr rSingle_off
      · exact (hoff _).tr rSingle_off
    · have key : ∀ τ : xS, ∀ v' f r', ∀ b, b ≠ 5 → xgI (rSingle τ i v' f r') (61 + i) b = xgI τ (61 + i) b := fun τ v' f r' b _ => by
        unfold rSingle rSet
        repeat' split
        all_goals rfl
      unfold dBrn
      split
      · rw [key _ _ _ _ _ (by omega), key _ _ _ _ _ (by omega), key _ _ _ _ _ (by omega)]
        unfold dBr1
        rw [f1, f2, f3]
        refine ⟨?_, ?_, ?_⟩
        · rw [xgI_n (by omega), xgI_n (by omega), xgI_s]
        · rw [xgI_n (by omega), xgI_s]
        · rw [xgI_s]
      · rw [key _ _ _ _ _ (by omega), key _ _ _ _ _ (by omega), key _ _ _ _ _ (by omega)]
        unfold dBr1
        rw [f1, f2, f3]
        refine ⟨?_, ?_, ?_⟩
        · rw [xgI_n (by omega), xgI_n (by omega), xgI_s]
        · rw [xgI_n (by omega), xgI_s]
        · rw [xgI_s]
  · have hl5 : oLen p = 5 := hL
    obtain ⟨ea, ha⟩ := s7 rfl 1 (by omega) (by omega)
    obtain ⟨eb, hb⟩ := s7 rfl 2 (by omega) (by omega)
    obtain ⟨ec, hc⟩ := s7 rfl 3 (by omega) (by omega)
    obtain ⟨ed, hd⟩ := s7 rfl 4 (by omega) (by omega)
    have hA := hR' 7 _ ha
    have hB := hR' 7 _ hb
    have hC := hR' 7 _ hc
    have hE := hR' 7 _ hd
    have em := oMake_7 (D := D) (R := R) hqn
    generalize oNn p 1 = a at *
    generalize oNn p 2 = b at *
    generalize oNn p 3 = c3 at *
    generalize oNn p 4 = d at *
    refine xM.mono (c_X1_make7 (i := i) (n := n) (by omega) m0 hn p0 (by omega) hrc ((hp 1 (by omega)).trans ea) ha ((hp 2 (by omega)).trans eb) hb ((hp 3 (by omega)).trans ec) hc ((hp 4 (by omega)).trans ed) hd (by omega) (by omega) (by omega) (by omega)) (fun r t h => ⟨_, h.1, ?_⟩)
    rw [h.2]
    have hJ : dJc (dK σ i 7 n) c3 d ↔ oJc (R c3) (R d) := by
      have kk : ∀ r b, r < i → xgI (dK σ i 7 n) (61 + r) b = xgI σ (61 + r) b := fun r b hr => dK_I (by omega)
      obtain ⟨-, c1, c2⟩ := hR c3 hc
      obtain ⟨-, e1, e2⟩ := hR d hd
      unfold dJc oJc
      rw [kk _ _ hc, kk _ _ hc, kk _ _ hd, kk _ _ hd, kk _ _ hc, kk _ _ hc, kk _ _ hd, kk _ _ hd, c1, e1]
      cases hBc : oB (R c3) with
      | none => exact ⟨fun z => absurd rfl z.1.1, fun ⟨_, _, z, _⟩ => by cases z⟩
      | some x =>
        obtain ⟨x1, x2, x3⟩ := x
        obtain ⟨g1, g2, g3⟩ := c2 _ _ _ hBc
        cases hBd : oB (R d) with
        | none => exact ⟨fun z => absurd rfl z.2.1.1, fun ⟨_, _, _, z⟩ => by cases z⟩
        | some y =>
          obtain ⟨y1, y2, y3⟩ := y
          obtain ⟨k1, k2, k3⟩ := e2 _ _ _ hBd
          rw [g1, g2, g3, k1, k2, k3]
          constructor
          · rintro ⟨⟨-, z1⟩, ⟨-, z2⟩, z3, z4⟩
            rw [z1, z2, z3, z4]
            exact ⟨y1, y2, rfl, rfl⟩
          · rintro ⟨v', b', z1, z2⟩
            cases z1
            cases z2
            exact ⟨⟨by simp, rfl⟩, ⟨by simp, rfl⟩, rfl, rfl⟩
    have hS : rSame (dK σ i 7 n) a b ↔ ∀ v, v < 8 → oF (R a) v = oF (R b) v := by
      unfold rSame
      constructor
      · intro z v hv
        rw [← hA.1 v hv, ← hB.1 v hv]
        exact z v hv
      · intro z v hv
        rw [hA.1 v hv, hB.1 v hv]
        exact z v hv
    have hI : ∀ r, oCr br nb (dK σ i 7 n) r (R r) → (rImp (dK σ i 7 n) r ↔ oImp (R r)) := by
      intro r hr
      unfold rImp rZeros oImp
      rw [hr.2.1]
      constructor
      · rintro ⟨z1, z2⟩
        exact ⟨z1, fun v hv => by rw [← hr.1 v hv]; exact z2 v hv⟩
      · rintro ⟨z1, z2⟩
        exact ⟨z1, fun v hv => by rw [hr.1 v hv]; exact z2 v hv⟩
    have hfin : ∀ x, x < i → oCr br nb (dK σ i 7 n) x (R x) → oMake D R p = (0, oJn (R a) (R b) (R c3) (R d) (R x)) → oPM D R p br nb σ i n 0 (dJf (dK σ i 7 n) i a b c3 d x) := by
      intro x hx hX em
      refine oPM_ok em hq.symm ?_ oKe_jf (oCr_jn (by omega) (by omega) (by omega) (by omega) (by omega) (by omega) (by omega) (by omega) (by omega) (by omega) (by omega) (h0' _) hA hB hC hE hX) (fun z => absurd (hqn.symm.trans z) (by omega))
      unfold dJf dJa
      exact rAddT_off.tr (xOff.L.tr (rInhL_off.tr rInhL_off))
    unfold oJoin at em
    by_cases j1 : dJc (dK σ i 7 n) c3 d
    · rw [oIf_t (hJ.mp j1)] at em
      by_cases j2 : rSame (dK σ i 7 n) a b
      · rw [oIf_t (hS.mp j2)] at em
        by_cases j3 : xgL (dK σ i 7 n) (61 + a) 1 ≤ xgL (dK σ i 7 n) (61 + b) 1
        · rw [dJ_b j1 j2 j3]
          rw [hA.2.1, hB.2.1] at j3
          rw [if_pos j3] at em
          exact hfin b hb hB em
        · rw [dJ_a j1 j2 j3]
          rw [hA.2.1, hB.2.1] at j3
          rw [if_neg j3] at em
          exact hfin a ha hA em
      · rw [oIf_f (fun z => j2 (hS.mpr z))] at em
        by_cases j3 : rImp (dK σ i 7 n) a
        · rw [dJ_ib j1 j2 j3]
          rw [oIf_t ((hI a hA).mp j3)] at em
          exact hfin b hb hB em
        · rw [oIf_f (fun z => j3 ((hI a hA).mpr z))] at em
          by_cases j4 : rImp (dK σ i 7 n) b
          · rw [dJ_ia j1 j2 j3 j4]
            rw [oIf_t ((hI b hB).mp j4)] at em
            exact hfin a ha hA em
          · rw [dJ_7 j1 j2 j3 j4]
            rw [oIf_f (fun z => j4 ((hI b hB).mpr z))] at em
            exact oPM_no em (show ¬ (7 : Int32) = 0 by decide) xOff.rf
    · rw [dJ_6 j1]
      rw [oIf_f (fun z => j1 (hJ.mpr z))] at em
      exact oPM_no em (show ¬ (6 : Int32) = 0 by decide) xOff.rf
  · obtain ⟨j, hj, ej, hbk⟩ := oPl_plan hq9 (by omega) (by omega) rfl (at' 1 (by omega))
    have e1 : oNn p 1 = j := by unfold oNn; rw [ej, nI_clamp (by omega)]
    refine xM.mono (c_X1_make8 (i := i) (n := n) (by omega) m0 hn p0 v4 a8 ((hp 1 (by omega)).trans ej) hj) (fun r t h => ⟨0, h.1, ?_⟩)
    rw [h.2]
    refine oPM_ok (by rw [oMake_8 hqn, e1]) hq.symm ?_ oKe_bet (oCr_bet (hm' _) hj (h0' _)) (fun z => absurd (hqn.symm.trans z) (by omega))
    unfold dBet
    exact (mCr_off 8).tr (xOff.L.tr rLimit_off)
  · obtain ⟨k1, k2⟩ := s5 (Or.inr rfl)
    have hl3 : oLen p = 3 := hL
    obtain ⟨v, hv, ev⟩ := oPl_var hq9 (by omega) (by omega) rfl (at' 2 (by omega))
    have e2 : oNn p 2 = v := by unfold oNn; rw [ev, nI_clamp (by omega)]
    refine xM.mono (c_X1_make9 (i := i) (n := n) (by omega) m0 hn p0 (by omega) hrc ((hp 1 (by omega)).trans k1) k2 ((hp 2 (by omega)).trans ev) a1 v1 hv) (fun r t h => ⟨_, h.1, ?_⟩)
    rw [h.2]
    obtain ⟨g1, g2⟩ := oCr_push (w := v) (by omega) (show oNn p 1 < 201 by omega) (by omega) (hm' 9) hw0 (by omega) (h0' 9) (hR' 9 _ k2)
    have em : oMake D R p = oPush D (R (oNn p 1)) v := by rw [oMake_9 hqn, e2]
    have ho : xOff i (dK σ i 9 n) (dPush (dK σ i 9 n) i (oNn p 1) c (oV D) v).2 := by
      unfold dPush
      repeat' split
      · exact xOff.rf
      · exact rSingle_off.tr (rInhA_off.tr rInhL_off)
      · exact rSingle_off.tr (rInhA_off.tr rInhL_off)
    by_cases z : (oPush D (R (oNn p 1)) v).1 = 0
    · rw [g1, z]
      exact oPM_ok (w := (oPush D (R (oNn p 1)) v).2) (by rw [em, ← z]) hq.symm ho oKe_push (g2 z) (fun z => absurd (hqn.symm.trans z) (by omega))
    · rw [g1]
      exact oPM_no (w := (oPush D (R (oNn p 1)) v).2) em z ho
