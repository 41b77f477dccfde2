/-! The reference: works, take -/
theorem i32_fit (z : Int32) : -1000000000000 ≤ z.toInt64 ∧ z.toInt64 ≤ 1000000000000 := by
  have h1 := Int32.toInt_lt z
  have h2 := Int32.le_toInt z
  constructor
  · rw [Int64.le_iff_toInt_le, Int32.toInt_toInt64, show (-1000000000000 : Int64).toInt = -1000000000000 from by decide]
    omega
  · rw [Int64.le_iff_toInt_le, Int32.toInt_toInt64, show (1000000000000 : Int64).toInt = 1000000000000 from by decide]
    omega
theorem i32_br {b : Int32} (h1 : -1000 ≤ b) (h2 : b ≤ 1000) : (-b).toInt64 - 1 = (-b - 1).toInt64 := by
  rw [Int32.le_iff_toInt_le] at h1 h2
  rw [show (-1000 : Int32).toInt = -1000 from by decide] at h1
  rw [show (1000 : Int32).toInt = 1000 from by decide] at h2
  have e1 : (-b).toInt = -b.toInt := by
    rw [Int32.toInt_neg]
    exact Int.bmod_eq_of_le (by omega) (by omega)
  have e2 : (-b - 1).toInt = -b.toInt - 1 := by
    rw [Int32.toInt_sub, e1, show (1 : Int32).toInt = 1 from by decide]
    exact Int.bmod_eq_of_le (by omega) (by omega)
  apply Int64.toInt_inj.mp
  rw [Int64.toInt_sub, Int32.toInt_toInt64, Int32.toInt_toInt64, e1, e2, show (1 : Int64).toInt = 1 from by decide]
  exact Int.bmod_eq_of_le (by omega) (by omega)
theorem oFit_brn {p : Nat → Int32} : oFit (oBrn p) := by
  have key : ∀ v (f r : Int64) S L, (f = 1 ∨ f = -1) → (-1000000000000 ≤ r ∧ r ≤ 1000000000000) → oFit (oSgl v f r S L) := by
    intro v f r S L hf hr
    refine ⟨fun u _ => ?_, hr⟩
    show -1000000000000 ≤ (if u = v then f else 0) ∧ (if u = v then f else 0) ≤ 1000000000000
    split
    · rcases hf with e | e <;> rw [e] <;> decide
    · decide
  unfold oBrn
  split
  · exact key _ _ _ _ _ (Or.inl rfl) (i32_fit _)
  · exact key _ _ _ _ _ (Or.inr rfl) (i32_fit _)
theorem oQr_brn {σ : xS} {n v nb : Nat} {p : Nat → Int32} (hv : p 1 = nI v) (hv8 : v < 8) (hn : n < 200) (hb1 : -1000 ≤ p 2) (hb2 : p 2 ≤ 1000) (h6 : oNn p 0 = 6) (hb : xgI σ 37 27 = nI nb) (h : oQr σ n oNil) : oQr (qBrn σ n v (p 2) (p 3)) n (oKp p n (oBrn p)) ∧ xgI (qBrn σ n v (p 2) (p 3)) 37 27 = nI (nb + 1) ∧ qOf n σ (qBrn σ n v (p 2) (p 3)) := by
  have hvn : oNn p 1 = v := by unfold oNn; rw [hv, nI_clamp (by omega)]
  have base : ∃ f r, (if p 3 = 0 then xsL (xsL σ 52 (8 * n + v) 1) 53 n (p 2).toInt64 else xsL (xsL σ 52 (8 * n + v) (-1)) 53 n ((-p 2).toInt64 - 1)) = xsL (xsL σ 52 (8 * n + v) f) 53 n r ∧ oBrn p = oSgl v f r (fun _ => false) none := by
    unfold oBrn
    by_cases c : p 3 = 0
    · rw [if_pos c, if_pos c]
      exact ⟨_, _, rfl, by show oSgl (oNn p 1) _ _ _ _ = _; rw [hvn]⟩
    · rw [if_neg c, if_neg c]
      refine ⟨_, _, rfl, ?_⟩
      rw [i32_br hb1 hb2]
      show oSgl (oNn p 1) _ _ _ _ = _
      rw [hvn]
  obtain ⟨f, r, e1, e2⟩ := base
  have s := oQr_sgl (v := v) (f := f) (r := r) h
  unfold qBrn oKp
  rw [e1, e2, if_pos h6]
  refine ⟨⟨fun u hu => ?_, ?_, fun b hb => ?_, ?_⟩, ?_, ?_⟩
  · rw [xgL_I, xgL_I]; exact s.1 u hu
  · rw [xgL_I, xgL_I]; exact s.2.1
  · rw [xgI_n (by omega), xgI_i]
    show _ = oBi (b == n)
    by_cases e : b = n
    · rw [if_pos ⟨rfl, by omega⟩, e]; simp [oBi]
    · rw [if_neg (by omega), s.2.2.1 b hb]
      show oBi false = oBi (b == n)
      rw [show (b == n) = false from by simp [e]]
  · exact oQl_c (σ := xsL (xsL σ 52 (8 * n + v) f) 53 n r) s.2.2.2 (by rw [xgI_n (by omega), xgI_n (by omega)]) rfl
  · rw [xgI_s, hb, nI_1]
  · have o1 : qOff n σ (xsI (xsL (xsL σ 52 (8 * n + v) f) 53 n r) 56 (200 * n + n) 1) := ((qOff.f hv8).tr qOff.r).tr (qOff.a hn)
    refine ⟨fun a b h1 h2 h3 => ?_, fun b hb => ?_, fun b hb => ?_, fun a b h1 h2 h3 => o1.2.2.2.1 a b h1 h2 h3, fun b hb => o1.2.2.2.2.1 b hb, fun b hb => o1.2.2.2.2.2.1 b hb, o1.2.2.2.2.2.2.1, o1.2.2.2.2.2.2.2⟩
    · rw [xgI_n h3]; exact o1.1 a b h1 h2
    · rw [xgI_n (by omega)]; exact o1.2.1 b hb
    · rw [xgI_n (by omega)]; exact o1.2.2.1 b hb
theorem oQr_jx {σ : xS} {n : Nat} {a b c d x y : oRow} (h : oQr σ n (oJn a b c d x)) (hF : ∀ v, v < 8 → oF x v = oF y v) (hR : oR x = oR y) : oQr σ n (oJn a b c d y) := ⟨fun v hv => (h.1 v hv).trans (hF v hv), h.2.1.trans hR, h.2.2.1, h.2.2.2⟩
theorem o_works {l : Launch} {G : xG} {σ : xS} {D : oMd} {R : Nat → oRow} {p : Nat → Int32} {n nb nb2 f q : Nat} {rf : Nat → Nat} (hm : oQm D σ) (hwm : oWm D) (hn : n < 200) (hr : xgI σ 37 26 = nI n) (hf : xgI σ 37 25 = nI f) (hb : xgI σ 37 27 = nI nb) (hp : ∀ k, k < oLen p → xgI σ 50 (f + k) = p k) (hf2 : f + oLen p ≤ 1500) (hq : p 0 = nI q) (hq9 : q < 10) (hg : ∀ k, k < oLen p → oFlt D n nb2 (p 0) k (p k) = 0) (hR : ∀ r, r < n → oQr σ r (R r) ∧ (∀ v, oV D ≤ v → oF (R r) v = 0) ∧ (∀ x, oS (R r) x = true → x ≤ r) ∧ oFit (R r)) (hrf : ∀ r, r < n → xgI σ 51 r = nI (rf r) ∧ rf r + 2 ≤ f) (hB : ∀ r, r < n → (xgI σ 50 (rf r) = 6 ↔ ¬ oB (R r) = none) ∧ (∀ v b s, oB (R r) = some (v, b, s) → xgI σ 50 (rf r + 1) = v ∧ xgI σ 50 (rf r + 2) = b ∧ xgI σ 50 (rf r + 3) = s) ∧ (¬ oB (R r) = none → oS (R r) = fun x => x == r)) : xM l G yX9_works cX9_works 6 (Option.some Jvm.ClassFile.FieldType.int) 2 55 [.ref (G.2.1 37)] σ (fun r t => ∃ y : Int32, r = some (.int y) ∧ oPW D R p σ n nb y t) := by
  have hw0 := hwm
  obtain ⟨⟨v1, v2, v3, v4⟩, w5, w6, w7, w8⟩ := hwm
  obtain ⟨τ, hτ⟩ : ∃ τ, qWc σ n = τ := ⟨_, rfl⟩
  have hoff : qOff n σ τ := by rw [← hτ]; exact qWc_off
  have hm' : oQm D τ := oQm_off hm hoff
  have hm0 := hm'
  obtain ⟨⟨a1, a2, a3, a4⟩, a5, a6, a7, a8, a9⟩ := hm'
  have h0 : oQr τ n oNil := by rw [← hτ]; exact oQr_nil
  have hqn : oNn p 0 = q := by unfold oNn; rw [hq, nI_clamp (by omega)]
  have hlb := oLen_b (p := p)
  have hL : oLen p = dL q (oNn p 1) := by unfold oLen; rw [hqn]
  obtain ⟨s4, s5, s7⟩ := oSrc (by omega) hq hq9 hg
  have at' : ∀ k, k < oLen p → oFlt D n nb2 (nI q) k (p k) = 0 := fun k hk => by have := hg k hk; rw [hq] at this; exact this
  have hR' : ∀ r, r < n → oQr τ r (R r) := fun r h => oQr_off (by omega) hoff (hR r h).1
  have hS' : ∀ r, r < n → ∀ x, oS (R r) x = true → x < n := fun r h x hx => by have := (hR r h).2.2.1 x hx; omega
  have hV := hm.1.1
  have p0 : xgI σ 50 f = nI q := by have := hp 0 (by omega); rw [Nat.add_zero] at this; rw [this, hq]
  have c50 : ∀ b, xgI τ 50 b = xgI σ 50 b := fun b => hoff.1 _ _ (by omega) (by omega)
  have hgd := oGd_make (R := R) (Q := fun b => b < n) hw0 (by omega) hq hq9 hg (fun k hk => ⟨(hR k hk).2.1, hS' k hk⟩)
  have hb' : xgI τ 37 27 = nI nb := (hoff.1 _ _ (by omega) (by omega)).trans hb
  have fin : ∀ {w : oRow} {t : xS}, oMake D R p = (0, w) → qOff n τ t → oQr t n w → ¬ oNn p 0 = 6 → oPW D R p σ n nb (qFin t n (oV D)) t := fun {w t} e ho hc h6 => by
    have g := hgd
    rw [e] at g
    exact oPW_ok v1 e g.1 (hoff.tr ho) hc h6 hb
  rcases (show q = 0 ∨ q = 1 ∨ q = 2 ∨ q = 3 ∨ q = 4 ∨ q = 5 ∨ q = 6 ∨ q = 7 ∨ q = 8 ∨ q = 9 by omega) with e | e | e | e | e | e | e | e | e | e <;> subst e
  · obtain ⟨j, hj, ej⟩ := oPl_rule hq9 (by omega) (by omega) rfl (at' 1 (by omega))
    have e1 : oNn p 1 = j := by unfold oNn; rw [ej, nI_clamp (by omega)]
    have hcc := c_X9_works0 (l := l) (G := G) hn hr hf hV v1 p0 (by omega) ((hp 1 (by omega)).trans ej) (by omega)
    rw [hτ] at hcc
    refine xM.mono hcc (fun r t h => ⟨_, h.1, ?_⟩)
    rw [h.2]
    refine fin (w := oGiv D j) (by rw [oMake_0 hqn, e1]) ((qRl_off (oV D) v1).tr qOff.r) ?_ (by omega)
    rw [(a6 j hj).2]
    exact oQr_giv (fun v hv => (a6 j hj).1 v hv) (fun v hv => w6 j v hv) h0
  · obtain ⟨v, hv, ev⟩ := oPl_var hq9 (by omega) (by omega) rfl (at' 1 (by omega))
    have e1 : oNn p 1 = v := by unfold oNn; rw [ev, nI_clamp (by omega)]
    have hcc := c_X9_works1 (l := l) (G := G) hn hr hf hV v1 p0 (by omega) ((hp 1 (by omega)).trans ev) (by omega)
    rw [hτ] at hcc
    refine xM.mono hcc (fun r t h => ⟨_, h.1, ?_⟩)
    rw [h.2]
    refine fin (by rw [oMake_1 hqn, e1]) ((qOff.f (by omega)).tr qOff.r) ?_ (by omega)
    rw [(a5 v hv).2.1]
    exact oQr_sgl h0
  · obtain ⟨v, hv, ev⟩ := oPl_var hq9 (by omega) (by omega) rfl (at' 1 (by omega))
    have e1 : oNn p 1 = v := by unfold oNn; rw [ev, nI_clamp (by omega)]
    have hcc := c_X9_works2 (l := l) (G := G) hn hr hf hV v1 p0 (by omega) ((hp 1 (by omega)).trans ev) (by omega)
    rw [hτ] at hcc
    refine xM.mono hcc (fun r t h => ⟨_, h.1, ?_⟩)
    rw [h.2]
    refine fin (by rw [oMake_2 hqn, e1]) ((qOff.f (by omega)).tr qOff.r) ?_ (by omega)
    rw [(a5 v hv).1]
    exact oQr_sgl h0
  · obtain ⟨j, hj, ej⟩ := oPl_tab hq9 (by omega) (by omega) rfl (at' 1 (by omega))
    have e1 : oNn p 1 = j := by unfold oNn; rw [ej, nI_clamp (by omega)]
    obtain ⟨t1, t2, t3, t4⟩ := a7 j hj
    obtain ⟨u1, u2, u3⟩ := w8 j hj
    obtain ⟨z1, z2, z3, -⟩ := hm.2.2.2.1 j hj
    have hl4 : oLen p = 4 := hL
    have hcc := c_X9_works3 (l := l) (G := G) hn hr hf hV v1 p0 (by omega) ((hp 1 (by omega)).trans ej) (by omega) z1 (by omega) z2 (by omega) z3 u3
    rw [hτ] at hcc
    refine xM.mono hcc (fun r t h => ⟨_, h.1, ?_⟩)
    rw [h.2]
    refine fin (w := oTab D j (p 2) (p 3)) (by rw [oMake_3 hqn, e1]) ?_ ?_ (by omega)
    · unfold qTab
      exact (qOff.f (by omega)).tr ((qOff.f (by omega)).tr (qTl_off _))
    · unfold qTab
      rw [c50, c50, hp 2 (by omega), hp 3 (by omega)]
      refine oQr_tab (fun k hk => ?_) h0
      unfold qTg
      rw [c50, c50, hp 2 (by omega), hp 3 (by omega), (t4 k hk).1, (t4 k hk).2]
  · obtain ⟨k1, k2, k3, k4, k5⟩ := s4 rfl
    have hcc := c_X9_works4 (l := l) (G := G) hn hr hf hV v1 p0 (m := oNn p 1) (pr := fun m => oNn p (2 + 2 * m)) k2 (by omega) ((hp 1 (by omega)).trans k3) (fun m hm => ⟨(hp _ (by omega)).trans (k5 m hm).1, (k5 m hm).2⟩)
    rw [hτ] at hcc
    refine xM.mono hcc (fun r t h => ⟨_, h.1, ?_⟩)
    rw [h.2]
    have hs := oQr_sum (R := R) (p := p) (pr := fun m => oNn p (2 + 2 * m)) (po := fun k => xgI τ 50 (f + (3 + 2 * k))) hn v1 h0 (oNn p 1) (fun m hm => ⟨(k5 m hm).1, (k5 m hm).2, by rw [c50, hp _ (by omega), show 3 + 2 * m = 2 + 2 * m + 1 by omega], hR' _ (k5 m hm).2, (hR _ (k5 m hm).2).2.1, hS' _ (k5 m hm).2⟩)
    exact fin (oMake_4 hqn) (qSum_off v1 (by omega) _) hs.1 (by omega)
  · obtain ⟨k1, k2⟩ := s5 (Or.inl rfl)
    have hl3 : oLen p = 3 := hL
    obtain ⟨d, d1, d2, d3⟩ := oPl_div hq9 (by omega) (by omega) rfl (at' 2 (by omega))
    have hj := hR' _ k2
    have hz := (hR _ k2).2.1
    have hdp : 0 < (nI d).toInt64 := by
      rw [nI_l (by omega), show (0 : Int64) = lN 0 from rfl]
      exact (lN_lt (by omega) (by omega)).mpr (by omega)
    have hdv : qDivs τ (oNn p 1) (oV D) (nI d).toInt64 ↔ oDivs (R (oNn p 1)) (p 2).toInt64 := by
      unfold qDivs oDivs
      rw [d3]
      constructor
      · intro z v hv
        by_cases c : v < oV D
        · have := z v c
          rw [hj.1 v hv] at this
          exact this
        · rw [hz v (by omega), Int64.zero_div, Int64.zero_mul, Int64.sub_zero]
      · intro z v hv
        rw [hj.1 v (by omega)]
        exact z v (by omega)
    have hcc := c_X9_works5 (l := l) (G := G) hn hr hf hV v1 p0 (by omega) ((hp 1 (by omega)).trans k1) k2 ((hp 2 (by omega)).trans d3) d1 d2
    rw [hτ] at hcc
    refine xM.mono hcc (fun r t h => ?_)
    rcases h with ⟨g1, g2, g3⟩ | ⟨g1, g2, g3⟩
    · refine ⟨_, g2, ?_⟩
      rw [g3]
      refine fin (w := oDiv (R (oNn p 1)) (p 2).toInt64) (by rw [oMake_5 hqn, oIf_t (hdv.mp g1)]) ?_ ?_ (by omega)
      · unfold qDone
        exact ((qDv_off (oV D) v1).tr qOff.r).tr (qAssumes_off (by omega))
      · rw [d3]
        exact oQr_div hn (by omega) v1 hdp hz (hS' _ k2) h0 hj
    · exact ⟨5, g2, oPW_no (by rw [oMake_5 hqn, oIf_f (fun z => g1 (hdv.mpr z))]) (by decide) (hoff.tr g3) hb⟩
  · obtain ⟨v, hv, ev⟩ := oPl_var hq9 (by omega) (by omega) rfl (at' 1 (by omega))
    have hl4 : oLen p = 4 := hL
    obtain ⟨b1, b2⟩ := oPl_bnd hq9 (by omega) (by omega) rfl (at' 2 (by omega))
    have hcc := c_X9_works6 (l := l) (G := G) hn hr hf hV v1 p0 (by omega) ((hp 1 (by omega)).trans ev) (by omega)
    rw [hτ] at hcc
    refine xM.mono hcc (fun r t h => ⟨_, h.1, ?_⟩)
    rw [h.2, c50, c50, hp 2 (by omega), hp 3 (by omega)]
    obtain ⟨g1, g2, g3⟩ := oQr_brn ev (by omega) hn b1 b2 hqn hb' h0
    have em := oMake_6 (D := D) (R := R) hqn
    have hfit : oFit (oKp p n (oBrn p)) := by
      unfold oKp
      rw [if_pos hqn]
      exact oFit_brn (p := p)
    have hzz : ∀ v, oV D ≤ v → oF (oKp p n (oBrn p)) v = 0 := by
      have g := hgd
      rw [em] at g
      unfold oKp
      rw [if_pos hqn]
      exact g.1
    have hq0 : qFin (qBrn τ n v (p 2) (p 3)) n (oV D) = 0 := qFin_f (fun z => (qG_e v1 hzz g1).mp z hfit)
    rw [hq0]
    have tr : qOf n σ (qBrn τ n v (p 2) (p 3)) := ⟨fun a b h1 h2 h3 => (g3.1 a b h1 h2 h3).trans (hoff.1 a b h1 h2), fun b hb => (g3.2.1 b hb).trans (hoff.2.1 b hb), fun b hb => (g3.2.2.1 b hb).trans (hoff.2.2.1 b hb), fun a b h1 h2 h3 => (g3.2.2.2.1 a b h1 h2 h3).trans (hoff.2.2.2.1 a b h1 h2 h3), fun b hb => (g3.2.2.2.2.1 b hb).trans (hoff.2.2.2.2.1 b hb), fun b hb => ⟨(g3.2.2.2.2.2.1 b hb).1.trans (hoff.2.2.2.2.2.1 b hb).1, (g3.2.2.2.2.2.1 b hb).2.trans (hoff.2.2.2.2.2.1 b hb).2⟩, g3.2.2.2.2.2.2.1.trans hoff.2.2.2.2.2.2.1, g3.2.2.2.2.2.2.2.trans hoff.2.2.2.2.2.2.2⟩
    refine ⟨?_, tr, ⟨fun _ => by rw [g2, if_pos hqn], fun z => absurd rfl z⟩, fun _ => by rw [em]; exact g1⟩
    unfold oY
    rw [em, if_neg (fun z => z rfl), oIf_t oFit_brn]
  · have hl5 : oLen p = 5 := hL
    obtain ⟨ea, ha⟩ := s7 rfl 1 (by omega) (by omega)
    obtain ⟨eb, hb2⟩ := s7 rfl 2 (by omega) (by omega)
    obtain ⟨ec, hc⟩ := s7 rfl 3 (by omega) (by omega)
    obtain ⟨ed, hd⟩ := s7 rfl 4 (by omega) (by omega)
    have em := oMake_7 (D := D) (R := R) hqn
    generalize oNn p 1 = a at *
    generalize oNn p 2 = b at *
    generalize oNn p 3 = c3 at *
    generalize oNn p 4 = d at *
    have hA := hR' _ ha
    have hBr := hR' _ hb2
    have hrf' : ∀ r, r < n → xgI σ 51 r = nI (rf r) ∧ rf r + 3 < 1500 := fun r h => ⟨(hrf r h).1, by have := (hrf r h).2; omega⟩
    have pa := (hp 1 (by omega)).trans ea
    have pb := (hp 2 (by omega)).trans eb
    have pc := (hp 3 (by omega)).trans ec
    have pd := (hp 4 (by omega)).trans ed
    have hJ : qJc τ rf c3 d ↔ oJc (R c3) (R d) := by
      obtain ⟨c1, c2, -⟩ := hB c3 hc
      obtain ⟨e1, e2, -⟩ := hB d hd
      unfold qJc oJc
      rw [c50, c50, c50, c50, c50, c50, c50, c50, c1, e1]
      cases hBc : oB (R c3) with
      | none => exact ⟨fun z => absurd rfl z.1.1, fun ⟨_, _, z, _⟩ => by cases z⟩
      | some x =>
        obtain ⟨x1, x2, x3⟩ := x
        obtain ⟨g1, g2, g3⟩ := c2 _ _ _ hBc
        cases hBd : oB (R d) with
        | none => exact ⟨fun z => absurd rfl z.1.2, fun ⟨_, _, _, z⟩ => by cases z⟩
        | some y =>
          obtain ⟨y1, y2, y3⟩ := y
          obtain ⟨k1, k2, k3⟩ := e2 _ _ _ hBd
          rw [g1, g2, g3, k1, k2, k3]
          constructor
          · rintro ⟨-, ⟨z1, z2⟩, z3, z4⟩
            rw [z1, z2, z3, z4]
            exact ⟨y1, y2, rfl, rfl⟩
          · rintro ⟨v', b', z1, z2⟩
            cases z1
            cases z2
            exact ⟨⟨by simp, by simp⟩, ⟨rfl, rfl⟩, rfl, rfl⟩
    have hSm : qSame τ a b (oV D) ↔ ∀ v, v < 8 → oF (R a) v = oF (R b) v := by
      unfold qSame
      constructor
      · intro z v hv
        by_cases c : v < oV D
        · rw [← hA.1 v hv, ← hBr.1 v hv]
          exact z v c
        · rw [(hR a ha).2.1 v (by omega), (hR b hb2).2.1 v (by omega)]
      · intro z v hv
        rw [hA.1 v (by omega), hBr.1 v (by omega)]
        exact z v (by omega)
    have hI : ∀ r, r < n → (qImp τ r (oV D) ↔ oImp (R r)) := by
      intro r hr
      have hq := hR' r hr
      unfold qImp oImp
      rw [hq.2.1]
      constructor
      · rintro ⟨z1, z2⟩
        refine ⟨z1, fun v hv => ?_⟩
        by_cases c : v < oV D
        · rw [← hq.1 v hv]; exact z2 v c
        · exact (hR r hr).2.1 v (by omega)
      · rintro ⟨z1, z2⟩
        exact ⟨z1, fun v hv => by rw [hq.1 v (by omega)]; exact z2 v (by omega)⟩
    unfold oJoin at em
    by_cases j1 : qJc τ rf c3 d
    · rw [oIf_t (hJ.mp j1)] at em
      obtain ⟨x1, x2, x3, x4⟩ := hJ.mp j1
      have hCS := (hB c3 hc).2.2 (by rw [x3]; simp)
      have hES := (hB d hd).2.2 (by rw [x4]; simp)
      have hfin : ∀ y, y < n → oQr (qJf τ n a b c3 d y (oV D)) n (oJn (R a) (R b) (R c3) (R d) (R y)) := fun y hy => oQr_jf hn ha hb2 hc hd hy v1 (hR y hy).2.1 (hS' a ha) (hS' b hb2) hCS hES h0 hA hBr (hR' y hy)
      by_cases j2 : qSame τ a b (oV D)
      · have j2' := hSm.mp j2
        rw [oIf_t j2'] at em
        by_cases j3 : xgL τ 53 b ≤ xgL τ 53 a
        · have hcc := c_X9_works7A (l := l) (G := G) hn hr hf hV v1 p0 (by omega) pa ha pb hb2 pc hc pd hd hrf' (by rw [hτ]; exact j1) (by rw [hτ]; exact j2) (by rw [hτ]; exact j3)
          rw [hτ] at hcc
          refine xM.mono hcc (fun r t h => ⟨_, h.1, ?_⟩)
          rw [h.2]
          rw [hA.2.1, hBr.2.1] at j3
          by_cases j4 : oR (R a) ≤ oR (R b)
          · rw [if_pos j4] at em
            exact fin em (qJf_off (by omega) v1) (oQr_jx (hfin a ha) j2' (Int64.le_antisymm j4 j3)) (by omega)
          · rw [if_neg j4] at em
            exact fin em (qJf_off (by omega) v1) (hfin a ha) (by omega)
        · have hcc := c_X9_works7B (l := l) (G := G) hn hr hf hV v1 p0 (by omega) pa ha pb hb2 pc hc pd hd hrf' (by rw [hτ]; exact j1) (by rw [hτ]; exact j2) (by rw [hτ]; exact j3)
          rw [hτ] at hcc
          refine xM.mono hcc (fun r t h => ⟨_, h.1, ?_⟩)
          rw [h.2]
          rw [hA.2.1, hBr.2.1] at j3
          rw [if_pos (Int64.le_of_lt (xi64_nle.mp j3))] at em
          exact fin em (qJf_off (by omega) v1) (hfin b hb2) (by omega)
      · rw [oIf_f (fun z => j2 (hSm.mpr z))] at em
        by_cases j3 : qImp τ a (oV D)
        · have hcc := c_X9_works7C (l := l) (G := G) hn hr hf hV v1 p0 (by omega) pa ha pb hb2 pc hc pd hd hrf' (by rw [hτ]; exact j1) (by rw [hτ]; exact j2) (by rw [hτ]; exact j3)
          rw [hτ] at hcc
          refine xM.mono hcc (fun r t h => ⟨_, h.1, ?_⟩)
          rw [h.2]
          rw [oIf_t ((hI a ha).mp j3)] at em
          exact fin em (qJf_off (by omega) v1) (hfin b hb2) (by omega)
        · rw [oIf_f (fun z => j3 ((hI a ha).mpr z))] at em
          by_cases j4 : qImp τ b (oV D)
          · have hcc := c_X9_works7D (l := l) (G := G) hn hr hf hV v1 p0 (by omega) pa ha pb hb2 pc hc pd hd hrf' (by rw [hτ]; exact j1) (by rw [hτ]; exact j2) (by rw [hτ]; exact j3) (by rw [hτ]; exact j4)
            rw [hτ] at hcc
            refine xM.mono hcc (fun r t h => ⟨_, h.1, ?_⟩)
            rw [h.2]
            rw [oIf_t ((hI b hb2).mp j4)] at em
            exact fin em (qJf_off (by omega) v1) (hfin a ha) (by omega)
          · have hcc := c_X9_works77 (l := l) (G := G) hn hr hf hV v1 p0 (by omega) pa ha pb hb2 pc hc pd hd hrf' (by rw [hτ]; exact j1) (by rw [hτ]; exact j2) (by rw [hτ]; exact j3) (by rw [hτ]; exact j4)
            rw [hτ] at hcc
            refine xM.mono hcc (fun r t h => ⟨_, h.1, ?_⟩)
            rw [h.2]
            rw [oIf_f (fun z => j4 ((hI b hb2).mpr z))] at em
            exact oPW_no em (by decide) hoff hb
    · have hcc := c_X9_works76 (l := l) (G := G) hn hr hf hV v1 p0 (by omega) pa ha pb hb2 pc hc pd hd hrf' (by rw [hτ]; exact j1)
      rw [hτ] at hcc
      refine xM.mono hcc (fun r t h => ⟨_, h.1, ?_⟩)
      rw [h.2]
      rw [oIf_f (fun z => j1 (hJ.mpr z))] at em
      exact oPW_no em (by decide) hoff hb
  · obtain ⟨j, hj, ej, hbk⟩ := oPl_plan hq9 (by omega) (by omega) rfl (at' 1 (by omega))
    have e1 : oNn p 1 = j := by unfold oNn; rw [ej, nI_clamp (by omega)]
    have hcc := c_X9_works8 (l := l) (G := G) hn hr hf hV v1 p0 (by omega) ((hp 1 (by omega)).trans ej) (by omega)
    rw [hτ] at hcc
    refine xM.mono hcc (fun r t h => ⟨_, h.1, ?_⟩)
    rw [h.2]
    refine fin (w := oBet D j) (by rw [oMake_8 hqn, e1]) ?_ (oQr_bet hm0 hw0 hj h0) (by omega)
    unfold qBet
    exact (((qRl_off (oV D) v1).tr qOff.r).tr qOff.h).tr qOff.l
  · obtain ⟨k1, k2⟩ := s5 (Or.inr rfl)
    have hl3 : oLen p = 3 := hL
    obtain ⟨v, hv, ev⟩ := oPl_var hq9 (by omega) (by omega) rfl (at' 2 (by omega))
    have e2 : oNn p 2 = v := by unfold oNn; rw [ev, nI_clamp (by omega)]
    have em : oMake D R p = oPush D (R (oNn p 1)) v := by rw [oMake_9 hqn, e2]
    obtain ⟨g1, g2⟩ := oQr_push (w := v) hn (by omega) hm0 hw0 hv (hR _ k2).2.1 (hS' _ k2) ((hR _ k2).2.2.2.1 v (by omega)).1 h0 (hR' _ k2)
    have ho : qOff n τ (qPush τ n (oNn p 1) v (oV D)).2 := qPush_off (by omega) (by omega)
    by_cases z : (oPush D (R (oNn p 1)) v).1 = 0
    · have hcc := c_X9_works9 (l := l) (G := G) hn hr hf hV v1 p0 (by omega) ((hp 1 (by omega)).trans k1) k2 ((hp 2 (by omega)).trans ev) (by omega) (by rw [hτ]; exact g1.trans z)
      rw [hτ] at hcc
      refine xM.mono hcc (fun r t h => ⟨_, h.1, ?_⟩)
      rw [h.2]
      exact fin (w := (oPush D (R (oNn p 1)) v).2) (by rw [em, ← z]) ho (g2 z) (by omega)
    · have z5 : (oPush D (R (oNn p 1)) v).1 = 5 := by
        unfold oPush at z ⊢
        by_cases c : oF (R (oNn p 1)) v = 0
        · rw [if_pos c]
        · rw [if_neg c] at z
          exfalso
          apply z
          split <;> rfl
      have hcc := c_X9_works95 (l := l) (G := G) hn hr hf hV v1 p0 (by omega) ((hp 1 (by omega)).trans k1) k2 ((hp 2 (by omega)).trans ev) (by omega) (by rw [hτ]; exact g1.trans z5)
      rw [hτ] at hcc
      refine xM.mono hcc (fun r t h => ⟨_, h.1, ?_⟩)
      rw [h.2]
      exact oPW_no (w := (oPush D (R (oNn p 1)) v).2) (by rw [em, ← z5]) (by decide) (hoff.tr ho) hb
