/-! trim -/
noncomputable def oTn (C : oCt) (w : Nat) : Nat → Int32 := (oNeed (oPr C) w).2
noncomputable def oTrm (D : oMd) (C : oCt) (w : Nat) : oCt := oTks D oNew (oKep (oDg D) (oPr C) (oTn C w) (w + 1)) (oMn (oPr C) (oTn C w) (w + 1))
/-- the first number that was not refused is the digest -/
def oW1 (D : oMd) (C : oCt) : Prop := ¬ oZ C = 0 → (oFa C = 0 ∨ 1 < oZ C) → oU C 0 = oDg D
theorem oW1_new {D : oMd} : oW1 D oNew := fun h => absurd rfl h
theorem oTake_z {D : oMd} {C : oCt} {x : Int32} : oZ (oTake D C x) ≤ oZ C + 1 ∧ oZ C ≤ oZ (oTake D C x) ∧ (¬ oZ C = 0 → oU (oTake D C x) 0 = oU C 0) ∧ (oZ C = 0 → oFa C = 0 → (oFa (oTake D C x) = 0 → oU (oTake D C x) 0 = oDg D)) := by
  have pu : ¬ oZ C = 0 → oU (oPut C x) 0 = oU C 0 := fun h => if_neg (fun y => h y.symm)
  unfold oTake
  by_cases e1 : oFa C = 0
  · rw [if_neg (fun z => z e1)]
    by_cases e2 : oZ C = 1500
    · rw [if_pos e2]
      exact ⟨Nat.le_succ _, Nat.le_refl _, fun _ => rfl, fun h => by omega⟩
    · rw [if_neg e2]
      by_cases e3 : oZ C = 0
      · rw [if_pos e3]
        by_cases e4 : x = oDg D
        · rw [if_pos e4]
          refine ⟨Nat.le_refl _, Nat.le_succ _, fun h => absurd e3 h, fun _ _ _ => ?_⟩
          show (if 0 = oZ C then x else oU C 0) = oDg D
          rw [if_pos e3.symm, e4]
        · rw [if_neg e4]
          exact ⟨Nat.le_refl _, Nat.le_succ _, fun h => absurd e3 h, fun _ _ h => absurd h (show ¬ (1 : Int32) = 0 by decide)⟩
      · rw [if_neg e3]
        have fin : ∀ X : oCt, oZ X = oZ C + 1 → oU X 0 = oU (oPut C x) 0 → (oZ X ≤ oZ C + 1 ∧ oZ C ≤ oZ X ∧ (¬ oZ C = 0 → oU X 0 = oU C 0) ∧ (oZ C = 0 → oFa C = 0 → (oFa X = 0 → oU X 0 = oDg D))) := fun X h1 h2 => ⟨by omega, by omega, fun h => by rw [h2]; exact pu h, fun h => absurd h e3⟩
        split
        · exact fin _ rfl rfl
        · split
          · exact fin _ rfl rfl
          · split
            · exact fin _ rfl rfl
            · by_cases e7 : oFit (oMake D (oRw C) (oPa (oPut C x))).2
              · rw [oIf_t e7]
                exact fin _ rfl rfl
              · rw [oIf_f e7]
                exact fin _ rfl rfl
  · rw [if_pos e1]
    exact ⟨Nat.le_succ _, Nat.le_refl _, fun _ => rfl, fun _ h => absurd h e1⟩
theorem oTake_f {D : oMd} {C : oCt} {x : Int32} (h : ¬ oFa C = 0) : oTake D C x = C := by
  unfold oTake
  rw [if_pos h]
theorem oTake_1 {D : oMd} {C : oCt} {x : Int32} (hW : oWc D C) (h : oW1 D C) : oW1 D (oTake D C x) := by
  intro h1 h2
  by_cases e : oFa C = 0
  · obtain ⟨z1, z2, z3, z4⟩ := oTake_z (D := D) (C := C) (x := x)
    by_cases c : oZ C = 0
    · rcases h2 with y | y
      · exact z4 c e y
      · omega
    · rw [z3 c]
      exact h c (Or.inl e)
  · rw [oTake_f e] at h1 h2 ⊢
    exact h h1 h2
theorem oTks_1 {D : oMd} {C : oCt} {f : Nat → Int32} (hW : oWc D C) (h : oW1 D C) : ∀ n, oW1 D (oTks D C f n)
  | 0 => h
  | n + 1 => oTake_1 (oTks_w hW n) (oTks_1 hW h n)
theorem oTks_z {D : oMd} {f : Nat → Int32} : ∀ n, oZ (oTks D oNew f n) ≤ n
  | 0 => Nat.le_refl _
  | n + 1 => by
    have := oTks_z (D := D) (f := f) n
    have := (oTake_z (D := D) (C := oTks D oNew f n) (x := f n)).1
    show oZ (oTake D (oTks D oNew f n) (f n)) ≤ n + 1
    omega
theorem oTrm_w {D : oMd} {C : oCt} {w : Nat} : oWc D (oTrm D C w) ∧ oW1 D (oTrm D C w) := ⟨oTks_w oNew_w _, oTks_1 oNew_w oW1_new _⟩
theorem oTrm_a {D : oMd} {C : oCt} {w : Nat} (h : oWc D C) (hw : w < oNr C) : oFa (oTrm D C w) = 0 ∧ oNr (oTrm D C w) = (oNeed (oPr C) w).1 := by
  obtain ⟨k1, k2, k3, k4⟩ := oNeed_k h hw
  obtain ⟨⟨a1, a2, a3, a4, a5⟩, a6⟩ := o_anew (nd := oTn C w) h hw k2 (w + 1) (Nat.le_refl _)
  exact ⟨a1, a3.trans k3.symm⟩
theorem oTrm_f {D : oMd} {C : oCt} {w k : Nat} (h : oWc D C) (hw : w < oNr C) (hk : k ≤ oMn (oPr C) (oTn C w) (w + 1)) : oFa (oTks D oNew (oKep (oDg D) (oPr C) (oTn C w) (w + 1)) k) = 0 := by
  refine Classical.byContradiction (fun y => ?_)
  have := oTks_f (D := D) (C := oNew) (f := oKep (oDg D) (oPr C) (oTn C w) (w + 1)) y (oMn (oPr C) (oTn C w) (w + 1) - k)
  rw [show k + (oMn (oPr C) (oTn C w) (w + 1) - k) = oMn (oPr C) (oTn C w) (w + 1) by omega] at this
  have a := (oTrm_a (D := D) h hw).1
  unfold oTrm at a
  rw [this] at a
  exact y a
theorem oMn_15 {D : oMd} {C : oCt} {nd : Nat → Int32} {w : Nat} (h : oWc D C) (hw : w < oNr C) : oMn (oPr C) nd (w + 1) ≤ 1500 := by
  have h1 := oMn_z (nd := nd) h (w + 1) (by omega)
  have h2 := oRf_z h hw
  have h3 := (h.2.2.2.1 w hw).1
  have h4 := h.1.1
  omega
/-! the reference's -/
theorem aKp_v {num ren : Nat → Int32} {p q many : Nat} {kep : Nat → Int32} {b : Nat} : ∀ L, aKp num ren p q many kep L b = if many ≤ b ∧ b < many + L then (if aIsRow q (b - many) then ren (num (p + (b - many))).toNatClampNeg else num (p + (b - many))) else kep b
  | 0 => by rw [aKp, if_neg (by omega)]
  | L + 1 => by
    rw [aKp]
    show (if b = many + L then (if aIsRow q L then ren (num (p + L)).toNatClampNeg else num (p + L)) else aKp num ren p q many kep L b) = _
    rw [aKp_v L]
    by_cases c : b = many + L
    · rw [if_pos c, if_pos (show many ≤ b ∧ b < many + (L + 1) by omega), show b - many = L by omega]
    · rw [if_neg c]
      by_cases d : many ≤ b ∧ b < many + L
      · rw [if_pos d, if_pos (show many ≤ b ∧ b < many + (L + 1) by omega)]
      · rw [if_neg d, if_neg (show ¬ (many ≤ b ∧ b < many + (L + 1)) by omega)]
theorem aTr_e {D : oMd} {C : oCt} {num : Nat → Int32} {nd0 nd ren0 kep0 : Nat → Int32} {w : Nat} {dg : Int32} (h : oWc D C) (hw : w < oNr C) (hnum : ∀ i, i < oZ C → num i = oU C i) (hnd : ∀ b, b < 200 → nd0 b = nd b) (hcl : ∀ j, j ≤ w → ¬ nd j = 0 → ∀ b, oIn (oPr C j) b → ¬ nd b = 0) (h0 : kep0 0 = dg) : ∀ r, r ≤ w + 1 → (aTr num (oRf C) nd0 ren0 kep0 r).1 = oMn (oPr C) nd r ∧ (aTr num (oRf C) nd0 ren0 kep0 r).2.1 = oNw nd r ∧ (∀ b, b < r → ¬ nd b = 0 → (aTr num (oRf C) nd0 ren0 kep0 r).2.2.1 b = nI (oNw nd b)) ∧ (∀ b, b < oMn (oPr C) nd r → (aTr num (oRf C) nd0 ren0 kep0 r).2.2.2 b = oKep dg (oPr C) nd r b)
  | 0, _ => ⟨rfl, rfl, fun b hb => absurd hb (by omega), fun b hb => by
      have hb : b < 1 := hb
      rw [show b = 0 by omega]
      exact h0⟩
  | r + 1, hr => by
    have h200 := h.1.2.1
    have hrn : r < oNr C := by omega
    obtain ⟨i1, i2, i3, i4⟩ := aTr_e (ren0 := ren0) h hw hnum hnd hcl h0 r (by omega)
    have hz := oRf_z h hrn
    have hlb := oLen_b (p := oPr C r)
    obtain ⟨q, q1, q2, q3, q4⟩ := oRk_q (R := oRw C) (h.2.2.2.1 r hrn).2.2.1.1 (by omega)
    have nm : ∀ i, i < oLen (oPr C r) → num (oRf C r + i) = oPr C r i := fun i hi => by
      rw [hnum _ (by omega)]
      exact (h.2.2.2.1 r hrn).2.1 i hi
    have n0 := nm 0 (by omega)
    rw [Nat.add_zero] at n0
    have eK : aK num (oRf C) r = q := by unfold aK; rw [n0]; exact q3
    have eL : aL num (oRf C) r = oLen (oPr C r) := by
      unfold aL oLen
      rw [eK, nm 1 (by omega), q3]
      rfl
    have ed := hnd r (by omega)
    by_cases c : nd r = 0
    · rw [aTr_0 (ed.trans c), oMn, oNw, oKep, if_pos c, if_pos c, if_pos c]
      refine ⟨i1, i2, fun b hb hn => ?_, i4⟩
      by_cases k : b = r
      · rw [k] at hn; exact absurd c hn
      · exact i3 b (by omega) hn
    · rw [aTr_1 (many := (aTr num (oRf C) nd0 ren0 kep0 r).1) (now := (aTr num (oRf C) nd0 ren0 kep0 r).2.1) (ren := (aTr num (oRf C) nd0 ren0 kep0 r).2.2.1) (kep := (aTr num (oRf C) nd0 ren0 kep0 r).2.2.2) (fun y => c (ed.symm.trans y)) rfl, oMn, oNw, oKep, if_neg c, if_neg c, if_neg c, eL, eK, i1, i2]
      refine ⟨rfl, rfl, fun b hb hn => ?_, fun b hb => ?_⟩
      · show (if b = r then nI (oNw nd r) else (aTr num (oRf C) nd0 ren0 kep0 r).2.2.1 b) = _
        by_cases k : b = r
        · rw [if_pos k, k]
        · rw [if_neg k]
          exact i3 b (by omega) hn
      · show aKp num (fun b => if b = r then nI (oNw nd r) else (aTr num (oRf C) nd0 ren0 kep0 r).2.2.1 b) (oRf C r) q (oMn (oPr C) nd r) (aTr num (oRf C) nd0 ren0 kep0 r).2.2.2 (oLen (oPr C r)) b = if b < oMn (oPr C) nd r then oKep dg (oPr C) nd r b else oEn nd (oPr C r) (b - oMn (oPr C) nd r)
        rw [aKp_v]
        by_cases k : b < oMn (oPr C) nd r
        · rw [if_neg (by omega), if_pos k]
          exact i4 b k
        · rw [if_pos (by omega), if_neg k, nm _ (by omega)]
          unfold oEn
          rw [q3]
          by_cases hR : aIsRow q (b - oMn (oPr C) nd r)
          · rw [if_pos hR, if_pos hR]
            have pl := oPlace h hrn (i := b - oMn (oPr C) nd r) (by omega) (by rw [q3]; exact hR)
            show (if oNn (oPr C r) (b - oMn (oPr C) nd r) = r then nI (oNw nd r) else (aTr num (oRf C) nd0 ren0 kep0 r).2.2.1 (oNn (oPr C r) (b - oMn (oPr C) nd r))) = _
            rw [if_neg (by omega)]
            exact i3 _ pl.2 (hcl r (by omega) c _ ⟨_, by omega, by rw [q3]; exact hR, rfl⟩)
          · rw [if_neg hR, if_neg hR]
theorem oIr_T3 {D : oMd} {C : oCt} {z : Nat} {t : Nat → Int32} {g : Int32} {σ : xS} {a b : Nat → Int32} (h : oIr D C z t g σ) : oIr D C z t g (qT3 σ a b) :=
  oIr_t h (fun x y hxy => qT3_o (by omega) (by omega)) (fun _ _ _ _ => rfl) ((qT3_o (by omega) (by omega)).trans h.1.1) (fun i => (qT3_o (by omega) (by omega)).trans (h.1.2 i))
theorem o_trimR {l : Launch} {G : xG} {σ : xS} {D : oMd} {C : oCt} {z w : Nat} {t : Nat → Int32} {g : Int32} (hw : oIw D C z) (h : oIr D C z t g σ) (hn : w < oNr C) : xM l G yX9_trim cX9_trim 12 (Option.some Jvm.ClassFile.FieldType.int) 4 102 [.ref (G.2.1 37), .int (nI w)] σ (oAri D (oTrm D C w) z t 1 σ (nI (oNeed (oPr C) w).1) 0) := by
  have hW := hw.2.1
  have h200 := hW.1.2.1
  have hc := h.2.2.1
  have hc0 : oRc C (xsI σ 37 0 0) := (oIr_0 (v := 0) h).2.2.1
  obtain ⟨k1, k2, k3, k4⟩ := oNeed_k hW hn
  obtain ⟨n1, n2⟩ := aNeed_e hW hc0 hn
  have num : ∀ i, i < oZ C → xgI σ 50 i = oU C i := hc.2.1
  have eL : ∀ r, r ≤ w → aL (xgI σ 50) (oRf C) r = oLen (oPr C r) := fun r hr => by
    have hrn : r < oNr C := by omega
    have hz := oRf_z hW hrn
    have hlb := oLen_b (p := oPr C r)
    have g2 := (hW.2.2.2.1 r hrn).2.1
    have n0 := g2 0 (by omega)
    have n1 := g2 1 (by omega)
    rw [Nat.add_zero] at n0
    unfold aL aK oLen oNn
    rw [num _ (by omega), num _ (by omega), n0, n1]
  obtain ⟨T, hT⟩ : ∃ T, aTr (xgI σ 50) (oRf C) (aNeed (xsI σ 37 0 0) (oRf C) w).2 (xgI σ 58) (fun b => if b = 0 then xgI σ 37 16 else xgI σ 59 b) (w + 1) = T := ⟨_, rfl⟩
  obtain ⟨mn, nw, rn, kp⟩ := T
  obtain ⟨t1, t2, t3, t4⟩ := aTr_e (nd := oTn C w) (dg := oDg D) (ren0 := xgI σ 58) (kep0 := fun b => if b = 0 then xgI σ 37 16 else xgI σ 59 b) hW hn num n2 k2 (by show (if 0 = 0 then xgI σ 37 16 else _) = _; rw [if_pos rfl]; exact h.2.1.1.2.2.2) (w + 1) (Nat.le_refl _)
  rw [hT] at t1 t2 t3 t4
  have t1 : mn = oMn (oPr C) (oTn C w) (w + 1) := t1
  have t4 : ∀ b, b < oMn (oPr C) (oTn C w) (w + 1) → kp b = oKep (oDg D) (oPr C) (oTn C w) (w + 1) b := t4
  have hm15 := oMn_15 (nd := oTn C w) hW hn
  have hks : ∀ k, k ≤ mn → oTks D oNew kp k = oTks D oNew (oKep (oDg D) (oPr C) (oTn C w) (w + 1)) k := fun k hk => oTks_c k (fun i hi => t4 i (by omega))
  refine xM.mono (c_X9_trim (I := fun k τ => oIr D (oTks D oNew kp k) z t 1 τ ∧ oRv (qSt (qT3 (xsF (xsI σ 37 0 0) 57 (aNeed (xsI σ 37 0 0) (oRf C) w).2) rn kp)) τ) hc.2.2.1.1 h200 hn (oRows hW hc (by omega)) hW.1.2.2.2.2 (fun r hr => by rw [eL r (by omega)]; exact (hW.2.2.2.1 r (by omega)).1) (by rw [eL w (Nat.le_refl _)]; have := oRf_z hW hn; have := hW.1.1; omega) rfl rfl hT (by omega) ⟨oIr_new (oIr_T3 (oIr_57 (oIr_0 h))), oRv.rf⟩ (fun k τ hI b => ?_) (fun k τ hk hI => ?_)) (fun r u e => ?_)
  · rw [hI.2.1 _ _ (by omega) (by omega) (by omega) (by omega) (by omega)]
    unfold qSt
    rw [xgI_n (by omega), qForget_u.1 _ _ (by omega)]
    rfl
  · have hfa : oFa (oTks D oNew kp k) = 0 := by
      rw [hks k (by omega)]
      exact oTrm_f hW hn (by omega)
    exact xM.mono (o_takeR hI.1.2.1 hw.1 (oTks_w oNew_w k) hI.1.2.2.1 (oTks_3 oNew_w k) hfa) (fun r u e => ⟨e.1, oIr_C hI.1 e.2.2 e.2.1, hI.2.tr e.2.2⟩)
  · obtain ⟨e1, e2, e3⟩ := e
    have eC : oTrm D C w = oTks D oNew kp mn := by
      unfold oTrm
      rw [hks mn (Nat.le_refl _), t1]
    rw [eC, ← n1]
    refine ⟨e1, e2, ?_, ?_⟩
    · refine oKr.tr (oKr.tr (oKr.I (σ := σ) (a := 37) (j := 0) (v := 0) (by omega)) ?_) (oKr.u e3)
      refine ⟨fun a b hab => ?_, fun _ _ _ => rfl, rfl, rfl⟩
      unfold qSt
      rw [xgI_n (by omega), qForget_u.1 _ _ (by omega), qT3_o (by omega) (by omega), xgI_Fn (by omega)]
    · rw [e3.1 _ _ (by omega) (by omega) (by omega) (by omega) (by omega)]
      unfold qSt
      rw [xgI_n (by omega), qForget_u.1 _ _ (by omega), qT3_o (by omega) (by omega), xgI_Fn (by omega), xgI_s]
theorem o_trimT {l : Launch} {G : xG} {σ : xS} {D : oMd} {C : oCt} {z : Nat} {x : Int32} {t : Nat → Int32} {g : Int32} (hw : oIw D C z) (h : oIr D C z t g σ) (hx : ¬ xLt x (oNr C)) : xM l G yX9_trim cX9_trim 12 (Option.some Jvm.ClassFile.FieldType.int) 4 102 [.ref (G.2.1 37), .int x] σ (oAri D C z t g σ 0 1) :=
  xM.mono (c_X9_trimT h.2.2.1.2.2.1.1 hw.2.1.1.2.1 hx) (fun r u e => by
    rw [e.2]
    exact ⟨e.1, oIr_0 h, oKr.I (by omega), xgI_s _ _ _ _⟩)
