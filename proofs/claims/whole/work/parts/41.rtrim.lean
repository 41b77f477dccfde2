/-! The reference: trim -/
def qT3 (σ : xS) (ren kep : Nat → Int32) : xS := (fun a b => if a = 58 then ren b else if a = 59 then kep b else σ.1 a b, σ.2)
theorem qT3_58 {σ : xS} {ren kep : Nat → Int32} {j : Nat} {v : Int32} : xsI (qT3 σ ren kep) 58 j v = qT3 σ (fun b => if b = j then v else ren b) kep := by
  unfold xsI qT3
  congr 1
  funext a b
  by_cases h : a = 58
  · by_cases h2 : b = j <;> simp [h, h2]
  · simp [h]
theorem qT3_59 {σ : xS} {ren kep : Nat → Int32} {j : Nat} {v : Int32} : xsI (qT3 σ ren kep) 59 j v = qT3 σ ren (fun b => if b = j then v else kep b) := by
  unfold xsI qT3
  congr 1
  funext a b
  by_cases h : a = 59
  · by_cases h2 : b = j <;> simp [h, h2]
  · simp [h]
theorem qT3_0 {σ : xS} {v : Int32} : xsI σ 59 0 v = qT3 σ (xgI σ 58) (fun b => if b = 0 then v else xgI σ 59 b) := by
  unfold xsI qT3 xgI
  refine Prod.ext ?_ rfl
  funext a b
  by_cases h : a = 59
  · by_cases h2 : b = 0 <;> simp [h, h2]
  · by_cases h3 : a = 58 <;> simp [h, h3]
theorem qT3_r {σ : xS} {ren kep : Nat → Int32} {b : Nat} : xgI (qT3 σ ren kep) 58 b = ren b := rfl
theorem qT3_k {σ : xS} {ren kep : Nat → Int32} {b : Nat} : xgI (qT3 σ ren kep) 59 b = kep b := rfl
theorem qT3_o {σ : xS} {ren kep : Nat → Int32} {a b : Nat} (h : a ≠ 58) (h2 : a ≠ 59) : xgI (qT3 σ ren kep) a b = xgI σ a b := by
  show (if a = 58 then ren b else if a = 59 then kep b else σ.1 a b) = σ.1 a b
  rw [if_neg h, if_neg h2]
abbrev aIsRow (q i : Nat) : Prop := (q = 4 ∧ 2 ≤ i ∧ i % 2 = 0) ∨ ((q = 5 ∨ q = 9) ∧ i = 1) ∨ (q = 7 ∧ 0 < i)
/-- a row's numbers, renamed, from place many on -/
def aKp (num ren : Nat → Int32) (p q many : Nat) (kep : Nat → Int32) : Nat → (Nat → Int32)
  | 0 => kep
  | i + 1 => fun b => if b = many + i then (if aIsRow q i then ren (num (p + i)).toNatClampNeg else num (p + i)) else aKp num ren p q many kep i b
def aK (num : Nat → Int32) (rf : Nat → Nat) (r : Nat) : Nat := (num (rf r)).toNatClampNeg
def aL (num : Nat → Int32) (rf : Nat → Nat) (r : Nat) : Nat := dL (aK num rf r) (num (rf r + 1)).toNatClampNeg
def aTr (num : Nat → Int32) (rf : Nat → Nat) (nd ren0 kep0 : Nat → Int32) : Nat → Nat × Nat × (Nat → Int32) × (Nat → Int32)
  | 0 => (1, 0, ren0, kep0)
  | r + 1 => if nd r = 0 then aTr num rf nd ren0 kep0 r else ((aTr num rf nd ren0 kep0 r).1 + aL num rf r, (aTr num rf nd ren0 kep0 r).2.1 + 1, (fun b => if b = r then nI (aTr num rf nd ren0 kep0 r).2.1 else (aTr num rf nd ren0 kep0 r).2.2.1 b), aKp num (fun b => if b = r then nI (aTr num rf nd ren0 kep0 r).2.1 else (aTr num rf nd ren0 kep0 r).2.2.1 b) (rf r) (aK num rf r) (aTr num rf nd ren0 kep0 r).1 (aTr num rf nd ren0 kep0 r).2.2.2 (aL num rf r))
theorem aTr_0 {num : Nat → Int32} {rf : Nat → Nat} {nd ren0 kep0 : Nat → Int32} {r : Nat} (h : nd r = 0) : aTr num rf nd ren0 kep0 (r + 1) = aTr num rf nd ren0 kep0 r := by rw [aTr, if_pos h]
theorem aTr_1 {num : Nat → Int32} {rf : Nat → Nat} {nd ren0 kep0 ren kep : Nat → Int32} {r many now : Nat} (h : ¬ nd r = 0) (hT : aTr num rf nd ren0 kep0 r = (many, now, ren, kep)) : aTr num rf nd ren0 kep0 (r + 1) = (many + aL num rf r, now + 1, (fun b => if b = r then nI now else ren b), aKp num (fun b => if b = r then nI now else ren b) (rf r) (aK num rf r) many kep (aL num rf r)) := by rw [aTr, if_neg h, hT]
theorem aTr_l {num : Nat → Int32} {rf : Nat → Nat} {nd ren0 kep0 : Nat → Int32} (h0 : rf 0 = 1) {w : Nat} (h1 : ∀ r, r < w → rf (r + 1) = rf r + aL num rf r) : ∀ r, r ≤ w → (aTr num rf nd ren0 kep0 r).1 ≤ rf r
  | 0, _ => by rw [h0]; exact Nat.le_refl 1
  | r + 1, h => by
    have ih := aTr_l (num := num) (nd := nd) (ren0 := ren0) (kep0 := kep0) h0 h1 r (by omega)
    rw [h1 r h]
    by_cases hz : nd r = 0
    · rw [aTr_0 hz]; omega
    · rw [aTr, if_neg hz]; show (aTr num rf nd ren0 kep0 r).1 + _ ≤ _; omega
theorem aTr_n {num : Nat → Int32} {rf : Nat → Nat} {nd ren0 kep0 : Nat → Int32} : ∀ r, (aTr num rf nd ren0 kep0 r).2.1 ≤ r
  | 0 => Nat.le_refl _
  | r + 1 => by
    have ih := aTr_n (num := num) (rf := rf) (nd := nd) (ren0 := ren0) (kep0 := kep0) r
    by_cases hz : nd r = 0
    · rw [aTr_0 hz]; omega
    · rw [aTr, if_neg hz]; show (aTr num rf nd ren0 kep0 r).2.1 + 1 ≤ _; omega
/-- a place of a row that names a row names one before it -/
theorem qRow_s {σ : xS} {rf : Nat → Nat} {nr k q i : Nat} (h : qRows σ nr rf) (hk : k < nr) (hq : xgI σ 50 (rf k) = nI q) (hq9 : q < 10) (hi : i < dL q (xgI σ 50 (rf k + 1)).toNatClampNeg) (hR : aIsRow q i) : ∃ s, s < k ∧ xgI σ 50 (rf k + i) = nI s := by
  obtain ⟨q1, q2, q', q9, q3, q4, q5, q7⟩ := h k hk
  obtain rfl : q' = q := (nI_eq (by omega) (by omega)).mp (q3.symm.trans hq)
  rcases hR with ⟨e, h2, h3⟩ | ⟨e, h2⟩ | ⟨e, h2⟩
  · obtain ⟨m, m4, m1, m2, m3⟩ := q4 e
    rw [m1, nI_clamp (by omega)] at hi
    obtain ⟨j, rfl⟩ : ∃ j, i = 2 + 2 * j := ⟨(i - 2) / 2, by omega⟩
    obtain ⟨s, s1, s2⟩ := m3 j (by unfold dL at hi; rw [e] at hi; simp at hi; omega)
    exact ⟨s, s1, by rw [show rf k + (2 + 2 * j) = rf k + 2 + 2 * j by omega]; exact s2⟩
  · obtain ⟨s, s1, s2⟩ := q5 e
    exact ⟨s, s1, by rw [h2]; exact s2⟩
  · obtain ⟨m2, m3⟩ := q7 e
    obtain ⟨j, rfl⟩ : ∃ j, i = j + 1 := ⟨i - 1, by omega⟩
    exact m3 j (by unfold dL at hi; rw [e] at hi; simp at hi; omega)
def qSt (g : xS) : xS := xsI (qForget g) 37 19 1

set_option maxHeartbeats 4000000 in
set_option maxRecDepth 100000 in
theorem c_X9_trimT {l : Launch} {G : xG} {σ : xS} {x : Int32} {nr : Nat} (hr : xgI σ 37 26 = nI nr) (hr2 : nr ≤ 200) (hx : ¬ xLt x nr) : xFi l G yX9_trim cX9_trim 12 (Option.some Jvm.ClassFile.FieldType.int) 4 102 [.ref (G.2.1 37), .int x] σ (0) (xsI σ 37 0 1) := by
  refine xM.of (by decide) (Nat.le_of_ble_eq_true rfl) (fun pp ee ss mm aa bel met kk X => ?_)
  have X : xC pp ss mm met kk cX9_trim 12 RX9 (Option.some Jvm.ClassFile.FieldType.int) G := X
  show xW pp l ee { frames := 4, cells := 0, slots := 0, locals := 102 } ss mm aa bel met kk 12 G 0 0 (xQ bel G (fun rv_ tv_ => rv_ = some (.int (0)) ∧ tv_ = (xsI σ 37 0 1)) aa ss) 0 [(0, .ref (G.2.1 37)), (1, .int x)] [] σ
  refine x_aload_n X dX9_trim_0 rfl ?_
  refine x_iload_n X dX9_trim_1 rfl ?_
  refine x_iconst (v := nI 0) X dX9_trim_2 (by decide) ?_
  refine x_aload_n X dX9_trim_3 rfl ?_
  refine gf_X9_145 X dX9_trim_4 rfl ?_
  rw [hr]
  refine x_iconst (v := nI 1) X dX9_trim_7 (by decide) ?_
  refine x_isub X dX9_trim_8 ?_
  refine cs_X9_89 X c_X9_in dX9_trim_9 ⟨by decide, by decide, by decide, by decide⟩ rfl rfl (Nat.le_of_ble_eq_true rfl) (xk_i ?_)
  rw [xIn_lt (by omega)]
  refine x_ifne (tgt := 19) X dX9_trim_12 (by decide) (fun h12 => ?_) (fun h12 => ?_)
  · skip
    exact absurd (xB_f hx) h12
  · skip
    refine x_iconst (v := nI 1) X dX9_trim_15 (by decide) ?_
    refine x_goto (tgt := 20) X dX9_trim_16 (by decide) ?_
    refine cv_X9_157 X (c_X9_refuses (Or.inr rfl)) dX9_trim_20 rfl ⟨by decide, by decide, by decide, by decide⟩ rfl rfl (Nat.le_of_ble_eq_true rfl) (xk_i ?_)
    refine x_ifeq (tgt := 28) X dX9_trim_23 (by decide) (fun h23 => ?_) (fun h23 => ?_)
    · skip
      exact absurd h23 (by decide)
    · skip
      refine x_iconst (v := nI 0) X dX9_trim_26 (by decide) ?_
      exact x_iret X dX9_trim_27 (xp_i (by first | rfl | simp [*]) (by first | rfl | simp [*]))

set_option maxHeartbeats 4000000 in
set_option maxRecDepth 100000 in
theorem c_X9_trim {l : Launch} {G : xG} {σ : xS} {w n0 mn nw : Nat} {rf : Nat → Nat} {nd rn kp : Nat → Int32} {I : Nat → xS → Prop} {nr : Nat} (hr : xgI σ 37 26 = nI nr) (hr2 : nr ≤ 200) (hw : w < nr) (hN : qRows σ (w + 1) rf) (h0 : rf 0 = 1) (h1 : ∀ r, r < w → rf (r + 1) = rf r + aL (xgI σ 50) rf r) (h2 : rf w + aL (xgI σ 50) rf w ≤ 1500) (hA1 : (aNeed (xsI σ 37 0 0) rf w).1 = n0) (hA2 : (aNeed (xsI σ 37 0 0) rf w).2 = nd) (hT1 : aTr (xgI σ 50) rf nd (xgI σ 58) (fun b => if b = 0 then xgI σ 37 16 else xgI σ 59 b) (w + 1) = (mn, nw, rn, kp)) (hmn : mn ≤ 1500) (hI : I 0 (qSt (qT3 (xsF (xsI σ 37 0 0) 57 nd) rn kp))) (hIt : ∀ k τ, I k τ → ∀ b, xgI τ 59 b = kp b) (hTk : ∀ k τ, k < mn → I k τ → xM l G yX9_take cX9_take 3 (Option.none : Option Jvm.ClassFile.FieldType) 3 80 [.ref (G.2.1 37), .int (kp k)] τ (fun r t => r = none ∧ I (k + 1) t)) : xM l G yX9_trim cX9_trim 12 (Option.some Jvm.ClassFile.FieldType.int) 4 102 [.ref (G.2.1 37), .int (nI w)] σ (fun r t => r = some (.int (nI n0)) ∧ I mn t) := by
  have hrl : ∀ r, r ≤ w → rf r + aL (xgI σ 50) rf r ≤ 1500 := by
    intro r hrw
    have hmo : ∀ d r, r + d = w → rf r + aL (xgI σ 50) rf r ≤ 1500 := by
      intro d
      induction d with
      | zero => intro r e; rw [show r = w by omega]; exact h2
      | succ d ih => intro r e; have := ih (r + 1) (by omega); rw [h1 r (by omega)] at this; omega
    exact hmo (w - r) r (by omega)
  refine xM.of (by decide) (Nat.le_of_ble_eq_true rfl) (fun pp ee ss mm aa bel met kk X => ?_)
  have X : xC pp ss mm met kk cX9_trim 12 RX9 (Option.some Jvm.ClassFile.FieldType.int) G := X
  show xW pp l ee { frames := 4, cells := 0, slots := 0, locals := 102 } ss mm aa bel met kk 12 G 0 0 (xQ bel G (fun r t => r = some (.int (nI n0)) ∧ I mn t) aa ss) 0 [(0, .ref (G.2.1 37)), (1, .int (nI w))] [] σ
  refine x_aload_n X dX9_trim_0 rfl ?_
  refine x_iload_n X dX9_trim_1 rfl ?_
  refine x_iconst (v := nI 0) X dX9_trim_2 (by decide) ?_
  refine x_aload_n X dX9_trim_3 rfl ?_
  refine gf_X9_145 X dX9_trim_4 rfl ?_
  rw [hr]
  refine x_iconst (v := nI 1) X dX9_trim_7 (by decide) ?_
  refine x_isub X dX9_trim_8 ?_
  refine cs_X9_89 X c_X9_in dX9_trim_9 ⟨by decide, by decide, by decide, by decide⟩ rfl rfl (Nat.le_of_ble_eq_true rfl) (xk_i ?_)
  rw [xIn_lt (by omega)]
  refine x_ifne (tgt := 19) X dX9_trim_12 (by decide) (fun h12 => ?_) (fun h12 => ?_)
  · skip
    refine x_iconst (v := nI 0) X dX9_trim_19 (by decide) ?_
    refine cv_X9_157 X (c_X9_refuses (Or.inl rfl)) dX9_trim_20 rfl ⟨by decide, by decide, by decide, by decide⟩ rfl rfl (Nat.le_of_ble_eq_true rfl) (xk_i ?_)
    refine x_ifeq (tgt := 28) X dX9_trim_23 (by decide) (fun h23 => ?_) (fun h23 => ?_)
    · skip
      refine x_aload_n X dX9_trim_28 rfl ?_
      refine x_iload_n X dX9_trim_29 rfl ?_
      refine cv_X9_242 X (c_X9_need (by omega) (qRows_0 hN)) dX9_trim_30 rfl ⟨by decide, by decide, by decide, by decide⟩ rfl rfl (Nat.le_of_ble_eq_true rfl) (xk_i ?_)
      rw [hA1, hA2]
      refine x_istore_n (lv' := [(2, .int (nI n0)), (0, .ref (G.2.1 37)), (1, .int (nI w))]) X dX9_trim_33 rfl (by decide) rfl ?_
      refine x_iconst (v := nI 1) X dX9_trim_34 (by decide) ?_
      refine x_istore_n (lv' := [(3, .int (nI 1)), (2, .int (nI n0)), (0, .ref (G.2.1 37)), (1, .int (nI w))]) X dX9_trim_35 rfl (by decide) rfl ?_
      refine x_iconst (v := nI 0) X dX9_trim_36 (by decide) ?_
      refine x_istore (lv' := [(4, .int (nI 0)), (3, .int (nI 1)), (2, .int (nI n0)), (0, .ref (G.2.1 37)), (1, .int (nI w))]) X dX9_trim_37 (by decide) rfl ?_
      refine x_aload_n X dX9_trim_39 rfl ?_
      refine gf_X9_83 (k' := 59) X dX9_trim_40 rfl rfl ?_
      refine x_iconst (v := nI 0) X dX9_trim_43 (by decide) ?_
      refine x_aload_n X dX9_trim_44 rfl ?_
      refine gf_X9_124 X dX9_trim_45 rfl ?_
      rw [show xgI (xsF (xsI σ 37 0 0) 57 nd) 37 16 = xgI σ 37 16 from rfl]
      refine x_iastN X dX9_trim_48 rfl (by omega) (by omega) ?_
      refine x_iconst (v := nI 0) X dX9_trim_49 (by decide) ?_
      refine x_istore (lv' := [(5, .int (nI 0)), (4, .int (nI 0)), (3, .int (nI 1)), (2, .int (nI n0)), (0, .ref (G.2.1 37)), (1, .int (nI w))]) X dX9_trim_50 (by decide) rfl ?_
      have lp52 : ∀ (NN52 : Nat) (r : Nat) (hr9 : r ≤ w + 1) (many now : Nat) (ren kep : Nat → Int32) (hT : aTr (xgI σ 50) rf nd (xgI σ 58) (fun b => if b = 0 then xgI σ 37 16 else xgI σ 59 b) r = (many, now, ren, kep)) (τ : xS) (hτ : τ = qT3 (xsF (xsI σ 37 0 0) 57 nd) ren kep), w + 1 - r = NN52 → xW pp l ee { frames := 4, cells := 0, slots := 0, locals := 102 } ss mm aa bel met kk 12 G 0 0 (xQ bel G (fun r t => r = some (.int (nI n0)) ∧ I mn t) aa ss) 52 [(5, .int (nI r)), (4, .int (nI now)), (3, .int (nI many)), (2, .int (nI n0)), (1, .int (nI w)), (0, .ref (G.2.1 37))] [] (τ) := by
        intro NN52
        induction NN52 using Nat.strongRecOn with
        | ind NN52 ih52 =>
          intro r hr9 many now ren kep hT τ hτ hNN52
          subst hτ
          refine x_iload X dX9_trim_52 rfl ?_
          refine x_iload_n X dX9_trim_54 rfl ?_
          refine x_icmpgt (tgt := 223) X dX9_trim_55 (by decide) (fun h55 => ?_) (fun h55 => ?_)
          · skip
            rw [xb_gt (x := nI r) (y := nI w) (a := r) (b := w) rfl rfl (by omega) (by omega)] at h55
            obtain rfl : r = w + 1 := by omega
            have hTe := hT1.symm.trans hT
            simp only [Prod.mk.injEq] at hTe
            obtain ⟨e1, e2, e3, e4⟩ := hTe
            subst e1 e2 e3 e4
            refine x_aload_n X dX9_trim_223 rfl ?_
            refine cv_X9_130 X c_X9_forget dX9_trim_224 rfl ⟨by decide, by decide, by decide, by decide⟩ rfl rfl (Nat.le_of_ble_eq_true rfl) (xk_v ?_)
            refine x_aload_n X dX9_trim_227 rfl ?_
            refine x_iconst (v := nI 1) X dX9_trim_228 (by decide) ?_
            refine pf_X9_133 X dX9_trim_229 rfl (Or.inr rfl) ?_
            refine x_iconst (v := nI 0) X dX9_trim_232 (by decide) ?_
            refine x_istore (lv' := [(5, .int (nI 0)), (4, .int (nI nw)), (3, .int (nI mn)), (2, .int (nI n0)), (1, .int (nI w)), (0, .ref (G.2.1 37))]) X dX9_trim_233 (by decide) rfl ?_
            have lp235 : ∀ (NN235 : Nat) (k : Nat) (hk : k ≤ mn) (τ : xS) (hi : I k τ), mn - k = NN235 → xW pp l ee { frames := 4, cells := 0, slots := 0, locals := 102 } ss mm aa bel met kk 12 G 0 0 (xQ bel G (fun r t => r = some (.int (nI n0)) ∧ I mn t) aa ss) 235 [(5, .int (nI k)), (3, .int (nI mn)), (2, .int (nI n0)), (1, .int (nI w)), (0, .ref (G.2.1 37))] [] (τ) := by
              intro NN235
              induction NN235 using Nat.strongRecOn with
              | ind NN235 ih235 =>
                intro k hk τ hi hNN235
                refine x_iload X dX9_trim_235 rfl ?_
                refine x_iload_n X dX9_trim_237 rfl ?_
                refine x_icmpge (tgt := 258) X dX9_trim_238 (by decide) (fun h238 => ?_) (fun h238 => ?_)
                · skip
                  rw [xb_ge (x := nI k) (y := nI mn) (a := k) (b := mn) rfl rfl (by omega) (by omega)] at h238
                  obtain rfl : k = mn := by omega
                  refine x_iload_n X dX9_trim_258 rfl ?_
                  exact x_iret X dX9_trim_259 (⟨rfl, hi⟩)
                · skip
                  rw [xb_ge (x := nI k) (y := nI mn) (a := k) (b := mn) rfl rfl (by omega) (by omega)] at h238
                  refine x_aload_n X dX9_trim_241 rfl ?_
                  refine x_aload_n X dX9_trim_242 rfl ?_
                  refine gf_X9_83 (k' := 59) X dX9_trim_243 rfl rfl ?_
                  refine x_iload X dX9_trim_246 rfl ?_
                  refine x_ialdN X dX9_trim_248 rfl (by omega) (by omega) ?_
                  rw [hIt k τ hi]
                  refine cv_X9_165 X (hTk k τ (by omega) hi) dX9_trim_249 rfl ⟨by decide, by decide, by decide, by decide⟩ rfl rfl (Nat.le_of_ble_eq_true rfl) (fun r0 u hpo => ?_)
                  obtain ⟨rfl, hpo2⟩ := hpo
                  refine x_iinc (k := 0) (v := nI (k + 1)) (lv' := [(5, .int (nI (k + 1))), (3, .int (nI mn)), (2, .int (nI n0)), (1, .int (nI w)), (0, .ref (G.2.1 37))]) X dX9_trim_252 rfl (xn_inc _) (by decide) rfl ?_
                  refine x_goto (tgt := 235) X dX9_trim_255 (by decide) ?_
                  refine x_pick [0, 1, 2, 3, 4] rfl ?_
                  exact ih235 _ (by omega) (k + 1) (by omega) u hpo2 rfl
            refine x_pick [0, 2, 3, 4, 5] rfl ?_
            exact lp235 _ 0 (by omega) _ hI rfl
          · skip
            rw [xb_gt (x := nI r) (y := nI w) (a := r) (b := w) rfl rfl (by omega) (by omega)] at h55
            refine x_aload_n X dX9_trim_58 rfl ?_
            refine gf_X9_77 (k' := 57) X dX9_trim_59 rfl rfl ?_
            refine x_iload X dX9_trim_62 rfl ?_
            refine x_zaldN X dX9_trim_64 rfl (by omega) (by omega) ?_
            rw [show xgI (qT3 (xsF (xsI σ 37 0 0) 57 nd) ren kep) 57 r = nd r from (qT3_o (by omega) (by omega)).trans xgI_F]
            refine x_ifeq (tgt := 217) X dX9_trim_65 (by decide) (fun h65 => ?_) (fun h65 => ?_)
            · skip
              have hT9 := (aTr_0 h65).trans hT
              refine x_iinc (k := 0) (v := nI (r + 1)) (lv' := [(5, .int (nI (r + 1))), (4, .int (nI now)), (3, .int (nI many)), (2, .int (nI n0)), (1, .int (nI w)), (0, .ref (G.2.1 37))]) X dX9_trim_217 rfl (xn_inc _) (by decide) rfl ?_
              refine x_goto (tgt := 52) X dX9_trim_220 (by decide) ?_
              refine x_pick [0, 1, 2, 3, 4, 5] rfl ?_
              exact ih52 _ (hNN52 ▸ Nat.sub_succ_lt_self _ _ (Nat.lt_succ_of_le (Nat.not_lt.mp h55))) (r + 1) (Nat.succ_le_succ (Nat.not_lt.mp h55)) _ _ _ _ hT9 _ rfl rfl
            · skip
              obtain ⟨q1, q2, q, q9, q3, q4, q5, q7⟩ := hN r (by omega)
              have hqk : aK (xgI σ 50) rf r = q := by unfold aK; rw [q3, nI_clamp (by omega)]
              obtain ⟨L, hL⟩ : ∃ z, z = aL (xgI σ 50) rf r := ⟨_, rfl⟩
              have hL2 : L = dL q (xgI σ 50 (rf r + 1)).toNatClampNeg := by rw [hL]; unfold aL; rw [hqk]
              have hT8 := aTr_1 h65 hT
              rw [← hL, hqk] at hT8
              have hml := aTr_l (nd := nd) (ren0 := xgI σ 58) (kep0 := fun b => if b = 0 then xgI σ 37 16 else xgI σ 59 b) h0 h1 r (by omega)
              rw [hT] at hml
              have hml : many ≤ rf r := hml
              have hrl2 := hrl r (by omega)
              rw [← hL] at hrl2
              refine x_aload_n X dX9_trim_68 rfl ?_
              refine gf_X9_80 (k' := 58) X dX9_trim_69 rfl rfl ?_
              refine x_iload X dX9_trim_72 rfl ?_
              refine x_iload X dX9_trim_74 rfl ?_
              refine x_iastN X dX9_trim_76 rfl (by omega) (by omega) ?_
              rw [qT3_58]
              refine x_aload_n X dX9_trim_77 rfl ?_
              refine gf_X9_56 (k' := 51) X dX9_trim_78 rfl rfl ?_
              refine x_iload X dX9_trim_81 rfl ?_
              refine x_ialdN X dX9_trim_83 rfl (by omega) (by omega) ?_
              rw [show xgI (qT3 (xsF (xsI σ 37 0 0) 57 nd) (fun b => if b = r then nI now else ren b) kep) (51) (r) = xgI σ (51) (r) from (qT3_o (by omega) (by omega)).trans ((xgI_Fn (by omega)).trans (xgI_n (by omega))), q1]
              refine x_istore (lv' := [(6, .int (nI (rf r))), (5, .int (nI r)), (4, .int (nI now)), (3, .int (nI many)), (2, .int (nI n0)), (1, .int (nI w)), (0, .ref (G.2.1 37))]) X dX9_trim_84 (by decide) rfl ?_
              refine x_aload_n X dX9_trim_86 rfl ?_
              refine x_iload X dX9_trim_87 rfl ?_
              refine cv_X9_184 X (c_X9_length (a := rf r) (q := q) (k := (xgI σ 50 (rf r + 1)).toNatClampNeg) (by omega) ((show xgI (qT3 (xsF (xsI σ 37 0 0) 57 nd) (fun b => if b = r then nI now else ren b) kep) (50) (rf r) = xgI σ (50) (rf r) from (qT3_o (by omega) (by omega)).trans ((xgI_Fn (by omega)).trans (xgI_n (by omega)))).symm ▸ q3) q9 (fun z => by obtain ⟨m, m4, m1, m2, m3⟩ := q4 z; rw [show xgI (qT3 (xsF (xsI σ 37 0 0) 57 nd) (fun b => if b = r then nI now else ren b) kep) (50) (rf r + 1) = xgI σ (50) (rf r + 1) from (qT3_o (by omega) (by omega)).trans ((xgI_Fn (by omega)).trans (xgI_n (by omega))), m1, nI_clamp (by omega)])) dX9_trim_89 rfl ⟨by decide, by decide, by decide, by decide⟩ rfl rfl (Nat.le_of_ble_eq_true rfl) (xk_i ?_)
              rw [← hL2]
              refine x_istore (lv' := [(7, .int (nI L)), (6, .int (nI (rf r))), (5, .int (nI r)), (4, .int (nI now)), (3, .int (nI many)), (2, .int (nI n0)), (1, .int (nI w)), (0, .ref (G.2.1 37))]) X dX9_trim_92 (by decide) rfl ?_
              refine x_iconst (v := nI 0) X dX9_trim_94 (by decide) ?_
              refine x_istore (lv' := [(8, .int (nI 0)), (7, .int (nI L)), (6, .int (nI (rf r))), (5, .int (nI r)), (4, .int (nI now)), (3, .int (nI many)), (2, .int (nI n0)), (1, .int (nI w)), (0, .ref (G.2.1 37))]) X dX9_trim_95 (by decide) rfl ?_
              have lp97 : ∀ (NN97 : Nat) (i : Nat) (hi : i ≤ L) (kq : Nat → Int32) (hkq : kq = aKp (xgI σ 50) (fun b => if b = r then nI now else ren b) (rf r) q many kep i), L - i = NN97 → xW pp l ee { frames := 4, cells := 0, slots := 0, locals := 102 } ss mm aa bel met kk 12 G 0 0 (xQ bel G (fun r t => r = some (.int (nI n0)) ∧ I mn t) aa ss) 97 [(8, .int (nI i)), (7, .int (nI L)), (6, .int (nI (rf r))), (5, .int (nI r)), (4, .int (nI now)), (3, .int (nI (many + i))), (2, .int (nI n0)), (1, .int (nI w)), (0, .ref (G.2.1 37))] [] (qT3 (xsF (xsI σ 37 0 0) 57 nd) (fun b => if b = r then nI now else ren b) kq) := by
                intro NN97
                induction NN97 using Nat.strongRecOn with
                | ind NN97 ih97 =>
                  intro i hi kq hkq hNN97
                  refine x_iload X dX9_trim_97 rfl ?_
                  refine x_iload X dX9_trim_99 rfl ?_
                  refine x_icmpge (tgt := 214) X dX9_trim_101 (by decide) (fun h101 => ?_) (fun h101 => ?_)
                  · skip
                    rw [xb_ge (x := nI i) (y := nI L) (a := i) (b := L) rfl rfl (by omega) (by omega)] at h101
                    have hiL : i = L := by omega
                    rw [← hiL, ← hkq] at hT8
                    have hT9 := hT8
                    refine x_iinc (k := 4) (v := nI (now + 1)) (lv' := [(4, .int (nI (now + 1))), (8, .int (nI i)), (7, .int (nI L)), (6, .int (nI (rf r))), (5, .int (nI r)), (3, .int (nI (many + i))), (2, .int (nI n0)), (1, .int (nI w)), (0, .ref (G.2.1 37))]) X dX9_trim_214 rfl (xn_inc _) (by decide) rfl ?_
                    refine x_iinc (k := 4) (v := nI (r + 1)) (lv' := [(5, .int (nI (r + 1))), (4, .int (nI (now + 1))), (8, .int (nI i)), (7, .int (nI L)), (6, .int (nI (rf r))), (3, .int (nI (many + i))), (2, .int (nI n0)), (1, .int (nI w)), (0, .ref (G.2.1 37))]) X dX9_trim_217 rfl (xn_inc _) (by decide) rfl ?_
                    refine x_goto (tgt := 52) X dX9_trim_220 (by decide) ?_
                    refine x_pick [0, 1, 5, 6, 7, 8] rfl ?_
                    exact ih52 _ (hNN52 ▸ Nat.sub_succ_lt_self _ _ (Nat.lt_succ_of_le (Nat.not_lt.mp h55))) (r + 1) (Nat.succ_le_succ (Nat.not_lt.mp h55)) _ _ _ _ hT9 _ rfl rfl
                  · skip
                    rw [xb_ge (x := nI i) (y := nI L) (a := i) (b := L) rfl rfl (by omega) (by omega)] at h101
                    refine x_aload_n X dX9_trim_104 rfl ?_
                    refine gf_X9_46 (k' := 50) X dX9_trim_105 rfl rfl ?_
                    refine x_iload X dX9_trim_108 rfl ?_
                    refine x_iload X dX9_trim_110 rfl ?_
                    refine x_iadd X dX9_trim_112 ?_
                    rw [nI_add (rf r) i]
                    refine x_ialdN X dX9_trim_113 rfl (by omega) (by omega) ?_
                    rw [show xgI (qT3 (xsF (xsI σ 37 0 0) 57 nd) (fun b => if b = r then nI now else ren b) kq) (50) (rf r + i) = xgI σ (50) (rf r + i) from (qT3_o (by omega) (by omega)).trans ((xgI_Fn (by omega)).trans (xgI_n (by omega)))]
                    refine x_topi (fun v hv => ?_)
                    refine x_istore (lv' := [(9, .int v), (8, .int (nI i)), (7, .int (nI L)), (6, .int (nI (rf r))), (5, .int (nI r)), (4, .int (nI now)), (3, .int (nI (many + i))), (2, .int (nI n0)), (1, .int (nI w)), (0, .ref (G.2.1 37))]) X dX9_trim_114 (by decide) rfl ?_
                    refine x_aload_n X dX9_trim_116 rfl ?_
                    refine gf_X9_46 (k' := 50) X dX9_trim_117 rfl rfl ?_
                    refine x_iload X dX9_trim_120 rfl ?_
                    refine x_ialdN X dX9_trim_122 rfl (by omega) (by omega) ?_
                    rw [show xgI (qT3 (xsF (xsI σ 37 0 0) 57 nd) (fun b => if b = r then nI now else ren b) kq) (50) (rf r) = xgI σ (50) (rf r) from (qT3_o (by omega) (by omega)).trans ((xgI_Fn (by omega)).trans (xgI_n (by omega))), q3]
                    refine x_istore (lv' := [(10, .int (nI q)), (9, .int v), (8, .int (nI i)), (7, .int (nI L)), (6, .int (nI (rf r))), (5, .int (nI r)), (4, .int (nI now)), (3, .int (nI (many + i))), (2, .int (nI n0)), (1, .int (nI w)), (0, .ref (G.2.1 37))]) X dX9_trim_123 (by decide) rfl ?_
                    refine x_iload X dX9_trim_125 rfl ?_
                    refine x_iconst (v := nI 4) X dX9_trim_127 (by decide) ?_
                    refine x_icmpne (tgt := 144) X dX9_trim_128 (by decide) (fun h128 => ?_) (fun h128 => ?_)
                    · skip
                      rw [xb_ne (x := nI q) (y := nI 4) (a := q) (b := 4) rfl rfl (by omega) (by omega)] at h128
                      refine x_iload X dX9_trim_144 rfl ?_
                      refine x_iconst (v := nI 5) X dX9_trim_146 (by decide) ?_
                      refine x_icmpeq (tgt := 157) X dX9_trim_147 (by decide) (fun h147 => ?_) (fun h147 => ?_)
                      · skip
                        rw [xb_eq (x := nI q) (y := nI 5) (a := q) (b := 5) rfl rfl (by omega) (by omega)] at h147
                        refine x_iload X dX9_trim_157 rfl ?_
                        refine x_iconst (v := nI 1) X dX9_trim_159 (by decide) ?_
                        refine x_icmpeq (tgt := 175) X dX9_trim_160 (by decide) (fun h160 => ?_) (fun h160 => ?_)
                        · skip
                          rw [xb_eq (x := nI i) (y := nI 1) (a := i) (b := 1) rfl rfl (by omega) (by omega)] at h160
                          refine x_iconst (v := nI 1) X dX9_trim_175 (by decide) ?_
                          have hR : aIsRow q i := by unfold aIsRow; omega
                          refine x_goto (tgt := 180) X dX9_trim_176 (by decide) ?_
                          refine x_istore (lv' := [(11, .int (nI 1)), (10, .int (nI q)), (9, .int v), (8, .int (nI i)), (7, .int (nI L)), (6, .int (nI (rf r))), (5, .int (nI r)), (4, .int (nI now)), (3, .int (nI (many + i))), (2, .int (nI n0)), (1, .int (nI w)), (0, .ref (G.2.1 37))]) X dX9_trim_180 (by decide) rfl ?_
                          refine x_aload_n X dX9_trim_182 rfl ?_
                          refine gf_X9_83 (k' := 59) X dX9_trim_183 rfl rfl ?_
                          refine x_iload_n X dX9_trim_186 rfl ?_
                          refine x_iload X dX9_trim_187 rfl ?_
                          refine x_ifeq (tgt := 202) X dX9_trim_189 (by decide) (fun h189 => ?_) (fun h189 => ?_)
                          · skip
                            exact absurd h189 (by decide)
                          · skip
                            rw [xb_eq (x := nI 1) (y := 0) (a := 1) (b := 0) rfl rfl (by omega) (by omega)] at h189
                            obtain ⟨s, s1, s2⟩ := qRow_s hN (by omega) q3 q9 (hL2 ▸ (show i < L by omega)) hR
                            rw [s2] at hv
                            subst hv
                            have hkq9 : (fun b => if b = many + i then (fun b => if b = r then nI now else ren b) s else kq b) = aKp (xgI σ 50) (fun b => if b = r then nI now else ren b) (rf r) q many kep (i + 1) := by
                              rw [hkq, aKp, if_pos hR, s2, nI_clamp (by omega)]
                            refine x_aload_n X dX9_trim_192 rfl ?_
                            refine gf_X9_80 (k' := 58) X dX9_trim_193 rfl rfl ?_
                            refine x_iload X dX9_trim_196 rfl ?_
                            refine x_ialdN X dX9_trim_198 rfl (by omega) (by omega) ?_
                            rw [qT3_r]
                            refine x_goto (tgt := 204) X dX9_trim_199 (by decide) ?_
                            refine x_iastN X dX9_trim_204 rfl (by omega) (by omega) ?_
                            rw [qT3_59]
                            refine x_iinc (k := 8) (v := nI ((many + i) + 1)) (lv' := [(3, .int (nI ((many + i) + 1))), (11, .int (nI 1)), (10, .int (nI q)), (9, .int (nI s)), (8, .int (nI i)), (7, .int (nI L)), (6, .int (nI (rf r))), (5, .int (nI r)), (4, .int (nI now)), (2, .int (nI n0)), (1, .int (nI w)), (0, .ref (G.2.1 37))]) X dX9_trim_205 rfl (xn_inc _) (by decide) rfl ?_
                            refine x_iinc (k := 4) (v := nI (i + 1)) (lv' := [(8, .int (nI (i + 1))), (3, .int (nI ((many + i) + 1))), (11, .int (nI 1)), (10, .int (nI q)), (9, .int (nI s)), (7, .int (nI L)), (6, .int (nI (rf r))), (5, .int (nI r)), (4, .int (nI now)), (2, .int (nI n0)), (1, .int (nI w)), (0, .ref (G.2.1 37))]) X dX9_trim_208 rfl (xn_inc _) (by decide) rfl ?_
                            refine x_goto (tgt := 97) X dX9_trim_211 (by decide) ?_
                            refine x_pick [0, 5, 6, 7, 8, 1, 9, 10, 11] rfl ?_
                            exact ih97 _ (by omega) (i + 1) (by omega) _ hkq9 rfl
                        · skip
                          rw [xb_eq (x := nI i) (y := nI 1) (a := i) (b := 1) rfl rfl (by omega) (by omega)] at h160
                          refine x_iload X dX9_trim_163 rfl ?_
                          refine x_bipush (v := nI 7) X dX9_trim_165 (by decide) ?_
                          refine x_icmpne (tgt := 179) X dX9_trim_167 (by decide) (fun h167 => ?_) (fun h167 => ?_)
                          · skip
                            rw [xb_ne (x := nI q) (y := nI 7) (a := q) (b := 7) rfl rfl (by omega) (by omega)] at h167
                            have hR : ¬ aIsRow q i := by unfold aIsRow; omega
                            refine x_iconst (v := nI 0) X dX9_trim_179 (by decide) ?_
                            refine x_istore (lv' := [(11, .int (nI 0)), (10, .int (nI q)), (9, .int v), (8, .int (nI i)), (7, .int (nI L)), (6, .int (nI (rf r))), (5, .int (nI r)), (4, .int (nI now)), (3, .int (nI (many + i))), (2, .int (nI n0)), (1, .int (nI w)), (0, .ref (G.2.1 37))]) X dX9_trim_180 (by decide) rfl ?_
                            refine x_aload_n X dX9_trim_182 rfl ?_
                            refine gf_X9_83 (k' := 59) X dX9_trim_183 rfl rfl ?_
                            refine x_iload_n X dX9_trim_186 rfl ?_
                            refine x_iload X dX9_trim_187 rfl ?_
                            refine x_ifeq (tgt := 202) X dX9_trim_189 (by decide) (fun h189 => ?_) (fun h189 => ?_)
                            · skip
                              rw [xb_eq (x := nI 0) (y := 0) (a := 0) (b := 0) rfl rfl (by omega) (by omega)] at h189
                              have hkq9 : (fun b => if b = many + i then v else kq b) = aKp (xgI σ 50) (fun b => if b = r then nI now else ren b) (rf r) q many kep (i + 1) := by
                                rw [hkq, hv, aKp, if_neg hR]
                              refine x_iload X dX9_trim_202 rfl ?_
                              refine x_iastN X dX9_trim_204 rfl (by omega) (by omega) ?_
                              rw [qT3_59]
                              refine x_iinc (k := 8) (v := nI ((many + i) + 1)) (lv' := [(3, .int (nI ((many + i) + 1))), (11, .int (nI 0)), (10, .int (nI q)), (9, .int v), (8, .int (nI i)), (7, .int (nI L)), (6, .int (nI (rf r))), (5, .int (nI r)), (4, .int (nI now)), (2, .int (nI n0)), (1, .int (nI w)), (0, .ref (G.2.1 37))]) X dX9_trim_205 rfl (xn_inc _) (by decide) rfl ?_
                              refine x_iinc (k := 4) (v := nI (i + 1)) (lv' := [(8, .int (nI (i + 1))), (3, .int (nI ((many + i) + 1))), (11, .int (nI 0)), (10, .int (nI q)), (9, .int v), (7, .int (nI L)), (6, .int (nI (rf r))), (5, .int (nI r)), (4, .int (nI now)), (2, .int (nI n0)), (1, .int (nI w)), (0, .ref (G.2.1 37))]) X dX9_trim_208 rfl (xn_inc _) (by decide) rfl ?_
                              refine x_goto (tgt := 97) X dX9_trim_211 (by decide) ?_
                              refine x_pick [0, 5, 6, 7, 8, 1, 9, 10, 11] rfl ?_
                              exact ih97 _ (by omega) (i + 1) (by omega) _ hkq9 rfl
                            · skip
                              exact absurd (by decide) h189
                          · skip
                            rw [xb_ne (x := nI q) (y := nI 7) (a := q) (b := 7) rfl rfl (by omega) (by omega)] at h167
                            refine x_iload X dX9_trim_170 rfl ?_
                            refine x_ifle (tgt := 179) X dX9_trim_172 (by decide) (fun h172 => ?_) (fun h172 => ?_)
                            · skip
                              rw [xb_le (x := nI i) (y := 0) (a := i) (b := 0) rfl rfl (by omega) (by omega)] at h172
                              have hR : ¬ aIsRow q i := by unfold aIsRow; omega
                              refine x_iconst (v := nI 0) X dX9_trim_179 (by decide) ?_
                              refine x_istore (lv' := [(11, .int (nI 0)), (10, .int (nI q)), (9, .int v), (8, .int (nI i)), (7, .int (nI L)), (6, .int (nI (rf r))), (5, .int (nI r)), (4, .int (nI now)), (3, .int (nI (many + i))), (2, .int (nI n0)), (1, .int (nI w)), (0, .ref (G.2.1 37))]) X dX9_trim_180 (by decide) rfl ?_
                              refine x_aload_n X dX9_trim_182 rfl ?_
                              refine gf_X9_83 (k' := 59) X dX9_trim_183 rfl rfl ?_
                              refine x_iload_n X dX9_trim_186 rfl ?_
                              refine x_iload X dX9_trim_187 rfl ?_
                              refine x_ifeq (tgt := 202) X dX9_trim_189 (by decide) (fun h189 => ?_) (fun h189 => ?_)
                              · skip
                                rw [xb_eq (x := nI 0) (y := 0) (a := 0) (b := 0) rfl rfl (by omega) (by omega)] at h189
                                have hkq9 : (fun b => if b = many + i then v else kq b) = aKp (xgI σ 50) (fun b => if b = r then nI now else ren b) (rf r) q many kep (i + 1) := by
                                  rw [hkq, hv, aKp, if_neg hR]
                                refine x_iload X dX9_trim_202 rfl ?_
                                refine x_iastN X dX9_trim_204 rfl (by omega) (by omega) ?_
                                rw [qT3_59]
                                refine x_iinc (k := 8) (v := nI ((many + i) + 1)) (lv' := [(3, .int (nI ((many + i) + 1))), (11, .int (nI 0)), (10, .int (nI q)), (9, .int v), (8, .int (nI i)), (7, .int (nI L)), (6, .int (nI (rf r))), (5, .int (nI r)), (4, .int (nI now)), (2, .int (nI n0)), (1, .int (nI w)), (0, .ref (G.2.1 37))]) X dX9_trim_205 rfl (xn_inc _) (by decide) rfl ?_
                                refine x_iinc (k := 4) (v := nI (i + 1)) (lv' := [(8, .int (nI (i + 1))), (3, .int (nI ((many + i) + 1))), (11, .int (nI 0)), (10, .int (nI q)), (9, .int v), (7, .int (nI L)), (6, .int (nI (rf r))), (5, .int (nI r)), (4, .int (nI now)), (2, .int (nI n0)), (1, .int (nI w)), (0, .ref (G.2.1 37))]) X dX9_trim_208 rfl (xn_inc _) (by decide) rfl ?_
                                refine x_goto (tgt := 97) X dX9_trim_211 (by decide) ?_
                                refine x_pick [0, 5, 6, 7, 8, 1, 9, 10, 11] rfl ?_
                                exact ih97 _ (by omega) (i + 1) (by omega) _ hkq9 rfl
                              · skip
                                exact absurd (by decide) h189
                            · skip
                              rw [xb_le (x := nI i) (y := 0) (a := i) (b := 0) rfl rfl (by omega) (by omega)] at h172
                              refine x_iconst (v := nI 1) X dX9_trim_175 (by decide) ?_
                              have hR : aIsRow q i := by unfold aIsRow; omega
                              refine x_goto (tgt := 180) X dX9_trim_176 (by decide) ?_
                              refine x_istore (lv' := [(11, .int (nI 1)), (10, .int (nI q)), (9, .int v), (8, .int (nI i)), (7, .int (nI L)), (6, .int (nI (rf r))), (5, .int (nI r)), (4, .int (nI now)), (3, .int (nI (many + i))), (2, .int (nI n0)), (1, .int (nI w)), (0, .ref (G.2.1 37))]) X dX9_trim_180 (by decide) rfl ?_
                              refine x_aload_n X dX9_trim_182 rfl ?_
                              refine gf_X9_83 (k' := 59) X dX9_trim_183 rfl rfl ?_
                              refine x_iload_n X dX9_trim_186 rfl ?_
                              refine x_iload X dX9_trim_187 rfl ?_
                              refine x_ifeq (tgt := 202) X dX9_trim_189 (by decide) (fun h189 => ?_) (fun h189 => ?_)
                              · skip
                                exact absurd h189 (by decide)
                              · skip
                                rw [xb_eq (x := nI 1) (y := 0) (a := 1) (b := 0) rfl rfl (by omega) (by omega)] at h189
                                obtain ⟨s, s1, s2⟩ := qRow_s hN (by omega) q3 q9 (hL2 ▸ (show i < L by omega)) hR
                                rw [s2] at hv
                                subst hv
                                have hkq9 : (fun b => if b = many + i then (fun b => if b = r then nI now else ren b) s else kq b) = aKp (xgI σ 50) (fun b => if b = r then nI now else ren b) (rf r) q many kep (i + 1) := by
                                  rw [hkq, aKp, if_pos hR, s2, nI_clamp (by omega)]
                                refine x_aload_n X dX9_trim_192 rfl ?_
                                refine gf_X9_80 (k' := 58) X dX9_trim_193 rfl rfl ?_
                                refine x_iload X dX9_trim_196 rfl ?_
                                refine x_ialdN X dX9_trim_198 rfl (by omega) (by omega) ?_
                                rw [qT3_r]
                                refine x_goto (tgt := 204) X dX9_trim_199 (by decide) ?_
                                refine x_iastN X dX9_trim_204 rfl (by omega) (by omega) ?_
                                rw [qT3_59]
                                refine x_iinc (k := 8) (v := nI ((many + i) + 1)) (lv' := [(3, .int (nI ((many + i) + 1))), (11, .int (nI 1)), (10, .int (nI q)), (9, .int (nI s)), (8, .int (nI i)), (7, .int (nI L)), (6, .int (nI (rf r))), (5, .int (nI r)), (4, .int (nI now)), (2, .int (nI n0)), (1, .int (nI w)), (0, .ref (G.2.1 37))]) X dX9_trim_205 rfl (xn_inc _) (by decide) rfl ?_
                                refine x_iinc (k := 4) (v := nI (i + 1)) (lv' := [(8, .int (nI (i + 1))), (3, .int (nI ((many + i) + 1))), (11, .int (nI 1)), (10, .int (nI q)), (9, .int (nI s)), (7, .int (nI L)), (6, .int (nI (rf r))), (5, .int (nI r)), (4, .int (nI now)), (2, .int (nI n0)), (1, .int (nI w)), (0, .ref (G.2.1 37))]) X dX9_trim_208 rfl (xn_inc _) (by decide) rfl ?_
                                refine x_goto (tgt := 97) X dX9_trim_211 (by decide) ?_
                                refine x_pick [0, 5, 6, 7, 8, 1, 9, 10, 11] rfl ?_
                                exact ih97 _ (by omega) (i + 1) (by omega) _ hkq9 rfl
                      · skip
                        rw [xb_eq (x := nI q) (y := nI 5) (a := q) (b := 5) rfl rfl (by omega) (by omega)] at h147
                        refine x_iload X dX9_trim_150 rfl ?_
                        refine x_bipush (v := nI 9) X dX9_trim_152 (by decide) ?_
                        refine x_icmpne (tgt := 163) X dX9_trim_154 (by decide) (fun h154 => ?_) (fun h154 => ?_)
                        · skip
                          rw [xb_ne (x := nI q) (y := nI 9) (a := q) (b := 9) rfl rfl (by omega) (by omega)] at h154
                          refine x_iload X dX9_trim_163 rfl ?_
                          refine x_bipush (v := nI 7) X dX9_trim_165 (by decide) ?_
                          refine x_icmpne (tgt := 179) X dX9_trim_167 (by decide) (fun h167 => ?_) (fun h167 => ?_)
                          · skip
                            rw [xb_ne (x := nI q) (y := nI 7) (a := q) (b := 7) rfl rfl (by omega) (by omega)] at h167
                            have hR : ¬ aIsRow q i := by unfold aIsRow; omega
                            refine x_iconst (v := nI 0) X dX9_trim_179 (by decide) ?_
                            refine x_istore (lv' := [(11, .int (nI 0)), (10, .int (nI q)), (9, .int v), (8, .int (nI i)), (7, .int (nI L)), (6, .int (nI (rf r))), (5, .int (nI r)), (4, .int (nI now)), (3, .int (nI (many + i))), (2, .int (nI n0)), (1, .int (nI w)), (0, .ref (G.2.1 37))]) X dX9_trim_180 (by decide) rfl ?_
                            refine x_aload_n X dX9_trim_182 rfl ?_
                            refine gf_X9_83 (k' := 59) X dX9_trim_183 rfl rfl ?_
                            refine x_iload_n X dX9_trim_186 rfl ?_
                            refine x_iload X dX9_trim_187 rfl ?_
                            refine x_ifeq (tgt := 202) X dX9_trim_189 (by decide) (fun h189 => ?_) (fun h189 => ?_)
                            · skip
                              rw [xb_eq (x := nI 0) (y := 0) (a := 0) (b := 0) rfl rfl (by omega) (by omega)] at h189
                              have hkq9 : (fun b => if b = many + i then v else kq b) = aKp (xgI σ 50) (fun b => if b = r then nI now else ren b) (rf r) q many kep (i + 1) := by
                                rw [hkq, hv, aKp, if_neg hR]
                              refine x_iload X dX9_trim_202 rfl ?_
                              refine x_iastN X dX9_trim_204 rfl (by omega) (by omega) ?_
                              rw [qT3_59]
                              refine x_iinc (k := 8) (v := nI ((many + i) + 1)) (lv' := [(3, .int (nI ((many + i) + 1))), (11, .int (nI 0)), (10, .int (nI q)), (9, .int v), (8, .int (nI i)), (7, .int (nI L)), (6, .int (nI (rf r))), (5, .int (nI r)), (4, .int (nI now)), (2, .int (nI n0)), (1, .int (nI w)), (0, .ref (G.2.1 37))]) X dX9_trim_205 rfl (xn_inc _) (by decide) rfl ?_
                              refine x_iinc (k := 4) (v := nI (i + 1)) (lv' := [(8, .int (nI (i + 1))), (3, .int (nI ((many + i) + 1))), (11, .int (nI 0)), (10, .int (nI q)), (9, .int v), (7, .int (nI L)), (6, .int (nI (rf r))), (5, .int (nI r)), (4, .int (nI now)), (2, .int (nI n0)), (1, .int (nI w)), (0, .ref (G.2.1 37))]) X dX9_trim_208 rfl (xn_inc _) (by decide) rfl ?_
                              refine x_goto (tgt := 97) X dX9_trim_211 (by decide) ?_
                              refine x_pick [0, 5, 6, 7, 8, 1, 9, 10, 11] rfl ?_
                              exact ih97 _ (by omega) (i + 1) (by omega) _ hkq9 rfl
                            · skip
                              exact absurd (by decide) h189
                          · skip
                            rw [xb_ne (x := nI q) (y := nI 7) (a := q) (b := 7) rfl rfl (by omega) (by omega)] at h167
                            refine x_iload X dX9_trim_170 rfl ?_
                            refine x_ifle (tgt := 179) X dX9_trim_172 (by decide) (fun h172 => ?_) (fun h172 => ?_)
                            · skip
                              rw [xb_le (x := nI i) (y := 0) (a := i) (b := 0) rfl rfl (by omega) (by omega)] at h172
                              have hR : ¬ aIsRow q i := by unfold aIsRow; omega
                              refine x_iconst (v := nI 0) X dX9_trim_179 (by decide) ?_
                              refine x_istore (lv' := [(11, .int (nI 0)), (10, .int (nI q)), (9, .int v), (8, .int (nI i)), (7, .int (nI L)), (6, .int (nI (rf r))), (5, .int (nI r)), (4, .int (nI now)), (3, .int (nI (many + i))), (2, .int (nI n0)), (1, .int (nI w)), (0, .ref (G.2.1 37))]) X dX9_trim_180 (by decide) rfl ?_
                              refine x_aload_n X dX9_trim_182 rfl ?_
                              refine gf_X9_83 (k' := 59) X dX9_trim_183 rfl rfl ?_
                              refine x_iload_n X dX9_trim_186 rfl ?_
                              refine x_iload X dX9_trim_187 rfl ?_
                              refine x_ifeq (tgt := 202) X dX9_trim_189 (by decide) (fun h189 => ?_) (fun h189 => ?_)
                              · skip
                                rw [xb_eq (x := nI 0) (y := 0) (a := 0) (b := 0) rfl rfl (by omega) (by omega)] at h189
                                have hkq9 : (fun b => if b = many + i then v else kq b) = aKp (xgI σ 50) (fun b => if b = r then nI now else ren b) (rf r) q many kep (i + 1) := by
                                  rw [hkq, hv, aKp, if_neg hR]
                                refine x_iload X dX9_trim_202 rfl ?_
                                refine x_iastN X dX9_trim_204 rfl (by omega) (by omega) ?_
                                rw [qT3_59]
                                refine x_iinc (k := 8) (v := nI ((many + i) + 1)) (lv' := [(3, .int (nI ((many + i) + 1))), (11, .int (nI 0)), (10, .int (nI q)), (9, .int v), (8, .int (nI i)), (7, .int (nI L)), (6, .int (nI (rf r))), (5, .int (nI r)), (4, .int (nI now)), (2, .int (nI n0)), (1, .int (nI w)), (0, .ref (G.2.1 37))]) X dX9_trim_205 rfl (xn_inc _) (by decide) rfl ?_
                                refine x_iinc (k := 4) (v := nI (i + 1)) (lv' := [(8, .int (nI (i + 1))), (3, .int (nI ((many + i) + 1))), (11, .int (nI 0)), (10, .int (nI q)), (9, .int v), (7, .int (nI L)), (6, .int (nI (rf r))), (5, .int (nI r)), (4, .int (nI now)), (2, .int (nI n0)), (1, .int (nI w)), (0, .ref (G.2.1 37))]) X dX9_trim_208 rfl (xn_inc _) (by decide) rfl ?_
                                refine x_goto (tgt := 97) X dX9_trim_211 (by decide) ?_
                                refine x_pick [0, 5, 6, 7, 8, 1, 9, 10, 11] rfl ?_
                                exact ih97 _ (by omega) (i + 1) (by omega) _ hkq9 rfl
                              · skip
                                exact absurd (by decide) h189
                            · skip
                              rw [xb_le (x := nI i) (y := 0) (a := i) (b := 0) rfl rfl (by omega) (by omega)] at h172
                              refine x_iconst (v := nI 1) X dX9_trim_175 (by decide) ?_
                              have hR : aIsRow q i := by unfold aIsRow; omega
                              refine x_goto (tgt := 180) X dX9_trim_176 (by decide) ?_
                              refine x_istore (lv' := [(11, .int (nI 1)), (10, .int (nI q)), (9, .int v), (8, .int (nI i)), (7, .int (nI L)), (6, .int (nI (rf r))), (5, .int (nI r)), (4, .int (nI now)), (3, .int (nI (many + i))), (2, .int (nI n0)), (1, .int (nI w)), (0, .ref (G.2.1 37))]) X dX9_trim_180 (by decide) rfl ?_
                              refine x_aload_n X dX9_trim_182 rfl ?_
                              refine gf_X9_83 (k' := 59) X dX9_trim_183 rfl rfl ?_
                              refine x_iload_n X dX9_trim_186 rfl ?_
                              refine x_iload X dX9_trim_187 rfl ?_
                              refine x_ifeq (tgt := 202) X dX9_trim_189 (by decide) (fun h189 => ?_) (fun h189 => ?_)
                              · skip
                                exact absurd h189 (by decide)
                              · skip
                                rw [xb_eq (x := nI 1) (y := 0) (a := 1) (b := 0) rfl rfl (by omega) (by omega)] at h189
                                obtain ⟨s, s1, s2⟩ := qRow_s hN (by omega) q3 q9 (hL2 ▸ (show i < L by omega)) hR
                                rw [s2] at hv
                                subst hv
                                have hkq9 : (fun b => if b = many + i then (fun b => if b = r then nI now else ren b) s else kq b) = aKp (xgI σ 50) (fun b => if b = r then nI now else ren b) (rf r) q many kep (i + 1) := by
                                  rw [hkq, aKp, if_pos hR, s2, nI_clamp (by omega)]
                                refine x_aload_n X dX9_trim_192 rfl ?_
                                refine gf_X9_80 (k' := 58) X dX9_trim_193 rfl rfl ?_
                                refine x_iload X dX9_trim_196 rfl ?_
                                refine x_ialdN X dX9_trim_198 rfl (by omega) (by omega) ?_
                                rw [qT3_r]
                                refine x_goto (tgt := 204) X dX9_trim_199 (by decide) ?_
                                refine x_iastN X dX9_trim_204 rfl (by omega) (by omega) ?_
                                rw [qT3_59]
                                refine x_iinc (k := 8) (v := nI ((many + i) + 1)) (lv' := [(3, .int (nI ((many + i) + 1))), (11, .int (nI 1)), (10, .int (nI q)), (9, .int (nI s)), (8, .int (nI i)), (7, .int (nI L)), (6, .int (nI (rf r))), (5, .int (nI r)), (4, .int (nI now)), (2, .int (nI n0)), (1, .int (nI w)), (0, .ref (G.2.1 37))]) X dX9_trim_205 rfl (xn_inc _) (by decide) rfl ?_
                                refine x_iinc (k := 4) (v := nI (i + 1)) (lv' := [(8, .int (nI (i + 1))), (3, .int (nI ((many + i) + 1))), (11, .int (nI 1)), (10, .int (nI q)), (9, .int (nI s)), (7, .int (nI L)), (6, .int (nI (rf r))), (5, .int (nI r)), (4, .int (nI now)), (2, .int (nI n0)), (1, .int (nI w)), (0, .ref (G.2.1 37))]) X dX9_trim_208 rfl (xn_inc _) (by decide) rfl ?_
                                refine x_goto (tgt := 97) X dX9_trim_211 (by decide) ?_
                                refine x_pick [0, 5, 6, 7, 8, 1, 9, 10, 11] rfl ?_
                                exact ih97 _ (by omega) (i + 1) (by omega) _ hkq9 rfl
                        · skip
                          rw [xb_ne (x := nI q) (y := nI 9) (a := q) (b := 9) rfl rfl (by omega) (by omega)] at h154
                          refine x_iload X dX9_trim_157 rfl ?_
                          refine x_iconst (v := nI 1) X dX9_trim_159 (by decide) ?_
                          refine x_icmpeq (tgt := 175) X dX9_trim_160 (by decide) (fun h160 => ?_) (fun h160 => ?_)
                          · skip
                            rw [xb_eq (x := nI i) (y := nI 1) (a := i) (b := 1) rfl rfl (by omega) (by omega)] at h160
                            refine x_iconst (v := nI 1) X dX9_trim_175 (by decide) ?_
                            have hR : aIsRow q i := by unfold aIsRow; omega
                            refine x_goto (tgt := 180) X dX9_trim_176 (by decide) ?_
                            refine x_istore (lv' := [(11, .int (nI 1)), (10, .int (nI q)), (9, .int v), (8, .int (nI i)), (7, .int (nI L)), (6, .int (nI (rf r))), (5, .int (nI r)), (4, .int (nI now)), (3, .int (nI (many + i))), (2, .int (nI n0)), (1, .int (nI w)), (0, .ref (G.2.1 37))]) X dX9_trim_180 (by decide) rfl ?_
                            refine x_aload_n X dX9_trim_182 rfl ?_
                            refine gf_X9_83 (k' := 59) X dX9_trim_183 rfl rfl ?_
                            refine x_iload_n X dX9_trim_186 rfl ?_
                            refine x_iload X dX9_trim_187 rfl ?_
                            refine x_ifeq (tgt := 202) X dX9_trim_189 (by decide) (fun h189 => ?_) (fun h189 => ?_)
                            · skip
                              exact absurd h189 (by decide)
                            · skip
                              rw [xb_eq (x := nI 1) (y := 0) (a := 1) (b := 0) rfl rfl (by omega) (by omega)] at h189
                              obtain ⟨s, s1, s2⟩ := qRow_s hN (by omega) q3 q9 (hL2 ▸ (show i < L by omega)) hR
                              rw [s2] at hv
                              subst hv
                              have hkq9 : (fun b => if b = many + i then (fun b => if b = r then nI now else ren b) s else kq b) = aKp (xgI σ 50) (fun b => if b = r then nI now else ren b) (rf r) q many kep (i + 1) := by
                                rw [hkq, aKp, if_pos hR, s2, nI_clamp (by omega)]
                              refine x_aload_n X dX9_trim_192 rfl ?_
                              refine gf_X9_80 (k' := 58) X dX9_trim_193 rfl rfl ?_
                              refine x_iload X dX9_trim_196 rfl ?_
                              refine x_ialdN X dX9_trim_198 rfl (by omega) (by omega) ?_
                              rw [qT3_r]
                              refine x_goto (tgt := 204) X dX9_trim_199 (by decide) ?_
                              refine x_iastN X dX9_trim_204 rfl (by omega) (by omega) ?_
                              rw [qT3_59]
                              refine x_iinc (k := 8) (v := nI ((many + i) + 1)) (lv' := [(3, .int (nI ((many + i) + 1))), (11, .int (nI 1)), (10, .int (nI q)), (9, .int (nI s)), (8, .int (nI i)), (7, .int (nI L)), (6, .int (nI (rf r))), (5, .int (nI r)), (4, .int (nI now)), (2, .int (nI n0)), (1, .int (nI w)), (0, .ref (G.2.1 37))]) X dX9_trim_205 rfl (xn_inc _) (by decide) rfl ?_
                              refine x_iinc (k := 4) (v := nI (i + 1)) (lv' := [(8, .int (nI (i + 1))), (3, .int (nI ((many + i) + 1))), (11, .int (nI 1)), (10, .int (nI q)), (9, .int (nI s)), (7, .int (nI L)), (6, .int (nI (rf r))), (5, .int (nI r)), (4, .int (nI now)), (2, .int (nI n0)), (1, .int (nI w)), (0, .ref (G.2.1 37))]) X dX9_trim_208 rfl (xn_inc _) (by decide) rfl ?_
                              refine x_goto (tgt := 97) X dX9_trim_211 (by decide) ?_
                              refine x_pick [0, 5, 6, 7, 8, 1, 9, 10, 11] rfl ?_
                              exact ih97 _ (by omega) (i + 1) (by omega) _ hkq9 rfl
                          · skip
                            rw [xb_eq (x := nI i) (y := nI 1) (a := i) (b := 1) rfl rfl (by omega) (by omega)] at h160
                            refine x_iload X dX9_trim_163 rfl ?_
                            refine x_bipush (v := nI 7) X dX9_trim_165 (by decide) ?_
                            refine x_icmpne (tgt := 179) X dX9_trim_167 (by decide) (fun h167 => ?_) (fun h167 => ?_)
                            · skip
                              rw [xb_ne (x := nI q) (y := nI 7) (a := q) (b := 7) rfl rfl (by omega) (by omega)] at h167
                              have hR : ¬ aIsRow q i := by unfold aIsRow; omega
                              refine x_iconst (v := nI 0) X dX9_trim_179 (by decide) ?_
                              refine x_istore (lv' := [(11, .int (nI 0)), (10, .int (nI q)), (9, .int v), (8, .int (nI i)), (7, .int (nI L)), (6, .int (nI (rf r))), (5, .int (nI r)), (4, .int (nI now)), (3, .int (nI (many + i))), (2, .int (nI n0)), (1, .int (nI w)), (0, .ref (G.2.1 37))]) X dX9_trim_180 (by decide) rfl ?_
                              refine x_aload_n X dX9_trim_182 rfl ?_
                              refine gf_X9_83 (k' := 59) X dX9_trim_183 rfl rfl ?_
                              refine x_iload_n X dX9_trim_186 rfl ?_
                              refine x_iload X dX9_trim_187 rfl ?_
                              refine x_ifeq (tgt := 202) X dX9_trim_189 (by decide) (fun h189 => ?_) (fun h189 => ?_)
                              · skip
                                rw [xb_eq (x := nI 0) (y := 0) (a := 0) (b := 0) rfl rfl (by omega) (by omega)] at h189
                                have hkq9 : (fun b => if b = many + i then v else kq b) = aKp (xgI σ 50) (fun b => if b = r then nI now else ren b) (rf r) q many kep (i + 1) := by
                                  rw [hkq, hv, aKp, if_neg hR]
                                refine x_iload X dX9_trim_202 rfl ?_
                                refine x_iastN X dX9_trim_204 rfl (by omega) (by omega) ?_
                                rw [qT3_59]
                                refine x_iinc (k := 8) (v := nI ((many + i) + 1)) (lv' := [(3, .int (nI ((many + i) + 1))), (11, .int (nI 0)), (10, .int (nI q)), (9, .int v), (8, .int (nI i)), (7, .int (nI L)), (6, .int (nI (rf r))), (5, .int (nI r)), (4, .int (nI now)), (2, .int (nI n0)), (1, .int (nI w)), (0, .ref (G.2.1 37))]) X dX9_trim_205 rfl (xn_inc _) (by decide) rfl ?_
                                refine x_iinc (k := 4) (v := nI (i + 1)) (lv' := [(8, .int (nI (i + 1))), (3, .int (nI ((many + i) + 1))), (11, .int (nI 0)), (10, .int (nI q)), (9, .int v), (7, .int (nI L)), (6, .int (nI (rf r))), (5, .int (nI r)), (4, .int (nI now)), (2, .int (nI n0)), (1, .int (nI w)), (0, .ref (G.2.1 37))]) X dX9_trim_208 rfl (xn_inc _) (by decide) rfl ?_
                                refine x_goto (tgt := 97) X dX9_trim_211 (by decide) ?_
                                refine x_pick [0, 5, 6, 7, 8, 1, 9, 10, 11] rfl ?_
                                exact ih97 _ (by omega) (i + 1) (by omega) _ hkq9 rfl
                              · skip
                                exact absurd (by decide) h189
                            · skip
                              rw [xb_ne (x := nI q) (y := nI 7) (a := q) (b := 7) rfl rfl (by omega) (by omega)] at h167
                              refine x_iload X dX9_trim_170 rfl ?_
                              refine x_ifle (tgt := 179) X dX9_trim_172 (by decide) (fun h172 => ?_) (fun h172 => ?_)
                              · skip
                                rw [xb_le (x := nI i) (y := 0) (a := i) (b := 0) rfl rfl (by omega) (by omega)] at h172
                                have hR : ¬ aIsRow q i := by unfold aIsRow; omega
                                refine x_iconst (v := nI 0) X dX9_trim_179 (by decide) ?_
                                refine x_istore (lv' := [(11, .int (nI 0)), (10, .int (nI q)), (9, .int v), (8, .int (nI i)), (7, .int (nI L)), (6, .int (nI (rf r))), (5, .int (nI r)), (4, .int (nI now)), (3, .int (nI (many + i))), (2, .int (nI n0)), (1, .int (nI w)), (0, .ref (G.2.1 37))]) X dX9_trim_180 (by decide) rfl ?_
                                refine x_aload_n X dX9_trim_182 rfl ?_
                                refine gf_X9_83 (k' := 59) X dX9_trim_183 rfl rfl ?_
                                refine x_iload_n X dX9_trim_186 rfl ?_
                                refine x_iload X dX9_trim_187 rfl ?_
                                refine x_ifeq (tgt := 202) X dX9_trim_189 (by decide) (fun h189 => ?_) (fun h189 => ?_)
                                · skip
                                  rw [xb_eq (x := nI 0) (y := 0) (a := 0) (b := 0) rfl rfl (by omega) (by omega)] at h189
                                  have hkq9 : (fun b => if b = many + i then v else kq b) = aKp (xgI σ 50) (fun b => if b = r then nI now else ren b) (rf r) q many kep (i + 1) := by
                                    rw [hkq, hv, aKp, if_neg hR]
                                  refine x_iload X dX9_trim_202 rfl ?_
                                  refine x_iastN X dX9_trim_204 rfl (by omega) (by omega) ?_
                                  rw [qT3_59]
                                  refine x_iinc (k := 8) (v := nI ((many + i) + 1)) (lv' := [(3, .int (nI ((many + i) + 1))), (11, .int (nI 0)), (10, .int (nI q)), (9, .int v), (8, .int (nI i)), (7, .int (nI L)), (6, .int (nI (rf r))), (5, .int (nI r)), (4, .int (nI now)), (2, .int (nI n0)), (1, .int (nI w)), (0, .ref (G.2.1 37))]) X dX9_trim_205 rfl (xn_inc _) (by decide) rfl ?_
                                  refine x_iinc (k := 4) (v := nI (i + 1)) (lv' := [(8, .int (nI (i + 1))), (3, .int (nI ((many + i) + 1))), (11, .int (nI 0)), (10, .int (nI q)), (9, .int v), (7, .int (nI L)), (6, .int (nI (rf r))), (5, .int (nI r)), (4, .int (nI now)), (2, .int (nI n0)), (1, .int (nI w)), (0, .ref (G.2.1 37))]) X dX9_trim_208 rfl (xn_inc _) (by decide) rfl ?_
                                  refine x_goto (tgt := 97) X dX9_trim_211 (by decide) ?_
                                  refine x_pick [0, 5, 6, 7, 8, 1, 9, 10, 11] rfl ?_
                                  exact ih97 _ (by omega) (i + 1) (by omega) _ hkq9 rfl
                                · skip
                                  exact absurd (by decide) h189
                              · skip
                                rw [xb_le (x := nI i) (y := 0) (a := i) (b := 0) rfl rfl (by omega) (by omega)] at h172
                                refine x_iconst (v := nI 1) X dX9_trim_175 (by decide) ?_
                                have hR : aIsRow q i := by unfold aIsRow; omega
                                refine x_goto (tgt := 180) X dX9_trim_176 (by decide) ?_
                                refine x_istore (lv' := [(11, .int (nI 1)), (10, .int (nI q)), (9, .int v), (8, .int (nI i)), (7, .int (nI L)), (6, .int (nI (rf r))), (5, .int (nI r)), (4, .int (nI now)), (3, .int (nI (many + i))), (2, .int (nI n0)), (1, .int (nI w)), (0, .ref (G.2.1 37))]) X dX9_trim_180 (by decide) rfl ?_
                                refine x_aload_n X dX9_trim_182 rfl ?_
                                refine gf_X9_83 (k' := 59) X dX9_trim_183 rfl rfl ?_
                                refine x_iload_n X dX9_trim_186 rfl ?_
                                refine x_iload X dX9_trim_187 rfl ?_
                                refine x_ifeq (tgt := 202) X dX9_trim_189 (by decide) (fun h189 => ?_) (fun h189 => ?_)
                                · skip
                                  exact absurd h189 (by decide)
                                · skip
                                  rw [xb_eq (x := nI 1) (y := 0) (a := 1) (b := 0) rfl rfl (by omega) (by omega)] at h189
                                  obtain ⟨s, s1, s2⟩ := qRow_s hN (by omega) q3 q9 (hL2 ▸ (show i < L by omega)) hR
                                  rw [s2] at hv
                                  subst hv
                                  have hkq9 : (fun b => if b = many + i then (fun b => if b = r then nI now else ren b) s else kq b) = aKp (xgI σ 50) (fun b => if b = r then nI now else ren b) (rf r) q many kep (i + 1) := by
                                    rw [hkq, aKp, if_pos hR, s2, nI_clamp (by omega)]
                                  refine x_aload_n X dX9_trim_192 rfl ?_
                                  refine gf_X9_80 (k' := 58) X dX9_trim_193 rfl rfl ?_
                                  refine x_iload X dX9_trim_196 rfl ?_
                                  refine x_ialdN X dX9_trim_198 rfl (by omega) (by omega) ?_
                                  rw [qT3_r]
                                  refine x_goto (tgt := 204) X dX9_trim_199 (by decide) ?_
                                  refine x_iastN X dX9_trim_204 rfl (by omega) (by omega) ?_
                                  rw [qT3_59]
                                  refine x_iinc (k := 8) (v := nI ((many + i) + 1)) (lv' := [(3, .int (nI ((many + i) + 1))), (11, .int (nI 1)), (10, .int (nI q)), (9, .int (nI s)), (8, .int (nI i)), (7, .int (nI L)), (6, .int (nI (rf r))), (5, .int (nI r)), (4, .int (nI now)), (2, .int (nI n0)), (1, .int (nI w)), (0, .ref (G.2.1 37))]) X dX9_trim_205 rfl (xn_inc _) (by decide) rfl ?_
                                  refine x_iinc (k := 4) (v := nI (i + 1)) (lv' := [(8, .int (nI (i + 1))), (3, .int (nI ((many + i) + 1))), (11, .int (nI 1)), (10, .int (nI q)), (9, .int (nI s)), (7, .int (nI L)), (6, .int (nI (rf r))), (5, .int (nI r)), (4, .int (nI now)), (2, .int (nI n0)), (1, .int (nI w)), (0, .ref (G.2.1 37))]) X dX9_trim_208 rfl (xn_inc _) (by decide) rfl ?_
                                  refine x_goto (tgt := 97) X dX9_trim_211 (by decide) ?_
                                  refine x_pick [0, 5, 6, 7, 8, 1, 9, 10, 11] rfl ?_
                                  exact ih97 _ (by omega) (i + 1) (by omega) _ hkq9 rfl
                    · skip
                      rw [xb_ne (x := nI q) (y := nI 4) (a := q) (b := 4) rfl rfl (by omega) (by omega)] at h128
                      refine x_iload X dX9_trim_131 rfl ?_
                      refine x_iconst (v := nI 2) X dX9_trim_133 (by decide) ?_
                      refine x_icmplt (tgt := 144) X dX9_trim_134 (by decide) (fun h134 => ?_) (fun h134 => ?_)
                      · skip
                        rw [xb_lt (x := nI i) (y := nI 2) (a := i) (b := 2) rfl rfl (by omega) (by omega)] at h134
                        refine x_iload X dX9_trim_144 rfl ?_
                        refine x_iconst (v := nI 5) X dX9_trim_146 (by decide) ?_
                        refine x_icmpeq (tgt := 157) X dX9_trim_147 (by decide) (fun h147 => ?_) (fun h147 => ?_)
                        · skip
                          rw [xb_eq (x := nI q) (y := nI 5) (a := q) (b := 5) rfl rfl (by omega) (by omega)] at h147
                          refine x_iload X dX9_trim_157 rfl ?_
                          refine x_iconst (v := nI 1) X dX9_trim_159 (by decide) ?_
                          refine x_icmpeq (tgt := 175) X dX9_trim_160 (by decide) (fun h160 => ?_) (fun h160 => ?_)
                          · skip
                            rw [xb_eq (x := nI i) (y := nI 1) (a := i) (b := 1) rfl rfl (by omega) (by omega)] at h160
                            refine x_iconst (v := nI 1) X dX9_trim_175 (by decide) ?_
                            have hR : aIsRow q i := by unfold aIsRow; omega
                            refine x_goto (tgt := 180) X dX9_trim_176 (by decide) ?_
                            refine x_istore (lv' := [(11, .int (nI 1)), (10, .int (nI q)), (9, .int v), (8, .int (nI i)), (7, .int (nI L)), (6, .int (nI (rf r))), (5, .int (nI r)), (4, .int (nI now)), (3, .int (nI (many + i))), (2, .int (nI n0)), (1, .int (nI w)), (0, .ref (G.2.1 37))]) X dX9_trim_180 (by decide) rfl ?_
                            refine x_aload_n X dX9_trim_182 rfl ?_
                            refine gf_X9_83 (k' := 59) X dX9_trim_183 rfl rfl ?_
                            refine x_iload_n X dX9_trim_186 rfl ?_
                            refine x_iload X dX9_trim_187 rfl ?_
                            refine x_ifeq (tgt := 202) X dX9_trim_189 (by decide) (fun h189 => ?_) (fun h189 => ?_)
                            · skip
                              exact absurd h189 (by decide)
                            · skip
                              rw [xb_eq (x := nI 1) (y := 0) (a := 1) (b := 0) rfl rfl (by omega) (by omega)] at h189
                              obtain ⟨s, s1, s2⟩ := qRow_s hN (by omega) q3 q9 (hL2 ▸ (show i < L by omega)) hR
                              rw [s2] at hv
                              subst hv
                              have hkq9 : (fun b => if b = many + i then (fun b => if b = r then nI now else ren b) s else kq b) = aKp (xgI σ 50) (fun b => if b = r then nI now else ren b) (rf r) q many kep (i + 1) := by
                                rw [hkq, aKp, if_pos hR, s2, nI_clamp (by omega)]
                              refine x_aload_n X dX9_trim_192 rfl ?_
                              refine gf_X9_80 (k' := 58) X dX9_trim_193 rfl rfl ?_
                              refine x_iload X dX9_trim_196 rfl ?_
                              refine x_ialdN X dX9_trim_198 rfl (by omega) (by omega) ?_
                              rw [qT3_r]
                              refine x_goto (tgt := 204) X dX9_trim_199 (by decide) ?_
                              refine x_iastN X dX9_trim_204 rfl (by omega) (by omega) ?_
                              rw [qT3_59]
                              refine x_iinc (k := 8) (v := nI ((many + i) + 1)) (lv' := [(3, .int (nI ((many + i) + 1))), (11, .int (nI 1)), (10, .int (nI q)), (9, .int (nI s)), (8, .int (nI i)), (7, .int (nI L)), (6, .int (nI (rf r))), (5, .int (nI r)), (4, .int (nI now)), (2, .int (nI n0)), (1, .int (nI w)), (0, .ref (G.2.1 37))]) X dX9_trim_205 rfl (xn_inc _) (by decide) rfl ?_
                              refine x_iinc (k := 4) (v := nI (i + 1)) (lv' := [(8, .int (nI (i + 1))), (3, .int (nI ((many + i) + 1))), (11, .int (nI 1)), (10, .int (nI q)), (9, .int (nI s)), (7, .int (nI L)), (6, .int (nI (rf r))), (5, .int (nI r)), (4, .int (nI now)), (2, .int (nI n0)), (1, .int (nI w)), (0, .ref (G.2.1 37))]) X dX9_trim_208 rfl (xn_inc _) (by decide) rfl ?_
                              refine x_goto (tgt := 97) X dX9_trim_211 (by decide) ?_
                              refine x_pick [0, 5, 6, 7, 8, 1, 9, 10, 11] rfl ?_
                              exact ih97 _ (by omega) (i + 1) (by omega) _ hkq9 rfl
                          · skip
                            rw [xb_eq (x := nI i) (y := nI 1) (a := i) (b := 1) rfl rfl (by omega) (by omega)] at h160
                            refine x_iload X dX9_trim_163 rfl ?_
                            refine x_bipush (v := nI 7) X dX9_trim_165 (by decide) ?_
                            refine x_icmpne (tgt := 179) X dX9_trim_167 (by decide) (fun h167 => ?_) (fun h167 => ?_)
                            · skip
                              rw [xb_ne (x := nI q) (y := nI 7) (a := q) (b := 7) rfl rfl (by omega) (by omega)] at h167
                              have hR : ¬ aIsRow q i := by unfold aIsRow; omega
                              refine x_iconst (v := nI 0) X dX9_trim_179 (by decide) ?_
                              refine x_istore (lv' := [(11, .int (nI 0)), (10, .int (nI q)), (9, .int v), (8, .int (nI i)), (7, .int (nI L)), (6, .int (nI (rf r))), (5, .int (nI r)), (4, .int (nI now)), (3, .int (nI (many + i))), (2, .int (nI n0)), (1, .int (nI w)), (0, .ref (G.2.1 37))]) X dX9_trim_180 (by decide) rfl ?_
                              refine x_aload_n X dX9_trim_182 rfl ?_
                              refine gf_X9_83 (k' := 59) X dX9_trim_183 rfl rfl ?_
                              refine x_iload_n X dX9_trim_186 rfl ?_
                              refine x_iload X dX9_trim_187 rfl ?_
                              refine x_ifeq (tgt := 202) X dX9_trim_189 (by decide) (fun h189 => ?_) (fun h189 => ?_)
                              · skip
                                rw [xb_eq (x := nI 0) (y := 0) (a := 0) (b := 0) rfl rfl (by omega) (by omega)] at h189
                                have hkq9 : (fun b => if b = many + i then v else kq b) = aKp (xgI σ 50) (fun b => if b = r then nI now else ren b) (rf r) q many kep (i + 1) := by
                                  rw [hkq, hv, aKp, if_neg hR]
                                refine x_iload X dX9_trim_202 rfl ?_
                                refine x_iastN X dX9_trim_204 rfl (by omega) (by omega) ?_
                                rw [qT3_59]
                                refine x_iinc (k := 8) (v := nI ((many + i) + 1)) (lv' := [(3, .int (nI ((many + i) + 1))), (11, .int (nI 0)), (10, .int (nI q)), (9, .int v), (8, .int (nI i)), (7, .int (nI L)), (6, .int (nI (rf r))), (5, .int (nI r)), (4, .int (nI now)), (2, .int (nI n0)), (1, .int (nI w)), (0, .ref (G.2.1 37))]) X dX9_trim_205 rfl (xn_inc _) (by decide) rfl ?_
                                refine x_iinc (k := 4) (v := nI (i + 1)) (lv' := [(8, .int (nI (i + 1))), (3, .int (nI ((many + i) + 1))), (11, .int (nI 0)), (10, .int (nI q)), (9, .int v), (7, .int (nI L)), (6, .int (nI (rf r))), (5, .int (nI r)), (4, .int (nI now)), (2, .int (nI n0)), (1, .int (nI w)), (0, .ref (G.2.1 37))]) X dX9_trim_208 rfl (xn_inc _) (by decide) rfl ?_
                                refine x_goto (tgt := 97) X dX9_trim_211 (by decide) ?_
                                refine x_pick [0, 5, 6, 7, 8, 1, 9, 10, 11] rfl ?_
                                exact ih97 _ (by omega) (i + 1) (by omega) _ hkq9 rfl
                              · skip
                                exact absurd (by decide) h189
                            · skip
                              rw [xb_ne (x := nI q) (y := nI 7) (a := q) (b := 7) rfl rfl (by omega) (by omega)] at h167
                              refine x_iload X dX9_trim_170 rfl ?_
                              refine x_ifle (tgt := 179) X dX9_trim_172 (by decide) (fun h172 => ?_) (fun h172 => ?_)
                              · skip
                                rw [xb_le (x := nI i) (y := 0) (a := i) (b := 0) rfl rfl (by omega) (by omega)] at h172
                                have hR : ¬ aIsRow q i := by unfold aIsRow; omega
                                refine x_iconst (v := nI 0) X dX9_trim_179 (by decide) ?_
                                refine x_istore (lv' := [(11, .int (nI 0)), (10, .int (nI q)), (9, .int v), (8, .int (nI i)), (7, .int (nI L)), (6, .int (nI (rf r))), (5, .int (nI r)), (4, .int (nI now)), (3, .int (nI (many + i))), (2, .int (nI n0)), (1, .int (nI w)), (0, .ref (G.2.1 37))]) X dX9_trim_180 (by decide) rfl ?_
                                refine x_aload_n X dX9_trim_182 rfl ?_
                                refine gf_X9_83 (k' := 59) X dX9_trim_183 rfl rfl ?_
                                refine x_iload_n X dX9_trim_186 rfl ?_
                                refine x_iload X dX9_trim_187 rfl ?_
                                refine x_ifeq (tgt := 202) X dX9_trim_189 (by decide) (fun h189 => ?_) (fun h189 => ?_)
                                · skip
                                  rw [xb_eq (x := nI 0) (y := 0) (a := 0) (b := 0) rfl rfl (by omega) (by omega)] at h189
                                  have hkq9 : (fun b => if b = many + i then v else kq b) = aKp (xgI σ 50) (fun b => if b = r then nI now else ren b) (rf r) q many kep (i + 1) := by
                                    rw [hkq, hv, aKp, if_neg hR]
                                  refine x_iload X dX9_trim_202 rfl ?_
                                  refine x_iastN X dX9_trim_204 rfl (by omega) (by omega) ?_
                                  rw [qT3_59]
                                  refine x_iinc (k := 8) (v := nI ((many + i) + 1)) (lv' := [(3, .int (nI ((many + i) + 1))), (11, .int (nI 0)), (10, .int (nI q)), (9, .int v), (8, .int (nI i)), (7, .int (nI L)), (6, .int (nI (rf r))), (5, .int (nI r)), (4, .int (nI now)), (2, .int (nI n0)), (1, .int (nI w)), (0, .ref (G.2.1 37))]) X dX9_trim_205 rfl (xn_inc _) (by decide) rfl ?_
                                  refine x_iinc (k := 4) (v := nI (i + 1)) (lv' := [(8, .int (nI (i + 1))), (3, .int (nI ((many + i) + 1))), (11, .int (nI 0)), (10, .int (nI q)), (9, .int v), (7, .int (nI L)), (6, .int (nI (rf r))), (5, .int (nI r)), (4, .int (nI now)), (2, .int (nI n0)), (1, .int (nI w)), (0, .ref (G.2.1 37))]) X dX9_trim_208 rfl (xn_inc _) (by decide) rfl ?_
                                  refine x_goto (tgt := 97) X dX9_trim_211 (by decide) ?_
                                  refine x_pick [0, 5, 6, 7, 8, 1, 9, 10, 11] rfl ?_
                                  exact ih97 _ (by omega) (i + 1) (by omega) _ hkq9 rfl
                                · skip
                                  exact absurd (by decide) h189
                              · skip
                                rw [xb_le (x := nI i) (y := 0) (a := i) (b := 0) rfl rfl (by omega) (by omega)] at h172
                                refine x_iconst (v := nI 1) X dX9_trim_175 (by decide) ?_
                                have hR : aIsRow q i := by unfold aIsRow; omega
                                refine x_goto (tgt := 180) X dX9_trim_176 (by decide) ?_
                                refine x_istore (lv' := [(11, .int (nI 1)), (10, .int (nI q)), (9, .int v), (8, .int (nI i)), (7, .int (nI L)), (6, .int (nI (rf r))), (5, .int (nI r)), (4, .int (nI now)), (3, .int (nI (many + i))), (2, .int (nI n0)), (1, .int (nI w)), (0, .ref (G.2.1 37))]) X dX9_trim_180 (by decide) rfl ?_
                                refine x_aload_n X dX9_trim_182 rfl ?_
                                refine gf_X9_83 (k' := 59) X dX9_trim_183 rfl rfl ?_
                                refine x_iload_n X dX9_trim_186 rfl ?_
                                refine x_iload X dX9_trim_187 rfl ?_
                                refine x_ifeq (tgt := 202) X dX9_trim_189 (by decide) (fun h189 => ?_) (fun h189 => ?_)
                                · skip
                                  exact absurd h189 (by decide)
                                · skip
                                  rw [xb_eq (x := nI 1) (y := 0) (a := 1) (b := 0) rfl rfl (by omega) (by omega)] at h189
                                  obtain ⟨s, s1, s2⟩ := qRow_s hN (by omega) q3 q9 (hL2 ▸ (show i < L by omega)) hR
                                  rw [s2] at hv
                                  subst hv
                                  have hkq9 : (fun b => if b = many + i then (fun b => if b = r then nI now else ren b) s else kq b) = aKp (xgI σ 50) (fun b => if b = r then nI now else ren b) (rf r) q many kep (i + 1) := by
                                    rw [hkq, aKp, if_pos hR, s2, nI_clamp (by omega)]
                                  refine x_aload_n X dX9_trim_192 rfl ?_
                                  refine gf_X9_80 (k' := 58) X dX9_trim_193 rfl rfl ?_
                                  refine x_iload X dX9_trim_196 rfl ?_
                                  refine x_ialdN X dX9_trim_198 rfl (by omega) (by omega) ?_
                                  rw [qT3_r]
                                  refine x_goto (tgt := 204) X dX9_trim_199 (by decide) ?_
                                  refine x_iastN X dX9_trim_204 rfl (by omega) (by omega) ?_
                                  rw [qT3_59]
                                  refine x_iinc (k := 8) (v := nI ((many + i) + 1)) (lv' := [(3, .int (nI ((many + i) + 1))), (11, .int (nI 1)), (10, .int (nI q)), (9, .int (nI s)), (8, .int (nI i)), (7, .int (nI L)), (6, .int (nI (rf r))), (5, .int (nI r)), (4, .int (nI now)), (2, .int (nI n0)), (1, .int (nI w)), (0, .ref (G.2.1 37))]) X dX9_trim_205 rfl (xn_inc _) (by decide) rfl ?_
                                  refine x_iinc (k := 4) (v := nI (i + 1)) (lv' := [(8, .int (nI (i + 1))), (3, .int (nI ((many + i) + 1))), (11, .int (nI 1)), (10, .int (nI q)), (9, .int (nI s)), (7, .int (nI L)), (6, .int (nI (rf r))), (5, .int (nI r)), (4, .int (nI now)), (2, .int (nI n0)), (1, .int (nI w)), (0, .ref (G.2.1 37))]) X dX9_trim_208 rfl (xn_inc _) (by decide) rfl ?_
                                  refine x_goto (tgt := 97) X dX9_trim_211 (by decide) ?_
                                  refine x_pick [0, 5, 6, 7, 8, 1, 9, 10, 11] rfl ?_
                                  exact ih97 _ (by omega) (i + 1) (by omega) _ hkq9 rfl
                        · skip
                          rw [xb_eq (x := nI q) (y := nI 5) (a := q) (b := 5) rfl rfl (by omega) (by omega)] at h147
                          refine x_iload X dX9_trim_150 rfl ?_
                          refine x_bipush (v := nI 9) X dX9_trim_152 (by decide) ?_
                          refine x_icmpne (tgt := 163) X dX9_trim_154 (by decide) (fun h154 => ?_) (fun h154 => ?_)
                          · skip
                            rw [xb_ne (x := nI q) (y := nI 9) (a := q) (b := 9) rfl rfl (by omega) (by omega)] at h154
                            refine x_iload X dX9_trim_163 rfl ?_
                            refine x_bipush (v := nI 7) X dX9_trim_165 (by decide) ?_
                            refine x_icmpne (tgt := 179) X dX9_trim_167 (by decide) (fun h167 => ?_) (fun h167 => ?_)
                            · skip
                              rw [xb_ne (x := nI q) (y := nI 7) (a := q) (b := 7) rfl rfl (by omega) (by omega)] at h167
                              have hR : ¬ aIsRow q i := by unfold aIsRow; omega
                              refine x_iconst (v := nI 0) X dX9_trim_179 (by decide) ?_
                              refine x_istore (lv' := [(11, .int (nI 0)), (10, .int (nI q)), (9, .int v), (8, .int (nI i)), (7, .int (nI L)), (6, .int (nI (rf r))), (5, .int (nI r)), (4, .int (nI now)), (3, .int (nI (many + i))), (2, .int (nI n0)), (1, .int (nI w)), (0, .ref (G.2.1 37))]) X dX9_trim_180 (by decide) rfl ?_
                              refine x_aload_n X dX9_trim_182 rfl ?_
                              refine gf_X9_83 (k' := 59) X dX9_trim_183 rfl rfl ?_
                              refine x_iload_n X dX9_trim_186 rfl ?_
                              refine x_iload X dX9_trim_187 rfl ?_
                              refine x_ifeq (tgt := 202) X dX9_trim_189 (by decide) (fun h189 => ?_) (fun h189 => ?_)
                              · skip
                                rw [xb_eq (x := nI 0) (y := 0) (a := 0) (b := 0) rfl rfl (by omega) (by omega)] at h189
                                have hkq9 : (fun b => if b = many + i then v else kq b) = aKp (xgI σ 50) (fun b => if b = r then nI now else ren b) (rf r) q many kep (i + 1) := by
                                  rw [hkq, hv, aKp, if_neg hR]
                                refine x_iload X dX9_trim_202 rfl ?_
                                refine x_iastN X dX9_trim_204 rfl (by omega) (by omega) ?_
                                rw [qT3_59]
                                refine x_iinc (k := 8) (v := nI ((many + i) + 1)) (lv' := [(3, .int (nI ((many + i) + 1))), (11, .int (nI 0)), (10, .int (nI q)), (9, .int v), (8, .int (nI i)), (7, .int (nI L)), (6, .int (nI (rf r))), (5, .int (nI r)), (4, .int (nI now)), (2, .int (nI n0)), (1, .int (nI w)), (0, .ref (G.2.1 37))]) X dX9_trim_205 rfl (xn_inc _) (by decide) rfl ?_
                                refine x_iinc (k := 4) (v := nI (i + 1)) (lv' := [(8, .int (nI (i + 1))), (3, .int (nI ((many + i) + 1))), (11, .int (nI 0)), (10, .int (nI q)), (9, .int v), (7, .int (nI L)), (6, .int (nI (rf r))), (5, .int (nI r)), (4, .int (nI now)), (2, .int (nI n0)), (1, .int (nI w)), (0, .ref (G.2.1 37))]) X dX9_trim_208 rfl (xn_inc _) (by decide) rfl ?_
                                refine x_goto (tgt := 97) X dX9_trim_211 (by decide) ?_
                                refine x_pick [0, 5, 6, 7, 8, 1, 9, 10, 11] rfl ?_
                                exact ih97 _ (by omega) (i + 1) (by omega) _ hkq9 rfl
                              · skip
                                exact absurd (by decide) h189
                            · skip
                              rw [xb_ne (x := nI q) (y := nI 7) (a := q) (b := 7) rfl rfl (by omega) (by omega)] at h167
                              refine x_iload X dX9_trim_170 rfl ?_
                              refine x_ifle (tgt := 179) X dX9_trim_172 (by decide) (fun h172 => ?_) (fun h172 => ?_)
                              · skip
                                rw [xb_le (x := nI i) (y := 0) (a := i) (b := 0) rfl rfl (by omega) (by omega)] at h172
                                have hR : ¬ aIsRow q i := by unfold aIsRow; omega
                                refine x_iconst (v := nI 0) X dX9_trim_179 (by decide) ?_
                                refine x_istore (lv' := [(11, .int (nI 0)), (10, .int (nI q)), (9, .int v), (8, .int (nI i)), (7, .int (nI L)), (6, .int (nI (rf r))), (5, .int (nI r)), (4, .int (nI now)), (3, .int (nI (many + i))), (2, .int (nI n0)), (1, .int (nI w)), (0, .ref (G.2.1 37))]) X dX9_trim_180 (by decide) rfl ?_
                                refine x_aload_n X dX9_trim_182 rfl ?_
                                refine gf_X9_83 (k' := 59) X dX9_trim_183 rfl rfl ?_
                                refine x_iload_n X dX9_trim_186 rfl ?_
                                refine x_iload X dX9_trim_187 rfl ?_
                                refine x_ifeq (tgt := 202) X dX9_trim_189 (by decide) (fun h189 => ?_) (fun h189 => ?_)
                                · skip
                                  rw [xb_eq (x := nI 0) (y := 0) (a := 0) (b := 0) rfl rfl (by omega) (by omega)] at h189
                                  have hkq9 : (fun b => if b = many + i then v else kq b) = aKp (xgI σ 50) (fun b => if b = r then nI now else ren b) (rf r) q many kep (i + 1) := by
                                    rw [hkq, hv, aKp, if_neg hR]
                                  refine x_iload X dX9_trim_202 rfl ?_
                                  refine x_iastN X dX9_trim_204 rfl (by omega) (by omega) ?_
                                  rw [qT3_59]
                                  refine x_iinc (k := 8) (v := nI ((many + i) + 1)) (lv' := [(3, .int (nI ((many + i) + 1))), (11, .int (nI 0)), (10, .int (nI q)), (9, .int v), (8, .int (nI i)), (7, .int (nI L)), (6, .int (nI (rf r))), (5, .int (nI r)), (4, .int (nI now)), (2, .int (nI n0)), (1, .int (nI w)), (0, .ref (G.2.1 37))]) X dX9_trim_205 rfl (xn_inc _) (by decide) rfl ?_
                                  refine x_iinc (k := 4) (v := nI (i + 1)) (lv' := [(8, .int (nI (i + 1))), (3, .int (nI ((many + i) + 1))), (11, .int (nI 0)), (10, .int (nI q)), (9, .int v), (7, .int (nI L)), (6, .int (nI (rf r))), (5, .int (nI r)), (4, .int (nI now)), (2, .int (nI n0)), (1, .int (nI w)), (0, .ref (G.2.1 37))]) X dX9_trim_208 rfl (xn_inc _) (by decide) rfl ?_
                                  refine x_goto (tgt := 97) X dX9_trim_211 (by decide) ?_
                                  refine x_pick [0, 5, 6, 7, 8, 1, 9, 10, 11] rfl ?_
                                  exact ih97 _ (by omega) (i + 1) (by omega) _ hkq9 rfl
                                · skip
                                  exact absurd (by decide) h189
                              · skip
                                rw [xb_le (x := nI i) (y := 0) (a := i) (b := 0) rfl rfl (by omega) (by omega)] at h172
                                refine x_iconst (v := nI 1) X dX9_trim_175 (by decide) ?_
                                have hR : aIsRow q i := by unfold aIsRow; omega
                                refine x_goto (tgt := 180) X dX9_trim_176 (by decide) ?_
                                refine x_istore (lv' := [(11, .int (nI 1)), (10, .int (nI q)), (9, .int v), (8, .int (nI i)), (7, .int (nI L)), (6, .int (nI (rf r))), (5, .int (nI r)), (4, .int (nI now)), (3, .int (nI (many + i))), (2, .int (nI n0)), (1, .int (nI w)), (0, .ref (G.2.1 37))]) X dX9_trim_180 (by decide) rfl ?_
                                refine x_aload_n X dX9_trim_182 rfl ?_
                                refine gf_X9_83 (k' := 59) X dX9_trim_183 rfl rfl ?_
                                refine x_iload_n X dX9_trim_186 rfl ?_
                                refine x_iload X dX9_trim_187 rfl ?_
                                refine x_ifeq (tgt := 202) X dX9_trim_189 (by decide) (fun h189 => ?_) (fun h189 => ?_)
                                · skip
                                  exact absurd h189 (by decide)
                                · skip
                                  rw [xb_eq (x := nI 1) (y := 0) (a := 1) (b := 0) rfl rfl (by omega) (by omega)] at h189
                                  obtain ⟨s, s1, s2⟩ := qRow_s hN (by omega) q3 q9 (hL2 ▸ (show i < L by omega)) hR
                                  rw [s2] at hv
                                  subst hv
                                  have hkq9 : (fun b => if b = many + i then (fun b => if b = r then nI now else ren b) s else kq b) = aKp (xgI σ 50) (fun b => if b = r then nI now else ren b) (rf r) q many kep (i + 1) := by
                                    rw [hkq, aKp, if_pos hR, s2, nI_clamp (by omega)]
                                  refine x_aload_n X dX9_trim_192 rfl ?_
                                  refine gf_X9_80 (k' := 58) X dX9_trim_193 rfl rfl ?_
                                  refine x_iload X dX9_trim_196 rfl ?_
                                  refine x_ialdN X dX9_trim_198 rfl (by omega) (by omega) ?_
                                  rw [qT3_r]
                                  refine x_goto (tgt := 204) X dX9_trim_199 (by decide) ?_
                                  refine x_iastN X dX9_trim_204 rfl (by omega) (by omega) ?_
                                  rw [qT3_59]
                                  refine x_iinc (k := 8) (v := nI ((many + i) + 1)) (lv' := [(3, .int (nI ((many + i) + 1))), (11, .int (nI 1)), (10, .int (nI q)), (9, .int (nI s)), (8, .int (nI i)), (7, .int (nI L)), (6, .int (nI (rf r))), (5, .int (nI r)), (4, .int (nI now)), (2, .int (nI n0)), (1, .int (nI w)), (0, .ref (G.2.1 37))]) X dX9_trim_205 rfl (xn_inc _) (by decide) rfl ?_
                                  refine x_iinc (k := 4) (v := nI (i + 1)) (lv' := [(8, .int (nI (i + 1))), (3, .int (nI ((many + i) + 1))), (11, .int (nI 1)), (10, .int (nI q)), (9, .int (nI s)), (7, .int (nI L)), (6, .int (nI (rf r))), (5, .int (nI r)), (4, .int (nI now)), (2, .int (nI n0)), (1, .int (nI w)), (0, .ref (G.2.1 37))]) X dX9_trim_208 rfl (xn_inc _) (by decide) rfl ?_
                                  refine x_goto (tgt := 97) X dX9_trim_211 (by decide) ?_
                                  refine x_pick [0, 5, 6, 7, 8, 1, 9, 10, 11] rfl ?_
                                  exact ih97 _ (by omega) (i + 1) (by omega) _ hkq9 rfl
                          · skip
                            rw [xb_ne (x := nI q) (y := nI 9) (a := q) (b := 9) rfl rfl (by omega) (by omega)] at h154
                            refine x_iload X dX9_trim_157 rfl ?_
                            refine x_iconst (v := nI 1) X dX9_trim_159 (by decide) ?_
                            refine x_icmpeq (tgt := 175) X dX9_trim_160 (by decide) (fun h160 => ?_) (fun h160 => ?_)
                            · skip
                              rw [xb_eq (x := nI i) (y := nI 1) (a := i) (b := 1) rfl rfl (by omega) (by omega)] at h160
                              refine x_iconst (v := nI 1) X dX9_trim_175 (by decide) ?_
                              have hR : aIsRow q i := by unfold aIsRow; omega
                              refine x_goto (tgt := 180) X dX9_trim_176 (by decide) ?_
                              refine x_istore (lv' := [(11, .int (nI 1)), (10, .int (nI q)), (9, .int v), (8, .int (nI i)), (7, .int (nI L)), (6, .int (nI (rf r))), (5, .int (nI r)), (4, .int (nI now)), (3, .int (nI (many + i))), (2, .int (nI n0)), (1, .int (nI w)), (0, .ref (G.2.1 37))]) X dX9_trim_180 (by decide) rfl ?_
                              refine x_aload_n X dX9_trim_182 rfl ?_
                              refine gf_X9_83 (k' := 59) X dX9_trim_183 rfl rfl ?_
                              refine x_iload_n X dX9_trim_186 rfl ?_
                              refine x_iload X dX9_trim_187 rfl ?_
                              refine x_ifeq (tgt := 202) X dX9_trim_189 (by decide) (fun h189 => ?_) (fun h189 => ?_)
                              · skip
                                exact absurd h189 (by decide)
                              · skip
                                rw [xb_eq (x := nI 1) (y := 0) (a := 1) (b := 0) rfl rfl (by omega) (by omega)] at h189
                                obtain ⟨s, s1, s2⟩ := qRow_s hN (by omega) q3 q9 (hL2 ▸ (show i < L by omega)) hR
                                rw [s2] at hv
                                subst hv
                                have hkq9 : (fun b => if b = many + i then (fun b => if b = r then nI now else ren b) s else kq b) = aKp (xgI σ 50) (fun b => if b = r then nI now else ren b) (rf r) q many kep (i + 1) := by
                                  rw [hkq, aKp, if_pos hR, s2, nI_clamp (by omega)]
                                refine x_aload_n X dX9_trim_192 rfl ?_
                                refine gf_X9_80 (k' := 58) X dX9_trim_193 rfl rfl ?_
                                refine x_iload X dX9_trim_196 rfl ?_
                                refine x_ialdN X dX9_trim_198 rfl (by omega) (by omega) ?_
                                rw [qT3_r]
                                refine x_goto (tgt := 204) X dX9_trim_199 (by decide) ?_
                                refine x_iastN X dX9_trim_204 rfl (by omega) (by omega) ?_
                                rw [qT3_59]
                                refine x_iinc (k := 8) (v := nI ((many + i) + 1)) (lv' := [(3, .int (nI ((many + i) + 1))), (11, .int (nI 1)), (10, .int (nI q)), (9, .int (nI s)), (8, .int (nI i)), (7, .int (nI L)), (6, .int (nI (rf r))), (5, .int (nI r)), (4, .int (nI now)), (2, .int (nI n0)), (1, .int (nI w)), (0, .ref (G.2.1 37))]) X dX9_trim_205 rfl (xn_inc _) (by decide) rfl ?_
                                refine x_iinc (k := 4) (v := nI (i + 1)) (lv' := [(8, .int (nI (i + 1))), (3, .int (nI ((many + i) + 1))), (11, .int (nI 1)), (10, .int (nI q)), (9, .int (nI s)), (7, .int (nI L)), (6, .int (nI (rf r))), (5, .int (nI r)), (4, .int (nI now)), (2, .int (nI n0)), (1, .int (nI w)), (0, .ref (G.2.1 37))]) X dX9_trim_208 rfl (xn_inc _) (by decide) rfl ?_
                                refine x_goto (tgt := 97) X dX9_trim_211 (by decide) ?_
                                refine x_pick [0, 5, 6, 7, 8, 1, 9, 10, 11] rfl ?_
                                exact ih97 _ (by omega) (i + 1) (by omega) _ hkq9 rfl
                            · skip
                              rw [xb_eq (x := nI i) (y := nI 1) (a := i) (b := 1) rfl rfl (by omega) (by omega)] at h160
                              refine x_iload X dX9_trim_163 rfl ?_
                              refine x_bipush (v := nI 7) X dX9_trim_165 (by decide) ?_
                              refine x_icmpne (tgt := 179) X dX9_trim_167 (by decide) (fun h167 => ?_) (fun h167 => ?_)
                              · skip
                                rw [xb_ne (x := nI q) (y := nI 7) (a := q) (b := 7) rfl rfl (by omega) (by omega)] at h167
                                have hR : ¬ aIsRow q i := by unfold aIsRow; omega
                                refine x_iconst (v := nI 0) X dX9_trim_179 (by decide) ?_
                                refine x_istore (lv' := [(11, .int (nI 0)), (10, .int (nI q)), (9, .int v), (8, .int (nI i)), (7, .int (nI L)), (6, .int (nI (rf r))), (5, .int (nI r)), (4, .int (nI now)), (3, .int (nI (many + i))), (2, .int (nI n0)), (1, .int (nI w)), (0, .ref (G.2.1 37))]) X dX9_trim_180 (by decide) rfl ?_
                                refine x_aload_n X dX9_trim_182 rfl ?_
                                refine gf_X9_83 (k' := 59) X dX9_trim_183 rfl rfl ?_
                                refine x_iload_n X dX9_trim_186 rfl ?_
                                refine x_iload X dX9_trim_187 rfl ?_
                                refine x_ifeq (tgt := 202) X dX9_trim_189 (by decide) (fun h189 => ?_) (fun h189 => ?_)
                                · skip
                                  rw [xb_eq (x := nI 0) (y := 0) (a := 0) (b := 0) rfl rfl (by omega) (by omega)] at h189
                                  have hkq9 : (fun b => if b = many + i then v else kq b) = aKp (xgI σ 50) (fun b => if b = r then nI now else ren b) (rf r) q many kep (i + 1) := by
                                    rw [hkq, hv, aKp, if_neg hR]
                                  refine x_iload X dX9_trim_202 rfl ?_
                                  refine x_iastN X dX9_trim_204 rfl (by omega) (by omega) ?_
                                  rw [qT3_59]
                                  refine x_iinc (k := 8) (v := nI ((many + i) + 1)) (lv' := [(3, .int (nI ((many + i) + 1))), (11, .int (nI 0)), (10, .int (nI q)), (9, .int v), (8, .int (nI i)), (7, .int (nI L)), (6, .int (nI (rf r))), (5, .int (nI r)), (4, .int (nI now)), (2, .int (nI n0)), (1, .int (nI w)), (0, .ref (G.2.1 37))]) X dX9_trim_205 rfl (xn_inc _) (by decide) rfl ?_
                                  refine x_iinc (k := 4) (v := nI (i + 1)) (lv' := [(8, .int (nI (i + 1))), (3, .int (nI ((many + i) + 1))), (11, .int (nI 0)), (10, .int (nI q)), (9, .int v), (7, .int (nI L)), (6, .int (nI (rf r))), (5, .int (nI r)), (4, .int (nI now)), (2, .int (nI n0)), (1, .int (nI w)), (0, .ref (G.2.1 37))]) X dX9_trim_208 rfl (xn_inc _) (by decide) rfl ?_
                                  refine x_goto (tgt := 97) X dX9_trim_211 (by decide) ?_
                                  refine x_pick [0, 5, 6, 7, 8, 1, 9, 10, 11] rfl ?_
                                  exact ih97 _ (by omega) (i + 1) (by omega) _ hkq9 rfl
                                · skip
                                  exact absurd (by decide) h189
                              · skip
                                rw [xb_ne (x := nI q) (y := nI 7) (a := q) (b := 7) rfl rfl (by omega) (by omega)] at h167
                                refine x_iload X dX9_trim_170 rfl ?_
                                refine x_ifle (tgt := 179) X dX9_trim_172 (by decide) (fun h172 => ?_) (fun h172 => ?_)
                                · skip
                                  rw [xb_le (x := nI i) (y := 0) (a := i) (b := 0) rfl rfl (by omega) (by omega)] at h172
                                  have hR : ¬ aIsRow q i := by unfold aIsRow; omega
                                  refine x_iconst (v := nI 0) X dX9_trim_179 (by decide) ?_
                                  refine x_istore (lv' := [(11, .int (nI 0)), (10, .int (nI q)), (9, .int v), (8, .int (nI i)), (7, .int (nI L)), (6, .int (nI (rf r))), (5, .int (nI r)), (4, .int (nI now)), (3, .int (nI (many + i))), (2, .int (nI n0)), (1, .int (nI w)), (0, .ref (G.2.1 37))]) X dX9_trim_180 (by decide) rfl ?_
                                  refine x_aload_n X dX9_trim_182 rfl ?_
                                  refine gf_X9_83 (k' := 59) X dX9_trim_183 rfl rfl ?_
                                  refine x_iload_n X dX9_trim_186 rfl ?_
                                  refine x_iload X dX9_trim_187 rfl ?_
                                  refine x_ifeq (tgt := 202) X dX9_trim_189 (by decide) (fun h189 => ?_) (fun h189 => ?_)
                                  · skip
                                    rw [xb_eq (x := nI 0) (y := 0) (a := 0) (b := 0) rfl rfl (by omega) (by omega)] at h189
                                    have hkq9 : (fun b => if b = many + i then v else kq b) = aKp (xgI σ 50) (fun b => if b = r then nI now else ren b) (rf r) q many kep (i + 1) := by
                                      rw [hkq, hv, aKp, if_neg hR]
                                    refine x_iload X dX9_trim_202 rfl ?_
                                    refine x_iastN X dX9_trim_204 rfl (by omega) (by omega) ?_
                                    rw [qT3_59]
                                    refine x_iinc (k := 8) (v := nI ((many + i) + 1)) (lv' := [(3, .int (nI ((many + i) + 1))), (11, .int (nI 0)), (10, .int (nI q)), (9, .int v), (8, .int (nI i)), (7, .int (nI L)), (6, .int (nI (rf r))), (5, .int (nI r)), (4, .int (nI now)), (2, .int (nI n0)), (1, .int (nI w)), (0, .ref (G.2.1 37))]) X dX9_trim_205 rfl (xn_inc _) (by decide) rfl ?_
                                    refine x_iinc (k := 4) (v := nI (i + 1)) (lv' := [(8, .int (nI (i + 1))), (3, .int (nI ((many + i) + 1))), (11, .int (nI 0)), (10, .int (nI q)), (9, .int v), (7, .int (nI L)), (6, .int (nI (rf r))), (5, .int (nI r)), (4, .int (nI now)), (2, .int (nI n0)), (1, .int (nI w)), (0, .ref (G.2.1 37))]) X dX9_trim_208 rfl (xn_inc _) (by decide) rfl ?_
                                    refine x_goto (tgt := 97) X dX9_trim_211 (by decide) ?_
                                    refine x_pick [0, 5, 6, 7, 8, 1, 9, 10, 11] rfl ?_
                                    exact ih97 _ (by omega) (i + 1) (by omega) _ hkq9 rfl
                                  · skip
                                    exact absurd (by decide) h189
                                · skip
                                  rw [xb_le (x := nI i) (y := 0) (a := i) (b := 0) rfl rfl (by omega) (by omega)] at h172
                                  refine x_iconst (v := nI 1) X dX9_trim_175 (by decide) ?_
                                  have hR : aIsRow q i := by unfold aIsRow; omega
                                  refine x_goto (tgt := 180) X dX9_trim_176 (by decide) ?_
                                  refine x_istore (lv' := [(11, .int (nI 1)), (10, .int (nI q)), (9, .int v), (8, .int (nI i)), (7, .int (nI L)), (6, .int (nI (rf r))), (5, .int (nI r)), (4, .int (nI now)), (3, .int (nI (many + i))), (2, .int (nI n0)), (1, .int (nI w)), (0, .ref (G.2.1 37))]) X dX9_trim_180 (by decide) rfl ?_
                                  refine x_aload_n X dX9_trim_182 rfl ?_
                                  refine gf_X9_83 (k' := 59) X dX9_trim_183 rfl rfl ?_
                                  refine x_iload_n X dX9_trim_186 rfl ?_
                                  refine x_iload X dX9_trim_187 rfl ?_
                                  refine x_ifeq (tgt := 202) X dX9_trim_189 (by decide) (fun h189 => ?_) (fun h189 => ?_)
                                  · skip
                                    exact absurd h189 (by decide)
                                  · skip
                                    rw [xb_eq (x := nI 1) (y := 0) (a := 1) (b := 0) rfl rfl (by omega) (by omega)] at h189
                                    obtain ⟨s, s1, s2⟩ := qRow_s hN (by omega) q3 q9 (hL2 ▸ (show i < L by omega)) hR
                                    rw [s2] at hv
                                    subst hv
                                    have hkq9 : (fun b => if b = many + i then (fun b => if b = r then nI now else ren b) s else kq b) = aKp (xgI σ 50) (fun b => if b = r then nI now else ren b) (rf r) q many kep (i + 1) := by
                                      rw [hkq, aKp, if_pos hR, s2, nI_clamp (by omega)]
                                    refine x_aload_n X dX9_trim_192 rfl ?_
                                    refine gf_X9_80 (k' := 58) X dX9_trim_193 rfl rfl ?_
                                    refine x_iload X dX9_trim_196 rfl ?_
                                    refine x_ialdN X dX9_trim_198 rfl (by omega) (by omega) ?_
                                    rw [qT3_r]
                                    refine x_goto (tgt := 204) X dX9_trim_199 (by decide) ?_
                                    refine x_iastN X dX9_trim_204 rfl (by omega) (by omega) ?_
                                    rw [qT3_59]
                                    refine x_iinc (k := 8) (v := nI ((many + i) + 1)) (lv' := [(3, .int (nI ((many + i) + 1))), (11, .int (nI 1)), (10, .int (nI q)), (9, .int (nI s)), (8, .int (nI i)), (7, .int (nI L)), (6, .int (nI (rf r))), (5, .int (nI r)), (4, .int (nI now)), (2, .int (nI n0)), (1, .int (nI w)), (0, .ref (G.2.1 37))]) X dX9_trim_205 rfl (xn_inc _) (by decide) rfl ?_
                                    refine x_iinc (k := 4) (v := nI (i + 1)) (lv' := [(8, .int (nI (i + 1))), (3, .int (nI ((many + i) + 1))), (11, .int (nI 1)), (10, .int (nI q)), (9, .int (nI s)), (7, .int (nI L)), (6, .int (nI (rf r))), (5, .int (nI r)), (4, .int (nI now)), (2, .int (nI n0)), (1, .int (nI w)), (0, .ref (G.2.1 37))]) X dX9_trim_208 rfl (xn_inc _) (by decide) rfl ?_
                                    refine x_goto (tgt := 97) X dX9_trim_211 (by decide) ?_
                                    refine x_pick [0, 5, 6, 7, 8, 1, 9, 10, 11] rfl ?_
                                    exact ih97 _ (by omega) (i + 1) (by omega) _ hkq9 rfl
                      · skip
                        rw [xb_lt (x := nI i) (y := nI 2) (a := i) (b := 2) rfl rfl (by omega) (by omega)] at h134
                        refine x_iload X dX9_trim_137 rfl ?_
                        refine x_iconst (v := nI 2) X dX9_trim_139 (by decide) ?_
                        refine x_irem X dX9_trim_140 (nI_ne0 (by omega) (by omega)) ?_
                        rw [pk_rem (a := i) (d := 2) (by omega) (by omega) (by omega)]
                        refine x_ifeq (tgt := 175) X dX9_trim_141 (by decide) (fun h141 => ?_) (fun h141 => ?_)
                        · skip
                          rw [xb_eq (x := nI (i % 2)) (y := 0) (a := (i % 2)) (b := 0) rfl rfl (by omega) (by omega)] at h141
                          refine x_iconst (v := nI 1) X dX9_trim_175 (by decide) ?_
                          have hR : aIsRow q i := by unfold aIsRow; omega
                          refine x_goto (tgt := 180) X dX9_trim_176 (by decide) ?_
                          refine x_istore (lv' := [(11, .int (nI 1)), (10, .int (nI q)), (9, .int v), (8, .int (nI i)), (7, .int (nI L)), (6, .int (nI (rf r))), (5, .int (nI r)), (4, .int (nI now)), (3, .int (nI (many + i))), (2, .int (nI n0)), (1, .int (nI w)), (0, .ref (G.2.1 37))]) X dX9_trim_180 (by decide) rfl ?_
                          refine x_aload_n X dX9_trim_182 rfl ?_
                          refine gf_X9_83 (k' := 59) X dX9_trim_183 rfl rfl ?_
                          refine x_iload_n X dX9_trim_186 rfl ?_
                          refine x_iload X dX9_trim_187 rfl ?_
                          refine x_ifeq (tgt := 202) X dX9_trim_189 (by decide) (fun h189 => ?_) (fun h189 => ?_)
                          · skip
                            exact absurd h189 (by decide)
                          · skip
                            rw [xb_eq (x := nI 1) (y := 0) (a := 1) (b := 0) rfl rfl (by omega) (by omega)] at h189
                            obtain ⟨s, s1, s2⟩ := qRow_s hN (by omega) q3 q9 (hL2 ▸ (show i < L by omega)) hR
                            rw [s2] at hv
                            subst hv
                            have hkq9 : (fun b => if b = many + i then (fun b => if b = r then nI now else ren b) s else kq b) = aKp (xgI σ 50) (fun b => if b = r then nI now else ren b) (rf r) q many kep (i + 1) := by
                              rw [hkq, aKp, if_pos hR, s2, nI_clamp (by omega)]
                            refine x_aload_n X dX9_trim_192 rfl ?_
                            refine gf_X9_80 (k' := 58) X dX9_trim_193 rfl rfl ?_
                            refine x_iload X dX9_trim_196 rfl ?_
                            refine x_ialdN X dX9_trim_198 rfl (by omega) (by omega) ?_
                            rw [qT3_r]
                            refine x_goto (tgt := 204) X dX9_trim_199 (by decide) ?_
                            refine x_iastN X dX9_trim_204 rfl (by omega) (by omega) ?_
                            rw [qT3_59]
                            refine x_iinc (k := 8) (v := nI ((many + i) + 1)) (lv' := [(3, .int (nI ((many + i) + 1))), (11, .int (nI 1)), (10, .int (nI q)), (9, .int (nI s)), (8, .int (nI i)), (7, .int (nI L)), (6, .int (nI (rf r))), (5, .int (nI r)), (4, .int (nI now)), (2, .int (nI n0)), (1, .int (nI w)), (0, .ref (G.2.1 37))]) X dX9_trim_205 rfl (xn_inc _) (by decide) rfl ?_
                            refine x_iinc (k := 4) (v := nI (i + 1)) (lv' := [(8, .int (nI (i + 1))), (3, .int (nI ((many + i) + 1))), (11, .int (nI 1)), (10, .int (nI q)), (9, .int (nI s)), (7, .int (nI L)), (6, .int (nI (rf r))), (5, .int (nI r)), (4, .int (nI now)), (2, .int (nI n0)), (1, .int (nI w)), (0, .ref (G.2.1 37))]) X dX9_trim_208 rfl (xn_inc _) (by decide) rfl ?_
                            refine x_goto (tgt := 97) X dX9_trim_211 (by decide) ?_
                            refine x_pick [0, 5, 6, 7, 8, 1, 9, 10, 11] rfl ?_
                            exact ih97 _ (by omega) (i + 1) (by omega) _ hkq9 rfl
                        · skip
                          rw [xb_eq (x := nI (i % 2)) (y := 0) (a := (i % 2)) (b := 0) rfl rfl (by omega) (by omega)] at h141
                          refine x_iload X dX9_trim_144 rfl ?_
                          refine x_iconst (v := nI 5) X dX9_trim_146 (by decide) ?_
                          refine x_icmpeq (tgt := 157) X dX9_trim_147 (by decide) (fun h147 => ?_) (fun h147 => ?_)
                          · skip
                            rw [xb_eq (x := nI q) (y := nI 5) (a := q) (b := 5) rfl rfl (by omega) (by omega)] at h147
                            refine x_iload X dX9_trim_157 rfl ?_
                            refine x_iconst (v := nI 1) X dX9_trim_159 (by decide) ?_
                            refine x_icmpeq (tgt := 175) X dX9_trim_160 (by decide) (fun h160 => ?_) (fun h160 => ?_)
                            · skip
                              rw [xb_eq (x := nI i) (y := nI 1) (a := i) (b := 1) rfl rfl (by omega) (by omega)] at h160
                              refine x_iconst (v := nI 1) X dX9_trim_175 (by decide) ?_
                              have hR : aIsRow q i := by unfold aIsRow; omega
                              refine x_goto (tgt := 180) X dX9_trim_176 (by decide) ?_
                              refine x_istore (lv' := [(11, .int (nI 1)), (10, .int (nI q)), (9, .int v), (8, .int (nI i)), (7, .int (nI L)), (6, .int (nI (rf r))), (5, .int (nI r)), (4, .int (nI now)), (3, .int (nI (many + i))), (2, .int (nI n0)), (1, .int (nI w)), (0, .ref (G.2.1 37))]) X dX9_trim_180 (by decide) rfl ?_
                              refine x_aload_n X dX9_trim_182 rfl ?_
                              refine gf_X9_83 (k' := 59) X dX9_trim_183 rfl rfl ?_
                              refine x_iload_n X dX9_trim_186 rfl ?_
                              refine x_iload X dX9_trim_187 rfl ?_
                              refine x_ifeq (tgt := 202) X dX9_trim_189 (by decide) (fun h189 => ?_) (fun h189 => ?_)
                              · skip
                                exact absurd h189 (by decide)
                              · skip
                                rw [xb_eq (x := nI 1) (y := 0) (a := 1) (b := 0) rfl rfl (by omega) (by omega)] at h189
                                obtain ⟨s, s1, s2⟩ := qRow_s hN (by omega) q3 q9 (hL2 ▸ (show i < L by omega)) hR
                                rw [s2] at hv
                                subst hv
                                have hkq9 : (fun b => if b = many + i then (fun b => if b = r then nI now else ren b) s else kq b) = aKp (xgI σ 50) (fun b => if b = r then nI now else ren b) (rf r) q many kep (i + 1) := by
                                  rw [hkq, aKp, if_pos hR, s2, nI_clamp (by omega)]
                                refine x_aload_n X dX9_trim_192 rfl ?_
                                refine gf_X9_80 (k' := 58) X dX9_trim_193 rfl rfl ?_
                                refine x_iload X dX9_trim_196 rfl ?_
                                refine x_ialdN X dX9_trim_198 rfl (by omega) (by omega) ?_
                                rw [qT3_r]
                                refine x_goto (tgt := 204) X dX9_trim_199 (by decide) ?_
                                refine x_iastN X dX9_trim_204 rfl (by omega) (by omega) ?_
                                rw [qT3_59]
                                refine x_iinc (k := 8) (v := nI ((many + i) + 1)) (lv' := [(3, .int (nI ((many + i) + 1))), (11, .int (nI 1)), (10, .int (nI q)), (9, .int (nI s)), (8, .int (nI i)), (7, .int (nI L)), (6, .int (nI (rf r))), (5, .int (nI r)), (4, .int (nI now)), (2, .int (nI n0)), (1, .int (nI w)), (0, .ref (G.2.1 37))]) X dX9_trim_205 rfl (xn_inc _) (by decide) rfl ?_
                                refine x_iinc (k := 4) (v := nI (i + 1)) (lv' := [(8, .int (nI (i + 1))), (3, .int (nI ((many + i) + 1))), (11, .int (nI 1)), (10, .int (nI q)), (9, .int (nI s)), (7, .int (nI L)), (6, .int (nI (rf r))), (5, .int (nI r)), (4, .int (nI now)), (2, .int (nI n0)), (1, .int (nI w)), (0, .ref (G.2.1 37))]) X dX9_trim_208 rfl (xn_inc _) (by decide) rfl ?_
                                refine x_goto (tgt := 97) X dX9_trim_211 (by decide) ?_
                                refine x_pick [0, 5, 6, 7, 8, 1, 9, 10, 11] rfl ?_
                                exact ih97 _ (by omega) (i + 1) (by omega) _ hkq9 rfl
                            · skip
                              rw [xb_eq (x := nI i) (y := nI 1) (a := i) (b := 1) rfl rfl (by omega) (by omega)] at h160
                              refine x_iload X dX9_trim_163 rfl ?_
                              refine x_bipush (v := nI 7) X dX9_trim_165 (by decide) ?_
                              refine x_icmpne (tgt := 179) X dX9_trim_167 (by decide) (fun h167 => ?_) (fun h167 => ?_)
                              · skip
                                rw [xb_ne (x := nI q) (y := nI 7) (a := q) (b := 7) rfl rfl (by omega) (by omega)] at h167
                                have hR : ¬ aIsRow q i := by unfold aIsRow; omega
                                refine x_iconst (v := nI 0) X dX9_trim_179 (by decide) ?_
                                refine x_istore (lv' := [(11, .int (nI 0)), (10, .int (nI q)), (9, .int v), (8, .int (nI i)), (7, .int (nI L)), (6, .int (nI (rf r))), (5, .int (nI r)), (4, .int (nI now)), (3, .int (nI (many + i))), (2, .int (nI n0)), (1, .int (nI w)), (0, .ref (G.2.1 37))]) X dX9_trim_180 (by decide) rfl ?_
                                refine x_aload_n X dX9_trim_182 rfl ?_
                                refine gf_X9_83 (k' := 59) X dX9_trim_183 rfl rfl ?_
                                refine x_iload_n X dX9_trim_186 rfl ?_
                                refine x_iload X dX9_trim_187 rfl ?_
                                refine x_ifeq (tgt := 202) X dX9_trim_189 (by decide) (fun h189 => ?_) (fun h189 => ?_)
                                · skip
                                  rw [xb_eq (x := nI 0) (y := 0) (a := 0) (b := 0) rfl rfl (by omega) (by omega)] at h189
                                  have hkq9 : (fun b => if b = many + i then v else kq b) = aKp (xgI σ 50) (fun b => if b = r then nI now else ren b) (rf r) q many kep (i + 1) := by
                                    rw [hkq, hv, aKp, if_neg hR]
                                  refine x_iload X dX9_trim_202 rfl ?_
                                  refine x_iastN X dX9_trim_204 rfl (by omega) (by omega) ?_
                                  rw [qT3_59]
                                  refine x_iinc (k := 8) (v := nI ((many + i) + 1)) (lv' := [(3, .int (nI ((many + i) + 1))), (11, .int (nI 0)), (10, .int (nI q)), (9, .int v), (8, .int (nI i)), (7, .int (nI L)), (6, .int (nI (rf r))), (5, .int (nI r)), (4, .int (nI now)), (2, .int (nI n0)), (1, .int (nI w)), (0, .ref (G.2.1 37))]) X dX9_trim_205 rfl (xn_inc _) (by decide) rfl ?_
                                  refine x_iinc (k := 4) (v := nI (i + 1)) (lv' := [(8, .int (nI (i + 1))), (3, .int (nI ((many + i) + 1))), (11, .int (nI 0)), (10, .int (nI q)), (9, .int v), (7, .int (nI L)), (6, .int (nI (rf r))), (5, .int (nI r)), (4, .int (nI now)), (2, .int (nI n0)), (1, .int (nI w)), (0, .ref (G.2.1 37))]) X dX9_trim_208 rfl (xn_inc _) (by decide) rfl ?_
                                  refine x_goto (tgt := 97) X dX9_trim_211 (by decide) ?_
                                  refine x_pick [0, 5, 6, 7, 8, 1, 9, 10, 11] rfl ?_
                                  exact ih97 _ (by omega) (i + 1) (by omega) _ hkq9 rfl
                                · skip
                                  exact absurd (by decide) h189
                              · skip
                                rw [xb_ne (x := nI q) (y := nI 7) (a := q) (b := 7) rfl rfl (by omega) (by omega)] at h167
                                refine x_iload X dX9_trim_170 rfl ?_
                                refine x_ifle (tgt := 179) X dX9_trim_172 (by decide) (fun h172 => ?_) (fun h172 => ?_)
                                · skip
                                  rw [xb_le (x := nI i) (y := 0) (a := i) (b := 0) rfl rfl (by omega) (by omega)] at h172
                                  have hR : ¬ aIsRow q i := by unfold aIsRow; omega
                                  refine x_iconst (v := nI 0) X dX9_trim_179 (by decide) ?_
                                  refine x_istore (lv' := [(11, .int (nI 0)), (10, .int (nI q)), (9, .int v), (8, .int (nI i)), (7, .int (nI L)), (6, .int (nI (rf r))), (5, .int (nI r)), (4, .int (nI now)), (3, .int (nI (many + i))), (2, .int (nI n0)), (1, .int (nI w)), (0, .ref (G.2.1 37))]) X dX9_trim_180 (by decide) rfl ?_
                                  refine x_aload_n X dX9_trim_182 rfl ?_
                                  refine gf_X9_83 (k' := 59) X dX9_trim_183 rfl rfl ?_
                                  refine x_iload_n X dX9_trim_186 rfl ?_
                                  refine x_iload X dX9_trim_187 rfl ?_
                                  refine x_ifeq (tgt := 202) X dX9_trim_189 (by decide) (fun h189 => ?_) (fun h189 => ?_)
                                  · skip
                                    rw [xb_eq (x := nI 0) (y := 0) (a := 0) (b := 0) rfl rfl (by omega) (by omega)] at h189
                                    have hkq9 : (fun b => if b = many + i then v else kq b) = aKp (xgI σ 50) (fun b => if b = r then nI now else ren b) (rf r) q many kep (i + 1) := by
                                      rw [hkq, hv, aKp, if_neg hR]
                                    refine x_iload X dX9_trim_202 rfl ?_
                                    refine x_iastN X dX9_trim_204 rfl (by omega) (by omega) ?_
                                    rw [qT3_59]
                                    refine x_iinc (k := 8) (v := nI ((many + i) + 1)) (lv' := [(3, .int (nI ((many + i) + 1))), (11, .int (nI 0)), (10, .int (nI q)), (9, .int v), (8, .int (nI i)), (7, .int (nI L)), (6, .int (nI (rf r))), (5, .int (nI r)), (4, .int (nI now)), (2, .int (nI n0)), (1, .int (nI w)), (0, .ref (G.2.1 37))]) X dX9_trim_205 rfl (xn_inc _) (by decide) rfl ?_
                                    refine x_iinc (k := 4) (v := nI (i + 1)) (lv' := [(8, .int (nI (i + 1))), (3, .int (nI ((many + i) + 1))), (11, .int (nI 0)), (10, .int (nI q)), (9, .int v), (7, .int (nI L)), (6, .int (nI (rf r))), (5, .int (nI r)), (4, .int (nI now)), (2, .int (nI n0)), (1, .int (nI w)), (0, .ref (G.2.1 37))]) X dX9_trim_208 rfl (xn_inc _) (by decide) rfl ?_
                                    refine x_goto (tgt := 97) X dX9_trim_211 (by decide) ?_
                                    refine x_pick [0, 5, 6, 7, 8, 1, 9, 10, 11] rfl ?_
                                    exact ih97 _ (by omega) (i + 1) (by omega) _ hkq9 rfl
                                  · skip
                                    exact absurd (by decide) h189
                                · skip
                                  rw [xb_le (x := nI i) (y := 0) (a := i) (b := 0) rfl rfl (by omega) (by omega)] at h172
                                  refine x_iconst (v := nI 1) X dX9_trim_175 (by decide) ?_
                                  have hR : aIsRow q i := by unfold aIsRow; omega
                                  refine x_goto (tgt := 180) X dX9_trim_176 (by decide) ?_
                                  refine x_istore (lv' := [(11, .int (nI 1)), (10, .int (nI q)), (9, .int v), (8, .int (nI i)), (7, .int (nI L)), (6, .int (nI (rf r))), (5, .int (nI r)), (4, .int (nI now)), (3, .int (nI (many + i))), (2, .int (nI n0)), (1, .int (nI w)), (0, .ref (G.2.1 37))]) X dX9_trim_180 (by decide) rfl ?_
                                  refine x_aload_n X dX9_trim_182 rfl ?_
                                  refine gf_X9_83 (k' := 59) X dX9_trim_183 rfl rfl ?_
                                  refine x_iload_n X dX9_trim_186 rfl ?_
                                  refine x_iload X dX9_trim_187 rfl ?_
                                  refine x_ifeq (tgt := 202) X dX9_trim_189 (by decide) (fun h189 => ?_) (fun h189 => ?_)
                                  · skip
                                    exact absurd h189 (by decide)
                                  · skip
                                    rw [xb_eq (x := nI 1) (y := 0) (a := 1) (b := 0) rfl rfl (by omega) (by omega)] at h189
                                    obtain ⟨s, s1, s2⟩ := qRow_s hN (by omega) q3 q9 (hL2 ▸ (show i < L by omega)) hR
                                    rw [s2] at hv
                                    subst hv
                                    have hkq9 : (fun b => if b = many + i then (fun b => if b = r then nI now else ren b) s else kq b) = aKp (xgI σ 50) (fun b => if b = r then nI now else ren b) (rf r) q many kep (i + 1) := by
                                      rw [hkq, aKp, if_pos hR, s2, nI_clamp (by omega)]
                                    refine x_aload_n X dX9_trim_192 rfl ?_
                                    refine gf_X9_80 (k' := 58) X dX9_trim_193 rfl rfl ?_
                                    refine x_iload X dX9_trim_196 rfl ?_
                                    refine x_ialdN X dX9_trim_198 rfl (by omega) (by omega) ?_
                                    rw [qT3_r]
                                    refine x_goto (tgt := 204) X dX9_trim_199 (by decide) ?_
                                    refine x_iastN X dX9_trim_204 rfl (by omega) (by omega) ?_
                                    rw [qT3_59]
                                    refine x_iinc (k := 8) (v := nI ((many + i) + 1)) (lv' := [(3, .int (nI ((many + i) + 1))), (11, .int (nI 1)), (10, .int (nI q)), (9, .int (nI s)), (8, .int (nI i)), (7, .int (nI L)), (6, .int (nI (rf r))), (5, .int (nI r)), (4, .int (nI now)), (2, .int (nI n0)), (1, .int (nI w)), (0, .ref (G.2.1 37))]) X dX9_trim_205 rfl (xn_inc _) (by decide) rfl ?_
                                    refine x_iinc (k := 4) (v := nI (i + 1)) (lv' := [(8, .int (nI (i + 1))), (3, .int (nI ((many + i) + 1))), (11, .int (nI 1)), (10, .int (nI q)), (9, .int (nI s)), (7, .int (nI L)), (6, .int (nI (rf r))), (5, .int (nI r)), (4, .int (nI now)), (2, .int (nI n0)), (1, .int (nI w)), (0, .ref (G.2.1 37))]) X dX9_trim_208 rfl (xn_inc _) (by decide) rfl ?_
                                    refine x_goto (tgt := 97) X dX9_trim_211 (by decide) ?_
                                    refine x_pick [0, 5, 6, 7, 8, 1, 9, 10, 11] rfl ?_
                                    exact ih97 _ (by omega) (i + 1) (by omega) _ hkq9 rfl
                          · skip
                            rw [xb_eq (x := nI q) (y := nI 5) (a := q) (b := 5) rfl rfl (by omega) (by omega)] at h147
                            refine x_iload X dX9_trim_150 rfl ?_
                            refine x_bipush (v := nI 9) X dX9_trim_152 (by decide) ?_
                            refine x_icmpne (tgt := 163) X dX9_trim_154 (by decide) (fun h154 => ?_) (fun h154 => ?_)
                            · skip
                              rw [xb_ne (x := nI q) (y := nI 9) (a := q) (b := 9) rfl rfl (by omega) (by omega)] at h154
                              refine x_iload X dX9_trim_163 rfl ?_
                              refine x_bipush (v := nI 7) X dX9_trim_165 (by decide) ?_
                              refine x_icmpne (tgt := 179) X dX9_trim_167 (by decide) (fun h167 => ?_) (fun h167 => ?_)
                              · skip
                                rw [xb_ne (x := nI q) (y := nI 7) (a := q) (b := 7) rfl rfl (by omega) (by omega)] at h167
                                have hR : ¬ aIsRow q i := by unfold aIsRow; omega
                                refine x_iconst (v := nI 0) X dX9_trim_179 (by decide) ?_
                                refine x_istore (lv' := [(11, .int (nI 0)), (10, .int (nI q)), (9, .int v), (8, .int (nI i)), (7, .int (nI L)), (6, .int (nI (rf r))), (5, .int (nI r)), (4, .int (nI now)), (3, .int (nI (many + i))), (2, .int (nI n0)), (1, .int (nI w)), (0, .ref (G.2.1 37))]) X dX9_trim_180 (by decide) rfl ?_
                                refine x_aload_n X dX9_trim_182 rfl ?_
                                refine gf_X9_83 (k' := 59) X dX9_trim_183 rfl rfl ?_
                                refine x_iload_n X dX9_trim_186 rfl ?_
                                refine x_iload X dX9_trim_187 rfl ?_
                                refine x_ifeq (tgt := 202) X dX9_trim_189 (by decide) (fun h189 => ?_) (fun h189 => ?_)
                                · skip
                                  rw [xb_eq (x := nI 0) (y := 0) (a := 0) (b := 0) rfl rfl (by omega) (by omega)] at h189
                                  have hkq9 : (fun b => if b = many + i then v else kq b) = aKp (xgI σ 50) (fun b => if b = r then nI now else ren b) (rf r) q many kep (i + 1) := by
                                    rw [hkq, hv, aKp, if_neg hR]
                                  refine x_iload X dX9_trim_202 rfl ?_
                                  refine x_iastN X dX9_trim_204 rfl (by omega) (by omega) ?_
                                  rw [qT3_59]
                                  refine x_iinc (k := 8) (v := nI ((many + i) + 1)) (lv' := [(3, .int (nI ((many + i) + 1))), (11, .int (nI 0)), (10, .int (nI q)), (9, .int v), (8, .int (nI i)), (7, .int (nI L)), (6, .int (nI (rf r))), (5, .int (nI r)), (4, .int (nI now)), (2, .int (nI n0)), (1, .int (nI w)), (0, .ref (G.2.1 37))]) X dX9_trim_205 rfl (xn_inc _) (by decide) rfl ?_
                                  refine x_iinc (k := 4) (v := nI (i + 1)) (lv' := [(8, .int (nI (i + 1))), (3, .int (nI ((many + i) + 1))), (11, .int (nI 0)), (10, .int (nI q)), (9, .int v), (7, .int (nI L)), (6, .int (nI (rf r))), (5, .int (nI r)), (4, .int (nI now)), (2, .int (nI n0)), (1, .int (nI w)), (0, .ref (G.2.1 37))]) X dX9_trim_208 rfl (xn_inc _) (by decide) rfl ?_
                                  refine x_goto (tgt := 97) X dX9_trim_211 (by decide) ?_
                                  refine x_pick [0, 5, 6, 7, 8, 1, 9, 10, 11] rfl ?_
                                  exact ih97 _ (by omega) (i + 1) (by omega) _ hkq9 rfl
                                · skip
                                  exact absurd (by decide) h189
                              · skip
                                rw [xb_ne (x := nI q) (y := nI 7) (a := q) (b := 7) rfl rfl (by omega) (by omega)] at h167
                                refine x_iload X dX9_trim_170 rfl ?_
                                refine x_ifle (tgt := 179) X dX9_trim_172 (by decide) (fun h172 => ?_) (fun h172 => ?_)
                                · skip
                                  rw [xb_le (x := nI i) (y := 0) (a := i) (b := 0) rfl rfl (by omega) (by omega)] at h172
                                  have hR : ¬ aIsRow q i := by unfold aIsRow; omega
                                  refine x_iconst (v := nI 0) X dX9_trim_179 (by decide) ?_
                                  refine x_istore (lv' := [(11, .int (nI 0)), (10, .int (nI q)), (9, .int v), (8, .int (nI i)), (7, .int (nI L)), (6, .int (nI (rf r))), (5, .int (nI r)), (4, .int (nI now)), (3, .int (nI (many + i))), (2, .int (nI n0)), (1, .int (nI w)), (0, .ref (G.2.1 37))]) X dX9_trim_180 (by decide) rfl ?_
                                  refine x_aload_n X dX9_trim_182 rfl ?_
                                  refine gf_X9_83 (k' := 59) X dX9_trim_183 rfl rfl ?_
                                  refine x_iload_n X dX9_trim_186 rfl ?_
                                  refine x_iload X dX9_trim_187 rfl ?_
                                  refine x_ifeq (tgt := 202) X dX9_trim_189 (by decide) (fun h189 => ?_) (fun h189 => ?_)
                                  · skip
                                    rw [xb_eq (x := nI 0) (y := 0) (a := 0) (b := 0) rfl rfl (by omega) (by omega)] at h189
                                    have hkq9 : (fun b => if b = many + i then v else kq b) = aKp (xgI σ 50) (fun b => if b = r then nI now else ren b) (rf r) q many kep (i + 1) := by
                                      rw [hkq, hv, aKp, if_neg hR]
                                    refine x_iload X dX9_trim_202 rfl ?_
                                    refine x_iastN X dX9_trim_204 rfl (by omega) (by omega) ?_
                                    rw [qT3_59]
                                    refine x_iinc (k := 8) (v := nI ((many + i) + 1)) (lv' := [(3, .int (nI ((many + i) + 1))), (11, .int (nI 0)), (10, .int (nI q)), (9, .int v), (8, .int (nI i)), (7, .int (nI L)), (6, .int (nI (rf r))), (5, .int (nI r)), (4, .int (nI now)), (2, .int (nI n0)), (1, .int (nI w)), (0, .ref (G.2.1 37))]) X dX9_trim_205 rfl (xn_inc _) (by decide) rfl ?_
                                    refine x_iinc (k := 4) (v := nI (i + 1)) (lv' := [(8, .int (nI (i + 1))), (3, .int (nI ((many + i) + 1))), (11, .int (nI 0)), (10, .int (nI q)), (9, .int v), (7, .int (nI L)), (6, .int (nI (rf r))), (5, .int (nI r)), (4, .int (nI now)), (2, .int (nI n0)), (1, .int (nI w)), (0, .ref (G.2.1 37))]) X dX9_trim_208 rfl (xn_inc _) (by decide) rfl ?_
                                    refine x_goto (tgt := 97) X dX9_trim_211 (by decide) ?_
                                    refine x_pick [0, 5, 6, 7, 8, 1, 9, 10, 11] rfl ?_
                                    exact ih97 _ (by omega) (i + 1) (by omega) _ hkq9 rfl
                                  · skip
                                    exact absurd (by decide) h189
                                · skip
                                  rw [xb_le (x := nI i) (y := 0) (a := i) (b := 0) rfl rfl (by omega) (by omega)] at h172
                                  refine x_iconst (v := nI 1) X dX9_trim_175 (by decide) ?_
                                  have hR : aIsRow q i := by unfold aIsRow; omega
                                  refine x_goto (tgt := 180) X dX9_trim_176 (by decide) ?_
                                  refine x_istore (lv' := [(11, .int (nI 1)), (10, .int (nI q)), (9, .int v), (8, .int (nI i)), (7, .int (nI L)), (6, .int (nI (rf r))), (5, .int (nI r)), (4, .int (nI now)), (3, .int (nI (many + i))), (2, .int (nI n0)), (1, .int (nI w)), (0, .ref (G.2.1 37))]) X dX9_trim_180 (by decide) rfl ?_
                                  refine x_aload_n X dX9_trim_182 rfl ?_
                                  refine gf_X9_83 (k' := 59) X dX9_trim_183 rfl rfl ?_
                                  refine x_iload_n X dX9_trim_186 rfl ?_
                                  refine x_iload X dX9_trim_187 rfl ?_
                                  refine x_ifeq (tgt := 202) X dX9_trim_189 (by decide) (fun h189 => ?_) (fun h189 => ?_)
                                  · skip
                                    exact absurd h189 (by decide)
                                  · skip
                                    rw [xb_eq (x := nI 1) (y := 0) (a := 1) (b := 0) rfl rfl (by omega) (by omega)] at h189
                                    obtain ⟨s, s1, s2⟩ := qRow_s hN (by omega) q3 q9 (hL2 ▸ (show i < L by omega)) hR
                                    rw [s2] at hv
                                    subst hv
                                    have hkq9 : (fun b => if b = many + i then (fun b => if b = r then nI now else ren b) s else kq b) = aKp (xgI σ 50) (fun b => if b = r then nI now else ren b) (rf r) q many kep (i + 1) := by
                                      rw [hkq, aKp, if_pos hR, s2, nI_clamp (by omega)]
                                    refine x_aload_n X dX9_trim_192 rfl ?_
                                    refine gf_X9_80 (k' := 58) X dX9_trim_193 rfl rfl ?_
                                    refine x_iload X dX9_trim_196 rfl ?_
                                    refine x_ialdN X dX9_trim_198 rfl (by omega) (by omega) ?_
                                    rw [qT3_r]
                                    refine x_goto (tgt := 204) X dX9_trim_199 (by decide) ?_
                                    refine x_iastN X dX9_trim_204 rfl (by omega) (by omega) ?_
                                    rw [qT3_59]
                                    refine x_iinc (k := 8) (v := nI ((many + i) + 1)) (lv' := [(3, .int (nI ((many + i) + 1))), (11, .int (nI 1)), (10, .int (nI q)), (9, .int (nI s)), (8, .int (nI i)), (7, .int (nI L)), (6, .int (nI (rf r))), (5, .int (nI r)), (4, .int (nI now)), (2, .int (nI n0)), (1, .int (nI w)), (0, .ref (G.2.1 37))]) X dX9_trim_205 rfl (xn_inc _) (by decide) rfl ?_
                                    refine x_iinc (k := 4) (v := nI (i + 1)) (lv' := [(8, .int (nI (i + 1))), (3, .int (nI ((many + i) + 1))), (11, .int (nI 1)), (10, .int (nI q)), (9, .int (nI s)), (7, .int (nI L)), (6, .int (nI (rf r))), (5, .int (nI r)), (4, .int (nI now)), (2, .int (nI n0)), (1, .int (nI w)), (0, .ref (G.2.1 37))]) X dX9_trim_208 rfl (xn_inc _) (by decide) rfl ?_
                                    refine x_goto (tgt := 97) X dX9_trim_211 (by decide) ?_
                                    refine x_pick [0, 5, 6, 7, 8, 1, 9, 10, 11] rfl ?_
                                    exact ih97 _ (by omega) (i + 1) (by omega) _ hkq9 rfl
                            · skip
                              rw [xb_ne (x := nI q) (y := nI 9) (a := q) (b := 9) rfl rfl (by omega) (by omega)] at h154
                              refine x_iload X dX9_trim_157 rfl ?_
                              refine x_iconst (v := nI 1) X dX9_trim_159 (by decide) ?_
                              refine x_icmpeq (tgt := 175) X dX9_trim_160 (by decide) (fun h160 => ?_) (fun h160 => ?_)
                              · skip
                                rw [xb_eq (x := nI i) (y := nI 1) (a := i) (b := 1) rfl rfl (by omega) (by omega)] at h160
                                refine x_iconst (v := nI 1) X dX9_trim_175 (by decide) ?_
                                have hR : aIsRow q i := by unfold aIsRow; omega
                                refine x_goto (tgt := 180) X dX9_trim_176 (by decide) ?_
                                refine x_istore (lv' := [(11, .int (nI 1)), (10, .int (nI q)), (9, .int v), (8, .int (nI i)), (7, .int (nI L)), (6, .int (nI (rf r))), (5, .int (nI r)), (4, .int (nI now)), (3, .int (nI (many + i))), (2, .int (nI n0)), (1, .int (nI w)), (0, .ref (G.2.1 37))]) X dX9_trim_180 (by decide) rfl ?_
                                refine x_aload_n X dX9_trim_182 rfl ?_
                                refine gf_X9_83 (k' := 59) X dX9_trim_183 rfl rfl ?_
                                refine x_iload_n X dX9_trim_186 rfl ?_
                                refine x_iload X dX9_trim_187 rfl ?_
                                refine x_ifeq (tgt := 202) X dX9_trim_189 (by decide) (fun h189 => ?_) (fun h189 => ?_)
                                · skip
                                  exact absurd h189 (by decide)
                                · skip
                                  rw [xb_eq (x := nI 1) (y := 0) (a := 1) (b := 0) rfl rfl (by omega) (by omega)] at h189
                                  obtain ⟨s, s1, s2⟩ := qRow_s hN (by omega) q3 q9 (hL2 ▸ (show i < L by omega)) hR
                                  rw [s2] at hv
                                  subst hv
                                  have hkq9 : (fun b => if b = many + i then (fun b => if b = r then nI now else ren b) s else kq b) = aKp (xgI σ 50) (fun b => if b = r then nI now else ren b) (rf r) q many kep (i + 1) := by
                                    rw [hkq, aKp, if_pos hR, s2, nI_clamp (by omega)]
                                  refine x_aload_n X dX9_trim_192 rfl ?_
                                  refine gf_X9_80 (k' := 58) X dX9_trim_193 rfl rfl ?_
                                  refine x_iload X dX9_trim_196 rfl ?_
                                  refine x_ialdN X dX9_trim_198 rfl (by omega) (by omega) ?_
                                  rw [qT3_r]
                                  refine x_goto (tgt := 204) X dX9_trim_199 (by decide) ?_
                                  refine x_iastN X dX9_trim_204 rfl (by omega) (by omega) ?_
                                  rw [qT3_59]
                                  refine x_iinc (k := 8) (v := nI ((many + i) + 1)) (lv' := [(3, .int (nI ((many + i) + 1))), (11, .int (nI 1)), (10, .int (nI q)), (9, .int (nI s)), (8, .int (nI i)), (7, .int (nI L)), (6, .int (nI (rf r))), (5, .int (nI r)), (4, .int (nI now)), (2, .int (nI n0)), (1, .int (nI w)), (0, .ref (G.2.1 37))]) X dX9_trim_205 rfl (xn_inc _) (by decide) rfl ?_
                                  refine x_iinc (k := 4) (v := nI (i + 1)) (lv' := [(8, .int (nI (i + 1))), (3, .int (nI ((many + i) + 1))), (11, .int (nI 1)), (10, .int (nI q)), (9, .int (nI s)), (7, .int (nI L)), (6, .int (nI (rf r))), (5, .int (nI r)), (4, .int (nI now)), (2, .int (nI n0)), (1, .int (nI w)), (0, .ref (G.2.1 37))]) X dX9_trim_208 rfl (xn_inc _) (by decide) rfl ?_
                                  refine x_goto (tgt := 97) X dX9_trim_211 (by decide) ?_
                                  refine x_pick [0, 5, 6, 7, 8, 1, 9, 10, 11] rfl ?_
                                  exact ih97 _ (by omega) (i + 1) (by omega) _ hkq9 rfl
                              · skip
                                rw [xb_eq (x := nI i) (y := nI 1) (a := i) (b := 1) rfl rfl (by omega) (by omega)] at h160
                                refine x_iload X dX9_trim_163 rfl ?_
                                refine x_bipush (v := nI 7) X dX9_trim_165 (by decide) ?_
                                refine x_icmpne (tgt := 179) X dX9_trim_167 (by decide) (fun h167 => ?_) (fun h167 => ?_)
                                · skip
                                  rw [xb_ne (x := nI q) (y := nI 7) (a := q) (b := 7) rfl rfl (by omega) (by omega)] at h167
                                  have hR : ¬ aIsRow q i := by unfold aIsRow; omega
                                  refine x_iconst (v := nI 0) X dX9_trim_179 (by decide) ?_
                                  refine x_istore (lv' := [(11, .int (nI 0)), (10, .int (nI q)), (9, .int v), (8, .int (nI i)), (7, .int (nI L)), (6, .int (nI (rf r))), (5, .int (nI r)), (4, .int (nI now)), (3, .int (nI (many + i))), (2, .int (nI n0)), (1, .int (nI w)), (0, .ref (G.2.1 37))]) X dX9_trim_180 (by decide) rfl ?_
                                  refine x_aload_n X dX9_trim_182 rfl ?_
                                  refine gf_X9_83 (k' := 59) X dX9_trim_183 rfl rfl ?_
                                  refine x_iload_n X dX9_trim_186 rfl ?_
                                  refine x_iload X dX9_trim_187 rfl ?_
                                  refine x_ifeq (tgt := 202) X dX9_trim_189 (by decide) (fun h189 => ?_) (fun h189 => ?_)
                                  · skip
                                    rw [xb_eq (x := nI 0) (y := 0) (a := 0) (b := 0) rfl rfl (by omega) (by omega)] at h189
                                    have hkq9 : (fun b => if b = many + i then v else kq b) = aKp (xgI σ 50) (fun b => if b = r then nI now else ren b) (rf r) q many kep (i + 1) := by
                                      rw [hkq, hv, aKp, if_neg hR]
                                    refine x_iload X dX9_trim_202 rfl ?_
                                    refine x_iastN X dX9_trim_204 rfl (by omega) (by omega) ?_
                                    rw [qT3_59]
                                    refine x_iinc (k := 8) (v := nI ((many + i) + 1)) (lv' := [(3, .int (nI ((many + i) + 1))), (11, .int (nI 0)), (10, .int (nI q)), (9, .int v), (8, .int (nI i)), (7, .int (nI L)), (6, .int (nI (rf r))), (5, .int (nI r)), (4, .int (nI now)), (2, .int (nI n0)), (1, .int (nI w)), (0, .ref (G.2.1 37))]) X dX9_trim_205 rfl (xn_inc _) (by decide) rfl ?_
                                    refine x_iinc (k := 4) (v := nI (i + 1)) (lv' := [(8, .int (nI (i + 1))), (3, .int (nI ((many + i) + 1))), (11, .int (nI 0)), (10, .int (nI q)), (9, .int v), (7, .int (nI L)), (6, .int (nI (rf r))), (5, .int (nI r)), (4, .int (nI now)), (2, .int (nI n0)), (1, .int (nI w)), (0, .ref (G.2.1 37))]) X dX9_trim_208 rfl (xn_inc _) (by decide) rfl ?_
                                    refine x_goto (tgt := 97) X dX9_trim_211 (by decide) ?_
                                    refine x_pick [0, 5, 6, 7, 8, 1, 9, 10, 11] rfl ?_
                                    exact ih97 _ (by omega) (i + 1) (by omega) _ hkq9 rfl
                                  · skip
                                    exact absurd (by decide) h189
                                · skip
                                  rw [xb_ne (x := nI q) (y := nI 7) (a := q) (b := 7) rfl rfl (by omega) (by omega)] at h167
                                  refine x_iload X dX9_trim_170 rfl ?_
                                  refine x_ifle (tgt := 179) X dX9_trim_172 (by decide) (fun h172 => ?_) (fun h172 => ?_)
                                  · skip
                                    rw [xb_le (x := nI i) (y := 0) (a := i) (b := 0) rfl rfl (by omega) (by omega)] at h172
                                    have hR : ¬ aIsRow q i := by unfold aIsRow; omega
                                    refine x_iconst (v := nI 0) X dX9_trim_179 (by decide) ?_
                                    refine x_istore (lv' := [(11, .int (nI 0)), (10, .int (nI q)), (9, .int v), (8, .int (nI i)), (7, .int (nI L)), (6, .int (nI (rf r))), (5, .int (nI r)), (4, .int (nI now)), (3, .int (nI (many + i))), (2, .int (nI n0)), (1, .int (nI w)), (0, .ref (G.2.1 37))]) X dX9_trim_180 (by decide) rfl ?_
                                    refine x_aload_n X dX9_trim_182 rfl ?_
                                    refine gf_X9_83 (k' := 59) X dX9_trim_183 rfl rfl ?_
                                    refine x_iload_n X dX9_trim_186 rfl ?_
                                    refine x_iload X dX9_trim_187 rfl ?_
                                    refine x_ifeq (tgt := 202) X dX9_trim_189 (by decide) (fun h189 => ?_) (fun h189 => ?_)
                                    · skip
                                      rw [xb_eq (x := nI 0) (y := 0) (a := 0) (b := 0) rfl rfl (by omega) (by omega)] at h189
                                      have hkq9 : (fun b => if b = many + i then v else kq b) = aKp (xgI σ 50) (fun b => if b = r then nI now else ren b) (rf r) q many kep (i + 1) := by
                                        rw [hkq, hv, aKp, if_neg hR]
                                      refine x_iload X dX9_trim_202 rfl ?_
                                      refine x_iastN X dX9_trim_204 rfl (by omega) (by omega) ?_
                                      rw [qT3_59]
                                      refine x_iinc (k := 8) (v := nI ((many + i) + 1)) (lv' := [(3, .int (nI ((many + i) + 1))), (11, .int (nI 0)), (10, .int (nI q)), (9, .int v), (8, .int (nI i)), (7, .int (nI L)), (6, .int (nI (rf r))), (5, .int (nI r)), (4, .int (nI now)), (2, .int (nI n0)), (1, .int (nI w)), (0, .ref (G.2.1 37))]) X dX9_trim_205 rfl (xn_inc _) (by decide) rfl ?_
                                      refine x_iinc (k := 4) (v := nI (i + 1)) (lv' := [(8, .int (nI (i + 1))), (3, .int (nI ((many + i) + 1))), (11, .int (nI 0)), (10, .int (nI q)), (9, .int v), (7, .int (nI L)), (6, .int (nI (rf r))), (5, .int (nI r)), (4, .int (nI now)), (2, .int (nI n0)), (1, .int (nI w)), (0, .ref (G.2.1 37))]) X dX9_trim_208 rfl (xn_inc _) (by decide) rfl ?_
                                      refine x_goto (tgt := 97) X dX9_trim_211 (by decide) ?_
                                      refine x_pick [0, 5, 6, 7, 8, 1, 9, 10, 11] rfl ?_
                                      exact ih97 _ (by omega) (i + 1) (by omega) _ hkq9 rfl
                                    · skip
                                      exact absurd (by decide) h189
                                  · skip
                                    rw [xb_le (x := nI i) (y := 0) (a := i) (b := 0) rfl rfl (by omega) (by omega)] at h172
                                    refine x_iconst (v := nI 1) X dX9_trim_175 (by decide) ?_
                                    have hR : aIsRow q i := by unfold aIsRow; omega
                                    refine x_goto (tgt := 180) X dX9_trim_176 (by decide) ?_
                                    refine x_istore (lv' := [(11, .int (nI 1)), (10, .int (nI q)), (9, .int v), (8, .int (nI i)), (7, .int (nI L)), (6, .int (nI (rf r))), (5, .int (nI r)), (4, .int (nI now)), (3, .int (nI (many + i))), (2, .int (nI n0)), (1, .int (nI w)), (0, .ref (G.2.1 37))]) X dX9_trim_180 (by decide) rfl ?_
                                    refine x_aload_n X dX9_trim_182 rfl ?_
                                    refine gf_X9_83 (k' := 59) X dX9_trim_183 rfl rfl ?_
                                    refine x_iload_n X dX9_trim_186 rfl ?_
                                    refine x_iload X dX9_trim_187 rfl ?_
                                    refine x_ifeq (tgt := 202) X dX9_trim_189 (by decide) (fun h189 => ?_) (fun h189 => ?_)
                                    · skip
                                      exact absurd h189 (by decide)
                                    · skip
                                      rw [xb_eq (x := nI 1) (y := 0) (a := 1) (b := 0) rfl rfl (by omega) (by omega)] at h189
                                      obtain ⟨s, s1, s2⟩ := qRow_s hN (by omega) q3 q9 (hL2 ▸ (show i < L by omega)) hR
                                      rw [s2] at hv
                                      subst hv
                                      have hkq9 : (fun b => if b = many + i then (fun b => if b = r then nI now else ren b) s else kq b) = aKp (xgI σ 50) (fun b => if b = r then nI now else ren b) (rf r) q many kep (i + 1) := by
                                        rw [hkq, aKp, if_pos hR, s2, nI_clamp (by omega)]
                                      refine x_aload_n X dX9_trim_192 rfl ?_
                                      refine gf_X9_80 (k' := 58) X dX9_trim_193 rfl rfl ?_
                                      refine x_iload X dX9_trim_196 rfl ?_
                                      refine x_ialdN X dX9_trim_198 rfl (by omega) (by omega) ?_
                                      rw [qT3_r]
                                      refine x_goto (tgt := 204) X dX9_trim_199 (by decide) ?_
                                      refine x_iastN X dX9_trim_204 rfl (by omega) (by omega) ?_
                                      rw [qT3_59]
                                      refine x_iinc (k := 8) (v := nI ((many + i) + 1)) (lv' := [(3, .int (nI ((many + i) + 1))), (11, .int (nI 1)), (10, .int (nI q)), (9, .int (nI s)), (8, .int (nI i)), (7, .int (nI L)), (6, .int (nI (rf r))), (5, .int (nI r)), (4, .int (nI now)), (2, .int (nI n0)), (1, .int (nI w)), (0, .ref (G.2.1 37))]) X dX9_trim_205 rfl (xn_inc _) (by decide) rfl ?_
                                      refine x_iinc (k := 4) (v := nI (i + 1)) (lv' := [(8, .int (nI (i + 1))), (3, .int (nI ((many + i) + 1))), (11, .int (nI 1)), (10, .int (nI q)), (9, .int (nI s)), (7, .int (nI L)), (6, .int (nI (rf r))), (5, .int (nI r)), (4, .int (nI now)), (2, .int (nI n0)), (1, .int (nI w)), (0, .ref (G.2.1 37))]) X dX9_trim_208 rfl (xn_inc _) (by decide) rfl ?_
                                      refine x_goto (tgt := 97) X dX9_trim_211 (by decide) ?_
                                      refine x_pick [0, 5, 6, 7, 8, 1, 9, 10, 11] rfl ?_
                                      exact ih97 _ (by omega) (i + 1) (by omega) _ hkq9 rfl
              refine x_pick [0, 1, 2, 3, 4, 5, 6, 7, 8] rfl ?_
              exact lp97 _ 0 (by omega) kep rfl rfl
      refine x_pick [0, 1, 2, 3, 5, 4] rfl ?_
      exact lp52 _ 0 (by omega) 1 0 _ _ rfl _ qT3_0 rfl
    · skip
      exact absurd (by decide) h23
  · skip
    exact absurd ⟨w, hw, rfl⟩ (xB_0.mp h12)
