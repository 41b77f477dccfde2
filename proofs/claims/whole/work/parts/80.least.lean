/-! least -/
def oWb (D : oMd) : Prop := ∀ v, -100 ≤ oCo D v ∧ oCo D v ≤ 100
theorem rFst_c {f f' : Nat → Int64} {g g' : Nat → Int32} : ∀ n v, (∀ k, v ≤ k → k < v + n → f k = f' k ∧ g k = g' k) → rFst f g n v = rFst f' g' n v
  | 0, _, _ => rfl
  | n + 1, v, h => by
    obtain ⟨h1, h2⟩ := h v (Nat.le_refl _) (by omega)
    rw [rFst, rFst, rFst_c n (v + 1) (fun k k1 k2 => h k (by omega) (by omega)), h1, h2]
theorem rTimes_c {f f' : Nat → Int64} {g g' : Nat → Int32} (h : ∀ v, v < 8 → f v = f' v ∧ g v = g' v) : rTimes f g = rTimes f' g' := by
  unfold rTimes
  rw [rFst_c 8 0 (fun k _ hk => h k (by omega))]
  by_cases c : rFst f' g' 8 0 < 1
  · rw [if_pos c, if_pos c]
  · rw [if_neg c, if_neg c]
    by_cases d : ∀ v, v < 8 → f' v = -(rFst f' g' 8 0) * (g' v).toInt64
    · rw [if_pos d, if_pos (fun v hv => by rw [(h v hv).1, (h v hv).2]; exact d v hv)]
    · rw [if_neg d, if_neg (fun y => d (fun v hv => by rw [← (h v hv).1, ← (h v hv).2]; exact y v hv))]
def oT1 (f : Nat → Int64) (g : Nat → Int32) : Nat → Int64
  | 0 => 0
  | k + 1 => if g k = 0 then oT1 f g k else if oT1 f g k = 0 then -(f k) / (g k).toInt64 else oT1 f g k
theorem qT1_e {σ : xS} {r : Nat} {f : Nat → Int64} {g : Nat → Int32} : ∀ k, (∀ j, j < k → xgL σ 52 (8 * r + j) = f j ∧ xgI σ 41 j = g j) → qT1 σ r k = oT1 f g k
  | 0, _ => rfl
  | k + 1, h => by
    obtain ⟨h1, h2⟩ := h k (by omega)
    rw [qT1, oT1, qT1_e k (fun j hj => h j (by omega)), h1, h2]
/-- a small number divided by a small one -/
theorem i64_dv {a b : Int64} (ha : -1000000000000 ≤ a.toInt ∧ a.toInt ≤ 1000000000000) : (a / b).toInt = a.toInt.tdiv b.toInt ∧ -1000000000000 ≤ a.toInt.tdiv b.toInt ∧ a.toInt.tdiv b.toInt ≤ 1000000000000 := by
  have hb : -1000000000000 ≤ a.toInt.tdiv b.toInt ∧ a.toInt.tdiv b.toInt ≤ 1000000000000 := by
    have h1 := Int.natAbs_tdiv_le_natAbs a.toInt b.toInt
    omega
  refine ⟨?_, hb⟩
  rw [Int64.toInt_div]
  exact Int.bmod_eq_of_le (by omega) (by omega)
theorem i64_ng {a : Int64} (ha : -1000000000000 ≤ a.toInt ∧ a.toInt ≤ 1000000000000) : (-a).toInt = -a.toInt := by
  rw [Int64.toInt_neg]
  exact Int.bmod_eq_of_le (by omega) (by omega)
theorem i64_nd {a b : Int64} (ha : -1000000000000 ≤ a.toInt ∧ a.toInt ≤ 1000000000000) : -a / b = -(a / b) := by
  apply Int64.toInt_inj.mp
  obtain ⟨d1, d2, d3⟩ := i64_dv (b := b) ha
  have n1 := i64_ng ha
  obtain ⟨e1, e2, e3⟩ := i64_dv (a := -a) (b := b) (by rw [n1]; omega)
  rw [e1, n1, Int.neg_tdiv, i64_ng (a := a / b) (by rw [d1]; omega), d1]
theorem oT1_b {f : Nat → Int64} {g : Nat → Int32} (hf : ∀ v, v < 8 → -1000000000000 ≤ (f v).toInt ∧ (f v).toInt ≤ 1000000000000) : ∀ k, k ≤ 8 → -1000000000000 ≤ (oT1 f g k).toInt ∧ (oT1 f g k).toInt ≤ 1000000000000
  | 0, _ => by show -1000000000000 ≤ (0 : Int64).toInt ∧ (0 : Int64).toInt ≤ 1000000000000; decide
  | k + 1, h => by
    have ih := oT1_b (g := g) hf k (by omega)
    rw [oT1]
    split
    · exact ih
    · split
      · have n1 := i64_ng (hf k (by omega))
        obtain ⟨e1, e2, e3⟩ := i64_dv (a := -f k) (b := (g k).toInt64) (by rw [n1]; have := hf k (by omega); omega)
        rw [e1]
        exact ⟨e2, e3⟩
      · exact ih
theorem oT1_0 {f : Nat → Int64} {g : Nat → Int32} : ∀ k, (∀ j, j < k → g j = 0) → oT1 f g k = 0
  | 0, _ => rfl
  | k + 1, h => by rw [oT1, if_pos (h k (by omega)), oT1_0 k (fun j hj => h j (by omega))]
theorem oT1_k {f : Nat → Int64} {g : Nat → Int32} {p : Nat} (h : ¬ oT1 f g p = 0) : ∀ d, oT1 f g (p + d) = oT1 f g p
  | 0 => rfl
  | d + 1 => by
    have ih := oT1_k (f := f) (g := g) h d
    rw [show p + (d + 1) = (p + d) + 1 by omega, oT1, ih]
    split
    · rfl
    · first | rfl | rw [if_neg h]
theorem rFst_0 {f : Nat → Int64} {g : Nat → Int32} : ∀ p n v, p ≤ n → (∀ j, v ≤ j → j < v + p → g j = 0) → rFst f g n v = rFst f g (n - p) (v + p)
  | 0, n, v, _, _ => rfl
  | p + 1, n + 1, v, h, hz => by
    rw [rFst, if_pos (hz v (Nat.le_refl _) (by omega)), rFst_0 p n (v + 1) (by omega) (fun j j1 j2 => hz j (by omega) (by omega)), show n + 1 - (p + 1) = n - p by omega, show v + 1 + p = v + (p + 1) by omega]
  | p + 1, 0, _, h, _ => absurd h (by omega)
theorem o_times {f : Nat → Int64} {g : Nat → Int32} {V : Nat} (hV : V ≤ 8) (hf : ∀ v, v < 8 → -1000000000000 ≤ (f v).toInt ∧ (f v).toInt ≤ 1000000000000) (hg : ∀ v, -100 ≤ g v ∧ g v ≤ 100) (hfz : ∀ v, V ≤ v → f v = 0) (hgz : ∀ v, V ≤ v → g v = 0) {P : Prop} (hP : P ↔ ∀ k, k < V → f k = -(oT1 f g V) * (g k).toInt64) : (if 1 ≤ oT1 f g V then @ite _ P (Classical.propDecidable _) (oT1 f g V) 0 else 0) = rTimes f g := by
  have h1 : ∀ x : Int64, (x < 1 ↔ ¬ 1 ≤ x) := fun x => xi64_nle.symm
  have ext : (∀ k, k < V → f k = -(oT1 f g V) * (g k).toInt64) ↔ ∀ v, v < 8 → f v = -(oT1 f g V) * (g v).toInt64 := by
    constructor
    · intro y v hv
      by_cases c : v < V
      · exact y v c
      · rw [hfz v (by omega), hgz v (by omega), show (0 : Int32).toInt64 = 0 from by decide, Int64.mul_zero]
    · exact fun y k hk => y k (by omega)
  by_cases all : ∀ j, j < V → g j = 0
  · have e1 : oT1 f g V = 0 := oT1_0 V all
    have e2 : rFst f g 8 0 = 0 := by
      rw [rFst_0 8 8 0 (Nat.le_refl _) (fun j _ _ => by
        by_cases c : j < V
        · exact all j c
        · exact hgz j (by omega))]
      rfl
    unfold rTimes
    rw [e1, e2, if_neg (by decide), if_pos (by decide)]
  · have ex : ∃ p, p < V ∧ ¬ g p = 0 ∧ ∀ j, j < p → g j = 0 := by
      have : ∀ n, (∃ p, p < n ∧ ¬ g p = 0 ∧ ∀ j, j < p → g j = 0) ∨ ∀ j, j < n → g j = 0 := by
        intro n
        induction n with
        | zero => exact Or.inr (fun j hj => absurd hj (by omega))
        | succ n ih =>
          rcases ih with ⟨p, p1, p2, p3⟩ | y
          · exact Or.inl ⟨p, by omega, p2, p3⟩
          · by_cases c : g n = 0
            · refine Or.inr (fun j hj => ?_)
              by_cases d : j = n
              · rw [d]; exact c
              · exact y j (by omega)
            · exact Or.inl ⟨n, by omega, c, y⟩
      rcases this V with y | y
      · exact y
      · exact absurd y all
    obtain ⟨p, p1, p2, p3⟩ := ex
    have eF : rFst f g 8 0 = -(f p / (g p).toInt64) := by
      rw [rFst_0 p 8 0 (by omega) (fun j _ hj => p3 j (by omega)), Nat.zero_add, show 8 - p = (8 - (p + 1)) + 1 by omega, rFst, if_neg p2]
    have eT : oT1 f g (p + 1) = -(f p / (g p).toInt64) := by
      rw [oT1, if_neg p2, oT1_0 p p3, if_pos rfl, i64_nd (hf p (by omega))]
    by_cases m0 : -(f p / (g p).toInt64) = 0
    · have eR : rTimes f g = 0 := by
        unfold rTimes
        rw [eF, m0, if_pos (by decide)]
      rw [eR]
      by_cases c1 : 1 ≤ oT1 f g V
      · rw [if_pos c1]
        by_cases c2 : P
        · exfalso
          have hk := (hP.mp c2) p p1
          obtain ⟨b1, b2⟩ := oT1_b (g := g) hf V hV
          obtain ⟨d1, d2, d3⟩ := i64_dv (b := (g p).toInt64) (hf p (by omega))
          have gb := hg p
          rw [Int32.le_iff_toInt_le, Int32.le_iff_toInt_le, show (-100 : Int32).toInt = -100 from by decide, show (100 : Int32).toInt = 100 from by decide] at gb
          have gz : (g p).toInt ≠ 0 := fun y => p2 (Int32.toInt_inj.mp (by rw [y]; decide))
          rw [Int64.le_iff_toInt_le, show (1 : Int64).toInt = 1 from by decide] at c1
          have hm := i64_ng (a := oT1 f g V) ⟨b1, b2⟩
          have hprod : (f p).toInt = -(oT1 f g V).toInt * (g p).toInt := by
            rw [hk, Int64.toInt_mul, hm, Int32.toInt_toInt64]
            have hb : -100000000000000 ≤ -(oT1 f g V).toInt * (g p).toInt ∧ -(oT1 f g V).toInt * (g p).toInt ≤ 100000000000000 := by
              have : ((oT1 f g V).toInt * (g p).toInt).natAbs ≤ 1000000000000 * 100 := by
                rw [Int.natAbs_mul]
                exact Nat.mul_le_mul (by omega) (by omega)
              rw [Int.neg_mul]
              omega
            exact Int.bmod_eq_of_le (by omega) (by omega)
          have hdiv : (f p / (g p).toInt64).toInt = -(oT1 f g V).toInt := by
            rw [d1, Int32.toInt_toInt64, hprod]
            exact Int.mul_tdiv_cancel _ gz
          have hz : (-(f p / (g p).toInt64)).toInt = 0 := by rw [m0]; decide
          rw [i64_ng (by rw [d1]; omega), hdiv] at hz
          omega
        · rw [if_neg c2]
      · rw [if_neg c1]
    · have eV : oT1 f g V = -(f p / (g p).toInt64) := by
        have := oT1_k (f := f) (g := g) (p := p + 1) (by rw [eT]; exact m0) (V - (p + 1))
        rw [show p + 1 + (V - (p + 1)) = V by omega, eT] at this
        exact this
      unfold rTimes
      rw [eF, ← eV]
      by_cases c1 : 1 ≤ oT1 f g V
      · rw [if_pos c1, if_neg (fun y => (h1 _).mp y c1)]
        by_cases c2 : P
        · rw [if_pos c2, if_pos (ext.mp (hP.mp c2))]
        · rw [if_neg c2, if_neg (fun y => c2 (hP.mpr (ext.mpr y)))]
      · rw [if_neg c1, if_pos ((h1 _).mpr c1)]
noncomputable def oMm (D : oMd) (w : oRow) : Int64 := oIf (oNoA w ∧ oLi w = 0) (rTimes (oF w) (oCo D)) 0
noncomputable def oLe (D : oMd) (C : oCt) : Nat → Option Int64
  | 0 => none
  | r + 1 => if oMm D (oRw C r) ≤ 0 then oLe D C r else some (match oLe D C r with | none => -(qDown (oR (oRw C r)) (oMm D (oRw C r))) | some b => if -(qDown (oR (oRw C r)) (oMm D (oRw C r))) ≤ b then b else -(qDown (oR (oRw C r)) (oMm D (oRw C r))))
theorem oFit_i {w : oRow} (h : oFit w) : (∀ v, v < 8 → -1000000000000 ≤ (oF w v).toInt ∧ (oF w v).toInt ≤ 1000000000000) ∧ -1000000000000 ≤ (oR w).toInt ∧ (oR w).toInt ≤ 1000000000000 := by
  have e1 : (-1000000000000 : Int64).toInt = -1000000000000 := by decide
  have e2 : (1000000000000 : Int64).toInt = 1000000000000 := by decide
  refine ⟨fun v hv => ?_, ?_, ?_⟩
  · have := h.1 v hv
    rw [Int64.le_iff_toInt_le, Int64.le_iff_toInt_le, e1, e2] at this
    exact this
  · have := h.2.1
    rw [Int64.le_iff_toInt_le, e1] at this
    exact this
  · have := h.2.2
    rw [Int64.le_iff_toInt_le, e2] at this
    exact this
theorem qLe_e {D : oMd} {C : oCt} {σ : xS} (hwm : oWm D) (hb : oWb D) (h : oWc D C) (hm : oQm D σ) (hc : oRc C σ) : ∀ n, n ≤ oNr C → qLe σ (oV D) n = oLe D C n
  | 0, _ => rfl
  | r + 1, hn => by
    have hr : r < oNr C := by omega
    have h200 := h.1.2.1
    have d := (hc.2.2.2 r hr).1
    have hg := oWc_g hwm h (r + 1) r (by omega) hr
    have hfi := oFit_i (oWc_fit h hr)
    have eM : qMm σ (oV D) r = oMm D (oRw C r) := by
      have eT : qTimes σ r (oV D) = rTimes (oF (oRw C r)) (oCo D) := by
        have e1 : qT1 σ r (oV D) = oT1 (oF (oRw C r)) (oCo D) (oV D) := qT1_e _ (fun j hj => ⟨d.1 j (by have := hwm.1.1; omega), (hm.2.1 j hj).2.2⟩)
        unfold qTimes
        rw [e1]
        refine o_times hwm.1.1 hfi.1 hb hg.1 (fun v hv => (hwm.2.1 v hv).2.2) ?_
        unfold qTm
        constructor
        · intro y k hk
          have := y k hk
          rw [d.1 k (by have := hwm.1.1; omega), (hm.2.1 k hk).2.2] at this
          exact this
        · intro y k hk
          rw [d.1 k (by have := hwm.1.1; omega), (hm.2.1 k hk).2.2]
          exact y k hk
      unfold qMm oMm
      rw [eT]
      by_cases c : oNoA (oRw C r) ∧ oLi (oRw C r) = 0
      · rw [oIf_t c, if_pos ⟨(oNoA_r hwm h hc hr).mpr c.1, (oLi_r d.2.2.2).trans c.2⟩]
      · rw [oIf_f c, if_neg (fun y => c ⟨(oNoA_r hwm h hc hr).mp y.1, (oLi_r d.2.2.2).symm.trans y.2⟩)]
    rw [qLe, oLe, eM, d.2.1, qLe_e hwm hb h hm hc r (by omega)]
    by_cases k : oMm D (oRw C r) ≤ 0
    · rw [if_pos k, if_pos k]
    · rw [if_neg k, if_neg k]
      cases oLe D C r <;> rfl
/-- what a row bounds the cost by is more than the class's word for none -/
theorem oBd_min {w : oRow} {m : Int64} (h : oFit w) (hm : 1 ≤ m) : -1000000000001 < -(xFd (oR w) m) := by
  have hfi := (oFit_i h).2
  obtain ⟨d1, d2, d3⟩ := i64_dv (b := m) hfi
  have key : -1000000000001 ≤ (xFd (oR w) m).toInt ∧ (xFd (oR w) m).toInt ≤ 1000000000000 := by
    unfold xFd
    split
    · rw [d1]; omega
    · split
      · rw [d1]; omega
      · rw [Int64.toInt_sub, d1, show (1 : Int64).toInt = 1 from by decide, Int.bmod_eq_of_le (by omega) (by omega)]
        omega
  have e0 : (-1000000000001 : Int64).toInt = -1000000000001 := by decide
  rw [Int64.lt_iff_toInt_lt, e0, Int64.toInt_neg, Int.bmod_eq_of_le (by omega) (by omega)]
  omega
theorem kGb_e {D : oMd} {C : oCt} {σ : xS} {c : Nat} (hwm : oWm D) (h : oWc D C) (hm : oCm D σ c) (hc : oCc C σ) : ∀ n, n ≤ oNr C → (oLe D C n = none → kGb σ (c + 3) n = -1000000000001) ∧ (∀ b, oLe D C n = some b → kGb σ (c + 3) n = b ∧ -1000000000001 < b)
  | 0, _ => ⟨fun _ => rfl, fun b hb => by cases hb⟩
  | r + 1, hn => by
    have hr : r < oNr C := by omega
    obtain ⟨i1, i2⟩ := kGb_e hwm h hm hc r (by omega)
    have d := (hc.1.2.2.2 r hr).1
    have eT : rTimes (xgL σ (262 + r)) (xgI σ (c + 3)) = rTimes (oF (oRw C r)) (oCo D) := rTimes_c (fun v hv => ⟨d.1 v hv, (hm.2.2.1 v hv).2.2⟩)
    have h1 : ∀ x : Int64, (1 ≤ x ↔ ¬ x ≤ 0) := fun x => by
      rw [Int64.le_iff_toInt_le, Int64.le_iff_toInt_le, show (1 : Int64).toInt = 1 from by decide, show (0 : Int64).toInt = 0 from by decide]
      omega
    have eB : rBound σ r (c + 3) = if oMm D (oRw C r) ≤ 0 then -1000000000001 else -(xFd (oR (oRw C r)) (oMm D (oRw C r))) := by
      unfold rBound oMm
      rw [eT, d.2.1, oLi_c d.2.2.2]
      by_cases c1 : xgL σ (61 + r) 2 = 0
      · rw [if_pos c1]
        have c1' := (oNoA_c hwm h hc hr).mp c1
        by_cases c2 : oLi (oRw C r) = 0
        · rw [if_pos c2, oIf_t ⟨c1', c2⟩]
          by_cases c3 : 1 ≤ rTimes (oF (oRw C r)) (oCo D)
          · rw [if_pos c3, if_neg ((h1 _).mp c3)]
          · rw [if_neg c3, if_pos (Classical.byContradiction (fun y => c3 ((h1 _).mpr y)))]
        · rw [if_neg c2, oIf_f (fun y => c2 y.2), if_pos (by decide)]
      · rw [if_neg c1, oIf_f (fun y => c1 ((oNoA_c hwm h hc hr).mpr y.1)), if_pos (by decide)]
    rw [kGb, oLe, eB]
    by_cases c1 : oMm D (oRw C r) ≤ 0
    · rw [if_pos c1, if_pos c1]
      have hnl : ¬ kGb σ (c + 3) r < -1000000000001 := by
        cases e : oLe D C r with
        | none => rw [i1 e]; exact Int64.lt_irrefl
        | some b0 =>
          obtain ⟨k1, k2⟩ := i2 b0 e
          rw [k1, xi64_nlt]
          exact Int64.le_of_lt k2
      rw [if_neg hnl]
      exact ⟨i1, i2⟩
    · rw [if_neg c1, if_neg c1]
      have hpos : 0 < oMm D (oRw C r) := xi64_nle.mp c1
      have hmin := oBd_min (oWc_fit h hr) ((h1 _).mpr c1)
      rw [← xFd_q hpos]
      refine ⟨fun y => (by cases y), fun b hb => ?_⟩
      cases e : oLe D C r with
      | none =>
        rw [e] at hb
        cases hb
        rw [i1 e, if_pos hmin]
        exact ⟨rfl, hmin⟩
      | some b0 =>
        rw [e] at hb
        cases hb
        obtain ⟨k1, k2⟩ := i2 b0 e
        rw [k1]
        show (if b0 < -(xFd (oR (oRw C r)) (oMm D (oRw C r))) then -(xFd (oR (oRw C r)) (oMm D (oRw C r))) else b0) = (if -(xFd (oR (oRw C r)) (oMm D (oRw C r))) ≤ b0 then b0 else -(xFd (oR (oRw C r)) (oMm D (oRw C r)))) ∧ -1000000000001 < (if -(xFd (oR (oRw C r)) (oMm D (oRw C r))) ≤ b0 then b0 else -(xFd (oR (oRw C r)) (oMm D (oRw C r))))
        by_cases c2 : -(xFd (oR (oRw C r)) (oMm D (oRw C r))) ≤ b0
        · rw [if_pos c2, if_neg (xi64_nlt.mpr c2)]
          exact ⟨rfl, k2⟩
        · rw [if_neg c2, if_pos (xi64_nle.mp c2)]
          exact ⟨rfl, hmin⟩
theorem o_least {l : Launch} {G : xG} {σ : xS} {D : oMd} {C : oCt} {z : Nat} {t : Nat → Int32} {g : Int32} {b : Int64} (hw : oIw D C z) (h : oIc D C z t g σ) (hb : oLe D C (oNr C) = some b) : xM l G yX8_least cX8_least 3 (Option.some Jvm.ClassFile.FieldType.long) 4 93 [.ref (G.2.1 0)] σ (oAcl D C z t g σ b) := by
  obtain ⟨k1, k2⟩ := (kGb_e hw.1 hw.2.1 h.2.1 h.2.2.2.2.1 (oNr C) (Nat.le_refl _)).2 b hb
  refine xM.mono (c_X8_least h.2.1.1 rfl hw.2.1.1.2.1 h.2.2.2.2.1.1.2.2.1.1 (by rw [k1]; intro y; rw [y] at k2; exact Int64.lt_irrefl k2)) (fun r u e => ?_)
  rw [e.2, ← k1]
  exact ⟨e.1, h, oKc.rf⟩
theorem o_leastR {l : Launch} {G : xG} {σ : xS} {D : oMd} {C : oCt} {z : Nat} {t : Nat → Int32} {g : Int32} {b : Int64} (hw : oIw D C z) (hwb : oWb D) (h : oIr D C z t g σ) (hb : oLe D C (oNr C) = some b) : xM l G yX9_least cX9_least 9 (Option.some Jvm.ClassFile.FieldType.long) 1 25 [.ref (G.2.1 37)] σ (oArl D C z t g σ b 0) :=
  xM.mono (c_X9_least h.2.2.1.2.2.1.1 hw.2.1.1.2.1 h.2.1.1.1 hw.1.1.1 ((qLe_e hw.1 hwb hw.2.1 h.2.1 h.2.2.1 _ (Nat.le_refl _)).trans hb)) (fun r u e => by
    rw [e.2]
    exact ⟨e.1, oIr_0 h, oKr.I (by omega), xgI_s _ _ _ _⟩)
theorem o_leastT {l : Launch} {G : xG} {σ : xS} {D : oMd} {C : oCt} {z : Nat} {t : Nat → Int32} {g : Int32} (hw : oIw D C z) (hwb : oWb D) (h : oIr D C z t g σ) (hb : oLe D C (oNr C) = none) : xM l G yX9_least cX9_least 9 (Option.some Jvm.ClassFile.FieldType.long) 1 25 [.ref (G.2.1 37)] σ (oArl D C z t g σ 0 1) :=
  xM.mono (c_X9_leastT h.2.2.1.2.2.1.1 hw.2.1.1.2.1 h.2.1.1.1 hw.1.1.1 ((qLe_e hw.1 hwb hw.2.1 h.2.1 h.2.2.1 _ (Nat.le_refl _)).trans hb)) (fun r u e => by
    rw [e.2]
    exact ⟨e.1, oIr_0 h, oKr.I (by omega), xgI_s _ _ _ _⟩)
