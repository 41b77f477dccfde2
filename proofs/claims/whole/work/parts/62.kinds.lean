/-! The model and the plans: variables, rules, tables; bounds, costs; rules; tables; digest; plans -/
abbrev oMd : Type := (Nat × Nat × Nat) × ((Nat → Int32) × (Nat → Int32) × (Nat → Int32)) × ((Nat → Nat → Int32) × (Nat → Int32)) × ((Nat → Nat) × (Nat → Nat) × (Nat → Nat) × (Nat → Nat → Int32) × (Nat → Nat → Int32)) × Int32 × Nat × (Nat → Nat → Int32)
def oV (D : oMd) : Nat := D.1.1
def oN (D : oMd) : Nat := D.1.2.1
def oM (D : oMd) : Nat := D.1.2.2
def oLo (D : oMd) : Nat → Int32 := D.2.1.1
def oHi (D : oMd) : Nat → Int32 := D.2.1.2.1
def oCo (D : oMd) : Nat → Int32 := D.2.1.2.2
def oRu (D : oMd) : Nat → Nat → Int32 := D.2.2.1.1
def oRr (D : oMd) : Nat → Int32 := D.2.2.1.2
def oFs (D : oMd) : Nat → Nat := D.2.2.2.1.1
def oGs (D : oMd) : Nat → Nat := D.2.2.2.1.2.1
def oPs (D : oMd) : Nat → Nat := D.2.2.2.1.2.2.1
def oP1 (D : oMd) : Nat → Nat → Int32 := D.2.2.2.1.2.2.2.1
def oP2 (D : oMd) : Nat → Nat → Int32 := D.2.2.2.1.2.2.2.2
def oDg (D : oMd) : Int32 := D.2.2.2.2.1
def oNp (D : oMd) : Nat := D.2.2.2.2.2.1
def oPl (D : oMd) : Nat → Nat → Int32 := D.2.2.2.2.2.2
/-- nothing beyond the variables, tables of variables -/
def oWm (D : oMd) : Prop := (oV D ≤ 8 ∧ oN D ≤ 20 ∧ oM D ≤ 4 ∧ oNp D ≤ 8) ∧ (∀ v, oV D ≤ v → oLo D v = 0 ∧ oHi D v = 0 ∧ oCo D v = 0) ∧ (∀ r v, oV D ≤ v → oRu D r v = 0) ∧ (∀ p v, oV D ≤ v → oPl D p v = 0) ∧ (∀ t, t < oM D → oFs D t < oV D ∧ oGs D t < oV D ∧ oPs D t ≤ 20)
/-- model c, and the plans -/
def oCm (D : oMd) (σ : xS) (c : Nat) : Prop := xMod c ∧ (xgI σ c 0 = nI (oV D) ∧ xgI σ c 1 = nI (oN D) ∧ xgI σ c 2 = nI (oM D) ∧ xgI σ c 3 = oDg D) ∧ (∀ v, v < 8 → xgI σ (c + 1) v = oLo D v ∧ xgI σ (c + 2) v = oHi D v ∧ xgI σ (c + 3) v = oCo D v) ∧ (∀ r, r < oN D → (∀ v, v < 8 → xgI σ (mF c + r) v = oRu D r v) ∧ xgI σ (c + 5) r = oRr D r) ∧ (∀ t, t < oM D → xgI σ (c + 6) t = nI (oFs D t) ∧ xgI σ (c + 7) t = nI (oGs D t) ∧ xgI σ (c + 8) t = nI (oPs D t) ∧ ∀ k, k < oPs D t → xgI σ (mP c + t) k = oP1 D t k ∧ xgI σ (mQ c + t) k = oP2 D t k) ∧ xgI σ 3 2 = nI (oNp D) ∧ (∀ p, p < oNp D → ∀ v, v < 8 → xgI σ (463 + p) v = oPl D p v)
theorem oCm_c {D : oMd} {σ τ : xS} {c : Nat} (hm : oCm D σ c) (hN : oN D ≤ 20) (hM : oM D ≤ 4) (hp : oNp D ≤ 8) (h : ∀ a b, (15 ≤ a ∧ a < 37) ∨ 463 ≤ a ∨ a = 3 → xgI τ a b = xgI σ a b) : oCm D τ c := by
  obtain ⟨m0, ⟨a1, a2, a3, a4⟩, a5, a6, a7, a8, a9⟩ := hm
  have hc := mC_b m0
  have hF := mF_b m0
  have hP := mP_b m0
  have hQ := mQ_b m0
  refine ⟨m0, ⟨?_, ?_, ?_, ?_⟩, fun v hv => ⟨?_, ?_, ?_⟩, fun r hr => ⟨fun v hv => ?_, ?_⟩, fun t ht => ⟨?_, ?_, ?_, fun k hk => ⟨?_, ?_⟩⟩, ?_, fun p hp v hv => ?_⟩
  · rw [h _ _ (by omega)]; exact a1
  · rw [h _ _ (by omega)]; exact a2
  · rw [h _ _ (by omega)]; exact a3
  · rw [h _ _ (by omega)]; exact a4
  · rw [h _ _ (by omega)]; exact (a5 v hv).1
  · rw [h _ _ (by omega)]; exact (a5 v hv).2.1
  · rw [h _ _ (by omega)]; exact (a5 v hv).2.2
  · rw [h _ _ (by omega)]; exact (a6 r hr).1 v hv
  · rw [h _ _ (by omega)]; exact (a6 r hr).2
  · rw [h _ _ (by omega)]; exact (a7 t ht).1
  · rw [h _ _ (by omega)]; exact (a7 t ht).2.1
  · rw [h _ _ (by omega)]; exact (a7 t ht).2.2.1
  · rw [h _ _ (by omega)]; exact ((a7 t ht).2.2.2 k hk).1
  · rw [h _ _ (by omega)]; exact ((a7 t ht).2.2.2 k hk).2
  · rw [h _ _ (by omega)]; exact a8
  · rw [h _ _ (by omega)]; exact a9 p hp v hv
noncomputable def oIf {α : Type} (P : Prop) (a b : α) : α := @ite _ P (Classical.propDecidable P) a b
theorem oIf_t {α : Type} {P : Prop} {a b : α} (h : P) : oIf P a b = a := by unfold oIf; rw [if_pos h]
theorem oIf_f {α : Type} {P : Prop} {a b : α} (h : ¬ P) : oIf P a b = b := by unfold oIf; rw [if_neg h]
/-! the rows of the ten kinds -/
def oSgl (v : Nat) (f r : Int64) (S : Nat → Bool) (L : Option Int64) : oRow := (fun x => if x = v then f else 0, r, S, L, none)
def oGiv (D : oMd) (j : Nat) : oRow := (fun v => (oRu D j v).toInt64, (oRr D j).toInt64, fun _ => false, none, none)
def oMx (g : Nat → Int64) : Nat → Int64
  | 0 => 0
  | n + 1 => if n = 0 ∨ oMx g n < g n then g n else oMx g n
def oTab (D : oMd) (t : Nat) (x y : Int32) : oRow := (fun v => if v = oGs D t then y.toInt64 else if v = oFs D t then x.toInt64 else 0, oMx (fun k => x.toInt64 * (oP1 D t k).toInt64 + y.toInt64 * (oP2 D t k).toInt64) (oPs D t), fun _ => false, none, none)
def oDivs (w : oRow) (d : Int64) : Prop := ∀ v, v < 8 → oF w v - oF w v / d * d = 0
def oDiv (w : oRow) (d : Int64) : oRow := (fun v => oF w v / d, xFd (oR w) d, oS w, oL w, none)
def oBrn (p : Nat → Int32) : oRow := if p 3 = 0 then oSgl (p 1).toNatClampNeg 1 (p 2).toInt64 (fun _ => false) none else oSgl (p 1).toNatClampNeg (-1) (-p 2 - 1).toInt64 (fun _ => false) none
def oImp (w : oRow) : Prop := oR w < 0 ∧ ∀ v, v < 8 → oF w v = 0
def oJc (c d : oRow) : Prop := ∃ v b, oB c = some (v, b, 0) ∧ oB d = some (v, b, 1)
def oJn (a b c d x : oRow) : oRow := (oF x, oR x, fun y => (oS a y && !oS c y) || (oS b y && !oS d y), oInh (oL a) (oL b), none)
noncomputable def oJoin (a b c d : oRow) : Int32 × oRow := oIf (oJc c d) (oIf (∀ v, v < 8 → oF a v = oF b v) (if oR a ≤ oR b then (0, oJn a b c d b) else (0, oJn a b c d a)) (oIf (oImp a) (0, oJn a b c d b) (oIf (oImp b) (0, oJn a b c d a) (7, oNil)))) (6, oNil)
def oCst (D : oMd) (p : Nat) : Int64 := xSum (oCo D) (oPl D p) 8
def oBet (D : oMd) (p : Nat) : oRow := (fun v => (oCo D v).toInt64, oCst D p - 1, fun _ => false, some (oCst D p), none)
def oRst (D : oMd) (w : oRow) (j : Nat) : Nat → Int64
  | 0 => oR w
  | n + 1 => if n = j then oRst D w j n else oRst D w j n - (if oF w n * (oHi D n).toInt64 < oF w n * (oLo D n).toInt64 then oF w n * (oHi D n).toInt64 else oF w n * (oLo D n).toInt64)
def oPush (D : oMd) (w : oRow) (j : Nat) : Int32 × oRow := if oF w j = 0 then (5, oNil) else if oF w j ≤ 0 then (0, oSgl j (-1) (xFd (oRst D w j 8) (-oF w j)) (oS w) (oL w)) else (0, oSgl j 1 (xFd (oRst D w j 8) (oF w j)) (oS w) (oL w))
def oNn (p : Nat → Int32) (i : Nat) : Nat := (p i).toNatClampNeg
noncomputable def oMake (D : oMd) (R : Nat → oRow) (p : Nat → Int32) : Int32 × oRow :=
  if oNn p 0 = 0 then (0, oGiv D (oNn p 1))
  else if oNn p 0 = 1 then (0, oSgl (oNn p 1) 1 (oHi D (oNn p 1)).toInt64 (fun _ => false) none)
  else if oNn p 0 = 2 then (0, oSgl (oNn p 1) (-1) (-oLo D (oNn p 1)).toInt64 (fun _ => false) none)
  else if oNn p 0 = 3 then (0, oTab D (oNn p 1) (p 2) (p 3))
  else if oNn p 0 = 4 then (0, oSum R p (oNn p 1))
  else if oNn p 0 = 5 then oIf (oDivs (R (oNn p 1)) (p 2).toInt64) (0, oDiv (R (oNn p 1)) (p 2).toInt64) (5, oNil)
  else if oNn p 0 = 6 then (0, oBrn p)
  else if oNn p 0 = 7 then oJoin (R (oNn p 1)) (R (oNn p 2)) (R (oNn p 3)) (R (oNn p 4))
  else if oNn p 0 = 8 then (0, oBet D (oNn p 1))
  else oPush D (R (oNn p 1)) (oNn p 2)
/-- what stands is made of the row, when it is kept: a branch assumes itself -/
def oKp (p : Nat → Int32) (r : Nat) (w : oRow) : oRow := if oNn p 0 = 6 then (oF w, oR w, fun x => x == r, oL w, some (p 1, p 2, p 3)) else w
def oFit (w : oRow) : Prop := (∀ v, v < 8 → -1000000000000 ≤ oF w v ∧ oF w v ≤ 1000000000000) ∧ -1000000000000 ≤ oR w ∧ oR w ≤ 1000000000000
/-! they are made so -/
theorem oInh_0 (L : Option Int64) : oInh none L = L := by cases L <;> rfl
theorem oCr_e {br : Nat → Nat} {nb : Nat} {σ : xS} {i : Nat} {w w' : oRow} (h : oCr br nb σ i w) (hF : ∀ v, v < 8 → oF w v = oF w' v) (hR : oR w = oR w') (hS : ∀ x, oS w x = oS w' x) (hL : oL w = oL w') : oCr br nb σ i w' :=
  ⟨fun v hv => (h.1 v hv).trans (hF v hv), h.2.1.trans hR, oMk_congr h.2.2.1 (fun i _ => hS _), by rw [← hL]; exact h.2.2.2⟩
theorem oCr_K {br : Nat → Nat} {nb : Nat} {σ : xS} {i n : Nat} {q : Int32} {w : oRow} (h : oCr br nb σ i w) : oCr br nb (dK σ i q n) i w := by
  unfold dK
  exact oCr_c (σ := σ) (fun v _ => rfl) rfl rfl (by rw [xgI_n (by omega), xgI_n (by omega)]) rfl h
theorem oCr_sgl {br : Nat → Nat} {nb : Nat} {σ : xS} {i v : Nat} {f r : Int64} (hv : v < 8) (h : oCr br nb σ i oNil) : oCr br nb (rSingle σ i (nI v) f r) i (oSgl v f r (fun _ => false) none) := by
  unfold rSingle
  rw [rSet_n hv]
  refine ⟨fun u hu => ?_, ?_, ?_, ?_⟩
  · rw [xgL_n (by omega), xgL_i]
    by_cases e : u = v
    · rw [if_pos ⟨rfl, e⟩]; show f = if u = v then f else 0; rw [if_pos e]
    · rw [if_neg (fun z => e z.2), h.1 u hu]; show (0 : Int64) = if u = v then f else 0; rw [if_neg e]
  · rw [xgL_s]; rfl
  · rw [xgL_n (by omega), xgL_n (by omega)]; exact h.2.2.1
  · exact oLm_c h.2.2.2 rfl (by rw [xgL_n (by omega), xgL_n (by omega)])
theorem mCr_F {σ : xS} {i v : Nat} {f : Nat → Int32} : ∀ n, xgL (mCr σ i f n) (262 + i) v = if v < n then (f v).toInt64 else xgL σ (262 + i) v
  | 0 => by simp [mCr]
  | n + 1 => by
    rw [mCr, xgL_i, mCr_F n]
    by_cases h : v = n
    · simp [h]
    · by_cases h2 : v < n
      · simp [h, h2, Nat.lt_succ_of_lt h2]
      · simp [h, h2, show ¬ v < n + 1 by omega]
theorem mCr_o {σ : xS} {i a b : Nat} {f : Nat → Int32} (h : a ≠ 262 + i) : ∀ n, xgL (mCr σ i f n) a b = xgL σ a b
  | 0 => rfl
  | n + 1 => by rw [mCr, xgL_n (fun z => h z.1), mCr_o h n]
theorem oCr_giv {br : Nat → Nat} {nb : Nat} {σ : xS} {i : Nat} {f g : Nat → Int32} {r : Int64} (hf : ∀ v, v < 8 → f v = g v) (h : oCr br nb σ i oNil) : oCr br nb (xsL (mCr σ i f 8) (61 + i) 1 r) i (fun v => (g v).toInt64, r, fun _ => false, none, none) := by
  refine ⟨fun u hu => ?_, ?_, ?_, ?_⟩
  · rw [xgL_n (by omega), mCr_F, if_pos hu, hf u hu]; rfl
  · rw [xgL_s]; rfl
  · rw [xgL_n (by omega), mCr_o (by omega)]; exact h.2.2.1
  · exact oLm_c h.2.2.2 (by rw [xgI_L, mCr_I]) (by rw [xgL_n (by omega), mCr_o (by omega)])
theorem mCt_L {σ : xS} {i : Nat} {g : Nat → Int64} {a b : Nat} (h : ¬ (a = 61 + i ∧ b = 1)) : ∀ n, xgL (mCt σ i g n) a b = xgL σ a b
  | 0 => rfl
  | n + 1 => by
    rw [mCt]
    split
    · rw [xgL_n h, mCt_L h n]
    · exact mCt_L h n
theorem mCt_R {σ : xS} {i : Nat} {g g' : Nat → Int64} (h0 : xgL σ (61 + i) 1 = 0) : ∀ n, (∀ k, k < n → g k = g' k) → xgL (mCt σ i g n) (61 + i) 1 = oMx g' n
  | 0, _ => h0
  | n + 1, h => by
    have ih := mCt_R (g := g) (g' := g') h0 n (fun k hk => h k (by omega))
    rw [mCt, oMx, ih, h n (by omega)]
    split
    · rw [xgL_s]
    · exact ih
theorem oCr_tab {br : Nat → Nat} {nb : Nat} {σ : xS} {i f g P : Nat} {x y : Int64} {G G' : Nat → Int64} (hf : f < 8) (hg : g < 8) (hG : ∀ k, k < P → G k = G' k) (h : oCr br nb σ i oNil) : oCr br nb (mCt (xsL (xsL σ (262 + i) f x) (262 + i) g y) i G P) i (fun v => if v = g then y else if v = f then x else 0, oMx G' P, fun _ => false, none, none) := by
  refine ⟨fun u hu => ?_, ?_, ?_, ?_⟩
  · rw [mCt_L (by omega), xgL_i, xgL_i, h.1 u hu]
    show _ = if u = g then y else if u = f then x else 0
    simp only [true_and]
    rfl
  · exact mCt_R (by rw [xgL_n (by omega), xgL_n (by omega)]; exact h.2.1) P hG
  · rw [mCt_L (by omega), xgL_n (by omega), xgL_n (by omega)]; exact h.2.2.1
  · exact oLm_c h.2.2.2 (by rw [mCt_I]; rfl) (by rw [mCt_L (by omega), xgL_n (by omega), xgL_n (by omega)])
theorem dDv_F {σ : xS} {i j v : Nat} {d : Int64} : ∀ n, xgL (dDv σ i j d n) (262 + i) v = if v < n then xgL σ (262 + j) v / d else xgL σ (262 + i) v
  | 0 => by simp [dDv]
  | n + 1 => by
    rw [dDv, xgL_i, dDv_F n]
    by_cases h : v = n
    · simp [h]
    · by_cases h2 : v < n
      · simp [h, h2, Nat.lt_succ_of_lt h2]
      · simp [h, h2, show ¬ v < n + 1 by omega]
theorem dDv_o {σ : xS} {i j a b : Nat} {d : Int64} (h : a ≠ 262 + i) : ∀ n, xgL (dDv σ i j d n) a b = xgL σ a b
  | 0 => rfl
  | n + 1 => by rw [dDv, xgL_n (fun z => h z.1), dDv_o h n]
theorem dDv_I {σ : xS} {i j a b : Nat} {d : Int64} : ∀ n, xgI (dDv σ i j d n) a b = xgI σ a b
  | 0 => rfl
  | n + 1 => by rw [dDv, xgI_L, dDv_I n]
theorem oCr_div {br : Nat → Nat} {nb : Nat} {σ : xS} {i j : Nat} {d : Int64} {w : oRow} (hi : i < 201) (hj : j < 201) (hij : j ≠ i) (h : oCr br nb σ i oNil) (hw : oCr br nb σ j w) : oCr br nb (dDone σ i j d) i (oDiv w d) := by
  unfold dDone
  have s1 : oCr br nb (xsL (dDv σ i j d 8) (61 + i) 1 (xFd (xgL (dDv σ i j d 8) (61 + j) 1) d)) i (fun v => oF w v / d, xFd (oR w) d, fun _ => false, none, none) := by
    refine ⟨fun u hu => ?_, ?_, ?_, ?_⟩
    · rw [xgL_n (by omega), dDv_F, if_pos hu, hw.1 u hu]; rfl
    · rw [xgL_s, dDv_o (by omega), hw.2.1]; rfl
    · rw [xgL_n (by omega), dDv_o (by omega)]; exact h.2.2.1
    · exact oLm_c h.2.2.2 (by rw [xgI_L, dDv_I]) (by rw [xgL_n (by omega), dDv_o (by omega)])
  have o1 : xOff i σ (xsL (dDv σ i j d 8) (61 + i) 1 (xFd (xgL (dDv σ i j d 8) (61 + j) 1) d)) := xOff.tr (dDv_off 8) xOff.L
  have w1 := oCr_off hi hj hij o1 hw
  have s2 := oCr_inhA s1 w1
  have w2 := oCr_off hi hj hij (rInhA_off (i := i) (j := j)) w1
  refine oCr_e (oCr_inhL s2 w2) (fun v _ => rfl) rfl (fun x => ?_) (oInh_0 _)
  show (false || oS w x) = oS w x
  rw [Bool.false_or]
theorem oCr_brn {br : Nat → Nat} {nb : Nat} {σ : xS} {i v : Nat} {p : Nat → Int32} (h1 : xgI σ 12 1 = p 1) (h2 : xgI σ 12 2 = p 2) (h3 : xgI σ 12 3 = p 3) (hv : p 1 = nI v) (hv8 : v < 8) (h : oCr br nb σ i oNil) : oCr br nb (dBrn σ i) i (oBrn p) := by
  have hb : oCr br nb (dBr1 σ i) i oNil := by
    unfold dBr1
    exact oCr_c (σ := σ) (fun v _ => rfl) rfl rfl (by rw [xgI_n (by omega), xgI_n (by omega), xgI_n (by omega)]) rfl h
  unfold dBrn oBrn
  rw [h1, h2, h3, hv, nI_clamp (by omega)]
  by_cases e : p 3 = 0
  · rw [if_pos e, if_pos e]
    exact oCr_sgl hv8 hb
  · rw [if_neg e, if_neg e]
    exact oCr_sgl hv8 hb
theorem oCr_jn {br : Nat → Nat} {nb : Nat} {σ : xS} {i a b c d x : Nat} {A B C E X : oRow} (hi : i < 201) (ha : a < 201) (hb : b < 201) (hc : c < 201) (hd : d < 201) (hx : x < 201) (ia : a ≠ i) (ib : b ≠ i) (ic : c ≠ i) (id : d ≠ i) (ix : x ≠ i) (h : oCr br nb σ i oNil) (hA : oCr br nb σ a A) (hB : oCr br nb σ b B) (hC : oCr br nb σ c C) (hE : oCr br nb σ d E) (hX : oCr br nb σ x X) : oCr br nb (dJf σ i a b c d x) i (oJn A B C E X) := by
  unfold dJf
  have s1 := oCr_addT (o := 1) hi hx (Ne.symm ix) h hX
  have o1 : xOff i σ (rAddT σ i x 1) := rAddT_off
  have s2 : oCr br nb (dJa (rAddT σ i x 1) i a b c d) i (oF X, oR X, fun y => (oS A y && !oS C y) || (oS B y && !oS E y), none, none) := by
    unfold dJa
    refine ⟨fun u hu => ?_, ?_, ?_, ?_⟩
    · rw [xgL_n (by omega), s1.1 u hu]
      show 0 + 1 * oF X u = oF X u
      rw [Int64.one_mul, Int64.zero_add]
    · rw [xgL_n (by omega), s1.2.1]
      show 0 + 1 * oR X = oR X
      rw [Int64.one_mul, Int64.zero_add]
    · rw [xgL_s]
      exact oMk_or (oMk_but (oCr_off hi ha ia o1 hA).2.2.1 (oCr_off hi hc ic o1 hC).2.2.1) (oMk_but (oCr_off hi hb ib o1 hB).2.2.1 (oCr_off hi hd id o1 hE).2.2.1)
    · exact oLm_c s1.2.2.2 rfl (by rw [xgL_n (by omega)])
  have o2 : xOff i σ (dJa (rAddT σ i x 1) i a b c d) := xOff.tr o1 xOff.L
  have s3 := oCr_inhL s2 (oCr_off hi ha ia o2 hA)
  have o3 := xOff.tr o2 (rInhL_off (i := i) (j := a))
  have s4 := oCr_inhL s3 (oCr_off hi hb ib o3 hB)
  refine oCr_e s4 (fun v _ => rfl) rfl (fun x => rfl) ?_
  show oInh (oInh none (oL A)) (oL B) = oInh (oL A) (oL B)
  rw [oInh_0]
theorem oCr_bet {br : Nat → Nat} {nb : Nat} {σ : xS} {i c p : Nat} {D : oMd} (hm : oCm D σ c) (hp : p < oNp D) (h : oCr br nb σ i oNil) : oCr br nb (dBet σ i c p) i (oBet D p) := by
  have e : xSum (xgI σ (c + 3)) (xgI σ (463 + p)) 8 = oCst D p := by
    have : ∀ n, n ≤ 8 → xSum (xgI σ (c + 3)) (xgI σ (463 + p)) n = xSum (oCo D) (oPl D p) n := by
      intro n
      induction n with
      | zero => intro _; rfl
      | succ n ih =>
        intro hn
        rw [xSum, xSum, ih (by omega), (hm.2.2.1 n (by omega)).2.2, hm.2.2.2.2.2.2 p hp n (by omega)]
    exact this 8 (by omega)
  unfold dBet
  rw [e]
  have s := oCr_giv (r := oCst D p - 1) (fun v hv => (hm.2.2.1 v hv).2.2) h
  refine ⟨fun u hu => ?_, ?_, ?_, oLm_set⟩
  · rw [rLimit_L (by omega), s.1 u hu]; rfl
  · rw [rLimit_L (by omega), s.2.1]; rfl
  · rw [rLimit_L (by omega)]; exact s.2.2.1
theorem dRest_e {σ : xS} {c j w : Nat} {D : oMd} {W : oRow} (hm : oCm D σ c) (hw : oWm D) (h1 : xgL σ (61 + j) 1 = oR W) (h2 : ∀ v, v < 8 → xgL σ (262 + j) v = oF W v) : ∀ n, n ≤ 8 → dRest σ c (oV D) j w n = oRst D W w n
  | 0, _ => h1
  | n + 1, h => by
    have el : mLo σ c (oV D) n = oLo D n := by
      unfold mLo
      by_cases hv : n < oV D
      · rw [if_pos hv, (hm.2.2.1 n (by omega)).1]
      · rw [if_neg hv, (hw.2.1 n (by omega)).1]
    have eh : mHi σ c (oV D) n = oHi D n := by
      unfold mHi
      by_cases hv : n < oV D
      · rw [if_pos hv, (hm.2.2.1 n (by omega)).2.1]
      · rw [if_neg hv, (hw.2.1 n (by omega)).2.1]
    rw [dRest, oRst, dRest_e hm hw h1 h2 n (by omega), el, eh, h2 n (by omega)]
theorem oCr_push {br : Nat → Nat} {nb : Nat} {σ : xS} {i j c w : Nat} {D : oMd} {W : oRow} (hi : i < 201) (hj : j < 201) (hij : j ≠ i) (hm : oCm D σ c) (hwm : oWm D) (hw : w < 8) (h : oCr br nb σ i oNil) (hW : oCr br nb σ j W) : (dPush σ i j c (oV D) w).1 = (oPush D W w).1 ∧ ((oPush D W w).1 = 0 → oCr br nb (dPush σ i j c (oV D) w).2 i (oPush D W w).2) := by
  have fin : ∀ f r : Int64, oCr br nb (rInhL (rInhA (rSingle σ i (nI w) f r) i j) i j) i (oSgl w f r (oS W) (oL W)) := by
    intro f r
    have s1 := oCr_sgl (f := f) (r := r) hw h
    have w1 := oCr_off hi hj hij (rSingle_off (i := i) (v := nI w) (f := f) (r := r)) hW
    have s2 := oCr_inhA s1 w1
    have w2 := oCr_off hi hj hij (rInhA_off (i := i) (j := j)) w1
    refine oCr_e (oCr_inhL s2 w2) (fun v _ => rfl) rfl (fun x => ?_) (oInh_0 _)
    show (false || oS W x) = oS W x
    rw [Bool.false_or]
  unfold dPush oPush
  rw [hW.1 w hw, dRest_e hm hwm hW.2.1 hW.1 8 (by omega)]
  by_cases e : oF W w = 0
  · rw [if_pos e, if_pos e]
    exact ⟨rfl, fun z => absurd z (show ¬ (5 : Int32) = 0 by decide)⟩
  · rw [if_neg e, if_neg e]
    by_cases e2 : oF W w ≤ 0
    · rw [if_pos e2, if_pos e2]
      exact ⟨rfl, fun _ => fin _ _⟩
    · rw [if_neg e2, if_neg e2]
      exact ⟨rfl, fun _ => fin _ _⟩
