/-! Model: c is 15 or 26 -/
def xMod (c : Nat) : Prop := c = 15 ∨ c = 26
def mF (c : Nat) : Nat := if c = 15 then 471 else 491
def mP (c : Nat) : Nat := if c = 15 then 511 else 519
def mQ (c : Nat) : Nat := if c = 15 then 515 else 523
theorem xk0 {c : Nat} (h : xMod c) : xck c = (2, 0) := by rcases h with rfl | rfl <;> rfl

theorem xk1 {c : Nat} (h : xMod c) : xck (c + 1) = (10, 8) := by rcases h with rfl | rfl <;> rfl
theorem xm4 {σ : xS} {c : Nat} (h : xMod c) : xrf σ c 4 = c + 1 := by rcases h with rfl | rfl <;> rfl
theorem xk2 {c : Nat} (h : xMod c) : xck (c + 2) = (10, 8) := by rcases h with rfl | rfl <;> rfl
theorem xm5 {σ : xS} {c : Nat} (h : xMod c) : xrf σ c 5 = c + 2 := by rcases h with rfl | rfl <;> rfl
theorem xk3 {c : Nat} (h : xMod c) : xck (c + 3) = (10, 8) := by rcases h with rfl | rfl <;> rfl
theorem xm6 {σ : xS} {c : Nat} (h : xMod c) : xrf σ c 6 = c + 3 := by rcases h with rfl | rfl <;> rfl
theorem xk4 {c : Nat} (h : xMod c) : xck (c + 4) = (14, 20) := by rcases h with rfl | rfl <;> rfl
theorem xm7 {σ : xS} {c : Nat} (h : xMod c) : xrf σ c 7 = c + 4 := by rcases h with rfl | rfl <;> rfl
theorem xk5 {c : Nat} (h : xMod c) : xck (c + 5) = (10, 20) := by rcases h with rfl | rfl <;> rfl
theorem xm8 {σ : xS} {c : Nat} (h : xMod c) : xrf σ c 8 = c + 5 := by rcases h with rfl | rfl <;> rfl
theorem xk6 {c : Nat} (h : xMod c) : xck (c + 6) = (10, 4) := by rcases h with rfl | rfl <;> rfl
theorem xm9 {σ : xS} {c : Nat} (h : xMod c) : xrf σ c 9 = c + 6 := by rcases h with rfl | rfl <;> rfl
theorem xk7 {c : Nat} (h : xMod c) : xck (c + 7) = (10, 4) := by rcases h with rfl | rfl <;> rfl
theorem xm10 {σ : xS} {c : Nat} (h : xMod c) : xrf σ c 10 = c + 7 := by rcases h with rfl | rfl <;> rfl
theorem xk8 {c : Nat} (h : xMod c) : xck (c + 8) = (10, 4) := by rcases h with rfl | rfl <;> rfl
theorem xm11 {σ : xS} {c : Nat} (h : xMod c) : xrf σ c 11 = c + 8 := by rcases h with rfl | rfl <;> rfl
theorem xk9 {c : Nat} (h : xMod c) : xck (c + 9) = (14, 4) := by rcases h with rfl | rfl <;> rfl
theorem xm12 {σ : xS} {c : Nat} (h : xMod c) : xrf σ c 12 = c + 9 := by rcases h with rfl | rfl <;> rfl
theorem xk10 {c : Nat} (h : xMod c) : xck (c + 10) = (14, 4) := by rcases h with rfl | rfl <;> rfl
theorem xm13 {σ : xS} {c : Nat} (h : xMod c) : xrf σ c 13 = c + 10 := by rcases h with rfl | rfl <;> rfl
theorem xrF {σ : xS} {c r : Nat} (h : xMod c) : xrf σ (c + 4) r = mF c + r := by rcases h with rfl | rfl <;> rfl
theorem xrP {σ : xS} {c t : Nat} (h : xMod c) : xrf σ (c + 9) t = mP c + t := by rcases h with rfl | rfl <;> rfl
theorem xrQ {σ : xS} {c t : Nat} (h : xMod c) : xrf σ (c + 10) t = mQ c + t := by rcases h with rfl | rfl <;> rfl
theorem xkF {c r : Nat} (h : xMod c) (hr : r < 20) : xck (mF c + r) = (10, 8) := by
  rcases h with rfl | rfl
  · exact (show xck (463 + (8 + r)) = _ from xck_pln (by omega)) ▸ (by show xck (471 + r) = xck (463 + (8 + r)); congr 1; omega)
  · exact (show xck (463 + (28 + r)) = _ from xck_pln (by omega)) ▸ (by show xck (491 + r) = xck (463 + (28 + r)); congr 1; omega)
theorem xkP {c t : Nat} (h : xMod c) (ht : t < 4) : xck (mP c + t) = (10, 20) := by
  rcases h with rfl | rfl
  · exact xck_prs (i := t) (by omega)
  · exact (show xck (511 + (8 + t)) = _ from xck_prs (by omega)) ▸ (by show xck (519 + t) = xck (511 + (8 + t)); congr 1; omega)
theorem xkQ {c t : Nat} (h : xMod c) (ht : t < 4) : xck (mQ c + t) = (10, 20) := by
  rcases h with rfl | rfl
  · exact (show xck (511 + (4 + t)) = _ from xck_prs (by omega)) ▸ (by show xck (515 + t) = xck (511 + (4 + t)); congr 1; omega)
  · exact (show xck (511 + (12 + t)) = _ from xck_prs (by omega)) ▸ (by show xck (523 + t) = xck (511 + (12 + t)); congr 1; omega)
theorem mF_b {c : Nat} (h : xMod c) : 471 ≤ mF c ∧ mF c ≤ 491 := by rcases h with rfl | rfl <;> decide
theorem mP_b {c : Nat} (h : xMod c) : 511 ≤ mP c ∧ mP c ≤ 519 := by rcases h with rfl | rfl <;> decide
theorem mQ_b {c : Nat} (h : xMod c) : 515 ≤ mQ c ∧ mQ c ≤ 523 := by rcases h with rfl | rfl <;> decide
theorem mC_b {c : Nat} (h : xMod c) : 15 ≤ c ∧ c ≤ 26 := by rcases h with rfl | rfl <;> decide
/-- the next number, put at a place -/
def tPut (σ : xS) (lo hi : Int32) (k j : Nat) : xS := xsI (tNext σ lo hi).2 k j (tNext σ lo hi).1
theorem tNext_o {σ : xS} {lo hi : Int32} {a : Nat} (b : Nat) (h : a ≠ 1) : xgI (tNext σ lo hi).2 a b = xgI σ a b := by
  unfold tNext
  split
  · rfl
  · split
    · exact xgI_n (fun q => h q.1)
    · split
      · exact xgI_n (fun q => h q.1)
      · exact xgI_n (fun q => h q.1)
theorem tPut_o {σ : xS} {lo hi : Int32} {k j a : Nat} (b : Nat) (h : a ≠ 1) (h2 : ¬ (a = k ∧ b = j)) : xgI (tPut σ lo hi k j) a b = xgI σ a b := by
  unfold tPut
  rw [xgI_n h2, tNext_o b h]
theorem tPut_s {σ : xS} {lo hi : Int32} {k j : Nat} : xgI (tPut σ lo hi k j) k j = (tNext σ lo hi).1 := xgI_s _ _ _ _
/-- the tape's numbers and its size stay -/
theorem tNext_n {σ : xS} {lo hi : Int32} : xgI (tNext σ lo hi).2 1 1 = xgI σ 1 1 := by
  unfold tNext
  split
  · rfl
  · split
    · exact xgI_n (by decide)
    · split
      · exact xgI_n (by decide)
      · exact xgI_n (by decide)
theorem tPut_n {σ : xS} {lo hi : Int32} {k j : Nat} (h : k ≠ 1) : xgI (tPut σ lo hi k j) 1 1 = xgI σ 1 1 := by
  unfold tPut
  rw [xgI_n (fun q => h q.1.symm), tNext_n]
theorem tBut_o {σ : xS} {o : Int32} {a : Nat} (b : Nat) (h : a ≠ 1) : xgI (tBut σ o) a b = xgI σ a b := by
  unfold tBut
  split
  · rfl
  · split
    · exact xgI_n (fun q => h q.1)
    · rfl
theorem tBut_n {σ : xS} {o : Int32} : xgI (tBut σ o) 1 1 = xgI σ 1 1 := by
  unfold tBut
  split
  · rfl
  · split
    · exact xgI_n (by decide)
    · rfl
theorem xIn_1 {x lo hi : Int32} (h : ¬ xIn x lo hi = 0) : ¬ x < lo ∧ ¬ hi < x := by
  unfold xIn at h
  by_cases h1 : x < lo
  · simp [h1] at h
  · by_cases h2 : hi < x
    · simp [h1, h2] at h
    · exact ⟨h1, h2⟩
theorem tNext_b {σ : xS} {lo hi : Int32} (h : lo ≤ hi) : lo ≤ (tNext σ lo hi).1 ∧ (tNext σ lo hi).1 ≤ hi := by
  unfold tNext
  split
  · exact ⟨Int32.le_iff_toInt_le.mpr (Int.le_refl _), h⟩
  · split
    · exact ⟨Int32.le_iff_toInt_le.mpr (Int.le_refl _), h⟩
    · split
      · exact ⟨Int32.le_iff_toInt_le.mpr (Int.le_refl _), h⟩
      · rename_i hq
        exact ⟨xi32_nlt.mp (xIn_1 hq).1, xi32_nlt.mp (xIn_1 hq).2⟩
theorem tNext_nat {σ : xS} {a b : Nat} (h : a ≤ b) (hb : b < 2 ^ 31) : ∃ n, a ≤ n ∧ n ≤ b ∧ (tNext σ (nI a) (nI b)).1 = nI n := by
  obtain ⟨h1, h2⟩ := @tNext_b σ (nI a) (nI b) (nI_le h hb)
  have h0 : ¬ (tNext σ (nI a) (nI b)).1 < 0 := by
    have := nI_pos' (n := a) (by omega)
    rw [Int32.lt_iff_toInt_lt, Int32.toInt_zero]
    rw [Int32.le_iff_toInt_le, Int32.toInt_zero] at this
    rw [Int32.le_iff_toInt_le] at h1
    omega
  obtain ⟨j, hj, ej⟩ := nI_of h0
  rw [ej] at h1 h2
  exact ⟨j, (nI_leI (by omega) hj).mp h1, (nI_leI hj hb).mp h2, ej⟩
def mVar (σ : xS) (c V v : Nat) : xS := if v < V then tPut (tPut (tPut σ (-1000) 1000 (c + 1) v) (xgI (tPut σ (-1000) 1000 (c + 1) v) (c + 1) v) 1000 (c + 2) v) (-100) 100 (c + 3) v else xsI (xsI (xsI σ (c + 1) v 0) (c + 2) v 0) (c + 3) v 0
def mVs (σ : xS) (c V : Nat) : Nat → xS
  | 0 => σ
  | n + 1 => mVar (mVs σ c V n) c V n
def mFs (σ : xS) (c V r : Nat) : Nat → xS
  | 0 => σ
  | n + 1 => if n < V then tPut (mFs σ c V r n) (-100) 100 (mF c + r) n else xsI (mFs σ c V r n) (mF c + r) n 0
def mRs (σ : xS) (c V : Nat) : Nat → xS
  | 0 => σ
  | r + 1 => tPut (mFs (mRs σ c V r) c V r 8) (-100000) 100000 (c + 5) r
def mPs (σ : xS) (c t : Nat) : Nat → xS
  | 0 => σ
  | n + 1 => tPut (tPut (mPs σ c t n) (-1000) 1000 (mP c + t) n) (-1000) 1000 (mQ c + t) n
def mT3 (σ : xS) (c V t : Nat) : xS := tPut (tPut (tBut (tPut σ 0 (nI V - 1) (c + 6) t) (xgI (tPut σ 0 (nI V - 1) (c + 6) t) (c + 6) t)) 0 (nI V - 1) (c + 7) t) 1 20 (c + 8) t
def mTab (σ : xS) (c V t : Nat) : xS := mPs (mT3 σ c V t) c t (xgI (mT3 σ c V t) (c + 8) t).toNatClampNeg
def mTs (σ : xS) (c V : Nat) : Nat → xS
  | 0 => σ
  | n + 1 => mTab (mTs σ c V n) c V n
/-- what these leave alone -/
theorem mVar_o {σ : xS} {c V v a : Nat} (b : Nat) (h : a ≠ 1) (h1 : a ≠ c + 1) (h2 : a ≠ c + 2) (h3 : a ≠ c + 3) : xgI (mVar σ c V v) a b = xgI σ a b := by
  unfold mVar
  split
  · rw [tPut_o b h (fun q => h3 q.1), tPut_o b h (fun q => h2 q.1), tPut_o b h (fun q => h1 q.1)]
  · rw [xgI_n (fun q => h3 q.1), xgI_n (fun q => h2 q.1), xgI_n (fun q => h1 q.1)]
theorem mVar_n {σ : xS} {c V v : Nat} (hc : 15 ≤ c) : xgI (mVar σ c V v) 1 1 = xgI σ 1 1 := by
  unfold mVar
  split
  · rw [tPut_n (by omega), tPut_n (by omega), tPut_n (by omega)]
  · rw [xgI_n (by omega), xgI_n (by omega), xgI_n (by omega)]
theorem mVs_o {σ : xS} {c V a : Nat} (b : Nat) (h : a ≠ 1) (h1 : a ≠ c + 1) (h2 : a ≠ c + 2) (h3 : a ≠ c + 3) : ∀ n, xgI (mVs σ c V n) a b = xgI σ a b
  | 0 => rfl
  | n + 1 => by rw [mVs, mVar_o b h h1 h2 h3, mVs_o b h h1 h2 h3 n]
theorem mVs_n {σ : xS} {c V : Nat} (hc : 15 ≤ c) : ∀ n, xgI (mVs σ c V n) 1 1 = xgI σ 1 1
  | 0 => rfl
  | n + 1 => by rw [mVs, mVar_n hc, mVs_n hc n]
theorem mFs_o {σ : xS} {c V r a : Nat} (b : Nat) (h : a ≠ 1) (h1 : a ≠ mF c + r) : ∀ n, xgI (mFs σ c V r n) a b = xgI σ a b
  | 0 => rfl
  | n + 1 => by
    rw [mFs]
    split
    · rw [tPut_o b h (fun q => h1 q.1), mFs_o b h h1 n]
    · rw [xgI_n (fun q => h1 q.1), mFs_o b h h1 n]
theorem mFs_n {σ : xS} {c V r : Nat} (hc : 471 ≤ mF c) : ∀ n, xgI (mFs σ c V r n) 1 1 = xgI σ 1 1
  | 0 => rfl
  | n + 1 => by
    rw [mFs]
    split
    · rw [tPut_n (by omega), mFs_n hc n]
    · rw [xgI_n (by omega), mFs_n hc n]
theorem mRs_o {σ : xS} {c V a : Nat} (b : Nat) (h : a ≠ 1) (h1 : a < mF c ∨ mF c + 20 ≤ a) (h2 : a ≠ c + 5) : ∀ n, n ≤ 20 → xgI (mRs σ c V n) a b = xgI σ a b
  | 0, _ => rfl
  | n + 1, hn => by rw [mRs, tPut_o b h (fun q => h2 q.1), mFs_o b h (by omega), mRs_o b h h1 h2 n (by omega)]
theorem mRs_n {σ : xS} {c V : Nat} (hc : 471 ≤ mF c) : ∀ n, xgI (mRs σ c V n) 1 1 = xgI σ 1 1
  | 0 => rfl
  | n + 1 => by rw [mRs, tPut_n (by omega), mFs_n hc, mRs_n hc n]
theorem mPs_o {σ : xS} {c t a : Nat} (b : Nat) (h : a ≠ 1) (h1 : a ≠ mP c + t) (h2 : a ≠ mQ c + t) : ∀ n, xgI (mPs σ c t n) a b = xgI σ a b
  | 0 => rfl
  | n + 1 => by rw [mPs, tPut_o b h (fun q => h2 q.1), tPut_o b h (fun q => h1 q.1), mPs_o b h h1 h2 n]
theorem mPs_n {σ : xS} {c t : Nat} (hp : 511 ≤ mP c) (hq : 511 ≤ mQ c) : ∀ n, xgI (mPs σ c t n) 1 1 = xgI σ 1 1
  | 0 => rfl
  | n + 1 => by rw [mPs, tPut_n (by omega), tPut_n (by omega), mPs_n hp hq n]
theorem mT3_o {σ : xS} {c V t a : Nat} (b : Nat) (h : a ≠ 1) (h1 : a ≠ c + 6) (h2 : a ≠ c + 7) (h3 : a ≠ c + 8) : xgI (mT3 σ c V t) a b = xgI σ a b := by
  unfold mT3
  rw [tPut_o b h (fun q => h3 q.1), tPut_o b h (fun q => h2 q.1), tBut_o b h, tPut_o b h (fun q => h1 q.1)]
theorem mT3_n {σ : xS} {c V t : Nat} : xgI (mT3 σ c V t) 1 1 = xgI σ 1 1 := by
  unfold mT3
  rw [tPut_n (by omega), tPut_n (by omega), tBut_n, tPut_n (by omega)]
theorem mTab_o {σ : xS} {c V t a : Nat} (b : Nat) (h : a ≠ 1) (h1 : a ≠ c + 6) (h2 : a ≠ c + 7) (h3 : a ≠ c + 8) (h4 : a ≠ mP c + t) (h5 : a ≠ mQ c + t) : xgI (mTab σ c V t) a b = xgI σ a b := by
  unfold mTab
  rw [mPs_o b h h4 h5, mT3_o b h h1 h2 h3]
theorem mTs_o {σ : xS} {c V a : Nat} (b : Nat) (h : a ≠ 1) (h1 : a ≠ c + 6) (h2 : a ≠ c + 7) (h3 : a ≠ c + 8) (h4 : a < mP c ∨ mP c + 4 ≤ a) (h5 : a < mQ c ∨ mQ c + 4 ≤ a) : ∀ n, n ≤ 4 → xgI (mTs σ c V n) a b = xgI σ a b
  | 0, _ => rfl
  | n + 1, hn => by rw [mTs, mTab_o b h h1 h2 h3 (by omega) (by omega), mTs_o b h h1 h2 h3 h4 h5 n (by omega)]
theorem mTs_n {σ : xS} {c V : Nat} (hp : 511 ≤ mP c) (hq : 511 ≤ mQ c) : ∀ n, xgI (mTs σ c V n) 1 1 = xgI σ 1 1
  | 0 => rfl
  | n + 1 => by rw [mTs, mTab, mPs_n hp hq, mT3_n, mTs_n hp hq n]

set_option maxHeartbeats 4000000 in
set_option maxRecDepth 100000 in
theorem c_X2_fillVariable {l : Launch} {G : xG} {σ : xS} {c : Nat} (hm : xMod c) {V v : Nat} (hV : xgI σ c 0 = nI V) (hV8 : V ≤ 8) (hv : v < 8) : xFv l G yX2_fillVariable cX2_fillVariable 4 (Option.none : Option Jvm.ClassFile.FieldType) 2 45 [.ref (G.2.1 c), .ref (G.2.1 1), .int (nI v)] σ (mVar σ c V v) := by
  refine xM.of (by decide) (Nat.le_of_ble_eq_true rfl) (fun pp ee ss mm aa bel met kk X => ?_)
  have X : xC pp ss mm met kk cX2_fillVariable 4 RX2 (Option.none : Option Jvm.ClassFile.FieldType) G := X
  show xW pp l ee { frames := 2, cells := 0, slots := 0, locals := 45 } ss mm aa bel met kk 4 G 0 0 (xQ bel G (fun r t => r = none ∧ t = (mVar σ c V v)) aa ss) 0 [(0, .ref (G.2.1 c)), (1, .ref (G.2.1 1)), (2, .int (nI v))] [] σ
  refine x_iload_n X dX2_fillVariable_0 rfl ?_
  refine x_aload_n X dX2_fillVariable_1 rfl ?_
  refine gf_X2_53 X dX2_fillVariable_2 (xk0 hm) ?_
  rw [hV]
  refine x_icmpge (tgt := 12) X dX2_fillVariable_5 (by decide) (fun h5 => ?_) (fun h5 => ?_)
  · skip
    rw [xb_ge (x := nI v) (y := nI V) (a := v) (b := V) rfl rfl (by omega) (by omega)] at h5
    refine x_iconst (v := 0) X dX2_fillVariable_12 (by decide) ?_
    refine x_istore_n (lv' := [(3, .int 0), (0, .ref (G.2.1 c)), (1, .ref (G.2.1 1)), (2, .int (nI v))]) X dX2_fillVariable_13 rfl (by decide) rfl ?_
    refine x_aload_n X dX2_fillVariable_14 rfl ?_
    refine gf_X2_9 (k' := c + 1) X dX2_fillVariable_15 (xk0 hm) (xm4 hm) ?_
    refine x_iload_n X dX2_fillVariable_18 rfl ?_
    refine x_iload_n X dX2_fillVariable_19 rfl ?_
    refine x_ifeq (tgt := 36) X dX2_fillVariable_20 (by decide) (fun h20 => ?_) (fun h20 => ?_)
    · skip
      refine x_iconst (v := 0) X dX2_fillVariable_36 (by decide) ?_
      refine x_iastN X dX2_fillVariable_37 (xk1 hm) (by omega) (by omega) ?_
      refine x_aload_n X dX2_fillVariable_38 rfl ?_
      refine gf_X2_15 (k' := c + 2) X dX2_fillVariable_39 (xk0 hm) (xm5 hm) ?_
      refine x_iload_n X dX2_fillVariable_42 rfl ?_
      refine x_iload_n X dX2_fillVariable_43 rfl ?_
      refine x_ifeq (tgt := 63) X dX2_fillVariable_44 (by decide) (fun h44 => ?_) (fun h44 => ?_)
      · skip
        refine x_iconst (v := 0) X dX2_fillVariable_63 (by decide) ?_
        refine x_iastN X dX2_fillVariable_64 (xk2 hm) (by omega) (by omega) ?_
        refine x_aload_n X dX2_fillVariable_65 rfl ?_
        refine gf_X2_18 (k' := c + 3) X dX2_fillVariable_66 (xk0 hm) (xm6 hm) ?_
        refine x_iload_n X dX2_fillVariable_69 rfl ?_
        refine x_iload_n X dX2_fillVariable_70 rfl ?_
        refine x_ifeq (tgt := 85) X dX2_fillVariable_71 (by decide) (fun h71 => ?_) (fun h71 => ?_)
        · skip
          refine x_iconst (v := 0) X dX2_fillVariable_85 (by decide) ?_
          refine x_iastN X dX2_fillVariable_86 (xk3 hm) (by omega) (by omega) ?_
          exact x_vret X dX2_fillVariable_87 (⟨rfl, by unfold mVar; first | rw [if_pos (by omega)]; rfl | rw [if_neg (by omega)]⟩)
        · skip
          exact absurd (by decide) h71
      · skip
        exact absurd (by decide) h44
    · skip
      exact absurd (by decide) h20
  · skip
    rw [xb_ge (x := nI v) (y := nI V) (a := v) (b := V) rfl rfl (by omega) (by omega)] at h5
    refine x_iconst (v := 1) X dX2_fillVariable_8 (by decide) ?_
    refine x_goto (tgt := 13) X dX2_fillVariable_9 (by decide) ?_
    refine x_istore_n (lv' := [(3, .int 1), (0, .ref (G.2.1 c)), (1, .ref (G.2.1 1)), (2, .int (nI v))]) X dX2_fillVariable_13 rfl (by decide) rfl ?_
    refine x_aload_n X dX2_fillVariable_14 rfl ?_
    refine gf_X2_9 (k' := c + 1) X dX2_fillVariable_15 (xk0 hm) (xm4 hm) ?_
    refine x_iload_n X dX2_fillVariable_18 rfl ?_
    refine x_iload_n X dX2_fillVariable_19 rfl ?_
    refine x_ifeq (tgt := 36) X dX2_fillVariable_20 (by decide) (fun h20 => ?_) (fun h20 => ?_)
    · skip
      exact absurd h20 (by decide)
    · skip
      refine x_aload_n X dX2_fillVariable_23 rfl ?_
      refine x_sipush (v := (-1000)) X dX2_fillVariable_24 (by decide) ?_
      refine x_sipush (v := 1000) X dX2_fillVariable_27 (by decide) ?_
      refine cv_X2_49 X c_X7_next dX2_fillVariable_30 rfl ⟨by decide, by decide, by decide, by decide⟩ rfl rfl (Nat.le_of_ble_eq_true rfl) (xk_i ?_)
      refine x_goto (tgt := 37) X dX2_fillVariable_33 (by decide) ?_
      refine x_iastN X dX2_fillVariable_37 (xk1 hm) (by omega) (by omega) ?_
      refine x_aload_n X dX2_fillVariable_38 rfl ?_
      refine gf_X2_15 (k' := c + 2) X dX2_fillVariable_39 (xk0 hm) (xm5 hm) ?_
      refine x_iload_n X dX2_fillVariable_42 rfl ?_
      refine x_iload_n X dX2_fillVariable_43 rfl ?_
      refine x_ifeq (tgt := 63) X dX2_fillVariable_44 (by decide) (fun h44 => ?_) (fun h44 => ?_)
      · skip
        exact absurd h44 (by decide)
      · skip
        refine x_aload_n X dX2_fillVariable_47 rfl ?_
        refine x_aload_n X dX2_fillVariable_48 rfl ?_
        refine gf_X2_9 (k' := c + 1) X dX2_fillVariable_49 (xk0 hm) (xm4 hm) ?_
        refine x_iload_n X dX2_fillVariable_52 rfl ?_
        refine x_ialdN X dX2_fillVariable_53 (xk1 hm) (by omega) (by omega) ?_
        refine x_sipush (v := 1000) X dX2_fillVariable_54 (by decide) ?_
        refine cv_X2_49 X c_X7_next dX2_fillVariable_57 rfl ⟨by decide, by decide, by decide, by decide⟩ rfl rfl (Nat.le_of_ble_eq_true rfl) (xk_i ?_)
        refine x_goto (tgt := 64) X dX2_fillVariable_60 (by decide) ?_
        refine x_iastN X dX2_fillVariable_64 (xk2 hm) (by omega) (by omega) ?_
        refine x_aload_n X dX2_fillVariable_65 rfl ?_
        refine gf_X2_18 (k' := c + 3) X dX2_fillVariable_66 (xk0 hm) (xm6 hm) ?_
        refine x_iload_n X dX2_fillVariable_69 rfl ?_
        refine x_iload_n X dX2_fillVariable_70 rfl ?_
        refine x_ifeq (tgt := 85) X dX2_fillVariable_71 (by decide) (fun h71 => ?_) (fun h71 => ?_)
        · skip
          exact absurd h71 (by decide)
        · skip
          refine x_aload_n X dX2_fillVariable_74 rfl ?_
          refine x_bipush (v := (-100)) X dX2_fillVariable_75 (by decide) ?_
          refine x_bipush (v := 100) X dX2_fillVariable_77 (by decide) ?_
          refine cv_X2_49 X c_X7_next dX2_fillVariable_79 rfl ⟨by decide, by decide, by decide, by decide⟩ rfl rfl (Nat.le_of_ble_eq_true rfl) (xk_i ?_)
          refine x_goto (tgt := 86) X dX2_fillVariable_82 (by decide) ?_
          refine x_iastN X dX2_fillVariable_86 (xk3 hm) (by omega) (by omega) ?_
          exact x_vret X dX2_fillVariable_87 (⟨rfl, by unfold mVar; first | rw [if_pos (by omega)]; rfl | rw [if_neg (by omega)]⟩)

set_option maxHeartbeats 4000000 in
set_option maxRecDepth 100000 in
theorem c_X2_fillTable {l : Launch} {G : xG} {σ : xS} {c : Nat} (hm : xMod c) {V t0 : Nat} (hV : xgI σ c 0 = nI V) (hV8 : V ≤ 8) (ht : t0 < 4) : xFv l G yX2_fillTable cX2_fillTable 4 (Option.none : Option Jvm.ClassFile.FieldType) 3 68 [.ref (G.2.1 c), .ref (G.2.1 1), .int (nI t0)] σ (mTab σ c V t0) := by
  refine xM.of (by decide) (Nat.le_of_ble_eq_true rfl) (fun pp ee ss mm aa bel met kk X => ?_)
  have X : xC pp ss mm met kk cX2_fillTable 4 RX2 (Option.none : Option Jvm.ClassFile.FieldType) G := X
  show xW pp l ee { frames := 3, cells := 0, slots := 0, locals := 68 } ss mm aa bel met kk 4 G 0 0 (xQ bel G (fun r t => r = none ∧ t = (mTab σ c V t0)) aa ss) 0 [(0, .ref (G.2.1 c)), (1, .ref (G.2.1 1)), (2, .int (nI t0))] [] σ
  refine x_aload_n X dX2_fillTable_0 rfl ?_
  refine gf_X2_29 (k' := c + 6) X dX2_fillTable_1 (xk0 hm) (xm9 hm) ?_
  refine x_iload_n X dX2_fillTable_4 rfl ?_
  refine x_aload_n X dX2_fillTable_5 rfl ?_
  refine x_iconst (v := 0) X dX2_fillTable_6 (by decide) ?_
  refine x_aload_n X dX2_fillTable_7 rfl ?_
  refine gf_X2_53 X dX2_fillTable_8 (xk0 hm) ?_
  rw [hV]
  refine x_iconst (v := 1) X dX2_fillTable_11 (by decide) ?_
  refine x_isub X dX2_fillTable_12 ?_
  refine cv_X2_49 X c_X7_next dX2_fillTable_13 rfl ⟨by decide, by decide, by decide, by decide⟩ rfl rfl (Nat.le_of_ble_eq_true rfl) (xk_i ?_)
  refine x_iastN X dX2_fillTable_16 (xk6 hm) (by omega) (by omega) ?_
  refine x_aload_n X dX2_fillTable_17 rfl ?_
  refine gf_X2_32 (k' := c + 7) X dX2_fillTable_18 (xk0 hm) (xm10 hm) ?_
  refine x_iload_n X dX2_fillTable_21 rfl ?_
  refine x_aload_n X dX2_fillTable_22 rfl ?_
  refine x_aload_n X dX2_fillTable_23 rfl ?_
  refine gf_X2_29 (k' := c + 6) X dX2_fillTable_24 (xk0 hm) (xm9 hm) ?_
  refine x_iload_n X dX2_fillTable_27 rfl ?_
  refine x_ialdN X dX2_fillTable_28 (xk6 hm) (by omega) (by omega) ?_
  refine x_iconst (v := 0) X dX2_fillTable_29 (by decide) ?_
  refine x_aload_n X dX2_fillTable_30 rfl ?_
  refine gf_X2_53 X dX2_fillTable_31 (xk0 hm) ?_
  rw [show xgI (xsI (tNext σ 0 (nI V - 1)).2 (c + 6) t0 (tNext σ 0 (nI V - 1)).1) c 0 = nI V from (tPut_o (σ := σ) (lo := 0) (hi := nI V - 1) (k := c + 6) (j := t0) 0 (by have := mC_b hm; omega) (by omega)).trans hV]
  refine x_iconst (v := 1) X dX2_fillTable_34 (by decide) ?_
  refine x_isub X dX2_fillTable_35 ?_
  refine cv_X2_83 X c_X7_nextBut dX2_fillTable_36 rfl ⟨by decide, by decide, by decide, by decide⟩ rfl rfl (Nat.le_of_ble_eq_true rfl) (xk_i ?_)
  refine x_iastN X dX2_fillTable_39 (xk7 hm) (by omega) (by omega) ?_
  refine x_aload_n X dX2_fillTable_40 rfl ?_
  refine gf_X2_35 (k' := c + 8) X dX2_fillTable_41 (xk0 hm) (xm11 hm) ?_
  refine x_iload_n X dX2_fillTable_44 rfl ?_
  refine x_aload_n X dX2_fillTable_45 rfl ?_
  refine x_iconst (v := 1) X dX2_fillTable_46 (by decide) ?_
  refine x_bipush (v := 20) X dX2_fillTable_47 (by decide) ?_
  refine cv_X2_49 X c_X7_next dX2_fillTable_49 rfl ⟨by decide, by decide, by decide, by decide⟩ rfl rfl (Nat.le_of_ble_eq_true rfl) (xk_i ?_)
  refine x_iastN X dX2_fillTable_52 (xk8 hm) (by omega) (by omega) ?_
  obtain ⟨P, hP1, hP20, hP⟩ := @tNext_nat (tPut (tBut (tPut σ 0 (nI V - 1) (c + 6) t0) (xgI (tPut σ 0 (nI V - 1) (c + 6) t0) (c + 6) t0)) 0 (nI V - 1) (c + 7) t0) 1 20 (by omega) (by omega)
  have hPP : xgI (mT3 σ c V t0) (c + 8) t0 = nI P := tPut_s.trans hP
  refine x_iconst (v := 0) X dX2_fillTable_53 (by decide) ?_
  refine x_istore_n (lv' := [(3, .int 0), (0, .ref (G.2.1 c)), (1, .ref (G.2.1 1)), (2, .int (nI t0))]) X dX2_fillTable_54 rfl (by decide) rfl ?_
  have lp55 : ∀ (NN55 : Nat) (n : Nat) (hn : n ≤ P), P - n = NN55 → xW pp l ee { frames := 3, cells := 0, slots := 0, locals := 68 } ss mm aa bel met kk 4 G 0 0 (xQ bel G (fun r t => r = none ∧ t = (mTab σ c V t0)) aa ss) 55 [(3, .int (nI n)), (2, .int (nI t0)), (1, .ref (G.2.1 1)), (0, .ref (G.2.1 c))] [] (mPs (mT3 σ c V t0) c t0 n) := by
    intro NN55
    induction NN55 using Nat.strongRecOn with
    | ind NN55 ih55 =>
      intro n hn hNN55
      refine x_iload_n X dX2_fillTable_55 rfl ?_
      refine x_bipush (v := 20) X dX2_fillTable_56 (by decide) ?_
      refine x_icmpge (tgt := 113) X dX2_fillTable_58 (by decide) (fun h58 => ?_) (fun h58 => ?_)
      · skip
        rw [xb_ge (x := nI n) (y := 20) (a := n) (b := 20) rfl rfl (by omega) (by omega)] at h58
        obtain rfl : n = P := by omega
        exact x_vret X dX2_fillTable_113 (⟨rfl, by unfold mTab; rw [hPP, nI_clamp (by omega)]⟩)
      · skip
        rw [xb_ge (x := nI n) (y := 20) (a := n) (b := 20) rfl rfl (by omega) (by omega)] at h58
        refine x_iload_n X dX2_fillTable_61 rfl ?_
        refine x_aload_n X dX2_fillTable_62 rfl ?_
        refine gf_X2_35 (k' := c + 8) X dX2_fillTable_63 (xk0 hm) (xm11 hm) ?_
        refine x_iload_n X dX2_fillTable_66 rfl ?_
        refine x_ialdN X dX2_fillTable_67 (xk8 hm) (by omega) (by omega) ?_
        rw [show xgI (mPs (mT3 σ c V t0) c t0 n) (c + 8) t0 = nI P from (mPs_o t0 (by have := mC_b hm; omega) (by have := mC_b hm; have := mP_b hm; omega) (by have := mC_b hm; have := mQ_b hm; omega) n).trans hPP]
        refine x_icmpge (tgt := 113) X dX2_fillTable_68 (by decide) (fun h68 => ?_) (fun h68 => ?_)
        · skip
          rw [xb_ge (x := nI n) (y := nI P) (a := n) (b := P) rfl rfl (by omega) (by omega)] at h68
          obtain rfl : n = P := by omega
          exact x_vret X dX2_fillTable_113 (⟨rfl, by unfold mTab; rw [hPP, nI_clamp (by omega)]⟩)
        · skip
          rw [xb_ge (x := nI n) (y := nI P) (a := n) (b := P) rfl rfl (by omega) (by omega)] at h68
          refine x_aload_n X dX2_fillTable_71 rfl ?_
          refine gf_X2_38 (k' := c + 9) X dX2_fillTable_72 (xk0 hm) (xm12 hm) ?_
          refine x_iload_n X dX2_fillTable_75 rfl ?_
          refine x_aaldN (k' := mP c + t0) X dX2_fillTable_76 (xk9 hm) (by omega) (by omega) (xrP hm) ?_
          refine x_iload_n X dX2_fillTable_77 rfl ?_
          refine x_aload_n X dX2_fillTable_78 rfl ?_
          refine x_sipush (v := (-1000)) X dX2_fillTable_79 (by decide) ?_
          refine x_sipush (v := 1000) X dX2_fillTable_82 (by decide) ?_
          refine cv_X2_49 X c_X7_next dX2_fillTable_85 rfl ⟨by decide, by decide, by decide, by decide⟩ rfl rfl (Nat.le_of_ble_eq_true rfl) (xk_i ?_)
          refine x_iastN X dX2_fillTable_88 (xkP hm ht) (by omega) (by omega) ?_
          refine x_aload_n X dX2_fillTable_89 rfl ?_
          refine gf_X2_41 (k' := c + 10) X dX2_fillTable_90 (xk0 hm) (xm13 hm) ?_
          refine x_iload_n X dX2_fillTable_93 rfl ?_
          refine x_aaldN (k' := mQ c + t0) X dX2_fillTable_94 (xk10 hm) (by omega) (by omega) (xrQ hm) ?_
          refine x_iload_n X dX2_fillTable_95 rfl ?_
          refine x_aload_n X dX2_fillTable_96 rfl ?_
          refine x_sipush (v := (-1000)) X dX2_fillTable_97 (by decide) ?_
          refine x_sipush (v := 1000) X dX2_fillTable_100 (by decide) ?_
          refine cv_X2_49 X c_X7_next dX2_fillTable_103 rfl ⟨by decide, by decide, by decide, by decide⟩ rfl rfl (Nat.le_of_ble_eq_true rfl) (xk_i ?_)
          refine x_iastN X dX2_fillTable_106 (xkQ hm ht) (by omega) (by omega) ?_
          refine x_iinc (k := 0) (v := nI (n + 1)) (lv' := [(3, .int (nI (n + 1))), (2, .int (nI t0)), (1, .ref (G.2.1 1)), (0, .ref (G.2.1 c))]) X dX2_fillTable_107 rfl (xn_inc _) (by decide) rfl ?_
          refine x_goto (tgt := 55) X dX2_fillTable_110 (by decide) ?_
          refine x_pick [0, 1, 2, 3] rfl ?_
          exact ih55 _ (by omega) (n + 1) (by omega) rfl
  refine x_pick [0, 3, 2, 1] rfl ?_
  exact lp55 _ 0 (by omega) rfl

set_option maxHeartbeats 4000000 in
set_option maxRecDepth 100000 in
theorem c_X2_hasVariable {l : Launch} {G : xG} {σ : xS} {c : Nat} (hm : xMod c) {q : Int32} {V : Nat} (hV : xgI σ c 0 = nI V) (hV8 : V ≤ 8) : xFi l G yX2_hasVariable cX2_hasVariable 2 (Option.some Jvm.ClassFile.FieldType.boolean) 0 0 [.ref (G.2.1 c), .int q] σ (xB (xLt q V)) (σ) := by
  refine xM.of (by decide) (Nat.le_of_ble_eq_true rfl) (fun pp ee ss mm aa bel met kk X => ?_)
  have X : xC pp ss mm met kk cX2_hasVariable 2 RX2 (Option.some Jvm.ClassFile.FieldType.boolean) G := X
  show xW pp l ee { frames := 0, cells := 0, slots := 0, locals := 0 } ss mm aa bel met kk 2 G 0 0 (xQ bel G (fun r t => r = some (.int (xB (xLt q V))) ∧ t = (σ)) aa ss) 0 [(0, .ref (G.2.1 c)), (1, .int q)] [] σ
  refine x_iload_n X dX2_hasVariable_0 rfl ?_
  refine x_iflt (tgt := 22) X dX2_hasVariable_1 (by decide) (fun h1 => ?_) (fun h1 => ?_)
  · skip
    refine x_iconst (v := 0) X dX2_hasVariable_22 (by decide) ?_
    exact x_zret X dX2_hasVariable_23 (Or.inl rfl) (xp_i (by first | exact (xB_t (xLt_t h1 h9 (by omega))).symm | exact (xB_f (xLt_f1 h1 (by omega))).symm | exact (xB_f (xLt_f2 h9 (by omega) (by omega))).symm | exact (xB_f (xLt_f2 h15 (by omega) (by decide))).symm) (by first | rfl | simp [*]))
  · skip
    refine x_iload_n X dX2_hasVariable_4 rfl ?_
    refine x_aload_n X dX2_hasVariable_5 rfl ?_
    refine gf_X2_53 X dX2_hasVariable_6 (xk0 hm) ?_
    rw [hV]
    refine x_icmpge (tgt := 22) X dX2_hasVariable_9 (by decide) (fun h9 => ?_) (fun h9 => ?_)
    · skip
      refine x_iconst (v := 0) X dX2_hasVariable_22 (by decide) ?_
      exact x_zret X dX2_hasVariable_23 (Or.inl rfl) (xp_i (by first | exact (xB_t (xLt_t h1 h9 (by omega))).symm | exact (xB_f (xLt_f1 h1 (by omega))).symm | exact (xB_f (xLt_f2 h9 (by omega) (by omega))).symm | exact (xB_f (xLt_f2 h15 (by omega) (by decide))).symm) (by first | rfl | simp [*]))
    · skip
      refine x_iload_n X dX2_hasVariable_12 rfl ?_
      refine x_bipush (v := 8) X dX2_hasVariable_13 (by decide) ?_
      refine x_icmpge (tgt := 22) X dX2_hasVariable_15 (by decide) (fun h15 => ?_) (fun h15 => ?_)
      · skip
        refine x_iconst (v := 0) X dX2_hasVariable_22 (by decide) ?_
        exact x_zret X dX2_hasVariable_23 (Or.inl rfl) (xp_i (by first | exact (xB_t (xLt_t h1 h9 (by omega))).symm | exact (xB_f (xLt_f1 h1 (by omega))).symm | exact (xB_f (xLt_f2 h9 (by omega) (by omega))).symm | exact (xB_f (xLt_f2 h15 (by omega) (by decide))).symm) (by first | rfl | simp [*]))
      · skip
        refine x_iconst (v := 1) X dX2_hasVariable_18 (by decide) ?_
        refine x_goto (tgt := 23) X dX2_hasVariable_19 (by decide) ?_
        exact x_zret X dX2_hasVariable_23 (Or.inr rfl) (xp_i (by first | exact (xB_t (xLt_t h1 h9 (by omega))).symm | exact (xB_f (xLt_f1 h1 (by omega))).symm | exact (xB_f (xLt_f2 h9 (by omega) (by omega))).symm | exact (xB_f (xLt_f2 h15 (by omega) (by decide))).symm) (by first | rfl | simp [*]))

set_option maxHeartbeats 4000000 in
set_option maxRecDepth 100000 in
theorem c_X2_hasRule {l : Launch} {G : xG} {σ : xS} {c : Nat} (hm : xMod c) {q : Int32} {N : Nat} (hN : xgI σ c 1 = nI N) (hN2 : N ≤ 20) : xFi l G yX2_hasRule cX2_hasRule 2 (Option.some Jvm.ClassFile.FieldType.boolean) 0 0 [.ref (G.2.1 c), .int q] σ (xB (xLt q N)) (σ) := by
  refine xM.of (by decide) (Nat.le_of_ble_eq_true rfl) (fun pp ee ss mm aa bel met kk X => ?_)
  have X : xC pp ss mm met kk cX2_hasRule 2 RX2 (Option.some Jvm.ClassFile.FieldType.boolean) G := X
  show xW pp l ee { frames := 0, cells := 0, slots := 0, locals := 0 } ss mm aa bel met kk 2 G 0 0 (xQ bel G (fun r t => r = some (.int (xB (xLt q N))) ∧ t = (σ)) aa ss) 0 [(0, .ref (G.2.1 c)), (1, .int q)] [] σ
  refine x_iload_n X dX2_hasRule_0 rfl ?_
  refine x_iflt (tgt := 22) X dX2_hasRule_1 (by decide) (fun h1 => ?_) (fun h1 => ?_)
  · skip
    refine x_iconst (v := 0) X dX2_hasRule_22 (by decide) ?_
    exact x_zret X dX2_hasRule_23 (Or.inl rfl) (xp_i (by first | exact (xB_t (xLt_t h1 h9 (by omega))).symm | exact (xB_f (xLt_f1 h1 (by omega))).symm | exact (xB_f (xLt_f2 h9 (by omega) (by omega))).symm | exact (xB_f (xLt_f2 h15 (by omega) (by decide))).symm) (by first | rfl | simp [*]))
  · skip
    refine x_iload_n X dX2_hasRule_4 rfl ?_
    refine x_aload_n X dX2_hasRule_5 rfl ?_
    refine gf_X2_61 X dX2_hasRule_6 (xk0 hm) ?_
    rw [hN]
    refine x_icmpge (tgt := 22) X dX2_hasRule_9 (by decide) (fun h9 => ?_) (fun h9 => ?_)
    · skip
      refine x_iconst (v := 0) X dX2_hasRule_22 (by decide) ?_
      exact x_zret X dX2_hasRule_23 (Or.inl rfl) (xp_i (by first | exact (xB_t (xLt_t h1 h9 (by omega))).symm | exact (xB_f (xLt_f1 h1 (by omega))).symm | exact (xB_f (xLt_f2 h9 (by omega) (by omega))).symm | exact (xB_f (xLt_f2 h15 (by omega) (by decide))).symm) (by first | rfl | simp [*]))
    · skip
      refine x_iload_n X dX2_hasRule_12 rfl ?_
      refine x_bipush (v := 20) X dX2_hasRule_13 (by decide) ?_
      refine x_icmpge (tgt := 22) X dX2_hasRule_15 (by decide) (fun h15 => ?_) (fun h15 => ?_)
      · skip
        refine x_iconst (v := 0) X dX2_hasRule_22 (by decide) ?_
        exact x_zret X dX2_hasRule_23 (Or.inl rfl) (xp_i (by first | exact (xB_t (xLt_t h1 h9 (by omega))).symm | exact (xB_f (xLt_f1 h1 (by omega))).symm | exact (xB_f (xLt_f2 h9 (by omega) (by omega))).symm | exact (xB_f (xLt_f2 h15 (by omega) (by decide))).symm) (by first | rfl | simp [*]))
      · skip
        refine x_iconst (v := 1) X dX2_hasRule_18 (by decide) ?_
        refine x_goto (tgt := 23) X dX2_hasRule_19 (by decide) ?_
        exact x_zret X dX2_hasRule_23 (Or.inr rfl) (xp_i (by first | exact (xB_t (xLt_t h1 h9 (by omega))).symm | exact (xB_f (xLt_f1 h1 (by omega))).symm | exact (xB_f (xLt_f2 h9 (by omega) (by omega))).symm | exact (xB_f (xLt_f2 h15 (by omega) (by decide))).symm) (by first | rfl | simp [*]))

set_option maxHeartbeats 4000000 in
set_option maxRecDepth 100000 in
theorem c_X2_hasTable {l : Launch} {G : xG} {σ : xS} {c : Nat} (hm : xMod c) {q : Int32} {N : Nat} (hN : xgI σ c 2 = nI N) (hN2 : N ≤ 4) : xFi l G yX2_hasTable cX2_hasTable 2 (Option.some Jvm.ClassFile.FieldType.boolean) 0 0 [.ref (G.2.1 c), .int q] σ (xB (xLt q N)) (σ) := by
  refine xM.of (by decide) (Nat.le_of_ble_eq_true rfl) (fun pp ee ss mm aa bel met kk X => ?_)
  have X : xC pp ss mm met kk cX2_hasTable 2 RX2 (Option.some Jvm.ClassFile.FieldType.boolean) G := X
  show xW pp l ee { frames := 0, cells := 0, slots := 0, locals := 0 } ss mm aa bel met kk 2 G 0 0 (xQ bel G (fun r t => r = some (.int (xB (xLt q N))) ∧ t = (σ)) aa ss) 0 [(0, .ref (G.2.1 c)), (1, .int q)] [] σ
  refine x_iload_n X dX2_hasTable_0 rfl ?_
  refine x_iflt (tgt := 21) X dX2_hasTable_1 (by decide) (fun h1 => ?_) (fun h1 => ?_)
  · skip
    refine x_iconst (v := 0) X dX2_hasTable_21 (by decide) ?_
    exact x_zret X dX2_hasTable_22 (Or.inl rfl) (xp_i (by first | exact (xB_t (xLt_t h1 h9 (by omega))).symm | exact (xB_f (xLt_f1 h1 (by omega))).symm | exact (xB_f (xLt_f2 h9 (by omega) (by omega))).symm | exact (xB_f (xLt_f2 h14 (by omega) (by decide))).symm) (by first | rfl | simp [*]))
  · skip
    refine x_iload_n X dX2_hasTable_4 rfl ?_
    refine x_aload_n X dX2_hasTable_5 rfl ?_
    refine gf_X2_66 X dX2_hasTable_6 (xk0 hm) ?_
    rw [hN]
    refine x_icmpge (tgt := 21) X dX2_hasTable_9 (by decide) (fun h9 => ?_) (fun h9 => ?_)
    · skip
      refine x_iconst (v := 0) X dX2_hasTable_21 (by decide) ?_
      exact x_zret X dX2_hasTable_22 (Or.inl rfl) (xp_i (by first | exact (xB_t (xLt_t h1 h9 (by omega))).symm | exact (xB_f (xLt_f1 h1 (by omega))).symm | exact (xB_f (xLt_f2 h9 (by omega) (by omega))).symm | exact (xB_f (xLt_f2 h14 (by omega) (by decide))).symm) (by first | rfl | simp [*]))
    · skip
      refine x_iload_n X dX2_hasTable_12 rfl ?_
      refine x_iconst (v := 4) X dX2_hasTable_13 (by decide) ?_
      refine x_icmpge (tgt := 21) X dX2_hasTable_14 (by decide) (fun h14 => ?_) (fun h14 => ?_)
      · skip
        refine x_iconst (v := 0) X dX2_hasTable_21 (by decide) ?_
        exact x_zret X dX2_hasTable_22 (Or.inl rfl) (xp_i (by first | exact (xB_t (xLt_t h1 h9 (by omega))).symm | exact (xB_f (xLt_f1 h1 (by omega))).symm | exact (xB_f (xLt_f2 h9 (by omega) (by omega))).symm | exact (xB_f (xLt_f2 h14 (by omega) (by decide))).symm) (by first | rfl | simp [*]))
      · skip
        refine x_iconst (v := 1) X dX2_hasTable_17 (by decide) ?_
        refine x_goto (tgt := 22) X dX2_hasTable_18 (by decide) ?_
        exact x_zret X dX2_hasTable_22 (Or.inr rfl) (xp_i (by first | exact (xB_t (xLt_t h1 h9 (by omega))).symm | exact (xB_f (xLt_f1 h1 (by omega))).symm | exact (xB_f (xLt_f2 h9 (by omega) (by omega))).symm | exact (xB_f (xLt_f2 h14 (by omega) (by decide))).symm) (by first | rfl | simp [*]))

set_option maxHeartbeats 4000000 in
set_option maxRecDepth 100000 in
theorem c_X2_lowOf {l : Launch} {G : xG} {σ : xS} {c : Nat} (hm : xMod c) {j V : Nat} (hV : xgI σ c 0 = nI V) (hV8 : V ≤ 8) (hj : j < V) : xFi l G yX2_lowOf cX2_lowOf 2 (Option.some Jvm.ClassFile.FieldType.int) 1 21 [.ref (G.2.1 c), .int (nI j)] σ (xgI σ (c + 1) j) (σ) := by
  refine xM.of (by decide) (Nat.le_of_ble_eq_true rfl) (fun pp ee ss mm aa bel met kk X => ?_)
  have X : xC pp ss mm met kk cX2_lowOf 2 RX2 (Option.some Jvm.ClassFile.FieldType.int) G := X
  show xW pp l ee { frames := 1, cells := 0, slots := 0, locals := 21 } ss mm aa bel met kk 2 G 0 0 (xQ bel G (fun r t => r = some (.int (xgI σ (c + 1) j)) ∧ t = (σ)) aa ss) 0 [(0, .ref (G.2.1 c)), (1, .int (nI j))] [] σ
  refine x_aload_n X dX2_lowOf_0 rfl ?_
  refine x_iload_n X dX2_lowOf_1 rfl ?_
  refine cv_X2_87 X (c_X2_hasVariable hm hV hV8) dX2_lowOf_2 (xk0 hm) ⟨by decide, by decide, by decide, by decide⟩ rfl rfl (Nat.le_of_ble_eq_true rfl) (xk_i ?_)
  refine x_ifeq (tgt := 17) X dX2_lowOf_5 (by decide) (fun h5 => ?_) (fun h5 => ?_)
  · skip
    exact absurd ⟨j, hj, rfl⟩ (xB_0.mp h5)
  · skip
    refine x_aload_n X dX2_lowOf_8 rfl ?_
    refine gf_X2_9 (k' := c + 1) X dX2_lowOf_9 (xk0 hm) (xm4 hm) ?_
    refine x_iload_n X dX2_lowOf_12 rfl ?_
    refine x_ialdN X dX2_lowOf_13 (xk1 hm) (by omega) (by omega) ?_
    refine x_goto (tgt := 18) X dX2_lowOf_14 (by decide) ?_
    exact x_iret X dX2_lowOf_18 (xp_i (by first | rfl | simp [*]) (by first | rfl | simp [*]))

set_option maxHeartbeats 4000000 in
set_option maxRecDepth 100000 in
theorem c_X2_lowOf0 {l : Launch} {G : xG} {σ : xS} {c : Nat} (hm : xMod c) {j V : Nat} (hV : xgI σ c 0 = nI V) (hV8 : V ≤ 8) (hj : V ≤ j) (hj8 : j < 8) : xFi l G yX2_lowOf cX2_lowOf 2 (Option.some Jvm.ClassFile.FieldType.int) 1 21 [.ref (G.2.1 c), .int (nI j)] σ (0) (σ) := by
  refine xM.of (by decide) (Nat.le_of_ble_eq_true rfl) (fun pp ee ss mm aa bel met kk X => ?_)
  have X : xC pp ss mm met kk cX2_lowOf 2 RX2 (Option.some Jvm.ClassFile.FieldType.int) G := X
  show xW pp l ee { frames := 1, cells := 0, slots := 0, locals := 21 } ss mm aa bel met kk 2 G 0 0 (xQ bel G (fun r t => r = some (.int (0)) ∧ t = (σ)) aa ss) 0 [(0, .ref (G.2.1 c)), (1, .int (nI j))] [] σ
  refine x_aload_n X dX2_lowOf_0 rfl ?_
  refine x_iload_n X dX2_lowOf_1 rfl ?_
  refine cv_X2_87 X (c_X2_hasVariable hm hV hV8) dX2_lowOf_2 (xk0 hm) ⟨by decide, by decide, by decide, by decide⟩ rfl rfl (Nat.le_of_ble_eq_true rfl) (xk_i ?_)
  refine x_ifeq (tgt := 17) X dX2_lowOf_5 (by decide) (fun h5 => ?_) (fun h5 => ?_)
  · skip
    refine x_iconst (v := 0) X dX2_lowOf_17 (by decide) ?_
    exact x_iret X dX2_lowOf_18 (xp_i (by first | rfl | simp [*]) (by first | rfl | simp [*]))
  · skip
    exact absurd (xB_f (xLt_f2 (nI_le hj (by omega)) (by omega) (by omega))) h5

set_option maxHeartbeats 4000000 in
set_option maxRecDepth 100000 in
theorem c_X2_highOf {l : Launch} {G : xG} {σ : xS} {c : Nat} (hm : xMod c) {j V : Nat} (hV : xgI σ c 0 = nI V) (hV8 : V ≤ 8) (hj : j < V) : xFi l G yX2_highOf cX2_highOf 2 (Option.some Jvm.ClassFile.FieldType.int) 1 21 [.ref (G.2.1 c), .int (nI j)] σ (xgI σ (c + 2) j) (σ) := by
  refine xM.of (by decide) (Nat.le_of_ble_eq_true rfl) (fun pp ee ss mm aa bel met kk X => ?_)
  have X : xC pp ss mm met kk cX2_highOf 2 RX2 (Option.some Jvm.ClassFile.FieldType.int) G := X
  show xW pp l ee { frames := 1, cells := 0, slots := 0, locals := 21 } ss mm aa bel met kk 2 G 0 0 (xQ bel G (fun r t => r = some (.int (xgI σ (c + 2) j)) ∧ t = (σ)) aa ss) 0 [(0, .ref (G.2.1 c)), (1, .int (nI j))] [] σ
  refine x_aload_n X dX2_highOf_0 rfl ?_
  refine x_iload_n X dX2_highOf_1 rfl ?_
  refine cv_X2_87 X (c_X2_hasVariable hm hV hV8) dX2_highOf_2 (xk0 hm) ⟨by decide, by decide, by decide, by decide⟩ rfl rfl (Nat.le_of_ble_eq_true rfl) (xk_i ?_)
  refine x_ifeq (tgt := 17) X dX2_highOf_5 (by decide) (fun h5 => ?_) (fun h5 => ?_)
  · skip
    exact absurd ⟨j, hj, rfl⟩ (xB_0.mp h5)
  · skip
    refine x_aload_n X dX2_highOf_8 rfl ?_
    refine gf_X2_15 (k' := c + 2) X dX2_highOf_9 (xk0 hm) (xm5 hm) ?_
    refine x_iload_n X dX2_highOf_12 rfl ?_
    refine x_ialdN X dX2_highOf_13 (xk2 hm) (by omega) (by omega) ?_
    refine x_goto (tgt := 18) X dX2_highOf_14 (by decide) ?_
    exact x_iret X dX2_highOf_18 (xp_i (by first | rfl | simp [*]) (by first | rfl | simp [*]))

set_option maxHeartbeats 4000000 in
set_option maxRecDepth 100000 in
theorem c_X2_highOf0 {l : Launch} {G : xG} {σ : xS} {c : Nat} (hm : xMod c) {j V : Nat} (hV : xgI σ c 0 = nI V) (hV8 : V ≤ 8) (hj : V ≤ j) (hj8 : j < 8) : xFi l G yX2_highOf cX2_highOf 2 (Option.some Jvm.ClassFile.FieldType.int) 1 21 [.ref (G.2.1 c), .int (nI j)] σ (0) (σ) := by
  refine xM.of (by decide) (Nat.le_of_ble_eq_true rfl) (fun pp ee ss mm aa bel met kk X => ?_)
  have X : xC pp ss mm met kk cX2_highOf 2 RX2 (Option.some Jvm.ClassFile.FieldType.int) G := X
  show xW pp l ee { frames := 1, cells := 0, slots := 0, locals := 21 } ss mm aa bel met kk 2 G 0 0 (xQ bel G (fun r t => r = some (.int (0)) ∧ t = (σ)) aa ss) 0 [(0, .ref (G.2.1 c)), (1, .int (nI j))] [] σ
  refine x_aload_n X dX2_highOf_0 rfl ?_
  refine x_iload_n X dX2_highOf_1 rfl ?_
  refine cv_X2_87 X (c_X2_hasVariable hm hV hV8) dX2_highOf_2 (xk0 hm) ⟨by decide, by decide, by decide, by decide⟩ rfl rfl (Nat.le_of_ble_eq_true rfl) (xk_i ?_)
  refine x_ifeq (tgt := 17) X dX2_highOf_5 (by decide) (fun h5 => ?_) (fun h5 => ?_)
  · skip
    refine x_iconst (v := 0) X dX2_highOf_17 (by decide) ?_
    exact x_iret X dX2_highOf_18 (xp_i (by first | rfl | simp [*]) (by first | rfl | simp [*]))
  · skip
    exact absurd (xB_f (xLt_f2 (nI_le hj (by omega)) (by omega) (by omega))) h5

set_option maxHeartbeats 4000000 in
set_option maxRecDepth 100000 in
theorem c_X2_costOf {l : Launch} {G : xG} {σ : xS} {c : Nat} (hm : xMod c) {b : Nat} (hb : xck b = (10, 8)) : xFl l G yX2_costOf cX2_costOf 2 (Option.some Jvm.ClassFile.FieldType.long) 1 24 [.ref (G.2.1 c), .ref (G.2.1 b)] σ (xSum (xgI σ (c + 3)) (xgI σ b) 8) (σ) := by
  refine xM.of (by decide) (Nat.le_of_ble_eq_true rfl) (fun pp ee ss mm aa bel met kk X => ?_)
  have X : xC pp ss mm met kk cX2_costOf 2 RX2 (Option.some Jvm.ClassFile.FieldType.long) G := X
  show xW pp l ee { frames := 1, cells := 0, slots := 0, locals := 24 } ss mm aa bel met kk 2 G 0 0 (xQ bel G (fun r t => r = some (.long (xSum (xgI σ (c + 3)) (xgI σ b) 8)) ∧ t = (σ)) aa ss) 0 [(0, .ref (G.2.1 c)), (1, .ref (G.2.1 b))] [] σ
  refine x_aload_n X dX2_costOf_0 rfl ?_
  refine gf_X2_18 (k' := c + 3) X dX2_costOf_1 (xk0 hm) (xm6 hm) ?_
  refine x_aload_n X dX2_costOf_4 rfl ?_
  refine cs_X2_91 X (c_X3_sumOf (xk3 hm) hb) dX2_costOf_5 ⟨by decide, by decide, by decide, by decide⟩ rfl rfl (Nat.le_of_ble_eq_true rfl) (xk_l ?_)
  exact x_lret X dX2_costOf_8 (xp_l (by first | rfl | simp [*]) (by first | rfl | simp [*]))
