/-! Model: c is 15 or 26 -/
def xMod (c : Nat) : Prop := c = 15 ∨ c = 26
def mF (c : Nat) : Nat := if c = 15 then 471 else 491
def mP (c : Nat) : Nat := if c = 15 then 511 else 519
def mQ (c : Nat) : Nat := if c = 15 then 515 else 523
theorem xk0 {c : Nat} (h : xMod c) : xck c = (2, 0) := by rcases h with rfl | rfl <;> rfl

theorem xk1 {c : Nat} (h : xMod c) : xck (c + 1) = (10, 8) := by rcases h with rfl | rfl <;> rfl
theorem xm4 {σ : xS} {c : Nat} (h : xMod c) : xrf σ c 4 = c + 1 := by rcases h with rfl | rfl <;> rfl
theorem xk2 {c : Nat} (h : xMod c) : xck (c + 2) = (10, 8) := by rcases h with rfl | rfl <;> rfl
theorem xm5 {σ : xS} {c : Nat} (h : xMod c) : xrf σ c 5 = c + 2 := by rcases h with rfl | rfl <;> rfl
theorem xk3 {c : Nat} (h : xMod c) : xck (c + 3) = (10, 8) := by rcases h with rfl | rfl <;> rfl
theorem xm6 {σ : xS} {c : Nat} (h : xMod c) : xrf σ c 6 = c + 3 := by rcases h with rfl | rfl <;> rfl
theorem xk4 {c : Nat} (h : xMod c) : xck (c + 4) = (14, 20) := by rcases h with rfl | rfl <;> rfl
theorem xm7 {σ : xS} {c : Nat} (h : xMod c) : xrf σ c 7 = c + 4 := by rcases h with rfl | rfl <;> rfl
theorem xk5 {c : Nat} (h : xMod c) : xck (c + 5) = (10, 20) := by rcases h with rfl | rfl <;> rfl
theorem xm8 {σ : xS} {c : Nat} (h : xMod c) : xrf σ c 8 = c + 5 := by rcases h with rfl | rfl <;> rfl
theorem xk6 {c : Nat} (h : xMod c) : xck (c + 6) = (10, 4) := by rcases h with rfl | rfl <;> rfl
theorem xm9 {σ : xS} {c : Nat} (h : xMod c) : xrf σ c 9 = c + 6 := by rcases h with rfl | rfl <;> rfl
theorem xk7 {c : Nat} (h : xMod c) : xck (c + 7) = (10, 4) := by rcases h with rfl | rfl <;> rfl
theorem xm10 {σ : xS} {c : Nat} (h : xMod c) : xrf σ c 10 = c + 7 := by rcases h with rfl | rfl <;> rfl
theorem xk8 {c : Nat} (h : xMod c) : xck (c + 8) = (10, 4) := by rcases h with rfl | rfl <;> rfl
theorem xm11 {σ : xS} {c : Nat} (h : xMod c) : xrf σ c 11 = c + 8 := by rcases h with rfl | rfl <;> rfl
theorem xk9 {c : Nat} (h : xMod c) : xck (c + 9) = (14, 4) := by rcases h with rfl | rfl <;> rfl
theorem xm12 {σ : xS} {c : Nat} (h : xMod c) : xrf σ c 12 = c + 9 := by rcases h with rfl | rfl <;> rfl
theorem xk10 {c : Nat} (h : xMod c) : xck (c + 10) = (14, 4) := by rcases h with rfl | rfl <;> rfl
theorem xm13 {σ : xS} {c : Nat} (h : xMod c) : xrf σ c 13 = c + 10 := by rcases h with rfl | rfl <;> rfl
theorem xrF {σ : xS} {c r : Nat} (h : xMod c) : xrf σ (c + 4) r = mF c + r := by rcases h with rfl | rfl <;> rfl
theorem xrP {σ : xS} {c t : Nat} (h : xMod c) : xrf σ (c + 9) t = mP c + t := by rcases h with rfl | rfl <;> rfl
theorem xrQ {σ : xS} {c t : Nat} (h : xMod c) : xrf σ (c + 10) t = mQ c + t := by rcases h with rfl | rfl <;> rfl
theorem xkF {c r : Nat} (h : xMod c) (hr : r < 20) : xck (mF c + r) = (10, 8) := by
  rcases h with rfl | rfl
  · exact (show xck (463 + (8 + r)) = _ from xck_pln (by omega)) ▸ (by show xck (471 + r) = xck (463 + (8 + r)); congr 1; omega)
  · exact (show xck (463 + (28 + r)) = _ from xck_pln (by omega)) ▸ (by show xck (491 + r) = xck (463 + (28 + r)); congr 1; omega)
theorem xkP {c t : Nat} (h : xMod c) (ht : t < 4) : xck (mP c + t) = (10, 20) := by
  rcases h with rfl | rfl
  · exact xck_prs (i := t) (by omega)
  · exact (show xck (511 + (8 + t)) = _ from xck_prs (by omega)) ▸ (by show xck (519 + t) = xck (511 + (8 + t)); congr 1; omega)
theorem xkQ {c t : Nat} (h : xMod c) (ht : t < 4) : xck (mQ c + t) = (10, 20) := by
  rcases h with rfl | rfl
  · exact (show xck (511 + (4 + t)) = _ from xck_prs (by omega)) ▸ (by show xck (515 + t) = xck (511 + (4 + t)); congr 1; omega)
  · exact (show xck (511 + (12 + t)) = _ from xck_prs (by omega)) ▸ (by show xck (523 + t) = xck (511 + (12 + t)); congr 1; omega)
theorem mF_b {c : Nat} (h : xMod c) : 471 ≤ mF c ∧ mF c ≤ 491 := by rcases h with rfl | rfl <;> decide
theorem mP_b {c : Nat} (h : xMod c) : 511 ≤ mP c ∧ mP c ≤ 519 := by rcases h with rfl | rfl <;> decide
theorem mQ_b {c : Nat} (h : xMod c) : 515 ≤ mQ c ∧ mQ c ≤ 523 := by rcases h with rfl | rfl <;> decide
theorem mC_b {c : Nat} (h : xMod c) : 15 ≤ c ∧ c ≤ 26 := by rcases h with rfl | rfl <;> decide
/-- the next number, put at a place -/
def tPut (σ : xS) (lo hi : Int32) (k j : Nat) : xS := xsI (tNext σ lo hi).2 k j (tNext σ lo hi).1
theorem tNext_o {σ : xS} {lo hi : Int32} {a : Nat} (b : Nat) (h : a ≠ 1) : xgI (tNext σ lo hi).2 a b = xgI σ a b := by
  unfold tNext
  split
  · rfl
  · split
    · exact xgI_n (fun q => h q.1)
    · split
      · exact xgI_n (fun q => h q.1)
      · exact xgI_n (fun q => h q.1)
theorem tPut_o {σ : xS} {lo hi : Int32} {k j a : Nat} (b : Nat) (h : a ≠ 1) (h2 : ¬ (a = k ∧ b = j)) : xgI (tPut σ lo hi k j) a b = xgI σ a b := by
  unfold tPut
  rw [xgI_n h2, tNext_o b h]
theorem tPut_s {σ : xS} {lo hi : Int32} {k j : Nat} : xgI (tPut σ lo hi k j) k j = (tNext σ lo hi).1 := xgI_s _ _ _ _
/-- the tape's numbers and its size stay -/
theorem tNext_n {σ : xS} {lo hi : Int32} : xgI (tNext σ lo hi).2 1 1 = xgI σ 1 1 := by
  unfold tNext
  split
  · rfl
  · split
    · exact xgI_n (by decide)
    · split
      · exact xgI_n (by decide)
      · exact xgI_n (by decide)
theorem tPut_n {σ : xS} {lo hi : Int32} {k j : Nat} (h : k ≠ 1) : xgI (tPut σ lo hi k j) 1 1 = xgI σ 1 1 := by
  unfold tPut
  rw [xgI_n (fun q => h q.1.symm), tNext_n]
theorem tBut_o {σ : xS} {o : Int32} {a : Nat} (b : Nat) (h : a ≠ 1) : xgI (tBut σ o) a b = xgI σ a b := by
  unfold tBut
  split
  · rfl
  · split
    · exact xgI_n (fun q => h q.1)
    · rfl
theorem tBut_n {σ : xS} {o : Int32} : xgI (tBut σ o) 1 1 = xgI σ 1 1 := by
  unfold tBut
  split
  · rfl
  · split
    · exact xgI_n (by decide)
    · rfl
theorem xIn_1 {x lo hi : Int32} (h : ¬ xIn x lo hi = 0) : ¬ x < lo ∧ ¬ hi < x := by
  unfold xIn at h
  by_cases h1 : x < lo
  · simp [h1] at h
  · by_cases h2 : hi < x
    · simp [h1, h2] at h
    · exact ⟨h1, h2⟩
theorem tNext_b {σ : xS} {lo hi : Int32} (h : lo ≤ hi) : lo ≤ (tNext σ lo hi).1 ∧ (tNext σ lo hi).1 ≤ hi := by
  unfold tNext
  split
  · exact ⟨Int32.le_iff_toInt_le.mpr (Int.le_refl _), h⟩
  · split
    · exact ⟨Int32.le_iff_toInt_le.mpr (Int.le_refl _), h⟩
    · split
      · exact ⟨Int32.le_iff_toInt_le.mpr (Int.le_refl _), h⟩
      · rename_i hq
        exact ⟨xi32_nlt.mp (xIn_1 hq).1, xi32_nlt.mp (xIn_1 hq).2⟩
theorem tNext_nat {σ : xS} {a b : Nat} (h : a ≤ b) (hb : b < 2 ^ 31) : ∃ n, a ≤ n ∧ n ≤ b ∧ (tNext σ (nI a) (nI b)).1 = nI n := by
  obtain ⟨h1, h2⟩ := @tNext_b σ (nI a) (nI b) (nI_le h hb)
  have h0 : ¬ (tNext σ (nI a) (nI b)).1 < 0 := by
    have := nI_pos' (n := a) (by omega)
    rw [Int32.lt_iff_toInt_lt, Int32.toInt_zero]
    rw [Int32.le_iff_toInt_le, Int32.toInt_zero] at this
    rw [Int32.le_iff_toInt_le] at h1
    omega
  obtain ⟨j, hj, ej⟩ := nI_of h0
  rw [ej] at h1 h2
  exact ⟨j, (nI_leI (by omega) hj).mp h1, (nI_leI hj hb).mp h2, ej⟩
def mVar (σ : xS) (c V v : Nat) : xS := if v < V then tPut (tPut (tPut σ (-1000) 1000 (c + 1) v) (xgI (tPut σ (-1000) 1000 (c + 1) v) (c + 1) v) 1000 (c + 2) v) (-100) 100 (c + 3) v else xsI (xsI (xsI σ (c + 1) v 0) (c + 2) v 0) (c + 3) v 0
def mVs (σ : xS) (c V : Nat) : Nat → xS
  | 0 => σ
  | n + 1 => mVar (mVs σ c V n) c V n
def mFs (σ : xS) (c V r : Nat) : Nat → xS
  | 0 => σ
  | n + 1 => if n < V then tPut (mFs σ c V r n) (-100) 100 (mF c + r) n else xsI (mFs σ c V r n) (mF c + r) n 0
def mRs (σ : xS) (c V : Nat) : Nat → xS
  | 0 => σ
  | r + 1 => tPut (mFs (mRs σ c V r) c V r 8) (-100000) 100000 (c + 5) r
def mPs (σ : xS) (c t : Nat) : Nat → xS
  | 0 => σ
  | n + 1 => tPut (tPut (mPs σ c t n) (-1000) 1000 (mP c + t) n) (-1000) 1000 (mQ c + t) n
def mT3 (σ : xS) (c V t : Nat) : xS := tPut (tPut (tBut (tPut σ 0 (nI V - 1) (c + 6) t) (xgI (tPut σ 0 (nI V - 1) (c + 6) t) (c + 6) t)) 0 (nI V - 1) (c + 7) t) 1 20 (c + 8) t
def mTab (σ : xS) (c V t : Nat) : xS := mPs (mT3 σ c V t) c t (xgI (mT3 σ c V t) (c + 8) t).toNatClampNeg
def mTs (σ : xS) (c V : Nat) : Nat → xS
  | 0 => σ
  | n + 1 => mTab (mTs σ c V n) c V n
/-- what these leave alone -/
theorem mVar_o {σ : xS} {c V v a : Nat} (b : Nat) (h : a ≠ 1) (h1 : a ≠ c + 1) (h2 : a ≠ c + 2) (h3 : a ≠ c + 3) : xgI (mVar σ c V v) a b = xgI σ a b := by
  unfold mVar
  split
  · rw [tPut_o b h (fun q => h3 q.1), tPut_o b h (fun q => h2 q.1), tPut_o b h (fun q => h1 q.1)]
  · rw [xgI_n (fun q => h3 q.1), xgI_n (fun q => h2 q.1), xgI_n (fun q => h1 q.1)]
theorem mVar_n {σ : xS} {c V v : Nat} (hc : 15 ≤ c) : xgI (mVar σ c V v) 1 1 = xgI σ 1 1 := by
  unfold mVar
  split
  · rw [tPut_n (by omega), tPut_n (by omega), tPut_n (by omega)]
  · rw [xgI_n (by omega), xgI_n (by omega), xgI_n (by omega)]
theorem mVs_o {σ : xS} {c V a : Nat} (b : Nat) (h : a ≠ 1) (h1 : a ≠ c + 1) (h2 : a ≠ c + 2) (h3 : a ≠ c + 3) : ∀ n, xgI (mVs σ c V n) a b = xgI σ a b
  | 0 => rfl
  | n + 1 => by rw [mVs, mVar_o b h h1 h2 h3, mVs_o b h h1 h2 h3 n]
theorem mVs_n {σ : xS} {c V : Nat} (hc : 15 ≤ c) : ∀ n, xgI (mVs σ c V n) 1 1 = xgI σ 1 1
  | 0 => rfl
  | n + 1 => by rw [mVs, mVar_n hc, mVs_n hc n]
theorem mFs_o {σ : xS} {c V r a : Nat} (b : Nat) (h : a ≠ 1) (h1 : a ≠ mF c + r) : ∀ n, xgI (mFs σ c V r n) a b = xgI σ a b
  | 0 => rfl
  | n + 1 => by
    rw [mFs]
    split
    · rw [tPut_o b h (fun q => h1 q.1), mFs_o b h h1 n]
    · rw [xgI_n (fun q => h1 q.1), mFs_o b h h1 n]
theorem mFs_n {σ : xS} {c V r : Nat} (hc : 471 ≤ mF c) : ∀ n, xgI (mFs σ c V r n) 1 1 = xgI σ 1 1
  | 0 => rfl
  | n + 1 => by
    rw [mFs]
    split
    · rw [tPut_n (by omega), mFs_n hc n]
    · rw [xgI_n (by omega), mFs_n hc n]
theorem mRs_o {σ : xS} {c V a : Nat} (b : Nat) (h : a ≠ 1) (h1 : a < mF c ∨ mF c + 20 ≤ a) (h2 : a ≠ c + 5) : ∀ n, n ≤ 20 → xgI (mRs σ c V n) a b = xgI σ a b
  | 0, _ => rfl
  | n + 1, hn => by rw [mRs, tPut_o b h (fun q => h2 q.1), mFs_o b h (by omega), mRs_o b h h1 h2 n (by omega)]
theorem mRs_n {σ : xS} {c V : Nat} (hc : 471 ≤ mF c) : ∀ n, xgI (mRs σ c V n) 1 1 = xgI σ 1 1
  | 0 => rfl
  | n + 1 => by rw [mRs, tPut_n (by omega), mFs_n hc, mRs_n hc n]
theorem mPs_o {σ : xS} {c t a : Nat} (b : Nat) (h : a ≠ 1) (h1 : a ≠ mP c + t) (h2 : a ≠ mQ c + t) : ∀ n, xgI (mPs σ c t n) a b = xgI σ a b
  | 0 => rfl
  | n + 1 => by rw [mPs, tPut_o b h (fun q => h2 q.1), tPut_o b h (fun q => h1 q.1), mPs_o b h h1 h2 n]
theorem mPs_n {σ : xS} {c t : Nat} (hp : 511 ≤ mP c) (hq : 511 ≤ mQ c) : ∀ n, xgI (mPs σ c t n) 1 1 = xgI σ 1 1
  | 0 => rfl
  | n + 1 => by rw [mPs, tPut_n (by omega), tPut_n (by omega), mPs_n hp hq n]
theorem mT3_o {σ : xS} {c V t a : Nat} (b : Nat) (h : a ≠ 1) (h1 : a ≠ c + 6) (h2 : a ≠ c + 7) (h3 : a ≠ c + 8) : xgI (mT3 σ c V t) a b = xgI σ a b := by
  unfold mT3
  rw [tPut_o b h (fun q => h3 q.1), tPut_o b h (fun q => h2 q.1), tBut_o b h, tPut_o b h (fun q => h1 q.1)]
theorem mT3_n {σ : xS} {c V t : Nat} : xgI (mT3 σ c V t) 1 1 = xgI σ 1 1 := by
  unfold mT3
  rw [tPut_n (by omega), tPut_n (by omega), tBut_n, tPut_n (by omega)]
theorem mTab_o {σ : xS} {c V t a : Nat} (b : Nat) (h : a ≠ 1) (h1 : a ≠ c + 6) (h2 : a ≠ c + 7) (h3 : a ≠ c + 8) (h4 : a ≠ mP c + t) (h5 : a ≠ mQ c + t) : xgI (mTab σ c V t) a b = xgI σ a b := by
  unfold mTab
  rw [mPs_o b h h4 h5, mT3_o b h h1 h2 h3]
theorem mTs_o {σ : xS} {c V a : Nat} (b : Nat) (h : a ≠ 1) (h1 : a ≠ c + 6) (h2 : a ≠ c + 7) (h3 : a ≠ c + 8) (h4 : a < mP c ∨ mP c + 4 ≤ a) (h5 : a < mQ c ∨ mQ c + 4 ≤ a) : ∀ n, n ≤ 4 → xgI (mTs σ c V n) a b = xgI σ a b
  | 0, _ => rfl
  | n + 1, hn => by rw [mTs, mTab_o b h h1 h2 h3 (by omega) (by omega), mTs_o b h h1 h2 h3 h4 h5 n (by omega)]
theorem mTs_n {σ : xS} {c V : Nat} (hp : 511 ≤ mP c) (hq : 511 ≤ mQ c) : ∀ n, xgI (mTs σ c V n) 1 1 = xgI σ 1 1
  | 0 => rfl
  | n + 1 => by rw [mTs, mTab, mPs_n hp hq, mT3_n, mTs_n hp hq n]

set_option maxHeartbeats 4000000 in
set_option maxRecDepth 100000 in
theorem c_X2_fillVariable {l : Launch} {G : xG} {σ : xS} {c : Nat} (hm : xMod c) {V v : Nat} (hV : xgI σ c 0 = nI V) (hV8 : V ≤ 8) (hv : v < 8) : xFv l G yX2_fillVariable cX2_fillVariable 4 (Option.none : Option Jvm.ClassFile.FieldType) 2 45 [.ref (G.2.1 c), .ref (G.2.1 1), .int (nI v)] σ (mVar σ c V v) := by
  refine xM.of (by decide) (Nat.le_of_ble_eq_true rfl) (fun pp ee ss mm aa bel met kk X => ?_)
  have X : xC pp ss mm met kk cX2_fillVariable 4 RX2 (Option.none : Option Jvm.ClassFile.FieldType) G := X
  show xW pp l ee { frames := 2, cells := 0, slots := 0, locals := 45 } ss mm aa bel met kk 4 G 0 0 (xQ bel G (fun r t => r = none ∧ t = (mVar σ c V v)) aa ss) 0 [(0, .ref (G.2.1 c)), (1, .ref (G.2.1 1)), (2, .int (nI v))] [] σ
  refine x_iload_n X dX2_fillVariable_0 rfl ?_
  refine x_aload_n X dX2_fillVariable_1 rfl ?_
  refine gf_X2_53 X dX2_fillVariable_2 (xk0 hm) ?_
  rw [hV]
  refine x_icmpge (tgt := 12) X dX2_fillVariable_5 (by decide) (fun h5 => ?_) (fun h5 => ?_)
  · skip
    rw [xb_ge (x := nI v) (y := nI V) (a := v) (b := V) rfl rfl (by omega) (by omega)] at h5
    refine x_iconst (v := 0) X dX2_fillVariable_12 (by decide) ?_
    refine x_istore_n (lv' := [(3, .int 0), (0, .ref (G.2.1 c)), (1, .ref (G.2.1 1)), (2, .int (nI v))]) X dX2_fillVariable_13 rfl (by decide) rfl ?_
    refine x_aload_n X dX2_fillVariable_14 rfl ?_
    refine gf_X2_9 (k' := c + 1) X dX2_fillVariable_15 (xk0 hm) (xm4 hm) ?_
    refine x_iload_n X dX2_fillVariable_18 rfl ?_
    refine x_iload_n X dX2_fillVariable_19 rfl ?_
    refine x_ifeq (tgt := 36) X dX2_fillVariable_20 (by decide) (fun h20 => ?_) (fun h20 => ?_)
    · skip
      refine x_iconst (v := 0) X dX2_fillVariable_36 (by decide) ?_
      refine x_iastN X dX2_fillVariable_37 (xk1 hm) (by omega) (by omega) ?_
      refine x_aload_n X dX2_fillVariable_38 rfl ?_
      refine gf_X2_15 (k' := c + 2) X dX2_fillVariable_39 (xk0 hm) (xm5 hm) ?_
      refine x_iload_n X dX2_fillVariable_42 rfl ?_
      refine x_iload_n X dX2_fillVariable_43 rfl ?_
      refine x_ifeq (tgt := 63) X dX2_fillVariable_44 (by decide) (fun h44 => ?_) (fun h44 => ?_)
      · skip
        refine x_iconst (v := 0) X dX2_fillVariable_63 (by decide) ?_
        refine x_iastN X dX2_fillVariable_64 (xk2 hm) (by omega) (by omega) ?_
        refine x_aload_n X dX2_fillVariable_65 rfl ?_
        refine gf_X2_18 (k' := c + 3) X dX2_fillVariable_66 (xk0 hm) (xm6 hm) ?_
        refine x_iload_n X dX2_fillVariable_69 rfl ?_
        refine x_iload_n X dX2_fillVariable_70 rfl ?_
        refine x_ifeq (tgt := 85) X dX2_fillVariable_71 (by decide) (fun h71 => ?_) (fun h71 => ?_)
        · skip
          refine x_iconst (v := 0) X dX2_fillVariable_85 (by decide) ?_
          refine x_iastN X dX2_fillVariable_86 (xk3 hm) (by omega) (by omega) ?_
          exact x_vret X dX2_fillVariable_87 (⟨rfl, by unfold mVar; first | rw [if_pos (by omega)]; rfl | rw [if_neg (by omega)]⟩)
        · skip
          exact absurd (by decide) h71
      · skip
        exact absurd (by decide) h44
    · skip
      exact absurd (by decide) h20
  · skip
    rw [xb_ge (x := nI v) (y := nI V) (a := v) (b := V) rfl rfl (by omega) (by omega)] at h5
    refine x_iconst (v := 1) X dX2_fillVariable_8 (by decide) ?_
    refine x_goto (tgt := 13) X dX2_fillVariable_9 (by decide) ?_
    refine x_istore_n (lv' := [(3, .int 1), (0, .ref (G.2.1 c)), (1, .ref (G.2.1 1)), (2, .int (nI v))]) X dX2_fillVariable_13 rfl (by decide) rfl ?_
    refine x_aload_n X dX2_fillVariable_14 rfl ?_
    refine gf_X2_9 (k' := c + 1) X dX2_fillVariable_15 (xk0 hm) (xm4 hm) ?_
    refine x_iload_n X dX2_fillVariable_18 rfl ?_
    refine x_iload_n X dX2_fillVariable_19 rfl ?_
    refine x_ifeq (tgt := 36) X dX2_fillVariable_20 (by decide) (fun h20 => ?_) (fun h20 => ?_)
    · skip
      exact absurd h20 (by decide)
    · skip
      refine x_aload_n X dX2_fillVariable_23 rfl ?_
      refine x_sipush (v := (-1000)) X dX2_fillVariable_24 (by decide) ?_
      refine x_sipush (v := 1000) X dX2_fillVariable_27 (by decide) ?_
      refine cv_X2_49 X c_X7_next dX2_fillVariable_30 rfl ⟨by decide, by decide, by decide, by decide⟩ rfl rfl (Nat.le_of_ble_eq_true rfl) (xk_i ?_)
      refine x_goto (tgt := 37) X dX2_fillVariable_33 (by decide) ?_
      refine x_iastN X dX2_fillVariable_37 (xk1 hm) (by omega) (by omega) ?_
      refine x_aload_n X dX2_fillVariable_38 rfl ?_
      refine gf_X2_15 (k' := c + 2) X dX2_fillVariable_39 (xk0 hm) (xm5 hm) ?_
      refine x_iload_n X dX2_fillVariable_42 rfl ?_
      refine x_iload_n X dX2_fillVariable_43 rfl ?_
      refine x_ifeq (tgt := 63) X dX2_fillVariable_44 (by decide) (fun h44 => ?_) (fun h44 => ?_)
      · skip
        exact absurd h44 (by decide)
      · skip
        refine x_aload_n X dX2_fillVariable_47 rfl ?_
        refine x_aload_n X dX2_fillVariable_48 rfl ?_
        refine gf_X2_9 (k' := c + 1) X dX2_fillVariable_49 (xk0 hm) (xm4 hm) ?_
        refine x_iload_n X dX2_fillVariable_52 rfl ?_
        refine x_ialdN X dX2_fillVariable_53 (xk1 hm) (by omega) (by omega) ?_
        refine x_sipush (v := 1000) X dX2_fillVariable_54 (by decide) ?_
        refine cv_X2_49 X c_X7_next dX2_fillVariable_57 rfl ⟨by decide, by decide, by decide, by decide⟩ rfl rfl (Nat.le_of_ble_eq_true rfl) (xk_i ?_)
        refine x_goto (tgt := 64) X dX2_fillVariable_60 (by decide) ?_
        refine x_iastN X dX2_fillVariable_64 (xk2 hm) (by omega) (by omega) ?_
        refine x_aload_n X dX2_fillVariable_65 rfl ?_
        refine gf_X2_18 (k' := c + 3) X dX2_fillVariable_66 (xk0 hm) (xm6 hm) ?_
        refine x_iload_n X dX2_fillVariable_69 rfl ?_
        refine x_iload_n X dX2_fillVariable_70 rfl ?_
        refine x_ifeq (tgt := 85) X dX2_fillVariable_71 (by decide) (fun h71 => ?_) (fun h71 => ?_)
        · skip
          exact absurd h71 (by decide)
        · skip
          refine x_aload_n X dX2_fillVariable_74 rfl ?_
          refine x_bipush (v := (-100)) X dX2_fillVariable_75 (by decide) ?_
          refine x_bipush (v := 100) X dX2_fillVariable_77 (by decide) ?_
          refine cv_X2_49 X c_X7_next dX2_fillVariable_79 rfl ⟨by decide, by decide, by decide, by decide⟩ rfl rfl (Nat.le_of_ble_eq_true rfl) (xk_i ?_)
          refine x_goto (tgt := 86) X dX2_fillVariable_82 (by decide) ?_
          refine x_iastN X dX2_fillVariable_86 (xk3 hm) (by omega) (by omega) ?_
          exact x_vret X dX2_fillVariable_87 (⟨rfl, by unfold mVar; first | rw [if_pos (by omega)]; rfl | rw [if_neg (by omega)]⟩)

