/-! Draft: the rows that it makes; i is the row that is made -/
/-- all as before but in row i -/
def xOff (i : Nat) (σ τ : xS) : Prop := (∀ a b, a ≠ 61 + i → xgI τ a b = xgI σ a b) ∧ (∀ a b, a ≠ 61 + i → a ≠ 262 + i → xgL τ a b = xgL σ a b) ∧ xgC τ = xgC σ ∧ xgD τ = xgD σ
theorem xOff.rf {i : Nat} {σ : xS} : xOff i σ σ := ⟨fun _ _ _ => rfl, fun _ _ _ _ => rfl, rfl, rfl⟩
theorem xOff.tr {i : Nat} {σ τ ρ : xS} (h1 : xOff i σ τ) (h2 : xOff i τ ρ) : xOff i σ ρ := ⟨fun a b h => (h2.1 a b h).trans (h1.1 a b h), fun a b h h' => (h2.2.1 a b h h').trans (h1.2.1 a b h h'), h2.2.2.1.trans h1.2.2.1, h2.2.2.2.trans h1.2.2.2⟩
theorem xOff.I {i j : Nat} {σ : xS} {v : Int32} : xOff i σ (xsI σ (61 + i) j v) := ⟨fun _ _ h => xgI_n (fun q => h q.1), fun _ _ _ _ => rfl, rfl, rfl⟩
theorem xOff.L {i j : Nat} {σ : xS} {v : Int64} : xOff i σ (xsL σ (61 + i) j v) := ⟨fun _ _ _ => rfl, fun _ _ h _ => xgL_n (fun q => h q.1), rfl, rfl⟩
theorem xOff.F {i j : Nat} {σ : xS} {v : Int64} : xOff i σ (xsL σ (262 + i) j v) := ⟨fun _ _ _ => rfl, fun _ _ _ h => xgL_n (fun q => h q.1), rfl, rfl⟩
theorem rAdd_off {σ : xS} {i j : Nat} {o : Int64} : ∀ n, xOff i σ (rAdd σ i j o n)
  | 0 => xOff.rf
  | n + 1 => (rAdd_off n).tr xOff.F
theorem rAddT_off {σ : xS} {i j : Nat} {o : Int64} : xOff i σ (rAddT σ i j o) := (rAdd_off 8).tr xOff.L
theorem rInhA_off {σ : xS} {i j : Nat} : xOff i σ (rInhA σ i j) := xOff.L
theorem rLimit_off {σ : xS} {i : Nat} {x : Int64} : xOff i σ (rLimit σ i x) := xOff.I.tr xOff.L
theorem rInhL_off {σ : xS} {i j : Nat} : xOff i σ (rInhL σ i j) := by
  unfold rInhL
  split
  · exact xOff.rf
  · split
    · exact rLimit_off
    · split
      · exact xOff.rf
      · exact rLimit_off
theorem rSet_off {σ : xS} {i : Nat} {v : Int32} {f : Int64} : xOff i σ (rSet σ i v f) := by
  unfold rSet
  split
  · exact xOff.rf
  · split
    · exact xOff.rf
    · exact xOff.F
theorem rSingle_off {σ : xS} {i : Nat} {v : Int32} {f r : Int64} : xOff i σ (rSingle σ i v f r) := rSet_off.tr xOff.L
theorem mCr_off {σ : xS} {i : Nat} {f : Nat → Int32} : ∀ n, xOff i σ (mCr σ i f n)
  | 0 => xOff.rf
  | n + 1 => (mCr_off n).tr xOff.F
theorem mCt_off {σ : xS} {i : Nat} {g : Nat → Int64} : ∀ n, xOff i σ (mCt σ i g n)
  | 0 => xOff.rf
  | n + 1 => by
    rw [mCt]
    split
    · exact (mCt_off n).tr xOff.L
    · exact mCt_off n
theorem rZ_off {σ : xS} {i : Nat} : ∀ n, xOff i σ (rZ σ i n)
  | 0 => xOff.rf
  | n + 1 => (rZ_off n).tr xOff.F
theorem rClear_off {σ : xS} {i : Nat} : xOff i σ (rClear σ i) := ((((rZ_off 8).tr xOff.L).tr xOff.L).tr xOff.I).tr xOff.L
def dSum (σ : xS) (i : Nat) (pr : Nat → Nat) (po : Nat → Int32) : Nat → xS
  | 0 => σ
  | n + 1 => rInhL (rInhA (rAddT (dSum σ i pr po n) i (pr n) (po n).toInt64) i (pr n)) i (pr n)
theorem dSum_off {σ : xS} {i : Nat} {pr : Nat → Nat} {po : Nat → Int32} : ∀ n, xOff i σ (dSum σ i pr po n)
  | 0 => xOff.rf
  | n + 1 => (((dSum_off n).tr rAddT_off).tr rInhA_off).tr rInhL_off
def dDv (σ : xS) (i j : Nat) (d : Int64) : Nat → xS
  | 0 => σ
  | n + 1 => xsL (dDv σ i j d n) (262 + i) n (xgL σ (262 + j) n / d)
theorem dDv_off {σ : xS} {i j : Nat} {d : Int64} : ∀ n, xOff i σ (dDv σ i j d n)
  | 0 => xOff.rf
  | n + 1 => (dDv_off n).tr xOff.F
def dDivs (σ : xS) (j : Nat) (d : Int64) : Prop := ∀ v, v < 8 → xgL σ (262 + j) v - xgL σ (262 + j) v / d * d = 0
def dDone (σ : xS) (i j : Nat) (d : Int64) : xS := rInhL (rInhA (xsL (dDv σ i j d 8) (61 + i) 1 (xFd (xgL (dDv σ i j d 8) (61 + j) 1) d)) i j) i j
def dBr1 (σ : xS) (i : Nat) : xS := xsI (xsI (xsI σ (61 + i) 8 (xgI σ 12 1)) (61 + i) 9 (xgI σ 12 2)) (61 + i) 10 (xgI σ 12 3)
def dBrn (σ : xS) (i : Nat) : xS := if xgI σ 12 3 = 0 then rSingle (dBr1 σ i) i (xgI σ 12 1) 1 (xgI σ 12 2).toInt64 else rSingle (dBr1 σ i) i (xgI σ 12 1) (-1) (-xgI σ 12 2 - 1).toInt64
def dJc (σ : xS) (c d : Nat) : Prop := (xgI σ (61 + c) 5 = 6 ∧ xgI σ (61 + c) 10 = 0) ∧ (xgI σ (61 + d) 5 = 6 ∧ xgI σ (61 + d) 10 = 1) ∧ xgI σ (61 + c) 8 = xgI σ (61 + d) 8 ∧ xgI σ (61 + c) 9 = xgI σ (61 + d) 9
def dJa (σ : xS) (i a b c d : Nat) : xS := xsL σ (61 + i) 2 ((xgL σ (61 + a) 2 &&& (xgL σ (61 + c) 2 ^^^ -1)) ||| (xgL σ (61 + b) 2 &&& (xgL σ (61 + d) 2 ^^^ -1)))
def dJf (σ : xS) (i a b c d x : Nat) : xS := rInhL (rInhL (dJa (rAddT σ i x 1) i a b c d) i a) i b
noncomputable def dJoin (σ : xS) (i a b c d : Nat) : Int32 × xS := @ite _ (dJc σ c d) (Classical.propDecidable _) (@ite _ (rSame σ a b) (Classical.propDecidable _) (if xgL σ (61 + a) 1 ≤ xgL σ (61 + b) 1 then (0, dJf σ i a b c d b) else (0, dJf σ i a b c d a)) (@ite _ (rImp σ a) (Classical.propDecidable _) (0, dJf σ i a b c d b) (@ite _ (rImp σ b) (Classical.propDecidable _) (0, dJf σ i a b c d a) (7, σ)))) (6, σ)
theorem dJ_6 {σ : xS} {i a b c d : Nat} (h : ¬ dJc σ c d) : dJoin σ i a b c d = (6, σ) := if_neg h
theorem dJ_b {σ : xS} {i a b c d : Nat} (h : dJc σ c d) (h2 : rSame σ a b) (h3 : xgL σ (61 + a) 1 ≤ xgL σ (61 + b) 1) : dJoin σ i a b c d = (0, dJf σ i a b c d b) := by unfold dJoin; rw [if_pos h, if_pos h2, if_pos h3]
theorem dJ_a {σ : xS} {i a b c d : Nat} (h : dJc σ c d) (h2 : rSame σ a b) (h3 : ¬ xgL σ (61 + a) 1 ≤ xgL σ (61 + b) 1) : dJoin σ i a b c d = (0, dJf σ i a b c d a) := by unfold dJoin; rw [if_pos h, if_pos h2, if_neg h3]
theorem dJ_ib {σ : xS} {i a b c d : Nat} (h : dJc σ c d) (h2 : ¬ rSame σ a b) (h3 : rImp σ a) : dJoin σ i a b c d = (0, dJf σ i a b c d b) := by unfold dJoin; rw [if_pos h, if_neg h2, if_pos h3]
theorem dJ_ia {σ : xS} {i a b c d : Nat} (h : dJc σ c d) (h2 : ¬ rSame σ a b) (h3 : ¬ rImp σ a) (h4 : rImp σ b) : dJoin σ i a b c d = (0, dJf σ i a b c d a) := by unfold dJoin; rw [if_pos h, if_neg h2, if_neg h3, if_pos h4]
theorem dJ_7 {σ : xS} {i a b c d : Nat} (h : dJc σ c d) (h2 : ¬ rSame σ a b) (h3 : ¬ rImp σ a) (h4 : ¬ rImp σ b) : dJoin σ i a b c d = (7, σ) := by unfold dJoin; rw [if_pos h, if_neg h2, if_neg h3, if_neg h4]
def dBet (σ : xS) (i c p : Nat) : xS := rLimit (xsL (mCr σ i (xgI σ (c + 3)) 8) (61 + i) 1 (xSum (xgI σ (c + 3)) (xgI σ (463 + p)) 8 - 1)) i (xSum (xgI σ (c + 3)) (xgI σ (463 + p)) 8)
def mLo (σ : xS) (c V j : Nat) : Int32 := if j < V then xgI σ (c + 1) j else 0
def mHi (σ : xS) (c V j : Nat) : Int32 := if j < V then xgI σ (c + 2) j else 0
def dRest (σ : xS) (c V j w : Nat) : Nat → Int64
  | 0 => xgL σ (61 + j) 1
  | n + 1 => if n = w then dRest σ c V j w n else dRest σ c V j w n - (if xgL σ (262 + j) n * (mHi σ c V n).toInt64 < xgL σ (262 + j) n * (mLo σ c V n).toInt64 then xgL σ (262 + j) n * (mHi σ c V n).toInt64 else xgL σ (262 + j) n * (mLo σ c V n).toInt64)
def dPush (σ : xS) (i j c V w : Nat) : Int32 × xS := if xgL σ (262 + j) w = 0 then (5, σ) else if xgL σ (262 + j) w ≤ 0 then (0, rInhL (rInhA (rSingle σ i (nI w) (-1) (xFd (dRest σ c V j w 8) (-xgL σ (262 + j) w))) i j) i j) else (0, rInhL (rInhA (rSingle σ i (nI w) 1 (xFd (dRest σ c V j w 8) (xgL σ (262 + j) w))) i j) i j)
theorem rFac_n {σ : xS} {i n : Nat} (h : n < 8) : rFac σ i (nI n) = xgL σ (262 + i) n := by
  unfold rFac
  rw [if_neg (nI_pos (by omega)), if_neg (show ¬ (8 : Int32) ≤ nI n from nI_ge (b := 8) h (by omega)), nI_clamp (by omega)]
theorem c_X2_lowOfG {l : Launch} {G : xG} {σ : xS} {c : Nat} (hm : xMod c) {j V : Nat} (hV : xgI σ c 0 = nI V) (hV8 : V ≤ 8) (hj : j < 8) : xFi l G yX2_lowOf cX2_lowOf 2 (Option.some Jvm.ClassFile.FieldType.int) 1 21 [.ref (G.2.1 c), .int (nI j)] σ (mLo σ c V j) σ := by
  unfold mLo
  by_cases h : j < V
  · rw [if_pos h]; exact c_X2_lowOf hm hV hV8 h
  · rw [if_neg h]; exact c_X2_lowOf0 hm hV hV8 (by omega) hj
theorem c_X2_highOfG {l : Launch} {G : xG} {σ : xS} {c : Nat} (hm : xMod c) {j V : Nat} (hV : xgI σ c 0 = nI V) (hV8 : V ≤ 8) (hj : j < 8) : xFi l G yX2_highOf cX2_highOf 2 (Option.some Jvm.ClassFile.FieldType.int) 1 21 [.ref (G.2.1 c), .int (nI j)] σ (mHi σ c V j) σ := by
  unfold mHi
  by_cases h : j < V
  · rw [if_pos h]; exact c_X2_highOf hm hV hV8 h
  · rw [if_neg h]; exact c_X2_highOf0 hm hV hV8 (by omega) hj
theorem xi_neg {x : Int64} (h : x ≤ 0) (h2 : ¬ x = 0) : ¬ -x = 0 := by
  intro h3
  apply h2
  have h4 : x = -(-x) := by rw [Int64.neg_neg]
  rw [h4, h3]
  rfl

set_option maxHeartbeats 4000000 in
set_option maxRecDepth 100000 in
theorem c_X1_fillSum {l : Launch} {G : xG} {σ : xS} {i k : Nat} {pr : Nat → Nat} (hi : i < 201) {nr : Nat} (hr : nr ≤ 200) (hc : xgI σ 8 3 = nI nr) (hk : k ≤ 4) (hn : xgI σ 11 1 = nI (2 + 2 * k)) (hpr : ∀ m, m < k → xgI σ 12 (2 + 2 * m) = nI (pr m) ∧ pr m < nr) : xFi l G yX1_fillSum cX1_fillSum 5 (Option.some Jvm.ClassFile.FieldType.int) 2 43 [.ref (G.2.1 11), .ref (G.2.1 (61 + i)), .ref (G.2.1 8)] σ (0) (dSum σ i pr (fun m => xgI σ 12 (2 + 2 * m + 1)) k) := by
  refine xM.of (by decide) (Nat.le_of_ble_eq_true rfl) (fun pp ee ss mm aa bel met kk X => ?_)
  have X : xC pp ss mm met kk cX1_fillSum 5 RX1 (Option.some Jvm.ClassFile.FieldType.int) G := X
  show xW pp l ee { frames := 2, cells := 0, slots := 0, locals := 43 } ss mm aa bel met kk 5 G 0 0 (xQ bel G (fun r t => r = some (.int (0)) ∧ t = (dSum σ i pr (fun m => xgI σ 12 (2 + 2 * m + 1)) k)) aa ss) 0 [(0, .ref (G.2.1 11)), (1, .ref (G.2.1 (61 + i))), (2, .ref (G.2.1 8))] [] σ
  refine x_iconst (v := 2) X dX1_fillSum_0 (by decide) ?_
  refine x_istore_n (lv' := [(3, .int 2), (0, .ref (G.2.1 11)), (1, .ref (G.2.1 (61 + i))), (2, .ref (G.2.1 8))]) X dX1_fillSum_1 rfl (by decide) rfl ?_
  have lp2 : ∀ (NN2 : Nat) (m : Nat) (hm : m ≤ k), k - m = NN2 → xW pp l ee { frames := 2, cells := 0, slots := 0, locals := 43 } ss mm aa bel met kk 5 G 0 0 (xQ bel G (fun r t => r = some (.int (0)) ∧ t = (dSum σ i pr (fun m => xgI σ 12 (2 + 2 * m + 1)) k)) aa ss) 2 [(3, .int (nI (2 + 2 * m))), (2, .ref (G.2.1 8)), (1, .ref (G.2.1 (61 + i))), (0, .ref (G.2.1 11))] [] (dSum σ i pr (fun m => xgI σ 12 (2 + 2 * m + 1)) m) := by
    intro NN2
    induction NN2 using Nat.strongRecOn with
    | ind NN2 ih2 =>
      intro m hm hNN2
      refine x_iload_n X dX1_fillSum_2 rfl ?_
      refine x_iconst (v := 1) X dX1_fillSum_3 (by decide) ?_
      refine x_iadd X dX1_fillSum_4 ?_
      rw [nI_1]
      refine x_aload_n X dX1_fillSum_5 rfl ?_
      refine gf_X1_15 X dX1_fillSum_6 rfl ?_
      rw [(dSum_off m).1 11 1 (by omega), hn]
      refine x_icmpge (tgt := 68) X dX1_fillSum_9 (by decide) (fun h9 => ?_) (fun h9 => ?_)
      · skip
        rw [xb_ge (x := nI (2 + 2 * m + 1)) (y := nI (2 + 2 * k)) (a := (2 + 2 * m + 1)) (b := (2 + 2 * k)) rfl rfl (by omega) (by omega)] at h9
        obtain rfl : m = k := by omega
        refine x_iconst (v := 0) X dX1_fillSum_68 (by decide) ?_
        exact x_iret X dX1_fillSum_69 (xp_i (by first | rfl | simp [*]) (by first | rfl | simp [*]))
      · skip
        rw [xb_ge (x := nI (2 + 2 * m + 1)) (y := nI (2 + 2 * k)) (a := (2 + 2 * m + 1)) (b := (2 + 2 * k)) rfl rfl (by omega) (by omega)] at h9
        obtain ⟨hp1, hp2⟩ := hpr m (by omega)
        refine x_iload_n X dX1_fillSum_12 rfl ?_
        refine x_iconst (v := 1) X dX1_fillSum_13 (by decide) ?_
        refine x_iadd X dX1_fillSum_14 ?_
        rw [nI_1]
        refine x_aload_n X dX1_fillSum_15 rfl ?_
        refine gf_X1_9 (k' := 12) X dX1_fillSum_16 rfl rfl ?_
        refine x_ilen (v := 10) X dX1_fillSum_19 rfl (by decide) ?_
        refine x_icmpge (tgt := 68) X dX1_fillSum_20 (by decide) (fun h20 => ?_) (fun h20 => ?_)
        · skip
          rw [xb_ge (x := nI (2 + 2 * m + 1)) (y := 10) (a := (2 + 2 * m + 1)) (b := 10) rfl rfl (by omega) (by omega)] at h20
          omega
        · skip
          rw [xb_ge (x := nI (2 + 2 * m + 1)) (y := 10) (a := (2 + 2 * m + 1)) (b := 10) rfl rfl (by omega) (by omega)] at h20
          refine x_aload_n X dX1_fillSum_23 rfl ?_
          refine x_aload_n X dX1_fillSum_24 rfl ?_
          refine gf_X1_9 (k' := 12) X dX1_fillSum_25 rfl rfl ?_
          refine x_iload_n X dX1_fillSum_28 rfl ?_
          refine x_ialdN X dX1_fillSum_29 rfl (by omega) (by omega) ?_
          rw [(dSum_off m).1 12 _ (by omega), hp1]
          refine cv_X1_113 X (c_X6_at hr (((dSum_off m).1 8 3 (by omega)).trans hc) hp2) dX1_fillSum_30 rfl ⟨by decide, by decide, by decide, by decide⟩ rfl rfl (Nat.le_of_ble_eq_true rfl) (xk_r ?_)
          refine x_astore (lv' := [(4, .ref (G.2.1 (61 + pr m))), (3, .int (nI (2 + 2 * m))), (2, .ref (G.2.1 8)), (1, .ref (G.2.1 (61 + i))), (0, .ref (G.2.1 11))]) X dX1_fillSum_33 (by decide) rfl ?_
          refine x_aload_n X dX1_fillSum_35 rfl ?_
          refine x_aload X dX1_fillSum_36 rfl ?_
          refine x_aload_n X dX1_fillSum_38 rfl ?_
          refine gf_X1_9 (k' := 12) X dX1_fillSum_39 rfl rfl ?_
          refine x_iload_n X dX1_fillSum_42 rfl ?_
          refine x_iconst (v := 1) X dX1_fillSum_43 (by decide) ?_
          refine x_iadd X dX1_fillSum_44 ?_
          rw [nI_1]
          refine x_ialdN X dX1_fillSum_45 rfl (by omega) (by omega) ?_
          rw [(dSum_off m).1 12 _ (by omega)]
          refine x_i2l X dX1_fillSum_46 ?_
          refine cv_X1_135 X (c_X5_addTimes hi (by omega)) dX1_fillSum_47 (xck_row hi) ⟨by decide, by decide, by decide, by decide⟩ rfl rfl (Nat.le_of_ble_eq_true rfl) (xk_v ?_)
          refine x_aload_n X dX1_fillSum_50 rfl ?_
          refine x_aload X dX1_fillSum_51 rfl ?_
          refine cv_X1_139 X (c_X5_inheritAssumptions hi (by omega)) dX1_fillSum_53 (xck_row hi) ⟨by decide, by decide, by decide, by decide⟩ rfl rfl (Nat.le_of_ble_eq_true rfl) (xk_v ?_)
          refine x_aload_n X dX1_fillSum_56 rfl ?_
          refine x_aload X dX1_fillSum_57 rfl ?_
          refine cv_X1_143 X (c_X5_inheritLimit hi (by omega)) dX1_fillSum_59 (xck_row hi) ⟨by decide, by decide, by decide, by decide⟩ rfl rfl (Nat.le_of_ble_eq_true rfl) (xk_v ?_)
          refine x_iinc (k := 1) (v := nI (2 + 2 * (m + 1))) (lv' := [(3, .int (nI (2 + 2 * (m + 1)))), (4, .ref (G.2.1 (61 + pr m))), (2, .ref (G.2.1 8)), (1, .ref (G.2.1 (61 + i))), (0, .ref (G.2.1 11))]) X dX1_fillSum_62 rfl (by rw [show 2 + 2 * (m + 1) = (2 + 2 * m) + 2 by omega]; exact nI_add (2 + 2 * m) 2) (by decide) rfl ?_
          refine x_goto (tgt := 2) X dX1_fillSum_65 (by decide) ?_
          refine x_pick [0, 2, 3, 4] rfl ?_
          exact ih2 _ (by omega) (m + 1) (by omega) rfl
  refine x_pick [0, 3, 2, 1] rfl ?_
  exact lp2 _ 0 (by omega) rfl

set_option maxHeartbeats 4000000 in
set_option maxRecDepth 100000 in
theorem c_X1_fillDivided {l : Launch} {G : xG} {σ : xS} {i j d : Nat} (hi : i < 201) (hj : j < 201) (hij : i ≠ j) (hd : 2 ≤ d) (hd2 : d ≤ 1000) : xM l G yX1_fillDivided cX1_fillDivided 4 (Option.some Jvm.ClassFile.FieldType.int) 2 43 [.ref (G.2.1 (61 + i)), .ref (G.2.1 (61 + j)), .int (nI d)] σ (fun r t => (dDivs σ j (nI d).toInt64 ∧ r = some (.int 0) ∧ t = dDone σ i j (nI d).toInt64) ∨ (¬ dDivs σ j (nI d).toInt64 ∧ r = some (.int 5) ∧ xOff i σ t)) := by
  refine xM.of (by decide) (Nat.le_of_ble_eq_true rfl) (fun pp ee ss mm aa bel met kk X => ?_)
  have X : xC pp ss mm met kk cX1_fillDivided 4 RX1 (Option.some Jvm.ClassFile.FieldType.int) G := X
  show xW pp l ee { frames := 2, cells := 0, slots := 0, locals := 43 } ss mm aa bel met kk 4 G 0 0 (xQ bel G (fun r t => (dDivs σ j (nI d).toInt64 ∧ r = some (.int 0) ∧ t = dDone σ i j (nI d).toInt64) ∨ (¬ dDivs σ j (nI d).toInt64 ∧ r = some (.int 5) ∧ xOff i σ t)) aa ss) 0 [(0, .ref (G.2.1 (61 + i))), (1, .ref (G.2.1 (61 + j))), (2, .int (nI d))] [] σ
  refine x_iload_n X dX1_fillDivided_0 rfl ?_
  refine x_iconst (v := 2) X dX1_fillDivided_1 (by decide) ?_
  refine x_icmpge (tgt := 7) X dX1_fillDivided_2 (by decide) (fun h2 => ?_) (fun h2 => ?_)
  · skip
    rw [xb_ge (x := nI d) (y := 2) (a := d) (b := 2) rfl rfl (by omega) (by omega)] at h2
    refine x_iconst (v := 0) X dX1_fillDivided_7 (by decide) ?_
    refine x_istore_n (lv' := [(3, .int 0), (0, .ref (G.2.1 (61 + i))), (1, .ref (G.2.1 (61 + j))), (2, .int (nI d))]) X dX1_fillDivided_8 rfl (by decide) rfl ?_
    have lp9 : ∀ (NN9 : Nat) (n : Nat) (hn : n ≤ 8) (hz : ∀ v, v < n → xgL σ (262 + j) v - xgL σ (262 + j) v / (nI d).toInt64 * (nI d).toInt64 = 0), 8 - n = NN9 → xW pp l ee { frames := 2, cells := 0, slots := 0, locals := 43 } ss mm aa bel met kk 4 G 0 0 (xQ bel G (fun r t => (dDivs σ j (nI d).toInt64 ∧ r = some (.int 0) ∧ t = dDone σ i j (nI d).toInt64) ∨ (¬ dDivs σ j (nI d).toInt64 ∧ r = some (.int 5) ∧ xOff i σ t)) aa ss) 9 [(3, .int (nI n)), (2, .int (nI d)), (1, .ref (G.2.1 (61 + j))), (0, .ref (G.2.1 (61 + i)))] [] (dDv σ i j (nI d).toInt64 n) := by
      intro NN9
      induction NN9 using Nat.strongRecOn with
      | ind NN9 ih9 =>
        intro n hn hz hNN9
        refine x_iload_n X dX1_fillDivided_9 rfl ?_
        refine x_bipush (v := 8) X dX1_fillDivided_10 (by decide) ?_
        refine x_icmpge (tgt := 49) X dX1_fillDivided_12 (by decide) (fun h12 => ?_) (fun h12 => ?_)
        · skip
          rw [xb_ge (x := nI n) (y := 8) (a := n) (b := 8) rfl rfl (by omega) (by omega)] at h12
          obtain rfl : n = 8 := by omega
          refine x_aload_n X dX1_fillDivided_49 rfl ?_
          refine x_aload_n X dX1_fillDivided_50 rfl ?_
          refine gf_X1_154 X dX1_fillDivided_51 (xck_row hj) ?_
          refine x_iload_n X dX1_fillDivided_54 rfl ?_
          refine x_i2l X dX1_fillDivided_55 ?_
          refine cs_X1_158 X (c_J9_floorDiv_f86c9 (xi_ne (nI_ne0 (by omega) (by omega)))) dX1_fillDivided_56 ⟨by decide, by decide, by decide, by decide⟩ rfl rfl (Nat.le_of_ble_eq_true rfl) (xk_l ?_)
          refine pf_X1_154 X dX1_fillDivided_59 (xck_row hi) ?_
          refine x_aload_n X dX1_fillDivided_62 rfl ?_
          refine x_aload_n X dX1_fillDivided_63 rfl ?_
          refine cv_X1_139 X (c_X5_inheritAssumptions hi hj) dX1_fillDivided_64 (xck_row hi) ⟨by decide, by decide, by decide, by decide⟩ rfl rfl (Nat.le_of_ble_eq_true rfl) (xk_v ?_)
          refine x_aload_n X dX1_fillDivided_67 rfl ?_
          refine x_aload_n X dX1_fillDivided_68 rfl ?_
          refine cv_X1_143 X (c_X5_inheritLimit hi hj) dX1_fillDivided_69 (xck_row hi) ⟨by decide, by decide, by decide, by decide⟩ rfl rfl (Nat.le_of_ble_eq_true rfl) (xk_v ?_)
          refine x_iconst (v := 0) X dX1_fillDivided_72 (by decide) ?_
          exact x_iret X dX1_fillDivided_73 (Or.inl ⟨hz, rfl, rfl⟩)
        · skip
          rw [xb_ge (x := nI n) (y := 8) (a := n) (b := 8) rfl rfl (by omega) (by omega)] at h12
          refine x_aload_n X dX1_fillDivided_15 rfl ?_
          refine x_iload_n X dX1_fillDivided_16 rfl ?_
          refine cv_X1_146 X (c_X5_factorOf hj) dX1_fillDivided_17 (xck_row hj) ⟨by decide, by decide, by decide, by decide⟩ rfl rfl (Nat.le_of_ble_eq_true rfl) (xk_l ?_)
          rw [rFac_n (by omega), (dDv_off n).2.1 (262 + j) n (by omega) (by omega)]
          refine x_iload_n X dX1_fillDivided_20 rfl ?_
          refine x_i2l X dX1_fillDivided_21 ?_
          refine x_lrem X dX1_fillDivided_22 (xi_ne (nI_ne0 (by omega) (by omega))) ?_
          refine x_lconst (v := 0) X dX1_fillDivided_23 (by decide) ?_
          refine x_lcmp X dX1_fillDivided_24 ?_
          refine x_ifeq (tgt := 30) X dX1_fillDivided_25 (by decide) (fun h25 => ?_) (fun h25 => ?_)
          · skip
            rw [lg_cmp_eq] at h25
            have hz2 := lt_s hz h25
            refine x_aload_n X dX1_fillDivided_30 rfl ?_
            refine x_iload_n X dX1_fillDivided_31 rfl ?_
            refine x_aload_n X dX1_fillDivided_32 rfl ?_
            refine x_iload_n X dX1_fillDivided_33 rfl ?_
            refine cv_X1_146 X (c_X5_factorOf hj) dX1_fillDivided_34 (xck_row hj) ⟨by decide, by decide, by decide, by decide⟩ rfl rfl (Nat.le_of_ble_eq_true rfl) (xk_l ?_)
            rw [rFac_n (by omega), (dDv_off n).2.1 (262 + j) n (by omega) (by omega)]
            refine x_iload_n X dX1_fillDivided_37 rfl ?_
            refine x_i2l X dX1_fillDivided_38 ?_
            refine x_ldiv X dX1_fillDivided_39 (xi_ne (nI_ne0 (by omega) (by omega))) ?_
            refine cv_X1_150 X (c_X5_setFactor hi) dX1_fillDivided_40 (xck_row hi) ⟨by decide, by decide, by decide, by decide⟩ rfl rfl (Nat.le_of_ble_eq_true rfl) (xk_v ?_)
            rw [rSet_n (by omega)]
            refine x_iinc (k := 0) (v := nI (n + 1)) (lv' := [(3, .int (nI (n + 1))), (2, .int (nI d)), (1, .ref (G.2.1 (61 + j))), (0, .ref (G.2.1 (61 + i)))]) X dX1_fillDivided_43 rfl (xn_inc _) (by decide) rfl ?_
            refine x_goto (tgt := 9) X dX1_fillDivided_46 (by decide) ?_
            refine x_pick [0, 1, 2, 3] rfl ?_
            exact ih9 _ (by omega) (n + 1) (by omega) hz2 rfl
          · skip
            rw [lg_cmp_eq] at h25
            refine x_iconst (v := 5) X dX1_fillDivided_28 (by decide) ?_
            exact x_iret X dX1_fillDivided_29 (Or.inr ⟨fun z => h25 (z n (by omega)), rfl, dDv_off n⟩)
    refine x_pick [0, 3, 2, 1] rfl ?_
    exact lp9 _ 0 (by omega) lt_0 rfl
  · skip
    rw [xb_ge (x := nI d) (y := 2) (a := d) (b := 2) rfl rfl (by omega) (by omega)] at h2
    omega

set_option maxHeartbeats 4000000 in
set_option maxRecDepth 100000 in
theorem c_X1_fillBranch {l : Launch} {G : xG} {σ : xS} {i : Nat} (hi : i < 201) : xFi l G yX1_fillBranch cX1_fillBranch 2 (Option.some Jvm.ClassFile.FieldType.int) 2 48 [.ref (G.2.1 11), .ref (G.2.1 (61 + i))] σ (0) (dBrn σ i) := by
  refine xM.of (by decide) (Nat.le_of_ble_eq_true rfl) (fun pp ee ss mm aa bel met kk X => ?_)
  have X : xC pp ss mm met kk cX1_fillBranch 2 RX1 (Option.some Jvm.ClassFile.FieldType.int) G := X
  show xW pp l ee { frames := 2, cells := 0, slots := 0, locals := 48 } ss mm aa bel met kk 2 G 0 0 (xQ bel G (fun r t => r = some (.int (0)) ∧ t = (dBrn σ i)) aa ss) 0 [(0, .ref (G.2.1 11)), (1, .ref (G.2.1 (61 + i)))] [] σ
  refine x_aload_n X dX1_fillBranch_0 rfl ?_
  refine x_aload_n X dX1_fillBranch_1 rfl ?_
  refine gf_X1_9 (k' := 12) X dX1_fillBranch_2 rfl rfl ?_
  refine x_iconst (v := 1) X dX1_fillBranch_5 (by decide) ?_
  refine x_ialdN (i := 1) X dX1_fillBranch_6 rfl (by omega) (by omega) ?_
  refine pf_X1_164 X dX1_fillBranch_7 (xck_row hi) ?_
  refine x_aload_n X dX1_fillBranch_10 rfl ?_
  refine x_aload_n X dX1_fillBranch_11 rfl ?_
  refine gf_X1_9 (k' := 12) X dX1_fillBranch_12 rfl rfl ?_
  refine x_iconst (v := 2) X dX1_fillBranch_15 (by decide) ?_
  refine x_ialdN (i := 2) X dX1_fillBranch_16 rfl (by omega) (by omega) ?_
  rw [xgI_n (by omega)]
  refine pf_X1_167 X dX1_fillBranch_17 (xck_row hi) ?_
  refine x_aload_n X dX1_fillBranch_20 rfl ?_
  refine x_aload_n X dX1_fillBranch_21 rfl ?_
  refine gf_X1_9 (k' := 12) X dX1_fillBranch_22 rfl rfl ?_
  refine x_iconst (v := 3) X dX1_fillBranch_25 (by decide) ?_
  refine x_ialdN (i := 3) X dX1_fillBranch_26 rfl (by omega) (by omega) ?_
  rw [xgI_n (by omega), xgI_n (by omega)]
  refine pf_X1_170 X dX1_fillBranch_27 (xck_row hi) ?_
  refine x_aload_n X dX1_fillBranch_30 rfl ?_
  refine gf_X1_170 X dX1_fillBranch_31 (xck_row hi) ?_
  rw [xgI_s]
  refine x_ifne (tgt := 54) X dX1_fillBranch_34 (by decide) (fun h34 => ?_) (fun h34 => ?_)
  · skip
    refine x_aload_n X dX1_fillBranch_54 rfl ?_
    refine x_aload_n X dX1_fillBranch_55 rfl ?_
    refine gf_X1_164 X dX1_fillBranch_56 (xck_row hi) ?_
    rw [xgI_n (by omega), xgI_n (by omega), xgI_s]
    refine x_ldc2 X dX1_fillBranch_59 wk_X1_100 ?_
    refine x_aload_n X dX1_fillBranch_62 rfl ?_
    refine gf_X1_167 X dX1_fillBranch_63 (xck_row hi) ?_
    rw [xgI_n (by omega), xgI_s]
    refine x_ineg X dX1_fillBranch_66 ?_
    refine x_iconst (v := 1) X dX1_fillBranch_67 (by decide) ?_
    refine x_isub X dX1_fillBranch_68 ?_
    refine x_i2l X dX1_fillBranch_69 ?_
    refine cv_X1_96 X (c_X5_setSingle hi) dX1_fillBranch_70 (xck_row hi) ⟨by decide, by decide, by decide, by decide⟩ rfl rfl (Nat.le_of_ble_eq_true rfl) (xk_v ?_)
    refine x_iconst (v := 0) X dX1_fillBranch_73 (by decide) ?_
    exact x_iret X dX1_fillBranch_74 (xp_i (by first | rfl | simp [*]) (by unfold dBrn dBr1; first | exact (if_pos h34).symm | exact (if_neg h34).symm))
  · skip
    refine x_aload_n X dX1_fillBranch_37 rfl ?_
    refine x_aload_n X dX1_fillBranch_38 rfl ?_
    refine gf_X1_164 X dX1_fillBranch_39 (xck_row hi) ?_
    rw [xgI_n (by omega), xgI_n (by omega), xgI_s]
    refine x_lconst (v := 1) X dX1_fillBranch_42 (by decide) ?_
    refine x_aload_n X dX1_fillBranch_43 rfl ?_
    refine gf_X1_167 X dX1_fillBranch_44 (xck_row hi) ?_
    rw [xgI_n (by omega), xgI_s]
    refine x_i2l X dX1_fillBranch_47 ?_
    refine cv_X1_96 X (c_X5_setSingle hi) dX1_fillBranch_48 (xck_row hi) ⟨by decide, by decide, by decide, by decide⟩ rfl rfl (Nat.le_of_ble_eq_true rfl) (xk_v ?_)
    refine x_goto (tgt := 73) X dX1_fillBranch_51 (by decide) ?_
    refine x_iconst (v := 0) X dX1_fillBranch_73 (by decide) ?_
    exact x_iret X dX1_fillBranch_74 (xp_i (by first | rfl | simp [*]) (by unfold dBrn dBr1; first | exact (if_pos h34).symm | exact (if_neg h34).symm))

set_option maxHeartbeats 4000000 in
set_option maxRecDepth 100000 in
theorem c_X1_fillJoined {l : Launch} {G : xG} {σ : xS} {i a b c d : Nat} (hi : i < 201) {nr : Nat} (hr : nr ≤ 200) (hc : xgI σ 8 3 = nI nr) (ha : xgI σ 12 1 = nI a) (ha2 : a < nr) (hb : xgI σ 12 2 = nI b) (hb2 : b < nr) (hcc : xgI σ 12 3 = nI c) (hc2 : c < nr) (hd : xgI σ 12 4 = nI d) (hd2 : d < nr) (hia : i ≠ a) (hib : i ≠ b) (hic : i ≠ c) (hid : i ≠ d) : xFi l G yX1_fillJoined cX1_fillJoined 7 (Option.some Jvm.ClassFile.FieldType.int) 2 43 [.ref (G.2.1 11), .ref (G.2.1 (61 + i)), .ref (G.2.1 8)] σ ((dJoin σ i a b c d).1) ((dJoin σ i a b c d).2) := by
  refine xM.of (by decide) (Nat.le_of_ble_eq_true rfl) (fun pp ee ss mm aa bel met kk X => ?_)
  have X : xC pp ss mm met kk cX1_fillJoined 7 RX1 (Option.some Jvm.ClassFile.FieldType.int) G := X
  show xW pp l ee { frames := 2, cells := 0, slots := 0, locals := 43 } ss mm aa bel met kk 7 G 0 0 (xQ bel G (fun r t => r = some (.int ((dJoin σ i a b c d).1)) ∧ t = ((dJoin σ i a b c d).2)) aa ss) 0 [(0, .ref (G.2.1 11)), (1, .ref (G.2.1 (61 + i))), (2, .ref (G.2.1 8))] [] σ
  refine x_aload_n X dX1_fillJoined_0 rfl ?_
  refine x_aload_n X dX1_fillJoined_1 rfl ?_
  refine gf_X1_9 (k' := 12) X dX1_fillJoined_2 rfl rfl ?_
  refine x_iconst (v := 1) X dX1_fillJoined_5 (by decide) ?_
  refine x_ialdN (i := 1) X dX1_fillJoined_6 rfl (by omega) (by omega) ?_
  rw [ha]
  refine cv_X1_113 X (c_X6_at hr hc ha2) dX1_fillJoined_7 rfl ⟨by decide, by decide, by decide, by decide⟩ rfl rfl (Nat.le_of_ble_eq_true rfl) (xk_r ?_)
  refine x_astore_n (lv' := [(3, .ref (G.2.1 (61 + a))), (0, .ref (G.2.1 11)), (1, .ref (G.2.1 (61 + i))), (2, .ref (G.2.1 8))]) X dX1_fillJoined_10 rfl (by decide) rfl ?_
  refine x_aload_n X dX1_fillJoined_11 rfl ?_
  refine x_aload_n X dX1_fillJoined_12 rfl ?_
  refine gf_X1_9 (k' := 12) X dX1_fillJoined_13 rfl rfl ?_
  refine x_iconst (v := 2) X dX1_fillJoined_16 (by decide) ?_
  refine x_ialdN (i := 2) X dX1_fillJoined_17 rfl (by omega) (by omega) ?_
  rw [hb]
  refine cv_X1_113 X (c_X6_at hr hc hb2) dX1_fillJoined_18 rfl ⟨by decide, by decide, by decide, by decide⟩ rfl rfl (Nat.le_of_ble_eq_true rfl) (xk_r ?_)
  refine x_astore (lv' := [(4, .ref (G.2.1 (61 + b))), (3, .ref (G.2.1 (61 + a))), (0, .ref (G.2.1 11)), (1, .ref (G.2.1 (61 + i))), (2, .ref (G.2.1 8))]) X dX1_fillJoined_21 (by decide) rfl ?_
  refine x_aload_n X dX1_fillJoined_23 rfl ?_
  refine x_aload_n X dX1_fillJoined_24 rfl ?_
  refine gf_X1_9 (k' := 12) X dX1_fillJoined_25 rfl rfl ?_
  refine x_iconst (v := 3) X dX1_fillJoined_28 (by decide) ?_
  refine x_ialdN (i := 3) X dX1_fillJoined_29 rfl (by omega) (by omega) ?_
  rw [hcc]
  refine cv_X1_113 X (c_X6_at hr hc hc2) dX1_fillJoined_30 rfl ⟨by decide, by decide, by decide, by decide⟩ rfl rfl (Nat.le_of_ble_eq_true rfl) (xk_r ?_)
  refine x_astore (lv' := [(5, .ref (G.2.1 (61 + c))), (4, .ref (G.2.1 (61 + b))), (3, .ref (G.2.1 (61 + a))), (0, .ref (G.2.1 11)), (1, .ref (G.2.1 (61 + i))), (2, .ref (G.2.1 8))]) X dX1_fillJoined_33 (by decide) rfl ?_
  refine x_aload_n X dX1_fillJoined_35 rfl ?_
  refine x_aload_n X dX1_fillJoined_36 rfl ?_
  refine gf_X1_9 (k' := 12) X dX1_fillJoined_37 rfl rfl ?_
  refine x_iconst (v := 4) X dX1_fillJoined_40 (by decide) ?_
  refine x_ialdN (i := 4) X dX1_fillJoined_41 rfl (by omega) (by omega) ?_
  rw [hd]
  refine cv_X1_113 X (c_X6_at hr hc hd2) dX1_fillJoined_42 rfl ⟨by decide, by decide, by decide, by decide⟩ rfl rfl (Nat.le_of_ble_eq_true rfl) (xk_r ?_)
  refine x_astore (lv' := [(6, .ref (G.2.1 (61 + d))), (5, .ref (G.2.1 (61 + c))), (4, .ref (G.2.1 (61 + b))), (3, .ref (G.2.1 (61 + a))), (0, .ref (G.2.1 11)), (1, .ref (G.2.1 (61 + i))), (2, .ref (G.2.1 8))]) X dX1_fillJoined_45 (by decide) rfl ?_
  refine x_aload X dX1_fillJoined_47 rfl ?_
  refine x_iconst (v := 0) X dX1_fillJoined_49 (by decide) ?_
  refine cv_X1_173 X (c_X5_isBranch (by omega)) dX1_fillJoined_50 (xck_row (i := c) (by omega)) ⟨by decide, by decide, by decide, by decide⟩ rfl rfl (Nat.le_of_ble_eq_true rfl) (xk_i ?_)
  refine x_ifeq (tgt := 91) X dX1_fillJoined_53 (by decide) (fun h53 => ?_) (fun h53 => ?_)
  · skip
    refine x_bipush (v := 6) X dX1_fillJoined_91 (by decide) ?_
    exact x_iret X dX1_fillJoined_93 (by have hj6 : ¬ dJc σ c d := (by first | exact fun z => (xB_0.mp h53) z.1 | exact fun z => (xB_0.mp h62) z.2.1 | exact fun z => h75 z.2.2.1 | exact fun z => h88 z.2.2.2); rw [dJ_6 hj6]; exact ⟨rfl, rfl⟩)
  · skip
    refine x_aload X dX1_fillJoined_56 rfl ?_
    refine x_iconst (v := 1) X dX1_fillJoined_58 (by decide) ?_
    refine cv_X1_173 X (c_X5_isBranch (by omega)) dX1_fillJoined_59 (xck_row (i := d) (by omega)) ⟨by decide, by decide, by decide, by decide⟩ rfl rfl (Nat.le_of_ble_eq_true rfl) (xk_i ?_)
    refine x_ifeq (tgt := 91) X dX1_fillJoined_62 (by decide) (fun h62 => ?_) (fun h62 => ?_)
    · skip
      refine x_bipush (v := 6) X dX1_fillJoined_91 (by decide) ?_
      exact x_iret X dX1_fillJoined_93 (by have hj6 : ¬ dJc σ c d := (by first | exact fun z => (xB_0.mp h53) z.1 | exact fun z => (xB_0.mp h62) z.2.1 | exact fun z => h75 z.2.2.1 | exact fun z => h88 z.2.2.2); rw [dJ_6 hj6]; exact ⟨rfl, rfl⟩)
    · skip
      refine x_aload X dX1_fillJoined_65 rfl ?_
      refine gf_X1_164 X dX1_fillJoined_67 (xck_row (i := c) (by omega)) ?_
      refine x_aload X dX1_fillJoined_70 rfl ?_
      refine gf_X1_164 X dX1_fillJoined_72 (xck_row (i := d) (by omega)) ?_
      refine x_icmpne (tgt := 91) X dX1_fillJoined_75 (by decide) (fun h75 => ?_) (fun h75 => ?_)
      · skip
        refine x_bipush (v := 6) X dX1_fillJoined_91 (by decide) ?_
        exact x_iret X dX1_fillJoined_93 (by have hj6 : ¬ dJc σ c d := (by first | exact fun z => (xB_0.mp h53) z.1 | exact fun z => (xB_0.mp h62) z.2.1 | exact fun z => h75 z.2.2.1 | exact fun z => h88 z.2.2.2); rw [dJ_6 hj6]; exact ⟨rfl, rfl⟩)
      · skip
        refine x_aload X dX1_fillJoined_78 rfl ?_
        refine gf_X1_167 X dX1_fillJoined_80 (xck_row (i := c) (by omega)) ?_
        refine x_aload X dX1_fillJoined_83 rfl ?_
        refine gf_X1_167 X dX1_fillJoined_85 (xck_row (i := d) (by omega)) ?_
        refine x_icmpeq (tgt := 94) X dX1_fillJoined_88 (by decide) (fun h88 => ?_) (fun h88 => ?_)
        · skip
          have hjc : dJc σ c d := ⟨Classical.not_not.mp (fun z => h53 (xB_f z)), Classical.not_not.mp (fun z => h62 (xB_f z)), h75, h88⟩
          refine x_aload_n X dX1_fillJoined_94 rfl ?_
          refine x_aload X dX1_fillJoined_95 rfl ?_
          refine cv_X1_176 X (c_X5_hasFactorsOf (by omega) (by omega)) dX1_fillJoined_97 (xck_row (i := a) (by omega)) ⟨by decide, by decide, by decide, by decide⟩ rfl rfl (Nat.le_of_ble_eq_true rfl) (xk_i ?_)
          refine x_ifeq (tgt := 130) X dX1_fillJoined_100 (by decide) (fun h100 => ?_) (fun h100 => ?_)
          · skip
            have h100b := xB_0.mp h100
            refine x_aload_n X dX1_fillJoined_130 rfl ?_
            refine cv_X1_180 X (c_X5_isImpossible (by omega)) dX1_fillJoined_131 (xck_row (i := a) (by omega)) ⟨by decide, by decide, by decide, by decide⟩ rfl rfl (Nat.le_of_ble_eq_true rfl) (xk_i ?_)
            refine x_ifeq (tgt := 147) X dX1_fillJoined_134 (by decide) (fun h134 => ?_) (fun h134 => ?_)
            · skip
              have h134b := xB_0.mp h134
              refine x_aload X dX1_fillJoined_147 rfl ?_
              refine cv_X1_180 X (c_X5_isImpossible (by omega)) dX1_fillJoined_149 (xck_row (i := b) (by omega)) ⟨by decide, by decide, by decide, by decide⟩ rfl rfl (Nat.le_of_ble_eq_true rfl) (xk_i ?_)
              refine x_ifeq (tgt := 164) X dX1_fillJoined_152 (by decide) (fun h152 => ?_) (fun h152 => ?_)
              · skip
                have h152b := xB_0.mp h152
                refine x_bipush (v := 7) X dX1_fillJoined_164 (by decide) ?_
                exact x_iret X dX1_fillJoined_166 (by rw [dJ_7 hjc h100b h134b h152b]; exact ⟨rfl, rfl⟩)
              · skip
                have h152b : rImp σ b := Classical.not_not.mp (fun z => h152 (xB_f z))
                have hfin := dJ_ia (i := i) hjc h100b h134b h152b
                refine x_aload_n X dX1_fillJoined_155 rfl ?_
                refine x_aload_n X dX1_fillJoined_156 rfl ?_
                refine x_lconst (v := 1) X dX1_fillJoined_157 (by decide) ?_
                refine cv_X1_135 X (c_X5_addTimes hi (by omega)) dX1_fillJoined_158 (xck_row hi) ⟨by decide, by decide, by decide, by decide⟩ rfl rfl (Nat.le_of_ble_eq_true rfl) (xk_v ?_)
                refine x_goto (tgt := 167) X dX1_fillJoined_161 (by decide) ?_
                refine x_aload_n X dX1_fillJoined_167 rfl ?_
                refine x_aload_n X dX1_fillJoined_168 rfl ?_
                refine gf_X1_183 X dX1_fillJoined_169 (xck_row (i := a) (by omega)) ?_
                refine x_aload X dX1_fillJoined_172 rfl ?_
                refine gf_X1_183 X dX1_fillJoined_174 (xck_row (i := c) (by omega)) ?_
                refine x_ldc2 X dX1_fillJoined_177 wk_X1_100 ?_
                refine x_lxor X dX1_fillJoined_180 ?_
                refine x_land X dX1_fillJoined_181 ?_
                refine x_aload X dX1_fillJoined_182 rfl ?_
                refine gf_X1_183 X dX1_fillJoined_184 (xck_row (i := b) (by omega)) ?_
                refine x_aload X dX1_fillJoined_187 rfl ?_
                refine gf_X1_183 X dX1_fillJoined_189 (xck_row (i := d) (by omega)) ?_
                refine x_ldc2 X dX1_fillJoined_192 wk_X1_100 ?_
                refine x_lxor X dX1_fillJoined_195 ?_
                refine x_land X dX1_fillJoined_196 ?_
                refine x_lor X dX1_fillJoined_197 ?_
                refine pf_X1_183 X dX1_fillJoined_198 (xck_row hi) ?_
                refine x_aload_n X dX1_fillJoined_201 rfl ?_
                refine x_aload_n X dX1_fillJoined_202 rfl ?_
                refine cv_X1_143 X (c_X5_inheritLimit hi (by omega)) dX1_fillJoined_203 (xck_row hi) ⟨by decide, by decide, by decide, by decide⟩ rfl rfl (Nat.le_of_ble_eq_true rfl) (xk_v ?_)
                refine x_aload_n X dX1_fillJoined_206 rfl ?_
                refine x_aload X dX1_fillJoined_207 rfl ?_
                refine cv_X1_143 X (c_X5_inheritLimit hi (by omega)) dX1_fillJoined_209 (xck_row hi) ⟨by decide, by decide, by decide, by decide⟩ rfl rfl (Nat.le_of_ble_eq_true rfl) (xk_v ?_)
                refine x_iconst (v := 0) X dX1_fillJoined_212 (by decide) ?_
                exact x_iret X dX1_fillJoined_213 (by rw [hfin]; exact ⟨rfl, rfl⟩)
            · skip
              have h134b : rImp σ a := Classical.not_not.mp (fun z => h134 (xB_f z))
              have hfin := dJ_ib (i := i) hjc h100b h134b
              refine x_aload_n X dX1_fillJoined_137 rfl ?_
              refine x_aload X dX1_fillJoined_138 rfl ?_
              refine x_lconst (v := 1) X dX1_fillJoined_140 (by decide) ?_
              refine cv_X1_135 X (c_X5_addTimes hi (by omega)) dX1_fillJoined_141 (xck_row hi) ⟨by decide, by decide, by decide, by decide⟩ rfl rfl (Nat.le_of_ble_eq_true rfl) (xk_v ?_)
              refine x_goto (tgt := 167) X dX1_fillJoined_144 (by decide) ?_
              refine x_aload_n X dX1_fillJoined_167 rfl ?_
              refine x_aload_n X dX1_fillJoined_168 rfl ?_
              refine gf_X1_183 X dX1_fillJoined_169 (xck_row (i := a) (by omega)) ?_
              refine x_aload X dX1_fillJoined_172 rfl ?_
              refine gf_X1_183 X dX1_fillJoined_174 (xck_row (i := c) (by omega)) ?_
              refine x_ldc2 X dX1_fillJoined_177 wk_X1_100 ?_
              refine x_lxor X dX1_fillJoined_180 ?_
              refine x_land X dX1_fillJoined_181 ?_
              refine x_aload X dX1_fillJoined_182 rfl ?_
              refine gf_X1_183 X dX1_fillJoined_184 (xck_row (i := b) (by omega)) ?_
              refine x_aload X dX1_fillJoined_187 rfl ?_
              refine gf_X1_183 X dX1_fillJoined_189 (xck_row (i := d) (by omega)) ?_
              refine x_ldc2 X dX1_fillJoined_192 wk_X1_100 ?_
              refine x_lxor X dX1_fillJoined_195 ?_
              refine x_land X dX1_fillJoined_196 ?_
              refine x_lor X dX1_fillJoined_197 ?_
              refine pf_X1_183 X dX1_fillJoined_198 (xck_row hi) ?_
              refine x_aload_n X dX1_fillJoined_201 rfl ?_
              refine x_aload_n X dX1_fillJoined_202 rfl ?_
              refine cv_X1_143 X (c_X5_inheritLimit hi (by omega)) dX1_fillJoined_203 (xck_row hi) ⟨by decide, by decide, by decide, by decide⟩ rfl rfl (Nat.le_of_ble_eq_true rfl) (xk_v ?_)
              refine x_aload_n X dX1_fillJoined_206 rfl ?_
              refine x_aload X dX1_fillJoined_207 rfl ?_
              refine cv_X1_143 X (c_X5_inheritLimit hi (by omega)) dX1_fillJoined_209 (xck_row hi) ⟨by decide, by decide, by decide, by decide⟩ rfl rfl (Nat.le_of_ble_eq_true rfl) (xk_v ?_)
              refine x_iconst (v := 0) X dX1_fillJoined_212 (by decide) ?_
              exact x_iret X dX1_fillJoined_213 (by rw [hfin]; exact ⟨rfl, rfl⟩)
          · skip
            have h100b : rSame σ a b := Classical.not_not.mp (fun z => h100 (xB_f z))
            refine x_aload_n X dX1_fillJoined_103 rfl ?_
            refine x_aload_n X dX1_fillJoined_104 rfl ?_
            refine gf_X1_154 X dX1_fillJoined_105 (xck_row (i := a) (by omega)) ?_
            refine x_aload X dX1_fillJoined_108 rfl ?_
            refine gf_X1_154 X dX1_fillJoined_110 (xck_row (i := b) (by omega)) ?_
            refine x_lcmp X dX1_fillJoined_113 ?_
            refine x_ifle (tgt := 121) X dX1_fillJoined_114 (by decide) (fun h114 => ?_) (fun h114 => ?_)
            · skip
              rw [lg_cmp_le] at h114
              have hfin := dJ_b (i := i) hjc h100b h114
              refine x_aload X dX1_fillJoined_121 rfl ?_
              refine x_lconst (v := 1) X dX1_fillJoined_123 (by decide) ?_
              refine cv_X1_135 X (c_X5_addTimes hi (by omega)) dX1_fillJoined_124 (xck_row hi) ⟨by decide, by decide, by decide, by decide⟩ rfl rfl (Nat.le_of_ble_eq_true rfl) (xk_v ?_)
              refine x_goto (tgt := 167) X dX1_fillJoined_127 (by decide) ?_
              refine x_aload_n X dX1_fillJoined_167 rfl ?_
              refine x_aload_n X dX1_fillJoined_168 rfl ?_
              refine gf_X1_183 X dX1_fillJoined_169 (xck_row (i := a) (by omega)) ?_
              refine x_aload X dX1_fillJoined_172 rfl ?_
              refine gf_X1_183 X dX1_fillJoined_174 (xck_row (i := c) (by omega)) ?_
              refine x_ldc2 X dX1_fillJoined_177 wk_X1_100 ?_
              refine x_lxor X dX1_fillJoined_180 ?_
              refine x_land X dX1_fillJoined_181 ?_
              refine x_aload X dX1_fillJoined_182 rfl ?_
              refine gf_X1_183 X dX1_fillJoined_184 (xck_row (i := b) (by omega)) ?_
              refine x_aload X dX1_fillJoined_187 rfl ?_
              refine gf_X1_183 X dX1_fillJoined_189 (xck_row (i := d) (by omega)) ?_
              refine x_ldc2 X dX1_fillJoined_192 wk_X1_100 ?_
              refine x_lxor X dX1_fillJoined_195 ?_
              refine x_land X dX1_fillJoined_196 ?_
              refine x_lor X dX1_fillJoined_197 ?_
              refine pf_X1_183 X dX1_fillJoined_198 (xck_row hi) ?_
              refine x_aload_n X dX1_fillJoined_201 rfl ?_
              refine x_aload_n X dX1_fillJoined_202 rfl ?_
              refine cv_X1_143 X (c_X5_inheritLimit hi (by omega)) dX1_fillJoined_203 (xck_row hi) ⟨by decide, by decide, by decide, by decide⟩ rfl rfl (Nat.le_of_ble_eq_true rfl) (xk_v ?_)
              refine x_aload_n X dX1_fillJoined_206 rfl ?_
              refine x_aload X dX1_fillJoined_207 rfl ?_
              refine cv_X1_143 X (c_X5_inheritLimit hi (by omega)) dX1_fillJoined_209 (xck_row hi) ⟨by decide, by decide, by decide, by decide⟩ rfl rfl (Nat.le_of_ble_eq_true rfl) (xk_v ?_)
              refine x_iconst (v := 0) X dX1_fillJoined_212 (by decide) ?_
              exact x_iret X dX1_fillJoined_213 (by rw [hfin]; exact ⟨rfl, rfl⟩)
            · skip
              rw [lg_cmp_le] at h114
              have hfin := dJ_a (i := i) hjc h100b h114
              refine x_aload_n X dX1_fillJoined_117 rfl ?_
              refine x_goto (tgt := 123) X dX1_fillJoined_118 (by decide) ?_
              refine x_lconst (v := 1) X dX1_fillJoined_123 (by decide) ?_
              refine cv_X1_135 X (c_X5_addTimes hi (by omega)) dX1_fillJoined_124 (xck_row hi) ⟨by decide, by decide, by decide, by decide⟩ rfl rfl (Nat.le_of_ble_eq_true rfl) (xk_v ?_)
              refine x_goto (tgt := 167) X dX1_fillJoined_127 (by decide) ?_
              refine x_aload_n X dX1_fillJoined_167 rfl ?_
              refine x_aload_n X dX1_fillJoined_168 rfl ?_
              refine gf_X1_183 X dX1_fillJoined_169 (xck_row (i := a) (by omega)) ?_
              refine x_aload X dX1_fillJoined_172 rfl ?_
              refine gf_X1_183 X dX1_fillJoined_174 (xck_row (i := c) (by omega)) ?_
              refine x_ldc2 X dX1_fillJoined_177 wk_X1_100 ?_
              refine x_lxor X dX1_fillJoined_180 ?_
              refine x_land X dX1_fillJoined_181 ?_
              refine x_aload X dX1_fillJoined_182 rfl ?_
              refine gf_X1_183 X dX1_fillJoined_184 (xck_row (i := b) (by omega)) ?_
              refine x_aload X dX1_fillJoined_187 rfl ?_
              refine gf_X1_183 X dX1_fillJoined_189 (xck_row (i := d) (by omega)) ?_
              refine x_ldc2 X dX1_fillJoined_192 wk_X1_100 ?_
              refine x_lxor X dX1_fillJoined_195 ?_
              refine x_land X dX1_fillJoined_196 ?_
              refine x_lor X dX1_fillJoined_197 ?_
              refine pf_X1_183 X dX1_fillJoined_198 (xck_row hi) ?_
              refine x_aload_n X dX1_fillJoined_201 rfl ?_
              refine x_aload_n X dX1_fillJoined_202 rfl ?_
              refine cv_X1_143 X (c_X5_inheritLimit hi (by omega)) dX1_fillJoined_203 (xck_row hi) ⟨by decide, by decide, by decide, by decide⟩ rfl rfl (Nat.le_of_ble_eq_true rfl) (xk_v ?_)
              refine x_aload_n X dX1_fillJoined_206 rfl ?_
              refine x_aload X dX1_fillJoined_207 rfl ?_
              refine cv_X1_143 X (c_X5_inheritLimit hi (by omega)) dX1_fillJoined_209 (xck_row hi) ⟨by decide, by decide, by decide, by decide⟩ rfl rfl (Nat.le_of_ble_eq_true rfl) (xk_v ?_)
              refine x_iconst (v := 0) X dX1_fillJoined_212 (by decide) ?_
              exact x_iret X dX1_fillJoined_213 (by rw [hfin]; exact ⟨rfl, rfl⟩)
        · skip
          refine x_bipush (v := 6) X dX1_fillJoined_91 (by decide) ?_
          exact x_iret X dX1_fillJoined_93 (by have hj6 : ¬ dJc σ c d := (by first | exact fun z => (xB_0.mp h53) z.1 | exact fun z => (xB_0.mp h62) z.2.1 | exact fun z => h75 z.2.2.1 | exact fun z => h88 z.2.2.2); rw [dJ_6 hj6]; exact ⟨rfl, rfl⟩)

set_option maxHeartbeats 4000000 in
set_option maxRecDepth 100000 in
theorem c_X1_fillBetter {l : Launch} {G : xG} {σ : xS} {i c np q : Nat} (hi : i < 201) (hm : xMod c) (hp : np ≤ 8) (hc : xgI σ 3 2 = nI np) (hq : xgI σ 12 1 = nI q) (hq2 : q < np) : xFi l G yX1_fillBetter cX1_fillBetter 6 (Option.some Jvm.ClassFile.FieldType.int) 2 45 [.ref (G.2.1 11), .ref (G.2.1 (61 + i)), .ref (G.2.1 c), .ref (G.2.1 3)] σ (0) (dBet σ i c q) := by
  refine xM.of (by decide) (Nat.le_of_ble_eq_true rfl) (fun pp ee ss mm aa bel met kk X => ?_)
  have X : xC pp ss mm met kk cX1_fillBetter 6 RX1 (Option.some Jvm.ClassFile.FieldType.int) G := X
  show xW pp l ee { frames := 2, cells := 0, slots := 0, locals := 45 } ss mm aa bel met kk 6 G 0 0 (xQ bel G (fun r t => r = some (.int (0)) ∧ t = (dBet σ i c q)) aa ss) 0 [(0, .ref (G.2.1 11)), (1, .ref (G.2.1 (61 + i))), (2, .ref (G.2.1 c)), (3, .ref (G.2.1 3))] [] σ
  refine x_aload_n X dX1_fillBetter_0 rfl ?_
  refine x_aload_n X dX1_fillBetter_1 rfl ?_
  refine x_aload_n X dX1_fillBetter_2 rfl ?_
  refine gf_X1_9 (k' := 12) X dX1_fillBetter_3 rfl rfl ?_
  refine x_iconst (v := 1) X dX1_fillBetter_6 (by decide) ?_
  refine x_ialdN (i := 1) X dX1_fillBetter_7 rfl (by omega) (by omega) ?_
  rw [hq]
  refine cv_X1_72 X (c_X4_at hp hc hq2) dX1_fillBetter_8 rfl ⟨by decide, by decide, by decide, by decide⟩ rfl rfl (Nat.le_of_ble_eq_true rfl) (xk_r ?_)
  refine cv_X1_186 X (c_X2_costOf hm (xck_pln (i := q) (by omega))) dX1_fillBetter_11 (xk0 hm) ⟨by decide, by decide, by decide, by decide⟩ rfl rfl (Nat.le_of_ble_eq_true rfl) (xk_l ?_)
  refine x_topl (fun co hco => ?_)
  refine x_lstore (lv' := [(4, .long co), (0, .ref (G.2.1 11)), (1, .ref (G.2.1 (61 + i))), (2, .ref (G.2.1 c)), (3, .ref (G.2.1 3))]) X dX1_fillBetter_14 (by decide) rfl ?_
  refine x_aload_n X dX1_fillBetter_16 rfl ?_
  refine x_aload_n X dX1_fillBetter_17 rfl ?_
  refine cv_X1_190 X (c_X2_copyCosts hm hi) dX1_fillBetter_18 (xk0 hm) ⟨by decide, by decide, by decide, by decide⟩ rfl rfl (Nat.le_of_ble_eq_true rfl) (xk_v ?_)
  refine x_aload_n X dX1_fillBetter_21 rfl ?_
  refine x_lload X dX1_fillBetter_22 rfl ?_
  refine x_lconst (v := 1) X dX1_fillBetter_24 (by decide) ?_
  refine x_lsub X dX1_fillBetter_25 ?_
  refine pf_X1_154 X dX1_fillBetter_26 (xck_row hi) ?_
  refine x_aload_n X dX1_fillBetter_29 rfl ?_
  refine x_lload X dX1_fillBetter_30 rfl ?_
  refine cv_X1_193 X (c_X5_setLimit hi) dX1_fillBetter_32 (xck_row hi) ⟨by decide, by decide, by decide, by decide⟩ rfl rfl (Nat.le_of_ble_eq_true rfl) (xk_v ?_)
  refine x_iconst (v := 0) X dX1_fillBetter_35 (by decide) ?_
  exact x_iret X dX1_fillBetter_36 (xp_i (by first | rfl | simp [*]) (by subst hco; rfl))

set_option maxHeartbeats 4000000 in
set_option maxRecDepth 100000 in
theorem c_X1_fillPushed {l : Launch} {G : xG} {σ : xS} {i j c V w : Nat} (hi : i < 201) (hj : j < 201) (hm : xMod c) (hV : xgI σ c 0 = nI V) (hV8 : V ≤ 8) (hw : w < 8) : xFi l G yX1_fillPushed cX1_fillPushed 13 (Option.some Jvm.ClassFile.FieldType.int) 2 48 [.ref (G.2.1 (61 + i)), .ref (G.2.1 (61 + j)), .int (nI w), .ref (G.2.1 c)] σ ((dPush σ i j c V w).1) ((dPush σ i j c V w).2) := by
  refine xM.of (by decide) (Nat.le_of_ble_eq_true rfl) (fun pp ee ss mm aa bel met kk X => ?_)
  have X : xC pp ss mm met kk cX1_fillPushed 13 RX1 (Option.some Jvm.ClassFile.FieldType.int) G := X
  show xW pp l ee { frames := 2, cells := 0, slots := 0, locals := 48 } ss mm aa bel met kk 13 G 0 0 (xQ bel G (fun r t => r = some (.int ((dPush σ i j c V w).1)) ∧ t = ((dPush σ i j c V w).2)) aa ss) 0 [(0, .ref (G.2.1 (61 + i))), (1, .ref (G.2.1 (61 + j))), (2, .int (nI w)), (3, .ref (G.2.1 c))] [] σ
  refine x_aload_n X dX1_fillPushed_0 rfl ?_
  refine x_iload_n X dX1_fillPushed_1 rfl ?_
  refine cv_X1_146 X (c_X5_factorOf hj) dX1_fillPushed_2 (xck_row hj) ⟨by decide, by decide, by decide, by decide⟩ rfl rfl (Nat.le_of_ble_eq_true rfl) (xk_l ?_)
  rw [rFac_n hw]
  refine x_topl (fun fa hfa => ?_)
  refine x_lstore (lv' := [(4, .long fa), (0, .ref (G.2.1 (61 + i))), (1, .ref (G.2.1 (61 + j))), (2, .int (nI w)), (3, .ref (G.2.1 c))]) X dX1_fillPushed_5 (by decide) rfl ?_
  refine x_lload X dX1_fillPushed_7 rfl ?_
  refine x_lconst (v := 0) X dX1_fillPushed_9 (by decide) ?_
  refine x_lcmp X dX1_fillPushed_10 ?_
  refine x_ifne (tgt := 16) X dX1_fillPushed_11 (by decide) (fun h11 => ?_) (fun h11 => ?_)
  · skip
    rw [lg_cmp_eq] at h11
    refine x_aload_n X dX1_fillPushed_16 rfl ?_
    refine gf_X1_154 X dX1_fillPushed_17 (xck_row hj) ?_
    refine x_topl (fun r0 hr0 => ?_)
    refine x_lstore (lv' := [(6, .long r0), (4, .long fa), (0, .ref (G.2.1 (61 + i))), (1, .ref (G.2.1 (61 + j))), (2, .int (nI w)), (3, .ref (G.2.1 c))]) X dX1_fillPushed_20 (by decide) rfl ?_
    refine x_iconst (v := 0) X dX1_fillPushed_22 (by decide) ?_
    refine x_istore (lv' := [(8, .int 0), (6, .long r0), (4, .long fa), (0, .ref (G.2.1 (61 + i))), (1, .ref (G.2.1 (61 + j))), (2, .int (nI w)), (3, .ref (G.2.1 c))]) X dX1_fillPushed_23 (by decide) rfl ?_
    have lp25 : ∀ (NN25 : Nat) (n : Nat) (hn : n ≤ 8), 8 - n = NN25 → xW pp l ee { frames := 2, cells := 0, slots := 0, locals := 48 } ss mm aa bel met kk 13 G 0 0 (xQ bel G (fun r t => r = some (.int ((dPush σ i j c V w).1)) ∧ t = ((dPush σ i j c V w).2)) aa ss) 25 [(8, .int (nI n)), (6, .long (dRest σ c V j w n)), (4, .long fa), (3, .ref (G.2.1 c)), (2, .int (nI w)), (1, .ref (G.2.1 (61 + j))), (0, .ref (G.2.1 (61 + i)))] [] (σ) := by
      intro NN25
      induction NN25 using Nat.strongRecOn with
      | ind NN25 ih25 =>
        intro n hn hNN25
        refine x_iload X dX1_fillPushed_25 rfl ?_
        refine x_bipush (v := 8) X dX1_fillPushed_27 (by decide) ?_
        refine x_icmpge (tgt := 88) X dX1_fillPushed_29 (by decide) (fun h29 => ?_) (fun h29 => ?_)
        · skip
          rw [xb_ge (x := nI n) (y := 8) (a := n) (b := 8) rfl rfl (by omega) (by omega)] at h29
          obtain rfl : n = 8 := by omega
          refine x_lload X dX1_fillPushed_88 rfl ?_
          refine x_lconst (v := 0) X dX1_fillPushed_90 (by decide) ?_
          refine x_lcmp X dX1_fillPushed_91 ?_
          refine x_ifle (tgt := 111) X dX1_fillPushed_92 (by decide) (fun h92 => ?_) (fun h92 => ?_)
          · skip
            rw [lg_cmp_le] at h92
            refine x_aload_n X dX1_fillPushed_111 rfl ?_
            refine x_iload_n X dX1_fillPushed_112 rfl ?_
            refine x_ldc2 X dX1_fillPushed_113 wk_X1_100 ?_
            refine x_lload X dX1_fillPushed_116 rfl ?_
            refine x_lload X dX1_fillPushed_118 rfl ?_
            refine x_lneg X dX1_fillPushed_120 ?_
            refine cs_X1_158 X (c_J9_floorDiv_f86c9 (xi_neg h92 h11)) dX1_fillPushed_121 ⟨by decide, by decide, by decide, by decide⟩ rfl rfl (Nat.le_of_ble_eq_true rfl) (xk_l ?_)
            refine cv_X1_96 X (c_X5_setSingle hi) dX1_fillPushed_124 (xck_row hi) ⟨by decide, by decide, by decide, by decide⟩ rfl rfl (Nat.le_of_ble_eq_true rfl) (xk_v ?_)
            refine x_aload_n X dX1_fillPushed_127 rfl ?_
            refine x_aload_n X dX1_fillPushed_128 rfl ?_
            refine cv_X1_139 X (c_X5_inheritAssumptions hi hj) dX1_fillPushed_129 (xck_row hi) ⟨by decide, by decide, by decide, by decide⟩ rfl rfl (Nat.le_of_ble_eq_true rfl) (xk_v ?_)
            refine x_aload_n X dX1_fillPushed_132 rfl ?_
            refine x_aload_n X dX1_fillPushed_133 rfl ?_
            refine cv_X1_143 X (c_X5_inheritLimit hi hj) dX1_fillPushed_134 (xck_row hi) ⟨by decide, by decide, by decide, by decide⟩ rfl rfl (Nat.le_of_ble_eq_true rfl) (xk_v ?_)
            refine x_iconst (v := 0) X dX1_fillPushed_137 (by decide) ?_
            exact x_iret X dX1_fillPushed_138 (by subst hfa; unfold dPush; rw [if_neg h11]; first | (rw [if_pos h92]; exact ⟨rfl, rfl⟩) | (rw [if_neg h92]; exact ⟨rfl, rfl⟩))
          · skip
            rw [lg_cmp_le] at h92
            refine x_aload_n X dX1_fillPushed_95 rfl ?_
            refine x_iload_n X dX1_fillPushed_96 rfl ?_
            refine x_lconst (v := 1) X dX1_fillPushed_97 (by decide) ?_
            refine x_lload X dX1_fillPushed_98 rfl ?_
            refine x_lload X dX1_fillPushed_100 rfl ?_
            refine cs_X1_158 X (c_J9_floorDiv_f86c9 h11) dX1_fillPushed_102 ⟨by decide, by decide, by decide, by decide⟩ rfl rfl (Nat.le_of_ble_eq_true rfl) (xk_l ?_)
            refine cv_X1_96 X (c_X5_setSingle hi) dX1_fillPushed_105 (xck_row hi) ⟨by decide, by decide, by decide, by decide⟩ rfl rfl (Nat.le_of_ble_eq_true rfl) (xk_v ?_)
            refine x_goto (tgt := 127) X dX1_fillPushed_108 (by decide) ?_
            refine x_aload_n X dX1_fillPushed_127 rfl ?_
            refine x_aload_n X dX1_fillPushed_128 rfl ?_
            refine cv_X1_139 X (c_X5_inheritAssumptions hi hj) dX1_fillPushed_129 (xck_row hi) ⟨by decide, by decide, by decide, by decide⟩ rfl rfl (Nat.le_of_ble_eq_true rfl) (xk_v ?_)
            refine x_aload_n X dX1_fillPushed_132 rfl ?_
            refine x_aload_n X dX1_fillPushed_133 rfl ?_
            refine cv_X1_143 X (c_X5_inheritLimit hi hj) dX1_fillPushed_134 (xck_row hi) ⟨by decide, by decide, by decide, by decide⟩ rfl rfl (Nat.le_of_ble_eq_true rfl) (xk_v ?_)
            refine x_iconst (v := 0) X dX1_fillPushed_137 (by decide) ?_
            exact x_iret X dX1_fillPushed_138 (by subst hfa; unfold dPush; rw [if_neg h11]; first | (rw [if_pos h92]; exact ⟨rfl, rfl⟩) | (rw [if_neg h92]; exact ⟨rfl, rfl⟩))
        · skip
          rw [xb_ge (x := nI n) (y := 8) (a := n) (b := 8) rfl rfl (by omega) (by omega)] at h29
          refine x_iload X dX1_fillPushed_32 rfl ?_
          refine x_iload_n X dX1_fillPushed_34 rfl ?_
          refine x_icmpeq (tgt := 82) X dX1_fillPushed_35 (by decide) (fun h35 => ?_) (fun h35 => ?_)
          · skip
            rw [xb_eq (x := nI n) (y := nI w) (a := n) (b := w) rfl rfl (by omega) (by omega)] at h35
            have hs2 : dRest σ c V j w n = dRest σ c V j w (n + 1) := by rw [dRest, if_pos h35]
            obtain ⟨r9, hr9⟩ : ∃ z, z = dRest σ c V j w n := ⟨_, rfl⟩
            rw [← hr9]
            rw [← hr9] at hs2
            try (have hs2 : r9 = dRest σ c V j w (n + 1) := by rw [hr9, hlo1, hhi1, dRest, if_neg h35])
            refine x_iinc (k := 0) (v := nI (n + 1)) (lv' := [(8, .int (nI (n + 1))), (6, .long r9), (4, .long fa), (3, .ref (G.2.1 c)), (2, .int (nI w)), (1, .ref (G.2.1 (61 + j))), (0, .ref (G.2.1 (61 + i)))]) X dX1_fillPushed_82 rfl (xn_inc _) (by decide) rfl ?_
            refine x_goto (tgt := 25) X dX1_fillPushed_85 (by decide) ?_
            rw [hs2]
            refine x_pick [0, 1, 2, 3, 4, 5, 6] rfl ?_
            exact ih25 _ (by omega) (n + 1) (by omega) rfl
          · skip
            rw [xb_eq (x := nI n) (y := nI w) (a := n) (b := w) rfl rfl (by omega) (by omega)] at h35
            refine x_aload_n X dX1_fillPushed_38 rfl ?_
            refine x_iload X dX1_fillPushed_39 rfl ?_
            refine cv_X1_146 X (c_X5_factorOf hj) dX1_fillPushed_41 (xck_row hj) ⟨by decide, by decide, by decide, by decide⟩ rfl rfl (Nat.le_of_ble_eq_true rfl) (xk_l ?_)
            rw [rFac_n (by omega)]
            refine x_aload_n X dX1_fillPushed_44 rfl ?_
            refine x_iload X dX1_fillPushed_45 rfl ?_
            refine cv_X1_102 X (c_X2_lowOfG hm hV hV8 (by omega)) dX1_fillPushed_47 (xk0 hm) ⟨by decide, by decide, by decide, by decide⟩ rfl rfl (Nat.le_of_ble_eq_true rfl) (xk_i ?_)
            refine x_i2l X dX1_fillPushed_50 ?_
            refine x_lmul X dX1_fillPushed_51 ?_
            refine x_topl (fun lo1 hlo1 => ?_)
            refine x_lstore (lv' := [(9, .long lo1), (8, .int (nI n)), (6, .long (dRest σ c V j w n)), (4, .long fa), (3, .ref (G.2.1 c)), (2, .int (nI w)), (1, .ref (G.2.1 (61 + j))), (0, .ref (G.2.1 (61 + i)))]) X dX1_fillPushed_52 (by decide) rfl ?_
            refine x_aload_n X dX1_fillPushed_54 rfl ?_
            refine x_iload X dX1_fillPushed_55 rfl ?_
            refine cv_X1_146 X (c_X5_factorOf hj) dX1_fillPushed_57 (xck_row hj) ⟨by decide, by decide, by decide, by decide⟩ rfl rfl (Nat.le_of_ble_eq_true rfl) (xk_l ?_)
            rw [rFac_n (by omega)]
            refine x_aload_n X dX1_fillPushed_60 rfl ?_
            refine x_iload X dX1_fillPushed_61 rfl ?_
            refine cv_X1_92 X (c_X2_highOfG hm hV hV8 (by omega)) dX1_fillPushed_63 (xk0 hm) ⟨by decide, by decide, by decide, by decide⟩ rfl rfl (Nat.le_of_ble_eq_true rfl) (xk_i ?_)
            refine x_i2l X dX1_fillPushed_66 ?_
            refine x_lmul X dX1_fillPushed_67 ?_
            refine x_topl (fun hi1 hhi1 => ?_)
            refine x_lstore (lv' := [(11, .long hi1), (9, .long lo1), (8, .int (nI n)), (6, .long (dRest σ c V j w n)), (4, .long fa), (3, .ref (G.2.1 c)), (2, .int (nI w)), (1, .ref (G.2.1 (61 + j))), (0, .ref (G.2.1 (61 + i)))]) X dX1_fillPushed_68 (by decide) rfl ?_
            refine x_lload X dX1_fillPushed_70 rfl ?_
            refine x_lload X dX1_fillPushed_72 rfl ?_
            refine x_lload X dX1_fillPushed_74 rfl ?_
            refine cs_X1_197 X c_J9_min_f86c9 dX1_fillPushed_76 ⟨by decide, by decide, by decide, by decide⟩ rfl rfl (Nat.le_of_ble_eq_true rfl) (xk_l ?_)
            refine x_lsub X dX1_fillPushed_79 ?_
            refine x_topl (fun r9 hr9 => ?_)
            refine x_lstore (lv' := [(6, .long r9), (11, .long hi1), (9, .long lo1), (8, .int (nI n)), (4, .long fa), (3, .ref (G.2.1 c)), (2, .int (nI w)), (1, .ref (G.2.1 (61 + j))), (0, .ref (G.2.1 (61 + i)))]) X dX1_fillPushed_80 (by decide) rfl ?_
            try (have hs2 : r9 = dRest σ c V j w (n + 1) := by rw [hr9, hlo1, hhi1, dRest, if_neg h35])
            refine x_iinc (k := 3) (v := nI (n + 1)) (lv' := [(8, .int (nI (n + 1))), (6, .long r9), (11, .long hi1), (9, .long lo1), (4, .long fa), (3, .ref (G.2.1 c)), (2, .int (nI w)), (1, .ref (G.2.1 (61 + j))), (0, .ref (G.2.1 (61 + i)))]) X dX1_fillPushed_82 rfl (xn_inc _) (by decide) rfl ?_
            refine x_goto (tgt := 25) X dX1_fillPushed_85 (by decide) ?_
            rw [hs2]
            refine x_pick [0, 1, 4, 5, 6, 7, 8] rfl ?_
            exact ih25 _ (by omega) (n + 1) (by omega) rfl
    subst hr0
    refine x_pick [0, 1, 2, 6, 5, 4, 3] rfl ?_
    exact lp25 _ 0 (by omega) rfl
  · skip
    rw [lg_cmp_eq] at h11
    refine x_iconst (v := 5) X dX1_fillPushed_14 (by decide) ?_
    exact x_iret X dX1_fillPushed_15 (by unfold dPush; rw [if_pos (hfa ▸ h11)]; exact ⟨rfl, rfl⟩)
