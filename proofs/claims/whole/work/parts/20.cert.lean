/-! Certificate: beginning, numbers, judging, taking -/
def cEnd (σ : xS) : xS := xsI (xsI (xsI (xsI (xsI (xsI (xsI (xsI σ 6 2 0) 6 1 0) 6 3 0) 6 4 (-1)) 6 5 (-1)) 8 3 0) 8 4 0) 11 1 0
def cStart (σ : xS) : xS := xsI (cEnd σ) 6 2 1
def cAdd (σ : xS) (n : Nat) (x : Int32) : xS := xsI (xsI σ 12 n x) 11 1 (nI (n + 1))
/-- the row that is to be made, cleared, its place noted -/
def cFr (σ : xS) (n nr z : Nat) (x : Int32) : xS := xsI (rClear (cAdd σ n x) nr) (61 + nr) 6 (nI z - nI (n + 1))
theorem cFr_off (σ : xS) (n nr z : Nat) (x : Int32) : xOff nr (cAdd σ n x) (cFr σ n nr z x) := rClear_off.tr xOff.I
/-- what comes of the row that was made -/
def cJd (PM : Int32 → xS → Prop) (nr nb : Nat) : Option Value → xS → Prop := fun r t => ∃ (x : Int32) (u : xS), PM x u ∧ ((¬ x = 0 ∧ r = some (.int x) ∧ t = u) ∨ (x = 0 ∧ ¬ rFits u nr ∧ r = some (.int 8) ∧ t = u) ∨ (x = 0 ∧ rFits u nr ∧ r = some (.int 0) ∧ t = xsI (kKeep u nr nb) 11 1 0))
def cPut (σ : xS) (z : Nat) (x : Int32) : xS := xsI (xsI σ 7 z x) 6 1 (nI (z + 1))
def cFail (σ : xS) (f row : Int32) (z : Nat) : xS := xsI (xsI (xsI σ 6 3 f) 6 4 row) 6 5 (nI z)

set_option maxHeartbeats 4000000 in
set_option maxRecDepth 100000 in
theorem c_X0_end {l : Launch} {G : xG} {σ : xS} : xFv l G yX0_end cX0_end 1 (Option.none : Option Jvm.ClassFile.FieldType) 1 20 [.ref (G.2.1 6)] σ (cEnd σ) := by
  refine xM.of (by decide) (Nat.le_of_ble_eq_true rfl) (fun pp ee ss mm aa bel met kk X => ?_)
  have X : xC pp ss mm met kk cX0_end 1 RX0 (Option.none : Option Jvm.ClassFile.FieldType) G := X
  show xW pp l ee { frames := 1, cells := 0, slots := 0, locals := 20 } ss mm aa bel met kk 1 G 0 0 (xQ bel G (fun r t => r = none ∧ t = (cEnd σ)) aa ss) 0 [(0, .ref (G.2.1 6))] [] σ
  refine x_aload_n X dX0_end_0 rfl ?_
  refine x_iconst (v := 0) X dX0_end_1 (by decide) ?_
  refine pf_X0_46 X dX0_end_2 rfl (Or.inl rfl) ?_
  refine x_aload_n X dX0_end_5 rfl ?_
  refine x_iconst (v := 0) X dX0_end_6 (by decide) ?_
  refine pf_X0_50 X dX0_end_7 rfl ?_
  refine x_aload_n X dX0_end_10 rfl ?_
  refine x_iconst (v := 0) X dX0_end_11 (by decide) ?_
  refine pf_X0_53 X dX0_end_12 rfl ?_
  refine x_aload_n X dX0_end_15 rfl ?_
  refine x_iconst (v := (-1)) X dX0_end_16 (by decide) ?_
  refine pf_X0_15 X dX0_end_17 rfl ?_
  refine x_aload_n X dX0_end_20 rfl ?_
  refine x_iconst (v := (-1)) X dX0_end_21 (by decide) ?_
  refine pf_X0_19 X dX0_end_22 rfl ?_
  refine x_aload_n X dX0_end_25 rfl ?_
  refine gf_X0_25 (k' := 8) X dX0_end_26 rfl rfl ?_
  refine cv_X0_56 X c_X6_clear dX0_end_29 rfl ⟨by decide, by decide, by decide, by decide⟩ rfl rfl (Nat.le_of_ble_eq_true rfl) (xk_v ?_)
  refine x_aload_n X dX0_end_32 rfl ?_
  refine gf_X0_32 (k' := 11) X dX0_end_33 rfl rfl ?_
  refine cv_X0_59 X c_X1_clear dX0_end_36 rfl ⟨by decide, by decide, by decide, by decide⟩ rfl rfl (Nat.le_of_ble_eq_true rfl) (xk_v ?_)
  exact x_vret X dX0_end_39 (⟨rfl, by first | rfl | simp [*]⟩)

set_option maxHeartbeats 4000000 in
set_option maxRecDepth 100000 in
theorem c_X0_start {l : Launch} {G : xG} {σ : xS} : xFv l G yX0_start cX0_start 1 (Option.none : Option Jvm.ClassFile.FieldType) 2 40 [.ref (G.2.1 6)] σ (cStart σ) := by
  refine xM.of (by decide) (Nat.le_of_ble_eq_true rfl) (fun pp ee ss mm aa bel met kk X => ?_)
  have X : xC pp ss mm met kk cX0_start 1 RX0 (Option.none : Option Jvm.ClassFile.FieldType) G := X
  show xW pp l ee { frames := 2, cells := 0, slots := 0, locals := 40 } ss mm aa bel met kk 1 G 0 0 (xQ bel G (fun r t => r = none ∧ t = (cStart σ)) aa ss) 0 [(0, .ref (G.2.1 6))] [] σ
  refine x_aload_n X dX0_start_0 rfl ?_
  refine cv_X0_43 X c_X0_end dX0_start_1 rfl ⟨by decide, by decide, by decide, by decide⟩ rfl rfl (Nat.le_of_ble_eq_true rfl) (xk_v ?_)
  refine x_aload_n X dX0_start_4 rfl ?_
  refine x_iconst (v := 1) X dX0_start_5 (by decide) ?_
  refine pf_X0_46 X dX0_start_6 rfl (Or.inr rfl) ?_
  exact x_vret X dX0_start_9 (⟨rfl, by first | rfl | simp [*]⟩)

set_option maxHeartbeats 4000000 in
set_option maxRecDepth 100000 in
theorem c_X0_numberAt {l : Launch} {G : xG} {σ : xS} {j : Nat} (hj : j < 1500) : xFi l G yX0_numberAt cX0_numberAt 2 (Option.some Jvm.ClassFile.FieldType.int) 0 0 [.ref (G.2.1 6), .int (nI j)] σ (xgI σ 7 j) (σ) := by
  refine xM.of (by decide) (Nat.le_of_ble_eq_true rfl) (fun pp ee ss mm aa bel met kk X => ?_)
  have X : xC pp ss mm met kk cX0_numberAt 2 RX0 (Option.some Jvm.ClassFile.FieldType.int) G := X
  show xW pp l ee { frames := 0, cells := 0, slots := 0, locals := 0 } ss mm aa bel met kk 2 G 0 0 (xQ bel G (fun r t => r = some (.int (xgI σ 7 j)) ∧ t = (σ)) aa ss) 0 [(0, .ref (G.2.1 6)), (1, .int (nI j))] [] σ
  refine x_iload_n X dX0_numberAt_0 rfl ?_
  refine x_iflt (tgt := 20) X dX0_numberAt_1 (by decide) (fun h1 => ?_) (fun h1 => ?_)
  · skip
    rw [xb_lt (x := nI j) (y := 0) (a := j) (b := 0) rfl rfl (by omega) (by omega)] at h1
    omega
  · skip
    rw [xb_lt (x := nI j) (y := 0) (a := j) (b := 0) rfl rfl (by omega) (by omega)] at h1
    refine x_iload_n X dX0_numberAt_4 rfl ?_
    refine x_sipush (v := 1500) X dX0_numberAt_5 (by decide) ?_
    refine x_icmpge (tgt := 20) X dX0_numberAt_8 (by decide) (fun h8 => ?_) (fun h8 => ?_)
    · skip
      rw [xb_ge (x := nI j) (y := 1500) (a := j) (b := 1500) rfl rfl (by omega) (by omega)] at h8
      omega
    · skip
      rw [xb_ge (x := nI j) (y := 1500) (a := j) (b := 1500) rfl rfl (by omega) (by omega)] at h8
      refine x_aload_n X dX0_numberAt_11 rfl ?_
      refine gf_X0_9 (k' := 7) X dX0_numberAt_12 rfl rfl ?_
      refine x_iload_n X dX0_numberAt_15 rfl ?_
      refine x_ialdN X dX0_numberAt_16 rfl (by omega) (by omega) ?_
      refine x_goto (tgt := 21) X dX0_numberAt_17 (by decide) ?_
      exact x_iret X dX0_numberAt_21 (xp_i (by first | rfl | simp [*]) (by first | rfl | simp [*]))

set_option maxHeartbeats 4000000 in
set_option maxRecDepth 100000 in
theorem c_X0_setNumber {l : Launch} {G : xG} {σ : xS} {j : Nat} {x : Int32} (hj : j < 1500) : xFv l G yX0_setNumber cX0_setNumber 3 (Option.none : Option Jvm.ClassFile.FieldType) 0 0 [.ref (G.2.1 6), .int (nI j), .int x] σ (xsI σ 7 j x) := by
  refine xM.of (by decide) (Nat.le_of_ble_eq_true rfl) (fun pp ee ss mm aa bel met kk X => ?_)
  have X : xC pp ss mm met kk cX0_setNumber 3 RX0 (Option.none : Option Jvm.ClassFile.FieldType) G := X
  show xW pp l ee { frames := 0, cells := 0, slots := 0, locals := 0 } ss mm aa bel met kk 3 G 0 0 (xQ bel G (fun r t => r = none ∧ t = (xsI σ 7 j x)) aa ss) 0 [(0, .ref (G.2.1 6)), (1, .int (nI j)), (2, .int x)] [] σ
  refine x_iload_n X dX0_setNumber_0 rfl ?_
  refine x_iflt (tgt := 18) X dX0_setNumber_1 (by decide) (fun h1 => ?_) (fun h1 => ?_)
  · skip
    rw [xb_lt (x := nI j) (y := 0) (a := j) (b := 0) rfl rfl (by omega) (by omega)] at h1
    omega
  · skip
    rw [xb_lt (x := nI j) (y := 0) (a := j) (b := 0) rfl rfl (by omega) (by omega)] at h1
    refine x_iload_n X dX0_setNumber_4 rfl ?_
    refine x_sipush (v := 1500) X dX0_setNumber_5 (by decide) ?_
    refine x_icmpge (tgt := 18) X dX0_setNumber_8 (by decide) (fun h8 => ?_) (fun h8 => ?_)
    · skip
      rw [xb_ge (x := nI j) (y := 1500) (a := j) (b := 1500) rfl rfl (by omega) (by omega)] at h8
      omega
    · skip
      rw [xb_ge (x := nI j) (y := 1500) (a := j) (b := 1500) rfl rfl (by omega) (by omega)] at h8
      refine x_aload_n X dX0_setNumber_11 rfl ?_
      refine gf_X0_9 (k' := 7) X dX0_setNumber_12 rfl rfl ?_
      refine x_iload_n X dX0_setNumber_15 rfl ?_
      refine x_iload_n X dX0_setNumber_16 rfl ?_
      refine x_iastN X dX0_setNumber_17 rfl (by omega) (by omega) ?_
      exact x_vret X dX0_setNumber_18 (⟨rfl, by first | rfl | simp [*]⟩)

set_option maxHeartbeats 4000000 in
set_option maxRecDepth 100000 in
theorem c_X0_faultOfDigest {l : Launch} {G : xG} {σ : xS} {c : Nat} (hm : xMod c) {x : Int32} : xFi l G yX0_faultOfDigest cX0_faultOfDigest 2 (Option.some Jvm.ClassFile.FieldType.int) 0 0 [.int x, .ref (G.2.1 c)] σ (if x = xgI σ c 3 then 0 else 1) (σ) := by
  refine xM.of (by decide) (Nat.le_of_ble_eq_true rfl) (fun pp ee ss mm aa bel met kk X => ?_)
  have X : xC pp ss mm met kk cX0_faultOfDigest 2 RX0 (Option.some Jvm.ClassFile.FieldType.int) G := X
  show xW pp l ee { frames := 0, cells := 0, slots := 0, locals := 0 } ss mm aa bel met kk 2 G 0 0 (xQ bel G (fun r t => r = some (.int (if x = xgI σ c 3 then 0 else 1)) ∧ t = (σ)) aa ss) 0 [(0, .int x), (1, .ref (G.2.1 c))] [] σ
  refine x_iload_n X dX0_faultOfDigest_0 rfl ?_
  refine x_aload_n X dX0_faultOfDigest_1 rfl ?_
  refine gf_X0_75 X dX0_faultOfDigest_2 (xk0 hm) ?_
  refine x_icmpne (tgt := 12) X dX0_faultOfDigest_5 (by decide) (fun h5 => ?_) (fun h5 => ?_)
  · skip
    refine x_iconst (v := 1) X dX0_faultOfDigest_12 (by decide) ?_
    exact x_iret X dX0_faultOfDigest_13 (xp_i (by simp [*]) (by first | rfl | simp [*]))
  · skip
    refine x_iconst (v := 0) X dX0_faultOfDigest_8 (by decide) ?_
    refine x_goto (tgt := 13) X dX0_faultOfDigest_9 (by decide) ?_
    exact x_iret X dX0_faultOfDigest_13 (xp_i (by simp [*]) (by first | rfl | simp [*]))

set_option maxHeartbeats 4000000 in
set_option maxRecDepth 100000 in
theorem c_X0_judgeF {l : Launch} {G : xG} {σ : xS} {x : Int32} {c nr nb np V N M n : Nat} (hm : xMod c) (hV : xgI σ c 0 = nI V) (hV8 : V ≤ 8) (hN : xgI σ c 1 = nI N) (hN2 : N ≤ 20) (hM : xgI σ c 2 = nI M) (hM2 : M ≤ 4) (hT : ∀ t, t < M → ∃ P, P ≤ 20 ∧ xgI σ (c + 8) t = nI P) (hp : np ≤ 8) (hc : xgI σ 3 2 = nI np) (hr : nr ≤ 200) (hrc : xgI σ 8 3 = nI nr) (hb : nb ≤ 60) (hd : xgI σ 8 4 = nI nb) (hn : xgI σ 11 1 = nI n) (hq : nI n = 0 ∨ ∃ z : Nat, z < 10 ∧ xgI σ 12 0 = nI z) (hF : ¬ dFlt σ c nr nb np V N M (dMean (xgI σ 12 0) (nI n)) x = 0) : xFi l G yX0_judge cX0_judge 6 (Option.some Jvm.ClassFile.FieldType.int) 4 104 [.ref (G.2.1 6), .int x, .ref (G.2.1 c), .ref (G.2.1 3)] σ (dFlt σ c nr nb np V N M (dMean (xgI σ 12 0) (nI n)) x) (σ) := by
  refine xM.of (by decide) (Nat.le_of_ble_eq_true rfl) (fun pp ee ss mm aa bel met kk X => ?_)
  have X : xC pp ss mm met kk cX0_judge 6 RX0 (Option.some Jvm.ClassFile.FieldType.int) G := X
  show xW pp l ee { frames := 4, cells := 0, slots := 0, locals := 104 } ss mm aa bel met kk 6 G 0 0 (xQ bel G (fun r t => r = some (.int (dFlt σ c nr nb np V N M (dMean (xgI σ 12 0) (nI n)) x)) ∧ t = (σ)) aa ss) 0 [(0, .ref (G.2.1 6)), (1, .int x), (2, .ref (G.2.1 c)), (3, .ref (G.2.1 3))] [] σ
  refine x_aload_n X dX0_judge_0 rfl ?_
  refine gf_X0_32 (k' := 11) X dX0_judge_1 rfl rfl ?_
  refine x_iload_n X dX0_judge_4 rfl ?_
  refine x_aload_n X dX0_judge_5 rfl ?_
  refine gf_X0_25 (k' := 8) X dX0_judge_6 rfl rfl ?_
  refine x_aload_n X dX0_judge_9 rfl ?_
  refine x_aload_n X dX0_judge_10 rfl ?_
  refine cv_X0_80 X (c_X1_faultOf (q := 0) hm hV hV8 hN hN2 hM hM2 hT hp hc hr hrc hb hd hn hq) dX0_judge_11 rfl ⟨by decide, by decide, by decide, by decide⟩ rfl rfl (Nat.le_of_ble_eq_true rfl) (xk_i ?_)
  refine x_topi (fun fl hfl => ?_)
  refine x_istore (lv' := [(4, .int fl), (0, .ref (G.2.1 6)), (1, .int x), (2, .ref (G.2.1 c)), (3, .ref (G.2.1 3))]) X dX0_judge_14 (by decide) rfl ?_
  refine x_iload X dX0_judge_16 rfl ?_
  refine x_ifeq (tgt := 24) X dX0_judge_18 (by decide) (fun h18 => ?_) (fun h18 => ?_)
  · skip
    exact absurd (hfl ▸ h18) hF
  · skip
    refine x_iload X dX0_judge_21 rfl ?_
    exact x_iret X dX0_judge_23 (xp_i (by exact hfl) (by first | rfl | simp [*]))

set_option maxHeartbeats 4000000 in
set_option maxRecDepth 100000 in
theorem c_X0_judgeN {l : Launch} {G : xG} {σ : xS} {x : Int32} {c nr nb np V N M n : Nat} (hm : xMod c) (hV : xgI σ c 0 = nI V) (hV8 : V ≤ 8) (hN : xgI σ c 1 = nI N) (hN2 : N ≤ 20) (hM : xgI σ c 2 = nI M) (hM2 : M ≤ 4) (hT : ∀ t, t < M → ∃ P, P ≤ 20 ∧ xgI σ (c + 8) t = nI P) (hp : np ≤ 8) (hc : xgI σ 3 2 = nI np) (hr : nr ≤ 200) (hrc : xgI σ 8 3 = nI nr) (hb : nb ≤ 60) (hd : xgI σ 8 4 = nI nb) (hn : xgI σ 11 1 = nI n) (hq : nI n = 0 ∨ ∃ z : Nat, z < 10 ∧ xgI σ 12 0 = nI z) {q k : Nat} (hn9 : n < 10) (hF : dFlt σ c nr nb np V N M (dMean (xgI σ 12 0) (nI n)) x = 0) (hq2 : 1 ≤ n → xgI σ 12 0 = nI q ∧ q < 10) (hk2 : 1 ≤ n → q = 4 → (if n = 1 then x else xgI σ 12 1) = nI k ∧ k ≤ 4) (hW : ¬ (2 ≤ n + 1 ∧ dL q k ≤ n + 1)) : xFi l G yX0_judge cX0_judge 6 (Option.some Jvm.ClassFile.FieldType.int) 4 104 [.ref (G.2.1 6), .int x, .ref (G.2.1 c), .ref (G.2.1 3)] σ (0) (cAdd σ n x) := by
  refine xM.of (by decide) (Nat.le_of_ble_eq_true rfl) (fun pp ee ss mm aa bel met kk X => ?_)
  have X : xC pp ss mm met kk cX0_judge 6 RX0 (Option.some Jvm.ClassFile.FieldType.int) G := X
  show xW pp l ee { frames := 4, cells := 0, slots := 0, locals := 104 } ss mm aa bel met kk 6 G 0 0 (xQ bel G (fun r t => r = some (.int (0)) ∧ t = (cAdd σ n x)) aa ss) 0 [(0, .ref (G.2.1 6)), (1, .int x), (2, .ref (G.2.1 c)), (3, .ref (G.2.1 3))] [] σ
  refine x_aload_n X dX0_judge_0 rfl ?_
  refine gf_X0_32 (k' := 11) X dX0_judge_1 rfl rfl ?_
  refine x_iload_n X dX0_judge_4 rfl ?_
  refine x_aload_n X dX0_judge_5 rfl ?_
  refine gf_X0_25 (k' := 8) X dX0_judge_6 rfl rfl ?_
  refine x_aload_n X dX0_judge_9 rfl ?_
  refine x_aload_n X dX0_judge_10 rfl ?_
  refine cv_X0_80 X (c_X1_faultOf (q := 0) hm hV hV8 hN hN2 hM hM2 hT hp hc hr hrc hb hd hn hq) dX0_judge_11 rfl ⟨by decide, by decide, by decide, by decide⟩ rfl rfl (Nat.le_of_ble_eq_true rfl) (xk_i ?_)
  refine x_topi (fun fl hfl => ?_)
  refine x_istore (lv' := [(4, .int fl), (0, .ref (G.2.1 6)), (1, .int x), (2, .ref (G.2.1 c)), (3, .ref (G.2.1 3))]) X dX0_judge_14 (by decide) rfl ?_
  refine x_iload X dX0_judge_16 rfl ?_
  refine x_ifeq (tgt := 24) X dX0_judge_18 (by decide) (fun h18 => ?_) (fun h18 => ?_)
  · skip
    refine x_aload_n X dX0_judge_24 rfl ?_
    refine gf_X0_32 (k' := 11) X dX0_judge_25 rfl rfl ?_
    refine x_iload_n X dX0_judge_28 rfl ?_
    refine cv_X0_84 X (c_X1_add hn hn9) dX0_judge_29 rfl ⟨by decide, by decide, by decide, by decide⟩ rfl rfl (Nat.le_of_ble_eq_true rfl) (xk_v ?_)
    refine x_aload_n X dX0_judge_32 rfl ?_
    refine gf_X0_32 (k' := 11) X dX0_judge_33 rfl rfl ?_
    refine cv_X0_88 X (c_X1_isWhole (n := n + 1) (q := q) (k := k) (xgI_s _ _ _ _) (by omega) (fun z => ⟨by rw [xgI_n (by omega), xgI_n (by omega)]; exact (hq2 (by omega)).1, (hq2 (by omega)).2⟩) (fun z z2 => by have hz := hk2 (by omega) z2; rw [xgI_n (by omega), xgI_i]; by_cases h1 : n = 1; rw [if_pos ⟨rfl, h1.symm⟩, ← (if_pos h1 : (if n = 1 then x else xgI σ 12 1) = x)]; exact hz; rw [if_neg (by omega), ← (if_neg h1 : (if n = 1 then x else xgI σ 12 1) = _)]; exact hz)) dX0_judge_36 rfl ⟨by decide, by decide, by decide, by decide⟩ rfl rfl (Nat.le_of_ble_eq_true rfl) (xk_i ?_)
    refine x_ifne (tgt := 44) X dX0_judge_39 (by decide) (fun h39 => ?_) (fun h39 => ?_)
    · skip
      exact absurd (xB_f hW) h39
    · skip
      refine x_iconst (v := 0) X dX0_judge_42 (by decide) ?_
      exact x_iret X dX0_judge_43 (xp_i (by first | rfl | simp [*]) (by first | rfl | simp [*]))
  · skip
    exact absurd (hfl.trans hF) h18

set_option maxHeartbeats 4000000 in
set_option maxRecDepth 100000 in
theorem c_X0_judgeW {l : Launch} {G : xG} {σ : xS} {x : Int32} {c nr nb np V N M n : Nat} (hm : xMod c) (hV : xgI σ c 0 = nI V) (hV8 : V ≤ 8) (hN : xgI σ c 1 = nI N) (hN2 : N ≤ 20) (hM : xgI σ c 2 = nI M) (hM2 : M ≤ 4) (hT : ∀ t, t < M → ∃ P, P ≤ 20 ∧ xgI σ (c + 8) t = nI P) (hp : np ≤ 8) (hc : xgI σ 3 2 = nI np) (hr : nr ≤ 200) (hrc : xgI σ 8 3 = nI nr) (hb : nb ≤ 60) (hd : xgI σ 8 4 = nI nb) (hn : xgI σ 11 1 = nI n) (hq : nI n = 0 ∨ ∃ z : Nat, z < 10 ∧ xgI σ 12 0 = nI z) {q k z0 : Nat} (hn9 : n < 10) (hF : dFlt σ c nr nb np V N M (dMean (xgI σ 12 0) (nI n)) x = 0) (hq2 : 1 ≤ n → xgI σ 12 0 = nI q ∧ q < 10) (hk2 : 1 ≤ n → q = 4 → (if n = 1 then x else xgI σ 12 1) = nI k ∧ k ≤ 4) (hW : 2 ≤ n + 1 ∧ dL q k ≤ n + 1) (hr2 : nr < 200) (hz : xgI σ 6 1 = nI z0) (hb2 : q = 6 → nb < 60) {PM : Int32 → xS → Prop} (hMk : xM l G yX1_make cX1_make 5 (Option.some Jvm.ClassFile.FieldType.int) 3 80 [.ref (G.2.1 11), .ref (G.2.1 (61 + nr)), .ref (G.2.1 8), .ref (G.2.1 c), .ref (G.2.1 3)] (cFr σ n nr z0 x) (fun r t => ∃ y : Int32, r = some (.int y) ∧ PM y t)) (hPM : ∀ y t, PM y t → xOff nr (cFr σ n nr z0 x) t ∧ (y = 0 → xgI t (61 + nr) 5 = nI q)) : xM l G yX0_judge cX0_judge 6 (Option.some Jvm.ClassFile.FieldType.int) 4 104 [.ref (G.2.1 6), .int x, .ref (G.2.1 c), .ref (G.2.1 3)] σ (cJd PM nr nb) := by
  have hxx := l
  refine xM.of (by decide) (Nat.le_of_ble_eq_true rfl) (fun pp ee ss mm aa bel met kk X => ?_)
  have X : xC pp ss mm met kk cX0_judge 6 RX0 (Option.some Jvm.ClassFile.FieldType.int) G := X
  show xW pp l ee { frames := 4, cells := 0, slots := 0, locals := 104 } ss mm aa bel met kk 6 G 0 0 (xQ bel G (cJd PM nr nb) aa ss) 0 [(0, .ref (G.2.1 6)), (1, .int x), (2, .ref (G.2.1 c)), (3, .ref (G.2.1 3))] [] σ
  refine x_aload_n X dX0_judge_0 rfl ?_
  refine gf_X0_32 (k' := 11) X dX0_judge_1 rfl rfl ?_
  refine x_iload_n X dX0_judge_4 rfl ?_
  refine x_aload_n X dX0_judge_5 rfl ?_
  refine gf_X0_25 (k' := 8) X dX0_judge_6 rfl rfl ?_
  refine x_aload_n X dX0_judge_9 rfl ?_
  refine x_aload_n X dX0_judge_10 rfl ?_
  refine cv_X0_80 X (c_X1_faultOf (q := 0) hm hV hV8 hN hN2 hM hM2 hT hp hc hr hrc hb hd hn hq) dX0_judge_11 rfl ⟨by decide, by decide, by decide, by decide⟩ rfl rfl (Nat.le_of_ble_eq_true rfl) (xk_i ?_)
  refine x_topi (fun fl hfl => ?_)
  refine x_istore (lv' := [(4, .int fl), (0, .ref (G.2.1 6)), (1, .int x), (2, .ref (G.2.1 c)), (3, .ref (G.2.1 3))]) X dX0_judge_14 (by decide) rfl ?_
  refine x_iload X dX0_judge_16 rfl ?_
  refine x_ifeq (tgt := 24) X dX0_judge_18 (by decide) (fun h18 => ?_) (fun h18 => ?_)
  · skip
    refine x_aload_n X dX0_judge_24 rfl ?_
    refine gf_X0_32 (k' := 11) X dX0_judge_25 rfl rfl ?_
    refine x_iload_n X dX0_judge_28 rfl ?_
    refine cv_X0_84 X (c_X1_add hn hn9) dX0_judge_29 rfl ⟨by decide, by decide, by decide, by decide⟩ rfl rfl (Nat.le_of_ble_eq_true rfl) (xk_v ?_)
    refine x_aload_n X dX0_judge_32 rfl ?_
    refine gf_X0_32 (k' := 11) X dX0_judge_33 rfl rfl ?_
    refine cv_X0_88 X (c_X1_isWhole (n := n + 1) (q := q) (k := k) (xgI_s _ _ _ _) (by omega) (fun z => ⟨by rw [xgI_n (by omega), xgI_n (by omega)]; exact (hq2 (by omega)).1, (hq2 (by omega)).2⟩) (fun z z2 => by have hz := hk2 (by omega) z2; rw [xgI_n (by omega), xgI_i]; by_cases h1 : n = 1; rw [if_pos ⟨rfl, h1.symm⟩, ← (if_pos h1 : (if n = 1 then x else xgI σ 12 1) = x)]; exact hz; rw [if_neg (by omega), ← (if_neg h1 : (if n = 1 then x else xgI σ 12 1) = _)]; exact hz)) dX0_judge_36 rfl ⟨by decide, by decide, by decide, by decide⟩ rfl rfl (Nat.le_of_ble_eq_true rfl) (xk_i ?_)
    refine x_ifne (tgt := 44) X dX0_judge_39 (by decide) (fun h39 => ?_) (fun h39 => ?_)
    · skip
      refine x_aload_n X dX0_judge_44 rfl ?_
      refine gf_X0_25 (k' := 8) X dX0_judge_45 rfl rfl ?_
      refine cv_X0_92 X (c_X6_fresh hr2 ((show xgI (cAdd σ n x) 8 3 = xgI σ 8 3 by unfold cAdd; rw [xgI_n (by omega), xgI_n (by omega)]).trans hrc)) dX0_judge_48 rfl ⟨by decide, by decide, by decide, by decide⟩ rfl rfl (Nat.le_of_ble_eq_true rfl) (xk_r ?_)
      refine x_astore (lv' := [(5, .ref (G.2.1 (61 + nr))), (4, .int fl), (0, .ref (G.2.1 6)), (1, .int x), (2, .ref (G.2.1 c)), (3, .ref (G.2.1 3))]) X dX0_judge_51 (by decide) rfl ?_
      refine x_aload X dX0_judge_53 rfl ?_
      refine x_aload_n X dX0_judge_55 rfl ?_
      refine gf_X0_50 X dX0_judge_56 rfl ?_
      rw [show xgI (rClear (xsI (xsI σ 12 n x) 11 1 (nI (n + 1))) nr) 6 1 = nI z0 from (rClear_off.1 6 1 (by omega)).trans ((show xgI (cAdd σ n x) 6 1 = xgI σ 6 1 by unfold cAdd; rw [xgI_n (by omega), xgI_n (by omega)]).trans hz)]
      refine x_aload_n X dX0_judge_59 rfl ?_
      refine gf_X0_32 (k' := 11) X dX0_judge_60 rfl rfl ?_
      refine gf_X0_96 X dX0_judge_63 rfl ?_
      rw [show xgI (rClear (xsI (xsI σ 12 n x) 11 1 (nI (n + 1))) nr) 11 1 = nI (n + 1) from (rClear_off.1 11 1 (by omega)).trans (xgI_s _ _ _ _)]
      refine x_isub X dX0_judge_66 ?_
      refine pf_X0_97 X dX0_judge_67 (xck_row (i := nr) (by omega)) ?_
      refine x_aload_n X dX0_judge_70 rfl ?_
      refine gf_X0_32 (k' := 11) X dX0_judge_71 rfl rfl ?_
      refine x_aload X dX0_judge_74 rfl ?_
      refine x_aload_n X dX0_judge_76 rfl ?_
      refine gf_X0_25 (k' := 8) X dX0_judge_77 rfl rfl ?_
      refine x_aload_n X dX0_judge_80 rfl ?_
      refine x_aload_n X dX0_judge_81 rfl ?_
      refine cv_X0_102 X hMk dX0_judge_82 rfl ⟨by decide, by decide, by decide, by decide⟩ rfl rfl (Nat.le_of_ble_eq_true rfl) (fun r0 u hpo => ?_)
      obtain ⟨y, rfl, hpo⟩ := hpo
      obtain ⟨hof, hkd⟩ := hPM y u hpo
      have hof2 := hof
      refine x_istore (lv' := [(4, .int y), (5, .ref (G.2.1 (61 + nr))), (0, .ref (G.2.1 6)), (1, .int x), (2, .ref (G.2.1 c)), (3, .ref (G.2.1 3))]) X dX0_judge_85 (by decide) rfl ?_
      refine x_iload X dX0_judge_87 rfl ?_
      refine x_ifeq (tgt := 95) X dX0_judge_89 (by decide) (fun h89 => ?_) (fun h89 => ?_)
      · skip
        refine x_aload X dX0_judge_95 rfl ?_
        refine cv_X0_106 X (c_X5_isTooGreat (by omega)) dX0_judge_97 (xck_row (i := nr) (by omega)) ⟨by decide, by decide, by decide, by decide⟩ rfl rfl (Nat.le_of_ble_eq_true rfl) (xk_i ?_)
        refine x_ifeq (tgt := 106) X dX0_judge_100 (by decide) (fun h100 => ?_) (fun h100 => ?_)
        · skip
          refine x_aload_n X dX0_judge_106 rfl ?_
          refine gf_X0_25 (k' := 8) X dX0_judge_107 rfl rfl ?_
          refine cv_X0_109 X (c_X6_keepFresh hr2 ((hof.1 8 3 (by omega)).trans (((cFr_off σ n nr z0 x).1 8 3 (by omega)).trans ((show xgI (cAdd σ n x) 8 3 = xgI σ 8 3 by unfold cAdd; rw [xgI_n (by omega), xgI_n (by omega)]).trans hrc))) ((hof.1 8 4 (by omega)).trans (((cFr_off σ n nr z0 x).1 8 4 (by omega)).trans ((show xgI (cAdd σ n x) 8 4 = xgI σ 8 4 by unfold cAdd; rw [xgI_n (by omega), xgI_n (by omega)]).trans hd))) (fun z => hb2 ((nI_eq (b := 6) (by have := (hq2 (by omega)).2; omega) (by omega)).mp ((hkd h89).symm.trans z))) hb) dX0_judge_110 rfl ⟨by decide, by decide, by decide, by decide⟩ rfl rfl (Nat.le_of_ble_eq_true rfl) (xk_v ?_)
          refine x_aload_n X dX0_judge_113 rfl ?_
          refine gf_X0_32 (k' := 11) X dX0_judge_114 rfl rfl ?_
          refine cv_X0_59 X c_X1_clear dX0_judge_117 rfl ⟨by decide, by decide, by decide, by decide⟩ rfl rfl (Nat.le_of_ble_eq_true rfl) (xk_v ?_)
          refine x_iconst (v := 0) X dX0_judge_120 (by decide) ?_
          exact x_iret X dX0_judge_121 (⟨y, u, hpo, Or.inr (Or.inr ⟨h89, Classical.not_not.mp (fun z => (xB_0.mp h100) z), rfl, rfl⟩)⟩)
        · skip
          refine x_bipush (v := 8) X dX0_judge_103 (by decide) ?_
          exact x_iret X dX0_judge_105 (⟨y, u, hpo, Or.inr (Or.inl ⟨h89, Classical.not_not.mp (fun z => h100 (xB_f z)), rfl, rfl⟩)⟩)
      · skip
        refine x_iload X dX0_judge_92 rfl ?_
        exact x_iret X dX0_judge_94 (⟨y, u, hpo, Or.inl ⟨h89, rfl, rfl⟩⟩)
    · skip
      exact absurd (xB_t hW) (by rw [h39]; decide)
  · skip
    exact absurd (hfl.trans hF) h18
