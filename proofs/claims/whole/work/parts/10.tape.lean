/-! Numbers and Tape: what they answer -/
def xIn (x lo hi : Int32) : Int32 := if x < lo then 0 else if hi < x then 0 else 1
def xAt (σ : xS) (k n : Nat) (i : Int32) : Int32 := if i < 0 then 0 else if nI n ≤ i then 0 else xgI σ k i.toNatClampNeg
def xSum (f g : Nat → Int32) : Nat → Int64
  | 0 => 0
  | n + 1 => xSum f g n + (f n).toInt64 * (g n).toInt64
theorem xIn_01 (x lo hi : Int32) : xIn x lo hi = 0 ∨ xIn x lo hi = 1 := by unfold xIn; by_cases h : x < lo <;> by_cases h2 : hi < x <;> simp [h, h2]
def tRoom (σ : xS) (n : Int32) : Int32 := if 1000 - xgI σ 1 1 < n then 0 else 1
def tAppend (σ : xS) (x : Int32) : xS := if xgI σ 1 1 < 0 then σ else if 1000 ≤ xgI σ 1 1 then σ else xsI (xsI σ 2 (xgI σ 1 1).toNatClampNeg x) 1 1 (xgI (xsI σ 2 (xgI σ 1 1).toNatClampNeg x) 1 1 + 1)
def tAt (σ : xS) (i : Int32) : Int32 := if i < 0 then 0 else if xgI σ 1 1 ≤ i then 0 else if 1000 ≤ i then 0 else xgI σ 2 i.toNatClampNeg
def tNext (σ : xS) (lo hi : Int32) : Int32 × xS := if xgI σ 1 3 = 0 then (lo, σ) else if xgI σ 1 1 ≤ xgI σ 1 2 then (lo, xsI σ 1 3 0) else if xIn (tAt σ (xgI σ 1 2)) lo hi = 0 then (lo, xsI σ 1 3 0) else (tAt σ (xgI σ 1 2), xsI σ 1 2 (xgI σ 1 2 + 1))
def tBut (σ : xS) (o : Int32) : xS := if xgI σ 1 1 ≤ xgI σ 1 2 then σ else if tAt σ (xgI σ 1 2) = o then xsI σ 1 3 0 else σ
def tWhole (σ : xS) : Int32 := if xgI σ 1 3 = 0 then 0 else if xgI σ 1 2 = xgI σ 1 1 then 1 else 0
def tRew (σ : xS) : xS := xsI (xsI σ 1 2 0) 1 3 1
def tSkip (lo hi : Int32) (σ : xS) : Nat → xS
  | 0 => σ
  | n + 1 => (tNext (tSkip lo hi σ n) lo hi).2
def tDig (σ : xS) : Nat → Int32
  | 0 => 17
  | n + 1 => 31 * tDig σ n + tAt σ (nI n)

set_option maxHeartbeats 4000000 in
set_option maxRecDepth 100000 in
theorem c_X3_isWithin {l : Launch} {G : xG} {σ : xS} {x lo hi : Int32} : xFi l G yX3_isWithin cX3_isWithin 3 (Option.some Jvm.ClassFile.FieldType.boolean) 0 0 [.int x, .int lo, .int hi] σ (xIn x lo hi) (σ) := by
  refine xM.of (by decide) (Nat.le_of_ble_eq_true rfl) (fun pp ee ss mm aa bel met kk X => ?_)
  have X : xC pp ss mm met kk cX3_isWithin 3 RX3 (Option.some Jvm.ClassFile.FieldType.boolean) G := X
  show xW pp l ee { frames := 0, cells := 0, slots := 0, locals := 0 } ss mm aa bel met kk 3 G 0 0 (xQ bel G (fun r t => r = some (.int (xIn x lo hi)) ∧ t = (σ)) aa ss) 0 [(0, .int x), (1, .int lo), (2, .int hi)] [] σ
  refine x_iload_n X dX3_isWithin_0 rfl ?_
  refine x_iload_n X dX3_isWithin_1 rfl ?_
  refine x_icmplt (tgt := 14) X dX3_isWithin_2 (by decide) (fun h2 => ?_) (fun h2 => ?_)
  · skip
    refine x_iconst (v := 0) X dX3_isWithin_14 (by decide) ?_
    exact x_zret X dX3_isWithin_15 (Or.inl rfl) (xp_i (by simp [xIn, *]) (by first | rfl | simp [*]))
  · skip
    refine x_iload_n X dX3_isWithin_5 rfl ?_
    refine x_iload_n X dX3_isWithin_6 rfl ?_
    refine x_icmpgt (tgt := 14) X dX3_isWithin_7 (by decide) (fun h7 => ?_) (fun h7 => ?_)
    · skip
      refine x_iconst (v := 0) X dX3_isWithin_14 (by decide) ?_
      exact x_zret X dX3_isWithin_15 (Or.inl rfl) (xp_i (by simp [xIn, *]) (by first | rfl | simp [*]))
    · skip
      refine x_iconst (v := 1) X dX3_isWithin_10 (by decide) ?_
      refine x_goto (tgt := 15) X dX3_isWithin_11 (by decide) ?_
      exact x_zret X dX3_isWithin_15 (Or.inr rfl) (xp_i (by simp [xIn, *]) (by first | rfl | simp [*]))

set_option maxHeartbeats 4000000 in
set_option maxRecDepth 100000 in
theorem c_X3_at {l : Launch} {G : xG} {σ : xS} {k n : Nat} {i : Int32} (hk : xck k = (10, n)) (hn : n < 2 ^ 31) : xFi l G yX3_at cX3_at 2 (Option.some Jvm.ClassFile.FieldType.int) 0 0 [.ref (G.2.1 k), .int i] σ (xAt σ k n i) (σ) := by
  refine xM.of (by decide) (Nat.le_of_ble_eq_true rfl) (fun pp ee ss mm aa bel met kk X => ?_)
  have X : xC pp ss mm met kk cX3_at 2 RX3 (Option.some Jvm.ClassFile.FieldType.int) G := X
  show xW pp l ee { frames := 0, cells := 0, slots := 0, locals := 0 } ss mm aa bel met kk 2 G 0 0 (xQ bel G (fun r t => r = some (.int (xAt σ k n i)) ∧ t = (σ)) aa ss) 0 [(0, .ref (G.2.1 k)), (1, .int i)] [] σ
  refine x_iload_n X dX3_at_0 rfl ?_
  refine x_iflt (tgt := 16) X dX3_at_1 (by decide) (fun h1 => ?_) (fun h1 => ?_)
  · skip
    refine x_iconst (v := 0) X dX3_at_16 (by decide) ?_
    exact x_iret X dX3_at_17 (xp_i (by simp [xAt, *]) (by first | rfl | simp [*]))
  · skip
    refine x_iload_n X dX3_at_4 rfl ?_
    refine x_aload_n X dX3_at_5 rfl ?_
    refine x_ilen (v := nI n) X dX3_at_6 hk rfl ?_
    refine x_icmpge (tgt := 16) X dX3_at_7 (by decide) (fun h7 => ?_) (fun h7 => ?_)
    · skip
      refine x_iconst (v := 0) X dX3_at_16 (by decide) ?_
      exact x_iret X dX3_at_17 (xp_i (by simp [xAt, *]) (by first | rfl | simp [*]))
    · skip
      refine x_aload_n X dX3_at_10 rfl ?_
      refine x_iload_n X dX3_at_11 rfl ?_
      refine x_iald X dX3_at_12 hk (xin_lt h1 h7 hn) ?_
      refine x_goto (tgt := 17) X dX3_at_13 (by decide) ?_
      exact x_iret X dX3_at_17 (xp_i (by simp [xAt, *]) (by first | rfl | simp [*]))

set_option maxHeartbeats 4000000 in
set_option maxRecDepth 100000 in
theorem c_X3_sumOf {l : Launch} {G : xG} {σ : xS} {a b : Nat} (ha : xck a = (10, 8)) (hb : xck b = (10, 8)) : xFl l G yX3_sumOf cX3_sumOf 5 (Option.some Jvm.ClassFile.FieldType.long) 0 0 [.ref (G.2.1 a), .ref (G.2.1 b)] σ (xSum (xgI σ a) (xgI σ b) 8) (σ) := by
  refine xM.of (by decide) (Nat.le_of_ble_eq_true rfl) (fun pp ee ss mm aa bel met kk X => ?_)
  have X : xC pp ss mm met kk cX3_sumOf 5 RX3 (Option.some Jvm.ClassFile.FieldType.long) G := X
  show xW pp l ee { frames := 0, cells := 0, slots := 0, locals := 0 } ss mm aa bel met kk 5 G 0 0 (xQ bel G (fun r t => r = some (.long (xSum (xgI σ a) (xgI σ b) 8)) ∧ t = (σ)) aa ss) 0 [(0, .ref (G.2.1 a)), (1, .ref (G.2.1 b))] [] σ
  refine x_lconst (v := 0) X dX3_sumOf_0 (by decide) ?_
  refine x_lstore_n (lv' := [(2, .long 0), (0, .ref (G.2.1 a)), (1, .ref (G.2.1 b))]) X dX3_sumOf_1 rfl (by decide) rfl ?_
  refine x_iconst (v := 0) X dX3_sumOf_2 (by decide) ?_
  refine x_istore (lv' := [(4, .int 0), (2, .long 0), (0, .ref (G.2.1 a)), (1, .ref (G.2.1 b))]) X dX3_sumOf_3 (by decide) rfl ?_
  have lp5 : ∀ (NN5 : Nat) (i : Nat) (hi : i ≤ 8), 8 - i = NN5 → xW pp l ee { frames := 0, cells := 0, slots := 0, locals := 0 } ss mm aa bel met kk 5 G 0 0 (xQ bel G (fun r t => r = some (.long (xSum (xgI σ a) (xgI σ b) 8)) ∧ t = (σ)) aa ss) 5 [(4, .int (nI i)), (2, .long (xSum (xgI σ a) (xgI σ b) i)), (1, .ref (G.2.1 b)), (0, .ref (G.2.1 a))] [] (σ) := by
    intro NN5
    induction NN5 using Nat.strongRecOn with
    | ind NN5 ih5 =>
      intro i hi hNN5
      refine x_iload X dX3_sumOf_5 rfl ?_
      refine x_aload_n X dX3_sumOf_7 rfl ?_
      refine x_ilen (v := 8) X dX3_sumOf_8 ha (by decide) ?_
      refine x_icmpge (tgt := 39) X dX3_sumOf_9 (by decide) (fun h9 => ?_) (fun h9 => ?_)
      · skip
        rw [xb_ge (x := nI i) (y := 8) (a := i) (b := 8) rfl rfl (by omega) (by omega)] at h9
        obtain rfl : i = 8 := by omega
        refine x_lload_n X dX3_sumOf_39 rfl ?_
        exact x_lret X dX3_sumOf_40 (xp_l (by first | rfl | simp [*]) (by first | rfl | simp [*]))
      · skip
        rw [xb_ge (x := nI i) (y := 8) (a := i) (b := 8) rfl rfl (by omega) (by omega)] at h9
        refine x_iload X dX3_sumOf_12 rfl ?_
        refine x_aload_n X dX3_sumOf_14 rfl ?_
        refine x_ilen (v := 8) X dX3_sumOf_15 hb (by decide) ?_
        refine x_icmpge (tgt := 39) X dX3_sumOf_16 (by decide) (fun h16 => ?_) (fun h16 => ?_)
        · skip
          rw [xb_ge (x := nI i) (y := 8) (a := i) (b := 8) rfl rfl (by omega) (by omega)] at h16
          obtain rfl : i = 8 := by omega
          refine x_lload_n X dX3_sumOf_39 rfl ?_
          exact x_lret X dX3_sumOf_40 (xp_l (by first | rfl | simp [*]) (by first | rfl | simp [*]))
        · skip
          rw [xb_ge (x := nI i) (y := 8) (a := i) (b := 8) rfl rfl (by omega) (by omega)] at h16
          refine x_lload_n X dX3_sumOf_19 rfl ?_
          refine x_aload_n X dX3_sumOf_20 rfl ?_
          refine x_iload X dX3_sumOf_21 rfl ?_
          refine x_ialdN X dX3_sumOf_23 ha (by omega) (by omega) ?_
          refine x_i2l X dX3_sumOf_24 ?_
          refine x_aload_n X dX3_sumOf_25 rfl ?_
          refine x_iload X dX3_sumOf_26 rfl ?_
          refine x_ialdN X dX3_sumOf_28 hb (by omega) (by omega) ?_
          refine x_i2l X dX3_sumOf_29 ?_
          refine x_lmul X dX3_sumOf_30 ?_
          refine x_ladd X dX3_sumOf_31 ?_
          refine x_topl (fun sm hsm => ?_)
          refine x_lstore_n (lv' := [(2, .long sm), (4, .int (nI i)), (1, .ref (G.2.1 b)), (0, .ref (G.2.1 a))]) X dX3_sumOf_32 rfl (by decide) rfl ?_
          refine x_iinc (k := 1) (v := nI (i + 1)) (lv' := [(4, .int (nI (i + 1))), (2, .long sm), (1, .ref (G.2.1 b)), (0, .ref (G.2.1 a))]) X dX3_sumOf_33 rfl (xn_inc _) (by decide) rfl ?_
          refine x_goto (tgt := 5) X dX3_sumOf_36 (by decide) ?_
          subst hsm
          refine x_pick [0, 1, 2, 3] rfl ?_
          exact ih5 _ (by omega) (i + 1) (by omega) rfl
  refine x_pick [0, 1, 3, 2] rfl ?_
  exact lp5 _ 0 (by omega) rfl

set_option maxHeartbeats 4000000 in
set_option maxRecDepth 100000 in
theorem c_X7_hasRoomFor {l : Launch} {G : xG} {σ : xS} {n : Int32} : xFi l G yX7_hasRoomFor cX7_hasRoomFor 2 (Option.some Jvm.ClassFile.FieldType.boolean) 0 0 [.ref (G.2.1 1), .int n] σ (tRoom σ n) (σ) := by
  refine xM.of (by decide) (Nat.le_of_ble_eq_true rfl) (fun pp ee ss mm aa bel met kk X => ?_)
  have X : xC pp ss mm met kk cX7_hasRoomFor 2 RX7 (Option.some Jvm.ClassFile.FieldType.boolean) G := X
  show xW pp l ee { frames := 0, cells := 0, slots := 0, locals := 0 } ss mm aa bel met kk 2 G 0 0 (xQ bel G (fun r t => r = some (.int (tRoom σ n)) ∧ t = (σ)) aa ss) 0 [(0, .ref (G.2.1 1)), (1, .int n)] [] σ
  refine x_iload_n X dX7_hasRoomFor_0 rfl ?_
  refine x_aload_n X dX7_hasRoomFor_1 rfl ?_
  refine gf_X7_9 (k' := 2) X dX7_hasRoomFor_2 rfl rfl ?_
  refine x_ilen (v := 1000) X dX7_hasRoomFor_5 rfl (by decide) ?_
  refine x_aload_n X dX7_hasRoomFor_6 rfl ?_
  refine gf_X7_15 X dX7_hasRoomFor_7 rfl ?_
  refine x_isub X dX7_hasRoomFor_10 ?_
  refine x_icmpgt (tgt := 18) X dX7_hasRoomFor_11 (by decide) (fun h11 => ?_) (fun h11 => ?_)
  · skip
    refine x_iconst (v := 0) X dX7_hasRoomFor_18 (by decide) ?_
    exact x_zret X dX7_hasRoomFor_19 (Or.inl rfl) (xp_i (by simp [tRoom, *]) (by first | rfl | simp [*]))
  · skip
    refine x_iconst (v := 1) X dX7_hasRoomFor_14 (by decide) ?_
    refine x_goto (tgt := 19) X dX7_hasRoomFor_15 (by decide) ?_
    exact x_zret X dX7_hasRoomFor_19 (Or.inr rfl) (xp_i (by simp [tRoom, *]) (by first | rfl | simp [*]))

set_option maxHeartbeats 4000000 in
set_option maxRecDepth 100000 in
theorem c_X7_append {l : Launch} {G : xG} {σ : xS} {x : Int32} : xFv l G yX7_append cX7_append 2 (Option.none : Option Jvm.ClassFile.FieldType) 0 0 [.ref (G.2.1 1), .int x] σ (tAppend σ x) := by
  refine xM.of (by decide) (Nat.le_of_ble_eq_true rfl) (fun pp ee ss mm aa bel met kk X => ?_)
  have X : xC pp ss mm met kk cX7_append 2 RX7 (Option.none : Option Jvm.ClassFile.FieldType) G := X
  show xW pp l ee { frames := 0, cells := 0, slots := 0, locals := 0 } ss mm aa bel met kk 2 G 0 0 (xQ bel G (fun r t => r = none ∧ t = (tAppend σ x)) aa ss) 0 [(0, .ref (G.2.1 1)), (1, .int x)] [] σ
  refine x_aload_n X dX7_append_0 rfl ?_
  refine gf_X7_15 X dX7_append_1 rfl ?_
  refine x_iflt (tgt := 39) X dX7_append_4 (by decide) (fun h4 => ?_) (fun h4 => ?_)
  · skip
    exact x_vret X dX7_append_39 (⟨rfl, by simp [tAppend, *]⟩)
  · skip
    refine x_aload_n X dX7_append_7 rfl ?_
    refine gf_X7_15 X dX7_append_8 rfl ?_
    refine x_aload_n X dX7_append_11 rfl ?_
    refine gf_X7_9 (k' := 2) X dX7_append_12 rfl rfl ?_
    refine x_ilen (v := 1000) X dX7_append_15 rfl (by decide) ?_
    refine x_icmpge (tgt := 39) X dX7_append_16 (by decide) (fun h16 => ?_) (fun h16 => ?_)
    · skip
      exact x_vret X dX7_append_39 (⟨rfl, by simp [tAppend, *]⟩)
    · skip
      refine x_aload_n X dX7_append_19 rfl ?_
      refine gf_X7_9 (k' := 2) X dX7_append_20 rfl rfl ?_
      refine x_aload_n X dX7_append_23 rfl ?_
      refine gf_X7_15 X dX7_append_24 rfl ?_
      refine x_iload_n X dX7_append_27 rfl ?_
      refine x_iast X dX7_append_28 rfl (xin_lt h4 h16 (by decide)) ?_
      refine x_aload_n X dX7_append_29 rfl ?_
      refine x_dup X dX7_append_30 rfl ?_
      refine gf_X7_15 X dX7_append_31 rfl ?_
      refine x_iconst (v := 1) X dX7_append_34 (by decide) ?_
      refine x_iadd X dX7_append_35 ?_
      refine pf_X7_15 X dX7_append_36 rfl ?_
      exact x_vret X dX7_append_39 (⟨rfl, by simp [tAppend, *]⟩)

set_option maxHeartbeats 4000000 in
set_option maxRecDepth 100000 in
theorem c_X7_clear {l : Launch} {G : xG} {σ : xS} : xFv l G yX7_clear cX7_clear 1 (Option.none : Option Jvm.ClassFile.FieldType) 0 0 [.ref (G.2.1 1)] σ (xsI σ 1 1 0) := by
  refine xM.of (by decide) (Nat.le_of_ble_eq_true rfl) (fun pp ee ss mm aa bel met kk X => ?_)
  have X : xC pp ss mm met kk cX7_clear 1 RX7 (Option.none : Option Jvm.ClassFile.FieldType) G := X
  show xW pp l ee { frames := 0, cells := 0, slots := 0, locals := 0 } ss mm aa bel met kk 1 G 0 0 (xQ bel G (fun r t => r = none ∧ t = (xsI σ 1 1 0)) aa ss) 0 [(0, .ref (G.2.1 1))] [] σ
  refine x_aload_n X dX7_clear_0 rfl ?_
  refine x_iconst (v := 0) X dX7_clear_1 (by decide) ?_
  refine pf_X7_15 X dX7_clear_2 rfl ?_
  exact x_vret X dX7_clear_5 (⟨rfl, by first | rfl | simp [*]⟩)

set_option maxHeartbeats 4000000 in
set_option maxRecDepth 100000 in
theorem c_X7_at {l : Launch} {G : xG} {σ : xS} {i : Int32} : xFi l G yX7_at cX7_at 2 (Option.some Jvm.ClassFile.FieldType.int) 0 0 [.ref (G.2.1 1), .int i] σ (tAt σ i) (σ) := by
  refine xM.of (by decide) (Nat.le_of_ble_eq_true rfl) (fun pp ee ss mm aa bel met kk X => ?_)
  have X : xC pp ss mm met kk cX7_at 2 RX7 (Option.some Jvm.ClassFile.FieldType.int) G := X
  show xW pp l ee { frames := 0, cells := 0, slots := 0, locals := 0 } ss mm aa bel met kk 2 G 0 0 (xQ bel G (fun r t => r = some (.int (tAt σ i)) ∧ t = (σ)) aa ss) 0 [(0, .ref (G.2.1 1)), (1, .int i)] [] σ
  refine x_iload_n X dX7_at_0 rfl ?_
  refine x_iflt (tgt := 30) X dX7_at_1 (by decide) (fun h1 => ?_) (fun h1 => ?_)
  · skip
    refine x_iconst (v := 0) X dX7_at_30 (by decide) ?_
    exact x_iret X dX7_at_31 (xp_i (by simp [tAt, *]) (by first | rfl | simp [*]))
  · skip
    refine x_iload_n X dX7_at_4 rfl ?_
    refine x_aload_n X dX7_at_5 rfl ?_
    refine gf_X7_15 X dX7_at_6 rfl ?_
    refine x_icmpge (tgt := 30) X dX7_at_9 (by decide) (fun h9 => ?_) (fun h9 => ?_)
    · skip
      refine x_iconst (v := 0) X dX7_at_30 (by decide) ?_
      exact x_iret X dX7_at_31 (xp_i (by simp [tAt, *]) (by first | rfl | simp [*]))
    · skip
      refine x_iload_n X dX7_at_12 rfl ?_
      refine x_aload_n X dX7_at_13 rfl ?_
      refine gf_X7_9 (k' := 2) X dX7_at_14 rfl rfl ?_
      refine x_ilen (v := 1000) X dX7_at_17 rfl (by decide) ?_
      refine x_icmpge (tgt := 30) X dX7_at_18 (by decide) (fun h18 => ?_) (fun h18 => ?_)
      · skip
        refine x_iconst (v := 0) X dX7_at_30 (by decide) ?_
        exact x_iret X dX7_at_31 (xp_i (by simp [tAt, *]) (by first | rfl | simp [*]))
      · skip
        refine x_aload_n X dX7_at_21 rfl ?_
        refine gf_X7_9 (k' := 2) X dX7_at_22 rfl rfl ?_
        refine x_iload_n X dX7_at_25 rfl ?_
        refine x_iald X dX7_at_26 rfl (xin_lt h1 h18 (by decide)) ?_
        refine x_goto (tgt := 31) X dX7_at_27 (by decide) ?_
        exact x_iret X dX7_at_31 (xp_i (by simp [tAt, *]) (by first | rfl | simp [*]))

set_option maxHeartbeats 4000000 in
set_option maxRecDepth 100000 in
theorem c_X7_rewind {l : Launch} {G : xG} {σ : xS} : xFv l G yX7_rewind cX7_rewind 1 (Option.none : Option Jvm.ClassFile.FieldType) 0 0 [.ref (G.2.1 1)] σ (tRew σ) := by
  refine xM.of (by decide) (Nat.le_of_ble_eq_true rfl) (fun pp ee ss mm aa bel met kk X => ?_)
  have X : xC pp ss mm met kk cX7_rewind 1 RX7 (Option.none : Option Jvm.ClassFile.FieldType) G := X
  show xW pp l ee { frames := 0, cells := 0, slots := 0, locals := 0 } ss mm aa bel met kk 1 G 0 0 (xQ bel G (fun r t => r = none ∧ t = (tRew σ)) aa ss) 0 [(0, .ref (G.2.1 1))] [] σ
  refine x_aload_n X dX7_rewind_0 rfl ?_
  refine x_iconst (v := 0) X dX7_rewind_1 (by decide) ?_
  refine pf_X7_19 X dX7_rewind_2 rfl ?_
  refine x_aload_n X dX7_rewind_5 rfl ?_
  refine x_iconst (v := 1) X dX7_rewind_6 (by decide) ?_
  refine pf_X7_22 X dX7_rewind_7 rfl (Or.inr rfl) ?_
  exact x_vret X dX7_rewind_10 (⟨rfl, by first | rfl | simp [*]⟩)

set_option maxHeartbeats 4000000 in
set_option maxRecDepth 100000 in
theorem c_X7_next {l : Launch} {G : xG} {σ : xS} {a b : Int32} : xFi l G yX7_next cX7_next 4 (Option.some Jvm.ClassFile.FieldType.int) 1 22 [.ref (G.2.1 1), .int a, .int b] σ ((tNext σ a b).1) ((tNext σ a b).2) := by
  refine xM.of (by decide) (Nat.le_of_ble_eq_true rfl) (fun pp ee ss mm aa bel met kk X => ?_)
  have X : xC pp ss mm met kk cX7_next 4 RX7 (Option.some Jvm.ClassFile.FieldType.int) G := X
  show xW pp l ee { frames := 1, cells := 0, slots := 0, locals := 22 } ss mm aa bel met kk 4 G 0 0 (xQ bel G (fun r t => r = some (.int ((tNext σ a b).1)) ∧ t = ((tNext σ a b).2)) aa ss) 0 [(0, .ref (G.2.1 1)), (1, .int a), (2, .int b)] [] σ
  refine x_aload_n X dX7_next_0 rfl ?_
  refine gf_X7_22 X dX7_next_1 rfl ?_
  refine x_ifne (tgt := 9) X dX7_next_4 (by decide) (fun h4 => ?_) (fun h4 => ?_)
  · skip
    refine x_aload_n X dX7_next_9 rfl ?_
    refine gf_X7_19 X dX7_next_10 rfl ?_
    refine x_aload_n X dX7_next_13 rfl ?_
    refine gf_X7_15 X dX7_next_14 rfl ?_
    refine x_icmpge (tgt := 36) X dX7_next_17 (by decide) (fun h17 => ?_) (fun h17 => ?_)
    · skip
      refine x_aload_n X dX7_next_36 rfl ?_
      refine x_iconst (v := 0) X dX7_next_37 (by decide) ?_
      refine pf_X7_22 X dX7_next_38 rfl (Or.inl rfl) ?_
      refine x_iload_n X dX7_next_41 rfl ?_
      exact x_iret X dX7_next_42 (xp_i (by simp [tNext, *]) (by simp [tNext, *]))
    · skip
      refine x_aload_n X dX7_next_20 rfl ?_
      refine x_aload_n X dX7_next_21 rfl ?_
      refine gf_X7_19 X dX7_next_22 rfl ?_
      refine cv_X7_26 X c_X7_at dX7_next_25 rfl ⟨by decide, by decide, by decide, by decide⟩ rfl rfl (Nat.le_of_ble_eq_true rfl) (xk_i ?_)
      refine x_iload_n X dX7_next_28 rfl ?_
      refine x_iload_n X dX7_next_29 rfl ?_
      refine cs_X7_30 X c_X3_isWithin dX7_next_30 ⟨by decide, by decide, by decide, by decide⟩ rfl rfl (Nat.le_of_ble_eq_true rfl) (xk_i ?_)
      refine x_ifne (tgt := 43) X dX7_next_33 (by decide) (fun h33 => ?_) (fun h33 => ?_)
      · skip
        refine x_aload_n X dX7_next_43 rfl ?_
        refine x_aload_n X dX7_next_44 rfl ?_
        refine gf_X7_19 X dX7_next_45 rfl ?_
        refine cv_X7_26 X c_X7_at dX7_next_48 rfl ⟨by decide, by decide, by decide, by decide⟩ rfl rfl (Nat.le_of_ble_eq_true rfl) (xk_i ?_)
        refine x_topi (fun v1 hv1 => ?_)
        refine x_istore_n (lv' := [(3, .int v1), (0, .ref (G.2.1 1)), (1, .int a), (2, .int b)]) X dX7_next_51 rfl (by decide) rfl ?_
        refine x_aload_n X dX7_next_52 rfl ?_
        refine x_dup X dX7_next_53 rfl ?_
        refine gf_X7_19 X dX7_next_54 rfl ?_
        refine x_iconst (v := 1) X dX7_next_57 (by decide) ?_
        refine x_iadd X dX7_next_58 ?_
        refine pf_X7_19 X dX7_next_59 rfl ?_
        refine x_iload_n X dX7_next_62 rfl ?_
        exact x_iret X dX7_next_63 (xp_i (by simp [tNext, *]) (by simp [tNext, *]))
      · skip
        refine x_aload_n X dX7_next_36 rfl ?_
        refine x_iconst (v := 0) X dX7_next_37 (by decide) ?_
        refine pf_X7_22 X dX7_next_38 rfl (Or.inl rfl) ?_
        refine x_iload_n X dX7_next_41 rfl ?_
        exact x_iret X dX7_next_42 (xp_i (by simp [tNext, *]) (by simp [tNext, *]))
  · skip
    refine x_iload_n X dX7_next_7 rfl ?_
    exact x_iret X dX7_next_8 (xp_i (by simp [tNext, *]) (by simp [tNext, *]))

set_option maxHeartbeats 4000000 in
set_option maxRecDepth 100000 in
theorem c_X7_nextBut {l : Launch} {G : xG} {σ : xS} {o a b : Int32} : xFi l G yX7_nextBut cX7_nextBut 4 (Option.some Jvm.ClassFile.FieldType.int) 2 45 [.ref (G.2.1 1), .int o, .int a, .int b] σ ((tNext (tBut σ o) a b).1) ((tNext (tBut σ o) a b).2) := by
  refine xM.of (by decide) (Nat.le_of_ble_eq_true rfl) (fun pp ee ss mm aa bel met kk X => ?_)
  have X : xC pp ss mm met kk cX7_nextBut 4 RX7 (Option.some Jvm.ClassFile.FieldType.int) G := X
  show xW pp l ee { frames := 2, cells := 0, slots := 0, locals := 45 } ss mm aa bel met kk 4 G 0 0 (xQ bel G (fun r t => r = some (.int ((tNext (tBut σ o) a b).1)) ∧ t = ((tNext (tBut σ o) a b).2)) aa ss) 0 [(0, .ref (G.2.1 1)), (1, .int o), (2, .int a), (3, .int b)] [] σ
  refine x_aload_n X dX7_nextBut_0 rfl ?_
  refine gf_X7_19 X dX7_nextBut_1 rfl ?_
  refine x_aload_n X dX7_nextBut_4 rfl ?_
  refine gf_X7_15 X dX7_nextBut_5 rfl ?_
  refine x_icmpge (tgt := 28) X dX7_nextBut_8 (by decide) (fun h8 => ?_) (fun h8 => ?_)
  · skip
    refine x_aload_n X dX7_nextBut_28 rfl ?_
    refine x_iload_n X dX7_nextBut_29 rfl ?_
    refine x_iload_n X dX7_nextBut_30 rfl ?_
    refine cv_X7_36 X c_X7_next dX7_nextBut_31 rfl ⟨by decide, by decide, by decide, by decide⟩ rfl rfl (Nat.le_of_ble_eq_true rfl) (xk_i ?_)
    exact x_iret X dX7_nextBut_34 (xp_i (by simp [tBut, *]) (by simp [tBut, *]))
  · skip
    refine x_aload_n X dX7_nextBut_11 rfl ?_
    refine x_aload_n X dX7_nextBut_12 rfl ?_
    refine gf_X7_19 X dX7_nextBut_13 rfl ?_
    refine cv_X7_26 X c_X7_at dX7_nextBut_16 rfl ⟨by decide, by decide, by decide, by decide⟩ rfl rfl (Nat.le_of_ble_eq_true rfl) (xk_i ?_)
    refine x_iload_n X dX7_nextBut_19 rfl ?_
    refine x_icmpne (tgt := 28) X dX7_nextBut_20 (by decide) (fun h20 => ?_) (fun h20 => ?_)
    · skip
      refine x_aload_n X dX7_nextBut_28 rfl ?_
      refine x_iload_n X dX7_nextBut_29 rfl ?_
      refine x_iload_n X dX7_nextBut_30 rfl ?_
      refine cv_X7_36 X c_X7_next dX7_nextBut_31 rfl ⟨by decide, by decide, by decide, by decide⟩ rfl rfl (Nat.le_of_ble_eq_true rfl) (xk_i ?_)
      exact x_iret X dX7_nextBut_34 (xp_i (by simp [tBut, *]) (by simp [tBut, *]))
    · skip
      refine x_aload_n X dX7_nextBut_23 rfl ?_
      refine x_iconst (v := 0) X dX7_nextBut_24 (by decide) ?_
      refine pf_X7_22 X dX7_nextBut_25 rfl (Or.inl rfl) ?_
      refine x_aload_n X dX7_nextBut_28 rfl ?_
      refine x_iload_n X dX7_nextBut_29 rfl ?_
      refine x_iload_n X dX7_nextBut_30 rfl ?_
      refine cv_X7_36 X c_X7_next dX7_nextBut_31 rfl ⟨by decide, by decide, by decide, by decide⟩ rfl rfl (Nat.le_of_ble_eq_true rfl) (xk_i ?_)
      exact x_iret X dX7_nextBut_34 (xp_i (by simp [tBut, *]) (by simp [tBut, *]))

set_option maxHeartbeats 4000000 in
set_option maxRecDepth 100000 in
theorem c_X7_isReadWhole {l : Launch} {G : xG} {σ : xS} : xFi l G yX7_isReadWhole cX7_isReadWhole 1 (Option.some Jvm.ClassFile.FieldType.boolean) 0 0 [.ref (G.2.1 1)] σ (tWhole σ) (σ) := by
  refine xM.of (by decide) (Nat.le_of_ble_eq_true rfl) (fun pp ee ss mm aa bel met kk X => ?_)
  have X : xC pp ss mm met kk cX7_isReadWhole 1 RX7 (Option.some Jvm.ClassFile.FieldType.boolean) G := X
  show xW pp l ee { frames := 0, cells := 0, slots := 0, locals := 0 } ss mm aa bel met kk 1 G 0 0 (xQ bel G (fun r t => r = some (.int (tWhole σ)) ∧ t = (σ)) aa ss) 0 [(0, .ref (G.2.1 1))] [] σ
  refine x_aload_n X dX7_isReadWhole_0 rfl ?_
  refine gf_X7_22 X dX7_isReadWhole_1 rfl ?_
  refine x_ifeq (tgt := 22) X dX7_isReadWhole_4 (by decide) (fun h4 => ?_) (fun h4 => ?_)
  · skip
    refine x_iconst (v := 0) X dX7_isReadWhole_22 (by decide) ?_
    exact x_zret X dX7_isReadWhole_23 (Or.inl rfl) (xp_i (by simp [tWhole, *]) (by first | rfl | simp [*]))
  · skip
    refine x_aload_n X dX7_isReadWhole_7 rfl ?_
    refine gf_X7_19 X dX7_isReadWhole_8 rfl ?_
    refine x_aload_n X dX7_isReadWhole_11 rfl ?_
    refine gf_X7_15 X dX7_isReadWhole_12 rfl ?_
    refine x_icmpne (tgt := 22) X dX7_isReadWhole_15 (by decide) (fun h15 => ?_) (fun h15 => ?_)
    · skip
      refine x_iconst (v := 0) X dX7_isReadWhole_22 (by decide) ?_
      exact x_zret X dX7_isReadWhole_23 (Or.inl rfl) (xp_i (by simp [tWhole, *]) (by first | rfl | simp [*]))
    · skip
      refine x_iconst (v := 1) X dX7_isReadWhole_18 (by decide) ?_
      refine x_goto (tgt := 23) X dX7_isReadWhole_19 (by decide) ?_
      exact x_zret X dX7_isReadWhole_23 (Or.inr rfl) (xp_i (by simp [tWhole, *]) (by first | rfl | simp [*]))

set_option maxHeartbeats 4000000 in
set_option maxRecDepth 100000 in
theorem c_X7_isPlanOf {l : Launch} {G : xG} {σ : xS} {n : Nat} (hn : n < 2 ^ 31) : xFi l G yX7_isPlanOf cX7_isPlanOf 3 (Option.some Jvm.ClassFile.FieldType.boolean) 2 45 [.ref (G.2.1 1), .int (nI n)] σ (tWhole (tSkip (-1000000) 1000000 (tRew σ) n)) (tSkip (-1000000) 1000000 (tRew σ) n) := by
  refine xM.of (by decide) (Nat.le_of_ble_eq_true rfl) (fun pp ee ss mm aa bel met kk X => ?_)
  have X : xC pp ss mm met kk cX7_isPlanOf 3 RX7 (Option.some Jvm.ClassFile.FieldType.boolean) G := X
  show xW pp l ee { frames := 2, cells := 0, slots := 0, locals := 45 } ss mm aa bel met kk 3 G 0 0 (xQ bel G (fun r t => r = some (.int (tWhole (tSkip (-1000000) 1000000 (tRew σ) n))) ∧ t = (tSkip (-1000000) 1000000 (tRew σ) n)) aa ss) 0 [(0, .ref (G.2.1 1)), (1, .int (nI n))] [] σ
  refine x_aload_n X dX7_isPlanOf_0 rfl ?_
  refine cv_X7_40 X c_X7_rewind dX7_isPlanOf_1 rfl ⟨by decide, by decide, by decide, by decide⟩ rfl rfl (Nat.le_of_ble_eq_true rfl) (xk_v ?_)
  refine x_iconst (v := 0) X dX7_isPlanOf_4 (by decide) ?_
  refine x_istore_n (lv' := [(2, .int 0), (0, .ref (G.2.1 1)), (1, .int (nI n))]) X dX7_isPlanOf_5 rfl (by decide) rfl ?_
  have lp6 : ∀ (NN6 : Nat) (i : Nat) (hi : i ≤ n), n - i = NN6 → xW pp l ee { frames := 2, cells := 0, slots := 0, locals := 45 } ss mm aa bel met kk 3 G 0 0 (xQ bel G (fun r t => r = some (.int (tWhole (tSkip (-1000000) 1000000 (tRew σ) n))) ∧ t = (tSkip (-1000000) 1000000 (tRew σ) n)) aa ss) 6 [(2, .int (nI i)), (1, .int (nI n)), (0, .ref (G.2.1 1))] [] (tSkip (-1000000) 1000000 (tRew σ) i) := by
    intro NN6
    induction NN6 using Nat.strongRecOn with
    | ind NN6 ih6 =>
      intro i hi hNN6
      refine x_iload_n X dX7_isPlanOf_6 rfl ?_
      refine x_iload_n X dX7_isPlanOf_7 rfl ?_
      refine x_icmpge (tgt := 26) X dX7_isPlanOf_8 (by decide) (fun h8 => ?_) (fun h8 => ?_)
      · skip
        rw [xb_ge (x := nI i) (y := nI n) (a := i) (b := n) rfl rfl (by omega) (by omega)] at h8
        obtain rfl : i = n := by omega
        refine x_aload_n X dX7_isPlanOf_26 rfl ?_
        refine cv_X7_45 X c_X7_isReadWhole dX7_isPlanOf_27 rfl ⟨by decide, by decide, by decide, by decide⟩ rfl rfl (Nat.le_of_ble_eq_true rfl) (xk_i ?_)
        exact x_zret X dX7_isPlanOf_30 (by unfold tWhole; split <;> (try split) <;> simp) (xp_i (by first | rfl | simp [*]) (by first | rfl | simp [*]))
      · skip
        rw [xb_ge (x := nI i) (y := nI n) (a := i) (b := n) rfl rfl (by omega) (by omega)] at h8
        refine x_aload_n X dX7_isPlanOf_11 rfl ?_
        refine x_ldc X dX7_isPlanOf_12 wk_X7_43 ?_
        refine x_ldc X dX7_isPlanOf_14 wk_X7_44 ?_
        refine cv_X7_36 X c_X7_next dX7_isPlanOf_16 rfl ⟨by decide, by decide, by decide, by decide⟩ rfl rfl (Nat.le_of_ble_eq_true rfl) (xk_i ?_)
        refine x_pop X dX7_isPlanOf_19 rfl ?_
        refine x_iinc (k := 0) (v := nI (i + 1)) (lv' := [(2, .int (nI (i + 1))), (1, .int (nI n)), (0, .ref (G.2.1 1))]) X dX7_isPlanOf_20 rfl (xn_inc _) (by decide) rfl ?_
        refine x_goto (tgt := 6) X dX7_isPlanOf_23 (by decide) ?_
        refine x_pick [0, 1, 2] rfl ?_
        exact ih6 _ (by omega) (i + 1) (by omega) rfl
  refine x_pick [0, 2, 1] rfl ?_
  exact lp6 _ 0 (by omega) rfl

set_option maxHeartbeats 4000000 in
set_option maxRecDepth 100000 in
theorem c_X7_digestOfAll {l : Launch} {G : xG} {σ : xS} {z : Nat} (hz : z < 2 ^ 31) (hs : xgI σ 1 1 = nI z) : xFi l G yX7_digestOfAll cX7_digestOfAll 3 (Option.some Jvm.ClassFile.FieldType.int) 1 21 [.ref (G.2.1 1)] σ (tDig σ z) (σ) := by
  refine xM.of (by decide) (Nat.le_of_ble_eq_true rfl) (fun pp ee ss mm aa bel met kk X => ?_)
  have X : xC pp ss mm met kk cX7_digestOfAll 3 RX7 (Option.some Jvm.ClassFile.FieldType.int) G := X
  show xW pp l ee { frames := 1, cells := 0, slots := 0, locals := 21 } ss mm aa bel met kk 3 G 0 0 (xQ bel G (fun r t => r = some (.int (tDig σ z)) ∧ t = (σ)) aa ss) 0 [(0, .ref (G.2.1 1))] [] σ
  refine x_bipush (v := 17) X dX7_digestOfAll_0 (by decide) ?_
  refine x_istore_n (lv' := [(1, .int 17), (0, .ref (G.2.1 1))]) X dX7_digestOfAll_2 rfl (by decide) rfl ?_
  refine x_iconst (v := 0) X dX7_digestOfAll_3 (by decide) ?_
  refine x_istore_n (lv' := [(2, .int 0), (1, .int 17), (0, .ref (G.2.1 1))]) X dX7_digestOfAll_4 rfl (by decide) rfl ?_
  have lp5 : ∀ (NN5 : Nat) (i : Nat) (hi : i ≤ z), z - i = NN5 → xW pp l ee { frames := 1, cells := 0, slots := 0, locals := 21 } ss mm aa bel met kk 3 G 0 0 (xQ bel G (fun r t => r = some (.int (tDig σ z)) ∧ t = (σ)) aa ss) 5 [(2, .int (nI i)), (1, .int (tDig σ i)), (0, .ref (G.2.1 1))] [] (σ) := by
    intro NN5
    induction NN5 using Nat.strongRecOn with
    | ind NN5 ih5 =>
      intro i hi hNN5
      refine x_iload_n X dX7_digestOfAll_5 rfl ?_
      refine x_aload_n X dX7_digestOfAll_6 rfl ?_
      refine gf_X7_15 X dX7_digestOfAll_7 rfl ?_
      rw [hs]
      refine x_icmpge (tgt := 30) X dX7_digestOfAll_10 (by decide) (fun h10 => ?_) (fun h10 => ?_)
      · skip
        rw [xb_ge (x := nI i) (y := nI z) (a := i) (b := z) rfl rfl (by omega) (by omega)] at h10
        obtain rfl : i = z := by omega
        refine x_iload_n X dX7_digestOfAll_30 rfl ?_
        exact x_iret X dX7_digestOfAll_31 (xp_i (by first | rfl | simp [*]) (by first | rfl | simp [*]))
      · skip
        rw [xb_ge (x := nI i) (y := nI z) (a := i) (b := z) rfl rfl (by omega) (by omega)] at h10
        refine x_bipush (v := 31) X dX7_digestOfAll_13 (by decide) ?_
        refine x_iload_n X dX7_digestOfAll_15 rfl ?_
        refine x_imul X dX7_digestOfAll_16 ?_
        refine x_aload_n X dX7_digestOfAll_17 rfl ?_
        refine x_iload_n X dX7_digestOfAll_18 rfl ?_
        refine cv_X7_26 X c_X7_at dX7_digestOfAll_19 rfl ⟨by decide, by decide, by decide, by decide⟩ rfl rfl (Nat.le_of_ble_eq_true rfl) (xk_i ?_)
        refine x_iadd X dX7_digestOfAll_22 ?_
        refine x_topi (fun hh hhh => ?_)
        refine x_istore_n (lv' := [(1, .int hh), (2, .int (nI i)), (0, .ref (G.2.1 1))]) X dX7_digestOfAll_23 rfl (by decide) rfl ?_
        refine x_iinc (k := 1) (v := nI (i + 1)) (lv' := [(2, .int (nI (i + 1))), (1, .int hh), (0, .ref (G.2.1 1))]) X dX7_digestOfAll_24 rfl (xn_inc _) (by decide) rfl ?_
        refine x_goto (tgt := 5) X dX7_digestOfAll_27 (by decide) ?_
        subst hhh
        refine x_pick [0, 1, 2] rfl ?_
        exact ih5 _ (by omega) (i + 1) (by omega) rfl
  refine x_pick [0, 1, 2] rfl ?_
  exact lp5 _ 0 (by omega) rfl
