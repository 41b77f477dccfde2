/-! Draft: what the numbers of a row mean, how many they are, which are at fault -/
def dMean (k p : Int32) : Int32 := if p = 0 then 0 else if k = 0 then 1 else if k = 1 ∨ k = 2 then 2 else if k = 3 then (if p = 1 then 3 else 4) else if k = 4 then (if p = 1 then 5 else if p &&& 1 = 0 then 6 else 7) else if k = 5 then (if p = 1 then 6 else 8) else if k = 6 then (if p = 1 then 2 else if p = 2 then 9 else 10) else if k = 7 then 6 else if k = 8 then 11 else (if p = 1 then 6 else 2)
def dL (q k : Nat) : Nat := if q = 3 ∨ q = 6 then 4 else if q = 4 then 2 + 2 * k else if q = 5 ∨ q = 9 then 3 else if q = 7 then 5 else 2
theorem dL_2 {q k : Nat} (h : q < 3 ∨ 9 < q) : dL q k = 2 := by
  unfold dL
  rw [if_neg (by omega), if_neg (by omega), if_neg (by omega), if_neg (by omega)]
theorem dL_b {q k : Nat} (h : q = 4 → k ≤ 4) : 2 ≤ dL q k ∧ dL q k ≤ 10 := by
  unfold dL
  by_cases h1 : q = 3 ∨ q = 6
  · rw [if_pos h1]; omega
  · rw [if_neg h1]
    by_cases h2 : q = 4
    · rw [if_pos h2]; have := h h2; omega
    · rw [if_neg h2]
      by_cases h3 : q = 5 ∨ q = 9
      · rw [if_pos h3]; omega
      · rw [if_neg h3]
        by_cases h4 : q = 7
        · rw [if_pos h4]; omega
        · rw [if_neg h4]; omega
def dBey (x lo hi : Int32) : Int32 := if xIn x lo hi = 0 then 3 else 0
noncomputable def dKind (x : Int32) (nr nb : Nat) : Int32 := if xIn x 0 9 = 0 then 2 else if nr = 200 then 9 else if x = 6 ∧ nb = 60 then 9 else 0
theorem dKind_1 {x : Int32} {nr nb : Nat} (h : xIn x 0 9 = 0) : dKind x nr nb = 2 := by unfold dKind; rw [if_pos h]
theorem dKind_2 {x : Int32} {nr nb : Nat} (h : ¬ xIn x 0 9 = 0) (h2 : nr = 200) : dKind x nr nb = 9 := by unfold dKind; rw [if_neg h, if_pos h2]
theorem dKind_3 {x : Int32} {nr nb : Nat} (h : ¬ xIn x 0 9 = 0) (h2 : ¬ nr = 200) (h3 : x = 6) (h4 : nb = 60) : dKind x nr nb = 9 := by unfold dKind; rw [if_neg h, if_neg h2, if_pos ⟨h3, h4⟩]
theorem dKind_4 {x : Int32} {nr nb : Nat} (h : ¬ xIn x 0 9 = 0) (h2 : ¬ nr = 200) (h4 : ¬ nb = 60) : dKind x nr nb = 0 := by unfold dKind; rw [if_neg h, if_neg h2, if_neg (fun z => h4 z.2)]
theorem dKind_5 {x : Int32} {nr nb : Nat} (h : ¬ xIn x 0 9 = 0) (h2 : ¬ nr = 200) (h3 : ¬ x = 6) : dKind x nr nb = 0 := by unfold dKind; rw [if_neg h, if_neg h2, if_neg (fun z => h3 z.1)]
noncomputable def dGood (σ : xS) (c np N M : Nat) (x : Int32) : Prop := ∃ j, j < np ∧ x = nI j ∧ mBrk σ c (463 + j) N M = -1
theorem dGood_n {σ : xS} {c np N M j : Nat} (hj : j < np) (hp : np ≤ 8) : dGood σ c np N M (nI j) ↔ mBrk σ c (463 + j) N M = -1 := by
  constructor
  · rintro ⟨i, h1, h2, h3⟩
    rw [(nI_eq (by omega) (by omega)).mp h2]
    exact h3
  · exact fun h => ⟨j, hj, rfl, h⟩
noncomputable def xD (p : Prop) (v : Int32) : Int32 := @ite _ p (Classical.propDecidable p) 0 v
theorem xD_t {p : Prop} {v : Int32} (h : p) : xD p v = 0 := if_pos h
theorem xD_f {p : Prop} {v : Int32} (h : ¬ p) : xD p v = v := if_neg h
noncomputable def dFlt (σ : xS) (c nr nb np V N M : Nat) (m x : Int32) : Int32 := if m = 0 then dKind x nr nb else if m = 1 then xD (xLt x N) 3 else if m = 2 then xD (xLt x V) 3 else if m = 3 then xD (xLt x M) 4 else if m = 4 then dBey x (-100) 100 else if m = 5 then dBey x 1 4 else if m = 6 then xD (xLt x nr) 4 else if m = 7 then dBey x 1 1000 else if m = 8 then dBey x 2 1000 else if m = 9 then dBey x (-1000) 1000 else if m = 10 then dBey x 0 1 else xD (dGood σ c np N M x) 4
theorem xi_of {x y : Int32} {a b : Int} (h : x.toInt = a) (h2 : y.toInt = b) (h3 : a = b) : x = y := Int32.toInt_inj.mp (h.trans (h3.trans h2.symm))
theorem dMean_b {k p : Int32} (h : p = 0 ∨ ∃ q : Nat, q < 10 ∧ k = nI q) : ∃ j : Nat, j < 12 ∧ dMean k p = nI j := by
  unfold dMean
  repeat' split
  all_goals first | exact ⟨0, by omega, rfl⟩ | exact ⟨1, by omega, rfl⟩ | exact ⟨2, by omega, rfl⟩ | exact ⟨3, by omega, rfl⟩ | exact ⟨4, by omega, rfl⟩ | exact ⟨5, by omega, rfl⟩ | exact ⟨6, by omega, rfl⟩ | exact ⟨7, by omega, rfl⟩ | exact ⟨8, by omega, rfl⟩ | exact ⟨9, by omega, rfl⟩ | exact ⟨10, by omega, rfl⟩ | exact ⟨11, by omega, rfl⟩

set_option maxHeartbeats 4000000 in
set_option maxRecDepth 100000 in
theorem c_X1_clear {l : Launch} {G : xG} {σ : xS} : xFv l G yX1_clear cX1_clear 1 (Option.none : Option Jvm.ClassFile.FieldType) 0 0 [.ref (G.2.1 11)] σ (xsI σ 11 1 0) := by
  refine xM.of (by decide) (Nat.le_of_ble_eq_true rfl) (fun pp ee ss mm aa bel met kk X => ?_)
  have X : xC pp ss mm met kk cX1_clear 1 RX1 (Option.none : Option Jvm.ClassFile.FieldType) G := X
  show xW pp l ee { frames := 0, cells := 0, slots := 0, locals := 0 } ss mm aa bel met kk 1 G 0 0 (xQ bel G (fun r t => r = none ∧ t = (xsI σ 11 1 0)) aa ss) 0 [(0, .ref (G.2.1 11))] [] σ
  refine x_aload_n X dX1_clear_0 rfl ?_
  refine x_iconst (v := 0) X dX1_clear_1 (by decide) ?_
  refine pf_X1_15 X dX1_clear_2 rfl ?_
  exact x_vret X dX1_clear_5 (⟨rfl, by first | rfl | simp [*]⟩)

set_option maxHeartbeats 4000000 in
set_option maxRecDepth 100000 in
theorem c_X1_meaningAt {l : Launch} {G : xG} {σ : xS} {k q : Int32} (hk : q = 0 ∨ ∃ z : Nat, z < 10 ∧ k = nI z) : xFi l G yX1_meaningAt cX1_meaningAt 2 (Option.some Jvm.ClassFile.FieldType.int) 0 0 [.int k, .int q] σ (dMean k q) (σ) := by
  refine xM.of (by decide) (Nat.le_of_ble_eq_true rfl) (fun pp ee ss mm aa bel met kk X => ?_)
  have X : xC pp ss mm met kk cX1_meaningAt 2 RX1 (Option.some Jvm.ClassFile.FieldType.int) G := X
  show xW pp l ee { frames := 0, cells := 0, slots := 0, locals := 0 } ss mm aa bel met kk 2 G 0 0 (xQ bel G (fun r t => r = some (.int (dMean k q)) ∧ t = (σ)) aa ss) 0 [(0, .int k), (1, .int q)] [] σ
  refine x_iload_n X dX1_meaningAt_0 rfl ?_
  refine x_ifne (tgt := 6) X dX1_meaningAt_1 (by decide) (fun h1 => ?_) (fun h1 => ?_)
  · skip
    refine x_iload_n X dX1_meaningAt_6 rfl ?_
    by_cases h7 : k.toInt < 0 ∨ 9 < k.toInt
    · skip
      rcases hk with z | ⟨z, hz, rfl⟩
      · exact absurd z h1
      · rw [nI_toInt (by omega)] at h7; omega
    rcases (show k.toInt = 0 ∨ k.toInt = 1 ∨ k.toInt = 2 ∨ k.toInt = 3 ∨ k.toInt = 4 ∨ k.toInt = 5 ∨ k.toInt = 6 ∨ k.toInt = 7 ∨ k.toInt = 8 ∨ k.toInt = 9 by omega) with g7 | g7 | g7 | g7 | g7 | g7 | g7 | g7 | g7 | g7
    · skip
      obtain ⟨k2, hk2⟩ : ∃ z : Int32, z = k := ⟨_, rfl⟩
      have hk3 : k = 0 := xi_of g7 (show (0 : Int32).toInt = 0 by decide) rfl
      refine x_tableIn (off := 53) (tgt := 60) X dX1_meaningAt_7 (by rw [g7]; decide) (by rw [g7]; decide) (by rw [g7]; rfl) (by decide) ?_
      refine x_iconst (v := 1) X dX1_meaningAt_60 (by decide) ?_
      exact x_iret X dX1_meaningAt_61 (xp_i (by simp [dMean, *]) (by first | rfl | simp [*]))
    · skip
      obtain ⟨k2, hk2⟩ : ∃ z : Int32, z = k := ⟨_, rfl⟩
      have hk3 : k = 1 := xi_of g7 (show (1 : Int32).toInt = 1 by decide) rfl
      refine x_tableIn (off := 55) (tgt := 62) X dX1_meaningAt_7 (by rw [g7]; decide) (by rw [g7]; decide) (by rw [g7]; rfl) (by decide) ?_
      refine x_iconst (v := 2) X dX1_meaningAt_62 (by decide) ?_
      exact x_iret X dX1_meaningAt_63 (xp_i (by simp [dMean, *]) (by first | rfl | simp [*]))
    · skip
      obtain ⟨k2, hk2⟩ : ∃ z : Int32, z = k := ⟨_, rfl⟩
      have hk3 : k = 2 := xi_of g7 (show (2 : Int32).toInt = 2 by decide) rfl
      refine x_tableIn (off := 55) (tgt := 62) X dX1_meaningAt_7 (by rw [g7]; decide) (by rw [g7]; decide) (by rw [g7]; rfl) (by decide) ?_
      refine x_iconst (v := 2) X dX1_meaningAt_62 (by decide) ?_
      exact x_iret X dX1_meaningAt_63 (xp_i (by simp [dMean, *]) (by first | rfl | simp [*]))
    · skip
      obtain ⟨k2, hk2⟩ : ∃ z : Int32, z = k := ⟨_, rfl⟩
      have hk3 : k = 3 := xi_of g7 (show (3 : Int32).toInt = 3 by decide) rfl
      refine x_tableIn (off := 57) (tgt := 64) X dX1_meaningAt_7 (by rw [g7]; decide) (by rw [g7]; decide) (by rw [g7]; rfl) (by decide) ?_
      refine x_iload_n X dX1_meaningAt_64 rfl ?_
      refine x_iconst (v := 1) X dX1_meaningAt_65 (by decide) ?_
      refine x_icmpne (tgt := 73) X dX1_meaningAt_66 (by decide) (fun h66 => ?_) (fun h66 => ?_)
      · skip
        refine x_iconst (v := 4) X dX1_meaningAt_73 (by decide) ?_
        exact x_iret X dX1_meaningAt_74 (xp_i (by simp [dMean, *]) (by first | rfl | simp [*]))
      · skip
        refine x_iconst (v := 3) X dX1_meaningAt_69 (by decide) ?_
        refine x_goto (tgt := 74) X dX1_meaningAt_70 (by decide) ?_
        exact x_iret X dX1_meaningAt_74 (xp_i (by simp [dMean, *]) (by first | rfl | simp [*]))
    · skip
      obtain ⟨k2, hk2⟩ : ∃ z : Int32, z = k := ⟨_, rfl⟩
      have hk3 : k = 4 := xi_of g7 (show (4 : Int32).toInt = 4 by decide) rfl
      refine x_tableIn (off := 68) (tgt := 75) X dX1_meaningAt_7 (by rw [g7]; decide) (by rw [g7]; decide) (by rw [g7]; rfl) (by decide) ?_
      refine x_iload_n X dX1_meaningAt_75 rfl ?_
      refine x_iconst (v := 1) X dX1_meaningAt_76 (by decide) ?_
      refine x_icmpne (tgt := 84) X dX1_meaningAt_77 (by decide) (fun h77 => ?_) (fun h77 => ?_)
      · skip
        refine x_iload_n X dX1_meaningAt_84 rfl ?_
        refine x_iconst (v := 1) X dX1_meaningAt_85 (by decide) ?_
        refine x_iand X dX1_meaningAt_86 ?_
        refine x_ifne (tgt := 95) X dX1_meaningAt_87 (by decide) (fun h87 => ?_) (fun h87 => ?_)
        · skip
          refine x_bipush (v := 7) X dX1_meaningAt_95 (by decide) ?_
          exact x_iret X dX1_meaningAt_97 (xp_i (by simp [dMean, *]) (by first | rfl | simp [*]))
        · skip
          refine x_bipush (v := 6) X dX1_meaningAt_90 (by decide) ?_
          refine x_goto (tgt := 97) X dX1_meaningAt_92 (by decide) ?_
          exact x_iret X dX1_meaningAt_97 (xp_i (by simp [dMean, *]) (by first | rfl | simp [*]))
      · skip
        refine x_iconst (v := 5) X dX1_meaningAt_80 (by decide) ?_
        refine x_goto (tgt := 97) X dX1_meaningAt_81 (by decide) ?_
        exact x_iret X dX1_meaningAt_97 (xp_i (by simp [dMean, *]) (by first | rfl | simp [*]))
    · skip
      obtain ⟨k2, hk2⟩ : ∃ z : Int32, z = k := ⟨_, rfl⟩
      have hk3 : k = 5 := xi_of g7 (show (5 : Int32).toInt = 5 by decide) rfl
      refine x_tableIn (off := 91) (tgt := 98) X dX1_meaningAt_7 (by rw [g7]; decide) (by rw [g7]; decide) (by rw [g7]; rfl) (by decide) ?_
      refine x_iload_n X dX1_meaningAt_98 rfl ?_
      refine x_iconst (v := 1) X dX1_meaningAt_99 (by decide) ?_
      refine x_icmpne (tgt := 108) X dX1_meaningAt_100 (by decide) (fun h100 => ?_) (fun h100 => ?_)
      · skip
        refine x_bipush (v := 8) X dX1_meaningAt_108 (by decide) ?_
        exact x_iret X dX1_meaningAt_110 (xp_i (by simp [dMean, *]) (by first | rfl | simp [*]))
      · skip
        refine x_bipush (v := 6) X dX1_meaningAt_103 (by decide) ?_
        refine x_goto (tgt := 110) X dX1_meaningAt_105 (by decide) ?_
        exact x_iret X dX1_meaningAt_110 (xp_i (by simp [dMean, *]) (by first | rfl | simp [*]))
    · skip
      obtain ⟨k2, hk2⟩ : ∃ z : Int32, z = k := ⟨_, rfl⟩
      have hk3 : k = 6 := xi_of g7 (show (6 : Int32).toInt = 6 by decide) rfl
      refine x_tableIn (off := 104) (tgt := 111) X dX1_meaningAt_7 (by rw [g7]; decide) (by rw [g7]; decide) (by rw [g7]; rfl) (by decide) ?_
      refine x_iload_n X dX1_meaningAt_111 rfl ?_
      refine x_iconst (v := 1) X dX1_meaningAt_112 (by decide) ?_
      refine x_icmpne (tgt := 120) X dX1_meaningAt_113 (by decide) (fun h113 => ?_) (fun h113 => ?_)
      · skip
        refine x_iload_n X dX1_meaningAt_120 rfl ?_
        refine x_iconst (v := 2) X dX1_meaningAt_121 (by decide) ?_
        refine x_icmpne (tgt := 130) X dX1_meaningAt_122 (by decide) (fun h122 => ?_) (fun h122 => ?_)
        · skip
          refine x_bipush (v := 10) X dX1_meaningAt_130 (by decide) ?_
          exact x_iret X dX1_meaningAt_132 (xp_i (by simp [dMean, *]) (by first | rfl | simp [*]))
        · skip
          refine x_bipush (v := 9) X dX1_meaningAt_125 (by decide) ?_
          refine x_goto (tgt := 132) X dX1_meaningAt_127 (by decide) ?_
          exact x_iret X dX1_meaningAt_132 (xp_i (by simp [dMean, *]) (by first | rfl | simp [*]))
      · skip
        refine x_iconst (v := 2) X dX1_meaningAt_116 (by decide) ?_
        refine x_goto (tgt := 132) X dX1_meaningAt_117 (by decide) ?_
        exact x_iret X dX1_meaningAt_132 (xp_i (by simp [dMean, *]) (by first | rfl | simp [*]))
    · skip
      obtain ⟨k2, hk2⟩ : ∃ z : Int32, z = k := ⟨_, rfl⟩
      have hk3 : k = 7 := xi_of g7 (show (7 : Int32).toInt = 7 by decide) rfl
      refine x_tableIn (off := 126) (tgt := 133) X dX1_meaningAt_7 (by rw [g7]; decide) (by rw [g7]; decide) (by rw [g7]; rfl) (by decide) ?_
      refine x_bipush (v := 6) X dX1_meaningAt_133 (by decide) ?_
      exact x_iret X dX1_meaningAt_135 (xp_i (by simp [dMean, *]) (by first | rfl | simp [*]))
    · skip
      obtain ⟨k2, hk2⟩ : ∃ z : Int32, z = k := ⟨_, rfl⟩
      have hk3 : k = 8 := xi_of g7 (show (8 : Int32).toInt = 8 by decide) rfl
      refine x_tableIn (off := 129) (tgt := 136) X dX1_meaningAt_7 (by rw [g7]; decide) (by rw [g7]; decide) (by rw [g7]; rfl) (by decide) ?_
      refine x_bipush (v := 11) X dX1_meaningAt_136 (by decide) ?_
      exact x_iret X dX1_meaningAt_138 (xp_i (by simp [dMean, *]) (by first | rfl | simp [*]))
    · skip
      obtain ⟨k2, hk2⟩ : ∃ z : Int32, z = k := ⟨_, rfl⟩
      have hk3 : k = 9 := xi_of g7 (show (9 : Int32).toInt = 9 by decide) rfl
      refine x_tableIn (off := 132) (tgt := 139) X dX1_meaningAt_7 (by rw [g7]; decide) (by rw [g7]; decide) (by rw [g7]; rfl) (by decide) ?_
      refine x_iload_n X dX1_meaningAt_139 rfl ?_
      refine x_iconst (v := 1) X dX1_meaningAt_140 (by decide) ?_
      refine x_icmpne (tgt := 149) X dX1_meaningAt_141 (by decide) (fun h141 => ?_) (fun h141 => ?_)
      · skip
        refine x_iconst (v := 2) X dX1_meaningAt_149 (by decide) ?_
        exact x_iret X dX1_meaningAt_150 (xp_i (by simp [dMean, *]) (by first | rfl | simp [*]))
      · skip
        refine x_bipush (v := 6) X dX1_meaningAt_144 (by decide) ?_
        refine x_goto (tgt := 150) X dX1_meaningAt_146 (by decide) ?_
        exact x_iret X dX1_meaningAt_150 (xp_i (by simp [dMean, *]) (by first | rfl | simp [*]))
  · skip
    refine x_iconst (v := 0) X dX1_meaningAt_4 (by decide) ?_
    exact x_iret X dX1_meaningAt_5 (xp_i (by simp [dMean, *]) (by first | rfl | simp [*]))

set_option maxHeartbeats 4000000 in
set_option maxRecDepth 100000 in
theorem c_X1_wholeLength {l : Launch} {G : xG} {σ : xS} {q k : Nat} (hq : xgI σ 12 0 = nI q) (hq9 : q < 10) (hk : q = 4 → xgI σ 12 1 = nI k) : xFi l G yX1_wholeLength cX1_wholeLength 1 (Option.some Jvm.ClassFile.FieldType.int) 0 0 [.ref (G.2.1 11)] σ (nI (dL q k)) (σ) := by
  refine xM.of (by decide) (Nat.le_of_ble_eq_true rfl) (fun pp ee ss mm aa bel met kk X => ?_)
  have X : xC pp ss mm met kk cX1_wholeLength 1 RX1 (Option.some Jvm.ClassFile.FieldType.int) G := X
  show xW pp l ee { frames := 0, cells := 0, slots := 0, locals := 0 } ss mm aa bel met kk 1 G 0 0 (xQ bel G (fun r t => r = some (.int (nI (dL q k))) ∧ t = (σ)) aa ss) 0 [(0, .ref (G.2.1 11))] [] σ
  refine x_aload_n X dX1_wholeLength_0 rfl ?_
  refine gf_X1_9 (k' := 12) X dX1_wholeLength_1 rfl rfl ?_
  refine x_iconst (v := 0) X dX1_wholeLength_4 (by decide) ?_
  refine x_ialdN (i := 0) X dX1_wholeLength_5 rfl (by omega) (by omega) ?_
  rw [hq]
  by_cases h6 : q < 3 ∨ 9 < q
  · skip
    refine x_tableOut (tgt := 65) X dX1_wholeLength_6 (by rw [nI_toInt (by omega)]; omega) (by decide) ?_
    refine x_iconst (v := 2) X dX1_wholeLength_65 (by decide) ?_
    exact x_iret X dX1_wholeLength_66 (xp_i (by first | (subst g6; rfl) | (subst g6; show 2 + 2 * nI k = nI (2 + 2 * k); rw [← nI_add, ← pk_mul]; rfl) | (rw [dL_2 h6]; rfl)) (by first | rfl | simp [*]))
  rcases (show q = 3 ∨ q = 4 ∨ q = 5 ∨ q = 6 ∨ q = 7 ∨ q = 8 ∨ q = 9 by omega) with g6 | g6 | g6 | g6 | g6 | g6 | g6
  · skip
    refine x_tableIn (off := 53) (tgt := 59) X dX1_wholeLength_6 (by rw [nI_toInt (by omega)]; omega) (by rw [nI_toInt (by omega)]; omega) (by rw [nI_toInt (by omega), g6]; rfl) (by decide) ?_
    refine x_iconst (v := 4) X dX1_wholeLength_59 (by decide) ?_
    exact x_iret X dX1_wholeLength_60 (xp_i (by first | (subst g6; rfl) | (subst g6; show 2 + 2 * nI k = nI (2 + 2 * k); rw [← nI_add, ← pk_mul]; rfl) | (rw [dL_2 h6]; rfl)) (by first | rfl | simp [*]))
  · skip
    refine x_tableIn (off := 42) (tgt := 48) X dX1_wholeLength_6 (by rw [nI_toInt (by omega)]; omega) (by rw [nI_toInt (by omega)]; omega) (by rw [nI_toInt (by omega), g6]; rfl) (by decide) ?_
    refine x_iconst (v := 2) X dX1_wholeLength_48 (by decide) ?_
    refine x_iconst (v := 2) X dX1_wholeLength_49 (by decide) ?_
    refine x_aload_n X dX1_wholeLength_50 rfl ?_
    refine gf_X1_9 (k' := 12) X dX1_wholeLength_51 rfl rfl ?_
    refine x_iconst (v := 1) X dX1_wholeLength_54 (by decide) ?_
    refine x_ialdN (i := 1) X dX1_wholeLength_55 rfl (by omega) (by omega) ?_
    rw [hk g6]
    refine x_imul X dX1_wholeLength_56 ?_
    refine x_iadd X dX1_wholeLength_57 ?_
    exact x_iret X dX1_wholeLength_58 (xp_i (by first | (subst g6; rfl) | (subst g6; show 2 + 2 * nI k = nI (2 + 2 * k); rw [← nI_add, ← pk_mul]; rfl) | (rw [dL_2 h6]; rfl)) (by first | rfl | simp [*]))
  · skip
    refine x_tableIn (off := 55) (tgt := 61) X dX1_wholeLength_6 (by rw [nI_toInt (by omega)]; omega) (by rw [nI_toInt (by omega)]; omega) (by rw [nI_toInt (by omega), g6]; rfl) (by decide) ?_
    refine x_iconst (v := 3) X dX1_wholeLength_61 (by decide) ?_
    exact x_iret X dX1_wholeLength_62 (xp_i (by first | (subst g6; rfl) | (subst g6; show 2 + 2 * nI k = nI (2 + 2 * k); rw [← nI_add, ← pk_mul]; rfl) | (rw [dL_2 h6]; rfl)) (by first | rfl | simp [*]))
  · skip
    refine x_tableIn (off := 53) (tgt := 59) X dX1_wholeLength_6 (by rw [nI_toInt (by omega)]; omega) (by rw [nI_toInt (by omega)]; omega) (by rw [nI_toInt (by omega), g6]; rfl) (by decide) ?_
    refine x_iconst (v := 4) X dX1_wholeLength_59 (by decide) ?_
    exact x_iret X dX1_wholeLength_60 (xp_i (by first | (subst g6; rfl) | (subst g6; show 2 + 2 * nI k = nI (2 + 2 * k); rw [← nI_add, ← pk_mul]; rfl) | (rw [dL_2 h6]; rfl)) (by first | rfl | simp [*]))
  · skip
    refine x_tableIn (off := 57) (tgt := 63) X dX1_wholeLength_6 (by rw [nI_toInt (by omega)]; omega) (by rw [nI_toInt (by omega)]; omega) (by rw [nI_toInt (by omega), g6]; rfl) (by decide) ?_
    refine x_iconst (v := 5) X dX1_wholeLength_63 (by decide) ?_
    exact x_iret X dX1_wholeLength_64 (xp_i (by first | (subst g6; rfl) | (subst g6; show 2 + 2 * nI k = nI (2 + 2 * k); rw [← nI_add, ← pk_mul]; rfl) | (rw [dL_2 h6]; rfl)) (by first | rfl | simp [*]))
  · skip
    refine x_tableIn (off := 59) (tgt := 65) X dX1_wholeLength_6 (by rw [nI_toInt (by omega)]; omega) (by rw [nI_toInt (by omega)]; omega) (by rw [nI_toInt (by omega), g6]; rfl) (by decide) ?_
    refine x_iconst (v := 2) X dX1_wholeLength_65 (by decide) ?_
    exact x_iret X dX1_wholeLength_66 (xp_i (by first | (subst g6; rfl) | (subst g6; show 2 + 2 * nI k = nI (2 + 2 * k); rw [← nI_add, ← pk_mul]; rfl) | (rw [dL_2 h6]; rfl)) (by first | rfl | simp [*]))
  · skip
    refine x_tableIn (off := 55) (tgt := 61) X dX1_wholeLength_6 (by rw [nI_toInt (by omega)]; omega) (by rw [nI_toInt (by omega)]; omega) (by rw [nI_toInt (by omega), g6]; rfl) (by decide) ?_
    refine x_iconst (v := 3) X dX1_wholeLength_61 (by decide) ?_
    exact x_iret X dX1_wholeLength_62 (xp_i (by first | (subst g6; rfl) | (subst g6; show 2 + 2 * nI k = nI (2 + 2 * k); rw [← nI_add, ← pk_mul]; rfl) | (rw [dL_2 h6]; rfl)) (by first | rfl | simp [*]))

set_option maxHeartbeats 4000000 in
set_option maxRecDepth 100000 in
theorem c_X1_isWhole {l : Launch} {G : xG} {σ : xS} {q k n : Nat} (hn : xgI σ 11 1 = nI n) (hn2 : n < 100) (hq : 2 ≤ n → xgI σ 12 0 = nI q ∧ q < 10) (hk : 2 ≤ n → q = 4 → xgI σ 12 1 = nI k ∧ k ≤ 4) : xFi l G yX1_isWhole cX1_isWhole 1 (Option.some Jvm.ClassFile.FieldType.boolean) 1 20 [.ref (G.2.1 11)] σ (xB (2 ≤ n ∧ dL q k ≤ n)) (σ) := by
  refine xM.of (by decide) (Nat.le_of_ble_eq_true rfl) (fun pp ee ss mm aa bel met kk X => ?_)
  have X : xC pp ss mm met kk cX1_isWhole 1 RX1 (Option.some Jvm.ClassFile.FieldType.boolean) G := X
  show xW pp l ee { frames := 1, cells := 0, slots := 0, locals := 20 } ss mm aa bel met kk 1 G 0 0 (xQ bel G (fun r t => r = some (.int (xB (2 ≤ n ∧ dL q k ≤ n))) ∧ t = (σ)) aa ss) 0 [(0, .ref (G.2.1 11))] [] σ
  refine x_aload_n X dX1_isWhole_0 rfl ?_
  refine gf_X1_15 X dX1_isWhole_1 rfl ?_
  rw [hn]
  refine x_iconst (v := 2) X dX1_isWhole_4 (by decide) ?_
  refine x_icmplt (tgt := 23) X dX1_isWhole_5 (by decide) (fun h5 => ?_) (fun h5 => ?_)
  · skip
    rw [xb_lt (x := nI n) (y := 2) (a := n) (b := 2) rfl rfl (by omega) (by omega)] at h5
    refine x_iconst (v := 0) X dX1_isWhole_23 (by decide) ?_
    exact x_zret X dX1_isWhole_24 (Or.inl rfl) (xp_i (by first | exact (xB_t (by omega)).symm | exact (xB_f (by omega)).symm) (by first | rfl | simp [*]))
  · skip
    rw [xb_lt (x := nI n) (y := 2) (a := n) (b := 2) rfl rfl (by omega) (by omega)] at h5
    refine x_aload_n X dX1_isWhole_8 rfl ?_
    refine gf_X1_15 X dX1_isWhole_9 rfl ?_
    rw [hn]
    refine x_aload_n X dX1_isWhole_12 rfl ?_
    refine cv_X1_19 X (c_X1_wholeLength (hq (by omega)).1 (hq (by omega)).2 (fun z => (hk (by omega) z).1)) dX1_isWhole_13 rfl ⟨by decide, by decide, by decide, by decide⟩ rfl rfl (Nat.le_of_ble_eq_true rfl) (xk_i ?_)
    have hdl := dL_b (q := q) (k := k) (fun z => (hk (by omega) z).2)
    refine x_icmplt (tgt := 23) X dX1_isWhole_16 (by decide) (fun h16 => ?_) (fun h16 => ?_)
    · skip
      rw [xb_lt (x := nI n) (y := nI (dL q k)) (a := n) (b := (dL q k)) rfl rfl (by omega) (by omega)] at h16
      refine x_iconst (v := 0) X dX1_isWhole_23 (by decide) ?_
      exact x_zret X dX1_isWhole_24 (Or.inl rfl) (xp_i (by first | exact (xB_t (by omega)).symm | exact (xB_f (by omega)).symm) (by first | rfl | simp [*]))
    · skip
      rw [xb_lt (x := nI n) (y := nI (dL q k)) (a := n) (b := (dL q k)) rfl rfl (by omega) (by omega)] at h16
      refine x_iconst (v := 1) X dX1_isWhole_19 (by decide) ?_
      refine x_goto (tgt := 24) X dX1_isWhole_20 (by decide) ?_
      exact x_zret X dX1_isWhole_24 (Or.inr rfl) (xp_i (by first | exact (xB_t (by omega)).symm | exact (xB_f (by omega)).symm) (by first | rfl | simp [*]))

set_option maxHeartbeats 4000000 in
set_option maxRecDepth 100000 in
theorem c_X1_add {l : Launch} {G : xG} {σ : xS} {n : Nat} {x : Int32} (hn : xgI σ 11 1 = nI n) (hn2 : n < 10) : xFv l G yX1_add cX1_add 2 (Option.none : Option Jvm.ClassFile.FieldType) 0 0 [.ref (G.2.1 11), .int x] σ (xsI (xsI σ 12 n x) 11 1 (nI (n + 1))) := by
  refine xM.of (by decide) (Nat.le_of_ble_eq_true rfl) (fun pp ee ss mm aa bel met kk X => ?_)
  have X : xC pp ss mm met kk cX1_add 2 RX1 (Option.none : Option Jvm.ClassFile.FieldType) G := X
  show xW pp l ee { frames := 0, cells := 0, slots := 0, locals := 0 } ss mm aa bel met kk 2 G 0 0 (xQ bel G (fun r t => r = none ∧ t = (xsI (xsI σ 12 n x) 11 1 (nI (n + 1)))) aa ss) 0 [(0, .ref (G.2.1 11)), (1, .int x)] [] σ
  refine x_aload_n X dX1_add_0 rfl ?_
  refine gf_X1_15 X dX1_add_1 rfl ?_
  rw [hn]
  refine x_iflt (tgt := 39) X dX1_add_4 (by decide) (fun h4 => ?_) (fun h4 => ?_)
  · skip
    rw [xb_lt (x := nI n) (y := 0) (a := n) (b := 0) rfl rfl (by omega) (by omega)] at h4
    omega
  · skip
    rw [xb_lt (x := nI n) (y := 0) (a := n) (b := 0) rfl rfl (by omega) (by omega)] at h4
    refine x_aload_n X dX1_add_7 rfl ?_
    refine gf_X1_15 X dX1_add_8 rfl ?_
    rw [hn]
    refine x_aload_n X dX1_add_11 rfl ?_
    refine gf_X1_9 (k' := 12) X dX1_add_12 rfl rfl ?_
    refine x_ilen (v := 10) X dX1_add_15 rfl (by decide) ?_
    refine x_icmpge (tgt := 39) X dX1_add_16 (by decide) (fun h16 => ?_) (fun h16 => ?_)
    · skip
      rw [xb_ge (x := nI n) (y := 10) (a := n) (b := 10) rfl rfl (by omega) (by omega)] at h16
      omega
    · skip
      rw [xb_ge (x := nI n) (y := 10) (a := n) (b := 10) rfl rfl (by omega) (by omega)] at h16
      refine x_aload_n X dX1_add_19 rfl ?_
      refine gf_X1_9 (k' := 12) X dX1_add_20 rfl rfl ?_
      refine x_aload_n X dX1_add_23 rfl ?_
      refine gf_X1_15 X dX1_add_24 rfl ?_
      rw [hn]
      refine x_iload_n X dX1_add_27 rfl ?_
      refine x_iastN X dX1_add_28 rfl (by omega) (by omega) ?_
      refine x_aload_n X dX1_add_29 rfl ?_
      refine x_dup X dX1_add_30 rfl ?_
      refine gf_X1_15 X dX1_add_31 rfl ?_
      rw [xgI_n (by omega), hn]
      refine x_iconst (v := 1) X dX1_add_34 (by decide) ?_
      refine x_iadd X dX1_add_35 ?_
      rw [nI_1]
      refine pf_X1_15 X dX1_add_36 rfl ?_
      exact x_vret X dX1_add_39 (⟨rfl, by first | rfl | simp [*]⟩)

set_option maxHeartbeats 4000000 in
set_option maxRecDepth 100000 in
theorem c_X1_faultBeyond {l : Launch} {G : xG} {σ : xS} {x a b : Int32} : xFi l G yX1_faultBeyond cX1_faultBeyond 3 (Option.some Jvm.ClassFile.FieldType.int) 1 22 [.int x, .int a, .int b] σ (dBey x a b) (σ) := by
  refine xM.of (by decide) (Nat.le_of_ble_eq_true rfl) (fun pp ee ss mm aa bel met kk X => ?_)
  have X : xC pp ss mm met kk cX1_faultBeyond 3 RX1 (Option.some Jvm.ClassFile.FieldType.int) G := X
  show xW pp l ee { frames := 1, cells := 0, slots := 0, locals := 22 } ss mm aa bel met kk 3 G 0 0 (xQ bel G (fun r t => r = some (.int (dBey x a b)) ∧ t = (σ)) aa ss) 0 [(0, .int x), (1, .int a), (2, .int b)] [] σ
  refine x_iload_n X dX1_faultBeyond_0 rfl ?_
  refine x_iload_n X dX1_faultBeyond_1 rfl ?_
  refine x_iload_n X dX1_faultBeyond_2 rfl ?_
  refine cs_X1_56 X c_X3_isWithin dX1_faultBeyond_3 ⟨by decide, by decide, by decide, by decide⟩ rfl rfl (Nat.le_of_ble_eq_true rfl) (xk_i ?_)
  refine x_ifeq (tgt := 13) X dX1_faultBeyond_6 (by decide) (fun h6 => ?_) (fun h6 => ?_)
  · skip
    refine x_iconst (v := 3) X dX1_faultBeyond_13 (by decide) ?_
    exact x_iret X dX1_faultBeyond_14 (xp_i (by simp [dBey, *]) (by first | rfl | simp [*]))
  · skip
    refine x_iconst (v := 0) X dX1_faultBeyond_9 (by decide) ?_
    refine x_goto (tgt := 14) X dX1_faultBeyond_10 (by decide) ?_
    exact x_iret X dX1_faultBeyond_14 (xp_i (by simp [dBey, *]) (by first | rfl | simp [*]))

set_option maxHeartbeats 4000000 in
set_option maxRecDepth 100000 in
theorem c_X1_faultOfKind {l : Launch} {G : xG} {σ : xS} {x : Int32} {nr nb : Nat} (hr : nr ≤ 200) (hc : xgI σ 8 3 = nI nr) (hb : nb ≤ 60) (hd : xgI σ 8 4 = nI nb) : xFi l G yX1_faultOfKind cX1_faultOfKind 2 (Option.some Jvm.ClassFile.FieldType.int) 1 22 [.int x, .ref (G.2.1 8)] σ (dKind x nr nb) (σ) := by
  refine xM.of (by decide) (Nat.le_of_ble_eq_true rfl) (fun pp ee ss mm aa bel met kk X => ?_)
  have X : xC pp ss mm met kk cX1_faultOfKind 2 RX1 (Option.some Jvm.ClassFile.FieldType.int) G := X
  show xW pp l ee { frames := 1, cells := 0, slots := 0, locals := 22 } ss mm aa bel met kk 2 G 0 0 (xQ bel G (fun r t => r = some (.int (dKind x nr nb)) ∧ t = (σ)) aa ss) 0 [(0, .int x), (1, .ref (G.2.1 8))] [] σ
  refine x_iload_n X dX1_faultOfKind_0 rfl ?_
  refine x_iconst (v := 0) X dX1_faultOfKind_1 (by decide) ?_
  refine x_bipush (v := 9) X dX1_faultOfKind_2 (by decide) ?_
  refine cs_X1_56 X c_X3_isWithin dX1_faultOfKind_4 ⟨by decide, by decide, by decide, by decide⟩ rfl rfl (Nat.le_of_ble_eq_true rfl) (xk_i ?_)
  refine x_ifne (tgt := 12) X dX1_faultOfKind_7 (by decide) (fun h7 => ?_) (fun h7 => ?_)
  · skip
    refine x_aload_n X dX1_faultOfKind_12 rfl ?_
    refine cv_X1_62 X (c_X6_areFull hr hc) dX1_faultOfKind_13 rfl ⟨by decide, by decide, by decide, by decide⟩ rfl rfl (Nat.le_of_ble_eq_true rfl) (xk_i ?_)
    refine x_ifne (tgt := 32) X dX1_faultOfKind_16 (by decide) (fun h16 => ?_) (fun h16 => ?_)
    · skip
      have h16b : nr = 200 := Classical.not_not.mp (fun z => h16 (xB_f z))
      refine x_bipush (v := 9) X dX1_faultOfKind_32 (by decide) ?_
      exact x_iret X dX1_faultOfKind_34 (xp_i (by first | exact (dKind_1 h7).symm | exact (dKind_2 h7 h16b).symm | exact (dKind_3 h7 h16b h22 h29b).symm | exact (dKind_4 h7 h16b h29b).symm | exact (dKind_5 h7 h16b h22).symm) (by first | rfl | simp [*]))
    · skip
      have h16b := xB_0.mp h16
      refine x_iload_n X dX1_faultOfKind_19 rfl ?_
      refine x_bipush (v := 6) X dX1_faultOfKind_20 (by decide) ?_
      refine x_icmpne (tgt := 35) X dX1_faultOfKind_22 (by decide) (fun h22 => ?_) (fun h22 => ?_)
      · skip
        refine x_iconst (v := 0) X dX1_faultOfKind_35 (by decide) ?_
        exact x_iret X dX1_faultOfKind_36 (xp_i (by first | exact (dKind_1 h7).symm | exact (dKind_2 h7 h16b).symm | exact (dKind_3 h7 h16b h22 h29b).symm | exact (dKind_4 h7 h16b h29b).symm | exact (dKind_5 h7 h16b h22).symm) (by first | rfl | simp [*]))
      · skip
        refine x_aload_n X dX1_faultOfKind_25 rfl ?_
        refine cv_X1_66 X (c_X6_areBranchesFull hb hd) dX1_faultOfKind_26 rfl ⟨by decide, by decide, by decide, by decide⟩ rfl rfl (Nat.le_of_ble_eq_true rfl) (xk_i ?_)
        refine x_ifeq (tgt := 35) X dX1_faultOfKind_29 (by decide) (fun h29 => ?_) (fun h29 => ?_)
        · skip
          have h29b := xB_0.mp h29
          refine x_iconst (v := 0) X dX1_faultOfKind_35 (by decide) ?_
          exact x_iret X dX1_faultOfKind_36 (xp_i (by first | exact (dKind_1 h7).symm | exact (dKind_2 h7 h16b).symm | exact (dKind_3 h7 h16b h22 h29b).symm | exact (dKind_4 h7 h16b h29b).symm | exact (dKind_5 h7 h16b h22).symm) (by first | rfl | simp [*]))
        · skip
          have h29b : nb = 60 := Classical.not_not.mp (fun z => h29 (xB_f z))
          refine x_bipush (v := 9) X dX1_faultOfKind_32 (by decide) ?_
          exact x_iret X dX1_faultOfKind_34 (xp_i (by first | exact (dKind_1 h7).symm | exact (dKind_2 h7 h16b).symm | exact (dKind_3 h7 h16b h22 h29b).symm | exact (dKind_4 h7 h16b h29b).symm | exact (dKind_5 h7 h16b h22).symm) (by first | rfl | simp [*]))
  · skip
    refine x_iconst (v := 2) X dX1_faultOfKind_10 (by decide) ?_
    exact x_iret X dX1_faultOfKind_11 (xp_i (by first | exact (dKind_1 h7).symm | exact (dKind_2 h7 h16b).symm | exact (dKind_3 h7 h16b h22 h29b).symm | exact (dKind_4 h7 h16b h29b).symm | exact (dKind_5 h7 h16b h22).symm) (by first | rfl | simp [*]))

set_option maxHeartbeats 4000000 in
set_option maxRecDepth 100000 in
theorem c_X1_isGoodPlan {l : Launch} {G : xG} {σ : xS} {x : Int32} {c np N M : Nat} (hm : xMod c) (hN : xgI σ c 1 = nI N) (hN2 : N ≤ 20) (hM : xgI σ c 2 = nI M) (hM2 : M ≤ 4) (hT : ∀ t, t < M → ∃ P, P ≤ 20 ∧ xgI σ (c + 8) t = nI P) (hp : np ≤ 8) (hc : xgI σ 3 2 = nI np) : xFi l G yX1_isGoodPlan cX1_isGoodPlan 3 (Option.some Jvm.ClassFile.FieldType.boolean) 2 46 [.int x, .ref (G.2.1 c), .ref (G.2.1 3)] σ (xB (dGood σ c np N M x)) (σ) := by
  refine xM.of (by decide) (Nat.le_of_ble_eq_true rfl) (fun pp ee ss mm aa bel met kk X => ?_)
  have X : xC pp ss mm met kk cX1_isGoodPlan 3 RX1 (Option.some Jvm.ClassFile.FieldType.boolean) G := X
  show xW pp l ee { frames := 2, cells := 0, slots := 0, locals := 46 } ss mm aa bel met kk 3 G 0 0 (xQ bel G (fun r t => r = some (.int (xB (dGood σ c np N M x))) ∧ t = (σ)) aa ss) 0 [(0, .int x), (1, .ref (G.2.1 c)), (2, .ref (G.2.1 3))] [] σ
  refine x_aload_n X dX1_isGoodPlan_0 rfl ?_
  refine x_iload_n X dX1_isGoodPlan_1 rfl ?_
  refine cv_X1_69 X (c_X4_has hp hc) dX1_isGoodPlan_2 rfl ⟨by decide, by decide, by decide, by decide⟩ rfl rfl (Nat.le_of_ble_eq_true rfl) (xk_i ?_)
  refine x_ifeq (tgt := 25) X dX1_isGoodPlan_5 (by decide) (fun h5 => ?_) (fun h5 => ?_)
  · skip
    have h5b := xB_0.mp h5
    refine x_iconst (v := 0) X dX1_isGoodPlan_25 (by decide) ?_
    exact x_zret X dX1_isGoodPlan_26 (Or.inl rfl) (xp_i (by first | exact (xB_t ⟨j, hj, rfl, h18⟩).symm | exact (xB_f (fun z => h18 ((dGood_n hj hp).mp z))).symm | exact (xB_f (fun z => by obtain ⟨j2, a1, a2, a3⟩ := z; exact h5b ⟨j2, a1, a2⟩)).symm) (by first | rfl | simp [*]))
  · skip
    obtain ⟨j, hj, ej⟩ := Classical.not_not.mp (fun z => h5 (xB_f z))
    refine x_aload_n X dX1_isGoodPlan_8 rfl ?_
    refine x_aload_n X dX1_isGoodPlan_9 rfl ?_
    refine x_iload_n X dX1_isGoodPlan_10 rfl ?_
    rw [ej]
    refine cv_X1_72 X (c_X4_at hp hc hj) dX1_isGoodPlan_11 rfl ⟨by decide, by decide, by decide, by decide⟩ rfl rfl (Nat.le_of_ble_eq_true rfl) (xk_r ?_)
    refine cv_X1_76 X (c_X2_firstBroken hm (xck_pln (i := j) (by omega)) hN hN2 hM hM2 hT) dX1_isGoodPlan_14 (xk0 hm) ⟨by decide, by decide, by decide, by decide⟩ rfl rfl (Nat.le_of_ble_eq_true rfl) (xk_i ?_)
    refine x_iconst (v := (-1)) X dX1_isGoodPlan_17 (by decide) ?_
    refine x_icmpne (tgt := 25) X dX1_isGoodPlan_18 (by decide) (fun h18 => ?_) (fun h18 => ?_)
    · skip
      refine x_iconst (v := 0) X dX1_isGoodPlan_25 (by decide) ?_
      exact x_zret X dX1_isGoodPlan_26 (Or.inl rfl) (xp_i (by first | exact (xB_t ⟨j, hj, rfl, h18⟩).symm | exact (xB_f (fun z => h18 ((dGood_n hj hp).mp z))).symm | exact (xB_f (fun z => by obtain ⟨j2, a1, a2, a3⟩ := z; exact h5b ⟨j2, a1, a2⟩)).symm) (by first | rfl | simp [*]))
    · skip
      refine x_iconst (v := 1) X dX1_isGoodPlan_21 (by decide) ?_
      refine x_goto (tgt := 26) X dX1_isGoodPlan_22 (by decide) ?_
      exact x_zret X dX1_isGoodPlan_26 (Or.inr rfl) (xp_i (by first | exact (xB_t ⟨j, hj, rfl, h18⟩).symm | exact (xB_f (fun z => h18 ((dGood_n hj hp).mp z))).symm | exact (xB_f (fun z => by obtain ⟨j2, a1, a2, a3⟩ := z; exact h5b ⟨j2, a1, a2⟩)).symm) (by first | rfl | simp [*]))

set_option maxHeartbeats 4000000 in
set_option maxRecDepth 100000 in
theorem c_X1_faultOf {l : Launch} {G : xG} {σ : xS} {x : Int32} {c nr nb np V N M n q : Nat} (hm : xMod c) (hV : xgI σ c 0 = nI V) (hV8 : V ≤ 8) (hN : xgI σ c 1 = nI N) (hN2 : N ≤ 20) (hM : xgI σ c 2 = nI M) (hM2 : M ≤ 4) (hT : ∀ t, t < M → ∃ P, P ≤ 20 ∧ xgI σ (c + 8) t = nI P) (hp : np ≤ 8) (hc : xgI σ 3 2 = nI np) (hr : nr ≤ 200) (hrc : xgI σ 8 3 = nI nr) (hb : nb ≤ 60) (hd : xgI σ 8 4 = nI nb) (hn : xgI σ 11 1 = nI n) (hq : nI n = 0 ∨ ∃ z : Nat, z < 10 ∧ xgI σ 12 0 = nI z) : xFi l G yX1_faultOf cX1_faultOf 5 (Option.some Jvm.ClassFile.FieldType.int) 3 68 [.ref (G.2.1 11), .int x, .ref (G.2.1 8), .ref (G.2.1 c), .ref (G.2.1 3)] σ (dFlt σ c nr nb np V N M (dMean (xgI σ 12 0) (nI n)) x) (σ) := by
  refine xM.of (by decide) (Nat.le_of_ble_eq_true rfl) (fun pp ee ss mm aa bel met kk X => ?_)
  have X : xC pp ss mm met kk cX1_faultOf 5 RX1 (Option.some Jvm.ClassFile.FieldType.int) G := X
  show xW pp l ee { frames := 3, cells := 0, slots := 0, locals := 68 } ss mm aa bel met kk 5 G 0 0 (xQ bel G (fun r t => r = some (.int (dFlt σ c nr nb np V N M (dMean (xgI σ 12 0) (nI n)) x)) ∧ t = (σ)) aa ss) 0 [(0, .ref (G.2.1 11)), (1, .int x), (2, .ref (G.2.1 8)), (3, .ref (G.2.1 c)), (4, .ref (G.2.1 3))] [] σ
  refine x_aload_n X dX1_faultOf_0 rfl ?_
  refine gf_X1_9 (k' := 12) X dX1_faultOf_1 rfl rfl ?_
  refine x_iconst (v := 0) X dX1_faultOf_4 (by decide) ?_
  refine x_ialdN (i := 0) X dX1_faultOf_5 rfl (by omega) (by omega) ?_
  refine x_aload_n X dX1_faultOf_6 rfl ?_
  refine gf_X1_15 X dX1_faultOf_7 rfl ?_
  rw [hn]
  refine cs_X1_23 X (c_X1_meaningAt hq) dX1_faultOf_10 ⟨by decide, by decide, by decide, by decide⟩ rfl rfl (Nat.le_of_ble_eq_true rfl) (xk_i ?_)
  obtain ⟨j, hj, ej⟩ := dMean_b hq
  rw [ej]
  by_cases h13 : j < 0 ∨ 11 < j
  · skip
    omega
  rcases (show j = 0 ∨ j = 1 ∨ j = 2 ∨ j = 3 ∨ j = 4 ∨ j = 5 ∨ j = 6 ∨ j = 7 ∨ j = 8 ∨ j = 9 ∨ j = 10 ∨ j = 11 by omega) with g13 | g13 | g13 | g13 | g13 | g13 | g13 | g13 | g13 | g13 | g13 | g13
  · skip
    refine x_tableIn (off := 63) (tgt := 76) X dX1_faultOf_13 (by rw [nI_toInt (by omega)]; omega) (by rw [nI_toInt (by omega)]; omega) (by rw [nI_toInt (by omega), g13]; rfl) (by decide) ?_
    refine x_iload_n X dX1_faultOf_76 rfl ?_
    refine x_aload_n X dX1_faultOf_77 rfl ?_
    refine cs_X1_27 X (c_X1_faultOfKind hr hrc hb hd) dX1_faultOf_78 ⟨by decide, by decide, by decide, by decide⟩ rfl rfl (Nat.le_of_ble_eq_true rfl) (xk_i ?_)
    exact x_iret X dX1_faultOf_81 (xp_i (by rw [g13]; first | rfl | exact (xD_f (xB_0.mp h87)).symm | exact (xD_t (Classical.not_not.mp (fun z => h87 (xB_f z)))).symm | exact (xD_f (xB_0.mp h101)).symm | exact (xD_t (Classical.not_not.mp (fun z => h101 (xB_f z)))).symm | exact (xD_f (xB_0.mp h117)).symm | exact (xD_t (Classical.not_not.mp (fun z => h117 (xB_f z)))).symm | exact (xD_f (xB_0.mp h131)).symm | exact (xD_t (Classical.not_not.mp (fun z => h131 (xB_f z)))).symm | exact (xD_f (xB_0.mp h145)).symm | exact (xD_t (Classical.not_not.mp (fun z => h145 (xB_f z)))).symm) (by first | rfl | simp [*]))
  · skip
    refine x_tableIn (off := 113) (tgt := 126) X dX1_faultOf_13 (by rw [nI_toInt (by omega)]; omega) (by rw [nI_toInt (by omega)]; omega) (by rw [nI_toInt (by omega), g13]; rfl) (by decide) ?_
    refine x_aload_n X dX1_faultOf_126 rfl ?_
    refine x_iload_n X dX1_faultOf_127 rfl ?_
    refine cv_X1_46 X (c_X2_hasRule hm hN hN2) dX1_faultOf_128 (xk0 hm) ⟨by decide, by decide, by decide, by decide⟩ rfl rfl (Nat.le_of_ble_eq_true rfl) (xk_i ?_)
    refine x_ifeq (tgt := 138) X dX1_faultOf_131 (by decide) (fun h131 => ?_) (fun h131 => ?_)
    · skip
      refine x_iconst (v := 3) X dX1_faultOf_138 (by decide) ?_
      exact x_iret X dX1_faultOf_139 (xp_i (by rw [g13]; first | rfl | exact (xD_f (xB_0.mp h87)).symm | exact (xD_t (Classical.not_not.mp (fun z => h87 (xB_f z)))).symm | exact (xD_f (xB_0.mp h101)).symm | exact (xD_t (Classical.not_not.mp (fun z => h101 (xB_f z)))).symm | exact (xD_f (xB_0.mp h117)).symm | exact (xD_t (Classical.not_not.mp (fun z => h117 (xB_f z)))).symm | exact (xD_f (xB_0.mp h131)).symm | exact (xD_t (Classical.not_not.mp (fun z => h131 (xB_f z)))).symm | exact (xD_f (xB_0.mp h145)).symm | exact (xD_t (Classical.not_not.mp (fun z => h145 (xB_f z)))).symm) (by first | rfl | simp [*]))
    · skip
      refine x_iconst (v := 0) X dX1_faultOf_134 (by decide) ?_
      refine x_goto (tgt := 139) X dX1_faultOf_135 (by decide) ?_
      exact x_iret X dX1_faultOf_139 (xp_i (by rw [g13]; first | rfl | exact (xD_f (xB_0.mp h87)).symm | exact (xD_t (Classical.not_not.mp (fun z => h87 (xB_f z)))).symm | exact (xD_f (xB_0.mp h101)).symm | exact (xD_t (Classical.not_not.mp (fun z => h101 (xB_f z)))).symm | exact (xD_f (xB_0.mp h117)).symm | exact (xD_t (Classical.not_not.mp (fun z => h117 (xB_f z)))).symm | exact (xD_f (xB_0.mp h131)).symm | exact (xD_t (Classical.not_not.mp (fun z => h131 (xB_f z)))).symm | exact (xD_f (xB_0.mp h145)).symm | exact (xD_t (Classical.not_not.mp (fun z => h145 (xB_f z)))).symm) (by first | rfl | simp [*]))
  · skip
    refine x_tableIn (off := 127) (tgt := 140) X dX1_faultOf_13 (by rw [nI_toInt (by omega)]; omega) (by rw [nI_toInt (by omega)]; omega) (by rw [nI_toInt (by omega), g13]; rfl) (by decide) ?_
    refine x_aload_n X dX1_faultOf_140 rfl ?_
    refine x_iload_n X dX1_faultOf_141 rfl ?_
    refine cv_X1_49 X (c_X2_hasVariable hm hV hV8) dX1_faultOf_142 (xk0 hm) ⟨by decide, by decide, by decide, by decide⟩ rfl rfl (Nat.le_of_ble_eq_true rfl) (xk_i ?_)
    refine x_ifeq (tgt := 152) X dX1_faultOf_145 (by decide) (fun h145 => ?_) (fun h145 => ?_)
    · skip
      refine x_iconst (v := 3) X dX1_faultOf_152 (by decide) ?_
      exact x_iret X dX1_faultOf_153 (xp_i (by rw [g13]; first | rfl | exact (xD_f (xB_0.mp h87)).symm | exact (xD_t (Classical.not_not.mp (fun z => h87 (xB_f z)))).symm | exact (xD_f (xB_0.mp h101)).symm | exact (xD_t (Classical.not_not.mp (fun z => h101 (xB_f z)))).symm | exact (xD_f (xB_0.mp h117)).symm | exact (xD_t (Classical.not_not.mp (fun z => h117 (xB_f z)))).symm | exact (xD_f (xB_0.mp h131)).symm | exact (xD_t (Classical.not_not.mp (fun z => h131 (xB_f z)))).symm | exact (xD_f (xB_0.mp h145)).symm | exact (xD_t (Classical.not_not.mp (fun z => h145 (xB_f z)))).symm) (by first | rfl | simp [*]))
    · skip
      refine x_iconst (v := 0) X dX1_faultOf_148 (by decide) ?_
      refine x_goto (tgt := 153) X dX1_faultOf_149 (by decide) ?_
      exact x_iret X dX1_faultOf_153 (xp_i (by rw [g13]; first | rfl | exact (xD_f (xB_0.mp h87)).symm | exact (xD_t (Classical.not_not.mp (fun z => h87 (xB_f z)))).symm | exact (xD_f (xB_0.mp h101)).symm | exact (xD_t (Classical.not_not.mp (fun z => h101 (xB_f z)))).symm | exact (xD_f (xB_0.mp h117)).symm | exact (xD_t (Classical.not_not.mp (fun z => h117 (xB_f z)))).symm | exact (xD_f (xB_0.mp h131)).symm | exact (xD_t (Classical.not_not.mp (fun z => h131 (xB_f z)))).symm | exact (xD_f (xB_0.mp h145)).symm | exact (xD_t (Classical.not_not.mp (fun z => h145 (xB_f z)))).symm) (by first | rfl | simp [*]))
  · skip
    refine x_tableIn (off := 83) (tgt := 96) X dX1_faultOf_13 (by rw [nI_toInt (by omega)]; omega) (by rw [nI_toInt (by omega)]; omega) (by rw [nI_toInt (by omega), g13]; rfl) (by decide) ?_
    refine x_aload_n X dX1_faultOf_96 rfl ?_
    refine x_iload_n X dX1_faultOf_97 rfl ?_
    refine cv_X1_37 X (c_X2_hasTable hm hM hM2) dX1_faultOf_98 (xk0 hm) ⟨by decide, by decide, by decide, by decide⟩ rfl rfl (Nat.le_of_ble_eq_true rfl) (xk_i ?_)
    refine x_ifeq (tgt := 108) X dX1_faultOf_101 (by decide) (fun h101 => ?_) (fun h101 => ?_)
    · skip
      refine x_iconst (v := 4) X dX1_faultOf_108 (by decide) ?_
      exact x_iret X dX1_faultOf_109 (xp_i (by rw [g13]; first | rfl | exact (xD_f (xB_0.mp h87)).symm | exact (xD_t (Classical.not_not.mp (fun z => h87 (xB_f z)))).symm | exact (xD_f (xB_0.mp h101)).symm | exact (xD_t (Classical.not_not.mp (fun z => h101 (xB_f z)))).symm | exact (xD_f (xB_0.mp h117)).symm | exact (xD_t (Classical.not_not.mp (fun z => h117 (xB_f z)))).symm | exact (xD_f (xB_0.mp h131)).symm | exact (xD_t (Classical.not_not.mp (fun z => h131 (xB_f z)))).symm | exact (xD_f (xB_0.mp h145)).symm | exact (xD_t (Classical.not_not.mp (fun z => h145 (xB_f z)))).symm) (by first | rfl | simp [*]))
    · skip
      refine x_iconst (v := 0) X dX1_faultOf_104 (by decide) ?_
      refine x_goto (tgt := 109) X dX1_faultOf_105 (by decide) ?_
      exact x_iret X dX1_faultOf_109 (xp_i (by rw [g13]; first | rfl | exact (xD_f (xB_0.mp h87)).symm | exact (xD_t (Classical.not_not.mp (fun z => h87 (xB_f z)))).symm | exact (xD_f (xB_0.mp h101)).symm | exact (xD_t (Classical.not_not.mp (fun z => h101 (xB_f z)))).symm | exact (xD_f (xB_0.mp h117)).symm | exact (xD_t (Classical.not_not.mp (fun z => h117 (xB_f z)))).symm | exact (xD_f (xB_0.mp h131)).symm | exact (xD_t (Classical.not_not.mp (fun z => h131 (xB_f z)))).symm | exact (xD_f (xB_0.mp h145)).symm | exact (xD_t (Classical.not_not.mp (fun z => h145 (xB_f z)))).symm) (by first | rfl | simp [*]))
  · skip
    refine x_tableIn (off := 141) (tgt := 154) X dX1_faultOf_13 (by rw [nI_toInt (by omega)]; omega) (by rw [nI_toInt (by omega)]; omega) (by rw [nI_toInt (by omega), g13]; rfl) (by decide) ?_
    refine x_iload_n X dX1_faultOf_154 rfl ?_
    refine x_bipush (v := (-100)) X dX1_faultOf_155 (by decide) ?_
    refine x_bipush (v := 100) X dX1_faultOf_157 (by decide) ?_
    refine cs_X1_52 X c_X1_faultBeyond dX1_faultOf_159 ⟨by decide, by decide, by decide, by decide⟩ rfl rfl (Nat.le_of_ble_eq_true rfl) (xk_i ?_)
    exact x_iret X dX1_faultOf_162 (xp_i (by rw [g13]; first | rfl | exact (xD_f (xB_0.mp h87)).symm | exact (xD_t (Classical.not_not.mp (fun z => h87 (xB_f z)))).symm | exact (xD_f (xB_0.mp h101)).symm | exact (xD_t (Classical.not_not.mp (fun z => h101 (xB_f z)))).symm | exact (xD_f (xB_0.mp h117)).symm | exact (xD_t (Classical.not_not.mp (fun z => h117 (xB_f z)))).symm | exact (xD_f (xB_0.mp h131)).symm | exact (xD_t (Classical.not_not.mp (fun z => h131 (xB_f z)))).symm | exact (xD_f (xB_0.mp h145)).symm | exact (xD_t (Classical.not_not.mp (fun z => h145 (xB_f z)))).symm) (by first | rfl | simp [*]))
  · skip
    refine x_tableIn (off := 150) (tgt := 163) X dX1_faultOf_13 (by rw [nI_toInt (by omega)]; omega) (by rw [nI_toInt (by omega)]; omega) (by rw [nI_toInt (by omega), g13]; rfl) (by decide) ?_
    refine x_iload_n X dX1_faultOf_163 rfl ?_
    refine x_iconst (v := 1) X dX1_faultOf_164 (by decide) ?_
    refine x_iconst (v := 4) X dX1_faultOf_165 (by decide) ?_
    refine cs_X1_52 X c_X1_faultBeyond dX1_faultOf_166 ⟨by decide, by decide, by decide, by decide⟩ rfl rfl (Nat.le_of_ble_eq_true rfl) (xk_i ?_)
    exact x_iret X dX1_faultOf_169 (xp_i (by rw [g13]; first | rfl | exact (xD_f (xB_0.mp h87)).symm | exact (xD_t (Classical.not_not.mp (fun z => h87 (xB_f z)))).symm | exact (xD_f (xB_0.mp h101)).symm | exact (xD_t (Classical.not_not.mp (fun z => h101 (xB_f z)))).symm | exact (xD_f (xB_0.mp h117)).symm | exact (xD_t (Classical.not_not.mp (fun z => h117 (xB_f z)))).symm | exact (xD_f (xB_0.mp h131)).symm | exact (xD_t (Classical.not_not.mp (fun z => h131 (xB_f z)))).symm | exact (xD_f (xB_0.mp h145)).symm | exact (xD_t (Classical.not_not.mp (fun z => h145 (xB_f z)))).symm) (by first | rfl | simp [*]))
  · skip
    refine x_tableIn (off := 69) (tgt := 82) X dX1_faultOf_13 (by rw [nI_toInt (by omega)]; omega) (by rw [nI_toInt (by omega)]; omega) (by rw [nI_toInt (by omega), g13]; rfl) (by decide) ?_
    refine x_aload_n X dX1_faultOf_82 rfl ?_
    refine x_iload_n X dX1_faultOf_83 rfl ?_
    refine cv_X1_31 X (c_X6_has hr hrc) dX1_faultOf_84 rfl ⟨by decide, by decide, by decide, by decide⟩ rfl rfl (Nat.le_of_ble_eq_true rfl) (xk_i ?_)
    refine x_ifeq (tgt := 94) X dX1_faultOf_87 (by decide) (fun h87 => ?_) (fun h87 => ?_)
    · skip
      refine x_iconst (v := 4) X dX1_faultOf_94 (by decide) ?_
      exact x_iret X dX1_faultOf_95 (xp_i (by rw [g13]; first | rfl | exact (xD_f (xB_0.mp h87)).symm | exact (xD_t (Classical.not_not.mp (fun z => h87 (xB_f z)))).symm | exact (xD_f (xB_0.mp h101)).symm | exact (xD_t (Classical.not_not.mp (fun z => h101 (xB_f z)))).symm | exact (xD_f (xB_0.mp h117)).symm | exact (xD_t (Classical.not_not.mp (fun z => h117 (xB_f z)))).symm | exact (xD_f (xB_0.mp h131)).symm | exact (xD_t (Classical.not_not.mp (fun z => h131 (xB_f z)))).symm | exact (xD_f (xB_0.mp h145)).symm | exact (xD_t (Classical.not_not.mp (fun z => h145 (xB_f z)))).symm) (by first | rfl | simp [*]))
    · skip
      refine x_iconst (v := 0) X dX1_faultOf_90 (by decide) ?_
      refine x_goto (tgt := 95) X dX1_faultOf_91 (by decide) ?_
      exact x_iret X dX1_faultOf_95 (xp_i (by rw [g13]; first | rfl | exact (xD_f (xB_0.mp h87)).symm | exact (xD_t (Classical.not_not.mp (fun z => h87 (xB_f z)))).symm | exact (xD_f (xB_0.mp h101)).symm | exact (xD_t (Classical.not_not.mp (fun z => h101 (xB_f z)))).symm | exact (xD_f (xB_0.mp h117)).symm | exact (xD_t (Classical.not_not.mp (fun z => h117 (xB_f z)))).symm | exact (xD_f (xB_0.mp h131)).symm | exact (xD_t (Classical.not_not.mp (fun z => h131 (xB_f z)))).symm | exact (xD_f (xB_0.mp h145)).symm | exact (xD_t (Classical.not_not.mp (fun z => h145 (xB_f z)))).symm) (by first | rfl | simp [*]))
  · skip
    refine x_tableIn (off := 157) (tgt := 170) X dX1_faultOf_13 (by rw [nI_toInt (by omega)]; omega) (by rw [nI_toInt (by omega)]; omega) (by rw [nI_toInt (by omega), g13]; rfl) (by decide) ?_
    refine x_iload_n X dX1_faultOf_170 rfl ?_
    refine x_iconst (v := 1) X dX1_faultOf_171 (by decide) ?_
    refine x_sipush (v := 1000) X dX1_faultOf_172 (by decide) ?_
    refine cs_X1_52 X c_X1_faultBeyond dX1_faultOf_175 ⟨by decide, by decide, by decide, by decide⟩ rfl rfl (Nat.le_of_ble_eq_true rfl) (xk_i ?_)
    exact x_iret X dX1_faultOf_178 (xp_i (by rw [g13]; first | rfl | exact (xD_f (xB_0.mp h87)).symm | exact (xD_t (Classical.not_not.mp (fun z => h87 (xB_f z)))).symm | exact (xD_f (xB_0.mp h101)).symm | exact (xD_t (Classical.not_not.mp (fun z => h101 (xB_f z)))).symm | exact (xD_f (xB_0.mp h117)).symm | exact (xD_t (Classical.not_not.mp (fun z => h117 (xB_f z)))).symm | exact (xD_f (xB_0.mp h131)).symm | exact (xD_t (Classical.not_not.mp (fun z => h131 (xB_f z)))).symm | exact (xD_f (xB_0.mp h145)).symm | exact (xD_t (Classical.not_not.mp (fun z => h145 (xB_f z)))).symm) (by first | rfl | simp [*]))
  · skip
    refine x_tableIn (off := 166) (tgt := 179) X dX1_faultOf_13 (by rw [nI_toInt (by omega)]; omega) (by rw [nI_toInt (by omega)]; omega) (by rw [nI_toInt (by omega), g13]; rfl) (by decide) ?_
    refine x_iload_n X dX1_faultOf_179 rfl ?_
    refine x_iconst (v := 2) X dX1_faultOf_180 (by decide) ?_
    refine x_sipush (v := 1000) X dX1_faultOf_181 (by decide) ?_
    refine cs_X1_52 X c_X1_faultBeyond dX1_faultOf_184 ⟨by decide, by decide, by decide, by decide⟩ rfl rfl (Nat.le_of_ble_eq_true rfl) (xk_i ?_)
    exact x_iret X dX1_faultOf_187 (xp_i (by rw [g13]; first | rfl | exact (xD_f (xB_0.mp h87)).symm | exact (xD_t (Classical.not_not.mp (fun z => h87 (xB_f z)))).symm | exact (xD_f (xB_0.mp h101)).symm | exact (xD_t (Classical.not_not.mp (fun z => h101 (xB_f z)))).symm | exact (xD_f (xB_0.mp h117)).symm | exact (xD_t (Classical.not_not.mp (fun z => h117 (xB_f z)))).symm | exact (xD_f (xB_0.mp h131)).symm | exact (xD_t (Classical.not_not.mp (fun z => h131 (xB_f z)))).symm | exact (xD_f (xB_0.mp h145)).symm | exact (xD_t (Classical.not_not.mp (fun z => h145 (xB_f z)))).symm) (by first | rfl | simp [*]))
  · skip
    refine x_tableIn (off := 175) (tgt := 188) X dX1_faultOf_13 (by rw [nI_toInt (by omega)]; omega) (by rw [nI_toInt (by omega)]; omega) (by rw [nI_toInt (by omega), g13]; rfl) (by decide) ?_
    refine x_iload_n X dX1_faultOf_188 rfl ?_
    refine x_sipush (v := (-1000)) X dX1_faultOf_189 (by decide) ?_
    refine x_sipush (v := 1000) X dX1_faultOf_192 (by decide) ?_
    refine cs_X1_52 X c_X1_faultBeyond dX1_faultOf_195 ⟨by decide, by decide, by decide, by decide⟩ rfl rfl (Nat.le_of_ble_eq_true rfl) (xk_i ?_)
    exact x_iret X dX1_faultOf_198 (xp_i (by rw [g13]; first | rfl | exact (xD_f (xB_0.mp h87)).symm | exact (xD_t (Classical.not_not.mp (fun z => h87 (xB_f z)))).symm | exact (xD_f (xB_0.mp h101)).symm | exact (xD_t (Classical.not_not.mp (fun z => h101 (xB_f z)))).symm | exact (xD_f (xB_0.mp h117)).symm | exact (xD_t (Classical.not_not.mp (fun z => h117 (xB_f z)))).symm | exact (xD_f (xB_0.mp h131)).symm | exact (xD_t (Classical.not_not.mp (fun z => h131 (xB_f z)))).symm | exact (xD_f (xB_0.mp h145)).symm | exact (xD_t (Classical.not_not.mp (fun z => h145 (xB_f z)))).symm) (by first | rfl | simp [*]))
  · skip
    refine x_tableIn (off := 186) (tgt := 199) X dX1_faultOf_13 (by rw [nI_toInt (by omega)]; omega) (by rw [nI_toInt (by omega)]; omega) (by rw [nI_toInt (by omega), g13]; rfl) (by decide) ?_
    refine x_iload_n X dX1_faultOf_199 rfl ?_
    refine x_iconst (v := 0) X dX1_faultOf_200 (by decide) ?_
    refine x_iconst (v := 1) X dX1_faultOf_201 (by decide) ?_
    refine cs_X1_52 X c_X1_faultBeyond dX1_faultOf_202 ⟨by decide, by decide, by decide, by decide⟩ rfl rfl (Nat.le_of_ble_eq_true rfl) (xk_i ?_)
    exact x_iret X dX1_faultOf_205 (xp_i (by rw [g13]; first | rfl | exact (xD_f (xB_0.mp h87)).symm | exact (xD_t (Classical.not_not.mp (fun z => h87 (xB_f z)))).symm | exact (xD_f (xB_0.mp h101)).symm | exact (xD_t (Classical.not_not.mp (fun z => h101 (xB_f z)))).symm | exact (xD_f (xB_0.mp h117)).symm | exact (xD_t (Classical.not_not.mp (fun z => h117 (xB_f z)))).symm | exact (xD_f (xB_0.mp h131)).symm | exact (xD_t (Classical.not_not.mp (fun z => h131 (xB_f z)))).symm | exact (xD_f (xB_0.mp h145)).symm | exact (xD_t (Classical.not_not.mp (fun z => h145 (xB_f z)))).symm) (by first | rfl | simp [*]))
  · skip
    refine x_tableIn (off := 97) (tgt := 110) X dX1_faultOf_13 (by rw [nI_toInt (by omega)]; omega) (by rw [nI_toInt (by omega)]; omega) (by rw [nI_toInt (by omega), g13]; rfl) (by decide) ?_
    refine x_iload_n X dX1_faultOf_110 rfl ?_
    refine x_aload_n X dX1_faultOf_111 rfl ?_
    refine x_aload X dX1_faultOf_112 rfl ?_
    refine cs_X1_42 X (c_X1_isGoodPlan hm hN hN2 hM hM2 hT hp hc) dX1_faultOf_114 ⟨by decide, by decide, by decide, by decide⟩ rfl rfl (Nat.le_of_ble_eq_true rfl) (xk_i ?_)
    refine x_ifeq (tgt := 124) X dX1_faultOf_117 (by decide) (fun h117 => ?_) (fun h117 => ?_)
    · skip
      refine x_iconst (v := 4) X dX1_faultOf_124 (by decide) ?_
      exact x_iret X dX1_faultOf_125 (xp_i (by rw [g13]; first | rfl | exact (xD_f (xB_0.mp h87)).symm | exact (xD_t (Classical.not_not.mp (fun z => h87 (xB_f z)))).symm | exact (xD_f (xB_0.mp h101)).symm | exact (xD_t (Classical.not_not.mp (fun z => h101 (xB_f z)))).symm | exact (xD_f (xB_0.mp h117)).symm | exact (xD_t (Classical.not_not.mp (fun z => h117 (xB_f z)))).symm | exact (xD_f (xB_0.mp h131)).symm | exact (xD_t (Classical.not_not.mp (fun z => h131 (xB_f z)))).symm | exact (xD_f (xB_0.mp h145)).symm | exact (xD_t (Classical.not_not.mp (fun z => h145 (xB_f z)))).symm) (by first | rfl | simp [*]))
    · skip
      refine x_iconst (v := 0) X dX1_faultOf_120 (by decide) ?_
      refine x_goto (tgt := 125) X dX1_faultOf_121 (by decide) ?_
      exact x_iret X dX1_faultOf_125 (xp_i (by rw [g13]; first | rfl | exact (xD_f (xB_0.mp h87)).symm | exact (xD_t (Classical.not_not.mp (fun z => h87 (xB_f z)))).symm | exact (xD_f (xB_0.mp h101)).symm | exact (xD_t (Classical.not_not.mp (fun z => h101 (xB_f z)))).symm | exact (xD_f (xB_0.mp h117)).symm | exact (xD_t (Classical.not_not.mp (fun z => h117 (xB_f z)))).symm | exact (xD_f (xB_0.mp h131)).symm | exact (xD_t (Classical.not_not.mp (fun z => h131 (xB_f z)))).symm | exact (xD_f (xB_0.mp h145)).symm | exact (xD_t (Classical.not_not.mp (fun z => h145 (xB_f z)))).symm) (by first | rfl | simp [*]))
