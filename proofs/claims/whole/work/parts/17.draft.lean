/-! Draft: what the numbers of a row mean, how many they are, which are at fault -/
def dMean (k p : Int32) : Int32 := if p = 0 then 0 else if k = 0 then 1 else if k = 1 ∨ k = 2 then 2 else if k = 3 then (if p = 1 then 3 else 4) else if k = 4 then (if p = 1 then 5 else if p &&& 1 = 0 then 6 else 7) else if k = 5 then (if p = 1 then 6 else 8) else if k = 6 then (if p = 1 then 2 else if p = 2 then 9 else 10) else if k = 7 then 6 else if k = 8 then 11 else (if p = 1 then 6 else 2)
def dL (q k : Nat) : Nat := if q = 3 ∨ q = 6 then 4 else if q = 4 then 2 + 2 * k else if q = 5 ∨ q = 9 then 3 else if q = 7 then 5 else 2
def dBey (x lo hi : Int32) : Int32 := if xIn x lo hi = 0 then 3 else 0
noncomputable def dKind (x : Int32) (nr nb : Nat) : Int32 := if xIn x 0 9 = 0 then 2 else if nr = 200 then 9 else if x = 6 ∧ nb = 60 then 9 else 0
noncomputable def dGood (σ : xS) (c np N M : Nat) (x : Int32) : Prop := ∃ j, j < np ∧ x = nI j ∧ mBrk σ c (463 + j) N M = -1
noncomputable def xD (p : Prop) (v : Int32) : Int32 := @ite _ p (Classical.propDecidable p) 0 v
theorem xD_t {p : Prop} {v : Int32} (h : p) : xD p v = 0 := if_pos h
theorem xD_f {p : Prop} {v : Int32} (h : ¬ p) : xD p v = v := if_neg h
noncomputable def dFlt (σ : xS) (c nr nb np V N M : Nat) (m x : Int32) : Int32 := if m = 0 then dKind x nr nb else if m = 1 then xD (xLt x N) 3 else if m = 2 then xD (xLt x V) 3 else if m = 3 then xD (xLt x M) 4 else if m = 4 then dBey x (-100) 100 else if m = 5 then dBey x 1 4 else if m = 6 then xD (xLt x nr) 4 else if m = 7 then dBey x 1 1000 else if m = 8 then dBey x 2 1000 else if m = 9 then dBey x (-1000) 1000 else if m = 10 then dBey x 0 1 else xD (dGood σ c np N M x) 4
theorem xi_of {x y : Int32} {a b : Int} (h : x.toInt = a) (h2 : y.toInt = b) (h3 : a = b) : x = y := Int32.toInt_inj.mp (h.trans (h3.trans h2.symm))
theorem dMean_b {k p : Int32} (h : p = 0 ∨ ∃ q : Nat, q < 10 ∧ k = nI q) : ∃ j : Nat, j < 12 ∧ dMean k p = nI j := by
  unfold dMean
  repeat' split
  all_goals first | exact ⟨0, by omega, rfl⟩ | exact ⟨1, by omega, rfl⟩ | exact ⟨2, by omega, rfl⟩ | exact ⟨3, by omega, rfl⟩ | exact ⟨4, by omega, rfl⟩ | exact ⟨5, by omega, rfl⟩ | exact ⟨6, by omega, rfl⟩ | exact ⟨7, by omega, rfl⟩ | exact ⟨8, by omega, rfl⟩ | exact ⟨9, by omega, rfl⟩ | exact ⟨10, by omega, rfl⟩ | exact ⟨11, by omega, rfl⟩

set_option maxHeartbeats 4000000 in
set_option maxRecDepth 100000 in
theorem c_X1_clear {l : Launch} {G : xG} {σ : xS} : xFv l G yX1_clear cX1_clear 1 (Option.none : Option Jvm.ClassFile.FieldType) 0 0 [.ref (G.2.1 11)] σ (xsI σ 11 1 0) := by
  refine xM.of (by decide) (Nat.le_of_ble_eq_true rfl) (fun pp ee ss mm aa bel met kk X => ?_)
  have X : xC pp ss mm met kk cX1_clear 1 RX1 (Option.none : Option Jvm.ClassFile.FieldType) G := X
  show xW pp l ee { frames := 0, cells := 0, slots := 0, locals := 0 } ss mm aa bel met kk 1 G 0 0 (xQ bel G (fun r t => r = none ∧ t = (xsI σ 11 1 0)) aa ss) 0 [(0, .ref (G.2.1 11))] [] σ
  refine x_aload_n X dX1_clear_0 rfl ?_
  refine x_iconst (v := 0) X dX1_clear_1 (by decide) ?_
  refine pf_X1_15 X dX1_clear_2 rfl ?_
  exact x_vret X dX1_clear_5 (⟨rfl, by first | rfl | simp [*]⟩)

set_option maxHeartbeats 4000000 in
set_option maxRecDepth 100000 in
theorem c_X1_meaningAt {l : Launch} {G : xG} {σ : xS} {k q : Int32} (hk : q = 0 ∨ ∃ z : Nat, z < 10 ∧ k = nI z) : xFi l G yX1_meaningAt cX1_meaningAt 2 (Option.some Jvm.ClassFile.FieldType.int) 0 0 [.int k, .int q] σ (dMean k q) (σ) := by
  refine xM.of (by decide) (Nat.le_of_ble_eq_true rfl) (fun pp ee ss mm aa bel met kk X => ?_)
  have X : xC pp ss mm met kk cX1_meaningAt 2 RX1 (Option.some Jvm.ClassFile.FieldType.int) G := X
  show xW pp l ee { frames := 0, cells := 0, slots := 0, locals := 0 } ss mm aa bel met kk 2 G 0 0 (xQ bel G (fun r t => r = some (.int (dMean k q)) ∧ t = (σ)) aa ss) 0 [(0, .int k), (1, .int q)] [] σ
  refine x_iload_n X dX1_meaningAt_0 rfl ?_
  refine x_ifne (tgt := 6) X dX1_meaningAt_1 (by decide) (fun h1 => ?_) (fun h1 => ?_)
  · skip
    refine x_iload_n X dX1_meaningAt_6 rfl ?_
    by_cases h7 : k.toInt < 0 ∨ 9 < k.toInt
    · skip
      rcases hk with z | ⟨z, hz, rfl⟩
      · exact absurd z h1
      · rw [nI_toInt (by omega)] at h7; omega
    rcases (show k.toInt = 0 ∨ k.toInt = 1 ∨ k.toInt = 2 ∨ k.toInt = 3 ∨ k.toInt = 4 ∨ k.toInt = 5 ∨ k.toInt = 6 ∨ k.toInt = 7 ∨ k.toInt = 8 ∨ k.toInt = 9 by omega) with g7 | g7 | g7 | g7 | g7 | g7 | g7 | g7 | g7 | g7
    · skip
      obtain ⟨k2, hk2⟩ : ∃ z : Int32, z = k := ⟨_, rfl⟩
      have hk3 : k = 0 := xi_of g7 (show (0 : Int32).toInt = 0 by decide) rfl
      refine x_tableIn (off := 53) (tgt := 60) X dX1_meaningAt_7 (by rw [g7]; decide) (by rw [g7]; decide) (by rw [g7]; rfl) (by decide) ?_
      refine x_iconst (v := 1) X dX1_meaningAt_60 (by decide) ?_
      exact x_iret X dX1_meaningAt_61 (xp_i (by simp [dMean, *]) (by first | rfl | simp [*]))
    · skip
      obtain ⟨k2, hk2⟩ : ∃ z : Int32, z = k := ⟨_, rfl⟩
      have hk3 : k = 1 := xi_of g7 (show (1 : Int32).toInt = 1 by decide) rfl
      refine x_tableIn (off := 55) (tgt := 62) X dX1_meaningAt_7 (by rw [g7]; decide) (by rw [g7]; decide) (by rw [g7]; rfl) (by decide) ?_
      refine x_iconst (v := 2) X dX1_meaningAt_62 (by decide) ?_
      exact x_iret X dX1_meaningAt_63 (xp_i (by simp [dMean, *]) (by first | rfl | simp [*]))
    · skip
      obtain ⟨k2, hk2⟩ : ∃ z : Int32, z = k := ⟨_, rfl⟩
      have hk3 : k = 2 := xi_of g7 (show (2 : Int32).toInt = 2 by decide) rfl
      refine x_tableIn (off := 55) (tgt := 62) X dX1_meaningAt_7 (by rw [g7]; decide) (by rw [g7]; decide) (by rw [g7]; rfl) (by decide) ?_
      refine x_iconst (v := 2) X dX1_meaningAt_62 (by decide) ?_
      exact x_iret X dX1_meaningAt_63 (xp_i (by simp [dMean, *]) (by first | rfl | simp [*]))
    · skip
      obtain ⟨k2, hk2⟩ : ∃ z : Int32, z = k := ⟨_, rfl⟩
      have hk3 : k = 3 := xi_of g7 (show (3 : Int32).toInt = 3 by decide) rfl
      refine x_tableIn (off := 57) (tgt := 64) X dX1_meaningAt_7 (by rw [g7]; decide) (by rw [g7]; decide) (by rw [g7]; rfl) (by decide) ?_
      refine x_iload_n X dX1_meaningAt_64 rfl ?_
      refine x_iconst (v := 1) X dX1_meaningAt_65 (by decide) ?_
      refine x_icmpne (tgt := 73) X dX1_meaningAt_66 (by decide) (fun h66 => ?_) (fun h66 => ?_)
      · skip
        refine x_iconst (v := 4) X dX1_meaningAt_73 (by decide) ?_
        exact x_iret X dX1_meaningAt_74 (xp_i (by simp [dMean, *]) (by first | rfl | simp [*]))
      · skip
        refine x_iconst (v := 3) X dX1_meaningAt_69 (by decide) ?_
        refine x_goto (tgt := 74) X dX1_meaningAt_70 (by decide) ?_
        exact x_iret X dX1_meaningAt_74 (xp_i (by simp [dMean, *]) (by first | rfl | simp [*]))
    · skip
      obtain ⟨k2, hk2⟩ : ∃ z : Int32, z = k := ⟨_, rfl⟩
      have hk3 : k = 4 := xi_of g7 (show (4 : Int32).toInt = 4 by decide) rfl
      refine x_tableIn (off := 68) (tgt := 75) X dX1_meaningAt_7 (by rw [g7]; decide) (by rw [g7]; decide) (by rw [g7]; rfl) (by decide) ?_
      refine x_iload_n X dX1_meaningAt_75 rfl ?_
      refine x_iconst (v := 1) X dX1_meaningAt_76 (by decide) ?_
      refine x_icmpne (tgt := 84) X dX1_meaningAt_77 (by decide) (fun h77 => ?_) (fun h77 => ?_)
      · skip
        refine x_iload_n X dX1_meaningAt_84 rfl ?_
        refine x_iconst (v := 1) X dX1_meaningAt_85 (by decide) ?_
        refine x_iand X dX1_meaningAt_86 ?_
        refine x_ifne (tgt := 95) X dX1_meaningAt_87 (by decide) (fun h87 => ?_) (fun h87 => ?_)
        · skip
          refine x_bipush (v := 7) X dX1_meaningAt_95 (by decide) ?_
          exact x_iret X dX1_meaningAt_97 (xp_i (by simp [dMean, *]) (by first | rfl | simp [*]))
        · skip
          refine x_bipush (v := 6) X dX1_meaningAt_90 (by decide) ?_
          refine x_goto (tgt := 97) X dX1_meaningAt_92 (by decide) ?_
          exact x_iret X dX1_meaningAt_97 (xp_i (by simp [dMean, *]) (by first | rfl | simp [*]))
      · skip
        refine x_iconst (v := 5) X dX1_meaningAt_80 (by decide) ?_
        refine x_goto (tgt := 97) X dX1_meaningAt_81 (by decide) ?_
        exact x_iret X dX1_meaningAt_97 (xp_i (by simp [dMean, *]) (by first | rfl | simp [*]))
    · skip
      obtain ⟨k2, hk2⟩ : ∃ z : Int32, z = k := ⟨_, rfl⟩
      have hk3 : k = 5 := xi_of g7 (show (5 : Int32).toInt = 5 by decide) rfl
      refine x_tableIn (off := 91) (tgt := 98) X dX1_meaningAt_7 (by rw [g7]; decide) (by rw [g7]; decide) (by rw [g7]; rfl) (by decide) ?_
      refine x_iload_n X dX1_meaningAt_98 rfl ?_
      refine x_iconst (v := 1) X dX1_meaningAt_99 (by decide) ?_
      refine x_icmpne (tgt := 108) X dX1_meaningAt_100 (by decide) (fun h100 => ?_) (fun h100 => ?_)
      · skip
        refine x_bipush (v := 8) X dX1_meaningAt_108 (by decide) ?_
        exact x_iret X dX1_meaningAt_110 (xp_i (by simp [dMean, *]) (by first | rfl | simp [*]))
      · skip
        refine x_bipush (v := 6) X dX1_meaningAt_103 (by decide) ?_
        refine x_goto (tgt := 110) X dX1_meaningAt_105 (by decide) ?_
        exact x_iret X dX1_meaningAt_110 (xp_i (by simp [dMean, *]) (by first | rfl | simp [*]))
    · skip
      obtain ⟨k2, hk2⟩ : ∃ z : Int32, z = k := ⟨_, rfl⟩
      have hk3 : k = 6 := xi_of g7 (show (6 : Int32).toInt = 6 by decide) rfl
      refine x_tableIn (off := 104) (tgt := 111) X dX1_meaningAt_7 (by rw [g7]; decide) (by rw [g7]; decide) (by rw [g7]; rfl) (by decide) ?_
      refine x_iload_n X dX1_meaningAt_111 rfl ?_
      refine x_iconst (v := 1) X dX1_meaningAt_112 (by decide) ?_
      refine x_icmpne (tgt := 120) X dX1_meaningAt_113 (by decide) (fun h113 => ?_) (fun h113 => ?_)
      · skip
        refine x_iload_n X dX1_meaningAt_120 rfl ?_
        refine x_iconst (v := 2) X dX1_meaningAt_121 (by decide) ?_
        refine x_icmpne (tgt := 130) X dX1_meaningAt_122 (by decide) (fun h122 => ?_) (fun h122 => ?_)
        · skip
          refine x_bipush (v := 10) X dX1_meaningAt_130 (by decide) ?_
          exact x_iret X dX1_meaningAt_132 (xp_i (by simp [dMean, *]) (by first | rfl | simp [*]))
        · skip
          refine x_bipush (v := 9) X dX1_meaningAt_125 (by decide) ?_
          refine x_goto (tgt := 132) X dX1_meaningAt_127 (by decide) ?_
          exact x_iret X dX1_meaningAt_132 (xp_i (by simp [dMean, *]) (by first | rfl | simp [*]))
      · skip
        refine x_iconst (v := 2) X dX1_meaningAt_116 (by decide) ?_
        refine x_goto (tgt := 132) X dX1_meaningAt_117 (by decide) ?_
        exact x_iret X dX1_meaningAt_132 (xp_i (by simp [dMean, *]) (by first | rfl | simp [*]))
    · skip
      obtain ⟨k2, hk2⟩ : ∃ z : Int32, z = k := ⟨_, rfl⟩
      have hk3 : k = 7 := xi_of g7 (show (7 : Int32).toInt = 7 by decide) rfl
      refine x_tableIn (off := 126) (tgt := 133) X dX1_meaningAt_7 (by rw [g7]; decide) (by rw [g7]; decide) (by rw [g7]; rfl) (by decide) ?_
      refine x_bipush (v := 6) X dX1_meaningAt_133 (by decide) ?_
      exact x_iret X dX1_meaningAt_135 (xp_i (by simp [dMean, *]) (by first | rfl | simp [*]))
    · skip
      obtain ⟨k2, hk2⟩ : ∃ z : Int32, z = k := ⟨_, rfl⟩
      have hk3 : k = 8 := xi_of g7 (show (8 : Int32).toInt = 8 by decide) rfl
      refine x_tableIn (off := 129) (tgt := 136) X dX1_meaningAt_7 (by rw [g7]; decide) (by rw [g7]; decide) (by rw [g7]; rfl) (by decide) ?_
      refine x_bipush (v := 11) X dX1_meaningAt_136 (by decide) ?_
      exact x_iret X dX1_meaningAt_138 (xp_i (by simp [dMean, *]) (by first | rfl | simp [*]))
    · skip
      obtain ⟨k2, hk2⟩ : ∃ z : Int32, z = k := ⟨_, rfl⟩
      have hk3 : k = 9 := xi_of g7 (show (9 : Int32).toInt = 9 by decide) rfl
      refine x_tableIn (off := 132) (tgt := 139) X dX1_meaningAt_7 (by rw [g7]; decide) (by rw [g7]; decide) (by rw [g7]; rfl) (by decide) ?_
      refine x_iload_n X dX1_meaningAt_139 rfl ?_
      refine x_iconst (v := 1) X dX1_meaningAt_140 (by decide) ?_
      refine x_icmpne (tgt := 149) X dX1_meaningAt_141 (by decide) (fun h141 => ?_) (fun h141 => ?_)
      · skip
        refine x_iconst (v := 2) X dX1_meaningAt_149 (by decide) ?_
        exact x_iret X dX1_meaningAt_150 (xp_i (by simp [dMean, *]) (by first | rfl | simp [*]))
      · skip
        refine x_bipush (v := 6) X dX1_meaningAt_144 (by decide) ?_
        refine x_goto (tgt := 150) X dX1_meaningAt_146 (by decide) ?_
        exact x_iret X dX1_meaningAt_150 (xp_i (by simp [dMean, *]) (by first | rfl | simp [*]))
  · skip
    refine x_iconst (v := 0) X dX1_meaningAt_4 (by decide) ?_
    exact x_iret X dX1_meaningAt_5 (xp_i (by simp [dMean, *]) (by first | rfl | simp [*]))

set_option maxHeartbeats 4000000 in
set_option maxRecDepth 100000 in
theorem c_X1_wholeLength {l : Launch} {G : xG} {σ : xS} {q k : Nat} (hq : xgI σ 12 0 = nI q) (hq9 : q < 10) (hk : q = 4 → xgI σ 12 1 = nI k) : xFi l G yX1_wholeLength cX1_wholeLength 1 (Option.some Jvm.ClassFile.FieldType.int) 0 0 [.ref (G.2.1 11)] σ (nI (dL q k)) (σ) := by
  refine xM.of (by decide) (Nat.le_of_ble_eq_true rfl) (fun pp ee ss mm aa bel met kk X => ?_)
  have X : xC pp ss mm met kk cX1_wholeLength 1 RX1 (Option.some Jvm.ClassFile.FieldType.int) G := X
  show xW pp l ee { frames := 0, cells := 0, slots := 0, locals := 0 } ss mm aa bel met kk 1 G 0 0 (xQ bel G (fun r t => r = some (.int (nI (dL q k))) ∧ t = (σ)) aa ss) 0 [(0, .ref (G.2.1 11))] [] σ
  refine x_aload_n X dX1_wholeLength_0 rfl ?_
  refine gf_X1_9 (k' := 12) X dX1_wholeLength_1 rfl rfl ?_
  refine x_iconst (v := 0) X dX1_wholeLength_4 (by decide) ?_
  refine x_iald X dX1_wholeLength_5 rfl (xin_lt (by decide) (by decide) (by decide)) ?_
  rw [show (0 : Int32).toNatClampNeg = 0 from rfl, hq]
  rw [show nI q = nI q from rfl]
  by_cases h6 : (nI q).toInt < 3 ∨ 9 < (nI q).toInt
  · skip
    refine x_tableOut (tgt := 65) X dX1_wholeLength_6 h6 (by decide) ?_
    refine x_iconst (v := 2) X dX1_wholeLength_65 (by decide) ?_
    exact x_iret X dX1_wholeLength_66 (xp_i (by skip) (by first | rfl | simp [*]))
  rcases (show (nI q).toInt = 3 ∨ (nI q).toInt = 4 ∨ (nI q).toInt = 5 ∨ (nI q).toInt = 6 ∨ (nI q).toInt = 7 ∨ (nI q).toInt = 8 ∨ (nI q).toInt = 9 by omega) with g6 | g6 | g6 | g6 | g6 | g6 | g6
  · skip
    have hq3 : q = 3 := by omega
    refine x_tableIn (off := 53) (tgt := 59) X dX1_wholeLength_6 (by rw [g6]; decide) (by rw [g6]; decide) (by rw [g6]; rfl) (by decide) ?_
    refine x_iconst (v := 4) X dX1_wholeLength_59 (by decide) ?_
    exact x_iret X dX1_wholeLength_60 (xp_i (by skip) (by first | rfl | simp [*]))
  · skip
    have hq3 : q = 4 := by omega
    refine x_tableIn (off := 42) (tgt := 48) X dX1_wholeLength_6 (by rw [g6]; decide) (by rw [g6]; decide) (by rw [g6]; rfl) (by decide) ?_
    refine x_iconst (v := 2) X dX1_wholeLength_48 (by decide) ?_
    refine x_iconst (v := 2) X dX1_wholeLength_49 (by decide) ?_
    refine x_aload_n X dX1_wholeLength_50 rfl ?_
    refine gf_X1_9 (k' := 12) X dX1_wholeLength_51 rfl rfl ?_
    refine x_iconst (v := 1) X dX1_wholeLength_54 (by decide) ?_
    refine x_iald X dX1_wholeLength_55 rfl (xin_lt (by decide) (by decide) (by decide)) ?_
    rw [show (1 : Int32).toNatClampNeg = 1 from rfl, hk hq3]
    refine x_imul X dX1_wholeLength_56 ?_
    refine x_iadd X dX1_wholeLength_57 ?_
    exact x_iret X dX1_wholeLength_58 (xp_i (by skip) (by first | rfl | simp [*]))
  · skip
    have hq3 : q = 5 := by omega
    refine x_tableIn (off := 55) (tgt := 61) X dX1_wholeLength_6 (by rw [g6]; decide) (by rw [g6]; decide) (by rw [g6]; rfl) (by decide) ?_
    refine x_iconst (v := 3) X dX1_wholeLength_61 (by decide) ?_
    exact x_iret X dX1_wholeLength_62 (xp_i (by skip) (by first | rfl | simp [*]))
  · skip
    have hq3 : q = 6 := by omega
    refine x_tableIn (off := 53) (tgt := 59) X dX1_wholeLength_6 (by rw [g6]; decide) (by rw [g6]; decide) (by rw [g6]; rfl) (by decide) ?_
    refine x_iconst (v := 4) X dX1_wholeLength_59 (by decide) ?_
    exact x_iret X dX1_wholeLength_60 (xp_i (by skip) (by first | rfl | simp [*]))
  · skip
    have hq3 : q = 7 := by omega
    refine x_tableIn (off := 57) (tgt := 63) X dX1_wholeLength_6 (by rw [g6]; decide) (by rw [g6]; decide) (by rw [g6]; rfl) (by decide) ?_
    refine x_iconst (v := 5) X dX1_wholeLength_63 (by decide) ?_
    exact x_iret X dX1_wholeLength_64 (xp_i (by skip) (by first | rfl | simp [*]))
  · skip
    have hq3 : q = 8 := by omega
    refine x_tableIn (off := 59) (tgt := 65) X dX1_wholeLength_6 (by rw [g6]; decide) (by rw [g6]; decide) (by rw [g6]; rfl) (by decide) ?_
    refine x_iconst (v := 2) X dX1_wholeLength_65 (by decide) ?_
    exact x_iret X dX1_wholeLength_66 (xp_i (by skip) (by first | rfl | simp [*]))
  · skip
    have hq3 : q = 9 := by omega
    refine x_tableIn (off := 55) (tgt := 61) X dX1_wholeLength_6 (by rw [g6]; decide) (by rw [g6]; decide) (by rw [g6]; rfl) (by decide) ?_
    refine x_iconst (v := 3) X dX1_wholeLength_61 (by decide) ?_
    exact x_iret X dX1_wholeLength_62 (xp_i (by skip) (by first | rfl | simp [*]))
