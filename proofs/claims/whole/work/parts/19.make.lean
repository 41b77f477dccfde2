/-! Draft.make, a row for each kind -/
def dK (σ : xS) (i : Nat) (q : Int32) (n : Nat) : xS := xsI (xsI σ (61 + i) 5 q) (61 + i) 7 (nI n)
theorem dK_off {σ : xS} {i n : Nat} {q : Int32} : xOff i σ (dK σ i q n) := xOff.I.tr xOff.I

set_option maxHeartbeats 4000000 in
set_option maxRecDepth 100000 in
theorem c_X1_make0 {l : Launch} {G : xG} {σ : xS} {i c n : Nat} (hi : i < 201) (hm : xMod c) (hn : xgI σ 11 1 = nI n) (hq : xgI σ 12 0 = 0) {j N : Nat} (hN : xgI σ c 1 = nI N) (hN2 : N ≤ 20) (hj : xgI σ 12 1 = nI j) (hj2 : j < N) : xFi l G yX1_make cX1_make 5 (Option.some Jvm.ClassFile.FieldType.int) 3 80 [.ref (G.2.1 11), .ref (G.2.1 (61 + i)), .ref (G.2.1 8), .ref (G.2.1 c), .ref (G.2.1 3)] σ (0) (xsL (mCr (dK σ i 0 n) i (xgI (dK σ i 0 n) (mF c + j)) 8) (61 + i) 1 (xgI (dK σ i 0 n) (c + 5) j).toInt64) := by
  refine xM.of (by decide) (Nat.le_of_ble_eq_true rfl) (fun pp ee ss mm aa bel met kk X => ?_)
  have X : xC pp ss mm met kk cX1_make 5 RX1 (Option.some Jvm.ClassFile.FieldType.int) G := X
  show xW pp l ee { frames := 3, cells := 0, slots := 0, locals := 80 } ss mm aa bel met kk 5 G 0 0 (xQ bel G (fun r t => r = some (.int (0)) ∧ t = (xsL (mCr (dK σ i 0 n) i (xgI (dK σ i 0 n) (mF c + j)) 8) (61 + i) 1 (xgI (dK σ i 0 n) (c + 5) j).toInt64)) aa ss) 0 [(0, .ref (G.2.1 11)), (1, .ref (G.2.1 (61 + i))), (2, .ref (G.2.1 8)), (3, .ref (G.2.1 c)), (4, .ref (G.2.1 3))] [] σ
  refine x_aload_n X dX1_make_0 rfl ?_
  refine x_aload_n X dX1_make_1 rfl ?_
  refine gf_X1_9 (k' := 12) X dX1_make_2 rfl rfl ?_
  refine x_iconst (v := 0) X dX1_make_5 (by decide) ?_
  refine x_ialdN (i := 0) X dX1_make_6 rfl (by omega) (by omega) ?_
  rw [hq]
  refine pf_X1_80 X dX1_make_7 (xck_row hi) ?_
  refine x_aload_n X dX1_make_10 rfl ?_
  refine x_aload_n X dX1_make_11 rfl ?_
  refine gf_X1_15 X dX1_make_12 rfl ?_
  rw [xgI_n (by omega), hn]
  refine pf_X1_85 X dX1_make_15 (xck_row hi) ?_
  refine x_aload_n X dX1_make_18 rfl ?_
  refine gf_X1_9 (k' := 12) X dX1_make_19 rfl rfl ?_
  refine x_iconst (v := 0) X dX1_make_22 (by decide) ?_
  refine x_ialdN (i := 0) X dX1_make_23 rfl (by omega) (by omega) ?_
  rw [xgI_n (by omega), xgI_n (by omega), hq]
  refine x_tableIn (off := 56) (tgt := 80) X dX1_make_24 (by decide) (by decide) rfl (by decide) ?_
  refine x_aload_n X dX1_make_80 rfl ?_
  refine x_aload_n X dX1_make_81 rfl ?_
  refine gf_X1_9 (k' := 12) X dX1_make_82 rfl rfl ?_
  refine x_iconst (v := 1) X dX1_make_85 (by decide) ?_
  refine x_ialdN (i := 1) X dX1_make_86 rfl (by omega) (by omega) ?_
  rw [xgI_n (by omega), xgI_n (by omega), hj]
  refine x_aload_n X dX1_make_87 rfl ?_
  refine cv_X1_88 X (c_X2_copyRule hm hi ((dK_off.1 (c) (1) (by have := mC_b hm; omega)).trans hN) hN2 hj2) dX1_make_88 (xk0 hm) ⟨by decide, by decide, by decide, by decide⟩ rfl rfl (Nat.le_of_ble_eq_true rfl) (xk_v ?_)
  refine x_iconst (v := 0) X dX1_make_91 (by decide) ?_
  exact x_iret X dX1_make_92 (xp_i (by first | rfl | simp [*]) (by first | rfl | simp [*]))

set_option maxHeartbeats 4000000 in
set_option maxRecDepth 100000 in
theorem c_X1_make1 {l : Launch} {G : xG} {σ : xS} {i c n : Nat} (hi : i < 201) (hm : xMod c) (hn : xgI σ 11 1 = nI n) (hq : xgI σ 12 0 = 1) {v V : Nat} (hV : xgI σ c 0 = nI V) (hV8 : V ≤ 8) (hv : xgI σ 12 1 = nI v) (hv2 : v < V) : xFi l G yX1_make cX1_make 5 (Option.some Jvm.ClassFile.FieldType.int) 3 80 [.ref (G.2.1 11), .ref (G.2.1 (61 + i)), .ref (G.2.1 8), .ref (G.2.1 c), .ref (G.2.1 3)] σ (0) (rSingle (dK σ i 1 n) i (nI v) 1 (xgI (dK σ i 1 n) (c + 2) v).toInt64) := by
  refine xM.of (by decide) (Nat.le_of_ble_eq_true rfl) (fun pp ee ss mm aa bel met kk X => ?_)
  have X : xC pp ss mm met kk cX1_make 5 RX1 (Option.some Jvm.ClassFile.FieldType.int) G := X
  show xW pp l ee { frames := 3, cells := 0, slots := 0, locals := 80 } ss mm aa bel met kk 5 G 0 0 (xQ bel G (fun r t => r = some (.int (0)) ∧ t = (rSingle (dK σ i 1 n) i (nI v) 1 (xgI (dK σ i 1 n) (c + 2) v).toInt64)) aa ss) 0 [(0, .ref (G.2.1 11)), (1, .ref (G.2.1 (61 + i))), (2, .ref (G.2.1 8)), (3, .ref (G.2.1 c)), (4, .ref (G.2.1 3))] [] σ
  refine x_aload_n X dX1_make_0 rfl ?_
  refine x_aload_n X dX1_make_1 rfl ?_
  refine gf_X1_9 (k' := 12) X dX1_make_2 rfl rfl ?_
  refine x_iconst (v := 0) X dX1_make_5 (by decide) ?_
  refine x_ialdN (i := 0) X dX1_make_6 rfl (by omega) (by omega) ?_
  rw [hq]
  refine pf_X1_80 X dX1_make_7 (xck_row hi) ?_
  refine x_aload_n X dX1_make_10 rfl ?_
  refine x_aload_n X dX1_make_11 rfl ?_
  refine gf_X1_15 X dX1_make_12 rfl ?_
  rw [xgI_n (by omega), hn]
  refine pf_X1_85 X dX1_make_15 (xck_row hi) ?_
  refine x_aload_n X dX1_make_18 rfl ?_
  refine gf_X1_9 (k' := 12) X dX1_make_19 rfl rfl ?_
  refine x_iconst (v := 0) X dX1_make_22 (by decide) ?_
  refine x_ialdN (i := 0) X dX1_make_23 rfl (by omega) (by omega) ?_
  rw [xgI_n (by omega), xgI_n (by omega), hq]
  refine x_tableIn (off := 69) (tgt := 93) X dX1_make_24 (by decide) (by decide) rfl (by decide) ?_
  refine x_aload_n X dX1_make_93 rfl ?_
  refine x_aload_n X dX1_make_94 rfl ?_
  refine gf_X1_9 (k' := 12) X dX1_make_95 rfl rfl ?_
  refine x_iconst (v := 1) X dX1_make_98 (by decide) ?_
  refine x_ialdN (i := 1) X dX1_make_99 rfl (by omega) (by omega) ?_
  rw [xgI_n (by omega), xgI_n (by omega), hv]
  refine x_lconst (v := 1) X dX1_make_100 (by decide) ?_
  refine x_aload_n X dX1_make_101 rfl ?_
  refine x_aload_n X dX1_make_102 rfl ?_
  refine gf_X1_9 (k' := 12) X dX1_make_103 rfl rfl ?_
  refine x_iconst (v := 1) X dX1_make_106 (by decide) ?_
  refine x_ialdN (i := 1) X dX1_make_107 rfl (by omega) (by omega) ?_
  rw [xgI_n (by omega), xgI_n (by omega), hv]
  refine cv_X1_92 X (c_X2_highOf hm ((dK_off.1 (c) (0) (by have := mC_b hm; omega)).trans hV) hV8 hv2) dX1_make_108 (xk0 hm) ⟨by decide, by decide, by decide, by decide⟩ rfl rfl (Nat.le_of_ble_eq_true rfl) (xk_i ?_)
  refine x_i2l X dX1_make_111 ?_
  refine cv_X1_96 X (c_X5_setSingle hi) dX1_make_112 (xck_row hi) ⟨by decide, by decide, by decide, by decide⟩ rfl rfl (Nat.le_of_ble_eq_true rfl) (xk_v ?_)
  refine x_iconst (v := 0) X dX1_make_115 (by decide) ?_
  exact x_iret X dX1_make_116 (xp_i (by first | rfl | simp [*]) (by first | rfl | simp [*]))

set_option maxHeartbeats 4000000 in
set_option maxRecDepth 100000 in
theorem c_X1_make2 {l : Launch} {G : xG} {σ : xS} {i c n : Nat} (hi : i < 201) (hm : xMod c) (hn : xgI σ 11 1 = nI n) (hq : xgI σ 12 0 = 2) {v V : Nat} (hV : xgI σ c 0 = nI V) (hV8 : V ≤ 8) (hv : xgI σ 12 1 = nI v) (hv2 : v < V) : xFi l G yX1_make cX1_make 5 (Option.some Jvm.ClassFile.FieldType.int) 3 80 [.ref (G.2.1 11), .ref (G.2.1 (61 + i)), .ref (G.2.1 8), .ref (G.2.1 c), .ref (G.2.1 3)] σ (0) (rSingle (dK σ i 2 n) i (nI v) (-1) (-xgI (dK σ i 2 n) (c + 1) v).toInt64) := by
  refine xM.of (by decide) (Nat.le_of_ble_eq_true rfl) (fun pp ee ss mm aa bel met kk X => ?_)
  have X : xC pp ss mm met kk cX1_make 5 RX1 (Option.some Jvm.ClassFile.FieldType.int) G := X
  show xW pp l ee { frames := 3, cells := 0, slots := 0, locals := 80 } ss mm aa bel met kk 5 G 0 0 (xQ bel G (fun r t => r = some (.int (0)) ∧ t = (rSingle (dK σ i 2 n) i (nI v) (-1) (-xgI (dK σ i 2 n) (c + 1) v).toInt64)) aa ss) 0 [(0, .ref (G.2.1 11)), (1, .ref (G.2.1 (61 + i))), (2, .ref (G.2.1 8)), (3, .ref (G.2.1 c)), (4, .ref (G.2.1 3))] [] σ
  refine x_aload_n X dX1_make_0 rfl ?_
  refine x_aload_n X dX1_make_1 rfl ?_
  refine gf_X1_9 (k' := 12) X dX1_make_2 rfl rfl ?_
  refine x_iconst (v := 0) X dX1_make_5 (by decide) ?_
  refine x_ialdN (i := 0) X dX1_make_6 rfl (by omega) (by omega) ?_
  rw [hq]
  refine pf_X1_80 X dX1_make_7 (xck_row hi) ?_
  refine x_aload_n X dX1_make_10 rfl ?_
  refine x_aload_n X dX1_make_11 rfl ?_
  refine gf_X1_15 X dX1_make_12 rfl ?_
  rw [xgI_n (by omega), hn]
  refine pf_X1_85 X dX1_make_15 (xck_row hi) ?_
  refine x_aload_n X dX1_make_18 rfl ?_
  refine gf_X1_9 (k' := 12) X dX1_make_19 rfl rfl ?_
  refine x_iconst (v := 0) X dX1_make_22 (by decide) ?_
  refine x_ialdN (i := 0) X dX1_make_23 rfl (by omega) (by omega) ?_
  rw [xgI_n (by omega), xgI_n (by omega), hq]
  refine x_tableIn (off := 93) (tgt := 117) X dX1_make_24 (by decide) (by decide) rfl (by decide) ?_
  refine x_aload_n X dX1_make_117 rfl ?_
  refine x_aload_n X dX1_make_118 rfl ?_
  refine gf_X1_9 (k' := 12) X dX1_make_119 rfl rfl ?_
  refine x_iconst (v := 1) X dX1_make_122 (by decide) ?_
  refine x_ialdN (i := 1) X dX1_make_123 rfl (by omega) (by omega) ?_
  rw [xgI_n (by omega), xgI_n (by omega), hv]
  refine x_ldc2 X dX1_make_124 wk_X1_100 ?_
  refine x_aload_n X dX1_make_127 rfl ?_
  refine x_aload_n X dX1_make_128 rfl ?_
  refine gf_X1_9 (k' := 12) X dX1_make_129 rfl rfl ?_
  refine x_iconst (v := 1) X dX1_make_132 (by decide) ?_
  refine x_ialdN (i := 1) X dX1_make_133 rfl (by omega) (by omega) ?_
  rw [xgI_n (by omega), xgI_n (by omega), hv]
  refine cv_X1_102 X (c_X2_lowOf hm ((dK_off.1 (c) (0) (by have := mC_b hm; omega)).trans hV) hV8 hv2) dX1_make_134 (xk0 hm) ⟨by decide, by decide, by decide, by decide⟩ rfl rfl (Nat.le_of_ble_eq_true rfl) (xk_i ?_)
  refine x_ineg X dX1_make_137 ?_
  refine x_i2l X dX1_make_138 ?_
  refine cv_X1_96 X (c_X5_setSingle hi) dX1_make_139 (xck_row hi) ⟨by decide, by decide, by decide, by decide⟩ rfl rfl (Nat.le_of_ble_eq_true rfl) (xk_v ?_)
  refine x_iconst (v := 0) X dX1_make_142 (by decide) ?_
  exact x_iret X dX1_make_143 (xp_i (by first | rfl | simp [*]) (by first | rfl | simp [*]))

set_option maxHeartbeats 4000000 in
set_option maxRecDepth 100000 in
theorem c_X1_make3 {l : Launch} {G : xG} {σ : xS} {i c n : Nat} (hi : i < 201) (hm : xMod c) (hn : xgI σ 11 1 = nI n) (hq : xgI σ 12 0 = 3) {j N f g P : Nat} (hN : xgI σ c 2 = nI N) (hN2 : N ≤ 4) (hj : xgI σ 12 1 = nI j) (hj2 : j < N) (hf : xgI σ (c + 6) j = nI f) (hf8 : f < 8) (hg : xgI σ (c + 7) j = nI g) (hg8 : g < 8) (hP : xgI σ (c + 8) j = nI P) (hP2 : P ≤ 20) : xFi l G yX1_make cX1_make 5 (Option.some Jvm.ClassFile.FieldType.int) 3 80 [.ref (G.2.1 11), .ref (G.2.1 (61 + i)), .ref (G.2.1 8), .ref (G.2.1 c), .ref (G.2.1 3)] σ (0) (mCt (xsL (xsL (dK σ i 3 n) (262 + i) f (xgI σ 12 2).toInt64) (262 + i) g (xgI σ 12 3).toInt64) i (mG (dK σ i 3 n) c j (xgI σ 12 2) (xgI σ 12 3)) P) := by
  refine xM.of (by decide) (Nat.le_of_ble_eq_true rfl) (fun pp ee ss mm aa bel met kk X => ?_)
  have X : xC pp ss mm met kk cX1_make 5 RX1 (Option.some Jvm.ClassFile.FieldType.int) G := X
  show xW pp l ee { frames := 3, cells := 0, slots := 0, locals := 80 } ss mm aa bel met kk 5 G 0 0 (xQ bel G (fun r t => r = some (.int (0)) ∧ t = (mCt (xsL (xsL (dK σ i 3 n) (262 + i) f (xgI σ 12 2).toInt64) (262 + i) g (xgI σ 12 3).toInt64) i (mG (dK σ i 3 n) c j (xgI σ 12 2) (xgI σ 12 3)) P)) aa ss) 0 [(0, .ref (G.2.1 11)), (1, .ref (G.2.1 (61 + i))), (2, .ref (G.2.1 8)), (3, .ref (G.2.1 c)), (4, .ref (G.2.1 3))] [] σ
  refine x_aload_n X dX1_make_0 rfl ?_
  refine x_aload_n X dX1_make_1 rfl ?_
  refine gf_X1_9 (k' := 12) X dX1_make_2 rfl rfl ?_
  refine x_iconst (v := 0) X dX1_make_5 (by decide) ?_
  refine x_ialdN (i := 0) X dX1_make_6 rfl (by omega) (by omega) ?_
  rw [hq]
  refine pf_X1_80 X dX1_make_7 (xck_row hi) ?_
  refine x_aload_n X dX1_make_10 rfl ?_
  refine x_aload_n X dX1_make_11 rfl ?_
  refine gf_X1_15 X dX1_make_12 rfl ?_
  rw [xgI_n (by omega), hn]
  refine pf_X1_85 X dX1_make_15 (xck_row hi) ?_
  refine x_aload_n X dX1_make_18 rfl ?_
  refine gf_X1_9 (k' := 12) X dX1_make_19 rfl rfl ?_
  refine x_iconst (v := 0) X dX1_make_22 (by decide) ?_
  refine x_ialdN (i := 0) X dX1_make_23 rfl (by omega) (by omega) ?_
  rw [xgI_n (by omega), xgI_n (by omega), hq]
  refine x_tableIn (off := 120) (tgt := 144) X dX1_make_24 (by decide) (by decide) rfl (by decide) ?_
  refine x_aload_n X dX1_make_144 rfl ?_
  refine x_aload_n X dX1_make_145 rfl ?_
  refine gf_X1_9 (k' := 12) X dX1_make_146 rfl rfl ?_
  refine x_iconst (v := 1) X dX1_make_149 (by decide) ?_
  refine x_ialdN (i := 1) X dX1_make_150 rfl (by omega) (by omega) ?_
  rw [xgI_n (by omega), xgI_n (by omega), hj]
  refine x_aload_n X dX1_make_151 rfl ?_
  refine gf_X1_9 (k' := 12) X dX1_make_152 rfl rfl ?_
  refine x_iconst (v := 2) X dX1_make_155 (by decide) ?_
  refine x_ialdN (i := 2) X dX1_make_156 rfl (by omega) (by omega) ?_
  rw [xgI_n (by omega), xgI_n (by omega)]
  refine x_aload_n X dX1_make_157 rfl ?_
  refine gf_X1_9 (k' := 12) X dX1_make_158 rfl rfl ?_
  refine x_iconst (v := 3) X dX1_make_161 (by decide) ?_
  refine x_ialdN (i := 3) X dX1_make_162 rfl (by omega) (by omega) ?_
  rw [xgI_n (by omega), xgI_n (by omega)]
  refine x_aload_n X dX1_make_163 rfl ?_
  refine cv_X1_105 X (c_X2_copyTable hm hi ((dK_off.1 (c) (2) (by have := mC_b hm; omega)).trans hN) hN2 hj2 ((dK_off.1 (c + 6) (j) (by have := mC_b hm; omega)).trans hf) hf8 ((dK_off.1 (c + 7) (j) (by have := mC_b hm; omega)).trans hg) hg8 ((dK_off.1 (c + 8) (j) (by have := mC_b hm; omega)).trans hP) hP2) dX1_make_164 (xk0 hm) ⟨by decide, by decide, by decide, by decide⟩ rfl rfl (Nat.le_of_ble_eq_true rfl) (xk_v ?_)
  refine x_iconst (v := 0) X dX1_make_167 (by decide) ?_
  exact x_iret X dX1_make_168 (xp_i (by first | rfl | simp [*]) (by first | rfl | simp [*]))

set_option maxHeartbeats 4000000 in
set_option maxRecDepth 100000 in
theorem c_X1_make4 {l : Launch} {G : xG} {σ : xS} {i c n : Nat} (hi : i < 201) (hm : xMod c) (hn : xgI σ 11 1 = nI n) (hq : xgI σ 12 0 = 4) {nr : Nat} (hr : nr ≤ 200) (hc : xgI σ 8 3 = nI nr) {k : Nat} {pr : Nat → Nat} (hk : k ≤ 4) (hnk : n = 2 + 2 * k) (hpr : ∀ m, m < k → xgI σ 12 (2 + 2 * m) = nI (pr m) ∧ pr m < nr) : xFi l G yX1_make cX1_make 5 (Option.some Jvm.ClassFile.FieldType.int) 3 80 [.ref (G.2.1 11), .ref (G.2.1 (61 + i)), .ref (G.2.1 8), .ref (G.2.1 c), .ref (G.2.1 3)] σ (0) (dSum (dK σ i 4 n) i pr (fun m => xgI (dK σ i 4 n) 12 (2 + 2 * m + 1)) k) := by
  refine xM.of (by decide) (Nat.le_of_ble_eq_true rfl) (fun pp ee ss mm aa bel met kk X => ?_)
  have X : xC pp ss mm met kk cX1_make 5 RX1 (Option.some Jvm.ClassFile.FieldType.int) G := X
  show xW pp l ee { frames := 3, cells := 0, slots := 0, locals := 80 } ss mm aa bel met kk 5 G 0 0 (xQ bel G (fun r t => r = some (.int (0)) ∧ t = (dSum (dK σ i 4 n) i pr (fun m => xgI (dK σ i 4 n) 12 (2 + 2 * m + 1)) k)) aa ss) 0 [(0, .ref (G.2.1 11)), (1, .ref (G.2.1 (61 + i))), (2, .ref (G.2.1 8)), (3, .ref (G.2.1 c)), (4, .ref (G.2.1 3))] [] σ
  refine x_aload_n X dX1_make_0 rfl ?_
  refine x_aload_n X dX1_make_1 rfl ?_
  refine gf_X1_9 (k' := 12) X dX1_make_2 rfl rfl ?_
  refine x_iconst (v := 0) X dX1_make_5 (by decide) ?_
  refine x_ialdN (i := 0) X dX1_make_6 rfl (by omega) (by omega) ?_
  rw [hq]
  refine pf_X1_80 X dX1_make_7 (xck_row hi) ?_
  refine x_aload_n X dX1_make_10 rfl ?_
  refine x_aload_n X dX1_make_11 rfl ?_
  refine gf_X1_15 X dX1_make_12 rfl ?_
  rw [xgI_n (by omega), hn]
  refine pf_X1_85 X dX1_make_15 (xck_row hi) ?_
  refine x_aload_n X dX1_make_18 rfl ?_
  refine gf_X1_9 (k' := 12) X dX1_make_19 rfl rfl ?_
  refine x_iconst (v := 0) X dX1_make_22 (by decide) ?_
  refine x_ialdN (i := 0) X dX1_make_23 rfl (by omega) (by omega) ?_
  rw [xgI_n (by omega), xgI_n (by omega), hq]
  refine x_tableIn (off := 145) (tgt := 169) X dX1_make_24 (by decide) (by decide) rfl (by decide) ?_
  refine x_aload_n X dX1_make_169 rfl ?_
  refine x_aload_n X dX1_make_170 rfl ?_
  refine x_aload_n X dX1_make_171 rfl ?_
  refine cv_X1_109 X (c_X1_fillSum hi hr ((dK_off.1 8 3 (by omega)).trans hc) hk ((dK_off.1 11 1 (by omega)).trans (hn.trans (by rw [hnk]))) (fun m hm2 => ⟨(dK_off.1 12 _ (by omega)).trans (hpr m hm2).1, (hpr m hm2).2⟩)) dX1_make_172 rfl ⟨by decide, by decide, by decide, by decide⟩ rfl rfl (Nat.le_of_ble_eq_true rfl) (xk_i ?_)
  exact x_iret X dX1_make_175 (xp_i (by first | rfl | simp [*]) (by first | rfl | simp [*]))

set_option maxHeartbeats 4000000 in
set_option maxRecDepth 100000 in
theorem c_X1_make5 {l : Launch} {G : xG} {σ : xS} {i c n : Nat} (hi : i < 201) (hm : xMod c) (hn : xgI σ 11 1 = nI n) (hq : xgI σ 12 0 = 5) {nr : Nat} (hr : nr ≤ 200) (hc : xgI σ 8 3 = nI nr) {j d : Nat} (hj : xgI σ 12 1 = nI j) (hj2 : j < nr) (hd : xgI σ 12 2 = nI d) (hd2 : 2 ≤ d) (hd3 : d ≤ 1000) (hij : i ≠ j) : xM l G yX1_make cX1_make 5 (Option.some Jvm.ClassFile.FieldType.int) 3 80 [.ref (G.2.1 11), .ref (G.2.1 (61 + i)), .ref (G.2.1 8), .ref (G.2.1 c), .ref (G.2.1 3)] σ (fun r t => (dDivs (dK σ i 5 n) j (nI d).toInt64 ∧ r = some (.int 0) ∧ t = dDone (dK σ i 5 n) i j (nI d).toInt64) ∨ (¬ dDivs (dK σ i 5 n) j (nI d).toInt64 ∧ r = some (.int 5) ∧ xOff i (dK σ i 5 n) t)) := by
  refine xM.of (by decide) (Nat.le_of_ble_eq_true rfl) (fun pp ee ss mm aa bel met kk X => ?_)
  have X : xC pp ss mm met kk cX1_make 5 RX1 (Option.some Jvm.ClassFile.FieldType.int) G := X
  show xW pp l ee { frames := 3, cells := 0, slots := 0, locals := 80 } ss mm aa bel met kk 5 G 0 0 (xQ bel G (fun r t => (dDivs (dK σ i 5 n) j (nI d).toInt64 ∧ r = some (.int 0) ∧ t = dDone (dK σ i 5 n) i j (nI d).toInt64) ∨ (¬ dDivs (dK σ i 5 n) j (nI d).toInt64 ∧ r = some (.int 5) ∧ xOff i (dK σ i 5 n) t)) aa ss) 0 [(0, .ref (G.2.1 11)), (1, .ref (G.2.1 (61 + i))), (2, .ref (G.2.1 8)), (3, .ref (G.2.1 c)), (4, .ref (G.2.1 3))] [] σ
  refine x_aload_n X dX1_make_0 rfl ?_
  refine x_aload_n X dX1_make_1 rfl ?_
  refine gf_X1_9 (k' := 12) X dX1_make_2 rfl rfl ?_
  refine x_iconst (v := 0) X dX1_make_5 (by decide) ?_
  refine x_ialdN (i := 0) X dX1_make_6 rfl (by omega) (by omega) ?_
  rw [hq]
  refine pf_X1_80 X dX1_make_7 (xck_row hi) ?_
  refine x_aload_n X dX1_make_10 rfl ?_
  refine x_aload_n X dX1_make_11 rfl ?_
  refine gf_X1_15 X dX1_make_12 rfl ?_
  rw [xgI_n (by omega), hn]
  refine pf_X1_85 X dX1_make_15 (xck_row hi) ?_
  refine x_aload_n X dX1_make_18 rfl ?_
  refine gf_X1_9 (k' := 12) X dX1_make_19 rfl rfl ?_
  refine x_iconst (v := 0) X dX1_make_22 (by decide) ?_
  refine x_ialdN (i := 0) X dX1_make_23 rfl (by omega) (by omega) ?_
  rw [xgI_n (by omega), xgI_n (by omega), hq]
  refine x_tableIn (off := 152) (tgt := 176) X dX1_make_24 (by decide) (by decide) rfl (by decide) ?_
  refine x_aload_n X dX1_make_176 rfl ?_
  refine x_aload_n X dX1_make_177 rfl ?_
  refine x_aload_n X dX1_make_178 rfl ?_
  refine gf_X1_9 (k' := 12) X dX1_make_179 rfl rfl ?_
  refine x_iconst (v := 1) X dX1_make_182 (by decide) ?_
  refine x_ialdN (i := 1) X dX1_make_183 rfl (by omega) (by omega) ?_
  rw [xgI_n (by omega), xgI_n (by omega), hj]
  refine cv_X1_113 X (c_X6_at hr ((dK_off.1 8 3 (by omega)).trans hc) hj2) dX1_make_184 rfl ⟨by decide, by decide, by decide, by decide⟩ rfl rfl (Nat.le_of_ble_eq_true rfl) (xk_r ?_)
  refine x_aload_n X dX1_make_187 rfl ?_
  refine gf_X1_9 (k' := 12) X dX1_make_188 rfl rfl ?_
  refine x_iconst (v := 2) X dX1_make_191 (by decide) ?_
  refine x_ialdN (i := 2) X dX1_make_192 rfl (by omega) (by omega) ?_
  rw [xgI_n (by omega), xgI_n (by omega), hd]
  refine cs_X1_116 X (c_X1_fillDivided hi (by omega) hij hd2 hd3) dX1_make_193 ⟨by decide, by decide, by decide, by decide⟩ rfl rfl (Nat.le_of_ble_eq_true rfl) (fun r0 τ hpo => ?_)
  obtain ⟨x, rfl⟩ : ∃ x : Int32, r0 = some (.int x) := by
    rcases hpo with ⟨h1, h3, h2⟩ | ⟨h1, h3, h2⟩
    · exact ⟨0, h3⟩
    · exact ⟨5, h3⟩
  exact x_iret X dX1_make_196 (hpo)

set_option maxHeartbeats 4000000 in
set_option maxRecDepth 100000 in
theorem c_X1_make6 {l : Launch} {G : xG} {σ : xS} {i c n : Nat} (hi : i < 201) (hm : xMod c) (hn : xgI σ 11 1 = nI n) (hq : xgI σ 12 0 = 6)  : xFi l G yX1_make cX1_make 5 (Option.some Jvm.ClassFile.FieldType.int) 3 80 [.ref (G.2.1 11), .ref (G.2.1 (61 + i)), .ref (G.2.1 8), .ref (G.2.1 c), .ref (G.2.1 3)] σ (0) (dBrn (dK σ i 6 n) i) := by
  refine xM.of (by decide) (Nat.le_of_ble_eq_true rfl) (fun pp ee ss mm aa bel met kk X => ?_)
  have X : xC pp ss mm met kk cX1_make 5 RX1 (Option.some Jvm.ClassFile.FieldType.int) G := X
  show xW pp l ee { frames := 3, cells := 0, slots := 0, locals := 80 } ss mm aa bel met kk 5 G 0 0 (xQ bel G (fun r t => r = some (.int (0)) ∧ t = (dBrn (dK σ i 6 n) i)) aa ss) 0 [(0, .ref (G.2.1 11)), (1, .ref (G.2.1 (61 + i))), (2, .ref (G.2.1 8)), (3, .ref (G.2.1 c)), (4, .ref (G.2.1 3))] [] σ
  refine x_aload_n X dX1_make_0 rfl ?_
  refine x_aload_n X dX1_make_1 rfl ?_
  refine gf_X1_9 (k' := 12) X dX1_make_2 rfl rfl ?_
  refine x_iconst (v := 0) X dX1_make_5 (by decide) ?_
  refine x_ialdN (i := 0) X dX1_make_6 rfl (by omega) (by omega) ?_
  rw [hq]
  refine pf_X1_80 X dX1_make_7 (xck_row hi) ?_
  refine x_aload_n X dX1_make_10 rfl ?_
  refine x_aload_n X dX1_make_11 rfl ?_
  refine gf_X1_15 X dX1_make_12 rfl ?_
  rw [xgI_n (by omega), hn]
  refine pf_X1_85 X dX1_make_15 (xck_row hi) ?_
  refine x_aload_n X dX1_make_18 rfl ?_
  refine gf_X1_9 (k' := 12) X dX1_make_19 rfl rfl ?_
  refine x_iconst (v := 0) X dX1_make_22 (by decide) ?_
  refine x_ialdN (i := 0) X dX1_make_23 rfl (by omega) (by omega) ?_
  rw [xgI_n (by omega), xgI_n (by omega), hq]
  refine x_tableIn (off := 173) (tgt := 197) X dX1_make_24 (by decide) (by decide) rfl (by decide) ?_
  refine x_aload_n X dX1_make_197 rfl ?_
  refine x_aload_n X dX1_make_198 rfl ?_
  refine cv_X1_120 X (c_X1_fillBranch hi) dX1_make_199 rfl ⟨by decide, by decide, by decide, by decide⟩ rfl rfl (Nat.le_of_ble_eq_true rfl) (xk_i ?_)
  exact x_iret X dX1_make_202 (xp_i (by first | rfl | simp [*]) (by first | rfl | simp [*]))

set_option maxHeartbeats 4000000 in
set_option maxRecDepth 100000 in
theorem c_X1_make7 {l : Launch} {G : xG} {σ : xS} {i c n : Nat} (hi : i < 201) (hm : xMod c) (hn : xgI σ 11 1 = nI n) (hq : xgI σ 12 0 = 7) {nr : Nat} (hr : nr ≤ 200) (hc : xgI σ 8 3 = nI nr) {a b e d : Nat} (ha : xgI σ 12 1 = nI a) (ha2 : a < nr) (hb : xgI σ 12 2 = nI b) (hb2 : b < nr) (he : xgI σ 12 3 = nI e) (he2 : e < nr) (hd : xgI σ 12 4 = nI d) (hd2 : d < nr) (hia : i ≠ a) (hib : i ≠ b) (hie : i ≠ e) (hid : i ≠ d) : xFi l G yX1_make cX1_make 5 (Option.some Jvm.ClassFile.FieldType.int) 3 80 [.ref (G.2.1 11), .ref (G.2.1 (61 + i)), .ref (G.2.1 8), .ref (G.2.1 c), .ref (G.2.1 3)] σ ((dJoin (dK σ i 7 n) i a b e d).1) ((dJoin (dK σ i 7 n) i a b e d).2) := by
  refine xM.of (by decide) (Nat.le_of_ble_eq_true rfl) (fun pp ee ss mm aa bel met kk X => ?_)
  have X : xC pp ss mm met kk cX1_make 5 RX1 (Option.some Jvm.ClassFile.FieldType.int) G := X
  show xW pp l ee { frames := 3, cells := 0, slots := 0, locals := 80 } ss mm aa bel met kk 5 G 0 0 (xQ bel G (fun r t => r = some (.int ((dJoin (dK σ i 7 n) i a b e d).1)) ∧ t = ((dJoin (dK σ i 7 n) i a b e d).2)) aa ss) 0 [(0, .ref (G.2.1 11)), (1, .ref (G.2.1 (61 + i))), (2, .ref (G.2.1 8)), (3, .ref (G.2.1 c)), (4, .ref (G.2.1 3))] [] σ
  refine x_aload_n X dX1_make_0 rfl ?_
  refine x_aload_n X dX1_make_1 rfl ?_
  refine gf_X1_9 (k' := 12) X dX1_make_2 rfl rfl ?_
  refine x_iconst (v := 0) X dX1_make_5 (by decide) ?_
  refine x_ialdN (i := 0) X dX1_make_6 rfl (by omega) (by omega) ?_
  rw [hq]
  refine pf_X1_80 X dX1_make_7 (xck_row hi) ?_
  refine x_aload_n X dX1_make_10 rfl ?_
  refine x_aload_n X dX1_make_11 rfl ?_
  refine gf_X1_15 X dX1_make_12 rfl ?_
  rw [xgI_n (by omega), hn]
  refine pf_X1_85 X dX1_make_15 (xck_row hi) ?_
  refine x_aload_n X dX1_make_18 rfl ?_
  refine gf_X1_9 (k' := 12) X dX1_make_19 rfl rfl ?_
  refine x_iconst (v := 0) X dX1_make_22 (by decide) ?_
  refine x_ialdN (i := 0) X dX1_make_23 rfl (by omega) (by omega) ?_
  rw [xgI_n (by omega), xgI_n (by omega), hq]
  refine x_tableIn (off := 179) (tgt := 203) X dX1_make_24 (by decide) (by decide) rfl (by decide) ?_
  refine x_aload_n X dX1_make_203 rfl ?_
  refine x_aload_n X dX1_make_204 rfl ?_
  refine x_aload_n X dX1_make_205 rfl ?_
  refine cv_X1_124 X (c_X1_fillJoined hi hr ((dK_off.1 8 3 (by omega)).trans hc) ((dK_off.1 12 1 (by omega)).trans ha) ha2 ((dK_off.1 12 2 (by omega)).trans hb) hb2 ((dK_off.1 12 3 (by omega)).trans he) he2 ((dK_off.1 12 4 (by omega)).trans hd) hd2 hia hib hie hid) dX1_make_206 rfl ⟨by decide, by decide, by decide, by decide⟩ rfl rfl (Nat.le_of_ble_eq_true rfl) (xk_i ?_)
  exact x_iret X dX1_make_209 (xp_i (by first | rfl | simp [*]) (by first | rfl | simp [*]))

set_option maxHeartbeats 4000000 in
set_option maxRecDepth 100000 in
theorem c_X1_make8 {l : Launch} {G : xG} {σ : xS} {i c n : Nat} (hi : i < 201) (hm : xMod c) (hn : xgI σ 11 1 = nI n) (hq : xgI σ 12 0 = 8) {np z : Nat} (hp : np ≤ 8) (hc : xgI σ 3 2 = nI np) (hz : xgI σ 12 1 = nI z) (hz2 : z < np) : xFi l G yX1_make cX1_make 5 (Option.some Jvm.ClassFile.FieldType.int) 3 80 [.ref (G.2.1 11), .ref (G.2.1 (61 + i)), .ref (G.2.1 8), .ref (G.2.1 c), .ref (G.2.1 3)] σ (0) (dBet (dK σ i 8 n) i c z) := by
  refine xM.of (by decide) (Nat.le_of_ble_eq_true rfl) (fun pp ee ss mm aa bel met kk X => ?_)
  have X : xC pp ss mm met kk cX1_make 5 RX1 (Option.some Jvm.ClassFile.FieldType.int) G := X
  show xW pp l ee { frames := 3, cells := 0, slots := 0, locals := 80 } ss mm aa bel met kk 5 G 0 0 (xQ bel G (fun r t => r = some (.int (0)) ∧ t = (dBet (dK σ i 8 n) i c z)) aa ss) 0 [(0, .ref (G.2.1 11)), (1, .ref (G.2.1 (61 + i))), (2, .ref (G.2.1 8)), (3, .ref (G.2.1 c)), (4, .ref (G.2.1 3))] [] σ
  refine x_aload_n X dX1_make_0 rfl ?_
  refine x_aload_n X dX1_make_1 rfl ?_
  refine gf_X1_9 (k' := 12) X dX1_make_2 rfl rfl ?_
  refine x_iconst (v := 0) X dX1_make_5 (by decide) ?_
  refine x_ialdN (i := 0) X dX1_make_6 rfl (by omega) (by omega) ?_
  rw [hq]
  refine pf_X1_80 X dX1_make_7 (xck_row hi) ?_
  refine x_aload_n X dX1_make_10 rfl ?_
  refine x_aload_n X dX1_make_11 rfl ?_
  refine gf_X1_15 X dX1_make_12 rfl ?_
  rw [xgI_n (by omega), hn]
  refine pf_X1_85 X dX1_make_15 (xck_row hi) ?_
  refine x_aload_n X dX1_make_18 rfl ?_
  refine gf_X1_9 (k' := 12) X dX1_make_19 rfl rfl ?_
  refine x_iconst (v := 0) X dX1_make_22 (by decide) ?_
  refine x_ialdN (i := 0) X dX1_make_23 rfl (by omega) (by omega) ?_
  rw [xgI_n (by omega), xgI_n (by omega), hq]
  refine x_tableIn (off := 186) (tgt := 210) X dX1_make_24 (by decide) (by decide) rfl (by decide) ?_
  refine x_aload_n X dX1_make_210 rfl ?_
  refine x_aload_n X dX1_make_211 rfl ?_
  refine x_aload_n X dX1_make_212 rfl ?_
  refine x_aload X dX1_make_213 rfl ?_
  refine cv_X1_127 X (c_X1_fillBetter hi hm hp ((dK_off.1 3 2 (by omega)).trans hc) ((dK_off.1 12 1 (by omega)).trans hz) hz2) dX1_make_215 rfl ⟨by decide, by decide, by decide, by decide⟩ rfl rfl (Nat.le_of_ble_eq_true rfl) (xk_i ?_)
  exact x_iret X dX1_make_218 (xp_i (by first | rfl | simp [*]) (by first | rfl | simp [*]))

set_option maxHeartbeats 4000000 in
set_option maxRecDepth 100000 in
theorem c_X1_make9 {l : Launch} {G : xG} {σ : xS} {i c n : Nat} (hi : i < 201) (hm : xMod c) (hn : xgI σ 11 1 = nI n) (hq : xgI σ 12 0 = 9) {nr : Nat} (hr : nr ≤ 200) (hc : xgI σ 8 3 = nI nr) {j w V : Nat} (hj : xgI σ 12 1 = nI j) (hj2 : j < nr) (hw : xgI σ 12 2 = nI w) (hV : xgI σ c 0 = nI V) (hV8 : V ≤ 8) (hw2 : w < V) : xFi l G yX1_make cX1_make 5 (Option.some Jvm.ClassFile.FieldType.int) 3 80 [.ref (G.2.1 11), .ref (G.2.1 (61 + i)), .ref (G.2.1 8), .ref (G.2.1 c), .ref (G.2.1 3)] σ ((dPush (dK σ i 9 n) i j c V w).1) ((dPush (dK σ i 9 n) i j c V w).2) := by
  refine xM.of (by decide) (Nat.le_of_ble_eq_true rfl) (fun pp ee ss mm aa bel met kk X => ?_)
  have X : xC pp ss mm met kk cX1_make 5 RX1 (Option.some Jvm.ClassFile.FieldType.int) G := X
  show xW pp l ee { frames := 3, cells := 0, slots := 0, locals := 80 } ss mm aa bel met kk 5 G 0 0 (xQ bel G (fun r t => r = some (.int ((dPush (dK σ i 9 n) i j c V w).1)) ∧ t = ((dPush (dK σ i 9 n) i j c V w).2)) aa ss) 0 [(0, .ref (G.2.1 11)), (1, .ref (G.2.1 (61 + i))), (2, .ref (G.2.1 8)), (3, .ref (G.2.1 c)), (4, .ref (G.2.1 3))] [] σ
  refine x_aload_n X dX1_make_0 rfl ?_
  refine x_aload_n X dX1_make_1 rfl ?_
  refine gf_X1_9 (k' := 12) X dX1_make_2 rfl rfl ?_
  refine x_iconst (v := 0) X dX1_make_5 (by decide) ?_
  refine x_ialdN (i := 0) X dX1_make_6 rfl (by omega) (by omega) ?_
  rw [hq]
  refine pf_X1_80 X dX1_make_7 (xck_row hi) ?_
  refine x_aload_n X dX1_make_10 rfl ?_
  refine x_aload_n X dX1_make_11 rfl ?_
  refine gf_X1_15 X dX1_make_12 rfl ?_
  rw [xgI_n (by omega), hn]
  refine pf_X1_85 X dX1_make_15 (xck_row hi) ?_
  refine x_aload_n X dX1_make_18 rfl ?_
  refine gf_X1_9 (k' := 12) X dX1_make_19 rfl rfl ?_
  refine x_iconst (v := 0) X dX1_make_22 (by decide) ?_
  refine x_ialdN (i := 0) X dX1_make_23 rfl (by omega) (by omega) ?_
  rw [xgI_n (by omega), xgI_n (by omega), hq]
  refine x_tableIn (off := 195) (tgt := 219) X dX1_make_24 (by decide) (by decide) rfl (by decide) ?_
  refine x_aload_n X dX1_make_219 rfl ?_
  refine x_aload_n X dX1_make_220 rfl ?_
  refine x_aload_n X dX1_make_221 rfl ?_
  refine gf_X1_9 (k' := 12) X dX1_make_222 rfl rfl ?_
  refine x_iconst (v := 1) X dX1_make_225 (by decide) ?_
  refine x_ialdN (i := 1) X dX1_make_226 rfl (by omega) (by omega) ?_
  rw [xgI_n (by omega), xgI_n (by omega), hj]
  refine cv_X1_113 X (c_X6_at hr ((dK_off.1 8 3 (by omega)).trans hc) hj2) dX1_make_227 rfl ⟨by decide, by decide, by decide, by decide⟩ rfl rfl (Nat.le_of_ble_eq_true rfl) (xk_r ?_)
  refine x_aload_n X dX1_make_230 rfl ?_
  refine gf_X1_9 (k' := 12) X dX1_make_231 rfl rfl ?_
  refine x_iconst (v := 2) X dX1_make_234 (by decide) ?_
  refine x_ialdN (i := 2) X dX1_make_235 rfl (by omega) (by omega) ?_
  rw [xgI_n (by omega), xgI_n (by omega), hw]
  refine x_aload_n X dX1_make_236 rfl ?_
  refine cs_X1_131 X (c_X1_fillPushed hi (by omega) hm ((dK_off.1 (c) (0) (by have := mC_b hm; omega)).trans hV) hV8 (by omega)) dX1_make_237 ⟨by decide, by decide, by decide, by decide⟩ rfl rfl (Nat.le_of_ble_eq_true rfl) (xk_i ?_)
  exact x_iret X dX1_make_240 (xp_i (by first | rfl | simp [*]) (by first | rfl | simp [*]))
