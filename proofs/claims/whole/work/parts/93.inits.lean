theorem wz_oX0 : Cond.methodLink RX0 3 Lib.objectInit ∈ lw_tbl := tb1 (List.mem_of_getElem? (i := 72) rfl)

theorem wz_nX0 : Cond.instantiable RX0 10 ∈ lw_tbl := tb1 (List.mem_of_getElem? (i := 68) rfl)

theorem wz_oX1 : Cond.methodLink RX1 3 Lib.objectInit ∈ lw_tbl := tb1 (List.mem_of_getElem? (i := 160) rfl)

theorem wz_nX1 : Cond.instantiable RX1 2 ∈ lw_tbl := tb1 (List.mem_of_getElem? (i := 156) rfl)

theorem wz_oX2 : Cond.methodLink RX2 3 Lib.objectInit ∈ lw_tbl := tb1 (List.mem_of_getElem? (i := 212) rfl)

theorem wz_nX2 : Cond.instantiable RX2 14 ∈ lw_tbl := tb1 (List.mem_of_getElem? (i := 208) rfl)

theorem wz_oX4 : Cond.methodLink RX4 3 Lib.objectInit ∈ lw_tbl := tb1 (List.mem_of_getElem? (i := 53) rfl)

theorem wz_nX4 : Cond.instantiable RX4 3 ∈ lw_tbl := tb1 (List.mem_of_getElem? (i := 49) rfl)

theorem wz_oX5 : Cond.methodLink RX5 3 Lib.objectInit ∈ lw_tbl := tb1 (List.mem_of_getElem? (i := 85) rfl)

theorem wz_nX5 : Cond.instantiable RX5 11 ∈ lw_tbl := tb1 (List.mem_of_getElem? (i := 81) rfl)

theorem wz_oX6 : Cond.methodLink RX6 3 Lib.objectInit ∈ lw_tbl := tb1 (List.mem_of_getElem? (i := 78) rfl)

theorem wz_nX6 : Cond.instantiable RX6 5 ∈ lw_tbl := tb1 (List.mem_of_getElem? (i := 74) rfl)

theorem wz_oX7 : Cond.methodLink RX7 3 Lib.objectInit ∈ lw_tbl := tb1 (List.mem_of_getElem? (i := 31) rfl)

theorem wz_nX7 : Cond.instantiable RX7 4 ∈ lw_tbl := tb1 (List.mem_of_getElem? (i := 27) rfl)

theorem wz_oX8 : Cond.methodLink RX8 3 Lib.objectInit ∈ lw_tbl := tb1 (List.mem_of_getElem? (i := 23) rfl)

theorem wz_nX8 : Cond.instantiable RX8 6 ∈ lw_tbl := tb1 (List.mem_of_getElem? (i := 19) rfl)

theorem wz_oX9 : Cond.methodLink RX9 1 Lib.objectInit ∈ lw_tbl := tb4 (List.mem_of_getElem? (i := 155) rfl)

theorem wz_nX9 : Cond.instantiable RX9 40 ∈ lw_tbl := tb4 (List.mem_of_getElem? (i := 151) rfl)

theorem wz_cL_8 : Cond.classLink RL 8 RX8 ∈ lw_tbl := tb1 (List.mem_of_getElem? (i := 18) rfl)

theorem wz_cX8_9 : Cond.classLink RX8 9 RX7 ∈ lw_tbl := tb1 (List.mem_of_getElem? (i := 26) rfl)

theorem wz_cX8_16 : Cond.classLink RX8 16 RX4 ∈ lw_tbl := tb1 (List.mem_of_getElem? (i := 48) rfl)

theorem wz_cX4_9 : Cond.classLink RX4 9 "[[I" ∈ lw_tbl := tb1 (List.mem_of_getElem? (i := 54) rfl)

theorem wz_cX8_23 : Cond.classLink RX8 23 RX0 ∈ lw_tbl := tb1 (List.mem_of_getElem? (i := 67) rfl)

theorem wz_cX0_22 : Cond.classLink RX0 22 RX6 ∈ lw_tbl := tb1 (List.mem_of_getElem? (i := 73) rfl)

theorem wz_cX6_9 : Cond.classLink RX6 9 RX5 ∈ lw_tbl := tb1 (List.mem_of_getElem? (i := 79) rfl)

theorem wz_cX0_29 : Cond.classLink RX0 29 RX1 ∈ lw_tbl := tb1 (List.mem_of_getElem? (i := 155) rfl)

theorem wz_cX8_30 : Cond.classLink RX8 30 RX2 ∈ lw_tbl := tb1 (List.mem_of_getElem? (i := 207) rfl)

theorem wz_cX2_21 : Cond.classLink RX2 21 "[[I" ∈ lw_tbl := tb1 (List.mem_of_getElem? (i := 213) rfl)

theorem wz_cL_43 : Cond.classLink RL 43 RX9 ∈ lw_tbl := tb4 (List.mem_of_getElem? (i := 150) rfl)


theorem yF_i {D : va_G} {cs : Nat → ClassId} {n0 x n : Nat} (h : xck (ycof x) = (10, n)) : yF D cs n0 x = .inl (cs 0, n, .inl (fun _ => 0)) := by
  unfold yF
  rw [xcell_i h]
  have h6 : ycof x ≠ 6 := fun z => by rw [z] at h; cases h
  have h37 : ycof x ≠ 37 := fun z => by rw [z] at h; cases h
  have e : xgI y0 (ycof x) = fun _ => 0 := by funext b; show y0.1 (ycof x) b = 0; unfold y0; dsimp only; rw [if_neg h6, if_neg h37]
  rw [e]
  rfl
theorem yF_z {D : va_G} {cs : Nat → ClassId} {n0 x n : Nat} (h : xck (ycof x) = (12, n)) : yF D cs n0 x = .inl (cs 2, n, .inl (fun _ => 0)) := by
  unfold yF
  rw [xcell_z h]
  have h6 : ycof x ≠ 6 := fun z => by rw [z] at h; cases h
  have h37 : ycof x ≠ 37 := fun z => by rw [z] at h; cases h
  have e : xgI y0 (ycof x) = fun _ => 0 := by funext b; show y0.1 (ycof x) b = 0; unfold y0; dsimp only; rw [if_neg h6, if_neg h37]
  rw [e]
  rfl
theorem yF_l {D : va_G} {cs : Nat → ClassId} {n0 x n : Nat} (h : xck (ycof x) = (11, n)) : yF D cs n0 x = .inl (cs 1, n, .inr (.inl (fun _ => 0))) := by
  unfold yF
  rw [xcell_l h]
  rfl
theorem yF_a {D : va_G} {cs : Nat → ClassId} {n0 x n : Nat} (h : xck (ycof x) = (14, n)) : yF D cs n0 x = .inl (cs 4, n, .inr (.inr (.inr (.inr (fun j => some (n0 + yoff (xrf y0 (ycof x) j))))))) := by
  unfold yF
  rw [xcell_a h]
  rfl
theorem yF_r {D : va_G} {cs : Nat → ClassId} {n0 x n : Nat} (h : xck (ycof x) = (13, n)) : yF D cs n0 x = .inl (cs 3, n, .inr (.inr (.inr (.inr (fun j => some (n0 + yoff (xrf y0 (ycof x) j))))))) := by
  unfold yF
  rw [xcell_r h]
  rfl

theorem dfX0 : ∀ j, j < 10 → defaultValue (tyX0 j) = vp_V (yD 0) j := by decide +kernel

theorem xnm_X0_init : xNm yX0_init 0 := by unfold xNm; decide +kernel

theorem dfX1 : ∀ j, j < 2 → defaultValue (tyX1 j) = vp_V (yD 1) j := by decide +kernel

theorem xnm_X1_init : xNm yX1_init 0 := by unfold xNm; decide +kernel

theorem dfX2 : ∀ j, j < 14 → defaultValue (tyX2 j) = vp_V (yD 2) j := by decide +kernel

theorem xnm_X2_init : xNm yX2_init 0 := by unfold xNm; decide +kernel

theorem dfX4 : ∀ j, j < 3 → defaultValue (tyX4 j) = vp_V (yD 3) j := by decide +kernel

theorem xnm_X4_init : xNm yX4_init 0 := by unfold xNm; decide +kernel

theorem dfX5 : ∀ j, j < 11 → defaultValue (tyX5 j) = vp_V (yD 4) j := by decide +kernel

theorem xnm_X5_init : xNm yX5_init 0 := by unfold xNm; decide +kernel

theorem dfX6 : ∀ j, j < 5 → defaultValue (tyX6 j) = vp_V (yD 5) j := by decide +kernel

theorem xnm_X6_init : xNm yX6_init 0 := by unfold xNm; decide +kernel

theorem dfX7 : ∀ j, j < 4 → defaultValue (tyX7 j) = vp_V (yD 6) j := by decide +kernel

theorem xnm_X7_init : xNm yX7_init 0 := by unfold xNm; decide +kernel

theorem dfX8 : ∀ j, j < 6 → defaultValue (tyX8 j) = vp_V (yD 7) j := by decide +kernel

theorem xnm_X8_init : xNm yX8_init 0 := by unfold xNm; decide +kernel

theorem dfX9 : ∀ j, j < 40 → defaultValue (tyX9 j) = vp_V (yD 8) j := by decide +kernel

theorem xnm_X9_init : xNm yX9_init 0 := by unfold xNm; decide +kernel

set_option maxHeartbeats 4000000 in
set_option maxRecDepth 100000 in
theorem k_X7 {l : Launch} {D : va_G} {cs : Nat → ClassId} {n0 : Nat}  : yI l D cs n0 yX7_init cX7_init 1 1 12 1 1000 6 1 2 := by
  refine yI.of (by decide) (Nat.le_of_ble_eq_true rfl) (fun B0 pp ee ss mm aa bel met kk hB X hyK hnm => ?_)
  have X : xC pp ss mm met kk cX7_init 1 RX7 none (yG D cs n0) := X
  have hin : met.name = "<init>" := hnm
  refine y_eq (B' := yB D cs n0 B0 6 1 (yD 6)) (yB_i hB) ?_
  refine y_eq (B' := yB D cs n0 B0 6 1 [.null, .int 0, .int 0, .int 0]) (fun _ _ => rfl) ?_
  refine y_aload_n X dX7_init_0 rfl ?_
  refine y_objI X wz_oX7 dX7_init_1 ⟨by decide, by decide⟩ ?_
  refine y_aload_n X dX7_init_4 rfl ?_
  refine y_sipush (v := 1000) X dX7_init_5 (by decide) ?_
  refine y_newaI (n := 1000) (N := 2) (B' := yB D cs n0 B0 6 1 [.null, .int 0, .int 0, .int 0]) X dX7_init_8 (by decide) rfl (by decide) (fun _ _ => rfl) ((yB_n (by omega)).trans (yF_i (by decide +kernel))) ⟨by decide, by decide⟩ ?_
  refine y_putF (o := 1) (B' := yB D cs n0 B0 6 1 [.ref (n0 + 2), .int 0, .int 0, .int 0]) X hin (ci := 6) (j := 0) rfl (by decide) tyX7_ok nmX7 wf_X7_9 rfl rfl dX7_init_10 (by omega) yB_o (Nat.le_of_ble_eq_true rfl) rfl rfl (fun x _ hx => yB_s hx) (yB_o.trans rfl) ?_
  exact y_ret X dX7_init_13 (by decide) (by decide) rfl (yB_e rfl)

set_option maxHeartbeats 4000000 in
set_option maxRecDepth 100000 in
theorem k_X4 {l : Launch} {D : va_G} {cs : Nat → ClassId} {n0 : Nat}  : yI l D cs n0 yX4_init cX4_init 1 1 12 10 80 3 3 11 := by
  refine yI.of (by decide) (Nat.le_of_ble_eq_true rfl) (fun B0 pp ee ss mm aa bel met kk hB X hyK hnm => ?_)
  have X : xC pp ss mm met kk cX4_init 1 RX4 none (yG D cs n0) := X
  have hin : met.name = "<init>" := hnm
  refine y_eq (B' := yB D cs n0 B0 3 3 (yD 3)) (yB_i hB) ?_
  refine y_eq (B' := yB D cs n0 B0 3 3 [.null, .null, .int 0]) (fun _ _ => rfl) ?_
  refine y_aload_n X dX4_init_0 rfl ?_
  refine y_objI X wz_oX4 dX4_init_1 ⟨by decide, by decide⟩ ?_
  refine y_aload_n X dX4_init_4 rfl ?_
  refine y_bipush (v := 8) X dX4_init_5 (by decide) ?_
  refine y_bipush (v := 8) X dX4_init_7 (by decide) ?_
  refine y_mna (N' := 8) (K' := 8) (N := 4) (B' := yB D cs n0 B0 3 3 [.null, .null, .int 0]) X hyK wz_cX4_9 dX4_init_9 (by decide) (by decide) rfl rfl (by decide) (by decide) (fun _ _ => rfl) ((yB_n (by omega)).trans (yF_a (by decide +kernel))) (fun j hj => congrArg some (by rw [show yoff (xrf y0 (ycof 4) j) = 4 + 1 + j from (by decide +kernel : ∀ j, j < 8 → yoff (xrf y0 (ycof 4) j) = 4 + 1 + j) j hj]; omega)) (fun j hj => (yB_n (by omega)).trans (yF_i ((by decide +kernel : ∀ j, j < 8 → xck (ycof (4 + 1 + j)) = (10, 8)) j hj))) ⟨by decide, by decide⟩ ?_
  refine y_putF (o := 3) (B' := yB D cs n0 B0 3 3 [.ref (n0 + 4), .null, .int 0]) X hin (ci := 3) (j := 0) rfl (by decide) tyX4_ok nmX4 wf_X4_11 rfl rfl dX4_init_13 (by omega) yB_o (Nat.le_of_ble_eq_true rfl) rfl rfl (fun x _ hx => yB_s hx) (yB_o.trans rfl) ?_
  refine y_aload_n X dX4_init_16 rfl ?_
  refine y_bipush (v := 8) X dX4_init_17 (by decide) ?_
  refine y_newaI (n := 8) (N := 13) (B' := yB D cs n0 B0 3 3 [.ref (n0 + 4), .null, .int 0]) X dX4_init_19 (by decide) rfl (by decide) (fun _ _ => rfl) ((yB_n (by omega)).trans (yF_i (by decide +kernel))) ⟨by decide, by decide⟩ ?_
  refine y_putF (o := 3) (B' := yB D cs n0 B0 3 3 [.ref (n0 + 4), .ref (n0 + 13), .int 0]) X hin (ci := 3) (j := 1) rfl (by decide) tyX4_ok nmX4 wf_X4_16 rfl rfl dX4_init_21 (by omega) yB_o (Nat.le_of_ble_eq_true rfl) rfl rfl (fun x _ hx => yB_s hx) (yB_o.trans rfl) ?_
  exact y_ret X dX4_init_24 (by decide) (by decide) rfl (yB_e rfl)

set_option maxHeartbeats 4000000 in
set_option maxRecDepth 100000 in
theorem k_X5 {l : Launch} {D : va_G} {cs : Nat → ClassId} {n0 : Nat} {o : Nat} (hN : xck (ycof (o + 1)) = (11, 8)) (hF : yF D cs n0 o = .inr (4, [.ref (n0 + (o + 1)), .long 0, .long 0, .int 0, .long 0, .int 0, .int 0, .int 0, .int 0, .int 0, .int 0])) : yI l D cs n0 yX5_init cX5_init 1 1 12 1 8 4 o 2 := by
  refine yI.of (by decide) (Nat.le_of_ble_eq_true rfl) (fun B0 pp ee ss mm aa bel met kk hB X hyK hnm => ?_)
  have X : xC pp ss mm met kk cX5_init 1 RX5 none (yG D cs n0) := X
  have hin : met.name = "<init>" := hnm
  refine y_eq (B' := yB D cs n0 B0 4 o (yD 4)) (yB_i hB) ?_
  refine y_eq (B' := yB D cs n0 B0 4 o [.null, .long 0, .long 0, .int 0, .long 0, .int 0, .int 0, .int 0, .int 0, .int 0, .int 0]) (fun _ _ => rfl) ?_
  refine y_aload_n X dX5_init_0 rfl ?_
  refine y_objI X wz_oX5 dX5_init_1 ⟨by decide, by decide⟩ ?_
  refine y_aload_n X dX5_init_4 rfl ?_
  refine y_bipush (v := 8) X dX5_init_5 (by decide) ?_
  refine y_newaL (n := 8) (N := (o + 1)) (B' := yB D cs n0 B0 4 o [.null, .long 0, .long 0, .int 0, .long 0, .int 0, .int 0, .int 0, .int 0, .int 0, .int 0]) X dX5_init_7 (by decide) rfl (by decide) (fun _ _ => rfl) ((yB_n (by omega)).trans (yF_l hN)) ⟨by decide, by decide⟩ ?_
  refine y_putF (o := o) (B' := yB D cs n0 B0 4 o [.ref (n0 + (o + 1)), .long 0, .long 0, .int 0, .long 0, .int 0, .int 0, .int 0, .int 0, .int 0, .int 0]) X hin (ci := 4) (j := 0) rfl (by decide) tyX5_ok nmX5 wf_X5_9 rfl rfl dX5_init_9 (by omega) yB_o (Nat.le_of_ble_eq_true rfl) rfl rfl (fun x _ hx => yB_s hx) (yB_o.trans rfl) ?_
  exact y_ret X dX5_init_12 (by decide) (by decide) (by omega) (yB_e hF)

set_option maxHeartbeats 4000000 in
set_option maxRecDepth 100000 in
theorem k_X1 {l : Launch} {D : va_G} {cs : Nat → ClassId} {n0 : Nat}  : yI l D cs n0 yX1_init cX1_init 1 1 12 1 10 1 421 2 := by
  refine yI.of (by decide) (Nat.le_of_ble_eq_true rfl) (fun B0 pp ee ss mm aa bel met kk hB X hyK hnm => ?_)
  have X : xC pp ss mm met kk cX1_init 1 RX1 none (yG D cs n0) := X
  have hin : met.name = "<init>" := hnm
  refine y_eq (B' := yB D cs n0 B0 1 421 (yD 1)) (yB_i hB) ?_
  refine y_eq (B' := yB D cs n0 B0 1 421 [.null, .int 0]) (fun _ _ => rfl) ?_
  refine y_aload_n X dX1_init_0 rfl ?_
  refine y_objI X wz_oX1 dX1_init_1 ⟨by decide, by decide⟩ ?_
  refine y_aload_n X dX1_init_4 rfl ?_
  refine y_bipush (v := 10) X dX1_init_5 (by decide) ?_
  refine y_newaI (n := 10) (N := 422) (B' := yB D cs n0 B0 1 421 [.null, .int 0]) X dX1_init_7 (by decide) rfl (by decide) (fun _ _ => rfl) ((yB_n (by omega)).trans (yF_i (by decide +kernel))) ⟨by decide, by decide⟩ ?_
  refine y_putF (o := 421) (B' := yB D cs n0 B0 1 421 [.ref (n0 + 422), .int 0]) X hin (ci := 1) (j := 0) rfl (by decide) tyX1_ok nmX1 wf_X1_9 rfl rfl dX1_init_9 (by omega) yB_o (Nat.le_of_ble_eq_true rfl) rfl rfl (fun x _ hx => yB_s hx) (yB_o.trans rfl) ?_
  exact y_ret X dX1_init_12 (by decide) (by decide) rfl (yB_e rfl)

set_option maxHeartbeats 4000000 in
set_option maxRecDepth 100000 in
theorem k_X2a {l : Launch} {D : va_G} {cs : Nat → ClassId} {n0 : Nat}  : yI l D cs n0 yX2_init cX2_init 1 1 12 38 404 2 425 39 := by
  refine yI.of (by decide) (Nat.le_of_ble_eq_true rfl) (fun B0 pp ee ss mm aa bel met kk hB X hyK hnm => ?_)
  have X : xC pp ss mm met kk cX2_init 1 RX2 none (yG D cs n0) := X
  have hin : met.name = "<init>" := hnm
  refine y_eq (B' := yB D cs n0 B0 2 425 (yD 2)) (yB_i hB) ?_
  refine y_eq (B' := yB D cs n0 B0 2 425 [.int 0, .int 0, .int 0, .int 0, .null, .null, .null, .null, .null, .null, .null, .null, .null, .null]) (fun _ _ => rfl) ?_
  refine y_aload_n X dX2_init_0 rfl ?_
  refine y_objI X wz_oX2 dX2_init_1 ⟨by decide, by decide⟩ ?_
  refine y_aload_n X dX2_init_4 rfl ?_
  refine y_bipush (v := 8) X dX2_init_5 (by decide) ?_
  refine y_newaI (n := 8) (N := 426) (B' := yB D cs n0 B0 2 425 [.int 0, .int 0, .int 0, .int 0, .null, .null, .null, .null, .null, .null, .null, .null, .null, .null]) X dX2_init_7 (by decide) rfl (by decide) (fun _ _ => rfl) ((yB_n (by omega)).trans (yF_i (by decide +kernel))) ⟨by decide, by decide⟩ ?_
  refine y_putF (o := 425) (B' := yB D cs n0 B0 2 425 [.int 0, .int 0, .int 0, .int 0, .ref (n0 + 426), .null, .null, .null, .null, .null, .null, .null, .null, .null]) X hin (ci := 2) (j := 4) rfl (by decide) tyX2_ok nmX2 wf_X2_9 rfl rfl dX2_init_9 (by omega) yB_o (Nat.le_of_ble_eq_true rfl) rfl rfl (fun x _ hx => yB_s hx) (yB_o.trans rfl) ?_
  refine y_aload_n X dX2_init_12 rfl ?_
  refine y_bipush (v := 8) X dX2_init_13 (by decide) ?_
  refine y_newaI (n := 8) (N := 427) (B' := yB D cs n0 B0 2 425 [.int 0, .int 0, .int 0, .int 0, .ref (n0 + 426), .null, .null, .null, .null, .null, .null, .null, .null, .null]) X dX2_init_15 (by decide) rfl (by decide) (fun _ _ => rfl) ((yB_n (by omega)).trans (yF_i (by decide +kernel))) ⟨by decide, by decide⟩ ?_
  refine y_putF (o := 425) (B' := yB D cs n0 B0 2 425 [.int 0, .int 0, .int 0, .int 0, .ref (n0 + 426), .ref (n0 + 427), .null, .null, .null, .null, .null, .null, .null, .null]) X hin (ci := 2) (j := 5) rfl (by decide) tyX2_ok nmX2 wf_X2_15 rfl rfl dX2_init_17 (by omega) yB_o (Nat.le_of_ble_eq_true rfl) rfl rfl (fun x _ hx => yB_s hx) (yB_o.trans rfl) ?_
  refine y_aload_n X dX2_init_20 rfl ?_
  refine y_bipush (v := 8) X dX2_init_21 (by decide) ?_
  refine y_newaI (n := 8) (N := 428) (B' := yB D cs n0 B0 2 425 [.int 0, .int 0, .int 0, .int 0, .ref (n0 + 426), .ref (n0 + 427), .null, .null, .null, .null, .null, .null, .null, .null]) X dX2_init_23 (by decide) rfl (by decide) (fun _ _ => rfl) ((yB_n (by omega)).trans (yF_i (by decide +kernel))) ⟨by decide, by decide⟩ ?_
  refine y_putF (o := 425) (B' := yB D cs n0 B0 2 425 [.int 0, .int 0, .int 0, .int 0, .ref (n0 + 426), .ref (n0 + 427), .ref (n0 + 428), .null, .null, .null, .null, .null, .null, .null]) X hin (ci := 2) (j := 6) rfl (by decide) tyX2_ok nmX2 wf_X2_18 rfl rfl dX2_init_25 (by omega) yB_o (Nat.le_of_ble_eq_true rfl) rfl rfl (fun x _ hx => yB_s hx) (yB_o.trans rfl) ?_
  refine y_aload_n X dX2_init_28 rfl ?_
  refine y_bipush (v := 20) X dX2_init_29 (by decide) ?_
  refine y_bipush (v := 8) X dX2_init_31 (by decide) ?_
  refine y_mna (N' := 20) (K' := 8) (N := 429) (B' := yB D cs n0 B0 2 425 [.int 0, .int 0, .int 0, .int 0, .ref (n0 + 426), .ref (n0 + 427), .ref (n0 + 428), .null, .null, .null, .null, .null, .null, .null]) X hyK wz_cX2_21 dX2_init_33 (by decide) (by decide) rfl rfl (by decide) (by decide) (fun _ _ => rfl) ((yB_n (by omega)).trans (yF_a (by decide +kernel))) (fun j hj => congrArg some (by rw [show yoff (xrf y0 (ycof 429) j) = 429 + 1 + j from (by decide +kernel : ∀ j, j < 20 → yoff (xrf y0 (ycof 429) j) = 429 + 1 + j) j hj]; omega)) (fun j hj => (yB_n (by omega)).trans (yF_i ((by decide +kernel : ∀ j, j < 20 → xck (ycof (429 + 1 + j)) = (10, 8)) j hj))) ⟨by decide, by decide⟩ ?_
  refine y_putF (o := 425) (B' := yB D cs n0 B0 2 425 [.int 0, .int 0, .int 0, .int 0, .ref (n0 + 426), .ref (n0 + 427), .ref (n0 + 428), .ref (n0 + 429), .null, .null, .null, .null, .null, .null]) X hin (ci := 2) (j := 7) rfl (by decide) tyX2_ok nmX2 wf_X2_23 rfl rfl dX2_init_37 (by omega) yB_o (Nat.le_of_ble_eq_true rfl) rfl rfl (fun x _ hx => yB_s hx) (yB_o.trans rfl) ?_
  refine y_aload_n X dX2_init_40 rfl ?_
  refine y_bipush (v := 20) X dX2_init_41 (by decide) ?_
  refine y_newaI (n := 20) (N := 450) (B' := yB D cs n0 B0 2 425 [.int 0, .int 0, .int 0, .int 0, .ref (n0 + 426), .ref (n0 + 427), .ref (n0 + 428), .ref (n0 + 429), .null, .null, .null, .null, .null, .null]) X dX2_init_43 (by decide) rfl (by decide) (fun _ _ => rfl) ((yB_n (by omega)).trans (yF_i (by decide +kernel))) ⟨by decide, by decide⟩ ?_
  refine y_putF (o := 425) (B' := yB D cs n0 B0 2 425 [.int 0, .int 0, .int 0, .int 0, .ref (n0 + 426), .ref (n0 + 427), .ref (n0 + 428), .ref (n0 + 429), .ref (n0 + 450), .null, .null, .null, .null, .null]) X hin (ci := 2) (j := 8) rfl (by decide) tyX2_ok nmX2 wf_X2_26 rfl rfl dX2_init_45 (by omega) yB_o (Nat.le_of_ble_eq_true rfl) rfl rfl (fun x _ hx => yB_s hx) (yB_o.trans rfl) ?_
  refine y_aload_n X dX2_init_48 rfl ?_
  refine y_iconst (v := 4) X dX2_init_49 (by decide) ?_
  refine y_newaI (n := 4) (N := 451) (B' := yB D cs n0 B0 2 425 [.int 0, .int 0, .int 0, .int 0, .ref (n0 + 426), .ref (n0 + 427), .ref (n0 + 428), .ref (n0 + 429), .ref (n0 + 450), .null, .null, .null, .null, .null]) X dX2_init_50 (by decide) rfl (by decide) (fun _ _ => rfl) ((yB_n (by omega)).trans (yF_i (by decide +kernel))) ⟨by decide, by decide⟩ ?_
  refine y_putF (o := 425) (B' := yB D cs n0 B0 2 425 [.int 0, .int 0, .int 0, .int 0, .ref (n0 + 426), .ref (n0 + 427), .ref (n0 + 428), .ref (n0 + 429), .ref (n0 + 450), .ref (n0 + 451), .null, .null, .null, .null]) X hin (ci := 2) (j := 9) rfl (by decide) tyX2_ok nmX2 wf_X2_29 rfl rfl dX2_init_52 (by omega) yB_o (Nat.le_of_ble_eq_true rfl) rfl rfl (fun x _ hx => yB_s hx) (yB_o.trans rfl) ?_
  refine y_aload_n X dX2_init_55 rfl ?_
  refine y_iconst (v := 4) X dX2_init_56 (by decide) ?_
  refine y_newaI (n := 4) (N := 452) (B' := yB D cs n0 B0 2 425 [.int 0, .int 0, .int 0, .int 0, .ref (n0 + 426), .ref (n0 + 427), .ref (n0 + 428), .ref (n0 + 429), .ref (n0 + 450), .ref (n0 + 451), .null, .null, .null, .null]) X dX2_init_57 (by decide) rfl (by decide) (fun _ _ => rfl) ((yB_n (by omega)).trans (yF_i (by decide +kernel))) ⟨by decide, by decide⟩ ?_
  refine y_putF (o := 425) (B' := yB D cs n0 B0 2 425 [.int 0, .int 0, .int 0, .int 0, .ref (n0 + 426), .ref (n0 + 427), .ref (n0 + 428), .ref (n0 + 429), .ref (n0 + 450), .ref (n0 + 451), .ref (n0 + 452), .null, .null, .null]) X hin (ci := 2) (j := 10) rfl (by decide) tyX2_ok nmX2 wf_X2_32 rfl rfl dX2_init_59 (by omega) yB_o (Nat.le_of_ble_eq_true rfl) rfl rfl (fun x _ hx => yB_s hx) (yB_o.trans rfl) ?_
  refine y_aload_n X dX2_init_62 rfl ?_
  refine y_iconst (v := 4) X dX2_init_63 (by decide) ?_
  refine y_newaI (n := 4) (N := 453) (B' := yB D cs n0 B0 2 425 [.int 0, .int 0, .int 0, .int 0, .ref (n0 + 426), .ref (n0 + 427), .ref (n0 + 428), .ref (n0 + 429), .ref (n0 + 450), .ref (n0 + 451), .ref (n0 + 452), .null, .null, .null]) X dX2_init_64 (by decide) rfl (by decide) (fun _ _ => rfl) ((yB_n (by omega)).trans (yF_i (by decide +kernel))) ⟨by decide, by decide⟩ ?_
  refine y_putF (o := 425) (B' := yB D cs n0 B0 2 425 [.int 0, .int 0, .int 0, .int 0, .ref (n0 + 426), .ref (n0 + 427), .ref (n0 + 428), .ref (n0 + 429), .ref (n0 + 450), .ref (n0 + 451), .ref (n0 + 452), .ref (n0 + 453), .null, .null]) X hin (ci := 2) (j := 11) rfl (by decide) tyX2_ok nmX2 wf_X2_35 rfl rfl dX2_init_66 (by omega) yB_o (Nat.le_of_ble_eq_true rfl) rfl rfl (fun x _ hx => yB_s hx) (yB_o.trans rfl) ?_
  refine y_aload_n X dX2_init_69 rfl ?_
  refine y_iconst (v := 4) X dX2_init_70 (by decide) ?_
  refine y_bipush (v := 20) X dX2_init_71 (by decide) ?_
  refine y_mna (N' := 4) (K' := 20) (N := 454) (B' := yB D cs n0 B0 2 425 [.int 0, .int 0, .int 0, .int 0, .ref (n0 + 426), .ref (n0 + 427), .ref (n0 + 428), .ref (n0 + 429), .ref (n0 + 450), .ref (n0 + 451), .ref (n0 + 452), .ref (n0 + 453), .null, .null]) X hyK wz_cX2_21 dX2_init_73 (by decide) (by decide) rfl rfl (by decide) (by decide) (fun _ _ => rfl) ((yB_n (by omega)).trans (yF_a (by decide +kernel))) (fun j hj => congrArg some (by rw [show yoff (xrf y0 (ycof 454) j) = 454 + 1 + j from (by decide +kernel : ∀ j, j < 4 → yoff (xrf y0 (ycof 454) j) = 454 + 1 + j) j hj]; omega)) (fun j hj => (yB_n (by omega)).trans (yF_i ((by decide +kernel : ∀ j, j < 4 → xck (ycof (454 + 1 + j)) = (10, 20)) j hj))) ⟨by decide, by decide⟩ ?_
  refine y_putF (o := 425) (B' := yB D cs n0 B0 2 425 [.int 0, .int 0, .int 0, .int 0, .ref (n0 + 426), .ref (n0 + 427), .ref (n0 + 428), .ref (n0 + 429), .ref (n0 + 450), .ref (n0 + 451), .ref (n0 + 452), .ref (n0 + 453), .ref (n0 + 454), .null]) X hin (ci := 2) (j := 12) rfl (by decide) tyX2_ok nmX2 wf_X2_38 rfl rfl dX2_init_77 (by omega) yB_o (Nat.le_of_ble_eq_true rfl) rfl rfl (fun x _ hx => yB_s hx) (yB_o.trans rfl) ?_
  refine y_aload_n X dX2_init_80 rfl ?_
  refine y_iconst (v := 4) X dX2_init_81 (by decide) ?_
  refine y_bipush (v := 20) X dX2_init_82 (by decide) ?_
  refine y_mna (N' := 4) (K' := 20) (N := 459) (B' := yB D cs n0 B0 2 425 [.int 0, .int 0, .int 0, .int 0, .ref (n0 + 426), .ref (n0 + 427), .ref (n0 + 428), .ref (n0 + 429), .ref (n0 + 450), .ref (n0 + 451), .ref (n0 + 452), .ref (n0 + 453), .ref (n0 + 454), .null]) X hyK wz_cX2_21 dX2_init_84 (by decide) (by decide) rfl rfl (by decide) (by decide) (fun _ _ => rfl) ((yB_n (by omega)).trans (yF_a (by decide +kernel))) (fun j hj => congrArg some (by rw [show yoff (xrf y0 (ycof 459) j) = 459 + 1 + j from (by decide +kernel : ∀ j, j < 4 → yoff (xrf y0 (ycof 459) j) = 459 + 1 + j) j hj]; omega)) (fun j hj => (yB_n (by omega)).trans (yF_i ((by decide +kernel : ∀ j, j < 4 → xck (ycof (459 + 1 + j)) = (10, 20)) j hj))) ⟨by decide, by decide⟩ ?_
  refine y_putF (o := 425) (B' := yB D cs n0 B0 2 425 [.int 0, .int 0, .int 0, .int 0, .ref (n0 + 426), .ref (n0 + 427), .ref (n0 + 428), .ref (n0 + 429), .ref (n0 + 450), .ref (n0 + 451), .ref (n0 + 452), .ref (n0 + 453), .ref (n0 + 454), .ref (n0 + 459)]) X hin (ci := 2) (j := 13) rfl (by decide) tyX2_ok nmX2 wf_X2_41 rfl rfl dX2_init_88 (by omega) yB_o (Nat.le_of_ble_eq_true rfl) rfl rfl (fun x _ hx => yB_s hx) (yB_o.trans rfl) ?_
  exact y_ret X dX2_init_91 (by decide) (by decide) rfl (yB_e rfl)

set_option maxHeartbeats 4000000 in
set_option maxRecDepth 100000 in
theorem k_X2b {l : Launch} {D : va_G} {cs : Nat → ClassId} {n0 : Nat}  : yI l D cs n0 yX2_init cX2_init 1 1 12 38 404 2 464 39 := by
  refine yI.of (by decide) (Nat.le_of_ble_eq_true rfl) (fun B0 pp ee ss mm aa bel met kk hB X hyK hnm => ?_)
  have X : xC pp ss mm met kk cX2_init 1 RX2 none (yG D cs n0) := X
  have hin : met.name = "<init>" := hnm
  refine y_eq (B' := yB D cs n0 B0 2 464 (yD 2)) (yB_i hB) ?_
  refine y_eq (B' := yB D cs n0 B0 2 464 [.int 0, .int 0, .int 0, .int 0, .null, .null, .null, .null, .null, .null, .null, .null, .null, .null]) (fun _ _ => rfl) ?_
  refine y_aload_n X dX2_init_0 rfl ?_
  refine y_objI X wz_oX2 dX2_init_1 ⟨by decide, by decide⟩ ?_
  refine y_aload_n X dX2_init_4 rfl ?_
  refine y_bipush (v := 8) X dX2_init_5 (by decide) ?_
  refine y_newaI (n := 8) (N := 465) (B' := yB D cs n0 B0 2 464 [.int 0, .int 0, .int 0, .int 0, .null, .null, .null, .null, .null, .null, .null, .null, .null, .null]) X dX2_init_7 (by decide) rfl (by decide) (fun _ _ => rfl) ((yB_n (by omega)).trans (yF_i (by decide +kernel))) ⟨by decide, by decide⟩ ?_
  refine y_putF (o := 464) (B' := yB D cs n0 B0 2 464 [.int 0, .int 0, .int 0, .int 0, .ref (n0 + 465), .null, .null, .null, .null, .null, .null, .null, .null, .null]) X hin (ci := 2) (j := 4) rfl (by decide) tyX2_ok nmX2 wf_X2_9 rfl rfl dX2_init_9 (by omega) yB_o (Nat.le_of_ble_eq_true rfl) rfl rfl (fun x _ hx => yB_s hx) (yB_o.trans rfl) ?_
  refine y_aload_n X dX2_init_12 rfl ?_
  refine y_bipush (v := 8) X dX2_init_13 (by decide) ?_
  refine y_newaI (n := 8) (N := 466) (B' := yB D cs n0 B0 2 464 [.int 0, .int 0, .int 0, .int 0, .ref (n0 + 465), .null, .null, .null, .null, .null, .null, .null, .null, .null]) X dX2_init_15 (by decide) rfl (by decide) (fun _ _ => rfl) ((yB_n (by omega)).trans (yF_i (by decide +kernel))) ⟨by decide, by decide⟩ ?_
  refine y_putF (o := 464) (B' := yB D cs n0 B0 2 464 [.int 0, .int 0, .int 0, .int 0, .ref (n0 + 465), .ref (n0 + 466), .null, .null, .null, .null, .null, .null, .null, .null]) X hin (ci := 2) (j := 5) rfl (by decide) tyX2_ok nmX2 wf_X2_15 rfl rfl dX2_init_17 (by omega) yB_o (Nat.le_of_ble_eq_true rfl) rfl rfl (fun x _ hx => yB_s hx) (yB_o.trans rfl) ?_
  refine y_aload_n X dX2_init_20 rfl ?_
  refine y_bipush (v := 8) X dX2_init_21 (by decide) ?_
  refine y_newaI (n := 8) (N := 467) (B' := yB D cs n0 B0 2 464 [.int 0, .int 0, .int 0, .int 0, .ref (n0 + 465), .ref (n0 + 466), .null, .null, .null, .null, .null, .null, .null, .null]) X dX2_init_23 (by decide) rfl (by decide) (fun _ _ => rfl) ((yB_n (by omega)).trans (yF_i (by decide +kernel))) ⟨by decide, by decide⟩ ?_
  refine y_putF (o := 464) (B' := yB D cs n0 B0 2 464 [.int 0, .int 0, .int 0, .int 0, .ref (n0 + 465), .ref (n0 + 466), .ref (n0 + 467), .null, .null, .null, .null, .null, .null, .null]) X hin (ci := 2) (j := 6) rfl (by decide) tyX2_ok nmX2 wf_X2_18 rfl rfl dX2_init_25 (by omega) yB_o (Nat.le_of_ble_eq_true rfl) rfl rfl (fun x _ hx => yB_s hx) (yB_o.trans rfl) ?_
  refine y_aload_n X dX2_init_28 rfl ?_
  refine y_bipush (v := 20) X dX2_init_29 (by decide) ?_
  refine y_bipush (v := 8) X dX2_init_31 (by decide) ?_
  refine y_mna (N' := 20) (K' := 8) (N := 468) (B' := yB D cs n0 B0 2 464 [.int 0, .int 0, .int 0, .int 0, .ref (n0 + 465), .ref (n0 + 466), .ref (n0 + 467), .null, .null, .null, .null, .null, .null, .null]) X hyK wz_cX2_21 dX2_init_33 (by decide) (by decide) rfl rfl (by decide) (by decide) (fun _ _ => rfl) ((yB_n (by omega)).trans (yF_a (by decide +kernel))) (fun j hj => congrArg some (by rw [show yoff (xrf y0 (ycof 468) j) = 468 + 1 + j from (by decide +kernel : ∀ j, j < 20 → yoff (xrf y0 (ycof 468) j) = 468 + 1 + j) j hj]; omega)) (fun j hj => (yB_n (by omega)).trans (yF_i ((by decide +kernel : ∀ j, j < 20 → xck (ycof (468 + 1 + j)) = (10, 8)) j hj))) ⟨by decide, by decide⟩ ?_
  refine y_putF (o := 464) (B' := yB D cs n0 B0 2 464 [.int 0, .int 0, .int 0, .int 0, .ref (n0 + 465), .ref (n0 + 466), .ref (n0 + 467), .ref (n0 + 468), .null, .null, .null, .null, .null, .null]) X hin (ci := 2) (j := 7) rfl (by decide) tyX2_ok nmX2 wf_X2_23 rfl rfl dX2_init_37 (by omega) yB_o (Nat.le_of_ble_eq_true rfl) rfl rfl (fun x _ hx => yB_s hx) (yB_o.trans rfl) ?_
  refine y_aload_n X dX2_init_40 rfl ?_
  refine y_bipush (v := 20) X dX2_init_41 (by decide) ?_
  refine y_newaI (n := 20) (N := 489) (B' := yB D cs n0 B0 2 464 [.int 0, .int 0, .int 0, .int 0, .ref (n0 + 465), .ref (n0 + 466), .ref (n0 + 467), .ref (n0 + 468), .null, .null, .null, .null, .null, .null]) X dX2_init_43 (by decide) rfl (by decide) (fun _ _ => rfl) ((yB_n (by omega)).trans (yF_i (by decide +kernel))) ⟨by decide, by decide⟩ ?_
  refine y_putF (o := 464) (B' := yB D cs n0 B0 2 464 [.int 0, .int 0, .int 0, .int 0, .ref (n0 + 465), .ref (n0 + 466), .ref (n0 + 467), .ref (n0 + 468), .ref (n0 + 489), .null, .null, .null, .null, .null]) X hin (ci := 2) (j := 8) rfl (by decide) tyX2_ok nmX2 wf_X2_26 rfl rfl dX2_init_45 (by omega) yB_o (Nat.le_of_ble_eq_true rfl) rfl rfl (fun x _ hx => yB_s hx) (yB_o.trans rfl) ?_
  refine y_aload_n X dX2_init_48 rfl ?_
  refine y_iconst (v := 4) X dX2_init_49 (by decide) ?_
  refine y_newaI (n := 4) (N := 490) (B' := yB D cs n0 B0 2 464 [.int 0, .int 0, .int 0, .int 0, .ref (n0 + 465), .ref (n0 + 466), .ref (n0 + 467), .ref (n0 + 468), .ref (n0 + 489), .null, .null, .null, .null, .null]) X dX2_init_50 (by decide) rfl (by decide) (fun _ _ => rfl) ((yB_n (by omega)).trans (yF_i (by decide +kernel))) ⟨by decide, by decide⟩ ?_
  refine y_putF (o := 464) (B' := yB D cs n0 B0 2 464 [.int 0, .int 0, .int 0, .int 0, .ref (n0 + 465), .ref (n0 + 466), .ref (n0 + 467), .ref (n0 + 468), .ref (n0 + 489), .ref (n0 + 490), .null, .null, .null, .null]) X hin (ci := 2) (j := 9) rfl (by decide) tyX2_ok nmX2 wf_X2_29 rfl rfl dX2_init_52 (by omega) yB_o (Nat.le_of_ble_eq_true rfl) rfl rfl (fun x _ hx => yB_s hx) (yB_o.trans rfl) ?_
  refine y_aload_n X dX2_init_55 rfl ?_
  refine y_iconst (v := 4) X dX2_init_56 (by decide) ?_
  refine y_newaI (n := 4) (N := 491) (B' := yB D cs n0 B0 2 464 [.int 0, .int 0, .int 0, .int 0, .ref (n0 + 465), .ref (n0 + 466), .ref (n0 + 467), .ref (n0 + 468), .ref (n0 + 489), .ref (n0 + 490), .null, .null, .null, .null]) X dX2_init_57 (by decide) rfl (by decide) (fun _ _ => rfl) ((yB_n (by omega)).trans (yF_i (by decide +kernel))) ⟨by decide, by decide⟩ ?_
  refine y_putF (o := 464) (B' := yB D cs n0 B0 2 464 [.int 0, .int 0, .int 0, .int 0, .ref (n0 + 465), .ref (n0 + 466), .ref (n0 + 467), .ref (n0 + 468), .ref (n0 + 489), .ref (n0 + 490), .ref (n0 + 491), .null, .null, .null]) X hin (ci := 2) (j := 10) rfl (by decide) tyX2_ok nmX2 wf_X2_32 rfl rfl dX2_init_59 (by omega) yB_o (Nat.le_of_ble_eq_true rfl) rfl rfl (fun x _ hx => yB_s hx) (yB_o.trans rfl) ?_
  refine y_aload_n X dX2_init_62 rfl ?_
  refine y_iconst (v := 4) X dX2_init_63 (by decide) ?_
  refine y_newaI (n := 4) (N := 492) (B' := yB D cs n0 B0 2 464 [.int 0, .int 0, .int 0, .int 0, .ref (n0 + 465), .ref (n0 + 466), .ref (n0 + 467), .ref (n0 + 468), .ref (n0 + 489), .ref (n0 + 490), .ref (n0 + 491), .null, .null, .null]) X dX2_init_64 (by decide) rfl (by decide) (fun _ _ => rfl) ((yB_n (by omega)).trans (yF_i (by decide +kernel))) ⟨by decide, by decide⟩ ?_
  refine y_putF (o := 464) (B' := yB D cs n0 B0 2 464 [.int 0, .int 0, .int 0, .int 0, .ref (n0 + 465), .ref (n0 + 466), .ref (n0 + 467), .ref (n0 + 468), .ref (n0 + 489), .ref (n0 + 490), .ref (n0 + 491), .ref (n0 + 492), .null, .null]) X hin (ci := 2) (j := 11) rfl (by decide) tyX2_ok nmX2 wf_X2_35 rfl rfl dX2_init_66 (by omega) yB_o (Nat.le_of_ble_eq_true rfl) rfl rfl (fun x _ hx => yB_s hx) (yB_o.trans rfl) ?_
  refine y_aload_n X dX2_init_69 rfl ?_
  refine y_iconst (v := 4) X dX2_init_70 (by decide) ?_
  refine y_bipush (v := 20) X dX2_init_71 (by decide) ?_
  refine y_mna (N' := 4) (K' := 20) (N := 493) (B' := yB D cs n0 B0 2 464 [.int 0, .int 0, .int 0, .int 0, .ref (n0 + 465), .ref (n0 + 466), .ref (n0 + 467), .ref (n0 + 468), .ref (n0 + 489), .ref (n0 + 490), .ref (n0 + 491), .ref (n0 + 492), .null, .null]) X hyK wz_cX2_21 dX2_init_73 (by decide) (by decide) rfl rfl (by decide) (by decide) (fun _ _ => rfl) ((yB_n (by omega)).trans (yF_a (by decide +kernel))) (fun j hj => congrArg some (by rw [show yoff (xrf y0 (ycof 493) j) = 493 + 1 + j from (by decide +kernel : ∀ j, j < 4 → yoff (xrf y0 (ycof 493) j) = 493 + 1 + j) j hj]; omega)) (fun j hj => (yB_n (by omega)).trans (yF_i ((by decide +kernel : ∀ j, j < 4 → xck (ycof (493 + 1 + j)) = (10, 20)) j hj))) ⟨by decide, by decide⟩ ?_
  refine y_putF (o := 464) (B' := yB D cs n0 B0 2 464 [.int 0, .int 0, .int 0, .int 0, .ref (n0 + 465), .ref (n0 + 466), .ref (n0 + 467), .ref (n0 + 468), .ref (n0 + 489), .ref (n0 + 490), .ref (n0 + 491), .ref (n0 + 492), .ref (n0 + 493), .null]) X hin (ci := 2) (j := 12) rfl (by decide) tyX2_ok nmX2 wf_X2_38 rfl rfl dX2_init_77 (by omega) yB_o (Nat.le_of_ble_eq_true rfl) rfl rfl (fun x _ hx => yB_s hx) (yB_o.trans rfl) ?_
  refine y_aload_n X dX2_init_80 rfl ?_
  refine y_iconst (v := 4) X dX2_init_81 (by decide) ?_
  refine y_bipush (v := 20) X dX2_init_82 (by decide) ?_
  refine y_mna (N' := 4) (K' := 20) (N := 498) (B' := yB D cs n0 B0 2 464 [.int 0, .int 0, .int 0, .int 0, .ref (n0 + 465), .ref (n0 + 466), .ref (n0 + 467), .ref (n0 + 468), .ref (n0 + 489), .ref (n0 + 490), .ref (n0 + 491), .ref (n0 + 492), .ref (n0 + 493), .null]) X hyK wz_cX2_21 dX2_init_84 (by decide) (by decide) rfl rfl (by decide) (by decide) (fun _ _ => rfl) ((yB_n (by omega)).trans (yF_a (by decide +kernel))) (fun j hj => congrArg some (by rw [show yoff (xrf y0 (ycof 498) j) = 498 + 1 + j from (by decide +kernel : ∀ j, j < 4 → yoff (xrf y0 (ycof 498) j) = 498 + 1 + j) j hj]; omega)) (fun j hj => (yB_n (by omega)).trans (yF_i ((by decide +kernel : ∀ j, j < 4 → xck (ycof (498 + 1 + j)) = (10, 20)) j hj))) ⟨by decide, by decide⟩ ?_
  refine y_putF (o := 464) (B' := yB D cs n0 B0 2 464 [.int 0, .int 0, .int 0, .int 0, .ref (n0 + 465), .ref (n0 + 466), .ref (n0 + 467), .ref (n0 + 468), .ref (n0 + 489), .ref (n0 + 490), .ref (n0 + 491), .ref (n0 + 492), .ref (n0 + 493), .ref (n0 + 498)]) X hin (ci := 2) (j := 13) rfl (by decide) tyX2_ok nmX2 wf_X2_41 rfl rfl dX2_init_88 (by omega) yB_o (Nat.le_of_ble_eq_true rfl) rfl rfl (fun x _ hx => yB_s hx) (yB_o.trans rfl) ?_
  exact y_ret X dX2_init_91 (by decide) (by decide) rfl (yB_e rfl)

set_option maxHeartbeats 4000000 in
set_option maxRecDepth 100000 in
theorem k_X9 {l : Launch} {D : va_G} {cs : Nat → ClassId} {n0 : Nat}  : yI l D cs n0 yX9_init cX9_init 1 1 12 22 47241 8 503 23 := by
  refine yI.of (by decide) (Nat.le_of_ble_eq_true rfl) (fun B0 pp ee ss mm aa bel met kk hB X hyK hnm => ?_)
  have X : xC pp ss mm met kk cX9_init 1 RX9 none (yG D cs n0) := X
  have hin : met.name = "<init>" := hnm
  refine y_eq (B' := yB D cs n0 B0 8 503 (yD 8)) (yB_i hB) ?_
  refine y_eq (B' := yB D cs n0 B0 8 503 [.int 0, .null, .int 0, .int 0, .null, .null, .null, .int 0, .null, .null, .int 0, .null, .null, .null, .null, .null, .int 0, .int 0, .null, .int 0, .int 0, .null, .int 0, .int 0, .int 0, .int 0, .int 0, .int 0, .null, .null, .null, .null, .null, .null, .null, .null, .null, .int 0, .int 0, .int 0]) (fun _ _ => rfl) ?_
  refine y_aload_n X dX9_init_0 rfl ?_
  refine y_objI X wz_oX9 dX9_init_1 ⟨by decide, by decide⟩ ?_
  refine y_aload_n X dX9_init_4 rfl ?_
  refine y_sipush (v := 1000) X dX9_init_5 (by decide) ?_
  refine y_newaI (n := 1000) (N := 504) (B' := yB D cs n0 B0 8 503 [.int 0, .null, .int 0, .int 0, .null, .null, .null, .int 0, .null, .null, .int 0, .null, .null, .null, .null, .null, .int 0, .int 0, .null, .int 0, .int 0, .null, .int 0, .int 0, .int 0, .int 0, .int 0, .int 0, .null, .null, .null, .null, .null, .null, .null, .null, .null, .int 0, .int 0, .int 0]) X dX9_init_8 (by decide) rfl (by decide) (fun _ _ => rfl) ((yB_n (by omega)).trans (yF_i (by decide +kernel))) ⟨by decide, by decide⟩ ?_
  refine y_putF (o := 503) (B' := yB D cs n0 B0 8 503 [.int 0, .ref (n0 + 504), .int 0, .int 0, .null, .null, .null, .int 0, .null, .null, .int 0, .null, .null, .null, .null, .null, .int 0, .int 0, .null, .int 0, .int 0, .null, .int 0, .int 0, .int 0, .int 0, .int 0, .int 0, .null, .null, .null, .null, .null, .null, .null, .null, .null, .int 0, .int 0, .int 0]) X hin (ci := 8) (j := 1) rfl (by decide) tyX9_ok nmX9 wf_X9_7 rfl rfl dX9_init_10 (by omega) yB_o (Nat.le_of_ble_eq_true rfl) rfl rfl (fun x _ hx => yB_s hx) (yB_o.trans rfl) ?_
  refine y_aload_n X dX9_init_13 rfl ?_
  refine y_bipush (v := 8) X dX9_init_14 (by decide) ?_
  refine y_newaI (n := 8) (N := 505) (B' := yB D cs n0 B0 8 503 [.int 0, .ref (n0 + 504), .int 0, .int 0, .null, .null, .null, .int 0, .null, .null, .int 0, .null, .null, .null, .null, .null, .int 0, .int 0, .null, .int 0, .int 0, .null, .int 0, .int 0, .int 0, .int 0, .int 0, .int 0, .null, .null, .null, .null, .null, .null, .null, .null, .null, .int 0, .int 0, .int 0]) X dX9_init_16 (by decide) rfl (by decide) (fun _ _ => rfl) ((yB_n (by omega)).trans (yF_i (by decide +kernel))) ⟨by decide, by decide⟩ ?_
  refine y_putF (o := 503) (B' := yB D cs n0 B0 8 503 [.int 0, .ref (n0 + 504), .int 0, .int 0, .ref (n0 + 505), .null, .null, .int 0, .null, .null, .int 0, .null, .null, .null, .null, .null, .int 0, .int 0, .null, .int 0, .int 0, .null, .int 0, .int 0, .int 0, .int 0, .int 0, .int 0, .null, .null, .null, .null, .null, .null, .null, .null, .null, .int 0, .int 0, .int 0]) X hin (ci := 8) (j := 4) rfl (by decide) tyX9_ok nmX9 wf_X9_13 rfl rfl dX9_init_18 (by omega) yB_o (Nat.le_of_ble_eq_true rfl) rfl rfl (fun x _ hx => yB_s hx) (yB_o.trans rfl) ?_
  refine y_aload_n X dX9_init_21 rfl ?_
  refine y_bipush (v := 8) X dX9_init_22 (by decide) ?_
  refine y_newaI (n := 8) (N := 506) (B' := yB D cs n0 B0 8 503 [.int 0, .ref (n0 + 504), .int 0, .int 0, .ref (n0 + 505), .null, .null, .int 0, .null, .null, .int 0, .null, .null, .null, .null, .null, .int 0, .int 0, .null, .int 0, .int 0, .null, .int 0, .int 0, .int 0, .int 0, .int 0, .int 0, .null, .null, .null, .null, .null, .null, .null, .null, .null, .int 0, .int 0, .int 0]) X dX9_init_24 (by decide) rfl (by decide) (fun _ _ => rfl) ((yB_n (by omega)).trans (yF_i (by decide +kernel))) ⟨by decide, by decide⟩ ?_
  refine y_putF (o := 503) (B' := yB D cs n0 B0 8 503 [.int 0, .ref (n0 + 504), .int 0, .int 0, .ref (n0 + 505), .ref (n0 + 506), .null, .int 0, .null, .null, .int 0, .null, .null, .null, .null, .null, .int 0, .int 0, .null, .int 0, .int 0, .null, .int 0, .int 0, .int 0, .int 0, .int 0, .int 0, .null, .null, .null, .null, .null, .null, .null, .null, .null, .int 0, .int 0, .int 0]) X hin (ci := 8) (j := 5) rfl (by decide) tyX9_ok nmX9 wf_X9_16 rfl rfl dX9_init_26 (by omega) yB_o (Nat.le_of_ble_eq_true rfl) rfl rfl (fun x _ hx => yB_s hx) (yB_o.trans rfl) ?_
  refine y_aload_n X dX9_init_29 rfl ?_
  refine y_bipush (v := 8) X dX9_init_30 (by decide) ?_
  refine y_newaI (n := 8) (N := 507) (B' := yB D cs n0 B0 8 503 [.int 0, .ref (n0 + 504), .int 0, .int 0, .ref (n0 + 505), .ref (n0 + 506), .null, .int 0, .null, .null, .int 0, .null, .null, .null, .null, .null, .int 0, .int 0, .null, .int 0, .int 0, .null, .int 0, .int 0, .int 0, .int 0, .int 0, .int 0, .null, .null, .null, .null, .null, .null, .null, .null, .null, .int 0, .int 0, .int 0]) X dX9_init_32 (by decide) rfl (by decide) (fun _ _ => rfl) ((yB_n (by omega)).trans (yF_i (by decide +kernel))) ⟨by decide, by decide⟩ ?_
  refine y_putF (o := 503) (B' := yB D cs n0 B0 8 503 [.int 0, .ref (n0 + 504), .int 0, .int 0, .ref (n0 + 505), .ref (n0 + 506), .ref (n0 + 507), .int 0, .null, .null, .int 0, .null, .null, .null, .null, .null, .int 0, .int 0, .null, .int 0, .int 0, .null, .int 0, .int 0, .int 0, .int 0, .int 0, .int 0, .null, .null, .null, .null, .null, .null, .null, .null, .null, .int 0, .int 0, .int 0]) X hin (ci := 8) (j := 6) rfl (by decide) tyX9_ok nmX9 wf_X9_19 rfl rfl dX9_init_34 (by omega) yB_o (Nat.le_of_ble_eq_true rfl) rfl rfl (fun x _ hx => yB_s hx) (yB_o.trans rfl) ?_
  refine y_aload_n X dX9_init_37 rfl ?_
  refine y_sipush (v := 160) X dX9_init_38 (by decide) ?_
  refine y_newaI (n := 160) (N := 508) (B' := yB D cs n0 B0 8 503 [.int 0, .ref (n0 + 504), .int 0, .int 0, .ref (n0 + 505), .ref (n0 + 506), .ref (n0 + 507), .int 0, .null, .null, .int 0, .null, .null, .null, .null, .null, .int 0, .int 0, .null, .int 0, .int 0, .null, .int 0, .int 0, .int 0, .int 0, .int 0, .int 0, .null, .null, .null, .null, .null, .null, .null, .null, .null, .int 0, .int 0, .int 0]) X dX9_init_41 (by decide) rfl (by decide) (fun _ _ => rfl) ((yB_n (by omega)).trans (yF_i (by decide +kernel))) ⟨by decide, by decide⟩ ?_
  refine y_putF (o := 503) (B' := yB D cs n0 B0 8 503 [.int 0, .ref (n0 + 504), .int 0, .int 0, .ref (n0 + 505), .ref (n0 + 506), .ref (n0 + 507), .int 0, .ref (n0 + 508), .null, .int 0, .null, .null, .null, .null, .null, .int 0, .int 0, .null, .int 0, .int 0, .null, .int 0, .int 0, .int 0, .int 0, .int 0, .int 0, .null, .null, .null, .null, .null, .null, .null, .null, .null, .int 0, .int 0, .int 0]) X hin (ci := 8) (j := 8) rfl (by decide) tyX9_ok nmX9 wf_X9_22 rfl rfl dX9_init_43 (by omega) yB_o (Nat.le_of_ble_eq_true rfl) rfl rfl (fun x _ hx => yB_s hx) (yB_o.trans rfl) ?_
  refine y_aload_n X dX9_init_46 rfl ?_
  refine y_bipush (v := 20) X dX9_init_47 (by decide) ?_
  refine y_newaI (n := 20) (N := 509) (B' := yB D cs n0 B0 8 503 [.int 0, .ref (n0 + 504), .int 0, .int 0, .ref (n0 + 505), .ref (n0 + 506), .ref (n0 + 507), .int 0, .ref (n0 + 508), .null, .int 0, .null, .null, .null, .null, .null, .int 0, .int 0, .null, .int 0, .int 0, .null, .int 0, .int 0, .int 0, .int 0, .int 0, .int 0, .null, .null, .null, .null, .null, .null, .null, .null, .null, .int 0, .int 0, .int 0]) X dX9_init_49 (by decide) rfl (by decide) (fun _ _ => rfl) ((yB_n (by omega)).trans (yF_i (by decide +kernel))) ⟨by decide, by decide⟩ ?_
  refine y_putF (o := 503) (B' := yB D cs n0 B0 8 503 [.int 0, .ref (n0 + 504), .int 0, .int 0, .ref (n0 + 505), .ref (n0 + 506), .ref (n0 + 507), .int 0, .ref (n0 + 508), .ref (n0 + 509), .int 0, .null, .null, .null, .null, .null, .int 0, .int 0, .null, .int 0, .int 0, .null, .int 0, .int 0, .int 0, .int 0, .int 0, .int 0, .null, .null, .null, .null, .null, .null, .null, .null, .null, .int 0, .int 0, .int 0]) X hin (ci := 8) (j := 9) rfl (by decide) tyX9_ok nmX9 wf_X9_25 rfl rfl dX9_init_51 (by omega) yB_o (Nat.le_of_ble_eq_true rfl) rfl rfl (fun x _ hx => yB_s hx) (yB_o.trans rfl) ?_
  refine y_aload_n X dX9_init_54 rfl ?_
  refine y_iconst (v := 4) X dX9_init_55 (by decide) ?_
  refine y_newaI (n := 4) (N := 510) (B' := yB D cs n0 B0 8 503 [.int 0, .ref (n0 + 504), .int 0, .int 0, .ref (n0 + 505), .ref (n0 + 506), .ref (n0 + 507), .int 0, .ref (n0 + 508), .ref (n0 + 509), .int 0, .null, .null, .null, .null, .null, .int 0, .int 0, .null, .int 0, .int 0, .null, .int 0, .int 0, .int 0, .int 0, .int 0, .int 0, .null, .null, .null, .null, .null, .null, .null, .null, .null, .int 0, .int 0, .int 0]) X dX9_init_56 (by decide) rfl (by decide) (fun _ _ => rfl) ((yB_n (by omega)).trans (yF_i (by decide +kernel))) ⟨by decide, by decide⟩ ?_
  refine y_putF (o := 503) (B' := yB D cs n0 B0 8 503 [.int 0, .ref (n0 + 504), .int 0, .int 0, .ref (n0 + 505), .ref (n0 + 506), .ref (n0 + 507), .int 0, .ref (n0 + 508), .ref (n0 + 509), .int 0, .ref (n0 + 510), .null, .null, .null, .null, .int 0, .int 0, .null, .int 0, .int 0, .null, .int 0, .int 0, .int 0, .int 0, .int 0, .int 0, .null, .null, .null, .null, .null, .null, .null, .null, .null, .int 0, .int 0, .int 0]) X hin (ci := 8) (j := 11) rfl (by decide) tyX9_ok nmX9 wf_X9_28 rfl rfl dX9_init_58 (by omega) yB_o (Nat.le_of_ble_eq_true rfl) rfl rfl (fun x _ hx => yB_s hx) (yB_o.trans rfl) ?_
  refine y_aload_n X dX9_init_61 rfl ?_
  refine y_iconst (v := 4) X dX9_init_62 (by decide) ?_
  refine y_newaI (n := 4) (N := 511) (B' := yB D cs n0 B0 8 503 [.int 0, .ref (n0 + 504), .int 0, .int 0, .ref (n0 + 505), .ref (n0 + 506), .ref (n0 + 507), .int 0, .ref (n0 + 508), .ref (n0 + 509), .int 0, .ref (n0 + 510), .null, .null, .null, .null, .int 0, .int 0, .null, .int 0, .int 0, .null, .int 0, .int 0, .int 0, .int 0, .int 0, .int 0, .null, .null, .null, .null, .null, .null, .null, .null, .null, .int 0, .int 0, .int 0]) X dX9_init_63 (by decide) rfl (by decide) (fun _ _ => rfl) ((yB_n (by omega)).trans (yF_i (by decide +kernel))) ⟨by decide, by decide⟩ ?_
  refine y_putF (o := 503) (B' := yB D cs n0 B0 8 503 [.int 0, .ref (n0 + 504), .int 0, .int 0, .ref (n0 + 505), .ref (n0 + 506), .ref (n0 + 507), .int 0, .ref (n0 + 508), .ref (n0 + 509), .int 0, .ref (n0 + 510), .ref (n0 + 511), .null, .null, .null, .int 0, .int 0, .null, .int 0, .int 0, .null, .int 0, .int 0, .int 0, .int 0, .int 0, .int 0, .null, .null, .null, .null, .null, .null, .null, .null, .null, .int 0, .int 0, .int 0]) X hin (ci := 8) (j := 12) rfl (by decide) tyX9_ok nmX9 wf_X9_31 rfl rfl dX9_init_65 (by omega) yB_o (Nat.le_of_ble_eq_true rfl) rfl rfl (fun x _ hx => yB_s hx) (yB_o.trans rfl) ?_
  refine y_aload_n X dX9_init_68 rfl ?_
  refine y_iconst (v := 4) X dX9_init_69 (by decide) ?_
  refine y_newaI (n := 4) (N := 512) (B' := yB D cs n0 B0 8 503 [.int 0, .ref (n0 + 504), .int 0, .int 0, .ref (n0 + 505), .ref (n0 + 506), .ref (n0 + 507), .int 0, .ref (n0 + 508), .ref (n0 + 509), .int 0, .ref (n0 + 510), .ref (n0 + 511), .null, .null, .null, .int 0, .int 0, .null, .int 0, .int 0, .null, .int 0, .int 0, .int 0, .int 0, .int 0, .int 0, .null, .null, .null, .null, .null, .null, .null, .null, .null, .int 0, .int 0, .int 0]) X dX9_init_70 (by decide) rfl (by decide) (fun _ _ => rfl) ((yB_n (by omega)).trans (yF_i (by decide +kernel))) ⟨by decide, by decide⟩ ?_
  refine y_putF (o := 503) (B' := yB D cs n0 B0 8 503 [.int 0, .ref (n0 + 504), .int 0, .int 0, .ref (n0 + 505), .ref (n0 + 506), .ref (n0 + 507), .int 0, .ref (n0 + 508), .ref (n0 + 509), .int 0, .ref (n0 + 510), .ref (n0 + 511), .ref (n0 + 512), .null, .null, .int 0, .int 0, .null, .int 0, .int 0, .null, .int 0, .int 0, .int 0, .int 0, .int 0, .int 0, .null, .null, .null, .null, .null, .null, .null, .null, .null, .int 0, .int 0, .int 0]) X hin (ci := 8) (j := 13) rfl (by decide) tyX9_ok nmX9 wf_X9_34 rfl rfl dX9_init_72 (by omega) yB_o (Nat.le_of_ble_eq_true rfl) rfl rfl (fun x _ hx => yB_s hx) (yB_o.trans rfl) ?_
  refine y_aload_n X dX9_init_75 rfl ?_
  refine y_bipush (v := 80) X dX9_init_76 (by decide) ?_
  refine y_newaI (n := 80) (N := 513) (B' := yB D cs n0 B0 8 503 [.int 0, .ref (n0 + 504), .int 0, .int 0, .ref (n0 + 505), .ref (n0 + 506), .ref (n0 + 507), .int 0, .ref (n0 + 508), .ref (n0 + 509), .int 0, .ref (n0 + 510), .ref (n0 + 511), .ref (n0 + 512), .null, .null, .int 0, .int 0, .null, .int 0, .int 0, .null, .int 0, .int 0, .int 0, .int 0, .int 0, .int 0, .null, .null, .null, .null, .null, .null, .null, .null, .null, .int 0, .int 0, .int 0]) X dX9_init_78 (by decide) rfl (by decide) (fun _ _ => rfl) ((yB_n (by omega)).trans (yF_i (by decide +kernel))) ⟨by decide, by decide⟩ ?_
  refine y_putF (o := 503) (B' := yB D cs n0 B0 8 503 [.int 0, .ref (n0 + 504), .int 0, .int 0, .ref (n0 + 505), .ref (n0 + 506), .ref (n0 + 507), .int 0, .ref (n0 + 508), .ref (n0 + 509), .int 0, .ref (n0 + 510), .ref (n0 + 511), .ref (n0 + 512), .ref (n0 + 513), .null, .int 0, .int 0, .null, .int 0, .int 0, .null, .int 0, .int 0, .int 0, .int 0, .int 0, .int 0, .null, .null, .null, .null, .null, .null, .null, .null, .null, .int 0, .int 0, .int 0]) X hin (ci := 8) (j := 14) rfl (by decide) tyX9_ok nmX9 wf_X9_37 rfl rfl dX9_init_80 (by omega) yB_o (Nat.le_of_ble_eq_true rfl) rfl rfl (fun x _ hx => yB_s hx) (yB_o.trans rfl) ?_
  refine y_aload_n X dX9_init_83 rfl ?_
  refine y_bipush (v := 80) X dX9_init_84 (by decide) ?_
  refine y_newaI (n := 80) (N := 514) (B' := yB D cs n0 B0 8 503 [.int 0, .ref (n0 + 504), .int 0, .int 0, .ref (n0 + 505), .ref (n0 + 506), .ref (n0 + 507), .int 0, .ref (n0 + 508), .ref (n0 + 509), .int 0, .ref (n0 + 510), .ref (n0 + 511), .ref (n0 + 512), .ref (n0 + 513), .null, .int 0, .int 0, .null, .int 0, .int 0, .null, .int 0, .int 0, .int 0, .int 0, .int 0, .int 0, .null, .null, .null, .null, .null, .null, .null, .null, .null, .int 0, .int 0, .int 0]) X dX9_init_86 (by decide) rfl (by decide) (fun _ _ => rfl) ((yB_n (by omega)).trans (yF_i (by decide +kernel))) ⟨by decide, by decide⟩ ?_
  refine y_putF (o := 503) (B' := yB D cs n0 B0 8 503 [.int 0, .ref (n0 + 504), .int 0, .int 0, .ref (n0 + 505), .ref (n0 + 506), .ref (n0 + 507), .int 0, .ref (n0 + 508), .ref (n0 + 509), .int 0, .ref (n0 + 510), .ref (n0 + 511), .ref (n0 + 512), .ref (n0 + 513), .ref (n0 + 514), .int 0, .int 0, .null, .int 0, .int 0, .null, .int 0, .int 0, .int 0, .int 0, .int 0, .int 0, .null, .null, .null, .null, .null, .null, .null, .null, .null, .int 0, .int 0, .int 0]) X hin (ci := 8) (j := 15) rfl (by decide) tyX9_ok nmX9 wf_X9_40 rfl rfl dX9_init_88 (by omega) yB_o (Nat.le_of_ble_eq_true rfl) rfl rfl (fun x _ hx => yB_s hx) (yB_o.trans rfl) ?_
  refine y_aload_n X dX9_init_91 rfl ?_
  refine y_bipush (v := 64) X dX9_init_92 (by decide) ?_
  refine y_newaI (n := 64) (N := 515) (B' := yB D cs n0 B0 8 503 [.int 0, .ref (n0 + 504), .int 0, .int 0, .ref (n0 + 505), .ref (n0 + 506), .ref (n0 + 507), .int 0, .ref (n0 + 508), .ref (n0 + 509), .int 0, .ref (n0 + 510), .ref (n0 + 511), .ref (n0 + 512), .ref (n0 + 513), .ref (n0 + 514), .int 0, .int 0, .null, .int 0, .int 0, .null, .int 0, .int 0, .int 0, .int 0, .int 0, .int 0, .null, .null, .null, .null, .null, .null, .null, .null, .null, .int 0, .int 0, .int 0]) X dX9_init_94 (by decide) rfl (by decide) (fun _ _ => rfl) ((yB_n (by omega)).trans (yF_i (by decide +kernel))) ⟨by decide, by decide⟩ ?_
  refine y_putF (o := 503) (B' := yB D cs n0 B0 8 503 [.int 0, .ref (n0 + 504), .int 0, .int 0, .ref (n0 + 505), .ref (n0 + 506), .ref (n0 + 507), .int 0, .ref (n0 + 508), .ref (n0 + 509), .int 0, .ref (n0 + 510), .ref (n0 + 511), .ref (n0 + 512), .ref (n0 + 513), .ref (n0 + 514), .int 0, .int 0, .ref (n0 + 515), .int 0, .int 0, .null, .int 0, .int 0, .int 0, .int 0, .int 0, .int 0, .null, .null, .null, .null, .null, .null, .null, .null, .null, .int 0, .int 0, .int 0]) X hin (ci := 8) (j := 18) rfl (by decide) tyX9_ok nmX9 wf_X9_43 rfl rfl dX9_init_96 (by omega) yB_o (Nat.le_of_ble_eq_true rfl) rfl rfl (fun x _ hx => yB_s hx) (yB_o.trans rfl) ?_
  refine y_aload_n X dX9_init_99 rfl ?_
  refine y_sipush (v := 1500) X dX9_init_100 (by decide) ?_
  refine y_newaI (n := 1500) (N := 516) (B' := yB D cs n0 B0 8 503 [.int 0, .ref (n0 + 504), .int 0, .int 0, .ref (n0 + 505), .ref (n0 + 506), .ref (n0 + 507), .int 0, .ref (n0 + 508), .ref (n0 + 509), .int 0, .ref (n0 + 510), .ref (n0 + 511), .ref (n0 + 512), .ref (n0 + 513), .ref (n0 + 514), .int 0, .int 0, .ref (n0 + 515), .int 0, .int 0, .null, .int 0, .int 0, .int 0, .int 0, .int 0, .int 0, .null, .null, .null, .null, .null, .null, .null, .null, .null, .int 0, .int 0, .int 0]) X dX9_init_103 (by decide) rfl (by decide) (fun _ _ => rfl) ((yB_n (by omega)).trans (yF_i (by decide +kernel))) ⟨by decide, by decide⟩ ?_
  refine y_putF (o := 503) (B' := yB D cs n0 B0 8 503 [.int 0, .ref (n0 + 504), .int 0, .int 0, .ref (n0 + 505), .ref (n0 + 506), .ref (n0 + 507), .int 0, .ref (n0 + 508), .ref (n0 + 509), .int 0, .ref (n0 + 510), .ref (n0 + 511), .ref (n0 + 512), .ref (n0 + 513), .ref (n0 + 514), .int 0, .int 0, .ref (n0 + 515), .int 0, .int 0, .ref (n0 + 516), .int 0, .int 0, .int 0, .int 0, .int 0, .int 0, .null, .null, .null, .null, .null, .null, .null, .null, .null, .int 0, .int 0, .int 0]) X hin (ci := 8) (j := 21) rfl (by decide) tyX9_ok nmX9 wf_X9_46 rfl rfl dX9_init_105 (by omega) yB_o (Nat.le_of_ble_eq_true rfl) rfl rfl (fun x _ hx => yB_s hx) (yB_o.trans rfl) ?_
  refine y_aload_n X dX9_init_108 rfl ?_
  refine y_iconst (v := (-1)) X dX9_init_109 (by decide) ?_
  refine y_put (o := 503) (B' := yB D cs n0 B0 8 503 [.int 0, .ref (n0 + 504), .int 0, .int 0, .ref (n0 + 505), .ref (n0 + 506), .ref (n0 + 507), .int 0, .ref (n0 + 508), .ref (n0 + 509), .int 0, .ref (n0 + 510), .ref (n0 + 511), .ref (n0 + 512), .ref (n0 + 513), .ref (n0 + 514), .int 0, .int 0, .ref (n0 + 515), .int 0, .int 0, .ref (n0 + 516), .int 0, .int (-1), .int 0, .int 0, .int 0, .int 0, .null, .null, .null, .null, .null, .null, .null, .null, .null, .int 0, .int 0, .int 0]) X (ci := 8) (j := 23) rfl (by decide) tyX9_ok nmX9 wf_X9_49 rfl dX9_init_110 (by omega) yB_o (Nat.le_of_ble_eq_true rfl) rfl rfl (fun x _ hx => yB_s hx) (yB_o.trans rfl) ?_
  refine y_aload_n X dX9_init_113 rfl ?_
  refine y_iconst (v := (-1)) X dX9_init_114 (by decide) ?_
  refine y_put (o := 503) (B' := yB D cs n0 B0 8 503 [.int 0, .ref (n0 + 504), .int 0, .int 0, .ref (n0 + 505), .ref (n0 + 506), .ref (n0 + 507), .int 0, .ref (n0 + 508), .ref (n0 + 509), .int 0, .ref (n0 + 510), .ref (n0 + 511), .ref (n0 + 512), .ref (n0 + 513), .ref (n0 + 514), .int 0, .int 0, .ref (n0 + 515), .int 0, .int 0, .ref (n0 + 516), .int 0, .int (-1), .int (-1), .int 0, .int 0, .int 0, .null, .null, .null, .null, .null, .null, .null, .null, .null, .int 0, .int 0, .int 0]) X (ci := 8) (j := 24) rfl (by decide) tyX9_ok nmX9 wf_X9_53 rfl dX9_init_115 (by omega) yB_o (Nat.le_of_ble_eq_true rfl) rfl rfl (fun x _ hx => yB_s hx) (yB_o.trans rfl) ?_
  refine y_aload_n X dX9_init_118 rfl ?_
  refine y_sipush (v := 201) X dX9_init_119 (by decide) ?_
  refine y_newaI (n := 201) (N := 517) (B' := yB D cs n0 B0 8 503 [.int 0, .ref (n0 + 504), .int 0, .int 0, .ref (n0 + 505), .ref (n0 + 506), .ref (n0 + 507), .int 0, .ref (n0 + 508), .ref (n0 + 509), .int 0, .ref (n0 + 510), .ref (n0 + 511), .ref (n0 + 512), .ref (n0 + 513), .ref (n0 + 514), .int 0, .int 0, .ref (n0 + 515), .int 0, .int 0, .ref (n0 + 516), .int 0, .int (-1), .int (-1), .int 0, .int 0, .int 0, .null, .null, .null, .null, .null, .null, .null, .null, .null, .int 0, .int 0, .int 0]) X dX9_init_122 (by decide) rfl (by decide) (fun _ _ => rfl) ((yB_n (by omega)).trans (yF_i (by decide +kernel))) ⟨by decide, by decide⟩ ?_
  refine y_putF (o := 503) (B' := yB D cs n0 B0 8 503 [.int 0, .ref (n0 + 504), .int 0, .int 0, .ref (n0 + 505), .ref (n0 + 506), .ref (n0 + 507), .int 0, .ref (n0 + 508), .ref (n0 + 509), .int 0, .ref (n0 + 510), .ref (n0 + 511), .ref (n0 + 512), .ref (n0 + 513), .ref (n0 + 514), .int 0, .int 0, .ref (n0 + 515), .int 0, .int 0, .ref (n0 + 516), .int 0, .int (-1), .int (-1), .int 0, .int 0, .int 0, .ref (n0 + 517), .null, .null, .null, .null, .null, .null, .null, .null, .int 0, .int 0, .int 0]) X hin (ci := 8) (j := 28) rfl (by decide) tyX9_ok nmX9 wf_X9_56 rfl rfl dX9_init_124 (by omega) yB_o (Nat.le_of_ble_eq_true rfl) rfl rfl (fun x _ hx => yB_s hx) (yB_o.trans rfl) ?_
  refine y_aload_n X dX9_init_127 rfl ?_
  refine y_sipush (v := 1600) X dX9_init_128 (by decide) ?_
  refine y_newaL (n := 1600) (N := 518) (B' := yB D cs n0 B0 8 503 [.int 0, .ref (n0 + 504), .int 0, .int 0, .ref (n0 + 505), .ref (n0 + 506), .ref (n0 + 507), .int 0, .ref (n0 + 508), .ref (n0 + 509), .int 0, .ref (n0 + 510), .ref (n0 + 511), .ref (n0 + 512), .ref (n0 + 513), .ref (n0 + 514), .int 0, .int 0, .ref (n0 + 515), .int 0, .int 0, .ref (n0 + 516), .int 0, .int (-1), .int (-1), .int 0, .int 0, .int 0, .ref (n0 + 517), .null, .null, .null, .null, .null, .null, .null, .null, .int 0, .int 0, .int 0]) X dX9_init_131 (by decide) rfl (by decide) (fun _ _ => rfl) ((yB_n (by omega)).trans (yF_l (by decide +kernel))) ⟨by decide, by decide⟩ ?_
  refine y_putF (o := 503) (B' := yB D cs n0 B0 8 503 [.int 0, .ref (n0 + 504), .int 0, .int 0, .ref (n0 + 505), .ref (n0 + 506), .ref (n0 + 507), .int 0, .ref (n0 + 508), .ref (n0 + 509), .int 0, .ref (n0 + 510), .ref (n0 + 511), .ref (n0 + 512), .ref (n0 + 513), .ref (n0 + 514), .int 0, .int 0, .ref (n0 + 515), .int 0, .int 0, .ref (n0 + 516), .int 0, .int (-1), .int (-1), .int 0, .int 0, .int 0, .ref (n0 + 517), .ref (n0 + 518), .null, .null, .null, .null, .null, .null, .null, .int 0, .int 0, .int 0]) X hin (ci := 8) (j := 29) rfl (by decide) tyX9_ok nmX9 wf_X9_59 rfl rfl dX9_init_133 (by omega) yB_o (Nat.le_of_ble_eq_true rfl) rfl rfl (fun x _ hx => yB_s hx) (yB_o.trans rfl) ?_
  refine y_aload_n X dX9_init_136 rfl ?_
  refine y_sipush (v := 200) X dX9_init_137 (by decide) ?_
  refine y_newaL (n := 200) (N := 519) (B' := yB D cs n0 B0 8 503 [.int 0, .ref (n0 + 504), .int 0, .int 0, .ref (n0 + 505), .ref (n0 + 506), .ref (n0 + 507), .int 0, .ref (n0 + 508), .ref (n0 + 509), .int 0, .ref (n0 + 510), .ref (n0 + 511), .ref (n0 + 512), .ref (n0 + 513), .ref (n0 + 514), .int 0, .int 0, .ref (n0 + 515), .int 0, .int 0, .ref (n0 + 516), .int 0, .int (-1), .int (-1), .int 0, .int 0, .int 0, .ref (n0 + 517), .ref (n0 + 518), .null, .null, .null, .null, .null, .null, .null, .int 0, .int 0, .int 0]) X dX9_init_140 (by decide) rfl (by decide) (fun _ _ => rfl) ((yB_n (by omega)).trans (yF_l (by decide +kernel))) ⟨by decide, by decide⟩ ?_
  refine y_putF (o := 503) (B' := yB D cs n0 B0 8 503 [.int 0, .ref (n0 + 504), .int 0, .int 0, .ref (n0 + 505), .ref (n0 + 506), .ref (n0 + 507), .int 0, .ref (n0 + 508), .ref (n0 + 509), .int 0, .ref (n0 + 510), .ref (n0 + 511), .ref (n0 + 512), .ref (n0 + 513), .ref (n0 + 514), .int 0, .int 0, .ref (n0 + 515), .int 0, .int 0, .ref (n0 + 516), .int 0, .int (-1), .int (-1), .int 0, .int 0, .int 0, .ref (n0 + 517), .ref (n0 + 518), .ref (n0 + 519), .null, .null, .null, .null, .null, .null, .int 0, .int 0, .int 0]) X hin (ci := 8) (j := 30) rfl (by decide) tyX9_ok nmX9 wf_X9_63 rfl rfl dX9_init_142 (by omega) yB_o (Nat.le_of_ble_eq_true rfl) rfl rfl (fun x _ hx => yB_s hx) (yB_o.trans rfl) ?_
  refine y_aload_n X dX9_init_145 rfl ?_
  refine y_sipush (v := 200) X dX9_init_146 (by decide) ?_
  refine y_newaZ (n := 200) (N := 520) (B' := yB D cs n0 B0 8 503 [.int 0, .ref (n0 + 504), .int 0, .int 0, .ref (n0 + 505), .ref (n0 + 506), .ref (n0 + 507), .int 0, .ref (n0 + 508), .ref (n0 + 509), .int 0, .ref (n0 + 510), .ref (n0 + 511), .ref (n0 + 512), .ref (n0 + 513), .ref (n0 + 514), .int 0, .int 0, .ref (n0 + 515), .int 0, .int 0, .ref (n0 + 516), .int 0, .int (-1), .int (-1), .int 0, .int 0, .int 0, .ref (n0 + 517), .ref (n0 + 518), .ref (n0 + 519), .null, .null, .null, .null, .null, .null, .int 0, .int 0, .int 0]) X dX9_init_149 (by decide) rfl (by decide) (fun _ _ => rfl) ((yB_n (by omega)).trans (yF_z (by decide +kernel))) ⟨by decide, by decide⟩ ?_
  refine y_putF (o := 503) (B' := yB D cs n0 B0 8 503 [.int 0, .ref (n0 + 504), .int 0, .int 0, .ref (n0 + 505), .ref (n0 + 506), .ref (n0 + 507), .int 0, .ref (n0 + 508), .ref (n0 + 509), .int 0, .ref (n0 + 510), .ref (n0 + 511), .ref (n0 + 512), .ref (n0 + 513), .ref (n0 + 514), .int 0, .int 0, .ref (n0 + 515), .int 0, .int 0, .ref (n0 + 516), .int 0, .int (-1), .int (-1), .int 0, .int 0, .int 0, .ref (n0 + 517), .ref (n0 + 518), .ref (n0 + 519), .ref (n0 + 520), .null, .null, .null, .null, .null, .int 0, .int 0, .int 0]) X hin (ci := 8) (j := 31) rfl (by decide) tyX9_ok nmX9 wf_X9_66 rfl rfl dX9_init_151 (by omega) yB_o (Nat.le_of_ble_eq_true rfl) rfl rfl (fun x _ hx => yB_s hx) (yB_o.trans rfl) ?_
  refine y_aload_n X dX9_init_154 rfl ?_
  refine y_sipush (v := 200) X dX9_init_155 (by decide) ?_
  refine y_newaL (n := 200) (N := 521) (B' := yB D cs n0 B0 8 503 [.int 0, .ref (n0 + 504), .int 0, .int 0, .ref (n0 + 505), .ref (n0 + 506), .ref (n0 + 507), .int 0, .ref (n0 + 508), .ref (n0 + 509), .int 0, .ref (n0 + 510), .ref (n0 + 511), .ref (n0 + 512), .ref (n0 + 513), .ref (n0 + 514), .int 0, .int 0, .ref (n0 + 515), .int 0, .int 0, .ref (n0 + 516), .int 0, .int (-1), .int (-1), .int 0, .int 0, .int 0, .ref (n0 + 517), .ref (n0 + 518), .ref (n0 + 519), .ref (n0 + 520), .null, .null, .null, .null, .null, .int 0, .int 0, .int 0]) X dX9_init_158 (by decide) rfl (by decide) (fun _ _ => rfl) ((yB_n (by omega)).trans (yF_l (by decide +kernel))) ⟨by decide, by decide⟩ ?_
  refine y_putF (o := 503) (B' := yB D cs n0 B0 8 503 [.int 0, .ref (n0 + 504), .int 0, .int 0, .ref (n0 + 505), .ref (n0 + 506), .ref (n0 + 507), .int 0, .ref (n0 + 508), .ref (n0 + 509), .int 0, .ref (n0 + 510), .ref (n0 + 511), .ref (n0 + 512), .ref (n0 + 513), .ref (n0 + 514), .int 0, .int 0, .ref (n0 + 515), .int 0, .int 0, .ref (n0 + 516), .int 0, .int (-1), .int (-1), .int 0, .int 0, .int 0, .ref (n0 + 517), .ref (n0 + 518), .ref (n0 + 519), .ref (n0 + 520), .ref (n0 + 521), .null, .null, .null, .null, .int 0, .int 0, .int 0]) X hin (ci := 8) (j := 32) rfl (by decide) tyX9_ok nmX9 wf_X9_70 rfl rfl dX9_init_160 (by omega) yB_o (Nat.le_of_ble_eq_true rfl) rfl rfl (fun x _ hx => yB_s hx) (yB_o.trans rfl) ?_
  refine y_aload_n X dX9_init_163 rfl ?_
  refine y_ldc X dX9_init_164 wk_X9_73 ?_
  refine y_newaZ (n := 40000) (N := 522) (B' := yB D cs n0 B0 8 503 [.int 0, .ref (n0 + 504), .int 0, .int 0, .ref (n0 + 505), .ref (n0 + 506), .ref (n0 + 507), .int 0, .ref (n0 + 508), .ref (n0 + 509), .int 0, .ref (n0 + 510), .ref (n0 + 511), .ref (n0 + 512), .ref (n0 + 513), .ref (n0 + 514), .int 0, .int 0, .ref (n0 + 515), .int 0, .int 0, .ref (n0 + 516), .int 0, .int (-1), .int (-1), .int 0, .int 0, .int 0, .ref (n0 + 517), .ref (n0 + 518), .ref (n0 + 519), .ref (n0 + 520), .ref (n0 + 521), .null, .null, .null, .null, .int 0, .int 0, .int 0]) X dX9_init_166 (by decide) rfl (by decide) (fun _ _ => rfl) ((yB_n (by omega)).trans (yF_z (by decide +kernel))) ⟨by decide, by decide⟩ ?_
  refine y_putF (o := 503) (B' := yB D cs n0 B0 8 503 [.int 0, .ref (n0 + 504), .int 0, .int 0, .ref (n0 + 505), .ref (n0 + 506), .ref (n0 + 507), .int 0, .ref (n0 + 508), .ref (n0 + 509), .int 0, .ref (n0 + 510), .ref (n0 + 511), .ref (n0 + 512), .ref (n0 + 513), .ref (n0 + 514), .int 0, .int 0, .ref (n0 + 515), .int 0, .int 0, .ref (n0 + 516), .int 0, .int (-1), .int (-1), .int 0, .int 0, .int 0, .ref (n0 + 517), .ref (n0 + 518), .ref (n0 + 519), .ref (n0 + 520), .ref (n0 + 521), .ref (n0 + 522), .null, .null, .null, .int 0, .int 0, .int 0]) X hin (ci := 8) (j := 33) rfl (by decide) tyX9_ok nmX9 wf_X9_74 rfl rfl dX9_init_168 (by omega) yB_o (Nat.le_of_ble_eq_true rfl) rfl rfl (fun x _ hx => yB_s hx) (yB_o.trans rfl) ?_
  refine y_aload_n X dX9_init_171 rfl ?_
  refine y_sipush (v := 200) X dX9_init_172 (by decide) ?_
  refine y_newaZ (n := 200) (N := 523) (B' := yB D cs n0 B0 8 503 [.int 0, .ref (n0 + 504), .int 0, .int 0, .ref (n0 + 505), .ref (n0 + 506), .ref (n0 + 507), .int 0, .ref (n0 + 508), .ref (n0 + 509), .int 0, .ref (n0 + 510), .ref (n0 + 511), .ref (n0 + 512), .ref (n0 + 513), .ref (n0 + 514), .int 0, .int 0, .ref (n0 + 515), .int 0, .int 0, .ref (n0 + 516), .int 0, .int (-1), .int (-1), .int 0, .int 0, .int 0, .ref (n0 + 517), .ref (n0 + 518), .ref (n0 + 519), .ref (n0 + 520), .ref (n0 + 521), .ref (n0 + 522), .null, .null, .null, .int 0, .int 0, .int 0]) X dX9_init_175 (by decide) rfl (by decide) (fun _ _ => rfl) ((yB_n (by omega)).trans (yF_z (by decide +kernel))) ⟨by decide, by decide⟩ ?_
  refine y_putF (o := 503) (B' := yB D cs n0 B0 8 503 [.int 0, .ref (n0 + 504), .int 0, .int 0, .ref (n0 + 505), .ref (n0 + 506), .ref (n0 + 507), .int 0, .ref (n0 + 508), .ref (n0 + 509), .int 0, .ref (n0 + 510), .ref (n0 + 511), .ref (n0 + 512), .ref (n0 + 513), .ref (n0 + 514), .int 0, .int 0, .ref (n0 + 515), .int 0, .int 0, .ref (n0 + 516), .int 0, .int (-1), .int (-1), .int 0, .int 0, .int 0, .ref (n0 + 517), .ref (n0 + 518), .ref (n0 + 519), .ref (n0 + 520), .ref (n0 + 521), .ref (n0 + 522), .ref (n0 + 523), .null, .null, .int 0, .int 0, .int 0]) X hin (ci := 8) (j := 34) rfl (by decide) tyX9_ok nmX9 wf_X9_77 rfl rfl dX9_init_177 (by omega) yB_o (Nat.le_of_ble_eq_true rfl) rfl rfl (fun x _ hx => yB_s hx) (yB_o.trans rfl) ?_
  refine y_aload_n X dX9_init_180 rfl ?_
  refine y_sipush (v := 200) X dX9_init_181 (by decide) ?_
  refine y_newaI (n := 200) (N := 524) (B' := yB D cs n0 B0 8 503 [.int 0, .ref (n0 + 504), .int 0, .int 0, .ref (n0 + 505), .ref (n0 + 506), .ref (n0 + 507), .int 0, .ref (n0 + 508), .ref (n0 + 509), .int 0, .ref (n0 + 510), .ref (n0 + 511), .ref (n0 + 512), .ref (n0 + 513), .ref (n0 + 514), .int 0, .int 0, .ref (n0 + 515), .int 0, .int 0, .ref (n0 + 516), .int 0, .int (-1), .int (-1), .int 0, .int 0, .int 0, .ref (n0 + 517), .ref (n0 + 518), .ref (n0 + 519), .ref (n0 + 520), .ref (n0 + 521), .ref (n0 + 522), .ref (n0 + 523), .null, .null, .int 0, .int 0, .int 0]) X dX9_init_184 (by decide) rfl (by decide) (fun _ _ => rfl) ((yB_n (by omega)).trans (yF_i (by decide +kernel))) ⟨by decide, by decide⟩ ?_
  refine y_putF (o := 503) (B' := yB D cs n0 B0 8 503 [.int 0, .ref (n0 + 504), .int 0, .int 0, .ref (n0 + 505), .ref (n0 + 506), .ref (n0 + 507), .int 0, .ref (n0 + 508), .ref (n0 + 509), .int 0, .ref (n0 + 510), .ref (n0 + 511), .ref (n0 + 512), .ref (n0 + 513), .ref (n0 + 514), .int 0, .int 0, .ref (n0 + 515), .int 0, .int 0, .ref (n0 + 516), .int 0, .int (-1), .int (-1), .int 0, .int 0, .int 0, .ref (n0 + 517), .ref (n0 + 518), .ref (n0 + 519), .ref (n0 + 520), .ref (n0 + 521), .ref (n0 + 522), .ref (n0 + 523), .ref (n0 + 524), .null, .int 0, .int 0, .int 0]) X hin (ci := 8) (j := 35) rfl (by decide) tyX9_ok nmX9 wf_X9_80 rfl rfl dX9_init_186 (by omega) yB_o (Nat.le_of_ble_eq_true rfl) rfl rfl (fun x _ hx => yB_s hx) (yB_o.trans rfl) ?_
  refine y_aload_n X dX9_init_189 rfl ?_
  refine y_sipush (v := 1500) X dX9_init_190 (by decide) ?_
  refine y_newaI (n := 1500) (N := 525) (B' := yB D cs n0 B0 8 503 [.int 0, .ref (n0 + 504), .int 0, .int 0, .ref (n0 + 505), .ref (n0 + 506), .ref (n0 + 507), .int 0, .ref (n0 + 508), .ref (n0 + 509), .int 0, .ref (n0 + 510), .ref (n0 + 511), .ref (n0 + 512), .ref (n0 + 513), .ref (n0 + 514), .int 0, .int 0, .ref (n0 + 515), .int 0, .int 0, .ref (n0 + 516), .int 0, .int (-1), .int (-1), .int 0, .int 0, .int 0, .ref (n0 + 517), .ref (n0 + 518), .ref (n0 + 519), .ref (n0 + 520), .ref (n0 + 521), .ref (n0 + 522), .ref (n0 + 523), .ref (n0 + 524), .null, .int 0, .int 0, .int 0]) X dX9_init_193 (by decide) rfl (by decide) (fun _ _ => rfl) ((yB_n (by omega)).trans (yF_i (by decide +kernel))) ⟨by decide, by decide⟩ ?_
  refine y_putF (o := 503) (B' := yB D cs n0 B0 8 503 [.int 0, .ref (n0 + 504), .int 0, .int 0, .ref (n0 + 505), .ref (n0 + 506), .ref (n0 + 507), .int 0, .ref (n0 + 508), .ref (n0 + 509), .int 0, .ref (n0 + 510), .ref (n0 + 511), .ref (n0 + 512), .ref (n0 + 513), .ref (n0 + 514), .int 0, .int 0, .ref (n0 + 515), .int 0, .int 0, .ref (n0 + 516), .int 0, .int (-1), .int (-1), .int 0, .int 0, .int 0, .ref (n0 + 517), .ref (n0 + 518), .ref (n0 + 519), .ref (n0 + 520), .ref (n0 + 521), .ref (n0 + 522), .ref (n0 + 523), .ref (n0 + 524), .ref (n0 + 525), .int 0, .int 0, .int 0]) X hin (ci := 8) (j := 36) rfl (by decide) tyX9_ok nmX9 wf_X9_83 rfl rfl dX9_init_195 (by omega) yB_o (Nat.le_of_ble_eq_true rfl) rfl rfl (fun x _ hx => yB_s hx) (yB_o.trans rfl) ?_
  exact y_ret X dX9_init_198 (by decide) (by decide) rfl (yB_e rfl)
