
/-! Rows(): with its array of rows in the making -/
def yR (D : va_G) (cs : Nat → ClassId) (n0 : Nat) (B0 : Nat → va_E) (i : Nat) (fs : List Value) : Nat → va_E := fun x => if x = 17 then .inl (cs 3, 200, .inr (.inr (.inr (.inr (fun j => if j < i then some (n0 + (21 + 2 * j)) else none))))) else yB D cs n0 B0 5 16 fs x
theorem yR_a {D : va_G} {cs : Nat → ClassId} {n0 : Nat} {B0 : Nat → va_E} {i : Nat} {fs : List Value} : yR D cs n0 B0 i fs 17 = .inl (cs 3, 200, .inr (.inr (.inr (.inr (fun j => if j < i then some (n0 + (21 + 2 * j)) else none))))) := if_pos rfl
theorem yR_b {D : va_G} {cs : Nat → ClassId} {n0 : Nat} {B0 : Nat → va_E} {i x : Nat} {fs : List Value} (h : x ≠ 17) : yR D cs n0 B0 i fs x = yB D cs n0 B0 5 16 fs x := if_neg h
theorem yR_o {D : va_G} {cs : Nat → ClassId} {n0 : Nat} {B0 : Nat → va_E} {i : Nat} {fs : List Value} : yR D cs n0 B0 i fs 16 = .inr (5, fs) := (yR_b (by decide)).trans yB_o
theorem yR_n {D : va_G} {cs : Nat → ClassId} {n0 : Nat} {B0 : Nat → va_E} {i x : Nat} {fs : List Value} (h : 17 < x) : yR D cs n0 B0 i fs x = yF D cs n0 x := (yR_b (by omega)).trans (yB_n (by omega))
theorem yR_s {D : va_G} {cs : Nat → ClassId} {n0 : Nat} {B0 : Nat → va_E} {i x : Nat} {fs gs : List Value} (h : x ≠ 16) : yR D cs n0 B0 i gs x = yR D cs n0 B0 i fs x := by
  by_cases h1 : x = 17
  · rw [h1, yR_a, yR_a]
  · rw [yR_b h1, yR_b h1]
    exact yB_s h
theorem yR_0 {D : va_G} {cs : Nat → ClassId} {n0 : Nat} {B0 : Nat → va_E} {fs : List Value} : yR D cs n0 B0 0 fs 17 = .inl (cs 3, 200, .inr (.inr (.inr (.inr (fun _ => none))))) := by
  rw [yR_a]
  congr 7
theorem yR_u {D : va_G} {cs : Nat → ClassId} {n0 : Nat} {B0 : Nat → va_E} {i : Nat} {fs : List Value} (hi : i < 200) : yR D cs n0 B0 (i + 1) fs 17 = .inl (cs 3, 200, .inr (.inr (.inr (.inr (va_up (fun j => if j < i then some (n0 + (21 + 2 * j)) else none) (nI i).toNatClampNeg (some (n0 + (21 + 2 * i)))))))) := by
  rw [yR_a, nI_clamp (by omega)]
  have e : (fun j => if j < i + 1 then some (n0 + (21 + 2 * j)) else none) = va_up (fun j => if j < i then some (n0 + (21 + 2 * j)) else none) i (some (n0 + (21 + 2 * i))) := by
    funext j
    unfold va_up
    by_cases h : j = i
    · subst h
      rw [if_pos rfl, if_pos (by omega)]
    · rw [if_neg h]
      show _ = if j < i then some (n0 + (21 + 2 * j)) else none
      by_cases h2 : j < i
      · rw [if_pos h2, if_pos (by omega)]
      · rw [if_neg h2, if_neg (by omega)]
  rw [e]
theorem yc_row : ∀ i, i < 200 → ycof (21 + 2 * i) = 61 + i ∧ xck (ycof (21 + 2 * i + 1)) = (11, 8) ∧ xck (61 + i) = (4, 0) ∧ yoff (61 + i + 201) = 21 + 2 * i + 1 := by decide +kernel
theorem yF_row {D : va_G} {cs : Nat → ClassId} {n0 i : Nat} (hi : i < 200) : yF D cs n0 (21 + 2 * i) = .inr (4, [.ref (n0 + (21 + 2 * i + 1)), .long 0, .long 0, .int 0, .long 0, .int 0, .int 0, .int 0, .int 0, .int 0, .int 0]) := by
  obtain ⟨h1, -, h3, h4⟩ := yc_row i hi
  unfold yF
  rw [h1, xcell_o h3 (by decide)]
  have e : xgI y0 (61 + i) = fun _ => 0 := by funext b; show y0.1 (61 + i) b = 0; unfold y0; dsimp only; rw [if_neg (by omega), if_neg (by omega)]
  have e0 : xrf y0 (61 + i) 0 = 61 + i + 201 := by unfold xrf; rw [if_neg (by omega)]
  have e2 : ∀ j, xfv (yG D cs n0) y0 (61 + i) j 0 = .int 0 := fun j => by show Value.int (xgI y0 (61 + i) j) = _; rw [e]
  have e3 : ∀ j, xfv (yG D cs n0) y0 (61 + i) j 3 = .int 0 := fun j => by show Value.int (xgI y0 (61 + i) j) = _; rw [e]
  have e4 : xfv (yG D cs n0) y0 (61 + i) 0 2 = .ref (n0 + (21 + 2 * i + 1)) := by show Value.ref (n0 + yoff (xrf y0 (61 + i) 0)) = _; rw [e0, h4]
  show Sum.inr (4, [xfv (yG D cs n0) y0 (61 + i) 0 2, .long 0, .long 0, xfv (yG D cs n0) y0 (61 + i) 3 3, .long 0, xfv (yG D cs n0) y0 (61 + i) 5 0, xfv (yG D cs n0) y0 (61 + i) 6 0, xfv (yG D cs n0) y0 (61 + i) 7 0, xfv (yG D cs n0) y0 (61 + i) 8 0, xfv (yG D cs n0) y0 (61 + i) 9 0, xfv (yG D cs n0) y0 (61 + i) 10 0]) = _
  rw [e4, e2, e2, e2, e2, e2, e2, e3]
theorem yR_e {D : va_G} {cs : Nat → ClassId} {n0 : Nat} {B0 : Nat → va_E} {fs : List Value} {H : Heap} {N : Nat} (h : yH D n0 N (yR D cs n0 B0 200 fs) H) : yH D n0 N (yB D cs n0 B0 5 16 fs) H := by
  refine ⟨h.1, fun x hx => ?_⟩
  have hh := h.2 x hx
  by_cases h17 : x = 17
  · subst h17
    rw [yB_n (by decide), yF_r (by decide +kernel : xck (ycof 17) = (13, 200))]
    rw [yR_a] at hh
    have hh : H[n0 + 17]? = some (vp_cell _ _) := hh
    show H[n0 + 17]? = some (vp_cell _ _)
    rw [hh, vp_cell_q, vp_cell_q]
    refine congrArg some (arrV_eq fun j hj => ?_)
    rw [if_pos hj, show yoff (xrf y0 (ycof 17) j) = 21 + 2 * j from (by decide +kernel : ∀ j, j < 200 → yoff (xrf y0 (ycof 17) j) = 21 + 2 * j) j hj]
  · rw [← yR_b (i := 200) h17]
    exact hh

set_option maxHeartbeats 4000000 in
set_option maxRecDepth 100000 in
theorem k_X6 {l : Launch} {D : va_G} {cs : Nat → ClassId} {n0 : Nat} : yI l D cs n0 yX6_init cX6_init 2 2 32 404 4079 5 16 405 := by
  refine yI.of (by decide) (Nat.le_of_ble_eq_true rfl) (fun B0 pp ee ss mm aa bel met kk hB X hyK hnm => ?_)
  have X : xC pp ss mm met kk cX6_init 2 RX6 none (yG D cs n0) := X
  have hin : met.name = "<init>" := hnm
  refine y_eq (B' := yB D cs n0 B0 5 16 (yD 5)) (yB_i hB) ?_
  refine y_eq (B' := yB D cs n0 B0 5 16 [.null, .null, .null, .int 0, .int 0]) (fun _ _ => rfl) ?_
  refine y_aload_n X dX6_init_0 rfl ?_
  refine y_objI X wz_oX6 dX6_init_1 ⟨by decide, by decide⟩ ?_
  refine y_aload_n X dX6_init_4 rfl ?_
  refine y_sipush (v := 200) X dX6_init_5 (by decide) ?_
  refine y_anew (n' := 200) (N := 17) (B' := yR D cs n0 B0 0 [.null, .null, .null, .int 0, .int 0]) X hyK wz_cX6_9 dX6_init_8 (by decide) rfl (by decide) (fun x hx => yR_b (by omega)) yR_0 ⟨by decide, by decide⟩ ?_
  refine y_putF (o := 16) (B' := yR D cs n0 B0 0 [.ref (n0 + 17), .null, .null, .int 0, .int 0]) X hin (ci := 5) (j := 0) rfl (by decide) tyX6_ok nmX6 wf_X6_11 rfl rfl dX6_init_11 (by omega) yR_o (Nat.le_of_ble_eq_true rfl) rfl rfl (fun x _ hx => yR_s hx) (yR_o.trans rfl) ?_
  refine y_aload_n X dX6_init_14 rfl ?_
  refine y_newI (N := 18) (B' := yR D cs n0 B0 0 [.ref (n0 + 17), .null, .null, .int 0, .int 0]) X hyK (k_X5 (by decide +kernel) rfl) rfl tyX5_ok dfX5 wz_cX6_9 wz_nX5 wi_X5 rfl wl_X6_17 wn_X5_init wc_X5_init rfl xnm_X5_init dX6_init_15 dX6_init_18 dX6_init_19 (by decide) (fun _ _ => rfl) (fun x hx _ => yR_n (by omega)) ⟨by decide, by decide, by decide, by decide⟩ (Nat.le_of_ble_eq_true rfl) ?_
  refine y_putF (o := 16) (B' := yR D cs n0 B0 0 [.ref (n0 + 17), .ref (n0 + 18), .null, .int 0, .int 0]) X hin (ci := 5) (j := 1) rfl (by decide) tyX6_ok nmX6 wf_X6_18 rfl rfl dX6_init_22 (by omega) yR_o (Nat.le_of_ble_eq_true rfl) rfl rfl (fun x _ hx => yR_s hx) (yR_o.trans rfl) ?_
  refine y_aload_n X dX6_init_25 rfl ?_
  refine y_bipush (v := 60) X dX6_init_26 (by decide) ?_
  refine y_newaI (n := 60) (N := 20) (B' := yR D cs n0 B0 0 [.ref (n0 + 17), .ref (n0 + 18), .null, .int 0, .int 0]) X dX6_init_28 (by decide) rfl (by decide) (fun _ _ => rfl) ((yR_n (by omega)).trans (yF_i (by decide +kernel))) ⟨by decide, by decide⟩ ?_
  refine y_putF (o := 16) (B' := yR D cs n0 B0 0 [.ref (n0 + 17), .ref (n0 + 18), .ref (n0 + 20), .int 0, .int 0]) X hin (ci := 5) (j := 2) rfl (by decide) tyX6_ok nmX6 wf_X6_22 rfl rfl dX6_init_30 (by omega) yR_o (Nat.le_of_ble_eq_true rfl) rfl rfl (fun x _ hx => yR_s hx) (yR_o.trans rfl) ?_
  refine y_iconst (v := nI 0) X dX6_init_33 (by decide) ?_
  refine y_istore_n (lv' := [(1, .int (nI 0)), (0, .ref (n0 + 16))]) X dX6_init_34 rfl (by decide) rfl ?_
  refine y_widen (k := 4 + 2 * 0) (n := 279 + 19 * 0) (by decide) (by decide) ?_
  have lp : ∀ (NN i : Nat), i ≤ 200 → 200 - i = NN → yW pp l ee { frames := 2, cells := 404, slots := 4079, locals := 32 } ss mm aa bel met kk 2 D n0 (4 + 2 * i) (279 + 19 * i) (MQ bel (yQc D cs n0 16 405 B0) aa ss 404 4079 (yA n0)) 35 [(1, .int (nI i)), (0, .ref (n0 + 16))] [] (21 + 2 * i) (yR D cs n0 B0 i [.ref (n0 + 17), .ref (n0 + 18), .ref (n0 + 20), .int 0, .int 0]) := by
    intro NN
    induction NN using Nat.strongRecOn with
    | ind NN ih =>
      intro i hi hNN
      refine y_iload_n X dX6_init_35 rfl ?_
      refine y_sipush (v := nI 200) X dX6_init_36 (by decide) ?_
      refine y_icmpge (tgt := 61) X dX6_init_39 (by decide) (fun h39 => ?_) (fun h39 => ?_)
      · rw [xb_ge (x := nI i) (y := nI 200) (a := i) (b := 200) rfl rfl (by omega) (by omega)] at h39
        obtain rfl : i = 200 := by omega
        intro H locs ls hH hS hl
        exact y_ret X dX6_init_61 (by decide) (by decide) rfl (yB_e rfl) H locs ls (yR_e hH) hS hl
      · rw [xb_ge (x := nI i) (y := nI 200) (a := i) (b := 200) rfl rfl (by omega) (by omega)] at h39
        refine y_aload_n X dX6_init_42 rfl ?_
        refine y_get (o := 16) (ci := 5) (j := 0) X rfl (by decide) wf_X6_11 dX6_init_43 (by omega) yR_o rfl ?_
        refine y_iload_n X dX6_init_46 rfl ?_
        refine y_newI (N := 21 + 2 * i) (B' := yR D cs n0 B0 i [.ref (n0 + 17), .ref (n0 + 18), .ref (n0 + 20), .int 0, .int 0]) X hyK (k_X5 (yc_row i (by omega)).2.1 (yF_row (by omega))) rfl tyX5_ok dfX5 wz_cX6_9 wz_nX5 wi_X5 rfl wl_X6_17 wn_X5_init wc_X5_init rfl xnm_X5_init dX6_init_47 dX6_init_50 dX6_init_51 (by decide) (fun _ _ => rfl) (fun x hx _ => yR_n (by omega)) ⟨by decide, by decide, by show _ ≤ 404; omega, by show _ ≤ 4079; omega⟩ (Nat.le_of_ble_eq_true rfl) ?_
        refine y_aast (o := 17) (v := 21 + 2 * i) (ci := 4) (B' := yR D cs n0 B0 (i + 1) [.ref (n0 + 17), .ref (n0 + 18), .ref (n0 + 20), .int 0, .int 0]) X rfl rfl dX6_init_54 (by omega) yR_a (by omega) ((yR_n (by omega)).trans (yF_row (by omega))) (vp_in_nI (by omega) (by decide)) (fun x _ hx => (yR_b hx).trans (yR_b hx).symm) (yR_u (by omega)) ?_
        refine y_iinc (k := 0) (v := nI (i + 1)) (lv' := [(1, .int (nI (i + 1))), (0, .ref (n0 + 16))]) X dX6_init_55 rfl (xn_inc _) (by decide) rfl ?_
        refine y_goto (tgt := 35) X dX6_init_58 (by decide) ?_
        refine y_widen (k := 4 + 2 * (i + 1)) (n := 279 + 19 * (i + 1)) (by omega) (by omega) ?_
        exact ih _ (by omega) (i + 1) (by omega) rfl
  exact lp _ 0 (by omega) rfl

set_option maxHeartbeats 4000000 in
set_option maxRecDepth 100000 in
theorem k_X0 {l : Launch} {D : va_G} {cs : Nat → ClassId} {n0 : Nat}  : yI l D cs n0 yX0_init cX0_init 1 3 53 410 5996 0 14 411 := by
  refine yI.of (by decide) (Nat.le_of_ble_eq_true rfl) (fun B0 pp ee ss mm aa bel met kk hB X hyK hnm => ?_)
  have X : xC pp ss mm met kk cX0_init 1 RX0 none (yG D cs n0) := X
  have hin : met.name = "<init>" := hnm
  refine y_eq (B' := yB D cs n0 B0 0 14 (yD 0)) (yB_i hB) ?_
  refine y_eq (B' := yB D cs n0 B0 0 14 [.null, .int 0, .int 0, .int 0, .int 0, .int 0, .null, .null, .null, .null]) (fun _ _ => rfl) ?_
  refine y_aload_n X dX0_init_0 rfl ?_
  refine y_objI X wz_oX0 dX0_init_1 ⟨by decide, by decide⟩ ?_
  refine y_aload_n X dX0_init_4 rfl ?_
  refine y_sipush (v := 1500) X dX0_init_5 (by decide) ?_
  refine y_newaI (n := 1500) (N := 15) (B' := yB D cs n0 B0 0 14 [.null, .int 0, .int 0, .int 0, .int 0, .int 0, .null, .null, .null, .null]) X dX0_init_8 (by decide) rfl (by decide) (fun _ _ => rfl) ((yB_n (by omega)).trans (yF_i (by decide +kernel))) ⟨by decide, by decide⟩ ?_
  refine y_putF (o := 14) (B' := yB D cs n0 B0 0 14 [.ref (n0 + 15), .int 0, .int 0, .int 0, .int 0, .int 0, .null, .null, .null, .null]) X hin (ci := 0) (j := 0) rfl (by decide) tyX0_ok nmX0 wf_X0_9 rfl rfl dX0_init_10 (by omega) yB_o (Nat.le_of_ble_eq_true rfl) rfl rfl (fun x _ hx => yB_s hx) (yB_o.trans rfl) ?_
  refine y_aload_n X dX0_init_13 rfl ?_
  refine y_iconst (v := (-1)) X dX0_init_14 (by decide) ?_
  refine y_put (o := 14) (B' := yB D cs n0 B0 0 14 [.ref (n0 + 15), .int 0, .int 0, .int 0, .int (-1), .int 0, .null, .null, .null, .null]) X (ci := 0) (j := 4) rfl (by decide) tyX0_ok nmX0 wf_X0_15 rfl dX0_init_15 (by omega) yB_o (Nat.le_of_ble_eq_true rfl) rfl rfl (fun x _ hx => yB_s hx) (yB_o.trans rfl) ?_
  refine y_aload_n X dX0_init_18 rfl ?_
  refine y_iconst (v := (-1)) X dX0_init_19 (by decide) ?_
  refine y_put (o := 14) (B' := yB D cs n0 B0 0 14 [.ref (n0 + 15), .int 0, .int 0, .int 0, .int (-1), .int (-1), .null, .null, .null, .null]) X (ci := 0) (j := 5) rfl (by decide) tyX0_ok nmX0 wf_X0_19 rfl dX0_init_20 (by omega) yB_o (Nat.le_of_ble_eq_true rfl) rfl rfl (fun x _ hx => yB_s hx) (yB_o.trans rfl) ?_
  refine y_aload_n X dX0_init_23 rfl ?_
  refine y_newI (N := 16) (B' := yB D cs n0 B0 0 14 [.ref (n0 + 15), .int 0, .int 0, .int 0, .int (-1), .int (-1), .null, .null, .null, .null]) X hyK k_X6 rfl tyX6_ok dfX6 wz_cX0_22 wz_nX6 wi_X6 rfl wl_X0_24 wn_X6_init wc_X6_init rfl xnm_X6_init dX0_init_24 dX0_init_27 dX0_init_28 (by decide) (fun _ _ => rfl) (fun x hx _ => yB_n (by omega)) ⟨by decide, by decide, by decide, by decide⟩ (Nat.le_of_ble_eq_true rfl) ?_
  refine y_putF (o := 14) (B' := yB D cs n0 B0 0 14 [.ref (n0 + 15), .int 0, .int 0, .int 0, .int (-1), .int (-1), .ref (n0 + 16), .null, .null, .null]) X hin (ci := 0) (j := 6) rfl (by decide) tyX0_ok nmX0 wf_X0_25 rfl rfl dX0_init_31 (by omega) yB_o (Nat.le_of_ble_eq_true rfl) rfl rfl (fun x _ hx => yB_s hx) (yB_o.trans rfl) ?_
  refine y_aload_n X dX0_init_34 rfl ?_
  refine y_newI (N := 421) (B' := yB D cs n0 B0 0 14 [.ref (n0 + 15), .int 0, .int 0, .int 0, .int (-1), .int (-1), .ref (n0 + 16), .null, .null, .null]) X hyK k_X1 rfl tyX1_ok dfX1 wz_cX0_29 wz_nX1 wi_X1 rfl wl_X0_31 wn_X1_init wc_X1_init rfl xnm_X1_init dX0_init_35 dX0_init_38 dX0_init_39 (by decide) (fun _ _ => rfl) (fun x hx _ => yB_n (by omega)) ⟨by decide, by decide, by decide, by decide⟩ (Nat.le_of_ble_eq_true rfl) ?_
  refine y_putF (o := 14) (B' := yB D cs n0 B0 0 14 [.ref (n0 + 15), .int 0, .int 0, .int 0, .int (-1), .int (-1), .ref (n0 + 16), .ref (n0 + 421), .null, .null]) X hin (ci := 0) (j := 7) rfl (by decide) tyX0_ok nmX0 wf_X0_32 rfl rfl dX0_init_42 (by omega) yB_o (Nat.le_of_ble_eq_true rfl) rfl rfl (fun x _ hx => yB_s hx) (yB_o.trans rfl) ?_
  refine y_aload_n X dX0_init_45 rfl ?_
  refine y_sipush (v := 200) X dX0_init_46 (by decide) ?_
  refine y_newaZ (n := 200) (N := 423) (B' := yB D cs n0 B0 0 14 [.ref (n0 + 15), .int 0, .int 0, .int 0, .int (-1), .int (-1), .ref (n0 + 16), .ref (n0 + 421), .null, .null]) X dX0_init_49 (by decide) rfl (by decide) (fun _ _ => rfl) ((yB_n (by omega)).trans (yF_z (by decide +kernel))) ⟨by decide, by decide⟩ ?_
  refine y_putF (o := 14) (B' := yB D cs n0 B0 0 14 [.ref (n0 + 15), .int 0, .int 0, .int 0, .int (-1), .int (-1), .ref (n0 + 16), .ref (n0 + 421), .ref (n0 + 423), .null]) X hin (ci := 0) (j := 8) rfl (by decide) tyX0_ok nmX0 wf_X0_36 rfl rfl dX0_init_51 (by omega) yB_o (Nat.le_of_ble_eq_true rfl) rfl rfl (fun x _ hx => yB_s hx) (yB_o.trans rfl) ?_
  refine y_aload_n X dX0_init_54 rfl ?_
  refine y_sipush (v := 200) X dX0_init_55 (by decide) ?_
  refine y_newaI (n := 200) (N := 424) (B' := yB D cs n0 B0 0 14 [.ref (n0 + 15), .int 0, .int 0, .int 0, .int (-1), .int (-1), .ref (n0 + 16), .ref (n0 + 421), .ref (n0 + 423), .null]) X dX0_init_58 (by decide) rfl (by decide) (fun _ _ => rfl) ((yB_n (by omega)).trans (yF_i (by decide +kernel))) ⟨by decide, by decide⟩ ?_
  refine y_putF (o := 14) (B' := yB D cs n0 B0 0 14 [.ref (n0 + 15), .int 0, .int 0, .int 0, .int (-1), .int (-1), .ref (n0 + 16), .ref (n0 + 421), .ref (n0 + 423), .ref (n0 + 424)]) X hin (ci := 0) (j := 9) rfl (by decide) tyX0_ok nmX0 wf_X0_40 rfl rfl dX0_init_60 (by omega) yB_o (Nat.le_of_ble_eq_true rfl) rfl rfl (fun x _ hx => yB_s hx) (yB_o.trans rfl) ?_
  exact y_ret X dX0_init_63 (by decide) (by decide) rfl (yB_e rfl)

set_option maxHeartbeats 4000000 in
set_option maxRecDepth 100000 in
theorem k_X8 {l : Launch} {D : va_G} {cs : Nat → ClassId} {n0 : Nat}  : yI l D cs n0 yX8_init cX8_init 1 4 73 502 7929 7 0 503 := by
  refine yI.of (by decide) (Nat.le_of_ble_eq_true rfl) (fun B0 pp ee ss mm aa bel met kk hB X hyK hnm => ?_)
  have X : xC pp ss mm met kk cX8_init 1 RX8 none (yG D cs n0) := X
  have hin : met.name = "<init>" := hnm
  refine y_eq (B' := yB D cs n0 B0 7 0 (yD 7)) (yB_i hB) ?_
  refine y_eq (B' := yB D cs n0 B0 7 0 [.null, .null, .null, .int 0, .null, .null]) (fun _ _ => rfl) ?_
  refine y_aload_n X dX8_init_0 rfl ?_
  refine y_objI X wz_oX8 dX8_init_1 ⟨by decide, by decide⟩ ?_
  refine y_aload_n X dX8_init_4 rfl ?_
  refine y_newI (N := 1) (B' := yB D cs n0 B0 7 0 [.null, .null, .null, .int 0, .null, .null]) X hyK k_X7 rfl tyX7_ok dfX7 wz_cX8_9 wz_nX7 wi_X7 rfl wl_X8_11 wn_X7_init wc_X7_init rfl xnm_X7_init dX8_init_5 dX8_init_8 dX8_init_9 (by decide) (fun _ _ => rfl) (fun x hx _ => yB_n (by omega)) ⟨by decide, by decide, by decide, by decide⟩ (Nat.le_of_ble_eq_true rfl) ?_
  refine y_putF (o := 0) (B' := yB D cs n0 B0 7 0 [.ref (n0 + 1), .null, .null, .int 0, .null, .null]) X hin (ci := 7) (j := 0) rfl (by decide) tyX8_ok nmX8 wf_X8_12 rfl rfl dX8_init_12 (by omega) yB_o (Nat.le_of_ble_eq_true rfl) rfl rfl (fun x _ hx => yB_s hx) (yB_o.trans rfl) ?_
  refine y_aload_n X dX8_init_15 rfl ?_
  refine y_newI (N := 3) (B' := yB D cs n0 B0 7 0 [.ref (n0 + 1), .null, .null, .int 0, .null, .null]) X hyK k_X4 rfl tyX4_ok dfX4 wz_cX8_16 wz_nX4 wi_X4 rfl wl_X8_18 wn_X4_init wc_X4_init rfl xnm_X4_init dX8_init_16 dX8_init_19 dX8_init_20 (by decide) (fun _ _ => rfl) (fun x hx _ => yB_n (by omega)) ⟨by decide, by decide, by decide, by decide⟩ (Nat.le_of_ble_eq_true rfl) ?_
  refine y_putF (o := 0) (B' := yB D cs n0 B0 7 0 [.ref (n0 + 1), .ref (n0 + 3), .null, .int 0, .null, .null]) X hin (ci := 7) (j := 1) rfl (by decide) tyX8_ok nmX8 wf_X8_19 rfl rfl dX8_init_23 (by omega) yB_o (Nat.le_of_ble_eq_true rfl) rfl rfl (fun x _ hx => yB_s hx) (yB_o.trans rfl) ?_
  refine y_aload_n X dX8_init_26 rfl ?_
  refine y_newI (N := 14) (B' := yB D cs n0 B0 7 0 [.ref (n0 + 1), .ref (n0 + 3), .null, .int 0, .null, .null]) X hyK k_X0 rfl tyX0_ok dfX0 wz_cX8_23 wz_nX0 wi_X0 rfl wl_X8_25 wn_X0_init wc_X0_init rfl xnm_X0_init dX8_init_27 dX8_init_30 dX8_init_31 (by decide) (fun _ _ => rfl) (fun x hx _ => yB_n (by omega)) ⟨by decide, by decide, by decide, by decide⟩ (Nat.le_of_ble_eq_true rfl) ?_
  refine y_putF (o := 0) (B' := yB D cs n0 B0 7 0 [.ref (n0 + 1), .ref (n0 + 3), .ref (n0 + 14), .int 0, .null, .null]) X hin (ci := 7) (j := 2) rfl (by decide) tyX8_ok nmX8 wf_X8_26 rfl rfl dX8_init_34 (by omega) yB_o (Nat.le_of_ble_eq_true rfl) rfl rfl (fun x _ hx => yB_s hx) (yB_o.trans rfl) ?_
  refine y_aload_n X dX8_init_37 rfl ?_
  refine y_newI (N := 425) (B' := yB D cs n0 B0 7 0 [.ref (n0 + 1), .ref (n0 + 3), .ref (n0 + 14), .int 0, .null, .null]) X hyK k_X2a rfl tyX2_ok dfX2 wz_cX8_30 wz_nX2 wi_X2 rfl wl_X8_32 wn_X2_init wc_X2_init rfl xnm_X2_init dX8_init_38 dX8_init_41 dX8_init_42 (by decide) (fun _ _ => rfl) (fun x hx _ => yB_n (by omega)) ⟨by decide, by decide, by decide, by decide⟩ (Nat.le_of_ble_eq_true rfl) ?_
  refine y_put (o := 0) (B' := yB D cs n0 B0 7 0 [.ref (n0 + 1), .ref (n0 + 3), .ref (n0 + 14), .int 0, .ref (n0 + 425), .null]) X (ci := 7) (j := 4) rfl (by decide) tyX8_ok nmX8 wf_X8_33 rfl dX8_init_45 (by omega) yB_o (Nat.le_of_ble_eq_true rfl) rfl rfl (fun x _ hx => yB_s hx) (yB_o.trans rfl) ?_
  refine y_aload_n X dX8_init_48 rfl ?_
  refine y_newI (N := 464) (B' := yB D cs n0 B0 7 0 [.ref (n0 + 1), .ref (n0 + 3), .ref (n0 + 14), .int 0, .ref (n0 + 425), .null]) X hyK k_X2b rfl tyX2_ok dfX2 wz_cX8_30 wz_nX2 wi_X2 rfl wl_X8_32 wn_X2_init wc_X2_init rfl xnm_X2_init dX8_init_49 dX8_init_52 dX8_init_53 (by decide) (fun _ _ => rfl) (fun x hx _ => yB_n (by omega)) ⟨by decide, by decide, by decide, by decide⟩ (Nat.le_of_ble_eq_true rfl) ?_
  refine y_put (o := 0) (B' := yB D cs n0 B0 7 0 [.ref (n0 + 1), .ref (n0 + 3), .ref (n0 + 14), .int 0, .ref (n0 + 425), .ref (n0 + 464)]) X (ci := 7) (j := 5) rfl (by decide) tyX8_ok nmX8 wf_X8_37 rfl dX8_init_56 (by omega) yB_o (Nat.le_of_ble_eq_true rfl) rfl rfl (fun x _ hx => yB_s hx) (yB_o.trans rfl) ?_
  exact y_ret X dX8_init_59 (by decide) (by decide) rfl (yB_e rfl)
