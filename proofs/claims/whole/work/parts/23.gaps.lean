/-! Certificate: closing the gaps -/
theorem sNd_o {nr : Nat} {kd sa ln : Nat → Nat} {a : Nat} (b : Nat) (h : a ≠ 13) : ∀ k (p : Nat × xS), xgI (sNd nr kd sa ln k p).2 a b = xgI p.2 a b
  | 0, _ => rfl
  | k + 1, p => by
    by_cases hz : xgI p.2 13 k = 0
    · rw [sNd_0 hz, sNd_o b h k p]
    · rw [sNd_1 hz, sNd_o b h k]
      exact sMark_o b h _
theorem sNd_nd {nr : Nat} {kd sa ln : Nat → Nat} (hr : nr ≤ 200) : ∀ k (p : Nat × xS), (∀ j, j < 200 → ¬ xgI p.2 13 j = 0 → j < nr) → ∀ j, j < 200 → ¬ xgI (sNd nr kd sa ln k p).2 13 j = 0 → j < nr
  | 0, _, h => h
  | k + 1, p, h => by
    by_cases hz : xgI p.2 13 k = 0
    · rw [sNd_0 hz]; exact sNd_nd hr k p h
    · rw [sNd_1 hz]; exact sNd_nd hr k _ (sMark_nd hr h _)
theorem sN0_nd {σ : xS} {w nr : Nat} (hw : w < nr) : ∀ j, j < 200 → ¬ xgI (sN0 σ w 200) 13 j = 0 → j < nr := fun j hj hz => by
  rw [sN0_n 200 hj] at hz
  by_cases e : j = w
  · omega
  · rw [if_neg e] at hz; exact absurd rfl hz
/-- the state behind marking what row w needs -/
noncomputable def sNeed (σ : xS) (nr w : Nat) (kd sa ln : Nat → Nat) : xS := (sNd nr kd sa ln 200 (0, sN0 σ w 200)).2
theorem sNeed_o {σ : xS} {nr w : Nat} {kd sa ln : Nat → Nat} {a : Nat} (b : Nat) (h : a ≠ 13) : xgI (sNeed σ nr w kd sa ln) a b = xgI σ a b := (sNd_o b h 200 _).trans (sN0_o b h 200)
theorem sNeed_nd {σ : xS} {nr w : Nat} {kd sa ln : Nat → Nat} (hr : nr ≤ 200) (hw : w < nr) : ∀ j, j < 200 → ¬ xgI (sNeed σ nr w kd sa ln) 13 j = 0 → j < nr := sNd_nd hr 200 _ (sN0_nd hw)

set_option maxHeartbeats 4000000 in
set_option maxRecDepth 100000 in
theorem c_X0_closeGaps {l : Launch} {G : xG} {σ : xS} {nr w : Nat} {kd sa ln : Nat → Nat} (hr : nr ≤ 200) (hc : xgI σ 8 3 = nI nr) (hra : rowsAt σ nr kd sa ln) (hw : w < nr) (h0 : 0 < nr → sa 0 = 1) (h1 : ∀ r, r + 1 < nr → sa (r + 1) = sa r + ln r) : xFi l G yX0_closeGaps cX0_closeGaps 5 (Option.some Jvm.ClassFile.FieldType.int) 3 67 [.ref (G.2.1 6), .int (nI w)] σ (nI (sGap (sNeed σ nr w kd sa ln) nr kd sa ln 200).1) ((sGap (sNeed σ nr w kd sa ln) nr kd sa ln 200).2.2) := by
  refine xM.of (by decide) (Nat.le_of_ble_eq_true rfl) (fun pp ee ss mm aa bel met kk X => ?_)
  have X : xC pp ss mm met kk cX0_closeGaps 5 RX0 (Option.some Jvm.ClassFile.FieldType.int) G := X
  show xW pp l ee { frames := 3, cells := 0, slots := 0, locals := 67 } ss mm aa bel met kk 5 G 0 0 (xQ bel G (fun r t => r = some (.int (nI (sGap (sNeed σ nr w kd sa ln) nr kd sa ln 200).1)) ∧ t = ((sGap (sNeed σ nr w kd sa ln) nr kd sa ln 200).2.2)) aa ss) 0 [(0, .ref (G.2.1 6)), (1, .int (nI w))] [] σ
  refine x_aload_n X dX0_closeGaps_0 rfl ?_
  refine x_iload_n X dX0_closeGaps_1 rfl ?_
  refine cv_X0_138 X (c_X0_markNeeded hr hc hra hw) dX0_closeGaps_2 rfl ⟨by decide, by decide, by decide, by decide⟩ rfl rfl (Nat.le_of_ble_eq_true rfl) (xk_i ?_)
  obtain ⟨T0, hT0⟩ : ∃ z : xS, z = sNeed σ nr w kd sa ln := ⟨_, rfl⟩
  rw [show (sNd nr kd sa ln 200 (0, sN0 σ w 200)).2 = T0 from hT0.symm]
  have hTo : ∀ a b, a ≠ 13 → xgI T0 a b = xgI σ a b := fun a b h => by rw [hT0]; exact sNeed_o b h
  have hTn : ∀ j, j < 200 → ¬ xgI T0 13 j = 0 → j < nr := by rw [hT0]; exact sNeed_nd hr hw
  refine x_pop X dX0_closeGaps_5 rfl ?_
  refine x_iconst (v := 1) X dX0_closeGaps_6 (by decide) ?_
  refine x_istore_n (lv' := [(2, .int 1), (0, .ref (G.2.1 6)), (1, .int (nI w))]) X dX0_closeGaps_7 rfl (by decide) rfl ?_
  refine x_iconst (v := 0) X dX0_closeGaps_8 (by decide) ?_
  refine x_istore_n (lv' := [(3, .int 0), (2, .int 1), (0, .ref (G.2.1 6)), (1, .int (nI w))]) X dX0_closeGaps_9 rfl (by decide) rfl ?_
  refine x_iconst (v := 0) X dX0_closeGaps_10 (by decide) ?_
  refine x_istore (lv' := [(4, .int 0), (3, .int 0), (2, .int 1), (0, .ref (G.2.1 6)), (1, .int (nI w))]) X dX0_closeGaps_11 (by decide) rfl ?_
  have lp13 : ∀ (NN13 : Nat) (r : Nat) (hr2 : r ≤ 200) (le ke : Nat) (τ : xS) (hG : sGap T0 nr kd sa ln r = (le, ke, τ)), 200 - r = NN13 → xW pp l ee { frames := 3, cells := 0, slots := 0, locals := 67 } ss mm aa bel met kk 5 G 0 0 (xQ bel G (fun r t => r = some (.int (nI (sGap (sNeed σ nr w kd sa ln) nr kd sa ln 200).1)) ∧ t = ((sGap (sNeed σ nr w kd sa ln) nr kd sa ln 200).2.2)) aa ss) 13 [(4, .int (nI r)), (3, .int (nI ke)), (2, .int (nI le)), (1, .int (nI w)), (0, .ref (G.2.1 6))] [] (τ) := by
    intro NN13
    induction NN13 using Nat.strongRecOn with
    | ind NN13 ih13 =>
      intro r hr2 le ke τ hG hNN13
      have ho : ∀ a b, a ≠ 7 → a ≠ 14 → a ≠ 13 → xgI τ a b = xgI σ a b := fun a b g1 g2 g3 => by have z := sGap_o (τ := T0) (nr := nr) (kd := kd) (sa := sa) (ln := ln) b g1 g2 r; rw [hG] at z; exact z.trans (hTo a b g3)
      have ho2 : ∀ b, xgI τ 13 b = xgI T0 13 b := fun b => by have z := sGap_o (τ := T0) (nr := nr) (kd := kd) (sa := sa) (ln := ln) (a := 13) b (by omega) (by omega) r; rw [hG] at z; exact z
      refine x_iload X dX0_closeGaps_13 rfl ?_
      refine x_sipush (v := 200) X dX0_closeGaps_15 (by decide) ?_
      refine x_icmpge (tgt := 63) X dX0_closeGaps_18 (by decide) (fun h18 => ?_) (fun h18 => ?_)
      · skip
        rw [xb_ge (x := nI r) (y := 200) (a := r) (b := 200) rfl rfl (by omega) (by omega)] at h18
        obtain rfl : r = 200 := by omega
        refine x_iload_n X dX0_closeGaps_63 rfl ?_
        exact x_iret X dX0_closeGaps_64 (xp_i (by rw [← hT0, hG]) (by rw [← hT0, hG]))
      · skip
        rw [xb_ge (x := nI r) (y := 200) (a := r) (b := 200) rfl rfl (by omega) (by omega)] at h18
        refine x_aload_n X dX0_closeGaps_21 rfl ?_
        refine gf_X0_36 (k' := 13) X dX0_closeGaps_22 rfl rfl ?_
        refine x_iload X dX0_closeGaps_25 rfl ?_
        refine x_zaldN X dX0_closeGaps_27 rfl (by omega) (by omega) ?_
        rw [ho2 r]
        refine x_ifeq (tgt := 57) X dX0_closeGaps_28 (by decide) (fun h28 => ?_) (fun h28 => ?_)
        · skip
          have hG9 : sGap T0 nr kd sa ln (r + 1) = (le, ke, τ) := (sGap_0 h28).trans hG
          obtain ⟨le9, ke9, τ9, e1, e2, e3⟩ : ∃ (a b : Nat) (d : xS), a = le ∧ b = ke ∧ d = τ := ⟨_, _, _, rfl, rfl, rfl⟩
          rw [← e1, ← e2, ← e3] at hG9 ⊢
          refine x_iinc (k := 0) (v := nI (r + 1)) (lv' := [(4, .int (nI (r + 1))), (3, .int (nI ke9)), (2, .int (nI le9)), (1, .int (nI w)), (0, .ref (G.2.1 6))]) X dX0_closeGaps_57 rfl (xn_inc _) (by decide) rfl ?_
          refine x_goto (tgt := 13) X dX0_closeGaps_60 (by decide) ?_
          refine x_pick [0, 1, 2, 3, 4] rfl ?_
          exact ih13 _ (by omega) (r + 1) (by omega) le9 ke9 τ9 hG9 rfl
        · skip
          have hrn := hTn r (by omega) h28
          obtain ⟨q1, q2, q3, q4, q5, q6⟩ := hra r hrn
          have hG8 := sGap_1 (nr := nr) (kd := kd) (sa := sa) (ln := ln) h28
          rw [hG] at hG8
          have hle := sGap_l (kd := kd) h0 h1 hTn hr r hrn
          have hkp := sGap_k (τ := T0) (nr := nr) (kd := kd) (sa := sa) (ln := ln) r
          rw [hG] at hle hkp
          have hle : le ≤ sa r := hle
          have hkp : ke ≤ r := hkp
          refine x_aload_n X dX0_closeGaps_31 rfl ?_
          refine gf_X0_40 (k' := 14) X dX0_closeGaps_32 rfl rfl ?_
          refine x_iload X dX0_closeGaps_35 rfl ?_
          refine x_iload_n X dX0_closeGaps_37 rfl ?_
          refine x_iastN X dX0_closeGaps_38 rfl (by omega) (by omega) ?_
          refine x_iinc (k := 1) (v := nI (ke + 1)) (lv' := [(3, .int (nI (ke + 1))), (4, .int (nI r)), (2, .int (nI le)), (1, .int (nI w)), (0, .ref (G.2.1 6))]) X dX0_closeGaps_39 rfl (xn_inc _) (by decide) rfl ?_
          refine x_aload_n X dX0_closeGaps_42 rfl ?_
          refine x_aload_n X dX0_closeGaps_43 rfl ?_
          refine gf_X0_25 (k' := 8) X dX0_closeGaps_44 rfl rfl ?_
          refine x_iload X dX0_closeGaps_47 rfl ?_
          refine cv_X0_112 X (c_X6_at hr ((xgI_n (by omega)).trans ((ho (8) (3) (by omega) (by omega) (by omega)).trans hc)) hrn) dX0_closeGaps_49 rfl ⟨by decide, by decide, by decide, by decide⟩ rfl rfl (Nat.le_of_ble_eq_true rfl) (xk_r ?_)
          refine x_iload_n X dX0_closeGaps_52 rfl ?_
          refine cv_X0_141 X (c_X0_moveNumbers (i := r) (by omega) ((xgI_n (by omega)).trans ((ho (61 + r) (5) (by omega) (by omega) (by omega)).trans q1)) q2 ((xgI_n (by omega)).trans ((ho (61 + r) (6) (by omega) (by omega) (by omega)).trans q3)) ((xgI_n (by omega)).trans ((ho (61 + r) (7) (by omega) (by omega) (by omega)).trans q4)) q5 hr ((xgI_n (by omega)).trans ((ho (8) (3) (by omega) (by omega) (by omega)).trans hc)) (by omega)) dX0_closeGaps_53 rfl ⟨by decide, by decide, by decide, by decide⟩ rfl rfl (Nat.le_of_ble_eq_true rfl) (xk_i ?_)
          obtain ⟨le9, ke9, τ9, e1, e2, e3⟩ : ∃ (a b : Nat) (d : xS), a = le + ln r ∧ b = ke + 1 ∧ d = sMove (xsI τ 14 r (nI ke)) (sa r) le nr (nI (kd r)) (ln r) := ⟨_, _, _, rfl, rfl, rfl⟩
          have hG9 : sGap T0 nr kd sa ln (r + 1) = (le9, ke9, τ9) := by rw [e1, e2, e3]; exact hG8
          rw [← e1, ← e2, ← e3]
          skip
          refine x_istore_n (lv' := [(2, .int (nI le9)), (3, .int (nI ke9)), (4, .int (nI r)), (1, .int (nI w)), (0, .ref (G.2.1 6))]) X dX0_closeGaps_56 rfl (by decide) rfl ?_
          refine x_iinc (k := 2) (v := nI (r + 1)) (lv' := [(4, .int (nI (r + 1))), (2, .int (nI le9)), (3, .int (nI ke9)), (1, .int (nI w)), (0, .ref (G.2.1 6))]) X dX0_closeGaps_57 rfl (xn_inc _) (by decide) rfl ?_
          refine x_goto (tgt := 13) X dX0_closeGaps_60 (by decide) ?_
          refine x_pick [0, 2, 1, 3, 4] rfl ?_
          exact ih13 _ (by omega) (r + 1) (by omega) le9 ke9 τ9 hG9 rfl
  refine x_pick [0, 1, 2, 4, 3] rfl ?_
  exact lp13 _ 0 (by omega) 1 0 T0 rfl rfl
