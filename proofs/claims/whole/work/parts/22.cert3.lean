/-! Certificate: what a row needs, and closing the gaps -/
def rowsAt (σ : xS) (nr : Nat) (kd sa ln : Nat → Nat) : Prop := ∀ r, r < nr → xgI σ (61 + r) 5 = nI (kd r) ∧ kd r < 10 ∧ xgI σ (61 + r) 6 = nI (sa r) ∧ xgI σ (61 + r) 7 = nI (ln r) ∧ sa r + ln r ≤ 1500 ∧ 1 ≤ ln r
def sN0 (σ : xS) (w : Nat) : Nat → xS
  | 0 => σ
  | r + 1 => xsI (sN0 σ w r) 13 r (if r = w then 1 else 0)
theorem sN0_o {σ : xS} {w a : Nat} (b : Nat) (h : a ≠ 13) : ∀ n, xgI (sN0 σ w n) a b = xgI σ a b
  | 0 => rfl
  | n + 1 => by rw [sN0, xgI_n (fun z => h z.1), sN0_o b h n]
theorem sN0_n {σ : xS} {w j : Nat} : ∀ n, j < n → xgI (sN0 σ w n) 13 j = if j = w then 1 else 0
  | 0, h => absurd h (by omega)
  | n + 1, h => by
    rw [sN0, xgI_i]
    by_cases hj : j = n
    · rw [if_pos ⟨rfl, hj⟩, hj]
    · rw [if_neg (fun z => hj z.2), sN0_n n (by omega)]
noncomputable def sNd (nr : Nat) (kd sa ln : Nat → Nat) : Nat → Nat × xS → Nat × xS
  | 0, p => p
  | k + 1, p => sNd nr kd sa ln k (if xgI p.2 13 k = 0 then p else (p.1 + 1, sMark p.2 (sa k) nr (nI (kd k)) (ln k)))
theorem sNd_0 {nr : Nat} {kd sa ln : Nat → Nat} {k : Nat} {p : Nat × xS} (h : xgI p.2 13 k = 0) : sNd nr kd sa ln (k + 1) p = sNd nr kd sa ln k p := by rw [sNd, if_pos h]
theorem sNd_1 {nr : Nat} {kd sa ln : Nat → Nat} {k : Nat} {p : Nat × xS} (h : ¬ xgI p.2 13 k = 0) : sNd nr kd sa ln (k + 1) p = sNd nr kd sa ln k (p.1 + 1, sMark p.2 (sa k) nr (nI (kd k)) (ln k)) := by rw [sNd, if_neg h]
theorem sMark_nd {σ : xS} {s0 nr : Nat} {q : Int32} (hr : nr ≤ 200) (h : ∀ j, j < 200 → ¬ xgI σ 13 j = 0 → j < nr) : ∀ n j, j < 200 → ¬ xgI (sMark σ s0 nr q n) 13 j = 0 → j < nr
  | 0 => h
  | n + 1 => by
    rw [sMark]
    split
    · exact sMark_nd hr h n
    · split
      · rename_i hx
        intro j hj hz
        rw [xgI_i] at hz
        by_cases e : j = (xgI σ 7 (s0 + n)).toNatClampNeg
        · obtain ⟨i, hi, ei⟩ := hx.2
          rw [ei, nI_clamp (by omega)] at e
          omega
        · rw [if_neg (fun z => e z.2)] at hz
          exact sMark_nd hr h n j hj hz
      · exact sMark_nd hr h n
/-- (places, rows kept, state) behind row r -/
noncomputable def sGap (τ : xS) (nr : Nat) (kd sa ln : Nat → Nat) : Nat → Nat × Nat × xS
  | 0 => (1, 0, τ)
  | r + 1 => if xgI τ 13 r = 0 then sGap τ nr kd sa ln r else ((sGap τ nr kd sa ln r).1 + ln r, (sGap τ nr kd sa ln r).2.1 + 1, sMove (xsI (sGap τ nr kd sa ln r).2.2 14 r (nI (sGap τ nr kd sa ln r).2.1)) (sa r) (sGap τ nr kd sa ln r).1 nr (nI (kd r)) (ln r))
theorem sGap_0 {τ : xS} {nr : Nat} {kd sa ln : Nat → Nat} {r : Nat} (h : xgI τ 13 r = 0) : sGap τ nr kd sa ln (r + 1) = sGap τ nr kd sa ln r := by rw [sGap, if_pos h]
theorem sGap_1 {τ : xS} {nr : Nat} {kd sa ln : Nat → Nat} {r : Nat} (h : ¬ xgI τ 13 r = 0) : sGap τ nr kd sa ln (r + 1) = ((sGap τ nr kd sa ln r).1 + ln r, (sGap τ nr kd sa ln r).2.1 + 1, sMove (xsI (sGap τ nr kd sa ln r).2.2 14 r (nI (sGap τ nr kd sa ln r).2.1)) (sa r) (sGap τ nr kd sa ln r).1 nr (nI (kd r)) (ln r)) := by rw [sGap, if_neg h]
theorem sGap_o {τ : xS} {nr : Nat} {kd sa ln : Nat → Nat} {a : Nat} (b : Nat) (h : a ≠ 7) (h2 : a ≠ 14) : ∀ r, xgI (sGap τ nr kd sa ln r).2.2 a b = xgI τ a b
  | 0 => rfl
  | r + 1 => by
    by_cases hz : xgI τ 13 r = 0
    · rw [sGap_0 hz, sGap_o b h h2 r]
    · rw [sGap_1 hz]
      show xgI (sMove _ _ _ _ _ _) a b = _
      rw [sMove_o b h, xgI_n (fun z => h2 z.1), sGap_o b h h2 r]
theorem sGap_k {τ : xS} {nr : Nat} {kd sa ln : Nat → Nat} : ∀ r, (sGap τ nr kd sa ln r).2.1 ≤ r
  | 0 => Nat.le_refl _
  | r + 1 => by
    have := sGap_k (τ := τ) (nr := nr) (kd := kd) (sa := sa) (ln := ln) r
    by_cases hz : xgI τ 13 r = 0
    · rw [sGap_0 hz]; omega
    · rw [sGap_1 hz]; show (sGap τ nr kd sa ln r).2.1 + 1 ≤ r + 1; omega
/-- the places stay behind those that are read -/
theorem sGap_l {τ : xS} {nr : Nat} {kd sa ln : Nat → Nat} (h0 : 0 < nr → sa 0 = 1) (h1 : ∀ r, r + 1 < nr → sa (r + 1) = sa r + ln r) (hnd : ∀ j, j < 200 → ¬ xgI τ 13 j = 0 → j < nr) (hr : nr ≤ 200) : ∀ r, r < nr → (sGap τ nr kd sa ln r).1 ≤ sa r
  | 0, h => by rw [h0 h]; exact Nat.le_refl 1
  | r + 1, h => by
    have ih := sGap_l (kd := kd) h0 h1 hnd hr r (by omega)
    rw [h1 r h]
    by_cases hz : xgI τ 13 r = 0
    · rw [sGap_0 hz]; omega
    · rw [sGap_1 hz]; show (sGap τ nr kd sa ln r).1 + ln r ≤ _; omega

set_option maxHeartbeats 4000000 in
set_option maxRecDepth 100000 in
theorem c_X0_markNeeded {l : Launch} {G : xG} {σ : xS} {nr w : Nat} {kd sa ln : Nat → Nat} (hr : nr ≤ 200) (hc : xgI σ 8 3 = nI nr) (hra : rowsAt σ nr kd sa ln) (hw : w < nr) : xFi l G yX0_markNeeded cX0_markNeeded 4 (Option.some Jvm.ClassFile.FieldType.int) 2 44 [.ref (G.2.1 6), .int (nI w)] σ (nI (sNd nr kd sa ln 200 (0, sN0 σ w 200)).1) ((sNd nr kd sa ln 200 (0, sN0 σ w 200)).2) := by
  refine xM.of (by decide) (Nat.le_of_ble_eq_true rfl) (fun pp ee ss mm aa bel met kk X => ?_)
  have X : xC pp ss mm met kk cX0_markNeeded 4 RX0 (Option.some Jvm.ClassFile.FieldType.int) G := X
  show xW pp l ee { frames := 2, cells := 0, slots := 0, locals := 44 } ss mm aa bel met kk 4 G 0 0 (xQ bel G (fun r t => r = some (.int (nI (sNd nr kd sa ln 200 (0, sN0 σ w 200)).1)) ∧ t = ((sNd nr kd sa ln 200 (0, sN0 σ w 200)).2)) aa ss) 0 [(0, .ref (G.2.1 6)), (1, .int (nI w))] [] σ
  refine x_iconst (v := 0) X dX0_markNeeded_0 (by decide) ?_
  refine x_istore_n (lv' := [(2, .int 0), (0, .ref (G.2.1 6)), (1, .int (nI w))]) X dX0_markNeeded_1 rfl (by decide) rfl ?_
  have lp2 : ∀ (NN2 : Nat) (n : Nat) (hn : n ≤ 200), 200 - n = NN2 → xW pp l ee { frames := 2, cells := 0, slots := 0, locals := 44 } ss mm aa bel met kk 4 G 0 0 (xQ bel G (fun r t => r = some (.int (nI (sNd nr kd sa ln 200 (0, sN0 σ w 200)).1)) ∧ t = ((sNd nr kd sa ln 200 (0, sN0 σ w 200)).2)) aa ss) 2 [(2, .int (nI n)), (1, .int (nI w)), (0, .ref (G.2.1 6))] [] (sN0 σ w n) := by
    intro NN2
    induction NN2 using Nat.strongRecOn with
    | ind NN2 ih2 =>
      intro n hn hNN2
      refine x_iload_n X dX0_markNeeded_2 rfl ?_
      refine x_sipush (v := 200) X dX0_markNeeded_3 (by decide) ?_
      refine x_icmpge (tgt := 31) X dX0_markNeeded_6 (by decide) (fun h6 => ?_) (fun h6 => ?_)
      · skip
        rw [xb_ge (x := nI n) (y := 200) (a := n) (b := 200) rfl rfl (by omega) (by omega)] at h6
        obtain rfl : n = 200 := by omega
        refine x_iconst (v := 0) X dX0_markNeeded_31 (by decide) ?_
        refine x_istore_n (lv' := [(2, .int 0), (1, .int (nI w)), (0, .ref (G.2.1 6))]) X dX0_markNeeded_32 rfl (by decide) rfl ?_
        refine x_sipush (v := 199) X dX0_markNeeded_33 (by decide) ?_
        refine x_istore_n (lv' := [(3, .int 199), (2, .int 0), (1, .int (nI w)), (0, .ref (G.2.1 6))]) X dX0_markNeeded_36 rfl (by decide) rfl ?_
        have lp37 : ∀ (NN37 : Nat) (k : Nat) (hk : k ≤ 200) (rr : Int32) (hrr : rr = nI k + -1) (cnt : Nat) (τ : xS) (hcn : cnt + k ≤ 200) (hP : sNd nr kd sa ln 200 (0, sN0 σ w 200) = sNd nr kd sa ln k (cnt, τ)) (ho : ∀ a b, a ≠ 13 → xgI τ a b = xgI σ a b) (hnd : ∀ j, j < 200 → ¬ xgI τ 13 j = 0 → j < nr), k = NN37 → xW pp l ee { frames := 2, cells := 0, slots := 0, locals := 44 } ss mm aa bel met kk 4 G 0 0 (xQ bel G (fun r t => r = some (.int (nI (sNd nr kd sa ln 200 (0, sN0 σ w 200)).1)) ∧ t = ((sNd nr kd sa ln 200 (0, sN0 σ w 200)).2)) aa ss) 37 [(3, .int rr), (2, .int (nI cnt)), (1, .int (nI w)), (0, .ref (G.2.1 6))] [] (τ) := by
          intro NN37
          induction NN37 using Nat.strongRecOn with
          | ind NN37 ih37 =>
            intro k hk rr hrr cnt τ hcn hP ho hnd hNN37
            refine x_iload_n X dX0_markNeeded_37 rfl ?_
            refine x_iflt (tgt := 71) X dX0_markNeeded_38 (by decide) (fun h38 => ?_) (fun h38 => ?_)
            · skip
              have hk0 : k = 0 := by
                by_cases z : k = 0
                · exact z
                · obtain ⟨j, rfl⟩ : ∃ j, k = j + 1 := ⟨k - 1, by omega⟩
                  rw [hrr, show nI (j + 1) + -1 = nI j from pk_m1 j] at h38
                  exact absurd h38 (nI_pos (by omega))
              subst hk0
              refine x_iload_n X dX0_markNeeded_71 rfl ?_
              exact x_iret X dX0_markNeeded_72 (xp_i (by rw [hP]; rfl) (by rw [hP]; rfl))
            · skip
              obtain ⟨k2, rfl⟩ : ∃ j, k = j + 1 := by
                by_cases z : k = 0
                · exact absurd (by rw [hrr, z]; decide) h38
                · exact ⟨k - 1, by omega⟩
              have hrr2 : rr = nI k2 := hrr.trans (pk_m1 k2)
              subst hrr2
              refine x_aload_n X dX0_markNeeded_41 rfl ?_
              refine gf_X0_36 (k' := 13) X dX0_markNeeded_42 rfl rfl ?_
              refine x_iload_n X dX0_markNeeded_45 rfl ?_
              refine x_zaldN X dX0_markNeeded_46 rfl (by omega) (by omega) ?_
              refine x_ifeq (tgt := 65) X dX0_markNeeded_47 (by decide) (fun h47 => ?_) (fun h47 => ?_)
              · skip
                have hP2 := hP.trans (sNd_0 (p := (cnt, τ)) h47)
                obtain ⟨cn9, τ9, ec, et⟩ : ∃ (a : Nat) (b : xS), a = cnt ∧ b = τ := ⟨_, _, rfl, rfl⟩
                rw [← ec, ← et] at hP2 ⊢
                have ho9 : ∀ a b, a ≠ 13 → xgI τ9 a b = xgI σ a b := et ▸ ho
                have hnd9 : ∀ j, j < 200 → ¬ xgI τ9 13 j = 0 → j < nr := et ▸ hnd
                skip
                obtain ⟨rr9, hrr9⟩ : ∃ z : Int32, z = nI k2 + Int32.ofInt (-1) := ⟨_, rfl⟩
                refine x_iinc (k := 0) (v := rr9) (lv' := [(3, .int rr9), (2, .int (nI cn9)), (1, .int (nI w)), (0, .ref (G.2.1 6))]) X dX0_markNeeded_65 rfl hrr9.symm (by decide) rfl ?_
                refine x_goto (tgt := 37) X dX0_markNeeded_68 (by decide) ?_
                refine x_pick [0, 1, 2, 3] rfl ?_
                exact ih37 _ (by omega) k2 (by omega) rr9 hrr9 cn9 τ9 (by omega) hP2 ho9 hnd9 rfl
              · skip
                have hk2 := hnd k2 (by omega) h47
                obtain ⟨q1, q2, q3, q4, q5, q6⟩ := hra k2 hk2
                refine x_iinc (k := 1) (v := nI (cnt + 1)) (lv' := [(2, .int (nI (cnt + 1))), (3, .int (nI k2)), (1, .int (nI w)), (0, .ref (G.2.1 6))]) X dX0_markNeeded_50 rfl (xn_inc _) (by decide) rfl ?_
                refine x_aload_n X dX0_markNeeded_53 rfl ?_
                refine x_aload_n X dX0_markNeeded_54 rfl ?_
                refine gf_X0_25 (k' := 8) X dX0_markNeeded_55 rfl rfl ?_
                refine x_iload_n X dX0_markNeeded_58 rfl ?_
                refine cv_X0_112 X (c_X6_at hr ((ho 8 3 (by omega)).trans hc) hk2) dX0_markNeeded_59 rfl ⟨by decide, by decide, by decide, by decide⟩ rfl rfl (Nat.le_of_ble_eq_true rfl) (xk_r ?_)
                refine cv_X0_116 X (c_X0_markSources (i := k2) (by omega) ((ho _ _ (by omega)).trans q1) q2 ((ho _ _ (by omega)).trans q3) ((ho _ _ (by omega)).trans q4) q5 hr ((ho 8 3 (by omega)).trans hc) q6) dX0_markNeeded_62 rfl ⟨by decide, by decide, by decide, by decide⟩ rfl rfl (Nat.le_of_ble_eq_true rfl) (xk_v ?_)
                have hP2 := hP.trans (sNd_1 (p := (cnt, τ)) h47)
                obtain ⟨cn9, ec⟩ : ∃ (a : Nat), a = cnt + 1 := ⟨_, rfl⟩
                have hnd9 := sMark_nd (s0 := sa k2) (q := nI (kd k2)) hr hnd (ln k2)
                have ho9 : ∀ a b, a ≠ 13 → xgI (sMark τ (sa k2) nr (nI (kd k2)) (ln k2)) a b = xgI σ a b := fun a b h => (sMark_o b h _).trans (ho a b h)
                obtain ⟨τ9, et⟩ : ∃ (b : xS), b = sMark τ (sa k2) nr (nI (kd k2)) (ln k2) := ⟨_, rfl⟩
                rw [← et] at hnd9 ho9 hP2 ⊢
                rw [← ec] at hP2 ⊢
                skip
                obtain ⟨rr9, hrr9⟩ : ∃ z : Int32, z = nI k2 + Int32.ofInt (-1) := ⟨_, rfl⟩
                refine x_iinc (k := 1) (v := rr9) (lv' := [(3, .int rr9), (2, .int (nI cn9)), (1, .int (nI w)), (0, .ref (G.2.1 6))]) X dX0_markNeeded_65 rfl hrr9.symm (by decide) rfl ?_
                refine x_goto (tgt := 37) X dX0_markNeeded_68 (by decide) ?_
                refine x_pick [0, 1, 2, 3] rfl ?_
                exact ih37 _ (by omega) k2 (by omega) rr9 hrr9 cn9 τ9 (by omega) hP2 ho9 hnd9 rfl
        refine x_pick [0, 1, 2, 3] rfl ?_
        exact lp37 _ 200 (by omega) _ rfl 0 _ (by omega) rfl (fun a b h => sN0_o b h 200) (fun j hj hz => by rw [sN0_n 200 hj] at hz; by_cases e : j = w; omega; rw [if_neg e] at hz; exact absurd rfl hz) rfl
      · skip
        rw [xb_ge (x := nI n) (y := 200) (a := n) (b := 200) rfl rfl (by omega) (by omega)] at h6
        refine x_aload_n X dX0_markNeeded_9 rfl ?_
        refine gf_X0_36 (k' := 13) X dX0_markNeeded_10 rfl rfl ?_
        refine x_iload_n X dX0_markNeeded_13 rfl ?_
        refine x_iload_n X dX0_markNeeded_14 rfl ?_
        refine x_iload_n X dX0_markNeeded_15 rfl ?_
        refine x_icmpne (tgt := 23) X dX0_markNeeded_16 (by decide) (fun h16 => ?_) (fun h16 => ?_)
        · skip
          rw [xb_ne (x := nI n) (y := nI w) (a := n) (b := w) rfl rfl (by omega) (by omega)] at h16
          have hs2 : xsI (sN0 σ w n) 13 n 0 = sN0 σ w (n + 1) := by rw [sN0, if_neg h16]
          refine x_iconst (v := 0) X dX0_markNeeded_23 (by decide) ?_
          refine x_zastN X dX0_markNeeded_24 rfl (by omega) (by omega) (Or.inl rfl) ?_
          rw [hs2]
          refine x_iinc (k := 0) (v := nI (n + 1)) (lv' := [(2, .int (nI (n + 1))), (1, .int (nI w)), (0, .ref (G.2.1 6))]) X dX0_markNeeded_25 rfl (xn_inc _) (by decide) rfl ?_
          refine x_goto (tgt := 2) X dX0_markNeeded_28 (by decide) ?_
          refine x_pick [0, 1, 2] rfl ?_
          exact ih2 _ (by omega) (n + 1) (by omega) rfl
        · skip
          rw [xb_ne (x := nI n) (y := nI w) (a := n) (b := w) rfl rfl (by omega) (by omega)] at h16
          have hs2 : xsI (sN0 σ w n) 13 n 1 = sN0 σ w (n + 1) := by rw [sN0, if_pos h16]
          refine x_iconst (v := 1) X dX0_markNeeded_19 (by decide) ?_
          refine x_goto (tgt := 24) X dX0_markNeeded_20 (by decide) ?_
          refine x_zastN X dX0_markNeeded_24 rfl (by omega) (by omega) (Or.inr rfl) ?_
          rw [hs2]
          refine x_iinc (k := 0) (v := nI (n + 1)) (lv' := [(2, .int (nI (n + 1))), (1, .int (nI w)), (0, .ref (G.2.1 6))]) X dX0_markNeeded_25 rfl (xn_inc _) (by decide) rfl ?_
          refine x_goto (tgt := 2) X dX0_markNeeded_28 (by decide) ?_
          refine x_pick [0, 1, 2] rfl ?_
          exact ih2 _ (by omega) (n + 1) (by omega) rfl
  refine x_pick [0, 2, 1] rfl ?_
  exact lp2 _ 0 (by omega) rfl
