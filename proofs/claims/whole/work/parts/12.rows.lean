/-! times, bounds; Plans; Rows -/
theorem xi_ne {x : Int32} (h : ¬ x = 0) : ¬ x.toInt64 = 0 := by
  intro h2
  apply h
  have h3 := congrArg Int64.toInt h2
  rw [Int32.toInt_toInt64] at h3
  exact Int32.toInt_inj.mp h3
theorem rFst_t {f : Nat → Int64} {g : Nat → Int32} {n : Nat} (hn : n < 8) (h : g n = 0) : rFst f g (8 - n) n = rFst f g (8 - (n + 1)) (n + 1) := by
  rw [show 8 - n = (8 - (n + 1)) + 1 by omega, rFst, if_pos h]
theorem rFst_f {f : Nat → Int64} {g : Nat → Int32} {n : Nat} (hn : n < 8) (h : ¬ g n = 0) : rFst f g (8 - n) n = -(f n / (g n).toInt64) := by
  rw [show 8 - n = (8 - (n + 1)) + 1 by omega, rFst, if_neg h]
def xLt (p : Int32) (n : Nat) : Prop := ∃ j, j < n ∧ p = nI j
theorem xLt_t {p : Int32} {n : Nat} (h1 : ¬ p < 0) (h2 : ¬ nI n ≤ p) (hn : n < 2 ^ 31) : xLt p n := by
  rcases pk_ix p hn with h | h | h
  · exact absurd h h1
  · exact absurd h h2
  · exact h
theorem xLt_f1 {p : Int32} {n : Nat} (h : p < 0) (hn : n < 2 ^ 31) : ¬ xLt p n := by
  rintro ⟨j, hj, rfl⟩
  exact nI_pos (by omega) h
theorem xLt_f2 {p : Int32} {n k : Nat} (h : nI k ≤ p) (hk : n ≤ k) (hn : k < 2 ^ 31) : ¬ xLt p n := by
  rintro ⟨j, hj, rfl⟩
  exact nI_ge (show j < k by omega) hn h
def xBit (A : Int64) (b : Nat) : Prop := ¬ (A >>> ((nI b).toInt64 &&& 63)) &&& 1 = 0
def pAdd (σ : xS) (np V : Nat) : Nat → xS
  | 0 => σ
  | n + 1 => xsI (pAdd σ np V n) (463 + np) n (if n < V then tAt σ (nI n) else 0)
theorem pAdd_o (σ : xS) (np V : Nat) {a : Nat} (b : Nat) (h : a ≠ 463 + np) : ∀ n, xgI (pAdd σ np V n) a b = xgI σ a b
  | 0 => rfl
  | n + 1 => by rw [pAdd, xgI_n (fun q => h q.1), pAdd_o σ np V b h n]
theorem pAdd_t (σ : xS) (np V : Nat) (n : Nat) (i : Int32) : tAt (pAdd σ np V n) i = tAt σ i := by
  unfold tAt
  rw [pAdd_o σ np V 1 (by omega), pAdd_o σ np V _ (by omega)]
def pNew (σ : xS) (np V : Nat) : xS := xsI (pAdd σ np V 8) 3 2 (nI (np + 1))
def kKeep (σ : xS) (nr nb : Nat) : xS := xsI (if xgI σ (61 + nr) 5 = 6 then xsI (xsI (xsL σ (61 + nr) 2 ((1 : Int64) <<< ((nI nb).toInt64 &&& 63))) 10 nb (nI nr)) 8 4 (nI (nb + 1)) else σ) 8 3 (nI (nr + 1))
noncomputable def kAss (A : Int64) (br : Nat → Int32) (i : Int32) : Nat → Nat → Int32 → Int32
  | 0, _, _ => -1
  | n + 1, b, w => @ite _ (xBit A b) (Classical.propDecidable _) (if w = i then br b else kAss A br i n (b + 1) (w + 1)) (kAss A br i n (b + 1) w)
theorem kAss_f {A : Int64} {br : Nat → Int32} {i w : Int32} {n b : Nat} (hb : b < n) (h : ¬ xBit A b) : kAss A br i (n - b) b w = kAss A br i (n - (b + 1)) (b + 1) w := by
  rw [show n - b = (n - (b + 1)) + 1 by omega, kAss, if_neg h]
theorem kAss_t {A : Int64} {br : Nat → Int32} {i w : Int32} {n b : Nat} (hb : b < n) (h : xBit A b) : kAss A br i (n - b) b w = if w = i then br b else kAss A br i (n - (b + 1)) (b + 1) (w + 1) := by
  rw [show n - b = (n - (b + 1)) + 1 by omega, kAss, if_pos h]
def kIs (σ : xS) (L : Int32) (r : Nat) : Prop := xgL σ (61 + r) 2 = 0 ∧ xgI σ (61 + r) 3 = L ∧ rImp σ r
noncomputable def kPrf (σ : xS) (L : Int32) : Nat → Nat → Int32
  | 0, _ => -1
  | n + 1, r => @ite _ (kIs σ L r) (Classical.propDecidable _) (nI r) (kPrf σ L n (r + 1))
theorem kPrf_t {σ : xS} {L : Int32} {n r : Nat} (hr : r < n) (h : kIs σ L r) : kPrf σ L (n - r) r = nI r := by
  rw [show n - r = (n - (r + 1)) + 1 by omega, kPrf, if_pos h]
theorem kPrf_f {σ : xS} {L : Int32} {n r : Nat} (hr : r < n) (h : ¬ kIs σ L r) : kPrf σ L (n - r) r = kPrf σ L (n - (r + 1)) (r + 1) := by
  rw [show n - r = (n - (r + 1)) + 1 by omega, kPrf, if_neg h]
noncomputable def kGb (σ : xS) (b : Nat) : Nat → Int64
  | 0 => -1000000000001
  | n + 1 => if kGb σ b n < rBound σ n b then rBound σ n b else kGb σ b n

set_option maxHeartbeats 4000000 in
set_option maxRecDepth 100000 in
theorem c_X5_timesLessCosts {l : Launch} {G : xG} {σ : xS} {i b : Nat} (hi : i < 201) (hb : xck b = (10, 8)) : xFl l G yX5_timesLessCosts cX5_timesLessCosts 6 (Option.some Jvm.ClassFile.FieldType.long) 1 21 [.ref (G.2.1 (61 + i)), .ref (G.2.1 b)] σ (rTimes (xgL σ (262 + i)) (xgI σ b)) (σ) := by
  refine xM.of (by decide) (Nat.le_of_ble_eq_true rfl) (fun pp ee ss mm aa bel met kk X => ?_)
  have X : xC pp ss mm met kk cX5_timesLessCosts 6 RX5 (Option.some Jvm.ClassFile.FieldType.long) G := X
  show xW pp l ee { frames := 1, cells := 0, slots := 0, locals := 21 } ss mm aa bel met kk 6 G 0 0 (xQ bel G (fun r t => r = some (.long (rTimes (xgL σ (262 + i)) (xgI σ b))) ∧ t = (σ)) aa ss) 0 [(0, .ref (G.2.1 (61 + i))), (1, .ref (G.2.1 b))] [] σ
  refine x_lconst (v := 0) X dX5_timesLessCosts_0 (by decide) ?_
  refine x_lstore_n (lv' := [(2, .long 0), (0, .ref (G.2.1 (61 + i))), (1, .ref (G.2.1 b))]) X dX5_timesLessCosts_1 rfl (by decide) rfl ?_
  refine x_iconst (v := 0) X dX5_timesLessCosts_2 (by decide) ?_
  refine x_istore (lv' := [(4, .int 0), (2, .long 0), (0, .ref (G.2.1 (61 + i))), (1, .ref (G.2.1 b))]) X dX5_timesLessCosts_3 (by decide) rfl ?_
  have lp5 : ∀ (NN5 : Nat) (n : Nat) (hn : n ≤ 8) (m1 : Int64) (hm : (m1 = 0 ∧ rFst (xgL σ (262 + i)) (xgI σ b) 8 0 = rFst (xgL σ (262 + i)) (xgI σ b) (8 - n) n) ∨ (m1 = rFst (xgL σ (262 + i)) (xgI σ b) 8 0 ∧ 1 ≤ m1)), 8 - n = NN5 → xW pp l ee { frames := 1, cells := 0, slots := 0, locals := 21 } ss mm aa bel met kk 6 G 0 0 (xQ bel G (fun r t => r = some (.long (rTimes (xgL σ (262 + i)) (xgI σ b))) ∧ t = (σ)) aa ss) 5 [(4, .int (nI n)), (2, .long m1), (1, .ref (G.2.1 b)), (0, .ref (G.2.1 (61 + i)))] [] (σ) := by
    intro NN5
    induction NN5 using Nat.strongRecOn with
    | ind NN5 ih5 =>
      intro n hn m1 hm hNN5
      refine x_iload X dX5_timesLessCosts_5 rfl ?_
      refine x_bipush (v := 8) X dX5_timesLessCosts_7 (by decide) ?_
      refine x_icmpge (tgt := 58) X dX5_timesLessCosts_9 (by decide) (fun h9 => ?_) (fun h9 => ?_)
      · skip
        rw [xb_ge (x := nI n) (y := 8) (a := n) (b := 8) rfl rfl (by omega) (by omega)] at h9
        have hM : m1 = rFst (xgL σ (262 + i)) (xgI σ b) 8 0 ∧ (m1 = 0 ∨ 1 ≤ m1) := by
          rcases hm with ⟨ha1, ha2⟩ | ⟨ha1, ha2⟩
          · first | (exact absurd ha1 h15) | (rw [show n = 8 by omega] at ha2; exact ⟨by rw [ha1, ha2]; rfl, Or.inl ha1⟩)
          · exact ⟨ha1, Or.inr ha2⟩
        refine x_iconst (v := 0) X dX5_timesLessCosts_58 (by decide) ?_
        refine x_istore (lv' := [(4, .int 0), (2, .long m1), (1, .ref (G.2.1 b)), (0, .ref (G.2.1 (61 + i)))]) X dX5_timesLessCosts_59 (by decide) rfl ?_
        have lp61 : ∀ (NN61 : Nat) (q : Nat) (hq : q ≤ 8) (hz : ∀ v, v < q → xgL σ (262 + i) v = -m1 * (xgI σ b v).toInt64), 8 - q = NN61 → xW pp l ee { frames := 1, cells := 0, slots := 0, locals := 21 } ss mm aa bel met kk 6 G 0 0 (xQ bel G (fun r t => r = some (.long (rTimes (xgL σ (262 + i)) (xgI σ b))) ∧ t = (σ)) aa ss) 61 [(4, .int (nI q)), (2, .long m1), (1, .ref (G.2.1 b)), (0, .ref (G.2.1 (61 + i)))] [] (σ) := by
          intro NN61
          induction NN61 using Nat.strongRecOn with
          | ind NN61 ih61 =>
            intro q hq hz hNN61
            refine x_iload X dX5_timesLessCosts_61 rfl ?_
            refine x_bipush (v := 8) X dX5_timesLessCosts_63 (by decide) ?_
            refine x_icmpge (tgt := 97) X dX5_timesLessCosts_65 (by decide) (fun h65 => ?_) (fun h65 => ?_)
            · skip
              rw [xb_ge (x := nI q) (y := 8) (a := q) (b := 8) rfl rfl (by omega) (by omega)] at h65
              obtain rfl : q = 8 := by omega
              refine x_lload_n X dX5_timesLessCosts_97 rfl ?_
              exact x_lret X dX5_timesLessCosts_98 (xp_l (by unfold rTimes; rw [← hM.1]; split; (rename_i hlt; rcases hM.2 with z | z; exact z; exact absurd hlt (xi64_nlt.mpr z)); first | rfl | rw [if_pos hz]) (by first | rfl | simp [*]))
            · skip
              rw [xb_ge (x := nI q) (y := 8) (a := q) (b := 8) rfl rfl (by omega) (by omega)] at h65
              refine x_aload_n X dX5_timesLessCosts_68 rfl ?_
              refine gf_X5_9 (k' := 262 + i) X dX5_timesLessCosts_69 (xck_row hi) xrf_row ?_
              refine x_iload X dX5_timesLessCosts_72 rfl ?_
              refine x_laldN X dX5_timesLessCosts_74 (xck_fac hi) (by omega) (by omega) ?_
              refine x_lload_n X dX5_timesLessCosts_75 rfl ?_
              refine x_lneg X dX5_timesLessCosts_76 ?_
              refine x_aload_n X dX5_timesLessCosts_77 rfl ?_
              refine x_iload X dX5_timesLessCosts_78 rfl ?_
              refine cs_X5_52 X (c_X3_at hb (by decide)) dX5_timesLessCosts_80 ⟨by decide, by decide, by decide, by decide⟩ rfl rfl (Nat.le_of_ble_eq_true rfl) (xk_i ?_)
              rw [xAt_n (by omega) (by decide)]
              refine x_i2l X dX5_timesLessCosts_83 ?_
              refine x_lmul X dX5_timesLessCosts_84 ?_
              refine x_lcmp X dX5_timesLessCosts_85 ?_
              refine x_ifeq (tgt := 91) X dX5_timesLessCosts_86 (by decide) (fun h86 => ?_) (fun h86 => ?_)
              · skip
                rw [lg_cmp_eq] at h86
                have hz2 := lt_s hz h86
                refine x_iinc (k := 0) (v := nI (q + 1)) (lv' := [(4, .int (nI (q + 1))), (2, .long m1), (1, .ref (G.2.1 b)), (0, .ref (G.2.1 (61 + i)))]) X dX5_timesLessCosts_91 rfl (xn_inc _) (by decide) rfl ?_
                refine x_goto (tgt := 61) X dX5_timesLessCosts_94 (by decide) ?_
                refine x_pick [0, 1, 2, 3] rfl ?_
                exact ih61 _ (by omega) (q + 1) (by omega) hz2 rfl
              · skip
                rw [lg_cmp_eq] at h86
                refine x_lconst (v := 0) X dX5_timesLessCosts_89 (by decide) ?_
                exact x_lret X dX5_timesLessCosts_90 (xp_l (by unfold rTimes; split; rfl; rw [if_neg (fun z => h86 (by rw [hM.1]; exact z q (by omega)))]) (by first | rfl | simp [*]))
        refine x_pick [0, 1, 2, 3] rfl ?_
        exact lp61 _ 0 (by omega) lt_0 rfl
      · skip
        rw [xb_ge (x := nI n) (y := 8) (a := n) (b := 8) rfl rfl (by omega) (by omega)] at h9
        refine x_lload_n X dX5_timesLessCosts_12 rfl ?_
        refine x_lconst (v := 0) X dX5_timesLessCosts_13 (by decide) ?_
        refine x_lcmp X dX5_timesLessCosts_14 ?_
        refine x_ifne (tgt := 58) X dX5_timesLessCosts_15 (by decide) (fun h15 => ?_) (fun h15 => ?_)
        · skip
          rw [lg_cmp_eq] at h15
          have hM : m1 = rFst (xgL σ (262 + i)) (xgI σ b) 8 0 ∧ (m1 = 0 ∨ 1 ≤ m1) := by
            rcases hm with ⟨ha1, ha2⟩ | ⟨ha1, ha2⟩
            · first | (exact absurd ha1 h15) | (rw [show n = 8 by omega] at ha2; exact ⟨by rw [ha1, ha2]; rfl, Or.inl ha1⟩)
            · exact ⟨ha1, Or.inr ha2⟩
          refine x_iconst (v := 0) X dX5_timesLessCosts_58 (by decide) ?_
          refine x_istore (lv' := [(4, .int 0), (2, .long m1), (1, .ref (G.2.1 b)), (0, .ref (G.2.1 (61 + i)))]) X dX5_timesLessCosts_59 (by decide) rfl ?_
          have lp61 : ∀ (NN61 : Nat) (q : Nat) (hq : q ≤ 8) (hz : ∀ v, v < q → xgL σ (262 + i) v = -m1 * (xgI σ b v).toInt64), 8 - q = NN61 → xW pp l ee { frames := 1, cells := 0, slots := 0, locals := 21 } ss mm aa bel met kk 6 G 0 0 (xQ bel G (fun r t => r = some (.long (rTimes (xgL σ (262 + i)) (xgI σ b))) ∧ t = (σ)) aa ss) 61 [(4, .int (nI q)), (2, .long m1), (1, .ref (G.2.1 b)), (0, .ref (G.2.1 (61 + i)))] [] (σ) := by
            intro NN61
            induction NN61 using Nat.strongRecOn with
            | ind NN61 ih61 =>
              intro q hq hz hNN61
              refine x_iload X dX5_timesLessCosts_61 rfl ?_
              refine x_bipush (v := 8) X dX5_timesLessCosts_63 (by decide) ?_
              refine x_icmpge (tgt := 97) X dX5_timesLessCosts_65 (by decide) (fun h65 => ?_) (fun h65 => ?_)
              · skip
                rw [xb_ge (x := nI q) (y := 8) (a := q) (b := 8) rfl rfl (by omega) (by omega)] at h65
                obtain rfl : q = 8 := by omega
                refine x_lload_n X dX5_timesLessCosts_97 rfl ?_
                exact x_lret X dX5_timesLessCosts_98 (xp_l (by unfold rTimes; rw [← hM.1]; split; (rename_i hlt; rcases hM.2 with z | z; exact z; exact absurd hlt (xi64_nlt.mpr z)); first | rfl | rw [if_pos hz]) (by first | rfl | simp [*]))
              · skip
                rw [xb_ge (x := nI q) (y := 8) (a := q) (b := 8) rfl rfl (by omega) (by omega)] at h65
                refine x_aload_n X dX5_timesLessCosts_68 rfl ?_
                refine gf_X5_9 (k' := 262 + i) X dX5_timesLessCosts_69 (xck_row hi) xrf_row ?_
                refine x_iload X dX5_timesLessCosts_72 rfl ?_
                refine x_laldN X dX5_timesLessCosts_74 (xck_fac hi) (by omega) (by omega) ?_
                refine x_lload_n X dX5_timesLessCosts_75 rfl ?_
                refine x_lneg X dX5_timesLessCosts_76 ?_
                refine x_aload_n X dX5_timesLessCosts_77 rfl ?_
                refine x_iload X dX5_timesLessCosts_78 rfl ?_
                refine cs_X5_52 X (c_X3_at hb (by decide)) dX5_timesLessCosts_80 ⟨by decide, by decide, by decide, by decide⟩ rfl rfl (Nat.le_of_ble_eq_true rfl) (xk_i ?_)
                rw [xAt_n (by omega) (by decide)]
                refine x_i2l X dX5_timesLessCosts_83 ?_
                refine x_lmul X dX5_timesLessCosts_84 ?_
                refine x_lcmp X dX5_timesLessCosts_85 ?_
                refine x_ifeq (tgt := 91) X dX5_timesLessCosts_86 (by decide) (fun h86 => ?_) (fun h86 => ?_)
                · skip
                  rw [lg_cmp_eq] at h86
                  have hz2 := lt_s hz h86
                  refine x_iinc (k := 0) (v := nI (q + 1)) (lv' := [(4, .int (nI (q + 1))), (2, .long m1), (1, .ref (G.2.1 b)), (0, .ref (G.2.1 (61 + i)))]) X dX5_timesLessCosts_91 rfl (xn_inc _) (by decide) rfl ?_
                  refine x_goto (tgt := 61) X dX5_timesLessCosts_94 (by decide) ?_
                  refine x_pick [0, 1, 2, 3] rfl ?_
                  exact ih61 _ (by omega) (q + 1) (by omega) hz2 rfl
                · skip
                  rw [lg_cmp_eq] at h86
                  refine x_lconst (v := 0) X dX5_timesLessCosts_89 (by decide) ?_
                  exact x_lret X dX5_timesLessCosts_90 (xp_l (by unfold rTimes; split; rfl; rw [if_neg (fun z => h86 (by rw [hM.1]; exact z q (by omega)))]) (by first | rfl | simp [*]))
          refine x_pick [0, 1, 2, 3] rfl ?_
          exact lp61 _ 0 (by omega) lt_0 rfl
        · skip
          rw [lg_cmp_eq] at h15
          refine x_aload_n X dX5_timesLessCosts_18 rfl ?_
          refine x_iload X dX5_timesLessCosts_19 rfl ?_
          refine cs_X5_52 X (c_X3_at hb (by decide)) dX5_timesLessCosts_21 ⟨by decide, by decide, by decide, by decide⟩ rfl rfl (Nat.le_of_ble_eq_true rfl) (xk_i ?_)
          rw [xAt_n (by omega) (by decide)]
          refine x_topi (fun pr hpr => ?_)
          refine x_istore (lv' := [(5, .int pr), (4, .int (nI n)), (2, .long m1), (1, .ref (G.2.1 b)), (0, .ref (G.2.1 (61 + i)))]) X dX5_timesLessCosts_24 (by decide) rfl ?_
          refine x_iload X dX5_timesLessCosts_26 rfl ?_
          refine x_ifeq (tgt := 52) X dX5_timesLessCosts_28 (by decide) (fun h28 => ?_) (fun h28 => ?_)
          · skip
            have h28b : xgI σ b n = 0 := hpr ▸ h28
            have hm2 : (m1 = 0 ∧ rFst (xgL σ (262 + i)) (xgI σ b) 8 0 = rFst (xgL σ (262 + i)) (xgI σ b) (8 - (n + 1)) (n + 1)) ∨ (m1 = rFst (xgL σ (262 + i)) (xgI σ b) 8 0 ∧ 1 ≤ m1) := by
              rcases hm with ⟨ha1, ha2⟩ | ⟨ha1, ha2⟩
              · exact Or.inl ⟨ha1, ha2.trans (rFst_t (by omega) h28b)⟩
              · exact Or.inr ⟨ha1, ha2⟩
            obtain ⟨m9, hm9, em9⟩ : ∃ z : Int64, ((z = 0 ∧ rFst (xgL σ (262 + i)) (xgI σ b) 8 0 = rFst (xgL σ (262 + i)) (xgI σ b) (8 - (n + 1)) (n + 1)) ∨ (z = rFst (xgL σ (262 + i)) (xgI σ b) 8 0 ∧ 1 ≤ z)) ∧ z = m1 := ⟨m1, hm2, rfl⟩
            subst em9
            refine x_iinc (k := 1) (v := nI (n + 1)) (lv' := [(4, .int (nI (n + 1))), (5, .int pr), (2, .long m9), (1, .ref (G.2.1 b)), (0, .ref (G.2.1 (61 + i)))]) X dX5_timesLessCosts_52 rfl (xn_inc _) (by decide) rfl ?_
            refine x_goto (tgt := 5) X dX5_timesLessCosts_55 (by decide) ?_
            refine x_pick [0, 2, 3, 4] rfl ?_
            exact ih5 _ (by omega) (n + 1) (by omega) m9 hm9 rfl
          · skip
            have h28b : ¬ xgI σ b n = 0 := hpr ▸ h28
            have hM : rFst (xgL σ (262 + i)) (xgI σ b) 8 0 = -(xgL σ (262 + i) n / (xgI σ b n).toInt64) := by
              rcases hm with ⟨ha1, ha2⟩ | ⟨ha1, ha2⟩
              · exact ha2.trans (rFst_f (by omega) h28b)
              · rw [h15] at ha2; exact absurd ha2 (by decide)
            refine x_aload_n X dX5_timesLessCosts_31 rfl ?_
            refine gf_X5_9 (k' := 262 + i) X dX5_timesLessCosts_32 (xck_row hi) xrf_row ?_
            refine x_iload X dX5_timesLessCosts_35 rfl ?_
            refine x_laldN X dX5_timesLessCosts_37 (xck_fac hi) (by omega) (by omega) ?_
            refine x_iload X dX5_timesLessCosts_38 rfl ?_
            refine x_i2l X dX5_timesLessCosts_40 ?_
            refine x_ldiv X dX5_timesLessCosts_41 (xi_ne h28) ?_
            refine x_lneg X dX5_timesLessCosts_42 ?_
            refine x_topl (fun m9 hm9 => ?_)
            refine x_lstore_n (lv' := [(2, .long m9), (5, .int pr), (4, .int (nI n)), (1, .ref (G.2.1 b)), (0, .ref (G.2.1 (61 + i)))]) X dX5_timesLessCosts_43 rfl (by decide) rfl ?_
            refine x_lload_n X dX5_timesLessCosts_44 rfl ?_
            refine x_lconst (v := 1) X dX5_timesLessCosts_45 (by decide) ?_
            refine x_lcmp X dX5_timesLessCosts_46 ?_
            refine x_ifge (tgt := 52) X dX5_timesLessCosts_47 (by decide) (fun h47 => ?_) (fun h47 => ?_)
            · skip
              rw [lg_cmp_ge] at h47
              have hm9 : (m9 = 0 ∧ rFst (xgL σ (262 + i)) (xgI σ b) 8 0 = rFst (xgL σ (262 + i)) (xgI σ b) (8 - (n + 1)) (n + 1)) ∨ (m9 = rFst (xgL σ (262 + i)) (xgI σ b) 8 0 ∧ 1 ≤ m9) := Or.inr ⟨by rw [hm9, hM, hpr], h47⟩
              refine x_iinc (k := 2) (v := nI (n + 1)) (lv' := [(4, .int (nI (n + 1))), (2, .long m9), (5, .int pr), (1, .ref (G.2.1 b)), (0, .ref (G.2.1 (61 + i)))]) X dX5_timesLessCosts_52 rfl (xn_inc _) (by decide) rfl ?_
              refine x_goto (tgt := 5) X dX5_timesLessCosts_55 (by decide) ?_
              refine x_pick [0, 1, 3, 4] rfl ?_
              exact ih5 _ (by omega) (n + 1) (by omega) m9 hm9 rfl
            · skip
              rw [lg_cmp_ge] at h47
              refine x_lconst (v := 0) X dX5_timesLessCosts_50 (by decide) ?_
              exact x_lret X dX5_timesLessCosts_51 (xp_l (by unfold rTimes; rw [if_pos (by rw [hM, ← hpr, ← hm9]; exact xi64_nle.mp h47)]) (by first | rfl | simp [*]))
  refine x_pick [0, 1, 3, 2] rfl ?_
  exact lp5 _ 0 (by omega) 0 (Or.inl ⟨rfl, rfl⟩) rfl

set_option maxHeartbeats 4000000 in
set_option maxRecDepth 100000 in
theorem c_X5_boundOfCost {l : Launch} {G : xG} {σ : xS} {i b : Nat} (hi : i < 201) (hb : xck b = (10, 8)) : xFl l G yX5_boundOfCost cX5_boundOfCost 4 (Option.some Jvm.ClassFile.FieldType.long) 2 46 [.ref (G.2.1 (61 + i)), .ref (G.2.1 b)] σ (rBound σ i b) (σ) := by
  refine xM.of (by decide) (Nat.le_of_ble_eq_true rfl) (fun pp ee ss mm aa bel met kk X => ?_)
  have X : xC pp ss mm met kk cX5_boundOfCost 4 RX5 (Option.some Jvm.ClassFile.FieldType.long) G := X
  show xW pp l ee { frames := 2, cells := 0, slots := 0, locals := 46 } ss mm aa bel met kk 4 G 0 0 (xQ bel G (fun r t => r = some (.long (rBound σ i b)) ∧ t = (σ)) aa ss) 0 [(0, .ref (G.2.1 (61 + i))), (1, .ref (G.2.1 b))] [] σ
  refine x_aload_n X dX5_boundOfCost_0 rfl ?_
  refine gf_X5_19 X dX5_boundOfCost_1 (xck_row hi) ?_
  refine x_lconst (v := 0) X dX5_boundOfCost_4 (by decide) ?_
  refine x_lcmp X dX5_boundOfCost_5 ?_
  refine x_ifne (tgt := 16) X dX5_boundOfCost_6 (by decide) (fun h6 => ?_) (fun h6 => ?_)
  · skip
    rw [lg_cmp_eq] at h6
    refine x_ldc2 X dX5_boundOfCost_16 wk_X5_58 ?_
    exact x_lret X dX5_boundOfCost_19 (xp_l (by simp [rBound, *]) (by first | rfl | simp [*]))
  · skip
    rw [lg_cmp_eq] at h6
    refine x_aload_n X dX5_boundOfCost_9 rfl ?_
    refine gf_X5_22 X dX5_boundOfCost_10 (xck_row hi) ?_
    refine x_ifeq (tgt := 20) X dX5_boundOfCost_13 (by decide) (fun h13 => ?_) (fun h13 => ?_)
    · skip
      refine x_aload_n X dX5_boundOfCost_20 rfl ?_
      refine x_aload_n X dX5_boundOfCost_21 rfl ?_
      refine cv_X5_60 X (c_X5_timesLessCosts hi hb) dX5_boundOfCost_22 (xck_row hi) ⟨by decide, by decide, by decide, by decide⟩ rfl rfl (Nat.le_of_ble_eq_true rfl) (xk_l ?_)
      refine x_topl (fun tm htm => ?_)
      refine x_lstore_n (lv' := [(2, .long tm), (0, .ref (G.2.1 (61 + i))), (1, .ref (G.2.1 b))]) X dX5_boundOfCost_25 rfl (by decide) rfl ?_
      refine x_lload_n X dX5_boundOfCost_26 rfl ?_
      refine x_lconst (v := 1) X dX5_boundOfCost_27 (by decide) ?_
      refine x_lcmp X dX5_boundOfCost_28 ?_
      refine x_ifge (tgt := 38) X dX5_boundOfCost_29 (by decide) (fun h29 => ?_) (fun h29 => ?_)
      · skip
        rw [lg_cmp_ge] at h29
        subst htm
        refine x_aload_n X dX5_boundOfCost_38 rfl ?_
        refine gf_X5_15 X dX5_boundOfCost_39 (xck_row hi) ?_
        refine x_lload_n X dX5_boundOfCost_42 rfl ?_
        refine cs_X5_64 X (c_J9_floorDiv_f86c9 (fun z => by rw [z] at h29; exact absurd h29 (by decide))) dX5_boundOfCost_43 ⟨by decide, by decide, by decide, by decide⟩ rfl rfl (Nat.le_of_ble_eq_true rfl) (xk_l ?_)
        refine x_lneg X dX5_boundOfCost_46 ?_
        exact x_lret X dX5_boundOfCost_47 (xp_l (by simp [rBound, *]) (by first | rfl | simp [*]))
      · skip
        rw [lg_cmp_ge] at h29
        subst htm
        refine x_ldc2 X dX5_boundOfCost_32 wk_X5_58 ?_
        refine x_goto (tgt := 47) X dX5_boundOfCost_35 (by decide) ?_
        exact x_lret X dX5_boundOfCost_47 (xp_l (by simp [rBound, *]) (by first | rfl | simp [*]))
    · skip
      refine x_ldc2 X dX5_boundOfCost_16 wk_X5_58 ?_
      exact x_lret X dX5_boundOfCost_19 (xp_l (by simp [rBound, *]) (by first | rfl | simp [*]))

set_option maxHeartbeats 4000000 in
set_option maxRecDepth 100000 in
theorem c_X4_clear {l : Launch} {G : xG} {σ : xS} : xFv l G yX4_clear cX4_clear 1 (Option.none : Option Jvm.ClassFile.FieldType) 0 0 [.ref (G.2.1 3)] σ (xsI σ 3 2 0) := by
  refine xM.of (by decide) (Nat.le_of_ble_eq_true rfl) (fun pp ee ss mm aa bel met kk X => ?_)
  have X : xC pp ss mm met kk cX4_clear 1 RX4 (Option.none : Option Jvm.ClassFile.FieldType) G := X
  show xW pp l ee { frames := 0, cells := 0, slots := 0, locals := 0 } ss mm aa bel met kk 1 G 0 0 (xQ bel G (fun r t => r = none ∧ t = (xsI σ 3 2 0)) aa ss) 0 [(0, .ref (G.2.1 3))] [] σ
  refine x_aload_n X dX4_clear_0 rfl ?_
  refine x_iconst (v := 0) X dX4_clear_1 (by decide) ?_
  refine pf_X4_20 X dX4_clear_2 rfl ?_
  exact x_vret X dX4_clear_5 (⟨rfl, by first | rfl | simp [*]⟩)

set_option maxHeartbeats 4000000 in
set_option maxRecDepth 100000 in
theorem c_X4_has {l : Launch} {G : xG} {σ : xS} {q : Int32} {np : Nat} (hp : np ≤ 8) (hc : xgI σ 3 2 = nI np) : xFi l G yX4_has cX4_has 2 (Option.some Jvm.ClassFile.FieldType.boolean) 0 0 [.ref (G.2.1 3), .int q] σ (xB (xLt q np)) (σ) := by
  refine xM.of (by decide) (Nat.le_of_ble_eq_true rfl) (fun pp ee ss mm aa bel met kk X => ?_)
  have X : xC pp ss mm met kk cX4_has 2 RX4 (Option.some Jvm.ClassFile.FieldType.boolean) G := X
  show xW pp l ee { frames := 0, cells := 0, slots := 0, locals := 0 } ss mm aa bel met kk 2 G 0 0 (xQ bel G (fun r t => r = some (.int (xB (xLt q np))) ∧ t = (σ)) aa ss) 0 [(0, .ref (G.2.1 3)), (1, .int q)] [] σ
  refine x_iload_n X dX4_has_0 rfl ?_
  refine x_iflt (tgt := 22) X dX4_has_1 (by decide) (fun h1 => ?_) (fun h1 => ?_)
  · skip
    refine x_iconst (v := 0) X dX4_has_22 (by decide) ?_
    exact x_zret X dX4_has_23 (Or.inl rfl) (xp_i (by first | exact (xB_t (xLt_t h1 h9 (by omega))).symm | exact (xB_f (xLt_f1 h1 (by omega))).symm | exact (xB_f (xLt_f2 h9 (by omega) (by omega))).symm | exact (xB_f (xLt_f2 h15 (by omega) (by decide))).symm) (by first | rfl | simp [*]))
  · skip
    refine x_iload_n X dX4_has_4 rfl ?_
    refine x_aload_n X dX4_has_5 rfl ?_
    refine gf_X4_20 X dX4_has_6 rfl ?_
    rw [hc]
    refine x_icmpge (tgt := 22) X dX4_has_9 (by decide) (fun h9 => ?_) (fun h9 => ?_)
    · skip
      refine x_iconst (v := 0) X dX4_has_22 (by decide) ?_
      exact x_zret X dX4_has_23 (Or.inl rfl) (xp_i (by first | exact (xB_t (xLt_t h1 h9 (by omega))).symm | exact (xB_f (xLt_f1 h1 (by omega))).symm | exact (xB_f (xLt_f2 h9 (by omega) (by omega))).symm | exact (xB_f (xLt_f2 h15 (by omega) (by decide))).symm) (by first | rfl | simp [*]))
    · skip
      refine x_iload_n X dX4_has_12 rfl ?_
      refine x_bipush (v := 8) X dX4_has_13 (by decide) ?_
      refine x_icmpge (tgt := 22) X dX4_has_15 (by decide) (fun h15 => ?_) (fun h15 => ?_)
      · skip
        refine x_iconst (v := 0) X dX4_has_22 (by decide) ?_
        exact x_zret X dX4_has_23 (Or.inl rfl) (xp_i (by first | exact (xB_t (xLt_t h1 h9 (by omega))).symm | exact (xB_f (xLt_f1 h1 (by omega))).symm | exact (xB_f (xLt_f2 h9 (by omega) (by omega))).symm | exact (xB_f (xLt_f2 h15 (by omega) (by decide))).symm) (by first | rfl | simp [*]))
      · skip
        refine x_iconst (v := 1) X dX4_has_18 (by decide) ?_
        refine x_goto (tgt := 23) X dX4_has_19 (by decide) ?_
        exact x_zret X dX4_has_23 (Or.inr rfl) (xp_i (by first | exact (xB_t (xLt_t h1 h9 (by omega))).symm | exact (xB_f (xLt_f1 h1 (by omega))).symm | exact (xB_f (xLt_f2 h9 (by omega) (by omega))).symm | exact (xB_f (xLt_f2 h15 (by omega) (by decide))).symm) (by first | rfl | simp [*]))

set_option maxHeartbeats 4000000 in
set_option maxRecDepth 100000 in
theorem c_X4_at {l : Launch} {G : xG} {σ : xS} {j : Nat} {np : Nat} (hp : np ≤ 8) (hc : xgI σ 3 2 = nI np) (hj : j < np) : xFr l G yX4_at cX4_at 2 (Option.some (Jvm.ClassFile.FieldType.array Jvm.ClassFile.FieldType.int)) 1 21 [.ref (G.2.1 3), .int (nI j)] σ (463 + j) (σ) := by
  refine xM.of (by decide) (Nat.le_of_ble_eq_true rfl) (fun pp ee ss mm aa bel met kk X => ?_)
  have X : xC pp ss mm met kk cX4_at 2 RX4 (Option.some (Jvm.ClassFile.FieldType.array Jvm.ClassFile.FieldType.int)) G := X
  show xW pp l ee { frames := 1, cells := 0, slots := 0, locals := 21 } ss mm aa bel met kk 2 G 0 0 (xQ bel G (fun r t => r = some (.ref (G.2.1 (463 + j))) ∧ t = (σ)) aa ss) 0 [(0, .ref (G.2.1 3)), (1, .int (nI j))] [] σ
  refine x_aload_n X dX4_at_0 rfl ?_
  refine x_iload_n X dX4_at_1 rfl ?_
  refine cv_X4_24 X (c_X4_has hp hc) dX4_at_2 rfl ⟨by decide, by decide, by decide, by decide⟩ rfl rfl (Nat.le_of_ble_eq_true rfl) (xk_i ?_)
  refine x_ifeq (tgt := 17) X dX4_at_5 (by decide) (fun h5 => ?_) (fun h5 => ?_)
  · skip
    exact absurd ⟨j, hj, rfl⟩ (xB_0.mp h5)
  · skip
    refine x_aload_n X dX4_at_8 rfl ?_
    refine gf_X4_11 (k' := 4) X dX4_at_9 rfl rfl ?_
    refine x_iload_n X dX4_at_12 rfl ?_
    refine x_aaldN (k' := (463 + j)) X dX4_at_13 rfl (by omega) (by omega) rfl ?_
    refine x_goto (tgt := 21) X dX4_at_14 (by decide) ?_
    exact x_aret X (Or.inr ⟨_, rfl⟩) dX4_at_21 (xp_r (by first | rfl | simp [*]) (by first | rfl | simp [*]))

set_option maxHeartbeats 4000000 in
set_option maxRecDepth 100000 in
theorem c_X4_add8 {l : Launch} {G : xG} {σ : xS} {V : Int32} (hc : xgI σ 3 2 = 8) : xFi l G yX4_add cX4_add 4 (Option.some Jvm.ClassFile.FieldType.int) 1 21 [.ref (G.2.1 3), .ref (G.2.1 1), .int V] σ (-5) (σ) := by
  refine xM.of (by decide) (Nat.le_of_ble_eq_true rfl) (fun pp ee ss mm aa bel met kk X => ?_)
  have X : xC pp ss mm met kk cX4_add 4 RX4 (Option.some Jvm.ClassFile.FieldType.int) G := X
  show xW pp l ee { frames := 1, cells := 0, slots := 0, locals := 21 } ss mm aa bel met kk 4 G 0 0 (xQ bel G (fun r t => r = some (.int (-5)) ∧ t = (σ)) aa ss) 0 [(0, .ref (G.2.1 3)), (1, .ref (G.2.1 1)), (2, .int V)] [] σ
  refine x_aload_n X dX4_add_0 rfl ?_
  refine gf_X4_20 X dX4_add_1 rfl ?_
  rw [hc]
  refine x_iflt (tgt := 16) X dX4_add_4 (by decide) (fun h4 => ?_) (fun h4 => ?_)
  · skip
    exact absurd h4 (by decide)
  · skip
    refine x_aload_n X dX4_add_7 rfl ?_
    refine gf_X4_20 X dX4_add_8 rfl ?_
    rw [hc]
    refine x_bipush (v := 8) X dX4_add_11 (by decide) ?_
    refine x_icmplt (tgt := 19) X dX4_add_13 (by decide) (fun h13 => ?_) (fun h13 => ?_)
    · skip
      exact absurd h13 (by decide)
    · skip
      refine x_bipush (v := (-5)) X dX4_add_16 (by decide) ?_
      exact x_iret X dX4_add_18 (xp_i (by first | rfl | simp [*]) (by first | rfl | simp [*]))

set_option maxHeartbeats 4000000 in
set_option maxRecDepth 100000 in
theorem c_X4_add {l : Launch} {G : xG} {σ : xS} {V np : Nat} (hV : V ≤ 8) (hp : np < 8) (hc : xgI σ 3 2 = nI np) : xFi l G yX4_add cX4_add 4 (Option.some Jvm.ClassFile.FieldType.int) 1 21 [.ref (G.2.1 3), .ref (G.2.1 1), .int (nI V)] σ (nI np) (pNew σ np V) := by
  refine xM.of (by decide) (Nat.le_of_ble_eq_true rfl) (fun pp ee ss mm aa bel met kk X => ?_)
  have X : xC pp ss mm met kk cX4_add 4 RX4 (Option.some Jvm.ClassFile.FieldType.int) G := X
  show xW pp l ee { frames := 1, cells := 0, slots := 0, locals := 21 } ss mm aa bel met kk 4 G 0 0 (xQ bel G (fun r t => r = some (.int (nI np)) ∧ t = (pNew σ np V)) aa ss) 0 [(0, .ref (G.2.1 3)), (1, .ref (G.2.1 1)), (2, .int (nI V))] [] σ
  refine x_aload_n X dX4_add_0 rfl ?_
  refine gf_X4_20 X dX4_add_1 rfl ?_
  rw [hc]
  refine x_iflt (tgt := 16) X dX4_add_4 (by decide) (fun h4 => ?_) (fun h4 => ?_)
  · skip
    rw [xb_lt (x := nI np) (y := 0) (a := np) (b := 0) rfl rfl (by omega) (by omega)] at h4
    exact absurd h4 (by omega)
  · skip
    rw [xb_lt (x := nI np) (y := 0) (a := np) (b := 0) rfl rfl (by omega) (by omega)] at h4
    refine x_aload_n X dX4_add_7 rfl ?_
    refine gf_X4_20 X dX4_add_8 rfl ?_
    rw [hc]
    refine x_bipush (v := 8) X dX4_add_11 (by decide) ?_
    refine x_icmplt (tgt := 19) X dX4_add_13 (by decide) (fun h13 => ?_) (fun h13 => ?_)
    · skip
      rw [xb_lt (x := nI np) (y := 8) (a := np) (b := 8) rfl rfl (by omega) (by omega)] at h13
      refine x_iconst (v := 0) X dX4_add_19 (by decide) ?_
      refine x_istore_n (lv' := [(3, .int 0), (0, .ref (G.2.1 3)), (1, .ref (G.2.1 1)), (2, .int (nI V))]) X dX4_add_20 rfl (by decide) rfl ?_
      have lp21 : ∀ (NN21 : Nat) (n : Nat) (hn : n ≤ 8), 8 - n = NN21 → xW pp l ee { frames := 1, cells := 0, slots := 0, locals := 21 } ss mm aa bel met kk 4 G 0 0 (xQ bel G (fun r t => r = some (.int (nI np)) ∧ t = (pNew σ np V)) aa ss) 21 [(3, .int (nI n)), (2, .int (nI V)), (1, .ref (G.2.1 1)), (0, .ref (G.2.1 3))] [] (pAdd σ np V n) := by
        intro NN21
        induction NN21 using Nat.strongRecOn with
        | ind NN21 ih21 =>
          intro n hn hNN21
          refine x_iload_n X dX4_add_21 rfl ?_
          refine x_bipush (v := 8) X dX4_add_22 (by decide) ?_
          refine x_icmpge (tgt := 58) X dX4_add_24 (by decide) (fun h24 => ?_) (fun h24 => ?_)
          · skip
            rw [xb_ge (x := nI n) (y := 8) (a := n) (b := 8) rfl rfl (by omega) (by omega)] at h24
            obtain rfl : n = 8 := by omega
            refine x_aload_n X dX4_add_58 rfl ?_
            refine x_dup X dX4_add_59 rfl ?_
            refine gf_X4_20 X dX4_add_60 rfl ?_
            rw [pAdd_o σ np V 2 (by omega), hc]
            refine x_iconst (v := 1) X dX4_add_63 (by decide) ?_
            refine x_iadd X dX4_add_64 ?_
            rw [nI_1]
            refine pf_X4_20 X dX4_add_65 rfl ?_
            refine x_aload_n X dX4_add_68 rfl ?_
            refine gf_X4_20 X dX4_add_69 rfl ?_
            rw [xgI_s]
            refine x_iconst (v := 1) X dX4_add_72 (by decide) ?_
            refine x_isub X dX4_add_73 ?_
            rw [show nI (np + 1) - 1 = nI np from nI_pred np]
            exact x_iret X dX4_add_74 (xp_i (by first | rfl | simp [*]) (by first | rfl | simp [*]))
          · skip
            rw [xb_ge (x := nI n) (y := 8) (a := n) (b := 8) rfl rfl (by omega) (by omega)] at h24
            refine x_aload_n X dX4_add_27 rfl ?_
            refine gf_X4_11 (k' := 4) X dX4_add_28 rfl rfl ?_
            refine x_aload_n X dX4_add_31 rfl ?_
            refine gf_X4_20 X dX4_add_32 rfl ?_
            rw [pAdd_o σ np V 2 (by omega), hc]
            refine x_aaldN (k' := (463 + np)) X dX4_add_35 rfl (by omega) (by omega) rfl ?_
            refine x_iload_n X dX4_add_36 rfl ?_
            refine x_iload_n X dX4_add_37 rfl ?_
            refine x_iload_n X dX4_add_38 rfl ?_
            refine x_icmpge (tgt := 50) X dX4_add_39 (by decide) (fun h39 => ?_) (fun h39 => ?_)
            · skip
              rw [xb_ge (x := nI n) (y := nI V) (a := n) (b := V) rfl rfl (by omega) (by omega)] at h39
              have hif : (0 : Int32) = if n < V then tAt σ (nI n) else 0 := by rw [if_neg (by omega)]
              refine x_iconst (v := 0) X dX4_add_50 (by decide) ?_
              rw [hif]
              refine x_iastN X dX4_add_51 (xck_pln (i := np) (by omega)) (by omega) (by omega) ?_
              refine x_iinc (k := 0) (v := nI (n + 1)) (lv' := [(3, .int (nI (n + 1))), (2, .int (nI V)), (1, .ref (G.2.1 1)), (0, .ref (G.2.1 3))]) X dX4_add_52 rfl (xn_inc _) (by decide) rfl ?_
              refine x_goto (tgt := 21) X dX4_add_55 (by decide) ?_
              refine x_pick [0, 1, 2, 3] rfl ?_
              exact ih21 _ (by omega) (n + 1) (by omega) rfl
            · skip
              rw [xb_ge (x := nI n) (y := nI V) (a := n) (b := V) rfl rfl (by omega) (by omega)] at h39
              have hif : tAt σ (nI n) = if n < V then tAt σ (nI n) else 0 := by rw [if_pos (by omega)]
              refine x_aload_n X dX4_add_42 rfl ?_
              refine x_iload_n X dX4_add_43 rfl ?_
              refine cv_X4_28 X c_X7_at dX4_add_44 rfl ⟨by decide, by decide, by decide, by decide⟩ rfl rfl (Nat.le_of_ble_eq_true rfl) (xk_i ?_)
              rw [pAdd_t]
              refine x_goto (tgt := 51) X dX4_add_47 (by decide) ?_
              rw [hif]
              refine x_iastN X dX4_add_51 (xck_pln (i := np) (by omega)) (by omega) (by omega) ?_
              refine x_iinc (k := 0) (v := nI (n + 1)) (lv' := [(3, .int (nI (n + 1))), (2, .int (nI V)), (1, .ref (G.2.1 1)), (0, .ref (G.2.1 3))]) X dX4_add_52 rfl (xn_inc _) (by decide) rfl ?_
              refine x_goto (tgt := 21) X dX4_add_55 (by decide) ?_
              refine x_pick [0, 1, 2, 3] rfl ?_
              exact ih21 _ (by omega) (n + 1) (by omega) rfl
      refine x_pick [0, 3, 2, 1] rfl ?_
      exact lp21 _ 0 (by omega) rfl
    · skip
      rw [xb_lt (x := nI np) (y := 8) (a := np) (b := 8) rfl rfl (by omega) (by omega)] at h13
      exact absurd hp h13

set_option maxHeartbeats 4000000 in
set_option maxRecDepth 100000 in
theorem c_X6_clear {l : Launch} {G : xG} {σ : xS} : xFv l G yX6_clear cX6_clear 1 (Option.none : Option Jvm.ClassFile.FieldType) 0 0 [.ref (G.2.1 8)] σ (xsI (xsI σ 8 3 0) 8 4 0) := by
  refine xM.of (by decide) (Nat.le_of_ble_eq_true rfl) (fun pp ee ss mm aa bel met kk X => ?_)
  have X : xC pp ss mm met kk cX6_clear 1 RX6 (Option.none : Option Jvm.ClassFile.FieldType) G := X
  show xW pp l ee { frames := 0, cells := 0, slots := 0, locals := 0 } ss mm aa bel met kk 1 G 0 0 (xQ bel G (fun r t => r = none ∧ t = (xsI (xsI σ 8 3 0) 8 4 0)) aa ss) 0 [(0, .ref (G.2.1 8))] [] σ
  refine x_aload_n X dX6_clear_0 rfl ?_
  refine x_iconst (v := 0) X dX6_clear_1 (by decide) ?_
  refine pf_X6_26 X dX6_clear_2 rfl ?_
  refine x_aload_n X dX6_clear_5 rfl ?_
  refine x_iconst (v := 0) X dX6_clear_6 (by decide) ?_
  refine pf_X6_30 X dX6_clear_7 rfl ?_
  exact x_vret X dX6_clear_10 (⟨rfl, by first | rfl | simp [*]⟩)

set_option maxHeartbeats 4000000 in
set_option maxRecDepth 100000 in
theorem c_X6_has {l : Launch} {G : xG} {σ : xS} {q : Int32} {nr : Nat} (hr : nr ≤ 200) (hc : xgI σ 8 3 = nI nr) : xFi l G yX6_has cX6_has 2 (Option.some Jvm.ClassFile.FieldType.boolean) 0 0 [.ref (G.2.1 8), .int q] σ (xB (xLt q nr)) (σ) := by
  refine xM.of (by decide) (Nat.le_of_ble_eq_true rfl) (fun pp ee ss mm aa bel met kk X => ?_)
  have X : xC pp ss mm met kk cX6_has 2 RX6 (Option.some Jvm.ClassFile.FieldType.boolean) G := X
  show xW pp l ee { frames := 0, cells := 0, slots := 0, locals := 0 } ss mm aa bel met kk 2 G 0 0 (xQ bel G (fun r t => r = some (.int (xB (xLt q nr))) ∧ t = (σ)) aa ss) 0 [(0, .ref (G.2.1 8)), (1, .int q)] [] σ
  refine x_iload_n X dX6_has_0 rfl ?_
  refine x_iflt (tgt := 23) X dX6_has_1 (by decide) (fun h1 => ?_) (fun h1 => ?_)
  · skip
    refine x_iconst (v := 0) X dX6_has_23 (by decide) ?_
    exact x_zret X dX6_has_24 (Or.inl rfl) (xp_i (by first | exact (xB_t (xLt_t h1 h9 (by omega))).symm | exact (xB_f (xLt_f1 h1 (by omega))).symm | exact (xB_f (xLt_f2 h9 (by omega) (by omega))).symm | exact (xB_f (xLt_f2 h16 (by omega) (by decide))).symm) (by first | rfl | simp [*]))
  · skip
    refine x_iload_n X dX6_has_4 rfl ?_
    refine x_aload_n X dX6_has_5 rfl ?_
    refine gf_X6_26 X dX6_has_6 rfl ?_
    rw [hc]
    refine x_icmpge (tgt := 23) X dX6_has_9 (by decide) (fun h9 => ?_) (fun h9 => ?_)
    · skip
      refine x_iconst (v := 0) X dX6_has_23 (by decide) ?_
      exact x_zret X dX6_has_24 (Or.inl rfl) (xp_i (by first | exact (xB_t (xLt_t h1 h9 (by omega))).symm | exact (xB_f (xLt_f1 h1 (by omega))).symm | exact (xB_f (xLt_f2 h9 (by omega) (by omega))).symm | exact (xB_f (xLt_f2 h16 (by omega) (by decide))).symm) (by first | rfl | simp [*]))
    · skip
      refine x_iload_n X dX6_has_12 rfl ?_
      refine x_sipush (v := 200) X dX6_has_13 (by decide) ?_
      refine x_icmpge (tgt := 23) X dX6_has_16 (by decide) (fun h16 => ?_) (fun h16 => ?_)
      · skip
        refine x_iconst (v := 0) X dX6_has_23 (by decide) ?_
        exact x_zret X dX6_has_24 (Or.inl rfl) (xp_i (by first | exact (xB_t (xLt_t h1 h9 (by omega))).symm | exact (xB_f (xLt_f1 h1 (by omega))).symm | exact (xB_f (xLt_f2 h9 (by omega) (by omega))).symm | exact (xB_f (xLt_f2 h16 (by omega) (by decide))).symm) (by first | rfl | simp [*]))
      · skip
        refine x_iconst (v := 1) X dX6_has_19 (by decide) ?_
        refine x_goto (tgt := 24) X dX6_has_20 (by decide) ?_
        exact x_zret X dX6_has_24 (Or.inr rfl) (xp_i (by first | exact (xB_t (xLt_t h1 h9 (by omega))).symm | exact (xB_f (xLt_f1 h1 (by omega))).symm | exact (xB_f (xLt_f2 h9 (by omega) (by omega))).symm | exact (xB_f (xLt_f2 h16 (by omega) (by decide))).symm) (by first | rfl | simp [*]))

set_option maxHeartbeats 4000000 in
set_option maxRecDepth 100000 in
theorem c_X6_at {l : Launch} {G : xG} {σ : xS} {j : Nat} {nr : Nat} (hr : nr ≤ 200) (hc : xgI σ 8 3 = nI nr) (hj : j < nr) : xFr l G yX6_at cX6_at 2 (Option.some (Jvm.ClassFile.FieldType.object "PlanCertificates$Row")) 1 21 [.ref (G.2.1 8), .int (nI j)] σ (61 + j) (σ) := by
  refine xM.of (by decide) (Nat.le_of_ble_eq_true rfl) (fun pp ee ss mm aa bel met kk X => ?_)
  have X : xC pp ss mm met kk cX6_at 2 RX6 (Option.some (Jvm.ClassFile.FieldType.object "PlanCertificates$Row")) G := X
  show xW pp l ee { frames := 1, cells := 0, slots := 0, locals := 21 } ss mm aa bel met kk 2 G 0 0 (xQ bel G (fun r t => r = some (.ref (G.2.1 (61 + j))) ∧ t = (σ)) aa ss) 0 [(0, .ref (G.2.1 8)), (1, .int (nI j))] [] σ
  refine x_aload_n X dX6_at_0 rfl ?_
  refine x_iload_n X dX6_at_1 rfl ?_
  refine cv_X6_33 X (c_X6_has hr hc) dX6_at_2 rfl ⟨by decide, by decide, by decide, by decide⟩ rfl rfl (Nat.le_of_ble_eq_true rfl) (xk_i ?_)
  refine x_ifeq (tgt := 17) X dX6_at_5 (by decide) (fun h5 => ?_) (fun h5 => ?_)
  · skip
    exact absurd ⟨j, hj, rfl⟩ (xB_0.mp h5)
  · skip
    refine x_aload_n X dX6_at_8 rfl ?_
    refine gf_X6_11 (k' := 9) X dX6_at_9 rfl rfl ?_
    refine x_iload_n X dX6_at_12 rfl ?_
    refine x_raldN (k' := (61 + j)) X dX6_at_13 rfl (by omega) (by omega) rfl ?_
    refine x_goto (tgt := 21) X dX6_at_14 (by decide) ?_
    exact x_aret X (Or.inl ⟨_, rfl⟩) dX6_at_21 (xp_r (by first | rfl | simp [*]) (by first | rfl | simp [*]))

set_option maxHeartbeats 4000000 in
set_option maxRecDepth 100000 in
theorem c_X6_areFull {l : Launch} {G : xG} {σ : xS} {nr : Nat} (hr : nr ≤ 200) (hc : xgI σ 8 3 = nI nr) : xFi l G yX6_areFull cX6_areFull 1 (Option.some Jvm.ClassFile.FieldType.boolean) 0 0 [.ref (G.2.1 8)] σ (xB (nr = 200)) (σ) := by
  refine xM.of (by decide) (Nat.le_of_ble_eq_true rfl) (fun pp ee ss mm aa bel met kk X => ?_)
  have X : xC pp ss mm met kk cX6_areFull 1 RX6 (Option.some Jvm.ClassFile.FieldType.boolean) G := X
  show xW pp l ee { frames := 0, cells := 0, slots := 0, locals := 0 } ss mm aa bel met kk 1 G 0 0 (xQ bel G (fun r t => r = some (.int (xB (nr = 200))) ∧ t = (σ)) aa ss) 0 [(0, .ref (G.2.1 8))] [] σ
  refine x_aload_n X dX6_areFull_0 rfl ?_
  refine gf_X6_26 X dX6_areFull_1 rfl ?_
  rw [hc]
  refine x_sipush (v := 200) X dX6_areFull_4 (by decide) ?_
  refine x_icmplt (tgt := 14) X dX6_areFull_7 (by decide) (fun h7 => ?_) (fun h7 => ?_)
  · skip
    rw [xb_lt (x := nI nr) (y := 200) (a := nr) (b := 200) rfl rfl (by omega) (by omega)] at h7
    refine x_iconst (v := 0) X dX6_areFull_14 (by decide) ?_
    exact x_zret X dX6_areFull_15 (Or.inl rfl) (xp_i (by first | exact (xB_t (by omega)).symm | exact (xB_f (by omega)).symm) (by first | rfl | simp [*]))
  · skip
    rw [xb_lt (x := nI nr) (y := 200) (a := nr) (b := 200) rfl rfl (by omega) (by omega)] at h7
    refine x_iconst (v := 1) X dX6_areFull_10 (by decide) ?_
    refine x_goto (tgt := 15) X dX6_areFull_11 (by decide) ?_
    exact x_zret X dX6_areFull_15 (Or.inr rfl) (xp_i (by first | exact (xB_t (by omega)).symm | exact (xB_f (by omega)).symm) (by first | rfl | simp [*]))

set_option maxHeartbeats 4000000 in
set_option maxRecDepth 100000 in
theorem c_X6_areBranchesFull {l : Launch} {G : xG} {σ : xS} {nb : Nat} (hb : nb ≤ 60) (hd : xgI σ 8 4 = nI nb) : xFi l G yX6_areBranchesFull cX6_areBranchesFull 1 (Option.some Jvm.ClassFile.FieldType.boolean) 0 0 [.ref (G.2.1 8)] σ (xB (nb = 60)) (σ) := by
  refine xM.of (by decide) (Nat.le_of_ble_eq_true rfl) (fun pp ee ss mm aa bel met kk X => ?_)
  have X : xC pp ss mm met kk cX6_areBranchesFull 1 RX6 (Option.some Jvm.ClassFile.FieldType.boolean) G := X
  show xW pp l ee { frames := 0, cells := 0, slots := 0, locals := 0 } ss mm aa bel met kk 1 G 0 0 (xQ bel G (fun r t => r = some (.int (xB (nb = 60))) ∧ t = (σ)) aa ss) 0 [(0, .ref (G.2.1 8))] [] σ
  refine x_aload_n X dX6_areBranchesFull_0 rfl ?_
  refine gf_X6_30 X dX6_areBranchesFull_1 rfl ?_
  rw [hd]
  refine x_bipush (v := 60) X dX6_areBranchesFull_4 (by decide) ?_
  refine x_icmplt (tgt := 13) X dX6_areBranchesFull_6 (by decide) (fun h6 => ?_) (fun h6 => ?_)
  · skip
    rw [xb_lt (x := nI nb) (y := 60) (a := nb) (b := 60) rfl rfl (by omega) (by omega)] at h6
    refine x_iconst (v := 0) X dX6_areBranchesFull_13 (by decide) ?_
    exact x_zret X dX6_areBranchesFull_14 (Or.inl rfl) (xp_i (by first | exact (xB_t (by omega)).symm | exact (xB_f (by omega)).symm) (by first | rfl | simp [*]))
  · skip
    rw [xb_lt (x := nI nb) (y := 60) (a := nb) (b := 60) rfl rfl (by omega) (by omega)] at h6
    refine x_iconst (v := 1) X dX6_areBranchesFull_9 (by decide) ?_
    refine x_goto (tgt := 14) X dX6_areBranchesFull_10 (by decide) ?_
    exact x_zret X dX6_areBranchesFull_14 (Or.inr rfl) (xp_i (by first | exact (xB_t (by omega)).symm | exact (xB_f (by omega)).symm) (by first | rfl | simp [*]))

set_option maxHeartbeats 4000000 in
set_option maxRecDepth 100000 in
theorem c_X6_fresh {l : Launch} {G : xG} {σ : xS} {nr : Nat} (hr : nr < 200) (hc : xgI σ 8 3 = nI nr) : xFr l G yX6_fresh cX6_fresh 2 (Option.some (Jvm.ClassFile.FieldType.object "PlanCertificates$Row")) 1 21 [.ref (G.2.1 8)] σ (61 + nr) (rClear σ nr) := by
  refine xM.of (by decide) (Nat.le_of_ble_eq_true rfl) (fun pp ee ss mm aa bel met kk X => ?_)
  have X : xC pp ss mm met kk cX6_fresh 2 RX6 (Option.some (Jvm.ClassFile.FieldType.object "PlanCertificates$Row")) G := X
  show xW pp l ee { frames := 1, cells := 0, slots := 0, locals := 21 } ss mm aa bel met kk 2 G 0 0 (xQ bel G (fun r t => r = some (.ref (G.2.1 (61 + nr))) ∧ t = (rClear σ nr)) aa ss) 0 [(0, .ref (G.2.1 8))] [] σ
  refine x_aload_n X dX6_fresh_0 rfl ?_
  refine gf_X6_26 X dX6_fresh_1 rfl ?_
  rw [hc]
  refine x_iflt (tgt := 29) X dX6_fresh_4 (by decide) (fun h4 => ?_) (fun h4 => ?_)
  · skip
    rw [xb_lt (x := nI nr) (y := 0) (a := nr) (b := 0) rfl rfl (by omega) (by omega)] at h4
    exact absurd h4 (by omega)
  · skip
    rw [xb_lt (x := nI nr) (y := 0) (a := nr) (b := 0) rfl rfl (by omega) (by omega)] at h4
    refine x_aload_n X dX6_fresh_7 rfl ?_
    refine gf_X6_26 X dX6_fresh_8 rfl ?_
    rw [hc]
    refine x_sipush (v := 200) X dX6_fresh_11 (by decide) ?_
    refine x_icmpge (tgt := 29) X dX6_fresh_14 (by decide) (fun h14 => ?_) (fun h14 => ?_)
    · skip
      rw [xb_ge (x := nI nr) (y := 200) (a := nr) (b := 200) rfl rfl (by omega) (by omega)] at h14
      exact absurd hr (by omega)
    · skip
      rw [xb_ge (x := nI nr) (y := 200) (a := nr) (b := 200) rfl rfl (by omega) (by omega)] at h14
      refine x_aload_n X dX6_fresh_17 rfl ?_
      refine gf_X6_11 (k' := 9) X dX6_fresh_18 rfl rfl ?_
      refine x_aload_n X dX6_fresh_21 rfl ?_
      refine gf_X6_26 X dX6_fresh_22 rfl ?_
      rw [hc]
      refine x_raldN (k' := (61 + nr)) X dX6_fresh_25 rfl (by omega) (by omega) rfl ?_
      refine x_goto (tgt := 33) X dX6_fresh_26 (by decide) ?_
      refine x_astore_n (lv' := [(1, .ref (G.2.1 (61 + nr))), (0, .ref (G.2.1 8))]) X dX6_fresh_33 rfl (by decide) rfl ?_
      refine x_aload_n X dX6_fresh_34 rfl ?_
      refine cv_X6_37 X (c_X5_clear (by omega)) dX6_fresh_35 (xck_row (i := nr) (by omega)) ⟨by decide, by decide, by decide, by decide⟩ rfl rfl (Nat.le_of_ble_eq_true rfl) (xk_v ?_)
      refine x_aload_n X dX6_fresh_38 rfl ?_
      exact x_aret X (Or.inl ⟨_, rfl⟩) dX6_fresh_39 (xp_r (by first | rfl | simp [*]) (by first | rfl | simp [*]))

set_option maxHeartbeats 4000000 in
set_option maxRecDepth 100000 in
theorem c_X6_keepFresh {l : Launch} {G : xG} {σ : xS} {nr nb : Nat} (hr : nr < 200) (hc : xgI σ 8 3 = nI nr) (hd : xgI σ 8 4 = nI nb) (hb : xgI σ (61 + nr) 5 = 6 → nb < 60) (hb2 : nb ≤ 60) : xFv l G yX6_keepFresh cX6_keepFresh 1 (Option.none : Option Jvm.ClassFile.FieldType) 1 20 [.ref (G.2.1 8)] σ (kKeep σ nr nb) := by
  refine xM.of (by decide) (Nat.le_of_ble_eq_true rfl) (fun pp ee ss mm aa bel met kk X => ?_)
  have X : xC pp ss mm met kk cX6_keepFresh 1 RX6 (Option.none : Option Jvm.ClassFile.FieldType) G := X
  show xW pp l ee { frames := 1, cells := 0, slots := 0, locals := 20 } ss mm aa bel met kk 1 G 0 0 (xQ bel G (fun r t => r = none ∧ t = (kKeep σ nr nb)) aa ss) 0 [(0, .ref (G.2.1 8))] [] σ
  refine x_aload_n X dX6_keepFresh_0 rfl ?_
  refine gf_X6_26 X dX6_keepFresh_1 rfl ?_
  rw [hc]
  refine x_iflt (tgt := 14) X dX6_keepFresh_4 (by decide) (fun h4 => ?_) (fun h4 => ?_)
  · skip
    rw [xb_lt (x := nI nr) (y := 0) (a := nr) (b := 0) rfl rfl (by omega) (by omega)] at h4
    exact absurd h4 (by omega)
  · skip
    rw [xb_lt (x := nI nr) (y := 0) (a := nr) (b := 0) rfl rfl (by omega) (by omega)] at h4
    refine x_aload_n X dX6_keepFresh_7 rfl ?_
    refine cv_X6_40 X (c_X6_areFull (by omega) hc) dX6_keepFresh_8 rfl ⟨by decide, by decide, by decide, by decide⟩ rfl rfl (Nat.le_of_ble_eq_true rfl) (xk_i ?_)
    refine x_ifeq (tgt := 15) X dX6_keepFresh_11 (by decide) (fun h11 => ?_) (fun h11 => ?_)
    · skip
      refine x_aload_n X dX6_keepFresh_15 rfl ?_
      refine gf_X6_11 (k' := 9) X dX6_keepFresh_16 rfl rfl ?_
      refine x_aload_n X dX6_keepFresh_19 rfl ?_
      refine gf_X6_26 X dX6_keepFresh_20 rfl ?_
      rw [hc]
      refine x_raldN (k' := (61 + nr)) X dX6_keepFresh_23 rfl (by omega) (by omega) rfl ?_
      refine gf_X6_44 X dX6_keepFresh_24 (xck_row (i := nr) (by omega)) ?_
      refine x_bipush (v := 6) X dX6_keepFresh_27 (by decide) ?_
      refine x_icmpne (tgt := 87) X dX6_keepFresh_29 (by decide) (fun h29 => ?_) (fun h29 => ?_)
      · skip
        refine x_aload_n X dX6_keepFresh_87 rfl ?_
        refine x_dup X dX6_keepFresh_88 rfl ?_
        refine gf_X6_26 X dX6_keepFresh_89 rfl ?_
        first | rw [hc] | rw [xgI_n (by omega), xgI_n (by omega), xgI_L, hc]
        refine x_iconst (v := 1) X dX6_keepFresh_92 (by decide) ?_
        refine x_iadd X dX6_keepFresh_93 ?_
        rw [nI_1]
        refine pf_X6_26 X dX6_keepFresh_94 rfl ?_
        exact x_vret X dX6_keepFresh_97 (⟨rfl, by unfold kKeep; first | rw [if_pos h29] | rw [if_neg h29]⟩)
      · skip
        refine x_aload_n X dX6_keepFresh_32 rfl ?_
        refine gf_X6_30 X dX6_keepFresh_33 rfl ?_
        rw [hd]
        refine x_iflt (tgt := 87) X dX6_keepFresh_36 (by decide) (fun h36 => ?_) (fun h36 => ?_)
        · skip
          rw [xb_lt (x := nI nb) (y := 0) (a := nb) (b := 0) rfl rfl (by omega) (by omega)] at h36
          exact absurd h36 (by omega)
        · skip
          rw [xb_lt (x := nI nb) (y := 0) (a := nb) (b := 0) rfl rfl (by omega) (by omega)] at h36
          refine x_aload_n X dX6_keepFresh_39 rfl ?_
          refine cv_X6_47 X (c_X6_areBranchesFull hb2 hd) dX6_keepFresh_40 rfl ⟨by decide, by decide, by decide, by decide⟩ rfl rfl (Nat.le_of_ble_eq_true rfl) (xk_i ?_)
          refine x_ifne (tgt := 87) X dX6_keepFresh_43 (by decide) (fun h43 => ?_) (fun h43 => ?_)
          · skip
            exact absurd (xB_f (show ¬ nb = 60 from fun z => by have := hb h29; omega)) h43
          · skip
            refine x_aload_n X dX6_keepFresh_46 rfl ?_
            refine gf_X6_11 (k' := 9) X dX6_keepFresh_47 rfl rfl ?_
            refine x_aload_n X dX6_keepFresh_50 rfl ?_
            refine gf_X6_26 X dX6_keepFresh_51 rfl ?_
            rw [hc]
            refine x_raldN (k' := (61 + nr)) X dX6_keepFresh_54 rfl (by omega) (by omega) rfl ?_
            refine x_lconst (v := 1) X dX6_keepFresh_55 (by decide) ?_
            refine x_aload_n X dX6_keepFresh_56 rfl ?_
            refine gf_X6_30 X dX6_keepFresh_57 rfl ?_
            rw [hd]
            refine x_lshl X dX6_keepFresh_60 ?_
            refine pf_X6_50 X dX6_keepFresh_61 (xck_row (i := nr) (by omega)) ?_
            refine x_aload_n X dX6_keepFresh_64 rfl ?_
            refine gf_X6_22 (k' := 10) X dX6_keepFresh_65 rfl rfl ?_
            refine x_aload_n X dX6_keepFresh_68 rfl ?_
            refine gf_X6_30 X dX6_keepFresh_69 rfl ?_
            rw [xgI_L, hd]
            refine x_aload_n X dX6_keepFresh_72 rfl ?_
            refine gf_X6_26 X dX6_keepFresh_73 rfl ?_
            rw [xgI_L, hc]
            refine x_iastN X dX6_keepFresh_76 rfl (hb h29) (by omega) ?_
            refine x_aload_n X dX6_keepFresh_77 rfl ?_
            refine x_dup X dX6_keepFresh_78 rfl ?_
            refine gf_X6_30 X dX6_keepFresh_79 rfl ?_
            rw [xgI_n (by omega), xgI_L, hd]
            refine x_iconst (v := 1) X dX6_keepFresh_82 (by decide) ?_
            refine x_iadd X dX6_keepFresh_83 ?_
            rw [nI_1]
            refine pf_X6_30 X dX6_keepFresh_84 rfl ?_
            refine x_aload_n X dX6_keepFresh_87 rfl ?_
            refine x_dup X dX6_keepFresh_88 rfl ?_
            refine gf_X6_26 X dX6_keepFresh_89 rfl ?_
            first | rw [hc] | rw [xgI_n (by omega), xgI_n (by omega), xgI_L, hc]
            refine x_iconst (v := 1) X dX6_keepFresh_92 (by decide) ?_
            refine x_iadd X dX6_keepFresh_93 ?_
            rw [nI_1]
            refine pf_X6_26 X dX6_keepFresh_94 rfl ?_
            exact x_vret X dX6_keepFresh_97 (⟨rfl, by unfold kKeep; first | rw [if_pos h29] | rw [if_neg h29]⟩)
    · skip
      exact absurd (xB_f (show ¬ nr = 200 by omega)) h11
