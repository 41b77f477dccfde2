/-! Model: what it says of plans and rows; its reading -/
noncomputable def xFind (P : Nat → Prop) (g : Nat → Int32) (d : Int32) : Nat → Nat → Int32
  | 0, _ => d
  | n + 1, v => @ite _ (P v) (Classical.propDecidable _) (g v) (xFind P g d n (v + 1))
theorem xFind_t {P : Nat → Prop} {g : Nat → Int32} {d : Int32} {n v : Nat} (hv : v < n) (h : P v) : xFind P g d (n - v) v = g v := by
  rw [show n - v = (n - (v + 1)) + 1 by omega, xFind, if_pos h]
theorem xFind_f {P : Nat → Prop} {g : Nat → Int32} {d : Int32} {n v : Nat} (hv : v < n) (h : ¬ P v) : xFind P g d (n - v) v = xFind P g d (n - (v + 1)) (v + 1) := by
  rw [show n - v = (n - (v + 1)) + 1 by omega, xFind, if_neg h]
theorem xFind_0 {P : Nat → Prop} {g : Nat → Int32} {d : Int32} {n : Nat} : xFind P g d (n - n) n = d := by
  rw [Nat.sub_self, xFind]
def mHas (σ : xS) (c t P : Nat) (x y : Int32) : Prop := ∃ q, q < P ∧ xgI σ (mP c + t) q = x ∧ xgI σ (mQ c + t) q = y
def mPV (σ : xS) (c b v : Nat) : Prop := xIn (xgI σ b v) (xgI σ (c + 1) v) (xgI σ (c + 2) v) = 0
def mPR (σ : xS) (c b r : Nat) : Prop := (xgI σ (c + 5) r).toInt64 < xSum (xgI σ (mF c + r)) (xgI σ b) 8
def mPT (σ : xS) (c b t : Nat) : Prop := ¬ mHas σ c t (xgI σ (c + 8) t).toNatClampNeg (xAt σ b 8 (xgI σ (c + 6) t)) (xAt σ b 8 (xgI σ (c + 7) t))
noncomputable def mBrT (σ : xS) (c b N : Nat) : Int32 := xFind (mPT σ c b) (fun t => 200 + nI t) (-1) N 0
noncomputable def mBrR (σ : xS) (c b N M : Nat) : Int32 := xFind (mPR σ c b) (fun r => 100 + nI r) (mBrT σ c b M) N 0
noncomputable def mBrk (σ : xS) (c b N M : Nat) : Int32 := xFind (mPV σ c b) nI (mBrR σ c b N M) 8 0
def mCr (σ : xS) (i : Nat) (f : Nat → Int32) : Nat → xS
  | 0 => σ
  | n + 1 => xsL (mCr σ i f n) (262 + i) n (f n).toInt64
theorem mCr_I (σ : xS) (i : Nat) (f : Nat → Int32) (a b : Nat) : ∀ n, xgI (mCr σ i f n) a b = xgI σ a b
  | 0 => rfl
  | n + 1 => by rw [mCr, xgI_L, mCr_I σ i f a b n]
theorem rSet_n {σ : xS} {i n : Nat} {f : Int64} (h : n < 8) : rSet σ i (nI n) f = xsL σ (262 + i) n f := by
  unfold rSet
  rw [if_neg (nI_pos (by omega)), if_neg (show ¬ (8 : Int32) ≤ nI n from nI_ge (b := 8) h (by omega)), nI_clamp (by omega)]
def mCt (σ : xS) (i : Nat) (g : Nat → Int64) : Nat → xS
  | 0 => σ
  | n + 1 => if n = 0 ∨ xgL (mCt σ i g n) (61 + i) 1 < g n then xsL (mCt σ i g n) (61 + i) 1 (g n) else mCt σ i g n
theorem mCt_I (σ : xS) (i : Nat) (g : Nat → Int64) (a b : Nat) : ∀ n, xgI (mCt σ i g n) a b = xgI σ a b
  | 0 => rfl
  | n + 1 => by
    rw [mCt]
    split
    · rw [xgI_L, mCt_I σ i g a b n]
    · exact mCt_I σ i g a b n
def mG (σ : xS) (c t : Nat) (x y : Int32) (q : Nat) : Int64 := x.toInt64 * (xgI σ (mP c + t) q).toInt64 + y.toInt64 * (xgI σ (mQ c + t) q).toInt64

set_option maxHeartbeats 4000000 in
set_option maxRecDepth 100000 in
theorem c_X2_hasPair {l : Launch} {G : xG} {σ : xS} {c : Nat} (hm : xMod c) {t0 P : Nat} {x y : Int32} (ht : t0 < 4) (hP : xgI σ (c + 8) t0 = nI P) (hP2 : P ≤ 20) : xFi l G yX2_hasPair cX2_hasPair 5 (Option.some Jvm.ClassFile.FieldType.boolean) 0 0 [.ref (G.2.1 c), .int (nI t0), .int x, .int y] σ (xB (mHas σ c t0 P x y)) (σ) := by
  refine xM.of (by decide) (Nat.le_of_ble_eq_true rfl) (fun pp ee ss mm aa bel met kk X => ?_)
  have X : xC pp ss mm met kk cX2_hasPair 5 RX2 (Option.some Jvm.ClassFile.FieldType.boolean) G := X
  show xW pp l ee { frames := 0, cells := 0, slots := 0, locals := 0 } ss mm aa bel met kk 5 G 0 0 (xQ bel G (fun r t => r = some (.int (xB (mHas σ c t0 P x y))) ∧ t = (σ)) aa ss) 0 [(0, .ref (G.2.1 c)), (1, .int (nI t0)), (2, .int x), (3, .int y)] [] σ
  refine x_iconst (v := 0) X dX2_hasPair_0 (by decide) ?_
  refine x_istore (lv' := [(4, .int 0), (0, .ref (G.2.1 c)), (1, .int (nI t0)), (2, .int x), (3, .int y)]) X dX2_hasPair_1 (by decide) rfl ?_
  have lp3 : ∀ (NN3 : Nat) (n : Nat) (hn : n ≤ P) (hz : ∀ q, q < n → ¬ (xgI σ (mP c + t0) q = x ∧ xgI σ (mQ c + t0) q = y)), P - n = NN3 → xW pp l ee { frames := 0, cells := 0, slots := 0, locals := 0 } ss mm aa bel met kk 5 G 0 0 (xQ bel G (fun r t => r = some (.int (xB (mHas σ c t0 P x y))) ∧ t = (σ)) aa ss) 3 [(4, .int (nI n)), (3, .int y), (2, .int x), (1, .int (nI t0)), (0, .ref (G.2.1 c))] [] (σ) := by
    intro NN3
    induction NN3 using Nat.strongRecOn with
    | ind NN3 ih3 =>
      intro n hn hz hNN3
      refine x_iload X dX2_hasPair_3 rfl ?_
      refine x_bipush (v := 20) X dX2_hasPair_5 (by decide) ?_
      refine x_icmpge (tgt := 55) X dX2_hasPair_7 (by decide) (fun h7 => ?_) (fun h7 => ?_)
      · skip
        rw [xb_ge (x := nI n) (y := 20) (a := n) (b := 20) rfl rfl (by omega) (by omega)] at h7
        obtain rfl : n = P := by omega
        refine x_iconst (v := 0) X dX2_hasPair_55 (by decide) ?_
        exact x_zret X dX2_hasPair_56 (Or.inl rfl) (xp_i (by exact (xB_f (fun z => by obtain ⟨q, hq, z⟩ := z; exact hz q hq z)).symm) (by first | rfl | simp [*]))
      · skip
        rw [xb_ge (x := nI n) (y := 20) (a := n) (b := 20) rfl rfl (by omega) (by omega)] at h7
        refine x_iload X dX2_hasPair_10 rfl ?_
        refine x_aload_n X dX2_hasPair_12 rfl ?_
        refine gf_X2_35 (k' := c + 8) X dX2_hasPair_13 (xk0 hm) (xm11 hm) ?_
        refine x_iload_n X dX2_hasPair_16 rfl ?_
        refine x_ialdN X dX2_hasPair_17 (xk8 hm) (by omega) (by omega) ?_
        rw [hP]
        refine x_icmpge (tgt := 55) X dX2_hasPair_18 (by decide) (fun h18 => ?_) (fun h18 => ?_)
        · skip
          rw [xb_ge (x := nI n) (y := nI P) (a := n) (b := P) rfl rfl (by omega) (by omega)] at h18
          obtain rfl : n = P := by omega
          refine x_iconst (v := 0) X dX2_hasPair_55 (by decide) ?_
          exact x_zret X dX2_hasPair_56 (Or.inl rfl) (xp_i (by exact (xB_f (fun z => by obtain ⟨q, hq, z⟩ := z; exact hz q hq z)).symm) (by first | rfl | simp [*]))
        · skip
          rw [xb_ge (x := nI n) (y := nI P) (a := n) (b := P) rfl rfl (by omega) (by omega)] at h18
          refine x_aload_n X dX2_hasPair_21 rfl ?_
          refine gf_X2_38 (k' := c + 9) X dX2_hasPair_22 (xk0 hm) (xm12 hm) ?_
          refine x_iload_n X dX2_hasPair_25 rfl ?_
          refine x_aaldN (k' := mP c + t0) X dX2_hasPair_26 (xk9 hm) (by omega) (by omega) (xrP hm) ?_
          refine x_iload X dX2_hasPair_27 rfl ?_
          refine x_ialdN X dX2_hasPair_29 (xkP hm ht) (by omega) (by omega) ?_
          refine x_iload_n X dX2_hasPair_30 rfl ?_
          refine x_icmpne (tgt := 49) X dX2_hasPair_31 (by decide) (fun h31 => ?_) (fun h31 => ?_)
          · skip
            have hz2 := lt_s hz (fun z => h31 z.1)
            refine x_iinc (k := 0) (v := nI (n + 1)) (lv' := [(4, .int (nI (n + 1))), (3, .int y), (2, .int x), (1, .int (nI t0)), (0, .ref (G.2.1 c))]) X dX2_hasPair_49 rfl (xn_inc _) (by decide) rfl ?_
            refine x_goto (tgt := 3) X dX2_hasPair_52 (by decide) ?_
            refine x_pick [0, 1, 2, 3, 4] rfl ?_
            exact ih3 _ (by omega) (n + 1) (by omega) hz2 rfl
          · skip
            refine x_aload_n X dX2_hasPair_34 rfl ?_
            refine gf_X2_41 (k' := c + 10) X dX2_hasPair_35 (xk0 hm) (xm13 hm) ?_
            refine x_iload_n X dX2_hasPair_38 rfl ?_
            refine x_aaldN (k' := mQ c + t0) X dX2_hasPair_39 (xk10 hm) (by omega) (by omega) (xrQ hm) ?_
            refine x_iload X dX2_hasPair_40 rfl ?_
            refine x_ialdN X dX2_hasPair_42 (xkQ hm ht) (by omega) (by omega) ?_
            refine x_iload_n X dX2_hasPair_43 rfl ?_
            refine x_icmpne (tgt := 49) X dX2_hasPair_44 (by decide) (fun h44 => ?_) (fun h44 => ?_)
            · skip
              have hz2 := lt_s hz (fun z => h44 z.2)
              refine x_iinc (k := 0) (v := nI (n + 1)) (lv' := [(4, .int (nI (n + 1))), (3, .int y), (2, .int x), (1, .int (nI t0)), (0, .ref (G.2.1 c))]) X dX2_hasPair_49 rfl (xn_inc _) (by decide) rfl ?_
              refine x_goto (tgt := 3) X dX2_hasPair_52 (by decide) ?_
              refine x_pick [0, 1, 2, 3, 4] rfl ?_
              exact ih3 _ (by omega) (n + 1) (by omega) hz2 rfl
            · skip
              refine x_iconst (v := 1) X dX2_hasPair_47 (by decide) ?_
              exact x_zret X dX2_hasPair_48 (Or.inr rfl) (xp_i (by exact (xB_t ⟨n, by omega, h31, h44⟩).symm) (by first | rfl | simp [*]))
  refine x_pick [0, 4, 3, 2, 1] rfl ?_
  exact lp3 _ 0 (by omega) lt_0 rfl

set_option maxHeartbeats 4000000 in
set_option maxRecDepth 100000 in
theorem c_X2_firstBroken {l : Launch} {G : xG} {σ : xS} {c : Nat} (hm : xMod c) {b N M : Nat} (hb : xck b = (10, 8)) (hN : xgI σ c 1 = nI N) (hN2 : N ≤ 20) (hM : xgI σ c 2 = nI M) (hM2 : M ≤ 4) (hT : ∀ t, t < M → ∃ P, P ≤ 20 ∧ xgI σ (c + 8) t = nI P) : xFi l G yX2_firstBroken cX2_firstBroken 3 (Option.some Jvm.ClassFile.FieldType.int) 1 24 [.ref (G.2.1 c), .ref (G.2.1 b)] σ (mBrk σ c b N M) (σ) := by
  refine xM.of (by decide) (Nat.le_of_ble_eq_true rfl) (fun pp ee ss mm aa bel met kk X => ?_)
  have X : xC pp ss mm met kk cX2_firstBroken 3 RX2 (Option.some Jvm.ClassFile.FieldType.int) G := X
  show xW pp l ee { frames := 1, cells := 0, slots := 0, locals := 24 } ss mm aa bel met kk 3 G 0 0 (xQ bel G (fun r t => r = some (.int (mBrk σ c b N M)) ∧ t = (σ)) aa ss) 0 [(0, .ref (G.2.1 c)), (1, .ref (G.2.1 b))] [] σ
  refine x_iconst (v := 0) X dX2_firstBroken_0 (by decide) ?_
  refine x_istore_n (lv' := [(2, .int 0), (0, .ref (G.2.1 c)), (1, .ref (G.2.1 b))]) X dX2_firstBroken_1 rfl (by decide) rfl ?_
  have lp2 : ∀ (NN2 : Nat) (n : Nat) (hn : n ≤ 8) (hw : mBrk σ c b N M = xFind (mPV σ c b) nI (mBrR σ c b N M) (8 - n) n), 8 - n = NN2 → xW pp l ee { frames := 1, cells := 0, slots := 0, locals := 24 } ss mm aa bel met kk 3 G 0 0 (xQ bel G (fun r t => r = some (.int (mBrk σ c b N M)) ∧ t = (σ)) aa ss) 2 [(2, .int (nI n)), (1, .ref (G.2.1 b)), (0, .ref (G.2.1 c))] [] (σ) := by
    intro NN2
    induction NN2 using Nat.strongRecOn with
    | ind NN2 ih2 =>
      intro n hn hw hNN2
      refine x_iload_n X dX2_firstBroken_2 rfl ?_
      refine x_bipush (v := 8) X dX2_firstBroken_3 (by decide) ?_
      refine x_icmpge (tgt := 39) X dX2_firstBroken_5 (by decide) (fun h5 => ?_) (fun h5 => ?_)
      · skip
        rw [xb_ge (x := nI n) (y := 8) (a := n) (b := 8) rfl rfl (by omega) (by omega)] at h5
        rw [show n = 8 from by omega, xFind_0] at hw
        refine x_iconst (v := 0) X dX2_firstBroken_39 (by decide) ?_
        refine x_istore_n (lv' := [(2, .int 0), (1, .ref (G.2.1 b)), (0, .ref (G.2.1 c))]) X dX2_firstBroken_40 rfl (by decide) rfl ?_
        have lp41 : ∀ (NN41 : Nat) (n : Nat) (hn : n ≤ N) (hw : mBrk σ c b N M = xFind (mPR σ c b) (fun r => 100 + nI r) (mBrT σ c b M) (N - n) n), N - n = NN41 → xW pp l ee { frames := 1, cells := 0, slots := 0, locals := 24 } ss mm aa bel met kk 3 G 0 0 (xQ bel G (fun r t => r = some (.int (mBrk σ c b N M)) ∧ t = (σ)) aa ss) 41 [(2, .int (nI n)), (1, .ref (G.2.1 b)), (0, .ref (G.2.1 c))] [] (σ) := by
          intro NN41
          induction NN41 using Nat.strongRecOn with
          | ind NN41 ih41 =>
            intro n hn hw hNN41
            refine x_iload_n X dX2_firstBroken_41 rfl ?_
            refine x_bipush (v := 20) X dX2_firstBroken_42 (by decide) ?_
            refine x_icmpge (tgt := 87) X dX2_firstBroken_44 (by decide) (fun h44 => ?_) (fun h44 => ?_)
            · skip
              rw [xb_ge (x := nI n) (y := 20) (a := n) (b := 20) rfl rfl (by omega) (by omega)] at h44
              rw [show n = N from by omega, xFind_0] at hw
              refine x_iconst (v := 0) X dX2_firstBroken_87 (by decide) ?_
              refine x_istore_n (lv' := [(2, .int 0), (1, .ref (G.2.1 b)), (0, .ref (G.2.1 c))]) X dX2_firstBroken_88 rfl (by decide) rfl ?_
              have lp89 : ∀ (NN89 : Nat) (n : Nat) (hn : n ≤ M) (hw : mBrk σ c b N M = xFind (mPT σ c b) (fun t => 200 + nI t) (-1) (M - n) n), M - n = NN89 → xW pp l ee { frames := 1, cells := 0, slots := 0, locals := 24 } ss mm aa bel met kk 3 G 0 0 (xQ bel G (fun r t => r = some (.int (mBrk σ c b N M)) ∧ t = (σ)) aa ss) 89 [(2, .int (nI n)), (1, .ref (G.2.1 b)), (0, .ref (G.2.1 c))] [] (σ) := by
                intro NN89
                induction NN89 using Nat.strongRecOn with
                | ind NN89 ih89 =>
                  intro n hn hw hNN89
                  refine x_iload_n X dX2_firstBroken_89 rfl ?_
                  refine x_iconst (v := 4) X dX2_firstBroken_90 (by decide) ?_
                  refine x_icmpge (tgt := 142) X dX2_firstBroken_91 (by decide) (fun h91 => ?_) (fun h91 => ?_)
                  · skip
                    rw [xb_ge (x := nI n) (y := 4) (a := n) (b := 4) rfl rfl (by omega) (by omega)] at h91
                    rw [show n = M from by omega, xFind_0] at hw
                    refine x_iconst (v := (-1)) X dX2_firstBroken_142 (by decide) ?_
                    exact x_iret X dX2_firstBroken_143 (xp_i (by rw [hw]) (by first | rfl | simp [*]))
                  · skip
                    rw [xb_ge (x := nI n) (y := 4) (a := n) (b := 4) rfl rfl (by omega) (by omega)] at h91
                    refine x_iload_n X dX2_firstBroken_94 rfl ?_
                    refine x_aload_n X dX2_firstBroken_95 rfl ?_
                    refine gf_X2_66 X dX2_firstBroken_96 (xk0 hm) ?_
                    rw [hM]
                    refine x_icmpge (tgt := 142) X dX2_firstBroken_99 (by decide) (fun h99 => ?_) (fun h99 => ?_)
                    · skip
                      rw [xb_ge (x := nI n) (y := nI M) (a := n) (b := M) rfl rfl (by omega) (by omega)] at h99
                      rw [show n = M from by omega, xFind_0] at hw
                      refine x_iconst (v := (-1)) X dX2_firstBroken_142 (by decide) ?_
                      exact x_iret X dX2_firstBroken_143 (xp_i (by rw [hw]) (by first | rfl | simp [*]))
                    · skip
                      rw [xb_ge (x := nI n) (y := nI M) (a := n) (b := M) rfl rfl (by omega) (by omega)] at h99
                      refine x_aload_n X dX2_firstBroken_102 rfl ?_
                      refine x_iload_n X dX2_firstBroken_103 rfl ?_
                      refine x_aload_n X dX2_firstBroken_104 rfl ?_
                      refine x_aload_n X dX2_firstBroken_105 rfl ?_
                      refine gf_X2_29 (k' := c + 6) X dX2_firstBroken_106 (xk0 hm) (xm9 hm) ?_
                      refine x_iload_n X dX2_firstBroken_109 rfl ?_
                      refine x_ialdN X dX2_firstBroken_110 (xk6 hm) (by omega) (by omega) ?_
                      refine cs_X2_97 X (c_X3_at hb (by decide)) dX2_firstBroken_111 ⟨by decide, by decide, by decide, by decide⟩ rfl rfl (Nat.le_of_ble_eq_true rfl) (xk_i ?_)
                      refine x_aload_n X dX2_firstBroken_114 rfl ?_
                      refine x_aload_n X dX2_firstBroken_115 rfl ?_
                      refine gf_X2_32 (k' := c + 7) X dX2_firstBroken_116 (xk0 hm) (xm10 hm) ?_
                      refine x_iload_n X dX2_firstBroken_119 rfl ?_
                      refine x_ialdN X dX2_firstBroken_120 (xk7 hm) (by omega) (by omega) ?_
                      refine cs_X2_97 X (c_X3_at hb (by decide)) dX2_firstBroken_121 ⟨by decide, by decide, by decide, by decide⟩ rfl rfl (Nat.le_of_ble_eq_true rfl) (xk_i ?_)
                      obtain ⟨P, hP2, hP⟩ := hT n (by omega)
                      refine cv_X2_105 X (c_X2_hasPair hm (by omega) hP hP2) dX2_firstBroken_124 (xk0 hm) ⟨by decide, by decide, by decide, by decide⟩ rfl rfl (Nat.le_of_ble_eq_true rfl) (xk_i ?_)
                      refine x_ifne (tgt := 136) X dX2_firstBroken_127 (by decide) (fun h127 => ?_) (fun h127 => ?_)
                      · skip
                        have hw2 := hw.trans (xFind_f (by omega) (fun z => h127 (xB_f (by unfold mPT at z; rw [hP, nI_clamp (by omega)] at z; exact z))))
                        refine x_iinc (k := 0) (v := nI (n + 1)) (lv' := [(2, .int (nI (n + 1))), (1, .ref (G.2.1 b)), (0, .ref (G.2.1 c))]) X dX2_firstBroken_136 rfl (xn_inc _) (by decide) rfl ?_
                        refine x_goto (tgt := 89) X dX2_firstBroken_139 (by decide) ?_
                        refine x_pick [0, 1, 2] rfl ?_
                        exact ih89 _ (by omega) (n + 1) (by omega) hw2 rfl
                      · skip
                        refine x_sipush (v := 200) X dX2_firstBroken_130 (by decide) ?_
                        refine x_iload_n X dX2_firstBroken_133 rfl ?_
                        refine x_iadd X dX2_firstBroken_134 ?_
                        exact x_iret X dX2_firstBroken_135 (xp_i (by rw [hw, xFind_t (by omega) (show mPT σ c b n by unfold mPT; rw [hP, nI_clamp (by omega)]; exact xB_0.mp h127)]) (by first | rfl | simp [*]))
              refine x_pick [0, 1, 2] rfl ?_
              exact lp89 _ 0 (by omega) hw rfl
            · skip
              rw [xb_ge (x := nI n) (y := 20) (a := n) (b := 20) rfl rfl (by omega) (by omega)] at h44
              refine x_iload_n X dX2_firstBroken_47 rfl ?_
              refine x_aload_n X dX2_firstBroken_48 rfl ?_
              refine gf_X2_61 X dX2_firstBroken_49 (xk0 hm) ?_
              rw [hN]
              refine x_icmpge (tgt := 87) X dX2_firstBroken_52 (by decide) (fun h52 => ?_) (fun h52 => ?_)
              · skip
                rw [xb_ge (x := nI n) (y := nI N) (a := n) (b := N) rfl rfl (by omega) (by omega)] at h52
                rw [show n = N from by omega, xFind_0] at hw
                refine x_iconst (v := 0) X dX2_firstBroken_87 (by decide) ?_
                refine x_istore_n (lv' := [(2, .int 0), (1, .ref (G.2.1 b)), (0, .ref (G.2.1 c))]) X dX2_firstBroken_88 rfl (by decide) rfl ?_
                have lp89 : ∀ (NN89 : Nat) (n : Nat) (hn : n ≤ M) (hw : mBrk σ c b N M = xFind (mPT σ c b) (fun t => 200 + nI t) (-1) (M - n) n), M - n = NN89 → xW pp l ee { frames := 1, cells := 0, slots := 0, locals := 24 } ss mm aa bel met kk 3 G 0 0 (xQ bel G (fun r t => r = some (.int (mBrk σ c b N M)) ∧ t = (σ)) aa ss) 89 [(2, .int (nI n)), (1, .ref (G.2.1 b)), (0, .ref (G.2.1 c))] [] (σ) := by
                  intro NN89
                  induction NN89 using Nat.strongRecOn with
                  | ind NN89 ih89 =>
                    intro n hn hw hNN89
                    refine x_iload_n X dX2_firstBroken_89 rfl ?_
                    refine x_iconst (v := 4) X dX2_firstBroken_90 (by decide) ?_
                    refine x_icmpge (tgt := 142) X dX2_firstBroken_91 (by decide) (fun h91 => ?_) (fun h91 => ?_)
                    · skip
                      rw [xb_ge (x := nI n) (y := 4) (a := n) (b := 4) rfl rfl (by omega) (by omega)] at h91
                      rw [show n = M from by omega, xFind_0] at hw
                      refine x_iconst (v := (-1)) X dX2_firstBroken_142 (by decide) ?_
                      exact x_iret X dX2_firstBroken_143 (xp_i (by rw [hw]) (by first | rfl | simp [*]))
                    · skip
                      rw [xb_ge (x := nI n) (y := 4) (a := n) (b := 4) rfl rfl (by omega) (by omega)] at h91
                      refine x_iload_n X dX2_firstBroken_94 rfl ?_
                      refine x_aload_n X dX2_firstBroken_95 rfl ?_
                      refine gf_X2_66 X dX2_firstBroken_96 (xk0 hm) ?_
                      rw [hM]
                      refine x_icmpge (tgt := 142) X dX2_firstBroken_99 (by decide) (fun h99 => ?_) (fun h99 => ?_)
                      · skip
                        rw [xb_ge (x := nI n) (y := nI M) (a := n) (b := M) rfl rfl (by omega) (by omega)] at h99
                        rw [show n = M from by omega, xFind_0] at hw
                        refine x_iconst (v := (-1)) X dX2_firstBroken_142 (by decide) ?_
                        exact x_iret X dX2_firstBroken_143 (xp_i (by rw [hw]) (by first | rfl | simp [*]))
                      · skip
                        rw [xb_ge (x := nI n) (y := nI M) (a := n) (b := M) rfl rfl (by omega) (by omega)] at h99
                        refine x_aload_n X dX2_firstBroken_102 rfl ?_
                        refine x_iload_n X dX2_firstBroken_103 rfl ?_
                        refine x_aload_n X dX2_firstBroken_104 rfl ?_
                        refine x_aload_n X dX2_firstBroken_105 rfl ?_
                        refine gf_X2_29 (k' := c + 6) X dX2_firstBroken_106 (xk0 hm) (xm9 hm) ?_
                        refine x_iload_n X dX2_firstBroken_109 rfl ?_
                        refine x_ialdN X dX2_firstBroken_110 (xk6 hm) (by omega) (by omega) ?_
                        refine cs_X2_97 X (c_X3_at hb (by decide)) dX2_firstBroken_111 ⟨by decide, by decide, by decide, by decide⟩ rfl rfl (Nat.le_of_ble_eq_true rfl) (xk_i ?_)
                        refine x_aload_n X dX2_firstBroken_114 rfl ?_
                        refine x_aload_n X dX2_firstBroken_115 rfl ?_
                        refine gf_X2_32 (k' := c + 7) X dX2_firstBroken_116 (xk0 hm) (xm10 hm) ?_
                        refine x_iload_n X dX2_firstBroken_119 rfl ?_
                        refine x_ialdN X dX2_firstBroken_120 (xk7 hm) (by omega) (by omega) ?_
                        refine cs_X2_97 X (c_X3_at hb (by decide)) dX2_firstBroken_121 ⟨by decide, by decide, by decide, by decide⟩ rfl rfl (Nat.le_of_ble_eq_true rfl) (xk_i ?_)
                        obtain ⟨P, hP2, hP⟩ := hT n (by omega)
                        refine cv_X2_105 X (c_X2_hasPair hm (by omega) hP hP2) dX2_firstBroken_124 (xk0 hm) ⟨by decide, by decide, by decide, by decide⟩ rfl rfl (Nat.le_of_ble_eq_true rfl) (xk_i ?_)
                        refine x_ifne (tgt := 136) X dX2_firstBroken_127 (by decide) (fun h127 => ?_) (fun h127 => ?_)
                        · skip
                          have hw2 := hw.trans (xFind_f (by omega) (fun z => h127 (xB_f (by unfold mPT at z; rw [hP, nI_clamp (by omega)] at z; exact z))))
                          refine x_iinc (k := 0) (v := nI (n + 1)) (lv' := [(2, .int (nI (n + 1))), (1, .ref (G.2.1 b)), (0, .ref (G.2.1 c))]) X dX2_firstBroken_136 rfl (xn_inc _) (by decide) rfl ?_
                          refine x_goto (tgt := 89) X dX2_firstBroken_139 (by decide) ?_
                          refine x_pick [0, 1, 2] rfl ?_
                          exact ih89 _ (by omega) (n + 1) (by omega) hw2 rfl
                        · skip
                          refine x_sipush (v := 200) X dX2_firstBroken_130 (by decide) ?_
                          refine x_iload_n X dX2_firstBroken_133 rfl ?_
                          refine x_iadd X dX2_firstBroken_134 ?_
                          exact x_iret X dX2_firstBroken_135 (xp_i (by rw [hw, xFind_t (by omega) (show mPT σ c b n by unfold mPT; rw [hP, nI_clamp (by omega)]; exact xB_0.mp h127)]) (by first | rfl | simp [*]))
                refine x_pick [0, 1, 2] rfl ?_
                exact lp89 _ 0 (by omega) hw rfl
              · skip
                rw [xb_ge (x := nI n) (y := nI N) (a := n) (b := N) rfl rfl (by omega) (by omega)] at h52
                refine x_aload_n X dX2_firstBroken_55 rfl ?_
                refine gf_X2_23 (k' := c + 4) X dX2_firstBroken_56 (xk0 hm) (xm7 hm) ?_
                refine x_iload_n X dX2_firstBroken_59 rfl ?_
                refine x_aaldN (k' := mF c + n) X dX2_firstBroken_60 (xk4 hm) (by omega) (by omega) (xrF hm) ?_
                refine x_aload_n X dX2_firstBroken_61 rfl ?_
                refine cs_X2_91 X (c_X3_sumOf (xkF hm (by omega)) hb) dX2_firstBroken_62 ⟨by decide, by decide, by decide, by decide⟩ rfl rfl (Nat.le_of_ble_eq_true rfl) (xk_l ?_)
                refine x_aload_n X dX2_firstBroken_65 rfl ?_
                refine gf_X2_26 (k' := c + 5) X dX2_firstBroken_66 (xk0 hm) (xm8 hm) ?_
                refine x_iload_n X dX2_firstBroken_69 rfl ?_
                refine x_ialdN X dX2_firstBroken_70 (xk5 hm) (by omega) (by omega) ?_
                refine x_i2l X dX2_firstBroken_71 ?_
                refine x_lcmp X dX2_firstBroken_72 ?_
                refine x_ifle (tgt := 81) X dX2_firstBroken_73 (by decide) (fun h73 => ?_) (fun h73 => ?_)
                · skip
                  rw [lg_cmp_le] at h73
                  have hw2 := hw.trans (xFind_f (by omega) (fun z => xi64_nle.mpr z h73))
                  refine x_iinc (k := 0) (v := nI (n + 1)) (lv' := [(2, .int (nI (n + 1))), (1, .ref (G.2.1 b)), (0, .ref (G.2.1 c))]) X dX2_firstBroken_81 rfl (xn_inc _) (by decide) rfl ?_
                  refine x_goto (tgt := 41) X dX2_firstBroken_84 (by decide) ?_
                  refine x_pick [0, 1, 2] rfl ?_
                  exact ih41 _ (by omega) (n + 1) (by omega) hw2 rfl
                · skip
                  rw [lg_cmp_le] at h73
                  refine x_bipush (v := 100) X dX2_firstBroken_76 (by decide) ?_
                  refine x_iload_n X dX2_firstBroken_78 rfl ?_
                  refine x_iadd X dX2_firstBroken_79 ?_
                  exact x_iret X dX2_firstBroken_80 (xp_i (by rw [hw, xFind_t (by omega) (xi64_nle.mp h73)]) (by first | rfl | simp [*]))
        refine x_pick [0, 1, 2] rfl ?_
        exact lp41 _ 0 (by omega) hw rfl
      · skip
        rw [xb_ge (x := nI n) (y := 8) (a := n) (b := 8) rfl rfl (by omega) (by omega)] at h5
        refine x_aload_n X dX2_firstBroken_8 rfl ?_
        refine x_iload_n X dX2_firstBroken_9 rfl ?_
        refine cs_X2_97 X (c_X3_at hb (by decide)) dX2_firstBroken_10 ⟨by decide, by decide, by decide, by decide⟩ rfl rfl (Nat.le_of_ble_eq_true rfl) (xk_i ?_)
        rw [xAt_n (by omega) (by decide)]
        refine x_aload_n X dX2_firstBroken_13 rfl ?_
        refine gf_X2_9 (k' := c + 1) X dX2_firstBroken_14 (xk0 hm) (xm4 hm) ?_
        refine x_iload_n X dX2_firstBroken_17 rfl ?_
        refine x_ialdN X dX2_firstBroken_18 (xk1 hm) (by omega) (by omega) ?_
        refine x_aload_n X dX2_firstBroken_19 rfl ?_
        refine gf_X2_15 (k' := c + 2) X dX2_firstBroken_20 (xk0 hm) (xm5 hm) ?_
        refine x_iload_n X dX2_firstBroken_23 rfl ?_
        refine x_ialdN X dX2_firstBroken_24 (xk2 hm) (by omega) (by omega) ?_
        refine cs_X2_101 X c_X3_isWithin dX2_firstBroken_25 ⟨by decide, by decide, by decide, by decide⟩ rfl rfl (Nat.le_of_ble_eq_true rfl) (xk_i ?_)
        refine x_ifne (tgt := 33) X dX2_firstBroken_28 (by decide) (fun h28 => ?_) (fun h28 => ?_)
        · skip
          have hw2 := hw.trans (xFind_f (by omega) h28)
          refine x_iinc (k := 0) (v := nI (n + 1)) (lv' := [(2, .int (nI (n + 1))), (1, .ref (G.2.1 b)), (0, .ref (G.2.1 c))]) X dX2_firstBroken_33 rfl (xn_inc _) (by decide) rfl ?_
          refine x_goto (tgt := 2) X dX2_firstBroken_36 (by decide) ?_
          refine x_pick [0, 1, 2] rfl ?_
          exact ih2 _ (by omega) (n + 1) (by omega) hw2 rfl
        · skip
          refine x_iload_n X dX2_firstBroken_31 rfl ?_
          exact x_iret X dX2_firstBroken_32 (xp_i (by rw [hw, xFind_t (by omega) h28]) (by first | rfl | simp [*]))
  refine x_pick [0, 2, 1] rfl ?_
  exact lp2 _ 0 (by omega) rfl rfl

set_option maxHeartbeats 4000000 in
set_option maxRecDepth 100000 in
theorem c_X2_copyRule {l : Launch} {G : xG} {σ : xS} {c : Nat} (hm : xMod c) {i j N : Nat} (hi : i < 201) (hN : xgI σ c 1 = nI N) (hN2 : N ≤ 20) (hj : j < N) : xFv l G yX2_copyRule cX2_copyRule 4 (Option.none : Option Jvm.ClassFile.FieldType) 1 23 [.ref (G.2.1 c), .int (nI j), .ref (G.2.1 (61 + i))] σ (xsL (mCr σ i (xgI σ (mF c + j)) 8) (61 + i) 1 (xgI σ (c + 5) j).toInt64) := by
  refine xM.of (by decide) (Nat.le_of_ble_eq_true rfl) (fun pp ee ss mm aa bel met kk X => ?_)
  have X : xC pp ss mm met kk cX2_copyRule 4 RX2 (Option.none : Option Jvm.ClassFile.FieldType) G := X
  show xW pp l ee { frames := 1, cells := 0, slots := 0, locals := 23 } ss mm aa bel met kk 4 G 0 0 (xQ bel G (fun r t => r = none ∧ t = (xsL (mCr σ i (xgI σ (mF c + j)) 8) (61 + i) 1 (xgI σ (c + 5) j).toInt64)) aa ss) 0 [(0, .ref (G.2.1 c)), (1, .int (nI j)), (2, .ref (G.2.1 (61 + i)))] [] σ
  refine x_aload_n X dX2_copyRule_0 rfl ?_
  refine x_iload_n X dX2_copyRule_1 rfl ?_
  refine cv_X2_108 X (c_X2_hasRule hm hN hN2) dX2_copyRule_2 (xk0 hm) ⟨by decide, by decide, by decide, by decide⟩ rfl rfl (Nat.le_of_ble_eq_true rfl) (xk_i ?_)
  refine x_ifne (tgt := 9) X dX2_copyRule_5 (by decide) (fun h5 => ?_) (fun h5 => ?_)
  · skip
    refine x_iconst (v := 0) X dX2_copyRule_9 (by decide) ?_
    refine x_istore_n (lv' := [(3, .int 0), (0, .ref (G.2.1 c)), (1, .int (nI j)), (2, .ref (G.2.1 (61 + i)))]) X dX2_copyRule_10 rfl (by decide) rfl ?_
    have lp11 : ∀ (NN11 : Nat) (n : Nat) (hn : n ≤ 8), 8 - n = NN11 → xW pp l ee { frames := 1, cells := 0, slots := 0, locals := 23 } ss mm aa bel met kk 4 G 0 0 (xQ bel G (fun r t => r = none ∧ t = (xsL (mCr σ i (xgI σ (mF c + j)) 8) (61 + i) 1 (xgI σ (c + 5) j).toInt64)) aa ss) 11 [(3, .int (nI n)), (2, .ref (G.2.1 (61 + i))), (1, .int (nI j)), (0, .ref (G.2.1 c))] [] (mCr σ i (xgI σ (mF c + j)) n) := by
      intro NN11
      induction NN11 using Nat.strongRecOn with
      | ind NN11 ih11 =>
        intro n hn hNN11
        refine x_iload_n X dX2_copyRule_11 rfl ?_
        refine x_bipush (v := 8) X dX2_copyRule_12 (by decide) ?_
        refine x_icmpge (tgt := 37) X dX2_copyRule_14 (by decide) (fun h14 => ?_) (fun h14 => ?_)
        · skip
          rw [xb_ge (x := nI n) (y := 8) (a := n) (b := 8) rfl rfl (by omega) (by omega)] at h14
          obtain rfl : n = 8 := by omega
          refine x_aload_n X dX2_copyRule_37 rfl ?_
          refine x_aload_n X dX2_copyRule_38 rfl ?_
          refine gf_X2_26 (k' := c + 5) X dX2_copyRule_39 (xk0 hm) (xm8 hm) ?_
          refine x_iload_n X dX2_copyRule_42 rfl ?_
          refine x_ialdN X dX2_copyRule_43 (xk5 hm) (by omega) (by omega) ?_
          rw [mCr_I]
          refine x_i2l X dX2_copyRule_44 ?_
          refine pf_X2_117 X dX2_copyRule_45 (xck_row hi) ?_
          exact x_vret X dX2_copyRule_48 (⟨rfl, by first | rfl | simp [*]⟩)
        · skip
          rw [xb_ge (x := nI n) (y := 8) (a := n) (b := 8) rfl rfl (by omega) (by omega)] at h14
          refine x_aload_n X dX2_copyRule_17 rfl ?_
          refine x_iload_n X dX2_copyRule_18 rfl ?_
          refine x_aload_n X dX2_copyRule_19 rfl ?_
          refine gf_X2_23 (k' := c + 4) X dX2_copyRule_20 (xk0 hm) (xm7 hm) ?_
          refine x_iload_n X dX2_copyRule_23 rfl ?_
          refine x_aaldN (k' := mF c + j) X dX2_copyRule_24 (xk4 hm) (by omega) (by omega) (xrF hm) ?_
          refine x_iload_n X dX2_copyRule_25 rfl ?_
          refine x_ialdN X dX2_copyRule_26 (xkF hm (by omega)) (by omega) (by omega) ?_
          rw [mCr_I]
          refine x_i2l X dX2_copyRule_27 ?_
          refine cv_X2_111 X (c_X5_setFactor hi) dX2_copyRule_28 (xck_row hi) ⟨by decide, by decide, by decide, by decide⟩ rfl rfl (Nat.le_of_ble_eq_true rfl) (xk_v ?_)
          rw [rSet_n (by omega)]
          refine x_iinc (k := 0) (v := nI (n + 1)) (lv' := [(3, .int (nI (n + 1))), (2, .ref (G.2.1 (61 + i))), (1, .int (nI j)), (0, .ref (G.2.1 c))]) X dX2_copyRule_31 rfl (xn_inc _) (by decide) rfl ?_
          refine x_goto (tgt := 11) X dX2_copyRule_34 (by decide) ?_
          refine x_pick [0, 1, 2, 3] rfl ?_
          exact ih11 _ (by omega) (n + 1) (by omega) rfl
    refine x_pick [0, 3, 2, 1] rfl ?_
    exact lp11 _ 0 (by omega) rfl
  · skip
    exact absurd ⟨j, hj, rfl⟩ (xB_0.mp h5)

set_option maxHeartbeats 4000000 in
set_option maxRecDepth 100000 in
theorem c_X2_copyCosts {l : Launch} {G : xG} {σ : xS} {c : Nat} (hm : xMod c) {i : Nat} (hi : i < 201) : xFv l G yX2_copyCosts cX2_copyCosts 3 (Option.none : Option Jvm.ClassFile.FieldType) 1 23 [.ref (G.2.1 c), .ref (G.2.1 (61 + i))] σ (mCr σ i (xgI σ (c + 3)) 8) := by
  refine xM.of (by decide) (Nat.le_of_ble_eq_true rfl) (fun pp ee ss mm aa bel met kk X => ?_)
  have X : xC pp ss mm met kk cX2_copyCosts 3 RX2 (Option.none : Option Jvm.ClassFile.FieldType) G := X
  show xW pp l ee { frames := 1, cells := 0, slots := 0, locals := 23 } ss mm aa bel met kk 3 G 0 0 (xQ bel G (fun r t => r = none ∧ t = (mCr σ i (xgI σ (c + 3)) 8)) aa ss) 0 [(0, .ref (G.2.1 c)), (1, .ref (G.2.1 (61 + i)))] [] σ
  refine x_iconst (v := 0) X dX2_copyCosts_0 (by decide) ?_
  refine x_istore_n (lv' := [(2, .int 0), (0, .ref (G.2.1 c)), (1, .ref (G.2.1 (61 + i)))]) X dX2_copyCosts_1 rfl (by decide) rfl ?_
  have lp2 : ∀ (NN2 : Nat) (n : Nat) (hn : n ≤ 8), 8 - n = NN2 → xW pp l ee { frames := 1, cells := 0, slots := 0, locals := 23 } ss mm aa bel met kk 3 G 0 0 (xQ bel G (fun r t => r = none ∧ t = (mCr σ i (xgI σ (c + 3)) 8)) aa ss) 2 [(2, .int (nI n)), (1, .ref (G.2.1 (61 + i))), (0, .ref (G.2.1 c))] [] (mCr σ i (xgI σ (c + 3)) n) := by
    intro NN2
    induction NN2 using Nat.strongRecOn with
    | ind NN2 ih2 =>
      intro n hn hNN2
      refine x_iload_n X dX2_copyCosts_2 rfl ?_
      refine x_bipush (v := 8) X dX2_copyCosts_3 (by decide) ?_
      refine x_icmpge (tgt := 26) X dX2_copyCosts_5 (by decide) (fun h5 => ?_) (fun h5 => ?_)
      · skip
        rw [xb_ge (x := nI n) (y := 8) (a := n) (b := 8) rfl rfl (by omega) (by omega)] at h5
        obtain rfl : n = 8 := by omega
        exact x_vret X dX2_copyCosts_26 (⟨rfl, by first | rfl | simp [*]⟩)
      · skip
        rw [xb_ge (x := nI n) (y := 8) (a := n) (b := 8) rfl rfl (by omega) (by omega)] at h5
        refine x_aload_n X dX2_copyCosts_8 rfl ?_
        refine x_iload_n X dX2_copyCosts_9 rfl ?_
        refine x_aload_n X dX2_copyCosts_10 rfl ?_
        refine gf_X2_18 (k' := c + 3) X dX2_copyCosts_11 (xk0 hm) (xm6 hm) ?_
        refine x_iload_n X dX2_copyCosts_14 rfl ?_
        refine x_ialdN X dX2_copyCosts_15 (xk3 hm) (by omega) (by omega) ?_
        rw [mCr_I]
        refine x_i2l X dX2_copyCosts_16 ?_
        refine cv_X2_111 X (c_X5_setFactor hi) dX2_copyCosts_17 (xck_row hi) ⟨by decide, by decide, by decide, by decide⟩ rfl rfl (Nat.le_of_ble_eq_true rfl) (xk_v ?_)
        rw [rSet_n (by omega)]
        refine x_iinc (k := 0) (v := nI (n + 1)) (lv' := [(2, .int (nI (n + 1))), (1, .ref (G.2.1 (61 + i))), (0, .ref (G.2.1 c))]) X dX2_copyCosts_20 rfl (xn_inc _) (by decide) rfl ?_
        refine x_goto (tgt := 2) X dX2_copyCosts_23 (by decide) ?_
        refine x_pick [0, 1, 2] rfl ?_
        exact ih2 _ (by omega) (n + 1) (by omega) rfl
  refine x_pick [0, 2, 1] rfl ?_
  exact lp2 _ 0 (by omega) rfl

set_option maxHeartbeats 4000000 in
set_option maxRecDepth 100000 in
theorem c_X2_copyTable {l : Launch} {G : xG} {σ : xS} {c : Nat} (hm : xMod c) {i j N f g P : Nat} {x y : Int32} (hi : i < 201) (hN : xgI σ c 2 = nI N) (hN2 : N ≤ 4) (hj : j < N) (hf : xgI σ (c + 6) j = nI f) (hf8 : f < 8) (hg : xgI σ (c + 7) j = nI g) (hg8 : g < 8) (hP : xgI σ (c + 8) j = nI P) (hP2 : P ≤ 20) : xFv l G yX2_copyTable cX2_copyTable 8 (Option.none : Option Jvm.ClassFile.FieldType) 1 23 [.ref (G.2.1 c), .int (nI j), .int x, .int y, .ref (G.2.1 (61 + i))] σ (mCt (xsL (xsL σ (262 + i) f x.toInt64) (262 + i) g y.toInt64) i (mG σ c j x y) P) := by
  refine xM.of (by decide) (Nat.le_of_ble_eq_true rfl) (fun pp ee ss mm aa bel met kk X => ?_)
  have X : xC pp ss mm met kk cX2_copyTable 8 RX2 (Option.none : Option Jvm.ClassFile.FieldType) G := X
  show xW pp l ee { frames := 1, cells := 0, slots := 0, locals := 23 } ss mm aa bel met kk 8 G 0 0 (xQ bel G (fun r t => r = none ∧ t = (mCt (xsL (xsL σ (262 + i) f x.toInt64) (262 + i) g y.toInt64) i (mG σ c j x y) P)) aa ss) 0 [(0, .ref (G.2.1 c)), (1, .int (nI j)), (2, .int x), (3, .int y), (4, .ref (G.2.1 (61 + i)))] [] σ
  refine x_aload_n X dX2_copyTable_0 rfl ?_
  refine x_iload_n X dX2_copyTable_1 rfl ?_
  refine cv_X2_120 X (c_X2_hasTable hm hN hN2) dX2_copyTable_2 (xk0 hm) ⟨by decide, by decide, by decide, by decide⟩ rfl rfl (Nat.le_of_ble_eq_true rfl) (xk_i ?_)
  refine x_ifne (tgt := 9) X dX2_copyTable_5 (by decide) (fun h5 => ?_) (fun h5 => ?_)
  · skip
    refine x_aload X dX2_copyTable_9 rfl ?_
    refine x_aload_n X dX2_copyTable_11 rfl ?_
    refine gf_X2_29 (k' := c + 6) X dX2_copyTable_12 (xk0 hm) (xm9 hm) ?_
    refine x_iload_n X dX2_copyTable_15 rfl ?_
    refine x_ialdN X dX2_copyTable_16 (xk6 hm) (by omega) (by omega) ?_
    rw [hf]
    refine x_iload_n X dX2_copyTable_17 rfl ?_
    refine x_i2l X dX2_copyTable_18 ?_
    refine cv_X2_111 X (c_X5_setFactor hi) dX2_copyTable_19 (xck_row hi) ⟨by decide, by decide, by decide, by decide⟩ rfl rfl (Nat.le_of_ble_eq_true rfl) (xk_v ?_)
    rw [rSet_n hf8]
    refine x_aload X dX2_copyTable_22 rfl ?_
    refine x_aload_n X dX2_copyTable_24 rfl ?_
    refine gf_X2_32 (k' := c + 7) X dX2_copyTable_25 (xk0 hm) (xm10 hm) ?_
    refine x_iload_n X dX2_copyTable_28 rfl ?_
    refine x_ialdN X dX2_copyTable_29 (xk7 hm) (by omega) (by omega) ?_
    rw [xgI_L, hg]
    refine x_iload_n X dX2_copyTable_30 rfl ?_
    refine x_i2l X dX2_copyTable_31 ?_
    refine cv_X2_111 X (c_X5_setFactor hi) dX2_copyTable_32 (xck_row hi) ⟨by decide, by decide, by decide, by decide⟩ rfl rfl (Nat.le_of_ble_eq_true rfl) (xk_v ?_)
    rw [rSet_n hg8]
    refine x_iconst (v := 0) X dX2_copyTable_35 (by decide) ?_
    refine x_istore (lv' := [(5, .int 0), (0, .ref (G.2.1 c)), (1, .int (nI j)), (2, .int x), (3, .int y), (4, .ref (G.2.1 (61 + i)))]) X dX2_copyTable_36 (by decide) rfl ?_
    have lp38 : ∀ (NN38 : Nat) (n : Nat) (hn : n ≤ P), P - n = NN38 → xW pp l ee { frames := 1, cells := 0, slots := 0, locals := 23 } ss mm aa bel met kk 8 G 0 0 (xQ bel G (fun r t => r = none ∧ t = (mCt (xsL (xsL σ (262 + i) f x.toInt64) (262 + i) g y.toInt64) i (mG σ c j x y) P)) aa ss) 38 [(5, .int (nI n)), (4, .ref (G.2.1 (61 + i))), (3, .int y), (2, .int x), (1, .int (nI j)), (0, .ref (G.2.1 c))] [] (mCt (xsL (xsL σ (262 + i) f x.toInt64) (262 + i) g y.toInt64) i (mG σ c j x y) n) := by
      intro NN38
      induction NN38 using Nat.strongRecOn with
      | ind NN38 ih38 =>
        intro n hn hNN38
        refine x_iload X dX2_copyTable_38 rfl ?_
        refine x_bipush (v := 20) X dX2_copyTable_40 (by decide) ?_
        refine x_icmpge (tgt := 114) X dX2_copyTable_42 (by decide) (fun h42 => ?_) (fun h42 => ?_)
        · skip
          rw [xb_ge (x := nI n) (y := 20) (a := n) (b := 20) rfl rfl (by omega) (by omega)] at h42
          obtain rfl : n = P := by omega
          exact x_vret X dX2_copyTable_114 (⟨rfl, by first | rfl | simp [*]⟩)
        · skip
          rw [xb_ge (x := nI n) (y := 20) (a := n) (b := 20) rfl rfl (by omega) (by omega)] at h42
          refine x_iload X dX2_copyTable_45 rfl ?_
          refine x_aload_n X dX2_copyTable_47 rfl ?_
          refine gf_X2_35 (k' := c + 8) X dX2_copyTable_48 (xk0 hm) (xm11 hm) ?_
          refine x_iload_n X dX2_copyTable_51 rfl ?_
          refine x_ialdN X dX2_copyTable_52 (xk8 hm) (by omega) (by omega) ?_
          rw [mCt_I, xgI_L, xgI_L, hP]
          refine x_icmpge (tgt := 114) X dX2_copyTable_53 (by decide) (fun h53 => ?_) (fun h53 => ?_)
          · skip
            rw [xb_ge (x := nI n) (y := nI P) (a := n) (b := P) rfl rfl (by omega) (by omega)] at h53
            obtain rfl : n = P := by omega
            exact x_vret X dX2_copyTable_114 (⟨rfl, by first | rfl | simp [*]⟩)
          · skip
            rw [xb_ge (x := nI n) (y := nI P) (a := n) (b := P) rfl rfl (by omega) (by omega)] at h53
            refine x_iload_n X dX2_copyTable_56 rfl ?_
            refine x_i2l X dX2_copyTable_57 ?_
            refine x_aload_n X dX2_copyTable_58 rfl ?_
            refine gf_X2_38 (k' := c + 9) X dX2_copyTable_59 (xk0 hm) (xm12 hm) ?_
            refine x_iload_n X dX2_copyTable_62 rfl ?_
            refine x_aaldN (k' := mP c + j) X dX2_copyTable_63 (xk9 hm) (by omega) (by omega) (xrP hm) ?_
            refine x_iload X dX2_copyTable_64 rfl ?_
            refine x_ialdN X dX2_copyTable_66 (xkP hm (by omega)) (by omega) (by omega) ?_
            rw [mCt_I, xgI_L, xgI_L]
            refine x_i2l X dX2_copyTable_67 ?_
            refine x_lmul X dX2_copyTable_68 ?_
            refine x_iload_n X dX2_copyTable_69 rfl ?_
            refine x_i2l X dX2_copyTable_70 ?_
            refine x_aload_n X dX2_copyTable_71 rfl ?_
            refine gf_X2_41 (k' := c + 10) X dX2_copyTable_72 (xk0 hm) (xm13 hm) ?_
            refine x_iload_n X dX2_copyTable_75 rfl ?_
            refine x_aaldN (k' := mQ c + j) X dX2_copyTable_76 (xk10 hm) (by omega) (by omega) (xrQ hm) ?_
            refine x_iload X dX2_copyTable_77 rfl ?_
            refine x_ialdN X dX2_copyTable_79 (xkQ hm (by omega)) (by omega) (by omega) ?_
            rw [mCt_I, xgI_L, xgI_L]
            refine x_i2l X dX2_copyTable_80 ?_
            refine x_lmul X dX2_copyTable_81 ?_
            refine x_ladd X dX2_copyTable_82 ?_
            refine x_topl (fun sm hsm => ?_)
            refine x_lstore (lv' := [(6, .long sm), (5, .int (nI n)), (4, .ref (G.2.1 (61 + i))), (3, .int y), (2, .int x), (1, .int (nI j)), (0, .ref (G.2.1 c))]) X dX2_copyTable_83 (by decide) rfl ?_
            refine x_iload X dX2_copyTable_85 rfl ?_
            refine x_ifeq (tgt := 101) X dX2_copyTable_87 (by decide) (fun h87 => ?_) (fun h87 => ?_)
            · skip
              rw [xb_eq (x := nI n) (y := 0) (a := n) (b := 0) rfl rfl (by omega) (by omega)] at h87
              have hs2 : xsL (mCt (xsL (xsL σ (262 + i) f x.toInt64) (262 + i) g y.toInt64) i (mG σ c j x y) n) (61 + i) 1 sm = mCt (xsL (xsL σ (262 + i) f x.toInt64) (262 + i) g y.toInt64) i (mG σ c j x y) (n + 1) := by rw [mCt, if_pos (Or.inl h87), hsm]; rfl
              refine x_aload X dX2_copyTable_101 rfl ?_
              refine x_lload X dX2_copyTable_103 rfl ?_
              refine pf_X2_117 X dX2_copyTable_105 (xck_row hi) ?_
              rw [hs2]
              refine x_iinc (k := 1) (v := nI (n + 1)) (lv' := [(5, .int (nI (n + 1))), (6, .long sm), (4, .ref (G.2.1 (61 + i))), (3, .int y), (2, .int x), (1, .int (nI j)), (0, .ref (G.2.1 c))]) X dX2_copyTable_108 rfl (xn_inc _) (by decide) rfl ?_
              refine x_goto (tgt := 38) X dX2_copyTable_111 (by decide) ?_
              refine x_pick [0, 2, 3, 4, 5, 6] rfl ?_
              exact ih38 _ (by omega) (n + 1) (by omega) rfl
            · skip
              rw [xb_eq (x := nI n) (y := 0) (a := n) (b := 0) rfl rfl (by omega) (by omega)] at h87
              refine x_lload X dX2_copyTable_90 rfl ?_
              refine x_aload X dX2_copyTable_92 rfl ?_
              refine gf_X2_117 X dX2_copyTable_94 (xck_row hi) ?_
              refine x_lcmp X dX2_copyTable_97 ?_
              refine x_ifle (tgt := 108) X dX2_copyTable_98 (by decide) (fun h98 => ?_) (fun h98 => ?_)
              · skip
                rw [lg_cmp_le] at h98
                have hs2 : mCt (xsL (xsL σ (262 + i) f x.toInt64) (262 + i) g y.toInt64) i (mG σ c j x y) n = mCt (xsL (xsL σ (262 + i) f x.toInt64) (262 + i) g y.toInt64) i (mG σ c j x y) (n + 1) := by rw [mCt, if_neg (fun z => by rcases z with z | z; exact h87 z; rw [hsm] at h98; exact xi64_nlt.mpr h98 z)]
                rw [hs2]
                refine x_iinc (k := 1) (v := nI (n + 1)) (lv' := [(5, .int (nI (n + 1))), (6, .long sm), (4, .ref (G.2.1 (61 + i))), (3, .int y), (2, .int x), (1, .int (nI j)), (0, .ref (G.2.1 c))]) X dX2_copyTable_108 rfl (xn_inc _) (by decide) rfl ?_
                refine x_goto (tgt := 38) X dX2_copyTable_111 (by decide) ?_
                refine x_pick [0, 2, 3, 4, 5, 6] rfl ?_
                exact ih38 _ (by omega) (n + 1) (by omega) rfl
              · skip
                rw [lg_cmp_le] at h98
                have hs2 : xsL (mCt (xsL (xsL σ (262 + i) f x.toInt64) (262 + i) g y.toInt64) i (mG σ c j x y) n) (61 + i) 1 sm = mCt (xsL (xsL σ (262 + i) f x.toInt64) (262 + i) g y.toInt64) i (mG σ c j x y) (n + 1) := by rw [mCt, if_pos (Or.inr (by rw [hsm] at h98; exact xi64_nle.mp h98)), hsm]; rfl
                refine x_aload X dX2_copyTable_101 rfl ?_
                refine x_lload X dX2_copyTable_103 rfl ?_
                refine pf_X2_117 X dX2_copyTable_105 (xck_row hi) ?_
                rw [hs2]
                refine x_iinc (k := 1) (v := nI (n + 1)) (lv' := [(5, .int (nI (n + 1))), (6, .long sm), (4, .ref (G.2.1 (61 + i))), (3, .int y), (2, .int x), (1, .int (nI j)), (0, .ref (G.2.1 c))]) X dX2_copyTable_108 rfl (xn_inc _) (by decide) rfl ?_
                refine x_goto (tgt := 38) X dX2_copyTable_111 (by decide) ?_
                refine x_pick [0, 2, 3, 4, 5, 6] rfl ?_
                exact ih38 _ (by omega) (n + 1) (by omega) rfl
    refine x_pick [0, 5, 4, 3, 2, 1] rfl ?_
    exact lp38 _ 0 (by omega) rfl
  · skip
    exact absurd ⟨j, hj, rfl⟩ (xB_0.mp h5)
