/-! The reference: plans, judging -/
theorem xIn_lt {x : Int32} {n : Nat} (hn : n < 2 ^ 31) : xIn x (nI 0) (nI n - nI 1) = xB (xLt x n) := by
  unfold xIn
  by_cases h1 : x < nI 0
  · rw [if_pos h1, xB_f (xLt_f1 h1 hn)]
  · rw [if_neg h1]
    by_cases h0 : n = 0
    · subst h0
      rw [if_pos (by rw [Int32.lt_iff_toInt_lt]; rw [Int32.lt_iff_toInt_lt] at h1; have e : (nI 0 - nI 1).toInt = -1 := by decide
                     have e2 : (nI 0).toInt = 0 := by decide
                     omega), xB_f (by rintro ⟨j, hj, _⟩; omega)]
    · obtain ⟨k, rfl⟩ : ∃ k, n = k + 1 := ⟨n - 1, by omega⟩
      rw [show nI (k + 1) - nI 1 = nI k from nI_pred k]
      rcases pk_ix x hn with h | h | ⟨j, hj, rfl⟩
      · exact absurd h h1
      · rw [if_pos (by rw [Int32.le_iff_toInt_le, nI_toInt hn] at h; rw [Int32.lt_iff_toInt_lt, nI_toInt (by omega)]; omega), xB_f (xLt_f2 h (Nat.le_refl _) hn)]
      · rw [if_neg (nI_nlt (by omega) (by omega)), xB_t ⟨j, hj, rfl⟩]
noncomputable def dFltG (g : Prop) (nr nb V N M : Nat) (m x : Int32) : Int32 := if m = 0 then dKind x nr nb else if m = 1 then xD (xLt x N) 3 else if m = 2 then xD (xLt x V) 3 else if m = 3 then xD (xLt x M) 4 else if m = 4 then dBey x (-100) 100 else if m = 5 then dBey x 1 4 else if m = 6 then xD (xLt x nr) 4 else if m = 7 then dBey x 1 1000 else if m = 8 then dBey x 2 1000 else if m = 9 then dBey x (-1000) 1000 else if m = 10 then dBey x 0 1 else xD g 4
theorem dFlt_G {σ : xS} {c nr nb np V N M : Nat} {m x : Int32} : dFlt σ c nr nb np V N M m x = dFltG (dGood σ c np N M x) nr nb V N M m x := rfl
def qPV (σ : xS) (p v : Nat) : Prop := xIn (xgI σ 49 (8 * p + v)) (xgI σ 39 v) (xgI σ 40 v) = 0
def qPR (σ : xS) (p V r : Nat) : Prop := (xgI σ 43 r).toInt64 < xSum (fun v => xgI σ 42 (8 * r + v)) (fun v => xgI σ 49 (8 * p + v)) V
def qHas (σ : xS) (p t f g n : Nat) : Prop := ∃ k, k < n ∧ xgI σ 47 (20 * t + k) = xgI σ 49 (8 * p + f) ∧ xgI σ 48 (20 * t + k) = xgI σ 49 (8 * p + g)
def qPT (σ : xS) (p : Nat) (fs gs ps : Nat → Nat) (t : Nat) : Prop := ¬ qHas σ p t (fs t) (gs t) (ps t)
noncomputable def qBrT (σ : xS) (p M : Nat) (fs gs ps : Nat → Nat) : Int32 := xFind (qPT σ p fs gs ps) (fun t => nI 200 + nI t) (-1) M 0
noncomputable def qBrR (σ : xS) (p V N M : Nat) (fs gs ps : Nat → Nat) : Int32 := xFind (qPR σ p V) (fun r => nI 100 + nI r) (qBrT σ p M fs gs ps) N 0
noncomputable def qBrk (σ : xS) (p V N M : Nat) (fs gs ps : Nat → Nat) : Int32 := xFind (qPV σ p) nI (qBrR σ p V N M fs gs ps) V 0
def qGood (σ : xS) (np V N M : Nat) (fs gs ps : Nat → Nat) (x : Int32) : Prop := ∃ j, j < np ∧ x = nI j ∧ qBrk σ j V N M fs gs ps = -1
theorem qGood_n {σ : xS} {np V N M j : Nat} {fs gs ps : Nat → Nat} (hj : j < np) (hp : np ≤ 8) : qGood σ np V N M fs gs ps (nI j) ↔ qBrk σ j V N M fs gs ps = -1 := by
  constructor
  · rintro ⟨i, h1, h2, h3⟩
    rw [(nI_eq (by omega) (by omega)).mp h2]
    exact h3
  · exact fun h => ⟨j, hj, rfl, h⟩
def tabsAt (σ : xS) (M : Nat) (fs gs ps : Nat → Nat) : Prop := ∀ t, t < M → xgI σ 44 t = nI (fs t) ∧ fs t < 8 ∧ xgI σ 45 t = nI (gs t) ∧ gs t < 8 ∧ xgI σ 46 t = nI (ps t) ∧ ps t ≤ 20

set_option maxHeartbeats 4000000 in
set_option maxRecDepth 100000 in
theorem c_X9_broken {l : Launch} {G : xG} {σ : xS} {p0 : Nat} (hp : p0 < 8) {V N M : Nat} {fs gs ps : Nat → Nat} (hV : xgI σ 37 3 = nI V) (hV8 : V ≤ 8) (hN : xgI σ 37 7 = nI N) (hN2 : N ≤ 20) (hM : xgI σ 37 10 = nI M) (hM2 : M ≤ 4) (hT : tabsAt σ M fs gs ps) : xFi l G yX9_broken cX9_broken 6 (Option.some Jvm.ClassFile.FieldType.int) 1 22 [.ref (G.2.1 37), .int (nI p0)] σ (qBrk σ p0 V N M fs gs ps) (σ) := by
  refine xM.of (by decide) (Nat.le_of_ble_eq_true rfl) (fun pp ee ss mm aa bel met kk X => ?_)
  have X : xC pp ss mm met kk cX9_broken 6 RX9 (Option.some Jvm.ClassFile.FieldType.int) G := X
  show xW pp l ee { frames := 1, cells := 0, slots := 0, locals := 22 } ss mm aa bel met kk 6 G 0 0 (xQ bel G (fun r t => r = some (.int (qBrk σ p0 V N M fs gs ps)) ∧ t = (σ)) aa ss) 0 [(0, .ref (G.2.1 37)), (1, .int (nI p0))] [] σ
  refine x_iconst (v := nI 0) X dX9_broken_0 (by decide) ?_
  refine x_istore_n (lv' := [(2, .int (nI 0)), (0, .ref (G.2.1 37)), (1, .int (nI p0))]) X dX9_broken_1 rfl (by decide) rfl ?_
  have lp2 : ∀ (NN2 : Nat) (n : Nat) (hn : n ≤ V) (hw : qBrk σ p0 V N M fs gs ps = xFind (qPV σ p0) nI (qBrR σ p0 V N M fs gs ps) (V - n) n), V - n = NN2 → xW pp l ee { frames := 1, cells := 0, slots := 0, locals := 22 } ss mm aa bel met kk 6 G 0 0 (xQ bel G (fun r t => r = some (.int (qBrk σ p0 V N M fs gs ps)) ∧ t = (σ)) aa ss) 2 [(2, .int (nI n)), (1, .int (nI p0)), (0, .ref (G.2.1 37))] [] (σ) := by
    intro NN2
    induction NN2 using Nat.strongRecOn with
    | ind NN2 ih2 =>
      intro n hn hw hNN2
      refine x_iload_n X dX9_broken_2 rfl ?_
      refine x_aload_n X dX9_broken_3 rfl ?_
      refine gf_X9_112 X dX9_broken_4 rfl ?_
      rw [hV]
      refine x_icmpge (tgt := 47) X dX9_broken_7 (by decide) (fun h7 => ?_) (fun h7 => ?_)
      · skip
        rw [xb_ge (x := nI n) (y := nI V) (a := n) (b := V) rfl rfl (by omega) (by omega)] at h7
        rw [show n = V from by omega, xFind_0] at hw
        refine x_iconst (v := nI 0) X dX9_broken_47 (by decide) ?_
        refine x_istore_n (lv' := [(2, .int (nI 0)), (1, .int (nI p0)), (0, .ref (G.2.1 37))]) X dX9_broken_48 rfl (by decide) rfl ?_
        have lp49 : ∀ (NN49 : Nat) (n : Nat) (hn : n ≤ N) (hw : qBrk σ p0 V N M fs gs ps = xFind (qPR σ p0 V) (fun r => nI 100 + nI r) (qBrT σ p0 M fs gs ps) (N - n) n), N - n = NN49 → xW pp l ee { frames := 1, cells := 0, slots := 0, locals := 22 } ss mm aa bel met kk 6 G 0 0 (xQ bel G (fun r t => r = some (.int (qBrk σ p0 V N M fs gs ps)) ∧ t = (σ)) aa ss) 49 [(2, .int (nI n)), (1, .int (nI p0)), (0, .ref (G.2.1 37))] [] (σ) := by
          intro NN49
          induction NN49 using Nat.strongRecOn with
          | ind NN49 ih49 =>
            intro n hn hw hNN49
            refine x_iload_n X dX9_broken_49 rfl ?_
            refine x_aload_n X dX9_broken_50 rfl ?_
            refine gf_X9_115 X dX9_broken_51 rfl ?_
            rw [hN]
            refine x_icmpge (tgt := 130) X dX9_broken_54 (by decide) (fun h54 => ?_) (fun h54 => ?_)
            · skip
              rw [xb_ge (x := nI n) (y := nI N) (a := n) (b := N) rfl rfl (by omega) (by omega)] at h54
              rw [show n = N from by omega, xFind_0] at hw
              refine x_iconst (v := nI 0) X dX9_broken_130 (by decide) ?_
              refine x_istore_n (lv' := [(2, .int (nI 0)), (1, .int (nI p0)), (0, .ref (G.2.1 37))]) X dX9_broken_131 rfl (by decide) rfl ?_
              have lp132 : ∀ (NN132 : Nat) (n : Nat) (hn : n ≤ M) (hw : qBrk σ p0 V N M fs gs ps = xFind (qPT σ p0 fs gs ps) (fun t => nI 200 + nI t) (-1) (M - n) n), M - n = NN132 → xW pp l ee { frames := 1, cells := 0, slots := 0, locals := 22 } ss mm aa bel met kk 6 G 0 0 (xQ bel G (fun r t => r = some (.int (qBrk σ p0 V N M fs gs ps)) ∧ t = (σ)) aa ss) 132 [(2, .int (nI n)), (1, .int (nI p0)), (0, .ref (G.2.1 37))] [] (σ) := by
                intro NN132
                induction NN132 using Nat.strongRecOn with
                | ind NN132 ih132 =>
                  intro n hn hw hNN132
                  refine x_iload_n X dX9_broken_132 rfl ?_
                  refine x_aload_n X dX9_broken_133 rfl ?_
                  refine gf_X9_118 X dX9_broken_134 rfl ?_
                  rw [hM]
                  refine x_icmpge (tgt := 250) X dX9_broken_137 (by decide) (fun h137 => ?_) (fun h137 => ?_)
                  · skip
                    rw [xb_ge (x := nI n) (y := nI M) (a := n) (b := M) rfl rfl (by omega) (by omega)] at h137
                    rw [show n = M from by omega, xFind_0] at hw
                    refine x_iconst (v := (-1)) X dX9_broken_250 (by decide) ?_
                    exact x_iret X dX9_broken_251 (xp_i (by rw [hw]) (by first | rfl | simp [*]))
                  · skip
                    rw [xb_ge (x := nI n) (y := nI M) (a := n) (b := M) rfl rfl (by omega) (by omega)] at h137
                    obtain ⟨t1, t2, t3, t4, t5, t6⟩ := hT n (by omega)
                    refine x_iconst (v := nI 0) X dX9_broken_140 (by decide) ?_
                    refine x_istore_n (lv' := [(3, .int (nI 0)), (2, .int (nI n)), (1, .int (nI p0)), (0, .ref (G.2.1 37))]) X dX9_broken_141 rfl (by decide) rfl ?_
                    refine x_iconst (v := nI 0) X dX9_broken_142 (by decide) ?_
                    refine x_istore (lv' := [(4, .int (nI 0)), (3, .int (nI 0)), (2, .int (nI n)), (1, .int (nI p0)), (0, .ref (G.2.1 37))]) X dX9_broken_143 (by decide) rfl ?_
                    have lp145 : ∀ (NN145 : Nat) (k : Nat) (hk : k ≤ ps n) (is0 : Int32) (his : is0 = xB (qHas σ p0 n (fs n) (gs n) k)), ps n - k = NN145 → xW pp l ee { frames := 1, cells := 0, slots := 0, locals := 22 } ss mm aa bel met kk 6 G 0 0 (xQ bel G (fun r t => r = some (.int (qBrk σ p0 V N M fs gs ps)) ∧ t = (σ)) aa ss) 145 [(4, .int (nI k)), (3, .int is0), (2, .int (nI n)), (1, .int (nI p0)), (0, .ref (G.2.1 37))] [] (σ) := by
                      intro NN145
                      induction NN145 using Nat.strongRecOn with
                      | ind NN145 ih145 =>
                        intro k hk is0 his hNN145
                        refine x_iload X dX9_broken_145 rfl ?_
                        refine x_aload_n X dX9_broken_147 rfl ?_
                        refine gf_X9_34 (k' := 46) X dX9_broken_148 rfl rfl ?_
                        refine x_iload_n X dX9_broken_151 rfl ?_
                        refine x_ialdN X dX9_broken_152 rfl (by omega) (by omega) ?_
                        rw [t5]
                        refine x_icmpge (tgt := 234) X dX9_broken_153 (by decide) (fun h153 => ?_) (fun h153 => ?_)
                        · skip
                          rw [xb_ge (x := nI k) (y := nI (ps n)) (a := k) (b := (ps n)) rfl rfl (by omega) (by omega)] at h153
                          rw [show k = ps n from by omega] at his
                          refine x_iload_n X dX9_broken_234 rfl ?_
                          refine x_ifne (tgt := 244) X dX9_broken_235 (by decide) (fun h235 => ?_) (fun h235 => ?_)
                          · skip
                            have hw2 := hw.trans (xFind_f (by omega) (fun z => h235 (by rw [his, xB_f z])))
                            refine x_iinc (k := 2) (v := nI (n + 1)) (lv' := [(2, .int (nI (n + 1))), (4, .int (nI k)), (3, .int is0), (1, .int (nI p0)), (0, .ref (G.2.1 37))]) X dX9_broken_244 rfl (xn_inc _) (by decide) rfl ?_
                            refine x_goto (tgt := 132) X dX9_broken_247 (by decide) ?_
                            refine x_pick [0, 3, 4] rfl ?_
                            exact ih132 _ (by omega) (n + 1) (by omega) hw2 rfl
                          · skip
                            refine x_sipush (v := nI 200) X dX9_broken_238 (by decide) ?_
                            refine x_iload_n X dX9_broken_241 rfl ?_
                            refine x_iadd X dX9_broken_242 ?_
                            rw [nI_add 200 n]
                            exact x_iret X dX9_broken_243 (xp_i (by rw [hw, xFind_t (by omega) (show qPT σ p0 fs gs ps n from fun z => by rw [his, xB_t z] at h235; exact absurd h235 (by decide))]; exact (nI_add _ _).symm) (by first | rfl | simp [*]))
                        · skip
                          rw [xb_ge (x := nI k) (y := nI (ps n)) (a := k) (b := (ps n)) rfl rfl (by omega) (by omega)] at h153
                          refine x_iload_n X dX9_broken_156 rfl ?_
                          refine x_ifne (tgt := 222) X dX9_broken_157 (by decide) (fun h157 => ?_) (fun h157 => ?_)
                          · skip
                            have his9 : nI 1 = xB (qHas σ p0 n (fs n) (gs n) (k + 1)) := by
                              have hq : qHas σ p0 n (fs n) (gs n) k := Classical.not_not.mp (fun z => h157 (by rw [his, xB_f z]))
                              exact (xB_t (by obtain ⟨j, a1, a2⟩ := hq; exact ⟨j, by omega, a2⟩)).symm
                            refine x_iconst (v := nI 1) X dX9_broken_222 (by decide) ?_
                            refine x_goto (tgt := 227) X dX9_broken_223 (by decide) ?_
                            refine x_istore_n (lv' := [(3, .int (nI 1)), (4, .int (nI k)), (2, .int (nI n)), (1, .int (nI p0)), (0, .ref (G.2.1 37))]) X dX9_broken_227 rfl (by decide) rfl ?_
                            refine x_iinc (k := 1) (v := nI (k + 1)) (lv' := [(4, .int (nI (k + 1))), (3, .int (nI 1)), (2, .int (nI n)), (1, .int (nI p0)), (0, .ref (G.2.1 37))]) X dX9_broken_228 rfl (xn_inc _) (by decide) rfl ?_
                            refine x_goto (tgt := 145) X dX9_broken_231 (by decide) ?_
                            refine x_pick [0, 1, 2, 3, 4] rfl ?_
                            exact ih145 _ (by omega) (k + 1) (by omega) _ his9 rfl
                          · skip
                            have hq : ¬ qHas σ p0 n (fs n) (gs n) k := fun z => by rw [his, xB_t z] at h157; exact absurd h157 (by decide)
                            refine x_aload_n X dX9_broken_160 rfl ?_
                            refine gf_X9_37 (k' := 47) X dX9_broken_161 rfl rfl ?_
                            refine x_bipush (v := nI 20) X dX9_broken_164 (by decide) ?_
                            refine x_iload_n X dX9_broken_166 rfl ?_
                            refine x_imul X dX9_broken_167 ?_
                            rw [pk_mul 20 n]
                            refine x_iload X dX9_broken_168 rfl ?_
                            refine x_iadd X dX9_broken_170 ?_
                            rw [nI_add (20 * n) k]
                            refine x_ialdN X dX9_broken_171 rfl (by omega) (by omega) ?_
                            refine x_aload_n X dX9_broken_172 rfl ?_
                            refine gf_X9_43 (k' := 49) X dX9_broken_173 rfl rfl ?_
                            refine x_bipush (v := nI 8) X dX9_broken_176 (by decide) ?_
                            refine x_iload_n X dX9_broken_178 rfl ?_
                            refine x_imul X dX9_broken_179 ?_
                            rw [pk_mul 8 p0]
                            refine x_aload_n X dX9_broken_180 rfl ?_
                            refine gf_X9_28 (k' := 44) X dX9_broken_181 rfl rfl ?_
                            refine x_iload_n X dX9_broken_184 rfl ?_
                            refine x_ialdN X dX9_broken_185 rfl (by omega) (by omega) ?_
                            rw [t1]
                            refine x_iadd X dX9_broken_186 ?_
                            rw [nI_add (8 * p0) (fs n)]
                            refine x_ialdN X dX9_broken_187 rfl (by omega) (by omega) ?_
                            refine x_icmpne (tgt := 226) X dX9_broken_188 (by decide) (fun h188 => ?_) (fun h188 => ?_)
                            · skip
                              have his9 : nI 0 = xB (qHas σ p0 n (fs n) (gs n) (k + 1)) := (xB_f (by rintro ⟨j, a1, a2⟩; by_cases e : j = k; (subst e; exact h188 a2.1); exact hq ⟨j, by omega, a2⟩)).symm
                              refine x_iconst (v := nI 0) X dX9_broken_226 (by decide) ?_
                              refine x_istore_n (lv' := [(3, .int (nI 0)), (4, .int (nI k)), (2, .int (nI n)), (1, .int (nI p0)), (0, .ref (G.2.1 37))]) X dX9_broken_227 rfl (by decide) rfl ?_
                              refine x_iinc (k := 1) (v := nI (k + 1)) (lv' := [(4, .int (nI (k + 1))), (3, .int (nI 0)), (2, .int (nI n)), (1, .int (nI p0)), (0, .ref (G.2.1 37))]) X dX9_broken_228 rfl (xn_inc _) (by decide) rfl ?_
                              refine x_goto (tgt := 145) X dX9_broken_231 (by decide) ?_
                              refine x_pick [0, 1, 2, 3, 4] rfl ?_
                              exact ih145 _ (by omega) (k + 1) (by omega) _ his9 rfl
                            · skip
                              refine x_aload_n X dX9_broken_191 rfl ?_
                              refine gf_X9_40 (k' := 48) X dX9_broken_192 rfl rfl ?_
                              refine x_bipush (v := nI 20) X dX9_broken_195 (by decide) ?_
                              refine x_iload_n X dX9_broken_197 rfl ?_
                              refine x_imul X dX9_broken_198 ?_
                              rw [pk_mul 20 n]
                              refine x_iload X dX9_broken_199 rfl ?_
                              refine x_iadd X dX9_broken_201 ?_
                              rw [nI_add (20 * n) k]
                              refine x_ialdN X dX9_broken_202 rfl (by omega) (by omega) ?_
                              refine x_aload_n X dX9_broken_203 rfl ?_
                              refine gf_X9_43 (k' := 49) X dX9_broken_204 rfl rfl ?_
                              refine x_bipush (v := nI 8) X dX9_broken_207 (by decide) ?_
                              refine x_iload_n X dX9_broken_209 rfl ?_
                              refine x_imul X dX9_broken_210 ?_
                              rw [pk_mul 8 p0]
                              refine x_aload_n X dX9_broken_211 rfl ?_
                              refine gf_X9_31 (k' := 45) X dX9_broken_212 rfl rfl ?_
                              refine x_iload_n X dX9_broken_215 rfl ?_
                              refine x_ialdN X dX9_broken_216 rfl (by omega) (by omega) ?_
                              rw [t3]
                              refine x_iadd X dX9_broken_217 ?_
                              rw [nI_add (8 * p0) (gs n)]
                              refine x_ialdN X dX9_broken_218 rfl (by omega) (by omega) ?_
                              refine x_icmpne (tgt := 226) X dX9_broken_219 (by decide) (fun h219 => ?_) (fun h219 => ?_)
                              · skip
                                have his9 : nI 0 = xB (qHas σ p0 n (fs n) (gs n) (k + 1)) := (xB_f (by rintro ⟨j, a1, a2⟩; by_cases e : j = k; (subst e; exact h219 a2.2); exact hq ⟨j, by omega, a2⟩)).symm
                                refine x_iconst (v := nI 0) X dX9_broken_226 (by decide) ?_
                                refine x_istore_n (lv' := [(3, .int (nI 0)), (4, .int (nI k)), (2, .int (nI n)), (1, .int (nI p0)), (0, .ref (G.2.1 37))]) X dX9_broken_227 rfl (by decide) rfl ?_
                                refine x_iinc (k := 1) (v := nI (k + 1)) (lv' := [(4, .int (nI (k + 1))), (3, .int (nI 0)), (2, .int (nI n)), (1, .int (nI p0)), (0, .ref (G.2.1 37))]) X dX9_broken_228 rfl (xn_inc _) (by decide) rfl ?_
                                refine x_goto (tgt := 145) X dX9_broken_231 (by decide) ?_
                                refine x_pick [0, 1, 2, 3, 4] rfl ?_
                                exact ih145 _ (by omega) (k + 1) (by omega) _ his9 rfl
                              · skip
                                have his9 : nI 1 = xB (qHas σ p0 n (fs n) (gs n) (k + 1)) := (xB_t ⟨k, by omega, h188, h219⟩).symm
                                refine x_iconst (v := nI 1) X dX9_broken_222 (by decide) ?_
                                refine x_goto (tgt := 227) X dX9_broken_223 (by decide) ?_
                                refine x_istore_n (lv' := [(3, .int (nI 1)), (4, .int (nI k)), (2, .int (nI n)), (1, .int (nI p0)), (0, .ref (G.2.1 37))]) X dX9_broken_227 rfl (by decide) rfl ?_
                                refine x_iinc (k := 1) (v := nI (k + 1)) (lv' := [(4, .int (nI (k + 1))), (3, .int (nI 1)), (2, .int (nI n)), (1, .int (nI p0)), (0, .ref (G.2.1 37))]) X dX9_broken_228 rfl (xn_inc _) (by decide) rfl ?_
                                refine x_goto (tgt := 145) X dX9_broken_231 (by decide) ?_
                                refine x_pick [0, 1, 2, 3, 4] rfl ?_
                                exact ih145 _ (by omega) (k + 1) (by omega) _ his9 rfl
                    refine x_pick [0, 1, 2, 3, 4] rfl ?_
                    exact lp145 _ 0 (by omega) _ (xB_f (by rintro ⟨j, a1, a2⟩; omega)).symm rfl
              refine x_pick [0, 1, 2] rfl ?_
              exact lp132 _ 0 (by omega) hw rfl
            · skip
              rw [xb_ge (x := nI n) (y := nI N) (a := n) (b := N) rfl rfl (by omega) (by omega)] at h54
              refine x_lconst (v := 0) X dX9_broken_57 (by decide) ?_
              refine x_lstore_n (lv' := [(3, .long 0), (2, .int (nI n)), (1, .int (nI p0)), (0, .ref (G.2.1 37))]) X dX9_broken_58 rfl (by decide) rfl ?_
              refine x_iconst (v := nI 0) X dX9_broken_59 (by decide) ?_
              refine x_istore (lv' := [(5, .int (nI 0)), (3, .long 0), (2, .int (nI n)), (1, .int (nI p0)), (0, .ref (G.2.1 37))]) X dX9_broken_60 (by decide) rfl ?_
              have lp62 : ∀ (NN62 : Nat) (v : Nat) (hv : v ≤ V), V - v = NN62 → xW pp l ee { frames := 1, cells := 0, slots := 0, locals := 22 } ss mm aa bel met kk 6 G 0 0 (xQ bel G (fun r t => r = some (.int (qBrk σ p0 V N M fs gs ps)) ∧ t = (σ)) aa ss) 62 [(5, .int (nI v)), (3, .long (xSum (fun v => xgI σ 42 (8 * n + v)) (fun v => xgI σ 49 (8 * p0 + v)) v)), (2, .int (nI n)), (1, .int (nI p0)), (0, .ref (G.2.1 37))] [] (σ) := by
                intro NN62
                induction NN62 using Nat.strongRecOn with
                | ind NN62 ih62 =>
                  intro v hv hNN62
                  refine x_iload X dX9_broken_62 rfl ?_
                  refine x_aload_n X dX9_broken_64 rfl ?_
                  refine gf_X9_112 X dX9_broken_65 rfl ?_
                  rw [hV]
                  refine x_icmpge (tgt := 107) X dX9_broken_68 (by decide) (fun h68 => ?_) (fun h68 => ?_)
                  · skip
                    rw [xb_ge (x := nI v) (y := nI V) (a := v) (b := V) rfl rfl (by omega) (by omega)] at h68
                    obtain rfl : v = V := by omega
                    refine x_lload_n X dX9_broken_107 rfl ?_
                    refine x_aload_n X dX9_broken_108 rfl ?_
                    refine gf_X9_25 (k' := 43) X dX9_broken_109 rfl rfl ?_
                    refine x_iload_n X dX9_broken_112 rfl ?_
                    refine x_ialdN X dX9_broken_113 rfl (by omega) (by omega) ?_
                    refine x_i2l X dX9_broken_114 ?_
                    refine x_lcmp X dX9_broken_115 ?_
                    refine x_ifle (tgt := 124) X dX9_broken_116 (by decide) (fun h116 => ?_) (fun h116 => ?_)
                    · skip
                      rw [lg_cmp_le] at h116
                      have hw2 := hw.trans (xFind_f (by omega) (fun z => xi64_nle.mpr z h116))
                      refine x_iinc (k := 2) (v := nI (n + 1)) (lv' := [(2, .int (nI (n + 1))), (5, .int (nI v)), (3, .long (xSum (fun v => xgI σ 42 (8 * n + v)) (fun v => xgI σ 49 (8 * p0 + v)) v)), (1, .int (nI p0)), (0, .ref (G.2.1 37))]) X dX9_broken_124 rfl (xn_inc _) (by decide) rfl ?_
                      refine x_goto (tgt := 49) X dX9_broken_127 (by decide) ?_
                      refine x_pick [0, 3, 4] rfl ?_
                      exact ih49 _ (by omega) (n + 1) (by omega) hw2 rfl
                    · skip
                      rw [lg_cmp_le] at h116
                      refine x_bipush (v := nI 100) X dX9_broken_119 (by decide) ?_
                      refine x_iload_n X dX9_broken_121 rfl ?_
                      refine x_iadd X dX9_broken_122 ?_
                      rw [nI_add 100 n]
                      exact x_iret X dX9_broken_123 (xp_i (by rw [hw, xFind_t (by omega) (xi64_nle.mp h116)]; exact (nI_add _ _).symm) (by first | rfl | simp [*]))
                  · skip
                    rw [xb_ge (x := nI v) (y := nI V) (a := v) (b := V) rfl rfl (by omega) (by omega)] at h68
                    refine x_lload_n X dX9_broken_71 rfl ?_
                    refine x_aload_n X dX9_broken_72 rfl ?_
                    refine gf_X9_22 (k' := 42) X dX9_broken_73 rfl rfl ?_
                    refine x_bipush (v := nI 8) X dX9_broken_76 (by decide) ?_
                    refine x_iload_n X dX9_broken_78 rfl ?_
                    refine x_imul X dX9_broken_79 ?_
                    rw [pk_mul 8 n]
                    refine x_iload X dX9_broken_80 rfl ?_
                    refine x_iadd X dX9_broken_82 ?_
                    rw [nI_add (8 * n) v]
                    refine x_ialdN X dX9_broken_83 rfl (by omega) (by omega) ?_
                    refine x_i2l X dX9_broken_84 ?_
                    refine x_aload_n X dX9_broken_85 rfl ?_
                    refine gf_X9_43 (k' := 49) X dX9_broken_86 rfl rfl ?_
                    refine x_bipush (v := nI 8) X dX9_broken_89 (by decide) ?_
                    refine x_iload_n X dX9_broken_91 rfl ?_
                    refine x_imul X dX9_broken_92 ?_
                    rw [pk_mul 8 p0]
                    refine x_iload X dX9_broken_93 rfl ?_
                    refine x_iadd X dX9_broken_95 ?_
                    rw [nI_add (8 * p0) v]
                    refine x_ialdN X dX9_broken_96 rfl (by omega) (by omega) ?_
                    refine x_i2l X dX9_broken_97 ?_
                    refine x_lmul X dX9_broken_98 ?_
                    refine x_ladd X dX9_broken_99 ?_
                    refine x_topl (fun sm hsm => ?_)
                    refine x_lstore_n (lv' := [(3, .long sm), (5, .int (nI v)), (2, .int (nI n)), (1, .int (nI p0)), (0, .ref (G.2.1 37))]) X dX9_broken_100 rfl (by decide) rfl ?_
                    refine x_iinc (k := 1) (v := nI (v + 1)) (lv' := [(5, .int (nI (v + 1))), (3, .long sm), (2, .int (nI n)), (1, .int (nI p0)), (0, .ref (G.2.1 37))]) X dX9_broken_101 rfl (xn_inc _) (by decide) rfl ?_
                    refine x_goto (tgt := 62) X dX9_broken_104 (by decide) ?_
                    subst hsm
                    refine x_pick [0, 1, 2, 3, 4] rfl ?_
                    exact ih62 _ (by omega) (v + 1) (by omega) rfl
              refine x_pick [0, 1, 2, 3, 4] rfl ?_
              exact lp62 _ 0 (by omega) rfl
        refine x_pick [0, 1, 2] rfl ?_
        exact lp49 _ 0 (by omega) hw rfl
      · skip
        rw [xb_ge (x := nI n) (y := nI V) (a := n) (b := V) rfl rfl (by omega) (by omega)] at h7
        refine x_aload_n X dX9_broken_10 rfl ?_
        refine gf_X9_43 (k' := 49) X dX9_broken_11 rfl rfl ?_
        refine x_bipush (v := nI 8) X dX9_broken_14 (by decide) ?_
        refine x_iload_n X dX9_broken_16 rfl ?_
        refine x_imul X dX9_broken_17 ?_
        rw [pk_mul 8 p0]
        refine x_iload_n X dX9_broken_18 rfl ?_
        refine x_iadd X dX9_broken_19 ?_
        rw [nI_add (8 * p0) n]
        refine x_ialdN X dX9_broken_20 rfl (by omega) (by omega) ?_
        refine x_aload_n X dX9_broken_21 rfl ?_
        refine gf_X9_13 (k' := 39) X dX9_broken_22 rfl rfl ?_
        refine x_iload_n X dX9_broken_25 rfl ?_
        refine x_ialdN X dX9_broken_26 rfl (by omega) (by omega) ?_
        refine x_aload_n X dX9_broken_27 rfl ?_
        refine gf_X9_16 (k' := 40) X dX9_broken_28 rfl rfl ?_
        refine x_iload_n X dX9_broken_31 rfl ?_
        refine x_ialdN X dX9_broken_32 rfl (by omega) (by omega) ?_
        refine cs_X9_89 X c_X9_in dX9_broken_33 ⟨by decide, by decide, by decide, by decide⟩ rfl rfl (Nat.le_of_ble_eq_true rfl) (xk_i ?_)
        refine x_ifne (tgt := 41) X dX9_broken_36 (by decide) (fun h36 => ?_) (fun h36 => ?_)
        · skip
          have hw2 := hw.trans (xFind_f (by omega) h36)
          refine x_iinc (k := 0) (v := nI (n + 1)) (lv' := [(2, .int (nI (n + 1))), (1, .int (nI p0)), (0, .ref (G.2.1 37))]) X dX9_broken_41 rfl (xn_inc _) (by decide) rfl ?_
          refine x_goto (tgt := 2) X dX9_broken_44 (by decide) ?_
          refine x_pick [0, 1, 2] rfl ?_
          exact ih2 _ (by omega) (n + 1) (by omega) hw2 rfl
        · skip
          refine x_iload_n X dX9_broken_39 rfl ?_
          exact x_iret X dX9_broken_40 (xp_i (by rw [hw, xFind_t (by omega) h36]) (by first | rfl | simp [*]))
  refine x_pick [0, 2, 1] rfl ?_
  exact lp2 _ 0 (by omega) rfl rfl

set_option maxHeartbeats 4000000 in
set_option maxRecDepth 100000 in
theorem c_X9_breaksN {l : Launch} {G : xG} {σ : xS} {x : Int32} {np : Nat} (hp : np ≤ 8) (hc : xgI σ 37 17 = nI np) (hx : ¬ xLt x np) : xFi l G yX9_breaks cX9_breaks 2 (Option.some Jvm.ClassFile.FieldType.int) 2 47 [.ref (G.2.1 37), .int x] σ (-2) (xsI σ 37 0 0) := by
  refine xM.of (by decide) (Nat.le_of_ble_eq_true rfl) (fun pp ee ss mm aa bel met kk X => ?_)
  have X : xC pp ss mm met kk cX9_breaks 2 RX9 (Option.some Jvm.ClassFile.FieldType.int) G := X
  show xW pp l ee { frames := 2, cells := 0, slots := 0, locals := 47 } ss mm aa bel met kk 2 G 0 0 (xQ bel G (fun r t => r = some (.int (-2)) ∧ t = (xsI σ 37 0 0)) aa ss) 0 [(0, .ref (G.2.1 37)), (1, .int x)] [] σ
  refine x_aload_n X dX9_breaks_0 rfl ?_
  refine x_iconst (v := nI 0) X dX9_breaks_1 (by decide) ?_
  refine pf_X9_86 X dX9_breaks_2 rfl ?_
  refine x_iload_n X dX9_breaks_5 rfl ?_
  refine x_iconst (v := nI 0) X dX9_breaks_6 (by decide) ?_
  refine x_aload_n X dX9_breaks_7 rfl ?_
  refine gf_X9_127 X dX9_breaks_8 rfl ?_
  rw [xgI_n (by decide), hc]
  refine x_iconst (v := nI 1) X dX9_breaks_11 (by decide) ?_
  refine x_isub X dX9_breaks_12 ?_
  refine cs_X9_89 X c_X9_in dX9_breaks_13 ⟨by decide, by decide, by decide, by decide⟩ rfl rfl (Nat.le_of_ble_eq_true rfl) (xk_i ?_)
  rw [xIn_lt (by omega)]
  refine x_ifeq (tgt := 27) X dX9_breaks_16 (by decide) (fun h16 => ?_) (fun h16 => ?_)
  · skip
    refine x_bipush (v := (-2)) X dX9_breaks_27 (by decide) ?_
    exact x_iret X dX9_breaks_29 (xp_i (by first | rfl | simp [*]) (by first | rfl | simp [*]))
  · skip
    exact absurd (xB_f hx) h16

set_option maxHeartbeats 4000000 in
set_option maxRecDepth 100000 in
theorem c_X9_breaks {l : Launch} {G : xG} {σ : xS} {j : Nat} {np : Nat} (hp : np ≤ 8) (hc : xgI σ 37 17 = nI np) {V N M : Nat} {fs gs ps : Nat → Nat} (hV : xgI σ 37 3 = nI V) (hV8 : V ≤ 8) (hN : xgI σ 37 7 = nI N) (hN2 : N ≤ 20) (hM : xgI σ 37 10 = nI M) (hM2 : M ≤ 4) (hT : tabsAt σ M fs gs ps) (hj : j < np) : xFi l G yX9_breaks cX9_breaks 2 (Option.some Jvm.ClassFile.FieldType.int) 2 47 [.ref (G.2.1 37), .int (nI j)] σ (qBrk σ j V N M fs gs ps) (xsI σ 37 0 0) := by
  refine xM.of (by decide) (Nat.le_of_ble_eq_true rfl) (fun pp ee ss mm aa bel met kk X => ?_)
  have X : xC pp ss mm met kk cX9_breaks 2 RX9 (Option.some Jvm.ClassFile.FieldType.int) G := X
  show xW pp l ee { frames := 2, cells := 0, slots := 0, locals := 47 } ss mm aa bel met kk 2 G 0 0 (xQ bel G (fun r t => r = some (.int (qBrk σ j V N M fs gs ps)) ∧ t = (xsI σ 37 0 0)) aa ss) 0 [(0, .ref (G.2.1 37)), (1, .int (nI j))] [] σ
  refine x_aload_n X dX9_breaks_0 rfl ?_
  refine x_iconst (v := nI 0) X dX9_breaks_1 (by decide) ?_
  refine pf_X9_86 X dX9_breaks_2 rfl ?_
  refine x_iload_n X dX9_breaks_5 rfl ?_
  refine x_iconst (v := nI 0) X dX9_breaks_6 (by decide) ?_
  refine x_aload_n X dX9_breaks_7 rfl ?_
  refine gf_X9_127 X dX9_breaks_8 rfl ?_
  rw [xgI_n (by decide), hc]
  refine x_iconst (v := nI 1) X dX9_breaks_11 (by decide) ?_
  refine x_isub X dX9_breaks_12 ?_
  refine cs_X9_89 X c_X9_in dX9_breaks_13 ⟨by decide, by decide, by decide, by decide⟩ rfl rfl (Nat.le_of_ble_eq_true rfl) (xk_i ?_)
  rw [xIn_lt (by omega)]
  refine x_ifeq (tgt := 27) X dX9_breaks_16 (by decide) (fun h16 => ?_) (fun h16 => ?_)
  · skip
    exact absurd ⟨j, hj, rfl⟩ (xB_0.mp h16)
  · skip
    refine x_aload_n X dX9_breaks_19 rfl ?_
    refine x_iload_n X dX9_breaks_20 rfl ?_
    refine cv_X9_153 X (c_X9_broken (by omega) ((xgI_n (by decide)).trans hV) hV8 ((xgI_n (by decide)).trans hN) hN2 ((xgI_n (by decide)).trans hM) hM2 (fun t ht => by have z := hT t ht; rw [← xgI_n (k := 37) (j := 0) (v := nI 0) (show ¬ (44 = 37 ∧ t = 0) by omega), ← xgI_n (k := 37) (j := 0) (v := nI 0) (show ¬ (45 = 37 ∧ t = 0) by omega), ← xgI_n (k := 37) (j := 0) (v := nI 0) (show ¬ (46 = 37 ∧ t = 0) by omega)] at z; exact z)) dX9_breaks_21 rfl ⟨by decide, by decide, by decide, by decide⟩ rfl rfl (Nat.le_of_ble_eq_true rfl) (xk_i ?_)
    refine x_goto (tgt := 29) X dX9_breaks_24 (by decide) ?_
    exact x_iret X dX9_breaks_29 (xp_i (by first | rfl | simp [*]) (by first | rfl | simp [*]))

set_option maxHeartbeats 4000000 in
set_option maxRecDepth 100000 in
theorem c_X9_costT {l : Launch} {G : xG} {σ : xS} {x : Int32} {np : Nat} (hp : np ≤ 8) (hc : xgI σ 37 17 = nI np) (hx : ¬ xLt x np) : xFl l G yX9_cost cX9_cost 2 (Option.some Jvm.ClassFile.FieldType.long) 1 24 [.ref (G.2.1 37), .int x] σ (0) (xsI σ 37 0 1) := by
  refine xM.of (by decide) (Nat.le_of_ble_eq_true rfl) (fun pp ee ss mm aa bel met kk X => ?_)
  have X : xC pp ss mm met kk cX9_cost 2 RX9 (Option.some Jvm.ClassFile.FieldType.long) G := X
  show xW pp l ee { frames := 1, cells := 0, slots := 0, locals := 24 } ss mm aa bel met kk 2 G 0 0 (xQ bel G (fun r t => r = some (.long (0)) ∧ t = (xsI σ 37 0 1)) aa ss) 0 [(0, .ref (G.2.1 37)), (1, .int x)] [] σ
  refine x_aload_n X dX9_cost_0 rfl ?_
  refine x_iload_n X dX9_cost_1 rfl ?_
  refine x_iconst (v := nI 0) X dX9_cost_2 (by decide) ?_
  refine x_aload_n X dX9_cost_3 rfl ?_
  refine gf_X9_127 X dX9_cost_4 rfl ?_
  rw [hc]
  refine x_iconst (v := nI 1) X dX9_cost_7 (by decide) ?_
  refine x_isub X dX9_cost_8 ?_
  refine cs_X9_89 X c_X9_in dX9_cost_9 ⟨by decide, by decide, by decide, by decide⟩ rfl rfl (Nat.le_of_ble_eq_true rfl) (xk_i ?_)
  rw [xIn_lt (by omega)]
  refine x_ifne (tgt := 19) X dX9_cost_12 (by decide) (fun h12 => ?_) (fun h12 => ?_)
  · skip
    exact absurd (xB_f hx) h12
  · skip
    refine x_iconst (v := nI 1) X dX9_cost_15 (by decide) ?_
    refine x_goto (tgt := 20) X dX9_cost_16 (by decide) ?_
    refine cv_X9_157 X (c_X9_refuses (Or.inr rfl)) dX9_cost_20 rfl ⟨by decide, by decide, by decide, by decide⟩ rfl rfl (Nat.le_of_ble_eq_true rfl) (xk_i ?_)
    refine x_ifeq (tgt := 30) X dX9_cost_23 (by decide) (fun h23 => ?_) (fun h23 => ?_)
    · skip
      exact absurd h23 (by decide)
    · skip
      refine x_lconst (v := 0) X dX9_cost_26 (by decide) ?_
      refine x_goto (tgt := 35) X dX9_cost_27 (by decide) ?_
      exact x_lret X dX9_cost_35 (xp_l (by first | rfl | simp [*]) (by first | rfl | simp [*]))

set_option maxHeartbeats 4000000 in
set_option maxRecDepth 100000 in
theorem c_X9_cost {l : Launch} {G : xG} {σ : xS} {j V : Nat} {np : Nat} (hp : np ≤ 8) (hc : xgI σ 37 17 = nI np) (hV : xgI σ 37 3 = nI V) (hV8 : V ≤ 8) (hj : j < np) : xFl l G yX9_cost cX9_cost 2 (Option.some Jvm.ClassFile.FieldType.long) 1 24 [.ref (G.2.1 37), .int (nI j)] σ (qCost σ j V) (xsI σ 37 0 0) := by
  refine xM.of (by decide) (Nat.le_of_ble_eq_true rfl) (fun pp ee ss mm aa bel met kk X => ?_)
  have X : xC pp ss mm met kk cX9_cost 2 RX9 (Option.some Jvm.ClassFile.FieldType.long) G := X
  show xW pp l ee { frames := 1, cells := 0, slots := 0, locals := 24 } ss mm aa bel met kk 2 G 0 0 (xQ bel G (fun r t => r = some (.long (qCost σ j V)) ∧ t = (xsI σ 37 0 0)) aa ss) 0 [(0, .ref (G.2.1 37)), (1, .int (nI j))] [] σ
  refine x_aload_n X dX9_cost_0 rfl ?_
  refine x_iload_n X dX9_cost_1 rfl ?_
  refine x_iconst (v := nI 0) X dX9_cost_2 (by decide) ?_
  refine x_aload_n X dX9_cost_3 rfl ?_
  refine gf_X9_127 X dX9_cost_4 rfl ?_
  rw [hc]
  refine x_iconst (v := nI 1) X dX9_cost_7 (by decide) ?_
  refine x_isub X dX9_cost_8 ?_
  refine cs_X9_89 X c_X9_in dX9_cost_9 ⟨by decide, by decide, by decide, by decide⟩ rfl rfl (Nat.le_of_ble_eq_true rfl) (xk_i ?_)
  rw [xIn_lt (by omega)]
  refine x_ifne (tgt := 19) X dX9_cost_12 (by decide) (fun h12 => ?_) (fun h12 => ?_)
  · skip
    refine x_iconst (v := nI 0) X dX9_cost_19 (by decide) ?_
    refine cv_X9_157 X (c_X9_refuses (Or.inl rfl)) dX9_cost_20 rfl ⟨by decide, by decide, by decide, by decide⟩ rfl rfl (Nat.le_of_ble_eq_true rfl) (xk_i ?_)
    refine x_ifeq (tgt := 30) X dX9_cost_23 (by decide) (fun h23 => ?_) (fun h23 => ?_)
    · skip
      refine x_aload_n X dX9_cost_30 rfl ?_
      refine x_iload_n X dX9_cost_31 rfl ?_
      refine cv_X9_161 X (c_X9_costOf (by omega) ((xgI_n (by decide)).trans hV) hV8) dX9_cost_32 rfl ⟨by decide, by decide, by decide, by decide⟩ rfl rfl (Nat.le_of_ble_eq_true rfl) (xk_l ?_)
      exact x_lret X dX9_cost_35 (xp_l (by first | rfl | simp [*]) (by first | rfl | simp [*]))
    · skip
      exact absurd (by decide) h23
  · skip
    exact absurd ⟨j, hj, rfl⟩ (xB_0.mp h12)

set_option maxHeartbeats 4000000 in
set_option maxRecDepth 100000 in
theorem c_X9_variable {l : Launch} {G : xG} {σ : xS} {x : Int32} {V : Nat} (hV : xgI σ 37 3 = nI V) (hV8 : V ≤ 8) : xFi l G yX9_variable cX9_variable 2 (Option.some Jvm.ClassFile.FieldType.int) 1 22 [.ref (G.2.1 37), .int x] σ (xD (xLt x V) 3) (σ) := by
  refine xM.of (by decide) (Nat.le_of_ble_eq_true rfl) (fun pp ee ss mm aa bel met kk X => ?_)
  have X : xC pp ss mm met kk cX9_variable 2 RX9 (Option.some Jvm.ClassFile.FieldType.int) G := X
  show xW pp l ee { frames := 1, cells := 0, slots := 0, locals := 22 } ss mm aa bel met kk 2 G 0 0 (xQ bel G (fun r t => r = some (.int (xD (xLt x V) 3)) ∧ t = (σ)) aa ss) 0 [(0, .ref (G.2.1 37)), (1, .int x)] [] σ
  refine x_iload_n X dX9_variable_0 rfl ?_
  refine x_iconst (v := nI 0) X dX9_variable_1 (by decide) ?_
  refine x_aload_n X dX9_variable_2 rfl ?_
  refine gf_X9_112 X dX9_variable_3 rfl ?_
  rw [hV]
  refine x_iconst (v := nI 1) X dX9_variable_6 (by decide) ?_
  refine x_isub X dX9_variable_7 ?_
  refine cs_X9_89 X c_X9_in dX9_variable_8 ⟨by decide, by decide, by decide, by decide⟩ rfl rfl (Nat.le_of_ble_eq_true rfl) (xk_i ?_)
  rw [xIn_lt (by omega)]
  refine x_ifeq (tgt := 18) X dX9_variable_11 (by decide) (fun h11 => ?_) (fun h11 => ?_)
  · skip
    refine x_iconst (v := nI 3) X dX9_variable_18 (by decide) ?_
    exact x_iret X dX9_variable_19 (xp_i (by first | exact (xD_f (xB_0.mp h11)).symm | exact (xD_t (Classical.not_not.mp (fun z => h11 (xB_f z)))).symm) (by first | rfl | simp [*]))
  · skip
    refine x_iconst (v := nI 0) X dX9_variable_14 (by decide) ?_
    refine x_goto (tgt := 19) X dX9_variable_15 (by decide) ?_
    exact x_iret X dX9_variable_19 (xp_i (by first | exact (xD_f (xB_0.mp h11)).symm | exact (xD_t (Classical.not_not.mp (fun z => h11 (xB_f z)))).symm) (by first | rfl | simp [*]))

set_option maxHeartbeats 4000000 in
set_option maxRecDepth 100000 in
theorem c_X9_row {l : Launch} {G : xG} {σ : xS} {x : Int32} {nr : Nat} (hr : xgI σ 37 26 = nI nr) (hr2 : nr ≤ 200) : xFi l G yX9_row cX9_row 2 (Option.some Jvm.ClassFile.FieldType.int) 1 22 [.ref (G.2.1 37), .int x] σ (xD (xLt x nr) 4) (σ) := by
  refine xM.of (by decide) (Nat.le_of_ble_eq_true rfl) (fun pp ee ss mm aa bel met kk X => ?_)
  have X : xC pp ss mm met kk cX9_row 2 RX9 (Option.some Jvm.ClassFile.FieldType.int) G := X
  show xW pp l ee { frames := 1, cells := 0, slots := 0, locals := 22 } ss mm aa bel met kk 2 G 0 0 (xQ bel G (fun r t => r = some (.int (xD (xLt x nr) 4)) ∧ t = (σ)) aa ss) 0 [(0, .ref (G.2.1 37)), (1, .int x)] [] σ
  refine x_iload_n X dX9_row_0 rfl ?_
  refine x_iconst (v := nI 0) X dX9_row_1 (by decide) ?_
  refine x_aload_n X dX9_row_2 rfl ?_
  refine gf_X9_145 X dX9_row_3 rfl ?_
  rw [hr]
  refine x_iconst (v := nI 1) X dX9_row_6 (by decide) ?_
  refine x_isub X dX9_row_7 ?_
  refine cs_X9_89 X c_X9_in dX9_row_8 ⟨by decide, by decide, by decide, by decide⟩ rfl rfl (Nat.le_of_ble_eq_true rfl) (xk_i ?_)
  rw [xIn_lt (by omega)]
  refine x_ifeq (tgt := 18) X dX9_row_11 (by decide) (fun h11 => ?_) (fun h11 => ?_)
  · skip
    refine x_iconst (v := nI 4) X dX9_row_18 (by decide) ?_
    exact x_iret X dX9_row_19 (xp_i (by first | exact (xD_f (xB_0.mp h11)).symm | exact (xD_t (Classical.not_not.mp (fun z => h11 (xB_f z)))).symm) (by first | rfl | simp [*]))
  · skip
    refine x_iconst (v := nI 0) X dX9_row_14 (by decide) ?_
    refine x_goto (tgt := 19) X dX9_row_15 (by decide) ?_
    exact x_iret X dX9_row_19 (xp_i (by first | exact (xD_f (xB_0.mp h11)).symm | exact (xD_t (Classical.not_not.mp (fun z => h11 (xB_f z)))).symm) (by first | rfl | simp [*]))

set_option maxHeartbeats 4000000 in
set_option maxRecDepth 100000 in
theorem c_X9_bounds {l : Launch} {G : xG} {σ : xS} {x a b : Int32} : xFi l G yX9_bounds cX9_bounds 3 (Option.some Jvm.ClassFile.FieldType.int) 1 22 [.int x, .int a, .int b] σ (dBey x a b) (σ) := by
  refine xM.of (by decide) (Nat.le_of_ble_eq_true rfl) (fun pp ee ss mm aa bel met kk X => ?_)
  have X : xC pp ss mm met kk cX9_bounds 3 RX9 (Option.some Jvm.ClassFile.FieldType.int) G := X
  show xW pp l ee { frames := 1, cells := 0, slots := 0, locals := 22 } ss mm aa bel met kk 3 G 0 0 (xQ bel G (fun r t => r = some (.int (dBey x a b)) ∧ t = (σ)) aa ss) 0 [(0, .int x), (1, .int a), (2, .int b)] [] σ
  refine x_iload_n X dX9_bounds_0 rfl ?_
  refine x_iload_n X dX9_bounds_1 rfl ?_
  refine x_iload_n X dX9_bounds_2 rfl ?_
  refine cs_X9_89 X c_X9_in dX9_bounds_3 ⟨by decide, by decide, by decide, by decide⟩ rfl rfl (Nat.le_of_ble_eq_true rfl) (xk_i ?_)
  refine x_ifeq (tgt := 13) X dX9_bounds_6 (by decide) (fun h6 => ?_) (fun h6 => ?_)
  · skip
    refine x_iconst (v := nI 3) X dX9_bounds_13 (by decide) ?_
    exact x_iret X dX9_bounds_14 (xp_i (by first | (rw [dBey, if_pos h6]; rfl) | (rw [dBey, if_neg h6]; rfl)) (by first | rfl | simp [*]))
  · skip
    refine x_iconst (v := nI 0) X dX9_bounds_9 (by decide) ?_
    refine x_goto (tgt := 14) X dX9_bounds_10 (by decide) ?_
    exact x_iret X dX9_bounds_14 (xp_i (by first | (rw [dBey, if_pos h6]; rfl) | (rw [dBey, if_neg h6]; rfl)) (by first | rfl | simp [*]))

set_option maxHeartbeats 4000000 in
set_option maxRecDepth 100000 in
theorem c_X9_of {l : Launch} {G : xG} {σ : xS} {f k : Nat} (hf : xgI σ 37 25 = nI f) (hk : f + k < 1500) : xFi l G yX9_of cX9_of 2 (Option.some Jvm.ClassFile.FieldType.int) 0 0 [.ref (G.2.1 37), .int (nI k)] σ (xgI σ 50 (f + k)) (σ) := by
  refine xM.of (by decide) (Nat.le_of_ble_eq_true rfl) (fun pp ee ss mm aa bel met kk X => ?_)
  have X : xC pp ss mm met kk cX9_of 2 RX9 (Option.some Jvm.ClassFile.FieldType.int) G := X
  show xW pp l ee { frames := 0, cells := 0, slots := 0, locals := 0 } ss mm aa bel met kk 2 G 0 0 (xQ bel G (fun r t => r = some (.int (xgI σ 50 (f + k))) ∧ t = (σ)) aa ss) 0 [(0, .ref (G.2.1 37)), (1, .int (nI k))] [] σ
  refine x_aload_n X dX9_of_0 rfl ?_
  refine gf_X9_46 (k' := 50) X dX9_of_1 rfl rfl ?_
  refine x_aload_n X dX9_of_4 rfl ?_
  refine gf_X9_142 X dX9_of_5 rfl ?_
  rw [hf]
  refine x_iload_n X dX9_of_8 rfl ?_
  refine x_iadd X dX9_of_9 ?_
  rw [nI_add f k]
  refine x_ialdN X dX9_of_10 rfl (by omega) (by omega) ?_
  exact x_iret X dX9_of_11 (xp_i (by first | rfl | simp [*]) (by first | rfl | simp [*]))

set_option maxHeartbeats 4000000 in
set_option maxRecDepth 100000 in
theorem c_X9_length {l : Launch} {G : xG} {σ : xS} {a q k : Nat} (ha : a + 1 < 1500) (hq : xgI σ 50 a = nI q) (hq9 : q < 10) (hk : q = 4 → xgI σ 50 (a + 1) = nI k) : xFi l G yX9_length cX9_length 3 (Option.some Jvm.ClassFile.FieldType.int) 0 0 [.ref (G.2.1 37), .int (nI a)] σ (nI (dL q k)) (σ) := by
  refine xM.of (by decide) (Nat.le_of_ble_eq_true rfl) (fun pp ee ss mm aa bel met kk X => ?_)
  have X : xC pp ss mm met kk cX9_length 3 RX9 (Option.some Jvm.ClassFile.FieldType.int) G := X
  show xW pp l ee { frames := 0, cells := 0, slots := 0, locals := 0 } ss mm aa bel met kk 3 G 0 0 (xQ bel G (fun r t => r = some (.int (nI (dL q k))) ∧ t = (σ)) aa ss) 0 [(0, .ref (G.2.1 37)), (1, .int (nI a))] [] σ
  refine x_aload_n X dX9_length_0 rfl ?_
  refine gf_X9_46 (k' := 50) X dX9_length_1 rfl rfl ?_
  refine x_iload_n X dX9_length_4 rfl ?_
  refine x_ialdN X dX9_length_5 rfl (by omega) (by omega) ?_
  rw [hq]
  refine x_istore_n (lv' := [(2, .int (nI q)), (0, .ref (G.2.1 37)), (1, .int (nI a))]) X dX9_length_6 rfl (by decide) rfl ?_
  refine x_iload_n X dX9_length_7 rfl ?_
  refine x_ifeq (tgt := 27) X dX9_length_8 (by decide) (fun h8 => ?_) (fun h8 => ?_)
  · skip
    rw [xb_eq (x := nI q) (y := 0) (a := q) (b := 0) rfl rfl (by omega) (by omega)] at h8
    refine x_iconst (v := nI 2) X dX9_length_27 (by decide) ?_
    refine x_goto (tgt := 77) X dX9_length_28 (by decide) ?_
    exact x_iret X dX9_length_77 (xp_i (by congr 1; unfold dL; (first | (rw [if_neg (by omega), if_neg (by omega), if_neg (by omega), if_neg (by omega)]; done) | (rw [if_pos (by omega)]; done) | (rw [if_neg (by omega), if_pos (by omega)]; done) | (rw [if_neg (by omega), if_neg (by omega), if_neg (by omega), if_pos (by omega)]; done) | (rw [if_neg (by omega), if_neg (by omega), if_pos (by omega)]; done))) (by first | rfl | simp [*]))
  · skip
    rw [xb_eq (x := nI q) (y := 0) (a := q) (b := 0) rfl rfl (by omega) (by omega)] at h8
    refine x_iload_n X dX9_length_11 rfl ?_
    refine x_iconst (v := nI 1) X dX9_length_12 (by decide) ?_
    refine x_icmpeq (tgt := 27) X dX9_length_13 (by decide) (fun h13 => ?_) (fun h13 => ?_)
    · skip
      rw [xb_eq (x := nI q) (y := nI 1) (a := q) (b := 1) rfl rfl (by omega) (by omega)] at h13
      refine x_iconst (v := nI 2) X dX9_length_27 (by decide) ?_
      refine x_goto (tgt := 77) X dX9_length_28 (by decide) ?_
      exact x_iret X dX9_length_77 (xp_i (by congr 1; unfold dL; (first | (rw [if_neg (by omega), if_neg (by omega), if_neg (by omega), if_neg (by omega)]; done) | (rw [if_pos (by omega)]; done) | (rw [if_neg (by omega), if_pos (by omega)]; done) | (rw [if_neg (by omega), if_neg (by omega), if_neg (by omega), if_pos (by omega)]; done) | (rw [if_neg (by omega), if_neg (by omega), if_pos (by omega)]; done))) (by first | rfl | simp [*]))
    · skip
      rw [xb_eq (x := nI q) (y := nI 1) (a := q) (b := 1) rfl rfl (by omega) (by omega)] at h13
      refine x_iload_n X dX9_length_16 rfl ?_
      refine x_iconst (v := nI 2) X dX9_length_17 (by decide) ?_
      refine x_icmpeq (tgt := 27) X dX9_length_18 (by decide) (fun h18 => ?_) (fun h18 => ?_)
      · skip
        rw [xb_eq (x := nI q) (y := nI 2) (a := q) (b := 2) rfl rfl (by omega) (by omega)] at h18
        refine x_iconst (v := nI 2) X dX9_length_27 (by decide) ?_
        refine x_goto (tgt := 77) X dX9_length_28 (by decide) ?_
        exact x_iret X dX9_length_77 (xp_i (by congr 1; unfold dL; (first | (rw [if_neg (by omega), if_neg (by omega), if_neg (by omega), if_neg (by omega)]; done) | (rw [if_pos (by omega)]; done) | (rw [if_neg (by omega), if_pos (by omega)]; done) | (rw [if_neg (by omega), if_neg (by omega), if_neg (by omega), if_pos (by omega)]; done) | (rw [if_neg (by omega), if_neg (by omega), if_pos (by omega)]; done))) (by first | rfl | simp [*]))
      · skip
        rw [xb_eq (x := nI q) (y := nI 2) (a := q) (b := 2) rfl rfl (by omega) (by omega)] at h18
        refine x_iload_n X dX9_length_21 rfl ?_
        refine x_bipush (v := nI 8) X dX9_length_22 (by decide) ?_
        refine x_icmpne (tgt := 31) X dX9_length_24 (by decide) (fun h24 => ?_) (fun h24 => ?_)
        · skip
          rw [xb_ne (x := nI q) (y := nI 8) (a := q) (b := 8) rfl rfl (by omega) (by omega)] at h24
          refine x_iload_n X dX9_length_31 rfl ?_
          refine x_iconst (v := nI 3) X dX9_length_32 (by decide) ?_
          refine x_icmpeq (tgt := 42) X dX9_length_33 (by decide) (fun h33 => ?_) (fun h33 => ?_)
          · skip
            rw [xb_eq (x := nI q) (y := nI 3) (a := q) (b := 3) rfl rfl (by omega) (by omega)] at h33
            refine x_iconst (v := nI 4) X dX9_length_42 (by decide) ?_
            refine x_goto (tgt := 77) X dX9_length_43 (by decide) ?_
            exact x_iret X dX9_length_77 (xp_i (by congr 1; unfold dL; (first | (rw [if_neg (by omega), if_neg (by omega), if_neg (by omega), if_neg (by omega)]; done) | (rw [if_pos (by omega)]; done) | (rw [if_neg (by omega), if_pos (by omega)]; done) | (rw [if_neg (by omega), if_neg (by omega), if_neg (by omega), if_pos (by omega)]; done) | (rw [if_neg (by omega), if_neg (by omega), if_pos (by omega)]; done))) (by first | rfl | simp [*]))
          · skip
            rw [xb_eq (x := nI q) (y := nI 3) (a := q) (b := 3) rfl rfl (by omega) (by omega)] at h33
            refine x_iload_n X dX9_length_36 rfl ?_
            refine x_bipush (v := nI 6) X dX9_length_37 (by decide) ?_
            refine x_icmpne (tgt := 46) X dX9_length_39 (by decide) (fun h39 => ?_) (fun h39 => ?_)
            · skip
              rw [xb_ne (x := nI q) (y := nI 6) (a := q) (b := 6) rfl rfl (by omega) (by omega)] at h39
              refine x_iload_n X dX9_length_46 rfl ?_
              refine x_iconst (v := nI 4) X dX9_length_47 (by decide) ?_
              refine x_icmpne (tgt := 66) X dX9_length_48 (by decide) (fun h48 => ?_) (fun h48 => ?_)
              · skip
                rw [xb_ne (x := nI q) (y := nI 4) (a := q) (b := 4) rfl rfl (by omega) (by omega)] at h48
                refine x_iload_n X dX9_length_66 rfl ?_
                refine x_bipush (v := nI 7) X dX9_length_67 (by decide) ?_
                refine x_icmpne (tgt := 76) X dX9_length_69 (by decide) (fun h69 => ?_) (fun h69 => ?_)
                · skip
                  rw [xb_ne (x := nI q) (y := nI 7) (a := q) (b := 7) rfl rfl (by omega) (by omega)] at h69
                  refine x_iconst (v := nI 3) X dX9_length_76 (by decide) ?_
                  exact x_iret X dX9_length_77 (xp_i (by congr 1; unfold dL; (first | (rw [if_neg (by omega), if_neg (by omega), if_neg (by omega), if_neg (by omega)]; done) | (rw [if_pos (by omega)]; done) | (rw [if_neg (by omega), if_pos (by omega)]; done) | (rw [if_neg (by omega), if_neg (by omega), if_neg (by omega), if_pos (by omega)]; done) | (rw [if_neg (by omega), if_neg (by omega), if_pos (by omega)]; done))) (by first | rfl | simp [*]))
                · skip
                  rw [xb_ne (x := nI q) (y := nI 7) (a := q) (b := 7) rfl rfl (by omega) (by omega)] at h69
                  refine x_iconst (v := nI 5) X dX9_length_72 (by decide) ?_
                  refine x_goto (tgt := 77) X dX9_length_73 (by decide) ?_
                  exact x_iret X dX9_length_77 (xp_i (by congr 1; unfold dL; (first | (rw [if_neg (by omega), if_neg (by omega), if_neg (by omega), if_neg (by omega)]; done) | (rw [if_pos (by omega)]; done) | (rw [if_neg (by omega), if_pos (by omega)]; done) | (rw [if_neg (by omega), if_neg (by omega), if_neg (by omega), if_pos (by omega)]; done) | (rw [if_neg (by omega), if_neg (by omega), if_pos (by omega)]; done))) (by first | rfl | simp [*]))
              · skip
                rw [xb_ne (x := nI q) (y := nI 4) (a := q) (b := 4) rfl rfl (by omega) (by omega)] at h48
                refine x_iconst (v := nI 2) X dX9_length_51 (by decide) ?_
                refine x_iconst (v := nI 2) X dX9_length_52 (by decide) ?_
                refine x_aload_n X dX9_length_53 rfl ?_
                refine gf_X9_46 (k' := 50) X dX9_length_54 rfl rfl ?_
                refine x_iload_n X dX9_length_57 rfl ?_
                refine x_iconst (v := nI 1) X dX9_length_58 (by decide) ?_
                refine x_iadd X dX9_length_59 ?_
                rw [nI_add a 1]
                refine x_ialdN X dX9_length_60 rfl (by omega) (by omega) ?_
                rw [hk h48]
                refine x_imul X dX9_length_61 ?_
                rw [pk_mul 2 k]
                refine x_iadd X dX9_length_62 ?_
                rw [nI_add 2 (2 * k)]
                refine x_goto (tgt := 77) X dX9_length_63 (by decide) ?_
                exact x_iret X dX9_length_77 (xp_i (by congr 1; unfold dL; (first | (rw [if_neg (by omega), if_neg (by omega), if_neg (by omega), if_neg (by omega)]; done) | (rw [if_pos (by omega)]; done) | (rw [if_neg (by omega), if_pos (by omega)]; done) | (rw [if_neg (by omega), if_neg (by omega), if_neg (by omega), if_pos (by omega)]; done) | (rw [if_neg (by omega), if_neg (by omega), if_pos (by omega)]; done))) (by first | rfl | simp [*]))
            · skip
              rw [xb_ne (x := nI q) (y := nI 6) (a := q) (b := 6) rfl rfl (by omega) (by omega)] at h39
              refine x_iconst (v := nI 4) X dX9_length_42 (by decide) ?_
              refine x_goto (tgt := 77) X dX9_length_43 (by decide) ?_
              exact x_iret X dX9_length_77 (xp_i (by congr 1; unfold dL; (first | (rw [if_neg (by omega), if_neg (by omega), if_neg (by omega), if_neg (by omega)]; done) | (rw [if_pos (by omega)]; done) | (rw [if_neg (by omega), if_pos (by omega)]; done) | (rw [if_neg (by omega), if_neg (by omega), if_neg (by omega), if_pos (by omega)]; done) | (rw [if_neg (by omega), if_neg (by omega), if_pos (by omega)]; done))) (by first | rfl | simp [*]))
        · skip
          rw [xb_ne (x := nI q) (y := nI 8) (a := q) (b := 8) rfl rfl (by omega) (by omega)] at h24
          refine x_iconst (v := nI 2) X dX9_length_27 (by decide) ?_
          refine x_goto (tgt := 77) X dX9_length_28 (by decide) ?_
          exact x_iret X dX9_length_77 (xp_i (by congr 1; unfold dL; (first | (rw [if_neg (by omega), if_neg (by omega), if_neg (by omega), if_neg (by omega)]; done) | (rw [if_pos (by omega)]; done) | (rw [if_neg (by omega), if_pos (by omega)]; done) | (rw [if_neg (by omega), if_neg (by omega), if_neg (by omega), if_pos (by omega)]; done) | (rw [if_neg (by omega), if_neg (by omega), if_pos (by omega)]; done))) (by first | rfl | simp [*]))
