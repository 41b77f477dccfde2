/-! The reference: go and model -/
theorem xt_V {B : xS} {t : Nat → Int32} {z k : Nat} (h : xgI B 38 = t) : xgI (bV B t z k) 38 = t := (funext (fun b => bV_o b (by omega) k)).trans h
theorem xt_F {B : xS} {t : Nat → Int32} {z k i : Nat} {s : Nat × Bool} (h : xgI B 38 = t) : xgI (bF B t z k s i) 38 = t := (funext (fun b => bF_o b (by omega) i)).trans h
theorem xt_R {B : xS} {t : Nat → Int32} {z V k : Nat} {s : Nat × Bool} (h : xgI B 38 = t) : xgI (bR B t z V s k) 38 = t := (funext (fun b => bR_o b (by omega) k)).trans h
theorem xt_P {B : xS} {t : Nat → Int32} {z k i : Nat} {s : Nat × Bool} (h : xgI B 38 = t) : xgI (bP B t z k s i) 38 = t := (funext (fun b => bP_o b (by omega) i)).trans h
theorem xt_T {B : xS} {t : Nat → Int32} {z V k : Nat} {s : Nat × Bool} (h : xgI B 38 = t) : xgI (bT B t z V s k) 38 = t := (funext (fun b => bT_o b (by omega) k)).trans h
theorem xt_I {B : xS} {t : Nat → Int32} {k j : Nat} {v : Int32} (h : xgI B 38 = t) (hk : k ≠ 38) : xgI (xsI B k j v) 38 = t := (funext (fun b => xgI_n (by omega))).trans h
theorem aIt_s {f : Nat × Bool → Nat × Bool} {s : Nat × Bool} {k : Nat} : aIt f (k + 1) s = f (aIt f k s) := rfl
theorem bT_s {B : xS} {t : Nat → Int32} {z V : Nat} {s0 : Nat × Bool} {k : Nat} : bT B t z V s0 (k + 1) = bP (xsI (xsI (xsI (bT B t z V s0 k) 44 k (tA t z V (aIt (tS t z V) k s0))) 45 k (tB t z V (aIt (tS t z V) k s0))) 46 k (nI (tN t z V (aIt (tS t z V) k s0)))) t z k (tD t z V (aIt (tS t z V) k s0)) (tN t z V (aIt (tS t z V) k s0)) := rfl
theorem tC_p {t : Nat → Int32} {z V : Nat} {s : Nat × Bool} (h : (tP t z V s).2 = true ∨ ¬ tA t z V s = tB t z V s) : tC t z V s = tP t z V s := by
  unfold tC
  by_cases e : (tP t z V s).2 = true
  · rw [if_pos e]
  · rw [if_neg e, if_neg (h.resolve_left e)]
theorem tC_t {t : Nat → Int32} {z V : Nat} {s : Nat × Bool} (h : ¬ (tP t z V s).2 = true) (h2 : tA t z V s = tB t z V s) : tC t z V s = ((tP t z V s).1 - 1, true) := by
  unfold tC
  rw [if_neg h, if_pos h2]

set_option maxHeartbeats 4000000 in
set_option maxRecDepth 100000 in
theorem s_go403N {l : Launch} {G : xG} {pp : Program} {ee : Env} {ss : State} {mm : MethodId} {aa : Array Value} {bel : List Frame} {met : Method} {kk : Code} (X : xC pp ss mm met kk cX9_go 11 RX9 (Option.none : Option Jvm.ClassFile.FieldType) G) {σ : xS} {t : Nat → Int32} {z : Nat} (ht : xgI σ 38 = t) (hz : xgI σ 37 2 = nI z) (hz2 : z ≤ 1000) (hk : xgI σ 37 39 = 0) {V N M : Nat} (hVd : V = gV t z) (hNd : N = gN t z) (hMd : M = gM t z) : xW pp l ee { frames := 2, cells := 0, slots := 0, locals := 44 } ss mm aa bel met kk 11 G 0 0 (xQ bel G (fun rv_ tv_ => rv_ = none ∧ tv_ = (qR σ (g7 t z))) aa ss) 403 [(3, .int (nI M)), (2, .int (nI N)), (1, .int (nI V)), (0, .ref (G.2.1 37))] [] (qR σ (g6 t z)) := by
  have hV8 : V ≤ 8 := hVd ▸ (gV_n t z).2.2
  have hN20 : N ≤ 20 := hNd ▸ (gN_n t z).2.2
  have hM4 : M ≤ 4 := hMd ▸ (gM_n t z).2.2
  have hg6 := g6_q t z
  refine x_aload_n X dX9_go_403 rfl ?_
  refine gf_X9_96 X dX9_go_404 rfl ?_
  refine x_ifne (tgt := 426) X dX9_go_407 (by decide) (fun h407 => ?_) (fun h407 => ?_)
  · skip
    have e7 : g6 t z = g7 t z := by unfold g7; rw [if_pos (qR_t h407)]
    rw [e7]
    first | (rw [show xsI (qR σ (g6 t z)) 37 38 (nI 1) = qR σ (g7 t z) from qR_e2.trans (by rw [e7])]) | skip
    refine x_aload_n X dX9_go_426 rfl ?_
    refine gf_X9_107 X dX9_go_427 rfl ?_
    rw [(qR_o (by omega) (by omega)).trans hk]
    refine x_ifeq (tgt := 448) X dX9_go_430 (by decide) (fun h430 => ?_) (fun h430 => ?_)
    · skip
      exact x_vret X dX9_go_448 (⟨rfl, by first | rfl | simp [*]⟩)
    · skip
      exact absurd (by decide) h430
  · skip
    have h407b := qR_f h407
    refine x_aload_n X dX9_go_410 rfl ?_
    refine gf_X9_100 X dX9_go_411 rfl ?_
    rw [qR_q]
    refine x_aload_n X dX9_go_414 rfl ?_
    refine gf_X9_93 X dX9_go_415 rfl ?_
    rw [(qR_o (by omega) (by omega)).trans hz]
    refine x_icmpge (tgt := 426) X dX9_go_418 (by decide) (fun h418 => ?_) (fun h418 => ?_)
    · skip
      rw [xb_ge (x := nI (g6 t z).1) (y := nI z) (a := (g6 t z).1) (b := z) rfl rfl (by omega) (by omega)] at h418
      have e7 : g6 t z = g7 t z := by unfold g7; rw [if_neg h407b, if_pos (by omega)]
      rw [e7]
      first | (rw [show xsI (qR σ (g6 t z)) 37 38 (nI 1) = qR σ (g7 t z) from qR_e2.trans (by rw [e7])]) | skip
      refine x_aload_n X dX9_go_426 rfl ?_
      refine gf_X9_107 X dX9_go_427 rfl ?_
      rw [(qR_o (by omega) (by omega)).trans hk]
      refine x_ifeq (tgt := 448) X dX9_go_430 (by decide) (fun h430 => ?_) (fun h430 => ?_)
      · skip
        exact x_vret X dX9_go_448 (⟨rfl, by first | rfl | simp [*]⟩)
      · skip
        exact absurd (by decide) h430
    · skip
      rw [xb_ge (x := nI (g6 t z).1) (y := nI z) (a := (g6 t z).1) (b := z) rfl rfl (by omega) (by omega)] at h418
      have e7 : ((g6 t z).1, true) = g7 t z := by unfold g7; rw [if_neg h407b, if_neg (by omega)]
      refine x_aload_n X dX9_go_421 rfl ?_
      refine x_iconst (v := nI 1) X dX9_go_422 (by decide) ?_
      refine pf_X9_96 X dX9_go_423 rfl (Or.inr rfl) ?_
      first | (rw [show xsI (qR σ (g6 t z)) 37 38 (nI 1) = qR σ (g7 t z) from qR_e2.trans (by rw [e7])]) | skip
      refine x_aload_n X dX9_go_426 rfl ?_
      refine gf_X9_107 X dX9_go_427 rfl ?_
      rw [(qR_o (by omega) (by omega)).trans hk]
      refine x_ifeq (tgt := 448) X dX9_go_430 (by decide) (fun h430 => ?_) (fun h430 => ?_)
      · skip
        exact x_vret X dX9_go_448 (⟨rfl, by first | rfl | simp [*]⟩)
      · skip
        exact absurd (by decide) h430

set_option maxHeartbeats 4000000 in
set_option maxRecDepth 100000 in
theorem s_go198N {l : Launch} {G : xG} {pp : Program} {ee : Env} {ss : State} {mm : MethodId} {aa : Array Value} {bel : List Frame} {met : Method} {kk : Code} (X : xC pp ss mm met kk cX9_go 11 RX9 (Option.none : Option Jvm.ClassFile.FieldType) G) {σ : xS} {t : Nat → Int32} {z : Nat} (ht : xgI σ 38 = t) (hz : xgI σ 37 2 = nI z) (hz2 : z ≤ 1000) (hk : xgI σ 37 39 = 0) {V N M : Nat} (hVd : V = gV t z) (hNd : N = gN t z) (hMd : M = gM t z) : xW pp l ee { frames := 2, cells := 0, slots := 0, locals := 44 } ss mm aa bel met kk 11 G 0 0 (xQ bel G (fun rv_ tv_ => rv_ = none ∧ tv_ = (qR σ (g7 t z))) aa ss) 198 [(2, .int (nI N)), (1, .int (nI V)), (0, .ref (G.2.1 37))] [] (qR σ (g4 t z)) := by
  have hV8 : V ≤ 8 := hVd ▸ (gV_n t z).2.2
  have hN20 : N ≤ 20 := hNd ▸ (gN_n t z).2.2
  have hM4 : M ≤ 4 := hMd ▸ (gM_n t z).2.2
  have hg6 := g6_q t z
  refine x_aload_n X dX9_go_198 rfl ?_
  refine x_iconst (v := nI 0) X dX9_go_199 (by decide) ?_
  refine x_iconst (v := nI 4) X dX9_go_200 (by decide) ?_
  refine cv_X9_103 X (c_X9_nextR ht (g4_q t z) hz hz2) dX9_go_201 rfl ⟨by decide, by decide, by decide, by decide⟩ rfl rfl (Nat.le_of_ble_eq_true rfl) (xk_i ?_)
  rw [show nx t z (g4 t z) (nI 0) (nI 4) = g5 t z from rfl, show nv t z (g4 t z) (nI 0) (nI 4) = nI M from (gM_n t z).1.trans (by rw [hMd])]
  refine x_istore_n (lv' := [(3, .int (nI M)), (2, .int (nI N)), (1, .int (nI V)), (0, .ref (G.2.1 37))]) X dX9_go_204 rfl (by decide) rfl ?_
  refine x_iconst (v := nI 0) X dX9_go_205 (by decide) ?_
  refine x_istore (lv' := [(4, .int (nI 0)), (3, .int (nI M)), (2, .int (nI N)), (1, .int (nI V)), (0, .ref (G.2.1 37))]) X dX9_go_206 (by decide) rfl ?_
  have lp208 : ∀ (NN208 : Nat) (k : Nat) (hk9 : k ≤ M), M - k = NN208 → xW pp l ee { frames := 2, cells := 0, slots := 0, locals := 44 } ss mm aa bel met kk 11 G 0 0 (xQ bel G (fun rv_ tv_ => rv_ = none ∧ tv_ = (qR σ (g7 t z))) aa ss) 208 [(4, .int (nI k)), (3, .int (nI M)), (2, .int (nI N)), (1, .int (nI V)), (0, .ref (G.2.1 37))] [] (qR σ (aIt (tS t z V) k (g5 t z))) := by
    intro NN208
    induction NN208 using Nat.strongRecOn with
    | ind NN208 ih208 =>
      intro k hk9 hNN208
      obtain ⟨s, hs⟩ : ∃ s : Nat × Bool, s = aIt (tS t z V) k (g5 t z) := ⟨_, rfl⟩
      rw [← hs]
      have hsz : s.1 ≤ z := by rw [hs]; exact aIt_le tS_q (g5_q t z) k
      obtain ⟨P, hP⟩ : ∃ P, P = tN t z V s := ⟨_, rfl⟩
      have hP20 : P ≤ 20 := hP ▸ (tN_n t z V s).2.2
      refine x_iload X dX9_go_208 rfl ?_
      refine x_iload_n X dX9_go_210 rfl ?_
      refine x_icmpge (tgt := 403) X dX9_go_211 (by decide) (fun h211 => ?_) (fun h211 => ?_)
      · skip
        rw [xb_ge (x := nI k) (y := nI M) (a := k) (b := M) rfl rfl (by omega) (by omega)] at h211
        have e6 : aIt (tS t z V) k (g5 t z) = g6 t z := by rw [g6, ← hVd, ← hMd, show k = M by omega]
        rw [← hs] at e6
        rw [e6]
        refine x_pick [1, 2, 3, 4] rfl ?_
        exact s_go403N X ht hz hz2 hk hVd hNd hMd
      · skip
        rw [xb_ge (x := nI k) (y := nI M) (a := k) (b := M) rfl rfl (by omega) (by omega)] at h211
        refine x_aload_n X dX9_go_214 rfl ?_
        refine gf_X9_96 X dX9_go_215 rfl ?_
        refine x_ifne (tgt := 403) X dX9_go_218 (by decide) (fun h218 => ?_) (fun h218 => ?_)
        · skip
          have e6 : aIt (tS t z V) k (g5 t z) = g6 t z := by rw [g6, ← hVd, ← hMd]; exact aIt_e tS_b (hs ▸ qR_t h218) (by omega)
          rw [← hs] at e6
          rw [e6]
          refine x_pick [1, 2, 3, 4] rfl ?_
          exact s_go403N X ht hz hz2 hk hVd hNd hMd
        · skip
          refine x_aload_n X dX9_go_221 rfl ?_
          refine x_iconst (v := nI 0) X dX9_go_222 (by decide) ?_
          refine x_iload_n X dX9_go_223 rfl ?_
          refine x_iconst (v := nI 1) X dX9_go_224 (by decide) ?_
          refine x_isub X dX9_go_225 ?_
          refine cv_X9_103 X (c_X9_nextR ht hsz hz hz2) dX9_go_226 rfl ⟨by decide, by decide, by decide, by decide⟩ rfl rfl (Nat.le_of_ble_eq_true rfl) (xk_i ?_)
          rw [show nv t z s (nI 0) (nI V - nI 1) = tA t z V s from rfl]
          refine x_topi (fun fi hfi => ?_)
          refine x_istore (lv' := [(5, .int fi), (4, .int (nI k)), (3, .int (nI M)), (2, .int (nI N)), (1, .int (nI V)), (0, .ref (G.2.1 37))]) X dX9_go_229 (by decide) rfl ?_
          refine x_aload_n X dX9_go_231 rfl ?_
          refine x_iconst (v := nI 0) X dX9_go_232 (by decide) ?_
          refine x_iload_n X dX9_go_233 rfl ?_
          refine x_iconst (v := nI 1) X dX9_go_234 (by decide) ?_
          refine x_isub X dX9_go_235 ?_
          refine cv_X9_103 X (c_X9_nextR ht (aNq hsz) hz hz2) dX9_go_236 rfl ⟨by decide, by decide, by decide, by decide⟩ rfl rfl (Nat.le_of_ble_eq_true rfl) (xk_i ?_)
          rw [show nv t z (nx t z s (nI 0) (nI V - nI 1)) (nI 0) (nI V - nI 1) = tB t z V s from rfl, show nx t z (nx t z s (nI 0) (nI V - nI 1)) (nI 0) (nI V - nI 1) = tP t z V s from rfl]
          refine x_topi (fun se hse => ?_)
          refine x_istore (lv' := [(6, .int se), (5, .int fi), (4, .int (nI k)), (3, .int (nI M)), (2, .int (nI N)), (1, .int (nI V)), (0, .ref (G.2.1 37))]) X dX9_go_239 (by decide) rfl ?_
          refine x_aload_n X dX9_go_241 rfl ?_
          refine gf_X9_96 X dX9_go_242 rfl ?_
          refine x_ifne (tgt := 270) X dX9_go_245 (by decide) (fun h245 => ?_) (fun h245 => ?_)
          · skip
            have hC := tC_p (V := V) (Or.inl (qR_t h245))
            rw [← hC]
            first | (rw [qR_e1]; rw [show (((tP t z V s).1 - 1, ((tP t z V s).1, true).2) : Nat × Bool) = tC t z V s from hC.symm]) | skip
            refine x_aload_n X dX9_go_270 rfl ?_
            refine x_iconst (v := nI 1) X dX9_go_271 (by decide) ?_
            refine x_bipush (v := nI 20) X dX9_go_272 (by decide) ?_
            refine cv_X9_103 X (c_X9_nextR ht (tC_q s hsz) hz hz2) dX9_go_274 rfl ⟨by decide, by decide, by decide, by decide⟩ rfl rfl (Nat.le_of_ble_eq_true rfl) (xk_i ?_)
            rw [show nx t z (tC t z V s) (nI 1) (nI 20) = tD t z V s from rfl, show nv t z (tC t z V s) (nI 1) (nI 20) = nI P from (tN_n t z V s).1.trans (by rw [hP])]
            refine x_istore (lv' := [(7, .int (nI P)), (6, .int se), (5, .int fi), (4, .int (nI k)), (3, .int (nI M)), (2, .int (nI N)), (1, .int (nI V)), (0, .ref (G.2.1 37))]) X dX9_go_277 (by decide) rfl ?_
            refine x_aload_n X dX9_go_279 rfl ?_
            refine gf_X9_107 X dX9_go_280 rfl ?_
            rw [(qR_o (by omega) (by omega)).trans hk]
            refine x_ifeq (tgt := 313) X dX9_go_283 (by decide) (fun h283 => ?_) (fun h283 => ?_)
            · skip
              refine x_iconst (v := nI 0) X dX9_go_313 (by decide) ?_
              refine x_istore (lv' := [(8, .int (nI 0)), (7, .int (nI P)), (6, .int se), (5, .int fi), (4, .int (nI k)), (3, .int (nI M)), (2, .int (nI N)), (1, .int (nI V)), (0, .ref (G.2.1 37))]) X dX9_go_314 (by decide) rfl ?_
              have lp316 : ∀ (NN316 : Nat) (i : Nat) (hi9 : i ≤ P), P - i = NN316 → xW pp l ee { frames := 2, cells := 0, slots := 0, locals := 44 } ss mm aa bel met kk 11 G 0 0 (xQ bel G (fun rv_ tv_ => rv_ = none ∧ tv_ = (qR σ (g7 t z))) aa ss) 316 [(8, .int (nI i)), (7, .int (nI P)), (4, .int (nI k)), (3, .int (nI M)), (2, .int (nI N)), (1, .int (nI V)), (0, .ref (G.2.1 37))] [] (qR σ (aIt (pS t z) i (tD t z V s))) := by
                intro NN316
                induction NN316 using Nat.strongRecOn with
                | ind NN316 ih316 =>
                  intro i hi9 hNN316
                  refine x_iload X dX9_go_316 rfl ?_
                  refine x_iload X dX9_go_318 rfl ?_
                  refine x_icmpge (tgt := 397) X dX9_go_320 (by decide) (fun h320 => ?_) (fun h320 => ?_)
                  · skip
                    rw [xb_ge (x := nI i) (y := nI P) (a := i) (b := P) rfl rfl (by omega) (by omega)] at h320
                    have eT : aIt (pS t z) i (tD t z V s) = aIt (tS t z V) (k + 1) (g5 t z) := by rw [aIt_s, ← hs, tS, ← hP, show i = P by omega]
                    rw [eT]
                    refine x_iinc (k := 2) (v := nI (k + 1)) (lv' := [(4, .int (nI (k + 1))), (8, .int (nI i)), (7, .int (nI P)), (3, .int (nI M)), (2, .int (nI N)), (1, .int (nI V)), (0, .ref (G.2.1 37))]) X dX9_go_397 rfl (xn_inc _) (by decide) rfl ?_
                    refine x_goto (tgt := 208) X dX9_go_400 (by decide) ?_
                    refine x_pick [0, 3, 4, 5, 6] rfl ?_
                    exact ih208 _ (by omega) (k + 1) (by omega) rfl
                  · skip
                    rw [xb_ge (x := nI i) (y := nI P) (a := i) (b := P) rfl rfl (by omega) (by omega)] at h320
                    refine x_aload_n X dX9_go_323 rfl ?_
                    refine gf_X9_96 X dX9_go_324 rfl ?_
                    refine x_ifne (tgt := 397) X dX9_go_327 (by decide) (fun h327 => ?_) (fun h327 => ?_)
                    · skip
                      have eT : aIt (pS t z) i (tD t z V s) = aIt (tS t z V) (k + 1) (g5 t z) := by rw [aIt_s, ← hs, tS, ← hP]; exact aIt_e pS_b (qR_t h327) (by omega)
                      rw [eT]
                      refine x_iinc (k := 2) (v := nI (k + 1)) (lv' := [(4, .int (nI (k + 1))), (8, .int (nI i)), (7, .int (nI P)), (3, .int (nI M)), (2, .int (nI N)), (1, .int (nI V)), (0, .ref (G.2.1 37))]) X dX9_go_397 rfl (xn_inc _) (by decide) rfl ?_
                      refine x_goto (tgt := 208) X dX9_go_400 (by decide) ?_
                      refine x_pick [0, 3, 4, 5, 6] rfl ?_
                      exact ih208 _ (by omega) (k + 1) (by omega) rfl
                    · skip
                      refine x_aload_n X dX9_go_330 rfl ?_
                      refine x_sipush (v := (-1000)) X dX9_go_331 (by decide) ?_
                      refine x_sipush (v := nI 1000) X dX9_go_334 (by decide) ?_
                      refine cv_X9_103 X (c_X9_nextR ht (aIt_le pS_q (aNq (tC_q s hsz)) i) hz hz2) dX9_go_337 rfl ⟨by decide, by decide, by decide, by decide⟩ rfl rfl (Nat.le_of_ble_eq_true rfl) (xk_i ?_)
                      refine x_topi (fun px hpx => ?_)
                      refine x_istore (lv' := [(9, .int px), (8, .int (nI i)), (7, .int (nI P)), (4, .int (nI k)), (3, .int (nI M)), (2, .int (nI N)), (1, .int (nI V)), (0, .ref (G.2.1 37))]) X dX9_go_340 (by decide) rfl ?_
                      refine x_aload_n X dX9_go_342 rfl ?_
                      refine x_sipush (v := (-1000)) X dX9_go_343 (by decide) ?_
                      refine x_sipush (v := nI 1000) X dX9_go_346 (by decide) ?_
                      refine cv_X9_103 X (c_X9_nextR ht (aNq (aIt_le pS_q (aNq (tC_q s hsz)) i)) hz hz2) dX9_go_349 rfl ⟨by decide, by decide, by decide, by decide⟩ rfl rfl (Nat.le_of_ble_eq_true rfl) (xk_i ?_)
                      refine x_topi (fun py hpy => ?_)
                      refine x_istore (lv' := [(10, .int py), (9, .int px), (8, .int (nI i)), (7, .int (nI P)), (4, .int (nI k)), (3, .int (nI M)), (2, .int (nI N)), (1, .int (nI V)), (0, .ref (G.2.1 37))]) X dX9_go_352 (by decide) rfl ?_
                      refine x_aload_n X dX9_go_354 rfl ?_
                      refine gf_X9_107 X dX9_go_355 rfl ?_
                      rw [(qR_o (by omega) (by omega)).trans hk]
                      refine x_ifeq (tgt := 391) X dX9_go_358 (by decide) (fun h358 => ?_) (fun h358 => ?_)
                      · skip
                        refine x_iinc (k := 2) (v := nI (i + 1)) (lv' := [(8, .int (nI (i + 1))), (10, .int py), (9, .int px), (7, .int (nI P)), (4, .int (nI k)), (3, .int (nI M)), (2, .int (nI N)), (1, .int (nI V)), (0, .ref (G.2.1 37))]) X dX9_go_391 rfl (xn_inc _) (by decide) rfl ?_
                        refine x_goto (tgt := 316) X dX9_go_394 (by decide) ?_
                        subst hpx
                        subst hpy
                        refine x_pick [0, 3, 4, 5, 6, 7, 8] rfl ?_
                        exact ih316 _ (by omega) (i + 1) (by omega) rfl
                      · skip
                        exact absurd (by decide) h358
              refine x_pick [0, 1, 4, 5, 6, 7, 8] rfl ?_
              exact lp316 _ 0 (by omega) rfl
            · skip
              exact absurd (by decide) h283
          · skip
            have h245b := qR_f h245
            refine x_iload X dX9_go_248 rfl ?_
            refine x_iload X dX9_go_250 rfl ?_
            refine x_icmpne (tgt := 270) X dX9_go_252 (by decide) (fun h252 => ?_) (fun h252 => ?_)
            · skip
              have hC := tC_p (t := t) (z := z) (V := V) (s := s) (Or.inr (fun q => h252 (hfi.trans (q.trans hse.symm))))
              rw [← hC]
              first | (rw [qR_e1]; rw [show (((tP t z V s).1 - 1, ((tP t z V s).1, true).2) : Nat × Bool) = tC t z V s from hC.symm]) | skip
              refine x_aload_n X dX9_go_270 rfl ?_
              refine x_iconst (v := nI 1) X dX9_go_271 (by decide) ?_
              refine x_bipush (v := nI 20) X dX9_go_272 (by decide) ?_
              refine cv_X9_103 X (c_X9_nextR ht (tC_q s hsz) hz hz2) dX9_go_274 rfl ⟨by decide, by decide, by decide, by decide⟩ rfl rfl (Nat.le_of_ble_eq_true rfl) (xk_i ?_)
              rw [show nx t z (tC t z V s) (nI 1) (nI 20) = tD t z V s from rfl, show nv t z (tC t z V s) (nI 1) (nI 20) = nI P from (tN_n t z V s).1.trans (by rw [hP])]
              refine x_istore (lv' := [(7, .int (nI P)), (6, .int se), (5, .int fi), (4, .int (nI k)), (3, .int (nI M)), (2, .int (nI N)), (1, .int (nI V)), (0, .ref (G.2.1 37))]) X dX9_go_277 (by decide) rfl ?_
              refine x_aload_n X dX9_go_279 rfl ?_
              refine gf_X9_107 X dX9_go_280 rfl ?_
              rw [(qR_o (by omega) (by omega)).trans hk]
              refine x_ifeq (tgt := 313) X dX9_go_283 (by decide) (fun h283 => ?_) (fun h283 => ?_)
              · skip
                refine x_iconst (v := nI 0) X dX9_go_313 (by decide) ?_
                refine x_istore (lv' := [(8, .int (nI 0)), (7, .int (nI P)), (6, .int se), (5, .int fi), (4, .int (nI k)), (3, .int (nI M)), (2, .int (nI N)), (1, .int (nI V)), (0, .ref (G.2.1 37))]) X dX9_go_314 (by decide) rfl ?_
                have lp316 : ∀ (NN316 : Nat) (i : Nat) (hi9 : i ≤ P), P - i = NN316 → xW pp l ee { frames := 2, cells := 0, slots := 0, locals := 44 } ss mm aa bel met kk 11 G 0 0 (xQ bel G (fun rv_ tv_ => rv_ = none ∧ tv_ = (qR σ (g7 t z))) aa ss) 316 [(8, .int (nI i)), (7, .int (nI P)), (4, .int (nI k)), (3, .int (nI M)), (2, .int (nI N)), (1, .int (nI V)), (0, .ref (G.2.1 37))] [] (qR σ (aIt (pS t z) i (tD t z V s))) := by
                  intro NN316
                  induction NN316 using Nat.strongRecOn with
                  | ind NN316 ih316 =>
                    intro i hi9 hNN316
                    refine x_iload X dX9_go_316 rfl ?_
                    refine x_iload X dX9_go_318 rfl ?_
                    refine x_icmpge (tgt := 397) X dX9_go_320 (by decide) (fun h320 => ?_) (fun h320 => ?_)
                    · skip
                      rw [xb_ge (x := nI i) (y := nI P) (a := i) (b := P) rfl rfl (by omega) (by omega)] at h320
                      have eT : aIt (pS t z) i (tD t z V s) = aIt (tS t z V) (k + 1) (g5 t z) := by rw [aIt_s, ← hs, tS, ← hP, show i = P by omega]
                      rw [eT]
                      refine x_iinc (k := 2) (v := nI (k + 1)) (lv' := [(4, .int (nI (k + 1))), (8, .int (nI i)), (7, .int (nI P)), (3, .int (nI M)), (2, .int (nI N)), (1, .int (nI V)), (0, .ref (G.2.1 37))]) X dX9_go_397 rfl (xn_inc _) (by decide) rfl ?_
                      refine x_goto (tgt := 208) X dX9_go_400 (by decide) ?_
                      refine x_pick [0, 3, 4, 5, 6] rfl ?_
                      exact ih208 _ (by omega) (k + 1) (by omega) rfl
                    · skip
                      rw [xb_ge (x := nI i) (y := nI P) (a := i) (b := P) rfl rfl (by omega) (by omega)] at h320
                      refine x_aload_n X dX9_go_323 rfl ?_
                      refine gf_X9_96 X dX9_go_324 rfl ?_
                      refine x_ifne (tgt := 397) X dX9_go_327 (by decide) (fun h327 => ?_) (fun h327 => ?_)
                      · skip
                        have eT : aIt (pS t z) i (tD t z V s) = aIt (tS t z V) (k + 1) (g5 t z) := by rw [aIt_s, ← hs, tS, ← hP]; exact aIt_e pS_b (qR_t h327) (by omega)
                        rw [eT]
                        refine x_iinc (k := 2) (v := nI (k + 1)) (lv' := [(4, .int (nI (k + 1))), (8, .int (nI i)), (7, .int (nI P)), (3, .int (nI M)), (2, .int (nI N)), (1, .int (nI V)), (0, .ref (G.2.1 37))]) X dX9_go_397 rfl (xn_inc _) (by decide) rfl ?_
                        refine x_goto (tgt := 208) X dX9_go_400 (by decide) ?_
                        refine x_pick [0, 3, 4, 5, 6] rfl ?_
                        exact ih208 _ (by omega) (k + 1) (by omega) rfl
                      · skip
                        refine x_aload_n X dX9_go_330 rfl ?_
                        refine x_sipush (v := (-1000)) X dX9_go_331 (by decide) ?_
                        refine x_sipush (v := nI 1000) X dX9_go_334 (by decide) ?_
                        refine cv_X9_103 X (c_X9_nextR ht (aIt_le pS_q (aNq (tC_q s hsz)) i) hz hz2) dX9_go_337 rfl ⟨by decide, by decide, by decide, by decide⟩ rfl rfl (Nat.le_of_ble_eq_true rfl) (xk_i ?_)
                        refine x_topi (fun px hpx => ?_)
                        refine x_istore (lv' := [(9, .int px), (8, .int (nI i)), (7, .int (nI P)), (4, .int (nI k)), (3, .int (nI M)), (2, .int (nI N)), (1, .int (nI V)), (0, .ref (G.2.1 37))]) X dX9_go_340 (by decide) rfl ?_
                        refine x_aload_n X dX9_go_342 rfl ?_
                        refine x_sipush (v := (-1000)) X dX9_go_343 (by decide) ?_
                        refine x_sipush (v := nI 1000) X dX9_go_346 (by decide) ?_
                        refine cv_X9_103 X (c_X9_nextR ht (aNq (aIt_le pS_q (aNq (tC_q s hsz)) i)) hz hz2) dX9_go_349 rfl ⟨by decide, by decide, by decide, by decide⟩ rfl rfl (Nat.le_of_ble_eq_true rfl) (xk_i ?_)
                        refine x_topi (fun py hpy => ?_)
                        refine x_istore (lv' := [(10, .int py), (9, .int px), (8, .int (nI i)), (7, .int (nI P)), (4, .int (nI k)), (3, .int (nI M)), (2, .int (nI N)), (1, .int (nI V)), (0, .ref (G.2.1 37))]) X dX9_go_352 (by decide) rfl ?_
                        refine x_aload_n X dX9_go_354 rfl ?_
                        refine gf_X9_107 X dX9_go_355 rfl ?_
                        rw [(qR_o (by omega) (by omega)).trans hk]
                        refine x_ifeq (tgt := 391) X dX9_go_358 (by decide) (fun h358 => ?_) (fun h358 => ?_)
                        · skip
                          refine x_iinc (k := 2) (v := nI (i + 1)) (lv' := [(8, .int (nI (i + 1))), (10, .int py), (9, .int px), (7, .int (nI P)), (4, .int (nI k)), (3, .int (nI M)), (2, .int (nI N)), (1, .int (nI V)), (0, .ref (G.2.1 37))]) X dX9_go_391 rfl (xn_inc _) (by decide) rfl ?_
                          refine x_goto (tgt := 316) X dX9_go_394 (by decide) ?_
                          subst hpx
                          subst hpy
                          refine x_pick [0, 3, 4, 5, 6, 7, 8] rfl ?_
                          exact ih316 _ (by omega) (i + 1) (by omega) rfl
                        · skip
                          exact absurd (by decide) h358
                refine x_pick [0, 1, 4, 5, 6, 7, 8] rfl ?_
                exact lp316 _ 0 (by omega) rfl
              · skip
                exact absurd (by decide) h283
            · skip
              have hC := tC_t (V := V) h245b (hfi.symm.trans (h252.trans hse))
              have hp1 := tP_1 h245b
              refine x_aload_n X dX9_go_255 rfl ?_
              refine x_iconst (v := nI 1) X dX9_go_256 (by decide) ?_
              refine pf_X9_96 X dX9_go_257 rfl (Or.inr rfl) ?_
              rw [show xsI (qR σ (tP t z V s)) 37 38 (nI 1) = qR σ ((tP t z V s).1, true) from qR_e2]
              refine x_aload_n X dX9_go_260 rfl ?_
              refine x_dup X dX9_go_261 rfl ?_
              refine gf_X9_100 X dX9_go_262 rfl ?_
              rw [qR_q]
              refine x_iconst (v := nI 1) X dX9_go_265 (by decide) ?_
              refine x_isub X dX9_go_266 ?_
              rw [pk_sub (a := (tP t z V s).1) (b := 1) (by omega)]
              refine pf_X9_100 X dX9_go_267 rfl ?_
              first | (rw [qR_e1]; rw [show (((tP t z V s).1 - 1, ((tP t z V s).1, true).2) : Nat × Bool) = tC t z V s from hC.symm]) | skip
              refine x_aload_n X dX9_go_270 rfl ?_
              refine x_iconst (v := nI 1) X dX9_go_271 (by decide) ?_
              refine x_bipush (v := nI 20) X dX9_go_272 (by decide) ?_
              refine cv_X9_103 X (c_X9_nextR ht (tC_q s hsz) hz hz2) dX9_go_274 rfl ⟨by decide, by decide, by decide, by decide⟩ rfl rfl (Nat.le_of_ble_eq_true rfl) (xk_i ?_)
              rw [show nx t z (tC t z V s) (nI 1) (nI 20) = tD t z V s from rfl, show nv t z (tC t z V s) (nI 1) (nI 20) = nI P from (tN_n t z V s).1.trans (by rw [hP])]
              refine x_istore (lv' := [(7, .int (nI P)), (6, .int se), (5, .int fi), (4, .int (nI k)), (3, .int (nI M)), (2, .int (nI N)), (1, .int (nI V)), (0, .ref (G.2.1 37))]) X dX9_go_277 (by decide) rfl ?_
              refine x_aload_n X dX9_go_279 rfl ?_
              refine gf_X9_107 X dX9_go_280 rfl ?_
              rw [(qR_o (by omega) (by omega)).trans hk]
              refine x_ifeq (tgt := 313) X dX9_go_283 (by decide) (fun h283 => ?_) (fun h283 => ?_)
              · skip
                refine x_iconst (v := nI 0) X dX9_go_313 (by decide) ?_
                refine x_istore (lv' := [(8, .int (nI 0)), (7, .int (nI P)), (6, .int se), (5, .int fi), (4, .int (nI k)), (3, .int (nI M)), (2, .int (nI N)), (1, .int (nI V)), (0, .ref (G.2.1 37))]) X dX9_go_314 (by decide) rfl ?_
                have lp316 : ∀ (NN316 : Nat) (i : Nat) (hi9 : i ≤ P), P - i = NN316 → xW pp l ee { frames := 2, cells := 0, slots := 0, locals := 44 } ss mm aa bel met kk 11 G 0 0 (xQ bel G (fun rv_ tv_ => rv_ = none ∧ tv_ = (qR σ (g7 t z))) aa ss) 316 [(8, .int (nI i)), (7, .int (nI P)), (4, .int (nI k)), (3, .int (nI M)), (2, .int (nI N)), (1, .int (nI V)), (0, .ref (G.2.1 37))] [] (qR σ (aIt (pS t z) i (tD t z V s))) := by
                  intro NN316
                  induction NN316 using Nat.strongRecOn with
                  | ind NN316 ih316 =>
                    intro i hi9 hNN316
                    refine x_iload X dX9_go_316 rfl ?_
                    refine x_iload X dX9_go_318 rfl ?_
                    refine x_icmpge (tgt := 397) X dX9_go_320 (by decide) (fun h320 => ?_) (fun h320 => ?_)
                    · skip
                      rw [xb_ge (x := nI i) (y := nI P) (a := i) (b := P) rfl rfl (by omega) (by omega)] at h320
                      have eT : aIt (pS t z) i (tD t z V s) = aIt (tS t z V) (k + 1) (g5 t z) := by rw [aIt_s, ← hs, tS, ← hP, show i = P by omega]
                      rw [eT]
                      refine x_iinc (k := 2) (v := nI (k + 1)) (lv' := [(4, .int (nI (k + 1))), (8, .int (nI i)), (7, .int (nI P)), (3, .int (nI M)), (2, .int (nI N)), (1, .int (nI V)), (0, .ref (G.2.1 37))]) X dX9_go_397 rfl (xn_inc _) (by decide) rfl ?_
                      refine x_goto (tgt := 208) X dX9_go_400 (by decide) ?_
                      refine x_pick [0, 3, 4, 5, 6] rfl ?_
                      exact ih208 _ (by omega) (k + 1) (by omega) rfl
                    · skip
                      rw [xb_ge (x := nI i) (y := nI P) (a := i) (b := P) rfl rfl (by omega) (by omega)] at h320
                      refine x_aload_n X dX9_go_323 rfl ?_
                      refine gf_X9_96 X dX9_go_324 rfl ?_
                      refine x_ifne (tgt := 397) X dX9_go_327 (by decide) (fun h327 => ?_) (fun h327 => ?_)
                      · skip
                        have eT : aIt (pS t z) i (tD t z V s) = aIt (tS t z V) (k + 1) (g5 t z) := by rw [aIt_s, ← hs, tS, ← hP]; exact aIt_e pS_b (qR_t h327) (by omega)
                        rw [eT]
                        refine x_iinc (k := 2) (v := nI (k + 1)) (lv' := [(4, .int (nI (k + 1))), (8, .int (nI i)), (7, .int (nI P)), (3, .int (nI M)), (2, .int (nI N)), (1, .int (nI V)), (0, .ref (G.2.1 37))]) X dX9_go_397 rfl (xn_inc _) (by decide) rfl ?_
                        refine x_goto (tgt := 208) X dX9_go_400 (by decide) ?_
                        refine x_pick [0, 3, 4, 5, 6] rfl ?_
                        exact ih208 _ (by omega) (k + 1) (by omega) rfl
                      · skip
                        refine x_aload_n X dX9_go_330 rfl ?_
                        refine x_sipush (v := (-1000)) X dX9_go_331 (by decide) ?_
                        refine x_sipush (v := nI 1000) X dX9_go_334 (by decide) ?_
                        refine cv_X9_103 X (c_X9_nextR ht (aIt_le pS_q (aNq (tC_q s hsz)) i) hz hz2) dX9_go_337 rfl ⟨by decide, by decide, by decide, by decide⟩ rfl rfl (Nat.le_of_ble_eq_true rfl) (xk_i ?_)
                        refine x_topi (fun px hpx => ?_)
                        refine x_istore (lv' := [(9, .int px), (8, .int (nI i)), (7, .int (nI P)), (4, .int (nI k)), (3, .int (nI M)), (2, .int (nI N)), (1, .int (nI V)), (0, .ref (G.2.1 37))]) X dX9_go_340 (by decide) rfl ?_
                        refine x_aload_n X dX9_go_342 rfl ?_
                        refine x_sipush (v := (-1000)) X dX9_go_343 (by decide) ?_
                        refine x_sipush (v := nI 1000) X dX9_go_346 (by decide) ?_
                        refine cv_X9_103 X (c_X9_nextR ht (aNq (aIt_le pS_q (aNq (tC_q s hsz)) i)) hz hz2) dX9_go_349 rfl ⟨by decide, by decide, by decide, by decide⟩ rfl rfl (Nat.le_of_ble_eq_true rfl) (xk_i ?_)
                        refine x_topi (fun py hpy => ?_)
                        refine x_istore (lv' := [(10, .int py), (9, .int px), (8, .int (nI i)), (7, .int (nI P)), (4, .int (nI k)), (3, .int (nI M)), (2, .int (nI N)), (1, .int (nI V)), (0, .ref (G.2.1 37))]) X dX9_go_352 (by decide) rfl ?_
                        refine x_aload_n X dX9_go_354 rfl ?_
                        refine gf_X9_107 X dX9_go_355 rfl ?_
                        rw [(qR_o (by omega) (by omega)).trans hk]
                        refine x_ifeq (tgt := 391) X dX9_go_358 (by decide) (fun h358 => ?_) (fun h358 => ?_)
                        · skip
                          refine x_iinc (k := 2) (v := nI (i + 1)) (lv' := [(8, .int (nI (i + 1))), (10, .int py), (9, .int px), (7, .int (nI P)), (4, .int (nI k)), (3, .int (nI M)), (2, .int (nI N)), (1, .int (nI V)), (0, .ref (G.2.1 37))]) X dX9_go_391 rfl (xn_inc _) (by decide) rfl ?_
                          refine x_goto (tgt := 316) X dX9_go_394 (by decide) ?_
                          subst hpx
                          subst hpy
                          refine x_pick [0, 3, 4, 5, 6, 7, 8] rfl ?_
                          exact ih316 _ (by omega) (i + 1) (by omega) rfl
                        · skip
                          exact absurd (by decide) h358
                refine x_pick [0, 1, 4, 5, 6, 7, 8] rfl ?_
                exact lp316 _ 0 (by omega) rfl
              · skip
                exact absurd (by decide) h283
  refine x_pick [0, 1, 2, 3, 4] rfl ?_
  exact lp208 _ 0 (by omega) rfl

set_option maxHeartbeats 4000000 in
set_option maxRecDepth 100000 in
theorem s_go99N {l : Launch} {G : xG} {pp : Program} {ee : Env} {ss : State} {mm : MethodId} {aa : Array Value} {bel : List Frame} {met : Method} {kk : Code} (X : xC pp ss mm met kk cX9_go 11 RX9 (Option.none : Option Jvm.ClassFile.FieldType) G) {σ : xS} {t : Nat → Int32} {z : Nat} (ht : xgI σ 38 = t) (hz : xgI σ 37 2 = nI z) (hz2 : z ≤ 1000) (hk : xgI σ 37 39 = 0) {V N M : Nat} (hVd : V = gV t z) (hNd : N = gN t z) (hMd : M = gM t z) : xW pp l ee { frames := 2, cells := 0, slots := 0, locals := 44 } ss mm aa bel met kk 11 G 0 0 (xQ bel G (fun rv_ tv_ => rv_ = none ∧ tv_ = (qR σ (g7 t z))) aa ss) 99 [(1, .int (nI V)), (0, .ref (G.2.1 37))] [] (qR σ (g2 t z)) := by
  have hV8 : V ≤ 8 := hVd ▸ (gV_n t z).2.2
  have hN20 : N ≤ 20 := hNd ▸ (gN_n t z).2.2
  have hM4 : M ≤ 4 := hMd ▸ (gM_n t z).2.2
  have hg6 := g6_q t z
  refine x_aload_n X dX9_go_99 rfl ?_
  refine x_iconst (v := nI 0) X dX9_go_100 (by decide) ?_
  refine x_bipush (v := nI 20) X dX9_go_101 (by decide) ?_
  refine cv_X9_103 X (c_X9_nextR ht (g2_q t z) hz hz2) dX9_go_103 rfl ⟨by decide, by decide, by decide, by decide⟩ rfl rfl (Nat.le_of_ble_eq_true rfl) (xk_i ?_)
  rw [show nx t z (g2 t z) (nI 0) (nI 20) = g3 t z from rfl, show nv t z (g2 t z) (nI 0) (nI 20) = nI N from (gN_n t z).1.trans (by rw [hNd])]
  refine x_istore_n (lv' := [(2, .int (nI N)), (1, .int (nI V)), (0, .ref (G.2.1 37))]) X dX9_go_106 rfl (by decide) rfl ?_
  refine x_iconst (v := nI 0) X dX9_go_107 (by decide) ?_
  refine x_istore_n (lv' := [(3, .int (nI 0)), (2, .int (nI N)), (1, .int (nI V)), (0, .ref (G.2.1 37))]) X dX9_go_108 rfl (by decide) rfl ?_
  have lp109 : ∀ (NN109 : Nat) (k : Nat) (hk9 : k ≤ N), N - k = NN109 → xW pp l ee { frames := 2, cells := 0, slots := 0, locals := 44 } ss mm aa bel met kk 11 G 0 0 (xQ bel G (fun rv_ tv_ => rv_ = none ∧ tv_ = (qR σ (g7 t z))) aa ss) 109 [(3, .int (nI k)), (2, .int (nI N)), (1, .int (nI V)), (0, .ref (G.2.1 37))] [] (qR σ (aIt (rS t z V) k (g3 t z))) := by
    intro NN109
    induction NN109 using Nat.strongRecOn with
    | ind NN109 ih109 =>
      intro k hk9 hNN109
      obtain ⟨s, hs⟩ : ∃ s : Nat × Bool, s = aIt (rS t z V) k (g3 t z) := ⟨_, rfl⟩
      rw [← hs]
      have hsz : s.1 ≤ z := by rw [hs]; exact aIt_le rS_q (g3_q t z) k
      refine x_iload_n X dX9_go_109 rfl ?_
      refine x_iload_n X dX9_go_110 rfl ?_
      refine x_icmpge (tgt := 198) X dX9_go_111 (by decide) (fun h111 => ?_) (fun h111 => ?_)
      · skip
        rw [xb_ge (x := nI k) (y := nI N) (a := k) (b := N) rfl rfl (by omega) (by omega)] at h111
        have e4 : aIt (rS t z V) k (g3 t z) = g4 t z := by rw [g4, ← hVd, ← hNd, show k = N by omega]
        rw [← hs] at e4
        rw [e4]
        refine x_pick [1, 2, 3] rfl ?_
        exact s_go198N X ht hz hz2 hk hVd hNd hMd
      · skip
        rw [xb_ge (x := nI k) (y := nI N) (a := k) (b := N) rfl rfl (by omega) (by omega)] at h111
        refine x_aload_n X dX9_go_114 rfl ?_
        refine gf_X9_96 X dX9_go_115 rfl ?_
        refine x_ifne (tgt := 198) X dX9_go_118 (by decide) (fun h118 => ?_) (fun h118 => ?_)
        · skip
          have e4 : aIt (rS t z V) k (g3 t z) = g4 t z := by rw [g4, ← hVd, ← hNd]; exact aIt_e rS_b (hs ▸ qR_t h118) (by omega)
          rw [← hs] at e4
          rw [e4]
          refine x_pick [1, 2, 3] rfl ?_
          exact s_go198N X ht hz hz2 hk hVd hNd hMd
        · skip
          refine x_iconst (v := nI 0) X dX9_go_121 (by decide) ?_
          refine x_istore (lv' := [(4, .int (nI 0)), (3, .int (nI k)), (2, .int (nI N)), (1, .int (nI V)), (0, .ref (G.2.1 37))]) X dX9_go_122 (by decide) rfl ?_
          have lp124 : ∀ (NN124 : Nat) (i : Nat) (hi9 : i ≤ V), V - i = NN124 → xW pp l ee { frames := 2, cells := 0, slots := 0, locals := 44 } ss mm aa bel met kk 11 G 0 0 (xQ bel G (fun rv_ tv_ => rv_ = none ∧ tv_ = (qR σ (g7 t z))) aa ss) 124 [(4, .int (nI i)), (3, .int (nI k)), (2, .int (nI N)), (1, .int (nI V)), (0, .ref (G.2.1 37))] [] (qR σ (aIt (fS t z) i s)) := by
            intro NN124
            induction NN124 using Nat.strongRecOn with
            | ind NN124 ih124 =>
              intro i hi9 hNN124
              refine x_iload X dX9_go_124 rfl ?_
              refine x_iload_n X dX9_go_126 rfl ?_
              refine x_icmpge (tgt := 167) X dX9_go_127 (by decide) (fun h127 => ?_) (fun h127 => ?_)
              · skip
                rw [xb_ge (x := nI i) (y := nI V) (a := i) (b := V) rfl rfl (by omega) (by omega)] at h127
                rw [show i = V by omega]
                refine x_aload_n X dX9_go_167 rfl ?_
                refine x_ldc X dX9_go_168 wk_X9_110 ?_
                refine x_ldc X dX9_go_170 wk_X9_111 ?_
                refine cv_X9_103 X (c_X9_nextR ht (aIt_le fS_q hsz V) hz hz2) dX9_go_172 rfl ⟨by decide, by decide, by decide, by decide⟩ rfl rfl (Nat.le_of_ble_eq_true rfl) (xk_i ?_)
                refine x_topi (fun mo hmo => ?_)
                refine x_istore (lv' := [(4, .int mo), (3, .int (nI k)), (2, .int (nI N)), (1, .int (nI V)), (0, .ref (G.2.1 37))]) X dX9_go_175 (by decide) rfl ?_
                refine x_aload_n X dX9_go_177 rfl ?_
                refine gf_X9_107 X dX9_go_178 rfl ?_
                rw [(qR_o (by omega) (by omega)).trans hk]
                refine x_ifeq (tgt := 192) X dX9_go_181 (by decide) (fun h181 => ?_) (fun h181 => ?_)
                · skip
                  refine x_iinc (k := 1) (v := nI (k + 1)) (lv' := [(3, .int (nI (k + 1))), (4, .int mo), (2, .int (nI N)), (1, .int (nI V)), (0, .ref (G.2.1 37))]) X dX9_go_192 rfl (xn_inc _) (by decide) rfl ?_
                  refine x_goto (tgt := 109) X dX9_go_195 (by decide) ?_
                  subst hmo
                  subst hs
                  refine x_pick [0, 2, 3, 4] rfl ?_
                  exact ih109 _ (by omega) (k + 1) (by omega) rfl
                · skip
                  exact absurd (by decide) h181
              · skip
                rw [xb_ge (x := nI i) (y := nI V) (a := i) (b := V) rfl rfl (by omega) (by omega)] at h127
                refine x_aload_n X dX9_go_130 rfl ?_
                refine x_bipush (v := (-100)) X dX9_go_131 (by decide) ?_
                refine x_bipush (v := nI 100) X dX9_go_133 (by decide) ?_
                refine cv_X9_103 X (c_X9_nextR ht (aIt_le fS_q hsz i) hz hz2) dX9_go_135 rfl ⟨by decide, by decide, by decide, by decide⟩ rfl rfl (Nat.le_of_ble_eq_true rfl) (xk_i ?_)
                refine x_topi (fun fc hfc => ?_)
                refine x_istore (lv' := [(5, .int fc), (4, .int (nI i)), (3, .int (nI k)), (2, .int (nI N)), (1, .int (nI V)), (0, .ref (G.2.1 37))]) X dX9_go_138 (by decide) rfl ?_
                refine x_aload_n X dX9_go_140 rfl ?_
                refine gf_X9_107 X dX9_go_141 rfl ?_
                rw [(qR_o (by omega) (by omega)).trans hk]
                refine x_ifeq (tgt := 161) X dX9_go_144 (by decide) (fun h144 => ?_) (fun h144 => ?_)
                · skip
                  refine x_iinc (k := 1) (v := nI (i + 1)) (lv' := [(4, .int (nI (i + 1))), (5, .int fc), (3, .int (nI k)), (2, .int (nI N)), (1, .int (nI V)), (0, .ref (G.2.1 37))]) X dX9_go_161 rfl (xn_inc _) (by decide) rfl ?_
                  refine x_goto (tgt := 124) X dX9_go_164 (by decide) ?_
                  subst hfc
                  refine x_pick [0, 2, 3, 4, 5] rfl ?_
                  exact ih124 _ (by omega) (i + 1) (by omega) rfl
                · skip
                  exact absurd (by decide) h144
          refine x_pick [0, 1, 2, 3, 4] rfl ?_
          exact lp124 _ 0 (by omega) rfl
  refine x_pick [0, 1, 2, 3] rfl ?_
  exact lp109 _ 0 (by omega) rfl

set_option maxHeartbeats 4000000 in
set_option maxRecDepth 100000 in
theorem c_X9_goN {l : Launch} {G : xG} {σ : xS} {t : Nat → Int32} {z : Nat} (ht : xgI σ 38 = t) (hz : xgI σ 37 2 = nI z) (hz2 : z ≤ 1000) (hk : xgI σ 37 39 = 0) : xFv l G yX9_go cX9_go 11 (Option.none : Option Jvm.ClassFile.FieldType) 2 44 [.ref (G.2.1 37)] σ (qR σ (g7 t z)) := by
  obtain ⟨V, hVd⟩ : ∃ V, V = gV t z := ⟨_, rfl⟩
  obtain ⟨N, hNd⟩ : ∃ N, N = gN t z := ⟨_, rfl⟩
  obtain ⟨M, hMd⟩ : ∃ M, M = gM t z := ⟨_, rfl⟩
  have hV8 : V ≤ 8 := hVd ▸ (gV_n t z).2.2
  have hN20 : N ≤ 20 := hNd ▸ (gN_n t z).2.2
  have hM4 : M ≤ 4 := hMd ▸ (gM_n t z).2.2
  have hg6 := g6_q t z
  refine xM.of (by decide) (Nat.le_of_ble_eq_true rfl) (fun pp ee ss mm aa bel met kk X => ?_)
  have X : xC pp ss mm met kk cX9_go 11 RX9 (Option.none : Option Jvm.ClassFile.FieldType) G := X
  show xW pp l ee { frames := 2, cells := 0, slots := 0, locals := 44 } ss mm aa bel met kk 11 G 0 0 (xQ bel G (fun rv_ tv_ => rv_ = none ∧ tv_ = (qR σ (g7 t z))) aa ss) 0 [(0, .ref (G.2.1 37))] [] σ
  refine x_aload_n X dX9_go_0 rfl ?_
  refine x_iconst (v := nI 0) X dX9_go_1 (by decide) ?_
  refine pf_X9_100 X dX9_go_2 rfl ?_
  refine x_aload_n X dX9_go_5 rfl ?_
  refine x_iconst (v := nI 0) X dX9_go_6 (by decide) ?_
  refine pf_X9_96 X dX9_go_7 rfl (Or.inl rfl) ?_
  refine x_aload_n X dX9_go_10 rfl ?_
  refine x_iconst (v := nI 1) X dX9_go_11 (by decide) ?_
  refine x_bipush (v := nI 8) X dX9_go_12 (by decide) ?_
  rw [show xsI (xsI σ 37 37 (nI 0)) 37 38 (nI 0) = qR σ (0, false) from rfl]
  refine cv_X9_103 X (c_X9_nextR ht (Nat.zero_le _) hz hz2) dX9_go_14 rfl ⟨by decide, by decide, by decide, by decide⟩ rfl rfl (Nat.le_of_ble_eq_true rfl) (xk_i ?_)
  rw [show nx t z (0, false) (nI 1) (nI 8) = g1 t z from rfl, show nv t z (0, false) (nI 1) (nI 8) = nI V from (gV_n t z).1.trans (by rw [hVd])]
  refine x_istore_n (lv' := [(1, .int (nI V)), (0, .ref (G.2.1 37))]) X dX9_go_17 rfl (by decide) rfl ?_
  refine x_iconst (v := nI 0) X dX9_go_18 (by decide) ?_
  refine x_istore_n (lv' := [(2, .int (nI 0)), (1, .int (nI V)), (0, .ref (G.2.1 37))]) X dX9_go_19 rfl (by decide) rfl ?_
  have lp20 : ∀ (NN20 : Nat) (k : Nat) (hk9 : k ≤ V), V - k = NN20 → xW pp l ee { frames := 2, cells := 0, slots := 0, locals := 44 } ss mm aa bel met kk 11 G 0 0 (xQ bel G (fun rv_ tv_ => rv_ = none ∧ tv_ = (qR σ (g7 t z))) aa ss) 20 [(2, .int (nI k)), (1, .int (nI V)), (0, .ref (G.2.1 37))] [] (qR σ (aIt (vS t z) k (g1 t z))) := by
    intro NN20
    induction NN20 using Nat.strongRecOn with
    | ind NN20 ih20 =>
      intro k hk9 hNN20
      obtain ⟨s, hs⟩ : ∃ s : Nat × Bool, s = aIt (vS t z) k (g1 t z) := ⟨_, rfl⟩
      rw [← hs]
      have hsz : s.1 ≤ z := by rw [hs]; exact aIt_le vS_q (g1_q t z) k
      refine x_iload_n X dX9_go_20 rfl ?_
      refine x_iload_n X dX9_go_21 rfl ?_
      refine x_icmpge (tgt := 99) X dX9_go_22 (by decide) (fun h22 => ?_) (fun h22 => ?_)
      · skip
        rw [xb_ge (x := nI k) (y := nI V) (a := k) (b := V) rfl rfl (by omega) (by omega)] at h22
        have e2 : aIt (vS t z) k (g1 t z) = g2 t z := by rw [g2, ← hVd, show k = V by omega]
        rw [← hs] at e2
        rw [e2]
        refine x_pick [1, 2] rfl ?_
        exact s_go99N X ht hz hz2 hk hVd hNd hMd
      · skip
        rw [xb_ge (x := nI k) (y := nI V) (a := k) (b := V) rfl rfl (by omega) (by omega)] at h22
        refine x_aload_n X dX9_go_25 rfl ?_
        refine gf_X9_96 X dX9_go_26 rfl ?_
        refine x_ifne (tgt := 99) X dX9_go_29 (by decide) (fun h29 => ?_) (fun h29 => ?_)
        · skip
          have e2 : aIt (vS t z) k (g1 t z) = g2 t z := by rw [g2, ← hVd]; exact aIt_e vS_b (hs ▸ qR_t h29) (by omega)
          rw [← hs] at e2
          rw [e2]
          refine x_pick [1, 2] rfl ?_
          exact s_go99N X ht hz hz2 hk hVd hNd hMd
        · skip
          refine x_aload_n X dX9_go_32 rfl ?_
          refine x_sipush (v := (-1000)) X dX9_go_33 (by decide) ?_
          refine x_sipush (v := nI 1000) X dX9_go_36 (by decide) ?_
          refine cv_X9_103 X (c_X9_nextR ht hsz hz hz2) dX9_go_39 rfl ⟨by decide, by decide, by decide, by decide⟩ rfl rfl (Nat.le_of_ble_eq_true rfl) (xk_i ?_)
          refine x_topi (fun lo hlo => ?_)
          refine x_istore_n (lv' := [(3, .int lo), (2, .int (nI k)), (1, .int (nI V)), (0, .ref (G.2.1 37))]) X dX9_go_42 rfl (by decide) rfl ?_
          refine x_aload_n X dX9_go_43 rfl ?_
          refine x_iload_n X dX9_go_44 rfl ?_
          refine x_sipush (v := nI 1000) X dX9_go_45 (by decide) ?_
          refine cv_X9_103 X (c_X9_nextR ht (aNq hsz) hz hz2) dX9_go_48 rfl ⟨by decide, by decide, by decide, by decide⟩ rfl rfl (Nat.le_of_ble_eq_true rfl) (xk_i ?_)
          refine x_topi (fun hi hhi => ?_)
          refine x_istore (lv' := [(4, .int hi), (3, .int lo), (2, .int (nI k)), (1, .int (nI V)), (0, .ref (G.2.1 37))]) X dX9_go_51 (by decide) rfl ?_
          refine x_aload_n X dX9_go_53 rfl ?_
          refine x_bipush (v := (-100)) X dX9_go_54 (by decide) ?_
          refine x_bipush (v := nI 100) X dX9_go_56 (by decide) ?_
          refine cv_X9_103 X (c_X9_nextR ht (aNq (aNq hsz)) hz hz2) dX9_go_58 rfl ⟨by decide, by decide, by decide, by decide⟩ rfl rfl (Nat.le_of_ble_eq_true rfl) (xk_i ?_)
          refine x_topi (fun co hco => ?_)
          refine x_istore (lv' := [(5, .int co), (4, .int hi), (3, .int lo), (2, .int (nI k)), (1, .int (nI V)), (0, .ref (G.2.1 37))]) X dX9_go_61 (by decide) rfl ?_
          refine x_aload_n X dX9_go_63 rfl ?_
          refine gf_X9_107 X dX9_go_64 rfl ?_
          rw [(qR_o (by omega) (by omega)).trans hk]
          refine x_ifeq (tgt := 93) X dX9_go_67 (by decide) (fun h67 => ?_) (fun h67 => ?_)
          · skip
            refine x_iinc (k := 3) (v := nI (k + 1)) (lv' := [(2, .int (nI (k + 1))), (5, .int co), (4, .int hi), (3, .int lo), (1, .int (nI V)), (0, .ref (G.2.1 37))]) X dX9_go_93 rfl (xn_inc _) (by decide) rfl ?_
            refine x_goto (tgt := 20) X dX9_go_96 (by decide) ?_
            subst hlo
            subst hhi
            subst hco
            subst hs
            refine x_pick [0, 4, 5] rfl ?_
            exact ih20 _ (by omega) (k + 1) (by omega) rfl
          · skip
            exact absurd (by decide) h67
  refine x_pick [0, 1, 2] rfl ?_
  exact lp20 _ 0 (by omega) rfl
