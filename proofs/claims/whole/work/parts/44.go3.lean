/-! The reference: go, keeping -/

set_option maxHeartbeats 4000000 in
set_option maxRecDepth 100000 in
theorem s_go403K {l : Launch} {G : xG} {pp : Program} {ee : Env} {ss : State} {mm : MethodId} {aa : Array Value} {bel : List Frame} {met : Method} {kk : Code} (X : xC pp ss mm met kk cX9_go 11 RX9 (Option.none : Option Jvm.ClassFile.FieldType) G) {σ : xS} {t : Nat → Int32} {z : Nat} (ht : xgI σ 38 = t) (hz : xgI σ 37 2 = nI z) (hz2 : z ≤ 1000) (hk : xgI σ 37 39 = 1) (hok : ¬ (g7 t z).2 = true) {V N M : Nat} (hVd : V = gV t z) (hNd : N = gN t z) (hMd : M = gM t z) : xW pp l ee { frames := 2, cells := 0, slots := 0, locals := 44 } ss mm aa bel met kk 11 G 0 0 (xQ bel G (fun rv_ tv_ => rv_ = none ∧ tv_ = (qR (xsI (xsI (xsI (bT (bR (bV σ t z (gV t z)) t z (gV t z) (g3 t z) (gN t z)) t z (gV t z) (g5 t z) (gM t z)) 37 3 (nI (gV t z))) 37 7 (nI (gN t z))) 37 10 (nI (gM t z))) (g6 t z))) aa ss) 403 [(3, .int (nI M)), (2, .int (nI N)), (1, .int (nI V)), (0, .ref (G.2.1 37))] [] (qR (bT (bR (bV σ t z V) t z V (g3 t z) N) t z V (g5 t z) M) (g6 t z)) := by
  have hV8 : V ≤ 8 := hVd ▸ (gV_n t z).2.2
  have hN20 : N ≤ 20 := hNd ▸ (gN_n t z).2.2
  have hM4 : M ≤ 4 := hMd ▸ (gM_n t z).2.2
  have hg6 := g6_q t z
  have nb6 : ¬ (g6 t z).2 = true := fun q => hok (by unfold g7; rw [if_pos q]; exact q)
  have nb4 : ¬ (g4 t z).2 = true := nx_nb (show ¬ (g5 t z).2 = true from fun q => nb6 (by unfold g6; rw [aIt_b tS_b q]; exact q))
  have nb2 : ¬ (g2 t z).2 = true := nx_nb (show ¬ (g3 t z).2 = true from fun q => nb4 (by unfold g4; rw [aIt_b rS_b q]; exact q))
  refine x_aload_n X dX9_go_403 rfl ?_
  refine gf_X9_96 X dX9_go_404 rfl ?_
  refine x_ifne (tgt := 426) X dX9_go_407 (by decide) (fun h407 => ?_) (fun h407 => ?_)
  · skip
    exact absurd (qR_t h407) nb6
  · skip
    have h407b := qR_f h407
    refine x_aload_n X dX9_go_410 rfl ?_
    refine gf_X9_100 X dX9_go_411 rfl ?_
    rw [qR_q]
    refine x_aload_n X dX9_go_414 rfl ?_
    refine gf_X9_93 X dX9_go_415 rfl ?_
    rw [(qR_o (by omega) (by omega)).trans ((bT_o 2 (by omega) _).trans ((bR_o 2 (by omega) _).trans ((bV_o 2 (by omega) _).trans hz)))]
    refine x_icmpge (tgt := 426) X dX9_go_418 (by decide) (fun h418 => ?_) (fun h418 => ?_)
    · skip
      rw [xb_ge (x := nI (g6 t z).1) (y := nI z) (a := (g6 t z).1) (b := z) rfl rfl (by omega) (by omega)] at h418
      skip
      refine x_aload_n X dX9_go_426 rfl ?_
      refine gf_X9_107 X dX9_go_427 rfl ?_
      rw [(qR_o (by omega) (by omega)).trans ((bT_o 39 (by omega) _).trans ((bR_o 39 (by omega) _).trans ((bV_o 39 (by omega) _).trans hk)))]
      refine x_ifeq (tgt := 448) X dX9_go_430 (by decide) (fun h430 => ?_) (fun h430 => ?_)
      · skip
        exact absurd h430 (by decide)
      · skip
        refine x_aload_n X dX9_go_433 rfl ?_
        refine x_iload_n X dX9_go_434 rfl ?_
        refine pf_X9_112 X dX9_go_435 rfl ?_
        refine x_aload_n X dX9_go_438 rfl ?_
        refine x_iload_n X dX9_go_439 rfl ?_
        refine pf_X9_115 X dX9_go_440 rfl ?_
        refine x_aload_n X dX9_go_443 rfl ?_
        refine x_iload_n X dX9_go_444 rfl ?_
        refine pf_X9_118 X dX9_go_445 rfl ?_
        rw [qR_v (by omega) (by omega), qR_v (by omega) (by omega), qR_v (by omega) (by omega)]
        exact x_vret X dX9_go_448 (⟨rfl, by rw [hVd, hNd, hMd]⟩)
    · skip
      rw [xb_ge (x := nI (g6 t z).1) (y := nI z) (a := (g6 t z).1) (b := z) rfl rfl (by omega) (by omega)] at h418
      exact absurd (show (g7 t z).2 = true by unfold g7; rw [if_neg h407b, if_neg (by omega)]) hok

set_option maxHeartbeats 4000000 in
set_option maxRecDepth 100000 in
theorem s_go198K {l : Launch} {G : xG} {pp : Program} {ee : Env} {ss : State} {mm : MethodId} {aa : Array Value} {bel : List Frame} {met : Method} {kk : Code} (X : xC pp ss mm met kk cX9_go 11 RX9 (Option.none : Option Jvm.ClassFile.FieldType) G) {σ : xS} {t : Nat → Int32} {z : Nat} (ht : xgI σ 38 = t) (hz : xgI σ 37 2 = nI z) (hz2 : z ≤ 1000) (hk : xgI σ 37 39 = 1) (hok : ¬ (g7 t z).2 = true) {V N M : Nat} (hVd : V = gV t z) (hNd : N = gN t z) (hMd : M = gM t z) : xW pp l ee { frames := 2, cells := 0, slots := 0, locals := 44 } ss mm aa bel met kk 11 G 0 0 (xQ bel G (fun rv_ tv_ => rv_ = none ∧ tv_ = (qR (xsI (xsI (xsI (bT (bR (bV σ t z (gV t z)) t z (gV t z) (g3 t z) (gN t z)) t z (gV t z) (g5 t z) (gM t z)) 37 3 (nI (gV t z))) 37 7 (nI (gN t z))) 37 10 (nI (gM t z))) (g6 t z))) aa ss) 198 [(2, .int (nI N)), (1, .int (nI V)), (0, .ref (G.2.1 37))] [] (qR (bR (bV σ t z V) t z V (g3 t z) N) (g4 t z)) := by
  have hV8 : V ≤ 8 := hVd ▸ (gV_n t z).2.2
  have hN20 : N ≤ 20 := hNd ▸ (gN_n t z).2.2
  have hM4 : M ≤ 4 := hMd ▸ (gM_n t z).2.2
  have hg6 := g6_q t z
  have nb6 : ¬ (g6 t z).2 = true := fun q => hok (by unfold g7; rw [if_pos q]; exact q)
  have nb4 : ¬ (g4 t z).2 = true := nx_nb (show ¬ (g5 t z).2 = true from fun q => nb6 (by unfold g6; rw [aIt_b tS_b q]; exact q))
  have nb2 : ¬ (g2 t z).2 = true := nx_nb (show ¬ (g3 t z).2 = true from fun q => nb4 (by unfold g4; rw [aIt_b rS_b q]; exact q))
  refine x_aload_n X dX9_go_198 rfl ?_
  refine x_iconst (v := nI 0) X dX9_go_199 (by decide) ?_
  refine x_iconst (v := nI 4) X dX9_go_200 (by decide) ?_
  refine cv_X9_103 X (c_X9_nextR (xt_R (xt_V ht)) (g4_q t z) ((bR_o 2 (by omega) _).trans ((bV_o 2 (by omega) _).trans hz)) hz2) dX9_go_201 rfl ⟨by decide, by decide, by decide, by decide⟩ rfl rfl (Nat.le_of_ble_eq_true rfl) (xk_i ?_)
  rw [show nx t z (g4 t z) (nI 0) (nI 4) = g5 t z from rfl, show nv t z (g4 t z) (nI 0) (nI 4) = nI M from (gM_n t z).1.trans (by rw [hMd])]
  refine x_istore_n (lv' := [(3, .int (nI M)), (2, .int (nI N)), (1, .int (nI V)), (0, .ref (G.2.1 37))]) X dX9_go_204 rfl (by decide) rfl ?_
  refine x_iconst (v := nI 0) X dX9_go_205 (by decide) ?_
  refine x_istore (lv' := [(4, .int (nI 0)), (3, .int (nI M)), (2, .int (nI N)), (1, .int (nI V)), (0, .ref (G.2.1 37))]) X dX9_go_206 (by decide) rfl ?_
  have lp208 : ∀ (NN208 : Nat) (k : Nat) (hk9 : k ≤ M), M - k = NN208 → xW pp l ee { frames := 2, cells := 0, slots := 0, locals := 44 } ss mm aa bel met kk 11 G 0 0 (xQ bel G (fun rv_ tv_ => rv_ = none ∧ tv_ = (qR (xsI (xsI (xsI (bT (bR (bV σ t z (gV t z)) t z (gV t z) (g3 t z) (gN t z)) t z (gV t z) (g5 t z) (gM t z)) 37 3 (nI (gV t z))) 37 7 (nI (gN t z))) 37 10 (nI (gM t z))) (g6 t z))) aa ss) 208 [(4, .int (nI k)), (3, .int (nI M)), (2, .int (nI N)), (1, .int (nI V)), (0, .ref (G.2.1 37))] [] (qR (bT (bR (bV σ t z V) t z V (g3 t z) N) t z V (g5 t z) k) (aIt (tS t z V) k (g5 t z))) := by
    intro NN208
    induction NN208 using Nat.strongRecOn with
    | ind NN208 ih208 =>
      intro k hk9 hNN208
      obtain ⟨s, hs⟩ : ∃ s : Nat × Bool, s = aIt (tS t z V) k (g5 t z) := ⟨_, rfl⟩
      rw [← hs]
      have hsz : s.1 ≤ z := by rw [hs]; exact aIt_le tS_q (g5_q t z) k
      obtain ⟨P, hP⟩ : ∃ P, P = tN t z V s := ⟨_, rfl⟩
      have hP20 : P ≤ 20 := hP ▸ (tN_n t z V s).2.2
      refine x_iload X dX9_go_208 rfl ?_
      refine x_iload_n X dX9_go_210 rfl ?_
      refine x_icmpge (tgt := 403) X dX9_go_211 (by decide) (fun h211 => ?_) (fun h211 => ?_)
      · skip
        rw [xb_ge (x := nI k) (y := nI M) (a := k) (b := M) rfl rfl (by omega) (by omega)] at h211
        have e6 : aIt (tS t z V) k (g5 t z) = g6 t z := by rw [g6, ← hVd, ← hMd, show k = M by omega]
        rw [← hs] at e6
        rw [show k = M by omega]
        rw [e6]
        refine x_pick [1, 2, 3, 4] rfl ?_
        exact s_go403K X ht hz hz2 hk hok hVd hNd hMd
      · skip
        rw [xb_ge (x := nI k) (y := nI M) (a := k) (b := M) rfl rfl (by omega) (by omega)] at h211
        refine x_aload_n X dX9_go_214 rfl ?_
        refine gf_X9_96 X dX9_go_215 rfl ?_
        refine x_ifne (tgt := 403) X dX9_go_218 (by decide) (fun h218 => ?_) (fun h218 => ?_)
        · skip
          exact absurd (hs ▸ qR_t h218) (aIt_n tS_b (show ¬ (aIt (tS t z V) M (g5 t z)).2 = true from hVd ▸ hMd ▸ nb6) (by omega))
        · skip
          have nbt : ¬ (tS t z V s).2 = true := by have q := aIt_n (k := k + 1) tS_b (show ¬ (aIt (tS t z V) M (g5 t z)).2 = true from hVd ▸ hMd ▸ nb6) (by omega); rw [aIt_s, ← hs] at q; exact q
          have nbd : ¬ (tD t z V s).2 = true := fun q => nbt (by unfold tS; rw [aIt_b pS_b q]; exact q)
          have nbc : ¬ (tC t z V s).2 = true := nx_nb nbd
          refine x_aload_n X dX9_go_221 rfl ?_
          refine x_iconst (v := nI 0) X dX9_go_222 (by decide) ?_
          refine x_iload_n X dX9_go_223 rfl ?_
          refine x_iconst (v := nI 1) X dX9_go_224 (by decide) ?_
          refine x_isub X dX9_go_225 ?_
          refine cv_X9_103 X (c_X9_nextR (xt_T (xt_R (xt_V ht))) hsz ((bT_o 2 (by omega) _).trans ((bR_o 2 (by omega) _).trans ((bV_o 2 (by omega) _).trans hz))) hz2) dX9_go_226 rfl ⟨by decide, by decide, by decide, by decide⟩ rfl rfl (Nat.le_of_ble_eq_true rfl) (xk_i ?_)
          rw [show nv t z s (nI 0) (nI V - nI 1) = tA t z V s from rfl]
          refine x_topi (fun fi hfi => ?_)
          refine x_istore (lv' := [(5, .int fi), (4, .int (nI k)), (3, .int (nI M)), (2, .int (nI N)), (1, .int (nI V)), (0, .ref (G.2.1 37))]) X dX9_go_229 (by decide) rfl ?_
          refine x_aload_n X dX9_go_231 rfl ?_
          refine x_iconst (v := nI 0) X dX9_go_232 (by decide) ?_
          refine x_iload_n X dX9_go_233 rfl ?_
          refine x_iconst (v := nI 1) X dX9_go_234 (by decide) ?_
          refine x_isub X dX9_go_235 ?_
          refine cv_X9_103 X (c_X9_nextR (xt_T (xt_R (xt_V ht))) (aNq hsz) ((bT_o 2 (by omega) _).trans ((bR_o 2 (by omega) _).trans ((bV_o 2 (by omega) _).trans hz))) hz2) dX9_go_236 rfl ⟨by decide, by decide, by decide, by decide⟩ rfl rfl (Nat.le_of_ble_eq_true rfl) (xk_i ?_)
          rw [show nv t z (nx t z s (nI 0) (nI V - nI 1)) (nI 0) (nI V - nI 1) = tB t z V s from rfl, show nx t z (nx t z s (nI 0) (nI V - nI 1)) (nI 0) (nI V - nI 1) = tP t z V s from rfl]
          refine x_topi (fun se hse => ?_)
          refine x_istore (lv' := [(6, .int se), (5, .int fi), (4, .int (nI k)), (3, .int (nI M)), (2, .int (nI N)), (1, .int (nI V)), (0, .ref (G.2.1 37))]) X dX9_go_239 (by decide) rfl ?_
          refine x_aload_n X dX9_go_241 rfl ?_
          refine gf_X9_96 X dX9_go_242 rfl ?_
          refine x_ifne (tgt := 270) X dX9_go_245 (by decide) (fun h245 => ?_) (fun h245 => ?_)
          · skip
            exact absurd (by rw [tC_p (V := V) (Or.inl (qR_t h245))]; exact qR_t h245) nbc
            skip
          · skip
            have h245b := qR_f h245
            refine x_iload X dX9_go_248 rfl ?_
            refine x_iload X dX9_go_250 rfl ?_
            refine x_icmpne (tgt := 270) X dX9_go_252 (by decide) (fun h252 => ?_) (fun h252 => ?_)
            · skip
              have hC := tC_p (t := t) (z := z) (V := V) (s := s) (Or.inr (fun q => h252 (hfi.trans (q.trans hse.symm))))
              rw [← hC]
              skip
              refine x_aload_n X dX9_go_270 rfl ?_
              refine x_iconst (v := nI 1) X dX9_go_271 (by decide) ?_
              refine x_bipush (v := nI 20) X dX9_go_272 (by decide) ?_
              refine cv_X9_103 X (c_X9_nextR (xt_T (xt_R (xt_V ht))) (tC_q s hsz) ((bT_o 2 (by omega) _).trans ((bR_o 2 (by omega) _).trans ((bV_o 2 (by omega) _).trans hz))) hz2) dX9_go_274 rfl ⟨by decide, by decide, by decide, by decide⟩ rfl rfl (Nat.le_of_ble_eq_true rfl) (xk_i ?_)
              rw [show nx t z (tC t z V s) (nI 1) (nI 20) = tD t z V s from rfl, show nv t z (tC t z V s) (nI 1) (nI 20) = nI P from (tN_n t z V s).1.trans (by rw [hP])]
              refine x_istore (lv' := [(7, .int (nI P)), (6, .int se), (5, .int fi), (4, .int (nI k)), (3, .int (nI M)), (2, .int (nI N)), (1, .int (nI V)), (0, .ref (G.2.1 37))]) X dX9_go_277 (by decide) rfl ?_
              refine x_aload_n X dX9_go_279 rfl ?_
              refine gf_X9_107 X dX9_go_280 rfl ?_
              rw [(qR_o (by omega) (by omega)).trans ((bT_o 39 (by omega) _).trans ((bR_o 39 (by omega) _).trans ((bV_o 39 (by omega) _).trans hk)))]
              refine x_ifeq (tgt := 313) X dX9_go_283 (by decide) (fun h283 => ?_) (fun h283 => ?_)
              · skip
                exact absurd h283 (by decide)
              · skip
                refine x_aload_n X dX9_go_286 rfl ?_
                refine gf_X9_28 (k' := 44) X dX9_go_287 rfl rfl ?_
                refine x_iload X dX9_go_290 rfl ?_
                refine x_iload X dX9_go_292 rfl ?_
                refine x_iastN X dX9_go_294 rfl (by omega) (by omega) ?_
                refine x_aload_n X dX9_go_295 rfl ?_
                refine gf_X9_31 (k' := 45) X dX9_go_296 rfl rfl ?_
                refine x_iload X dX9_go_299 rfl ?_
                refine x_iload X dX9_go_301 rfl ?_
                refine x_iastN X dX9_go_303 rfl (by omega) (by omega) ?_
                refine x_aload_n X dX9_go_304 rfl ?_
                refine gf_X9_34 (k' := 46) X dX9_go_305 rfl rfl ?_
                refine x_iload X dX9_go_308 rfl ?_
                refine x_iload X dX9_go_310 rfl ?_
                refine x_iastN X dX9_go_312 rfl (by omega) (by omega) ?_
                rw [qR_w (by omega), qR_w (by omega), qR_w (by omega)]
                refine x_iconst (v := nI 0) X dX9_go_313 (by decide) ?_
                refine x_istore (lv' := [(8, .int (nI 0)), (7, .int (nI P)), (6, .int se), (5, .int fi), (4, .int (nI k)), (3, .int (nI M)), (2, .int (nI N)), (1, .int (nI V)), (0, .ref (G.2.1 37))]) X dX9_go_314 (by decide) rfl ?_
                have lp316 : ∀ (NN316 : Nat) (i : Nat) (hi9 : i ≤ P), P - i = NN316 → xW pp l ee { frames := 2, cells := 0, slots := 0, locals := 44 } ss mm aa bel met kk 11 G 0 0 (xQ bel G (fun rv_ tv_ => rv_ = none ∧ tv_ = (qR (xsI (xsI (xsI (bT (bR (bV σ t z (gV t z)) t z (gV t z) (g3 t z) (gN t z)) t z (gV t z) (g5 t z) (gM t z)) 37 3 (nI (gV t z))) 37 7 (nI (gN t z))) 37 10 (nI (gM t z))) (g6 t z))) aa ss) 316 [(8, .int (nI i)), (7, .int (nI P)), (4, .int (nI k)), (3, .int (nI M)), (2, .int (nI N)), (1, .int (nI V)), (0, .ref (G.2.1 37))] [] (qR (bP (xsI (xsI (xsI (bT (bR (bV σ t z V) t z V (g3 t z) N) t z V (g5 t z) k) 44 k (tA t z V s)) 45 k (tB t z V s)) 46 k (nI P)) t z k (tD t z V s) i) (aIt (pS t z) i (tD t z V s))) := by
                  intro NN316
                  induction NN316 using Nat.strongRecOn with
                  | ind NN316 ih316 =>
                    intro i hi9 hNN316
                    refine x_iload X dX9_go_316 rfl ?_
                    refine x_iload X dX9_go_318 rfl ?_
                    refine x_icmpge (tgt := 397) X dX9_go_320 (by decide) (fun h320 => ?_) (fun h320 => ?_)
                    · skip
                      rw [xb_ge (x := nI i) (y := nI P) (a := i) (b := P) rfl rfl (by omega) (by omega)] at h320
                      have eT : aIt (pS t z) i (tD t z V s) = aIt (tS t z V) (k + 1) (g5 t z) := by rw [aIt_s, ← hs, tS, ← hP, show i = P by omega]
                      rw [eT]
                      rw [show bP (xsI (xsI (xsI (bT (bR (bV σ t z V) t z V (g3 t z) N) t z V (g5 t z) k) 44 k (tA t z V s)) 45 k (tB t z V s)) 46 k (nI P)) t z k (tD t z V s) i = bT (bR (bV σ t z V) t z V (g3 t z) N) t z V (g5 t z) (k + 1) from by rw [bT_s, ← hs, ← hP, show i = P by omega]]
                      refine x_iinc (k := 2) (v := nI (k + 1)) (lv' := [(4, .int (nI (k + 1))), (8, .int (nI i)), (7, .int (nI P)), (3, .int (nI M)), (2, .int (nI N)), (1, .int (nI V)), (0, .ref (G.2.1 37))]) X dX9_go_397 rfl (xn_inc _) (by decide) rfl ?_
                      refine x_goto (tgt := 208) X dX9_go_400 (by decide) ?_
                      refine x_pick [0, 3, 4, 5, 6] rfl ?_
                      exact ih208 _ (by omega) (k + 1) (by omega) rfl
                    · skip
                      rw [xb_ge (x := nI i) (y := nI P) (a := i) (b := P) rfl rfl (by omega) (by omega)] at h320
                      refine x_aload_n X dX9_go_323 rfl ?_
                      refine gf_X9_96 X dX9_go_324 rfl ?_
                      refine x_ifne (tgt := 397) X dX9_go_327 (by decide) (fun h327 => ?_) (fun h327 => ?_)
                      · skip
                        exact absurd (qR_t h327) (aIt_n (n := P) pS_b (fun q => nbt (by unfold tS; rw [← hP]; exact q)) (by omega))
                      · skip
                        refine x_aload_n X dX9_go_330 rfl ?_
                        refine x_sipush (v := (-1000)) X dX9_go_331 (by decide) ?_
                        refine x_sipush (v := nI 1000) X dX9_go_334 (by decide) ?_
                        refine cv_X9_103 X (c_X9_nextR (xt_P (xt_I (xt_I (xt_I (xt_T (xt_R (xt_V ht))) (by omega)) (by omega)) (by omega))) (aIt_le pS_q (aNq (tC_q s hsz)) i) ((bP_o 2 (by omega) _).trans ((xgI_n (by omega)).trans ((xgI_n (by omega)).trans ((xgI_n (by omega)).trans ((bT_o 2 (by omega) _).trans ((bR_o 2 (by omega) _).trans ((bV_o 2 (by omega) _).trans hz))))))) hz2) dX9_go_337 rfl ⟨by decide, by decide, by decide, by decide⟩ rfl rfl (Nat.le_of_ble_eq_true rfl) (xk_i ?_)
                        refine x_topi (fun px hpx => ?_)
                        refine x_istore (lv' := [(9, .int px), (8, .int (nI i)), (7, .int (nI P)), (4, .int (nI k)), (3, .int (nI M)), (2, .int (nI N)), (1, .int (nI V)), (0, .ref (G.2.1 37))]) X dX9_go_340 (by decide) rfl ?_
                        refine x_aload_n X dX9_go_342 rfl ?_
                        refine x_sipush (v := (-1000)) X dX9_go_343 (by decide) ?_
                        refine x_sipush (v := nI 1000) X dX9_go_346 (by decide) ?_
                        refine cv_X9_103 X (c_X9_nextR (xt_P (xt_I (xt_I (xt_I (xt_T (xt_R (xt_V ht))) (by omega)) (by omega)) (by omega))) (aNq (aIt_le pS_q (aNq (tC_q s hsz)) i)) ((bP_o 2 (by omega) _).trans ((xgI_n (by omega)).trans ((xgI_n (by omega)).trans ((xgI_n (by omega)).trans ((bT_o 2 (by omega) _).trans ((bR_o 2 (by omega) _).trans ((bV_o 2 (by omega) _).trans hz))))))) hz2) dX9_go_349 rfl ⟨by decide, by decide, by decide, by decide⟩ rfl rfl (Nat.le_of_ble_eq_true rfl) (xk_i ?_)
                        refine x_topi (fun py hpy => ?_)
                        refine x_istore (lv' := [(10, .int py), (9, .int px), (8, .int (nI i)), (7, .int (nI P)), (4, .int (nI k)), (3, .int (nI M)), (2, .int (nI N)), (1, .int (nI V)), (0, .ref (G.2.1 37))]) X dX9_go_352 (by decide) rfl ?_
                        refine x_aload_n X dX9_go_354 rfl ?_
                        refine gf_X9_107 X dX9_go_355 rfl ?_
                        rw [(qR_o (by omega) (by omega)).trans ((bP_o 39 (by omega) _).trans ((xgI_n (by omega)).trans ((xgI_n (by omega)).trans ((xgI_n (by omega)).trans ((bT_o 39 (by omega) _).trans ((bR_o 39 (by omega) _).trans ((bV_o 39 (by omega) _).trans hk)))))))]
                        refine x_ifeq (tgt := 391) X dX9_go_358 (by decide) (fun h358 => ?_) (fun h358 => ?_)
                        · skip
                          exact absurd h358 (by decide)
                        · skip
                          refine x_aload_n X dX9_go_361 rfl ?_
                          refine gf_X9_37 (k' := 47) X dX9_go_362 rfl rfl ?_
                          refine x_bipush (v := nI 20) X dX9_go_365 (by decide) ?_
                          refine x_iload X dX9_go_367 rfl ?_
                          refine x_imul X dX9_go_369 ?_
                          rw [pk_mul 20 k]
                          refine x_iload X dX9_go_370 rfl ?_
                          refine x_iadd X dX9_go_372 ?_
                          rw [nI_add (20 * k) i]
                          refine x_iload X dX9_go_373 rfl ?_
                          refine x_iastN X dX9_go_375 rfl (by omega) (by omega) ?_
                          refine x_aload_n X dX9_go_376 rfl ?_
                          refine gf_X9_40 (k' := 48) X dX9_go_377 rfl rfl ?_
                          refine x_bipush (v := nI 20) X dX9_go_380 (by decide) ?_
                          refine x_iload X dX9_go_382 rfl ?_
                          refine x_imul X dX9_go_384 ?_
                          rw [pk_mul 20 k]
                          refine x_iload X dX9_go_385 rfl ?_
                          refine x_iadd X dX9_go_387 ?_
                          rw [nI_add (20 * k) i]
                          refine x_iload X dX9_go_388 rfl ?_
                          refine x_iastN X dX9_go_390 rfl (by omega) (by omega) ?_
                          rw [qR_w (by omega), qR_w (by omega)]
                          refine x_iinc (k := 2) (v := nI (i + 1)) (lv' := [(8, .int (nI (i + 1))), (10, .int py), (9, .int px), (7, .int (nI P)), (4, .int (nI k)), (3, .int (nI M)), (2, .int (nI N)), (1, .int (nI V)), (0, .ref (G.2.1 37))]) X dX9_go_391 rfl (xn_inc _) (by decide) rfl ?_
                          refine x_goto (tgt := 316) X dX9_go_394 (by decide) ?_
                          subst hpx
                          subst hpy
                          refine x_pick [0, 3, 4, 5, 6, 7, 8] rfl ?_
                          exact ih316 _ (by omega) (i + 1) (by omega) rfl
                subst hfi
                subst hse
                refine x_pick [0, 1, 4, 5, 6, 7, 8] rfl ?_
                exact lp316 _ 0 (by omega) rfl
            · skip
              exact absurd (by rw [tC_t (V := V) h245b (hfi.symm.trans (h252.trans hse))]) nbc
  refine x_pick [0, 1, 2, 3, 4] rfl ?_
  exact lp208 _ 0 (by omega) rfl

set_option maxHeartbeats 4000000 in
set_option maxRecDepth 100000 in
theorem s_go99K {l : Launch} {G : xG} {pp : Program} {ee : Env} {ss : State} {mm : MethodId} {aa : Array Value} {bel : List Frame} {met : Method} {kk : Code} (X : xC pp ss mm met kk cX9_go 11 RX9 (Option.none : Option Jvm.ClassFile.FieldType) G) {σ : xS} {t : Nat → Int32} {z : Nat} (ht : xgI σ 38 = t) (hz : xgI σ 37 2 = nI z) (hz2 : z ≤ 1000) (hk : xgI σ 37 39 = 1) (hok : ¬ (g7 t z).2 = true) {V N M : Nat} (hVd : V = gV t z) (hNd : N = gN t z) (hMd : M = gM t z) : xW pp l ee { frames := 2, cells := 0, slots := 0, locals := 44 } ss mm aa bel met kk 11 G 0 0 (xQ bel G (fun rv_ tv_ => rv_ = none ∧ tv_ = (qR (xsI (xsI (xsI (bT (bR (bV σ t z (gV t z)) t z (gV t z) (g3 t z) (gN t z)) t z (gV t z) (g5 t z) (gM t z)) 37 3 (nI (gV t z))) 37 7 (nI (gN t z))) 37 10 (nI (gM t z))) (g6 t z))) aa ss) 99 [(1, .int (nI V)), (0, .ref (G.2.1 37))] [] (qR (bV σ t z V) (g2 t z)) := by
  have hV8 : V ≤ 8 := hVd ▸ (gV_n t z).2.2
  have hN20 : N ≤ 20 := hNd ▸ (gN_n t z).2.2
  have hM4 : M ≤ 4 := hMd ▸ (gM_n t z).2.2
  have hg6 := g6_q t z
  have nb6 : ¬ (g6 t z).2 = true := fun q => hok (by unfold g7; rw [if_pos q]; exact q)
  have nb4 : ¬ (g4 t z).2 = true := nx_nb (show ¬ (g5 t z).2 = true from fun q => nb6 (by unfold g6; rw [aIt_b tS_b q]; exact q))
  have nb2 : ¬ (g2 t z).2 = true := nx_nb (show ¬ (g3 t z).2 = true from fun q => nb4 (by unfold g4; rw [aIt_b rS_b q]; exact q))
  refine x_aload_n X dX9_go_99 rfl ?_
  refine x_iconst (v := nI 0) X dX9_go_100 (by decide) ?_
  refine x_bipush (v := nI 20) X dX9_go_101 (by decide) ?_
  refine cv_X9_103 X (c_X9_nextR (xt_V ht) (g2_q t z) ((bV_o 2 (by omega) _).trans hz) hz2) dX9_go_103 rfl ⟨by decide, by decide, by decide, by decide⟩ rfl rfl (Nat.le_of_ble_eq_true rfl) (xk_i ?_)
  rw [show nx t z (g2 t z) (nI 0) (nI 20) = g3 t z from rfl, show nv t z (g2 t z) (nI 0) (nI 20) = nI N from (gN_n t z).1.trans (by rw [hNd])]
  refine x_istore_n (lv' := [(2, .int (nI N)), (1, .int (nI V)), (0, .ref (G.2.1 37))]) X dX9_go_106 rfl (by decide) rfl ?_
  refine x_iconst (v := nI 0) X dX9_go_107 (by decide) ?_
  refine x_istore_n (lv' := [(3, .int (nI 0)), (2, .int (nI N)), (1, .int (nI V)), (0, .ref (G.2.1 37))]) X dX9_go_108 rfl (by decide) rfl ?_
  have lp109 : ∀ (NN109 : Nat) (k : Nat) (hk9 : k ≤ N), N - k = NN109 → xW pp l ee { frames := 2, cells := 0, slots := 0, locals := 44 } ss mm aa bel met kk 11 G 0 0 (xQ bel G (fun rv_ tv_ => rv_ = none ∧ tv_ = (qR (xsI (xsI (xsI (bT (bR (bV σ t z (gV t z)) t z (gV t z) (g3 t z) (gN t z)) t z (gV t z) (g5 t z) (gM t z)) 37 3 (nI (gV t z))) 37 7 (nI (gN t z))) 37 10 (nI (gM t z))) (g6 t z))) aa ss) 109 [(3, .int (nI k)), (2, .int (nI N)), (1, .int (nI V)), (0, .ref (G.2.1 37))] [] (qR (bR (bV σ t z V) t z V (g3 t z) k) (aIt (rS t z V) k (g3 t z))) := by
    intro NN109
    induction NN109 using Nat.strongRecOn with
    | ind NN109 ih109 =>
      intro k hk9 hNN109
      obtain ⟨s, hs⟩ : ∃ s : Nat × Bool, s = aIt (rS t z V) k (g3 t z) := ⟨_, rfl⟩
      rw [← hs]
      have hsz : s.1 ≤ z := by rw [hs]; exact aIt_le rS_q (g3_q t z) k
      refine x_iload_n X dX9_go_109 rfl ?_
      refine x_iload_n X dX9_go_110 rfl ?_
      refine x_icmpge (tgt := 198) X dX9_go_111 (by decide) (fun h111 => ?_) (fun h111 => ?_)
      · skip
        rw [xb_ge (x := nI k) (y := nI N) (a := k) (b := N) rfl rfl (by omega) (by omega)] at h111
        have e4 : aIt (rS t z V) k (g3 t z) = g4 t z := by rw [g4, ← hVd, ← hNd, show k = N by omega]
        rw [← hs] at e4
        rw [show k = N by omega]
        rw [e4]
        refine x_pick [1, 2, 3] rfl ?_
        exact s_go198K X ht hz hz2 hk hok hVd hNd hMd
      · skip
        rw [xb_ge (x := nI k) (y := nI N) (a := k) (b := N) rfl rfl (by omega) (by omega)] at h111
        refine x_aload_n X dX9_go_114 rfl ?_
        refine gf_X9_96 X dX9_go_115 rfl ?_
        refine x_ifne (tgt := 198) X dX9_go_118 (by decide) (fun h118 => ?_) (fun h118 => ?_)
        · skip
          exact absurd (hs ▸ qR_t h118) (aIt_n rS_b (show ¬ (aIt (rS t z V) N (g3 t z)).2 = true from hVd ▸ hNd ▸ nb4) (by omega))
        · skip
          refine x_iconst (v := nI 0) X dX9_go_121 (by decide) ?_
          refine x_istore (lv' := [(4, .int (nI 0)), (3, .int (nI k)), (2, .int (nI N)), (1, .int (nI V)), (0, .ref (G.2.1 37))]) X dX9_go_122 (by decide) rfl ?_
          have lp124 : ∀ (NN124 : Nat) (i : Nat) (hi9 : i ≤ V), V - i = NN124 → xW pp l ee { frames := 2, cells := 0, slots := 0, locals := 44 } ss mm aa bel met kk 11 G 0 0 (xQ bel G (fun rv_ tv_ => rv_ = none ∧ tv_ = (qR (xsI (xsI (xsI (bT (bR (bV σ t z (gV t z)) t z (gV t z) (g3 t z) (gN t z)) t z (gV t z) (g5 t z) (gM t z)) 37 3 (nI (gV t z))) 37 7 (nI (gN t z))) 37 10 (nI (gM t z))) (g6 t z))) aa ss) 124 [(4, .int (nI i)), (3, .int (nI k)), (2, .int (nI N)), (1, .int (nI V)), (0, .ref (G.2.1 37))] [] (qR (bF (bR (bV σ t z V) t z V (g3 t z) k) t z k s i) (aIt (fS t z) i s)) := by
            intro NN124
            induction NN124 using Nat.strongRecOn with
            | ind NN124 ih124 =>
              intro i hi9 hNN124
              refine x_iload X dX9_go_124 rfl ?_
              refine x_iload_n X dX9_go_126 rfl ?_
              refine x_icmpge (tgt := 167) X dX9_go_127 (by decide) (fun h127 => ?_) (fun h127 => ?_)
              · skip
                rw [xb_ge (x := nI i) (y := nI V) (a := i) (b := V) rfl rfl (by omega) (by omega)] at h127
                rw [show i = V by omega]
                refine x_aload_n X dX9_go_167 rfl ?_
                refine x_ldc X dX9_go_168 wk_X9_110 ?_
                refine x_ldc X dX9_go_170 wk_X9_111 ?_
                refine cv_X9_103 X (c_X9_nextR (xt_F (xt_R (xt_V ht))) (aIt_le fS_q hsz V) ((bF_o 2 (by omega) _).trans ((bR_o 2 (by omega) _).trans ((bV_o 2 (by omega) _).trans hz))) hz2) dX9_go_172 rfl ⟨by decide, by decide, by decide, by decide⟩ rfl rfl (Nat.le_of_ble_eq_true rfl) (xk_i ?_)
                refine x_topi (fun mo hmo => ?_)
                refine x_istore (lv' := [(4, .int mo), (3, .int (nI k)), (2, .int (nI N)), (1, .int (nI V)), (0, .ref (G.2.1 37))]) X dX9_go_175 (by decide) rfl ?_
                refine x_aload_n X dX9_go_177 rfl ?_
                refine gf_X9_107 X dX9_go_178 rfl ?_
                rw [(qR_o (by omega) (by omega)).trans ((bF_o 39 (by omega) _).trans ((bR_o 39 (by omega) _).trans ((bV_o 39 (by omega) _).trans hk)))]
                refine x_ifeq (tgt := 192) X dX9_go_181 (by decide) (fun h181 => ?_) (fun h181 => ?_)
                · skip
                  exact absurd h181 (by decide)
                · skip
                  refine x_aload_n X dX9_go_184 rfl ?_
                  refine gf_X9_25 (k' := 43) X dX9_go_185 rfl rfl ?_
                  refine x_iload_n X dX9_go_188 rfl ?_
                  refine x_iload X dX9_go_189 rfl ?_
                  refine x_iastN X dX9_go_191 rfl (by omega) (by omega) ?_
                  rw [qR_w (by omega)]
                  refine x_iinc (k := 1) (v := nI (k + 1)) (lv' := [(3, .int (nI (k + 1))), (4, .int mo), (2, .int (nI N)), (1, .int (nI V)), (0, .ref (G.2.1 37))]) X dX9_go_192 rfl (xn_inc _) (by decide) rfl ?_
                  refine x_goto (tgt := 109) X dX9_go_195 (by decide) ?_
                  subst hmo
                  subst hs
                  refine x_pick [0, 2, 3, 4] rfl ?_
                  exact ih109 _ (by omega) (k + 1) (by omega) rfl
              · skip
                rw [xb_ge (x := nI i) (y := nI V) (a := i) (b := V) rfl rfl (by omega) (by omega)] at h127
                refine x_aload_n X dX9_go_130 rfl ?_
                refine x_bipush (v := (-100)) X dX9_go_131 (by decide) ?_
                refine x_bipush (v := nI 100) X dX9_go_133 (by decide) ?_
                refine cv_X9_103 X (c_X9_nextR (xt_F (xt_R (xt_V ht))) (aIt_le fS_q hsz i) ((bF_o 2 (by omega) _).trans ((bR_o 2 (by omega) _).trans ((bV_o 2 (by omega) _).trans hz))) hz2) dX9_go_135 rfl ⟨by decide, by decide, by decide, by decide⟩ rfl rfl (Nat.le_of_ble_eq_true rfl) (xk_i ?_)
                refine x_topi (fun fc hfc => ?_)
                refine x_istore (lv' := [(5, .int fc), (4, .int (nI i)), (3, .int (nI k)), (2, .int (nI N)), (1, .int (nI V)), (0, .ref (G.2.1 37))]) X dX9_go_138 (by decide) rfl ?_
                refine x_aload_n X dX9_go_140 rfl ?_
                refine gf_X9_107 X dX9_go_141 rfl ?_
                rw [(qR_o (by omega) (by omega)).trans ((bF_o 39 (by omega) _).trans ((bR_o 39 (by omega) _).trans ((bV_o 39 (by omega) _).trans hk)))]
                refine x_ifeq (tgt := 161) X dX9_go_144 (by decide) (fun h144 => ?_) (fun h144 => ?_)
                · skip
                  exact absurd h144 (by decide)
                · skip
                  refine x_aload_n X dX9_go_147 rfl ?_
                  refine gf_X9_22 (k' := 42) X dX9_go_148 rfl rfl ?_
                  refine x_bipush (v := nI 8) X dX9_go_151 (by decide) ?_
                  refine x_iload_n X dX9_go_153 rfl ?_
                  refine x_imul X dX9_go_154 ?_
                  rw [pk_mul 8 k]
                  refine x_iload X dX9_go_155 rfl ?_
                  refine x_iadd X dX9_go_157 ?_
                  rw [nI_add (8 * k) i]
                  refine x_iload X dX9_go_158 rfl ?_
                  refine x_iastN X dX9_go_160 rfl (by omega) (by omega) ?_
                  rw [qR_w (by omega)]
                  refine x_iinc (k := 1) (v := nI (i + 1)) (lv' := [(4, .int (nI (i + 1))), (5, .int fc), (3, .int (nI k)), (2, .int (nI N)), (1, .int (nI V)), (0, .ref (G.2.1 37))]) X dX9_go_161 rfl (xn_inc _) (by decide) rfl ?_
                  refine x_goto (tgt := 124) X dX9_go_164 (by decide) ?_
                  subst hfc
                  refine x_pick [0, 2, 3, 4, 5] rfl ?_
                  exact ih124 _ (by omega) (i + 1) (by omega) rfl
          refine x_pick [0, 1, 2, 3, 4] rfl ?_
          exact lp124 _ 0 (by omega) rfl
  refine x_pick [0, 1, 2, 3] rfl ?_
  exact lp109 _ 0 (by omega) rfl

set_option maxHeartbeats 4000000 in
set_option maxRecDepth 100000 in
theorem c_X9_goK {l : Launch} {G : xG} {σ : xS} {t : Nat → Int32} {z : Nat} (ht : xgI σ 38 = t) (hz : xgI σ 37 2 = nI z) (hz2 : z ≤ 1000) (hk : xgI σ 37 39 = 1) (hok : ¬ (g7 t z).2 = true) : xFv l G yX9_go cX9_go 11 (Option.none : Option Jvm.ClassFile.FieldType) 2 44 [.ref (G.2.1 37)] σ (qR (xsI (xsI (xsI (bT (bR (bV σ t z (gV t z)) t z (gV t z) (g3 t z) (gN t z)) t z (gV t z) (g5 t z) (gM t z)) 37 3 (nI (gV t z))) 37 7 (nI (gN t z))) 37 10 (nI (gM t z))) (g6 t z)) := by
  obtain ⟨V, hVd⟩ : ∃ V, V = gV t z := ⟨_, rfl⟩
  obtain ⟨N, hNd⟩ : ∃ N, N = gN t z := ⟨_, rfl⟩
  obtain ⟨M, hMd⟩ : ∃ M, M = gM t z := ⟨_, rfl⟩
  have hV8 : V ≤ 8 := hVd ▸ (gV_n t z).2.2
  have hN20 : N ≤ 20 := hNd ▸ (gN_n t z).2.2
  have hM4 : M ≤ 4 := hMd ▸ (gM_n t z).2.2
  have hg6 := g6_q t z
  have nb6 : ¬ (g6 t z).2 = true := fun q => hok (by unfold g7; rw [if_pos q]; exact q)
  have nb4 : ¬ (g4 t z).2 = true := nx_nb (show ¬ (g5 t z).2 = true from fun q => nb6 (by unfold g6; rw [aIt_b tS_b q]; exact q))
  have nb2 : ¬ (g2 t z).2 = true := nx_nb (show ¬ (g3 t z).2 = true from fun q => nb4 (by unfold g4; rw [aIt_b rS_b q]; exact q))
  refine xM.of (by decide) (Nat.le_of_ble_eq_true rfl) (fun pp ee ss mm aa bel met kk X => ?_)
  have X : xC pp ss mm met kk cX9_go 11 RX9 (Option.none : Option Jvm.ClassFile.FieldType) G := X
  show xW pp l ee { frames := 2, cells := 0, slots := 0, locals := 44 } ss mm aa bel met kk 11 G 0 0 (xQ bel G (fun rv_ tv_ => rv_ = none ∧ tv_ = (qR (xsI (xsI (xsI (bT (bR (bV σ t z (gV t z)) t z (gV t z) (g3 t z) (gN t z)) t z (gV t z) (g5 t z) (gM t z)) 37 3 (nI (gV t z))) 37 7 (nI (gN t z))) 37 10 (nI (gM t z))) (g6 t z))) aa ss) 0 [(0, .ref (G.2.1 37))] [] σ
  refine x_aload_n X dX9_go_0 rfl ?_
  refine x_iconst (v := nI 0) X dX9_go_1 (by decide) ?_
  refine pf_X9_100 X dX9_go_2 rfl ?_
  refine x_aload_n X dX9_go_5 rfl ?_
  refine x_iconst (v := nI 0) X dX9_go_6 (by decide) ?_
  refine pf_X9_96 X dX9_go_7 rfl (Or.inl rfl) ?_
  refine x_aload_n X dX9_go_10 rfl ?_
  refine x_iconst (v := nI 1) X dX9_go_11 (by decide) ?_
  refine x_bipush (v := nI 8) X dX9_go_12 (by decide) ?_
  rw [show xsI (xsI σ 37 37 (nI 0)) 37 38 (nI 0) = qR σ (0, false) from rfl]
  refine cv_X9_103 X (c_X9_nextR ht (Nat.zero_le _) hz hz2) dX9_go_14 rfl ⟨by decide, by decide, by decide, by decide⟩ rfl rfl (Nat.le_of_ble_eq_true rfl) (xk_i ?_)
  rw [show nx t z (0, false) (nI 1) (nI 8) = g1 t z from rfl, show nv t z (0, false) (nI 1) (nI 8) = nI V from (gV_n t z).1.trans (by rw [hVd])]
  refine x_istore_n (lv' := [(1, .int (nI V)), (0, .ref (G.2.1 37))]) X dX9_go_17 rfl (by decide) rfl ?_
  refine x_iconst (v := nI 0) X dX9_go_18 (by decide) ?_
  refine x_istore_n (lv' := [(2, .int (nI 0)), (1, .int (nI V)), (0, .ref (G.2.1 37))]) X dX9_go_19 rfl (by decide) rfl ?_
  have lp20 : ∀ (NN20 : Nat) (k : Nat) (hk9 : k ≤ V), V - k = NN20 → xW pp l ee { frames := 2, cells := 0, slots := 0, locals := 44 } ss mm aa bel met kk 11 G 0 0 (xQ bel G (fun rv_ tv_ => rv_ = none ∧ tv_ = (qR (xsI (xsI (xsI (bT (bR (bV σ t z (gV t z)) t z (gV t z) (g3 t z) (gN t z)) t z (gV t z) (g5 t z) (gM t z)) 37 3 (nI (gV t z))) 37 7 (nI (gN t z))) 37 10 (nI (gM t z))) (g6 t z))) aa ss) 20 [(2, .int (nI k)), (1, .int (nI V)), (0, .ref (G.2.1 37))] [] (qR (bV σ t z k) (aIt (vS t z) k (g1 t z))) := by
    intro NN20
    induction NN20 using Nat.strongRecOn with
    | ind NN20 ih20 =>
      intro k hk9 hNN20
      obtain ⟨s, hs⟩ : ∃ s : Nat × Bool, s = aIt (vS t z) k (g1 t z) := ⟨_, rfl⟩
      rw [← hs]
      have hsz : s.1 ≤ z := by rw [hs]; exact aIt_le vS_q (g1_q t z) k
      refine x_iload_n X dX9_go_20 rfl ?_
      refine x_iload_n X dX9_go_21 rfl ?_
      refine x_icmpge (tgt := 99) X dX9_go_22 (by decide) (fun h22 => ?_) (fun h22 => ?_)
      · skip
        rw [xb_ge (x := nI k) (y := nI V) (a := k) (b := V) rfl rfl (by omega) (by omega)] at h22
        have e2 : aIt (vS t z) k (g1 t z) = g2 t z := by rw [g2, ← hVd, show k = V by omega]
        rw [← hs] at e2
        rw [show k = V by omega]
        rw [e2]
        refine x_pick [1, 2] rfl ?_
        exact s_go99K X ht hz hz2 hk hok hVd hNd hMd
      · skip
        rw [xb_ge (x := nI k) (y := nI V) (a := k) (b := V) rfl rfl (by omega) (by omega)] at h22
        refine x_aload_n X dX9_go_25 rfl ?_
        refine gf_X9_96 X dX9_go_26 rfl ?_
        refine x_ifne (tgt := 99) X dX9_go_29 (by decide) (fun h29 => ?_) (fun h29 => ?_)
        · skip
          exact absurd (hs ▸ qR_t h29) (aIt_n vS_b (show ¬ (aIt (vS t z) V (g1 t z)).2 = true from hVd ▸ nb2) (by omega))
        · skip
          refine x_aload_n X dX9_go_32 rfl ?_
          refine x_sipush (v := (-1000)) X dX9_go_33 (by decide) ?_
          refine x_sipush (v := nI 1000) X dX9_go_36 (by decide) ?_
          refine cv_X9_103 X (c_X9_nextR (xt_V ht) hsz ((bV_o 2 (by omega) _).trans hz) hz2) dX9_go_39 rfl ⟨by decide, by decide, by decide, by decide⟩ rfl rfl (Nat.le_of_ble_eq_true rfl) (xk_i ?_)
          refine x_topi (fun lo hlo => ?_)
          refine x_istore_n (lv' := [(3, .int lo), (2, .int (nI k)), (1, .int (nI V)), (0, .ref (G.2.1 37))]) X dX9_go_42 rfl (by decide) rfl ?_
          refine x_aload_n X dX9_go_43 rfl ?_
          refine x_iload_n X dX9_go_44 rfl ?_
          refine x_sipush (v := nI 1000) X dX9_go_45 (by decide) ?_
          refine cv_X9_103 X (c_X9_nextR (xt_V ht) (aNq hsz) ((bV_o 2 (by omega) _).trans hz) hz2) dX9_go_48 rfl ⟨by decide, by decide, by decide, by decide⟩ rfl rfl (Nat.le_of_ble_eq_true rfl) (xk_i ?_)
          refine x_topi (fun hi hhi => ?_)
          refine x_istore (lv' := [(4, .int hi), (3, .int lo), (2, .int (nI k)), (1, .int (nI V)), (0, .ref (G.2.1 37))]) X dX9_go_51 (by decide) rfl ?_
          refine x_aload_n X dX9_go_53 rfl ?_
          refine x_bipush (v := (-100)) X dX9_go_54 (by decide) ?_
          refine x_bipush (v := nI 100) X dX9_go_56 (by decide) ?_
          refine cv_X9_103 X (c_X9_nextR (xt_V ht) (aNq (aNq hsz)) ((bV_o 2 (by omega) _).trans hz) hz2) dX9_go_58 rfl ⟨by decide, by decide, by decide, by decide⟩ rfl rfl (Nat.le_of_ble_eq_true rfl) (xk_i ?_)
          refine x_topi (fun co hco => ?_)
          refine x_istore (lv' := [(5, .int co), (4, .int hi), (3, .int lo), (2, .int (nI k)), (1, .int (nI V)), (0, .ref (G.2.1 37))]) X dX9_go_61 (by decide) rfl ?_
          refine x_aload_n X dX9_go_63 rfl ?_
          refine gf_X9_107 X dX9_go_64 rfl ?_
          rw [(qR_o (by omega) (by omega)).trans ((bV_o 39 (by omega) _).trans hk)]
          refine x_ifeq (tgt := 93) X dX9_go_67 (by decide) (fun h67 => ?_) (fun h67 => ?_)
          · skip
            exact absurd h67 (by decide)
          · skip
            refine x_aload_n X dX9_go_70 rfl ?_
            refine gf_X9_13 (k' := 39) X dX9_go_71 rfl rfl ?_
            refine x_iload_n X dX9_go_74 rfl ?_
            refine x_iload_n X dX9_go_75 rfl ?_
            refine x_iastN X dX9_go_76 rfl (by omega) (by omega) ?_
            refine x_aload_n X dX9_go_77 rfl ?_
            refine gf_X9_16 (k' := 40) X dX9_go_78 rfl rfl ?_
            refine x_iload_n X dX9_go_81 rfl ?_
            refine x_iload X dX9_go_82 rfl ?_
            refine x_iastN X dX9_go_84 rfl (by omega) (by omega) ?_
            refine x_aload_n X dX9_go_85 rfl ?_
            refine gf_X9_19 (k' := 41) X dX9_go_86 rfl rfl ?_
            refine x_iload_n X dX9_go_89 rfl ?_
            refine x_iload X dX9_go_90 rfl ?_
            refine x_iastN X dX9_go_92 rfl (by omega) (by omega) ?_
            rw [qR_w (by omega), qR_w (by omega), qR_w (by omega)]
            refine x_iinc (k := 3) (v := nI (k + 1)) (lv' := [(2, .int (nI (k + 1))), (5, .int co), (4, .int hi), (3, .int lo), (1, .int (nI V)), (0, .ref (G.2.1 37))]) X dX9_go_93 rfl (xn_inc _) (by decide) rfl ?_
            refine x_goto (tgt := 20) X dX9_go_96 (by decide) ?_
            subst hlo
            subst hhi
            subst hco
            subst hs
            refine x_pick [0, 4, 5] rfl ?_
            exact ih20 _ (by omega) (k + 1) (by omega) rfl
  refine x_pick [0, 1, 2] rfl ?_
  exact lp20 _ 0 (by omega) rfl
