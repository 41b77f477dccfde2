/-! The reference: works, joins, better, pushes -/
theorem qCost_c {σ τ : xS} {p V : Nat} (h1 : ∀ b, xgI τ 41 b = xgI σ 41 b) (h2 : ∀ b, xgI τ 49 b = xgI σ 49 b) : qCost τ p V = qCost σ p V := by
  unfold qCost
  rw [show xgI τ 41 = xgI σ 41 from funext h1, show (fun v => xgI τ 49 (8 * p + v)) = fun v => xgI σ 49 (8 * p + v) from funext (fun v => h2 _)]
theorem qJf_off {σ : xS} {n a b c d y V : Nat} (hn : n ≤ 200) (hV : V ≤ 8) : qOff n σ (qJf σ n a b c d y V) := (((qCp_off V hV).tr qOff.r).tr (qAssumes_off hn)).tr (qAssumes_off hn)
theorem qPush_off {σ : xS} {n r w V : Nat} (hn : n ≤ 200) (hw : w < 8) : qOff n σ (qPush σ n r w V).2 := by
  unfold qPush
  split
  · exact qOff.rf
  · split
    · exact ((qOff.f hw).tr qOff.r).tr (qAssumes_off hn)
    · exact ((qOff.f hw).tr qOff.r).tr (qAssumes_off hn)

set_option maxHeartbeats 4000000 in
set_option maxRecDepth 100000 in
theorem c_X9_works76 {l : Launch} {G : xG} {σ : xS} {n f V : Nat} (hn : n < 200) (hr : xgI σ 37 26 = nI n) (hf : xgI σ 37 25 = nI f) (hV : xgI σ 37 3 = nI V) (hV8 : V ≤ 8) (hq : xgI σ 50 f = nI 7) {a b e d : Nat} {rf : Nat → Nat} (hf2 : f + 5 ≤ 1500) (ha : xgI σ 50 (f + 1) = nI a) (ha2 : a < n) (hb : xgI σ 50 (f + 2) = nI b) (hb2 : b < n) (he : xgI σ 50 (f + 3) = nI e) (he2 : e < n) (hd : xgI σ 50 (f + 4) = nI d) (hd2 : d < n) (hrf : ∀ r, r < n → xgI σ 51 r = nI (rf r) ∧ rf r + 3 < 1500) (hj : ¬ qJc (qWc σ n) rf e d) : xFi l G yX9_works cX9_works 6 (Option.some Jvm.ClassFile.FieldType.int) 2 55 [.ref (G.2.1 37)] σ (6) ((qWc σ n)) := by
  refine xM.of (by decide) (Nat.le_of_ble_eq_true rfl) (fun pp ee ss mm aa bel met kk X => ?_)
  have X : xC pp ss mm met kk cX9_works 6 RX9 (Option.some Jvm.ClassFile.FieldType.int) G := X
  show xW pp l ee { frames := 2, cells := 0, slots := 0, locals := 55 } ss mm aa bel met kk 6 G 0 0 (xQ bel G (fun rv_ tv_ => rv_ = some (.int (6)) ∧ tv_ = ((qWc σ n))) aa ss) 0 [(0, .ref (G.2.1 37))] [] σ
  refine x_aload_n X dX9_works_0 rfl ?_
  refine gf_X9_145 X dX9_works_1 rfl ?_
  rw [hr]
  refine x_istore_n (lv' := [(1, .int (nI n)), (0, .ref (G.2.1 37))]) X dX9_works_4 rfl (by decide) rfl ?_
  refine x_iconst (v := nI 0) X dX9_works_5 (by decide) ?_
  refine x_istore_n (lv' := [(2, .int (nI 0)), (1, .int (nI n)), (0, .ref (G.2.1 37))]) X dX9_works_6 rfl (by decide) rfl ?_
  have lp7 : ∀ (NN7 : Nat) (k : Nat) (hk : k ≤ 8), 8 - k = NN7 → xW pp l ee { frames := 2, cells := 0, slots := 0, locals := 55 } ss mm aa bel met kk 6 G 0 0 (xQ bel G (fun rv_ tv_ => rv_ = some (.int (6)) ∧ tv_ = ((qWc σ n))) aa ss) 7 [(2, .int (nI k)), (1, .int (nI n)), (0, .ref (G.2.1 37))] [] (qW1 σ n k) := by
    intro NN7
    induction NN7 using Nat.strongRecOn with
    | ind NN7 ih7 =>
      intro k hk hNN7
      refine x_iload_n X dX9_works_7 rfl ?_
      refine x_bipush (v := nI 8) X dX9_works_8 (by decide) ?_
      refine x_icmpge (tgt := 31) X dX9_works_10 (by decide) (fun h10 => ?_) (fun h10 => ?_)
      · skip
        rw [xb_ge (x := nI k) (y := nI 8) (a := k) (b := 8) rfl rfl (by omega) (by omega)] at h10
        obtain rfl : k = 8 := by omega
        refine x_iconst (v := nI 0) X dX9_works_31 (by decide) ?_
        refine x_istore_n (lv' := [(2, .int (nI 0)), (1, .int (nI n)), (0, .ref (G.2.1 37))]) X dX9_works_32 rfl (by decide) rfl ?_
        have lp33 : ∀ (NN33 : Nat) (k : Nat) (hk : k ≤ 200), 200 - k = NN33 → xW pp l ee { frames := 2, cells := 0, slots := 0, locals := 55 } ss mm aa bel met kk 6 G 0 0 (xQ bel G (fun rv_ tv_ => rv_ = some (.int (6)) ∧ tv_ = ((qWc σ n))) aa ss) 33 [(2, .int (nI k)), (1, .int (nI n)), (0, .ref (G.2.1 37))] [] (qW2 (qW1 σ n 8) n k) := by
          intro NN33
          induction NN33 using Nat.strongRecOn with
          | ind NN33 ih33 =>
            intro k hk hNN33
            refine x_iload_n X dX9_works_33 rfl ?_
            refine x_sipush (v := nI 200) X dX9_works_34 (by decide) ?_
            refine x_icmpge (tgt := 59) X dX9_works_37 (by decide) (fun h37 => ?_) (fun h37 => ?_)
            · skip
              rw [xb_ge (x := nI k) (y := nI 200) (a := k) (b := 200) rfl rfl (by omega) (by omega)] at h37
              obtain rfl : k = 200 := by omega
              refine x_aload_n X dX9_works_59 rfl ?_
              refine gf_X9_63 (k' := 53) X dX9_works_60 rfl rfl ?_
              refine x_iload_n X dX9_works_63 rfl ?_
              refine x_lconst (v := 0) X dX9_works_64 (by decide) ?_
              refine x_lastN X dX9_works_65 rfl (by omega) (by omega) ?_
              refine x_aload_n X dX9_works_66 rfl ?_
              refine gf_X9_66 (k' := 54) X dX9_works_67 rfl rfl ?_
              refine x_iload_n X dX9_works_70 rfl ?_
              refine x_iconst (v := nI 0) X dX9_works_71 (by decide) ?_
              refine x_zastN X dX9_works_72 rfl (by omega) (by omega) (Or.inl rfl) ?_
              refine x_aload_n X dX9_works_73 rfl ?_
              refine gf_X9_70 (k' := 55) X dX9_works_74 rfl rfl ?_
              refine x_iload_n X dX9_works_77 rfl ?_
              refine x_lconst (v := 0) X dX9_works_78 (by decide) ?_
              refine x_lastN X dX9_works_79 rfl (by omega) (by omega) ?_
              obtain ⟨σc, hσc⟩ : ∃ z : xS, z = qWc σ n := ⟨_, rfl⟩
              rw [show xsL (xsI (xsL (qW2 (qW1 σ n 8) n 200) 53 n 0) 54 n (nI 0)) 55 n 0 = σc from hσc.symm]
              have ho : qOff n σ σc := by rw [hσc]; exact qWc_off
              have hfc : xgI σc 37 25 = nI f := (ho.1 37 25 (by omega) (by omega)).trans hf
              have hVc : xgI σc 37 3 = nI V := (ho.1 37 3 (by omega) (by omega)).trans hV
              refine x_iconst (v := nI 0) X dX9_works_80 (by decide) ?_
              refine x_istore_n (lv' := [(2, .int (nI 0)), (1, .int (nI n)), (0, .ref (G.2.1 37))]) X dX9_works_81 rfl (by decide) rfl ?_
              refine x_aload_n X dX9_works_82 rfl ?_
              refine x_iconst (v := nI 0) X dX9_works_83 (by decide) ?_
              refine cv_X9_187 X (c_X9_of (k := 0) hfc (by omega)) dX9_works_84 rfl ⟨by decide, by decide, by decide, by decide⟩ rfl rfl (Nat.le_of_ble_eq_true rfl) (xk_i ?_)
              rw [show f + 0 = f from rfl, ho.1 50 f (by omega) (by omega), hq]
              refine x_tableIn (off := 395) (tgt := 482) X dX9_works_87 (by decide) (by decide) rfl (by decide) ?_
              refine x_aload_n X dX9_works_482 rfl ?_
              refine x_iload_n X dX9_works_483 rfl ?_
              refine cv_X9_215 X (c_X9_joins6 hn hfc hf2 ((ho.1 (50) (f + 1) (by omega) (by omega)).trans ha) ha2 ((ho.1 (50) (f + 2) (by omega) (by omega)).trans hb) hb2 ((ho.1 (50) (f + 3) (by omega) (by omega)).trans he) he2 ((ho.1 (50) (f + 4) (by omega) (by omega)).trans hd) hd2 (fun r hr => ⟨(ho.1 51 r (by omega) (by omega)).trans (hrf r hr).1, (hrf r hr).2⟩) hVc hV8 (hσc ▸ hj)) dX9_works_484 rfl ⟨by decide, by decide, by decide, by decide⟩ rfl rfl (Nat.le_of_ble_eq_true rfl) (xk_i ?_)
              refine x_istore_n (lv' := [(2, .int 6), (1, .int (nI n)), (0, .ref (G.2.1 37))]) X dX9_works_487 rfl (by decide) rfl ?_
              refine x_goto (tgt := 568) X dX9_works_488 (by decide) ?_
              refine x_iload_n X dX9_works_568 rfl ?_
              refine x_ifeq (tgt := 576) X dX9_works_569 (by decide) (fun h569 => ?_) (fun h569 => ?_)
              · skip
                exact absurd h569 (by decide)
              · skip
                refine x_iload_n X dX9_works_572 rfl ?_
                refine x_goto (tgt := 590) X dX9_works_573 (by decide) ?_
                exact x_iret X dX9_works_590 (xp_i (by rfl) (by rw [← hσc]))
            · skip
              rw [xb_ge (x := nI k) (y := nI 200) (a := k) (b := 200) rfl rfl (by omega) (by omega)] at h37
              refine x_aload_n X dX9_works_40 rfl ?_
              refine gf_X9_74 (k' := 56) X dX9_works_41 rfl rfl ?_
              refine x_sipush (v := nI 200) X dX9_works_44 (by decide) ?_
              refine x_iload_n X dX9_works_47 rfl ?_
              refine x_imul X dX9_works_48 ?_
              rw [pk_mul 200 n]
              refine x_iload_n X dX9_works_49 rfl ?_
              refine x_iadd X dX9_works_50 ?_
              rw [nI_add (200 * n) k]
              refine x_iconst (v := nI 0) X dX9_works_51 (by decide) ?_
              refine x_zastN X dX9_works_52 rfl (by omega) (by omega) (Or.inl rfl) ?_
              refine x_iinc (k := 0) (v := nI (k + 1)) (lv' := [(2, .int (nI (k + 1))), (1, .int (nI n)), (0, .ref (G.2.1 37))]) X dX9_works_53 rfl (xn_inc _) (by decide) rfl ?_
              refine x_goto (tgt := 33) X dX9_works_56 (by decide) ?_
              refine x_pick [0, 1, 2] rfl ?_
              exact ih33 _ (by omega) (k + 1) (by omega) rfl
        refine x_pick [0, 1, 2] rfl ?_
        exact lp33 _ 0 (by omega) rfl
      · skip
        rw [xb_ge (x := nI k) (y := nI 8) (a := k) (b := 8) rfl rfl (by omega) (by omega)] at h10
        refine x_aload_n X dX9_works_13 rfl ?_
        refine gf_X9_59 (k' := 52) X dX9_works_14 rfl rfl ?_
        refine x_bipush (v := nI 8) X dX9_works_17 (by decide) ?_
        refine x_iload_n X dX9_works_19 rfl ?_
        refine x_imul X dX9_works_20 ?_
        rw [pk_mul 8 n]
        refine x_iload_n X dX9_works_21 rfl ?_
        refine x_iadd X dX9_works_22 ?_
        rw [nI_add (8 * n) k]
        refine x_lconst (v := 0) X dX9_works_23 (by decide) ?_
        refine x_lastN X dX9_works_24 rfl (by omega) (by omega) ?_
        refine x_iinc (k := 0) (v := nI (k + 1)) (lv' := [(2, .int (nI (k + 1))), (1, .int (nI n)), (0, .ref (G.2.1 37))]) X dX9_works_25 rfl (xn_inc _) (by decide) rfl ?_
        refine x_goto (tgt := 7) X dX9_works_28 (by decide) ?_
        refine x_pick [0, 1, 2] rfl ?_
        exact ih7 _ (by omega) (k + 1) (by omega) rfl
  refine x_pick [0, 1, 2] rfl ?_
  exact lp7 _ 0 (by omega) rfl

set_option maxHeartbeats 4000000 in
set_option maxRecDepth 100000 in
theorem c_X9_works77 {l : Launch} {G : xG} {σ : xS} {n f V : Nat} (hn : n < 200) (hr : xgI σ 37 26 = nI n) (hf : xgI σ 37 25 = nI f) (hV : xgI σ 37 3 = nI V) (hV8 : V ≤ 8) (hq : xgI σ 50 f = nI 7) {a b e d : Nat} {rf : Nat → Nat} (hf2 : f + 5 ≤ 1500) (ha : xgI σ 50 (f + 1) = nI a) (ha2 : a < n) (hb : xgI σ 50 (f + 2) = nI b) (hb2 : b < n) (he : xgI σ 50 (f + 3) = nI e) (he2 : e < n) (hd : xgI σ 50 (f + 4) = nI d) (hd2 : d < n) (hrf : ∀ r, r < n → xgI σ 51 r = nI (rf r) ∧ rf r + 3 < 1500) (hj : qJc (qWc σ n) rf e d) (hs : ¬ qSame (qWc σ n) a b V) (hia : ¬ qImp (qWc σ n) a V) (hib : ¬ qImp (qWc σ n) b V) : xFi l G yX9_works cX9_works 6 (Option.some Jvm.ClassFile.FieldType.int) 2 55 [.ref (G.2.1 37)] σ (7) ((qWc σ n)) := by
  refine xM.of (by decide) (Nat.le_of_ble_eq_true rfl) (fun pp ee ss mm aa bel met kk X => ?_)
  have X : xC pp ss mm met kk cX9_works 6 RX9 (Option.some Jvm.ClassFile.FieldType.int) G := X
  show xW pp l ee { frames := 2, cells := 0, slots := 0, locals := 55 } ss mm aa bel met kk 6 G 0 0 (xQ bel G (fun rv_ tv_ => rv_ = some (.int (7)) ∧ tv_ = ((qWc σ n))) aa ss) 0 [(0, .ref (G.2.1 37))] [] σ
  refine x_aload_n X dX9_works_0 rfl ?_
  refine gf_X9_145 X dX9_works_1 rfl ?_
  rw [hr]
  refine x_istore_n (lv' := [(1, .int (nI n)), (0, .ref (G.2.1 37))]) X dX9_works_4 rfl (by decide) rfl ?_
  refine x_iconst (v := nI 0) X dX9_works_5 (by decide) ?_
  refine x_istore_n (lv' := [(2, .int (nI 0)), (1, .int (nI n)), (0, .ref (G.2.1 37))]) X dX9_works_6 rfl (by decide) rfl ?_
  have lp7 : ∀ (NN7 : Nat) (k : Nat) (hk : k ≤ 8), 8 - k = NN7 → xW pp l ee { frames := 2, cells := 0, slots := 0, locals := 55 } ss mm aa bel met kk 6 G 0 0 (xQ bel G (fun rv_ tv_ => rv_ = some (.int (7)) ∧ tv_ = ((qWc σ n))) aa ss) 7 [(2, .int (nI k)), (1, .int (nI n)), (0, .ref (G.2.1 37))] [] (qW1 σ n k) := by
    intro NN7
    induction NN7 using Nat.strongRecOn with
    | ind NN7 ih7 =>
      intro k hk hNN7
      refine x_iload_n X dX9_works_7 rfl ?_
      refine x_bipush (v := nI 8) X dX9_works_8 (by decide) ?_
      refine x_icmpge (tgt := 31) X dX9_works_10 (by decide) (fun h10 => ?_) (fun h10 => ?_)
      · skip
        rw [xb_ge (x := nI k) (y := nI 8) (a := k) (b := 8) rfl rfl (by omega) (by omega)] at h10
        obtain rfl : k = 8 := by omega
        refine x_iconst (v := nI 0) X dX9_works_31 (by decide) ?_
        refine x_istore_n (lv' := [(2, .int (nI 0)), (1, .int (nI n)), (0, .ref (G.2.1 37))]) X dX9_works_32 rfl (by decide) rfl ?_
        have lp33 : ∀ (NN33 : Nat) (k : Nat) (hk : k ≤ 200), 200 - k = NN33 → xW pp l ee { frames := 2, cells := 0, slots := 0, locals := 55 } ss mm aa bel met kk 6 G 0 0 (xQ bel G (fun rv_ tv_ => rv_ = some (.int (7)) ∧ tv_ = ((qWc σ n))) aa ss) 33 [(2, .int (nI k)), (1, .int (nI n)), (0, .ref (G.2.1 37))] [] (qW2 (qW1 σ n 8) n k) := by
          intro NN33
          induction NN33 using Nat.strongRecOn with
          | ind NN33 ih33 =>
            intro k hk hNN33
            refine x_iload_n X dX9_works_33 rfl ?_
            refine x_sipush (v := nI 200) X dX9_works_34 (by decide) ?_
            refine x_icmpge (tgt := 59) X dX9_works_37 (by decide) (fun h37 => ?_) (fun h37 => ?_)
            · skip
              rw [xb_ge (x := nI k) (y := nI 200) (a := k) (b := 200) rfl rfl (by omega) (by omega)] at h37
              obtain rfl : k = 200 := by omega
              refine x_aload_n X dX9_works_59 rfl ?_
              refine gf_X9_63 (k' := 53) X dX9_works_60 rfl rfl ?_
              refine x_iload_n X dX9_works_63 rfl ?_
              refine x_lconst (v := 0) X dX9_works_64 (by decide) ?_
              refine x_lastN X dX9_works_65 rfl (by omega) (by omega) ?_
              refine x_aload_n X dX9_works_66 rfl ?_
              refine gf_X9_66 (k' := 54) X dX9_works_67 rfl rfl ?_
              refine x_iload_n X dX9_works_70 rfl ?_
              refine x_iconst (v := nI 0) X dX9_works_71 (by decide) ?_
              refine x_zastN X dX9_works_72 rfl (by omega) (by omega) (Or.inl rfl) ?_
              refine x_aload_n X dX9_works_73 rfl ?_
              refine gf_X9_70 (k' := 55) X dX9_works_74 rfl rfl ?_
              refine x_iload_n X dX9_works_77 rfl ?_
              refine x_lconst (v := 0) X dX9_works_78 (by decide) ?_
              refine x_lastN X dX9_works_79 rfl (by omega) (by omega) ?_
              obtain ⟨σc, hσc⟩ : ∃ z : xS, z = qWc σ n := ⟨_, rfl⟩
              rw [show xsL (xsI (xsL (qW2 (qW1 σ n 8) n 200) 53 n 0) 54 n (nI 0)) 55 n 0 = σc from hσc.symm]
              have ho : qOff n σ σc := by rw [hσc]; exact qWc_off
              have hfc : xgI σc 37 25 = nI f := (ho.1 37 25 (by omega) (by omega)).trans hf
              have hVc : xgI σc 37 3 = nI V := (ho.1 37 3 (by omega) (by omega)).trans hV
              refine x_iconst (v := nI 0) X dX9_works_80 (by decide) ?_
              refine x_istore_n (lv' := [(2, .int (nI 0)), (1, .int (nI n)), (0, .ref (G.2.1 37))]) X dX9_works_81 rfl (by decide) rfl ?_
              refine x_aload_n X dX9_works_82 rfl ?_
              refine x_iconst (v := nI 0) X dX9_works_83 (by decide) ?_
              refine cv_X9_187 X (c_X9_of (k := 0) hfc (by omega)) dX9_works_84 rfl ⟨by decide, by decide, by decide, by decide⟩ rfl rfl (Nat.le_of_ble_eq_true rfl) (xk_i ?_)
              rw [show f + 0 = f from rfl, ho.1 50 f (by omega) (by omega), hq]
              refine x_tableIn (off := 395) (tgt := 482) X dX9_works_87 (by decide) (by decide) rfl (by decide) ?_
              refine x_aload_n X dX9_works_482 rfl ?_
              refine x_iload_n X dX9_works_483 rfl ?_
              refine cv_X9_215 X (c_X9_joins7 hn hfc hf2 ((ho.1 (50) (f + 1) (by omega) (by omega)).trans ha) ha2 ((ho.1 (50) (f + 2) (by omega) (by omega)).trans hb) hb2 ((ho.1 (50) (f + 3) (by omega) (by omega)).trans he) he2 ((ho.1 (50) (f + 4) (by omega) (by omega)).trans hd) hd2 (fun r hr => ⟨(ho.1 51 r (by omega) (by omega)).trans (hrf r hr).1, (hrf r hr).2⟩) hVc hV8 (hσc ▸ hj) (hσc ▸ hs) (hσc ▸ hia) (hσc ▸ hib)) dX9_works_484 rfl ⟨by decide, by decide, by decide, by decide⟩ rfl rfl (Nat.le_of_ble_eq_true rfl) (xk_i ?_)
              refine x_istore_n (lv' := [(2, .int 7), (1, .int (nI n)), (0, .ref (G.2.1 37))]) X dX9_works_487 rfl (by decide) rfl ?_
              refine x_goto (tgt := 568) X dX9_works_488 (by decide) ?_
              refine x_iload_n X dX9_works_568 rfl ?_
              refine x_ifeq (tgt := 576) X dX9_works_569 (by decide) (fun h569 => ?_) (fun h569 => ?_)
              · skip
                exact absurd h569 (by decide)
              · skip
                refine x_iload_n X dX9_works_572 rfl ?_
                refine x_goto (tgt := 590) X dX9_works_573 (by decide) ?_
                exact x_iret X dX9_works_590 (xp_i (by rfl) (by rw [← hσc]))
            · skip
              rw [xb_ge (x := nI k) (y := nI 200) (a := k) (b := 200) rfl rfl (by omega) (by omega)] at h37
              refine x_aload_n X dX9_works_40 rfl ?_
              refine gf_X9_74 (k' := 56) X dX9_works_41 rfl rfl ?_
              refine x_sipush (v := nI 200) X dX9_works_44 (by decide) ?_
              refine x_iload_n X dX9_works_47 rfl ?_
              refine x_imul X dX9_works_48 ?_
              rw [pk_mul 200 n]
              refine x_iload_n X dX9_works_49 rfl ?_
              refine x_iadd X dX9_works_50 ?_
              rw [nI_add (200 * n) k]
              refine x_iconst (v := nI 0) X dX9_works_51 (by decide) ?_
              refine x_zastN X dX9_works_52 rfl (by omega) (by omega) (Or.inl rfl) ?_
              refine x_iinc (k := 0) (v := nI (k + 1)) (lv' := [(2, .int (nI (k + 1))), (1, .int (nI n)), (0, .ref (G.2.1 37))]) X dX9_works_53 rfl (xn_inc _) (by decide) rfl ?_
              refine x_goto (tgt := 33) X dX9_works_56 (by decide) ?_
              refine x_pick [0, 1, 2] rfl ?_
              exact ih33 _ (by omega) (k + 1) (by omega) rfl
        refine x_pick [0, 1, 2] rfl ?_
        exact lp33 _ 0 (by omega) rfl
      · skip
        rw [xb_ge (x := nI k) (y := nI 8) (a := k) (b := 8) rfl rfl (by omega) (by omega)] at h10
        refine x_aload_n X dX9_works_13 rfl ?_
        refine gf_X9_59 (k' := 52) X dX9_works_14 rfl rfl ?_
        refine x_bipush (v := nI 8) X dX9_works_17 (by decide) ?_
        refine x_iload_n X dX9_works_19 rfl ?_
        refine x_imul X dX9_works_20 ?_
        rw [pk_mul 8 n]
        refine x_iload_n X dX9_works_21 rfl ?_
        refine x_iadd X dX9_works_22 ?_
        rw [nI_add (8 * n) k]
        refine x_lconst (v := 0) X dX9_works_23 (by decide) ?_
        refine x_lastN X dX9_works_24 rfl (by omega) (by omega) ?_
        refine x_iinc (k := 0) (v := nI (k + 1)) (lv' := [(2, .int (nI (k + 1))), (1, .int (nI n)), (0, .ref (G.2.1 37))]) X dX9_works_25 rfl (xn_inc _) (by decide) rfl ?_
        refine x_goto (tgt := 7) X dX9_works_28 (by decide) ?_
        refine x_pick [0, 1, 2] rfl ?_
        exact ih7 _ (by omega) (k + 1) (by omega) rfl
  refine x_pick [0, 1, 2] rfl ?_
  exact lp7 _ 0 (by omega) rfl

set_option maxHeartbeats 4000000 in
set_option maxRecDepth 100000 in
theorem c_X9_works7A {l : Launch} {G : xG} {σ : xS} {n f V : Nat} (hn : n < 200) (hr : xgI σ 37 26 = nI n) (hf : xgI σ 37 25 = nI f) (hV : xgI σ 37 3 = nI V) (hV8 : V ≤ 8) (hq : xgI σ 50 f = nI 7) {a b e d : Nat} {rf : Nat → Nat} (hf2 : f + 5 ≤ 1500) (ha : xgI σ 50 (f + 1) = nI a) (ha2 : a < n) (hb : xgI σ 50 (f + 2) = nI b) (hb2 : b < n) (he : xgI σ 50 (f + 3) = nI e) (he2 : e < n) (hd : xgI σ 50 (f + 4) = nI d) (hd2 : d < n) (hrf : ∀ r, r < n → xgI σ 51 r = nI (rf r) ∧ rf r + 3 < 1500) (hj : qJc (qWc σ n) rf e d) (hs : qSame (qWc σ n) a b V) (hr2 : xgL (qWc σ n) 53 b ≤ xgL (qWc σ n) 53 a) : xFi l G yX9_works cX9_works 6 (Option.some Jvm.ClassFile.FieldType.int) 2 55 [.ref (G.2.1 37)] σ (qFin (qJf (qWc σ n) n a b e d a V) n V) (qJf (qWc σ n) n a b e d a V) := by
  refine xM.of (by decide) (Nat.le_of_ble_eq_true rfl) (fun pp ee ss mm aa bel met kk X => ?_)
  have X : xC pp ss mm met kk cX9_works 6 RX9 (Option.some Jvm.ClassFile.FieldType.int) G := X
  show xW pp l ee { frames := 2, cells := 0, slots := 0, locals := 55 } ss mm aa bel met kk 6 G 0 0 (xQ bel G (fun rv_ tv_ => rv_ = some (.int (qFin (qJf (qWc σ n) n a b e d a V) n V)) ∧ tv_ = (qJf (qWc σ n) n a b e d a V)) aa ss) 0 [(0, .ref (G.2.1 37))] [] σ
  refine x_aload_n X dX9_works_0 rfl ?_
  refine gf_X9_145 X dX9_works_1 rfl ?_
  rw [hr]
  refine x_istore_n (lv' := [(1, .int (nI n)), (0, .ref (G.2.1 37))]) X dX9_works_4 rfl (by decide) rfl ?_
  refine x_iconst (v := nI 0) X dX9_works_5 (by decide) ?_
  refine x_istore_n (lv' := [(2, .int (nI 0)), (1, .int (nI n)), (0, .ref (G.2.1 37))]) X dX9_works_6 rfl (by decide) rfl ?_
  have lp7 : ∀ (NN7 : Nat) (k : Nat) (hk : k ≤ 8), 8 - k = NN7 → xW pp l ee { frames := 2, cells := 0, slots := 0, locals := 55 } ss mm aa bel met kk 6 G 0 0 (xQ bel G (fun rv_ tv_ => rv_ = some (.int (qFin (qJf (qWc σ n) n a b e d a V) n V)) ∧ tv_ = (qJf (qWc σ n) n a b e d a V)) aa ss) 7 [(2, .int (nI k)), (1, .int (nI n)), (0, .ref (G.2.1 37))] [] (qW1 σ n k) := by
    intro NN7
    induction NN7 using Nat.strongRecOn with
    | ind NN7 ih7 =>
      intro k hk hNN7
      refine x_iload_n X dX9_works_7 rfl ?_
      refine x_bipush (v := nI 8) X dX9_works_8 (by decide) ?_
      refine x_icmpge (tgt := 31) X dX9_works_10 (by decide) (fun h10 => ?_) (fun h10 => ?_)
      · skip
        rw [xb_ge (x := nI k) (y := nI 8) (a := k) (b := 8) rfl rfl (by omega) (by omega)] at h10
        obtain rfl : k = 8 := by omega
        refine x_iconst (v := nI 0) X dX9_works_31 (by decide) ?_
        refine x_istore_n (lv' := [(2, .int (nI 0)), (1, .int (nI n)), (0, .ref (G.2.1 37))]) X dX9_works_32 rfl (by decide) rfl ?_
        have lp33 : ∀ (NN33 : Nat) (k : Nat) (hk : k ≤ 200), 200 - k = NN33 → xW pp l ee { frames := 2, cells := 0, slots := 0, locals := 55 } ss mm aa bel met kk 6 G 0 0 (xQ bel G (fun rv_ tv_ => rv_ = some (.int (qFin (qJf (qWc σ n) n a b e d a V) n V)) ∧ tv_ = (qJf (qWc σ n) n a b e d a V)) aa ss) 33 [(2, .int (nI k)), (1, .int (nI n)), (0, .ref (G.2.1 37))] [] (qW2 (qW1 σ n 8) n k) := by
          intro NN33
          induction NN33 using Nat.strongRecOn with
          | ind NN33 ih33 =>
            intro k hk hNN33
            refine x_iload_n X dX9_works_33 rfl ?_
            refine x_sipush (v := nI 200) X dX9_works_34 (by decide) ?_
            refine x_icmpge (tgt := 59) X dX9_works_37 (by decide) (fun h37 => ?_) (fun h37 => ?_)
            · skip
              rw [xb_ge (x := nI k) (y := nI 200) (a := k) (b := 200) rfl rfl (by omega) (by omega)] at h37
              obtain rfl : k = 200 := by omega
              refine x_aload_n X dX9_works_59 rfl ?_
              refine gf_X9_63 (k' := 53) X dX9_works_60 rfl rfl ?_
              refine x_iload_n X dX9_works_63 rfl ?_
              refine x_lconst (v := 0) X dX9_works_64 (by decide) ?_
              refine x_lastN X dX9_works_65 rfl (by omega) (by omega) ?_
              refine x_aload_n X dX9_works_66 rfl ?_
              refine gf_X9_66 (k' := 54) X dX9_works_67 rfl rfl ?_
              refine x_iload_n X dX9_works_70 rfl ?_
              refine x_iconst (v := nI 0) X dX9_works_71 (by decide) ?_
              refine x_zastN X dX9_works_72 rfl (by omega) (by omega) (Or.inl rfl) ?_
              refine x_aload_n X dX9_works_73 rfl ?_
              refine gf_X9_70 (k' := 55) X dX9_works_74 rfl rfl ?_
              refine x_iload_n X dX9_works_77 rfl ?_
              refine x_lconst (v := 0) X dX9_works_78 (by decide) ?_
              refine x_lastN X dX9_works_79 rfl (by omega) (by omega) ?_
              obtain ⟨σc, hσc⟩ : ∃ z : xS, z = qWc σ n := ⟨_, rfl⟩
              rw [show xsL (xsI (xsL (qW2 (qW1 σ n 8) n 200) 53 n 0) 54 n (nI 0)) 55 n 0 = σc from hσc.symm]
              have ho : qOff n σ σc := by rw [hσc]; exact qWc_off
              have hfc : xgI σc 37 25 = nI f := (ho.1 37 25 (by omega) (by omega)).trans hf
              have hVc : xgI σc 37 3 = nI V := (ho.1 37 3 (by omega) (by omega)).trans hV
              refine x_iconst (v := nI 0) X dX9_works_80 (by decide) ?_
              refine x_istore_n (lv' := [(2, .int (nI 0)), (1, .int (nI n)), (0, .ref (G.2.1 37))]) X dX9_works_81 rfl (by decide) rfl ?_
              refine x_aload_n X dX9_works_82 rfl ?_
              refine x_iconst (v := nI 0) X dX9_works_83 (by decide) ?_
              refine cv_X9_187 X (c_X9_of (k := 0) hfc (by omega)) dX9_works_84 rfl ⟨by decide, by decide, by decide, by decide⟩ rfl rfl (Nat.le_of_ble_eq_true rfl) (xk_i ?_)
              rw [show f + 0 = f from rfl, ho.1 50 f (by omega) (by omega), hq]
              refine x_tableIn (off := 395) (tgt := 482) X dX9_works_87 (by decide) (by decide) rfl (by decide) ?_
              refine x_aload_n X dX9_works_482 rfl ?_
              refine x_iload_n X dX9_works_483 rfl ?_
              refine cv_X9_215 X (c_X9_joinsA hn hfc hf2 ((ho.1 (50) (f + 1) (by omega) (by omega)).trans ha) ha2 ((ho.1 (50) (f + 2) (by omega) (by omega)).trans hb) hb2 ((ho.1 (50) (f + 3) (by omega) (by omega)).trans he) he2 ((ho.1 (50) (f + 4) (by omega) (by omega)).trans hd) hd2 (fun r hr => ⟨(ho.1 51 r (by omega) (by omega)).trans (hrf r hr).1, (hrf r hr).2⟩) hVc hV8 (hσc ▸ hj) (hσc ▸ hs) (hσc ▸ hr2)) dX9_works_484 rfl ⟨by decide, by decide, by decide, by decide⟩ rfl rfl (Nat.le_of_ble_eq_true rfl) (xk_i ?_)
              refine x_istore_n (lv' := [(2, .int 0), (1, .int (nI n)), (0, .ref (G.2.1 37))]) X dX9_works_487 rfl (by decide) rfl ?_
              refine x_goto (tgt := 568) X dX9_works_488 (by decide) ?_
              refine x_iload_n X dX9_works_568 rfl ?_
              refine x_ifeq (tgt := 576) X dX9_works_569 (by decide) (fun h569 => ?_) (fun h569 => ?_)
              · skip
                refine x_aload_n X dX9_works_576 rfl ?_
                refine x_iload_n X dX9_works_577 rfl ?_
                refine cv_X9_221 X (c_X9_isGreat hn (((qJf_off (by omega) hV8).1 37 3 (by omega) (by omega)).trans hVc) hV8) dX9_works_578 rfl ⟨by decide, by decide, by decide, by decide⟩ rfl rfl (Nat.le_of_ble_eq_true rfl) (xk_i ?_)
                refine x_ifeq (tgt := 589) X dX9_works_581 (by decide) (fun h581 => ?_) (fun h581 => ?_)
                · skip
                  have h581b := xB_0.mp h581
                  refine x_iconst (v := nI 0) X dX9_works_589 (by decide) ?_
                  exact x_iret X dX9_works_590 (xp_i (by first | (rw [← hσc]; exact (qFin_f h581b).symm) | (rw [← hσc]; exact (qFin_t h581b).symm)) (by first | (rw [← hσc]; done) | (rw [← hσc]; rfl)))
                · skip
                  have h581b := Classical.not_not.mp (fun z => h581 (xB_f z))
                  refine x_bipush (v := nI 8) X dX9_works_584 (by decide) ?_
                  refine x_goto (tgt := 590) X dX9_works_586 (by decide) ?_
                  exact x_iret X dX9_works_590 (xp_i (by first | (rw [← hσc]; exact (qFin_f h581b).symm) | (rw [← hσc]; exact (qFin_t h581b).symm)) (by first | (rw [← hσc]; done) | (rw [← hσc]; rfl)))
              · skip
                exact absurd (by decide) h569
            · skip
              rw [xb_ge (x := nI k) (y := nI 200) (a := k) (b := 200) rfl rfl (by omega) (by omega)] at h37
              refine x_aload_n X dX9_works_40 rfl ?_
              refine gf_X9_74 (k' := 56) X dX9_works_41 rfl rfl ?_
              refine x_sipush (v := nI 200) X dX9_works_44 (by decide) ?_
              refine x_iload_n X dX9_works_47 rfl ?_
              refine x_imul X dX9_works_48 ?_
              rw [pk_mul 200 n]
              refine x_iload_n X dX9_works_49 rfl ?_
              refine x_iadd X dX9_works_50 ?_
              rw [nI_add (200 * n) k]
              refine x_iconst (v := nI 0) X dX9_works_51 (by decide) ?_
              refine x_zastN X dX9_works_52 rfl (by omega) (by omega) (Or.inl rfl) ?_
              refine x_iinc (k := 0) (v := nI (k + 1)) (lv' := [(2, .int (nI (k + 1))), (1, .int (nI n)), (0, .ref (G.2.1 37))]) X dX9_works_53 rfl (xn_inc _) (by decide) rfl ?_
              refine x_goto (tgt := 33) X dX9_works_56 (by decide) ?_
              refine x_pick [0, 1, 2] rfl ?_
              exact ih33 _ (by omega) (k + 1) (by omega) rfl
        refine x_pick [0, 1, 2] rfl ?_
        exact lp33 _ 0 (by omega) rfl
      · skip
        rw [xb_ge (x := nI k) (y := nI 8) (a := k) (b := 8) rfl rfl (by omega) (by omega)] at h10
        refine x_aload_n X dX9_works_13 rfl ?_
        refine gf_X9_59 (k' := 52) X dX9_works_14 rfl rfl ?_
        refine x_bipush (v := nI 8) X dX9_works_17 (by decide) ?_
        refine x_iload_n X dX9_works_19 rfl ?_
        refine x_imul X dX9_works_20 ?_
        rw [pk_mul 8 n]
        refine x_iload_n X dX9_works_21 rfl ?_
        refine x_iadd X dX9_works_22 ?_
        rw [nI_add (8 * n) k]
        refine x_lconst (v := 0) X dX9_works_23 (by decide) ?_
        refine x_lastN X dX9_works_24 rfl (by omega) (by omega) ?_
        refine x_iinc (k := 0) (v := nI (k + 1)) (lv' := [(2, .int (nI (k + 1))), (1, .int (nI n)), (0, .ref (G.2.1 37))]) X dX9_works_25 rfl (xn_inc _) (by decide) rfl ?_
        refine x_goto (tgt := 7) X dX9_works_28 (by decide) ?_
        refine x_pick [0, 1, 2] rfl ?_
        exact ih7 _ (by omega) (k + 1) (by omega) rfl
  refine x_pick [0, 1, 2] rfl ?_
  exact lp7 _ 0 (by omega) rfl

set_option maxHeartbeats 4000000 in
set_option maxRecDepth 100000 in
theorem c_X9_works7B {l : Launch} {G : xG} {σ : xS} {n f V : Nat} (hn : n < 200) (hr : xgI σ 37 26 = nI n) (hf : xgI σ 37 25 = nI f) (hV : xgI σ 37 3 = nI V) (hV8 : V ≤ 8) (hq : xgI σ 50 f = nI 7) {a b e d : Nat} {rf : Nat → Nat} (hf2 : f + 5 ≤ 1500) (ha : xgI σ 50 (f + 1) = nI a) (ha2 : a < n) (hb : xgI σ 50 (f + 2) = nI b) (hb2 : b < n) (he : xgI σ 50 (f + 3) = nI e) (he2 : e < n) (hd : xgI σ 50 (f + 4) = nI d) (hd2 : d < n) (hrf : ∀ r, r < n → xgI σ 51 r = nI (rf r) ∧ rf r + 3 < 1500) (hj : qJc (qWc σ n) rf e d) (hs : qSame (qWc σ n) a b V) (hr2 : ¬ xgL (qWc σ n) 53 b ≤ xgL (qWc σ n) 53 a) : xFi l G yX9_works cX9_works 6 (Option.some Jvm.ClassFile.FieldType.int) 2 55 [.ref (G.2.1 37)] σ (qFin (qJf (qWc σ n) n a b e d b V) n V) (qJf (qWc σ n) n a b e d b V) := by
  refine xM.of (by decide) (Nat.le_of_ble_eq_true rfl) (fun pp ee ss mm aa bel met kk X => ?_)
  have X : xC pp ss mm met kk cX9_works 6 RX9 (Option.some Jvm.ClassFile.FieldType.int) G := X
  show xW pp l ee { frames := 2, cells := 0, slots := 0, locals := 55 } ss mm aa bel met kk 6 G 0 0 (xQ bel G (fun rv_ tv_ => rv_ = some (.int (qFin (qJf (qWc σ n) n a b e d b V) n V)) ∧ tv_ = (qJf (qWc σ n) n a b e d b V)) aa ss) 0 [(0, .ref (G.2.1 37))] [] σ
  refine x_aload_n X dX9_works_0 rfl ?_
  refine gf_X9_145 X dX9_works_1 rfl ?_
  rw [hr]
  refine x_istore_n (lv' := [(1, .int (nI n)), (0, .ref (G.2.1 37))]) X dX9_works_4 rfl (by decide) rfl ?_
  refine x_iconst (v := nI 0) X dX9_works_5 (by decide) ?_
  refine x_istore_n (lv' := [(2, .int (nI 0)), (1, .int (nI n)), (0, .ref (G.2.1 37))]) X dX9_works_6 rfl (by decide) rfl ?_
  have lp7 : ∀ (NN7 : Nat) (k : Nat) (hk : k ≤ 8), 8 - k = NN7 → xW pp l ee { frames := 2, cells := 0, slots := 0, locals := 55 } ss mm aa bel met kk 6 G 0 0 (xQ bel G (fun rv_ tv_ => rv_ = some (.int (qFin (qJf (qWc σ n) n a b e d b V) n V)) ∧ tv_ = (qJf (qWc σ n) n a b e d b V)) aa ss) 7 [(2, .int (nI k)), (1, .int (nI n)), (0, .ref (G.2.1 37))] [] (qW1 σ n k) := by
    intro NN7
    induction NN7 using Nat.strongRecOn with
    | ind NN7 ih7 =>
      intro k hk hNN7
      refine x_iload_n X dX9_works_7 rfl ?_
      refine x_bipush (v := nI 8) X dX9_works_8 (by decide) ?_
      refine x_icmpge (tgt := 31) X dX9_works_10 (by decide) (fun h10 => ?_) (fun h10 => ?_)
      · skip
        rw [xb_ge (x := nI k) (y := nI 8) (a := k) (b := 8) rfl rfl (by omega) (by omega)] at h10
        obtain rfl : k = 8 := by omega
        refine x_iconst (v := nI 0) X dX9_works_31 (by decide) ?_
        refine x_istore_n (lv' := [(2, .int (nI 0)), (1, .int (nI n)), (0, .ref (G.2.1 37))]) X dX9_works_32 rfl (by decide) rfl ?_
        have lp33 : ∀ (NN33 : Nat) (k : Nat) (hk : k ≤ 200), 200 - k = NN33 → xW pp l ee { frames := 2, cells := 0, slots := 0, locals := 55 } ss mm aa bel met kk 6 G 0 0 (xQ bel G (fun rv_ tv_ => rv_ = some (.int (qFin (qJf (qWc σ n) n a b e d b V) n V)) ∧ tv_ = (qJf (qWc σ n) n a b e d b V)) aa ss) 33 [(2, .int (nI k)), (1, .int (nI n)), (0, .ref (G.2.1 37))] [] (qW2 (qW1 σ n 8) n k) := by
          intro NN33
          induction NN33 using Nat.strongRecOn with
          | ind NN33 ih33 =>
            intro k hk hNN33
            refine x_iload_n X dX9_works_33 rfl ?_
            refine x_sipush (v := nI 200) X dX9_works_34 (by decide) ?_
            refine x_icmpge (tgt := 59) X dX9_works_37 (by decide) (fun h37 => ?_) (fun h37 => ?_)
            · skip
              rw [xb_ge (x := nI k) (y := nI 200) (a := k) (b := 200) rfl rfl (by omega) (by omega)] at h37
              obtain rfl : k = 200 := by omega
              refine x_aload_n X dX9_works_59 rfl ?_
              refine gf_X9_63 (k' := 53) X dX9_works_60 rfl rfl ?_
              refine x_iload_n X dX9_works_63 rfl ?_
              refine x_lconst (v := 0) X dX9_works_64 (by decide) ?_
              refine x_lastN X dX9_works_65 rfl (by omega) (by omega) ?_
              refine x_aload_n X dX9_works_66 rfl ?_
              refine gf_X9_66 (k' := 54) X dX9_works_67 rfl rfl ?_
              refine x_iload_n X dX9_works_70 rfl ?_
              refine x_iconst (v := nI 0) X dX9_works_71 (by decide) ?_
              refine x_zastN X dX9_works_72 rfl (by omega) (by omega) (Or.inl rfl) ?_
              refine x_aload_n X dX9_works_73 rfl ?_
              refine gf_X9_70 (k' := 55) X dX9_works_74 rfl rfl ?_
              refine x_iload_n X dX9_works_77 rfl ?_
              refine x_lconst (v := 0) X dX9_works_78 (by decide) ?_
              refine x_lastN X dX9_works_79 rfl (by omega) (by omega) ?_
              obtain ⟨σc, hσc⟩ : ∃ z : xS, z = qWc σ n := ⟨_, rfl⟩
              rw [show xsL (xsI (xsL (qW2 (qW1 σ n 8) n 200) 53 n 0) 54 n (nI 0)) 55 n 0 = σc from hσc.symm]
              have ho : qOff n σ σc := by rw [hσc]; exact qWc_off
              have hfc : xgI σc 37 25 = nI f := (ho.1 37 25 (by omega) (by omega)).trans hf
              have hVc : xgI σc 37 3 = nI V := (ho.1 37 3 (by omega) (by omega)).trans hV
              refine x_iconst (v := nI 0) X dX9_works_80 (by decide) ?_
              refine x_istore_n (lv' := [(2, .int (nI 0)), (1, .int (nI n)), (0, .ref (G.2.1 37))]) X dX9_works_81 rfl (by decide) rfl ?_
              refine x_aload_n X dX9_works_82 rfl ?_
              refine x_iconst (v := nI 0) X dX9_works_83 (by decide) ?_
              refine cv_X9_187 X (c_X9_of (k := 0) hfc (by omega)) dX9_works_84 rfl ⟨by decide, by decide, by decide, by decide⟩ rfl rfl (Nat.le_of_ble_eq_true rfl) (xk_i ?_)
              rw [show f + 0 = f from rfl, ho.1 50 f (by omega) (by omega), hq]
              refine x_tableIn (off := 395) (tgt := 482) X dX9_works_87 (by decide) (by decide) rfl (by decide) ?_
              refine x_aload_n X dX9_works_482 rfl ?_
              refine x_iload_n X dX9_works_483 rfl ?_
              refine cv_X9_215 X (c_X9_joinsB hn hfc hf2 ((ho.1 (50) (f + 1) (by omega) (by omega)).trans ha) ha2 ((ho.1 (50) (f + 2) (by omega) (by omega)).trans hb) hb2 ((ho.1 (50) (f + 3) (by omega) (by omega)).trans he) he2 ((ho.1 (50) (f + 4) (by omega) (by omega)).trans hd) hd2 (fun r hr => ⟨(ho.1 51 r (by omega) (by omega)).trans (hrf r hr).1, (hrf r hr).2⟩) hVc hV8 (hσc ▸ hj) (hσc ▸ hs) (hσc ▸ hr2)) dX9_works_484 rfl ⟨by decide, by decide, by decide, by decide⟩ rfl rfl (Nat.le_of_ble_eq_true rfl) (xk_i ?_)
              refine x_istore_n (lv' := [(2, .int 0), (1, .int (nI n)), (0, .ref (G.2.1 37))]) X dX9_works_487 rfl (by decide) rfl ?_
              refine x_goto (tgt := 568) X dX9_works_488 (by decide) ?_
              refine x_iload_n X dX9_works_568 rfl ?_
              refine x_ifeq (tgt := 576) X dX9_works_569 (by decide) (fun h569 => ?_) (fun h569 => ?_)
              · skip
                refine x_aload_n X dX9_works_576 rfl ?_
                refine x_iload_n X dX9_works_577 rfl ?_
                refine cv_X9_221 X (c_X9_isGreat hn (((qJf_off (by omega) hV8).1 37 3 (by omega) (by omega)).trans hVc) hV8) dX9_works_578 rfl ⟨by decide, by decide, by decide, by decide⟩ rfl rfl (Nat.le_of_ble_eq_true rfl) (xk_i ?_)
                refine x_ifeq (tgt := 589) X dX9_works_581 (by decide) (fun h581 => ?_) (fun h581 => ?_)
                · skip
                  have h581b := xB_0.mp h581
                  refine x_iconst (v := nI 0) X dX9_works_589 (by decide) ?_
                  exact x_iret X dX9_works_590 (xp_i (by first | (rw [← hσc]; exact (qFin_f h581b).symm) | (rw [← hσc]; exact (qFin_t h581b).symm)) (by first | (rw [← hσc]; done) | (rw [← hσc]; rfl)))
                · skip
                  have h581b := Classical.not_not.mp (fun z => h581 (xB_f z))
                  refine x_bipush (v := nI 8) X dX9_works_584 (by decide) ?_
                  refine x_goto (tgt := 590) X dX9_works_586 (by decide) ?_
                  exact x_iret X dX9_works_590 (xp_i (by first | (rw [← hσc]; exact (qFin_f h581b).symm) | (rw [← hσc]; exact (qFin_t h581b).symm)) (by first | (rw [← hσc]; done) | (rw [← hσc]; rfl)))
              · skip
                exact absurd (by decide) h569
            · skip
              rw [xb_ge (x := nI k) (y := nI 200) (a := k) (b := 200) rfl rfl (by omega) (by omega)] at h37
              refine x_aload_n X dX9_works_40 rfl ?_
              refine gf_X9_74 (k' := 56) X dX9_works_41 rfl rfl ?_
              refine x_sipush (v := nI 200) X dX9_works_44 (by decide) ?_
              refine x_iload_n X dX9_works_47 rfl ?_
              refine x_imul X dX9_works_48 ?_
              rw [pk_mul 200 n]
              refine x_iload_n X dX9_works_49 rfl ?_
              refine x_iadd X dX9_works_50 ?_
              rw [nI_add (200 * n) k]
              refine x_iconst (v := nI 0) X dX9_works_51 (by decide) ?_
              refine x_zastN X dX9_works_52 rfl (by omega) (by omega) (Or.inl rfl) ?_
              refine x_iinc (k := 0) (v := nI (k + 1)) (lv' := [(2, .int (nI (k + 1))), (1, .int (nI n)), (0, .ref (G.2.1 37))]) X dX9_works_53 rfl (xn_inc _) (by decide) rfl ?_
              refine x_goto (tgt := 33) X dX9_works_56 (by decide) ?_
              refine x_pick [0, 1, 2] rfl ?_
              exact ih33 _ (by omega) (k + 1) (by omega) rfl
        refine x_pick [0, 1, 2] rfl ?_
        exact lp33 _ 0 (by omega) rfl
      · skip
        rw [xb_ge (x := nI k) (y := nI 8) (a := k) (b := 8) rfl rfl (by omega) (by omega)] at h10
        refine x_aload_n X dX9_works_13 rfl ?_
        refine gf_X9_59 (k' := 52) X dX9_works_14 rfl rfl ?_
        refine x_bipush (v := nI 8) X dX9_works_17 (by decide) ?_
        refine x_iload_n X dX9_works_19 rfl ?_
        refine x_imul X dX9_works_20 ?_
        rw [pk_mul 8 n]
        refine x_iload_n X dX9_works_21 rfl ?_
        refine x_iadd X dX9_works_22 ?_
        rw [nI_add (8 * n) k]
        refine x_lconst (v := 0) X dX9_works_23 (by decide) ?_
        refine x_lastN X dX9_works_24 rfl (by omega) (by omega) ?_
        refine x_iinc (k := 0) (v := nI (k + 1)) (lv' := [(2, .int (nI (k + 1))), (1, .int (nI n)), (0, .ref (G.2.1 37))]) X dX9_works_25 rfl (xn_inc _) (by decide) rfl ?_
        refine x_goto (tgt := 7) X dX9_works_28 (by decide) ?_
        refine x_pick [0, 1, 2] rfl ?_
        exact ih7 _ (by omega) (k + 1) (by omega) rfl
  refine x_pick [0, 1, 2] rfl ?_
  exact lp7 _ 0 (by omega) rfl

set_option maxHeartbeats 4000000 in
set_option maxRecDepth 100000 in
theorem c_X9_works7C {l : Launch} {G : xG} {σ : xS} {n f V : Nat} (hn : n < 200) (hr : xgI σ 37 26 = nI n) (hf : xgI σ 37 25 = nI f) (hV : xgI σ 37 3 = nI V) (hV8 : V ≤ 8) (hq : xgI σ 50 f = nI 7) {a b e d : Nat} {rf : Nat → Nat} (hf2 : f + 5 ≤ 1500) (ha : xgI σ 50 (f + 1) = nI a) (ha2 : a < n) (hb : xgI σ 50 (f + 2) = nI b) (hb2 : b < n) (he : xgI σ 50 (f + 3) = nI e) (he2 : e < n) (hd : xgI σ 50 (f + 4) = nI d) (hd2 : d < n) (hrf : ∀ r, r < n → xgI σ 51 r = nI (rf r) ∧ rf r + 3 < 1500) (hj : qJc (qWc σ n) rf e d) (hs : ¬ qSame (qWc σ n) a b V) (hr2 : qImp (qWc σ n) a V) : xFi l G yX9_works cX9_works 6 (Option.some Jvm.ClassFile.FieldType.int) 2 55 [.ref (G.2.1 37)] σ (qFin (qJf (qWc σ n) n a b e d b V) n V) (qJf (qWc σ n) n a b e d b V) := by
  refine xM.of (by decide) (Nat.le_of_ble_eq_true rfl) (fun pp ee ss mm aa bel met kk X => ?_)
  have X : xC pp ss mm met kk cX9_works 6 RX9 (Option.some Jvm.ClassFile.FieldType.int) G := X
  show xW pp l ee { frames := 2, cells := 0, slots := 0, locals := 55 } ss mm aa bel met kk 6 G 0 0 (xQ bel G (fun rv_ tv_ => rv_ = some (.int (qFin (qJf (qWc σ n) n a b e d b V) n V)) ∧ tv_ = (qJf (qWc σ n) n a b e d b V)) aa ss) 0 [(0, .ref (G.2.1 37))] [] σ
  refine x_aload_n X dX9_works_0 rfl ?_
  refine gf_X9_145 X dX9_works_1 rfl ?_
  rw [hr]
  refine x_istore_n (lv' := [(1, .int (nI n)), (0, .ref (G.2.1 37))]) X dX9_works_4 rfl (by decide) rfl ?_
  refine x_iconst (v := nI 0) X dX9_works_5 (by decide) ?_
  refine x_istore_n (lv' := [(2, .int (nI 0)), (1, .int (nI n)), (0, .ref (G.2.1 37))]) X dX9_works_6 rfl (by decide) rfl ?_
  have lp7 : ∀ (NN7 : Nat) (k : Nat) (hk : k ≤ 8), 8 - k = NN7 → xW pp l ee { frames := 2, cells := 0, slots := 0, locals := 55 } ss mm aa bel met kk 6 G 0 0 (xQ bel G (fun rv_ tv_ => rv_ = some (.int (qFin (qJf (qWc σ n) n a b e d b V) n V)) ∧ tv_ = (qJf (qWc σ n) n a b e d b V)) aa ss) 7 [(2, .int (nI k)), (1, .int (nI n)), (0, .ref (G.2.1 37))] [] (qW1 σ n k) := by
    intro NN7
    induction NN7 using Nat.strongRecOn with
    | ind NN7 ih7 =>
      intro k hk hNN7
      refine x_iload_n X dX9_works_7 rfl ?_
      refine x_bipush (v := nI 8) X dX9_works_8 (by decide) ?_
      refine x_icmpge (tgt := 31) X dX9_works_10 (by decide) (fun h10 => ?_) (fun h10 => ?_)
      · skip
        rw [xb_ge (x := nI k) (y := nI 8) (a := k) (b := 8) rfl rfl (by omega) (by omega)] at h10
        obtain rfl : k = 8 := by omega
        refine x_iconst (v := nI 0) X dX9_works_31 (by decide) ?_
        refine x_istore_n (lv' := [(2, .int (nI 0)), (1, .int (nI n)), (0, .ref (G.2.1 37))]) X dX9_works_32 rfl (by decide) rfl ?_
        have lp33 : ∀ (NN33 : Nat) (k : Nat) (hk : k ≤ 200), 200 - k = NN33 → xW pp l ee { frames := 2, cells := 0, slots := 0, locals := 55 } ss mm aa bel met kk 6 G 0 0 (xQ bel G (fun rv_ tv_ => rv_ = some (.int (qFin (qJf (qWc σ n) n a b e d b V) n V)) ∧ tv_ = (qJf (qWc σ n) n a b e d b V)) aa ss) 33 [(2, .int (nI k)), (1, .int (nI n)), (0, .ref (G.2.1 37))] [] (qW2 (qW1 σ n 8) n k) := by
          intro NN33
          induction NN33 using Nat.strongRecOn with
          | ind NN33 ih33 =>
            intro k hk hNN33
            refine x_iload_n X dX9_works_33 rfl ?_
            refine x_sipush (v := nI 200) X dX9_works_34 (by decide) ?_
            refine x_icmpge (tgt := 59) X dX9_works_37 (by decide) (fun h37 => ?_) (fun h37 => ?_)
            · skip
              rw [xb_ge (x := nI k) (y := nI 200) (a := k) (b := 200) rfl rfl (by omega) (by omega)] at h37
              obtain rfl : k = 200 := by omega
              refine x_aload_n X dX9_works_59 rfl ?_
              refine gf_X9_63 (k' := 53) X dX9_works_60 rfl rfl ?_
              refine x_iload_n X dX9_works_63 rfl ?_
              refine x_lconst (v := 0) X dX9_works_64 (by decide) ?_
              refine x_lastN X dX9_works_65 rfl (by omega) (by omega) ?_
              refine x_aload_n X dX9_works_66 rfl ?_
              refine gf_X9_66 (k' := 54) X dX9_works_67 rfl rfl ?_
              refine x_iload_n X dX9_works_70 rfl ?_
              refine x_iconst (v := nI 0) X dX9_works_71 (by decide) ?_
              refine x_zastN X dX9_works_72 rfl (by omega) (by omega) (Or.inl rfl) ?_
              refine x_aload_n X dX9_works_73 rfl ?_
              refine gf_X9_70 (k' := 55) X dX9_works_74 rfl rfl ?_
              refine x_iload_n X dX9_works_77 rfl ?_
              refine x_lconst (v := 0) X dX9_works_78 (by decide) ?_
              refine x_lastN X dX9_works_79 rfl (by omega) (by omega) ?_
              obtain ⟨σc, hσc⟩ : ∃ z : xS, z = qWc σ n := ⟨_, rfl⟩
              rw [show xsL (xsI (xsL (qW2 (qW1 σ n 8) n 200) 53 n 0) 54 n (nI 0)) 55 n 0 = σc from hσc.symm]
              have ho : qOff n σ σc := by rw [hσc]; exact qWc_off
              have hfc : xgI σc 37 25 = nI f := (ho.1 37 25 (by omega) (by omega)).trans hf
              have hVc : xgI σc 37 3 = nI V := (ho.1 37 3 (by omega) (by omega)).trans hV
              refine x_iconst (v := nI 0) X dX9_works_80 (by decide) ?_
              refine x_istore_n (lv' := [(2, .int (nI 0)), (1, .int (nI n)), (0, .ref (G.2.1 37))]) X dX9_works_81 rfl (by decide) rfl ?_
              refine x_aload_n X dX9_works_82 rfl ?_
              refine x_iconst (v := nI 0) X dX9_works_83 (by decide) ?_
              refine cv_X9_187 X (c_X9_of (k := 0) hfc (by omega)) dX9_works_84 rfl ⟨by decide, by decide, by decide, by decide⟩ rfl rfl (Nat.le_of_ble_eq_true rfl) (xk_i ?_)
              rw [show f + 0 = f from rfl, ho.1 50 f (by omega) (by omega), hq]
              refine x_tableIn (off := 395) (tgt := 482) X dX9_works_87 (by decide) (by decide) rfl (by decide) ?_
              refine x_aload_n X dX9_works_482 rfl ?_
              refine x_iload_n X dX9_works_483 rfl ?_
              refine cv_X9_215 X (c_X9_joinsC hn hfc hf2 ((ho.1 (50) (f + 1) (by omega) (by omega)).trans ha) ha2 ((ho.1 (50) (f + 2) (by omega) (by omega)).trans hb) hb2 ((ho.1 (50) (f + 3) (by omega) (by omega)).trans he) he2 ((ho.1 (50) (f + 4) (by omega) (by omega)).trans hd) hd2 (fun r hr => ⟨(ho.1 51 r (by omega) (by omega)).trans (hrf r hr).1, (hrf r hr).2⟩) hVc hV8 (hσc ▸ hj) (hσc ▸ hs) (hσc ▸ hr2)) dX9_works_484 rfl ⟨by decide, by decide, by decide, by decide⟩ rfl rfl (Nat.le_of_ble_eq_true rfl) (xk_i ?_)
              refine x_istore_n (lv' := [(2, .int 0), (1, .int (nI n)), (0, .ref (G.2.1 37))]) X dX9_works_487 rfl (by decide) rfl ?_
              refine x_goto (tgt := 568) X dX9_works_488 (by decide) ?_
              refine x_iload_n X dX9_works_568 rfl ?_
              refine x_ifeq (tgt := 576) X dX9_works_569 (by decide) (fun h569 => ?_) (fun h569 => ?_)
              · skip
                refine x_aload_n X dX9_works_576 rfl ?_
                refine x_iload_n X dX9_works_577 rfl ?_
                refine cv_X9_221 X (c_X9_isGreat hn (((qJf_off (by omega) hV8).1 37 3 (by omega) (by omega)).trans hVc) hV8) dX9_works_578 rfl ⟨by decide, by decide, by decide, by decide⟩ rfl rfl (Nat.le_of_ble_eq_true rfl) (xk_i ?_)
                refine x_ifeq (tgt := 589) X dX9_works_581 (by decide) (fun h581 => ?_) (fun h581 => ?_)
                · skip
                  have h581b := xB_0.mp h581
                  refine x_iconst (v := nI 0) X dX9_works_589 (by decide) ?_
                  exact x_iret X dX9_works_590 (xp_i (by first | (rw [← hσc]; exact (qFin_f h581b).symm) | (rw [← hσc]; exact (qFin_t h581b).symm)) (by first | (rw [← hσc]; done) | (rw [← hσc]; rfl)))
                · skip
                  have h581b := Classical.not_not.mp (fun z => h581 (xB_f z))
                  refine x_bipush (v := nI 8) X dX9_works_584 (by decide) ?_
                  refine x_goto (tgt := 590) X dX9_works_586 (by decide) ?_
                  exact x_iret X dX9_works_590 (xp_i (by first | (rw [← hσc]; exact (qFin_f h581b).symm) | (rw [← hσc]; exact (qFin_t h581b).symm)) (by first | (rw [← hσc]; done) | (rw [← hσc]; rfl)))
              · skip
                exact absurd (by decide) h569
            · skip
              rw [xb_ge (x := nI k) (y := nI 200) (a := k) (b := 200) rfl rfl (by omega) (by omega)] at h37
              refine x_aload_n X dX9_works_40 rfl ?_
              refine gf_X9_74 (k' := 56) X dX9_works_41 rfl rfl ?_
              refine x_sipush (v := nI 200) X dX9_works_44 (by decide) ?_
              refine x_iload_n X dX9_works_47 rfl ?_
              refine x_imul X dX9_works_48 ?_
              rw [pk_mul 200 n]
              refine x_iload_n X dX9_works_49 rfl ?_
              refine x_iadd X dX9_works_50 ?_
              rw [nI_add (200 * n) k]
              refine x_iconst (v := nI 0) X dX9_works_51 (by decide) ?_
              refine x_zastN X dX9_works_52 rfl (by omega) (by omega) (Or.inl rfl) ?_
              refine x_iinc (k := 0) (v := nI (k + 1)) (lv' := [(2, .int (nI (k + 1))), (1, .int (nI n)), (0, .ref (G.2.1 37))]) X dX9_works_53 rfl (xn_inc _) (by decide) rfl ?_
              refine x_goto (tgt := 33) X dX9_works_56 (by decide) ?_
              refine x_pick [0, 1, 2] rfl ?_
              exact ih33 _ (by omega) (k + 1) (by omega) rfl
        refine x_pick [0, 1, 2] rfl ?_
        exact lp33 _ 0 (by omega) rfl
      · skip
        rw [xb_ge (x := nI k) (y := nI 8) (a := k) (b := 8) rfl rfl (by omega) (by omega)] at h10
        refine x_aload_n X dX9_works_13 rfl ?_
        refine gf_X9_59 (k' := 52) X dX9_works_14 rfl rfl ?_
        refine x_bipush (v := nI 8) X dX9_works_17 (by decide) ?_
        refine x_iload_n X dX9_works_19 rfl ?_
        refine x_imul X dX9_works_20 ?_
        rw [pk_mul 8 n]
        refine x_iload_n X dX9_works_21 rfl ?_
        refine x_iadd X dX9_works_22 ?_
        rw [nI_add (8 * n) k]
        refine x_lconst (v := 0) X dX9_works_23 (by decide) ?_
        refine x_lastN X dX9_works_24 rfl (by omega) (by omega) ?_
        refine x_iinc (k := 0) (v := nI (k + 1)) (lv' := [(2, .int (nI (k + 1))), (1, .int (nI n)), (0, .ref (G.2.1 37))]) X dX9_works_25 rfl (xn_inc _) (by decide) rfl ?_
        refine x_goto (tgt := 7) X dX9_works_28 (by decide) ?_
        refine x_pick [0, 1, 2] rfl ?_
        exact ih7 _ (by omega) (k + 1) (by omega) rfl
  refine x_pick [0, 1, 2] rfl ?_
  exact lp7 _ 0 (by omega) rfl

set_option maxHeartbeats 4000000 in
set_option maxRecDepth 100000 in
theorem c_X9_works7D {l : Launch} {G : xG} {σ : xS} {n f V : Nat} (hn : n < 200) (hr : xgI σ 37 26 = nI n) (hf : xgI σ 37 25 = nI f) (hV : xgI σ 37 3 = nI V) (hV8 : V ≤ 8) (hq : xgI σ 50 f = nI 7) {a b e d : Nat} {rf : Nat → Nat} (hf2 : f + 5 ≤ 1500) (ha : xgI σ 50 (f + 1) = nI a) (ha2 : a < n) (hb : xgI σ 50 (f + 2) = nI b) (hb2 : b < n) (he : xgI σ 50 (f + 3) = nI e) (he2 : e < n) (hd : xgI σ 50 (f + 4) = nI d) (hd2 : d < n) (hrf : ∀ r, r < n → xgI σ 51 r = nI (rf r) ∧ rf r + 3 < 1500) (hj : qJc (qWc σ n) rf e d) (hs : ¬ qSame (qWc σ n) a b V) (hr2 : ¬ qImp (qWc σ n) a V) (hr3 : qImp (qWc σ n) b V) : xFi l G yX9_works cX9_works 6 (Option.some Jvm.ClassFile.FieldType.int) 2 55 [.ref (G.2.1 37)] σ (qFin (qJf (qWc σ n) n a b e d a V) n V) (qJf (qWc σ n) n a b e d a V) := by
  refine xM.of (by decide) (Nat.le_of_ble_eq_true rfl) (fun pp ee ss mm aa bel met kk X => ?_)
  have X : xC pp ss mm met kk cX9_works 6 RX9 (Option.some Jvm.ClassFile.FieldType.int) G := X
  show xW pp l ee { frames := 2, cells := 0, slots := 0, locals := 55 } ss mm aa bel met kk 6 G 0 0 (xQ bel G (fun rv_ tv_ => rv_ = some (.int (qFin (qJf (qWc σ n) n a b e d a V) n V)) ∧ tv_ = (qJf (qWc σ n) n a b e d a V)) aa ss) 0 [(0, .ref (G.2.1 37))] [] σ
  refine x_aload_n X dX9_works_0 rfl ?_
  refine gf_X9_145 X dX9_works_1 rfl ?_
  rw [hr]
  refine x_istore_n (lv' := [(1, .int (nI n)), (0, .ref (G.2.1 37))]) X dX9_works_4 rfl (by decide) rfl ?_
  refine x_iconst (v := nI 0) X dX9_works_5 (by decide) ?_
  refine x_istore_n (lv' := [(2, .int (nI 0)), (1, .int (nI n)), (0, .ref (G.2.1 37))]) X dX9_works_6 rfl (by decide) rfl ?_
  have lp7 : ∀ (NN7 : Nat) (k : Nat) (hk : k ≤ 8), 8 - k = NN7 → xW pp l ee { frames := 2, cells := 0, slots := 0, locals := 55 } ss mm aa bel met kk 6 G 0 0 (xQ bel G (fun rv_ tv_ => rv_ = some (.int (qFin (qJf (qWc σ n) n a b e d a V) n V)) ∧ tv_ = (qJf (qWc σ n) n a b e d a V)) aa ss) 7 [(2, .int (nI k)), (1, .int (nI n)), (0, .ref (G.2.1 37))] [] (qW1 σ n k) := by
    intro NN7
    induction NN7 using Nat.strongRecOn with
    | ind NN7 ih7 =>
      intro k hk hNN7
      refine x_iload_n X dX9_works_7 rfl ?_
      refine x_bipush (v := nI 8) X dX9_works_8 (by decide) ?_
      refine x_icmpge (tgt := 31) X dX9_works_10 (by decide) (fun h10 => ?_) (fun h10 => ?_)
      · skip
        rw [xb_ge (x := nI k) (y := nI 8) (a := k) (b := 8) rfl rfl (by omega) (by omega)] at h10
        obtain rfl : k = 8 := by omega
        refine x_iconst (v := nI 0) X dX9_works_31 (by decide) ?_
        refine x_istore_n (lv' := [(2, .int (nI 0)), (1, .int (nI n)), (0, .ref (G.2.1 37))]) X dX9_works_32 rfl (by decide) rfl ?_
        have lp33 : ∀ (NN33 : Nat) (k : Nat) (hk : k ≤ 200), 200 - k = NN33 → xW pp l ee { frames := 2, cells := 0, slots := 0, locals := 55 } ss mm aa bel met kk 6 G 0 0 (xQ bel G (fun rv_ tv_ => rv_ = some (.int (qFin (qJf (qWc σ n) n a b e d a V) n V)) ∧ tv_ = (qJf (qWc σ n) n a b e d a V)) aa ss) 33 [(2, .int (nI k)), (1, .int (nI n)), (0, .ref (G.2.1 37))] [] (qW2 (qW1 σ n 8) n k) := by
          intro NN33
          induction NN33 using Nat.strongRecOn with
          | ind NN33 ih33 =>
            intro k hk hNN33
            refine x_iload_n X dX9_works_33 rfl ?_
            refine x_sipush (v := nI 200) X dX9_works_34 (by decide) ?_
            refine x_icmpge (tgt := 59) X dX9_works_37 (by decide) (fun h37 => ?_) (fun h37 => ?_)
            · skip
              rw [xb_ge (x := nI k) (y := nI 200) (a := k) (b := 200) rfl rfl (by omega) (by omega)] at h37
              obtain rfl : k = 200 := by omega
              refine x_aload_n X dX9_works_59 rfl ?_
              refine gf_X9_63 (k' := 53) X dX9_works_60 rfl rfl ?_
              refine x_iload_n X dX9_works_63 rfl ?_
              refine x_lconst (v := 0) X dX9_works_64 (by decide) ?_
              refine x_lastN X dX9_works_65 rfl (by omega) (by omega) ?_
              refine x_aload_n X dX9_works_66 rfl ?_
              refine gf_X9_66 (k' := 54) X dX9_works_67 rfl rfl ?_
              refine x_iload_n X dX9_works_70 rfl ?_
              refine x_iconst (v := nI 0) X dX9_works_71 (by decide) ?_
              refine x_zastN X dX9_works_72 rfl (by omega) (by omega) (Or.inl rfl) ?_
              refine x_aload_n X dX9_works_73 rfl ?_
              refine gf_X9_70 (k' := 55) X dX9_works_74 rfl rfl ?_
              refine x_iload_n X dX9_works_77 rfl ?_
              refine x_lconst (v := 0) X dX9_works_78 (by decide) ?_
              refine x_lastN X dX9_works_79 rfl (by omega) (by omega) ?_
              obtain ⟨σc, hσc⟩ : ∃ z : xS, z = qWc σ n := ⟨_, rfl⟩
              rw [show xsL (xsI (xsL (qW2 (qW1 σ n 8) n 200) 53 n 0) 54 n (nI 0)) 55 n 0 = σc from hσc.symm]
              have ho : qOff n σ σc := by rw [hσc]; exact qWc_off
              have hfc : xgI σc 37 25 = nI f := (ho.1 37 25 (by omega) (by omega)).trans hf
              have hVc : xgI σc 37 3 = nI V := (ho.1 37 3 (by omega) (by omega)).trans hV
              refine x_iconst (v := nI 0) X dX9_works_80 (by decide) ?_
              refine x_istore_n (lv' := [(2, .int (nI 0)), (1, .int (nI n)), (0, .ref (G.2.1 37))]) X dX9_works_81 rfl (by decide) rfl ?_
              refine x_aload_n X dX9_works_82 rfl ?_
              refine x_iconst (v := nI 0) X dX9_works_83 (by decide) ?_
              refine cv_X9_187 X (c_X9_of (k := 0) hfc (by omega)) dX9_works_84 rfl ⟨by decide, by decide, by decide, by decide⟩ rfl rfl (Nat.le_of_ble_eq_true rfl) (xk_i ?_)
              rw [show f + 0 = f from rfl, ho.1 50 f (by omega) (by omega), hq]
              refine x_tableIn (off := 395) (tgt := 482) X dX9_works_87 (by decide) (by decide) rfl (by decide) ?_
              refine x_aload_n X dX9_works_482 rfl ?_
              refine x_iload_n X dX9_works_483 rfl ?_
              refine cv_X9_215 X (c_X9_joinsD hn hfc hf2 ((ho.1 (50) (f + 1) (by omega) (by omega)).trans ha) ha2 ((ho.1 (50) (f + 2) (by omega) (by omega)).trans hb) hb2 ((ho.1 (50) (f + 3) (by omega) (by omega)).trans he) he2 ((ho.1 (50) (f + 4) (by omega) (by omega)).trans hd) hd2 (fun r hr => ⟨(ho.1 51 r (by omega) (by omega)).trans (hrf r hr).1, (hrf r hr).2⟩) hVc hV8 (hσc ▸ hj) (hσc ▸ hs) (hσc ▸ hr2) (hσc ▸ hr3)) dX9_works_484 rfl ⟨by decide, by decide, by decide, by decide⟩ rfl rfl (Nat.le_of_ble_eq_true rfl) (xk_i ?_)
              refine x_istore_n (lv' := [(2, .int 0), (1, .int (nI n)), (0, .ref (G.2.1 37))]) X dX9_works_487 rfl (by decide) rfl ?_
              refine x_goto (tgt := 568) X dX9_works_488 (by decide) ?_
              refine x_iload_n X dX9_works_568 rfl ?_
              refine x_ifeq (tgt := 576) X dX9_works_569 (by decide) (fun h569 => ?_) (fun h569 => ?_)
              · skip
                refine x_aload_n X dX9_works_576 rfl ?_
                refine x_iload_n X dX9_works_577 rfl ?_
                refine cv_X9_221 X (c_X9_isGreat hn (((qJf_off (by omega) hV8).1 37 3 (by omega) (by omega)).trans hVc) hV8) dX9_works_578 rfl ⟨by decide, by decide, by decide, by decide⟩ rfl rfl (Nat.le_of_ble_eq_true rfl) (xk_i ?_)
                refine x_ifeq (tgt := 589) X dX9_works_581 (by decide) (fun h581 => ?_) (fun h581 => ?_)
                · skip
                  have h581b := xB_0.mp h581
                  refine x_iconst (v := nI 0) X dX9_works_589 (by decide) ?_
                  exact x_iret X dX9_works_590 (xp_i (by first | (rw [← hσc]; exact (qFin_f h581b).symm) | (rw [← hσc]; exact (qFin_t h581b).symm)) (by first | (rw [← hσc]; done) | (rw [← hσc]; rfl)))
                · skip
                  have h581b := Classical.not_not.mp (fun z => h581 (xB_f z))
                  refine x_bipush (v := nI 8) X dX9_works_584 (by decide) ?_
                  refine x_goto (tgt := 590) X dX9_works_586 (by decide) ?_
                  exact x_iret X dX9_works_590 (xp_i (by first | (rw [← hσc]; exact (qFin_f h581b).symm) | (rw [← hσc]; exact (qFin_t h581b).symm)) (by first | (rw [← hσc]; done) | (rw [← hσc]; rfl)))
              · skip
                exact absurd (by decide) h569
            · skip
              rw [xb_ge (x := nI k) (y := nI 200) (a := k) (b := 200) rfl rfl (by omega) (by omega)] at h37
              refine x_aload_n X dX9_works_40 rfl ?_
              refine gf_X9_74 (k' := 56) X dX9_works_41 rfl rfl ?_
              refine x_sipush (v := nI 200) X dX9_works_44 (by decide) ?_
              refine x_iload_n X dX9_works_47 rfl ?_
              refine x_imul X dX9_works_48 ?_
              rw [pk_mul 200 n]
              refine x_iload_n X dX9_works_49 rfl ?_
              refine x_iadd X dX9_works_50 ?_
              rw [nI_add (200 * n) k]
              refine x_iconst (v := nI 0) X dX9_works_51 (by decide) ?_
              refine x_zastN X dX9_works_52 rfl (by omega) (by omega) (Or.inl rfl) ?_
              refine x_iinc (k := 0) (v := nI (k + 1)) (lv' := [(2, .int (nI (k + 1))), (1, .int (nI n)), (0, .ref (G.2.1 37))]) X dX9_works_53 rfl (xn_inc _) (by decide) rfl ?_
              refine x_goto (tgt := 33) X dX9_works_56 (by decide) ?_
              refine x_pick [0, 1, 2] rfl ?_
              exact ih33 _ (by omega) (k + 1) (by omega) rfl
        refine x_pick [0, 1, 2] rfl ?_
        exact lp33 _ 0 (by omega) rfl
      · skip
        rw [xb_ge (x := nI k) (y := nI 8) (a := k) (b := 8) rfl rfl (by omega) (by omega)] at h10
        refine x_aload_n X dX9_works_13 rfl ?_
        refine gf_X9_59 (k' := 52) X dX9_works_14 rfl rfl ?_
        refine x_bipush (v := nI 8) X dX9_works_17 (by decide) ?_
        refine x_iload_n X dX9_works_19 rfl ?_
        refine x_imul X dX9_works_20 ?_
        rw [pk_mul 8 n]
        refine x_iload_n X dX9_works_21 rfl ?_
        refine x_iadd X dX9_works_22 ?_
        rw [nI_add (8 * n) k]
        refine x_lconst (v := 0) X dX9_works_23 (by decide) ?_
        refine x_lastN X dX9_works_24 rfl (by omega) (by omega) ?_
        refine x_iinc (k := 0) (v := nI (k + 1)) (lv' := [(2, .int (nI (k + 1))), (1, .int (nI n)), (0, .ref (G.2.1 37))]) X dX9_works_25 rfl (xn_inc _) (by decide) rfl ?_
        refine x_goto (tgt := 7) X dX9_works_28 (by decide) ?_
        refine x_pick [0, 1, 2] rfl ?_
        exact ih7 _ (by omega) (k + 1) (by omega) rfl
  refine x_pick [0, 1, 2] rfl ?_
  exact lp7 _ 0 (by omega) rfl

set_option maxHeartbeats 4000000 in
set_option maxRecDepth 100000 in
theorem c_X9_works8 {l : Launch} {G : xG} {σ : xS} {n f V : Nat} (hn : n < 200) (hr : xgI σ 37 26 = nI n) (hf : xgI σ 37 25 = nI f) (hV : xgI σ 37 3 = nI V) (hV8 : V ≤ 8) (hq : xgI σ 50 f = nI 8) {p0 : Nat} (hf2 : f + 2 ≤ 1500) (hp : xgI σ 50 (f + 1) = nI p0) (hp2 : p0 < 8) : xFi l G yX9_works cX9_works 6 (Option.some Jvm.ClassFile.FieldType.int) 2 55 [.ref (G.2.1 37)] σ (qFin (qBet (qWc σ n) n p0 V) n V) (qBet (qWc σ n) n p0 V) := by
  refine xM.of (by decide) (Nat.le_of_ble_eq_true rfl) (fun pp ee ss mm aa bel met kk X => ?_)
  have X : xC pp ss mm met kk cX9_works 6 RX9 (Option.some Jvm.ClassFile.FieldType.int) G := X
  show xW pp l ee { frames := 2, cells := 0, slots := 0, locals := 55 } ss mm aa bel met kk 6 G 0 0 (xQ bel G (fun rv_ tv_ => rv_ = some (.int (qFin (qBet (qWc σ n) n p0 V) n V)) ∧ tv_ = (qBet (qWc σ n) n p0 V)) aa ss) 0 [(0, .ref (G.2.1 37))] [] σ
  refine x_aload_n X dX9_works_0 rfl ?_
  refine gf_X9_145 X dX9_works_1 rfl ?_
  rw [hr]
  refine x_istore_n (lv' := [(1, .int (nI n)), (0, .ref (G.2.1 37))]) X dX9_works_4 rfl (by decide) rfl ?_
  refine x_iconst (v := nI 0) X dX9_works_5 (by decide) ?_
  refine x_istore_n (lv' := [(2, .int (nI 0)), (1, .int (nI n)), (0, .ref (G.2.1 37))]) X dX9_works_6 rfl (by decide) rfl ?_
  have lp7 : ∀ (NN7 : Nat) (k : Nat) (hk : k ≤ 8), 8 - k = NN7 → xW pp l ee { frames := 2, cells := 0, slots := 0, locals := 55 } ss mm aa bel met kk 6 G 0 0 (xQ bel G (fun rv_ tv_ => rv_ = some (.int (qFin (qBet (qWc σ n) n p0 V) n V)) ∧ tv_ = (qBet (qWc σ n) n p0 V)) aa ss) 7 [(2, .int (nI k)), (1, .int (nI n)), (0, .ref (G.2.1 37))] [] (qW1 σ n k) := by
    intro NN7
    induction NN7 using Nat.strongRecOn with
    | ind NN7 ih7 =>
      intro k hk hNN7
      refine x_iload_n X dX9_works_7 rfl ?_
      refine x_bipush (v := nI 8) X dX9_works_8 (by decide) ?_
      refine x_icmpge (tgt := 31) X dX9_works_10 (by decide) (fun h10 => ?_) (fun h10 => ?_)
      · skip
        rw [xb_ge (x := nI k) (y := nI 8) (a := k) (b := 8) rfl rfl (by omega) (by omega)] at h10
        obtain rfl : k = 8 := by omega
        refine x_iconst (v := nI 0) X dX9_works_31 (by decide) ?_
        refine x_istore_n (lv' := [(2, .int (nI 0)), (1, .int (nI n)), (0, .ref (G.2.1 37))]) X dX9_works_32 rfl (by decide) rfl ?_
        have lp33 : ∀ (NN33 : Nat) (k : Nat) (hk : k ≤ 200), 200 - k = NN33 → xW pp l ee { frames := 2, cells := 0, slots := 0, locals := 55 } ss mm aa bel met kk 6 G 0 0 (xQ bel G (fun rv_ tv_ => rv_ = some (.int (qFin (qBet (qWc σ n) n p0 V) n V)) ∧ tv_ = (qBet (qWc σ n) n p0 V)) aa ss) 33 [(2, .int (nI k)), (1, .int (nI n)), (0, .ref (G.2.1 37))] [] (qW2 (qW1 σ n 8) n k) := by
          intro NN33
          induction NN33 using Nat.strongRecOn with
          | ind NN33 ih33 =>
            intro k hk hNN33
            refine x_iload_n X dX9_works_33 rfl ?_
            refine x_sipush (v := nI 200) X dX9_works_34 (by decide) ?_
            refine x_icmpge (tgt := 59) X dX9_works_37 (by decide) (fun h37 => ?_) (fun h37 => ?_)
            · skip
              rw [xb_ge (x := nI k) (y := nI 200) (a := k) (b := 200) rfl rfl (by omega) (by omega)] at h37
              obtain rfl : k = 200 := by omega
              refine x_aload_n X dX9_works_59 rfl ?_
              refine gf_X9_63 (k' := 53) X dX9_works_60 rfl rfl ?_
              refine x_iload_n X dX9_works_63 rfl ?_
              refine x_lconst (v := 0) X dX9_works_64 (by decide) ?_
              refine x_lastN X dX9_works_65 rfl (by omega) (by omega) ?_
              refine x_aload_n X dX9_works_66 rfl ?_
              refine gf_X9_66 (k' := 54) X dX9_works_67 rfl rfl ?_
              refine x_iload_n X dX9_works_70 rfl ?_
              refine x_iconst (v := nI 0) X dX9_works_71 (by decide) ?_
              refine x_zastN X dX9_works_72 rfl (by omega) (by omega) (Or.inl rfl) ?_
              refine x_aload_n X dX9_works_73 rfl ?_
              refine gf_X9_70 (k' := 55) X dX9_works_74 rfl rfl ?_
              refine x_iload_n X dX9_works_77 rfl ?_
              refine x_lconst (v := 0) X dX9_works_78 (by decide) ?_
              refine x_lastN X dX9_works_79 rfl (by omega) (by omega) ?_
              obtain ⟨σc, hσc⟩ : ∃ z : xS, z = qWc σ n := ⟨_, rfl⟩
              rw [show xsL (xsI (xsL (qW2 (qW1 σ n 8) n 200) 53 n 0) 54 n (nI 0)) 55 n 0 = σc from hσc.symm]
              have ho : qOff n σ σc := by rw [hσc]; exact qWc_off
              have hfc : xgI σc 37 25 = nI f := (ho.1 37 25 (by omega) (by omega)).trans hf
              have hVc : xgI σc 37 3 = nI V := (ho.1 37 3 (by omega) (by omega)).trans hV
              refine x_iconst (v := nI 0) X dX9_works_80 (by decide) ?_
              refine x_istore_n (lv' := [(2, .int (nI 0)), (1, .int (nI n)), (0, .ref (G.2.1 37))]) X dX9_works_81 rfl (by decide) rfl ?_
              refine x_aload_n X dX9_works_82 rfl ?_
              refine x_iconst (v := nI 0) X dX9_works_83 (by decide) ?_
              refine cv_X9_187 X (c_X9_of (k := 0) hfc (by omega)) dX9_works_84 rfl ⟨by decide, by decide, by decide, by decide⟩ rfl rfl (Nat.le_of_ble_eq_true rfl) (xk_i ?_)
              rw [show f + 0 = f from rfl, ho.1 50 f (by omega) (by omega), hq]
              refine x_tableIn (off := 404) (tgt := 491) X dX9_works_87 (by decide) (by decide) rfl (by decide) ?_
              refine x_iconst (v := nI 0) X dX9_works_491 (by decide) ?_
              refine x_istore_n (lv' := [(3, .int (nI 0)), (2, .int (nI 0)), (1, .int (nI n)), (0, .ref (G.2.1 37))]) X dX9_works_492 rfl (by decide) rfl ?_
              have lp493 : ∀ (NN493 : Nat) (k : Nat) (hk : k ≤ V), V - k = NN493 → xW pp l ee { frames := 2, cells := 0, slots := 0, locals := 55 } ss mm aa bel met kk 6 G 0 0 (xQ bel G (fun rv_ tv_ => rv_ = some (.int (qFin (qBet (qWc σ n) n p0 V) n V)) ∧ tv_ = (qBet (qWc σ n) n p0 V)) aa ss) 493 [(3, .int (nI k)), (2, .int (nI 0)), (1, .int (nI n)), (0, .ref (G.2.1 37))] [] (qRl σc n (xgI σc 41) k) := by
                intro NN493
                induction NN493 using Nat.strongRecOn with
                | ind NN493 ih493 =>
                  intro k hk hNN493
                  refine x_iload_n X dX9_works_493 rfl ?_
                  refine x_aload_n X dX9_works_494 rfl ?_
                  refine gf_X9_112 X dX9_works_495 rfl ?_
                  rw [(((qRl_off k (by omega)).1 (37) (3) (by omega) (by omega)).trans hVc)]
                  refine x_icmpge (tgt := 520) X dX9_works_498 (by decide) (fun h498 => ?_) (fun h498 => ?_)
                  · skip
                    rw [xb_ge (x := nI k) (y := nI V) (a := k) (b := V) rfl rfl (by omega) (by omega)] at h498
                    obtain rfl : k = V := by omega
                    refine x_aload_n X dX9_works_520 rfl ?_
                    refine gf_X9_63 (k' := 53) X dX9_works_521 rfl rfl ?_
                    refine x_iload_n X dX9_works_524 rfl ?_
                    refine x_aload_n X dX9_works_525 rfl ?_
                    refine x_aload_n X dX9_works_526 rfl ?_
                    refine x_iconst (v := nI 1) X dX9_works_527 (by decide) ?_
                    refine cv_X9_187 X (c_X9_of (k := 1) (((qRl_off _ (by omega)).1 (37) (25) (by omega) (by omega)).trans hfc) (by omega)) dX9_works_528 rfl ⟨by decide, by decide, by decide, by decide⟩ rfl rfl (Nat.le_of_ble_eq_true rfl) (xk_i ?_)
                    rw [(qRl_off _ (by omega)).1 50 (f + 1) (by omega) (by omega), ho.1 50 (f + 1) (by omega) (by omega), hp]
                    refine cv_X9_161 X (c_X9_costOf hp2 (((qRl_off _ (by omega)).1 (37) (3) (by omega) (by omega)).trans hVc) hV8) dX9_works_531 rfl ⟨by decide, by decide, by decide, by decide⟩ rfl rfl (Nat.le_of_ble_eq_true rfl) (xk_l ?_)
                    rw [qCost_c (fun b => (qRl_off _ (by omega)).1 41 b (by omega) (by omega)) (fun b => (qRl_off _ (by omega)).1 49 b (by omega) (by omega))]
                    refine x_lconst (v := 1) X dX9_works_534 (by decide) ?_
                    refine x_lsub X dX9_works_535 ?_
                    refine x_lastN X dX9_works_536 rfl (by omega) (by omega) ?_
                    refine x_aload_n X dX9_works_537 rfl ?_
                    refine gf_X9_66 (k' := 54) X dX9_works_538 rfl rfl ?_
                    refine x_iload_n X dX9_works_541 rfl ?_
                    refine x_iconst (v := nI 1) X dX9_works_542 (by decide) ?_
                    refine x_zastN X dX9_works_543 rfl (by omega) (by omega) (Or.inr rfl) ?_
                    refine x_aload_n X dX9_works_544 rfl ?_
                    refine gf_X9_70 (k' := 55) X dX9_works_545 rfl rfl ?_
                    refine x_iload_n X dX9_works_548 rfl ?_
                    refine x_aload_n X dX9_works_549 rfl ?_
                    refine x_aload_n X dX9_works_550 rfl ?_
                    refine x_iconst (v := nI 1) X dX9_works_551 (by decide) ?_
                    refine cv_X9_187 X (c_X9_of (k := 1) ((xgI_n (by omega)).trans (((qRl_off _ (by omega)).1 (37) (25) (by omega) (by omega)).trans hfc)) (by omega)) dX9_works_552 rfl ⟨by decide, by decide, by decide, by decide⟩ rfl rfl (Nat.le_of_ble_eq_true rfl) (xk_i ?_)
                    rw [xgI_n (by omega), xgI_L, (qRl_off _ (by omega)).1 50 (f + 1) (by omega) (by omega), ho.1 50 (f + 1) (by omega) (by omega), hp]
                    refine cv_X9_161 X (c_X9_costOf hp2 ((xgI_n (by omega)).trans (((qRl_off _ (by omega)).1 (37) (3) (by omega) (by omega)).trans hVc)) hV8) dX9_works_555 rfl ⟨by decide, by decide, by decide, by decide⟩ rfl rfl (Nat.le_of_ble_eq_true rfl) (xk_l ?_)
                    rw [show qCost (xsI (xsL (qRl σc n (xgI σc 41) k) 53 n (qCost σc p0 k - 1)) 54 n (nI 1)) p0 k = qCost σc p0 k from qCost_c (fun b => (xgI_n (by omega)).trans ((qRl_off k (by omega)).1 41 b (by omega) (by omega))) (fun b => (xgI_n (by omega)).trans ((qRl_off k (by omega)).1 49 b (by omega) (by omega)))]
                    refine x_lastN X dX9_works_558 rfl (by omega) (by omega) ?_
                    refine x_goto (tgt := 568) X dX9_works_559 (by decide) ?_
                    refine x_iload_n X dX9_works_568 rfl ?_
                    refine x_ifeq (tgt := 576) X dX9_works_569 (by decide) (fun h569 => ?_) (fun h569 => ?_)
                    · skip
                      rw [xb_eq (x := nI 0) (y := 0) (a := 0) (b := 0) rfl rfl (by omega) (by omega)] at h569
                      refine x_aload_n X dX9_works_576 rfl ?_
                      refine x_iload_n X dX9_works_577 rfl ?_
                      refine cv_X9_221 X (c_X9_isGreat hn (show xgI (xsI (xsL (qRl σc n (xgI σc 41) k) 53 n (qCost σc p0 k - 1)) 54 n (nI 1)) 37 3 = nI k from (xgI_n (by omega)).trans (((qRl_off k (by omega)).1 37 3 (by omega) (by omega)).trans hVc)) hV8) dX9_works_578 rfl ⟨by decide, by decide, by decide, by decide⟩ rfl rfl (Nat.le_of_ble_eq_true rfl) (xk_i ?_)
                      refine x_ifeq (tgt := 589) X dX9_works_581 (by decide) (fun h581 => ?_) (fun h581 => ?_)
                      · skip
                        have h581b := xB_0.mp h581
                        refine x_iconst (v := nI 0) X dX9_works_589 (by decide) ?_
                        exact x_iret X dX9_works_590 (xp_i (by first | (rw [← hσc]; exact (qFin_f h581b).symm) | (rw [← hσc]; exact (qFin_t h581b).symm)) (by first | (rw [← hσc]; done) | (rw [← hσc]; rfl)))
                      · skip
                        have h581b := Classical.not_not.mp (fun z => h581 (xB_f z))
                        refine x_bipush (v := nI 8) X dX9_works_584 (by decide) ?_
                        refine x_goto (tgt := 590) X dX9_works_586 (by decide) ?_
                        exact x_iret X dX9_works_590 (xp_i (by first | (rw [← hσc]; exact (qFin_f h581b).symm) | (rw [← hσc]; exact (qFin_t h581b).symm)) (by first | (rw [← hσc]; done) | (rw [← hσc]; rfl)))
                    · skip
                      exact absurd (by decide) h569
                  · skip
                    rw [xb_ge (x := nI k) (y := nI V) (a := k) (b := V) rfl rfl (by omega) (by omega)] at h498
                    refine x_aload_n X dX9_works_501 rfl ?_
                    refine x_iload_n X dX9_works_502 rfl ?_
                    refine x_iload_n X dX9_works_503 rfl ?_
                    refine x_aload_n X dX9_works_504 rfl ?_
                    refine gf_X9_19 (k' := 41) X dX9_works_505 rfl rfl ?_
                    refine x_iload_n X dX9_works_508 rfl ?_
                    refine x_ialdN X dX9_works_509 rfl (by omega) (by omega) ?_
                    rw [(qRl_off k (by omega)).1 41 _ (by omega) (by omega)]
                    refine x_i2l X dX9_works_510 ?_
                    refine cv_X9_200 X (c_X9_says hn (by omega)) dX9_works_511 rfl ⟨by decide, by decide, by decide, by decide⟩ rfl rfl (Nat.le_of_ble_eq_true rfl) (xk_v ?_)
                    refine x_iinc (k := 0) (v := nI (k + 1)) (lv' := [(3, .int (nI (k + 1))), (2, .int (nI 0)), (1, .int (nI n)), (0, .ref (G.2.1 37))]) X dX9_works_514 rfl (xn_inc _) (by decide) rfl ?_
                    refine x_goto (tgt := 493) X dX9_works_517 (by decide) ?_
                    refine x_pick [0, 1, 2, 3] rfl ?_
                    exact ih493 _ (by omega) (k + 1) (by omega) rfl
              refine x_pick [0, 1, 2, 3] rfl ?_
              exact lp493 _ 0 (by omega) rfl
            · skip
              rw [xb_ge (x := nI k) (y := nI 200) (a := k) (b := 200) rfl rfl (by omega) (by omega)] at h37
              refine x_aload_n X dX9_works_40 rfl ?_
              refine gf_X9_74 (k' := 56) X dX9_works_41 rfl rfl ?_
              refine x_sipush (v := nI 200) X dX9_works_44 (by decide) ?_
              refine x_iload_n X dX9_works_47 rfl ?_
              refine x_imul X dX9_works_48 ?_
              rw [pk_mul 200 n]
              refine x_iload_n X dX9_works_49 rfl ?_
              refine x_iadd X dX9_works_50 ?_
              rw [nI_add (200 * n) k]
              refine x_iconst (v := nI 0) X dX9_works_51 (by decide) ?_
              refine x_zastN X dX9_works_52 rfl (by omega) (by omega) (Or.inl rfl) ?_
              refine x_iinc (k := 0) (v := nI (k + 1)) (lv' := [(2, .int (nI (k + 1))), (1, .int (nI n)), (0, .ref (G.2.1 37))]) X dX9_works_53 rfl (xn_inc _) (by decide) rfl ?_
              refine x_goto (tgt := 33) X dX9_works_56 (by decide) ?_
              refine x_pick [0, 1, 2] rfl ?_
              exact ih33 _ (by omega) (k + 1) (by omega) rfl
        refine x_pick [0, 1, 2] rfl ?_
        exact lp33 _ 0 (by omega) rfl
      · skip
        rw [xb_ge (x := nI k) (y := nI 8) (a := k) (b := 8) rfl rfl (by omega) (by omega)] at h10
        refine x_aload_n X dX9_works_13 rfl ?_
        refine gf_X9_59 (k' := 52) X dX9_works_14 rfl rfl ?_
        refine x_bipush (v := nI 8) X dX9_works_17 (by decide) ?_
        refine x_iload_n X dX9_works_19 rfl ?_
        refine x_imul X dX9_works_20 ?_
        rw [pk_mul 8 n]
        refine x_iload_n X dX9_works_21 rfl ?_
        refine x_iadd X dX9_works_22 ?_
        rw [nI_add (8 * n) k]
        refine x_lconst (v := 0) X dX9_works_23 (by decide) ?_
        refine x_lastN X dX9_works_24 rfl (by omega) (by omega) ?_
        refine x_iinc (k := 0) (v := nI (k + 1)) (lv' := [(2, .int (nI (k + 1))), (1, .int (nI n)), (0, .ref (G.2.1 37))]) X dX9_works_25 rfl (xn_inc _) (by decide) rfl ?_
        refine x_goto (tgt := 7) X dX9_works_28 (by decide) ?_
        refine x_pick [0, 1, 2] rfl ?_
        exact ih7 _ (by omega) (k + 1) (by omega) rfl
  refine x_pick [0, 1, 2] rfl ?_
  exact lp7 _ 0 (by omega) rfl

set_option maxHeartbeats 4000000 in
set_option maxRecDepth 100000 in
theorem c_X9_works95 {l : Launch} {G : xG} {σ : xS} {n f V : Nat} (hn : n < 200) (hr : xgI σ 37 26 = nI n) (hf : xgI σ 37 25 = nI f) (hV : xgI σ 37 3 = nI V) (hV8 : V ≤ 8) (hq : xgI σ 50 f = nI 9) {r0 w : Nat} (hf2 : f + 3 ≤ 1500) (hr0 : xgI σ 50 (f + 1) = nI r0) (hr2 : r0 < n) (hw : xgI σ 50 (f + 2) = nI w) (hw2 : w < 8) (hz : (qPush (qWc σ n) n r0 w V).1 = 5) : xFi l G yX9_works cX9_works 6 (Option.some Jvm.ClassFile.FieldType.int) 2 55 [.ref (G.2.1 37)] σ (5) ((qPush (qWc σ n) n r0 w V).2) := by
  refine xM.of (by decide) (Nat.le_of_ble_eq_true rfl) (fun pp ee ss mm aa bel met kk X => ?_)
  have X : xC pp ss mm met kk cX9_works 6 RX9 (Option.some Jvm.ClassFile.FieldType.int) G := X
  show xW pp l ee { frames := 2, cells := 0, slots := 0, locals := 55 } ss mm aa bel met kk 6 G 0 0 (xQ bel G (fun rv_ tv_ => rv_ = some (.int (5)) ∧ tv_ = ((qPush (qWc σ n) n r0 w V).2)) aa ss) 0 [(0, .ref (G.2.1 37))] [] σ
  refine x_aload_n X dX9_works_0 rfl ?_
  refine gf_X9_145 X dX9_works_1 rfl ?_
  rw [hr]
  refine x_istore_n (lv' := [(1, .int (nI n)), (0, .ref (G.2.1 37))]) X dX9_works_4 rfl (by decide) rfl ?_
  refine x_iconst (v := nI 0) X dX9_works_5 (by decide) ?_
  refine x_istore_n (lv' := [(2, .int (nI 0)), (1, .int (nI n)), (0, .ref (G.2.1 37))]) X dX9_works_6 rfl (by decide) rfl ?_
  have lp7 : ∀ (NN7 : Nat) (k : Nat) (hk : k ≤ 8), 8 - k = NN7 → xW pp l ee { frames := 2, cells := 0, slots := 0, locals := 55 } ss mm aa bel met kk 6 G 0 0 (xQ bel G (fun rv_ tv_ => rv_ = some (.int (5)) ∧ tv_ = ((qPush (qWc σ n) n r0 w V).2)) aa ss) 7 [(2, .int (nI k)), (1, .int (nI n)), (0, .ref (G.2.1 37))] [] (qW1 σ n k) := by
    intro NN7
    induction NN7 using Nat.strongRecOn with
    | ind NN7 ih7 =>
      intro k hk hNN7
      refine x_iload_n X dX9_works_7 rfl ?_
      refine x_bipush (v := nI 8) X dX9_works_8 (by decide) ?_
      refine x_icmpge (tgt := 31) X dX9_works_10 (by decide) (fun h10 => ?_) (fun h10 => ?_)
      · skip
        rw [xb_ge (x := nI k) (y := nI 8) (a := k) (b := 8) rfl rfl (by omega) (by omega)] at h10
        obtain rfl : k = 8 := by omega
        refine x_iconst (v := nI 0) X dX9_works_31 (by decide) ?_
        refine x_istore_n (lv' := [(2, .int (nI 0)), (1, .int (nI n)), (0, .ref (G.2.1 37))]) X dX9_works_32 rfl (by decide) rfl ?_
        have lp33 : ∀ (NN33 : Nat) (k : Nat) (hk : k ≤ 200), 200 - k = NN33 → xW pp l ee { frames := 2, cells := 0, slots := 0, locals := 55 } ss mm aa bel met kk 6 G 0 0 (xQ bel G (fun rv_ tv_ => rv_ = some (.int (5)) ∧ tv_ = ((qPush (qWc σ n) n r0 w V).2)) aa ss) 33 [(2, .int (nI k)), (1, .int (nI n)), (0, .ref (G.2.1 37))] [] (qW2 (qW1 σ n 8) n k) := by
          intro NN33
          induction NN33 using Nat.strongRecOn with
          | ind NN33 ih33 =>
            intro k hk hNN33
            refine x_iload_n X dX9_works_33 rfl ?_
            refine x_sipush (v := nI 200) X dX9_works_34 (by decide) ?_
            refine x_icmpge (tgt := 59) X dX9_works_37 (by decide) (fun h37 => ?_) (fun h37 => ?_)
            · skip
              rw [xb_ge (x := nI k) (y := nI 200) (a := k) (b := 200) rfl rfl (by omega) (by omega)] at h37
              obtain rfl : k = 200 := by omega
              refine x_aload_n X dX9_works_59 rfl ?_
              refine gf_X9_63 (k' := 53) X dX9_works_60 rfl rfl ?_
              refine x_iload_n X dX9_works_63 rfl ?_
              refine x_lconst (v := 0) X dX9_works_64 (by decide) ?_
              refine x_lastN X dX9_works_65 rfl (by omega) (by omega) ?_
              refine x_aload_n X dX9_works_66 rfl ?_
              refine gf_X9_66 (k' := 54) X dX9_works_67 rfl rfl ?_
              refine x_iload_n X dX9_works_70 rfl ?_
              refine x_iconst (v := nI 0) X dX9_works_71 (by decide) ?_
              refine x_zastN X dX9_works_72 rfl (by omega) (by omega) (Or.inl rfl) ?_
              refine x_aload_n X dX9_works_73 rfl ?_
              refine gf_X9_70 (k' := 55) X dX9_works_74 rfl rfl ?_
              refine x_iload_n X dX9_works_77 rfl ?_
              refine x_lconst (v := 0) X dX9_works_78 (by decide) ?_
              refine x_lastN X dX9_works_79 rfl (by omega) (by omega) ?_
              obtain ⟨σc, hσc⟩ : ∃ z : xS, z = qWc σ n := ⟨_, rfl⟩
              rw [show xsL (xsI (xsL (qW2 (qW1 σ n 8) n 200) 53 n 0) 54 n (nI 0)) 55 n 0 = σc from hσc.symm]
              have ho : qOff n σ σc := by rw [hσc]; exact qWc_off
              have hfc : xgI σc 37 25 = nI f := (ho.1 37 25 (by omega) (by omega)).trans hf
              have hVc : xgI σc 37 3 = nI V := (ho.1 37 3 (by omega) (by omega)).trans hV
              refine x_iconst (v := nI 0) X dX9_works_80 (by decide) ?_
              refine x_istore_n (lv' := [(2, .int (nI 0)), (1, .int (nI n)), (0, .ref (G.2.1 37))]) X dX9_works_81 rfl (by decide) rfl ?_
              refine x_aload_n X dX9_works_82 rfl ?_
              refine x_iconst (v := nI 0) X dX9_works_83 (by decide) ?_
              refine cv_X9_187 X (c_X9_of (k := 0) hfc (by omega)) dX9_works_84 rfl ⟨by decide, by decide, by decide, by decide⟩ rfl rfl (Nat.le_of_ble_eq_true rfl) (xk_i ?_)
              rw [show f + 0 = f from rfl, ho.1 50 f (by omega) (by omega), hq]
              refine x_tableOut (tgt := 562) X dX9_works_87 (by decide) (by decide) ?_
              refine x_aload_n X dX9_works_562 rfl ?_
              refine x_iload_n X dX9_works_563 rfl ?_
              refine cv_X9_218 X (c_X9_pushes hn hfc hf2 ((ho.1 (50) (f + 1) (by omega) (by omega)).trans hr0) hr2 ((ho.1 (50) (f + 2) (by omega) (by omega)).trans hw) hw2 hVc hV8) dX9_works_564 rfl ⟨by decide, by decide, by decide, by decide⟩ rfl rfl (Nat.le_of_ble_eq_true rfl) (xk_i ?_)
              rw [show (qPush σc n r0 w V).1 = 5 from hσc ▸ hz]
              refine x_istore_n (lv' := [(2, .int 5), (1, .int (nI n)), (0, .ref (G.2.1 37))]) X dX9_works_567 rfl (by decide) rfl ?_
              refine x_iload_n X dX9_works_568 rfl ?_
              refine x_ifeq (tgt := 576) X dX9_works_569 (by decide) (fun h569 => ?_) (fun h569 => ?_)
              · skip
                exact absurd h569 (by decide)
              · skip
                refine x_iload_n X dX9_works_572 rfl ?_
                refine x_goto (tgt := 590) X dX9_works_573 (by decide) ?_
                exact x_iret X dX9_works_590 (xp_i (by rfl) (by rw [← hσc]))
            · skip
              rw [xb_ge (x := nI k) (y := nI 200) (a := k) (b := 200) rfl rfl (by omega) (by omega)] at h37
              refine x_aload_n X dX9_works_40 rfl ?_
              refine gf_X9_74 (k' := 56) X dX9_works_41 rfl rfl ?_
              refine x_sipush (v := nI 200) X dX9_works_44 (by decide) ?_
              refine x_iload_n X dX9_works_47 rfl ?_
              refine x_imul X dX9_works_48 ?_
              rw [pk_mul 200 n]
              refine x_iload_n X dX9_works_49 rfl ?_
              refine x_iadd X dX9_works_50 ?_
              rw [nI_add (200 * n) k]
              refine x_iconst (v := nI 0) X dX9_works_51 (by decide) ?_
              refine x_zastN X dX9_works_52 rfl (by omega) (by omega) (Or.inl rfl) ?_
              refine x_iinc (k := 0) (v := nI (k + 1)) (lv' := [(2, .int (nI (k + 1))), (1, .int (nI n)), (0, .ref (G.2.1 37))]) X dX9_works_53 rfl (xn_inc _) (by decide) rfl ?_
              refine x_goto (tgt := 33) X dX9_works_56 (by decide) ?_
              refine x_pick [0, 1, 2] rfl ?_
              exact ih33 _ (by omega) (k + 1) (by omega) rfl
        refine x_pick [0, 1, 2] rfl ?_
        exact lp33 _ 0 (by omega) rfl
      · skip
        rw [xb_ge (x := nI k) (y := nI 8) (a := k) (b := 8) rfl rfl (by omega) (by omega)] at h10
        refine x_aload_n X dX9_works_13 rfl ?_
        refine gf_X9_59 (k' := 52) X dX9_works_14 rfl rfl ?_
        refine x_bipush (v := nI 8) X dX9_works_17 (by decide) ?_
        refine x_iload_n X dX9_works_19 rfl ?_
        refine x_imul X dX9_works_20 ?_
        rw [pk_mul 8 n]
        refine x_iload_n X dX9_works_21 rfl ?_
        refine x_iadd X dX9_works_22 ?_
        rw [nI_add (8 * n) k]
        refine x_lconst (v := 0) X dX9_works_23 (by decide) ?_
        refine x_lastN X dX9_works_24 rfl (by omega) (by omega) ?_
        refine x_iinc (k := 0) (v := nI (k + 1)) (lv' := [(2, .int (nI (k + 1))), (1, .int (nI n)), (0, .ref (G.2.1 37))]) X dX9_works_25 rfl (xn_inc _) (by decide) rfl ?_
        refine x_goto (tgt := 7) X dX9_works_28 (by decide) ?_
        refine x_pick [0, 1, 2] rfl ?_
        exact ih7 _ (by omega) (k + 1) (by omega) rfl
  refine x_pick [0, 1, 2] rfl ?_
  exact lp7 _ 0 (by omega) rfl

set_option maxHeartbeats 4000000 in
set_option maxRecDepth 100000 in
theorem c_X9_works9 {l : Launch} {G : xG} {σ : xS} {n f V : Nat} (hn : n < 200) (hr : xgI σ 37 26 = nI n) (hf : xgI σ 37 25 = nI f) (hV : xgI σ 37 3 = nI V) (hV8 : V ≤ 8) (hq : xgI σ 50 f = nI 9) {r0 w : Nat} (hf2 : f + 3 ≤ 1500) (hr0 : xgI σ 50 (f + 1) = nI r0) (hr2 : r0 < n) (hw : xgI σ 50 (f + 2) = nI w) (hw2 : w < 8) (hz : (qPush (qWc σ n) n r0 w V).1 = 0) : xFi l G yX9_works cX9_works 6 (Option.some Jvm.ClassFile.FieldType.int) 2 55 [.ref (G.2.1 37)] σ (qFin ((qPush (qWc σ n) n r0 w V).2) n V) ((qPush (qWc σ n) n r0 w V).2) := by
  refine xM.of (by decide) (Nat.le_of_ble_eq_true rfl) (fun pp ee ss mm aa bel met kk X => ?_)
  have X : xC pp ss mm met kk cX9_works 6 RX9 (Option.some Jvm.ClassFile.FieldType.int) G := X
  show xW pp l ee { frames := 2, cells := 0, slots := 0, locals := 55 } ss mm aa bel met kk 6 G 0 0 (xQ bel G (fun rv_ tv_ => rv_ = some (.int (qFin ((qPush (qWc σ n) n r0 w V).2) n V)) ∧ tv_ = ((qPush (qWc σ n) n r0 w V).2)) aa ss) 0 [(0, .ref (G.2.1 37))] [] σ
  refine x_aload_n X dX9_works_0 rfl ?_
  refine gf_X9_145 X dX9_works_1 rfl ?_
  rw [hr]
  refine x_istore_n (lv' := [(1, .int (nI n)), (0, .ref (G.2.1 37))]) X dX9_works_4 rfl (by decide) rfl ?_
  refine x_iconst (v := nI 0) X dX9_works_5 (by decide) ?_
  refine x_istore_n (lv' := [(2, .int (nI 0)), (1, .int (nI n)), (0, .ref (G.2.1 37))]) X dX9_works_6 rfl (by decide) rfl ?_
  have lp7 : ∀ (NN7 : Nat) (k : Nat) (hk : k ≤ 8), 8 - k = NN7 → xW pp l ee { frames := 2, cells := 0, slots := 0, locals := 55 } ss mm aa bel met kk 6 G 0 0 (xQ bel G (fun rv_ tv_ => rv_ = some (.int (qFin ((qPush (qWc σ n) n r0 w V).2) n V)) ∧ tv_ = ((qPush (qWc σ n) n r0 w V).2)) aa ss) 7 [(2, .int (nI k)), (1, .int (nI n)), (0, .ref (G.2.1 37))] [] (qW1 σ n k) := by
    intro NN7
    induction NN7 using Nat.strongRecOn with
    | ind NN7 ih7 =>
      intro k hk hNN7
      refine x_iload_n X dX9_works_7 rfl ?_
      refine x_bipush (v := nI 8) X dX9_works_8 (by decide) ?_
      refine x_icmpge (tgt := 31) X dX9_works_10 (by decide) (fun h10 => ?_) (fun h10 => ?_)
      · skip
        rw [xb_ge (x := nI k) (y := nI 8) (a := k) (b := 8) rfl rfl (by omega) (by omega)] at h10
        obtain rfl : k = 8 := by omega
        refine x_iconst (v := nI 0) X dX9_works_31 (by decide) ?_
        refine x_istore_n (lv' := [(2, .int (nI 0)), (1, .int (nI n)), (0, .ref (G.2.1 37))]) X dX9_works_32 rfl (by decide) rfl ?_
        have lp33 : ∀ (NN33 : Nat) (k : Nat) (hk : k ≤ 200), 200 - k = NN33 → xW pp l ee { frames := 2, cells := 0, slots := 0, locals := 55 } ss mm aa bel met kk 6 G 0 0 (xQ bel G (fun rv_ tv_ => rv_ = some (.int (qFin ((qPush (qWc σ n) n r0 w V).2) n V)) ∧ tv_ = ((qPush (qWc σ n) n r0 w V).2)) aa ss) 33 [(2, .int (nI k)), (1, .int (nI n)), (0, .ref (G.2.1 37))] [] (qW2 (qW1 σ n 8) n k) := by
          intro NN33
          induction NN33 using Nat.strongRecOn with
          | ind NN33 ih33 =>
            intro k hk hNN33
            refine x_iload_n X dX9_works_33 rfl ?_
            refine x_sipush (v := nI 200) X dX9_works_34 (by decide) ?_
            refine x_icmpge (tgt := 59) X dX9_works_37 (by decide) (fun h37 => ?_) (fun h37 => ?_)
            · skip
              rw [xb_ge (x := nI k) (y := nI 200) (a := k) (b := 200) rfl rfl (by omega) (by omega)] at h37
              obtain rfl : k = 200 := by omega
              refine x_aload_n X dX9_works_59 rfl ?_
              refine gf_X9_63 (k' := 53) X dX9_works_60 rfl rfl ?_
              refine x_iload_n X dX9_works_63 rfl ?_
              refine x_lconst (v := 0) X dX9_works_64 (by decide) ?_
              refine x_lastN X dX9_works_65 rfl (by omega) (by omega) ?_
              refine x_aload_n X dX9_works_66 rfl ?_
              refine gf_X9_66 (k' := 54) X dX9_works_67 rfl rfl ?_
              refine x_iload_n X dX9_works_70 rfl ?_
              refine x_iconst (v := nI 0) X dX9_works_71 (by decide) ?_
              refine x_zastN X dX9_works_72 rfl (by omega) (by omega) (Or.inl rfl) ?_
              refine x_aload_n X dX9_works_73 rfl ?_
              refine gf_X9_70 (k' := 55) X dX9_works_74 rfl rfl ?_
              refine x_iload_n X dX9_works_77 rfl ?_
              refine x_lconst (v := 0) X dX9_works_78 (by decide) ?_
              refine x_lastN X dX9_works_79 rfl (by omega) (by omega) ?_
              obtain ⟨σc, hσc⟩ : ∃ z : xS, z = qWc σ n := ⟨_, rfl⟩
              rw [show xsL (xsI (xsL (qW2 (qW1 σ n 8) n 200) 53 n 0) 54 n (nI 0)) 55 n 0 = σc from hσc.symm]
              have ho : qOff n σ σc := by rw [hσc]; exact qWc_off
              have hfc : xgI σc 37 25 = nI f := (ho.1 37 25 (by omega) (by omega)).trans hf
              have hVc : xgI σc 37 3 = nI V := (ho.1 37 3 (by omega) (by omega)).trans hV
              refine x_iconst (v := nI 0) X dX9_works_80 (by decide) ?_
              refine x_istore_n (lv' := [(2, .int (nI 0)), (1, .int (nI n)), (0, .ref (G.2.1 37))]) X dX9_works_81 rfl (by decide) rfl ?_
              refine x_aload_n X dX9_works_82 rfl ?_
              refine x_iconst (v := nI 0) X dX9_works_83 (by decide) ?_
              refine cv_X9_187 X (c_X9_of (k := 0) hfc (by omega)) dX9_works_84 rfl ⟨by decide, by decide, by decide, by decide⟩ rfl rfl (Nat.le_of_ble_eq_true rfl) (xk_i ?_)
              rw [show f + 0 = f from rfl, ho.1 50 f (by omega) (by omega), hq]
              refine x_tableOut (tgt := 562) X dX9_works_87 (by decide) (by decide) ?_
              refine x_aload_n X dX9_works_562 rfl ?_
              refine x_iload_n X dX9_works_563 rfl ?_
              refine cv_X9_218 X (c_X9_pushes hn hfc hf2 ((ho.1 (50) (f + 1) (by omega) (by omega)).trans hr0) hr2 ((ho.1 (50) (f + 2) (by omega) (by omega)).trans hw) hw2 hVc hV8) dX9_works_564 rfl ⟨by decide, by decide, by decide, by decide⟩ rfl rfl (Nat.le_of_ble_eq_true rfl) (xk_i ?_)
              rw [show (qPush σc n r0 w V).1 = 0 from hσc ▸ hz]
              refine x_istore_n (lv' := [(2, .int 0), (1, .int (nI n)), (0, .ref (G.2.1 37))]) X dX9_works_567 rfl (by decide) rfl ?_
              refine x_iload_n X dX9_works_568 rfl ?_
              refine x_ifeq (tgt := 576) X dX9_works_569 (by decide) (fun h569 => ?_) (fun h569 => ?_)
              · skip
                refine x_aload_n X dX9_works_576 rfl ?_
                refine x_iload_n X dX9_works_577 rfl ?_
                refine cv_X9_221 X (c_X9_isGreat hn (((qPush_off (by omega) hw2).1 37 3 (by omega) (by omega)).trans hVc) hV8) dX9_works_578 rfl ⟨by decide, by decide, by decide, by decide⟩ rfl rfl (Nat.le_of_ble_eq_true rfl) (xk_i ?_)
                refine x_ifeq (tgt := 589) X dX9_works_581 (by decide) (fun h581 => ?_) (fun h581 => ?_)
                · skip
                  have h581b := xB_0.mp h581
                  refine x_iconst (v := nI 0) X dX9_works_589 (by decide) ?_
                  exact x_iret X dX9_works_590 (xp_i (by first | (rw [← hσc]; exact (qFin_f h581b).symm) | (rw [← hσc]; exact (qFin_t h581b).symm)) (by first | (rw [← hσc]; done) | (rw [← hσc]; rfl)))
                · skip
                  have h581b := Classical.not_not.mp (fun z => h581 (xB_f z))
                  refine x_bipush (v := nI 8) X dX9_works_584 (by decide) ?_
                  refine x_goto (tgt := 590) X dX9_works_586 (by decide) ?_
                  exact x_iret X dX9_works_590 (xp_i (by first | (rw [← hσc]; exact (qFin_f h581b).symm) | (rw [← hσc]; exact (qFin_t h581b).symm)) (by first | (rw [← hσc]; done) | (rw [← hσc]; rfl)))
              · skip
                exact absurd (by decide) h569
            · skip
              rw [xb_ge (x := nI k) (y := nI 200) (a := k) (b := 200) rfl rfl (by omega) (by omega)] at h37
              refine x_aload_n X dX9_works_40 rfl ?_
              refine gf_X9_74 (k' := 56) X dX9_works_41 rfl rfl ?_
              refine x_sipush (v := nI 200) X dX9_works_44 (by decide) ?_
              refine x_iload_n X dX9_works_47 rfl ?_
              refine x_imul X dX9_works_48 ?_
              rw [pk_mul 200 n]
              refine x_iload_n X dX9_works_49 rfl ?_
              refine x_iadd X dX9_works_50 ?_
              rw [nI_add (200 * n) k]
              refine x_iconst (v := nI 0) X dX9_works_51 (by decide) ?_
              refine x_zastN X dX9_works_52 rfl (by omega) (by omega) (Or.inl rfl) ?_
              refine x_iinc (k := 0) (v := nI (k + 1)) (lv' := [(2, .int (nI (k + 1))), (1, .int (nI n)), (0, .ref (G.2.1 37))]) X dX9_works_53 rfl (xn_inc _) (by decide) rfl ?_
              refine x_goto (tgt := 33) X dX9_works_56 (by decide) ?_
              refine x_pick [0, 1, 2] rfl ?_
              exact ih33 _ (by omega) (k + 1) (by omega) rfl
        refine x_pick [0, 1, 2] rfl ?_
        exact lp33 _ 0 (by omega) rfl
      · skip
        rw [xb_ge (x := nI k) (y := nI 8) (a := k) (b := 8) rfl rfl (by omega) (by omega)] at h10
        refine x_aload_n X dX9_works_13 rfl ?_
        refine gf_X9_59 (k' := 52) X dX9_works_14 rfl rfl ?_
        refine x_bipush (v := nI 8) X dX9_works_17 (by decide) ?_
        refine x_iload_n X dX9_works_19 rfl ?_
        refine x_imul X dX9_works_20 ?_
        rw [pk_mul 8 n]
        refine x_iload_n X dX9_works_21 rfl ?_
        refine x_iadd X dX9_works_22 ?_
        rw [nI_add (8 * n) k]
        refine x_lconst (v := 0) X dX9_works_23 (by decide) ?_
        refine x_lastN X dX9_works_24 rfl (by omega) (by omega) ?_
        refine x_iinc (k := 0) (v := nI (k + 1)) (lv' := [(2, .int (nI (k + 1))), (1, .int (nI n)), (0, .ref (G.2.1 37))]) X dX9_works_25 rfl (xn_inc _) (by decide) rfl ?_
        refine x_goto (tgt := 7) X dX9_works_28 (by decide) ?_
        refine x_pick [0, 1, 2] rfl ?_
        exact ih7 _ (by omega) (k + 1) (by omega) rfl
  refine x_pick [0, 1, 2] rfl ?_
  exact lp7 _ 0 (by omega) rfl
