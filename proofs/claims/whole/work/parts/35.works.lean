/-! The reference: works, a row for each kind -/
def qW1 (σ : xS) (n : Nat) : Nat → xS
  | 0 => σ
  | k + 1 => xsL (qW1 σ n k) 52 (8 * n + k) 0
def qW2 (σ : xS) (n : Nat) : Nat → xS
  | 0 => σ
  | k + 1 => xsI (qW2 σ n k) 56 (200 * n + k) 0
theorem qW1_off {σ : xS} {n : Nat} : ∀ k, k ≤ 8 → qOff n σ (qW1 σ n k)
  | 0, _ => qOff.rf
  | k + 1, h => (qW1_off k (by omega)).tr (qOff.f (by omega))
theorem qW2_off {σ : xS} {n : Nat} : ∀ k, k ≤ 200 → qOff n σ (qW2 σ n k)
  | 0, _ => qOff.rf
  | k + 1, h => (qW2_off k (by omega)).tr (qOff.a (by omega))
def qWc (σ : xS) (n : Nat) : xS := xsL (xsI (xsL (qW2 (qW1 σ n 8) n 200) 53 n 0) 54 n 0) 55 n 0
theorem qWc_off {σ : xS} {n : Nat} : qOff n σ (qWc σ n) := ((((qW1_off 8 (by omega)).tr (qW2_off 200 (by omega))).tr qOff.r).tr qOff.h).tr qOff.l
noncomputable def qFin (τ : xS) (n V : Nat) : Int32 := @ite _ (qG τ n V V) (Classical.propDecidable _) 8 0
theorem qFin_t {τ : xS} {n V : Nat} (h : qG τ n V V) : qFin τ n V = 8 := if_pos h
theorem qFin_f {τ : xS} {n V : Nat} (h : ¬ qG τ n V V) : qFin τ n V = 0 := if_neg h
def qRl (σ : xS) (n : Nat) (g : Nat → Int32) : Nat → xS
  | 0 => σ
  | k + 1 => xsL (qRl σ n g k) 52 (8 * n + k) (g k).toInt64
theorem qRl_off {σ : xS} {n : Nat} {g : Nat → Int32} : ∀ k, k ≤ 8 → qOff n σ (qRl σ n g k)
  | 0, _ => qOff.rf
  | k + 1, h => (qRl_off k (by omega)).tr (qOff.f (by omega))
def qSf (σ : xS) (n r : Nat) (o : Int64) : Nat → xS
  | 0 => σ
  | k + 1 => xsL (qSf σ n r o k) 52 (8 * n + k) (xgL (qSf σ n r o k) 52 (8 * n + k) + xgL (qSf σ n r o k) 52 (8 * r + k) * o)
theorem qSf_off {σ : xS} {n r : Nat} {o : Int64} : ∀ k, k ≤ 8 → qOff n σ (qSf σ n r o k)
  | 0, _ => qOff.rf
  | k + 1, h => (qSf_off k (by omega)).tr (qOff.f (by omega))
def qSone (σ : xS) (n r V : Nat) (o : Int64) : xS := qAssumes (xsL (qSf σ n r o V) 53 n (xgL (qSf σ n r o V) 53 n + xgL (qSf σ n r o V) 53 r * o)) n r (-1)
theorem qSone_off {σ : xS} {n r V : Nat} {o : Int64} (hV : V ≤ 8) (hn : n ≤ 200) : qOff n σ (qSone σ n r V o) := ((qSf_off V hV).tr qOff.r).tr (qAssumes_off hn)
def qSum (σ : xS) (n V : Nat) (pr : Nat → Nat) (po : Nat → Int32) : Nat → xS
  | 0 => σ
  | k + 1 => qSone (qSum σ n V pr po k) n (pr k) V (po k).toInt64
theorem qSum_off {σ : xS} {n V : Nat} {pr : Nat → Nat} {po : Nat → Int32} (hV : V ≤ 8) (hn : n ≤ 200) : ∀ k, qOff n σ (qSum σ n V pr po k)
  | 0 => qOff.rf
  | k + 1 => (qSum_off hV hn k).tr (qSone_off hV hn)
def qBrn (σ : xS) (n v : Nat) (b s : Int32) : xS := xsI (xsI (if s = 0 then xsL (xsL σ 52 (8 * n + v) 1) 53 n b.toInt64 else xsL (xsL σ 52 (8 * n + v) (-1)) 53 n ((-b).toInt64 - 1)) 56 (200 * n + n) 1) 37 27 (xgI σ 37 27 + 1)
def qBet (σ : xS) (n p V : Nat) : xS := xsL (xsI (xsL (qRl σ n (xgI σ 41) V) 53 n (qCost σ p V - 1)) 54 n 1) 55 n (qCost σ p V)

set_option maxHeartbeats 4000000 in
set_option maxRecDepth 100000 in
theorem c_X9_works1 {l : Launch} {G : xG} {σ : xS} {n f V : Nat} (hn : n < 200) (hr : xgI σ 37 26 = nI n) (hf : xgI σ 37 25 = nI f) (hV : xgI σ 37 3 = nI V) (hV8 : V ≤ 8) (hq : xgI σ 50 f = nI 1) {v : Nat} (hf2 : f + 2 ≤ 1500) (hv : xgI σ 50 (f + 1) = nI v) (hv2 : v < 8) : xFi l G yX9_works cX9_works 6 (Option.some Jvm.ClassFile.FieldType.int) 2 55 [.ref (G.2.1 37)] σ (qFin (xsL (xsL (qWc σ n) 52 (8 * n + v) 1) 53 n (xgI (qWc σ n) 40 v).toInt64) n V) (xsL (xsL (qWc σ n) 52 (8 * n + v) 1) 53 n (xgI (qWc σ n) 40 v).toInt64) := by
  refine xM.of (by decide) (Nat.le_of_ble_eq_true rfl) (fun pp ee ss mm aa bel met kk X => ?_)
  have X : xC pp ss mm met kk cX9_works 6 RX9 (Option.some Jvm.ClassFile.FieldType.int) G := X
  show xW pp l ee { frames := 2, cells := 0, slots := 0, locals := 55 } ss mm aa bel met kk 6 G 0 0 (xQ bel G (fun rv_ tv_ => rv_ = some (.int (qFin (xsL (xsL (qWc σ n) 52 (8 * n + v) 1) 53 n (xgI (qWc σ n) 40 v).toInt64) n V)) ∧ tv_ = (xsL (xsL (qWc σ n) 52 (8 * n + v) 1) 53 n (xgI (qWc σ n) 40 v).toInt64)) aa ss) 0 [(0, .ref (G.2.1 37))] [] σ
  refine x_aload_n X dX9_works_0 rfl ?_
  refine gf_X9_145 X dX9_works_1 rfl ?_
  rw [hr]
  refine x_istore_n (lv' := [(1, .int (nI n)), (0, .ref (G.2.1 37))]) X dX9_works_4 rfl (by decide) rfl ?_
  refine x_iconst (v := nI 0) X dX9_works_5 (by decide) ?_
  refine x_istore_n (lv' := [(2, .int (nI 0)), (1, .int (nI n)), (0, .ref (G.2.1 37))]) X dX9_works_6 rfl (by decide) rfl ?_
  have lp7 : ∀ (NN7 : Nat) (k : Nat) (hk : k ≤ 8), 8 - k = NN7 → xW pp l ee { frames := 2, cells := 0, slots := 0, locals := 55 } ss mm aa bel met kk 6 G 0 0 (xQ bel G (fun rv_ tv_ => rv_ = some (.int (qFin (xsL (xsL (qWc σ n) 52 (8 * n + v) 1) 53 n (xgI (qWc σ n) 40 v).toInt64) n V)) ∧ tv_ = (xsL (xsL (qWc σ n) 52 (8 * n + v) 1) 53 n (xgI (qWc σ n) 40 v).toInt64)) aa ss) 7 [(2, .int (nI k)), (1, .int (nI n)), (0, .ref (G.2.1 37))] [] (qW1 σ n k) := by
    intro NN7
    induction NN7 using Nat.strongRecOn with
    | ind NN7 ih7 =>
      intro k hk hNN7
      refine x_iload_n X dX9_works_7 rfl ?_
      refine x_bipush (v := nI 8) X dX9_works_8 (by decide) ?_
      refine x_icmpge (tgt := 31) X dX9_works_10 (by decide) (fun h10 => ?_) (fun h10 => ?_)
      · skip
        rw [xb_ge (x := nI k) (y := nI 8) (a := k) (b := 8) rfl rfl (by omega) (by omega)] at h10
        obtain rfl : k = 8 := by omega
        refine x_iconst (v := nI 0) X dX9_works_31 (by decide) ?_
        refine x_istore_n (lv' := [(2, .int (nI 0)), (1, .int (nI n)), (0, .ref (G.2.1 37))]) X dX9_works_32 rfl (by decide) rfl ?_
        have lp33 : ∀ (NN33 : Nat) (k : Nat) (hk : k ≤ 200), 200 - k = NN33 → xW pp l ee { frames := 2, cells := 0, slots := 0, locals := 55 } ss mm aa bel met kk 6 G 0 0 (xQ bel G (fun rv_ tv_ => rv_ = some (.int (qFin (xsL (xsL (qWc σ n) 52 (8 * n + v) 1) 53 n (xgI (qWc σ n) 40 v).toInt64) n V)) ∧ tv_ = (xsL (xsL (qWc σ n) 52 (8 * n + v) 1) 53 n (xgI (qWc σ n) 40 v).toInt64)) aa ss) 33 [(2, .int (nI k)), (1, .int (nI n)), (0, .ref (G.2.1 37))] [] (qW2 (qW1 σ n 8) n k) := by
          intro NN33
          induction NN33 using Nat.strongRecOn with
          | ind NN33 ih33 =>
            intro k hk hNN33
            refine x_iload_n X dX9_works_33 rfl ?_
            refine x_sipush (v := nI 200) X dX9_works_34 (by decide) ?_
            refine x_icmpge (tgt := 59) X dX9_works_37 (by decide) (fun h37 => ?_) (fun h37 => ?_)
            · skip
              rw [xb_ge (x := nI k) (y := nI 200) (a := k) (b := 200) rfl rfl (by omega) (by omega)] at h37
              obtain rfl : k = 200 := by omega
              refine x_aload_n X dX9_works_59 rfl ?_
              refine gf_X9_63 (k' := 53) X dX9_works_60 rfl rfl ?_
              refine x_iload_n X dX9_works_63 rfl ?_
              refine x_lconst (v := 0) X dX9_works_64 (by decide) ?_
              refine x_lastN X dX9_works_65 rfl (by omega) (by omega) ?_
              refine x_aload_n X dX9_works_66 rfl ?_
              refine gf_X9_66 (k' := 54) X dX9_works_67 rfl rfl ?_
              refine x_iload_n X dX9_works_70 rfl ?_
              refine x_iconst (v := nI 0) X dX9_works_71 (by decide) ?_
              refine x_zastN X dX9_works_72 rfl (by omega) (by omega) (Or.inl rfl) ?_
              refine x_aload_n X dX9_works_73 rfl ?_
              refine gf_X9_70 (k' := 55) X dX9_works_74 rfl rfl ?_
              refine x_iload_n X dX9_works_77 rfl ?_
              refine x_lconst (v := 0) X dX9_works_78 (by decide) ?_
              refine x_lastN X dX9_works_79 rfl (by omega) (by omega) ?_
              obtain ⟨σc, hσc⟩ : ∃ z : xS, z = qWc σ n := ⟨_, rfl⟩
              rw [show xsL (xsI (xsL (qW2 (qW1 σ n 8) n 200) 53 n 0) 54 n (nI 0)) 55 n 0 = σc from hσc.symm]
              have ho : qOff n σ σc := by rw [hσc]; exact qWc_off
              have hfc : xgI σc 37 25 = nI f := (ho.1 37 25 (by omega) (by omega)).trans hf
              have hVc : xgI σc 37 3 = nI V := (ho.1 37 3 (by omega) (by omega)).trans hV
              refine x_iconst (v := nI 0) X dX9_works_80 (by decide) ?_
              refine x_istore_n (lv' := [(2, .int (nI 0)), (1, .int (nI n)), (0, .ref (G.2.1 37))]) X dX9_works_81 rfl (by decide) rfl ?_
              refine x_aload_n X dX9_works_82 rfl ?_
              refine x_iconst (v := nI 0) X dX9_works_83 (by decide) ?_
              refine cv_X9_187 X (c_X9_of (k := 0) hfc (by omega)) dX9_works_84 rfl ⟨by decide, by decide, by decide, by decide⟩ rfl rfl (Nat.le_of_ble_eq_true rfl) (xk_i ?_)
              rw [show f + 0 = f from rfl, ho.1 50 f (by omega) (by omega), hq]
              refine x_tableIn (off := 107) (tgt := 194) X dX9_works_87 (by decide) (by decide) rfl (by decide) ?_
              refine x_aload_n X dX9_works_194 rfl ?_
              refine x_iload_n X dX9_works_195 rfl ?_
              refine x_aload_n X dX9_works_196 rfl ?_
              refine x_iconst (v := nI 1) X dX9_works_197 (by decide) ?_
              refine cv_X9_187 X (c_X9_of (k := 1) hfc (by omega)) dX9_works_198 rfl ⟨by decide, by decide, by decide, by decide⟩ rfl rfl (Nat.le_of_ble_eq_true rfl) (xk_i ?_)
              rw [ho.1 50 (f + 1) (by omega) (by omega), hv]
              refine x_lconst (v := 1) X dX9_works_201 (by decide) ?_
              refine cv_X9_200 X (c_X9_says hn hv2) dX9_works_202 rfl ⟨by decide, by decide, by decide, by decide⟩ rfl rfl (Nat.le_of_ble_eq_true rfl) (xk_v ?_)
              refine x_aload_n X dX9_works_205 rfl ?_
              refine gf_X9_63 (k' := 53) X dX9_works_206 rfl rfl ?_
              refine x_iload_n X dX9_works_209 rfl ?_
              refine x_aload_n X dX9_works_210 rfl ?_
              refine gf_X9_16 (k' := 40) X dX9_works_211 rfl rfl ?_
              refine x_aload_n X dX9_works_214 rfl ?_
              refine x_iconst (v := nI 1) X dX9_works_215 (by decide) ?_
              refine cv_X9_187 X (c_X9_of (k := 1) hfc (by omega)) dX9_works_216 rfl ⟨by decide, by decide, by decide, by decide⟩ rfl rfl (Nat.le_of_ble_eq_true rfl) (xk_i ?_)
              rw [xgI_L, ho.1 50 (f + 1) (by omega) (by omega), hv]
              refine x_ialdN X dX9_works_219 rfl (by omega) (by omega) ?_
              refine x_i2l X dX9_works_220 ?_
              refine x_lastN X dX9_works_221 rfl (by omega) (by omega) ?_
              refine x_goto (tgt := 568) X dX9_works_222 (by decide) ?_
              refine x_iload_n X dX9_works_568 rfl ?_
              refine x_ifeq (tgt := 576) X dX9_works_569 (by decide) (fun h569 => ?_) (fun h569 => ?_)
              · skip
                rw [xb_eq (x := nI 0) (y := 0) (a := 0) (b := 0) rfl rfl (by omega) (by omega)] at h569
                refine x_aload_n X dX9_works_576 rfl ?_
                refine x_iload_n X dX9_works_577 rfl ?_
                refine cv_X9_221 X (c_X9_isGreat hn hVc hV8) dX9_works_578 rfl ⟨by decide, by decide, by decide, by decide⟩ rfl rfl (Nat.le_of_ble_eq_true rfl) (xk_i ?_)
                refine x_ifeq (tgt := 589) X dX9_works_581 (by decide) (fun h581 => ?_) (fun h581 => ?_)
                · skip
                  have h581b := xB_0.mp h581
                  refine x_iconst (v := nI 0) X dX9_works_589 (by decide) ?_
                  exact x_iret X dX9_works_590 (xp_i (by first | (rw [← hσc]; exact (qFin_f h581b).symm) | (rw [← hσc]; exact (qFin_t h581b).symm)) (by first | (rw [← hσc]; done) | (rw [← hσc]; rfl)))
                · skip
                  have h581b := Classical.not_not.mp (fun z => h581 (xB_f z))
                  refine x_bipush (v := nI 8) X dX9_works_584 (by decide) ?_
                  refine x_goto (tgt := 590) X dX9_works_586 (by decide) ?_
                  exact x_iret X dX9_works_590 (xp_i (by first | (rw [← hσc]; exact (qFin_f h581b).symm) | (rw [← hσc]; exact (qFin_t h581b).symm)) (by first | (rw [← hσc]; done) | (rw [← hσc]; rfl)))
              · skip
                exact absurd (by decide) h569
            · skip
              rw [xb_ge (x := nI k) (y := nI 200) (a := k) (b := 200) rfl rfl (by omega) (by omega)] at h37
              refine x_aload_n X dX9_works_40 rfl ?_
              refine gf_X9_74 (k' := 56) X dX9_works_41 rfl rfl ?_
              refine x_sipush (v := nI 200) X dX9_works_44 (by decide) ?_
              refine x_iload_n X dX9_works_47 rfl ?_
              refine x_imul X dX9_works_48 ?_
              rw [pk_mul 200 n]
              refine x_iload_n X dX9_works_49 rfl ?_
              refine x_iadd X dX9_works_50 ?_
              rw [nI_add (200 * n) k]
              refine x_iconst (v := nI 0) X dX9_works_51 (by decide) ?_
              refine x_zastN X dX9_works_52 rfl (by omega) (by omega) (Or.inl rfl) ?_
              refine x_iinc (k := 0) (v := nI (k + 1)) (lv' := [(2, .int (nI (k + 1))), (1, .int (nI n)), (0, .ref (G.2.1 37))]) X dX9_works_53 rfl (xn_inc _) (by decide) rfl ?_
              refine x_goto (tgt := 33) X dX9_works_56 (by decide) ?_
              refine x_pick [0, 1, 2] rfl ?_
              exact ih33 _ (by omega) (k + 1) (by omega) rfl
        refine x_pick [0, 1, 2] rfl ?_
        exact lp33 _ 0 (by omega) rfl
      · skip
        rw [xb_ge (x := nI k) (y := nI 8) (a := k) (b := 8) rfl rfl (by omega) (by omega)] at h10
        refine x_aload_n X dX9_works_13 rfl ?_
        refine gf_X9_59 (k' := 52) X dX9_works_14 rfl rfl ?_
        refine x_bipush (v := nI 8) X dX9_works_17 (by decide) ?_
        refine x_iload_n X dX9_works_19 rfl ?_
        refine x_imul X dX9_works_20 ?_
        rw [pk_mul 8 n]
        refine x_iload_n X dX9_works_21 rfl ?_
        refine x_iadd X dX9_works_22 ?_
        rw [nI_add (8 * n) k]
        refine x_lconst (v := 0) X dX9_works_23 (by decide) ?_
        refine x_lastN X dX9_works_24 rfl (by omega) (by omega) ?_
        refine x_iinc (k := 0) (v := nI (k + 1)) (lv' := [(2, .int (nI (k + 1))), (1, .int (nI n)), (0, .ref (G.2.1 37))]) X dX9_works_25 rfl (xn_inc _) (by decide) rfl ?_
        refine x_goto (tgt := 7) X dX9_works_28 (by decide) ?_
        refine x_pick [0, 1, 2] rfl ?_
        exact ih7 _ (by omega) (k + 1) (by omega) rfl
  refine x_pick [0, 1, 2] rfl ?_
  exact lp7 _ 0 (by omega) rfl

set_option maxHeartbeats 4000000 in
set_option maxRecDepth 100000 in
theorem c_X9_works2 {l : Launch} {G : xG} {σ : xS} {n f V : Nat} (hn : n < 200) (hr : xgI σ 37 26 = nI n) (hf : xgI σ 37 25 = nI f) (hV : xgI σ 37 3 = nI V) (hV8 : V ≤ 8) (hq : xgI σ 50 f = nI 2) {v : Nat} (hf2 : f + 2 ≤ 1500) (hv : xgI σ 50 (f + 1) = nI v) (hv2 : v < 8) : xFi l G yX9_works cX9_works 6 (Option.some Jvm.ClassFile.FieldType.int) 2 55 [.ref (G.2.1 37)] σ (qFin (xsL (xsL (qWc σ n) 52 (8 * n + v) (-1)) 53 n (-xgI (qWc σ n) 39 v).toInt64) n V) (xsL (xsL (qWc σ n) 52 (8 * n + v) (-1)) 53 n (-xgI (qWc σ n) 39 v).toInt64) := by
  refine xM.of (by decide) (Nat.le_of_ble_eq_true rfl) (fun pp ee ss mm aa bel met kk X => ?_)
  have X : xC pp ss mm met kk cX9_works 6 RX9 (Option.some Jvm.ClassFile.FieldType.int) G := X
  show xW pp l ee { frames := 2, cells := 0, slots := 0, locals := 55 } ss mm aa bel met kk 6 G 0 0 (xQ bel G (fun rv_ tv_ => rv_ = some (.int (qFin (xsL (xsL (qWc σ n) 52 (8 * n + v) (-1)) 53 n (-xgI (qWc σ n) 39 v).toInt64) n V)) ∧ tv_ = (xsL (xsL (qWc σ n) 52 (8 * n + v) (-1)) 53 n (-xgI (qWc σ n) 39 v).toInt64)) aa ss) 0 [(0, .ref (G.2.1 37))] [] σ
  refine x_aload_n X dX9_works_0 rfl ?_
  refine gf_X9_145 X dX9_works_1 rfl ?_
  rw [hr]
  refine x_istore_n (lv' := [(1, .int (nI n)), (0, .ref (G.2.1 37))]) X dX9_works_4 rfl (by decide) rfl ?_
  refine x_iconst (v := nI 0) X dX9_works_5 (by decide) ?_
  refine x_istore_n (lv' := [(2, .int (nI 0)), (1, .int (nI n)), (0, .ref (G.2.1 37))]) X dX9_works_6 rfl (by decide) rfl ?_
  have lp7 : ∀ (NN7 : Nat) (k : Nat) (hk : k ≤ 8), 8 - k = NN7 → xW pp l ee { frames := 2, cells := 0, slots := 0, locals := 55 } ss mm aa bel met kk 6 G 0 0 (xQ bel G (fun rv_ tv_ => rv_ = some (.int (qFin (xsL (xsL (qWc σ n) 52 (8 * n + v) (-1)) 53 n (-xgI (qWc σ n) 39 v).toInt64) n V)) ∧ tv_ = (xsL (xsL (qWc σ n) 52 (8 * n + v) (-1)) 53 n (-xgI (qWc σ n) 39 v).toInt64)) aa ss) 7 [(2, .int (nI k)), (1, .int (nI n)), (0, .ref (G.2.1 37))] [] (qW1 σ n k) := by
    intro NN7
    induction NN7 using Nat.strongRecOn with
    | ind NN7 ih7 =>
      intro k hk hNN7
      refine x_iload_n X dX9_works_7 rfl ?_
      refine x_bipush (v := nI 8) X dX9_works_8 (by decide) ?_
      refine x_icmpge (tgt := 31) X dX9_works_10 (by decide) (fun h10 => ?_) (fun h10 => ?_)
      · skip
        rw [xb_ge (x := nI k) (y := nI 8) (a := k) (b := 8) rfl rfl (by omega) (by omega)] at h10
        obtain rfl : k = 8 := by omega
        refine x_iconst (v := nI 0) X dX9_works_31 (by decide) ?_
        refine x_istore_n (lv' := [(2, .int (nI 0)), (1, .int (nI n)), (0, .ref (G.2.1 37))]) X dX9_works_32 rfl (by decide) rfl ?_
        have lp33 : ∀ (NN33 : Nat) (k : Nat) (hk : k ≤ 200), 200 - k = NN33 → xW pp l ee { frames := 2, cells := 0, slots := 0, locals := 55 } ss mm aa bel met kk 6 G 0 0 (xQ bel G (fun rv_ tv_ => rv_ = some (.int (qFin (xsL (xsL (qWc σ n) 52 (8 * n + v) (-1)) 53 n (-xgI (qWc σ n) 39 v).toInt64) n V)) ∧ tv_ = (xsL (xsL (qWc σ n) 52 (8 * n + v) (-1)) 53 n (-xgI (qWc σ n) 39 v).toInt64)) aa ss) 33 [(2, .int (nI k)), (1, .int (nI n)), (0, .ref (G.2.1 37))] [] (qW2 (qW1 σ n 8) n k) := by
          intro NN33
          induction NN33 using Nat.strongRecOn with
          | ind NN33 ih33 =>
            intro k hk hNN33
            refine x_iload_n X dX9_works_33 rfl ?_
            refine x_sipush (v := nI 200) X dX9_works_34 (by decide) ?_
            refine x_icmpge (tgt := 59) X dX9_works_37 (by decide) (fun h37 => ?_) (fun h37 => ?_)
            · skip
              rw [xb_ge (x := nI k) (y := nI 200) (a := k) (b := 200) rfl rfl (by omega) (by omega)] at h37
              obtain rfl : k = 200 := by omega
              refine x_aload_n X dX9_works_59 rfl ?_
              refine gf_X9_63 (k' := 53) X dX9_works_60 rfl rfl ?_
              refine x_iload_n X dX9_works_63 rfl ?_
              refine x_lconst (v := 0) X dX9_works_64 (by decide) ?_
              refine x_lastN X dX9_works_65 rfl (by omega) (by omega) ?_
              refine x_aload_n X dX9_works_66 rfl ?_
              refine gf_X9_66 (k' := 54) X dX9_works_67 rfl rfl ?_
              refine x_iload_n X dX9_works_70 rfl ?_
              refine x_iconst (v := nI 0) X dX9_works_71 (by decide) ?_
              refine x_zastN X dX9_works_72 rfl (by omega) (by omega) (Or.inl rfl) ?_
              refine x_aload_n X dX9_works_73 rfl ?_
              refine gf_X9_70 (k' := 55) X dX9_works_74 rfl rfl ?_
              refine x_iload_n X dX9_works_77 rfl ?_
              refine x_lconst (v := 0) X dX9_works_78 (by decide) ?_
              refine x_lastN X dX9_works_79 rfl (by omega) (by omega) ?_
              obtain ⟨σc, hσc⟩ : ∃ z : xS, z = qWc σ n := ⟨_, rfl⟩
              rw [show xsL (xsI (xsL (qW2 (qW1 σ n 8) n 200) 53 n 0) 54 n (nI 0)) 55 n 0 = σc from hσc.symm]
              have ho : qOff n σ σc := by rw [hσc]; exact qWc_off
              have hfc : xgI σc 37 25 = nI f := (ho.1 37 25 (by omega) (by omega)).trans hf
              have hVc : xgI σc 37 3 = nI V := (ho.1 37 3 (by omega) (by omega)).trans hV
              refine x_iconst (v := nI 0) X dX9_works_80 (by decide) ?_
              refine x_istore_n (lv' := [(2, .int (nI 0)), (1, .int (nI n)), (0, .ref (G.2.1 37))]) X dX9_works_81 rfl (by decide) rfl ?_
              refine x_aload_n X dX9_works_82 rfl ?_
              refine x_iconst (v := nI 0) X dX9_works_83 (by decide) ?_
              refine cv_X9_187 X (c_X9_of (k := 0) hfc (by omega)) dX9_works_84 rfl ⟨by decide, by decide, by decide, by decide⟩ rfl rfl (Nat.le_of_ble_eq_true rfl) (xk_i ?_)
              rw [show f + 0 = f from rfl, ho.1 50 f (by omega) (by omega), hq]
              refine x_tableIn (off := 138) (tgt := 225) X dX9_works_87 (by decide) (by decide) rfl (by decide) ?_
              refine x_aload_n X dX9_works_225 rfl ?_
              refine x_iload_n X dX9_works_226 rfl ?_
              refine x_aload_n X dX9_works_227 rfl ?_
              refine x_iconst (v := nI 1) X dX9_works_228 (by decide) ?_
              refine cv_X9_187 X (c_X9_of (k := 1) hfc (by omega)) dX9_works_229 rfl ⟨by decide, by decide, by decide, by decide⟩ rfl rfl (Nat.le_of_ble_eq_true rfl) (xk_i ?_)
              rw [ho.1 50 (f + 1) (by omega) (by omega), hv]
              refine x_ldc2 X dX9_works_232 wk_X9_204 ?_
              refine cv_X9_200 X (c_X9_says hn hv2) dX9_works_235 rfl ⟨by decide, by decide, by decide, by decide⟩ rfl rfl (Nat.le_of_ble_eq_true rfl) (xk_v ?_)
              refine x_aload_n X dX9_works_238 rfl ?_
              refine gf_X9_63 (k' := 53) X dX9_works_239 rfl rfl ?_
              refine x_iload_n X dX9_works_242 rfl ?_
              refine x_aload_n X dX9_works_243 rfl ?_
              refine gf_X9_13 (k' := 39) X dX9_works_244 rfl rfl ?_
              refine x_aload_n X dX9_works_247 rfl ?_
              refine x_iconst (v := nI 1) X dX9_works_248 (by decide) ?_
              refine cv_X9_187 X (c_X9_of (k := 1) hfc (by omega)) dX9_works_249 rfl ⟨by decide, by decide, by decide, by decide⟩ rfl rfl (Nat.le_of_ble_eq_true rfl) (xk_i ?_)
              rw [xgI_L, ho.1 50 (f + 1) (by omega) (by omega), hv]
              refine x_ialdN X dX9_works_252 rfl (by omega) (by omega) ?_
              refine x_ineg X dX9_works_253 ?_
              refine x_i2l X dX9_works_254 ?_
              refine x_lastN X dX9_works_255 rfl (by omega) (by omega) ?_
              refine x_goto (tgt := 568) X dX9_works_256 (by decide) ?_
              refine x_iload_n X dX9_works_568 rfl ?_
              refine x_ifeq (tgt := 576) X dX9_works_569 (by decide) (fun h569 => ?_) (fun h569 => ?_)
              · skip
                rw [xb_eq (x := nI 0) (y := 0) (a := 0) (b := 0) rfl rfl (by omega) (by omega)] at h569
                refine x_aload_n X dX9_works_576 rfl ?_
                refine x_iload_n X dX9_works_577 rfl ?_
                refine cv_X9_221 X (c_X9_isGreat hn hVc hV8) dX9_works_578 rfl ⟨by decide, by decide, by decide, by decide⟩ rfl rfl (Nat.le_of_ble_eq_true rfl) (xk_i ?_)
                refine x_ifeq (tgt := 589) X dX9_works_581 (by decide) (fun h581 => ?_) (fun h581 => ?_)
                · skip
                  have h581b := xB_0.mp h581
                  refine x_iconst (v := nI 0) X dX9_works_589 (by decide) ?_
                  exact x_iret X dX9_works_590 (xp_i (by first | (rw [← hσc]; exact (qFin_f h581b).symm) | (rw [← hσc]; exact (qFin_t h581b).symm)) (by first | (rw [← hσc]; done) | (rw [← hσc]; rfl)))
                · skip
                  have h581b := Classical.not_not.mp (fun z => h581 (xB_f z))
                  refine x_bipush (v := nI 8) X dX9_works_584 (by decide) ?_
                  refine x_goto (tgt := 590) X dX9_works_586 (by decide) ?_
                  exact x_iret X dX9_works_590 (xp_i (by first | (rw [← hσc]; exact (qFin_f h581b).symm) | (rw [← hσc]; exact (qFin_t h581b).symm)) (by first | (rw [← hσc]; done) | (rw [← hσc]; rfl)))
              · skip
                exact absurd (by decide) h569
            · skip
              rw [xb_ge (x := nI k) (y := nI 200) (a := k) (b := 200) rfl rfl (by omega) (by omega)] at h37
              refine x_aload_n X dX9_works_40 rfl ?_
              refine gf_X9_74 (k' := 56) X dX9_works_41 rfl rfl ?_
              refine x_sipush (v := nI 200) X dX9_works_44 (by decide) ?_
              refine x_iload_n X dX9_works_47 rfl ?_
              refine x_imul X dX9_works_48 ?_
              rw [pk_mul 200 n]
              refine x_iload_n X dX9_works_49 rfl ?_
              refine x_iadd X dX9_works_50 ?_
              rw [nI_add (200 * n) k]
              refine x_iconst (v := nI 0) X dX9_works_51 (by decide) ?_
              refine x_zastN X dX9_works_52 rfl (by omega) (by omega) (Or.inl rfl) ?_
              refine x_iinc (k := 0) (v := nI (k + 1)) (lv' := [(2, .int (nI (k + 1))), (1, .int (nI n)), (0, .ref (G.2.1 37))]) X dX9_works_53 rfl (xn_inc _) (by decide) rfl ?_
              refine x_goto (tgt := 33) X dX9_works_56 (by decide) ?_
              refine x_pick [0, 1, 2] rfl ?_
              exact ih33 _ (by omega) (k + 1) (by omega) rfl
        refine x_pick [0, 1, 2] rfl ?_
        exact lp33 _ 0 (by omega) rfl
      · skip
        rw [xb_ge (x := nI k) (y := nI 8) (a := k) (b := 8) rfl rfl (by omega) (by omega)] at h10
        refine x_aload_n X dX9_works_13 rfl ?_
        refine gf_X9_59 (k' := 52) X dX9_works_14 rfl rfl ?_
        refine x_bipush (v := nI 8) X dX9_works_17 (by decide) ?_
        refine x_iload_n X dX9_works_19 rfl ?_
        refine x_imul X dX9_works_20 ?_
        rw [pk_mul 8 n]
        refine x_iload_n X dX9_works_21 rfl ?_
        refine x_iadd X dX9_works_22 ?_
        rw [nI_add (8 * n) k]
        refine x_lconst (v := 0) X dX9_works_23 (by decide) ?_
        refine x_lastN X dX9_works_24 rfl (by omega) (by omega) ?_
        refine x_iinc (k := 0) (v := nI (k + 1)) (lv' := [(2, .int (nI (k + 1))), (1, .int (nI n)), (0, .ref (G.2.1 37))]) X dX9_works_25 rfl (xn_inc _) (by decide) rfl ?_
        refine x_goto (tgt := 7) X dX9_works_28 (by decide) ?_
        refine x_pick [0, 1, 2] rfl ?_
        exact ih7 _ (by omega) (k + 1) (by omega) rfl
  refine x_pick [0, 1, 2] rfl ?_
  exact lp7 _ 0 (by omega) rfl

set_option maxHeartbeats 4000000 in
set_option maxRecDepth 100000 in
theorem c_X9_works3 {l : Launch} {G : xG} {σ : xS} {n f V : Nat} (hn : n < 200) (hr : xgI σ 37 26 = nI n) (hf : xgI σ 37 25 = nI f) (hV : xgI σ 37 3 = nI V) (hV8 : V ≤ 8) (hq : xgI σ 50 f = nI 3) {t0 a b P : Nat} (hf2 : f + 4 ≤ 1500) (ht : xgI σ 50 (f + 1) = nI t0) (ht2 : t0 < 4) (ha : xgI σ 44 t0 = nI a) (ha8 : a < 8) (hb : xgI σ 45 t0 = nI b) (hb8 : b < 8) (hP : xgI σ 46 t0 = nI P) (hP2 : P ≤ 20) : xFi l G yX9_works cX9_works 6 (Option.some Jvm.ClassFile.FieldType.int) 2 55 [.ref (G.2.1 37)] σ (qFin (qTab (qWc σ n) n t0 f a b P) n V) (qTab (qWc σ n) n t0 f a b P) := by
  refine xM.of (by decide) (Nat.le_of_ble_eq_true rfl) (fun pp ee ss mm aa bel met kk X => ?_)
  have X : xC pp ss mm met kk cX9_works 6 RX9 (Option.some Jvm.ClassFile.FieldType.int) G := X
  show xW pp l ee { frames := 2, cells := 0, slots := 0, locals := 55 } ss mm aa bel met kk 6 G 0 0 (xQ bel G (fun rv_ tv_ => rv_ = some (.int (qFin (qTab (qWc σ n) n t0 f a b P) n V)) ∧ tv_ = (qTab (qWc σ n) n t0 f a b P)) aa ss) 0 [(0, .ref (G.2.1 37))] [] σ
  refine x_aload_n X dX9_works_0 rfl ?_
  refine gf_X9_145 X dX9_works_1 rfl ?_
  rw [hr]
  refine x_istore_n (lv' := [(1, .int (nI n)), (0, .ref (G.2.1 37))]) X dX9_works_4 rfl (by decide) rfl ?_
  refine x_iconst (v := nI 0) X dX9_works_5 (by decide) ?_
  refine x_istore_n (lv' := [(2, .int (nI 0)), (1, .int (nI n)), (0, .ref (G.2.1 37))]) X dX9_works_6 rfl (by decide) rfl ?_
  have lp7 : ∀ (NN7 : Nat) (k : Nat) (hk : k ≤ 8), 8 - k = NN7 → xW pp l ee { frames := 2, cells := 0, slots := 0, locals := 55 } ss mm aa bel met kk 6 G 0 0 (xQ bel G (fun rv_ tv_ => rv_ = some (.int (qFin (qTab (qWc σ n) n t0 f a b P) n V)) ∧ tv_ = (qTab (qWc σ n) n t0 f a b P)) aa ss) 7 [(2, .int (nI k)), (1, .int (nI n)), (0, .ref (G.2.1 37))] [] (qW1 σ n k) := by
    intro NN7
    induction NN7 using Nat.strongRecOn with
    | ind NN7 ih7 =>
      intro k hk hNN7
      refine x_iload_n X dX9_works_7 rfl ?_
      refine x_bipush (v := nI 8) X dX9_works_8 (by decide) ?_
      refine x_icmpge (tgt := 31) X dX9_works_10 (by decide) (fun h10 => ?_) (fun h10 => ?_)
      · skip
        rw [xb_ge (x := nI k) (y := nI 8) (a := k) (b := 8) rfl rfl (by omega) (by omega)] at h10
        obtain rfl : k = 8 := by omega
        refine x_iconst (v := nI 0) X dX9_works_31 (by decide) ?_
        refine x_istore_n (lv' := [(2, .int (nI 0)), (1, .int (nI n)), (0, .ref (G.2.1 37))]) X dX9_works_32 rfl (by decide) rfl ?_
        have lp33 : ∀ (NN33 : Nat) (k : Nat) (hk : k ≤ 200), 200 - k = NN33 → xW pp l ee { frames := 2, cells := 0, slots := 0, locals := 55 } ss mm aa bel met kk 6 G 0 0 (xQ bel G (fun rv_ tv_ => rv_ = some (.int (qFin (qTab (qWc σ n) n t0 f a b P) n V)) ∧ tv_ = (qTab (qWc σ n) n t0 f a b P)) aa ss) 33 [(2, .int (nI k)), (1, .int (nI n)), (0, .ref (G.2.1 37))] [] (qW2 (qW1 σ n 8) n k) := by
          intro NN33
          induction NN33 using Nat.strongRecOn with
          | ind NN33 ih33 =>
            intro k hk hNN33
            refine x_iload_n X dX9_works_33 rfl ?_
            refine x_sipush (v := nI 200) X dX9_works_34 (by decide) ?_
            refine x_icmpge (tgt := 59) X dX9_works_37 (by decide) (fun h37 => ?_) (fun h37 => ?_)
            · skip
              rw [xb_ge (x := nI k) (y := nI 200) (a := k) (b := 200) rfl rfl (by omega) (by omega)] at h37
              obtain rfl : k = 200 := by omega
              refine x_aload_n X dX9_works_59 rfl ?_
              refine gf_X9_63 (k' := 53) X dX9_works_60 rfl rfl ?_
              refine x_iload_n X dX9_works_63 rfl ?_
              refine x_lconst (v := 0) X dX9_works_64 (by decide) ?_
              refine x_lastN X dX9_works_65 rfl (by omega) (by omega) ?_
              refine x_aload_n X dX9_works_66 rfl ?_
              refine gf_X9_66 (k' := 54) X dX9_works_67 rfl rfl ?_
              refine x_iload_n X dX9_works_70 rfl ?_
              refine x_iconst (v := nI 0) X dX9_works_71 (by decide) ?_
              refine x_zastN X dX9_works_72 rfl (by omega) (by omega) (Or.inl rfl) ?_
              refine x_aload_n X dX9_works_73 rfl ?_
              refine gf_X9_70 (k' := 55) X dX9_works_74 rfl rfl ?_
              refine x_iload_n X dX9_works_77 rfl ?_
              refine x_lconst (v := 0) X dX9_works_78 (by decide) ?_
              refine x_lastN X dX9_works_79 rfl (by omega) (by omega) ?_
              obtain ⟨σc, hσc⟩ : ∃ z : xS, z = qWc σ n := ⟨_, rfl⟩
              rw [show xsL (xsI (xsL (qW2 (qW1 σ n 8) n 200) 53 n 0) 54 n (nI 0)) 55 n 0 = σc from hσc.symm]
              have ho : qOff n σ σc := by rw [hσc]; exact qWc_off
              have hfc : xgI σc 37 25 = nI f := (ho.1 37 25 (by omega) (by omega)).trans hf
              have hVc : xgI σc 37 3 = nI V := (ho.1 37 3 (by omega) (by omega)).trans hV
              refine x_iconst (v := nI 0) X dX9_works_80 (by decide) ?_
              refine x_istore_n (lv' := [(2, .int (nI 0)), (1, .int (nI n)), (0, .ref (G.2.1 37))]) X dX9_works_81 rfl (by decide) rfl ?_
              refine x_aload_n X dX9_works_82 rfl ?_
              refine x_iconst (v := nI 0) X dX9_works_83 (by decide) ?_
              refine cv_X9_187 X (c_X9_of (k := 0) hfc (by omega)) dX9_works_84 rfl ⟨by decide, by decide, by decide, by decide⟩ rfl rfl (Nat.le_of_ble_eq_true rfl) (xk_i ?_)
              rw [show f + 0 = f from rfl, ho.1 50 f (by omega) (by omega), hq]
              refine x_tableIn (off := 172) (tgt := 259) X dX9_works_87 (by decide) (by decide) rfl (by decide) ?_
              refine x_aload_n X dX9_works_259 rfl ?_
              refine x_iload_n X dX9_works_260 rfl ?_
              refine cv_X9_206 X (c_X9_table hn hfc hf2 ((ho.1 (50) (f + 1) (by omega) (by omega)).trans ht) ht2 ((ho.1 (44) (t0) (by omega) (by omega)).trans ha) ha8 ((ho.1 (45) (t0) (by omega) (by omega)).trans hb) hb8 ((ho.1 (46) (t0) (by omega) (by omega)).trans hP) hP2) dX9_works_261 rfl ⟨by decide, by decide, by decide, by decide⟩ rfl rfl (Nat.le_of_ble_eq_true rfl) (xk_v ?_)
              refine x_goto (tgt := 568) X dX9_works_264 (by decide) ?_
              refine x_iload_n X dX9_works_568 rfl ?_
              refine x_ifeq (tgt := 576) X dX9_works_569 (by decide) (fun h569 => ?_) (fun h569 => ?_)
              · skip
                rw [xb_eq (x := nI 0) (y := 0) (a := 0) (b := 0) rfl rfl (by omega) (by omega)] at h569
                refine x_aload_n X dX9_works_576 rfl ?_
                refine x_iload_n X dX9_works_577 rfl ?_
                refine cv_X9_221 X (c_X9_isGreat hn ((qTl_I 37 3 P).trans hVc) hV8) dX9_works_578 rfl ⟨by decide, by decide, by decide, by decide⟩ rfl rfl (Nat.le_of_ble_eq_true rfl) (xk_i ?_)
                refine x_ifeq (tgt := 589) X dX9_works_581 (by decide) (fun h581 => ?_) (fun h581 => ?_)
                · skip
                  have h581b := xB_0.mp h581
                  refine x_iconst (v := nI 0) X dX9_works_589 (by decide) ?_
                  exact x_iret X dX9_works_590 (xp_i (by first | (rw [← hσc]; exact (qFin_f h581b).symm) | (rw [← hσc]; exact (qFin_t h581b).symm)) (by first | (rw [← hσc]; done) | (rw [← hσc]; rfl)))
                · skip
                  have h581b := Classical.not_not.mp (fun z => h581 (xB_f z))
                  refine x_bipush (v := nI 8) X dX9_works_584 (by decide) ?_
                  refine x_goto (tgt := 590) X dX9_works_586 (by decide) ?_
                  exact x_iret X dX9_works_590 (xp_i (by first | (rw [← hσc]; exact (qFin_f h581b).symm) | (rw [← hσc]; exact (qFin_t h581b).symm)) (by first | (rw [← hσc]; done) | (rw [← hσc]; rfl)))
              · skip
                exact absurd (by decide) h569
            · skip
              rw [xb_ge (x := nI k) (y := nI 200) (a := k) (b := 200) rfl rfl (by omega) (by omega)] at h37
              refine x_aload_n X dX9_works_40 rfl ?_
              refine gf_X9_74 (k' := 56) X dX9_works_41 rfl rfl ?_
              refine x_sipush (v := nI 200) X dX9_works_44 (by decide) ?_
              refine x_iload_n X dX9_works_47 rfl ?_
              refine x_imul X dX9_works_48 ?_
              rw [pk_mul 200 n]
              refine x_iload_n X dX9_works_49 rfl ?_
              refine x_iadd X dX9_works_50 ?_
              rw [nI_add (200 * n) k]
              refine x_iconst (v := nI 0) X dX9_works_51 (by decide) ?_
              refine x_zastN X dX9_works_52 rfl (by omega) (by omega) (Or.inl rfl) ?_
              refine x_iinc (k := 0) (v := nI (k + 1)) (lv' := [(2, .int (nI (k + 1))), (1, .int (nI n)), (0, .ref (G.2.1 37))]) X dX9_works_53 rfl (xn_inc _) (by decide) rfl ?_
              refine x_goto (tgt := 33) X dX9_works_56 (by decide) ?_
              refine x_pick [0, 1, 2] rfl ?_
              exact ih33 _ (by omega) (k + 1) (by omega) rfl
        refine x_pick [0, 1, 2] rfl ?_
        exact lp33 _ 0 (by omega) rfl
      · skip
        rw [xb_ge (x := nI k) (y := nI 8) (a := k) (b := 8) rfl rfl (by omega) (by omega)] at h10
        refine x_aload_n X dX9_works_13 rfl ?_
        refine gf_X9_59 (k' := 52) X dX9_works_14 rfl rfl ?_
        refine x_bipush (v := nI 8) X dX9_works_17 (by decide) ?_
        refine x_iload_n X dX9_works_19 rfl ?_
        refine x_imul X dX9_works_20 ?_
        rw [pk_mul 8 n]
        refine x_iload_n X dX9_works_21 rfl ?_
        refine x_iadd X dX9_works_22 ?_
        rw [nI_add (8 * n) k]
        refine x_lconst (v := 0) X dX9_works_23 (by decide) ?_
        refine x_lastN X dX9_works_24 rfl (by omega) (by omega) ?_
        refine x_iinc (k := 0) (v := nI (k + 1)) (lv' := [(2, .int (nI (k + 1))), (1, .int (nI n)), (0, .ref (G.2.1 37))]) X dX9_works_25 rfl (xn_inc _) (by decide) rfl ?_
        refine x_goto (tgt := 7) X dX9_works_28 (by decide) ?_
        refine x_pick [0, 1, 2] rfl ?_
        exact ih7 _ (by omega) (k + 1) (by omega) rfl
  refine x_pick [0, 1, 2] rfl ?_
  exact lp7 _ 0 (by omega) rfl

set_option maxHeartbeats 4000000 in
set_option maxRecDepth 100000 in
theorem c_X9_works0 {l : Launch} {G : xG} {σ : xS} {n f V : Nat} (hn : n < 200) (hr : xgI σ 37 26 = nI n) (hf : xgI σ 37 25 = nI f) (hV : xgI σ 37 3 = nI V) (hV8 : V ≤ 8) (hq : xgI σ 50 f = nI 0) {j : Nat} (hf2 : f + 2 ≤ 1500) (hj : xgI σ 50 (f + 1) = nI j) (hj2 : j < 20) : xFi l G yX9_works cX9_works 6 (Option.some Jvm.ClassFile.FieldType.int) 2 55 [.ref (G.2.1 37)] σ (qFin (xsL (qRl (qWc σ n) n (fun v => xgI (qWc σ n) 42 (8 * j + v)) V) 53 n (xgI (qWc σ n) 43 j).toInt64) n V) (xsL (qRl (qWc σ n) n (fun v => xgI (qWc σ n) 42 (8 * j + v)) V) 53 n (xgI (qWc σ n) 43 j).toInt64) := by
  refine xM.of (by decide) (Nat.le_of_ble_eq_true rfl) (fun pp ee ss mm aa bel met kk X => ?_)
  have X : xC pp ss mm met kk cX9_works 6 RX9 (Option.some Jvm.ClassFile.FieldType.int) G := X
  show xW pp l ee { frames := 2, cells := 0, slots := 0, locals := 55 } ss mm aa bel met kk 6 G 0 0 (xQ bel G (fun rv_ tv_ => rv_ = some (.int (qFin (xsL (qRl (qWc σ n) n (fun v => xgI (qWc σ n) 42 (8 * j + v)) V) 53 n (xgI (qWc σ n) 43 j).toInt64) n V)) ∧ tv_ = (xsL (qRl (qWc σ n) n (fun v => xgI (qWc σ n) 42 (8 * j + v)) V) 53 n (xgI (qWc σ n) 43 j).toInt64)) aa ss) 0 [(0, .ref (G.2.1 37))] [] σ
  refine x_aload_n X dX9_works_0 rfl ?_
  refine gf_X9_145 X dX9_works_1 rfl ?_
  rw [hr]
  refine x_istore_n (lv' := [(1, .int (nI n)), (0, .ref (G.2.1 37))]) X dX9_works_4 rfl (by decide) rfl ?_
  refine x_iconst (v := nI 0) X dX9_works_5 (by decide) ?_
  refine x_istore_n (lv' := [(2, .int (nI 0)), (1, .int (nI n)), (0, .ref (G.2.1 37))]) X dX9_works_6 rfl (by decide) rfl ?_
  have lp7 : ∀ (NN7 : Nat) (k : Nat) (hk : k ≤ 8), 8 - k = NN7 → xW pp l ee { frames := 2, cells := 0, slots := 0, locals := 55 } ss mm aa bel met kk 6 G 0 0 (xQ bel G (fun rv_ tv_ => rv_ = some (.int (qFin (xsL (qRl (qWc σ n) n (fun v => xgI (qWc σ n) 42 (8 * j + v)) V) 53 n (xgI (qWc σ n) 43 j).toInt64) n V)) ∧ tv_ = (xsL (qRl (qWc σ n) n (fun v => xgI (qWc σ n) 42 (8 * j + v)) V) 53 n (xgI (qWc σ n) 43 j).toInt64)) aa ss) 7 [(2, .int (nI k)), (1, .int (nI n)), (0, .ref (G.2.1 37))] [] (qW1 σ n k) := by
    intro NN7
    induction NN7 using Nat.strongRecOn with
    | ind NN7 ih7 =>
      intro k hk hNN7
      refine x_iload_n X dX9_works_7 rfl ?_
      refine x_bipush (v := nI 8) X dX9_works_8 (by decide) ?_
      refine x_icmpge (tgt := 31) X dX9_works_10 (by decide) (fun h10 => ?_) (fun h10 => ?_)
      · skip
        rw [xb_ge (x := nI k) (y := nI 8) (a := k) (b := 8) rfl rfl (by omega) (by omega)] at h10
        obtain rfl : k = 8 := by omega
        refine x_iconst (v := nI 0) X dX9_works_31 (by decide) ?_
        refine x_istore_n (lv' := [(2, .int (nI 0)), (1, .int (nI n)), (0, .ref (G.2.1 37))]) X dX9_works_32 rfl (by decide) rfl ?_
        have lp33 : ∀ (NN33 : Nat) (k : Nat) (hk : k ≤ 200), 200 - k = NN33 → xW pp l ee { frames := 2, cells := 0, slots := 0, locals := 55 } ss mm aa bel met kk 6 G 0 0 (xQ bel G (fun rv_ tv_ => rv_ = some (.int (qFin (xsL (qRl (qWc σ n) n (fun v => xgI (qWc σ n) 42 (8 * j + v)) V) 53 n (xgI (qWc σ n) 43 j).toInt64) n V)) ∧ tv_ = (xsL (qRl (qWc σ n) n (fun v => xgI (qWc σ n) 42 (8 * j + v)) V) 53 n (xgI (qWc σ n) 43 j).toInt64)) aa ss) 33 [(2, .int (nI k)), (1, .int (nI n)), (0, .ref (G.2.1 37))] [] (qW2 (qW1 σ n 8) n k) := by
          intro NN33
          induction NN33 using Nat.strongRecOn with
          | ind NN33 ih33 =>
            intro k hk hNN33
            refine x_iload_n X dX9_works_33 rfl ?_
            refine x_sipush (v := nI 200) X dX9_works_34 (by decide) ?_
            refine x_icmpge (tgt := 59) X dX9_works_37 (by decide) (fun h37 => ?_) (fun h37 => ?_)
            · skip
              rw [xb_ge (x := nI k) (y := nI 200) (a := k) (b := 200) rfl rfl (by omega) (by omega)] at h37
              obtain rfl : k = 200 := by omega
              refine x_aload_n X dX9_works_59 rfl ?_
              refine gf_X9_63 (k' := 53) X dX9_works_60 rfl rfl ?_
              refine x_iload_n X dX9_works_63 rfl ?_
              refine x_lconst (v := 0) X dX9_works_64 (by decide) ?_
              refine x_lastN X dX9_works_65 rfl (by omega) (by omega) ?_
              refine x_aload_n X dX9_works_66 rfl ?_
              refine gf_X9_66 (k' := 54) X dX9_works_67 rfl rfl ?_
              refine x_iload_n X dX9_works_70 rfl ?_
              refine x_iconst (v := nI 0) X dX9_works_71 (by decide) ?_
              refine x_zastN X dX9_works_72 rfl (by omega) (by omega) (Or.inl rfl) ?_
              refine x_aload_n X dX9_works_73 rfl ?_
              refine gf_X9_70 (k' := 55) X dX9_works_74 rfl rfl ?_
              refine x_iload_n X dX9_works_77 rfl ?_
              refine x_lconst (v := 0) X dX9_works_78 (by decide) ?_
              refine x_lastN X dX9_works_79 rfl (by omega) (by omega) ?_
              obtain ⟨σc, hσc⟩ : ∃ z : xS, z = qWc σ n := ⟨_, rfl⟩
              rw [show xsL (xsI (xsL (qW2 (qW1 σ n 8) n 200) 53 n 0) 54 n (nI 0)) 55 n 0 = σc from hσc.symm]
              have ho : qOff n σ σc := by rw [hσc]; exact qWc_off
              have hfc : xgI σc 37 25 = nI f := (ho.1 37 25 (by omega) (by omega)).trans hf
              have hVc : xgI σc 37 3 = nI V := (ho.1 37 3 (by omega) (by omega)).trans hV
              refine x_iconst (v := nI 0) X dX9_works_80 (by decide) ?_
              refine x_istore_n (lv' := [(2, .int (nI 0)), (1, .int (nI n)), (0, .ref (G.2.1 37))]) X dX9_works_81 rfl (by decide) rfl ?_
              refine x_aload_n X dX9_works_82 rfl ?_
              refine x_iconst (v := nI 0) X dX9_works_83 (by decide) ?_
              refine cv_X9_187 X (c_X9_of (k := 0) hfc (by omega)) dX9_works_84 rfl ⟨by decide, by decide, by decide, by decide⟩ rfl rfl (Nat.le_of_ble_eq_true rfl) (xk_i ?_)
              rw [show f + 0 = f from rfl, ho.1 50 f (by omega) (by omega), hq]
              refine x_tableIn (off := 49) (tgt := 136) X dX9_works_87 (by decide) (by decide) rfl (by decide) ?_
              refine x_iconst (v := nI 0) X dX9_works_136 (by decide) ?_
              refine x_istore_n (lv' := [(3, .int (nI 0)), (2, .int (nI 0)), (1, .int (nI n)), (0, .ref (G.2.1 37))]) X dX9_works_137 rfl (by decide) rfl ?_
              have lp138 : ∀ (NN138 : Nat) (k : Nat) (hk : k ≤ V), V - k = NN138 → xW pp l ee { frames := 2, cells := 0, slots := 0, locals := 55 } ss mm aa bel met kk 6 G 0 0 (xQ bel G (fun rv_ tv_ => rv_ = some (.int (qFin (xsL (qRl (qWc σ n) n (fun v => xgI (qWc σ n) 42 (8 * j + v)) V) 53 n (xgI (qWc σ n) 43 j).toInt64) n V)) ∧ tv_ = (xsL (qRl (qWc σ n) n (fun v => xgI (qWc σ n) 42 (8 * j + v)) V) 53 n (xgI (qWc σ n) 43 j).toInt64)) aa ss) 138 [(3, .int (nI k)), (2, .int (nI 0)), (1, .int (nI n)), (0, .ref (G.2.1 37))] [] (qRl σc n (fun v => xgI σc 42 (8 * j + v)) k) := by
                intro NN138
                induction NN138 using Nat.strongRecOn with
                | ind NN138 ih138 =>
                  intro k hk hNN138
                  refine x_iload_n X dX9_works_138 rfl ?_
                  refine x_aload_n X dX9_works_139 rfl ?_
                  refine gf_X9_112 X dX9_works_140 rfl ?_
                  rw [(((qRl_off k (by omega)).1 (37) (3) (by omega) (by omega)).trans hVc)]
                  refine x_icmpge (tgt := 174) X dX9_works_143 (by decide) (fun h143 => ?_) (fun h143 => ?_)
                  · skip
                    rw [xb_ge (x := nI k) (y := nI V) (a := k) (b := V) rfl rfl (by omega) (by omega)] at h143
                    obtain rfl : k = V := by omega
                    refine x_aload_n X dX9_works_174 rfl ?_
                    refine gf_X9_63 (k' := 53) X dX9_works_175 rfl rfl ?_
                    refine x_iload_n X dX9_works_178 rfl ?_
                    refine x_aload_n X dX9_works_179 rfl ?_
                    refine gf_X9_25 (k' := 43) X dX9_works_180 rfl rfl ?_
                    refine x_aload_n X dX9_works_183 rfl ?_
                    refine x_iconst (v := nI 1) X dX9_works_184 (by decide) ?_
                    refine cv_X9_187 X (c_X9_of (k := 1) (((qRl_off _ (by omega)).1 (37) (25) (by omega) (by omega)).trans hfc) (by omega)) dX9_works_185 rfl ⟨by decide, by decide, by decide, by decide⟩ rfl rfl (Nat.le_of_ble_eq_true rfl) (xk_i ?_)
                    rw [(qRl_off _ (by omega)).1 50 (f + 1) (by omega) (by omega), ho.1 50 (f + 1) (by omega) (by omega), hj]
                    refine x_ialdN X dX9_works_188 rfl (by omega) (by omega) ?_
                    rw [(qRl_off _ (by omega)).1 43 _ (by omega) (by omega)]
                    refine x_i2l X dX9_works_189 ?_
                    refine x_lastN X dX9_works_190 rfl (by omega) (by omega) ?_
                    refine x_goto (tgt := 568) X dX9_works_191 (by decide) ?_
                    refine x_iload_n X dX9_works_568 rfl ?_
                    refine x_ifeq (tgt := 576) X dX9_works_569 (by decide) (fun h569 => ?_) (fun h569 => ?_)
                    · skip
                      rw [xb_eq (x := nI 0) (y := 0) (a := 0) (b := 0) rfl rfl (by omega) (by omega)] at h569
                      refine x_aload_n X dX9_works_576 rfl ?_
                      refine x_iload_n X dX9_works_577 rfl ?_
                      refine cv_X9_221 X (c_X9_isGreat hn (((qRl_off _ (by omega)).1 37 3 (by omega) (by omega)).trans hVc) hV8) dX9_works_578 rfl ⟨by decide, by decide, by decide, by decide⟩ rfl rfl (Nat.le_of_ble_eq_true rfl) (xk_i ?_)
                      refine x_ifeq (tgt := 589) X dX9_works_581 (by decide) (fun h581 => ?_) (fun h581 => ?_)
                      · skip
                        have h581b := xB_0.mp h581
                        refine x_iconst (v := nI 0) X dX9_works_589 (by decide) ?_
                        exact x_iret X dX9_works_590 (xp_i (by first | (rw [← hσc]; exact (qFin_f h581b).symm) | (rw [← hσc]; exact (qFin_t h581b).symm)) (by first | (rw [← hσc]; done) | (rw [← hσc]; rfl)))
                      · skip
                        have h581b := Classical.not_not.mp (fun z => h581 (xB_f z))
                        refine x_bipush (v := nI 8) X dX9_works_584 (by decide) ?_
                        refine x_goto (tgt := 590) X dX9_works_586 (by decide) ?_
                        exact x_iret X dX9_works_590 (xp_i (by first | (rw [← hσc]; exact (qFin_f h581b).symm) | (rw [← hσc]; exact (qFin_t h581b).symm)) (by first | (rw [← hσc]; done) | (rw [← hσc]; rfl)))
                    · skip
                      exact absurd (by decide) h569
                  · skip
                    rw [xb_ge (x := nI k) (y := nI V) (a := k) (b := V) rfl rfl (by omega) (by omega)] at h143
                    refine x_aload_n X dX9_works_146 rfl ?_
                    refine x_iload_n X dX9_works_147 rfl ?_
                    refine x_iload_n X dX9_works_148 rfl ?_
                    refine x_aload_n X dX9_works_149 rfl ?_
                    refine gf_X9_22 (k' := 42) X dX9_works_150 rfl rfl ?_
                    refine x_bipush (v := nI 8) X dX9_works_153 (by decide) ?_
                    refine x_aload_n X dX9_works_155 rfl ?_
                    refine x_iconst (v := nI 1) X dX9_works_156 (by decide) ?_
                    refine cv_X9_187 X (c_X9_of (k := 1) (((qRl_off k (by omega)).1 (37) (25) (by omega) (by omega)).trans hfc) (by omega)) dX9_works_157 rfl ⟨by decide, by decide, by decide, by decide⟩ rfl rfl (Nat.le_of_ble_eq_true rfl) (xk_i ?_)
                    rw [(qRl_off k (by omega)).1 50 (f + 1) (by omega) (by omega), ho.1 50 (f + 1) (by omega) (by omega), hj]
                    refine x_imul X dX9_works_160 ?_
                    rw [pk_mul 8 j]
                    refine x_iload_n X dX9_works_161 rfl ?_
                    refine x_iadd X dX9_works_162 ?_
                    rw [nI_add (8 * j) k]
                    refine x_ialdN X dX9_works_163 rfl (by omega) (by omega) ?_
                    rw [(qRl_off k (by omega)).1 42 _ (by omega) (by omega)]
                    refine x_i2l X dX9_works_164 ?_
                    refine cv_X9_200 X (c_X9_says hn (by omega)) dX9_works_165 rfl ⟨by decide, by decide, by decide, by decide⟩ rfl rfl (Nat.le_of_ble_eq_true rfl) (xk_v ?_)
                    refine x_iinc (k := 0) (v := nI (k + 1)) (lv' := [(3, .int (nI (k + 1))), (2, .int (nI 0)), (1, .int (nI n)), (0, .ref (G.2.1 37))]) X dX9_works_168 rfl (xn_inc _) (by decide) rfl ?_
                    refine x_goto (tgt := 138) X dX9_works_171 (by decide) ?_
                    refine x_pick [0, 1, 2, 3] rfl ?_
                    exact ih138 _ (by omega) (k + 1) (by omega) rfl
              refine x_pick [0, 1, 2, 3] rfl ?_
              exact lp138 _ 0 (by omega) rfl
            · skip
              rw [xb_ge (x := nI k) (y := nI 200) (a := k) (b := 200) rfl rfl (by omega) (by omega)] at h37
              refine x_aload_n X dX9_works_40 rfl ?_
              refine gf_X9_74 (k' := 56) X dX9_works_41 rfl rfl ?_
              refine x_sipush (v := nI 200) X dX9_works_44 (by decide) ?_
              refine x_iload_n X dX9_works_47 rfl ?_
              refine x_imul X dX9_works_48 ?_
              rw [pk_mul 200 n]
              refine x_iload_n X dX9_works_49 rfl ?_
              refine x_iadd X dX9_works_50 ?_
              rw [nI_add (200 * n) k]
              refine x_iconst (v := nI 0) X dX9_works_51 (by decide) ?_
              refine x_zastN X dX9_works_52 rfl (by omega) (by omega) (Or.inl rfl) ?_
              refine x_iinc (k := 0) (v := nI (k + 1)) (lv' := [(2, .int (nI (k + 1))), (1, .int (nI n)), (0, .ref (G.2.1 37))]) X dX9_works_53 rfl (xn_inc _) (by decide) rfl ?_
              refine x_goto (tgt := 33) X dX9_works_56 (by decide) ?_
              refine x_pick [0, 1, 2] rfl ?_
              exact ih33 _ (by omega) (k + 1) (by omega) rfl
        refine x_pick [0, 1, 2] rfl ?_
        exact lp33 _ 0 (by omega) rfl
      · skip
        rw [xb_ge (x := nI k) (y := nI 8) (a := k) (b := 8) rfl rfl (by omega) (by omega)] at h10
        refine x_aload_n X dX9_works_13 rfl ?_
        refine gf_X9_59 (k' := 52) X dX9_works_14 rfl rfl ?_
        refine x_bipush (v := nI 8) X dX9_works_17 (by decide) ?_
        refine x_iload_n X dX9_works_19 rfl ?_
        refine x_imul X dX9_works_20 ?_
        rw [pk_mul 8 n]
        refine x_iload_n X dX9_works_21 rfl ?_
        refine x_iadd X dX9_works_22 ?_
        rw [nI_add (8 * n) k]
        refine x_lconst (v := 0) X dX9_works_23 (by decide) ?_
        refine x_lastN X dX9_works_24 rfl (by omega) (by omega) ?_
        refine x_iinc (k := 0) (v := nI (k + 1)) (lv' := [(2, .int (nI (k + 1))), (1, .int (nI n)), (0, .ref (G.2.1 37))]) X dX9_works_25 rfl (xn_inc _) (by decide) rfl ?_
        refine x_goto (tgt := 7) X dX9_works_28 (by decide) ?_
        refine x_pick [0, 1, 2] rfl ?_
        exact ih7 _ (by omega) (k + 1) (by omega) rfl
  refine x_pick [0, 1, 2] rfl ?_
  exact lp7 _ 0 (by omega) rfl

set_option maxHeartbeats 4000000 in
set_option maxRecDepth 100000 in
theorem c_X9_works4 {l : Launch} {G : xG} {σ : xS} {n f V : Nat} (hn : n < 200) (hr : xgI σ 37 26 = nI n) (hf : xgI σ 37 25 = nI f) (hV : xgI σ 37 3 = nI V) (hV8 : V ≤ 8) (hq : xgI σ 50 f = nI 4) {m : Nat} {pr : Nat → Nat} (hm : m ≤ 4) (hf2 : f + 2 + 2 * m ≤ 1500) (hk4 : xgI σ 50 (f + 1) = nI m) (hpr : ∀ k, k < m → xgI σ 50 (f + (2 + 2 * k)) = nI (pr k) ∧ pr k < n) : xFi l G yX9_works cX9_works 6 (Option.some Jvm.ClassFile.FieldType.int) 2 55 [.ref (G.2.1 37)] σ (qFin (qSum (qWc σ n) n V pr (fun k => xgI (qWc σ n) 50 (f + (3 + 2 * k))) m) n V) (qSum (qWc σ n) n V pr (fun k => xgI (qWc σ n) 50 (f + (3 + 2 * k))) m) := by
  refine xM.of (by decide) (Nat.le_of_ble_eq_true rfl) (fun pp ee ss mm aa bel met kk X => ?_)
  have X : xC pp ss mm met kk cX9_works 6 RX9 (Option.some Jvm.ClassFile.FieldType.int) G := X
  show xW pp l ee { frames := 2, cells := 0, slots := 0, locals := 55 } ss mm aa bel met kk 6 G 0 0 (xQ bel G (fun rv_ tv_ => rv_ = some (.int (qFin (qSum (qWc σ n) n V pr (fun k => xgI (qWc σ n) 50 (f + (3 + 2 * k))) m) n V)) ∧ tv_ = (qSum (qWc σ n) n V pr (fun k => xgI (qWc σ n) 50 (f + (3 + 2 * k))) m)) aa ss) 0 [(0, .ref (G.2.1 37))] [] σ
  refine x_aload_n X dX9_works_0 rfl ?_
  refine gf_X9_145 X dX9_works_1 rfl ?_
  rw [hr]
  refine x_istore_n (lv' := [(1, .int (nI n)), (0, .ref (G.2.1 37))]) X dX9_works_4 rfl (by decide) rfl ?_
  refine x_iconst (v := nI 0) X dX9_works_5 (by decide) ?_
  refine x_istore_n (lv' := [(2, .int (nI 0)), (1, .int (nI n)), (0, .ref (G.2.1 37))]) X dX9_works_6 rfl (by decide) rfl ?_
  have lp7 : ∀ (NN7 : Nat) (k : Nat) (hk : k ≤ 8), 8 - k = NN7 → xW pp l ee { frames := 2, cells := 0, slots := 0, locals := 55 } ss mm aa bel met kk 6 G 0 0 (xQ bel G (fun rv_ tv_ => rv_ = some (.int (qFin (qSum (qWc σ n) n V pr (fun k => xgI (qWc σ n) 50 (f + (3 + 2 * k))) m) n V)) ∧ tv_ = (qSum (qWc σ n) n V pr (fun k => xgI (qWc σ n) 50 (f + (3 + 2 * k))) m)) aa ss) 7 [(2, .int (nI k)), (1, .int (nI n)), (0, .ref (G.2.1 37))] [] (qW1 σ n k) := by
    intro NN7
    induction NN7 using Nat.strongRecOn with
    | ind NN7 ih7 =>
      intro k hk hNN7
      refine x_iload_n X dX9_works_7 rfl ?_
      refine x_bipush (v := nI 8) X dX9_works_8 (by decide) ?_
      refine x_icmpge (tgt := 31) X dX9_works_10 (by decide) (fun h10 => ?_) (fun h10 => ?_)
      · skip
        rw [xb_ge (x := nI k) (y := nI 8) (a := k) (b := 8) rfl rfl (by omega) (by omega)] at h10
        obtain rfl : k = 8 := by omega
        refine x_iconst (v := nI 0) X dX9_works_31 (by decide) ?_
        refine x_istore_n (lv' := [(2, .int (nI 0)), (1, .int (nI n)), (0, .ref (G.2.1 37))]) X dX9_works_32 rfl (by decide) rfl ?_
        have lp33 : ∀ (NN33 : Nat) (k : Nat) (hk : k ≤ 200), 200 - k = NN33 → xW pp l ee { frames := 2, cells := 0, slots := 0, locals := 55 } ss mm aa bel met kk 6 G 0 0 (xQ bel G (fun rv_ tv_ => rv_ = some (.int (qFin (qSum (qWc σ n) n V pr (fun k => xgI (qWc σ n) 50 (f + (3 + 2 * k))) m) n V)) ∧ tv_ = (qSum (qWc σ n) n V pr (fun k => xgI (qWc σ n) 50 (f + (3 + 2 * k))) m)) aa ss) 33 [(2, .int (nI k)), (1, .int (nI n)), (0, .ref (G.2.1 37))] [] (qW2 (qW1 σ n 8) n k) := by
          intro NN33
          induction NN33 using Nat.strongRecOn with
          | ind NN33 ih33 =>
            intro k hk hNN33
            refine x_iload_n X dX9_works_33 rfl ?_
            refine x_sipush (v := nI 200) X dX9_works_34 (by decide) ?_
            refine x_icmpge (tgt := 59) X dX9_works_37 (by decide) (fun h37 => ?_) (fun h37 => ?_)
            · skip
              rw [xb_ge (x := nI k) (y := nI 200) (a := k) (b := 200) rfl rfl (by omega) (by omega)] at h37
              obtain rfl : k = 200 := by omega
              refine x_aload_n X dX9_works_59 rfl ?_
              refine gf_X9_63 (k' := 53) X dX9_works_60 rfl rfl ?_
              refine x_iload_n X dX9_works_63 rfl ?_
              refine x_lconst (v := 0) X dX9_works_64 (by decide) ?_
              refine x_lastN X dX9_works_65 rfl (by omega) (by omega) ?_
              refine x_aload_n X dX9_works_66 rfl ?_
              refine gf_X9_66 (k' := 54) X dX9_works_67 rfl rfl ?_
              refine x_iload_n X dX9_works_70 rfl ?_
              refine x_iconst (v := nI 0) X dX9_works_71 (by decide) ?_
              refine x_zastN X dX9_works_72 rfl (by omega) (by omega) (Or.inl rfl) ?_
              refine x_aload_n X dX9_works_73 rfl ?_
              refine gf_X9_70 (k' := 55) X dX9_works_74 rfl rfl ?_
              refine x_iload_n X dX9_works_77 rfl ?_
              refine x_lconst (v := 0) X dX9_works_78 (by decide) ?_
              refine x_lastN X dX9_works_79 rfl (by omega) (by omega) ?_
              obtain ⟨σc, hσc⟩ : ∃ z : xS, z = qWc σ n := ⟨_, rfl⟩
              rw [show xsL (xsI (xsL (qW2 (qW1 σ n 8) n 200) 53 n 0) 54 n (nI 0)) 55 n 0 = σc from hσc.symm]
              have ho : qOff n σ σc := by rw [hσc]; exact qWc_off
              have hfc : xgI σc 37 25 = nI f := (ho.1 37 25 (by omega) (by omega)).trans hf
              have hVc : xgI σc 37 3 = nI V := (ho.1 37 3 (by omega) (by omega)).trans hV
              refine x_iconst (v := nI 0) X dX9_works_80 (by decide) ?_
              refine x_istore_n (lv' := [(2, .int (nI 0)), (1, .int (nI n)), (0, .ref (G.2.1 37))]) X dX9_works_81 rfl (by decide) rfl ?_
              refine x_aload_n X dX9_works_82 rfl ?_
              refine x_iconst (v := nI 0) X dX9_works_83 (by decide) ?_
              refine cv_X9_187 X (c_X9_of (k := 0) hfc (by omega)) dX9_works_84 rfl ⟨by decide, by decide, by decide, by decide⟩ rfl rfl (Nat.le_of_ble_eq_true rfl) (xk_i ?_)
              rw [show f + 0 = f from rfl, ho.1 50 f (by omega) (by omega), hq]
              refine x_tableIn (off := 180) (tgt := 267) X dX9_works_87 (by decide) (by decide) rfl (by decide) ?_
              refine x_iconst (v := nI 0) X dX9_works_267 (by decide) ?_
              refine x_istore_n (lv' := [(3, .int (nI 0)), (2, .int (nI 0)), (1, .int (nI n)), (0, .ref (G.2.1 37))]) X dX9_works_268 rfl (by decide) rfl ?_
              have lp269 : ∀ (NN269 : Nat) (k : Nat) (hk : k ≤ m), m - k = NN269 → xW pp l ee { frames := 2, cells := 0, slots := 0, locals := 55 } ss mm aa bel met kk 6 G 0 0 (xQ bel G (fun rv_ tv_ => rv_ = some (.int (qFin (qSum (qWc σ n) n V pr (fun k => xgI (qWc σ n) 50 (f + (3 + 2 * k))) m) n V)) ∧ tv_ = (qSum (qWc σ n) n V pr (fun k => xgI (qWc σ n) 50 (f + (3 + 2 * k))) m)) aa ss) 269 [(3, .int (nI k)), (2, .int (nI 0)), (1, .int (nI n)), (0, .ref (G.2.1 37))] [] (qSum σc n V pr (fun k => xgI σc 50 (f + (3 + 2 * k))) k) := by
                intro NN269
                induction NN269 using Nat.strongRecOn with
                | ind NN269 ih269 =>
                  intro k hk hNN269
                  refine x_iload_n X dX9_works_269 rfl ?_
                  refine x_aload_n X dX9_works_270 rfl ?_
                  refine x_iconst (v := nI 1) X dX9_works_271 (by decide) ?_
                  refine cv_X9_187 X (c_X9_of (k := 1) (((qSum_off hV8 (by omega) k).1 (37) (25) (by omega) (by omega)).trans hfc) (by omega)) dX9_works_272 rfl ⟨by decide, by decide, by decide, by decide⟩ rfl rfl (Nat.le_of_ble_eq_true rfl) (xk_i ?_)
                  rw [(qSum_off hV8 (by omega) k).1 50 (f + 1) (by omega) (by omega), ho.1 50 (f + 1) (by omega) (by omega), hk4]
                  refine x_icmpge (tgt := 387) X dX9_works_275 (by decide) (fun h275 => ?_) (fun h275 => ?_)
                  · skip
                    rw [xb_ge (x := nI k) (y := nI m) (a := k) (b := m) rfl rfl (by omega) (by omega)] at h275
                    obtain rfl : k = m := by omega
                    refine x_goto (tgt := 568) X dX9_works_387 (by decide) ?_
                    refine x_iload_n X dX9_works_568 rfl ?_
                    refine x_ifeq (tgt := 576) X dX9_works_569 (by decide) (fun h569 => ?_) (fun h569 => ?_)
                    · skip
                      rw [xb_eq (x := nI 0) (y := 0) (a := 0) (b := 0) rfl rfl (by omega) (by omega)] at h569
                      refine x_aload_n X dX9_works_576 rfl ?_
                      refine x_iload_n X dX9_works_577 rfl ?_
                      refine cv_X9_221 X (c_X9_isGreat hn (((qSum_off hV8 (by omega) _).1 37 3 (by omega) (by omega)).trans hVc) hV8) dX9_works_578 rfl ⟨by decide, by decide, by decide, by decide⟩ rfl rfl (Nat.le_of_ble_eq_true rfl) (xk_i ?_)
                      refine x_ifeq (tgt := 589) X dX9_works_581 (by decide) (fun h581 => ?_) (fun h581 => ?_)
                      · skip
                        have h581b := xB_0.mp h581
                        refine x_iconst (v := nI 0) X dX9_works_589 (by decide) ?_
                        exact x_iret X dX9_works_590 (xp_i (by first | (rw [← hσc]; exact (qFin_f h581b).symm) | (rw [← hσc]; exact (qFin_t h581b).symm)) (by first | (rw [← hσc]; done) | (rw [← hσc]; rfl)))
                      · skip
                        have h581b := Classical.not_not.mp (fun z => h581 (xB_f z))
                        refine x_bipush (v := nI 8) X dX9_works_584 (by decide) ?_
                        refine x_goto (tgt := 590) X dX9_works_586 (by decide) ?_
                        exact x_iret X dX9_works_590 (xp_i (by first | (rw [← hσc]; exact (qFin_f h581b).symm) | (rw [← hσc]; exact (qFin_t h581b).symm)) (by first | (rw [← hσc]; done) | (rw [← hσc]; rfl)))
                    · skip
                      exact absurd (by decide) h569
                  · skip
                    rw [xb_ge (x := nI k) (y := nI m) (a := k) (b := m) rfl rfl (by omega) (by omega)] at h275
                    obtain ⟨p1, p2⟩ := hpr k (by omega)
                    refine x_aload_n X dX9_works_278 rfl ?_
                    refine x_iconst (v := nI 2) X dX9_works_279 (by decide) ?_
                    refine x_iconst (v := nI 2) X dX9_works_280 (by decide) ?_
                    refine x_iload_n X dX9_works_281 rfl ?_
                    refine x_imul X dX9_works_282 ?_
                    rw [pk_mul 2 k]
                    refine x_iadd X dX9_works_283 ?_
                    rw [nI_add 2 (2 * k)]
                    refine cv_X9_187 X (c_X9_of (k := 2 + 2 * k) (((qSum_off hV8 (by omega) k).1 (37) (25) (by omega) (by omega)).trans hfc) (by omega)) dX9_works_284 rfl ⟨by decide, by decide, by decide, by decide⟩ rfl rfl (Nat.le_of_ble_eq_true rfl) (xk_i ?_)
                    rw [(qSum_off hV8 (by omega) k).1 50 _ (by omega) (by omega), ho.1 50 (_) (by omega) (by omega), p1]
                    refine x_istore (lv' := [(4, .int (nI (pr k))), (3, .int (nI k)), (2, .int (nI 0)), (1, .int (nI n)), (0, .ref (G.2.1 37))]) X dX9_works_287 (by decide) rfl ?_
                    refine x_iconst (v := nI 0) X dX9_works_289 (by decide) ?_
                    refine x_istore (lv' := [(5, .int (nI 0)), (4, .int (nI (pr k))), (3, .int (nI k)), (2, .int (nI 0)), (1, .int (nI n)), (0, .ref (G.2.1 37))]) X dX9_works_290 (by decide) rfl ?_
                    have lp292 : ∀ (NN292 : Nat) (i : Nat) (hi : i ≤ V), V - i = NN292 → xW pp l ee { frames := 2, cells := 0, slots := 0, locals := 55 } ss mm aa bel met kk 6 G 0 0 (xQ bel G (fun rv_ tv_ => rv_ = some (.int (qFin (qSum (qWc σ n) n V pr (fun k => xgI (qWc σ n) 50 (f + (3 + 2 * k))) m) n V)) ∧ tv_ = (qSum (qWc σ n) n V pr (fun k => xgI (qWc σ n) 50 (f + (3 + 2 * k))) m)) aa ss) 292 [(5, .int (nI i)), (4, .int (nI (pr k))), (3, .int (nI k)), (2, .int (nI 0)), (1, .int (nI n)), (0, .ref (G.2.1 37))] [] (qSf (qSum σc n V pr (fun k => xgI σc 50 (f + (3 + 2 * k))) k) n (pr k) (xgI σc 50 (f + (3 + 2 * k))).toInt64 i) := by
                      intro NN292
                      induction NN292 using Nat.strongRecOn with
                      | ind NN292 ih292 =>
                        intro i hi hNN292
                        refine x_iload X dX9_works_292 rfl ?_
                        refine x_aload_n X dX9_works_294 rfl ?_
                        refine gf_X9_112 X dX9_works_295 rfl ?_
                        rw [(((qSf_off i (by omega)).1 (37) (3) (by omega) (by omega)).trans (((qSum_off hV8 (by omega) k).1 (37) (3) (by omega) (by omega)).trans hVc))]
                        refine x_icmpge (tgt := 346) X dX9_works_298 (by decide) (fun h298 => ?_) (fun h298 => ?_)
                        · skip
                          rw [xb_ge (x := nI i) (y := nI V) (a := i) (b := V) rfl rfl (by omega) (by omega)] at h298
                          obtain rfl : i = V := by omega
                          refine x_aload_n X dX9_works_346 rfl ?_
                          refine gf_X9_63 (k' := 53) X dX9_works_347 rfl rfl ?_
                          refine x_iload_n X dX9_works_350 rfl ?_
                          refine x_dup2 X dX9_works_351 rfl rfl ?_
                          refine x_laldN X dX9_works_352 rfl (by omega) (by omega) ?_
                          refine x_aload_n X dX9_works_353 rfl ?_
                          refine gf_X9_63 (k' := 53) X dX9_works_354 rfl rfl ?_
                          refine x_iload X dX9_works_357 rfl ?_
                          refine x_laldN X dX9_works_359 rfl (by omega) (by omega) ?_
                          refine x_aload_n X dX9_works_360 rfl ?_
                          refine x_iconst (v := nI 3) X dX9_works_361 (by decide) ?_
                          refine x_iconst (v := nI 2) X dX9_works_362 (by decide) ?_
                          refine x_iload_n X dX9_works_363 rfl ?_
                          refine x_imul X dX9_works_364 ?_
                          rw [pk_mul 2 k]
                          refine x_iadd X dX9_works_365 ?_
                          rw [nI_add 3 (2 * k)]
                          refine cv_X9_187 X (c_X9_of (k := 3 + 2 * k) (((qSf_off _ (by omega)).1 (37) (25) (by omega) (by omega)).trans (((qSum_off hV8 (by omega) k).1 (37) (25) (by omega) (by omega)).trans hfc)) (by omega)) dX9_works_366 rfl ⟨by decide, by decide, by decide, by decide⟩ rfl rfl (Nat.le_of_ble_eq_true rfl) (xk_i ?_)
                          rw [(qSf_off _ (by omega)).1 50 _ (by omega) (by omega), (qSum_off hV8 (by omega) k).1 50 _ (by omega) (by omega)]
                          refine x_i2l X dX9_works_369 ?_
                          refine x_lmul X dX9_works_370 ?_
                          refine x_ladd X dX9_works_371 ?_
                          refine x_lastN X dX9_works_372 rfl (by omega) (by omega) ?_
                          refine x_aload_n X dX9_works_373 rfl ?_
                          refine x_iload_n X dX9_works_374 rfl ?_
                          refine x_iload X dX9_works_375 rfl ?_
                          refine x_iconst (v := (-1)) X dX9_works_377 (by decide) ?_
                          refine cv_X9_209 X (c_X9_assumes hn (by omega)) dX9_works_378 rfl ⟨by decide, by decide, by decide, by decide⟩ rfl rfl (Nat.le_of_ble_eq_true rfl) (xk_v ?_)
                          refine x_iinc (k := 2) (v := nI (k + 1)) (lv' := [(3, .int (nI (k + 1))), (5, .int (nI i)), (4, .int (nI (pr k))), (2, .int (nI 0)), (1, .int (nI n)), (0, .ref (G.2.1 37))]) X dX9_works_381 rfl (xn_inc _) (by decide) rfl ?_
                          refine x_goto (tgt := 269) X dX9_works_384 (by decide) ?_
                          refine x_pick [0, 3, 4, 5] rfl ?_
                          exact ih269 _ (by omega) (k + 1) (by omega) rfl
                        · skip
                          rw [xb_ge (x := nI i) (y := nI V) (a := i) (b := V) rfl rfl (by omega) (by omega)] at h298
                          refine x_aload_n X dX9_works_301 rfl ?_
                          refine gf_X9_59 (k' := 52) X dX9_works_302 rfl rfl ?_
                          refine x_bipush (v := nI 8) X dX9_works_305 (by decide) ?_
                          refine x_iload_n X dX9_works_307 rfl ?_
                          refine x_imul X dX9_works_308 ?_
                          rw [pk_mul 8 n]
                          refine x_iload X dX9_works_309 rfl ?_
                          refine x_iadd X dX9_works_311 ?_
                          rw [nI_add (8 * n) i]
                          refine x_dup2 X dX9_works_312 rfl rfl ?_
                          refine x_laldN X dX9_works_313 rfl (by omega) (by omega) ?_
                          refine x_aload_n X dX9_works_314 rfl ?_
                          refine gf_X9_59 (k' := 52) X dX9_works_315 rfl rfl ?_
                          refine x_bipush (v := nI 8) X dX9_works_318 (by decide) ?_
                          refine x_iload X dX9_works_320 rfl ?_
                          refine x_imul X dX9_works_322 ?_
                          rw [pk_mul 8 (pr k)]
                          refine x_iload X dX9_works_323 rfl ?_
                          refine x_iadd X dX9_works_325 ?_
                          rw [nI_add (8 * (pr k)) i]
                          refine x_laldN X dX9_works_326 rfl (by omega) (by omega) ?_
                          refine x_aload_n X dX9_works_327 rfl ?_
                          refine x_iconst (v := nI 3) X dX9_works_328 (by decide) ?_
                          refine x_iconst (v := nI 2) X dX9_works_329 (by decide) ?_
                          refine x_iload_n X dX9_works_330 rfl ?_
                          refine x_imul X dX9_works_331 ?_
                          rw [pk_mul 2 k]
                          refine x_iadd X dX9_works_332 ?_
                          rw [nI_add 3 (2 * k)]
                          refine cv_X9_187 X (c_X9_of (k := 3 + 2 * k) (((qSf_off i (by omega)).1 (37) (25) (by omega) (by omega)).trans (((qSum_off hV8 (by omega) k).1 (37) (25) (by omega) (by omega)).trans hfc)) (by omega)) dX9_works_333 rfl ⟨by decide, by decide, by decide, by decide⟩ rfl rfl (Nat.le_of_ble_eq_true rfl) (xk_i ?_)
                          rw [(qSf_off i (by omega)).1 50 _ (by omega) (by omega), (qSum_off hV8 (by omega) k).1 50 _ (by omega) (by omega)]
                          refine x_i2l X dX9_works_336 ?_
                          refine x_lmul X dX9_works_337 ?_
                          refine x_ladd X dX9_works_338 ?_
                          refine x_lastN X dX9_works_339 rfl (by omega) (by omega) ?_
                          refine x_iinc (k := 0) (v := nI (i + 1)) (lv' := [(5, .int (nI (i + 1))), (4, .int (nI (pr k))), (3, .int (nI k)), (2, .int (nI 0)), (1, .int (nI n)), (0, .ref (G.2.1 37))]) X dX9_works_340 rfl (xn_inc _) (by decide) rfl ?_
                          refine x_goto (tgt := 292) X dX9_works_343 (by decide) ?_
                          refine x_pick [0, 1, 2, 3, 4, 5] rfl ?_
                          exact ih292 _ (by omega) (i + 1) (by omega) rfl
                    refine x_pick [0, 1, 2, 3, 4, 5] rfl ?_
                    exact lp292 _ 0 (by omega) rfl
              refine x_pick [0, 1, 2, 3] rfl ?_
              exact lp269 _ 0 (by omega) rfl
            · skip
              rw [xb_ge (x := nI k) (y := nI 200) (a := k) (b := 200) rfl rfl (by omega) (by omega)] at h37
              refine x_aload_n X dX9_works_40 rfl ?_
              refine gf_X9_74 (k' := 56) X dX9_works_41 rfl rfl ?_
              refine x_sipush (v := nI 200) X dX9_works_44 (by decide) ?_
              refine x_iload_n X dX9_works_47 rfl ?_
              refine x_imul X dX9_works_48 ?_
              rw [pk_mul 200 n]
              refine x_iload_n X dX9_works_49 rfl ?_
              refine x_iadd X dX9_works_50 ?_
              rw [nI_add (200 * n) k]
              refine x_iconst (v := nI 0) X dX9_works_51 (by decide) ?_
              refine x_zastN X dX9_works_52 rfl (by omega) (by omega) (Or.inl rfl) ?_
              refine x_iinc (k := 0) (v := nI (k + 1)) (lv' := [(2, .int (nI (k + 1))), (1, .int (nI n)), (0, .ref (G.2.1 37))]) X dX9_works_53 rfl (xn_inc _) (by decide) rfl ?_
              refine x_goto (tgt := 33) X dX9_works_56 (by decide) ?_
              refine x_pick [0, 1, 2] rfl ?_
              exact ih33 _ (by omega) (k + 1) (by omega) rfl
        refine x_pick [0, 1, 2] rfl ?_
        exact lp33 _ 0 (by omega) rfl
      · skip
        rw [xb_ge (x := nI k) (y := nI 8) (a := k) (b := 8) rfl rfl (by omega) (by omega)] at h10
        refine x_aload_n X dX9_works_13 rfl ?_
        refine gf_X9_59 (k' := 52) X dX9_works_14 rfl rfl ?_
        refine x_bipush (v := nI 8) X dX9_works_17 (by decide) ?_
        refine x_iload_n X dX9_works_19 rfl ?_
        refine x_imul X dX9_works_20 ?_
        rw [pk_mul 8 n]
        refine x_iload_n X dX9_works_21 rfl ?_
        refine x_iadd X dX9_works_22 ?_
        rw [nI_add (8 * n) k]
        refine x_lconst (v := 0) X dX9_works_23 (by decide) ?_
        refine x_lastN X dX9_works_24 rfl (by omega) (by omega) ?_
        refine x_iinc (k := 0) (v := nI (k + 1)) (lv' := [(2, .int (nI (k + 1))), (1, .int (nI n)), (0, .ref (G.2.1 37))]) X dX9_works_25 rfl (xn_inc _) (by decide) rfl ?_
        refine x_goto (tgt := 7) X dX9_works_28 (by decide) ?_
        refine x_pick [0, 1, 2] rfl ?_
        exact ih7 _ (by omega) (k + 1) (by omega) rfl
  refine x_pick [0, 1, 2] rfl ?_
  exact lp7 _ 0 (by omega) rfl

set_option maxHeartbeats 4000000 in
set_option maxRecDepth 100000 in
theorem c_X9_works5 {l : Launch} {G : xG} {σ : xS} {n f V : Nat} (hn : n < 200) (hr : xgI σ 37 26 = nI n) (hf : xgI σ 37 25 = nI f) (hV : xgI σ 37 3 = nI V) (hV8 : V ≤ 8) (hq : xgI σ 50 f = nI 5) {r0 d : Nat} (hf2 : f + 3 ≤ 1500) (hr0 : xgI σ 50 (f + 1) = nI r0) (hr2 : r0 < n) (hd : xgI σ 50 (f + 2) = nI d) (hd2 : 2 ≤ d) (hd3 : d ≤ 1000) : xM l G yX9_works cX9_works 6 (Option.some Jvm.ClassFile.FieldType.int) 2 55 [.ref (G.2.1 37)] σ (fun rv tv => (qDivs (qWc σ n) r0 V (nI d).toInt64 ∧ rv = some (.int (qFin (qDone (qWc σ n) n r0 V (nI d).toInt64) n V)) ∧ tv = qDone (qWc σ n) n r0 V (nI d).toInt64) ∨ (¬ qDivs (qWc σ n) r0 V (nI d).toInt64 ∧ rv = some (.int 5) ∧ qOff n (qWc σ n) tv)) := by
  refine xM.of (by decide) (Nat.le_of_ble_eq_true rfl) (fun pp ee ss mm aa bel met kk X => ?_)
  have X : xC pp ss mm met kk cX9_works 6 RX9 (Option.some Jvm.ClassFile.FieldType.int) G := X
  show xW pp l ee { frames := 2, cells := 0, slots := 0, locals := 55 } ss mm aa bel met kk 6 G 0 0 (xQ bel G (fun rv tv => (qDivs (qWc σ n) r0 V (nI d).toInt64 ∧ rv = some (.int (qFin (qDone (qWc σ n) n r0 V (nI d).toInt64) n V)) ∧ tv = qDone (qWc σ n) n r0 V (nI d).toInt64) ∨ (¬ qDivs (qWc σ n) r0 V (nI d).toInt64 ∧ rv = some (.int 5) ∧ qOff n (qWc σ n) tv)) aa ss) 0 [(0, .ref (G.2.1 37))] [] σ
  refine x_aload_n X dX9_works_0 rfl ?_
  refine gf_X9_145 X dX9_works_1 rfl ?_
  rw [hr]
  refine x_istore_n (lv' := [(1, .int (nI n)), (0, .ref (G.2.1 37))]) X dX9_works_4 rfl (by decide) rfl ?_
  refine x_iconst (v := nI 0) X dX9_works_5 (by decide) ?_
  refine x_istore_n (lv' := [(2, .int (nI 0)), (1, .int (nI n)), (0, .ref (G.2.1 37))]) X dX9_works_6 rfl (by decide) rfl ?_
  have lp7 : ∀ (NN7 : Nat) (k : Nat) (hk : k ≤ 8), 8 - k = NN7 → xW pp l ee { frames := 2, cells := 0, slots := 0, locals := 55 } ss mm aa bel met kk 6 G 0 0 (xQ bel G (fun rv tv => (qDivs (qWc σ n) r0 V (nI d).toInt64 ∧ rv = some (.int (qFin (qDone (qWc σ n) n r0 V (nI d).toInt64) n V)) ∧ tv = qDone (qWc σ n) n r0 V (nI d).toInt64) ∨ (¬ qDivs (qWc σ n) r0 V (nI d).toInt64 ∧ rv = some (.int 5) ∧ qOff n (qWc σ n) tv)) aa ss) 7 [(2, .int (nI k)), (1, .int (nI n)), (0, .ref (G.2.1 37))] [] (qW1 σ n k) := by
    intro NN7
    induction NN7 using Nat.strongRecOn with
    | ind NN7 ih7 =>
      intro k hk hNN7
      refine x_iload_n X dX9_works_7 rfl ?_
      refine x_bipush (v := nI 8) X dX9_works_8 (by decide) ?_
      refine x_icmpge (tgt := 31) X dX9_works_10 (by decide) (fun h10 => ?_) (fun h10 => ?_)
      · skip
        rw [xb_ge (x := nI k) (y := nI 8) (a := k) (b := 8) rfl rfl (by omega) (by omega)] at h10
        obtain rfl : k = 8 := by omega
        refine x_iconst (v := nI 0) X dX9_works_31 (by decide) ?_
        refine x_istore_n (lv' := [(2, .int (nI 0)), (1, .int (nI n)), (0, .ref (G.2.1 37))]) X dX9_works_32 rfl (by decide) rfl ?_
        have lp33 : ∀ (NN33 : Nat) (k : Nat) (hk : k ≤ 200), 200 - k = NN33 → xW pp l ee { frames := 2, cells := 0, slots := 0, locals := 55 } ss mm aa bel met kk 6 G 0 0 (xQ bel G (fun rv tv => (qDivs (qWc σ n) r0 V (nI d).toInt64 ∧ rv = some (.int (qFin (qDone (qWc σ n) n r0 V (nI d).toInt64) n V)) ∧ tv = qDone (qWc σ n) n r0 V (nI d).toInt64) ∨ (¬ qDivs (qWc σ n) r0 V (nI d).toInt64 ∧ rv = some (.int 5) ∧ qOff n (qWc σ n) tv)) aa ss) 33 [(2, .int (nI k)), (1, .int (nI n)), (0, .ref (G.2.1 37))] [] (qW2 (qW1 σ n 8) n k) := by
          intro NN33
          induction NN33 using Nat.strongRecOn with
          | ind NN33 ih33 =>
            intro k hk hNN33
            refine x_iload_n X dX9_works_33 rfl ?_
            refine x_sipush (v := nI 200) X dX9_works_34 (by decide) ?_
            refine x_icmpge (tgt := 59) X dX9_works_37 (by decide) (fun h37 => ?_) (fun h37 => ?_)
            · skip
              rw [xb_ge (x := nI k) (y := nI 200) (a := k) (b := 200) rfl rfl (by omega) (by omega)] at h37
              obtain rfl : k = 200 := by omega
              refine x_aload_n X dX9_works_59 rfl ?_
              refine gf_X9_63 (k' := 53) X dX9_works_60 rfl rfl ?_
              refine x_iload_n X dX9_works_63 rfl ?_
              refine x_lconst (v := 0) X dX9_works_64 (by decide) ?_
              refine x_lastN X dX9_works_65 rfl (by omega) (by omega) ?_
              refine x_aload_n X dX9_works_66 rfl ?_
              refine gf_X9_66 (k' := 54) X dX9_works_67 rfl rfl ?_
              refine x_iload_n X dX9_works_70 rfl ?_
              refine x_iconst (v := nI 0) X dX9_works_71 (by decide) ?_
              refine x_zastN X dX9_works_72 rfl (by omega) (by omega) (Or.inl rfl) ?_
              refine x_aload_n X dX9_works_73 rfl ?_
              refine gf_X9_70 (k' := 55) X dX9_works_74 rfl rfl ?_
              refine x_iload_n X dX9_works_77 rfl ?_
              refine x_lconst (v := 0) X dX9_works_78 (by decide) ?_
              refine x_lastN X dX9_works_79 rfl (by omega) (by omega) ?_
              obtain ⟨σc, hσc⟩ : ∃ z : xS, z = qWc σ n := ⟨_, rfl⟩
              rw [show xsL (xsI (xsL (qW2 (qW1 σ n 8) n 200) 53 n 0) 54 n (nI 0)) 55 n 0 = σc from hσc.symm]
              have ho : qOff n σ σc := by rw [hσc]; exact qWc_off
              have hfc : xgI σc 37 25 = nI f := (ho.1 37 25 (by omega) (by omega)).trans hf
              have hVc : xgI σc 37 3 = nI V := (ho.1 37 3 (by omega) (by omega)).trans hV
              refine x_iconst (v := nI 0) X dX9_works_80 (by decide) ?_
              refine x_istore_n (lv' := [(2, .int (nI 0)), (1, .int (nI n)), (0, .ref (G.2.1 37))]) X dX9_works_81 rfl (by decide) rfl ?_
              refine x_aload_n X dX9_works_82 rfl ?_
              refine x_iconst (v := nI 0) X dX9_works_83 (by decide) ?_
              refine cv_X9_187 X (c_X9_of (k := 0) hfc (by omega)) dX9_works_84 rfl ⟨by decide, by decide, by decide, by decide⟩ rfl rfl (Nat.le_of_ble_eq_true rfl) (xk_i ?_)
              rw [show f + 0 = f from rfl, ho.1 50 f (by omega) (by omega), hq]
              refine x_tableIn (off := 303) (tgt := 390) X dX9_works_87 (by decide) (by decide) rfl (by decide) ?_
              refine x_aload_n X dX9_works_390 rfl ?_
              refine x_iload_n X dX9_works_391 rfl ?_
              refine cv_X9_212 X (c_X9_divides hn hfc hf2 ((ho.1 (50) (f + 1) (by omega) (by omega)).trans hr0) hr2 ((ho.1 (50) (f + 2) (by omega) (by omega)).trans hd) hd2 hd3 hVc hV8) dX9_works_392 rfl ⟨by decide, by decide, by decide, by decide⟩ rfl rfl (Nat.le_of_ble_eq_true rfl) (fun r0_ u hpo => ?_)
              obtain ⟨x, rfl⟩ : ∃ x : Int32, r0_ = some (.int x) := by
                rcases hpo with ⟨h1, h3, h2⟩ | ⟨h1, h3, h2⟩
                · exact ⟨0, h3⟩
                · exact ⟨5, h3⟩
              have hVu : xgI u 37 3 = nI V := by
                rcases hpo with ⟨h1, h3, h2⟩ | ⟨h1, h3, h2⟩
                · rw [h2]; exact ((((qDv_off V hV8).tr qOff.r).tr (qAssumes_off (by omega))).1 37 3 (by omega) (by omega)).trans hVc
                · exact (h2.1 37 3 (by omega) (by omega)).trans hVc
              refine x_istore_n (lv' := [(2, .int x), (1, .int (nI n)), (0, .ref (G.2.1 37))]) X dX9_works_395 rfl (by decide) rfl ?_
              refine x_goto (tgt := 568) X dX9_works_396 (by decide) ?_
              refine x_iload_n X dX9_works_568 rfl ?_
              refine x_ifeq (tgt := 576) X dX9_works_569 (by decide) (fun h569 => ?_) (fun h569 => ?_)
              · skip
                refine x_aload_n X dX9_works_576 rfl ?_
                refine x_iload_n X dX9_works_577 rfl ?_
                refine cv_X9_221 X (c_X9_isGreat hn hVu hV8) dX9_works_578 rfl ⟨by decide, by decide, by decide, by decide⟩ rfl rfl (Nat.le_of_ble_eq_true rfl) (xk_i ?_)
                refine x_ifeq (tgt := 589) X dX9_works_581 (by decide) (fun h581 => ?_) (fun h581 => ?_)
                · skip
                  have h581b := xB_0.mp h581
                  refine x_iconst (v := nI 0) X dX9_works_589 (by decide) ?_
                  exact x_iret X dX9_works_590 (by rw [hσc] at hpo; rcases hpo with ⟨h1, h3, h2⟩ | ⟨h1, h3, h2⟩; (cases h3; first | exact absurd rfl h569 | (refine Or.inl ⟨h1, ?_, h2⟩; rw [← h2]; first | (rw [qFin_f h581b]; rfl) | (rw [qFin_t h581b]; rfl))); (cases h3; first | exact absurd h569 (by decide) | exact Or.inr ⟨h1, rfl, h2⟩))
                · skip
                  have h581b := Classical.not_not.mp (fun z => h581 (xB_f z))
                  refine x_bipush (v := nI 8) X dX9_works_584 (by decide) ?_
                  refine x_goto (tgt := 590) X dX9_works_586 (by decide) ?_
                  exact x_iret X dX9_works_590 (by rw [hσc] at hpo; rcases hpo with ⟨h1, h3, h2⟩ | ⟨h1, h3, h2⟩; (cases h3; first | exact absurd rfl h569 | (refine Or.inl ⟨h1, ?_, h2⟩; rw [← h2]; first | (rw [qFin_f h581b]; rfl) | (rw [qFin_t h581b]; rfl))); (cases h3; first | exact absurd h569 (by decide) | exact Or.inr ⟨h1, rfl, h2⟩))
              · skip
                refine x_iload_n X dX9_works_572 rfl ?_
                refine x_goto (tgt := 590) X dX9_works_573 (by decide) ?_
                exact x_iret X dX9_works_590 (by rw [hσc] at hpo; rcases hpo with ⟨h1, h3, h2⟩ | ⟨h1, h3, h2⟩; (cases h3; first | exact absurd rfl h569 | (refine Or.inl ⟨h1, ?_, h2⟩; rw [← h2]; first | (rw [qFin_f h581b]; rfl) | (rw [qFin_t h581b]; rfl))); (cases h3; first | exact absurd h569 (by decide) | exact Or.inr ⟨h1, rfl, h2⟩))
            · skip
              rw [xb_ge (x := nI k) (y := nI 200) (a := k) (b := 200) rfl rfl (by omega) (by omega)] at h37
              refine x_aload_n X dX9_works_40 rfl ?_
              refine gf_X9_74 (k' := 56) X dX9_works_41 rfl rfl ?_
              refine x_sipush (v := nI 200) X dX9_works_44 (by decide) ?_
              refine x_iload_n X dX9_works_47 rfl ?_
              refine x_imul X dX9_works_48 ?_
              rw [pk_mul 200 n]
              refine x_iload_n X dX9_works_49 rfl ?_
              refine x_iadd X dX9_works_50 ?_
              rw [nI_add (200 * n) k]
              refine x_iconst (v := nI 0) X dX9_works_51 (by decide) ?_
              refine x_zastN X dX9_works_52 rfl (by omega) (by omega) (Or.inl rfl) ?_
              refine x_iinc (k := 0) (v := nI (k + 1)) (lv' := [(2, .int (nI (k + 1))), (1, .int (nI n)), (0, .ref (G.2.1 37))]) X dX9_works_53 rfl (xn_inc _) (by decide) rfl ?_
              refine x_goto (tgt := 33) X dX9_works_56 (by decide) ?_
              refine x_pick [0, 1, 2] rfl ?_
              exact ih33 _ (by omega) (k + 1) (by omega) rfl
        refine x_pick [0, 1, 2] rfl ?_
        exact lp33 _ 0 (by omega) rfl
      · skip
        rw [xb_ge (x := nI k) (y := nI 8) (a := k) (b := 8) rfl rfl (by omega) (by omega)] at h10
        refine x_aload_n X dX9_works_13 rfl ?_
        refine gf_X9_59 (k' := 52) X dX9_works_14 rfl rfl ?_
        refine x_bipush (v := nI 8) X dX9_works_17 (by decide) ?_
        refine x_iload_n X dX9_works_19 rfl ?_
        refine x_imul X dX9_works_20 ?_
        rw [pk_mul 8 n]
        refine x_iload_n X dX9_works_21 rfl ?_
        refine x_iadd X dX9_works_22 ?_
        rw [nI_add (8 * n) k]
        refine x_lconst (v := 0) X dX9_works_23 (by decide) ?_
        refine x_lastN X dX9_works_24 rfl (by omega) (by omega) ?_
        refine x_iinc (k := 0) (v := nI (k + 1)) (lv' := [(2, .int (nI (k + 1))), (1, .int (nI n)), (0, .ref (G.2.1 37))]) X dX9_works_25 rfl (xn_inc _) (by decide) rfl ?_
        refine x_goto (tgt := 7) X dX9_works_28 (by decide) ?_
        refine x_pick [0, 1, 2] rfl ?_
        exact ih7 _ (by omega) (k + 1) (by omega) rfl
  refine x_pick [0, 1, 2] rfl ?_
  exact lp7 _ 0 (by omega) rfl

set_option maxHeartbeats 4000000 in
set_option maxRecDepth 100000 in
theorem c_X9_works6 {l : Launch} {G : xG} {σ : xS} {n f V : Nat} (hn : n < 200) (hr : xgI σ 37 26 = nI n) (hf : xgI σ 37 25 = nI f) (hV : xgI σ 37 3 = nI V) (hV8 : V ≤ 8) (hq : xgI σ 50 f = nI 6) {v : Nat} (hf2 : f + 4 ≤ 1500) (hv : xgI σ 50 (f + 1) = nI v) (hv2 : v < 8) : xFi l G yX9_works cX9_works 6 (Option.some Jvm.ClassFile.FieldType.int) 2 55 [.ref (G.2.1 37)] σ (qFin (qBrn (qWc σ n) n v (xgI (qWc σ n) 50 (f + 2)) (xgI (qWc σ n) 50 (f + 3))) n V) (qBrn (qWc σ n) n v (xgI (qWc σ n) 50 (f + 2)) (xgI (qWc σ n) 50 (f + 3))) := by
  refine xM.of (by decide) (Nat.le_of_ble_eq_true rfl) (fun pp ee ss mm aa bel met kk X => ?_)
  have X : xC pp ss mm met kk cX9_works 6 RX9 (Option.some Jvm.ClassFile.FieldType.int) G := X
  show xW pp l ee { frames := 2, cells := 0, slots := 0, locals := 55 } ss mm aa bel met kk 6 G 0 0 (xQ bel G (fun rv_ tv_ => rv_ = some (.int (qFin (qBrn (qWc σ n) n v (xgI (qWc σ n) 50 (f + 2)) (xgI (qWc σ n) 50 (f + 3))) n V)) ∧ tv_ = (qBrn (qWc σ n) n v (xgI (qWc σ n) 50 (f + 2)) (xgI (qWc σ n) 50 (f + 3)))) aa ss) 0 [(0, .ref (G.2.1 37))] [] σ
  refine x_aload_n X dX9_works_0 rfl ?_
  refine gf_X9_145 X dX9_works_1 rfl ?_
  rw [hr]
  refine x_istore_n (lv' := [(1, .int (nI n)), (0, .ref (G.2.1 37))]) X dX9_works_4 rfl (by decide) rfl ?_
  refine x_iconst (v := nI 0) X dX9_works_5 (by decide) ?_
  refine x_istore_n (lv' := [(2, .int (nI 0)), (1, .int (nI n)), (0, .ref (G.2.1 37))]) X dX9_works_6 rfl (by decide) rfl ?_
  have lp7 : ∀ (NN7 : Nat) (k : Nat) (hk : k ≤ 8), 8 - k = NN7 → xW pp l ee { frames := 2, cells := 0, slots := 0, locals := 55 } ss mm aa bel met kk 6 G 0 0 (xQ bel G (fun rv_ tv_ => rv_ = some (.int (qFin (qBrn (qWc σ n) n v (xgI (qWc σ n) 50 (f + 2)) (xgI (qWc σ n) 50 (f + 3))) n V)) ∧ tv_ = (qBrn (qWc σ n) n v (xgI (qWc σ n) 50 (f + 2)) (xgI (qWc σ n) 50 (f + 3)))) aa ss) 7 [(2, .int (nI k)), (1, .int (nI n)), (0, .ref (G.2.1 37))] [] (qW1 σ n k) := by
    intro NN7
    induction NN7 using Nat.strongRecOn with
    | ind NN7 ih7 =>
      intro k hk hNN7
      refine x_iload_n X dX9_works_7 rfl ?_
      refine x_bipush (v := nI 8) X dX9_works_8 (by decide) ?_
      refine x_icmpge (tgt := 31) X dX9_works_10 (by decide) (fun h10 => ?_) (fun h10 => ?_)
      · skip
        rw [xb_ge (x := nI k) (y := nI 8) (a := k) (b := 8) rfl rfl (by omega) (by omega)] at h10
        obtain rfl : k = 8 := by omega
        refine x_iconst (v := nI 0) X dX9_works_31 (by decide) ?_
        refine x_istore_n (lv' := [(2, .int (nI 0)), (1, .int (nI n)), (0, .ref (G.2.1 37))]) X dX9_works_32 rfl (by decide) rfl ?_
        have lp33 : ∀ (NN33 : Nat) (k : Nat) (hk : k ≤ 200), 200 - k = NN33 → xW pp l ee { frames := 2, cells := 0, slots := 0, locals := 55 } ss mm aa bel met kk 6 G 0 0 (xQ bel G (fun rv_ tv_ => rv_ = some (.int (qFin (qBrn (qWc σ n) n v (xgI (qWc σ n) 50 (f + 2)) (xgI (qWc σ n) 50 (f + 3))) n V)) ∧ tv_ = (qBrn (qWc σ n) n v (xgI (qWc σ n) 50 (f + 2)) (xgI (qWc σ n) 50 (f + 3)))) aa ss) 33 [(2, .int (nI k)), (1, .int (nI n)), (0, .ref (G.2.1 37))] [] (qW2 (qW1 σ n 8) n k) := by
          intro NN33
          induction NN33 using Nat.strongRecOn with
          | ind NN33 ih33 =>
            intro k hk hNN33
            refine x_iload_n X dX9_works_33 rfl ?_
            refine x_sipush (v := nI 200) X dX9_works_34 (by decide) ?_
            refine x_icmpge (tgt := 59) X dX9_works_37 (by decide) (fun h37 => ?_) (fun h37 => ?_)
            · skip
              rw [xb_ge (x := nI k) (y := nI 200) (a := k) (b := 200) rfl rfl (by omega) (by omega)] at h37
              obtain rfl : k = 200 := by omega
              refine x_aload_n X dX9_works_59 rfl ?_
              refine gf_X9_63 (k' := 53) X dX9_works_60 rfl rfl ?_
              refine x_iload_n X dX9_works_63 rfl ?_
              refine x_lconst (v := 0) X dX9_works_64 (by decide) ?_
              refine x_lastN X dX9_works_65 rfl (by omega) (by omega) ?_
              refine x_aload_n X dX9_works_66 rfl ?_
              refine gf_X9_66 (k' := 54) X dX9_works_67 rfl rfl ?_
              refine x_iload_n X dX9_works_70 rfl ?_
              refine x_iconst (v := nI 0) X dX9_works_71 (by decide) ?_
              refine x_zastN X dX9_works_72 rfl (by omega) (by omega) (Or.inl rfl) ?_
              refine x_aload_n X dX9_works_73 rfl ?_
              refine gf_X9_70 (k' := 55) X dX9_works_74 rfl rfl ?_
              refine x_iload_n X dX9_works_77 rfl ?_
              refine x_lconst (v := 0) X dX9_works_78 (by decide) ?_
              refine x_lastN X dX9_works_79 rfl (by omega) (by omega) ?_
              obtain ⟨σc, hσc⟩ : ∃ z : xS, z = qWc σ n := ⟨_, rfl⟩
              rw [show xsL (xsI (xsL (qW2 (qW1 σ n 8) n 200) 53 n 0) 54 n (nI 0)) 55 n 0 = σc from hσc.symm]
              have ho : qOff n σ σc := by rw [hσc]; exact qWc_off
              have hfc : xgI σc 37 25 = nI f := (ho.1 37 25 (by omega) (by omega)).trans hf
              have hVc : xgI σc 37 3 = nI V := (ho.1 37 3 (by omega) (by omega)).trans hV
              refine x_iconst (v := nI 0) X dX9_works_80 (by decide) ?_
              refine x_istore_n (lv' := [(2, .int (nI 0)), (1, .int (nI n)), (0, .ref (G.2.1 37))]) X dX9_works_81 rfl (by decide) rfl ?_
              refine x_aload_n X dX9_works_82 rfl ?_
              refine x_iconst (v := nI 0) X dX9_works_83 (by decide) ?_
              refine cv_X9_187 X (c_X9_of (k := 0) hfc (by omega)) dX9_works_84 rfl ⟨by decide, by decide, by decide, by decide⟩ rfl rfl (Nat.le_of_ble_eq_true rfl) (xk_i ?_)
              rw [show f + 0 = f from rfl, ho.1 50 f (by omega) (by omega), hq]
              refine x_tableIn (off := 312) (tgt := 399) X dX9_works_87 (by decide) (by decide) rfl (by decide) ?_
              refine x_aload_n X dX9_works_399 rfl ?_
              refine x_iload_n X dX9_works_400 rfl ?_
              refine x_aload_n X dX9_works_401 rfl ?_
              refine x_iconst (v := nI 1) X dX9_works_402 (by decide) ?_
              refine cv_X9_187 X (c_X9_of (k := 1) hfc (by omega)) dX9_works_403 rfl ⟨by decide, by decide, by decide, by decide⟩ rfl rfl (Nat.le_of_ble_eq_true rfl) (xk_i ?_)
              rw [ho.1 50 (f + 1) (by omega) (by omega), hv]
              refine x_aload_n X dX9_works_406 rfl ?_
              refine x_iconst (v := nI 3) X dX9_works_407 (by decide) ?_
              refine cv_X9_187 X (c_X9_of (k := 3) hfc (by omega)) dX9_works_408 rfl ⟨by decide, by decide, by decide, by decide⟩ rfl rfl (Nat.le_of_ble_eq_true rfl) (xk_i ?_)
              refine x_ifne (tgt := 418) X dX9_works_411 (by decide) (fun h411 => ?_) (fun h411 => ?_)
              · skip
                have hB : xsI (xsI (xsL (xsL σc 52 (8 * n + v) (-1)) 53 n ((-xgI σc 50 (f + 2)).toInt64 - 1)) 56 (200 * n + n) (nI 1)) 37 27 (xgI σc 37 27 + nI 1) = qBrn (qWc σ n) n v (xgI (qWc σ n) 50 (f + 2)) (xgI (qWc σ n) 50 (f + 3)) := by rw [← hσc]; unfold qBrn; rw [if_neg h411]; rfl
                refine x_ldc2 X dX9_works_418 wk_X9_204 ?_
                refine cv_X9_200 X (c_X9_says hn hv2) dX9_works_421 rfl ⟨by decide, by decide, by decide, by decide⟩ rfl rfl (Nat.le_of_ble_eq_true rfl) (xk_v ?_)
                refine x_aload_n X dX9_works_424 rfl ?_
                refine gf_X9_63 (k' := 53) X dX9_works_425 rfl rfl ?_
                refine x_iload_n X dX9_works_428 rfl ?_
                refine x_aload_n X dX9_works_429 rfl ?_
                refine x_iconst (v := nI 3) X dX9_works_430 (by decide) ?_
                refine cv_X9_187 X (c_X9_of (k := 3) hfc (by omega)) dX9_works_431 rfl ⟨by decide, by decide, by decide, by decide⟩ rfl rfl (Nat.le_of_ble_eq_true rfl) (xk_i ?_)
                rw [xgI_L]
                refine x_ifne (tgt := 446) X dX9_works_434 (by decide) (fun h434 => ?_) (fun h434 => ?_)
                · skip
                  refine x_aload_n X dX9_works_446 rfl ?_
                  refine x_iconst (v := nI 2) X dX9_works_447 (by decide) ?_
                  refine cv_X9_187 X (c_X9_of (k := 2) hfc (by omega)) dX9_works_448 rfl ⟨by decide, by decide, by decide, by decide⟩ rfl rfl (Nat.le_of_ble_eq_true rfl) (xk_i ?_)
                  rw [xgI_L]
                  refine x_ineg X dX9_works_451 ?_
                  refine x_i2l X dX9_works_452 ?_
                  refine x_lconst (v := 1) X dX9_works_453 (by decide) ?_
                  refine x_lsub X dX9_works_454 ?_
                  refine x_lastN X dX9_works_455 rfl (by omega) (by omega) ?_
                  refine x_aload_n X dX9_works_456 rfl ?_
                  refine gf_X9_74 (k' := 56) X dX9_works_457 rfl rfl ?_
                  refine x_sipush (v := nI 200) X dX9_works_460 (by decide) ?_
                  refine x_iload_n X dX9_works_463 rfl ?_
                  refine x_imul X dX9_works_464 ?_
                  rw [pk_mul 200 n]
                  refine x_iload_n X dX9_works_465 rfl ?_
                  refine x_iadd X dX9_works_466 ?_
                  rw [nI_add (200 * n) n]
                  refine x_iconst (v := nI 1) X dX9_works_467 (by decide) ?_
                  refine x_zastN X dX9_works_468 rfl (by omega) (by omega) (Or.inr rfl) ?_
                  refine x_aload_n X dX9_works_469 rfl ?_
                  refine x_dup X dX9_works_470 rfl ?_
                  refine gf_X9_148 X dX9_works_471 rfl ?_
                  rw [xgI_n (by omega), xgI_L, xgI_L]
                  refine x_iconst (v := nI 1) X dX9_works_474 (by decide) ?_
                  refine x_iadd X dX9_works_475 ?_
                  refine pf_X9_148 X dX9_works_476 rfl ?_
                  refine x_goto (tgt := 568) X dX9_works_479 (by decide) ?_
                  refine x_iload_n X dX9_works_568 rfl ?_
                  refine x_ifeq (tgt := 576) X dX9_works_569 (by decide) (fun h569 => ?_) (fun h569 => ?_)
                  · skip
                    rw [xb_eq (x := nI 0) (y := 0) (a := 0) (b := 0) rfl rfl (by omega) (by omega)] at h569
                    refine x_aload_n X dX9_works_576 rfl ?_
                    refine x_iload_n X dX9_works_577 rfl ?_
                    refine cv_X9_221 X (c_X9_isGreat hn (by rw [xgI_n (by omega), xgI_n (by omega)]; exact hVc) hV8) dX9_works_578 rfl ⟨by decide, by decide, by decide, by decide⟩ rfl rfl (Nat.le_of_ble_eq_true rfl) (xk_i ?_)
                    refine x_ifeq (tgt := 589) X dX9_works_581 (by decide) (fun h581 => ?_) (fun h581 => ?_)
                    · skip
                      have h581b := xB_0.mp h581
                      refine x_iconst (v := nI 0) X dX9_works_589 (by decide) ?_
                      exact x_iret X dX9_works_590 (xp_i (by rw [← hB]; first | exact (qFin_f h581b).symm | exact (qFin_t h581b).symm) (by exact hB))
                    · skip
                      have h581b := Classical.not_not.mp (fun z => h581 (xB_f z))
                      refine x_bipush (v := nI 8) X dX9_works_584 (by decide) ?_
                      refine x_goto (tgt := 590) X dX9_works_586 (by decide) ?_
                      exact x_iret X dX9_works_590 (xp_i (by rw [← hB]; first | exact (qFin_f h581b).symm | exact (qFin_t h581b).symm) (by exact hB))
                  · skip
                    exact absurd (by decide) h569
                · skip
                  exact absurd h434 h411
              · skip
                have hB : xsI (xsI (xsL (xsL σc 52 (8 * n + v) (1)) 53 n ((xgI σc 50 (f + 2)).toInt64)) 56 (200 * n + n) (nI 1)) 37 27 (xgI σc 37 27 + nI 1) = qBrn (qWc σ n) n v (xgI (qWc σ n) 50 (f + 2)) (xgI (qWc σ n) 50 (f + 3)) := by rw [← hσc]; unfold qBrn; rw [if_pos h411]; rfl
                refine x_lconst (v := 1) X dX9_works_414 (by decide) ?_
                refine x_goto (tgt := 421) X dX9_works_415 (by decide) ?_
                refine cv_X9_200 X (c_X9_says hn hv2) dX9_works_421 rfl ⟨by decide, by decide, by decide, by decide⟩ rfl rfl (Nat.le_of_ble_eq_true rfl) (xk_v ?_)
                refine x_aload_n X dX9_works_424 rfl ?_
                refine gf_X9_63 (k' := 53) X dX9_works_425 rfl rfl ?_
                refine x_iload_n X dX9_works_428 rfl ?_
                refine x_aload_n X dX9_works_429 rfl ?_
                refine x_iconst (v := nI 3) X dX9_works_430 (by decide) ?_
                refine cv_X9_187 X (c_X9_of (k := 3) hfc (by omega)) dX9_works_431 rfl ⟨by decide, by decide, by decide, by decide⟩ rfl rfl (Nat.le_of_ble_eq_true rfl) (xk_i ?_)
                rw [xgI_L]
                refine x_ifne (tgt := 446) X dX9_works_434 (by decide) (fun h434 => ?_) (fun h434 => ?_)
                · skip
                  exact absurd h411 h434
                · skip
                  refine x_aload_n X dX9_works_437 rfl ?_
                  refine x_iconst (v := nI 2) X dX9_works_438 (by decide) ?_
                  refine cv_X9_187 X (c_X9_of (k := 2) hfc (by omega)) dX9_works_439 rfl ⟨by decide, by decide, by decide, by decide⟩ rfl rfl (Nat.le_of_ble_eq_true rfl) (xk_i ?_)
                  rw [xgI_L]
                  refine x_i2l X dX9_works_442 ?_
                  refine x_goto (tgt := 455) X dX9_works_443 (by decide) ?_
                  refine x_lastN X dX9_works_455 rfl (by omega) (by omega) ?_
                  refine x_aload_n X dX9_works_456 rfl ?_
                  refine gf_X9_74 (k' := 56) X dX9_works_457 rfl rfl ?_
                  refine x_sipush (v := nI 200) X dX9_works_460 (by decide) ?_
                  refine x_iload_n X dX9_works_463 rfl ?_
                  refine x_imul X dX9_works_464 ?_
                  rw [pk_mul 200 n]
                  refine x_iload_n X dX9_works_465 rfl ?_
                  refine x_iadd X dX9_works_466 ?_
                  rw [nI_add (200 * n) n]
                  refine x_iconst (v := nI 1) X dX9_works_467 (by decide) ?_
                  refine x_zastN X dX9_works_468 rfl (by omega) (by omega) (Or.inr rfl) ?_
                  refine x_aload_n X dX9_works_469 rfl ?_
                  refine x_dup X dX9_works_470 rfl ?_
                  refine gf_X9_148 X dX9_works_471 rfl ?_
                  rw [xgI_n (by omega), xgI_L, xgI_L]
                  refine x_iconst (v := nI 1) X dX9_works_474 (by decide) ?_
                  refine x_iadd X dX9_works_475 ?_
                  refine pf_X9_148 X dX9_works_476 rfl ?_
                  refine x_goto (tgt := 568) X dX9_works_479 (by decide) ?_
                  refine x_iload_n X dX9_works_568 rfl ?_
                  refine x_ifeq (tgt := 576) X dX9_works_569 (by decide) (fun h569 => ?_) (fun h569 => ?_)
                  · skip
                    rw [xb_eq (x := nI 0) (y := 0) (a := 0) (b := 0) rfl rfl (by omega) (by omega)] at h569
                    refine x_aload_n X dX9_works_576 rfl ?_
                    refine x_iload_n X dX9_works_577 rfl ?_
                    refine cv_X9_221 X (c_X9_isGreat hn (by rw [xgI_n (by omega), xgI_n (by omega)]; exact hVc) hV8) dX9_works_578 rfl ⟨by decide, by decide, by decide, by decide⟩ rfl rfl (Nat.le_of_ble_eq_true rfl) (xk_i ?_)
                    refine x_ifeq (tgt := 589) X dX9_works_581 (by decide) (fun h581 => ?_) (fun h581 => ?_)
                    · skip
                      have h581b := xB_0.mp h581
                      refine x_iconst (v := nI 0) X dX9_works_589 (by decide) ?_
                      exact x_iret X dX9_works_590 (xp_i (by rw [← hB]; first | exact (qFin_f h581b).symm | exact (qFin_t h581b).symm) (by exact hB))
                    · skip
                      have h581b := Classical.not_not.mp (fun z => h581 (xB_f z))
                      refine x_bipush (v := nI 8) X dX9_works_584 (by decide) ?_
                      refine x_goto (tgt := 590) X dX9_works_586 (by decide) ?_
                      exact x_iret X dX9_works_590 (xp_i (by rw [← hB]; first | exact (qFin_f h581b).symm | exact (qFin_t h581b).symm) (by exact hB))
                  · skip
                    exact absurd (by decide) h569
            · skip
              rw [xb_ge (x := nI k) (y := nI 200) (a := k) (b := 200) rfl rfl (by omega) (by omega)] at h37
              refine x_aload_n X dX9_works_40 rfl ?_
              refine gf_X9_74 (k' := 56) X dX9_works_41 rfl rfl ?_
              refine x_sipush (v := nI 200) X dX9_works_44 (by decide) ?_
              refine x_iload_n X dX9_works_47 rfl ?_
              refine x_imul X dX9_works_48 ?_
              rw [pk_mul 200 n]
              refine x_iload_n X dX9_works_49 rfl ?_
              refine x_iadd X dX9_works_50 ?_
              rw [nI_add (200 * n) k]
              refine x_iconst (v := nI 0) X dX9_works_51 (by decide) ?_
              refine x_zastN X dX9_works_52 rfl (by omega) (by omega) (Or.inl rfl) ?_
              refine x_iinc (k := 0) (v := nI (k + 1)) (lv' := [(2, .int (nI (k + 1))), (1, .int (nI n)), (0, .ref (G.2.1 37))]) X dX9_works_53 rfl (xn_inc _) (by decide) rfl ?_
              refine x_goto (tgt := 33) X dX9_works_56 (by decide) ?_
              refine x_pick [0, 1, 2] rfl ?_
              exact ih33 _ (by omega) (k + 1) (by omega) rfl
        refine x_pick [0, 1, 2] rfl ?_
        exact lp33 _ 0 (by omega) rfl
      · skip
        rw [xb_ge (x := nI k) (y := nI 8) (a := k) (b := 8) rfl rfl (by omega) (by omega)] at h10
        refine x_aload_n X dX9_works_13 rfl ?_
        refine gf_X9_59 (k' := 52) X dX9_works_14 rfl rfl ?_
        refine x_bipush (v := nI 8) X dX9_works_17 (by decide) ?_
        refine x_iload_n X dX9_works_19 rfl ?_
        refine x_imul X dX9_works_20 ?_
        rw [pk_mul 8 n]
        refine x_iload_n X dX9_works_21 rfl ?_
        refine x_iadd X dX9_works_22 ?_
        rw [nI_add (8 * n) k]
        refine x_lconst (v := 0) X dX9_works_23 (by decide) ?_
        refine x_lastN X dX9_works_24 rfl (by omega) (by omega) ?_
        refine x_iinc (k := 0) (v := nI (k + 1)) (lv' := [(2, .int (nI (k + 1))), (1, .int (nI n)), (0, .ref (G.2.1 37))]) X dX9_works_25 rfl (xn_inc _) (by decide) rfl ?_
        refine x_goto (tgt := 7) X dX9_works_28 (by decide) ?_
        refine x_pick [0, 1, 2] rfl ?_
        exact ih7 _ (by omega) (k + 1) (by omega) rfl
  refine x_pick [0, 1, 2] rfl ?_
  exact lp7 _ 0 (by omega) rfl
