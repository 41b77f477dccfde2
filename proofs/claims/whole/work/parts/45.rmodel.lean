/-! The reference: model -/
def aDig (t : Nat → Int32) : Nat → Int32
  | 0 => 17
  | k + 1 => 31 * aDig t k + t k
/-- the reference's state behind the second reading -/
def qMo (σ : xS) (t : Nat → Int32) (z : Nat) : xS := qR (xsI (xsI (xsI (bT (bR (bV σ t z (gV t z)) t z (gV t z) (g3 t z) (gN t z)) t z (gV t z) (g5 t z) (gM t z)) 37 3 (nI (gV t z))) 37 7 (nI (gN t z))) 37 10 (nI (gM t z))) (g6 t z)
theorem qMo_o {σ : xS} {t : Nat → Int32} {z a b : Nat} (h : a < 37 ∨ 48 < a ∨ a = 38 ∨ (a = 37 ∧ b ≠ 3 ∧ b ≠ 7 ∧ b ≠ 10 ∧ b ≠ 37 ∧ b ≠ 38)) : xgI (qMo σ t z) a b = xgI σ a b := by
  unfold qMo
  rw [qR_o (by omega) (by omega), xgI_n (by omega), xgI_n (by omega), xgI_n (by omega), bT_o b (by omega), bR_o b (by omega), bV_o b (by omega)]
def qM1 (σ : xS) : xS := xsI (xsI σ 37 0 0) 37 39 0
def qM2 (σ : xS) (t : Nat → Int32) (z : Nat) : xS := xsI (qR (qM1 σ) (g7 t z)) 37 39 1
def qM3 (σ : xS) (t : Nat → Int32) (z : Nat) : xS := qMo (qM2 σ t z) t z
theorem g7_e {t : Nat → Int32} {z : Nat} (h : ¬ (g7 t z).2 = true) : (g7 t z) = (z, false) ∧ g6 t z = (z, false) := by
  have h6 := g6_q t z
  unfold g7 at h ⊢
  by_cases e : (g6 t z).2 = true
  · rw [if_pos e] at h; exact absurd e h
  · rw [if_neg e] at h ⊢
    by_cases e2 : z ≤ (g6 t z).1
    · rw [if_pos e2]
      have e3 : g6 t z = (z, false) := Prod.ext (by show (g6 t z).1 = z; omega) (by simpa using e)
      exact ⟨e3, e3⟩
    · rw [if_neg e2] at h; exact absurd rfl h

theorem xsI_2 {σ : xS} {k j : Nat} {u v : Int32} : xsI (xsI σ k j u) k j v = xsI σ k j v := by
  unfold xsI
  congr 1
  funext a b
  by_cases h : a = k ∧ b = j
  · simp only [if_pos h]
  · simp only [if_neg h]

set_option maxHeartbeats 4000000 in
set_option maxRecDepth 100000 in
theorem c_X9_modelN {l : Launch} {G : xG} {σ : xS} {t : Nat → Int32} {z : Nat} (ht : xgI σ 38 = t) (hz : xgI σ 37 2 = nI z) (hz2 : z ≤ 1000) (hb : (g7 t z).2 = true) : xFi l G yX9_model cX9_model 2 (Option.some Jvm.ClassFile.FieldType.int) 3 74 [.ref (G.2.1 37)] σ (-10 - nI (g7 t z).1) (xsI (qR (qM1 σ) (g7 t z)) 37 2 0) := by
  refine xM.of (by decide) (Nat.le_of_ble_eq_true rfl) (fun pp ee ss mm aa bel met kk X => ?_)
  have X : xC pp ss mm met kk cX9_model 2 RX9 (Option.some Jvm.ClassFile.FieldType.int) G := X
  show xW pp l ee { frames := 3, cells := 0, slots := 0, locals := 74 } ss mm aa bel met kk 2 G 0 0 (xQ bel G (fun rv_ tv_ => rv_ = some (.int (-10 - nI (g7 t z).1)) ∧ tv_ = (xsI (qR (qM1 σ) (g7 t z)) 37 2 0)) aa ss) 0 [(0, .ref (G.2.1 37))] [] σ
  refine x_aload_n X dX9_model_0 rfl ?_
  refine x_iconst (v := nI 0) X dX9_model_1 (by decide) ?_
  refine pf_X9_86 X dX9_model_2 rfl ?_
  refine x_aload_n X dX9_model_5 rfl ?_
  refine x_iconst (v := nI 0) X dX9_model_6 (by decide) ?_
  refine pf_X9_107 X dX9_model_7 rfl (Or.inl rfl) ?_
  refine x_aload_n X dX9_model_10 rfl ?_
  refine cv_X9_121 X (c_X9_goN (σ := qM1 σ) (t := t) (z := z) (show xgI (qM1 σ) 38 = t from (xt_I (xt_I ht (by omega)) (by omega))) hz hz2 rfl) dX9_model_11 rfl ⟨by decide, by decide, by decide, by decide⟩ rfl rfl (Nat.le_of_ble_eq_true rfl) (xk_v ?_)
  refine x_aload_n X dX9_model_14 rfl ?_
  refine gf_X9_96 X dX9_model_15 rfl ?_
  refine x_ifeq (tgt := 36) X dX9_model_18 (by decide) (fun h18 => ?_) (fun h18 => ?_)
  · skip
    exact absurd hb (qR_f h18)
  · skip
    refine x_aload_n X dX9_model_21 rfl ?_
    refine gf_X9_100 X dX9_model_22 rfl ?_
    rw [qR_q]
    refine x_istore_n (lv' := [(1, .int (nI (g7 t z).1)), (0, .ref (G.2.1 37))]) X dX9_model_25 rfl (by decide) rfl ?_
    refine x_aload_n X dX9_model_26 rfl ?_
    refine x_iconst (v := nI 0) X dX9_model_27 (by decide) ?_
    refine pf_X9_93 X dX9_model_28 rfl ?_
    refine x_bipush (v := (-10)) X dX9_model_31 (by decide) ?_
    refine x_iload_n X dX9_model_33 rfl ?_
    refine x_isub X dX9_model_34 ?_
    exact x_iret X dX9_model_35 (xp_i (by first | rfl | simp [*]) (by first | rfl | simp [*]))

set_option maxHeartbeats 4000000 in
set_option maxRecDepth 100000 in
theorem c_X9_model {l : Launch} {G : xG} {σ : xS} {t : Nat → Int32} {z : Nat} (ht : xgI σ 38 = t) (hz : xgI σ 37 2 = nI z) (hz2 : z ≤ 1000) (hb : ¬ (g7 t z).2 = true) : xFi l G yX9_model cX9_model 2 (Option.some Jvm.ClassFile.FieldType.int) 3 74 [.ref (G.2.1 37)] σ (1) (qForget (xsI (xsI (xsI (qM3 σ t z) 37 16 (aDig t z)) 37 2 0) 37 17 0)) := by
  refine xM.of (by decide) (Nat.le_of_ble_eq_true rfl) (fun pp ee ss mm aa bel met kk X => ?_)
  have X : xC pp ss mm met kk cX9_model 2 RX9 (Option.some Jvm.ClassFile.FieldType.int) G := X
  show xW pp l ee { frames := 3, cells := 0, slots := 0, locals := 74 } ss mm aa bel met kk 2 G 0 0 (xQ bel G (fun rv_ tv_ => rv_ = some (.int (1)) ∧ tv_ = (qForget (xsI (xsI (xsI (qM3 σ t z) 37 16 (aDig t z)) 37 2 0) 37 17 0))) aa ss) 0 [(0, .ref (G.2.1 37))] [] σ
  refine x_aload_n X dX9_model_0 rfl ?_
  refine x_iconst (v := nI 0) X dX9_model_1 (by decide) ?_
  refine pf_X9_86 X dX9_model_2 rfl ?_
  refine x_aload_n X dX9_model_5 rfl ?_
  refine x_iconst (v := nI 0) X dX9_model_6 (by decide) ?_
  refine pf_X9_107 X dX9_model_7 rfl (Or.inl rfl) ?_
  refine x_aload_n X dX9_model_10 rfl ?_
  refine cv_X9_121 X (c_X9_goN (σ := qM1 σ) (t := t) (z := z) (show xgI (qM1 σ) 38 = t from (xt_I (xt_I ht (by omega)) (by omega))) hz hz2 rfl) dX9_model_11 rfl ⟨by decide, by decide, by decide, by decide⟩ rfl rfl (Nat.le_of_ble_eq_true rfl) (xk_v ?_)
  refine x_aload_n X dX9_model_14 rfl ?_
  refine gf_X9_96 X dX9_model_15 rfl ?_
  refine x_ifeq (tgt := 36) X dX9_model_18 (by decide) (fun h18 => ?_) (fun h18 => ?_)
  · skip
    refine x_aload_n X dX9_model_36 rfl ?_
    refine x_iconst (v := nI 1) X dX9_model_37 (by decide) ?_
    refine pf_X9_107 X dX9_model_38 rfl (Or.inr rfl) ?_
    refine x_aload_n X dX9_model_41 rfl ?_
    refine cv_X9_121 X (c_X9_goK (σ := qM2 σ t z) (t := t) (z := z) (show xgI (qM2 σ t z) 38 = t from (xt_I ((funext (fun b => qR_o (by omega) (by omega))).trans (show xgI (qM1 σ) 38 = t from (xt_I (xt_I ht (by omega)) (by omega)))) (by omega))) ((xgI_n (by omega)).trans ((qR_o (by omega) (by omega)).trans hz)) hz2 (xgI_s _ _ _ _) hb) dX9_model_42 rfl ⟨by decide, by decide, by decide, by decide⟩ rfl rfl (Nat.le_of_ble_eq_true rfl) (xk_v ?_)
    rw [show qR (xsI (xsI (xsI (bT (bR (bV (qM2 σ t z) t z (gV t z)) t z (gV t z) (g3 t z) (gN t z)) t z (gV t z) (g5 t z) (gM t z)) 37 3 (nI (gV t z))) 37 7 (nI (gN t z))) 37 10 (nI (gM t z))) (g6 t z) = qM3 σ t z from rfl]
    have h3o : ∀ a b, a < 37 ∨ 48 < a ∨ a = 38 ∨ (a = 37 ∧ b = 2) → xgI (qM3 σ t z) a b = xgI σ a b := fun a b h => (qMo_o (by omega)).trans ((xgI_n (by omega)).trans ((qR_o (by omega) (by omega)).trans ((xgI_n (by omega)).trans (xgI_n (by omega)))))
    refine x_aload_n X dX9_model_45 rfl ?_
    refine x_bipush (v := nI 17) X dX9_model_46 (by decide) ?_
    refine pf_X9_124 X dX9_model_48 rfl ?_
    refine x_iconst (v := nI 0) X dX9_model_51 (by decide) ?_
    refine x_istore_n (lv' := [(1, .int (nI 0)), (0, .ref (G.2.1 37))]) X dX9_model_52 rfl (by decide) rfl ?_
    have lp53 : ∀ (NN53 : Nat) (k : Nat) (hk9 : k ≤ z), z - k = NN53 → xW pp l ee { frames := 3, cells := 0, slots := 0, locals := 74 } ss mm aa bel met kk 2 G 0 0 (xQ bel G (fun rv_ tv_ => rv_ = some (.int (1)) ∧ tv_ = (qForget (xsI (xsI (xsI (qM3 σ t z) 37 16 (aDig t z)) 37 2 0) 37 17 0))) aa ss) 53 [(1, .int (nI k)), (0, .ref (G.2.1 37))] [] (xsI (qM3 σ t z) 37 16 (aDig t k)) := by
      intro NN53
      induction NN53 using Nat.strongRecOn with
      | ind NN53 ih53 =>
        intro k hk9 hNN53
        refine x_iload_n X dX9_model_53 rfl ?_
        refine x_aload_n X dX9_model_54 rfl ?_
        refine gf_X9_93 X dX9_model_55 rfl ?_
        rw [(xgI_n (by omega)).trans ((h3o 37 2 (by omega)).trans hz)]
        refine x_icmpge (tgt := 85) X dX9_model_58 (by decide) (fun h58 => ?_) (fun h58 => ?_)
        · skip
          rw [xb_ge (x := nI k) (y := nI z) (a := k) (b := z) rfl rfl (by omega) (by omega)] at h58
          obtain rfl : k = z := by omega
          refine x_aload_n X dX9_model_85 rfl ?_
          refine x_iconst (v := nI 0) X dX9_model_86 (by decide) ?_
          refine pf_X9_93 X dX9_model_87 rfl ?_
          refine x_aload_n X dX9_model_90 rfl ?_
          refine x_iconst (v := nI 0) X dX9_model_91 (by decide) ?_
          refine pf_X9_127 X dX9_model_92 rfl ?_
          refine x_aload_n X dX9_model_95 rfl ?_
          refine cv_X9_130 X c_X9_forget dX9_model_96 rfl ⟨by decide, by decide, by decide, by decide⟩ rfl rfl (Nat.le_of_ble_eq_true rfl) (xk_v ?_)
          refine x_iconst (v := nI 1) X dX9_model_99 (by decide) ?_
          exact x_iret X dX9_model_100 (xp_i (by first | rfl | simp [*]) (by first | rfl | simp [*]))
        · skip
          rw [xb_ge (x := nI k) (y := nI z) (a := k) (b := z) rfl rfl (by omega) (by omega)] at h58
          refine x_aload_n X dX9_model_61 rfl ?_
          refine x_bipush (v := nI 31) X dX9_model_62 (by decide) ?_
          refine x_aload_n X dX9_model_64 rfl ?_
          refine gf_X9_124 X dX9_model_65 rfl ?_
          rw [xgI_s]
          refine x_imul X dX9_model_68 ?_
          refine x_aload_n X dX9_model_69 rfl ?_
          refine gf_X9_7 (k' := 38) X dX9_model_70 rfl rfl ?_
          refine x_iload_n X dX9_model_73 rfl ?_
          refine x_ialdN X dX9_model_74 rfl (by omega) (by omega) ?_
          rw [(xgI_n (by omega)).trans (h3o 38 k (by omega)), show xgI σ 38 k = t k from congrFun ht k]
          refine x_iadd X dX9_model_75 ?_
          refine pf_X9_124 X dX9_model_76 rfl ?_
          rw [xsI_2]
          refine x_iinc (k := 0) (v := nI (k + 1)) (lv' := [(1, .int (nI (k + 1))), (0, .ref (G.2.1 37))]) X dX9_model_79 rfl (xn_inc _) (by decide) rfl ?_
          refine x_goto (tgt := 53) X dX9_model_82 (by decide) ?_
          refine x_pick [0, 1] rfl ?_
          exact ih53 _ (by omega) (k + 1) (by omega) rfl
    refine x_pick [0, 1] rfl ?_
    exact lp53 _ 0 (by omega) rfl
  · skip
    exact absurd (qR_t h18) hb
