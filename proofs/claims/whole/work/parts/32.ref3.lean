/-! The reference: judging, the small questions of rows -/
def dmN (q n : Nat) : Nat := if q = 0 then 1 else if q = 1 ∨ q = 2 then 2 else if q = 3 then (if n = 1 then 3 else 4) else if q = 4 then (if n = 1 then 5 else if n % 2 = 0 then 6 else 7) else if q = 5 then (if n = 1 then 6 else 8) else if q = 6 then (if n = 1 then 2 else if n = 2 then 9 else 10) else if q = 7 then 6 else if q = 8 then 11 else (if n = 1 then 6 else 2)
theorem dmv_all : ∀ q, q < 10 → ∀ n, n < 10 → n ≠ 0 → dMean (nI q) (nI n) = nI (dmN q n) := by decide +kernel
theorem dmv {q n c : Nat} (hq : q < 10) (hn : n < 10) (h0 : ¬ n = 0) (h : dmN q n = c) : dMean (nI q) (nI n) = nI c := by rw [dmv_all q hq n hn h0, h]
theorem dFltG_0 {g : Prop} {nr nb V N M : Nat} {k x : Int32} : dFltG g nr nb V N M (dMean k (nI 0)) x = dKind x nr nb := by
  rw [show dMean k (nI 0) = 0 from rfl]
  rfl
def qG (σ : xS) (r V n : Nat) : Prop := (xgL σ 53 r < -1000000000000 ∨ 1000000000000 < xgL σ 53 r) ∨ ∃ v, v < n ∧ (xgL σ 52 (8 * r + v) < -1000000000000 ∨ 1000000000000 < xgL σ 52 (8 * r + v))
def qImp (σ : xS) (r n : Nat) : Prop := xgL σ 53 r < 0 ∧ ∀ v, v < n → xgL σ 52 (8 * r + v) = 0
def qDown (x y : Int64) : Int64 := if x / y * y ≤ x then x / y else x / y - 1
def qAss (σ : xS) (n o : Nat) (but : Int32) : Nat → xS
  | 0 => σ
  | b + 1 => xsI (qAss σ n o but b) 56 (200 * n + b) (if xgI (qAss σ n o but b) 56 (200 * n + b) = 0 then (if xgI (qAss σ n o but b) 56 (200 * o + b) = 0 then 0 else if nI b = but then 0 else 1) else 1)
def qLim (σ : xS) (n o : Nat) : xS := if xgI σ 54 o = 0 then σ else xsI (xsL σ 55 n (if xgI σ 54 n = 0 then xgL σ 55 o else if xgL σ 55 o ≤ xgL σ 55 n then xgL σ 55 o else xgL σ 55 n)) 54 n 1
def qAssumes (σ : xS) (n o : Nat) (but : Int32) : xS := qLim (qAss σ n o but n) n o

set_option maxHeartbeats 4000000 in
set_option maxRecDepth 100000 in
theorem c_X9_isWhole {l : Launch} {G : xG} {σ : xS} {f n q k : Nat} (hf : xgI σ 37 25 = nI f) (hn : xgI σ 37 20 = nI (f + n)) (hn2 : n < 100) (hfn : f + n ≤ 1500) (hq : 2 ≤ n → xgI σ 50 f = nI q ∧ q < 10) (hk : 2 ≤ n → q = 4 → xgI σ 50 (f + 1) = nI k ∧ k ≤ 4) : xFi l G yX9_isWhole cX9_isWhole 2 (Option.some Jvm.ClassFile.FieldType.boolean) 1 22 [.ref (G.2.1 37)] σ (xB (2 ≤ n ∧ dL q k = n)) (σ) := by
  refine xM.of (by decide) (Nat.le_of_ble_eq_true rfl) (fun pp ee ss mm aa bel met kk X => ?_)
  have X : xC pp ss mm met kk cX9_isWhole 2 RX9 (Option.some Jvm.ClassFile.FieldType.boolean) G := X
  show xW pp l ee { frames := 1, cells := 0, slots := 0, locals := 22 } ss mm aa bel met kk 2 G 0 0 (xQ bel G (fun rv_ tv_ => rv_ = some (.int (xB (2 ≤ n ∧ dL q k = n))) ∧ tv_ = (σ)) aa ss) 0 [(0, .ref (G.2.1 37))] [] σ
  refine x_aload_n X dX9_isWhole_0 rfl ?_
  refine gf_X9_136 X dX9_isWhole_1 rfl ?_
  rw [hn]
  refine x_aload_n X dX9_isWhole_4 rfl ?_
  refine gf_X9_142 X dX9_isWhole_5 rfl ?_
  rw [hf]
  refine x_isub X dX9_isWhole_8 ?_
  rw [pk_sub (a := (f + n)) (b := f) (by omega)]
  rw [show (f + n) - f = n by omega]
  refine x_istore_n (lv' := [(1, .int (nI (n))), (0, .ref (G.2.1 37))]) X dX9_isWhole_9 rfl (by decide) rfl ?_
  refine x_iload_n X dX9_isWhole_10 rfl ?_
  refine x_iconst (v := nI 1) X dX9_isWhole_11 (by decide) ?_
  refine x_icmple (tgt := 31) X dX9_isWhole_12 (by decide) (fun h12 => ?_) (fun h12 => ?_)
  · skip
    rw [xb_le (x := nI (n)) (y := nI 1) (a := (n)) (b := 1) rfl rfl (by omega) (by omega)] at h12
    refine x_iconst (v := nI 0) X dX9_isWhole_31 (by decide) ?_
    exact x_zret X dX9_isWhole_32 (Or.inl rfl) (xp_i (by first | exact (xB_t (by omega)).symm | exact (xB_f (by omega)).symm) (by first | rfl | simp [*]))
  · skip
    rw [xb_le (x := nI (n)) (y := nI 1) (a := (n)) (b := 1) rfl rfl (by omega) (by omega)] at h12
    refine x_iload_n X dX9_isWhole_15 rfl ?_
    refine x_aload_n X dX9_isWhole_16 rfl ?_
    refine x_aload_n X dX9_isWhole_17 rfl ?_
    refine gf_X9_142 X dX9_isWhole_18 rfl ?_
    rw [hf]
    refine cv_X9_184 X (c_X9_length (a := f) (by omega) (hq (by omega)).1 (hq (by omega)).2 (fun z => (hk (by omega) z).1)) dX9_isWhole_21 rfl ⟨by decide, by decide, by decide, by decide⟩ rfl rfl (Nat.le_of_ble_eq_true rfl) (xk_i ?_)
    have hdl := dL_b (q := q) (k := k) (fun z => (hk (by omega) z).2)
    refine x_icmpne (tgt := 31) X dX9_isWhole_24 (by decide) (fun h24 => ?_) (fun h24 => ?_)
    · skip
      rw [xb_ne (x := nI (n)) (y := nI (dL q k)) (a := (n)) (b := (dL q k)) rfl rfl (by omega) (by omega)] at h24
      refine x_iconst (v := nI 0) X dX9_isWhole_31 (by decide) ?_
      exact x_zret X dX9_isWhole_32 (Or.inl rfl) (xp_i (by first | exact (xB_t (by omega)).symm | exact (xB_f (by omega)).symm) (by first | rfl | simp [*]))
    · skip
      rw [xb_ne (x := nI (n)) (y := nI (dL q k)) (a := (n)) (b := (dL q k)) rfl rfl (by omega) (by omega)] at h24
      refine x_iconst (v := nI 1) X dX9_isWhole_27 (by decide) ?_
      refine x_goto (tgt := 32) X dX9_isWhole_28 (by decide) ?_
      exact x_zret X dX9_isWhole_32 (Or.inr rfl) (xp_i (by first | exact (xB_t (by omega)).symm | exact (xB_f (by omega)).symm) (by first | rfl | simp [*]))

set_option maxHeartbeats 4000000 in
set_option maxRecDepth 100000 in
theorem c_X9_judged {l : Launch} {G : xG} {σ : xS} {x : Int32} {f n q nr nb : Nat} {V N M : Nat} {fs gs ps : Nat → Nat} (hV : xgI σ 37 3 = nI V) (hV8 : V ≤ 8) (hN : xgI σ 37 7 = nI N) (hN2 : N ≤ 20) (hM : xgI σ 37 10 = nI M) (hM2 : M ≤ 4) (hT : tabsAt σ M fs gs ps) {np : Nat} (hp : np ≤ 8) (hc : xgI σ 37 17 = nI np) (hr : xgI σ 37 26 = nI nr) (hr2 : nr ≤ 200) (hb : xgI σ 37 27 = nI nb) (hb2 : nb ≤ 60) (hf : xgI σ 37 25 = nI f) (hn : xgI σ 37 20 = nI (f + n + 1)) (hn9 : n < 10) (hfn : f + n < 1500) (hx : xgI σ 50 (f + n) = x) (hq9 : q < 10) (hq : ¬ n = 0 → xgI σ 50 f = nI q) : xFi l G yX9_judged cX9_judged 3 (Option.some Jvm.ClassFile.FieldType.int) 2 47 [.ref (G.2.1 37)] σ (dFltG (qGood σ np V N M fs gs ps x) nr nb V N M (dMean (xgI σ 50 f) (nI n)) x) (σ) := by
  refine xM.of (by decide) (Nat.le_of_ble_eq_true rfl) (fun pp ee ss mm aa bel met kk X => ?_)
  have X : xC pp ss mm met kk cX9_judged 3 RX9 (Option.some Jvm.ClassFile.FieldType.int) G := X
  show xW pp l ee { frames := 2, cells := 0, slots := 0, locals := 47 } ss mm aa bel met kk 3 G 0 0 (xQ bel G (fun rv_ tv_ => rv_ = some (.int (dFltG (qGood σ np V N M fs gs ps x) nr nb V N M (dMean (xgI σ 50 f) (nI n)) x)) ∧ tv_ = (σ)) aa ss) 0 [(0, .ref (G.2.1 37))] [] σ
  refine x_aload_n X dX9_judged_0 rfl ?_
  refine gf_X9_136 X dX9_judged_1 rfl ?_
  rw [hn]
  refine x_iconst (v := nI 1) X dX9_judged_4 (by decide) ?_
  refine x_isub X dX9_judged_5 ?_
  rw [pk_sub (a := (f + n + 1)) (b := 1) (by omega)]
  rw [show (f + n + 1) - 1 = f + n by omega]
  refine x_aload_n X dX9_judged_6 rfl ?_
  refine gf_X9_142 X dX9_judged_7 rfl ?_
  rw [hf]
  refine x_isub X dX9_judged_10 ?_
  rw [pk_sub (a := (f + n)) (b := f) (by omega)]
  rw [show (f + n) - f = n by omega]
  refine x_istore_n (lv' := [(1, .int (nI (n))), (0, .ref (G.2.1 37))]) X dX9_judged_11 rfl (by decide) rfl ?_
  refine x_aload_n X dX9_judged_12 rfl ?_
  refine x_iload_n X dX9_judged_13 rfl ?_
  refine cv_X9_187 X (c_X9_of (k := n) hf (by omega)) dX9_judged_14 rfl ⟨by decide, by decide, by decide, by decide⟩ rfl rfl (Nat.le_of_ble_eq_true rfl) (xk_i ?_)
  rw [hx]
  refine x_istore_n (lv' := [(2, .int x), (1, .int (nI (n))), (0, .ref (G.2.1 37))]) X dX9_judged_17 rfl (by decide) rfl ?_
  refine x_iload_n X dX9_judged_18 rfl ?_
  refine x_ifne (tgt := 68) X dX9_judged_19 (by decide) (fun h19 => ?_) (fun h19 => ?_)
  · skip
    rw [xb_ne (x := nI (n)) (y := 0) (a := (n)) (b := 0) rfl rfl (by omega) (by omega)] at h19
    rw [hq h19]
    refine x_aload_n X dX9_judged_68 rfl ?_
    refine x_iconst (v := nI 0) X dX9_judged_69 (by decide) ?_
    refine cv_X9_187 X (c_X9_of (k := 0) hf (by omega)) dX9_judged_70 rfl ⟨by decide, by decide, by decide, by decide⟩ rfl rfl (Nat.le_of_ble_eq_true rfl) (xk_i ?_)
    rw [show f + 0 = f from rfl, hq h19]
    by_cases h73 : q < 0 ∨ 8 < q
    · skip
      have hq8 : q = 9 := by omega
      refine x_tableOut (tgt := 310) X dX9_judged_73 (by rw [nI_toInt (by omega)]; omega) (by decide) ?_
      refine x_iload_n X dX9_judged_310 rfl ?_
      refine x_iconst (v := nI 1) X dX9_judged_311 (by decide) ?_
      refine x_icmpne (tgt := 323) X dX9_judged_312 (by decide) (fun h312 => ?_) (fun h312 => ?_)
      · skip
        rw [xb_ne (x := nI (n)) (y := nI 1) (a := (n)) (b := 1) rfl rfl (by omega) (by omega)] at h312
        have hdm : dMean (nI q) (nI n) = nI 2 := dmv hq9 hn9 h19 (by unfold dmN; (repeat' split) <;> omega)
        refine x_aload_n X dX9_judged_323 rfl ?_
        refine x_iload_n X dX9_judged_324 rfl ?_
        refine cv_X9_194 X (c_X9_variable hV hV8) dX9_judged_325 rfl ⟨by decide, by decide, by decide, by decide⟩ rfl rfl (Nat.le_of_ble_eq_true rfl) (xk_i ?_)
        exact x_iret X dX9_judged_328 (xp_i (by rw [hdm]; first | rfl | exact (xD_f (xB_0.mp h158)).symm | exact (xD_t (Classical.not_not.mp (fun z => h158 (xB_f z)))).symm | exact (xD_t (p := qGood σ np V N M fs gs ps (nI j)) ((qGood_n hj hp).mpr h301)).symm | exact (xD_f (p := qGood σ np V N M fs gs ps (nI j)) (fun z => h301 ((qGood_n hj hp).mp z))).symm | exact (xD_f (p := qGood σ np V N M fs gs ps x) (fun z => by obtain ⟨j, a1, a2, a3⟩ := z; exact h292b ⟨j, a1, a2⟩)).symm) (by first | rfl | simp [*]))
      · skip
        rw [xb_ne (x := nI (n)) (y := nI 1) (a := (n)) (b := 1) rfl rfl (by omega) (by omega)] at h312
        have hdm : dMean (nI q) (nI n) = nI 6 := dmv hq9 hn9 h19 (by unfold dmN; (repeat' split) <;> omega)
        refine x_aload_n X dX9_judged_315 rfl ?_
        refine x_iload_n X dX9_judged_316 rfl ?_
        refine cv_X9_197 X (c_X9_row hr hr2) dX9_judged_317 rfl ⟨by decide, by decide, by decide, by decide⟩ rfl rfl (Nat.le_of_ble_eq_true rfl) (xk_i ?_)
        refine x_goto (tgt := 328) X dX9_judged_320 (by decide) ?_
        exact x_iret X dX9_judged_328 (xp_i (by rw [hdm]; first | rfl | exact (xD_f (xB_0.mp h158)).symm | exact (xD_t (Classical.not_not.mp (fun z => h158 (xB_f z)))).symm | exact (xD_t (p := qGood σ np V N M fs gs ps (nI j)) ((qGood_n hj hp).mpr h301)).symm | exact (xD_f (p := qGood σ np V N M fs gs ps (nI j)) (fun z => h301 ((qGood_n hj hp).mp z))).symm | exact (xD_f (p := qGood σ np V N M fs gs ps x) (fun z => by obtain ⟨j, a1, a2, a3⟩ := z; exact h292b ⟨j, a1, a2⟩)).symm) (by first | rfl | simp [*]))
    rcases (show q = 0 ∨ q = 1 ∨ q = 2 ∨ q = 3 ∨ q = 4 ∨ q = 5 ∨ q = 6 ∨ q = 7 ∨ q = 8 by omega) with g73 | g73 | g73 | g73 | g73 | g73 | g73 | g73 | g73
    · skip
      have hdm : dMean (nI q) (nI n) = nI 1 := dmv hq9 hn9 h19 (by unfold dmN; (repeat' split) <;> omega)
      refine x_tableIn (off := 51) (tgt := 124) X dX9_judged_73 (by rw [nI_toInt (by omega)]; omega) (by rw [nI_toInt (by omega)]; omega) (by rw [nI_toInt (by omega), g73]; rfl) (by decide) ?_
      refine x_iload_n X dX9_judged_124 rfl ?_
      refine x_iconst (v := nI 0) X dX9_judged_125 (by decide) ?_
      refine x_aload_n X dX9_judged_126 rfl ?_
      refine gf_X9_115 X dX9_judged_127 rfl ?_
      rw [hN]
      refine x_iconst (v := nI 1) X dX9_judged_130 (by decide) ?_
      refine x_isub X dX9_judged_131 ?_
      refine cs_X9_190 X c_X9_bounds dX9_judged_132 ⟨by decide, by decide, by decide, by decide⟩ rfl rfl (Nat.le_of_ble_eq_true rfl) (xk_i ?_)
      rw [show dBey x (nI 0) (nI N - nI 1) = xD (xLt x N) 3 by unfold dBey; rw [xIn_lt (by omega)]; by_cases z : xLt x N; (rw [xB_t z, xD_t z]; rfl); (rw [xB_f z, xD_f z]; rfl)]
      exact x_iret X dX9_judged_135 (xp_i (by rw [hdm]; first | rfl | exact (xD_f (xB_0.mp h158)).symm | exact (xD_t (Classical.not_not.mp (fun z => h158 (xB_f z)))).symm | exact (xD_t (p := qGood σ np V N M fs gs ps (nI j)) ((qGood_n hj hp).mpr h301)).symm | exact (xD_f (p := qGood σ np V N M fs gs ps (nI j)) (fun z => h301 ((qGood_n hj hp).mp z))).symm | exact (xD_f (p := qGood σ np V N M fs gs ps x) (fun z => by obtain ⟨j, a1, a2, a3⟩ := z; exact h292b ⟨j, a1, a2⟩)).symm) (by first | rfl | simp [*]))
    · skip
      have hdm : dMean (nI q) (nI n) = nI 2 := dmv hq9 hn9 h19 (by unfold dmN; (repeat' split) <;> omega)
      refine x_tableIn (off := 63) (tgt := 136) X dX9_judged_73 (by rw [nI_toInt (by omega)]; omega) (by rw [nI_toInt (by omega)]; omega) (by rw [nI_toInt (by omega), g73]; rfl) (by decide) ?_
      refine x_aload_n X dX9_judged_136 rfl ?_
      refine x_iload_n X dX9_judged_137 rfl ?_
      refine cv_X9_194 X (c_X9_variable hV hV8) dX9_judged_138 rfl ⟨by decide, by decide, by decide, by decide⟩ rfl rfl (Nat.le_of_ble_eq_true rfl) (xk_i ?_)
      exact x_iret X dX9_judged_141 (xp_i (by rw [hdm]; first | rfl | exact (xD_f (xB_0.mp h158)).symm | exact (xD_t (Classical.not_not.mp (fun z => h158 (xB_f z)))).symm | exact (xD_t (p := qGood σ np V N M fs gs ps (nI j)) ((qGood_n hj hp).mpr h301)).symm | exact (xD_f (p := qGood σ np V N M fs gs ps (nI j)) (fun z => h301 ((qGood_n hj hp).mp z))).symm | exact (xD_f (p := qGood σ np V N M fs gs ps x) (fun z => by obtain ⟨j, a1, a2, a3⟩ := z; exact h292b ⟨j, a1, a2⟩)).symm) (by first | rfl | simp [*]))
    · skip
      have hdm : dMean (nI q) (nI n) = nI 2 := dmv hq9 hn9 h19 (by unfold dmN; (repeat' split) <;> omega)
      refine x_tableIn (off := 63) (tgt := 136) X dX9_judged_73 (by rw [nI_toInt (by omega)]; omega) (by rw [nI_toInt (by omega)]; omega) (by rw [nI_toInt (by omega), g73]; rfl) (by decide) ?_
      refine x_aload_n X dX9_judged_136 rfl ?_
      refine x_iload_n X dX9_judged_137 rfl ?_
      refine cv_X9_194 X (c_X9_variable hV hV8) dX9_judged_138 rfl ⟨by decide, by decide, by decide, by decide⟩ rfl rfl (Nat.le_of_ble_eq_true rfl) (xk_i ?_)
      exact x_iret X dX9_judged_141 (xp_i (by rw [hdm]; first | rfl | exact (xD_f (xB_0.mp h158)).symm | exact (xD_t (Classical.not_not.mp (fun z => h158 (xB_f z)))).symm | exact (xD_t (p := qGood σ np V N M fs gs ps (nI j)) ((qGood_n hj hp).mpr h301)).symm | exact (xD_f (p := qGood σ np V N M fs gs ps (nI j)) (fun z => h301 ((qGood_n hj hp).mp z))).symm | exact (xD_f (p := qGood σ np V N M fs gs ps x) (fun z => by obtain ⟨j, a1, a2, a3⟩ := z; exact h292b ⟨j, a1, a2⟩)).symm) (by first | rfl | simp [*]))
    · skip
      refine x_tableIn (off := 69) (tgt := 142) X dX9_judged_73 (by rw [nI_toInt (by omega)]; omega) (by rw [nI_toInt (by omega)]; omega) (by rw [nI_toInt (by omega), g73]; rfl) (by decide) ?_
      refine x_iload_n X dX9_judged_142 rfl ?_
      refine x_iconst (v := nI 1) X dX9_judged_143 (by decide) ?_
      refine x_icmpne (tgt := 169) X dX9_judged_144 (by decide) (fun h144 => ?_) (fun h144 => ?_)
      · skip
        rw [xb_ne (x := nI (n)) (y := nI 1) (a := (n)) (b := 1) rfl rfl (by omega) (by omega)] at h144
        have hdm : dMean (nI q) (nI n) = nI 4 := dmv hq9 hn9 h19 (by unfold dmN; (repeat' split) <;> omega)
        refine x_iload_n X dX9_judged_169 rfl ?_
        refine x_bipush (v := (-100)) X dX9_judged_170 (by decide) ?_
        refine x_bipush (v := nI 100) X dX9_judged_172 (by decide) ?_
        refine cs_X9_190 X c_X9_bounds dX9_judged_174 ⟨by decide, by decide, by decide, by decide⟩ rfl rfl (Nat.le_of_ble_eq_true rfl) (xk_i ?_)
        exact x_iret X dX9_judged_177 (xp_i (by rw [hdm]; first | rfl | exact (xD_f (xB_0.mp h158)).symm | exact (xD_t (Classical.not_not.mp (fun z => h158 (xB_f z)))).symm | exact (xD_t (p := qGood σ np V N M fs gs ps (nI j)) ((qGood_n hj hp).mpr h301)).symm | exact (xD_f (p := qGood σ np V N M fs gs ps (nI j)) (fun z => h301 ((qGood_n hj hp).mp z))).symm | exact (xD_f (p := qGood σ np V N M fs gs ps x) (fun z => by obtain ⟨j, a1, a2, a3⟩ := z; exact h292b ⟨j, a1, a2⟩)).symm) (by first | rfl | simp [*]))
      · skip
        rw [xb_ne (x := nI (n)) (y := nI 1) (a := (n)) (b := 1) rfl rfl (by omega) (by omega)] at h144
        have hdm : dMean (nI q) (nI n) = nI 3 := dmv hq9 hn9 h19 (by unfold dmN; (repeat' split) <;> omega)
        refine x_iload_n X dX9_judged_147 rfl ?_
        refine x_iconst (v := nI 0) X dX9_judged_148 (by decide) ?_
        refine x_aload_n X dX9_judged_149 rfl ?_
        refine gf_X9_118 X dX9_judged_150 rfl ?_
        rw [hM]
        refine x_iconst (v := nI 1) X dX9_judged_153 (by decide) ?_
        refine x_isub X dX9_judged_154 ?_
        refine cs_X9_89 X c_X9_in dX9_judged_155 ⟨by decide, by decide, by decide, by decide⟩ rfl rfl (Nat.le_of_ble_eq_true rfl) (xk_i ?_)
        rw [xIn_lt (by omega)]
        refine x_ifeq (tgt := 165) X dX9_judged_158 (by decide) (fun h158 => ?_) (fun h158 => ?_)
        · skip
          refine x_iconst (v := nI 4) X dX9_judged_165 (by decide) ?_
          refine x_goto (tgt := 177) X dX9_judged_166 (by decide) ?_
          exact x_iret X dX9_judged_177 (xp_i (by rw [hdm]; first | rfl | exact (xD_f (xB_0.mp h158)).symm | exact (xD_t (Classical.not_not.mp (fun z => h158 (xB_f z)))).symm | exact (xD_t (p := qGood σ np V N M fs gs ps (nI j)) ((qGood_n hj hp).mpr h301)).symm | exact (xD_f (p := qGood σ np V N M fs gs ps (nI j)) (fun z => h301 ((qGood_n hj hp).mp z))).symm | exact (xD_f (p := qGood σ np V N M fs gs ps x) (fun z => by obtain ⟨j, a1, a2, a3⟩ := z; exact h292b ⟨j, a1, a2⟩)).symm) (by first | rfl | simp [*]))
        · skip
          refine x_iconst (v := nI 0) X dX9_judged_161 (by decide) ?_
          refine x_goto (tgt := 177) X dX9_judged_162 (by decide) ?_
          exact x_iret X dX9_judged_177 (xp_i (by rw [hdm]; first | rfl | exact (xD_f (xB_0.mp h158)).symm | exact (xD_t (Classical.not_not.mp (fun z => h158 (xB_f z)))).symm | exact (xD_t (p := qGood σ np V N M fs gs ps (nI j)) ((qGood_n hj hp).mpr h301)).symm | exact (xD_f (p := qGood σ np V N M fs gs ps (nI j)) (fun z => h301 ((qGood_n hj hp).mp z))).symm | exact (xD_f (p := qGood σ np V N M fs gs ps x) (fun z => by obtain ⟨j, a1, a2, a3⟩ := z; exact h292b ⟨j, a1, a2⟩)).symm) (by first | rfl | simp [*]))
    · skip
      refine x_tableIn (off := 105) (tgt := 178) X dX9_judged_73 (by rw [nI_toInt (by omega)]; omega) (by rw [nI_toInt (by omega)]; omega) (by rw [nI_toInt (by omega), g73]; rfl) (by decide) ?_
      refine x_iload_n X dX9_judged_178 rfl ?_
      refine x_iconst (v := nI 1) X dX9_judged_179 (by decide) ?_
      refine x_icmpne (tgt := 192) X dX9_judged_180 (by decide) (fun h180 => ?_) (fun h180 => ?_)
      · skip
        rw [xb_ne (x := nI (n)) (y := nI 1) (a := (n)) (b := 1) rfl rfl (by omega) (by omega)] at h180
        refine x_iload_n X dX9_judged_192 rfl ?_
        refine x_iconst (v := nI 2) X dX9_judged_193 (by decide) ?_
        refine x_irem X dX9_judged_194 (nI_ne0 (by omega) (by omega)) ?_
        rw [pk_rem (a := (n)) (d := 2) (by omega) (by omega) (by omega)]
        refine x_ifne (tgt := 206) X dX9_judged_195 (by decide) (fun h195 => ?_) (fun h195 => ?_)
        · skip
          rw [xb_ne (x := nI ((n) % 2)) (y := 0) (a := ((n) % 2)) (b := 0) rfl rfl (by omega) (by omega)] at h195
          have hdm : dMean (nI q) (nI n) = nI 7 := dmv hq9 hn9 h19 (by unfold dmN; (repeat' split) <;> omega)
          refine x_iload_n X dX9_judged_206 rfl ?_
          refine x_iconst (v := nI 1) X dX9_judged_207 (by decide) ?_
          refine x_sipush (v := nI 1000) X dX9_judged_208 (by decide) ?_
          refine cs_X9_190 X c_X9_bounds dX9_judged_211 ⟨by decide, by decide, by decide, by decide⟩ rfl rfl (Nat.le_of_ble_eq_true rfl) (xk_i ?_)
          exact x_iret X dX9_judged_214 (xp_i (by rw [hdm]; first | rfl | exact (xD_f (xB_0.mp h158)).symm | exact (xD_t (Classical.not_not.mp (fun z => h158 (xB_f z)))).symm | exact (xD_t (p := qGood σ np V N M fs gs ps (nI j)) ((qGood_n hj hp).mpr h301)).symm | exact (xD_f (p := qGood σ np V N M fs gs ps (nI j)) (fun z => h301 ((qGood_n hj hp).mp z))).symm | exact (xD_f (p := qGood σ np V N M fs gs ps x) (fun z => by obtain ⟨j, a1, a2, a3⟩ := z; exact h292b ⟨j, a1, a2⟩)).symm) (by first | rfl | simp [*]))
        · skip
          rw [xb_ne (x := nI ((n) % 2)) (y := 0) (a := ((n) % 2)) (b := 0) rfl rfl (by omega) (by omega)] at h195
          have hdm : dMean (nI q) (nI n) = nI 6 := dmv hq9 hn9 h19 (by unfold dmN; (repeat' split) <;> omega)
          refine x_aload_n X dX9_judged_198 rfl ?_
          refine x_iload_n X dX9_judged_199 rfl ?_
          refine cv_X9_197 X (c_X9_row hr hr2) dX9_judged_200 rfl ⟨by decide, by decide, by decide, by decide⟩ rfl rfl (Nat.le_of_ble_eq_true rfl) (xk_i ?_)
          refine x_goto (tgt := 214) X dX9_judged_203 (by decide) ?_
          exact x_iret X dX9_judged_214 (xp_i (by rw [hdm]; first | rfl | exact (xD_f (xB_0.mp h158)).symm | exact (xD_t (Classical.not_not.mp (fun z => h158 (xB_f z)))).symm | exact (xD_t (p := qGood σ np V N M fs gs ps (nI j)) ((qGood_n hj hp).mpr h301)).symm | exact (xD_f (p := qGood σ np V N M fs gs ps (nI j)) (fun z => h301 ((qGood_n hj hp).mp z))).symm | exact (xD_f (p := qGood σ np V N M fs gs ps x) (fun z => by obtain ⟨j, a1, a2, a3⟩ := z; exact h292b ⟨j, a1, a2⟩)).symm) (by first | rfl | simp [*]))
      · skip
        rw [xb_ne (x := nI (n)) (y := nI 1) (a := (n)) (b := 1) rfl rfl (by omega) (by omega)] at h180
        have hdm : dMean (nI q) (nI n) = nI 5 := dmv hq9 hn9 h19 (by unfold dmN; (repeat' split) <;> omega)
        refine x_iload_n X dX9_judged_183 rfl ?_
        refine x_iconst (v := nI 1) X dX9_judged_184 (by decide) ?_
        refine x_iconst (v := nI 4) X dX9_judged_185 (by decide) ?_
        refine cs_X9_190 X c_X9_bounds dX9_judged_186 ⟨by decide, by decide, by decide, by decide⟩ rfl rfl (Nat.le_of_ble_eq_true rfl) (xk_i ?_)
        refine x_goto (tgt := 214) X dX9_judged_189 (by decide) ?_
        exact x_iret X dX9_judged_214 (xp_i (by rw [hdm]; first | rfl | exact (xD_f (xB_0.mp h158)).symm | exact (xD_t (Classical.not_not.mp (fun z => h158 (xB_f z)))).symm | exact (xD_t (p := qGood σ np V N M fs gs ps (nI j)) ((qGood_n hj hp).mpr h301)).symm | exact (xD_f (p := qGood σ np V N M fs gs ps (nI j)) (fun z => h301 ((qGood_n hj hp).mp z))).symm | exact (xD_f (p := qGood σ np V N M fs gs ps x) (fun z => by obtain ⟨j, a1, a2, a3⟩ := z; exact h292b ⟨j, a1, a2⟩)).symm) (by first | rfl | simp [*]))
    · skip
      refine x_tableIn (off := 142) (tgt := 215) X dX9_judged_73 (by rw [nI_toInt (by omega)]; omega) (by rw [nI_toInt (by omega)]; omega) (by rw [nI_toInt (by omega), g73]; rfl) (by decide) ?_
      refine x_iload_n X dX9_judged_215 rfl ?_
      refine x_iconst (v := nI 1) X dX9_judged_216 (by decide) ?_
      refine x_icmpne (tgt := 228) X dX9_judged_217 (by decide) (fun h217 => ?_) (fun h217 => ?_)
      · skip
        rw [xb_ne (x := nI (n)) (y := nI 1) (a := (n)) (b := 1) rfl rfl (by omega) (by omega)] at h217
        have hdm : dMean (nI q) (nI n) = nI 8 := dmv hq9 hn9 h19 (by unfold dmN; (repeat' split) <;> omega)
        refine x_iload_n X dX9_judged_228 rfl ?_
        refine x_iconst (v := nI 2) X dX9_judged_229 (by decide) ?_
        refine x_sipush (v := nI 1000) X dX9_judged_230 (by decide) ?_
        refine cs_X9_190 X c_X9_bounds dX9_judged_233 ⟨by decide, by decide, by decide, by decide⟩ rfl rfl (Nat.le_of_ble_eq_true rfl) (xk_i ?_)
        exact x_iret X dX9_judged_236 (xp_i (by rw [hdm]; first | rfl | exact (xD_f (xB_0.mp h158)).symm | exact (xD_t (Classical.not_not.mp (fun z => h158 (xB_f z)))).symm | exact (xD_t (p := qGood σ np V N M fs gs ps (nI j)) ((qGood_n hj hp).mpr h301)).symm | exact (xD_f (p := qGood σ np V N M fs gs ps (nI j)) (fun z => h301 ((qGood_n hj hp).mp z))).symm | exact (xD_f (p := qGood σ np V N M fs gs ps x) (fun z => by obtain ⟨j, a1, a2, a3⟩ := z; exact h292b ⟨j, a1, a2⟩)).symm) (by first | rfl | simp [*]))
      · skip
        rw [xb_ne (x := nI (n)) (y := nI 1) (a := (n)) (b := 1) rfl rfl (by omega) (by omega)] at h217
        have hdm : dMean (nI q) (nI n) = nI 6 := dmv hq9 hn9 h19 (by unfold dmN; (repeat' split) <;> omega)
        refine x_aload_n X dX9_judged_220 rfl ?_
        refine x_iload_n X dX9_judged_221 rfl ?_
        refine cv_X9_197 X (c_X9_row hr hr2) dX9_judged_222 rfl ⟨by decide, by decide, by decide, by decide⟩ rfl rfl (Nat.le_of_ble_eq_true rfl) (xk_i ?_)
        refine x_goto (tgt := 236) X dX9_judged_225 (by decide) ?_
        exact x_iret X dX9_judged_236 (xp_i (by rw [hdm]; first | rfl | exact (xD_f (xB_0.mp h158)).symm | exact (xD_t (Classical.not_not.mp (fun z => h158 (xB_f z)))).symm | exact (xD_t (p := qGood σ np V N M fs gs ps (nI j)) ((qGood_n hj hp).mpr h301)).symm | exact (xD_f (p := qGood σ np V N M fs gs ps (nI j)) (fun z => h301 ((qGood_n hj hp).mp z))).symm | exact (xD_f (p := qGood σ np V N M fs gs ps x) (fun z => by obtain ⟨j, a1, a2, a3⟩ := z; exact h292b ⟨j, a1, a2⟩)).symm) (by first | rfl | simp [*]))
    · skip
      refine x_tableIn (off := 164) (tgt := 237) X dX9_judged_73 (by rw [nI_toInt (by omega)]; omega) (by rw [nI_toInt (by omega)]; omega) (by rw [nI_toInt (by omega), g73]; rfl) (by decide) ?_
      refine x_iload_n X dX9_judged_237 rfl ?_
      refine x_iconst (v := nI 1) X dX9_judged_238 (by decide) ?_
      refine x_icmpne (tgt := 250) X dX9_judged_239 (by decide) (fun h239 => ?_) (fun h239 => ?_)
      · skip
        rw [xb_ne (x := nI (n)) (y := nI 1) (a := (n)) (b := 1) rfl rfl (by omega) (by omega)] at h239
        refine x_iload_n X dX9_judged_250 rfl ?_
        refine x_iconst (v := nI 2) X dX9_judged_251 (by decide) ?_
        refine x_icmpne (tgt := 268) X dX9_judged_252 (by decide) (fun h252 => ?_) (fun h252 => ?_)
        · skip
          rw [xb_ne (x := nI (n)) (y := nI 2) (a := (n)) (b := 2) rfl rfl (by omega) (by omega)] at h252
          have hdm : dMean (nI q) (nI n) = nI 10 := dmv hq9 hn9 h19 (by unfold dmN; (repeat' split) <;> omega)
          refine x_iload_n X dX9_judged_268 rfl ?_
          refine x_iconst (v := nI 0) X dX9_judged_269 (by decide) ?_
          refine x_iconst (v := nI 1) X dX9_judged_270 (by decide) ?_
          refine cs_X9_190 X c_X9_bounds dX9_judged_271 ⟨by decide, by decide, by decide, by decide⟩ rfl rfl (Nat.le_of_ble_eq_true rfl) (xk_i ?_)
          exact x_iret X dX9_judged_274 (xp_i (by rw [hdm]; first | rfl | exact (xD_f (xB_0.mp h158)).symm | exact (xD_t (Classical.not_not.mp (fun z => h158 (xB_f z)))).symm | exact (xD_t (p := qGood σ np V N M fs gs ps (nI j)) ((qGood_n hj hp).mpr h301)).symm | exact (xD_f (p := qGood σ np V N M fs gs ps (nI j)) (fun z => h301 ((qGood_n hj hp).mp z))).symm | exact (xD_f (p := qGood σ np V N M fs gs ps x) (fun z => by obtain ⟨j, a1, a2, a3⟩ := z; exact h292b ⟨j, a1, a2⟩)).symm) (by first | rfl | simp [*]))
        · skip
          rw [xb_ne (x := nI (n)) (y := nI 2) (a := (n)) (b := 2) rfl rfl (by omega) (by omega)] at h252
          have hdm : dMean (nI q) (nI n) = nI 9 := dmv hq9 hn9 h19 (by unfold dmN; (repeat' split) <;> omega)
          refine x_iload_n X dX9_judged_255 rfl ?_
          refine x_sipush (v := (-1000)) X dX9_judged_256 (by decide) ?_
          refine x_sipush (v := nI 1000) X dX9_judged_259 (by decide) ?_
          refine cs_X9_190 X c_X9_bounds dX9_judged_262 ⟨by decide, by decide, by decide, by decide⟩ rfl rfl (Nat.le_of_ble_eq_true rfl) (xk_i ?_)
          refine x_goto (tgt := 274) X dX9_judged_265 (by decide) ?_
          exact x_iret X dX9_judged_274 (xp_i (by rw [hdm]; first | rfl | exact (xD_f (xB_0.mp h158)).symm | exact (xD_t (Classical.not_not.mp (fun z => h158 (xB_f z)))).symm | exact (xD_t (p := qGood σ np V N M fs gs ps (nI j)) ((qGood_n hj hp).mpr h301)).symm | exact (xD_f (p := qGood σ np V N M fs gs ps (nI j)) (fun z => h301 ((qGood_n hj hp).mp z))).symm | exact (xD_f (p := qGood σ np V N M fs gs ps x) (fun z => by obtain ⟨j, a1, a2, a3⟩ := z; exact h292b ⟨j, a1, a2⟩)).symm) (by first | rfl | simp [*]))
      · skip
        rw [xb_ne (x := nI (n)) (y := nI 1) (a := (n)) (b := 1) rfl rfl (by omega) (by omega)] at h239
        have hdm : dMean (nI q) (nI n) = nI 2 := dmv hq9 hn9 h19 (by unfold dmN; (repeat' split) <;> omega)
        refine x_aload_n X dX9_judged_242 rfl ?_
        refine x_iload_n X dX9_judged_243 rfl ?_
        refine cv_X9_194 X (c_X9_variable hV hV8) dX9_judged_244 rfl ⟨by decide, by decide, by decide, by decide⟩ rfl rfl (Nat.le_of_ble_eq_true rfl) (xk_i ?_)
        refine x_goto (tgt := 274) X dX9_judged_247 (by decide) ?_
        exact x_iret X dX9_judged_274 (xp_i (by rw [hdm]; first | rfl | exact (xD_f (xB_0.mp h158)).symm | exact (xD_t (Classical.not_not.mp (fun z => h158 (xB_f z)))).symm | exact (xD_t (p := qGood σ np V N M fs gs ps (nI j)) ((qGood_n hj hp).mpr h301)).symm | exact (xD_f (p := qGood σ np V N M fs gs ps (nI j)) (fun z => h301 ((qGood_n hj hp).mp z))).symm | exact (xD_f (p := qGood σ np V N M fs gs ps x) (fun z => by obtain ⟨j, a1, a2, a3⟩ := z; exact h292b ⟨j, a1, a2⟩)).symm) (by first | rfl | simp [*]))
    · skip
      have hdm : dMean (nI q) (nI n) = nI 6 := dmv hq9 hn9 h19 (by unfold dmN; (repeat' split) <;> omega)
      refine x_tableIn (off := 202) (tgt := 275) X dX9_judged_73 (by rw [nI_toInt (by omega)]; omega) (by rw [nI_toInt (by omega)]; omega) (by rw [nI_toInt (by omega), g73]; rfl) (by decide) ?_
      refine x_aload_n X dX9_judged_275 rfl ?_
      refine x_iload_n X dX9_judged_276 rfl ?_
      refine cv_X9_197 X (c_X9_row hr hr2) dX9_judged_277 rfl ⟨by decide, by decide, by decide, by decide⟩ rfl rfl (Nat.le_of_ble_eq_true rfl) (xk_i ?_)
      exact x_iret X dX9_judged_280 (xp_i (by rw [hdm]; first | rfl | exact (xD_f (xB_0.mp h158)).symm | exact (xD_t (Classical.not_not.mp (fun z => h158 (xB_f z)))).symm | exact (xD_t (p := qGood σ np V N M fs gs ps (nI j)) ((qGood_n hj hp).mpr h301)).symm | exact (xD_f (p := qGood σ np V N M fs gs ps (nI j)) (fun z => h301 ((qGood_n hj hp).mp z))).symm | exact (xD_f (p := qGood σ np V N M fs gs ps x) (fun z => by obtain ⟨j, a1, a2, a3⟩ := z; exact h292b ⟨j, a1, a2⟩)).symm) (by first | rfl | simp [*]))
    · skip
      have hdm : dMean (nI q) (nI n) = nI 11 := dmv hq9 hn9 h19 (by unfold dmN; (repeat' split) <;> omega)
      refine x_tableIn (off := 208) (tgt := 281) X dX9_judged_73 (by rw [nI_toInt (by omega)]; omega) (by rw [nI_toInt (by omega)]; omega) (by rw [nI_toInt (by omega), g73]; rfl) (by decide) ?_
      refine x_iload_n X dX9_judged_281 rfl ?_
      refine x_iconst (v := nI 0) X dX9_judged_282 (by decide) ?_
      refine x_aload_n X dX9_judged_283 rfl ?_
      refine gf_X9_127 X dX9_judged_284 rfl ?_
      rw [hc]
      refine x_iconst (v := nI 1) X dX9_judged_287 (by decide) ?_
      refine x_isub X dX9_judged_288 ?_
      refine cs_X9_89 X c_X9_in dX9_judged_289 ⟨by decide, by decide, by decide, by decide⟩ rfl rfl (Nat.le_of_ble_eq_true rfl) (xk_i ?_)
      rw [xIn_lt (by omega)]
      refine x_ifeq (tgt := 308) X dX9_judged_292 (by decide) (fun h292 => ?_) (fun h292 => ?_)
      · skip
        have h292b := xB_0.mp h292
        refine x_iconst (v := nI 4) X dX9_judged_308 (by decide) ?_
        exact x_iret X dX9_judged_309 (xp_i (by rw [hdm]; first | rfl | exact (xD_f (xB_0.mp h158)).symm | exact (xD_t (Classical.not_not.mp (fun z => h158 (xB_f z)))).symm | exact (xD_t (p := qGood σ np V N M fs gs ps (nI j)) ((qGood_n hj hp).mpr h301)).symm | exact (xD_f (p := qGood σ np V N M fs gs ps (nI j)) (fun z => h301 ((qGood_n hj hp).mp z))).symm | exact (xD_f (p := qGood σ np V N M fs gs ps x) (fun z => by obtain ⟨j, a1, a2, a3⟩ := z; exact h292b ⟨j, a1, a2⟩)).symm) (by first | rfl | simp [*]))
      · skip
        obtain ⟨j, hj, rfl⟩ := Classical.not_not.mp (fun z => h292 (xB_f z))
        refine x_aload_n X dX9_judged_295 rfl ?_
        refine x_iload_n X dX9_judged_296 rfl ?_
        refine cv_X9_153 X (c_X9_broken (p0 := j) (by omega) hV hV8 hN hN2 hM hM2 hT) dX9_judged_297 rfl ⟨by decide, by decide, by decide, by decide⟩ rfl rfl (Nat.le_of_ble_eq_true rfl) (xk_i ?_)
        refine x_iconst (v := (-1)) X dX9_judged_300 (by decide) ?_
        refine x_icmpne (tgt := 308) X dX9_judged_301 (by decide) (fun h301 => ?_) (fun h301 => ?_)
        · skip
          refine x_iconst (v := nI 4) X dX9_judged_308 (by decide) ?_
          exact x_iret X dX9_judged_309 (xp_i (by rw [hdm]; first | rfl | exact (xD_f (xB_0.mp h158)).symm | exact (xD_t (Classical.not_not.mp (fun z => h158 (xB_f z)))).symm | exact (xD_t (p := qGood σ np V N M fs gs ps (nI j)) ((qGood_n hj hp).mpr h301)).symm | exact (xD_f (p := qGood σ np V N M fs gs ps (nI j)) (fun z => h301 ((qGood_n hj hp).mp z))).symm | exact (xD_f (p := qGood σ np V N M fs gs ps x) (fun z => by obtain ⟨j, a1, a2, a3⟩ := z; exact h292b ⟨j, a1, a2⟩)).symm) (by first | rfl | simp [*]))
        · skip
          refine x_iconst (v := nI 0) X dX9_judged_304 (by decide) ?_
          refine x_goto (tgt := 309) X dX9_judged_305 (by decide) ?_
          exact x_iret X dX9_judged_309 (xp_i (by rw [hdm]; first | rfl | exact (xD_f (xB_0.mp h158)).symm | exact (xD_t (Classical.not_not.mp (fun z => h158 (xB_f z)))).symm | exact (xD_t (p := qGood σ np V N M fs gs ps (nI j)) ((qGood_n hj hp).mpr h301)).symm | exact (xD_f (p := qGood σ np V N M fs gs ps (nI j)) (fun z => h301 ((qGood_n hj hp).mp z))).symm | exact (xD_f (p := qGood σ np V N M fs gs ps x) (fun z => by obtain ⟨j, a1, a2, a3⟩ := z; exact h292b ⟨j, a1, a2⟩)).symm) (by first | rfl | simp [*]))
  · skip
    rw [xb_ne (x := nI (n)) (y := 0) (a := (n)) (b := 0) rfl rfl (by omega) (by omega)] at h19
    subst h19
    rw [dFltG_0]
    refine x_iload_n X dX9_judged_22 rfl ?_
    refine x_iconst (v := nI 0) X dX9_judged_23 (by decide) ?_
    refine x_bipush (v := nI 9) X dX9_judged_24 (by decide) ?_
    refine cs_X9_89 X c_X9_in dX9_judged_26 ⟨by decide, by decide, by decide, by decide⟩ rfl rfl (Nat.le_of_ble_eq_true rfl) (xk_i ?_)
    refine x_ifne (tgt := 36) X dX9_judged_29 (by decide) (fun h29 => ?_) (fun h29 => ?_)
    · skip
      refine x_aload_n X dX9_judged_36 rfl ?_
      refine gf_X9_145 X dX9_judged_37 rfl ?_
      rw [hr]
      refine x_sipush (v := nI 200) X dX9_judged_40 (by decide) ?_
      refine x_icmpeq (tgt := 61) X dX9_judged_43 (by decide) (fun h43 => ?_) (fun h43 => ?_)
      · skip
        rw [xb_eq (x := nI nr) (y := nI 200) (a := nr) (b := 200) rfl rfl (by omega) (by omega)] at h43
        refine x_bipush (v := nI 9) X dX9_judged_61 (by decide) ?_
        refine x_goto (tgt := 67) X dX9_judged_63 (by decide) ?_
        exact x_iret X dX9_judged_67 (xp_i (by first | exact (dKind_1 h29).symm | exact (dKind_2 h29 h43).symm | exact (dKind_3 h29 h43 h49 h58).symm | exact (dKind_4 h29 h43 h58).symm | exact (dKind_5 h29 h43 h49).symm) (by first | rfl | simp [*]))
      · skip
        rw [xb_eq (x := nI nr) (y := nI 200) (a := nr) (b := 200) rfl rfl (by omega) (by omega)] at h43
        refine x_iload_n X dX9_judged_46 rfl ?_
        refine x_bipush (v := nI 6) X dX9_judged_47 (by decide) ?_
        refine x_icmpne (tgt := 66) X dX9_judged_49 (by decide) (fun h49 => ?_) (fun h49 => ?_)
        · skip
          refine x_iconst (v := nI 0) X dX9_judged_66 (by decide) ?_
          exact x_iret X dX9_judged_67 (xp_i (by first | exact (dKind_1 h29).symm | exact (dKind_2 h29 h43).symm | exact (dKind_3 h29 h43 h49 h58).symm | exact (dKind_4 h29 h43 h58).symm | exact (dKind_5 h29 h43 h49).symm) (by first | rfl | simp [*]))
        · skip
          refine x_aload_n X dX9_judged_52 rfl ?_
          refine gf_X9_148 X dX9_judged_53 rfl ?_
          rw [hb]
          refine x_bipush (v := nI 60) X dX9_judged_56 (by decide) ?_
          refine x_icmpne (tgt := 66) X dX9_judged_58 (by decide) (fun h58 => ?_) (fun h58 => ?_)
          · skip
            rw [xb_ne (x := nI nb) (y := nI 60) (a := nb) (b := 60) rfl rfl (by omega) (by omega)] at h58
            refine x_iconst (v := nI 0) X dX9_judged_66 (by decide) ?_
            exact x_iret X dX9_judged_67 (xp_i (by first | exact (dKind_1 h29).symm | exact (dKind_2 h29 h43).symm | exact (dKind_3 h29 h43 h49 h58).symm | exact (dKind_4 h29 h43 h58).symm | exact (dKind_5 h29 h43 h49).symm) (by first | rfl | simp [*]))
          · skip
            rw [xb_ne (x := nI nb) (y := nI 60) (a := nb) (b := 60) rfl rfl (by omega) (by omega)] at h58
            refine x_bipush (v := nI 9) X dX9_judged_61 (by decide) ?_
            refine x_goto (tgt := 67) X dX9_judged_63 (by decide) ?_
            exact x_iret X dX9_judged_67 (xp_i (by first | exact (dKind_1 h29).symm | exact (dKind_2 h29 h43).symm | exact (dKind_3 h29 h43 h49 h58).symm | exact (dKind_4 h29 h43 h58).symm | exact (dKind_5 h29 h43 h49).symm) (by first | rfl | simp [*]))
    · skip
      refine x_iconst (v := nI 2) X dX9_judged_32 (by decide) ?_
      refine x_goto (tgt := 67) X dX9_judged_33 (by decide) ?_
      exact x_iret X dX9_judged_67 (xp_i (by first | exact (dKind_1 h29).symm | exact (dKind_2 h29 h43).symm | exact (dKind_3 h29 h43 h49 h58).symm | exact (dKind_4 h29 h43 h58).symm | exact (dKind_5 h29 h43 h49).symm) (by first | rfl | simp [*]))

set_option maxHeartbeats 4000000 in
set_option maxRecDepth 100000 in
theorem c_X9_says {l : Launch} {G : xG} {σ : xS} {n v : Nat} {x : Int64} (hn : n < 200) (hv : v < 8) : xFv l G yX9_says cX9_says 5 (Option.none : Option Jvm.ClassFile.FieldType) 0 0 [.ref (G.2.1 37), .int (nI n), .int (nI v), .long x] σ (xsL σ 52 (8 * n + v) x) := by
  refine xM.of (by decide) (Nat.le_of_ble_eq_true rfl) (fun pp ee ss mm aa bel met kk X => ?_)
  have X : xC pp ss mm met kk cX9_says 5 RX9 (Option.none : Option Jvm.ClassFile.FieldType) G := X
  show xW pp l ee { frames := 0, cells := 0, slots := 0, locals := 0 } ss mm aa bel met kk 5 G 0 0 (xQ bel G (fun rv_ tv_ => rv_ = none ∧ tv_ = (xsL σ 52 (8 * n + v) x)) aa ss) 0 [(0, .ref (G.2.1 37)), (1, .int (nI n)), (2, .int (nI v)), (3, .long x)] [] σ
  refine x_aload_n X dX9_says_0 rfl ?_
  refine gf_X9_59 (k' := 52) X dX9_says_1 rfl rfl ?_
  refine x_bipush (v := nI 8) X dX9_says_4 (by decide) ?_
  refine x_iload_n X dX9_says_6 rfl ?_
  refine x_imul X dX9_says_7 ?_
  rw [pk_mul 8 n]
  refine x_iload_n X dX9_says_8 rfl ?_
  refine x_iadd X dX9_says_9 ?_
  rw [nI_add (8 * n) v]
  refine x_lload_n X dX9_says_10 rfl ?_
  refine x_lastN X dX9_says_11 rfl (by omega) (by omega) ?_
  exact x_vret X dX9_says_12 (⟨rfl, by first | rfl | simp [*]⟩)

set_option maxHeartbeats 4000000 in
set_option maxRecDepth 100000 in
theorem c_X9_kind {l : Launch} {G : xG} {σ : xS} {r s0 : Nat} (hr : r < 201) (hs : xgI σ 51 r = nI s0) (hs2 : s0 < 1500) : xFi l G yX9_kind cX9_kind 2 (Option.some Jvm.ClassFile.FieldType.int) 0 0 [.ref (G.2.1 37), .int (nI r)] σ (xgI σ 50 s0) (σ) := by
  refine xM.of (by decide) (Nat.le_of_ble_eq_true rfl) (fun pp ee ss mm aa bel met kk X => ?_)
  have X : xC pp ss mm met kk cX9_kind 2 RX9 (Option.some Jvm.ClassFile.FieldType.int) G := X
  show xW pp l ee { frames := 0, cells := 0, slots := 0, locals := 0 } ss mm aa bel met kk 2 G 0 0 (xQ bel G (fun rv_ tv_ => rv_ = some (.int (xgI σ 50 s0)) ∧ tv_ = (σ)) aa ss) 0 [(0, .ref (G.2.1 37)), (1, .int (nI r))] [] σ
  refine x_aload_n X dX9_kind_0 rfl ?_
  refine gf_X9_46 (k' := 50) X dX9_kind_1 rfl rfl ?_
  refine x_aload_n X dX9_kind_4 rfl ?_
  refine gf_X9_56 (k' := 51) X dX9_kind_5 rfl rfl ?_
  refine x_iload_n X dX9_kind_8 rfl ?_
  refine x_ialdN X dX9_kind_9 rfl (by omega) (by omega) ?_
  rw [hs]
  refine x_ialdN X dX9_kind_10 rfl (by omega) (by omega) ?_
  exact x_iret X dX9_kind_11 (xp_i (by first | rfl | simp [*]) (by first | rfl | simp [*]))

set_option maxHeartbeats 4000000 in
set_option maxRecDepth 100000 in
theorem c_X9_down {l : Launch} {G : xG} {σ : xS} {x y : Int64} (hy : ¬ y = 0) : xFl l G yX9_down cX9_down 6 (Option.some Jvm.ClassFile.FieldType.long) 0 0 [.long x, .long y] σ (qDown x y) (σ) := by
  refine xM.of (by decide) (Nat.le_of_ble_eq_true rfl) (fun pp ee ss mm aa bel met kk X => ?_)
  have X : xC pp ss mm met kk cX9_down 6 RX9 (Option.some Jvm.ClassFile.FieldType.long) G := X
  show xW pp l ee { frames := 0, cells := 0, slots := 0, locals := 0 } ss mm aa bel met kk 6 G 0 0 (xQ bel G (fun rv_ tv_ => rv_ = some (.long (qDown x y)) ∧ tv_ = (σ)) aa ss) 0 [(0, .long x), (2, .long y)] [] σ
  refine x_lload_n X dX9_down_0 rfl ?_
  refine x_lload_n X dX9_down_1 rfl ?_
  refine x_ldiv X dX9_down_2 hy ?_
  refine x_topl (fun q hq => ?_)
  refine x_lstore (lv' := [(4, .long q), (0, .long x), (2, .long y)]) X dX9_down_3 (by decide) rfl ?_
  refine x_lload X dX9_down_5 rfl ?_
  refine x_lload_n X dX9_down_7 rfl ?_
  refine x_lmul X dX9_down_8 ?_
  refine x_lload_n X dX9_down_9 rfl ?_
  refine x_lcmp X dX9_down_10 ?_
  refine x_ifle (tgt := 21) X dX9_down_11 (by decide) (fun h11 => ?_) (fun h11 => ?_)
  · skip
    rw [lg_cmp_le] at h11
    refine x_lload X dX9_down_21 rfl ?_
    exact x_lret X dX9_down_23 (xp_l (by subst hq; first | exact (if_pos h11).symm | exact (if_neg h11).symm) (by first | rfl | simp [*]))
  · skip
    rw [lg_cmp_le] at h11
    refine x_lload X dX9_down_14 rfl ?_
    refine x_lconst (v := 1) X dX9_down_16 (by decide) ?_
    refine x_lsub X dX9_down_17 ?_
    refine x_goto (tgt := 23) X dX9_down_18 (by decide) ?_
    exact x_lret X dX9_down_23 (xp_l (by subst hq; first | exact (if_pos h11).symm | exact (if_neg h11).symm) (by first | rfl | simp [*]))

set_option maxHeartbeats 4000000 in
set_option maxRecDepth 100000 in
theorem c_X9_isImpossible {l : Launch} {G : xG} {σ : xS} {r V : Nat} (hr : r < 200) (hV : xgI σ 37 3 = nI V) (hV8 : V ≤ 8) : xFi l G yX9_isImpossible cX9_isImpossible 4 (Option.some Jvm.ClassFile.FieldType.boolean) 0 0 [.ref (G.2.1 37), .int (nI r)] σ (xB (qImp σ r V)) (σ) := by
  refine xM.of (by decide) (Nat.le_of_ble_eq_true rfl) (fun pp ee ss mm aa bel met kk X => ?_)
  have X : xC pp ss mm met kk cX9_isImpossible 4 RX9 (Option.some Jvm.ClassFile.FieldType.boolean) G := X
  show xW pp l ee { frames := 0, cells := 0, slots := 0, locals := 0 } ss mm aa bel met kk 4 G 0 0 (xQ bel G (fun rv_ tv_ => rv_ = some (.int (xB (qImp σ r V))) ∧ tv_ = (σ)) aa ss) 0 [(0, .ref (G.2.1 37)), (1, .int (nI r))] [] σ
  refine x_aload_n X dX9_isImpossible_0 rfl ?_
  refine gf_X9_63 (k' := 53) X dX9_isImpossible_1 rfl rfl ?_
  refine x_iload_n X dX9_isImpossible_4 rfl ?_
  refine x_laldN X dX9_isImpossible_5 rfl (by omega) (by omega) ?_
  refine x_lconst (v := 0) X dX9_isImpossible_6 (by decide) ?_
  refine x_lcmp X dX9_isImpossible_7 ?_
  refine x_ifge (tgt := 15) X dX9_isImpossible_8 (by decide) (fun h8 => ?_) (fun h8 => ?_)
  · skip
    rw [lg_cmp_ge] at h8
    have his0 : nI 0 = xB (qImp σ r 0) := (xB_f (fun z => xi64_nle.mpr z.1 h8)).symm
    refine x_iconst (v := nI 0) X dX9_isImpossible_15 (by decide) ?_
    refine x_istore_n (lv' := [(2, .int (nI 0)), (0, .ref (G.2.1 37)), (1, .int (nI r))]) X dX9_isImpossible_16 rfl (by decide) rfl ?_
    refine x_iconst (v := nI 0) X dX9_isImpossible_17 (by decide) ?_
    refine x_istore_n (lv' := [(3, .int (nI 0)), (2, .int (nI 0)), (0, .ref (G.2.1 37)), (1, .int (nI r))]) X dX9_isImpossible_18 rfl (by decide) rfl ?_
    have lp19 : ∀ (NN19 : Nat) (n : Nat) (hn : n ≤ V) (is0 : Int32) (his : is0 = xB (qImp σ r n)), V - n = NN19 → xW pp l ee { frames := 0, cells := 0, slots := 0, locals := 0 } ss mm aa bel met kk 4 G 0 0 (xQ bel G (fun rv_ tv_ => rv_ = some (.int (xB (qImp σ r V))) ∧ tv_ = (σ)) aa ss) 19 [(3, .int (nI n)), (2, .int is0), (1, .int (nI r)), (0, .ref (G.2.1 37))] [] (σ) := by
      intro NN19
      induction NN19 using Nat.strongRecOn with
      | ind NN19 ih19 =>
        intro n hn is0 his hNN19
        refine x_iload_n X dX9_isImpossible_19 rfl ?_
        refine x_aload_n X dX9_isImpossible_20 rfl ?_
        refine gf_X9_112 X dX9_isImpossible_21 rfl ?_
        rw [hV]
        refine x_icmpge (tgt := 59) X dX9_isImpossible_24 (by decide) (fun h24 => ?_) (fun h24 => ?_)
        · skip
          rw [xb_ge (x := nI n) (y := nI V) (a := n) (b := V) rfl rfl (by omega) (by omega)] at h24
          obtain rfl : n = V := by omega
          refine x_iload_n X dX9_isImpossible_59 rfl ?_
          exact x_zret X dX9_isImpossible_60 (his ▸ xB_01 _) (xp_i (by exact his) (by first | rfl | simp [*]))
        · skip
          rw [xb_ge (x := nI n) (y := nI V) (a := n) (b := V) rfl rfl (by omega) (by omega)] at h24
          refine x_iload_n X dX9_isImpossible_27 rfl ?_
          refine x_ifeq (tgt := 51) X dX9_isImpossible_28 (by decide) (fun h28 => ?_) (fun h28 => ?_)
          · skip
            have his9 : nI 0 = xB (qImp σ r (n + 1)) := (xB_f (fun z => (xB_0.mp (his ▸ h28)) ⟨z.1, fun v hv => z.2 v (by omega)⟩)).symm
            refine x_iconst (v := nI 0) X dX9_isImpossible_51 (by decide) ?_
            refine x_istore_n (lv' := [(2, .int (nI 0)), (3, .int (nI n)), (1, .int (nI r)), (0, .ref (G.2.1 37))]) X dX9_isImpossible_52 rfl (by decide) rfl ?_
            refine x_iinc (k := 1) (v := nI (n + 1)) (lv' := [(3, .int (nI (n + 1))), (2, .int (nI 0)), (1, .int (nI r)), (0, .ref (G.2.1 37))]) X dX9_isImpossible_53 rfl (xn_inc _) (by decide) rfl ?_
            refine x_goto (tgt := 19) X dX9_isImpossible_56 (by decide) ?_
            refine x_pick [0, 1, 2, 3] rfl ?_
            exact ih19 _ (by omega) (n + 1) (by omega) _ his9 rfl
          · skip
            have hq : qImp σ r n := Classical.not_not.mp (fun z => h28 (by rw [his, xB_f z]))
            refine x_aload_n X dX9_isImpossible_31 rfl ?_
            refine gf_X9_59 (k' := 52) X dX9_isImpossible_32 rfl rfl ?_
            refine x_bipush (v := nI 8) X dX9_isImpossible_35 (by decide) ?_
            refine x_iload_n X dX9_isImpossible_37 rfl ?_
            refine x_imul X dX9_isImpossible_38 ?_
            rw [pk_mul 8 r]
            refine x_iload_n X dX9_isImpossible_39 rfl ?_
            refine x_iadd X dX9_isImpossible_40 ?_
            rw [nI_add (8 * r) n]
            refine x_laldN X dX9_isImpossible_41 rfl (by omega) (by omega) ?_
            refine x_lconst (v := 0) X dX9_isImpossible_42 (by decide) ?_
            refine x_lcmp X dX9_isImpossible_43 ?_
            refine x_ifne (tgt := 51) X dX9_isImpossible_44 (by decide) (fun h44 => ?_) (fun h44 => ?_)
            · skip
              rw [lg_cmp_eq] at h44
              have his9 : nI 0 = xB (qImp σ r (n + 1)) := (xB_f (fun z => h44 (z.2 n (by omega)))).symm
              refine x_iconst (v := nI 0) X dX9_isImpossible_51 (by decide) ?_
              refine x_istore_n (lv' := [(2, .int (nI 0)), (3, .int (nI n)), (1, .int (nI r)), (0, .ref (G.2.1 37))]) X dX9_isImpossible_52 rfl (by decide) rfl ?_
              refine x_iinc (k := 1) (v := nI (n + 1)) (lv' := [(3, .int (nI (n + 1))), (2, .int (nI 0)), (1, .int (nI r)), (0, .ref (G.2.1 37))]) X dX9_isImpossible_53 rfl (xn_inc _) (by decide) rfl ?_
              refine x_goto (tgt := 19) X dX9_isImpossible_56 (by decide) ?_
              refine x_pick [0, 1, 2, 3] rfl ?_
              exact ih19 _ (by omega) (n + 1) (by omega) _ his9 rfl
            · skip
              rw [lg_cmp_eq] at h44
              have his9 : nI 1 = xB (qImp σ r (n + 1)) := (xB_t ⟨hq.1, lt_s hq.2 h44⟩).symm
              refine x_iconst (v := nI 1) X dX9_isImpossible_47 (by decide) ?_
              refine x_goto (tgt := 52) X dX9_isImpossible_48 (by decide) ?_
              refine x_istore_n (lv' := [(2, .int (nI 1)), (3, .int (nI n)), (1, .int (nI r)), (0, .ref (G.2.1 37))]) X dX9_isImpossible_52 rfl (by decide) rfl ?_
              refine x_iinc (k := 1) (v := nI (n + 1)) (lv' := [(3, .int (nI (n + 1))), (2, .int (nI 1)), (1, .int (nI r)), (0, .ref (G.2.1 37))]) X dX9_isImpossible_53 rfl (xn_inc _) (by decide) rfl ?_
              refine x_goto (tgt := 19) X dX9_isImpossible_56 (by decide) ?_
              refine x_pick [0, 1, 2, 3] rfl ?_
              exact ih19 _ (by omega) (n + 1) (by omega) _ his9 rfl
    refine x_pick [0, 1, 3, 2] rfl ?_
    exact lp19 _ 0 (by omega) _ his0 rfl
  · skip
    rw [lg_cmp_ge] at h8
    have h8b := xi64_nle.mp h8
    have his0 : nI 1 = xB (qImp σ r 0) := (xB_t ⟨h8b, fun v hv => by omega⟩).symm
    refine x_iconst (v := nI 1) X dX9_isImpossible_11 (by decide) ?_
    refine x_goto (tgt := 16) X dX9_isImpossible_12 (by decide) ?_
    refine x_istore_n (lv' := [(2, .int (nI 1)), (0, .ref (G.2.1 37)), (1, .int (nI r))]) X dX9_isImpossible_16 rfl (by decide) rfl ?_
    refine x_iconst (v := nI 0) X dX9_isImpossible_17 (by decide) ?_
    refine x_istore_n (lv' := [(3, .int (nI 0)), (2, .int (nI 1)), (0, .ref (G.2.1 37)), (1, .int (nI r))]) X dX9_isImpossible_18 rfl (by decide) rfl ?_
    have lp19 : ∀ (NN19 : Nat) (n : Nat) (hn : n ≤ V) (is0 : Int32) (his : is0 = xB (qImp σ r n)), V - n = NN19 → xW pp l ee { frames := 0, cells := 0, slots := 0, locals := 0 } ss mm aa bel met kk 4 G 0 0 (xQ bel G (fun rv_ tv_ => rv_ = some (.int (xB (qImp σ r V))) ∧ tv_ = (σ)) aa ss) 19 [(3, .int (nI n)), (2, .int is0), (1, .int (nI r)), (0, .ref (G.2.1 37))] [] (σ) := by
      intro NN19
      induction NN19 using Nat.strongRecOn with
      | ind NN19 ih19 =>
        intro n hn is0 his hNN19
        refine x_iload_n X dX9_isImpossible_19 rfl ?_
        refine x_aload_n X dX9_isImpossible_20 rfl ?_
        refine gf_X9_112 X dX9_isImpossible_21 rfl ?_
        rw [hV]
        refine x_icmpge (tgt := 59) X dX9_isImpossible_24 (by decide) (fun h24 => ?_) (fun h24 => ?_)
        · skip
          rw [xb_ge (x := nI n) (y := nI V) (a := n) (b := V) rfl rfl (by omega) (by omega)] at h24
          obtain rfl : n = V := by omega
          refine x_iload_n X dX9_isImpossible_59 rfl ?_
          exact x_zret X dX9_isImpossible_60 (his ▸ xB_01 _) (xp_i (by exact his) (by first | rfl | simp [*]))
        · skip
          rw [xb_ge (x := nI n) (y := nI V) (a := n) (b := V) rfl rfl (by omega) (by omega)] at h24
          refine x_iload_n X dX9_isImpossible_27 rfl ?_
          refine x_ifeq (tgt := 51) X dX9_isImpossible_28 (by decide) (fun h28 => ?_) (fun h28 => ?_)
          · skip
            have his9 : nI 0 = xB (qImp σ r (n + 1)) := (xB_f (fun z => (xB_0.mp (his ▸ h28)) ⟨z.1, fun v hv => z.2 v (by omega)⟩)).symm
            refine x_iconst (v := nI 0) X dX9_isImpossible_51 (by decide) ?_
            refine x_istore_n (lv' := [(2, .int (nI 0)), (3, .int (nI n)), (1, .int (nI r)), (0, .ref (G.2.1 37))]) X dX9_isImpossible_52 rfl (by decide) rfl ?_
            refine x_iinc (k := 1) (v := nI (n + 1)) (lv' := [(3, .int (nI (n + 1))), (2, .int (nI 0)), (1, .int (nI r)), (0, .ref (G.2.1 37))]) X dX9_isImpossible_53 rfl (xn_inc _) (by decide) rfl ?_
            refine x_goto (tgt := 19) X dX9_isImpossible_56 (by decide) ?_
            refine x_pick [0, 1, 2, 3] rfl ?_
            exact ih19 _ (by omega) (n + 1) (by omega) _ his9 rfl
          · skip
            have hq : qImp σ r n := Classical.not_not.mp (fun z => h28 (by rw [his, xB_f z]))
            refine x_aload_n X dX9_isImpossible_31 rfl ?_
            refine gf_X9_59 (k' := 52) X dX9_isImpossible_32 rfl rfl ?_
            refine x_bipush (v := nI 8) X dX9_isImpossible_35 (by decide) ?_
            refine x_iload_n X dX9_isImpossible_37 rfl ?_
            refine x_imul X dX9_isImpossible_38 ?_
            rw [pk_mul 8 r]
            refine x_iload_n X dX9_isImpossible_39 rfl ?_
            refine x_iadd X dX9_isImpossible_40 ?_
            rw [nI_add (8 * r) n]
            refine x_laldN X dX9_isImpossible_41 rfl (by omega) (by omega) ?_
            refine x_lconst (v := 0) X dX9_isImpossible_42 (by decide) ?_
            refine x_lcmp X dX9_isImpossible_43 ?_
            refine x_ifne (tgt := 51) X dX9_isImpossible_44 (by decide) (fun h44 => ?_) (fun h44 => ?_)
            · skip
              rw [lg_cmp_eq] at h44
              have his9 : nI 0 = xB (qImp σ r (n + 1)) := (xB_f (fun z => h44 (z.2 n (by omega)))).symm
              refine x_iconst (v := nI 0) X dX9_isImpossible_51 (by decide) ?_
              refine x_istore_n (lv' := [(2, .int (nI 0)), (3, .int (nI n)), (1, .int (nI r)), (0, .ref (G.2.1 37))]) X dX9_isImpossible_52 rfl (by decide) rfl ?_
              refine x_iinc (k := 1) (v := nI (n + 1)) (lv' := [(3, .int (nI (n + 1))), (2, .int (nI 0)), (1, .int (nI r)), (0, .ref (G.2.1 37))]) X dX9_isImpossible_53 rfl (xn_inc _) (by decide) rfl ?_
              refine x_goto (tgt := 19) X dX9_isImpossible_56 (by decide) ?_
              refine x_pick [0, 1, 2, 3] rfl ?_
              exact ih19 _ (by omega) (n + 1) (by omega) _ his9 rfl
            · skip
              rw [lg_cmp_eq] at h44
              have his9 : nI 1 = xB (qImp σ r (n + 1)) := (xB_t ⟨hq.1, lt_s hq.2 h44⟩).symm
              refine x_iconst (v := nI 1) X dX9_isImpossible_47 (by decide) ?_
              refine x_goto (tgt := 52) X dX9_isImpossible_48 (by decide) ?_
              refine x_istore_n (lv' := [(2, .int (nI 1)), (3, .int (nI n)), (1, .int (nI r)), (0, .ref (G.2.1 37))]) X dX9_isImpossible_52 rfl (by decide) rfl ?_
              refine x_iinc (k := 1) (v := nI (n + 1)) (lv' := [(3, .int (nI (n + 1))), (2, .int (nI 1)), (1, .int (nI r)), (0, .ref (G.2.1 37))]) X dX9_isImpossible_53 rfl (xn_inc _) (by decide) rfl ?_
              refine x_goto (tgt := 19) X dX9_isImpossible_56 (by decide) ?_
              refine x_pick [0, 1, 2, 3] rfl ?_
              exact ih19 _ (by omega) (n + 1) (by omega) _ his9 rfl
    refine x_pick [0, 1, 3, 2] rfl ?_
    exact lp19 _ 0 (by omega) _ his0 rfl

set_option maxHeartbeats 4000000 in
set_option maxRecDepth 100000 in
theorem c_X9_isGreat {l : Launch} {G : xG} {σ : xS} {r V : Nat} (hr : r < 200) (hV : xgI σ 37 3 = nI V) (hV8 : V ≤ 8) : xFi l G yX9_isGreat cX9_isGreat 4 (Option.some Jvm.ClassFile.FieldType.boolean) 0 0 [.ref (G.2.1 37), .int (nI r)] σ (xB (qG σ r V V)) (σ) := by
  refine xM.of (by decide) (Nat.le_of_ble_eq_true rfl) (fun pp ee ss mm aa bel met kk X => ?_)
  have X : xC pp ss mm met kk cX9_isGreat 4 RX9 (Option.some Jvm.ClassFile.FieldType.boolean) G := X
  show xW pp l ee { frames := 0, cells := 0, slots := 0, locals := 0 } ss mm aa bel met kk 4 G 0 0 (xQ bel G (fun rv_ tv_ => rv_ = some (.int (xB (qG σ r V V))) ∧ tv_ = (σ)) aa ss) 0 [(0, .ref (G.2.1 37)), (1, .int (nI r))] [] σ
  refine x_aload_n X dX9_isGreat_0 rfl ?_
  refine gf_X9_63 (k' := 53) X dX9_isGreat_1 rfl rfl ?_
  refine x_iload_n X dX9_isGreat_4 rfl ?_
  refine x_laldN X dX9_isGreat_5 rfl (by omega) (by omega) ?_
  refine x_ldc2 X dX9_isGreat_6 wk_X9_225 ?_
  refine x_lcmp X dX9_isGreat_9 ?_
  refine x_iflt (tgt := 26) X dX9_isGreat_10 (by decide) (fun h10 => ?_) (fun h10 => ?_)
  · skip
    rw [lg_cmp_lt] at h10
    have his0 : nI 1 = xB (qG σ r V 0) := (xB_t (Or.inl (Or.inl h10))).symm
    refine x_iconst (v := nI 1) X dX9_isGreat_26 (by decide) ?_
    refine x_goto (tgt := 31) X dX9_isGreat_27 (by decide) ?_
    refine x_istore_n (lv' := [(2, .int (nI 1)), (0, .ref (G.2.1 37)), (1, .int (nI r))]) X dX9_isGreat_31 rfl (by decide) rfl ?_
    refine x_iconst (v := nI 0) X dX9_isGreat_32 (by decide) ?_
    refine x_istore_n (lv' := [(3, .int (nI 0)), (2, .int (nI 1)), (0, .ref (G.2.1 37)), (1, .int (nI r))]) X dX9_isGreat_33 rfl (by decide) rfl ?_
    have lp34 : ∀ (NN34 : Nat) (n : Nat) (hn : n ≤ V) (is0 : Int32) (his : is0 = xB (qG σ r V n)), V - n = NN34 → xW pp l ee { frames := 0, cells := 0, slots := 0, locals := 0 } ss mm aa bel met kk 4 G 0 0 (xQ bel G (fun rv_ tv_ => rv_ = some (.int (xB (qG σ r V V))) ∧ tv_ = (σ)) aa ss) 34 [(3, .int (nI n)), (2, .int is0), (1, .int (nI r)), (0, .ref (G.2.1 37))] [] (σ) := by
      intro NN34
      induction NN34 using Nat.strongRecOn with
      | ind NN34 ih34 =>
        intro n hn is0 his hNN34
        refine x_iload_n X dX9_isGreat_34 rfl ?_
        refine x_aload_n X dX9_isGreat_35 rfl ?_
        refine gf_X9_112 X dX9_isGreat_36 rfl ?_
        rw [hV]
        refine x_icmpge (tgt := 94) X dX9_isGreat_39 (by decide) (fun h39 => ?_) (fun h39 => ?_)
        · skip
          rw [xb_ge (x := nI n) (y := nI V) (a := n) (b := V) rfl rfl (by omega) (by omega)] at h39
          obtain rfl : n = V := by omega
          refine x_iload_n X dX9_isGreat_94 rfl ?_
          exact x_zret X dX9_isGreat_95 (his ▸ xB_01 _) (xp_i (by exact his) (by first | rfl | simp [*]))
        · skip
          rw [xb_ge (x := nI n) (y := nI V) (a := n) (b := V) rfl rfl (by omega) (by omega)] at h39
          refine x_iload_n X dX9_isGreat_42 rfl ?_
          refine x_ifne (tgt := 82) X dX9_isGreat_43 (by decide) (fun h43 => ?_) (fun h43 => ?_)
          · skip
            have his9 : nI 1 = xB (qG σ r V (n + 1)) := (xB_t (by have hq : qG σ r V n := Classical.not_not.mp (fun z => h43 (by rw [his, xB_f z])); rcases hq with z | ⟨v, hv, z⟩; exact Or.inl z; exact Or.inr ⟨v, by omega, z⟩)).symm
            refine x_iconst (v := nI 1) X dX9_isGreat_82 (by decide) ?_
            refine x_goto (tgt := 87) X dX9_isGreat_83 (by decide) ?_
            refine x_istore_n (lv' := [(2, .int (nI 1)), (3, .int (nI n)), (1, .int (nI r)), (0, .ref (G.2.1 37))]) X dX9_isGreat_87 rfl (by decide) rfl ?_
            refine x_iinc (k := 1) (v := nI (n + 1)) (lv' := [(3, .int (nI (n + 1))), (2, .int (nI 1)), (1, .int (nI r)), (0, .ref (G.2.1 37))]) X dX9_isGreat_88 rfl (xn_inc _) (by decide) rfl ?_
            refine x_goto (tgt := 34) X dX9_isGreat_91 (by decide) ?_
            refine x_pick [0, 1, 2, 3] rfl ?_
            exact ih34 _ (by omega) (n + 1) (by omega) _ his9 rfl
          · skip
            have hq : ¬ qG σ r V n := xB_0.mp (his ▸ h43)
            refine x_aload_n X dX9_isGreat_46 rfl ?_
            refine gf_X9_59 (k' := 52) X dX9_isGreat_47 rfl rfl ?_
            refine x_bipush (v := nI 8) X dX9_isGreat_50 (by decide) ?_
            refine x_iload_n X dX9_isGreat_52 rfl ?_
            refine x_imul X dX9_isGreat_53 ?_
            rw [pk_mul 8 r]
            refine x_iload_n X dX9_isGreat_54 rfl ?_
            refine x_iadd X dX9_isGreat_55 ?_
            rw [nI_add (8 * r) n]
            refine x_laldN X dX9_isGreat_56 rfl (by omega) (by omega) ?_
            refine x_ldc2 X dX9_isGreat_57 wk_X9_225 ?_
            refine x_lcmp X dX9_isGreat_60 ?_
            refine x_iflt (tgt := 82) X dX9_isGreat_61 (by decide) (fun h61 => ?_) (fun h61 => ?_)
            · skip
              rw [lg_cmp_lt] at h61
              have his9 : nI 1 = xB (qG σ r V (n + 1)) := (xB_t (Or.inr ⟨n, by omega, Or.inl h61⟩)).symm
              refine x_iconst (v := nI 1) X dX9_isGreat_82 (by decide) ?_
              refine x_goto (tgt := 87) X dX9_isGreat_83 (by decide) ?_
              refine x_istore_n (lv' := [(2, .int (nI 1)), (3, .int (nI n)), (1, .int (nI r)), (0, .ref (G.2.1 37))]) X dX9_isGreat_87 rfl (by decide) rfl ?_
              refine x_iinc (k := 1) (v := nI (n + 1)) (lv' := [(3, .int (nI (n + 1))), (2, .int (nI 1)), (1, .int (nI r)), (0, .ref (G.2.1 37))]) X dX9_isGreat_88 rfl (xn_inc _) (by decide) rfl ?_
              refine x_goto (tgt := 34) X dX9_isGreat_91 (by decide) ?_
              refine x_pick [0, 1, 2, 3] rfl ?_
              exact ih34 _ (by omega) (n + 1) (by omega) _ his9 rfl
            · skip
              rw [lg_cmp_lt] at h61
              refine x_aload_n X dX9_isGreat_64 rfl ?_
              refine gf_X9_59 (k' := 52) X dX9_isGreat_65 rfl rfl ?_
              refine x_bipush (v := nI 8) X dX9_isGreat_68 (by decide) ?_
              refine x_iload_n X dX9_isGreat_70 rfl ?_
              refine x_imul X dX9_isGreat_71 ?_
              rw [pk_mul 8 r]
              refine x_iload_n X dX9_isGreat_72 rfl ?_
              refine x_iadd X dX9_isGreat_73 ?_
              rw [nI_add (8 * r) n]
              refine x_laldN X dX9_isGreat_74 rfl (by omega) (by omega) ?_
              refine x_ldc2 X dX9_isGreat_75 wk_X9_227 ?_
              refine x_lcmp X dX9_isGreat_78 ?_
              refine x_ifle (tgt := 86) X dX9_isGreat_79 (by decide) (fun h79 => ?_) (fun h79 => ?_)
              · skip
                rw [lg_cmp_le] at h79
                have his9 : nI 0 = xB (qG σ r V (n + 1)) := (xB_f (fun z => by rcases z with z | ⟨v, hv, z⟩; exact hq (Or.inl z); by_cases e : v = n; (subst e; rcases z with z | z; exact h61 z; exact xi64_nle.mpr z h79); exact hq (Or.inr ⟨v, by omega, z⟩))).symm
                refine x_iconst (v := nI 0) X dX9_isGreat_86 (by decide) ?_
                refine x_istore_n (lv' := [(2, .int (nI 0)), (3, .int (nI n)), (1, .int (nI r)), (0, .ref (G.2.1 37))]) X dX9_isGreat_87 rfl (by decide) rfl ?_
                refine x_iinc (k := 1) (v := nI (n + 1)) (lv' := [(3, .int (nI (n + 1))), (2, .int (nI 0)), (1, .int (nI r)), (0, .ref (G.2.1 37))]) X dX9_isGreat_88 rfl (xn_inc _) (by decide) rfl ?_
                refine x_goto (tgt := 34) X dX9_isGreat_91 (by decide) ?_
                refine x_pick [0, 1, 2, 3] rfl ?_
                exact ih34 _ (by omega) (n + 1) (by omega) _ his9 rfl
              · skip
                rw [lg_cmp_le] at h79
                have his9 : nI 1 = xB (qG σ r V (n + 1)) := (xB_t (Or.inr ⟨n, by omega, Or.inr (xi64_nle.mp h79)⟩)).symm
                refine x_iconst (v := nI 1) X dX9_isGreat_82 (by decide) ?_
                refine x_goto (tgt := 87) X dX9_isGreat_83 (by decide) ?_
                refine x_istore_n (lv' := [(2, .int (nI 1)), (3, .int (nI n)), (1, .int (nI r)), (0, .ref (G.2.1 37))]) X dX9_isGreat_87 rfl (by decide) rfl ?_
                refine x_iinc (k := 1) (v := nI (n + 1)) (lv' := [(3, .int (nI (n + 1))), (2, .int (nI 1)), (1, .int (nI r)), (0, .ref (G.2.1 37))]) X dX9_isGreat_88 rfl (xn_inc _) (by decide) rfl ?_
                refine x_goto (tgt := 34) X dX9_isGreat_91 (by decide) ?_
                refine x_pick [0, 1, 2, 3] rfl ?_
                exact ih34 _ (by omega) (n + 1) (by omega) _ his9 rfl
    refine x_pick [0, 1, 3, 2] rfl ?_
    exact lp34 _ 0 (by omega) _ his0 rfl
  · skip
    rw [lg_cmp_lt] at h10
    refine x_aload_n X dX9_isGreat_13 rfl ?_
    refine gf_X9_63 (k' := 53) X dX9_isGreat_14 rfl rfl ?_
    refine x_iload_n X dX9_isGreat_17 rfl ?_
    refine x_laldN X dX9_isGreat_18 rfl (by omega) (by omega) ?_
    refine x_ldc2 X dX9_isGreat_19 wk_X9_227 ?_
    refine x_lcmp X dX9_isGreat_22 ?_
    refine x_ifle (tgt := 30) X dX9_isGreat_23 (by decide) (fun h23 => ?_) (fun h23 => ?_)
    · skip
      rw [lg_cmp_le] at h23
      have his0 : nI 0 = xB (qG σ r V 0) := (xB_f (fun z => by rcases z with (z | z) | ⟨v, hv, z⟩; exact h10 z; exact xi64_nle.mpr z h23; omega)).symm
      refine x_iconst (v := nI 0) X dX9_isGreat_30 (by decide) ?_
      refine x_istore_n (lv' := [(2, .int (nI 0)), (0, .ref (G.2.1 37)), (1, .int (nI r))]) X dX9_isGreat_31 rfl (by decide) rfl ?_
      refine x_iconst (v := nI 0) X dX9_isGreat_32 (by decide) ?_
      refine x_istore_n (lv' := [(3, .int (nI 0)), (2, .int (nI 0)), (0, .ref (G.2.1 37)), (1, .int (nI r))]) X dX9_isGreat_33 rfl (by decide) rfl ?_
      have lp34 : ∀ (NN34 : Nat) (n : Nat) (hn : n ≤ V) (is0 : Int32) (his : is0 = xB (qG σ r V n)), V - n = NN34 → xW pp l ee { frames := 0, cells := 0, slots := 0, locals := 0 } ss mm aa bel met kk 4 G 0 0 (xQ bel G (fun rv_ tv_ => rv_ = some (.int (xB (qG σ r V V))) ∧ tv_ = (σ)) aa ss) 34 [(3, .int (nI n)), (2, .int is0), (1, .int (nI r)), (0, .ref (G.2.1 37))] [] (σ) := by
        intro NN34
        induction NN34 using Nat.strongRecOn with
        | ind NN34 ih34 =>
          intro n hn is0 his hNN34
          refine x_iload_n X dX9_isGreat_34 rfl ?_
          refine x_aload_n X dX9_isGreat_35 rfl ?_
          refine gf_X9_112 X dX9_isGreat_36 rfl ?_
          rw [hV]
          refine x_icmpge (tgt := 94) X dX9_isGreat_39 (by decide) (fun h39 => ?_) (fun h39 => ?_)
          · skip
            rw [xb_ge (x := nI n) (y := nI V) (a := n) (b := V) rfl rfl (by omega) (by omega)] at h39
            obtain rfl : n = V := by omega
            refine x_iload_n X dX9_isGreat_94 rfl ?_
            exact x_zret X dX9_isGreat_95 (his ▸ xB_01 _) (xp_i (by exact his) (by first | rfl | simp [*]))
          · skip
            rw [xb_ge (x := nI n) (y := nI V) (a := n) (b := V) rfl rfl (by omega) (by omega)] at h39
            refine x_iload_n X dX9_isGreat_42 rfl ?_
            refine x_ifne (tgt := 82) X dX9_isGreat_43 (by decide) (fun h43 => ?_) (fun h43 => ?_)
            · skip
              have his9 : nI 1 = xB (qG σ r V (n + 1)) := (xB_t (by have hq : qG σ r V n := Classical.not_not.mp (fun z => h43 (by rw [his, xB_f z])); rcases hq with z | ⟨v, hv, z⟩; exact Or.inl z; exact Or.inr ⟨v, by omega, z⟩)).symm
              refine x_iconst (v := nI 1) X dX9_isGreat_82 (by decide) ?_
              refine x_goto (tgt := 87) X dX9_isGreat_83 (by decide) ?_
              refine x_istore_n (lv' := [(2, .int (nI 1)), (3, .int (nI n)), (1, .int (nI r)), (0, .ref (G.2.1 37))]) X dX9_isGreat_87 rfl (by decide) rfl ?_
              refine x_iinc (k := 1) (v := nI (n + 1)) (lv' := [(3, .int (nI (n + 1))), (2, .int (nI 1)), (1, .int (nI r)), (0, .ref (G.2.1 37))]) X dX9_isGreat_88 rfl (xn_inc _) (by decide) rfl ?_
              refine x_goto (tgt := 34) X dX9_isGreat_91 (by decide) ?_
              refine x_pick [0, 1, 2, 3] rfl ?_
              exact ih34 _ (by omega) (n + 1) (by omega) _ his9 rfl
            · skip
              have hq : ¬ qG σ r V n := xB_0.mp (his ▸ h43)
              refine x_aload_n X dX9_isGreat_46 rfl ?_
              refine gf_X9_59 (k' := 52) X dX9_isGreat_47 rfl rfl ?_
              refine x_bipush (v := nI 8) X dX9_isGreat_50 (by decide) ?_
              refine x_iload_n X dX9_isGreat_52 rfl ?_
              refine x_imul X dX9_isGreat_53 ?_
              rw [pk_mul 8 r]
              refine x_iload_n X dX9_isGreat_54 rfl ?_
              refine x_iadd X dX9_isGreat_55 ?_
              rw [nI_add (8 * r) n]
              refine x_laldN X dX9_isGreat_56 rfl (by omega) (by omega) ?_
              refine x_ldc2 X dX9_isGreat_57 wk_X9_225 ?_
              refine x_lcmp X dX9_isGreat_60 ?_
              refine x_iflt (tgt := 82) X dX9_isGreat_61 (by decide) (fun h61 => ?_) (fun h61 => ?_)
              · skip
                rw [lg_cmp_lt] at h61
                have his9 : nI 1 = xB (qG σ r V (n + 1)) := (xB_t (Or.inr ⟨n, by omega, Or.inl h61⟩)).symm
                refine x_iconst (v := nI 1) X dX9_isGreat_82 (by decide) ?_
                refine x_goto (tgt := 87) X dX9_isGreat_83 (by decide) ?_
                refine x_istore_n (lv' := [(2, .int (nI 1)), (3, .int (nI n)), (1, .int (nI r)), (0, .ref (G.2.1 37))]) X dX9_isGreat_87 rfl (by decide) rfl ?_
                refine x_iinc (k := 1) (v := nI (n + 1)) (lv' := [(3, .int (nI (n + 1))), (2, .int (nI 1)), (1, .int (nI r)), (0, .ref (G.2.1 37))]) X dX9_isGreat_88 rfl (xn_inc _) (by decide) rfl ?_
                refine x_goto (tgt := 34) X dX9_isGreat_91 (by decide) ?_
                refine x_pick [0, 1, 2, 3] rfl ?_
                exact ih34 _ (by omega) (n + 1) (by omega) _ his9 rfl
              · skip
                rw [lg_cmp_lt] at h61
                refine x_aload_n X dX9_isGreat_64 rfl ?_
                refine gf_X9_59 (k' := 52) X dX9_isGreat_65 rfl rfl ?_
                refine x_bipush (v := nI 8) X dX9_isGreat_68 (by decide) ?_
                refine x_iload_n X dX9_isGreat_70 rfl ?_
                refine x_imul X dX9_isGreat_71 ?_
                rw [pk_mul 8 r]
                refine x_iload_n X dX9_isGreat_72 rfl ?_
                refine x_iadd X dX9_isGreat_73 ?_
                rw [nI_add (8 * r) n]
                refine x_laldN X dX9_isGreat_74 rfl (by omega) (by omega) ?_
                refine x_ldc2 X dX9_isGreat_75 wk_X9_227 ?_
                refine x_lcmp X dX9_isGreat_78 ?_
                refine x_ifle (tgt := 86) X dX9_isGreat_79 (by decide) (fun h79 => ?_) (fun h79 => ?_)
                · skip
                  rw [lg_cmp_le] at h79
                  have his9 : nI 0 = xB (qG σ r V (n + 1)) := (xB_f (fun z => by rcases z with z | ⟨v, hv, z⟩; exact hq (Or.inl z); by_cases e : v = n; (subst e; rcases z with z | z; exact h61 z; exact xi64_nle.mpr z h79); exact hq (Or.inr ⟨v, by omega, z⟩))).symm
                  refine x_iconst (v := nI 0) X dX9_isGreat_86 (by decide) ?_
                  refine x_istore_n (lv' := [(2, .int (nI 0)), (3, .int (nI n)), (1, .int (nI r)), (0, .ref (G.2.1 37))]) X dX9_isGreat_87 rfl (by decide) rfl ?_
                  refine x_iinc (k := 1) (v := nI (n + 1)) (lv' := [(3, .int (nI (n + 1))), (2, .int (nI 0)), (1, .int (nI r)), (0, .ref (G.2.1 37))]) X dX9_isGreat_88 rfl (xn_inc _) (by decide) rfl ?_
                  refine x_goto (tgt := 34) X dX9_isGreat_91 (by decide) ?_
                  refine x_pick [0, 1, 2, 3] rfl ?_
                  exact ih34 _ (by omega) (n + 1) (by omega) _ his9 rfl
                · skip
                  rw [lg_cmp_le] at h79
                  have his9 : nI 1 = xB (qG σ r V (n + 1)) := (xB_t (Or.inr ⟨n, by omega, Or.inr (xi64_nle.mp h79)⟩)).symm
                  refine x_iconst (v := nI 1) X dX9_isGreat_82 (by decide) ?_
                  refine x_goto (tgt := 87) X dX9_isGreat_83 (by decide) ?_
                  refine x_istore_n (lv' := [(2, .int (nI 1)), (3, .int (nI n)), (1, .int (nI r)), (0, .ref (G.2.1 37))]) X dX9_isGreat_87 rfl (by decide) rfl ?_
                  refine x_iinc (k := 1) (v := nI (n + 1)) (lv' := [(3, .int (nI (n + 1))), (2, .int (nI 1)), (1, .int (nI r)), (0, .ref (G.2.1 37))]) X dX9_isGreat_88 rfl (xn_inc _) (by decide) rfl ?_
                  refine x_goto (tgt := 34) X dX9_isGreat_91 (by decide) ?_
                  refine x_pick [0, 1, 2, 3] rfl ?_
                  exact ih34 _ (by omega) (n + 1) (by omega) _ his9 rfl
      refine x_pick [0, 1, 3, 2] rfl ?_
      exact lp34 _ 0 (by omega) _ his0 rfl
    · skip
      rw [lg_cmp_le] at h23
      have his0 : nI 1 = xB (qG σ r V 0) := (xB_t (Or.inl (Or.inr (xi64_nle.mp h23)))).symm
      refine x_iconst (v := nI 1) X dX9_isGreat_26 (by decide) ?_
      refine x_goto (tgt := 31) X dX9_isGreat_27 (by decide) ?_
      refine x_istore_n (lv' := [(2, .int (nI 1)), (0, .ref (G.2.1 37)), (1, .int (nI r))]) X dX9_isGreat_31 rfl (by decide) rfl ?_
      refine x_iconst (v := nI 0) X dX9_isGreat_32 (by decide) ?_
      refine x_istore_n (lv' := [(3, .int (nI 0)), (2, .int (nI 1)), (0, .ref (G.2.1 37)), (1, .int (nI r))]) X dX9_isGreat_33 rfl (by decide) rfl ?_
      have lp34 : ∀ (NN34 : Nat) (n : Nat) (hn : n ≤ V) (is0 : Int32) (his : is0 = xB (qG σ r V n)), V - n = NN34 → xW pp l ee { frames := 0, cells := 0, slots := 0, locals := 0 } ss mm aa bel met kk 4 G 0 0 (xQ bel G (fun rv_ tv_ => rv_ = some (.int (xB (qG σ r V V))) ∧ tv_ = (σ)) aa ss) 34 [(3, .int (nI n)), (2, .int is0), (1, .int (nI r)), (0, .ref (G.2.1 37))] [] (σ) := by
        intro NN34
        induction NN34 using Nat.strongRecOn with
        | ind NN34 ih34 =>
          intro n hn is0 his hNN34
          refine x_iload_n X dX9_isGreat_34 rfl ?_
          refine x_aload_n X dX9_isGreat_35 rfl ?_
          refine gf_X9_112 X dX9_isGreat_36 rfl ?_
          rw [hV]
          refine x_icmpge (tgt := 94) X dX9_isGreat_39 (by decide) (fun h39 => ?_) (fun h39 => ?_)
          · skip
            rw [xb_ge (x := nI n) (y := nI V) (a := n) (b := V) rfl rfl (by omega) (by omega)] at h39
            obtain rfl : n = V := by omega
            refine x_iload_n X dX9_isGreat_94 rfl ?_
            exact x_zret X dX9_isGreat_95 (his ▸ xB_01 _) (xp_i (by exact his) (by first | rfl | simp [*]))
          · skip
            rw [xb_ge (x := nI n) (y := nI V) (a := n) (b := V) rfl rfl (by omega) (by omega)] at h39
            refine x_iload_n X dX9_isGreat_42 rfl ?_
            refine x_ifne (tgt := 82) X dX9_isGreat_43 (by decide) (fun h43 => ?_) (fun h43 => ?_)
            · skip
              have his9 : nI 1 = xB (qG σ r V (n + 1)) := (xB_t (by have hq : qG σ r V n := Classical.not_not.mp (fun z => h43 (by rw [his, xB_f z])); rcases hq with z | ⟨v, hv, z⟩; exact Or.inl z; exact Or.inr ⟨v, by omega, z⟩)).symm
              refine x_iconst (v := nI 1) X dX9_isGreat_82 (by decide) ?_
              refine x_goto (tgt := 87) X dX9_isGreat_83 (by decide) ?_
              refine x_istore_n (lv' := [(2, .int (nI 1)), (3, .int (nI n)), (1, .int (nI r)), (0, .ref (G.2.1 37))]) X dX9_isGreat_87 rfl (by decide) rfl ?_
              refine x_iinc (k := 1) (v := nI (n + 1)) (lv' := [(3, .int (nI (n + 1))), (2, .int (nI 1)), (1, .int (nI r)), (0, .ref (G.2.1 37))]) X dX9_isGreat_88 rfl (xn_inc _) (by decide) rfl ?_
              refine x_goto (tgt := 34) X dX9_isGreat_91 (by decide) ?_
              refine x_pick [0, 1, 2, 3] rfl ?_
              exact ih34 _ (by omega) (n + 1) (by omega) _ his9 rfl
            · skip
              have hq : ¬ qG σ r V n := xB_0.mp (his ▸ h43)
              refine x_aload_n X dX9_isGreat_46 rfl ?_
              refine gf_X9_59 (k' := 52) X dX9_isGreat_47 rfl rfl ?_
              refine x_bipush (v := nI 8) X dX9_isGreat_50 (by decide) ?_
              refine x_iload_n X dX9_isGreat_52 rfl ?_
              refine x_imul X dX9_isGreat_53 ?_
              rw [pk_mul 8 r]
              refine x_iload_n X dX9_isGreat_54 rfl ?_
              refine x_iadd X dX9_isGreat_55 ?_
              rw [nI_add (8 * r) n]
              refine x_laldN X dX9_isGreat_56 rfl (by omega) (by omega) ?_
              refine x_ldc2 X dX9_isGreat_57 wk_X9_225 ?_
              refine x_lcmp X dX9_isGreat_60 ?_
              refine x_iflt (tgt := 82) X dX9_isGreat_61 (by decide) (fun h61 => ?_) (fun h61 => ?_)
              · skip
                rw [lg_cmp_lt] at h61
                have his9 : nI 1 = xB (qG σ r V (n + 1)) := (xB_t (Or.inr ⟨n, by omega, Or.inl h61⟩)).symm
                refine x_iconst (v := nI 1) X dX9_isGreat_82 (by decide) ?_
                refine x_goto (tgt := 87) X dX9_isGreat_83 (by decide) ?_
                refine x_istore_n (lv' := [(2, .int (nI 1)), (3, .int (nI n)), (1, .int (nI r)), (0, .ref (G.2.1 37))]) X dX9_isGreat_87 rfl (by decide) rfl ?_
                refine x_iinc (k := 1) (v := nI (n + 1)) (lv' := [(3, .int (nI (n + 1))), (2, .int (nI 1)), (1, .int (nI r)), (0, .ref (G.2.1 37))]) X dX9_isGreat_88 rfl (xn_inc _) (by decide) rfl ?_
                refine x_goto (tgt := 34) X dX9_isGreat_91 (by decide) ?_
                refine x_pick [0, 1, 2, 3] rfl ?_
                exact ih34 _ (by omega) (n + 1) (by omega) _ his9 rfl
              · skip
                rw [lg_cmp_lt] at h61
                refine x_aload_n X dX9_isGreat_64 rfl ?_
                refine gf_X9_59 (k' := 52) X dX9_isGreat_65 rfl rfl ?_
                refine x_bipush (v := nI 8) X dX9_isGreat_68 (by decide) ?_
                refine x_iload_n X dX9_isGreat_70 rfl ?_
                refine x_imul X dX9_isGreat_71 ?_
                rw [pk_mul 8 r]
                refine x_iload_n X dX9_isGreat_72 rfl ?_
                refine x_iadd X dX9_isGreat_73 ?_
                rw [nI_add (8 * r) n]
                refine x_laldN X dX9_isGreat_74 rfl (by omega) (by omega) ?_
                refine x_ldc2 X dX9_isGreat_75 wk_X9_227 ?_
                refine x_lcmp X dX9_isGreat_78 ?_
                refine x_ifle (tgt := 86) X dX9_isGreat_79 (by decide) (fun h79 => ?_) (fun h79 => ?_)
                · skip
                  rw [lg_cmp_le] at h79
                  have his9 : nI 0 = xB (qG σ r V (n + 1)) := (xB_f (fun z => by rcases z with z | ⟨v, hv, z⟩; exact hq (Or.inl z); by_cases e : v = n; (subst e; rcases z with z | z; exact h61 z; exact xi64_nle.mpr z h79); exact hq (Or.inr ⟨v, by omega, z⟩))).symm
                  refine x_iconst (v := nI 0) X dX9_isGreat_86 (by decide) ?_
                  refine x_istore_n (lv' := [(2, .int (nI 0)), (3, .int (nI n)), (1, .int (nI r)), (0, .ref (G.2.1 37))]) X dX9_isGreat_87 rfl (by decide) rfl ?_
                  refine x_iinc (k := 1) (v := nI (n + 1)) (lv' := [(3, .int (nI (n + 1))), (2, .int (nI 0)), (1, .int (nI r)), (0, .ref (G.2.1 37))]) X dX9_isGreat_88 rfl (xn_inc _) (by decide) rfl ?_
                  refine x_goto (tgt := 34) X dX9_isGreat_91 (by decide) ?_
                  refine x_pick [0, 1, 2, 3] rfl ?_
                  exact ih34 _ (by omega) (n + 1) (by omega) _ his9 rfl
                · skip
                  rw [lg_cmp_le] at h79
                  have his9 : nI 1 = xB (qG σ r V (n + 1)) := (xB_t (Or.inr ⟨n, by omega, Or.inr (xi64_nle.mp h79)⟩)).symm
                  refine x_iconst (v := nI 1) X dX9_isGreat_82 (by decide) ?_
                  refine x_goto (tgt := 87) X dX9_isGreat_83 (by decide) ?_
                  refine x_istore_n (lv' := [(2, .int (nI 1)), (3, .int (nI n)), (1, .int (nI r)), (0, .ref (G.2.1 37))]) X dX9_isGreat_87 rfl (by decide) rfl ?_
                  refine x_iinc (k := 1) (v := nI (n + 1)) (lv' := [(3, .int (nI (n + 1))), (2, .int (nI 1)), (1, .int (nI r)), (0, .ref (G.2.1 37))]) X dX9_isGreat_88 rfl (xn_inc _) (by decide) rfl ?_
                  refine x_goto (tgt := 34) X dX9_isGreat_91 (by decide) ?_
                  refine x_pick [0, 1, 2, 3] rfl ?_
                  exact ih34 _ (by omega) (n + 1) (by omega) _ his9 rfl
      refine x_pick [0, 1, 3, 2] rfl ?_
      exact lp34 _ 0 (by omega) _ his0 rfl
