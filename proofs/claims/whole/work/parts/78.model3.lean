/-! The reference keeps what the tape tells -/
theorem bV_v {B : xS} {t : Nat → Int32} {z v V : Nat} (hv : v < V) : ∀ k, v < k → xgI (bV B t z k) 39 v = jLo t z V (g1 t z) v ∧ xgI (bV B t z k) 40 v = jHi t z V (g1 t z) v ∧ xgI (bV B t z k) 41 v = jCo t z V (g1 t z) v
  | 0, h => absurd h (by omega)
  | k + 1, h => by
    rw [bV]
    by_cases e : v = k
    · subst e
      unfold jLo jHi jCo
      rw [if_pos hv, if_pos hv, if_pos hv]
      exact ⟨by rw [xgI_n (by omega), xgI_n (by omega), xgI_s], by rw [xgI_n (by omega), xgI_s], by rw [xgI_s]⟩
    · obtain ⟨i1, i2, i3⟩ := bV_v (B := B) (t := t) (z := z) hv k (by omega)
      exact ⟨by rw [xgI_n (by omega), xgI_n (by omega), xgI_n (by omega)]; exact i1, by rw [xgI_n (by omega), xgI_n (by omega), xgI_n (by omega)]; exact i2, by rw [xgI_n (by omega), xgI_n (by omega), xgI_n (by omega)]; exact i3⟩
theorem bF_v {B : xS} {t : Nat → Int32} {z k v V : Nat} {s : Nat × Bool} (hv : v < V) : ∀ i, v < i → xgI (bF B t z k s i) 42 (8 * k + v) = jFa t z V s v
  | 0, h => absurd h (by omega)
  | i + 1, h => by
    rw [bF]
    by_cases e : v = i
    · subst e
      unfold jFa
      rw [if_pos hv, xgI_s]
    · rw [xgI_n (by omega)]
      exact bF_v hv i (by omega)
theorem bF_u {B : xS} {t : Nat → Int32} {z k x : Nat} {s : Nat × Bool} : ∀ i, (x < 8 * k ∨ 8 * k + i ≤ x) → xgI (bF B t z k s i) 42 x = xgI B 42 x
  | 0, _ => rfl
  | i + 1, h => by rw [bF, xgI_n (by omega), bF_u i (by omega)]
theorem bR_v {B : xS} {t : Nat → Int32} {z V r : Nat} {s0 : Nat × Bool} (hV : V ≤ 8) : ∀ k, r < k → (∀ v, v < V → xgI (bR B t z V s0 k) 42 (8 * r + v) = jFa t z V (aIt (rS t z V) r s0) v) ∧ xgI (bR B t z V s0 k) 43 r = jRr t z V (aIt (rS t z V) r s0)
  | 0, h => absurd h (by omega)
  | k + 1, h => by
    rw [bR]
    by_cases e : r = k
    · subst e
      refine ⟨fun v hv => ?_, by rw [xgI_s]; rfl⟩
      rw [xgI_n (by omega)]
      exact bF_v hv V hv
    · obtain ⟨i1, i2⟩ := bR_v (B := B) (t := t) (z := z) (r := r) (s0 := s0) hV k (by omega)
      refine ⟨fun v hv => ?_, ?_⟩
      · rw [xgI_n (by omega), bF_u V (by omega)]; exact i1 v hv
      · rw [xgI_n (by omega), bF_o _ (by omega)]; exact i2
theorem bP_v {B : xS} {t : Nat → Int32} {z k i : Nat} {s : Nat × Bool} : ∀ n, i < n → xgI (bP B t z k s n) 47 (20 * k + i) = jP1 t z s i ∧ xgI (bP B t z k s n) 48 (20 * k + i) = jP2 t z s i
  | 0, h => absurd h (by omega)
  | n + 1, h => by
    rw [bP]
    by_cases e : i = n
    · subst e
      exact ⟨by rw [xgI_n (by omega), xgI_s]; rfl, by rw [xgI_s]; rfl⟩
    · obtain ⟨i1, i2⟩ := bP_v (B := B) (t := t) (z := z) (k := k) (i := i) (s := s) n (by omega)
      exact ⟨by rw [xgI_n (by omega), xgI_n (by omega)]; exact i1, by rw [xgI_n (by omega), xgI_n (by omega)]; exact i2⟩
theorem bP_u {B : xS} {t : Nat → Int32} {z k x : Nat} {s : Nat × Bool} : ∀ n, (x < 20 * k ∨ 20 * k + n ≤ x) → xgI (bP B t z k s n) 47 x = xgI B 47 x ∧ xgI (bP B t z k s n) 48 x = xgI B 48 x
  | 0, _ => ⟨rfl, rfl⟩
  | n + 1, h => by
    obtain ⟨i1, i2⟩ := bP_u (B := B) (t := t) (z := z) (k := k) (s := s) (x := x) n (by omega)
    rw [bP]
    exact ⟨by rw [xgI_n (by omega), xgI_n (by omega)]; exact i1, by rw [xgI_n (by omega), xgI_n (by omega)]; exact i2⟩
theorem bT_v {B : xS} {t : Nat → Int32} {z V q : Nat} {s0 : Nat × Bool} : ∀ k, q < k → xgI (bT B t z V s0 k) 44 q = tA t z V (aIt (tS t z V) q s0) ∧ xgI (bT B t z V s0 k) 45 q = tB t z V (aIt (tS t z V) q s0) ∧ xgI (bT B t z V s0 k) 46 q = nI (tN t z V (aIt (tS t z V) q s0)) ∧ ∀ i, i < tN t z V (aIt (tS t z V) q s0) → xgI (bT B t z V s0 k) 47 (20 * q + i) = jP1 t z (tD t z V (aIt (tS t z V) q s0)) i ∧ xgI (bT B t z V s0 k) 48 (20 * q + i) = jP2 t z (tD t z V (aIt (tS t z V) q s0)) i
  | 0, h => absurd h (by omega)
  | k + 1, h => by
    rw [bT_s]
    by_cases e : q = k
    · subst e
      refine ⟨?_, ?_, ?_, fun i hi => bP_v _ hi⟩
      · rw [bP_o _ (by omega), xgI_n (by omega), xgI_n (by omega), xgI_s]
      · rw [bP_o _ (by omega), xgI_n (by omega), xgI_s]
      · rw [bP_o _ (by omega), xgI_s]
    · obtain ⟨i1, i2, i3, i4⟩ := bT_v (B := B) (t := t) (z := z) (V := V) (q := q) (s0 := s0) k (by omega)
      refine ⟨?_, ?_, ?_, fun i hi => ?_⟩
      · rw [bP_o _ (by omega), xgI_n (by omega), xgI_n (by omega), xgI_n (by omega)]; exact i1
      · rw [bP_o _ (by omega), xgI_n (by omega), xgI_n (by omega), xgI_n (by omega)]; exact i2
      · rw [bP_o _ (by omega), xgI_n (by omega), xgI_n (by omega), xgI_n (by omega)]; exact i3
      · have h20 := (tN_n t z V (aIt (tS t z V) q s0)).2.2
        obtain ⟨u1, u2⟩ := bP_u (B := xsI (xsI (xsI (bT B t z V s0 k) 44 k (tA t z V (aIt (tS t z V) k s0))) 45 k (tB t z V (aIt (tS t z V) k s0))) 46 k (nI (tN t z V (aIt (tS t z V) k s0)))) (t := t) (z := z) (k := k) (s := tD t z V (aIt (tS t z V) k s0)) (x := 20 * q + i) (tN t z V (aIt (tS t z V) k s0)) (by omega)
        rw [u1, u2, xgI_n (by omega), xgI_n (by omega), xgI_n (by omega), xgI_n (by omega), xgI_n (by omega), xgI_n (by omega)]
        exact i4 i hi
theorem bV_2 {B : xS} {t : Nat → Int32} {z : Nat} : ∀ k, (bV B t z k).2 = B.2
  | 0 => rfl
  | k + 1 => by rw [bV, xsI_22, xsI_22, xsI_22, bV_2 k]
theorem bF_2 {B : xS} {t : Nat → Int32} {z k : Nat} {s : Nat × Bool} : ∀ i, (bF B t z k s i).2 = B.2
  | 0 => rfl
  | i + 1 => by rw [bF, xsI_22, bF_2 i]
theorem bR_2 {B : xS} {t : Nat → Int32} {z V : Nat} {s0 : Nat × Bool} : ∀ k, (bR B t z V s0 k).2 = B.2
  | 0 => rfl
  | k + 1 => by rw [bR, xsI_22, bF_2, bR_2 k]
theorem bP_2 {B : xS} {t : Nat → Int32} {z k : Nat} {s : Nat × Bool} : ∀ i, (bP B t z k s i).2 = B.2
  | 0 => rfl
  | i + 1 => by rw [bP, xsI_22, xsI_22, bP_2 i]
theorem bT_2 {B : xS} {t : Nat → Int32} {z V : Nat} {s0 : Nat × Bool} : ∀ k, (bT B t z V s0 k).2 = B.2
  | 0 => rfl
  | k + 1 => by rw [bT_s, bP_2, xsI_22, xsI_22, xsI_22, bT_2 k]
theorem qR_22 {B : xS} {s : Nat × Bool} : (qR B s).2 = B.2 := by unfold qR; rw [xsI_22, xsI_22]
theorem qM3_2 {σ : xS} {t : Nat → Int32} {z : Nat} : (qM3 σ t z).2 = σ.2 := by
  unfold qM3 qMo qM2 qM1
  rw [qR_22, xsI_22, xsI_22, xsI_22, bT_2, bR_2, bV_2, xsI_22, qR_22, xsI_22, xsI_22]
theorem oKr_2 {σ τ : xS} (hI : ∀ a b, a < 37 ∨ 60 ≤ a → xgI τ a b = xgI σ a b) (h2 : τ.2 = σ.2) : oKr σ τ := ⟨hI, fun a b _ => by unfold xgL; rw [h2], by unfold xgC; rw [h2], by unfold xgD; rw [h2]⟩
theorem o_modelR {l : Launch} {G : xG} {σ : xS} {D : oMd} {C : oCt} {z : Nat} {t : Nat → Int32} {g : Int32} (hw : oIw D C z) (h : oIr D C z t g σ) : xM l G yX9_model cX9_model 2 (Option.some Jvm.ClassFile.FieldType.int) 3 74 [.ref (G.2.1 37)] σ (oAr (oMD D t z) (oMC C t z) 0 t (oMg g t z) σ (oMa t z)) := by
  have hz := hw.2.2
  have ht : xgI σ 38 = t := funext h.1.2
  unfold oMD oMC oMg oMa
  by_cases c : (g7 t z).2 = true
  · rw [if_pos c, if_pos c, if_pos c, if_pos c]
    refine xM.mono (c_X9_modelN ht h.1.1 hz c) (fun r u e => ?_)
    rw [e.2]
    have kI : ∀ a b, ¬ (a = 37 ∧ (b = 0 ∨ b = 2 ∨ b = 37 ∨ b = 38 ∨ b = 39)) → xgI (xsI (qR (qM1 σ) (g7 t z)) 37 2 0) a b = xgI σ a b := fun a b x => by
      rw [xgI_n (by omega), qR_o (by omega) (by omega)]
      unfold qM1
      rw [xgI_n (by omega), xgI_n (by omega)]
    have k2 : (xsI (qR (qM1 σ) (g7 t z)) 37 2 0).2 = σ.2 := by
      unfold qM1
      rw [xsI_22, qR_22, xsI_22, xsI_22]
    exact ⟨e.1, oIr_t h (fun a b hab => kI a b (by omega)) (fun a b _ _ => by unfold xgL; rw [k2]) (by rw [xgI_s]; rfl) (fun i => (kI _ _ (by omega)).trans (h.1.2 i)), oKr_2 (fun a b hab => kI a b (by omega)) k2⟩
  · rw [if_neg c, if_neg c, if_neg c, if_neg c]
    obtain ⟨gv, gv1, gv8⟩ := gV_n t z
    refine xM.mono (c_X9_model ht h.1.1 hz c) (fun r u e => ?_)
    rw [e.2]
    have kI : ∀ a b, ¬ (a = 37 ∧ 19 ≤ b ∧ b ≤ 27) → ¬ (a = 37 ∧ (b = 2 ∨ b = 16 ∨ b = 17)) → xgI (qForget (xsI (xsI (xsI (qM3 σ t z) 37 16 (aDig t z)) 37 2 0) 37 17 0)) a b = xgI (qM3 σ t z) a b := fun a b x1 x2 => by
      rw [qForget_u.1 a b x1, xgI_n (by omega), xgI_n (by omega), xgI_n (by omega)]
    have k3 : ∀ a b, ¬ (a = 37 ∧ (b = 37 ∨ b = 38 ∨ b = 3 ∨ b = 7 ∨ b = 10)) → xgI (qM3 σ t z) a b = xgI (bT (bR (bV (qM2 σ t z) t z (gV t z)) t z (gV t z) (g3 t z) (gN t z)) t z (gV t z) (g5 t z) (gM t z)) a b := fun a b x => by
      unfold qM3 qMo
      rw [qR_o (by omega) (by omega), xgI_n (by omega), xgI_n (by omega), xgI_n (by omega)]
    have k38 : ∀ i, xgI (qM3 σ t z) 38 i = t i := fun i => by
      unfold qM3
      rw [qMo_o (by omega)]
      unfold qM2 qM1
      rw [xgI_n (by omega), qR_o (by omega) (by omega), xgI_n (by omega), xgI_n (by omega)]
      exact h.1.2 i
    have k2 : (qForget (xsI (xsI (xsI (qM3 σ t z) 37 16 (aDig t z)) 37 2 0) 37 17 0)).2 = σ.2 := by
      rw [qForget_u.2, xsI_22, xsI_22, xsI_22, qM3_2]
    refine ⟨e.1, ⟨⟨?_, fun i => (kI _ _ (by omega) (by omega)).trans (k38 i)⟩, ⟨⟨?_, ?_, ?_, ?_⟩, fun v hv => ?_, fun r hr => ?_, fun q hq => ?_, ?_, fun p hp => absurd hp (by show ¬ p < 0; omega)⟩, oNew_r2, rfl⟩, oKr_2 (fun a b hab => ?_) k2⟩
    · rw [qForget_u.1 _ _ (by omega), xgI_n (by omega), xgI_s]; rfl
    · rw [kI _ _ (by omega) (by omega)]
      unfold qM3 qMo
      rw [qR_o (by omega) (by omega), xgI_n (by omega), xgI_n (by omega), xgI_s]; rfl
    · rw [kI _ _ (by omega) (by omega)]
      unfold qM3 qMo
      rw [qR_o (by omega) (by omega), xgI_n (by omega), xgI_s]; rfl
    · rw [kI _ _ (by omega) (by omega)]
      unfold qM3 qMo
      rw [qR_o (by omega) (by omega), xgI_s]; rfl
    · rw [qForget_u.1 _ _ (by omega), xgI_n (by omega), xgI_n (by omega), xgI_s]; rfl
    · have hv : v < gV t z := hv
      have key := bV_v (B := qM2 σ t z) (t := t) (z := z) hv (gV t z) hv
      rw [kI _ _ (by omega) (by omega), kI _ _ (by omega) (by omega), kI _ _ (by omega) (by omega), k3 _ _ (by omega), k3 _ _ (by omega), k3 _ _ (by omega), bT_o _ (by omega), bT_o _ (by omega), bT_o _ (by omega), bR_o _ (by omega), bR_o _ (by omega), bR_o _ (by omega)]
      exact key
    · have hr : r < gN t z := hr
      obtain ⟨y1, y2⟩ := bR_v (B := bV (qM2 σ t z) t z (gV t z)) (t := t) (z := z) (s0 := g3 t z) gv8 (gN t z) hr
      refine ⟨fun v hv => ?_, ?_⟩
      · rw [kI _ _ (by omega) (by omega), k3 _ _ (by omega), bT_o _ (by omega)]; exact y1 v hv
      · rw [kI _ _ (by omega) (by omega), k3 _ _ (by omega), bT_o _ (by omega)]; exact y2
    · have hq : q < gM t z := hq
      obtain ⟨y1, y2, y3, y4⟩ := bT_v (B := bR (bV (qM2 σ t z) t z (gV t z)) t z (gV t z) (g3 t z) (gN t z)) (t := t) (z := z) (V := gV t z) (s0 := g5 t z) (gM t z) hq
      obtain ⟨s1, s2⟩ := tS_ok c hq
      obtain ⟨j1, j2, j3, j4⟩ := jAB gv1 gv8 s2
      refine ⟨?_, ?_, ?_, fun i hi => ⟨?_, ?_⟩⟩
      · rw [kI _ _ (by omega) (by omega), k3 _ _ (by omega), y1]; exact j1
      · rw [kI _ _ (by omega) (by omega), k3 _ _ (by omega), y2]; exact j3
      · rw [kI _ _ (by omega) (by omega), k3 _ _ (by omega)]; exact y3
      · rw [kI _ _ (by omega) (by omega), k3 _ _ (by omega)]; exact (y4 i hi).1
      · rw [kI _ _ (by omega) (by omega), k3 _ _ (by omega)]; exact (y4 i hi).2
    · rw [qForget_u.1 _ _ (by omega), xgI_s]; rfl
    · rw [kI _ _ (by omega) (by omega)]
      unfold qM3
      rw [qMo_o (by omega)]
      unfold qM2 qM1
      rw [xgI_n (by omega), qR_o (by omega) (by omega), xgI_n (by omega), xgI_n (by omega)]
