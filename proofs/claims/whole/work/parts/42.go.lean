/-! The reference: reading a model -/
def aNx (t : Nat → Int32) (z : Nat) (s : Nat × Bool) (a b : Int32) : Int32 × Nat × Bool := if s.2 = true then (a, s) else if z ≤ s.1 then (a, s.1, true) else if xIn (t s.1) a b = 0 then (a, s.1, true) else (t s.1, s.1 + 1, false)
theorem aNx_b {t : Nat → Int32} {z : Nat} {s : Nat × Bool} {a b : Int32} (h : s.2 = true) : aNx t z s a b = (a, s) := by unfold aNx; rw [if_pos h]
theorem aNx_v {t : Nat → Int32} {z : Nat} {s : Nat × Bool} {a b : Int32} (h : a ≤ b) : a ≤ (aNx t z s a b).1 ∧ (aNx t z s a b).1 ≤ b := by
  unfold aNx
  split
  · exact ⟨Int32.le_refl a, h⟩
  · split
    · exact ⟨Int32.le_refl a, h⟩
    · split
      · exact ⟨Int32.le_refl a, h⟩
      · rename_i h3
        show a ≤ t s.1 ∧ t s.1 ≤ b
        unfold xIn at h3
        by_cases g1 : t s.1 < a
        · rw [if_pos g1] at h3; exact absurd rfl h3
        · rw [if_neg g1] at h3
          by_cases g2 : b < t s.1
          · rw [if_pos g2] at h3; exact absurd rfl h3
          · exact ⟨Int32.not_lt.mp g1, Int32.not_lt.mp g2⟩
theorem nI_rng {x : Int32} {a b : Nat} (h1 : nI a ≤ x) (h2 : x ≤ nI b) (hb : b + 1 < 2 ^ 31) (hab : a ≤ b) : x = nI x.toNatClampNeg ∧ a ≤ x.toNatClampNeg ∧ x.toNatClampNeg ≤ b := by
  rcases pk_ix x (n := b + 1) (by omega) with h | h | ⟨j, hj, rfl⟩
  · exfalso
    rw [Int32.le_iff_toInt_le, nI_toInt (by omega)] at h1
    rw [Int32.lt_iff_toInt_lt] at h
    have e : (0 : Int32).toInt = 0 := by decide
    omega
  · exfalso
    by_cases hb2 : b + 1 < 2 ^ 31
    · rw [Int32.le_iff_toInt_le, nI_toInt (by omega)] at h2
      rw [Int32.le_iff_toInt_le, nI_toInt hb2] at h
      omega
    · omega
  · rw [nI_clamp (by omega)]
    rw [nI_leI (by omega) (by omega)] at h1
    exact ⟨rfl, h1, by omega⟩
/-- how far the reader got: q numbers, and whether it stopped -/
def aNq {t : Nat → Int32} {z : Nat} {s : Nat × Bool} {a b : Int32} (h : s.1 ≤ z) : (aNx t z s a b).2.1 ≤ z := by
  unfold aNx
  split
  · exact h
  · split
    · exact h
    · split
      · exact h
      · show s.1 + 1 ≤ z; omega
abbrev nx (t : Nat → Int32) (z : Nat) (s : Nat × Bool) (a b : Int32) : Nat × Bool := (aNx t z s a b).2
abbrev nv (t : Nat → Int32) (z : Nat) (s : Nat × Bool) (a b : Int32) : Int32 := (aNx t z s a b).1
def aIt (f : Nat × Bool → Nat × Bool) : Nat → Nat × Bool → Nat × Bool
  | 0, s => s
  | n + 1, s => f (aIt f n s)
theorem aIt_add {f : Nat × Bool → Nat × Bool} {s : Nat × Bool} {k : Nat} (hf : ∀ s, s.2 = true → f s = s) (h : (aIt f k s).2 = true) : ∀ d, aIt f (k + d) s = aIt f k s
  | 0 => rfl
  | d + 1 => by
    show f (aIt f (k + d) s) = _
    rw [aIt_add hf h d]
    exact hf _ h
theorem aIt_le {f : Nat × Bool → Nat × Bool} {s : Nat × Bool} {z : Nat} (hf : ∀ s : Nat × Bool, s.1 ≤ z → (f s).1 ≤ z) (h : s.1 ≤ z) : ∀ d, (aIt f d s).1 ≤ z
  | 0 => h
  | d + 1 => hf _ (aIt_le hf h d)
def vS (t : Nat → Int32) (z : Nat) (s : Nat × Bool) : Nat × Bool := nx t z (nx t z (nx t z s (-1000) 1000) (nv t z s (-1000) 1000) 1000) (-100) 100
theorem nx_b {t : Nat → Int32} {z : Nat} {s : Nat × Bool} {a b : Int32} (h : s.2 = true) : nx t z s a b = s := by unfold nx; rw [aNx_b h]
theorem vS_b {t : Nat → Int32} {z : Nat} (s : Nat × Bool) (h : s.2 = true) : vS t z s = s := by
  unfold vS
  rw [nx_b h, nx_b h, nx_b h]
theorem vS_q {t : Nat → Int32} {z : Nat} (s : Nat × Bool) (h : s.1 ≤ z) : (vS t z s).1 ≤ z := aNq (aNq (aNq h))
def fS (t : Nat → Int32) (z : Nat) (s : Nat × Bool) : Nat × Bool := nx t z s (-100) 100
theorem fS_b {t : Nat → Int32} {z : Nat} (s : Nat × Bool) (h : s.2 = true) : fS t z s = s := nx_b h
theorem fS_q {t : Nat → Int32} {z : Nat} (s : Nat × Bool) (h : s.1 ≤ z) : (fS t z s).1 ≤ z := aNq h
theorem aIt_b {f : Nat × Bool → Nat × Bool} {s : Nat × Bool} (hf : ∀ s, s.2 = true → f s = s) (h : s.2 = true) : ∀ d, aIt f d s = s
  | 0 => rfl
  | d + 1 => by show f (aIt f d s) = s; rw [aIt_b hf h d]; exact hf s h
def rS (t : Nat → Int32) (z V : Nat) (s : Nat × Bool) : Nat × Bool := nx t z (aIt (fS t z) V s) (-100000) 100000
theorem rS_b {t : Nat → Int32} {z V : Nat} (s : Nat × Bool) (h : s.2 = true) : rS t z V s = s := by
  unfold rS
  rw [aIt_b fS_b h, nx_b h]
theorem rS_q {t : Nat → Int32} {z V : Nat} (s : Nat × Bool) (h : s.1 ≤ z) : (rS t z V s).1 ≤ z := aNq (aIt_le fS_q h V)
/-- the two variables of a table: the reader behind them -/
def tP (t : Nat → Int32) (z V : Nat) (s : Nat × Bool) : Nat × Bool := nx t z (nx t z s 0 (nI V - nI 1)) 0 (nI V - nI 1)
def tA (t : Nat → Int32) (z V : Nat) (s : Nat × Bool) : Int32 := nv t z s 0 (nI V - nI 1)
def tB (t : Nat → Int32) (z V : Nat) (s : Nat × Bool) : Int32 := nv t z (nx t z s 0 (nI V - nI 1)) 0 (nI V - nI 1)
def tC (t : Nat → Int32) (z V : Nat) (s : Nat × Bool) : Nat × Bool := if (tP t z V s).2 = true then tP t z V s else if tA t z V s = tB t z V s then ((tP t z V s).1 - 1, true) else tP t z V s
def tN (t : Nat → Int32) (z V : Nat) (s : Nat × Bool) : Nat := (nv t z (tC t z V s) 1 20).toNatClampNeg
def pS (t : Nat → Int32) (z : Nat) (s : Nat × Bool) : Nat × Bool := nx t z (nx t z s (-1000) 1000) (-1000) 1000
theorem pS_b {t : Nat → Int32} {z : Nat} (s : Nat × Bool) (h : s.2 = true) : pS t z s = s := by
  unfold pS
  rw [nx_b h, nx_b h]
theorem pS_q {t : Nat → Int32} {z : Nat} (s : Nat × Bool) (h : s.1 ≤ z) : (pS t z s).1 ≤ z := aNq (aNq h)
def tD (t : Nat → Int32) (z V : Nat) (s : Nat × Bool) : Nat × Bool := nx t z (tC t z V s) 1 20
def tS (t : Nat → Int32) (z V : Nat) (s : Nat × Bool) : Nat × Bool := aIt (pS t z) (tN t z V s) (tD t z V s)
theorem tC_b {t : Nat → Int32} {z V : Nat} (s : Nat × Bool) (h : s.2 = true) : tC t z V s = s := by
  have e : tP t z V s = s := by unfold tP; rw [nx_b h, nx_b h]
  unfold tC
  rw [e, if_pos h]
theorem tS_b {t : Nat → Int32} {z V : Nat} (s : Nat × Bool) (h : s.2 = true) : tS t z V s = s := by
  unfold tS tD
  rw [tC_b s h, nx_b h, aIt_b pS_b h]
theorem tC_q {t : Nat → Int32} {z V : Nat} (s : Nat × Bool) (h : s.1 ≤ z) : (tC t z V s).1 ≤ z := by
  have e : (tP t z V s).1 ≤ z := aNq (aNq h)
  unfold tC
  split
  · exact e
  · split
    · show (tP t z V s).1 - 1 ≤ z; omega
    · exact e
theorem tS_q {t : Nat → Int32} {z V : Nat} (s : Nat × Bool) (h : s.1 ≤ z) : (tS t z V s).1 ≤ z := aIt_le pS_q (aNq (tC_q s h)) _
def gV (t : Nat → Int32) (z : Nat) : Nat := (nv t z (0, false) 1 8).toNatClampNeg
def g1 (t : Nat → Int32) (z : Nat) : Nat × Bool := nx t z (0, false) 1 8
def g2 (t : Nat → Int32) (z : Nat) : Nat × Bool := aIt (vS t z) (gV t z) (g1 t z)
def gN (t : Nat → Int32) (z : Nat) : Nat := (nv t z (g2 t z) 0 20).toNatClampNeg
def g3 (t : Nat → Int32) (z : Nat) : Nat × Bool := nx t z (g2 t z) 0 20
def g4 (t : Nat → Int32) (z : Nat) : Nat × Bool := aIt (rS t z (gV t z)) (gN t z) (g3 t z)
def gM (t : Nat → Int32) (z : Nat) : Nat := (nv t z (g4 t z) 0 4).toNatClampNeg
def g5 (t : Nat → Int32) (z : Nat) : Nat × Bool := nx t z (g4 t z) 0 4
def g6 (t : Nat → Int32) (z : Nat) : Nat × Bool := aIt (tS t z (gV t z)) (gM t z) (g5 t z)
def g7 (t : Nat → Int32) (z : Nat) : Nat × Bool := if (g6 t z).2 = true then g6 t z else if z ≤ (g6 t z).1 then g6 t z else ((g6 t z).1, true)
theorem gV_n (t : Nat → Int32) (z : Nat) : nv t z (0, false) 1 8 = nI (gV t z) ∧ 1 ≤ gV t z ∧ gV t z ≤ 8 := nI_rng (a := 1) (b := 8) (aNx_v (a := 1) (b := 8) (by decide)).1 (aNx_v (a := 1) (b := 8) (by decide)).2 (by omega) (by omega)
theorem gN_n (t : Nat → Int32) (z : Nat) : nv t z (g2 t z) 0 20 = nI (gN t z) ∧ 0 ≤ gN t z ∧ gN t z ≤ 20 := nI_rng (a := 0) (b := 20) (aNx_v (a := 0) (b := 20) (by decide)).1 (aNx_v (a := 0) (b := 20) (by decide)).2 (by omega) (by omega)
theorem gM_n (t : Nat → Int32) (z : Nat) : nv t z (g4 t z) 0 4 = nI (gM t z) ∧ 0 ≤ gM t z ∧ gM t z ≤ 4 := nI_rng (a := 0) (b := 4) (aNx_v (a := 0) (b := 4) (by decide)).1 (aNx_v (a := 0) (b := 4) (by decide)).2 (by omega) (by omega)
theorem tN_n (t : Nat → Int32) (z V : Nat) (s : Nat × Bool) : nv t z (tC t z V s) 1 20 = nI (tN t z V s) ∧ 1 ≤ tN t z V s ∧ tN t z V s ≤ 20 := nI_rng (a := 1) (b := 20) (aNx_v (a := 1) (b := 20) (by decide)).1 (aNx_v (a := 1) (b := 20) (by decide)).2 (by omega) (by omega)
/-- the reference with its reader at s -/
def qR (B : xS) (s : Nat × Bool) : xS := xsI (xsI B 37 37 (nI s.1)) 37 38 (if s.2 = true then 1 else 0)
theorem qR_q {B : xS} {s : Nat × Bool} : xgI (qR B s) 37 37 = nI s.1 := by unfold qR; rw [xgI_n (by omega), xgI_s]
theorem qR_b {B : xS} {s : Nat × Bool} : xgI (qR B s) 37 38 = if s.2 = true then 1 else 0 := xgI_s _ _ _ _
theorem qR_o {B : xS} {s : Nat × Bool} {a b : Nat} (h : ¬ (a = 37 ∧ b = 37)) (h2 : ¬ (a = 37 ∧ b = 38)) : xgI (qR B s) a b = xgI B a b := by unfold qR; rw [xgI_n h2, xgI_n h]
theorem qR_w {B : xS} {s : Nat × Bool} {k j : Nat} {v : Int32} (h : k ≠ 37) : xsI (qR B s) k j v = qR (xsI B k j v) s := by
  unfold qR xsI
  refine Prod.ext ?_ rfl
  funext a b
  show (if a = k ∧ b = j then v else if a = 37 ∧ b = 38 then _ else if a = 37 ∧ b = 37 then _ else B.1 a b) = (if a = 37 ∧ b = 38 then _ else if a = 37 ∧ b = 37 then _ else if a = k ∧ b = j then v else B.1 a b)
  by_cases e : a = k ∧ b = j
  · rw [if_pos e, if_neg (by omega), if_neg (by omega), if_pos e]
  · rw [if_neg e, if_neg e]
theorem qR_v {B : xS} {s : Nat × Bool} {j : Nat} {v : Int32} (h : j ≠ 37) (h2 : j ≠ 38) : xsI (qR B s) 37 j v = qR (xsI B 37 j v) s := by
  unfold qR xsI
  refine Prod.ext ?_ rfl
  funext a b
  show (if a = 37 ∧ b = j then v else if a = 37 ∧ b = 38 then _ else if a = 37 ∧ b = 37 then _ else B.1 a b) = (if a = 37 ∧ b = 38 then _ else if a = 37 ∧ b = 37 then _ else if a = 37 ∧ b = j then v else B.1 a b)
  by_cases e : a = 37 ∧ b = j
  · rw [if_pos e, if_neg (by omega), if_neg (by omega), if_pos e]
  · rw [if_neg e, if_neg e]
theorem qR_e1 {B : xS} {s : Nat × Bool} {q : Nat} : xsI (qR B s) 37 37 (nI q) = qR B (q, s.2) := by
  unfold qR xsI
  refine Prod.ext ?_ rfl
  funext a b
  show (if a = 37 ∧ b = 37 then _ else if a = 37 ∧ b = 38 then _ else if a = 37 ∧ b = 37 then _ else B.1 a b) = (if a = 37 ∧ b = 38 then _ else if a = 37 ∧ b = 37 then _ else B.1 a b)
  by_cases e : a = 37 ∧ b = 37
  · rw [if_pos e, if_neg (by omega), if_pos e]
  · rw [if_neg e, if_neg e, if_neg e]
theorem qR_e2 {B : xS} {s : Nat × Bool} : xsI (qR B s) 37 38 1 = qR B (s.1, true) := by
  unfold qR xsI
  refine Prod.ext ?_ rfl
  funext a b
  show (if a = 37 ∧ b = 38 then _ else if a = 37 ∧ b = 38 then _ else if a = 37 ∧ b = 37 then _ else B.1 a b) = (if a = 37 ∧ b = 38 then _ else if a = 37 ∧ b = 37 then _ else B.1 a b)
  by_cases e : a = 37 ∧ b = 38
  · rw [if_pos e, if_pos e]; rfl
  · rw [if_neg e, if_neg e, if_neg e]
theorem qR_0 {B : xS} : xsI (xsI B 37 37 0) 37 38 0 = qR B (0, false) := rfl
theorem qR_t {B : xS} {s : Nat × Bool} (h : ¬ xgI (qR B s) 37 38 = 0) : s.2 = true := by
  rw [qR_b] at h
  by_cases e : s.2 = true
  · exact e
  · rw [if_neg e] at h; exact absurd rfl h
theorem qR_f {B : xS} {s : Nat × Bool} (h : xgI (qR B s) 37 38 = 0) : ¬ s.2 = true := fun e => by
  rw [qR_b, if_pos e] at h
  exact absurd h (by decide)
theorem qNext_R {B : xS} {s : Nat × Bool} {z : Nat} {a b : Int32} : qNext (qR B s) s.1 z a b = (nv (xgI B 38) z s a b, qR B (nx (xgI B 38) z s a b)) := by
  unfold qNext nv nx aNx
  rw [qR_b, qR_o (by omega) (by omega)]
  by_cases h : s.2 = true
  · rw [if_pos h, if_neg (by decide), if_pos h]
  · rw [if_neg h, if_pos rfl, if_neg h]
    by_cases h2 : z ≤ s.1
    · rw [if_pos h2, if_pos h2, qR_e2]
    · rw [if_neg h2, if_neg h2]
      by_cases h3 : xIn (xgI B 38 s.1) a b = 0
      · rw [if_pos h3, if_pos h3, qR_e2]
      · rw [if_neg h3, if_neg h3, qR_e1, show s.2 = false from by simpa using h]

set_option maxHeartbeats 4000000 in
theorem c_X9_nextR {l : Launch} {G : xG} {B : xS} {s : Nat × Bool} {z : Nat} {t : Nat → Int32} {a b : Int32} (ht : xgI B 38 = t) (hs : s.1 ≤ z) (hz : xgI B 37 2 = nI z) (hz2 : z ≤ 1000) : xFi l G yX9_next cX9_next 3 (Option.some Jvm.ClassFile.FieldType.int) 1 22 [.ref (G.2.1 37), .int a, .int b] (qR B s) (nv t z s a b) (qR B (nx t z s a b)) := by
  have h := c_X9_next (l := l) (G := G) (σ := qR B s) (q := s.1) (z := z) (a := a) (b := b) qR_q (by omega) ((qR_o (by omega) (by omega)).trans hz) hz2
  rw [qNext_R, ht] at h
  exact h
theorem g1_q (t : Nat → Int32) (z : Nat) : (g1 t z).1 ≤ z := aNq (Nat.zero_le z)
theorem g2_q (t : Nat → Int32) (z : Nat) : (g2 t z).1 ≤ z := aIt_le vS_q (g1_q t z) _
theorem g3_q (t : Nat → Int32) (z : Nat) : (g3 t z).1 ≤ z := aNq (g2_q t z)
theorem g4_q (t : Nat → Int32) (z : Nat) : (g4 t z).1 ≤ z := aIt_le rS_q (g3_q t z) _
theorem g5_q (t : Nat → Int32) (z : Nat) : (g5 t z).1 ≤ z := aNq (g4_q t z)
theorem g6_q (t : Nat → Int32) (z : Nat) : (g6 t z).1 ≤ z := aIt_le tS_q (g5_q t z) _
theorem aIt_n {f : Nat × Bool → Nat × Bool} {s : Nat × Bool} {k n : Nat} (hf : ∀ s, s.2 = true → f s = s) (h : ¬ (aIt f n s).2 = true) (hk : k ≤ n) : ¬ (aIt f k s).2 = true := fun e => h (by
  have z := aIt_add hf e (n - k)
  rw [show k + (n - k) = n by omega] at z
  rw [z]
  exact e)
theorem aIt_e {f : Nat × Bool → Nat × Bool} {s : Nat × Bool} {k n : Nat} (hf : ∀ s, s.2 = true → f s = s) (e : (aIt f k s).2 = true) (hk : k ≤ n) : aIt f k s = aIt f n s := by
  have z := aIt_add hf e (n - k)
  rw [show k + (n - k) = n by omega] at z
  exact z.symm
theorem nx_nb {t : Nat → Int32} {z : Nat} {s : Nat × Bool} {a b : Int32} (h : ¬ (nx t z s a b).2 = true) : ¬ s.2 = true := fun e => h (by rw [nx_b e]; exact e)
theorem nx_1 {t : Nat → Int32} {z : Nat} {s : Nat × Bool} {a b : Int32} (h : ¬ (nx t z s a b).2 = true) : (nx t z s a b).1 = s.1 + 1 ∧ nv t z s a b = t s.1 ∧ s.1 < z ∧ ¬ xIn (t s.1) a b = 0 := by
  revert h
  unfold nx nv aNx
  by_cases h1 : s.2 = true
  · rw [if_pos h1]; intro h; exact absurd h1 h
  · rw [if_neg h1]
    by_cases h2 : z ≤ s.1
    · rw [if_pos h2]; intro h; exact absurd rfl h
    · rw [if_neg h2]
      by_cases h3 : xIn (t s.1) a b = 0
      · rw [if_pos h3]; intro h; exact absurd rfl h
      · rw [if_neg h3]; intro _; exact ⟨rfl, rfl, by omega, h3⟩
theorem tP_1 {t : Nat → Int32} {z V : Nat} {s : Nat × Bool} (h : ¬ (tP t z V s).2 = true) : 1 ≤ (tP t z V s).1 := by
  have e := (nx_1 (t := t) (z := z) (s := nx t z s 0 (nI V - nI 1)) (a := 0) (b := nI V - nI 1) h).1
  show 1 ≤ (nx t z (nx t z s 0 (nI V - nI 1)) 0 (nI V - nI 1)).1
  omega
/-! what the second reading keeps -/
def bV (B : xS) (t : Nat → Int32) (z : Nat) : Nat → xS
  | 0 => B
  | k + 1 => xsI (xsI (xsI (bV B t z k) 39 k (nv t z (aIt (vS t z) k (g1 t z)) (-1000) 1000)) 40 k (nv t z (nx t z (aIt (vS t z) k (g1 t z)) (-1000) 1000) (nv t z (aIt (vS t z) k (g1 t z)) (-1000) 1000) 1000)) 41 k (nv t z (nx t z (nx t z (aIt (vS t z) k (g1 t z)) (-1000) 1000) (nv t z (aIt (vS t z) k (g1 t z)) (-1000) 1000) 1000) (-100) 100)
def bF (B : xS) (t : Nat → Int32) (z k : Nat) (s : Nat × Bool) : Nat → xS
  | 0 => B
  | i + 1 => xsI (bF B t z k s i) 42 (8 * k + i) (nv t z (aIt (fS t z) i s) (-100) 100)
def bR (B : xS) (t : Nat → Int32) (z V : Nat) (s0 : Nat × Bool) : Nat → xS
  | 0 => B
  | k + 1 => xsI (bF (bR B t z V s0 k) t z k (aIt (rS t z V) k s0) V) 43 k (nv t z (aIt (fS t z) V (aIt (rS t z V) k s0)) (-100000) 100000)
def bP (B : xS) (t : Nat → Int32) (z k : Nat) (s : Nat × Bool) : Nat → xS
  | 0 => B
  | i + 1 => xsI (xsI (bP B t z k s i) 47 (20 * k + i) (nv t z (aIt (pS t z) i s) (-1000) 1000)) 48 (20 * k + i) (nv t z (nx t z (aIt (pS t z) i s) (-1000) 1000) (-1000) 1000)
def bT (B : xS) (t : Nat → Int32) (z V : Nat) (s0 : Nat × Bool) : Nat → xS
  | 0 => B
  | k + 1 => bP (xsI (xsI (xsI (bT B t z V s0 k) 44 k (tA t z V (aIt (tS t z V) k s0))) 45 k (tB t z V (aIt (tS t z V) k s0))) 46 k (nI (tN t z V (aIt (tS t z V) k s0)))) t z k (tD t z V (aIt (tS t z V) k s0)) (tN t z V (aIt (tS t z V) k s0))
theorem bV_o {B : xS} {t : Nat → Int32} {z a : Nat} (b : Nat) (h : a < 39 ∨ 41 < a) : ∀ k, xgI (bV B t z k) a b = xgI B a b
  | 0 => rfl
  | k + 1 => by rw [bV, xgI_n (by omega), xgI_n (by omega), xgI_n (by omega), bV_o b h k]
theorem bF_o {B : xS} {t : Nat → Int32} {z k : Nat} {s : Nat × Bool} {a : Nat} (b : Nat) (h : a ≠ 42) : ∀ i, xgI (bF B t z k s i) a b = xgI B a b
  | 0 => rfl
  | i + 1 => by rw [bF, xgI_n (by omega), bF_o b h i]
theorem bR_o {B : xS} {t : Nat → Int32} {z V : Nat} {s0 : Nat × Bool} {a : Nat} (b : Nat) (h : a < 42 ∨ 43 < a) : ∀ k, xgI (bR B t z V s0 k) a b = xgI B a b
  | 0 => rfl
  | k + 1 => by rw [bR, xgI_n (by omega), bF_o b (by omega), bR_o b h k]
theorem bP_o {B : xS} {t : Nat → Int32} {z k : Nat} {s : Nat × Bool} {a : Nat} (b : Nat) (h : a < 47 ∨ 48 < a) : ∀ i, xgI (bP B t z k s i) a b = xgI B a b
  | 0 => rfl
  | i + 1 => by rw [bP, xgI_n (by omega), xgI_n (by omega), bP_o b h i]
theorem bT_o {B : xS} {t : Nat → Int32} {z V : Nat} {s0 : Nat × Bool} {a : Nat} (b : Nat) (h : a < 44 ∨ 48 < a) : ∀ k, xgI (bT B t z V s0 k) a b = xgI B a b
  | 0 => rfl
  | k + 1 => by rw [bT, bP_o b (by omega), xgI_n (by omega), xgI_n (by omega), xgI_n (by omega), bT_o b h k]
