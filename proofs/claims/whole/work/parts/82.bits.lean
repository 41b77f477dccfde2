/-! counting bits -/
theorem land_st {k A b C d : Nat} (hb : b < 2 ^ k) (hd : d < 2 ^ k) : (2 ^ k * A + b) &&& (2 ^ k * C + d) = 2 ^ k * (A &&& C) + (b &&& d) := by
  have hp : 0 < 2 ^ k := Nat.pow_pos (by omega)
  have e1 : ((2 ^ k * A + b) &&& (2 ^ k * C + d)) / 2 ^ k = A &&& C := by
    rw [Nat.and_div_two_pow, Nat.mul_add_div hp, Nat.mul_add_div hp, Nat.div_eq_of_lt hb, Nat.div_eq_of_lt hd, Nat.add_zero, Nat.add_zero]
  have e2 : ((2 ^ k * A + b) &&& (2 ^ k * C + d)) % 2 ^ k = b &&& d := by
    rw [Nat.and_mod_two_pow, Nat.mul_add_mod, Nat.mul_add_mod, Nat.mod_eq_of_lt hb, Nat.mod_eq_of_lt hd]
  have := Nat.div_add_mod ((2 ^ k * A + b) &&& (2 ^ k * C + d)) (2 ^ k)
  rw [e1, e2] at this
  exact this.symm
theorem land_256 {A b C d : Nat} (hb : b < 256) (hd : d < 256) : (256 * A + b) &&& (256 * C + d) = 256 * (A &&& C) + (b &&& d) := land_st (k := 8) hb hd
def m1 : Nat → Nat
  | 0 => 0
  | n + 1 => 256 * m1 n + 85
def m2 : Nat → Nat
  | 0 => 0
  | n + 1 => 256 * m2 n + 51
def m4 : Nat → Nat
  | 0 => 0
  | n + 1 => 256 * m4 n + 15
def c1 (n X : Nat) : Nat := X - ((X / 2) &&& m1 n)
def c2 (n X : Nat) : Nat := (X &&& m2 n) + ((X / 4) &&& m2 n)
def c3 (n X : Nat) : Nat := (X + X / 16) &&& m4 n
def b1 (a : Nat) : Nat := a - ((a / 2) &&& 85)
def b2 (a : Nat) : Nat := (a &&& 51) + ((a / 4) &&& 51)
def b3 (a : Nat) : Nat := (a + a / 16) &&& 15
def oPc (X : Nat) : Nat → Nat
  | 0 => 0
  | n + 1 => oPc X n + X / 2 ^ n % 2
theorem bt_1 : ∀ e, e < 2 → ∀ a, a < 256 → (128 * e + a / 2) &&& 85 = (a / 2) &&& 85 := by decide +kernel
theorem bt_2 : ∀ e, e < 4 → ∀ a, a < 256 → (64 * e + a / 4) &&& 51 = (a / 4) &&& 51 := by decide +kernel
theorem bt_3 : ∀ e, e < 5 → ∀ a, a < 69 → (16 * e + a + a / 16) &&& 15 = (a + a / 16) &&& 15 := by decide +kernel
theorem bt_4 : ∀ a, a < 256 → b1 a < 256 ∧ b2 (b1 a) < 69 ∧ b2 (b1 a) % 16 < 5 ∧ b3 (b2 (b1 a)) = oPc a 8 ∧ oPc a 8 < 9 := by decide +kernel
theorem c1_s {n Y a : Nat} (ha : a < 256) : c1 (n + 1) (256 * Y + a) = 256 * c1 n Y + b1 a := by
  unfold c1 b1
  rw [m1, show (256 * Y + a) / 2 = 256 * (Y / 2) + (128 * (Y % 2) + a / 2) by omega, land_256 (by omega) (by omega), bt_1 (Y % 2) (by omega) a ha]
  have h1 : (Y / 2) &&& m1 n ≤ Y / 2 := Nat.and_le_left
  have h2 : (a / 2) &&& 85 ≤ a / 2 := Nat.and_le_left
  omega
theorem c2_s {n Y a : Nat} (ha : a < 256) : c2 (n + 1) (256 * Y + a) = 256 * c2 n Y + b2 a := by
  unfold c2 b2
  rw [m2, land_256 ha (by omega), show (256 * Y + a) / 4 = 256 * (Y / 4) + (64 * (Y % 4) + a / 4) by omega, land_256 (by omega) (by omega), bt_2 (Y % 4) (by omega) a ha]
  omega
theorem c3_s {n Y a : Nat} (ha : a < 69) (hY : Y % 16 < 5) : c3 (n + 1) (256 * Y + a) = 256 * c3 n Y + b3 a := by
  unfold c3 b3
  rw [m4, show 256 * Y + a + (256 * Y + a) / 16 = 256 * (Y + Y / 16) + (16 * (Y % 16) + a + a / 16) by omega, land_256 (by omega) (by omega), bt_3 (Y % 16) hY a ha]
def cF (n X : Nat) : Nat := c3 n (c2 n (c1 n X))
theorem c12_m : ∀ n X, X < 256 ^ n → c2 n (c1 n X) % 16 < 5
  | 0, X, h => by
    have : X = 0 := by simpa using h
    subst this
    decide
  | n + 1, X, h => by
    obtain ⟨k1, k2, k3, -⟩ := bt_4 (X % 256) (by omega)
    rw [show X = 256 * (X / 256) + X % 256 by omega, c1_s (by omega), c2_s k1]
    omega
theorem cF_s {n Y a : Nat} (ha : a < 256) (hY : Y < 256 ^ n) : cF (n + 1) (256 * Y + a) = 256 * cF n Y + oPc a 8 := by
  obtain ⟨k1, k2, k3, k4, -⟩ := bt_4 a ha
  unfold cF
  rw [c1_s ha, c2_s k1, c3_s k2 (c12_m n Y hY), k4]
theorem oPc_8 (X : Nat) : oPc X 8 = oPc (X % 256) 8 := by
  show 0 + X / 1 % 2 + X / 2 % 2 + X / 4 % 2 + X / 8 % 2 + X / 16 % 2 + X / 32 % 2 + X / 64 % 2 + X / 128 % 2 = 0 + X % 256 / 1 % 2 + X % 256 / 2 % 2 + X % 256 / 4 % 2 + X % 256 / 8 % 2 + X % 256 / 16 % 2 + X % 256 / 32 % 2 + X % 256 / 64 % 2 + X % 256 / 128 % 2
  omega
theorem oPc_1 (X n : Nat) : oPc X (n + 1) = oPc X n + X / 2 ^ n % 2 := rfl
theorem oPc_a (X : Nat) : ∀ m, oPc X (8 + m) = oPc (X % 256) 8 + oPc (X / 256) m
  | 0 => by rw [Nat.add_zero, oPc_8]; rfl
  | m + 1 => by
    rw [show 8 + (m + 1) = (8 + m) + 1 by omega, oPc_1 X, oPc_a X m, oPc_1 (X / 256), Nat.pow_add, ← Nat.div_div_eq_div_mul, Nat.add_assoc]
/-- the eight bytes -/
theorem cF_8 {X : Nat} (hX : X < 2 ^ 64) : ∃ q0 q1 q2 q3 q4 q5 q6 q7, (q0 < 9 ∧ q1 < 9 ∧ q2 < 9 ∧ q3 < 9 ∧ q4 < 9 ∧ q5 < 9 ∧ q6 < 9 ∧ q7 < 9) ∧ cF 8 X = 256 * (256 * (256 * (256 * (256 * (256 * (256 * q7 + q6) + q5) + q4) + q3) + q2) + q1) + q0 ∧ oPc X 64 = q0 + (q1 + (q2 + (q3 + (q4 + (q5 + (q6 + q7)))))) := by
  have st : ∀ n X, X < 256 ^ (n + 1) → cF (n + 1) X = 256 * cF n (X / 256) + oPc (X % 256) 8 ∧ X / 256 < 256 ^ n := fun n X h => by
    have h2 : X / 256 < 256 ^ n := by
      rw [Nat.pow_succ] at h
      exact Nat.div_lt_of_lt_mul (by omega)
    have := cF_s (n := n) (Y := X / 256) (a := X % 256) (by omega) h2
    rw [show 256 * (X / 256) + X % 256 = X by omega] at this
    exact ⟨this, h2⟩
  have bd : ∀ a, oPc (a % 256) 8 < 9 := fun a => (bt_4 (a % 256) (by omega)).2.2.2.2
  have h0 : X < 256 ^ 8 := by rw [show (256 : Nat) ^ 8 = 2 ^ 64 by decide]; exact hX
  obtain ⟨e1, h1⟩ := st 7 X h0
  obtain ⟨e2, h2⟩ := st 6 _ h1
  obtain ⟨e3, h3⟩ := st 5 _ h2
  obtain ⟨e4, h4⟩ := st 4 _ h3
  obtain ⟨e5, h5⟩ := st 3 _ h4
  obtain ⟨e6, h6⟩ := st 2 _ h5
  obtain ⟨e7, h7⟩ := st 1 _ h6
  obtain ⟨e8, h8⟩ := st 0 _ h7
  have z : cF 0 (X / 256 / 256 / 256 / 256 / 256 / 256 / 256 / 256) = 0 := by
    have : X / 256 / 256 / 256 / 256 / 256 / 256 / 256 / 256 = 0 := by simpa using h8
    rw [this]
    decide
  refine ⟨oPc (X % 256) 8, oPc (X / 256 % 256) 8, oPc (X / 256 / 256 % 256) 8, oPc (X / 256 / 256 / 256 % 256) 8, oPc (X / 256 / 256 / 256 / 256 % 256) 8, oPc (X / 256 / 256 / 256 / 256 / 256 % 256) 8, oPc (X / 256 / 256 / 256 / 256 / 256 / 256 % 256) 8, oPc (X / 256 / 256 / 256 / 256 / 256 / 256 / 256 % 256) 8, ⟨bd _, bd _, bd _, bd _, bd _, bd _, bd _, bd _⟩, ?_, ?_⟩
  · rw [e1, e2, e3, e4, e5, e6, e7, e8, z]
    omega
  · rw [show (64 : Nat) = 8 + 56 from rfl, oPc_a, show (56 : Nat) = 8 + 48 from rfl, oPc_a, show (48 : Nat) = 8 + 40 from rfl, oPc_a, show (40 : Nat) = 8 + 32 from rfl, oPc_a, show (32 : Nat) = 8 + 24 from rfl, oPc_a, show (24 : Nat) = 8 + 16 from rfl, oPc_a, show (16 : Nat) = 8 + 8 from rfl, oPc_a, oPc_8 (X / 256 / 256 / 256 / 256 / 256 / 256 / 256)]
def uN (x : Int64) : Nat := x.toBitVec.toNat
theorem uN_lt (x : Int64) : uN x < 2 ^ 64 := x.toBitVec.isLt
theorem uN_us {x : Int64} {k : Int32} {n : Nat} (h : (k.toInt64.toUInt64 &&& Int64.toUInt64 63).toNat % 64 = n) : uN (xUs x k) = uN x / 2 ^ n := by
  unfold uN xUs
  show (x.toUInt64 >>> (k.toInt64.toUInt64 &&& Int64.toUInt64 63)).toNat = x.toUInt64.toNat / 2 ^ n
  rw [UInt64.toNat_shiftRight, h, Nat.shiftRight_eq_div_pow]
theorem uN_and {a b : Int64} : uN (a &&& b) = uN a &&& uN b := by unfold uN; rw [Int64.toBitVec_and, BitVec.toNat_and]
theorem uN_add {a b : Int64} (h : uN a + uN b < 2 ^ 64) : uN (a + b) = uN a + uN b := by
  unfold uN at h ⊢
  rw [Int64.toBitVec_add, BitVec.toNat_add, Nat.mod_eq_of_lt h]
theorem uN_sub {a b : Int64} (h : uN b ≤ uN a) : uN (a - b) = uN a - uN b := by
  have ha := uN_lt a
  unfold uN at h ha ⊢
  rw [Int64.toBitVec_sub, BitVec.toNat_sub, show 2 ^ 64 - b.toBitVec.toNat + a.toBitVec.toNat = (a.toBitVec.toNat - b.toBitVec.toNat) + 2 ^ 64 by omega, Nat.add_mod_right, Nat.mod_eq_of_lt (by omega)]
theorem m_8 : m1 8 = 6148914691236517205 ∧ m2 8 = 3689348814741910323 ∧ m4 8 = 1085102592571150095 := by decide
theorem uN_1 {x : Int64} : uN (xBc1 x) = c1 8 (uN x) := by
  have e : uN (xUs x 1 &&& 6148914691236517205) = (uN x / 2) &&& m1 8 := by
    rw [uN_and, uN_us (n := 1) (by decide), m_8.1]
    rfl
  have h : (uN x / 2) &&& m1 8 ≤ uN x / 2 := Nat.and_le_left
  unfold xBc1 c1
  rw [uN_sub (by rw [e]; omega), e]
theorem c2_b {X : Nat} : c2 8 X ≤ 7378697629483820646 := by
  unfold c2
  have h1 : X &&& m2 8 ≤ m2 8 := Nat.and_le_right
  have h2 : (X / 4) &&& m2 8 ≤ m2 8 := Nat.and_le_right
  rw [m_8.2.1] at h1 h2 ⊢
  omega
theorem uN_2 {x : Int64} : uN (xBc2 x) = c2 8 (uN x) := by
  have e1 : uN (x &&& 3689348814741910323) = uN x &&& m2 8 := by
    rw [uN_and, m_8.2.1]
    rfl
  have e2 : uN (xUs x 2 &&& 3689348814741910323) = (uN x / 4) &&& m2 8 := by
    rw [uN_and, uN_us (n := 2) (by decide), m_8.2.1]
    rfl
  have b := c2_b (X := uN x)
  unfold c2 at b
  unfold xBc2 c2
  rw [uN_add (by rw [e1, e2]; omega), e1, e2]
theorem uN_3 {x : Int64} (h : uN x ≤ 7378697629483820646) : uN (xBc3 x) = c3 8 (uN x) := by
  have e : uN (x + xUs x 4) = uN x + uN x / 16 := by
    have e2 : uN (xUs x 4) = uN x / 16 := uN_us (n := 4) (by decide)
    rw [uN_add (by rw [e2]; omega), e2]
  unfold xBc3 c3
  rw [uN_and, e, m_8.2.2]
  rfl
theorem uN_127 {x : Int64} : x.toInt32 &&& 127 = nI (uN x % 128) := by
  apply Int32.toBitVec_inj.mp
  apply BitVec.eq_of_toNat_eq
  rw [Int32.toBitVec_and, BitVec.toNat_and]
  show (x.toBitVec.signExtend 32).toNat &&& (127 : Int32).toBitVec.toNat = (BitVec.ofNat 32 (uN x % 128)).toNat
  rw [BitVec.signExtend_eq_setWidth_of_le _ (by omega), BitVec.toNat_setWidth, show (127 : Int32).toBitVec.toNat = 2 ^ 7 - 1 from by decide, Nat.and_two_pow_sub_one_eq_mod, BitVec.toNat_ofNat]
  unfold uN
  omega
theorem d_256 {a b r : Nat} (h : a = 256 * b + r) (hr : r < 256) : a / 256 = b := by omega
theorem d_add {a b r c d s : Nat} (h : a = 256 * b + r) (k : c = 256 * d + s) : a + c = 256 * (b + d) + (r + s) := by omega
theorem d_bnd {a b r m : Nat} (h : a = 256 * b + r) (hb : b ≤ m) (hr : r < 9) : a ≤ 256 * m + 8 := by omega
theorem d_128 {a b r : Nat} (h : a = 256 * b + r) (hr : r < 128) : a % 128 = r := by omega
theorem d_s2 {x y : Nat} (hx : x < 9) (hy : y < 9) : x + y < 17 := by omega
theorem d_s4 {x y : Nat} (hx : x < 17) (hy : y < 17) : x + y < 33 := by omega
theorem d_s8 {x y : Nat} (hx : x < 33) (hy : y < 33) : x + y < 128 := by omega
theorem d_lt {x : Nat} (hx : x < 33) : x < 256 := by omega
theorem d_l2 {x : Nat} (hx : x < 17) : x < 33 := by omega
theorem d_l1 {x : Nat} (hx : x < 9) : x < 17 := by omega
/-- eight digits, folded three times -/
theorem d_fold {w0 w1 w2 w3 w4 w5 w6 w7 q0 q1 q2 q3 q4 q5 q6 q7 : Nat} (h0 : w0 = 256 * w1 + q0) (h1 : w1 = 256 * w2 + q1) (h2 : w2 = 256 * w3 + q2) (h3 : w3 = 256 * w4 + q3) (h4 : w4 = 256 * w5 + q4) (h5 : w5 = 256 * w6 + q5) (h6 : w6 = 256 * w7 + q6) (h7 : w7 = 256 * 0 + q7) (k0 : q0 < 9) (k1 : q1 < 9) (k2 : q2 < 9) (k3 : q3 < 9) (k4 : q4 < 9) (k5 : q5 < 9) (k6 : q6 < 9) (k7 : q7 < 9) : w0 / 256 = w1 ∧ (w0 + w1) / 65536 = w2 + w3 ∧ ((w0 + w1) + (w2 + w3)) / 4294967296 = (w4 + w5) + (w6 + w7) ∧ (((w0 + w1) + (w2 + w3)) + ((w4 + w5) + (w6 + w7))) % 128 = ((q0 + q1) + (q2 + q3)) + ((q4 + q5) + (q6 + q7)) := by
  have t0 := d_add h0 h1
  have t1 := d_add h1 h2
  have t2 := d_add h2 h3
  have t3 := d_add h3 h4
  have t4 := d_add h4 h5
  have t5 := d_add h5 h6
  have t6 := d_add h6 h7
  have t7 : w7 + 0 = 256 * (0 + 0) + (q7 + 0) := d_add h7 (show (0 : Nat) = 256 * 0 + 0 from rfl)
  have u0 := d_add t0 t2
  have u1 := d_add t1 t3
  have u2 := d_add t2 t4
  have u3 := d_add t3 t5
  have u4 := d_add t4 t6
  have v := d_add u0 u4
  have s01 := d_s2 k0 k1
  have s12 := d_s2 k1 k2
  have s23 := d_s2 k2 k3
  have s34 := d_s2 k3 k4
  have s45 := d_s2 k4 k5
  have s56 := d_s2 k5 k6
  have s67 := d_s2 k6 k7
  refine ⟨d_256 h0 (d_lt (d_l2 (d_l1 k0))), ?_, ?_, ?_⟩
  · rw [show (65536 : Nat) = 256 * 256 from rfl, ← Nat.div_div_eq_div_mul, d_256 t0 (d_lt (d_l2 s01)), d_256 t1 (d_lt (d_l2 s12))]
  · rw [show (4294967296 : Nat) = 256 * 256 * 256 * 256 from rfl, ← Nat.div_div_eq_div_mul, ← Nat.div_div_eq_div_mul, ← Nat.div_div_eq_div_mul, d_256 u0 (d_lt (d_s4 s01 s23)), d_256 u1 (d_lt (d_s4 s12 s34)), d_256 u2 (d_lt (d_s4 s23 s45)), d_256 u3 (d_lt (d_s4 s34 s56))]
  · exact d_128 v (d_s8 (d_s4 s01 s23) (d_s4 s45 s67))
theorem d_sum {q0 q1 q2 q3 q4 q5 q6 q7 : Nat} : q0 + (q1 + (q2 + (q3 + (q4 + (q5 + (q6 + q7)))))) = ((q0 + q1) + (q2 + q3)) + ((q4 + q5) + (q6 + q7)) := by omega
/-- Long.bitCount -/
theorem xBc_e {x : Int64} : xBc x = nI (oPc (uN x) 64) := by
  obtain ⟨q0, q1, q2, q3, q4, q5, q6, q7, ⟨k0, k1, k2, k3, k4, k5, k6, k7⟩, e, e2⟩ := cF_8 (uN_lt x)
  have eA : uN (xBc3 (xBc2 (xBc1 x))) = cF 8 (uN x) := by
    rw [uN_3 (by rw [uN_2]; exact c2_b), uN_2, uN_1]
    rfl
  rw [e] at eA
  obtain ⟨w7, h7⟩ : ∃ w7, w7 = 256 * 0 + q7 := ⟨_, rfl⟩
  obtain ⟨w6, h6⟩ : ∃ w6, w6 = 256 * w7 + q6 := ⟨_, rfl⟩
  obtain ⟨w5, h5⟩ : ∃ w5, w5 = 256 * w6 + q5 := ⟨_, rfl⟩
  obtain ⟨w4, h4⟩ : ∃ w4, w4 = 256 * w5 + q4 := ⟨_, rfl⟩
  obtain ⟨w3, h3⟩ : ∃ w3, w3 = 256 * w4 + q3 := ⟨_, rfl⟩
  obtain ⟨w2, h2⟩ : ∃ w2, w2 = 256 * w3 + q2 := ⟨_, rfl⟩
  obtain ⟨w1, h1⟩ : ∃ w1, w1 = 256 * w2 + q1 := ⟨_, rfl⟩
  obtain ⟨w0, h0⟩ : ∃ w0, w0 = 256 * w1 + q0 := ⟨_, rfl⟩
  have hA : uN (xBc3 (xBc2 (xBc1 x))) = w0 := by
    rw [eA, h0, h1, h2, h3, h4, h5, h6, h7, Nat.mul_zero, Nat.zero_add]
  obtain ⟨f1, f2, f3, f4⟩ := d_fold h0 h1 h2 h3 h4 h5 h6 h7 k0 k1 k2 k3 k4 k5 k6 k7
  have n7 := d_bnd h7 (Nat.le_refl 0) k7
  have n6 := d_bnd h6 n7 k6
  have n5 := d_bnd h5 n6 k5
  have n4 := d_bnd h4 n5 k4
  have n3 := d_bnd h3 n4 k3
  have n2 := d_bnd h2 n3 k2
  have n1 := d_bnd h1 n2 k1
  have n0 := d_bnd h0 n1 k0
  have g0 : w0 ≤ 578721382704613384 := n0
  have g1 : w1 ≤ 2260630401189896 := n1
  have g23 : w2 + w3 ≤ 8865081987088 := Nat.add_le_add n2 n3
  have g47 : (w4 + w5) + (w6 + w7) ≤ 135272480 := Nat.add_le_add (Nat.add_le_add n4 n5) (Nat.add_le_add n6 n7)
  have u8 : ∀ y, uN (xUs y 8) = uN y / 256 := fun y => uN_us (n := 8) (by decide)
  have u16 : ∀ y, uN (xUs y 16) = uN y / 65536 := fun y => uN_us (n := 16) (by decide)
  have u32 : ∀ y, uN (xUs y 32) = uN y / 4294967296 := fun y => uN_us (n := 32) (by decide)
  have es : q0 + (q1 + (q2 + (q3 + (q4 + (q5 + (q6 + q7)))))) = ((q0 + q1) + (q2 + q3)) + ((q4 + q5) + (q6 + q7)) := d_sum
  rw [e2, es, ← f4]
  clear n0 n1 n2 n3 n4 n5 n6 n7 h0 h1 h2 h3 h4 h5 h6 h7 k0 k1 k2 k3 k4 k5 k6 k7 e e2 eA es f4
  unfold xBc
  generalize xBc3 (xBc2 (xBc1 x)) = A at *
  have hB : uN (A + xUs A 8) = w0 + w1 := by rw [uN_add (by rw [u8, hA, f1]; omega), u8, hA, f1]
  generalize A + xUs A 8 = B at *
  have hC : uN (B + xUs B 16) = (w0 + w1) + (w2 + w3) := by rw [uN_add (by rw [u16, hB, f2]; omega), u16, hB, f2]
  generalize B + xUs B 16 = E at *
  have hD : uN (E + xUs E 32) = ((w0 + w1) + (w2 + w3)) + ((w4 + w5) + (w6 + w7)) := by rw [uN_add (by rw [u32, hC, f3]; omega), u32, hC, f3]
  rw [uN_127, hD]
/-! the branches that a row assumes, counted -/
def oCnt (S : Nat → Bool) : Nat → Nat
  | 0 => 0
  | b + 1 => oCnt S b + if S b = true then 1 else 0
theorem qCnt_e {σ : xS} {r : Nat} {S : Nat → Bool} : ∀ n, (∀ b, b < n → xgI σ 56 (200 * r + b) = oBi (S b)) → qCnt σ r n = oCnt S n
  | 0, _ => rfl
  | n + 1, h => by
    rw [qCnt, oCnt, qCnt_e n (fun b hb => h b (by omega)), h n (by omega)]
    cases S n <;> rfl
theorem oCnt_x {S : Nat → Bool} {n : Nat} : ∀ m, (∀ x, n ≤ x → S x = false) → oCnt S (n + m) = oCnt S n
  | 0, _ => rfl
  | m + 1, h => by
    rw [show n + (m + 1) = (n + m) + 1 by omega, oCnt, oCnt_x m h, h (n + m) (by omega), if_neg (by decide)]
    rfl
theorem bit_d {A : Int64} {i : Nat} : uN A / 2 ^ i % 2 = if A.toBitVec.getLsbD i = true then 1 else 0 := by
  show A.toBitVec.toNat / 2 ^ i % 2 = _
  rw [show A.toBitVec.getLsbD i = A.toBitVec.toNat.testBit i from rfl, Nat.testBit_eq_decide_div_mod_eq]
  by_cases c : A.toBitVec.toNat / 2 ^ i % 2 = 1
  · rw [c]; rfl
  · have : A.toBitVec.toNat / 2 ^ i % 2 = 0 := by omega
    rw [this]; rfl
/-- the bits up to the branches of the rows before b -/
theorem oPc_b {D : oMd} {C : oCt} {A : Int64} {S : Nat → Bool} (h : oWc D C) (hA : oMk (oBr C) (oNb C) S A) (hS : ∀ b, b < oNr C → S b = true → oNn (oPr C b) 0 = 6) : ∀ b, b ≤ oNr C → oPc (uN A) (oBc (oPr C) b) = oCnt S b
  | 0, _ => rfl
  | b + 1, hb => by
    have ih := oPc_b h hA hS b (by omega)
    rw [oBc, oCnt]
    have h60 := h.1.2.2.1
    by_cases k : oNn (oPr C b) 0 = 6
    · rw [if_pos k, oPc_1, ih, bit_d]
      have hlt : oBc (oPr C) b < oNb C := by
        have : oBc (oPr C) (b + 1) ≤ oBc (oPr C) (oNr C) := oBc_le (by omega)
        rw [oBc, if_pos k] at this
        rw [h.1.2.2.2.1]
        omega
      rw [hA _ (by omega), (h.2.2.2.1 b (by omega)).2.2.2 k]
      simp [hlt]
    · rw [if_neg k, Nat.add_zero, ih]
      have : S b = false := by
        cases q : S b with
        | false => rfl
        | true => exact absurd (hS b (by omega) q) k
      rw [this, if_neg (by decide)]
      rfl
theorem oPc_z {A : Int64} {n : Nat} : ∀ m, (∀ i, n ≤ i → i < n + m → A.toBitVec.getLsbD i = false) → oPc (uN A) (n + m) = oPc (uN A) n
  | 0, _ => rfl
  | m + 1, h => by
    rw [show n + (m + 1) = (n + m) + 1 by omega, oPc_1, oPc_z m (fun i h1 h2 => h i h1 (by omega)), bit_d, h (n + m) (by omega) (by omega), if_neg (by decide)]
    rfl
theorem xBc_cnt {D : oMd} {C : oCt} {A : Int64} {S : Nat → Bool} {w : Nat} (h : oWc D C) (hA : oMk (oBr C) (oNb C) S A) (hS : ∀ b, S b = true → b ≤ w ∧ oNn (oPr C b) 0 = 6) (hw : w < oNr C) : xBc A = nI (oCnt S (w + 1)) := by
  have h60 := h.1.2.2.1
  have p := oPc_b h hA (fun b _ hb => (hS b hb).2) (oNr C) (Nat.le_refl _)
  have z := oPc_z (A := A) (n := oNb C) (64 - oNb C) (fun i h1 h2 => by
    rw [hA i (by omega)]
    simp [show ¬ i < oNb C by omega])
  rw [show oNb C + (64 - oNb C) = 64 by omega] at z
  rw [← h.1.2.2.2.1] at p
  have x := oCnt_x (S := S) (n := w + 1) (oNr C - (w + 1)) (fun x hx => by
    cases q : S x with
    | false => rfl
    | true => have := (hS x q).1; omega)
  rw [show w + 1 + (oNr C - (w + 1)) = oNr C by omega] at x
  rw [xBc_e, z, p, x]
