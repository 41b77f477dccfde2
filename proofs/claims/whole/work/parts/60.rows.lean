/-! What a row IS: factors, right side, the rows it assumes, limit, a branch's numbers -/
abbrev oRow : Type := (Nat → Int64) × Int64 × (Nat → Bool) × Option Int64 × Option (Int32 × Int32 × Int32)
def oF (w : oRow) : Nat → Int64 := w.1
def oR (w : oRow) : Int64 := w.2.1
def oS (w : oRow) : Nat → Bool := w.2.2.1
def oL (w : oRow) : Option Int64 := w.2.2.2.1
def oB (w : oRow) : Option (Int32 × Int32 × Int32) := w.2.2.2.2
def oInh (a b : Option Int64) : Option Int64 := match b with
  | none => a
  | some y => match a with
    | none => some y
    | some x => if x ≤ y then some x else some y
def oNil : oRow := (fun _ => 0, 0, fun _ => false, none, none)
def oAdd (a b : oRow) (o : Int64) : oRow := (fun v => oF a v + o * oF b v, oR a + o * oR b, fun x => oS a x || oS b x, oInh (oL a) (oL b), oB a)
def oSum (R : Nat → oRow) (p : Nat → Int32) : Nat → oRow
  | 0 => oNil
  | k + 1 => oAdd (oSum R p k) (R (p (2 + 2 * k)).toNatClampNeg) (p (2 + 2 * k + 1)).toInt64
/-- bits: bit i of A is set just when branch i is below nb and its row is in S -/
def oMk (br : Nat → Nat) (nb : Nat) (S : Nat → Bool) (A : Int64) : Prop := ∀ i, i < 64 → A.toBitVec.getLsbD i = (decide (i < nb) && S (br i))
theorem oMk_nil {br : Nat → Nat} {nb : Nat} : oMk br nb (fun _ => false) 0 := fun i _ => by simp
theorem oMk_or {br : Nat → Nat} {nb : Nat} {S T : Nat → Bool} {A B : Int64} (h1 : oMk br nb S A) (h2 : oMk br nb T B) : oMk br nb (fun x => S x || T x) (A ||| B) := fun i hi => by
  rw [Int64.toBitVec_or, BitVec.getLsbD_or, h1 i hi, h2 i hi]
  cases decide (i < nb) <;> rfl
theorem oMk_but {br : Nat → Nat} {nb : Nat} {S T : Nat → Bool} {A B : Int64} (h1 : oMk br nb S A) (h2 : oMk br nb T B) : oMk br nb (fun x => S x && !T x) (A &&& (B ^^^ -1)) := fun i hi => by
  rw [Int64.toBitVec_and, Int64.toBitVec_xor, BitVec.getLsbD_and, BitVec.getLsbD_xor, h1 i hi, h2 i hi, show ((-1 : Int64).toBitVec) = BitVec.allOnes 64 from by decide +kernel, BitVec.getLsbD_allOnes]
  simp only [hi, decide_true]
  cases decide (i < nb) <;> cases S (br i) <;> cases T (br i) <;> rfl
theorem oMk_congr {br : Nat → Nat} {nb : Nat} {S T : Nat → Bool} {A : Int64} (h1 : oMk br nb S A) (h : ∀ i, i < nb → S (br i) = T (br i)) : oMk br nb T A := fun i hi => by
  rw [h1 i hi]
  by_cases hb : i < nb
  · rw [h i hb]
  · simp [hb]
/-- one branch more: the rows before don't assume it -/
theorem oMk_up {br : Nat → Nat} {nb r : Nat} {S : Nat → Bool} {A : Int64} (h1 : oMk br nb S A) (h : S r = false) : oMk (fun i => if i = nb then r else br i) (nb + 1) S A := fun i hi => by
  rw [h1 i hi]
  by_cases hb : i = nb
  · subst hb
    simp [h]
  · by_cases h2 : i < nb
    · simp [hb, h2, Nat.lt_succ_of_lt h2]
    · simp [h2, show ¬ i < nb + 1 by omega]
theorem o_sh : ∀ b : Fin 64, ((nI b.1).toInt64 &&& 63).toBitVec.smod 64 = BitVec.ofNat 64 b.1 := by decide +kernel
theorem o_bit {A : Int64} {b : Nat} (hb : b < 64) : xBit A b ↔ A.toBitVec.getLsbD b = true := by
  unfold xBit
  have e : ((A >>> ((nI b).toInt64 &&& 63)) &&& 1 = 0) ↔ A.toBitVec.getLsbD b = false := by
    rw [← Int64.toBitVec_inj, Int64.toBitVec_and, Int64.toBitVec_shiftRight, o_sh ⟨b, hb⟩]
    have e1 : ∀ x : BitVec 64, (x &&& (1 : Int64).toBitVec = (0 : Int64).toBitVec) ↔ x.getLsbD 0 = false := by
      intro x
      rw [show (1 : Int64).toBitVec = BitVec.ofNat 64 1 from rfl, show (0 : Int64).toBitVec = BitVec.ofNat 64 0 from rfl]
      constructor
      · intro h
        have := congrArg (fun y => BitVec.getLsbD y 0) h
        simpa using this
      · intro h
        apply BitVec.eq_of_getLsbD_eq
        intro i hi
        by_cases h0 : i = 0
        · subst h0
          rw [BitVec.getLsbD_and, h]
          simp
        · simp [h0]
    rw [e1]
    have e2 : (A.toBitVec.sshiftRight' (BitVec.ofNat 64 b)).getLsbD 0 = A.toBitVec.getLsbD b := by
      show (A.toBitVec.sshiftRight (BitVec.ofNat 64 b).toNat).getLsbD 0 = _
      rw [BitVec.toNat_ofNat, Nat.mod_eq_of_lt (by omega), BitVec.getLsbD_sshiftRight]
      simp [hb, Nat.not_le.mpr (show (0 : Nat) < 64 by omega)]
    rw [e2]
  rw [e]
  simp

theorem o_bits {br : Nat → Nat} {nb : Nat} {S : Nat → Bool} {A : Int64} (h : oMk br nb S A) {b : Nat} (hb : b < nb) (h64 : nb ≤ 64) : xBit A b ↔ S (br b) = true := by
  rw [o_bit (by omega), h b (by omega)]
  simp [hb]
theorem oMk_0 {br : Nat → Nat} {nb : Nat} {S : Nat → Bool} {A : Int64} (h : oMk br nb S A) (h64 : nb ≤ 64) : A = 0 ↔ ∀ i, i < nb → S (br i) = false := by
  constructor
  · intro e i hi
    have := h i (by omega)
    rw [e] at this
    simpa [hi] using this.symm
  · intro hz
    apply Int64.toBitVec_inj.mp
    apply BitVec.eq_of_getLsbD_eq
    intro i hi
    rw [h i hi]
    by_cases hb : i < nb
    · rw [hz i hb]; simp
    · simp [hb]
theorem oMk_1 {br : Nat → Nat} {nb r : Nat} (h64 : nb < 64) (hinj : ∀ i, i < nb → br i ≠ r) : oMk (fun i => if i = nb then r else br i) (nb + 1) (fun x => x == r) ((1 : Int64) <<< ((nI nb).toInt64 &&& 63)) := fun i hi => by
  rw [Int64.toBitVec_shiftLeft, o_sh ⟨nb, h64⟩]
  show ((1 : Int64).toBitVec <<< (BitVec.ofNat 64 nb)).getLsbD i = _
  rw [show (1 : Int64).toBitVec = 1#64 from rfl]
  have e : (1#64 <<< BitVec.ofNat 64 nb) = BitVec.twoPow 64 nb := by
    rw [BitVec.twoPow, show (1#64 <<< BitVec.ofNat 64 nb) = 1#64 <<< (BitVec.ofNat 64 nb).toNat from rfl, BitVec.toNat_ofNat, Nat.mod_eq_of_lt (by omega)]
  rw [e, BitVec.getLsbD_twoPow]
  by_cases hb : i = nb
  · subst hb
    simp [h64]
  · by_cases h2 : i < nb
    · have := hinj i h2
      simp [hb, this, Ne.symm hb]
    · simp [hb, show ¬ i < nb + 1 by omega, Ne.symm hb]
