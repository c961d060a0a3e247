/-! ===== put ===== -/
theorem by_i {v : Int32} {m : Nat} (h : v.toBitVec.toNat = m) : v = nI m := by
  have hm : m < 2 ^ 32 := by rw [← h]; exact v.toBitVec.isLt
  refine Int32.toBitVec_inj.mp (BitVec.eq_of_toNat_eq ?_)
  rw [h, pk_tn hm]
theorem by_m (n : Nat) : n &&& 255 = n % 256 := Nat.and_two_pow_sub_one_eq_mod n 8
theorem by_A (y : Int64) : Int64.toInt32 (y &&& 255) = nI (y.toBitVec.toNat % 256) := by
  refine by_i ?_
  have e : (Int64.toInt32 (y &&& 255)).toBitVec = BitVec.signExtend 32 y.toBitVec &&& 255#32 := by simp
  rw [e, BitVec.signExtend_eq_setWidth_of_le _ (by decide), BitVec.toNat_and, BitVec.toNat_setWidth, show (255#32).toNat = 255 from rfl, by_m]
  omega
theorem by_B (y : Int64) : Int64.toInt32 y &&& 255 = nI (y.toBitVec.toNat % 256) := by
  refine by_i ?_
  have e : (Int64.toInt32 y &&& 255).toBitVec = BitVec.signExtend 32 y.toBitVec &&& 255#32 := by simp
  rw [e, BitVec.signExtend_eq_setWidth_of_le _ (by decide), BitVec.toNat_and, BitVec.toNat_setWidth, show (255#32).toNat = 255 from rfl, by_m]
  omega
/-- the character k of a value, counted from the last -/
def by_c (x : Int64) (k : Nat) : Nat := x.toBitVec.toNat / 2 ^ (8 * k) % 256
theorem by_s (x : Int64) {k : Nat} (hk : k < 8) : Int64.toInt32 ((x >>> (((8 * nI k) : Int32).toInt64 &&& 63)) &&& 255) = nI (by_c x k) := by
  rw [by_A]
  congr 1
  have key : ∀ k, k < 8 → (((8 * nI k) : Int32).toInt64 &&& 63) = Int64.ofNat (8 * k) := by decide
  have key2 : ∀ k, k < 8 → ((Int64.ofNat (8 * k)).toBitVec.smod 64#64).toNat = 8 * k := by decide
  have e : (x >>> Int64.ofNat (8 * k)).toBitVec = x.toBitVec.sshiftRight (8 * k) := by
    have : (x >>> Int64.ofNat (8 * k)).toBitVec = x.toBitVec.sshiftRight ((Int64.ofNat (8 * k)).toBitVec.smod 64#64).toNat := by simp
    rw [this, key2 k hk]
  rw [key k hk, e]
  have h8 : (x.toBitVec.sshiftRight (8 * k)).setWidth 8 = (x.toBitVec >>> (8 * k)).setWidth 8 := by
    refine BitVec.eq_of_getLsbD_eq fun i hi => ?_
    rw [BitVec.getLsbD_setWidth, BitVec.getLsbD_setWidth, BitVec.getLsbD_sshiftRight, BitVec.getLsbD_ushiftRight, if_pos (by omega)]
    have : decide (64 ≤ i) = false := decide_eq_false (by omega)
    rw [this]
    simp
  have h9 := congrArg BitVec.toNat h8
  rw [BitVec.toNat_setWidth, BitVec.toNat_setWidth, BitVec.toNat_ushiftRight, Nat.shiftRight_eq_div_pow] at h9
  exact h9
theorem by_u (x : Int64) {k : Nat} (hk : k < 8) : Int64.toInt32 (x.toUInt64 >>> (((8 * nI k) : Int32).toInt64.toUInt64 &&& Int64.toUInt64 63)).toInt64 &&& 255 = nI (by_c x k) := by
  rw [by_B]
  congr 1
  have key : ∀ k, k < 8 → (((8 * nI k) : Int32).toInt64.toUInt64 &&& Int64.toUInt64 63) = UInt64.ofNat (8 * k) := by decide
  have key2 : ∀ k, k < 8 → (UInt64.ofNat (8 * k)).toNat % 64 = 8 * k := by decide
  rw [key k hk]
  show (x.toUInt64 >>> UInt64.ofNat (8 * k)).toNat % 256 = _
  rw [UInt64.toNat_shiftRight, key2 k hk, Nat.shiftRight_eq_div_pow]
  rfl
theorem by_1 (y : Int64) : (y.toUInt64 >>> ((8 : Int32).toInt64.toUInt64 &&& Int64.toUInt64 63)).toInt64.toBitVec.toNat = y.toBitVec.toNat / 256 := by
  rw [show ((8 : Int32).toInt64.toUInt64 &&& Int64.toUInt64 63) = 8 by decide]
  show (y.toUInt64 >>> 8).toNat = _
  rw [UInt64.toNat_shiftRight, Nat.shiftRight_eq_div_pow]
  rfl
theorem by_0 (y : Int64) : lg_cmp y 0 = 0 ↔ y.toBitVec.toNat = 0 := by
  have e : y.toBitVec.toNat = 0 ↔ y = 0 := by
    constructor
    · intro h
      exact Int64.toBitVec_inj.mp (BitVec.eq_of_toNat_eq h)
    · rintro rfl; rfl
  rw [e]
  unfold lg_cmp
  by_cases c : y = 0
  · subst c; decide
  · constructor
    · intro h
      by_cases c1 : y > 0
      · rw [if_pos c1] at h; exact absurd h (by decide)
      · rw [if_neg c1, if_neg c] at h; exact absurd h (by decide)
    · intro h; exact absurd h c
theorem by_00 (y : Int64) : lg_cmp (y &&& 255) 0 = 0 ↔ y.toBitVec.toNat % 256 = 0 := by
  rw [by_0]
  have e : (y &&& 255).toBitVec = y.toBitVec &&& 255#64 := by simp
  rw [e, BitVec.toNat_and, show (255#64).toNat = 255 from rfl, by_m]
