/-! ===== longs ===== -/
def lI (v : Int) : Int64 := Int64.ofInt v
theorem lI_add (a b : Int) : lI a + lI b = lI (a + b) := (Int64.ofInt_add a b).symm
theorem lI_sub (a b : Int) : lI a - lI b = lI (a - b) := (Int64.ofInt_sub a b).symm
def rg (v : Int) : Prop := -9223372036854775808 ≤ v ∧ v ≤ 9223372036854775807
theorem lI_toInt {v : Int} (h : rg v) : (lI v).toInt = v := Int64.toInt_ofInt_of_le (by have := h.1; omega) (by have := h.2; omega)
theorem lI_lt {a b : Int} (ha : rg a) (hb : rg b) : lI a < lI b ↔ a < b := by rw [Int64.lt_iff_toInt_lt, lI_toInt ha, lI_toInt hb]
theorem lI_le {a b : Int} (ha : rg a) (hb : rg b) : lI a ≤ lI b ↔ a ≤ b := by rw [Int64.le_iff_toInt_le, lI_toInt ha, lI_toInt hb]
theorem lI_eq {a b : Int} (ha : rg a) (hb : rg b) : lI a = lI b ↔ a = b := by rw [← Int64.toInt_inj, lI_toInt ha, lI_toInt hb]
theorem lI_NO : lI NO = 4611686018427387904 := by decide
theorem rg_NO : rg NO := ⟨by decide, by decide⟩
theorem nI_long {n : Nat} (h : n < 2147483648) : (nI n).toInt64 = lI n := by
  rw [← Int64.toInt_inj, Int32.toInt_toInt64, nI_toInt h, lI_toInt ⟨by omega, by omega⟩]
theorem shl_mul (x s : Int64) (k : Nat) (hk : (s.toBitVec.smod 64).toNat = k) : x <<< s = x * Int64.ofNat (2 ^ k) := by
  rw [← Int64.toBitVec_inj, Int64.toBitVec_shiftLeft, BitVec.shiftLeft_eq', hk, Int64.toBitVec_mul]
  apply BitVec.eq_of_toNat_eq
  rw [BitVec.toNat_shiftLeft, Nat.shiftLeft_eq, BitVec.toNat_mul, show (Int64.ofNat (2 ^ k)).toBitVec = BitVec.ofNat 64 (2 ^ k) from rfl, BitVec.toNat_ofNat, Nat.mul_mod_mod]
theorem lI_nat (n : Nat) : Int64.ofNat n = lI n := by
  rw [lI, Int64.ofInt_eq_ofNat]
theorem lI_shl (v : Int) (s : Int64) (k : Nat) (hk : (s.toBitVec.smod 64).toNat = k) : lI v <<< s = lI (v * (2 ^ k : Nat)) := by
  rw [shl_mul _ _ k hk, lI_nat, lI, lI, lI, Int64.ofInt_mul]
theorem lI_shr {v : Int} (hv : rg v) (s : Int64) (k : Nat) (hk : (s.toBitVec.smod 64).toNat = k) : lI v >>> s = lI (v / (2 ^ k : Nat)) := by
  have hpos : (0 : Int) < (2 ^ k : Nat) := Int.ofNat_lt.mpr (Nat.pow_pos (by omega))
  have e : (lI v >>> s).toInt = v / (2 ^ k : Nat) := by
    rw [← Int64.toInt_toBitVec, Int64.toBitVec_shiftRight, BitVec.sshiftRight_eq', hk, BitVec.toInt_sshiftRight, Int64.toInt_toBitVec, lI_toInt hv, Int.shiftRight_eq_div_pow]
  have h1 : rg (v / (2 ^ k : Nat)) := by
    constructor
    · have := hv.1
      rcases Int.le_total 0 v with q | q
      · have := Int.ediv_nonneg q (Int.le_of_lt hpos); omega
      · refine Int.le_ediv_of_mul_le hpos ?_
        have : (9223372036854775808 : Int) * 1 ≤ 9223372036854775808 * (2 ^ k : Nat) := Int.mul_le_mul_of_nonneg_left (by omega) (by omega)
        omega
    · have := hv.2
      rcases Int.le_total 0 v with q | q
      · have := Int.ediv_le_self (2 ^ k : Nat) q; omega
      · have := Int.ediv_le_ediv hpos q
        rw [Int.zero_ediv] at this
        omega
  rw [← Int64.toInt_inj, e, lI_toInt h1]
theorem sh40 : ((((40 : Int32).toInt64 &&& 63).toBitVec.smod 64).toNat = 40) := by decide
theorem shp5 {i : Nat} (hi : i < 8) : ((((nI (5 * (7 - i))).toInt64 &&& 63).toBitVec.smod 64).toNat = 5 * (7 - i)) := by
  match i, hi with
  | 0, _ => decide
  | 1, _ => decide
  | 2, _ => decide
  | 3, _ => decide
  | 4, _ => decide
  | 5, _ => decide
  | 6, _ => decide
  | 7, _ => decide
theorem lI_int {n : Nat} : (lI n).toInt32 = nI n := by
  rw [← Int32.toInt_inj, Int64.toInt_toInt32, lI, Int64.toInt_ofInt, nI, Int32.toInt_ofNat']
  exact Int.bmod_bmod_of_dvd (show (Int32.size : Nat) ∣ Int64.size from ⟨4294967296, by decide⟩)
theorem nI_and31 (n : Nat) : nI n &&& 31 = nI (n % 32) := by
  rw [← Int32.toBitVec_inj, Int32.toBitVec_and]
  apply BitVec.eq_of_toNat_eq
  show ((BitVec.ofNat 32 n) &&& 31#32).toNat = (BitVec.ofNat 32 (n % 32)).toNat
  rw [BitVec.toNat_and, BitVec.toNat_ofNat, BitVec.toNat_ofNat, BitVec.toNat_ofNat, show 31 % 2 ^ 32 = 2 ^ 5 - 1 from rfl, Nat.and_two_pow_sub_one_eq_mod]
  omega
