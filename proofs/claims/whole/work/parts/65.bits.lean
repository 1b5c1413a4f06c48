/-! bits of longs -/
def jb (x : Int64) (d : Nat) : Bool := x.toBitVec.getLsbD d
theorem jb_or (x y : Int64) (d : Nat) : jb (x ||| y) d = (jb x d || jb y d) := by
  unfold jb
  rw [Int64.toBitVec_or, BitVec.getLsbD_or]
theorem jb_and (x y : Int64) (d : Nat) : jb (x &&& y) d = (jb x d && jb y d) := by
  unfold jb
  rw [Int64.toBitVec_and, BitVec.getLsbD_and]
theorem jb_not (x : Int64) (d : Nat) : jb (x ^^^ (-1)) d = (decide (d < 64) && !jb x d) := by
  unfold jb
  rw [Int64.toBitVec_xor, BitVec.getLsbD_xor, show (-1 : Int64).toBitVec = BitVec.allOnes 64 by decide, BitVec.getLsbD_allOnes]
  by_cases h : d < 64
  · simp [h]
  · simp [h, BitVec.getLsbD_of_ge x.toBitVec d (by omega)]
theorem jb_0 (d : Nat) : jb 0 d = false := by
  unfold jb
  rw [show (0 : Int64).toBitVec = 0#64 by decide]
  simp
theorem jb_64 (x : Int64) {d : Nat} (h : 64 ≤ d) : jb x d = false := BitVec.getLsbD_of_ge x.toBitVec d h
theorem jb_ext {x y : Int64} (h : ∀ d, d < 64 → jb x d = jb y d) : x = y := by
  apply Int64.toBitVec_inj.mp
  apply BitVec.eq_of_getLsbD_eq
  exact h
theorem sh_amt : ∀ k, k < 64 → ((nI k).toInt64 &&& 63).toBitVec.smod 64 = BitVec.ofNat 64 k := by decide +kernel
theorem us_amt : ∀ k, k < 64 → ((nI k).toInt64.toUInt64 &&& Int64.toUInt64 63).toBitVec % 64 = BitVec.ofNat 64 k := by decide +kernel
theorem jb_shl (x : Int64) {k : Nat} (hk : k < 64) (d : Nat) : jb (mzlshl x (nI k)) d = (decide (d < 64) && (decide (k ≤ d) && jb x (d - k))) := by
  unfold jb mzlshl
  rw [Int64.toBitVec_shiftLeft, sh_amt k hk, BitVec.shiftLeft_eq', BitVec.toNat_ofNat, Nat.mod_eq_of_lt (by omega), BitVec.getLsbD_shiftLeft]
  by_cases h : d < 64
  · by_cases h2 : k ≤ d
    · simp [h, h2, show ¬ d < k by omega]
    · simp [h, h2, show d < k by omega]
  · simp [h]
theorem jb_ushr (x : Int64) {k : Nat} (hk : k < 64) (d : Nat) : jb (mzlushr x (nI k)) d = jb x (k + d) := by
  unfold jb mzlushr
  show ((x.toUInt64 >>> ((nI k).toInt64.toUInt64 &&& Int64.toUInt64 63)).toBitVec).getLsbD d = _
  rw [UInt64.toBitVec_shiftRight, us_amt k hk, BitVec.ushiftRight_eq', BitVec.toNat_ofNat, Nat.mod_eq_of_lt (by omega), BitVec.getLsbD_ushiftRight]
  rfl
theorem jb_1 (d : Nat) : jb 1 d = decide (d = 0) := by
  unfold jb
  rw [show (1 : Int64).toBitVec = 1#64 by decide]
  by_cases h : d = 0
  · subst h; decide
  · simp [h]
theorem jb_bit {k : Nat} (hk : k < 64) (d : Nat) : jb (mzlshl 1 (nI k)) d = decide (d = k) := by
  rw [jb_shl _ hk, jb_1]
  by_cases h : d = k
  · subst h; simp [hk]
  · by_cases h2 : k ≤ d
    · simp [h, show ¬ d - k = 0 by omega]
    · simp [h, h2]
theorem jb_has (x : Int64) {d : Nat} (hd : d < 64) : (mzlushr x (nI d) &&& 1 = 0) = (jb x d = false) := by
  apply propext
  constructor
  · intro h
    have := congrArg (fun z => jb z 0) h
    simp only [jb_and, jb_ushr x hd, jb_1, jb_0] at this
    simpa using this
  · intro h
    apply jb_ext
    intro i hi
    rw [jb_and, jb_1, jb_0, jb_ushr x hd]
    by_cases e : i = 0
    · subst e; simp [h]
    · simp [e]
/-! how many bits: the JDK's count -/
theorem and_dig {k a m : Nat} (q r : Nat) (ha : a < 2 ^ k) (hm : m < 2 ^ k) : (a + 2 ^ k * q) &&& (m + 2 ^ k * r) = (a &&& m) + 2 ^ k * (q &&& r) := by
  apply Nat.eq_of_testBit_eq
  intro i
  rw [Nat.testBit_and, Nat.add_comm a, Nat.add_comm m, Nat.add_comm (a &&& m), Nat.testBit_two_pow_mul_add _ ha, Nat.testBit_two_pow_mul_add _ hm, Nat.testBit_two_pow_mul_add _ (Nat.and_lt_two_pow _ hm)]
  split
  · rw [Nat.testBit_and]
  · rw [Nat.testBit_and]
def p1 (m x : Nat) : Nat := x - (x / 2 &&& m)
def p2 (m x : Nat) : Nat := (x &&& m) + (x / 4 &&& m)
def p3 (m x : Nat) : Nat := (x + x / 16) &&& m
theorem pb1 : ∀ x, x < 256 → p1 85 x < 256 ∧ (x / 2 &&& 85) ≤ x := by decide +kernel
theorem pb2 : ∀ x, x < 256 → p2 51 (p1 85 x) < 256 := by decide +kernel
theorem pb3 : ∀ x, x < 256 → p3 15 (p2 51 (p1 85 x)) ≤ 8 ∧ (p2 51 (p1 85 x)) % 16 ≤ 4 ∧ (p2 51 (p1 85 x)) / 16 ≤ 4 := by decide +kernel
theorem pm1 : ∀ x, x < 256 → ∀ b, b < 2 → (x / 2 + 128 * b) &&& 85 = (x / 2) &&& 85 := by decide +kernel
theorem pm2 : ∀ x, x < 256 → ∀ b, b < 4 → (x / 4 + 64 * b) &&& 51 = (x / 4) &&& 51 := by decide +kernel
theorem pm3 : ∀ u, u < 5 → ∀ v, v < 5 → ∀ b, b < 5 → (u + 16 * v + v + 16 * b) &&& 15 = (u + 16 * v + v) &&& 15 := by decide +kernel
