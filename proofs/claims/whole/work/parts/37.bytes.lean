/-! ===== the bytes of a long ===== -/
def byt (v : Int) (k : Nat) : Int := (((Int64.ofInt v).toBitVec.toNat >>> (8 * k)) % 256 : Nat)
theorem byt_in (v : Int) (k : Nat) : 0 ≤ byt v k ∧ byt v k ≤ 255 := by unfold byt; omega
theorem j_sl : ∀ k, k < 8 → (((Int32.ofInt ((8 * k : Nat) : Int)).toInt64 &&& 63).toBitVec.smod 64).toNat = 8 * k := by decide +kernel
theorem j_sl2 : ∀ k, k < 8 → (((Int32.ofInt ((8 * k : Nat) : Int)).toInt64.toUInt64 &&& Int64.toUInt64 63).toBitVec % 64).toNat = 8 * k := by decide +kernel
theorem byt_bit (v : Int) (k i : Nat) (hk : k < 8) (hi : i < 32) : (BitVec.ofInt 32 (byt v k)).getLsbD i = (decide (i < 8) && (Int64.ofInt v).toBitVec.getLsbD (8 * k + i)) := by
  unfold byt
  rw [show BitVec.ofInt 32 ((((Int64.ofInt v).toBitVec.toNat >>> (8 * k)) % 256 : Nat) : Int) = BitVec.ofNat 32 (((Int64.ofInt v).toBitVec.toNat >>> (8 * k)) % 256) from BitVec.ofInt_natCast _ _]
  rw [BitVec.getLsbD_ofNat, show (256 : Nat) = 2 ^ 8 from rfl, Nat.testBit_mod_two_pow, Nat.testBit_shiftRight]
  simp [hi, BitVec.getLsbD]
theorem byt_m (v : Int) (k : Nat) (hk : k < 8) : ((Int64.ofInt v >>> ((Int32.ofInt ((8 * k : Nat) : Int)).toInt64 &&& 63)) &&& Int64.ofInt 255).toInt32 = Int32.ofInt (byt v k) := by
  apply Int32.toBitVec_inj.mp
  apply BitVec.eq_of_getLsbD_eq
  intro i hi
  rw [show (Int32.ofInt (byt v k)).toBitVec = BitVec.ofInt 32 (byt v k) from rfl, byt_bit v k i hk hi]
  rw [Int64.toBitVec_toInt32, BitVec.getLsbD_signExtend, Int64.toBitVec_and, BitVec.getLsbD_and]
  rw [show (Int64.ofInt v >>> ((Int32.ofInt ((8 * k : Nat) : Int)).toInt64 &&& 63)).toBitVec = (Int64.ofInt v).toBitVec.sshiftRight (((Int32.ofInt ((8 * k : Nat) : Int)).toInt64 &&& 63).toBitVec.smod 64).toNat from rfl, j_sl k hk, BitVec.getLsbD_sshiftRight]
  have h255 : (Int64.ofInt 255).toBitVec.getLsbD i = decide (i < 8) := by
    have : ∀ i, i < 32 → (Int64.ofInt 255).toBitVec.getLsbD i = decide (i < 8) := by decide
    exact this i hi
  rw [h255]
  by_cases h8 : i < 8
  · have h1 : 8 * k + i < 64 := by omega
    have h2 : ¬ 64 ≤ i := by omega
    have h3 : i < 64 := by omega
    simp [h8, hi, h1, h2, h3]
  · have h3 : i < 64 := by omega
    simp [h8, h3]
theorem byt_c (v : Int) (k : Nat) (hk : k < 8) : (((Int64.ofInt v).toUInt64 >>> ((Int32.ofInt ((8 * k : Nat) : Int)).toInt64.toUInt64 &&& Int64.toUInt64 63)).toInt64).toInt32 &&& Int32.ofInt 255 = Int32.ofInt (byt v k) := by
  apply Int32.toBitVec_inj.mp
  apply BitVec.eq_of_getLsbD_eq
  intro i hi
  rw [show (Int32.ofInt (byt v k)).toBitVec = BitVec.ofInt 32 (byt v k) from rfl, byt_bit v k i hk hi]
  rw [Int32.toBitVec_and, BitVec.getLsbD_and, Int64.toBitVec_toInt32, BitVec.getLsbD_signExtend]
  rw [show (((Int64.ofInt v).toUInt64 >>> ((Int32.ofInt ((8 * k : Nat) : Int)).toInt64.toUInt64 &&& Int64.toUInt64 63)).toInt64).toBitVec = (Int64.ofInt v).toBitVec >>> (((Int32.ofInt ((8 * k : Nat) : Int)).toInt64.toUInt64 &&& Int64.toUInt64 63).toBitVec % 64) from rfl, BitVec.ushiftRight_eq', j_sl2 k hk, BitVec.getLsbD_ushiftRight]
  have h255 : (Int32.ofInt 255).toBitVec.getLsbD i = decide (i < 8) := by
    have : ∀ i, i < 32 → (Int32.ofInt 255).toBitVec.getLsbD i = decide (i < 8) := by decide
    exact this i hi
  rw [h255]
  by_cases h8 : i < 8
  · have h3 : i < 64 := by omega
    simp [h8, hi, h3]
  · simp [h8]
/-- n bytes of v behind the text, the highest first -/
def tyB (v : Int) : Nat → (Int → Int) → (Int → Int)
  | 0, b => b
  | k + 1, b => tyB v k (iu (iu b (264 + b 1) (byt v k)) 1 (b 1 + 1))

