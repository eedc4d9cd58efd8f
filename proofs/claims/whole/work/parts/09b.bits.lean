/-! ===== bits of whole numbers from 0 on ===== -/
theorem i_nat (n : Nat) : Int32.ofInt (n : Int) = nI n := rfl
theorem i_sl : ∀ n, n < 32 → ((nI n &&& 31).toBitVec.smod 32).toNat = n := by decide +kernel
theorem i_shr {x j : Int} (hx : 0 ≤ x ∧ x < 2147483648) (hj : 0 ≤ j ∧ j < 32) : Int32.ofInt x >>> (Int32.ofInt j &&& 31) = Int32.ofInt (x / (2 ^ j.toNat : Nat)) := by
  obtain ⟨a, rfl⟩ := Int.eq_ofNat_of_zero_le hx.1
  obtain ⟨b, rfl⟩ := Int.eq_ofNat_of_zero_le hj.1
  have h1 : (nI a) >>> (nI b &&& 31) = nI (a / 2 ^ b) := pk_shrN (by omega) _ b (i_sl b (by omega))
  exact h1
theorem i_shl {x j : Int} (hx : 0 ≤ x) (hj : 0 ≤ j ∧ j < 32) (hb : x * (2 ^ j.toNat : Nat) < 4294967296) : Int32.ofInt x <<< (Int32.ofInt j &&& 31) = Int32.ofInt (x * (2 ^ j.toNat : Nat)) := by
  obtain ⟨a, rfl⟩ := Int.eq_ofNat_of_zero_le hx
  obtain ⟨b, rfl⟩ := Int.eq_ofNat_of_zero_le hj.1
  have h1 : (nI a) <<< (nI b &&& 31) = nI (a * 2 ^ b) := pk_shlN _ b (i_sl b (by omega)) (by
    have : ((a * 2 ^ b : Nat) : Int) < 4294967296 := by simpa using hb
    omega)
  rw [show ((a : Int) * ((2 ^ (Int.toNat (b : Int)) : Nat) : Int)) = ((a * 2 ^ b : Nat) : Int) by simp]
  exact h1
theorem i_and1 {x : Int} (hx : 0 ≤ x ∧ x < 2147483648) : Int32.ofInt x &&& Int32.ofInt 1 = Int32.ofInt (x % 2) := by
  obtain ⟨a, rfl⟩ := Int.eq_ofNat_of_zero_le hx.1
  have h1 : nI a &&& (1 : Int32) = nI (a % 2 ^ 1) := pk_andN (by omega) 1 (by decide)
  exact h1
theorem i_andN (a b : Nat) : Int32.ofInt (a : Int) &&& Int32.ofInt (b : Int) = Int32.ofInt ((a &&& b : Nat) : Int) := by
  show Int32.ofNat a &&& Int32.ofNat b = Int32.ofNat (a &&& b)
  apply Int32.toBitVec_inj.mp
  rw [Int32.toBitVec_and]
  show BitVec.ofNat 32 a &&& BitVec.ofNat 32 b = BitVec.ofNat 32 (a &&& b)
  apply BitVec.eq_of_getLsbD_eq
  intro i hi
  simp [hi]
theorem i_orN (a b : Nat) : Int32.ofInt (a : Int) ||| Int32.ofInt (b : Int) = Int32.ofInt ((a ||| b : Nat) : Int) := by
  show Int32.ofNat a ||| Int32.ofNat b = Int32.ofNat (a ||| b)
  apply Int32.toBitVec_inj.mp
  rw [Int32.toBitVec_or]
  show BitVec.ofNat 32 a ||| BitVec.ofNat 32 b = BitVec.ofNat 32 (a ||| b)
  apply BitVec.eq_of_getLsbD_eq
  intro i hi
  simp [hi]
/-- a bit of a number, as the shift and the mask give it -/
def bitI (x j : Int) : Int := x / (2 ^ j.toNat : Nat) % 2
theorem bitI_01 (x j : Int) : bitI x j = 0 ∨ bitI x j = 1 := by unfold bitI; omega

