/-! ===== the class: how many bits ===== -/
def ush (x k : Int) : Int := ((Int32.ofInt x).toUInt32 >>> ((Int32.ofInt k).toUInt32 &&& Int32.toUInt32 31)).toInt32.toInt
def anI (x z : Int) : Int := (Int32.ofInt x &&& Int32.ofInt z).toInt
def bc1 (x : Int) : Int := x - anI (ush x 1) 1431655765
def bc2 (x : Int) : Int := anI (bc1 x) 858993459 + anI (ush (bc1 x) 2) 858993459
def bc3 (x : Int) : Int := anI (bc2 x + ush (bc2 x) 4) 252645135
def bc4 (x : Int) : Int := bc3 x + ush (bc3 x) 8
def bc5 (x : Int) : Int := bc4 x + ush (bc4 x) 16
def bc6 (x : Int) : Int := anI (bc5 x) 63
theorem bc_pop : ∀ n : Nat, n < 512 → bc6 (n : Int) = popF (n : Int) := by decide +kernel
section CBc
variable {G : GT} {n : Nat} {h h' : Hp} {Q : PT} {s : SS}
theorem sp_bitCount {x : Int} (hx : 0 ≤ x ∧ x < 512) (hQ : Q (some (vI (popF x))) n h) : Cl G mJ6_bitCount_0f7a4 [vI x] n h Q := by
  have e : bc6 x = popF x := by
    have := bc_pop x.toNat (by omega)
    rwa [show ((x.toNat : Nat) : Int) = x by omega] at this
  rw [← e] at hQ
  refine cl_of (by decide) (Nat.le_of_ble_eq_true rfl) rfl ?_
  refine r_iload_n (pc := 0) dJ6_bitCount_0f7a4_0 rfl <| r_iload_n (pc := 1) dJ6_bitCount_0f7a4_1 rfl <| r_iconst (pc := 2) dJ6_bitCount_0f7a4_2 <| r_iushr (pc := 3) (ush x 1) dJ6_bitCount_0f7a4_3 (Int32.ofInt_toInt _).symm <| r_ldc_w (pc := 4) dJ6_bitCount_0f7a4_4 cT_J6_265 <| r_iand (pc := 7) (anI (ush x 1) 1431655765) dJ6_bitCount_0f7a4_7 (Int32.ofInt_toInt _).symm <| r_isub (pc := 8) dJ6_bitCount_0f7a4_8 <| r_istoren_0 (pc := 9) dJ6_bitCount_0f7a4_9 <| r_iload_n (pc := 10) dJ6_bitCount_0f7a4_10 rfl <| r_ldc_w (pc := 11) dJ6_bitCount_0f7a4_11 cT_J6_266 <| r_iand (pc := 14) (anI (bc1 x) 858993459) dJ6_bitCount_0f7a4_14 (Int32.ofInt_toInt _).symm <| r_iload_n (pc := 15) dJ6_bitCount_0f7a4_15 rfl <| r_iconst (pc := 16) dJ6_bitCount_0f7a4_16 <| r_iushr (pc := 17) (ush (bc1 x) 2) dJ6_bitCount_0f7a4_17 (Int32.ofInt_toInt _).symm <| r_ldc_w (pc := 18) dJ6_bitCount_0f7a4_18 cT_J6_266 <| r_iand (pc := 21) (anI (ush (bc1 x) 2) 858993459) dJ6_bitCount_0f7a4_21 (Int32.ofInt_toInt _).symm <| r_iadd (pc := 22) dJ6_bitCount_0f7a4_22 <| r_istoren_0 (pc := 23) dJ6_bitCount_0f7a4_23 <| r_iload_n (pc := 24) dJ6_bitCount_0f7a4_24 rfl <| r_iload_n (pc := 25) dJ6_bitCount_0f7a4_25 rfl <| r_iconst (pc := 26) dJ6_bitCount_0f7a4_26 <| r_iushr (pc := 27) (ush (bc2 x) 4) dJ6_bitCount_0f7a4_27 (Int32.ofInt_toInt _).symm <| r_iadd (pc := 28) dJ6_bitCount_0f7a4_28 <| r_ldc_w (pc := 29) dJ6_bitCount_0f7a4_29 cT_J6_267 <| r_iand (pc := 32) (bc3 x) dJ6_bitCount_0f7a4_32 (Int32.ofInt_toInt _).symm <| r_istoren_0 (pc := 33) dJ6_bitCount_0f7a4_33 <| r_iload_n (pc := 34) dJ6_bitCount_0f7a4_34 rfl <| r_iload_n (pc := 35) dJ6_bitCount_0f7a4_35 rfl <| r_bipush (pc := 36) dJ6_bitCount_0f7a4_36 (by decide) <| r_iushr (pc := 38) (ush (bc3 x) 8) dJ6_bitCount_0f7a4_38 (Int32.ofInt_toInt _).symm <| r_iadd (pc := 39) dJ6_bitCount_0f7a4_39 <| r_istoren_0 (pc := 40) dJ6_bitCount_0f7a4_40 <| r_iload_n (pc := 41) dJ6_bitCount_0f7a4_41 rfl <| r_iload_n (pc := 42) dJ6_bitCount_0f7a4_42 rfl <| r_bipush (pc := 43) dJ6_bitCount_0f7a4_43 (by decide) <| r_iushr (pc := 45) (ush (bc4 x) 16) dJ6_bitCount_0f7a4_45 (Int32.ofInt_toInt _).symm <| r_iadd (pc := 46) dJ6_bitCount_0f7a4_46 <| r_istoren_0 (pc := 47) dJ6_bitCount_0f7a4_47 <| r_iload_n (pc := 48) dJ6_bitCount_0f7a4_48 rfl <| r_bipush (pc := 49) dJ6_bitCount_0f7a4_49 (by decide) <| r_iand (pc := 51) (bc6 x) dJ6_bitCount_0f7a4_51 (Int32.ofInt_toInt _).symm <| r_iret (pc := 52) dJ6_bitCount_0f7a4_52 rfl ⟨Nat.le_of_ble_eq_true rfl, Nat.le_of_ble_eq_true rfl⟩ <| ?_
  exact hQ
end CBc

