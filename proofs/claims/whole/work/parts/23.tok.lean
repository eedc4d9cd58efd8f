/-! ===== the class: tokens ===== -/
theorem sLen_lt : ∀ k, k < 12 → sLen.getD k 0 < 100 ∧ sLen.getD k 0 = (wL.getD k []).length := by decide +kernel
theorem sB_eq : ∀ k, k < 12 → ∀ j, j < 8 → sB k j = (wL.getD k []).getD j 0 ∧ (0 ≤ sB k j ∧ sB k j < 128) := by decide +kernel
section TKC
variable {G : GT} {n : Nat} {h : Hp} {Q : PT}
theorem sp_coder {k : Nat} (hk : k < 12) (hQ : Q (some (vI 0)) n h) : Cl G mJ0_coder_7d493 [vO (2 * k)] n h Q := by
  refine cl_of (by decide) (Nat.le_of_ble_eq_true rfl) rfl ?_
  refine r_getCS (pc := 0) dJ0_coder_7d493_0 kO_cs_J0 <| r_if_eq (pc := 3) 13 dJ0_coder_7d493_3 (by decide) (by decide) (fun q => absurd q (by decide)) (fun _ => ?_)
  refine r_aload_nO (pc := 6) dJ0_coder_7d493_6 rfl <| r_getOc (pc := 7) dJ0_coder_7d493_7 kO_coder (by omega) <| r_goto (pc := 10) 14 dJ0_coder_7d493_10 (by decide) <| r_nret (pc := 14) dJ0_coder_7d493_14 rfl rfl ⟨Nat.le_of_ble_eq_true rfl, Nat.le_of_ble_eq_true rfl⟩ <| ?_
  exact hQ
theorem sp_isLatin1 {k : Nat} (hk : k < 12) (hQ : Q (some (vI 1)) n h) : Cl G mJ0_isLatin1_aae02 [vO (2 * k)] n h Q := by
  refine cl_of (by decide) (Nat.le_of_ble_eq_true rfl) rfl ?_
  refine r_getCS (pc := 0) dJ0_isLatin1_aae02_0 kO_cs_J0 <| r_if_eq (pc := 3) 17 dJ0_isLatin1_aae02_3 (by decide) (by decide) (fun q => absurd q (by decide)) (fun _ => ?_)
  refine r_aload_nO (pc := 6) dJ0_isLatin1_aae02_6 rfl <| r_getOc (pc := 7) dJ0_isLatin1_aae02_7 kO_coder (by omega) <| r_if_ne (pc := 10) 17 dJ0_isLatin1_aae02_10 (by decide) (by decide) (fun q => absurd q (by decide)) (fun _ => ?_)
  refine r_iconst (pc := 13) dJ0_isLatin1_aae02_13 <| r_goto (pc := 14) 18 dJ0_isLatin1_aae02_14 (by decide) <| r_zret (pc := 18) dJ0_isLatin1_aae02_18 rfl (by omega) ⟨Nat.le_of_ble_eq_true rfl, Nat.le_of_ble_eq_true rfl⟩ <| ?_
  exact hQ
theorem sp_slen {k : Nat} (hk : k < 12) (hQ : Q (some (vI (sLen.getD k 0 : Nat))) n h) : Cl G mJ0_length_8abf5 [vO (2 * k)] n h Q := by
  have b := (sLen_lt k hk).1
  refine cl_of (by decide) (Nat.le_of_ble_eq_true rfl) rfl ?_
  refine r_aload_nO (pc := 0) dJ0_length_8abf5_0 rfl <| r_getOv (pc := 1) dJ0_length_8abf5_1 kO_value (by omega) <| r_alenO (pc := 4) dJ0_length_8abf5_4 (by omega) <| r_aload_nO (pc := 5) dJ0_length_8abf5_5 rfl <| cOi [] (pc := 6) dJ0_length_8abf5_6 k_J0_335 ⟨⟨Nat.le_of_ble_eq_true rfl, Nat.le_of_ble_eq_true rfl⟩, ⟨Nat.le_of_ble_eq_true rfl, Nat.le_of_ble_eq_true rfl⟩, Nat.le_of_ble_eq_true rfl⟩ ⟨rfl, rfl⟩ (by omega) ?_
  refine sp_coder hk ?_
  refine ⟨_, rfl, ?_⟩
  refine r_ishr (pc := 9) (sLen.getD k 0 : Nat) dJ0_length_8abf5_9 (by have := i_shr (x := ((sLen.getD k 0 : Nat) : Int)) (j := 0) (by omega) (by omega); simpa using this) <| r_iret (pc := 10) dJ0_length_8abf5_10 rfl ⟨Nat.le_of_ble_eq_true rfl, Nat.le_of_ble_eq_true rfl⟩ <| ?_
  exact hQ
theorem sp_check {x m : Int} (hx : 0 ≤ x ∧ x < m) (hm : m < 2147483648) (hQ : Q (some (vI x)) n h) : Cl G mJ3_checkIndex_8e157 [vI x, vI m, vO 24] n h Q := by
  refine cl_of (by decide) (Nat.le_of_ble_eq_true rfl) rfl ?_
  refine r_iload_n (pc := 0) dJ3_checkIndex_8e157_0 rfl <| r_if_lt (pc := 1) 9 dJ3_checkIndex_8e157_1 (by decide) (by omega) (fun hc_1 => ?_) (fun hc_1 => ?_)
  · skip
    exfalso; omega
  · skip
    refine r_iload_n (pc := 4) dJ3_checkIndex_8e157_4 rfl <| r_iload_n (pc := 5) dJ3_checkIndex_8e157_5 rfl <| r_icmp_lt (pc := 6) 16 dJ3_checkIndex_8e157_6 (by decide) (by omega) (by omega) (fun hc_6 => ?_) (fun hc_6 => ?_)
    · skip
      refine r_iload_n (pc := 16) dJ3_checkIndex_8e157_16 rfl <| r_iret (pc := 17) dJ3_checkIndex_8e157_17 rfl ⟨Nat.le_of_ble_eq_true rfl, Nat.le_of_ble_eq_true rfl⟩ <| ?_
      exact hQ
    · skip
      exfalso; omega
theorem sp_check2 {x m : Int} (hx : 0 ≤ x ∧ x < m) (hm : m < 2147483648) (hQ : Q none n h) : Cl G mJ0_checkIndex_df160 [vI x, vI m] n h Q := by
  refine cl_of (by decide) (Nat.le_of_ble_eq_true rfl) rfl ?_
  refine r_iload_n (pc := 0) dJ0_checkIndex_df160_0 rfl <| r_iload_n (pc := 1) dJ0_checkIndex_df160_1 rfl <| r_getSF (pc := 2) dJ0_checkIndex_df160_2 kO_sf <| cSi [_, _, _] (pc := 5) dJ0_checkIndex_df160_5 k_J0_1059 ⟨⟨Nat.le_of_ble_eq_true rfl, Nat.le_of_ble_eq_true rfl⟩, ⟨Nat.le_of_ble_eq_true rfl, Nat.le_of_ble_eq_true rfl⟩, Nat.le_of_ble_eq_true rfl⟩ ⟨rfl, rfl⟩ ?_
  refine sp_check hx hm ?_
  refine ⟨_, rfl, ?_⟩
  refine r_pop (pc := 8) dJ0_checkIndex_df160_8 rfl <| r_vret (pc := 9) dJ0_checkIndex_df160_9 rfl ⟨Nat.le_of_ble_eq_true rfl, Nat.le_of_ble_eq_true rfl⟩ <| ?_
  exact hQ
theorem sp_charL {k : Nat} {x : Int} (hk : k < 12) (hx : 0 ≤ x ∧ x < (sLen.getD k 0 : Nat)) (hQ : Q (some (vI (sB k x.toNat))) n h) : Cl G mJ1_charAt_3b067 [vO (2 * k + 1), vI x] n h Q := by
  have b := (sLen_lt k hk).1
  have bl : sLen.getD k 0 ≤ 8 := by
    have : ∀ k, k < 12 → sLen.getD k 0 ≤ 8 := by decide +kernel
    exact this k hk
  have b2 := (sB_eq k hk x.toNat (by omega)).2
  have e1 : Int32.ofInt (sB k x.toNat) &&& Int32.ofInt 255 = Int32.ofInt (sB k x.toNat) := by
    have : ∀ v : Nat, v < 128 → Int32.ofInt (v : Int) &&& Int32.ofInt 255 = Int32.ofInt (v : Int) := by decide +kernel
    obtain ⟨v, hv⟩ := Int.eq_ofNat_of_zero_le b2.1
    rw [hv]
    exact this v (by omega)
  have e2 : ((Int32.ofInt (sB k x.toNat)).toUInt32 % 65536).toInt32 = Int32.ofInt (sB k x.toNat) := by
    have : ∀ v : Nat, v < 128 → ((Int32.ofInt (v : Int)).toUInt32 % 65536).toInt32 = Int32.ofInt (v : Int) := by decide +kernel
    obtain ⟨v, hv⟩ := Int.eq_ofNat_of_zero_le b2.1
    rw [hv]
    exact this v (by omega)
  have e3 : narrow .char (.int (Int32.ofInt (sB k x.toNat))) = .int (Int32.ofInt (sB k x.toNat)) := by
    have : ∀ v : Nat, v < 128 → (Int32.ofInt (v : Int)).toUInt32.toUInt16.toUInt32.toInt32 = Int32.ofInt (v : Int) := by decide +kernel
    obtain ⟨v, hv⟩ := Int.eq_ofNat_of_zero_le b2.1
    rw [hv]
    show Value.int _ = Value.int _
    rw [this v (by omega)]
  refine cl_of (by decide) (Nat.le_of_ble_eq_true rfl) rfl ?_
  refine r_iload_n (pc := 0) dJ1_charAt_3b067_0 rfl <| r_aload_nO (pc := 1) dJ1_charAt_3b067_1 rfl <| r_alenO (pc := 2) dJ1_charAt_3b067_2 (by omega) <| cSv [_, _] (pc := 3) dJ1_charAt_3b067_3 k_J1_9 ⟨⟨Nat.le_of_ble_eq_true rfl, Nat.le_of_ble_eq_true rfl⟩, ⟨Nat.le_of_ble_eq_true rfl, Nat.le_of_ble_eq_true rfl⟩, Nat.le_of_ble_eq_true rfl⟩ ⟨rfl, rfl⟩ ?_
  refine sp_check2 hx (by omega) ?_
  refine ⟨rfl, ?_⟩
  refine r_aload_nO (pc := 6) dJ1_charAt_3b067_6 rfl <| r_iload_n (pc := 7) dJ1_charAt_3b067_7 rfl <| r_baldO (pc := 8) dJ1_charAt_3b067_8 hk hx b <| r_sipush (pc := 9) dJ1_charAt_3b067_9 (by decide) <| r_iand (pc := 12) (sB k x.toNat) dJ1_charAt_3b067_12 e1 <| r_i2c (pc := 13) (sB k x.toNat) dJ1_charAt_3b067_13 e2 <| r_nret (pc := 14) dJ1_charAt_3b067_14 rfl e3 ⟨Nat.le_of_ble_eq_true rfl, Nat.le_of_ble_eq_true rfl⟩ <| ?_
  exact hQ
theorem sp_charAt {k : Nat} {x : Int} (hk : k < 12) (hx : 0 ≤ x ∧ x < (sLen.getD k 0 : Nat)) (hQ : Q (some (vI (sB k x.toNat))) n h) : Cl G mJ0_charAt_5068e [vO (2 * k), vI x] n h Q := by
  have bl : sLen.getD k 0 ≤ 8 := by
    have : ∀ k, k < 12 → sLen.getD k 0 ≤ 8 := by decide +kernel
    exact this k hk
  have b2 := (sB_eq k hk x.toNat (by omega)).2
  have e3 : narrow .char (.int (Int32.ofInt (sB k x.toNat))) = .int (Int32.ofInt (sB k x.toNat)) := by
    have : ∀ v : Nat, v < 128 → (Int32.ofInt (v : Int)).toUInt32.toUInt16.toUInt32.toInt32 = Int32.ofInt (v : Int) := by decide +kernel
    obtain ⟨v, hv⟩ := Int.eq_ofNat_of_zero_le b2.1
    rw [hv]
    show Value.int _ = Value.int _
    rw [this v (by omega)]
  refine cl_of (by decide) (Nat.le_of_ble_eq_true rfl) rfl ?_
  refine r_aload_nO (pc := 0) dJ0_charAt_5068e_0 rfl <| cOi [] (pc := 1) dJ0_charAt_5068e_1 k_J0_492 ⟨⟨Nat.le_of_ble_eq_true rfl, Nat.le_of_ble_eq_true rfl⟩, ⟨Nat.le_of_ble_eq_true rfl, Nat.le_of_ble_eq_true rfl⟩, Nat.le_of_ble_eq_true rfl⟩ ⟨rfl, rfl⟩ (by omega) ?_
  refine sp_isLatin1 hk ?_
  · skip
    refine ⟨_, rfl, ?_⟩
    refine r_if_eq (pc := 4) 16 dJ0_charAt_5068e_4 (by decide) (by decide) (fun q => absurd q (by decide)) (fun _ => ?_)
    refine r_aload_nO (pc := 7) dJ0_charAt_5068e_7 rfl <| r_getOv (pc := 8) dJ0_charAt_5068e_8 kO_value (by omega) <| r_iload_n (pc := 11) dJ0_charAt_5068e_11 rfl <| cSi [_, _] (pc := 12) dJ0_charAt_5068e_12 k_J0_495 ⟨⟨Nat.le_of_ble_eq_true rfl, Nat.le_of_ble_eq_true rfl⟩, ⟨Nat.le_of_ble_eq_true rfl, Nat.le_of_ble_eq_true rfl⟩, Nat.le_of_ble_eq_true rfl⟩ ⟨rfl, rfl⟩ ?_
    refine sp_charL hk hx ?_
    refine ⟨_, rfl, ?_⟩
    refine r_nret (pc := 15) dJ0_charAt_5068e_15 rfl e3 ⟨Nat.le_of_ble_eq_true rfl, Nat.le_of_ble_eq_true rfl⟩ <| ?_
    exact hQ
theorem sp_cword {w : Int} (hw : 0 ≤ w ∧ w < 12) (hQ : Q (some (vO (2 * w.toNat))) n h) : Cl G mX6_wordOf [vI w] n h Q := by
  refine cl_of (by decide) (Nat.le_of_ble_eq_true rfl) rfl ?_
  refine r_iload_n (pc := 0) dX6_wordOf_0 rfl <| ?_
  rcases (show w = 0 ∨ w = 1 ∨ w = 2 ∨ w = 3 ∨ w = 4 ∨ w = 5 ∨ w = 6 ∨ w = 7 ∨ w = 8 ∨ w = 9 ∨ w = 10 ∨ (w < 0 ∨ 10 < w) by omega) with hs_1 | hs_1 | hs_1 | hs_1 | hs_1 | hs_1 | hs_1 | hs_1 | hs_1 | hs_1 | hs_1 | hs_1
  · skip
    refine r_tableIn (pc := 1) 60 dX6_wordOf_1 (by omega) (by omega) (by rw [hs_1]; rfl) (by decide) ?_
    refine r_ldcS (pc := 60) (k := 0) dX6_wordOf_60 rfl rfl <| r_aretO (pc := 62) dX6_wordOf_62 rfl ⟨Nat.le_of_ble_eq_true rfl, Nat.le_of_ble_eq_true rfl⟩ <| ?_
    first
      | (subst hs_1; exact hQ)
      | (have : w = 11 := by omega
         subst this; exact hQ)
  · skip
    refine r_tableIn (pc := 1) 63 dX6_wordOf_1 (by omega) (by omega) (by rw [hs_1]; rfl) (by decide) ?_
    refine r_ldcS (pc := 63) (k := 1) dX6_wordOf_63 rfl rfl <| r_aretO (pc := 65) dX6_wordOf_65 rfl ⟨Nat.le_of_ble_eq_true rfl, Nat.le_of_ble_eq_true rfl⟩ <| ?_
    first
      | (subst hs_1; exact hQ)
      | (have : w = 11 := by omega
         subst this; exact hQ)
  · skip
    refine r_tableIn (pc := 1) 66 dX6_wordOf_1 (by omega) (by omega) (by rw [hs_1]; rfl) (by decide) ?_
    refine r_ldcS (pc := 66) (k := 2) dX6_wordOf_66 rfl rfl <| r_aretO (pc := 68) dX6_wordOf_68 rfl ⟨Nat.le_of_ble_eq_true rfl, Nat.le_of_ble_eq_true rfl⟩ <| ?_
    first
      | (subst hs_1; exact hQ)
      | (have : w = 11 := by omega
         subst this; exact hQ)
  · skip
    refine r_tableIn (pc := 1) 69 dX6_wordOf_1 (by omega) (by omega) (by rw [hs_1]; rfl) (by decide) ?_
    refine r_ldcS (pc := 69) (k := 3) dX6_wordOf_69 rfl rfl <| r_aretO (pc := 71) dX6_wordOf_71 rfl ⟨Nat.le_of_ble_eq_true rfl, Nat.le_of_ble_eq_true rfl⟩ <| ?_
    first
      | (subst hs_1; exact hQ)
      | (have : w = 11 := by omega
         subst this; exact hQ)
  · skip
    refine r_tableIn (pc := 1) 72 dX6_wordOf_1 (by omega) (by omega) (by rw [hs_1]; rfl) (by decide) ?_
    refine r_ldcS (pc := 72) (k := 4) dX6_wordOf_72 rfl rfl <| r_aretO (pc := 74) dX6_wordOf_74 rfl ⟨Nat.le_of_ble_eq_true rfl, Nat.le_of_ble_eq_true rfl⟩ <| ?_
    first
      | (subst hs_1; exact hQ)
      | (have : w = 11 := by omega
         subst this; exact hQ)
  · skip
    refine r_tableIn (pc := 1) 75 dX6_wordOf_1 (by omega) (by omega) (by rw [hs_1]; rfl) (by decide) ?_
    refine r_ldcS (pc := 75) (k := 5) dX6_wordOf_75 rfl rfl <| r_aretO (pc := 77) dX6_wordOf_77 rfl ⟨Nat.le_of_ble_eq_true rfl, Nat.le_of_ble_eq_true rfl⟩ <| ?_
    first
      | (subst hs_1; exact hQ)
      | (have : w = 11 := by omega
         subst this; exact hQ)
  · skip
    refine r_tableIn (pc := 1) 78 dX6_wordOf_1 (by omega) (by omega) (by rw [hs_1]; rfl) (by decide) ?_
    refine r_ldcS (pc := 78) (k := 6) dX6_wordOf_78 rfl rfl <| r_aretO (pc := 80) dX6_wordOf_80 rfl ⟨Nat.le_of_ble_eq_true rfl, Nat.le_of_ble_eq_true rfl⟩ <| ?_
    first
      | (subst hs_1; exact hQ)
      | (have : w = 11 := by omega
         subst this; exact hQ)
  · skip
    refine r_tableIn (pc := 1) 81 dX6_wordOf_1 (by omega) (by omega) (by rw [hs_1]; rfl) (by decide) ?_
    refine r_ldcS (pc := 81) (k := 7) dX6_wordOf_81 rfl rfl <| r_aretO (pc := 83) dX6_wordOf_83 rfl ⟨Nat.le_of_ble_eq_true rfl, Nat.le_of_ble_eq_true rfl⟩ <| ?_
    first
      | (subst hs_1; exact hQ)
      | (have : w = 11 := by omega
         subst this; exact hQ)
  · skip
    refine r_tableIn (pc := 1) 84 dX6_wordOf_1 (by omega) (by omega) (by rw [hs_1]; rfl) (by decide) ?_
    refine r_ldcS (pc := 84) (k := 8) dX6_wordOf_84 rfl rfl <| r_aretO (pc := 86) dX6_wordOf_86 rfl ⟨Nat.le_of_ble_eq_true rfl, Nat.le_of_ble_eq_true rfl⟩ <| ?_
    first
      | (subst hs_1; exact hQ)
      | (have : w = 11 := by omega
         subst this; exact hQ)
  · skip
    refine r_tableIn (pc := 1) 87 dX6_wordOf_1 (by omega) (by omega) (by rw [hs_1]; rfl) (by decide) ?_
    refine r_ldcS (pc := 87) (k := 9) dX6_wordOf_87 rfl rfl <| r_aretO (pc := 89) dX6_wordOf_89 rfl ⟨Nat.le_of_ble_eq_true rfl, Nat.le_of_ble_eq_true rfl⟩ <| ?_
    first
      | (subst hs_1; exact hQ)
      | (have : w = 11 := by omega
         subst this; exact hQ)
  · skip
    refine r_tableIn (pc := 1) 90 dX6_wordOf_1 (by omega) (by omega) (by rw [hs_1]; rfl) (by decide) ?_
    refine r_ldcS (pc := 90) (k := 10) dX6_wordOf_90 rfl rfl <| r_aretO (pc := 92) dX6_wordOf_92 rfl ⟨Nat.le_of_ble_eq_true rfl, Nat.le_of_ble_eq_true rfl⟩ <| ?_
    first
      | (subst hs_1; exact hQ)
      | (have : w = 11 := by omega
         subst this; exact hQ)
  · skip
    refine r_tableOut (pc := 1) 93 dX6_wordOf_1 (by omega) hs_1 (by decide) ?_
    refine r_ldcS (pc := 93) (k := 11) dX6_wordOf_93 rfl rfl <| r_aretO (pc := 95) dX6_wordOf_95 rfl ⟨Nat.le_of_ble_eq_true rfl, Nat.le_of_ble_eq_true rfl⟩ <| ?_
    first
      | (subst hs_1; exact hQ)
      | (have : w = 11 := by omega
         subst this; exact hQ)
end TKC

