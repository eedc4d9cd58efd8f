/-! ===== leaves of the model ===== -/
section ML
variable {G : GT} {n : Nat} {h : Hp} {Q : PT}
theorem sp_in {x a b : Int} (hx : -9223372036854775808 ≤ x ∧ x < 9223372036854775808) (ha : -9223372036854775808 ≤ a ∧ a < 9223372036854775808) (hb : -9223372036854775808 ≤ b ∧ b < 9223372036854775808) (h1 : a ≤ x ∧ x ≤ b → Q (some (vI 1)) n h) (h0 : ¬ (a ≤ x ∧ x ≤ b) → Q (some (vI 0)) n h) : Cl G mX9_in [vJ x, vJ a, vJ b] n h Q := by
  refine cl_of (by decide) (Nat.le_of_ble_eq_true rfl) rfl ?_
  refine r_lload_n (pc := 0) dX9_in_0 rfl <| r_lload_n (pc := 1) dX9_in_1 rfl <| r_lc_lt (pc := 2) 17 dX9_in_2 dX9_in_3 (by decide) (by omega) (by omega) (fun hc_2 => ?_) (fun hc_2 => ?_)
  · skip
    refine r_iconst (pc := 17) dX9_in_17 <| r_zret (pc := 18) dX9_in_18 rfl (by omega) ⟨Nat.le_of_ble_eq_true rfl, Nat.le_of_ble_eq_true rfl⟩ <| ?_
    first | exact h1 (by omega) | exact h0 (by omega)
  · skip
    refine r_lload_n (pc := 6) dX9_in_6 rfl <| r_lload (pc := 7) dX9_in_7 rfl <| r_lc_gt (pc := 9) 17 dX9_in_9 dX9_in_10 (by decide) (by omega) (by omega) (fun hc_9 => ?_) (fun hc_9 => ?_)
    · skip
      refine r_iconst (pc := 17) dX9_in_17 <| r_zret (pc := 18) dX9_in_18 rfl (by omega) ⟨Nat.le_of_ble_eq_true rfl, Nat.le_of_ble_eq_true rfl⟩ <| ?_
      first | exact h1 (by omega) | exact h0 (by omega)
    · skip
      refine r_iconst (pc := 13) dX9_in_13 <| r_goto (pc := 14) 18 dX9_in_14 (by decide) <| r_zret (pc := 18) dX9_in_18 rfl (by omega) ⟨Nat.le_of_ble_eq_true rfl, Nat.le_of_ble_eq_true rfl⟩ <| ?_
      first | exact h1 (by omega) | exact h0 (by omega)
theorem sp_refuses {e : Nat → Int} {rf : Int → Int} {s v : Int} (hM : h 45 = some (aO 9 (mF e))) (hR : h 49 = some (aA 3 rf)) (hs : 0 ≤ s ∧ s < 3) (hQ : ∀ h', h' 49 = some (aA 3 (iu rf s (rf s + 1))) → Fr (fun q => q = 49) h h' → Q (some (vI v)) n h') : Cl G mX9_refuses [vR 45, vI s, vI v] n h Q := by
  unfold mF at hM
  refine cl_of (by decide) (Nat.le_of_ble_eq_true rfl) rfl ?_
  refine r_aload_n (pc := 0) dX9_refuses_0 rfl <| r_getf (pc := 1) dX9_refuses_1 fA_X9_20 hM rfl <| r_iload_n (pc := 4) dX9_refuses_4 rfl <| r_dup2 (pc := 5) dX9_refuses_5 ⟨rfl, rfl⟩ <| r_iald (pc := 6) dX9_refuses_6 hR (by omega) (by decide) <| r_iconst (pc := 7) dX9_refuses_7 <| r_iadd (pc := 8) dX9_refuses_8 <| r_iast (pc := 9) dX9_refuses_9 hR (by omega) (by decide) (fun h_9 hR hF_9 => ?_)
  replace hM := hF_9.keep hM (by omega)
  refine r_iload_n (pc := 10) dX9_refuses_10 rfl <| r_iret (pc := 11) dX9_refuses_11 rfl ⟨Nat.le_of_ble_eq_true rfl, Nat.le_of_ble_eq_true rfl⟩ <| ?_
  exact hQ _ hR hF_9
theorem sp_mbad {e : Nat → Int} {rf : Int → Int} (hM : h 45 = some (aO 9 (mF e))) (hR : h 49 = some (aA 3 rf)) (hQ : ∀ h', h' 49 = some (aA 3 (iu rf 0 (rf 0 + 1))) → Fr (fun q => q = 49) h h' → Q (some (vI (-2))) n h') : Cl G mX9_bad [vR 45] n h Q := by
  refine cl_of (by decide) (Nat.le_of_ble_eq_true rfl) rfl ?_
  refine r_aload_n (pc := 0) dX9_bad_0 rfl <| r_iconst (pc := 1) dX9_bad_1 <| r_bipush (pc := 2) dX9_bad_2 (by decide) <| cVi [_, _] (pc := 4) dX9_bad_4 k_X9_51 ⟨⟨Nat.le_of_ble_eq_true rfl, Nat.le_of_ble_eq_true rfl⟩, ⟨Nat.le_of_ble_eq_true rfl, Nat.le_of_ble_eq_true rfl⟩, Nat.le_of_ble_eq_true rfl⟩ ⟨rfl, rfl⟩ hM ?_
  refine sp_refuses hM hR (by omega) (fun h1 hR hF => ?_)
  refine ⟨_, rfl, ?_⟩
  refine r_iret (pc := 7) dX9_bad_7 rfl ⟨Nat.le_of_ble_eq_true rfl, Nat.le_of_ble_eq_true rfl⟩ <| ?_
  exact hQ _ hR hF
theorem sp_mno {e : Nat → Int} {rf : Int → Int} (hM : h 45 = some (aO 9 (mF e))) (hR : h 49 = some (aA 3 rf)) (hQ : ∀ h', h' 49 = some (aA 3 (iu rf 1 (rf 1 + 1))) → Fr (fun q => q = 49) h h' → Q (some (vI (-3))) n h') : Cl G mX9_no [vR 45] n h Q := by
  refine cl_of (by decide) (Nat.le_of_ble_eq_true rfl) rfl ?_
  refine r_aload_n (pc := 0) dX9_no_0 rfl <| r_iconst (pc := 1) dX9_no_1 <| r_bipush (pc := 2) dX9_no_2 (by decide) <| cVi [_, _] (pc := 4) dX9_no_4 k_X9_51 ⟨⟨Nat.le_of_ble_eq_true rfl, Nat.le_of_ble_eq_true rfl⟩, ⟨Nat.le_of_ble_eq_true rfl, Nat.le_of_ble_eq_true rfl⟩, Nat.le_of_ble_eq_true rfl⟩ ⟨rfl, rfl⟩ hM ?_
  refine sp_refuses hM hR (by omega) (fun h1 hR hF => ?_)
  refine ⟨_, rfl, ?_⟩
  refine r_iret (pc := 7) dX9_no_7 rfl ⟨Nat.le_of_ble_eq_true rfl, Nat.le_of_ble_eq_true rfl⟩ <| ?_
  exact hQ _ hR hF
theorem sp_mfull {e : Nat → Int} {rf : Int → Int} (hM : h 45 = some (aO 9 (mF e))) (hR : h 49 = some (aA 3 rf)) (hQ : ∀ h', h' 49 = some (aA 3 (iu rf 2 (rf 2 + 1))) → Fr (fun q => q = 49) h h' → Q (some (vI (-4))) n h') : Cl G mX9_full [vR 45] n h Q := by
  refine cl_of (by decide) (Nat.le_of_ble_eq_true rfl) rfl ?_
  refine r_aload_n (pc := 0) dX9_full_0 rfl <| r_iconst (pc := 1) dX9_full_1 <| r_bipush (pc := 2) dX9_full_2 (by decide) <| cVi [_, _] (pc := 4) dX9_full_4 k_X9_51 ⟨⟨Nat.le_of_ble_eq_true rfl, Nat.le_of_ble_eq_true rfl⟩, ⟨Nat.le_of_ble_eq_true rfl, Nat.le_of_ble_eq_true rfl⟩, Nat.le_of_ble_eq_true rfl⟩ ⟨rfl, rfl⟩ hM ?_
  refine sp_refuses hM hR (by omega) (fun h1 hR hF => ?_)
  refine ⟨_, rfl, ?_⟩
  refine r_iret (pc := 7) dX9_full_7 rfl ⟨Nat.le_of_ble_eq_true rfl, Nat.le_of_ble_eq_true rfl⟩ <| ?_
  exact hQ _ hR hF
theorem sp_isPerson {e : Nat → Int} {bk : Int → Int} {p : Int} (hM : h 45 = some (aO 9 (mF e))) (hB : h 46 = some (aA 480 bk)) (hb : Bd bk (-1) 255) (hp : -2147483648 ≤ p ∧ p < 2147483648) (h1 : 0 ≤ p ∧ p < bk 0 → Q (some (vI 1)) n h) (h0 : ¬ (0 ≤ p ∧ p < bk 0) → Q (some (vI 0)) n h) : Cl G mX9_isPerson [vR 45, vI p] n h Q := by
  unfold mF at hM
  have b0 := hb 0
  refine cl_of (by decide) (Nat.le_of_ble_eq_true rfl) rfl ?_
  refine r_iload_n (pc := 0) dX9_isPerson_0 rfl <| r_i2l (pc := 1) dX9_isPerson_1 (by omega) <| r_lconst (pc := 2) (v := 0) dX9_isPerson_2 rfl <| r_aload_n (pc := 3) dX9_isPerson_3 rfl <| r_getf (pc := 4) dX9_isPerson_4 fA_X9_7 hM rfl <| r_iconst (pc := 7) dX9_isPerson_7 <| r_iald (pc := 8) dX9_isPerson_8 hB (by omega) (by decide) <| r_iconst (pc := 9) dX9_isPerson_9 <| r_isub (pc := 10) dX9_isPerson_10 <| r_i2l (pc := 11) dX9_isPerson_11 (by omega) <| cSi [_, _, _] (pc := 12) dX9_isPerson_12 k_X9_55 ⟨⟨Nat.le_of_ble_eq_true rfl, Nat.le_of_ble_eq_true rfl⟩, ⟨Nat.le_of_ble_eq_true rfl, Nat.le_of_ble_eq_true rfl⟩, Nat.le_of_ble_eq_true rfl⟩ ⟨rfl, rfl⟩ ?_
  refine sp_in (by omega) (by omega) (by omega) (fun q => ?_) (fun q => ?_)
  · skip
    refine ⟨_, rfl, ?_⟩
    refine r_zret (pc := 15) dX9_isPerson_15 rfl (by omega) ⟨Nat.le_of_ble_eq_true rfl, Nat.le_of_ble_eq_true rfl⟩ <| ?_
    first | exact h1 (by omega) | exact h0 (by omega)
  · skip
    refine ⟨_, rfl, ?_⟩
    refine r_zret (pc := 15) dX9_isPerson_15 rfl (by omega) ⟨Nat.le_of_ble_eq_true rfl, Nat.le_of_ble_eq_true rfl⟩ <| ?_
    first | exact h1 (by omega) | exact h0 (by omega)
theorem sp_areTwo {e : Nat → Int} {bk : Int → Int} {p r : Int} (hM : h 45 = some (aO 9 (mF e))) (hB : h 46 = some (aA 480 bk)) (hb : Bd bk (-1) 255) (hp : -2147483648 ≤ p ∧ p < 2147483648) (hr : -2147483648 ≤ r ∧ r < 2147483648) (h1 : (0 ≤ p ∧ p < bk 0) ∧ (0 ≤ r ∧ r < bk 0) ∧ p ≠ r → Q (some (vI 1)) n h) (h0 : ¬ ((0 ≤ p ∧ p < bk 0) ∧ (0 ≤ r ∧ r < bk 0) ∧ p ≠ r) → Q (some (vI 0)) n h) : Cl G mX9_areTwo [vR 45, vI p, vI r] n h Q := by
  refine cl_of (by decide) (Nat.le_of_ble_eq_true rfl) rfl ?_
  refine r_aload_n (pc := 0) dX9_areTwo_0 rfl <| r_iload_n (pc := 1) dX9_areTwo_1 rfl <| cVi [_] (pc := 2) dX9_areTwo_2 k_X9_59 ⟨⟨Nat.le_of_ble_eq_true rfl, Nat.le_of_ble_eq_true rfl⟩, ⟨Nat.le_of_ble_eq_true rfl, Nat.le_of_ble_eq_true rfl⟩, Nat.le_of_ble_eq_true rfl⟩ ⟨rfl, rfl⟩ hM ?_
  refine sp_isPerson hM hB hb hp (fun q2 => ?_) (fun q2 => ?_)
  · skip
    refine ⟨_, rfl, ?_⟩
    refine r_if_eq (pc := 5) 25 dX9_areTwo_5 (by decide) (by decide) (fun q => absurd q (by decide)) (fun _ => ?_)
    refine r_aload_n (pc := 8) dX9_areTwo_8 rfl <| r_iload_n (pc := 9) dX9_areTwo_9 rfl <| cVi [_] (pc := 10) dX9_areTwo_10 k_X9_59 ⟨⟨Nat.le_of_ble_eq_true rfl, Nat.le_of_ble_eq_true rfl⟩, ⟨Nat.le_of_ble_eq_true rfl, Nat.le_of_ble_eq_true rfl⟩, Nat.le_of_ble_eq_true rfl⟩ ⟨rfl, rfl⟩ hM ?_
    refine sp_isPerson hM hB hb hr (fun q3 => ?_) (fun q3 => ?_)
    · skip
      refine ⟨_, rfl, ?_⟩
      refine r_if_eq (pc := 13) 25 dX9_areTwo_13 (by decide) (by decide) (fun q => absurd q (by decide)) (fun _ => ?_)
      refine r_iload_n (pc := 16) dX9_areTwo_16 rfl <| r_iload_n (pc := 17) dX9_areTwo_17 rfl <| r_icmp_eq (pc := 18) 25 dX9_areTwo_18 (by decide) (by omega) (by omega) (fun hc_18 => ?_) (fun hc_18 => ?_)
      · skip
        refine r_iconst (pc := 25) dX9_areTwo_25 <| r_zret (pc := 26) dX9_areTwo_26 rfl (by omega) ⟨Nat.le_of_ble_eq_true rfl, Nat.le_of_ble_eq_true rfl⟩ <| ?_
        first | exact h1 (by omega) | exact h0 (by omega)
      · skip
        refine r_iconst (pc := 21) dX9_areTwo_21 <| r_goto (pc := 22) 26 dX9_areTwo_22 (by decide) <| r_zret (pc := 26) dX9_areTwo_26 rfl (by omega) ⟨Nat.le_of_ble_eq_true rfl, Nat.le_of_ble_eq_true rfl⟩ <| ?_
        first | exact h1 (by omega) | exact h0 (by omega)
    · skip
      refine ⟨_, rfl, ?_⟩
      refine r_if_eq (pc := 13) 25 dX9_areTwo_13 (by decide) (by decide) (fun _ => ?_) (fun q => absurd q (by decide))
      refine r_iconst (pc := 25) dX9_areTwo_25 <| r_zret (pc := 26) dX9_areTwo_26 rfl (by omega) ⟨Nat.le_of_ble_eq_true rfl, Nat.le_of_ble_eq_true rfl⟩ <| ?_
      first | exact h1 (by omega) | exact h0 (by omega)
  · skip
    refine ⟨_, rfl, ?_⟩
    refine r_if_eq (pc := 5) 25 dX9_areTwo_5 (by decide) (by decide) (fun _ => ?_) (fun q => absurd q (by decide))
    refine r_iconst (pc := 25) dX9_areTwo_25 <| r_zret (pc := 26) dX9_areTwo_26 rfl (by omega) ⟨Nat.le_of_ble_eq_true rfl, Nat.le_of_ble_eq_true rfl⟩ <| ?_
    first | exact h1 (by omega) | exact h0 (by omega)
theorem sp_countsOf {e : Nat → Int} {bk : Int → Int} {p w : Int} (hM : h 45 = some (aO 9 (mF e))) (hB : h 46 = some (aA 480 bk)) (hb : Bd bk (-1) 255) (hp : 0 ≤ p ∧ p < 8) (hw : 0 ≤ w ∧ w < 3) (hQ : Q (some (vI (cnt bk p w))) n h) : Cl G mX9_countsOf [vR 45, vI p, vI w] n h Q := by
  unfold mF at hM
  have b0 := hb (4 + 4 * p)
  have b1 := hb (4 + 4 * p + 1 + w)
  refine cl_of (by decide) (Nat.le_of_ble_eq_true rfl) rfl ?_
  refine r_aload_n (pc := 0) dX9_countsOf_0 rfl <| r_getf (pc := 1) dX9_countsOf_1 fA_X9_7 hM rfl <| r_iconst (pc := 4) dX9_countsOf_4 <| r_iconst (pc := 5) dX9_countsOf_5 <| r_iload_n (pc := 6) dX9_countsOf_6 rfl <| r_imul (pc := 7) dX9_countsOf_7 <| r_iadd (pc := 8) dX9_countsOf_8 <| r_iald (pc := 9) dX9_countsOf_9 hB (by omega) (by decide) <| r_istoren_3 (pc := 10) dX9_countsOf_10 rfl <| r_aload_n (pc := 11) dX9_countsOf_11 rfl <| r_getf (pc := 12) dX9_countsOf_12 fA_X9_7 hM rfl <| r_iconst (pc := 15) dX9_countsOf_15 <| r_iconst (pc := 16) dX9_countsOf_16 <| r_iload_n (pc := 17) dX9_countsOf_17 rfl <| r_imul (pc := 18) dX9_countsOf_18 <| r_iadd (pc := 19) dX9_countsOf_19 <| r_iconst (pc := 20) dX9_countsOf_20 <| r_iadd (pc := 21) dX9_countsOf_21 <| r_iload_n (pc := 22) dX9_countsOf_22 rfl <| r_iadd (pc := 23) dX9_countsOf_23 <| r_iald (pc := 24) dX9_countsOf_24 hB (by omega) (by decide) <| r_istore_4 (pc := 25) dX9_countsOf_25 rfl <| r_iload_n (pc := 27) dX9_countsOf_27 rfl <| r_if_ne (pc := 28) 56 dX9_countsOf_28 (by decide) (by omega) (fun hc_28 => ?_) (fun hc_28 => ?_)
  · skip
    refine r_iload_n (pc := 56) dX9_countsOf_56 rfl <| r_iconst (pc := 57) dX9_countsOf_57 <| r_icmp_ne (pc := 58) 81 dX9_countsOf_58 (by decide) (by omega) (by omega) (fun hc_58 => ?_) (fun hc_58 => ?_)
    · skip
      refine r_iload_n (pc := 81) dX9_countsOf_81 rfl <| r_iconst (pc := 82) dX9_countsOf_82 <| r_icmp_ne (pc := 83) 93 dX9_countsOf_83 (by decide) (by omega) (by omega) (fun hc_83 => ?_) (fun hc_83 => ?_)
      · skip
        refine r_iload_n (pc := 93) dX9_countsOf_93 rfl <| r_iconst (pc := 94) dX9_countsOf_94 <| r_icmp_eq (pc := 95) 103 dX9_countsOf_95 (by decide) (by omega) (by omega) (fun hc_95 => ?_) (fun hc_95 => ?_)
        · skip
          refine r_iconst (pc := 103) dX9_countsOf_103 <| r_iload (pc := 104) dX9_countsOf_104 rfl <| r_imul (pc := 106) dX9_countsOf_106 <| r_goto (pc := 107) 112 dX9_countsOf_107 (by decide) <| r_iret (pc := 112) dX9_countsOf_112 rfl ⟨Nat.le_of_ble_eq_true rfl, Nat.le_of_ble_eq_true rfl⟩ <| ?_
          exact qI (by unfold cnt; (repeat' split) <;> omega) hQ
        · skip
          refine r_iload_n (pc := 98) dX9_countsOf_98 rfl <| r_iconst (pc := 99) dX9_countsOf_99 <| r_icmp_ne (pc := 100) 110 dX9_countsOf_100 (by decide) (by omega) (by omega) (fun hc_100 => ?_) (fun hc_100 => ?_)
          · skip
            refine r_iload (pc := 110) dX9_countsOf_110 rfl <| r_iret (pc := 112) dX9_countsOf_112 rfl ⟨Nat.le_of_ble_eq_true rfl, Nat.le_of_ble_eq_true rfl⟩ <| ?_
            exact qI (by unfold cnt; (repeat' split) <;> omega) hQ
          · skip
            refine r_iconst (pc := 103) dX9_countsOf_103 <| r_iload (pc := 104) dX9_countsOf_104 rfl <| r_imul (pc := 106) dX9_countsOf_106 <| r_goto (pc := 107) 112 dX9_countsOf_107 (by decide) <| r_iret (pc := 112) dX9_countsOf_112 rfl ⟨Nat.le_of_ble_eq_true rfl, Nat.le_of_ble_eq_true rfl⟩ <| ?_
            exact qI (by unfold cnt; (repeat' split) <;> omega) hQ
      · skip
        refine r_iload (pc := 86) dX9_countsOf_86 rfl <| r_iconst (pc := 88) dX9_countsOf_88 <| r_iadd (pc := 89) dX9_countsOf_89 <| r_goto (pc := 90) 112 dX9_countsOf_90 (by decide) <| r_iret (pc := 112) dX9_countsOf_112 rfl ⟨Nat.le_of_ble_eq_true rfl, Nat.le_of_ble_eq_true rfl⟩ <| ?_
        exact qI (by unfold cnt; (repeat' split) <;> omega) hQ
    · skip
      refine r_iload_n (pc := 61) dX9_countsOf_61 rfl <| r_iconst (pc := 62) dX9_countsOf_62 <| r_icmp_eq (pc := 63) 71 dX9_countsOf_63 (by decide) (by omega) (by omega) (fun hc_63 => ?_) (fun hc_63 => ?_)
      · skip
        refine r_iload (pc := 71) dX9_countsOf_71 rfl <| r_iconst (pc := 73) dX9_countsOf_73 <| r_iadd (pc := 74) dX9_countsOf_74 <| r_goto (pc := 75) 80 dX9_countsOf_75 (by decide) <| r_iret (pc := 80) dX9_countsOf_80 rfl ⟨Nat.le_of_ble_eq_true rfl, Nat.le_of_ble_eq_true rfl⟩ <| ?_
        exact qI (by unfold cnt; (repeat' split) <;> omega) hQ
      · skip
        refine r_iload_n (pc := 66) dX9_countsOf_66 rfl <| r_iconst (pc := 67) dX9_countsOf_67 <| r_icmp_ne (pc := 68) 78 dX9_countsOf_68 (by decide) (by omega) (by omega) (fun hc_68 => ?_) (fun hc_68 => ?_)
        · skip
          refine r_iload (pc := 78) dX9_countsOf_78 rfl <| r_iret (pc := 80) dX9_countsOf_80 rfl ⟨Nat.le_of_ble_eq_true rfl, Nat.le_of_ble_eq_true rfl⟩ <| ?_
          exact qI (by unfold cnt; (repeat' split) <;> omega) hQ
        · skip
          refine r_iload (pc := 71) dX9_countsOf_71 rfl <| r_iconst (pc := 73) dX9_countsOf_73 <| r_iadd (pc := 74) dX9_countsOf_74 <| r_goto (pc := 75) 80 dX9_countsOf_75 (by decide) <| r_iret (pc := 80) dX9_countsOf_80 rfl ⟨Nat.le_of_ble_eq_true rfl, Nat.le_of_ble_eq_true rfl⟩ <| ?_
          exact qI (by unfold cnt; (repeat' split) <;> omega) hQ
  · skip
    refine r_iload_n (pc := 31) dX9_countsOf_31 rfl <| r_iconst (pc := 32) dX9_countsOf_32 <| r_icmp_ne (pc := 33) 40 dX9_countsOf_33 (by decide) (by omega) (by omega) (fun hc_33 => ?_) (fun hc_33 => ?_)
    · skip
      refine r_iload_n (pc := 40) dX9_countsOf_40 rfl <| r_iconst (pc := 41) dX9_countsOf_41 <| r_icmp_ne (pc := 42) 53 dX9_countsOf_42 (by decide) (by omega) (by omega) (fun hc_42 => ?_) (fun hc_42 => ?_)
      · skip
        refine r_iload (pc := 53) dX9_countsOf_53 rfl <| r_iret (pc := 55) dX9_countsOf_55 rfl ⟨Nat.le_of_ble_eq_true rfl, Nat.le_of_ble_eq_true rfl⟩ <| ?_
        exact qI (by unfold cnt; (repeat' split) <;> omega) hQ
      · skip
        refine r_iload (pc := 45) dX9_countsOf_45 rfl <| r_bipush (pc := 47) dX9_countsOf_47 (by decide) <| r_iadd (pc := 49) dX9_countsOf_49 <| r_goto (pc := 50) 55 dX9_countsOf_50 (by decide) <| r_iret (pc := 55) dX9_countsOf_55 rfl ⟨Nat.le_of_ble_eq_true rfl, Nat.le_of_ble_eq_true rfl⟩ <| ?_
        exact qI (by unfold cnt; (repeat' split) <;> omega) hQ
    · skip
      refine r_iconst (pc := 36) dX9_countsOf_36 <| r_goto (pc := 37) 55 dX9_countsOf_37 (by decide) <| r_iret (pc := 55) dX9_countsOf_55 rfl ⟨Nat.le_of_ble_eq_true rfl, Nat.le_of_ble_eq_true rfl⟩ <| ?_
      exact qI (by unfold cnt; (repeat' split) <;> omega) hQ
theorem sp_lastOf {e : Nat → Int} {bk : Int → Int} {x z : Int} (hM : h 45 = some (aO 9 (mF e))) (hB : h 46 = some (aA 480 bk)) (hp : 0 ≤ x ∧ x < 8) (hw : 0 ≤ z ∧ z < 8) (hQ : Q (some (vI (lastB bk x z))) n h) : Cl G mX9_lastOf [vR 45, vI x, vI z] n h Q := by
  unfold mF at hM
  refine cl_of (by decide) (Nat.le_of_ble_eq_true rfl) rfl ?_
  refine r_aload_n (pc := 0) dX9_lastOf_0 rfl <| r_getf (pc := 1) dX9_lastOf_1 fA_X9_7 hM rfl <| r_bipush (pc := 4) dX9_lastOf_4 (by decide) <| r_iload_n (pc := 6) dX9_lastOf_6 rfl <| r_iload_n (pc := 7) dX9_lastOf_7 rfl <| r_icmp_ge (pc := 8) 20 dX9_lastOf_8 (by decide) (by omega) (by omega) (fun hc_8 => ?_) (fun hc_8 => ?_)
  · skip
    refine r_bipush (pc := 20) dX9_lastOf_20 (by decide) <| r_iload_n (pc := 22) dX9_lastOf_22 rfl <| r_imul (pc := 23) dX9_lastOf_23 <| r_iload_n (pc := 24) dX9_lastOf_24 rfl <| r_iadd (pc := 25) dX9_lastOf_25 <| r_iadd (pc := 26) dX9_lastOf_26 <| r_iald (pc := 27) dX9_lastOf_27 hB (by omega) (by decide) <| r_iret (pc := 28) dX9_lastOf_28 rfl ⟨Nat.le_of_ble_eq_true rfl, Nat.le_of_ble_eq_true rfl⟩ <| ?_
    exact qI (by unfold lastB; congr 2; (repeat' split) <;> omega) hQ
  · skip
    refine r_bipush (pc := 11) dX9_lastOf_11 (by decide) <| r_iload_n (pc := 13) dX9_lastOf_13 rfl <| r_imul (pc := 14) dX9_lastOf_14 <| r_iload_n (pc := 15) dX9_lastOf_15 rfl <| r_iadd (pc := 16) dX9_lastOf_16 <| r_goto (pc := 17) 26 dX9_lastOf_17 (by decide) <| r_iadd (pc := 26) dX9_lastOf_26 <| r_iald (pc := 27) dX9_lastOf_27 hB (by omega) (by decide) <| r_iret (pc := 28) dX9_lastOf_28 rfl ⟨Nat.le_of_ble_eq_true rfl, Nat.le_of_ble_eq_true rfl⟩ <| ?_
    exact qI (by unfold lastB; congr 2; (repeat' split) <;> omega) hQ
theorem sp_more {a b x z k : Int} (hx : -2147483000 ≤ x ∧ x < 1000000000) (hz : -1000000000 ≤ z ∧ z < 1000000000) (hx2 : -1000000000 ≤ x) (hk : -1000000000 ≤ k ∧ k < 1000000000) (hQ : Q (some (vI (moreF a b x z k))) n h) : Cl G mX9_more [vI a, vI b, vI x, vI z, vI k] n h Q := by
  refine cl_of (by decide) (Nat.le_of_ble_eq_true rfl) rfl ?_
  refine r_iload_n (pc := 0) dX9_more_0 rfl <| r_iload_n (pc := 1) dX9_more_1 rfl <| r_isub (pc := 2) dX9_more_2 <| r_iload (pc := 3) dX9_more_3 rfl <| r_icmp_lt (pc := 5) 12 dX9_more_5 (by decide) (by omega) (by omega) (fun hc_5 => ?_) (fun hc_5 => ?_)
  · skip
    refine r_iload_n (pc := 12) dX9_more_12 rfl <| r_iload_n (pc := 13) dX9_more_13 rfl <| r_isub (pc := 14) dX9_more_14 <| r_iload (pc := 15) dX9_more_15 rfl <| r_icmp_lt (pc := 17) 24 dX9_more_17 (by decide) (by omega) (by omega) (fun hc_17 => ?_) (fun hc_17 => ?_)
    · skip
      refine r_iconst (pc := 24) dX9_more_24 <| r_iret (pc := 25) dX9_more_25 rfl ⟨Nat.le_of_ble_eq_true rfl, Nat.le_of_ble_eq_true rfl⟩ <| ?_
      exact qI (by unfold moreF; (repeat' split) <;> omega) hQ
    · skip
      refine r_iload_n (pc := 20) dX9_more_20 rfl <| r_goto (pc := 21) 25 dX9_more_21 (by decide) <| r_iret (pc := 25) dX9_more_25 rfl ⟨Nat.le_of_ble_eq_true rfl, Nat.le_of_ble_eq_true rfl⟩ <| ?_
      exact qI (by unfold moreF; (repeat' split) <;> omega) hQ
  · skip
    refine r_iload_n (pc := 8) dX9_more_8 rfl <| r_goto (pc := 9) 25 dX9_more_9 (by decide) <| r_iret (pc := 25) dX9_more_25 rfl ⟨Nat.le_of_ble_eq_true rfl, Nat.le_of_ble_eq_true rfl⟩ <| ?_
    exact qI (by unfold moreF; (repeat' split) <;> omega) hQ
end ML

