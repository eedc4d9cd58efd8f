/-! ===== the class: what a token does to the book ===== -/
section BK
variable {G : GT} {n : Nat} {h : Hp} {Q : PT} {b tt : Nat} {fa sz len nx pl va k : Int} {ab : Nat} {ro co le : Int → Int}
theorem sp_tC (hB : h b = some (aO 0 [vR (b + 1), vI fa, vI sz, vI (ab : Nat), vR (b + 3), vR (b + 4), vR (b + 5), vR (b + 6)])) (h4 : h (b + 4) = some (aA 9 co)) (hk : 0 ≤ k ∧ k ≤ 15) (hz : 0 ≤ sz ∧ sz ≤ 9) (hz2 : k < 10 → sz < 9) (h0 : 10 ≤ k → Q (some (vI 6)) n h) (h1 : k < 10 → ∀ h', h' (b + 4) = some (aA 9 (iu co sz k)) → Fr (fun q => q = b + 4) h h' → Q (some (vI 4)) n h') : Cl G mX0_takeCourtesy [vR b, vI k] n h Q := by
  refine cl_of (by decide) (Nat.le_of_ble_eq_true rfl) rfl ?_
  refine r_iload_n (pc := 0) dX0_takeCourtesy_0 rfl <| r_bipush (pc := 1) dX0_takeCourtesy_1 (by decide) <| r_icmp_lt (pc := 3) 9 dX0_takeCourtesy_3 (by decide) (by omega) (by omega) (fun hc_3 => ?_) (fun hc_3 => ?_)
  · skip
    refine r_aload_n (pc := 9) dX0_takeCourtesy_9 rfl <| r_getf (pc := 10) dX0_takeCourtesy_10 fA_X0_32 hB rfl <| r_aload_n (pc := 13) dX0_takeCourtesy_13 rfl <| r_getf (pc := 14) dX0_takeCourtesy_14 fA_X0_22 hB rfl <| r_iload_n (pc := 17) dX0_takeCourtesy_17 rfl <| r_iast (pc := 18) dX0_takeCourtesy_18 h4 (by omega) (by decide) (fun h_18 h4 hF_18 => ?_)
    replace hB := hF_18.keep hB (by omega)
    refine r_iconst (pc := 19) dX0_takeCourtesy_19 <| r_iret (pc := 20) dX0_takeCourtesy_20 rfl ⟨Nat.le_of_ble_eq_true rfl, Nat.le_of_ble_eq_true rfl⟩ <| ?_
    exact h1 (by omega) _ h4 hF_18
  · skip
    refine r_bipush (pc := 6) dX0_takeCourtesy_6 (by decide) <| r_iret (pc := 8) dX0_takeCourtesy_8 rfl ⟨Nat.le_of_ble_eq_true rfl, Nat.le_of_ble_eq_true rfl⟩ <| ?_
    exact h0 (by omega)
theorem sp_tA (hB : h b = some (aO 0 [vR (b + 1), vI fa, vI sz, vI (ab : Nat), vR (b + 3), vR (b + 4), vR (b + 5), vR (b + 6)])) (h4 : h (b + 4) = some (aA 9 co)) (hk : 0 ≤ k ∧ k ≤ 15) (hz : 0 ≤ sz ∧ sz < 9) (h0 : 10 ≤ k → ¬ k = 11 → Q (some (vI 6)) n h) (h1 : k < 10 → ∀ h', h' (b + 4) = some (aA 9 (iu co sz k)) → Fr (fun q => q = b + 4) h h' → Q (some (vI 4)) n h')
    (h2 : k = 11 → ∀ h', h' b = some (aO 0 [vR (b + 1), vI fa, vI sz, vI (ab ||| 2 ^ sz.toNat : Nat), vR (b + 3), vR (b + 4), vR (b + 5), vR (b + 6)]) → Fr (fun q => q = b) h h' → Q (some (vI 3)) n h') : Cl G mX0_takeAgain [vR b, vI k] n h Q := by
  have e1 : Int32.ofInt 1 <<< (Int32.ofInt sz &&& 31) = Int32.ofInt ((2 ^ sz.toNat : Nat) : Int) := by
    have hp : (2 ^ sz.toNat : Nat) ≤ 2 ^ 9 := Nat.pow_le_pow_right (by omega) (by omega)
    have := i_shl (x := 1) (j := sz) (by omega) (by omega) (by omega)
    simpa using this
  have e2 := i_orN ab (2 ^ sz.toNat)
  refine cl_of (by decide) (Nat.le_of_ble_eq_true rfl) rfl ?_
  refine r_iload_n (pc := 0) dX0_takeAgain_0 rfl <| r_bipush (pc := 1) dX0_takeAgain_1 (by decide) <| r_icmp_eq (pc := 3) 12 dX0_takeAgain_3 (by decide) (by omega) (by omega) (fun hc_3 => ?_) (fun hc_3 => ?_)
  · skip
    refine r_aload_n (pc := 12) dX0_takeAgain_12 rfl <| r_dup (pc := 13) dX0_takeAgain_13 rfl <| r_getf (pc := 14) dX0_takeAgain_14 fA_X0_25 hB rfl <| r_iconst (pc := 17) dX0_takeAgain_17 <| r_aload_n (pc := 18) dX0_takeAgain_18 rfl <| r_getf (pc := 19) dX0_takeAgain_19 fA_X0_22 hB rfl <| r_ishl (pc := 22) ((2 ^ sz.toNat : Nat) : Int) dX0_takeAgain_22 e1 <| r_ior (pc := 23) ((ab ||| 2 ^ sz.toNat : Nat) : Int) dX0_takeAgain_23 e2 <| r_putf (pc := 24) dX0_takeAgain_24 fP_X0_25 rfl rfl hB rfl (fun h_24 hB hF_24 => ?_)
    simp only [List.set_cons_zero, List.set_cons_succ] at hB
    replace h4 := hF_24.keep h4 (by omega)
    refine r_iconst (pc := 27) dX0_takeAgain_27 <| r_iret (pc := 28) dX0_takeAgain_28 rfl ⟨Nat.le_of_ble_eq_true rfl, Nat.le_of_ble_eq_true rfl⟩ <| ?_
    exact h2 hc_3 _ hB hF_24
  · skip
    refine r_aload_n (pc := 6) dX0_takeAgain_6 rfl <| r_iload_n (pc := 7) dX0_takeAgain_7 rfl <| cVi [_] (pc := 8) dX0_takeAgain_8 k_X0_73 ⟨⟨Nat.le_of_ble_eq_true rfl, Nat.le_of_ble_eq_true rfl⟩, ⟨Nat.le_of_ble_eq_true rfl, Nat.le_of_ble_eq_true rfl⟩, Nat.le_of_ble_eq_true rfl⟩ ⟨rfl, rfl⟩ hB ?_
    refine sp_tC hB h4 hk (by omega) (by omega) (fun q1 => ?_) (fun q1 h2 g1 g2 => ?_)
    · skip
      refine ⟨_, rfl, ?_⟩
      refine r_iret (pc := 11) dX0_takeAgain_11 rfl ⟨Nat.le_of_ble_eq_true rfl, Nat.le_of_ble_eq_true rfl⟩ <| ?_
      first | exact h0 q1 hc_3 | exact h1 q1 _ g1 g2
    · skip
      refine ⟨_, rfl, ?_⟩
      refine r_iret (pc := 11) dX0_takeAgain_11 rfl ⟨Nat.le_of_ble_eq_true rfl, Nat.le_of_ble_eq_true rfl⟩ <| ?_
      first | exact h0 q1 hc_3 | exact h1 q1 _ g1 g2
theorem sp_tR (hB : h b = some (aO 0 [vR (b + 1), vI fa, vI sz, vI (ab : Nat), vR (b + 3), vR (b + 4), vR (b + 5), vR (b + 6)])) (hT : h (b + 1) = some (aO 6 [vR tt, vI len, vI nx, vI pl, vI va])) (h3 : h (b + 3) = some (aA 9 ro)) (hk : 0 ≤ k ∧ k ≤ 15) (hz : 0 ≤ sz ∧ sz < 9) (hv : k = 12 → -10000 ≤ va ∧ va ≤ 10000) (h0 : ¬ (k = 12 ∧ 1 ≤ va ∧ va ≤ 9) → Q (some (vI 6)) n h) (h1 : k = 12 → 1 ≤ va ∧ va ≤ 9 → ∀ h', h' (b + 3) = some (aA 9 (iu ro sz va)) → Fr (fun q => q = b + 3) h h' → Q (some (vI 2)) n h') : Cl G mX0_takeRound [vR b, vI k] n h Q := by
  refine cl_of (by decide) (Nat.le_of_ble_eq_true rfl) rfl ?_
  refine r_iload_n (pc := 0) dX0_takeRound_0 rfl <| r_bipush (pc := 1) dX0_takeRound_1 (by decide) <| r_icmp_ne (pc := 3) 22 dX0_takeRound_3 (by decide) (by omega) (by omega) (fun hc_3 => ?_) (fun hc_3 => ?_)
  · skip
    refine r_bipush (pc := 22) dX0_takeRound_22 (by decide) <| r_iret (pc := 24) dX0_takeRound_24 rfl ⟨Nat.le_of_ble_eq_true rfl, Nat.le_of_ble_eq_true rfl⟩ <| ?_
    exact h0 (by omega)
  · skip
    refine r_aload_n (pc := 6) dX0_takeRound_6 rfl <| r_getf (pc := 7) dX0_takeRound_7 fA_X0_12 hB rfl <| r_getf (pc := 10) dX0_takeRound_10 fA_X0_82 hT rfl <| r_iconst (pc := 13) dX0_takeRound_13 <| r_bipush (pc := 14) dX0_takeRound_14 (by decide) <| cSNi [_, _, _] (pc := 16) dX0_takeRound_16 k_X0_85 ⟨⟨Nat.le_of_ble_eq_true rfl, Nat.le_of_ble_eq_true rfl⟩, ⟨Nat.le_of_ble_eq_true rfl, Nat.le_of_ble_eq_true rfl⟩, Nat.le_of_ble_eq_true rfl⟩ ⟨rfl, rfl⟩ ?_
    refine sp_within (by omega) (by omega) (by omega) (fun q1 => ?_) (fun q1 => ?_)
    · skip
      refine ⟨_, rfl, ?_⟩
      refine r_if_ne (pc := 19) 25 dX0_takeRound_19 (by decide) (by decide) (fun _ => ?_) (fun q => absurd q (by decide))
      refine r_aload_n (pc := 25) dX0_takeRound_25 rfl <| r_getf (pc := 26) dX0_takeRound_26 fA_X0_28 hB rfl <| r_aload_n (pc := 29) dX0_takeRound_29 rfl <| r_getf (pc := 30) dX0_takeRound_30 fA_X0_22 hB rfl <| r_aload_n (pc := 33) dX0_takeRound_33 rfl <| r_getf (pc := 34) dX0_takeRound_34 fA_X0_12 hB rfl <| r_getf (pc := 37) dX0_takeRound_37 fA_X0_82 hT rfl <| r_iast (pc := 40) dX0_takeRound_40 h3 (by omega) (by decide) (fun h_40 h3 hF_40 => ?_)
      replace hB := hF_40.keep hB (by omega)
      replace hT := hF_40.keep hT (by omega)
      refine r_iconst (pc := 41) dX0_takeRound_41 <| r_iret (pc := 42) dX0_takeRound_42 rfl ⟨Nat.le_of_ble_eq_true rfl, Nat.le_of_ble_eq_true rfl⟩ <| ?_
      exact h1 (by omega) (by omega) _ h3 hF_40
    · skip
      refine ⟨_, rfl, ?_⟩
      refine r_if_ne (pc := 19) 25 dX0_takeRound_19 (by decide) (by decide) (fun q => absurd q (by decide)) (fun _ => ?_)
      refine r_bipush (pc := 22) dX0_takeRound_22 (by decide) <| r_iret (pc := 24) dX0_takeRound_24 rfl ⟨Nat.le_of_ble_eq_true rfl, Nat.le_of_ble_eq_true rfl⟩ <| ?_
      exact h0 (by omega)
theorem sp_tL (hB : h b = some (aO 0 [vR (b + 1), vI fa, vI sz, vI (ab : Nat), vR (b + 3), vR (b + 4), vR (b + 5), vR (b + 6)])) (hT : h (b + 1) = some (aO 6 [vR tt, vI len, vI nx, vI pl, vI va])) (h5 : h (b + 5) = some (aA 9 le)) (hz : 0 ≤ sz ∧ sz < 9) (hv : -10000 ≤ va ∧ va ≤ 10000) (h0 : ¬ (1 ≤ va ∧ va ≤ 99) → Q (some (vI 6)) n h) (h1 : 1 ≤ va ∧ va ≤ 99 → ∀ h', h' (b + 5) = some (aA 9 (iu le sz va)) → Fr (fun q => q = b + 5) h h' → Q (some (vI 5)) n h') : Cl G mX0_takeLeast [vR b] n h Q := by
  refine cl_of (by decide) (Nat.le_of_ble_eq_true rfl) rfl ?_
  refine r_aload_n (pc := 0) dX0_takeLeast_0 rfl <| r_getf (pc := 1) dX0_takeLeast_1 fA_X0_12 hB rfl <| r_getf (pc := 4) dX0_takeLeast_4 fA_X0_82 hT rfl <| r_iconst (pc := 7) dX0_takeLeast_7 <| r_bipush (pc := 8) dX0_takeLeast_8 (by decide) <| cSNi [_, _, _] (pc := 10) dX0_takeLeast_10 k_X0_85 ⟨⟨Nat.le_of_ble_eq_true rfl, Nat.le_of_ble_eq_true rfl⟩, ⟨Nat.le_of_ble_eq_true rfl, Nat.le_of_ble_eq_true rfl⟩, Nat.le_of_ble_eq_true rfl⟩ ⟨rfl, rfl⟩ ?_
  refine sp_within (by omega) (by omega) (by omega) (fun q1 => ?_) (fun q1 => ?_)
  · skip
    refine ⟨_, rfl, ?_⟩
    refine r_if_ne (pc := 13) 19 dX0_takeLeast_13 (by decide) (by decide) (fun _ => ?_) (fun q => absurd q (by decide))
    refine r_aload_n (pc := 19) dX0_takeLeast_19 rfl <| r_getf (pc := 20) dX0_takeLeast_20 fA_X0_35 hB rfl <| r_aload_n (pc := 23) dX0_takeLeast_23 rfl <| r_getf (pc := 24) dX0_takeLeast_24 fA_X0_22 hB rfl <| r_aload_n (pc := 27) dX0_takeLeast_27 rfl <| r_getf (pc := 28) dX0_takeLeast_28 fA_X0_12 hB rfl <| r_getf (pc := 31) dX0_takeLeast_31 fA_X0_82 hT rfl <| r_iast (pc := 34) dX0_takeLeast_34 h5 (by omega) (by decide) (fun h_34 h5 hF_34 => ?_)
    replace hB := hF_34.keep hB (by omega)
    replace hT := hF_34.keep hT (by omega)
    refine r_iconst (pc := 35) dX0_takeLeast_35 <| r_iret (pc := 36) dX0_takeLeast_36 rfl ⟨Nat.le_of_ble_eq_true rfl, Nat.le_of_ble_eq_true rfl⟩ <| ?_
    exact h1 (by omega) _ h5 hF_34
  · skip
    refine ⟨_, rfl, ?_⟩
    refine r_if_ne (pc := 13) 19 dX0_takeLeast_13 (by decide) (by decide) (fun q => absurd q (by decide)) (fun _ => ?_)
    refine r_bipush (pc := 16) dX0_takeLeast_16 (by decide) <| r_iret (pc := 18) dX0_takeLeast_18 rfl ⟨Nat.le_of_ble_eq_true rfl, Nat.le_of_ble_eq_true rfl⟩ <| ?_
    exact h0 (by omega)
theorem sp_tE (hB : h b = some (aO 0 [vR (b + 1), vI fa, vI sz, vI (ab : Nat), vR (b + 3), vR (b + 4), vR (b + 5), vR (b + 6)])) (hk : 0 ≤ k ∧ k ≤ 15) (h0 : ¬ k = 13 → Q (some (vI 6)) n h) (h1 : k = 13 → ∀ h', h' b = some (aO 0 [vR (b + 1), vI fa, vI (sz + 1), vI (ab : Nat), vR (b + 3), vR (b + 4), vR (b + 5), vR (b + 6)]) → Fr (fun q => q = b) h h' → Q (some (vI 0)) n h') : Cl G mX0_takeEnd [vR b, vI k] n h Q := by
  refine cl_of (by decide) (Nat.le_of_ble_eq_true rfl) rfl ?_
  refine r_iload_n (pc := 0) dX0_takeEnd_0 rfl <| r_bipush (pc := 1) dX0_takeEnd_1 (by decide) <| r_icmp_eq (pc := 3) 9 dX0_takeEnd_3 (by decide) (by omega) (by omega) (fun hc_3 => ?_) (fun hc_3 => ?_)
  · skip
    refine r_aload_n (pc := 9) dX0_takeEnd_9 rfl <| r_dup (pc := 10) dX0_takeEnd_10 rfl <| r_getf (pc := 11) dX0_takeEnd_11 fA_X0_22 hB rfl <| r_iconst (pc := 14) dX0_takeEnd_14 <| r_iadd (pc := 15) dX0_takeEnd_15 <| r_putf (pc := 16) dX0_takeEnd_16 fP_X0_22 rfl rfl hB rfl (fun h_16 hB hF_16 => ?_)
    simp only [List.set_cons_zero, List.set_cons_succ] at hB
    refine r_iconst (pc := 19) dX0_takeEnd_19 <| r_iret (pc := 20) dX0_takeEnd_20 rfl ⟨Nat.le_of_ble_eq_true rfl, Nat.le_of_ble_eq_true rfl⟩ <| ?_
    exact h1 hc_3 _ hB hF_16
  · skip
    refine r_bipush (pc := 6) dX0_takeEnd_6 (by decide) <| r_iret (pc := 8) dX0_takeEnd_8 rfl ⟨Nat.le_of_ble_eq_true rfl, Nat.le_of_ble_eq_true rfl⟩ <| ?_
    exact h0 hc_3
theorem sp_tS (hB : h b = some (aO 0 [vR (b + 1), vI fa, vI sz, vI (ab : Nat), vR (b + 3), vR (b + 4), vR (b + 5), vR (b + 6)])) (h3 : h (b + 3) = some (aA 9 ro)) (h4 : h (b + 4) = some (aA 9 co)) (h5 : h (b + 5) = some (aA 9 le)) (hk : 0 ≤ k ∧ k ≤ 15) (hz : 0 ≤ sz ∧ sz ≤ 9)
    (h0 : 9 ≤ sz ∨ (10 ≤ k ∧ ¬ k = 10 ∧ ¬ k = 11) → ∀ h', (h' (b + 3) = some (aA 9 ro) ∧ h' (b + 5) = some (aA 9 le) ∨ h' (b + 3) = some (aA 9 (iu ro sz 1)) ∧ h' (b + 5) = some (aA 9 (iu le sz 1))) → Fr (fun q => q = b + 3 ∨ q = b + 5) h h' → Q (some (vI 6)) n h')
    (h1 : sz < 9 → k = 10 → ∀ h', h' (b + 3) = some (aA 9 (iu ro sz 1)) → h' (b + 5) = some (aA 9 (iu le sz 1)) → Fr (fun q => q = b + 3 ∨ q = b + 5) h h' → Q (some (vI 1)) n h')
    (h2 : sz < 9 → k < 10 → ∀ h', h' (b + 3) = some (aA 9 (iu ro sz 1)) → h' (b + 4) = some (aA 9 (iu co sz k)) → h' (b + 5) = some (aA 9 (iu le sz 1)) → Fr (fun q => q = b + 3 ∨ q = b + 4 ∨ q = b + 5) h h' → Q (some (vI 4)) n h')
    (h6 : sz < 9 → k = 11 → ∀ h', h' b = some (aO 0 [vR (b + 1), vI fa, vI sz, vI (ab ||| 2 ^ sz.toNat : Nat), vR (b + 3), vR (b + 4), vR (b + 5), vR (b + 6)]) → h' (b + 3) = some (aA 9 (iu ro sz 1)) → h' (b + 5) = some (aA 9 (iu le sz 1)) → Fr (fun q => q = b ∨ q = b + 3 ∨ q = b + 5) h h' → Q (some (vI 3)) n h') : Cl G mX0_takeStart [vR b, vI k] n h Q := by
  refine cl_of (by decide) (Nat.le_of_ble_eq_true rfl) rfl ?_
  refine r_aload_n (pc := 0) dX0_takeStart_0 rfl <| r_getf (pc := 1) dX0_takeStart_1 fA_X0_22 hB rfl <| r_bipush (pc := 4) dX0_takeStart_4 (by decide) <| r_icmp_lt (pc := 6) 12 dX0_takeStart_6 (by decide) (by omega) (by omega) (fun hc_6 => ?_) (fun hc_6 => ?_)
  · skip
    refine r_aload_n (pc := 12) dX0_takeStart_12 rfl <| r_getf (pc := 13) dX0_takeStart_13 fA_X0_28 hB rfl <| r_aload_n (pc := 16) dX0_takeStart_16 rfl <| r_getf (pc := 17) dX0_takeStart_17 fA_X0_22 hB rfl <| r_iconst (pc := 20) dX0_takeStart_20 <| r_iast (pc := 21) dX0_takeStart_21 h3 (by omega) (by decide) (fun h_21 h3 hF_21 => ?_)
    replace hB := hF_21.keep hB (by omega)
    replace h4 := hF_21.keep h4 (by omega)
    replace h5 := hF_21.keep h5 (by omega)
    refine r_aload_n (pc := 22) dX0_takeStart_22 rfl <| r_getf (pc := 23) dX0_takeStart_23 fA_X0_35 hB rfl <| r_aload_n (pc := 26) dX0_takeStart_26 rfl <| r_getf (pc := 27) dX0_takeStart_27 fA_X0_22 hB rfl <| r_iconst (pc := 30) dX0_takeStart_30 <| r_iast (pc := 31) dX0_takeStart_31 h5 (by omega) (by decide) (fun h_31 h5 hF_31 => ?_)
    replace hB := hF_31.keep hB (by omega)
    replace h3 := hF_31.keep h3 (by omega)
    replace h4 := hF_31.keep h4 (by omega)
    refine r_iload_n (pc := 32) dX0_takeStart_32 rfl <| r_bipush (pc := 33) dX0_takeStart_33 (by decide) <| r_icmp_ne (pc := 35) 42 dX0_takeStart_35 (by decide) (by omega) (by omega) (fun hc_35 => ?_) (fun hc_35 => ?_)
    · skip
      refine r_aload_n (pc := 42) dX0_takeStart_42 rfl <| r_iload_n (pc := 43) dX0_takeStart_43 rfl <| cVi [_] (pc := 44) dX0_takeStart_44 k_X0_70 ⟨⟨Nat.le_of_ble_eq_true rfl, Nat.le_of_ble_eq_true rfl⟩, ⟨Nat.le_of_ble_eq_true rfl, Nat.le_of_ble_eq_true rfl⟩, Nat.le_of_ble_eq_true rfl⟩ ⟨rfl, rfl⟩ hB ?_
      refine sp_tA hB h4 hk (by omega) (fun q1 q2 => ?_) (fun q1 hh g1 g2 => ?_) (fun q1 hh g1 g2 => ?_)
      · skip
        refine ⟨_, rfl, ?_⟩
        refine r_iret (pc := 47) dX0_takeStart_47 rfl ⟨Nat.le_of_ble_eq_true rfl, Nat.le_of_ble_eq_true rfl⟩ <| ?_
        first
          | exact h1 (by omega) hc_35 _ h3 h5 (fun p hp => (hF_31 p (by omega)).trans (hF_21 p (by omega)))
          | exact h0 (Or.inr ⟨q1, hc_35, q2⟩) _ (Or.inr ⟨h3, h5⟩) (fun p hp => (hF_31 p (by omega)).trans (hF_21 p (by omega)))
          | exact h2 (by omega) q1 _ (g2.keep h3 (by omega)) g1 (g2.keep h5 (by omega)) (fun p hp => (g2 p (by omega)).trans ((hF_31 p (by omega)).trans (hF_21 p (by omega))))
          | exact h6 (by omega) q1 _ g1 (g2.keep h3 (by omega)) (g2.keep h5 (by omega)) (fun p hp => (g2 p (by omega)).trans ((hF_31 p (by omega)).trans (hF_21 p (by omega))))
      · skip
        refine ⟨_, rfl, ?_⟩
        refine r_iret (pc := 47) dX0_takeStart_47 rfl ⟨Nat.le_of_ble_eq_true rfl, Nat.le_of_ble_eq_true rfl⟩ <| ?_
        first
          | exact h1 (by omega) hc_35 _ h3 h5 (fun p hp => (hF_31 p (by omega)).trans (hF_21 p (by omega)))
          | exact h0 (Or.inr ⟨q1, hc_35, q2⟩) _ (Or.inr ⟨h3, h5⟩) (fun p hp => (hF_31 p (by omega)).trans (hF_21 p (by omega)))
          | exact h2 (by omega) q1 _ (g2.keep h3 (by omega)) g1 (g2.keep h5 (by omega)) (fun p hp => (g2 p (by omega)).trans ((hF_31 p (by omega)).trans (hF_21 p (by omega))))
          | exact h6 (by omega) q1 _ g1 (g2.keep h3 (by omega)) (g2.keep h5 (by omega)) (fun p hp => (g2 p (by omega)).trans ((hF_31 p (by omega)).trans (hF_21 p (by omega))))
      · skip
        refine ⟨_, rfl, ?_⟩
        refine r_iret (pc := 47) dX0_takeStart_47 rfl ⟨Nat.le_of_ble_eq_true rfl, Nat.le_of_ble_eq_true rfl⟩ <| ?_
        first
          | exact h1 (by omega) hc_35 _ h3 h5 (fun p hp => (hF_31 p (by omega)).trans (hF_21 p (by omega)))
          | exact h0 (Or.inr ⟨q1, hc_35, q2⟩) _ (Or.inr ⟨h3, h5⟩) (fun p hp => (hF_31 p (by omega)).trans (hF_21 p (by omega)))
          | exact h2 (by omega) q1 _ (g2.keep h3 (by omega)) g1 (g2.keep h5 (by omega)) (fun p hp => (g2 p (by omega)).trans ((hF_31 p (by omega)).trans (hF_21 p (by omega))))
          | exact h6 (by omega) q1 _ g1 (g2.keep h3 (by omega)) (g2.keep h5 (by omega)) (fun p hp => (g2 p (by omega)).trans ((hF_31 p (by omega)).trans (hF_21 p (by omega))))
    · skip
      refine r_iconst (pc := 38) dX0_takeStart_38 <| r_goto (pc := 39) 47 dX0_takeStart_39 (by decide) <| r_iret (pc := 47) dX0_takeStart_47 rfl ⟨Nat.le_of_ble_eq_true rfl, Nat.le_of_ble_eq_true rfl⟩ <| ?_
      first
        | exact h1 (by omega) hc_35 _ h3 h5 (fun p hp => (hF_31 p (by omega)).trans (hF_21 p (by omega)))
        | exact h0 (Or.inr ⟨q1, hc_35, q2⟩) _ (Or.inr ⟨h3, h5⟩) (fun p hp => (hF_31 p (by omega)).trans (hF_21 p (by omega)))
        | exact h2 (by omega) q1 _ (g2.keep h3 (by omega)) g1 (g2.keep h5 (by omega)) (fun p hp => (g2 p (by omega)).trans ((hF_31 p (by omega)).trans (hF_21 p (by omega))))
        | exact h6 (by omega) q1 _ g1 (g2.keep h3 (by omega)) (g2.keep h5 (by omega)) (fun p hp => (g2 p (by omega)).trans ((hF_31 p (by omega)).trans (hF_21 p (by omega))))
  · skip
    refine r_bipush (pc := 9) dX0_takeStart_9 (by decide) <| r_iret (pc := 11) dX0_takeStart_11 rfl ⟨Nat.le_of_ble_eq_true rfl, Nat.le_of_ble_eq_true rfl⟩ <| ?_
    exact h0 (Or.inl (by omega)) _ (Or.inl ⟨h3, h5⟩) Fr.rf
end BK

