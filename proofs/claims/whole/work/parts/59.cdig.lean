/-! ===== the class: digest ===== -/
section CD
variable {G : GT} {n : Nat} {h : Hp} {Q : PT} {s : SS}
theorem lp_cmix {c N : Nat} {f : Int → Int} {lo hi m x0 : Int} (hc : h c = some (aA N f)) (hN : N < 1000) (df : Bd f lo hi) (hlo : -1000 ≤ lo ∧ hi ≤ 1000) (hm : 0 ≤ m ∧ m ≤ N) : ∀ (q : Nat) (k x : Int), 0 ≤ k → k + q = m → Q (some (vJ (lpI (mixS f) q k x))) n h → At G mX8_mix 6 [vJ x0, vU, vR c, vI m, vJ x, vU, vI k] [] (0, 0, n) h Q := by
  intro q
  induction q with
  | zero =>
    intro k x hk hq hQ
    refine r_iload (pc := 6) dX8_mix_6 rfl <| r_iload_n (pc := 8) dX8_mix_8 rfl <| r_icmp_ge (pc := 9) 39 dX8_mix_9 (by decide) (by omega) (by omega) (fun hc_9 => ?_) (fun hc_9 => ?_)
    · skip
      refine r_lload (pc := 39) dX8_mix_39 rfl <| r_lret (pc := 41) dX8_mix_41 rfl ⟨Nat.le_of_ble_eq_true rfl, Nat.le_of_ble_eq_true rfl⟩ <| ?_
      exact hQ
    · skip
      exfalso; omega
  | succ q ih =>
    intro k x hk hq hQ
    have b1 := df k
    refine r_iload (pc := 6) dX8_mix_6 rfl <| r_iload_n (pc := 8) dX8_mix_8 rfl <| r_icmp_ge (pc := 9) 39 dX8_mix_9 (by decide) (by omega) (by omega) (fun hc_9 => ?_) (fun hc_9 => ?_)
    · skip
      exfalso; omega
    · skip
      refine r_iload (pc := 12) dX8_mix_12 rfl <| r_aload_n (pc := 14) dX8_mix_14 rfl <| r_alen (pc := 15) dX8_mix_15 hc <| r_icmp_ge (pc := 16) 39 dX8_mix_16 (by decide) (by omega) (by omega) (fun hc_16 => ?_) (fun hc_16 => ?_)
      · skip
        exfalso; omega
      · skip
        refine r_ldc2 (pc := 19) dX8_mix_19 cT_X8_281 <| r_lload (pc := 22) dX8_mix_22 rfl <| r_lmul (pc := 24) dX8_mix_24 <| r_aload_n (pc := 25) dX8_mix_25 rfl <| r_iload (pc := 26) dX8_mix_26 rfl <| r_iald (pc := 28) dX8_mix_28 hc (by omega) (by omega) <| r_i2l (pc := 29) dX8_mix_29 (by omega) <| r_ladd (pc := 30) dX8_mix_30 <| r_lstore_4 (pc := 31) dX8_mix_31 rfl <| r_iinc_6 (pc := 33) dX8_mix_33 rfl rfl <| r_goto (pc := 36) 6 dX8_mix_36 (by decide) <| ?_
        exact ih (k + 1) _ (by omega) (by omega) hQ
theorem sp_cmix {c N : Nat} {f bk : Int → Int} {lo hi m x off : Int} (hc : h c = some (aA N f)) (hN : N < 1000) (df : Bd f lo hi) (hlo : -1000 ≤ lo ∧ hi ≤ 1000) (hm : 0 ≤ m ∧ m ≤ N) (rf : REq f bk off N) (hQ : Q (some (vJ (dgM bk off m x))) n h) : Cl G mX8_mix [vJ x, vR c, vI m] n h Q := by
  have e : lpI (mixS f) m.toNat 0 x = dgM bk off m x := by
    unfold dgM
    refine lpI_rel (P := fun a b => a = b) m.toNat 0 x x (fun k a b k0 k1 e => ?_) rfl
    show 31 * a + f k = 31 * b + bk (off + k)
    rw [e, rf k k0 (by omega)]
  refine cl_of (by decide) (Nat.le_of_ble_eq_true rfl) rfl ?_
  refine r_lload_n (pc := 0) dX8_mix_0 rfl <| r_lstore_4 (pc := 1) dX8_mix_1 rfl <| r_iconst (pc := 3) dX8_mix_3 <| r_istore_6 (pc := 4) dX8_mix_4 rfl <| ?_
  exact lp_cmix hc hN df hlo hm m.toNat 0 x (by omega) (by omega) (by rw [e]; exact hQ)
theorem lp_pmix {bk kd ag ld rk : Int → Int} {x0 : Int} (c2 : h 2 = some (aO 4 [vI (bk 0), vR 3, vR 4, vR 5, vR 6])) (c3 : h 3 = some (aA 8 kd)) (c4 : h 4 = some (aA 8 ag)) (c5 : h 5 = some (aA 8 ld)) (c6 : h 6 = some (aA 8 rk)) (hI : Inv bk) (rp : RP bk kd ag ld rk) (d1 : Bd kd 0 5) (d2 : Bd ag 0 99) (d3 : Bd ld 0 9) (d4 : Bd rk 0 9) : ∀ (q : Nat) (p x : Int), 0 ≤ p → p + q = bk 0 → Q (some (vJ (lpI (mixS (fun i => bk (4 + i))) (4 * q) (4 * p) x))) n h → At G mX4_mixInto 5 [vR 2, vJ x0, vU, vJ x, vU, vI p] [] (0, 0, n) h Q := by
  have i0 := hI.1.1
  intro q
  induction q with
  | zero =>
    intro p x hp hq hQ
    refine r_iload (pc := 5) dX4_mixInto_5 rfl <| r_aload_n (pc := 7) dX4_mixInto_7 rfl <| r_getf (pc := 8) dX4_mixInto_8 fA_X4_9 c2 rfl <| r_icmp_ge (pc := 11) 80 dX4_mixInto_11 (by decide) (by omega) (by omega) (fun hc_11 => ?_) (fun hc_11 => ?_)
    · skip
      refine r_lload_n (pc := 80) dX4_mixInto_80 rfl <| r_lret (pc := 81) dX4_mixInto_81 rfl ⟨Nat.le_of_ble_eq_true rfl, Nat.le_of_ble_eq_true rfl⟩ <| ?_
      exact hQ
    · skip
      exfalso; omega
  | succ q ih =>
    intro p x hp hq hQ
    have b1 := d1 p
    have b2 := d2 p
    have b3 := d3 p
    have b4 := d4 p
    obtain ⟨e1, e2, e3, e4⟩ := rp p (by omega) (by omega)
    refine r_iload (pc := 5) dX4_mixInto_5 rfl <| r_aload_n (pc := 7) dX4_mixInto_7 rfl <| r_getf (pc := 8) dX4_mixInto_8 fA_X4_9 c2 rfl <| r_icmp_ge (pc := 11) 80 dX4_mixInto_11 (by decide) (by omega) (by omega) (fun hc_11 => ?_) (fun hc_11 => ?_)
    · skip
      exfalso; omega
    · skip
      refine r_ldc2 (pc := 14) dX4_mixInto_14 cT_X4_38 <| r_lload_n (pc := 17) dX4_mixInto_17 rfl <| r_lmul (pc := 18) dX4_mixInto_18 <| r_aload_n (pc := 19) dX4_mixInto_19 rfl <| r_getf (pc := 20) dX4_mixInto_20 fA_X4_15 c2 rfl <| r_iload (pc := 23) dX4_mixInto_23 rfl <| r_iald (pc := 25) dX4_mixInto_25 c3 (by omega) (by decide) <| r_i2l (pc := 26) dX4_mixInto_26 (by omega) <| r_ladd (pc := 27) dX4_mixInto_27 <| r_lstoren_3 (pc := 28) dX4_mixInto_28 rfl <| r_ldc2 (pc := 29) dX4_mixInto_29 cT_X4_38 <| r_lload_n (pc := 32) dX4_mixInto_32 rfl <| r_lmul (pc := 33) dX4_mixInto_33 <| r_aload_n (pc := 34) dX4_mixInto_34 rfl <| r_getf (pc := 35) dX4_mixInto_35 fA_X4_19 c2 rfl <| r_iload (pc := 38) dX4_mixInto_38 rfl <| r_iald (pc := 40) dX4_mixInto_40 c4 (by omega) (by decide) <| r_i2l (pc := 41) dX4_mixInto_41 (by omega) <| r_ladd (pc := 42) dX4_mixInto_42 <| r_lstoren_3 (pc := 43) dX4_mixInto_43 rfl <| r_ldc2 (pc := 44) dX4_mixInto_44 cT_X4_38 <| r_lload_n (pc := 47) dX4_mixInto_47 rfl <| r_lmul (pc := 48) dX4_mixInto_48 <| r_aload_n (pc := 49) dX4_mixInto_49 rfl <| r_getf (pc := 50) dX4_mixInto_50 fA_X4_22 c2 rfl <| r_iload (pc := 53) dX4_mixInto_53 rfl <| r_iald (pc := 55) dX4_mixInto_55 c5 (by omega) (by decide) <| r_i2l (pc := 56) dX4_mixInto_56 (by omega) <| r_ladd (pc := 57) dX4_mixInto_57 <| r_lstoren_3 (pc := 58) dX4_mixInto_58 rfl <| r_ldc2 (pc := 59) dX4_mixInto_59 cT_X4_38 <| r_lload_n (pc := 62) dX4_mixInto_62 rfl <| r_lmul (pc := 63) dX4_mixInto_63 <| r_aload_n (pc := 64) dX4_mixInto_64 rfl <| r_getf (pc := 65) dX4_mixInto_65 fA_X4_25 c2 rfl <| r_iload (pc := 68) dX4_mixInto_68 rfl <| r_iald (pc := 70) dX4_mixInto_70 c6 (by omega) (by decide) <| r_i2l (pc := 71) dX4_mixInto_71 (by omega) <| r_ladd (pc := 72) dX4_mixInto_72 <| r_lstoren_3 (pc := 73) dX4_mixInto_73 rfl <| r_iinc_5 (pc := 74) dX4_mixInto_74 rfl rfl <| r_goto (pc := 77) 5 dX4_mixInto_77 (by decide) <| ?_
      refine ih (p + 1) _ (by omega) (by omega) ?_
      rw [show 4 * (q + 1) = 4 * q + 1 + 1 + 1 + 1 by omega] at hQ
      simp only [lpI, mixS] at hQ
      rw [e1, e2, e3, e4]
      rw [show 4 + (4 * p + 1) = 4 + 4 * p + 1 by omega, show 4 + (4 * p + 1 + 1) = 4 + 4 * p + 2 by omega, show 4 + (4 * p + 1 + 1 + 1) = 4 + 4 * p + 3 by omega, show 4 * p + 1 + 1 + 1 + 1 = 4 * (p + 1) by omega] at hQ
      exact hQ
theorem sp_pmix {bk kd ag ld rk : Int → Int} {x : Int} (c2 : h 2 = some (aO 4 [vI (bk 0), vR 3, vR 4, vR 5, vR 6])) (c3 : h 3 = some (aA 8 kd)) (c4 : h 4 = some (aA 8 ag)) (c5 : h 5 = some (aA 8 ld)) (c6 : h 6 = some (aA 8 rk)) (hI : Inv bk) (rp : RP bk kd ag ld rk) (d1 : Bd kd 0 5) (d2 : Bd ag 0 99) (d3 : Bd ld 0 9) (d4 : Bd rk 0 9) (hQ : Q (some (vJ (dgM bk 4 (4 * bk 0) x))) n h) : Cl G mX4_mixInto [vR 2, vJ x] n h Q := by
  have i0 := hI.1.1
  refine cl_of (by decide) (Nat.le_of_ble_eq_true rfl) rfl ?_
  refine r_lload_n (pc := 0) dX4_mixInto_0 rfl <| r_lstoren_3 (pc := 1) dX4_mixInto_1 rfl <| r_iconst (pc := 2) dX4_mixInto_2 <| r_istore_5 (pc := 3) dX4_mixInto_3 rfl <| ?_
  refine lp_pmix c2 c3 c4 c5 c6 hI rp d1 d2 d3 d4 (bk 0).toNat 0 x (by omega) (by omega) ?_
  unfold dgM at hQ
  rw [show (4 * bk 0).toNat = 4 * (bk 0).toNat by omega] at hQ
  exact hQ
theorem lp_bmB {bk ow la : Int → Int} {x0 a : Int} (c7 : h 7 = some (aO 1 [vR 8, vR 9])) (c8 : h 8 = some (aA 64 ow)) (c9 : h 9 = some (aA 64 la)) (d5 : Bd ow 0 99) (d6 : Bd la (-1) 7) (ro : RO bk ow la) (ha : 0 ≤ a ∧ a < 8) : ∀ (q : Nat) (k x : Int), 0 ≤ k → k + q = 8 → (∀ k', At G mX1_mixInto 75 [vR 7, vJ x0, vU, vJ (lpI (dgB bk a) q k x), vU, vI a, vI k'] [] (0, 0, n) h Q) → At G mX1_mixInto 15 [vR 7, vJ x0, vU, vJ x, vU, vI a, vI k] [] (0, 0, n) h Q := by
  intro q
  induction q with
  | zero =>
    intro k x hk hq hQ
    refine r_iload (pc := 15) dX1_mixInto_15 rfl <| r_bipush (pc := 17) dX1_mixInto_17 (by decide) <| r_icmp_ge (pc := 19) 75 dX1_mixInto_19 (by decide) (by omega) (by omega) (fun hc_19 => ?_) (fun hc_19 => ?_)
    · skip
      exact hQ _
    · skip
      exfalso; omega
  | succ q ih =>
    intro k x hk hq hQ
    have b1 := d5 (a * 8 + k)
    have b2 := d6 (a * 8 + k)
    have e1 : ow (a * 8 + k) = bk (36 + 8 * a + k) := by rw [ro.1 _ (by omega) (by omega)]; congr 1; omega
    refine r_iload (pc := 15) dX1_mixInto_15 rfl <| r_bipush (pc := 17) dX1_mixInto_17 (by decide) <| r_icmp_ge (pc := 19) 75 dX1_mixInto_19 (by decide) (by omega) (by omega) (fun hc_19 => ?_) (fun hc_19 => ?_)
    · skip
      exfalso; omega
    · skip
      refine r_ldc2 (pc := 22) dX1_mixInto_22 cT_X1_43 <| r_lload_n (pc := 25) dX1_mixInto_25 rfl <| r_lmul (pc := 26) dX1_mixInto_26 <| r_aload_n (pc := 27) dX1_mixInto_27 rfl <| r_getf (pc := 28) dX1_mixInto_28 fA_X1_9 c7 rfl <| r_iload (pc := 31) dX1_mixInto_31 rfl <| r_iload (pc := 33) dX1_mixInto_33 rfl <| cSNi [_, _] (pc := 35) dX1_mixInto_35 k_X1_30 ⟨⟨Nat.le_of_ble_eq_true rfl, Nat.le_of_ble_eq_true rfl⟩, ⟨Nat.le_of_ble_eq_true rfl, Nat.le_of_ble_eq_true rfl⟩, Nat.le_of_ble_eq_true rfl⟩ ⟨rfl, rfl⟩ ?_
      refine sp_pair ?_
      refine ⟨_, rfl, ?_⟩
      refine r_iald (pc := 38) dX1_mixInto_38 c8 (by omega) (by decide) <| r_i2l (pc := 39) dX1_mixInto_39 (by omega) <| r_ladd (pc := 40) dX1_mixInto_40 <| r_lstoren_3 (pc := 41) dX1_mixInto_41 rfl <| r_iload (pc := 42) dX1_mixInto_42 rfl <| r_iload (pc := 44) dX1_mixInto_44 rfl <| r_icmp_ge (pc := 46) 69 dX1_mixInto_46 (by decide) (by omega) (by omega) (fun hc_46 => ?_) (fun hc_46 => ?_)
      · skip
        refine r_iinc_6 (pc := 69) dX1_mixInto_69 rfl rfl <| r_goto (pc := 72) 15 dX1_mixInto_72 (by decide) <| ?_
        refine ih (k + 1) _ (by omega) (by omega) (fun k' => ?_)
        have hs := hQ k'
        rw [lpI] at hs
        rw [e1]
        first
          | (rw [show dgB bk a k x = 31 * (31 * x + bk (36 + 8 * a + k)) + bk (100 + 8 * a + k) from if_pos (by omega)] at hs
             rw [(ro.2 a k (by omega) (by omega) (by omega)).1, show 100 + (8 * a + k) = 100 + 8 * a + k by omega]
             exact hs)
          | (rw [show dgB bk a k x = 31 * x + bk (36 + 8 * a + k) from if_neg (by omega)] at hs; exact hs)
      · skip
        refine r_ldc2 (pc := 49) dX1_mixInto_49 cT_X1_43 <| r_lload_n (pc := 52) dX1_mixInto_52 rfl <| r_lmul (pc := 53) dX1_mixInto_53 <| r_aload_n (pc := 54) dX1_mixInto_54 rfl <| r_getf (pc := 55) dX1_mixInto_55 fA_X1_15 c7 rfl <| r_iload (pc := 58) dX1_mixInto_58 rfl <| r_iload (pc := 60) dX1_mixInto_60 rfl <| cSNi [_, _] (pc := 62) dX1_mixInto_62 k_X1_30 ⟨⟨Nat.le_of_ble_eq_true rfl, Nat.le_of_ble_eq_true rfl⟩, ⟨Nat.le_of_ble_eq_true rfl, Nat.le_of_ble_eq_true rfl⟩, Nat.le_of_ble_eq_true rfl⟩ ⟨rfl, rfl⟩ ?_
        refine sp_pair ?_
        refine ⟨_, rfl, ?_⟩
        refine r_iald (pc := 65) dX1_mixInto_65 c9 (by omega) (by decide) <| r_i2l (pc := 66) dX1_mixInto_66 (by omega) <| r_ladd (pc := 67) dX1_mixInto_67 <| r_lstoren_3 (pc := 68) dX1_mixInto_68 rfl <| r_iinc_6 (pc := 69) dX1_mixInto_69 rfl rfl <| r_goto (pc := 72) 15 dX1_mixInto_72 (by decide) <| ?_
        refine ih (k + 1) _ (by omega) (by omega) (fun k' => ?_)
        have hs := hQ k'
        rw [lpI] at hs
        rw [e1]
        first
          | (rw [show dgB bk a k x = 31 * (31 * x + bk (36 + 8 * a + k)) + bk (100 + 8 * a + k) from if_pos (by omega)] at hs
             rw [(ro.2 a k (by omega) (by omega) (by omega)).1, show 100 + (8 * a + k) = 100 + 8 * a + k by omega]
             exact hs)
          | (rw [show dgB bk a k x = 31 * x + bk (36 + 8 * a + k) from if_neg (by omega)] at hs; exact hs)
theorem lp_bmA {bk ow la : Int → Int} {x0 : Int} (c7 : h 7 = some (aO 1 [vR 8, vR 9])) (c8 : h 8 = some (aA 64 ow)) (c9 : h 9 = some (aA 64 la)) (d5 : Bd ow 0 99) (d6 : Bd la (-1) 7) (ro : RO bk ow la) : ∀ (q : Nat) (k x : Int) (l6 : AV), 0 ≤ k → k + q = 8 → Q (some (vJ (lpI (dgR bk) q k x))) n h → At G mX1_mixInto 5 [vR 7, vJ x0, vU, vJ x, vU, vI k, l6] [] (0, 0, n) h Q := by
  intro q
  induction q with
  | zero =>
    intro k x l6 hk hq hQ
    refine r_iload (pc := 5) dX1_mixInto_5 rfl <| r_bipush (pc := 7) dX1_mixInto_7 (by decide) <| r_icmp_ge (pc := 9) 81 dX1_mixInto_9 (by decide) (by omega) (by omega) (fun hc_9 => ?_) (fun hc_9 => ?_)
    · skip
      refine r_lload_n (pc := 81) dX1_mixInto_81 rfl <| r_lret (pc := 82) dX1_mixInto_82 rfl ⟨Nat.le_of_ble_eq_true rfl, Nat.le_of_ble_eq_true rfl⟩ <| ?_
      exact hQ
    · skip
      exfalso; omega
  | succ q ih =>
    intro k x l6 hk hq hQ
    refine r_iload (pc := 5) dX1_mixInto_5 rfl <| r_bipush (pc := 7) dX1_mixInto_7 (by decide) <| r_icmp_ge (pc := 9) 81 dX1_mixInto_9 (by decide) (by omega) (by omega) (fun hc_9 => ?_) (fun hc_9 => ?_)
    · skip
      exfalso; omega
    · skip
      refine r_iconst (pc := 12) dX1_mixInto_12 <| r_istore_6 (pc := 13) dX1_mixInto_13 rfl <| ?_
      refine lp_bmB c7 c8 c9 d5 d6 ro (by omega) 8 0 _ (by omega) (by omega) (fun k' => ?_)
      refine r_iinc_5 (pc := 75) dX1_mixInto_75 rfl rfl <| r_goto (pc := 78) 5 dX1_mixInto_78 (by decide) <| ?_
      exact ih (k + 1) _ _ (by omega) (by omega) hQ
theorem sp_bmix {bk ow la : Int → Int} {x : Int} (c7 : h 7 = some (aO 1 [vR 8, vR 9])) (c8 : h 8 = some (aA 64 ow)) (c9 : h 9 = some (aA 64 la)) (d5 : Bd ow 0 99) (d6 : Bd la (-1) 7) (ro : RO bk ow la) (hQ : Q (some (vJ (lpI (dgR bk) 8 0 x))) n h) : Cl G mX1_mixInto [vR 7, vJ x] n h Q := by
  refine cl_of (by decide) (Nat.le_of_ble_eq_true rfl) rfl ?_
  refine r_lload_n (pc := 0) dX1_mixInto_0 rfl <| r_lstoren_3 (pc := 1) dX1_mixInto_1 rfl <| r_iconst (pc := 2) dX1_mixInto_2 <| r_istore_5 (pc := 3) dX1_mixInto_3 rfl <| ?_
  exact lp_bmA c7 c8 c9 d5 d6 ro 8 0 x _ (by omega) (by omega) hQ
theorem lp_lmB {bk lg : Int → Int} {x0 a : Int} (c0 : h 0 = some (oC s)) (c1 : h 1 = some (oW 1 s.bk)) (c13 : h 13 = some (aA 36 lg)) (dl : Bd lg 0 99) (rl : REq lg bk 180 36) (ha : 0 ≤ a ∧ a < 6) : ∀ (q : Nat) (k x : Int), 0 ≤ k → k + q = 6 → (∀ k', At G mX8_mixLegs 55 [vR 0, vJ x0, vU, vJ (lpI (mixS (fun b => bk (180 + 6 * a + b))) q k x), vU, vI a, vI k'] [] (0, 0, n) h Q) → At G mX8_mixLegs 18 [vR 0, vJ x0, vU, vJ x, vU, vI a, vI k] [] (0, 0, n) h Q := by
  intro q
  induction q with
  | zero =>
    intro k x hk hq hQ
    refine r_iload (pc := 18) dX8_mixLegs_18 rfl <| r_bipush (pc := 20) dX8_mixLegs_20 (by decide) <| r_icmp_ge (pc := 22) 55 dX8_mixLegs_22 (by decide) (by omega) (by omega) (fun hc_22 => ?_) (fun hc_22 => ?_)
    · skip
      exact hQ _
    · skip
      exfalso; omega
  | succ q ih =>
    intro k x hk hq hQ
    have b1 := dl (a * 6 + k)
    have e1 : lg (a * 6 + k) = bk (180 + 6 * a + k) := by rw [rl _ (by omega) (by omega)]; congr 1; omega
    refine r_iload (pc := 18) dX8_mixLegs_18 rfl <| r_bipush (pc := 20) dX8_mixLegs_20 (by decide) <| r_icmp_ge (pc := 22) 55 dX8_mixLegs_22 (by decide) (by omega) (by omega) (fun hc_22 => ?_) (fun hc_22 => ?_)
    · skip
      exfalso; omega
    · skip
      refine r_ldc2 (pc := 25) dX8_mixLegs_25 cT_X8_281 <| r_lload_n (pc := 28) dX8_mixLegs_28 rfl <| r_lmul (pc := 29) dX8_mixLegs_29 <| r_aload_n (pc := 30) dX8_mixLegs_30 rfl <| r_getf (pc := 31) dX8_mixLegs_31 fA_X8_12 c0 rfl <| r_getf (pc := 34) dX8_mixLegs_34 fA_X8_213 c1 rfl <| r_iload (pc := 37) dX8_mixLegs_37 rfl <| r_bipush (pc := 39) dX8_mixLegs_39 (by decide) <| r_imul (pc := 41) dX8_mixLegs_41 <| r_iload (pc := 42) dX8_mixLegs_42 rfl <| r_iadd (pc := 44) dX8_mixLegs_44 <| r_iald (pc := 45) dX8_mixLegs_45 c13 (by omega) (by decide) <| r_i2l (pc := 46) dX8_mixLegs_46 (by omega) <| r_ladd (pc := 47) dX8_mixLegs_47 <| r_lstoren_3 (pc := 48) dX8_mixLegs_48 rfl <| r_iinc_6 (pc := 49) dX8_mixLegs_49 rfl rfl <| r_goto (pc := 52) 18 dX8_mixLegs_52 (by decide) <| ?_
      rw [e1]
      exact ih (k + 1) _ (by omega) (by omega) hQ
theorem lp_lmA {bk lg : Int → Int} {x0 : Int} (c0 : h 0 = some (oC s)) (c1 : h 1 = some (oW 1 s.bk)) (c13 : h 13 = some (aA 36 lg)) (dl : Bd lg 0 99) (rl : REq lg bk 180 36) : ∀ (q : Nat) (k x : Int) (l6 : AV), 0 ≤ k → k + q = 6 → Q (some (vJ (lpI (dgL bk) q k x))) n h → At G mX8_mixLegs 5 [vR 0, vJ x0, vU, vJ x, vU, vI k, l6] [] (0, 0, n) h Q := by
  intro q
  induction q with
  | zero =>
    intro k x l6 hk hq hQ
    refine r_iload (pc := 5) dX8_mixLegs_5 rfl <| r_bipush (pc := 7) dX8_mixLegs_7 (by decide) <| r_icmp_ge (pc := 9) 61 dX8_mixLegs_9 (by decide) (by omega) (by omega) (fun hc_9 => ?_) (fun hc_9 => ?_)
    · skip
      refine r_lload_n (pc := 61) dX8_mixLegs_61 rfl <| r_lret (pc := 62) dX8_mixLegs_62 rfl ⟨Nat.le_of_ble_eq_true rfl, Nat.le_of_ble_eq_true rfl⟩ <| ?_
      exact hQ
    · skip
      exfalso; omega
  | succ q ih =>
    intro k x l6 hk hq hQ
    refine r_iload (pc := 5) dX8_mixLegs_5 rfl <| r_bipush (pc := 7) dX8_mixLegs_7 (by decide) <| r_icmp_ge (pc := 9) 61 dX8_mixLegs_9 (by decide) (by omega) (by omega) (fun hc_9 => ?_) (fun hc_9 => ?_)
    · skip
      exfalso; omega
    · skip
      refine r_iload (pc := 12) dX8_mixLegs_12 rfl <| r_iconst (pc := 14) dX8_mixLegs_14 <| r_iadd (pc := 15) dX8_mixLegs_15 <| r_istore_6 (pc := 16) dX8_mixLegs_16 rfl <| ?_
      refine lp_lmB c0 c1 c13 dl rl (by omega) (5 - k).toNat (k + 1) _ (by omega) (by omega) (fun k' => ?_)
      refine r_iinc_5 (pc := 55) dX8_mixLegs_55 rfl rfl <| r_goto (pc := 58) 5 dX8_mixLegs_58 (by decide) <| ?_
      exact ih (k + 1) _ _ (by omega) (by omega) hQ
theorem sp_lmix {bk lg : Int → Int} {x : Int} (c0 : h 0 = some (oC s)) (c1 : h 1 = some (oW 1 s.bk)) (c13 : h 13 = some (aA 36 lg)) (dl : Bd lg 0 99) (rl : REq lg bk 180 36) (hQ : Q (some (vJ (lpI (dgL bk) 6 0 x))) n h) : Cl G mX8_mixLegs [vR 0, vJ x] n h Q := by
  refine cl_of (by decide) (Nat.le_of_ble_eq_true rfl) rfl ?_
  refine r_lload_n (pc := 0) dX8_mixLegs_0 rfl <| r_lstoren_3 (pc := 1) dX8_mixLegs_1 rfl <| r_iconst (pc := 2) dX8_mixLegs_2 <| r_istore_5 (pc := 3) dX8_mixLegs_3 rfl <| ?_
  exact lp_lmA c0 c1 c13 dl rl 6 0 x _ (by omega) (by omega) hQ
theorem dg0 {bk : Int → Int} {x : Int} : dgM bk 0 4 x = 31 * (31 * (31 * (31 * x + bk 0) + bk 1) + bk 2) + bk 3 := by
  unfold dgM
  rw [show (4 : Int).toNat = 4 from rfl]
  simp only [lpI, mixS]
  simp
theorem cs_digest (hC : isC h n s) (hI : Inv s.bk) (hu : inI s.up) (hd : inI s.dn) (hQ : Q (some (vJ (fDig s))) n h) : Cl G mX8_digest [vR 0] n h Q := by
  obtain ⟨kd, ag, ld, rk, ow, la, tx, qu, wa, lg, ev, c0, c1, c2, c3, c4, c5, c6, c7, c8, c9, c10, c11, c12, c13, c14, ⟨⟨d1, d2, d3, d4⟩, ⟨d5, d6⟩, dt, dq, dw, dl, de⟩, rp, ro, rt, rq, rw_, rl, re⟩ := hC.opn
  have i0 := hI.1.1
  have i1 := hI.1.2.1
  have i2 := hI.1.2.2.1
  have i3 := hI.1.2.2.2
  unfold fDig at hQ
  rw [dg0] at hQ
  refine cl_of (by decide) (Nat.le_of_ble_eq_true rfl) rfl ?_
  refine r_ldc2 (pc := 0) dX8_digest_0 cT_X8_279 <| r_lstoren_1 (pc := 3) dX8_digest_3 rfl <| r_ldc2 (pc := 4) dX8_digest_4 cT_X8_281 <| r_lload_n (pc := 7) dX8_digest_7 rfl <| r_lmul (pc := 8) dX8_digest_8 <| r_aload_n (pc := 9) dX8_digest_9 rfl <| r_getf (pc := 10) dX8_digest_10 fA_X8_12 c0 rfl <| r_getf (pc := 13) dX8_digest_13 fA_X8_86 c1 rfl <| r_getf (pc := 16) dX8_digest_16 fA_X8_90 c2 rfl <| r_i2l (pc := 19) dX8_digest_19 (by omega) <| r_ladd (pc := 20) dX8_digest_20 <| r_lstoren_1 (pc := 21) dX8_digest_21 rfl <| r_ldc2 (pc := 22) dX8_digest_22 cT_X8_281 <| r_lload_n (pc := 25) dX8_digest_25 rfl <| r_lmul (pc := 26) dX8_digest_26 <| r_aload_n (pc := 27) dX8_digest_27 rfl <| r_getf (pc := 28) dX8_digest_28 fA_X8_12 c0 rfl <| r_getf (pc := 31) dX8_digest_31 fA_X8_130 c1 rfl <| r_i2l (pc := 34) dX8_digest_34 (by omega) <| r_ladd (pc := 35) dX8_digest_35 <| r_lstoren_1 (pc := 36) dX8_digest_36 rfl <| r_ldc2 (pc := 37) dX8_digest_37 cT_X8_281 <| r_lload_n (pc := 40) dX8_digest_40 rfl <| r_lmul (pc := 41) dX8_digest_41 <| r_aload_n (pc := 42) dX8_digest_42 rfl <| r_getf (pc := 43) dX8_digest_43 fA_X8_12 c0 rfl <| r_getf (pc := 46) dX8_digest_46 fA_X8_186 c1 rfl <| r_i2l (pc := 49) dX8_digest_49 (by omega) <| r_ladd (pc := 50) dX8_digest_50 <| r_lstoren_1 (pc := 51) dX8_digest_51 rfl <| r_ldc2 (pc := 52) dX8_digest_52 cT_X8_281 <| r_lload_n (pc := 55) dX8_digest_55 rfl <| r_lmul (pc := 56) dX8_digest_56 <| r_aload_n (pc := 57) dX8_digest_57 rfl <| r_getf (pc := 58) dX8_digest_58 fA_X8_12 c0 rfl <| r_getf (pc := 61) dX8_digest_61 fA_X8_231 c1 rfl <| r_i2l (pc := 64) dX8_digest_64 (by omega) <| r_ladd (pc := 65) dX8_digest_65 <| r_lstoren_1 (pc := 66) dX8_digest_66 rfl <| r_aload_n (pc := 67) dX8_digest_67 rfl <| r_getf (pc := 68) dX8_digest_68 fA_X8_12 c0 rfl <| r_getf (pc := 71) dX8_digest_71 fA_X8_86 c1 rfl <| r_lload_n (pc := 74) dX8_digest_74 rfl <| cVi [_] (pc := 75) dX8_digest_75 k_X8_283 ⟨⟨Nat.le_of_ble_eq_true rfl, Nat.le_of_ble_eq_true rfl⟩, ⟨Nat.le_of_ble_eq_true rfl, Nat.le_of_ble_eq_true rfl⟩, Nat.le_of_ble_eq_true rfl⟩ ⟨rfl, rfl⟩ c2 ?_
  refine sp_pmix c2 c3 c4 c5 c6 hI rp d1 d2 d3 d4 ?_
  refine ⟨_, rfl, ?_⟩
  refine r_lstoren_1 (pc := 78) dX8_digest_78 rfl <| r_aload_n (pc := 79) dX8_digest_79 rfl <| r_getf (pc := 80) dX8_digest_80 fA_X8_12 c0 rfl <| r_getf (pc := 83) dX8_digest_83 fA_X8_120 c1 rfl <| r_lload_n (pc := 86) dX8_digest_86 rfl <| cVi [_] (pc := 87) dX8_digest_87 k_X8_287 ⟨⟨Nat.le_of_ble_eq_true rfl, Nat.le_of_ble_eq_true rfl⟩, ⟨Nat.le_of_ble_eq_true rfl, Nat.le_of_ble_eq_true rfl⟩, Nat.le_of_ble_eq_true rfl⟩ ⟨rfl, rfl⟩ c7 ?_
  refine sp_bmix c7 c8 c9 d5 d6 ro ?_
  refine ⟨_, rfl, ?_⟩
  refine r_lstoren_1 (pc := 90) dX8_digest_90 rfl <| r_lload_n (pc := 91) dX8_digest_91 rfl <| r_aload_n (pc := 92) dX8_digest_92 rfl <| r_getf (pc := 93) dX8_digest_93 fA_X8_12 c0 rfl <| r_getf (pc := 96) dX8_digest_96 fA_X8_133 c1 rfl <| r_aload_n (pc := 99) dX8_digest_99 rfl <| r_getf (pc := 100) dX8_digest_100 fA_X8_12 c0 rfl <| r_getf (pc := 103) dX8_digest_103 fA_X8_130 c1 rfl <| cSi [_, _, _] (pc := 106) dX8_digest_106 k_X8_288 ⟨⟨Nat.le_of_ble_eq_true rfl, Nat.le_of_ble_eq_true rfl⟩, ⟨Nat.le_of_ble_eq_true rfl, Nat.le_of_ble_eq_true rfl⟩, Nat.le_of_ble_eq_true rfl⟩ ⟨rfl, rfl⟩ ?_
  refine sp_cmix c10 (by omega) dt (by omega) (by omega) rt ?_
  refine ⟨_, rfl, ?_⟩
  refine r_lstoren_1 (pc := 109) dX8_digest_109 rfl <| r_lload_n (pc := 110) dX8_digest_110 rfl <| r_aload_n (pc := 111) dX8_digest_111 rfl <| r_getf (pc := 112) dX8_digest_112 fA_X8_12 c0 rfl <| r_getf (pc := 115) dX8_digest_115 fA_X8_183 c1 rfl <| r_aload_n (pc := 118) dX8_digest_118 rfl <| r_getf (pc := 119) dX8_digest_119 fA_X8_12 c0 rfl <| r_getf (pc := 122) dX8_digest_122 fA_X8_186 c1 rfl <| cSi [_, _, _] (pc := 125) dX8_digest_125 k_X8_288 ⟨⟨Nat.le_of_ble_eq_true rfl, Nat.le_of_ble_eq_true rfl⟩, ⟨Nat.le_of_ble_eq_true rfl, Nat.le_of_ble_eq_true rfl⟩, Nat.le_of_ble_eq_true rfl⟩ ⟨rfl, rfl⟩ ?_
  refine sp_cmix c11 (by omega) dq (by omega) (by omega) rq ?_
  refine ⟨_, rfl, ?_⟩
  refine r_lstoren_1 (pc := 128) dX8_digest_128 rfl <| r_lload_n (pc := 129) dX8_digest_129 rfl <| r_aload_n (pc := 130) dX8_digest_130 rfl <| r_getf (pc := 131) dX8_digest_131 fA_X8_12 c0 rfl <| r_getf (pc := 134) dX8_digest_134 fA_X8_210 c1 rfl <| r_bipush (pc := 137) dX8_digest_137 (by decide) <| cSi [_, _, _] (pc := 139) dX8_digest_139 k_X8_288 ⟨⟨Nat.le_of_ble_eq_true rfl, Nat.le_of_ble_eq_true rfl⟩, ⟨Nat.le_of_ble_eq_true rfl, Nat.le_of_ble_eq_true rfl⟩, Nat.le_of_ble_eq_true rfl⟩ ⟨rfl, rfl⟩ ?_
  refine sp_cmix c12 (by omega) dw (by omega) (by omega) rw_ ?_
  refine ⟨_, rfl, ?_⟩
  refine r_lstoren_1 (pc := 142) dX8_digest_142 rfl <| r_aload_n (pc := 143) dX8_digest_143 rfl <| r_lload_n (pc := 144) dX8_digest_144 rfl <| cVi [_] (pc := 145) dX8_digest_145 k_X8_292 ⟨⟨Nat.le_of_ble_eq_true rfl, Nat.le_of_ble_eq_true rfl⟩, ⟨Nat.le_of_ble_eq_true rfl, Nat.le_of_ble_eq_true rfl⟩, Nat.le_of_ble_eq_true rfl⟩ ⟨rfl, rfl⟩ c0 ?_
  refine sp_lmix c0 c1 c13 dl rl ?_
  refine ⟨_, rfl, ?_⟩
  refine r_lstoren_1 (pc := 148) dX8_digest_148 rfl <| r_lload_n (pc := 149) dX8_digest_149 rfl <| r_aload_n (pc := 150) dX8_digest_150 rfl <| r_getf (pc := 151) dX8_digest_151 fA_X8_12 c0 rfl <| r_getf (pc := 154) dX8_digest_154 fA_X8_234 c1 rfl <| r_aload_n (pc := 157) dX8_digest_157 rfl <| r_getf (pc := 158) dX8_digest_158 fA_X8_12 c0 rfl <| r_getf (pc := 161) dX8_digest_161 fA_X8_231 c1 rfl <| r_iconst (pc := 164) dX8_digest_164 <| r_imul (pc := 165) dX8_digest_165 <| cSi [_, _, _] (pc := 166) dX8_digest_166 k_X8_288 ⟨⟨Nat.le_of_ble_eq_true rfl, Nat.le_of_ble_eq_true rfl⟩, ⟨Nat.le_of_ble_eq_true rfl, Nat.le_of_ble_eq_true rfl⟩, Nat.le_of_ble_eq_true rfl⟩ ⟨rfl, rfl⟩ ?_
  refine sp_cmix c14 (by omega) de (by omega) (by omega) re ?_
  refine ⟨_, rfl, ?_⟩
  refine r_lstoren_1 (pc := 169) dX8_digest_169 rfl <| r_ldc2 (pc := 170) dX8_digest_170 cT_X8_281 <| r_lload_n (pc := 173) dX8_digest_173 rfl <| r_lmul (pc := 174) dX8_digest_174 <| r_aload_n (pc := 175) dX8_digest_175 rfl <| r_getf (pc := 176) dX8_digest_176 fA_X8_62 c0 rfl <| r_i2l (pc := 179) dX8_digest_179 (by omega) <| r_ladd (pc := 180) dX8_digest_180 <| r_lstoren_1 (pc := 181) dX8_digest_181 rfl <| r_ldc2 (pc := 182) dX8_digest_182 cT_X8_281 <| r_lload_n (pc := 185) dX8_digest_185 rfl <| r_lmul (pc := 186) dX8_digest_186 <| r_aload_n (pc := 187) dX8_digest_187 rfl <| r_getf (pc := 188) dX8_digest_188 fA_X8_66 c0 rfl <| r_i2l (pc := 191) dX8_digest_191 (by omega) <| r_ladd (pc := 192) dX8_digest_192 <| r_lret (pc := 193) dX8_digest_193 rfl ⟨Nat.le_of_ble_eq_true rfl, Nat.le_of_ble_eq_true rfl⟩ <| ?_
  rw [show 3 * s.bk 3 = s.bk 3 * 3 by omega] at hQ
  exact hQ
end CD


