/-! ===== the class: a talk ===== -/
theorem pow9 {j : Nat} (h : j < 9) : (2 ^ j : Nat) ≤ 256 := by
  have : 2 ^ j ≤ 2 ^ 8 := Nat.pow_le_pow_right (by omega) (by omega)
  omega
theorem shl1 {j : Nat} (h : j < 9) : Int32.ofInt 1 <<< (Int32.ofInt (j : Int) &&& 31) = Int32.ofInt ((2 ^ j : Nat) : Int) := by
  have hp := pow9 h
  have := i_shl (x := 1) (j := (j : Int)) (by omega) (by omega) (by simp only [Int.toNat_natCast]; omega)
  simpa using this
theorem and_pow {v j : Nat} : v &&& 2 ^ j = 0 ↔ v.testBit j = false := by
  constructor
  · intro h
    have := congrArg (fun x => x.testBit j) h
    simp only [Nat.testBit_and, Nat.testBit_two_pow_self, Nat.zero_testBit, Bool.and_true] at this
    exact this
  · intro h
    apply Nat.eq_of_testBit_eq
    intro i
    rw [Nat.testBit_and, Nat.testBit_two_pow, Nat.zero_testBit]
    by_cases e : j = i
    · rw [← e, h]; simp
    · simp [e]
/-- the people and the bows of a talk -/
def TC (h : Hp) (pb bb : Nat) (np : Int) (kd ag ld rk ow la : Int → Int) : Prop := isP h pb np kd ag ld rk ∧ isB h bb ow la ∧ (Bd kd 0 5 ∧ Bd ag 0 99 ∧ Bd ld 0 9 ∧ Bd rk 0 9) ∧ Bd ow 0 99 ∧ Bd la (-1) 7
abbrev nmC (kd ag ld rk ow la : Int → Int) : Int → Int → Int → Int → Int := nameV (AC kd ag ld rk) (OC ow) (LC la)
section CH
variable {G : GT} {n : Nat} {h : Hp} {Q : PT} {b pb bb : Nat} {np fa : Int} {kd ag ld rk ow la ro co le ak : Int → Int} {m ab : Nat}
theorem lp_nm {x y : Int} (hT : TC h pb bb np kd ag ld rk ow la) (hK : h b = some (aO 0 [vR (b + 1), vI fa, vI (m : Int), vI (ab : Nat), vR (b + 3), vR (b + 4), vR (b + 5), vR (b + 6)])) (h4 : h (b + 4) = some (aA 9 co)) (h5 : h (b + 5) = some (aA 9 le)) (hm : m ≤ 9) (hi : ∀ j : Nat, j < m → (0 ≤ co j ∧ co j ≤ 9) ∧ (1 ≤ le j ∧ le j ≤ 99)) (hx : 0 ≤ x ∧ x < 8) (hy : 0 ≤ y ∧ y < 8) (hxy : x ≠ y) (hL : LC la x y = -1 ∨ LC la x y = x ∨ LC la x y = y)
    (hQ : Q (some (vI (bitsN (fun j => decide (¬ nmC kd ag ld rk ow la (co j) (le j) x y = -1)) m : Nat))) n h) :
    ∀ (q j : Nat), j + q = m → At G mX0_naming 6 [vR b, vR pb, vR bb, vI x, vI y, vI (bitsN (fun j => decide (¬ nmC kd ag ld rk ow la (co j) (le j) x y = -1)) j : Nat), vI (j : Int)] [] (0, 0, n) h Q := by
  obtain ⟨hP, hB, ⟨d1, d2, d3, d4⟩, d5, d6⟩ := hT
  intro q
  induction q with
  | zero =>
    intro j hj
    have e : j = m := by omega
    subst e
    refine r_iload (pc := 6) dX0_naming_6 rfl <| r_aload_n (pc := 8) dX0_naming_8 rfl <| r_getf (pc := 9) dX0_naming_9 fA_X0_22 hK rfl <| r_icmp_ge (pc := 12) 45 dX0_naming_12 (by decide) (by omega) (by omega) (fun hc_12 => ?_) (fun hc_12 => ?_)
    · skip
      refine r_iload (pc := 45) dX0_naming_45 rfl <| r_iret (pc := 47) dX0_naming_47 rfl ⟨Nat.le_of_ble_eq_true rfl, Nat.le_of_ble_eq_true rfl⟩ <| ?_
      exact hQ
    · skip
      exfalso; omega
  | succ q ih =>
    intro j hj
    have hij := hi j (by omega)
    have e2 := i_orN (bitsN (fun j => decide (¬ nmC kd ag ld rk ow la (co j) (le j) x y = -1)) j) (2 ^ j)
    have nb := @nameV_in (AC kd ag ld rk) (OC ow) (LC la) (co j) (le j) x y ⟨(d6 _).1, by have := (d6 (x * 8 + y)).2; omega⟩ hx hy
    refine r_iload (pc := 6) dX0_naming_6 rfl <| r_aload_n (pc := 8) dX0_naming_8 rfl <| r_getf (pc := 9) dX0_naming_9 fA_X0_22 hK rfl <| r_icmp_ge (pc := 12) 45 dX0_naming_12 (by decide) (by omega) (by omega) (fun hc_12 => ?_) (fun hc_12 => ?_)
    · skip
      exfalso; omega
    · skip
      refine r_aload_n (pc := 15) dX0_naming_15 rfl <| r_iload (pc := 16) dX0_naming_16 rfl <| r_aload_n (pc := 18) dX0_naming_18 rfl <| r_aload_n (pc := 19) dX0_naming_19 rfl <| r_iload_n (pc := 20) dX0_naming_20 rfl <| r_iload (pc := 21) dX0_naming_21 rfl <| cVi [_, _, _, _, _] (pc := 23) dX0_naming_23 k_X0_89 ⟨⟨Nat.le_of_ble_eq_true rfl, Nat.le_of_ble_eq_true rfl⟩, ⟨Nat.le_of_ble_eq_true rfl, Nat.le_of_ble_eq_true rfl⟩, Nat.le_of_ble_eq_true rfl⟩ ⟨rfl, rfl⟩ hK ?_
      refine sp_named hK h4 h5 hP hB d1 d2 d3 d4 d5 d6 (by omega) hij.1 hij.2 hx hy hxy hL ?_
      refine ⟨_, rfl, ?_⟩
      refine r_iconst (pc := 26) dX0_naming_26 <| r_icmp_eq (pc := 27) 39 dX0_naming_27 (by decide) (by omega) (by omega) (fun hc_27 => ?_) (fun hc_27 => ?_)
      · skip
        refine r_iinc_6 (pc := 39) dX0_naming_39 rfl rfl <| r_goto (pc := 42) 6 dX0_naming_42 (by decide) <| ?_
        have hs := ih (j + 1) (by omega)
        first
          | (rw [show bitsN (fun j : Nat => decide (¬ nmC kd ag ld rk ow la (co j) (le j) x y = -1)) (j + 1) = bitsN (fun j : Nat => decide (¬ nmC kd ag ld rk ow la (co j) (le j) x y = -1)) j ||| 2 ^ j from by simp only [bitsN, nmC, hc_27, not_false_eq_true, decide_true, if_true]] at hs
             exact hs)
          | (rw [show bitsN (fun j : Nat => decide (¬ nmC kd ag ld rk ow la (co j) (le j) x y = -1)) (j + 1) = bitsN (fun j : Nat => decide (¬ nmC kd ag ld rk ow la (co j) (le j) x y = -1)) j from by simp [bitsN, nmC, hc_27]] at hs
             exact hs)
      · skip
        refine r_iload (pc := 30) dX0_naming_30 rfl <| r_iconst (pc := 32) dX0_naming_32 <| r_iload (pc := 33) dX0_naming_33 rfl <| r_ishl (pc := 35) ((2 ^ j : Nat) : Int) dX0_naming_35 (shl1 (by omega)) <| r_ior (pc := 36) ((bitsN (fun j => decide (¬ nmC kd ag ld rk ow la (co j) (le j) x y = -1)) j ||| 2 ^ j : Nat) : Int) dX0_naming_36 e2 <| r_istore_5 (pc := 37) dX0_naming_37 rfl <| r_iinc_6 (pc := 39) dX0_naming_39 rfl rfl <| r_goto (pc := 42) 6 dX0_naming_42 (by decide) <| ?_
        have hs := ih (j + 1) (by omega)
        first
          | (rw [show bitsN (fun j : Nat => decide (¬ nmC kd ag ld rk ow la (co j) (le j) x y = -1)) (j + 1) = bitsN (fun j : Nat => decide (¬ nmC kd ag ld rk ow la (co j) (le j) x y = -1)) j ||| 2 ^ j from by simp only [bitsN, nmC, hc_27, not_false_eq_true, decide_true, if_true]] at hs
             exact hs)
          | (rw [show bitsN (fun j : Nat => decide (¬ nmC kd ag ld rk ow la (co j) (le j) x y = -1)) (j + 1) = bitsN (fun j : Nat => decide (¬ nmC kd ag ld rk ow la (co j) (le j) x y = -1)) j from by simp [bitsN, nmC, hc_27]] at hs
             exact hs)
theorem sp_naming {x y : Int} (hT : TC h pb bb np kd ag ld rk ow la) (hK : h b = some (aO 0 [vR (b + 1), vI fa, vI (m : Int), vI (ab : Nat), vR (b + 3), vR (b + 4), vR (b + 5), vR (b + 6)])) (h4 : h (b + 4) = some (aA 9 co)) (h5 : h (b + 5) = some (aA 9 le)) (hm : m ≤ 9) (hi : ∀ j : Nat, j < m → (0 ≤ co j ∧ co j ≤ 9) ∧ (1 ≤ le j ∧ le j ≤ 99)) (hx : 0 ≤ x ∧ x < 8) (hy : 0 ≤ y ∧ y < 8) (hxy : x ≠ y) (hL : LC la x y = -1 ∨ LC la x y = x ∨ LC la x y = y)
    (hQ : Q (some (vI (bitsN (fun j => decide (¬ nmC kd ag ld rk ow la (co j) (le j) x y = -1)) m : Nat))) n h) : Cl G mX0_naming [vR b, vR pb, vR bb, vI x, vI y] n h Q := by
  refine cl_of (by decide) (Nat.le_of_ble_eq_true rfl) rfl ?_
  refine r_iconst (pc := 0) dX0_naming_0 <| r_istore_5 (pc := 1) dX0_naming_1 rfl <| r_iconst (pc := 3) dX0_naming_3 <| r_istore_6 (pc := 4) dX0_naming_4 rfl <| ?_
  exact lp_nm hT hK h4 h5 hm hi hx hy hxy hL hQ m 0 (by omega)
theorem lp_set {bits : Nat} (hK : h b = some (aO 0 [vR (b + 1), vI fa, vI (m : Int), vI (ab : Nat), vR (b + 3), vR (b + 4), vR (b + 5), vR (b + 6)])) (h6 : h (b + 6) = some (aA 10 ak)) (hm : m ≤ 9) (hak : ∀ i, 1 ≤ i → i < 10 → ak i = (askN ro i m : Nat)) (hab : ab < 1024)
    : ∀ (q : Nat) (k : Int) (l3 l4 : AV), isJ l3 = false → 1 ≤ k → k + q = 10 → Q (some (vI (setG (fun k => lowJ (bits &&& askN ro k m)) (fun j => ab.testBit j) q k))) n h → At G mX0_settledIn 2 [vR b, vI (bits : Nat), vI k, l3, l4] [] (0, 0, n) h Q := by
  intro q
  induction q with
  | zero =>
    intro k l3 l4 hj3 hk hq hQ
    refine r_iload_n (pc := 2) dX0_settledIn_2 rfl <| r_bipush (pc := 3) dX0_settledIn_3 (by decide) <| r_icmp_gt (pc := 5) 46 dX0_settledIn_5 (by decide) (by omega) (by omega) (fun hc_5 => ?_) (fun hc_5 => ?_)
    · skip
      refine r_iconst (pc := 46) dX0_settledIn_46 <| r_iret (pc := 47) dX0_settledIn_47 rfl ⟨Nat.le_of_ble_eq_true rfl, Nat.le_of_ble_eq_true rfl⟩ <| ?_
      exact hQ
    · skip
      exfalso; omega
  | succ q ih =>
    intro k l3 l4 hj3 hk hq hQ
    have hN : bits &&& askN ro k m < 512 := by
      have h1 : askN ro k m < 2 ^ m := askN_lt ro k m
      have h2 : 2 ^ m ≤ 2 ^ 9 := Nat.pow_le_pow_right (by omega) hm
      have h3 : bits &&& askN ro k m ≤ askN ro k m := Nat.and_le_right
      omega
    have e1 := i_andN bits (askN ro k m)
    rw [← hak k hk (by omega)] at e1
    have e2 := low_and (bits &&& askN ro k m) hN
    have e3 := i_andN (lowV (bits &&& askN ro k m)) ab
    have hlv := lowV_in _ hN
    have hle : lowV (bits &&& askN ro k m) &&& ab ≤ lowV (bits &&& askN ro k m) := Nat.and_le_left
    refine r_iload_n (pc := 2) dX0_settledIn_2 rfl <| r_bipush (pc := 3) dX0_settledIn_3 (by decide) <| r_icmp_gt (pc := 5) 46 dX0_settledIn_5 (by decide) (by omega) (by omega) (fun hc_5 => ?_) (fun hc_5 => ?_)
    · skip
      exfalso; omega
    · skip
      refine r_iload_n (pc := 8) dX0_settledIn_8 rfl <| r_aload_n (pc := 9) dX0_settledIn_9 rfl <| r_getf (pc := 10) dX0_settledIn_10 fA_X0_38 hK rfl <| r_iload_n (pc := 13) dX0_settledIn_13 rfl <| r_iald (pc := 14) dX0_settledIn_14 h6 (by omega) (by decide) <| r_iand (pc := 15) ((bits &&& askN ro k m : Nat) : Int) dX0_settledIn_15 e1 <| r_istoren_3 (pc := 16) dX0_settledIn_16 rfl <| r_iload_n (pc := 17) dX0_settledIn_17 rfl <| r_iload_n (pc := 18) dX0_settledIn_18 rfl <| r_ineg (pc := 19) dX0_settledIn_19 <| r_iand (pc := 20) (lowV (bits &&& askN ro k m) : Nat) dX0_settledIn_20 e2 <| r_istore_4 (pc := 21) dX0_settledIn_21 rfl <| r_iload (pc := 23) dX0_settledIn_23 rfl <| r_if_eq (pc := 25) 40 dX0_settledIn_25 (by decide) (by omega) (fun hc_25 => ?_) (fun hc_25 => ?_)
      · skip
        refine r_iinc_2 (pc := 40) dX0_settledIn_40 rfl rfl <| r_goto (pc := 43) 2 dX0_settledIn_43 (by decide) <| ?_
        refine ih (k + 1) _ _ rfl (by omega) (by omega) ?_
        rcases hlo : lowJ (bits &&& askN ro k m) with _ | j
        · rw [setG_n hlo] at hQ; exact hQ
        · have hb1 : ab.testBit j = true := by
            have hv : lowV (bits &&& askN ro k m) = 2 ^ j := by unfold lowV; rw [hlo]
            first
              | (exfalso; rw [hv] at hc_25; have := Nat.two_pow_pos j; omega)
              | (rw [hv] at hc_35
                 cases hb : ab.testBit j with
                 | true => rfl
                 | false => exact absurd (by rw [Nat.and_comm, and_pow.mpr hb]; rfl) hc_35)
          rw [setG_t hlo hb1] at hQ; exact hQ
      · skip
        refine r_iload (pc := 28) dX0_settledIn_28 rfl <| r_aload_n (pc := 30) dX0_settledIn_30 rfl <| r_getf (pc := 31) dX0_settledIn_31 fA_X0_25 hK rfl <| r_iand (pc := 34) ((lowV (bits &&& askN ro k m) &&& ab : Nat) : Int) dX0_settledIn_34 e3 <| r_if_ne (pc := 35) 40 dX0_settledIn_35 (by decide) (by omega) (fun hc_35 => ?_) (fun hc_35 => ?_)
        · skip
          refine r_iinc_2 (pc := 40) dX0_settledIn_40 rfl rfl <| r_goto (pc := 43) 2 dX0_settledIn_43 (by decide) <| ?_
          refine ih (k + 1) _ _ rfl (by omega) (by omega) ?_
          rcases hlo : lowJ (bits &&& askN ro k m) with _ | j
          · rw [setG_n hlo] at hQ; exact hQ
          · have hb1 : ab.testBit j = true := by
              have hv : lowV (bits &&& askN ro k m) = 2 ^ j := by unfold lowV; rw [hlo]
              first
                | (exfalso; rw [hv] at hc_25; have := Nat.two_pow_pos j; omega)
                | (rw [hv] at hc_35
                   cases hb : ab.testBit j with
                   | true => rfl
                   | false => exact absurd (by rw [Nat.and_comm, and_pow.mpr hb]; rfl) hc_35)
            rw [setG_t hlo hb1] at hQ; exact hQ
        · skip
          refine r_iload_n (pc := 38) dX0_settledIn_38 rfl <| r_iret (pc := 39) dX0_settledIn_39 rfl ⟨Nat.le_of_ble_eq_true rfl, Nat.le_of_ble_eq_true rfl⟩ <| ?_
          rcases hlo : lowJ (bits &&& askN ro k m) with _ | j
          · exfalso
            have hv : lowV (bits &&& askN ro k m) = 0 := by unfold lowV; rw [hlo]
            rw [hv] at hc_25
            exact hc_25 rfl
          · have hv : lowV (bits &&& askN ro k m) = 2 ^ j := by unfold lowV; rw [hlo]
            rw [hv] at hc_35
            have hb1 : ab.testBit j = false := by
              apply and_pow.mp
              rw [Nat.and_comm]
              omega
            rw [setG_f hlo hb1] at hQ
            exact hQ
theorem sp_settledIn {bits : Nat} (hK : h b = some (aO 0 [vR (b + 1), vI fa, vI (m : Int), vI (ab : Nat), vR (b + 3), vR (b + 4), vR (b + 5), vR (b + 6)])) (h6 : h (b + 6) = some (aA 10 ak)) (hm : m ≤ 9) (hak : ∀ i, 1 ≤ i → i < 10 → ak i = (askN ro i m : Nat)) (hab : ab < 1024)
    (hQ : Q (some (vI (setG (fun k => lowJ (bits &&& askN ro k m)) (fun j => ab.testBit j) 9 1))) n h) : Cl G mX0_settledIn [vR b, vI (bits : Nat)] n h Q := by
  refine cl_of (by decide) (Nat.le_of_ble_eq_true rfl) rfl ?_
  refine r_iconst (pc := 0) dX0_settledIn_0 <| r_istoren_2 (pc := 1) dX0_settledIn_1 rfl <| ?_
  exact lp_set hK h6 hm hak hab 9 1 _ _ rfl (by omega) (by omega) hQ
end CH

