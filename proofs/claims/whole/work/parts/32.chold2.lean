/-! ===== the class: Talk.hold ===== -/
/-- a book without a fault at b: its items -/
def isGB (h : Hp) (b : Nat) (its : List IT) : Prop := ∃ (ro co le ak : Int → Int) (ab : Nat), h b = some (aO 0 [vR (b + 1), vI (-1), vI (its.length : Int), vI (ab : Nat), vR (b + 3), vR (b + 4), vR (b + 5), vR (b + 6)]) ∧ h (b + 3) = some (aA 9 ro) ∧ h (b + 4) = some (aA 9 co) ∧ h (b + 5) = some (aA 9 le) ∧ h (b + 6) = some (aA 10 ak) ∧ (Bd ro 0 9 ∧ Bd co 0 9 ∧ Bd le 0 99) ∧ its.length ≤ 9 ∧ clRel ro co le its ∧ agRel ab its ∧ (∀ i, 1 ≤ i → i < 10 → ak i = (askN ro i its.length : Nat))
theorem isBk.good {h : Hp} {b : Nat} {r : Int × List IT} (hk : isBk h b r) (he : r.1 = -1) : isGB h b r.2 := by
  rcases hk.2 with ⟨-, q⟩ | ⟨q, -⟩
  · exact q
  · exact absurd he q
theorem isGB.keep {h h' : Hp} {b : Nat} {its : List IT} {S : Nat → Prop} (hg : isGB h b its) (hF : Fr S h h') (h0 : ¬ S b) (h3 : ¬ S (b + 3)) (h4 : ¬ S (b + 4)) (h5 : ¬ S (b + 5)) (h6 : ¬ S (b + 6)) : isGB h' b its := by
  obtain ⟨ro, co, le, ak, ab, g0, g3, g4, g5, g6, g⟩ := hg
  exact ⟨ro, co, le, ak, ab, hF.keep g0 h0, hF.keep g3 h3, hF.keep g4 h4, hF.keep g5 h5, hF.keep g6 h6, g⟩
theorem isP.keep {h h' : Hp} {b : Nat} {np : Int} {kd ag ld rk : Int → Int} {S : Nat → Prop} (hg : isP h b np kd ag ld rk) (hF : Fr S h h') (h0 : ¬ S b) (h1 : ¬ S (b + 1)) (h2 : ¬ S (b + 2)) (h3 : ¬ S (b + 3)) (h4 : ¬ S (b + 4)) : isP h' b np kd ag ld rk := by
  obtain ⟨g0, g1, g2, g3, g4⟩ := hg
  exact ⟨hF.keep g0 h0, hF.keep g1 h1, hF.keep g2 h2, hF.keep g3 h3, hF.keep g4 h4⟩
theorem isB.keep {h h' : Hp} {b : Nat} {ow la : Int → Int} {S : Nat → Prop} (hg : isB h b ow la) (hF : Fr S h h') (h0 : ¬ S b) (h1 : ¬ S (b + 1)) (h2 : ¬ S (b + 2)) : isB h' b ow la := by
  obtain ⟨g0, g1, g2⟩ := hg
  exact ⟨hF.keep g0 h0, hF.keep g1 h1, hF.keep g2 h2⟩
/-- who went first last: one of the two, alike both ways -/
def laOk (la : Int → Int) : Prop := ∀ x y, 0 ≤ x → x < 8 → 0 ≤ y → y < 8 → x ≠ y → LC la y x = LC la x y ∧ (LC la x y = -1 ∨ LC la x y = x ∨ LC la x y = y)
section CH2
variable {G : GT} {n : Nat} {h : Hp} {Q : PT} {b pb bb tb : Nat} {np fa : Int} {kd ag ld rk ow la ro co le ak : Int → Int} {m ab : Nat} {its : List IT}
theorem lp_ci {bits j0 : Nat} {k : Int} (hK : h b = some (aO 0 [vR (b + 1), vI fa, vI (m : Int), vI (ab : Nat), vR (b + 3), vR (b + 4), vR (b + 5), vR (b + 6)])) (h6 : h (b + 6) = some (aA 10 ak)) (hm : m ≤ 9) (hak : ak k = (askN ro k m : Nat)) (hk : 1 ≤ k ∧ k ≤ 9) (hlo : lowJ (bits &&& askN ro k m) = some j0) (hQ : Q (some (vI (j0 : Int))) n h) :
    ∀ (q j : Nat), j + q = j0 → At G mX0_countingItem 2 [vR b, vI (bits : Nat), vI k, vI (j : Int)] [] (0, 0, n) h Q := by
  obtain ⟨s1, s2, s3⟩ := lowJ_spec hlo
  have hN : bits &&& askN ro k m < 512 := by
    have h1 : askN ro k m < 2 ^ m := askN_lt ro k m
    have h2 : 2 ^ m ≤ 2 ^ 9 := Nat.pow_le_pow_right (by omega) hm
    have h3 : bits &&& askN ro k m ≤ askN ro k m := Nat.and_le_right
    omega
  have hj0m : j0 < m := by
    rw [Nat.testBit_and, askN_bits, bitsN_bit] at s1
    simp only [Bool.and_eq_true, decide_eq_true_eq] at s1
    exact s1.2.1
  have e1 := i_andN bits (askN ro k m)
  rw [← hak] at e1
  intro q
  induction q with
  | zero =>
    intro j hj
    have e : j = j0 := by omega
    subst e
    have e3 := i_andN (bits &&& askN ro k m) (2 ^ j)
    have hle : (bits &&& askN ro k m) &&& 2 ^ j ≤ 2 ^ j := Nat.and_le_right
    have hp := pow9 s3
    refine r_iload_n (pc := 2) dX0_countingItem_2 rfl <| r_aload_n (pc := 3) dX0_countingItem_3 rfl <| r_getf (pc := 4) dX0_countingItem_4 fA_X0_22 hK rfl <| r_icmp_ge (pc := 7) 33 dX0_countingItem_7 (by decide) (by omega) (by omega) (fun hc_7 => ?_) (fun hc_7 => ?_)
    · skip
      exfalso; omega
    · skip
      refine r_iload_n (pc := 10) dX0_countingItem_10 rfl <| r_aload_n (pc := 11) dX0_countingItem_11 rfl <| r_getf (pc := 12) dX0_countingItem_12 fA_X0_38 hK rfl <| r_iload_n (pc := 15) dX0_countingItem_15 rfl <| r_iald (pc := 16) dX0_countingItem_16 h6 (by omega) (by decide) <| r_iand (pc := 17) ((bits &&& askN ro k m : Nat) : Int) dX0_countingItem_17 e1 <| r_iconst (pc := 18) dX0_countingItem_18 <| r_iload_n (pc := 19) dX0_countingItem_19 rfl <| r_ishl (pc := 20) ((2 ^ j : Nat) : Int) dX0_countingItem_20 (shl1 (by omega)) <| r_iand (pc := 21) (((bits &&& askN ro k m) &&& 2 ^ j : Nat) : Int) dX0_countingItem_21 e3 <| r_if_eq (pc := 22) 27 dX0_countingItem_22 (by decide) (by omega) (fun hc_22 => ?_) (fun hc_22 => ?_)
      · skip
        exfalso
        have hz : (bits &&& askN ro k m) &&& 2 ^ j = 0 := by omega
        rw [and_pow.mp hz] at s1
        exact absurd s1 (by decide)
      · skip
        refine r_iload_n (pc := 25) dX0_countingItem_25 rfl <| r_iret (pc := 26) dX0_countingItem_26 rfl ⟨Nat.le_of_ble_eq_true rfl, Nat.le_of_ble_eq_true rfl⟩ <| ?_
        exact hQ
  | succ q ih =>
    intro j hj
    have e3 := i_andN (bits &&& askN ro k m) (2 ^ j)
    have hle : (bits &&& askN ro k m) &&& 2 ^ j ≤ 2 ^ j := Nat.and_le_right
    have hp := pow9 (j := j) (by omega)
    refine r_iload_n (pc := 2) dX0_countingItem_2 rfl <| r_aload_n (pc := 3) dX0_countingItem_3 rfl <| r_getf (pc := 4) dX0_countingItem_4 fA_X0_22 hK rfl <| r_icmp_ge (pc := 7) 33 dX0_countingItem_7 (by decide) (by omega) (by omega) (fun hc_7 => ?_) (fun hc_7 => ?_)
    · skip
      exfalso; omega
    · skip
      refine r_iload_n (pc := 10) dX0_countingItem_10 rfl <| r_aload_n (pc := 11) dX0_countingItem_11 rfl <| r_getf (pc := 12) dX0_countingItem_12 fA_X0_38 hK rfl <| r_iload_n (pc := 15) dX0_countingItem_15 rfl <| r_iald (pc := 16) dX0_countingItem_16 h6 (by omega) (by decide) <| r_iand (pc := 17) ((bits &&& askN ro k m : Nat) : Int) dX0_countingItem_17 e1 <| r_iconst (pc := 18) dX0_countingItem_18 <| r_iload_n (pc := 19) dX0_countingItem_19 rfl <| r_ishl (pc := 20) ((2 ^ j : Nat) : Int) dX0_countingItem_20 (shl1 (by omega)) <| r_iand (pc := 21) (((bits &&& askN ro k m) &&& 2 ^ j : Nat) : Int) dX0_countingItem_21 e3 <| r_if_eq (pc := 22) 27 dX0_countingItem_22 (by decide) (by omega) (fun hc_22 => ?_) (fun hc_22 => ?_)
      · skip
        refine r_iinc_3 (pc := 27) dX0_countingItem_27 rfl rfl <| r_goto (pc := 30) 2 dX0_countingItem_30 (by decide) <| ?_
        exact ih (j + 1) (by omega)
      · skip
        exfalso
        have hz := and_pow.mpr (s2 j (by omega))
        omega
theorem sp_countingItem {bits j0 : Nat} {k : Int} (hK : h b = some (aO 0 [vR (b + 1), vI fa, vI (m : Int), vI (ab : Nat), vR (b + 3), vR (b + 4), vR (b + 5), vR (b + 6)])) (h6 : h (b + 6) = some (aA 10 ak)) (hm : m ≤ 9) (hak : ak k = (askN ro k m : Nat)) (hk : 1 ≤ k ∧ k ≤ 9) (hlo : lowJ (bits &&& askN ro k m) = some j0) (hQ : Q (some (vI (j0 : Int))) n h) : Cl G mX0_countingItem [vR b, vI (bits : Nat), vI k] n h Q := by
  refine cl_of (by decide) (Nat.le_of_ble_eq_true rfl) rfl ?_
  refine r_iconst (pc := 0) dX0_countingItem_0 <| r_istoren_3 (pc := 1) dX0_countingItem_1 rfl <| ?_
  exact lp_ci hK h6 hm hak hk hlo hQ j0 0 (by omega)
/-- hold: the talk's end in the talk's cell -/
theorem sp_hold {x y g0 r0 i0 : Int} (hg : isGB h b its) (hok : itsOk its) (hT : TC h pb bb np kd ag ld rk ow la) (hla : laOk la) (hO : h tb = some (aO 5 [vI g0, vI r0, vI i0])) (hne : tb ≠ b ∧ tb ≠ b + 3 ∧ tb ≠ b + 4 ∧ tb ≠ b + 5 ∧ tb ≠ b + 6) (hne2 : (tb < pb ∨ pb + 4 < tb) ∧ (tb < bb ∨ bb + 2 < tb)) (hx : 0 ≤ x ∧ x < 8) (hy : 0 ≤ y ∧ y < 8) (hxy : x ≠ y)
    (hQ : ∀ h', h' tb = some (aO 5 [vI (talkF (nmC kd ag ld rk ow la) (itOf its) its.length 0 x y).1, vI (talkF (nmC kd ag ld rk ow la) (itOf its) its.length 0 x y).2.1, vI (talkF (nmC kd ag ld rk ow la) (itOf its) its.length 0 x y).2.2]) → Fr (fun q => q = tb) h h' → Q none n h') : Cl G mX5_hold [vR tb, vR b, vR pb, vR bb, vI x, vI y] n h Q := by
  obtain ⟨ro, co, le, ak, ab, hK, h3, h4, h5, h6, ⟨bd1, bd2, bd3⟩, hm, hcl, hag, hak⟩ := hg
  have hT' := hT
  obtain ⟨hP, hB, ⟨d1, d2, d3, d4⟩, d5, d6⟩ := hT
  obtain ⟨l1, l2⟩ := hla x y hx.1 hx.2 hy.1 hy.2 hxy
  have hi : ∀ j : Nat, j < its.length → (0 ≤ co j ∧ co j ≤ 9) ∧ (1 ≤ le j ∧ le j ≤ 99) := by
    intro j hj
    obtain ⟨q, hq⟩ : ∃ q, its[j]? = some q := ⟨its[j], List.getElem?_eq_getElem hj⟩
    obtain ⟨-, c2, c3⟩ := hcl j q hq
    have := hok q (List.mem_of_getElem? hq)
    rw [c2, c3]; exact ⟨this.2.2.1, this.2.2.2⟩
  have hab : ab < 1024 := hag.lt (by omega)
  have htb := talk_bits (nm := nmC kd ag ld rk ow la) (a := x) (b := y) (bits := bitsN (fun j => decide (¬ nmC kd ag ld rk ow la (co j) (le j) x y = -1)) its.length) (ro := ro) hm (fun j q hq => (hcl j q hq).1) hag hok (by
      intro j
      rw [bitsN_bit]
      simp only [Bool.and_eq_true, decide_eq_true_eq]
      constructor
      · rintro ⟨hj, hn⟩
        obtain ⟨q, hq⟩ : ∃ q, its[j]? = some q := ⟨its[j], List.getElem?_eq_getElem hj⟩
        obtain ⟨-, c2, c3⟩ := hcl j q hq
        exact ⟨q, hq, by rw [← c2, ← c3]; exact hn⟩
      · rintro ⟨q, hq, hn⟩
        have hj : j < its.length := (List.getElem?_eq_some_iff.mp hq).1
        obtain ⟨-, c2, c3⟩ := hcl j q hq
        exact ⟨hj, by rw [c2, c3]; exact hn⟩) (by
      intro q hq
      have := hok q hq
      exact name_none (by omega) (by omega) l2 l1 (by omega))
  have hset := setG_in (fun k => lowJ (bitsN (fun j => decide (¬ nmC kd ag ld rk ow la (co j) (le j) x y = -1)) its.length &&& askN ro k its.length)) (fun j => ab.testBit j) 9 1
  generalize hbits : bitsN (fun j => decide (¬ nmC kd ag ld rk ow la (co j) (le j) x y = -1)) its.length = bits at htb hset
  generalize hkk : setG (fun k => lowJ (bits &&& askN ro k its.length)) (fun j => ab.testBit j) 9 1 = kk at htb hset
  refine cl_of (by decide) (Nat.le_of_ble_eq_true rfl) rfl ?_
  refine r_aload_n (pc := 0) dX5_hold_0 rfl <| r_aload_n (pc := 1) dX5_hold_1 rfl <| r_aload_n (pc := 2) dX5_hold_2 rfl <| r_iload (pc := 3) dX5_hold_3 rfl <| r_iload (pc := 5) dX5_hold_5 rfl <| cVi [_, _, _, _] (pc := 7) dX5_hold_7 k_X5_21 ⟨⟨Nat.le_of_ble_eq_true rfl, Nat.le_of_ble_eq_true rfl⟩, ⟨Nat.le_of_ble_eq_true rfl, Nat.le_of_ble_eq_true rfl⟩, Nat.le_of_ble_eq_true rfl⟩ ⟨rfl, rfl⟩ hK ?_
  refine sp_naming hT' hK h4 h5 hm hi hx hy hxy l2 ?_
  rw [hbits]
  refine ⟨_, rfl, ?_⟩
  refine r_istore_6 (pc := 10) dX5_hold_10 rfl <| r_aload_n (pc := 12) dX5_hold_12 rfl <| r_iload (pc := 13) dX5_hold_13 rfl <| cVi [_] (pc := 15) dX5_hold_15 k_X5_27 ⟨⟨Nat.le_of_ble_eq_true rfl, Nat.le_of_ble_eq_true rfl⟩, ⟨Nat.le_of_ble_eq_true rfl, Nat.le_of_ble_eq_true rfl⟩, Nat.le_of_ble_eq_true rfl⟩ ⟨rfl, rfl⟩ hK ?_
  refine sp_settledIn hK h6 hm hak hab ?_
  rw [hkk]
  refine ⟨_, rfl, ?_⟩
  refine r_istore_7 (pc := 18) dX5_hold_18 rfl <| r_aload_n (pc := 20) dX5_hold_20 rfl <| r_iload (pc := 21) dX5_hold_21 rfl <| r_iconst (pc := 23) dX5_hold_23 <| r_icmp_ne (pc := 24) 31 dX5_hold_24 (by decide) (by omega) (by omega) (fun hc_24 => ?_) (fun hc_24 => ?_)
  · skip
    obtain ⟨hk1, hk9, j0, hj0, hagj⟩ := hset.resolve_left hc_24
    obtain ⟨s1, s2, s3⟩ := lowJ_spec hj0
    have hj0m : j0 < its.length := by
      rw [Nat.testBit_and, askN_bits, bitsN_bit] at s1
      simp only [Bool.and_eq_true, decide_eq_true_eq] at s1
      exact s1.2.1
    obtain ⟨q0, hq0⟩ : ∃ q, its[j0]? = some q := ⟨its[j0], List.getElem?_eq_getElem hj0m⟩
    obtain ⟨-, c2, c3⟩ := hcl j0 q0 hq0
    obtain ⟨-, -, i2, i3⟩ := itOf_at hq0
    have hij := hi j0 hj0m
    rw [if_neg hc_24] at htb
    have hj0' : lowJ (bits &&& askN ro kk its.length) = some j0 := hj0
    simp only [hj0', Option.getD_some] at htb
    refine r_aload_n (pc := 31) dX5_hold_31 rfl <| r_iload (pc := 32) dX5_hold_32 rfl <| r_iload (pc := 34) dX5_hold_34 rfl <| cVi [_, _] (pc := 36) dX5_hold_36 k_X5_31 ⟨⟨Nat.le_of_ble_eq_true rfl, Nat.le_of_ble_eq_true rfl⟩, ⟨Nat.le_of_ble_eq_true rfl, Nat.le_of_ble_eq_true rfl⟩, Nat.le_of_ble_eq_true rfl⟩ ⟨rfl, rfl⟩ hK ?_
    refine sp_countingItem hK h6 hm (hak kk (by omega) (by omega)) (by omega) hj0' ?_
    refine ⟨_, rfl, ?_⟩
    refine r_putf (pc := 39) dX5_hold_39 fP_X5_18 rfl rfl hO rfl (fun h_39 hO hF_39 => ?_)
    simp only [List.set_cons_zero, List.set_cons_succ] at hO
    replace hK := hF_39.keep hK (by omega)
    replace h3 := hF_39.keep h3 (by omega)
    replace h4 := hF_39.keep h4 (by omega)
    replace h5 := hF_39.keep h5 (by omega)
    replace h6 := hF_39.keep h6 (by omega)
    refine r_aload_n (pc := 42) dX5_hold_42 rfl <| r_getf (pc := 43) dX5_hold_43 fA_X5_18 hO rfl <| r_iconst (pc := 46) dX5_hold_46 <| r_icmp_ne (pc := 47) 62 dX5_hold_47 (by decide) (by omega) (by omega) (fun hc_47 => ?_) (fun hc_47 => ?_)
    · skip
      refine r_aload_n (pc := 62) dX5_hold_62 rfl <| r_iload (pc := 63) dX5_hold_63 rfl <| r_putf (pc := 65) dX5_hold_65 fP_X5_15 rfl rfl hO rfl (fun h_65 hO hF_65 => ?_)
      simp only [List.set_cons_zero, List.set_cons_succ] at hO
      replace hK := hF_65.keep hK (by omega)
      replace h3 := hF_65.keep h3 (by omega)
      replace h4 := hF_65.keep h4 (by omega)
      replace h5 := hF_65.keep h5 (by omega)
      replace h6 := hF_65.keep h6 (by omega)
      refine r_iload (pc := 68) dX5_hold_68 rfl <| r_iconst (pc := 70) dX5_hold_70 <| r_irem (pc := 71) dX5_hold_71 (by omega) (by omega) <| r_if_ne (pc := 72) 79 dX5_hold_72 (by decide) (by omega) (fun hc_72 => ?_) (fun hc_72 => ?_)
      · skip
        refine r_iconst (pc := 79) dX5_hold_79 <| r_istore_8 (pc := 80) dX5_hold_80 rfl <| r_aload_n (pc := 82) dX5_hold_82 rfl <| r_aload_n (pc := 83) dX5_hold_83 rfl <| r_aload_n (pc := 84) dX5_hold_84 rfl <| r_getf (pc := 85) dX5_hold_85 fA_X5_18 hO rfl <| r_aload_n (pc := 88) dX5_hold_88 rfl <| r_aload_n (pc := 89) dX5_hold_89 rfl <| r_iload (pc := 90) dX5_hold_90 rfl <| r_if_eq (pc := 92) 100 dX5_hold_92 (by decide) (by decide) (fun _ => ?_) (fun q => absurd q (by decide))
        refine r_iload (pc := 100) dX5_hold_100 rfl <| r_iload (pc := 102) dX5_hold_102 rfl <| r_if_eq (pc := 104) 112 dX5_hold_104 (by decide) (by decide) (fun _ => ?_) (fun q => absurd q (by decide))
        refine r_iload (pc := 112) dX5_hold_112 rfl <| cVi [_, _, _, _, _] (pc := 114) dX5_hold_114 k_X5_35 ⟨⟨Nat.le_of_ble_eq_true rfl, Nat.le_of_ble_eq_true rfl⟩, ⟨Nat.le_of_ble_eq_true rfl, Nat.le_of_ble_eq_true rfl⟩, Nat.le_of_ble_eq_true rfl⟩ ⟨rfl, rfl⟩ hK ?_
        first
          | refine sp_named (x := y) (y := x) hK h4 h5 (((hP.keep hF_39 (by omega) (by omega) (by omega) (by omega) (by omega)).keep hF_65 (by omega) (by omega) (by omega) (by omega) (by omega))) ((hB.keep hF_39 (by omega) (by omega) (by omega)).keep hF_65 (by omega) (by omega) (by omega)) d1 d2 d3 d4 d5 d6 (by omega) hij.1 hij.2 hy hx (by omega) (by omega) ?_
          | refine sp_named (x := x) (y := y) hK h4 h5 (((hP.keep hF_39 (by omega) (by omega) (by omega) (by omega) (by omega)).keep hF_65 (by omega) (by omega) (by omega) (by omega) (by omega))) ((hB.keep hF_39 (by omega) (by omega) (by omega)).keep hF_65 (by omega) (by omega) (by omega)) d1 d2 d3 d4 d5 d6 (by omega) hij.1 hij.2 hx hy hxy l2 ?_
        refine ⟨_, rfl, ?_⟩
        refine r_putf (pc := 117) dX5_hold_117 fP_X5_9 rfl rfl hO rfl (fun h_117 hO hF_117 => ?_)
        simp only [List.set_cons_zero, List.set_cons_succ] at hO
        replace hK := hF_117.keep hK (by omega)
        replace h3 := hF_117.keep h3 (by omega)
        replace h4 := hF_117.keep h4 (by omega)
        replace h5 := hF_117.keep h5 (by omega)
        replace h6 := hF_117.keep h6 (by omega)
        refine r_vret (pc := 120) dX5_hold_120 rfl ⟨Nat.le_of_ble_eq_true rfl, Nat.le_of_ble_eq_true rfl⟩ <| ?_
        rw [htb] at hQ
        refine hQ _ ?_ (fun p hp => (hF_117 p hp).trans ((hF_65 p hp).trans (hF_39 p hp)))
        rw [hO, i2, i3, ← c2, ← c3]
        first
          | rw [if_pos (show kk % 2 = 1 by omega), if_pos (show kk % 2 = 1 by omega)]
          | rw [if_neg (show ¬ kk % 2 = 1 by omega), if_neg (show ¬ kk % 2 = 1 by omega)]
      · skip
        refine r_iconst (pc := 75) dX5_hold_75 <| r_goto (pc := 76) 80 dX5_hold_76 (by decide) <| r_istore_8 (pc := 80) dX5_hold_80 rfl <| r_aload_n (pc := 82) dX5_hold_82 rfl <| r_aload_n (pc := 83) dX5_hold_83 rfl <| r_aload_n (pc := 84) dX5_hold_84 rfl <| r_getf (pc := 85) dX5_hold_85 fA_X5_18 hO rfl <| r_aload_n (pc := 88) dX5_hold_88 rfl <| r_aload_n (pc := 89) dX5_hold_89 rfl <| r_iload (pc := 90) dX5_hold_90 rfl <| r_if_eq (pc := 92) 100 dX5_hold_92 (by decide) (by decide) (fun q => absurd q (by decide)) (fun _ => ?_)
        refine r_iload (pc := 95) dX5_hold_95 rfl <| r_goto (pc := 97) 102 dX5_hold_97 (by decide) <| r_iload (pc := 102) dX5_hold_102 rfl <| r_if_eq (pc := 104) 112 dX5_hold_104 (by decide) (by decide) (fun q => absurd q (by decide)) (fun _ => ?_)
        refine r_iload (pc := 107) dX5_hold_107 rfl <| r_goto (pc := 109) 114 dX5_hold_109 (by decide) <| cVi [_, _, _, _, _] (pc := 114) dX5_hold_114 k_X5_35 ⟨⟨Nat.le_of_ble_eq_true rfl, Nat.le_of_ble_eq_true rfl⟩, ⟨Nat.le_of_ble_eq_true rfl, Nat.le_of_ble_eq_true rfl⟩, Nat.le_of_ble_eq_true rfl⟩ ⟨rfl, rfl⟩ hK ?_
        first
          | refine sp_named (x := y) (y := x) hK h4 h5 (((hP.keep hF_39 (by omega) (by omega) (by omega) (by omega) (by omega)).keep hF_65 (by omega) (by omega) (by omega) (by omega) (by omega))) ((hB.keep hF_39 (by omega) (by omega) (by omega)).keep hF_65 (by omega) (by omega) (by omega)) d1 d2 d3 d4 d5 d6 (by omega) hij.1 hij.2 hy hx (by omega) (by omega) ?_
          | refine sp_named (x := x) (y := y) hK h4 h5 (((hP.keep hF_39 (by omega) (by omega) (by omega) (by omega) (by omega)).keep hF_65 (by omega) (by omega) (by omega) (by omega) (by omega))) ((hB.keep hF_39 (by omega) (by omega) (by omega)).keep hF_65 (by omega) (by omega) (by omega)) d1 d2 d3 d4 d5 d6 (by omega) hij.1 hij.2 hx hy hxy l2 ?_
        refine ⟨_, rfl, ?_⟩
        refine r_putf (pc := 117) dX5_hold_117 fP_X5_9 rfl rfl hO rfl (fun h_117 hO hF_117 => ?_)
        simp only [List.set_cons_zero, List.set_cons_succ] at hO
        replace hK := hF_117.keep hK (by omega)
        replace h3 := hF_117.keep h3 (by omega)
        replace h4 := hF_117.keep h4 (by omega)
        replace h5 := hF_117.keep h5 (by omega)
        replace h6 := hF_117.keep h6 (by omega)
        refine r_vret (pc := 120) dX5_hold_120 rfl ⟨Nat.le_of_ble_eq_true rfl, Nat.le_of_ble_eq_true rfl⟩ <| ?_
        rw [htb] at hQ
        refine hQ _ ?_ (fun p hp => (hF_117 p hp).trans ((hF_65 p hp).trans (hF_39 p hp)))
        rw [hO, i2, i3, ← c2, ← c3]
        first
          | rw [if_pos (show kk % 2 = 1 by omega), if_pos (show kk % 2 = 1 by omega)]
          | rw [if_neg (show ¬ kk % 2 = 1 by omega), if_neg (show ¬ kk % 2 = 1 by omega)]
    · skip
      exfalso; omega
  · skip
    refine r_iconst (pc := 27) dX5_hold_27 <| r_goto (pc := 28) 39 dX5_hold_28 (by decide) <| r_putf (pc := 39) dX5_hold_39 fP_X5_18 rfl rfl hO rfl (fun h_39 hO hF_39 => ?_)
    simp only [List.set_cons_zero, List.set_cons_succ] at hO
    replace hK := hF_39.keep hK (by omega)
    replace h3 := hF_39.keep h3 (by omega)
    replace h4 := hF_39.keep h4 (by omega)
    replace h5 := hF_39.keep h5 (by omega)
    replace h6 := hF_39.keep h6 (by omega)
    refine r_aload_n (pc := 42) dX5_hold_42 rfl <| r_getf (pc := 43) dX5_hold_43 fA_X5_18 hO rfl <| r_iconst (pc := 46) dX5_hold_46 <| r_icmp_ne (pc := 47) 62 dX5_hold_47 (by decide) (by decide) (by decide) (fun q => absurd q (by decide)) (fun _ => ?_)
    refine r_aload_n (pc := 50) dX5_hold_50 rfl <| r_iconst (pc := 51) dX5_hold_51 <| r_putf (pc := 52) dX5_hold_52 fP_X5_9 rfl rfl hO rfl (fun h_52 hO hF_52 => ?_)
    simp only [List.set_cons_zero, List.set_cons_succ] at hO
    replace hK := hF_52.keep hK (by omega)
    replace h3 := hF_52.keep h3 (by omega)
    replace h4 := hF_52.keep h4 (by omega)
    replace h5 := hF_52.keep h5 (by omega)
    replace h6 := hF_52.keep h6 (by omega)
    refine r_aload_n (pc := 55) dX5_hold_55 rfl <| r_bipush (pc := 56) dX5_hold_56 (by decide) <| r_putf (pc := 58) dX5_hold_58 fP_X5_15 rfl rfl hO rfl (fun h_58 hO hF_58 => ?_)
    simp only [List.set_cons_zero, List.set_cons_succ] at hO
    replace hK := hF_58.keep hK (by omega)
    replace h3 := hF_58.keep h3 (by omega)
    replace h4 := hF_58.keep h4 (by omega)
    replace h5 := hF_58.keep h5 (by omega)
    replace h6 := hF_58.keep h6 (by omega)
    refine r_vret (pc := 61) dX5_hold_61 rfl ⟨Nat.le_of_ble_eq_true rfl, Nat.le_of_ble_eq_true rfl⟩ <| ?_
    rw [if_pos hc_24] at htb
    rw [htb] at hQ
    exact hQ _ hO (fun p hp => (hF_58 p hp).trans ((hF_52 p hp).trans (hF_39 p hp)))
end CH2

