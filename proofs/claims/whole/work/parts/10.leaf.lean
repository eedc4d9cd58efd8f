/-! ===== leaves of the class: numbers, people, bows ===== -/
/-- people at b: how many, their arrays -/
def isP (h : Hp) (b : Nat) (np : Int) (kd ag ld rk : Int → Int) : Prop := h b = some (aO 4 [vI np, vR (b + 1), vR (b + 2), vR (b + 3), vR (b + 4)]) ∧ h (b + 1) = some (aA 8 kd) ∧ h (b + 2) = some (aA 8 ag) ∧ h (b + 3) = some (aA 8 ld) ∧ h (b + 4) = some (aA 8 rk)
/-- bows at b -/
def isB (h : Hp) (b : Nat) (ow la : Int → Int) : Prop := h b = some (aO 1 [vR (b + 1), vR (b + 2)]) ∧ h (b + 1) = some (aA 64 ow) ∧ h (b + 2) = some (aA 64 la)
/-- all values of a row lie between two numbers -/
def Bd (f : Int → Int) (lo hi : Int) : Prop := ∀ i, lo ≤ f i ∧ f i ≤ hi
theorem Bd.iu {f : Int → Int} {lo hi x v : Int} (h : Bd f lo hi) (hv : lo ≤ v ∧ v ≤ hi) : Bd (iu f x v) lo hi := by
  intro i
  show lo ≤ (if i = x then v else f i) ∧ (if i = x then v else f i) ≤ hi
  split
  · exact hv
  · exact h i
def ageF (kd ag : Int → Int) (p : Int) : Int := if kd p = 1 then 0 else if kd p = 5 then ag p + 20 else ag p
def loadF (kd ld : Int → Int) (p : Int) : Int := if kd p = 2 ∨ kd p = 3 then ld p + 3 else ld p
def rankF (kd rk : Int → Int) (p : Int) : Int := if kd p = 3 then rk p + 2 else if kd p = 4 ∨ kd p = 5 then 2 * rk p else rk p
def wentO (ow : Int → Int) (g o : Int) : Int → Int := iu ow (g * 8 + o) (if 99 < ow (g * 8 + o) + 1 then 99 else ow (g * 8 + o) + 1)
def wentL (la : Int → Int) (g o : Int) : Int → Int := iu (iu la (g * 8 + o) g) (o * 8 + g) g
section LF
variable {G : GT} {n : Nat} {h : Hp} {Q : PT}
theorem qI {a b : Int} (e : a = b) (hQ : Q (some (vI b)) n h) : Q (some (vI a)) n h := e ▸ hQ
theorem sp_pair {x z : Int} (hQ : Q (some (vI (x * 8 + z))) n h) : Cl G mX8_pair [vI x, vI z] n h Q := by
  refine cl_of (by decide) (Nat.le_of_ble_eq_true rfl) rfl ?_
  refine r_iload_n (pc := 0) dX8_pair_0 rfl <| r_bipush (pc := 1) dX8_pair_1 (by decide) <| r_imul (pc := 3) dX8_pair_3 <| r_iload_n (pc := 4) dX8_pair_4 rfl <| r_iadd (pc := 5) dX8_pair_5 <| r_iret (pc := 6) dX8_pair_6 rfl ⟨Nat.le_of_ble_eq_true rfl, Nat.le_of_ble_eq_true rfl⟩ <| ?_
  exact hQ
theorem sp_within {x a b : Int} (hx : -2147483648 ≤ x ∧ x < 2147483648) (ha : -2147483648 ≤ a ∧ a < 2147483648) (hb : -2147483648 ≤ b ∧ b < 2147483648) (h1 : a ≤ x ∧ x ≤ b → Q (some (vI 1)) n h) (h0 : ¬ (a ≤ x ∧ x ≤ b) → Q (some (vI 0)) n h) : Cl G mX8_within [vI x, vI a, vI b] n h Q := by
  refine cl_of (by decide) (Nat.le_of_ble_eq_true rfl) rfl ?_
  refine r_iload_n (pc := 0) dX8_within_0 rfl <| r_iload_n (pc := 1) dX8_within_1 rfl <| r_icmp_lt (pc := 2) 14 dX8_within_2 (by decide) (by omega) (by omega) (fun hc_2 => ?_) (fun hc_2 => ?_)
  · skip
    refine r_iconst (pc := 14) dX8_within_14 <| r_zret (pc := 15) dX8_within_15 rfl (by omega) ⟨Nat.le_of_ble_eq_true rfl, Nat.le_of_ble_eq_true rfl⟩ <| ?_
    first | exact h1 (by omega) | exact h0 (by omega)
  · skip
    refine r_iload_n (pc := 5) dX8_within_5 rfl <| r_iload_n (pc := 6) dX8_within_6 rfl <| r_icmp_gt (pc := 7) 14 dX8_within_7 (by decide) (by omega) (by omega) (fun hc_7 => ?_) (fun hc_7 => ?_)
    · skip
      refine r_iconst (pc := 14) dX8_within_14 <| r_zret (pc := 15) dX8_within_15 rfl (by omega) ⟨Nat.le_of_ble_eq_true rfl, Nat.le_of_ble_eq_true rfl⟩ <| ?_
      first | exact h1 (by omega) | exact h0 (by omega)
    · skip
      refine r_iconst (pc := 10) dX8_within_10 <| r_goto (pc := 11) 15 dX8_within_11 (by decide) <| r_zret (pc := 15) dX8_within_15 rfl (by omega) ⟨Nat.le_of_ble_eq_true rfl, Nat.le_of_ble_eq_true rfl⟩ <| ?_
      first | exact h1 (by omega) | exact h0 (by omega)
theorem sp_isDoor {x : Int} (hx : -2147483648 ≤ x ∧ x < 2147483648) (h1 : 0 ≤ x ∧ x ≤ 5 → Q (some (vI 1)) n h) (h0 : ¬ (0 ≤ x ∧ x ≤ 5) → Q (some (vI 0)) n h) : Cl G mX8_isDoor [vI x] n h Q := by
  refine cl_of (by decide) (Nat.le_of_ble_eq_true rfl) rfl ?_
  refine r_iload_n (pc := 0) dX8_isDoor_0 rfl <| r_iconst (pc := 1) dX8_isDoor_1 <| r_iconst (pc := 2) dX8_isDoor_2 <| cSi [_, _, _] (pc := 3) dX8_isDoor_3 k_X8_78 ⟨⟨Nat.le_of_ble_eq_true rfl, Nat.le_of_ble_eq_true rfl⟩, ⟨Nat.le_of_ble_eq_true rfl, Nat.le_of_ble_eq_true rfl⟩, Nat.le_of_ble_eq_true rfl⟩ ⟨rfl, rfl⟩ ?_
  refine sp_within hx (by omega) (by omega) (fun q => ?_) (fun q => ?_)
  · skip
    refine ⟨_, rfl, ?_⟩
    refine r_zret (pc := 6) dX8_isDoor_6 rfl (by omega) ⟨Nat.le_of_ble_eq_true rfl, Nat.le_of_ble_eq_true rfl⟩ <| ?_
    first | exact h1 q | exact h0 q
  · skip
    refine ⟨_, rfl, ?_⟩
    refine r_zret (pc := 6) dX8_isDoor_6 rfl (by omega) ⟨Nat.le_of_ble_eq_true rfl, Nat.le_of_ble_eq_true rfl⟩ <| ?_
    first | exact h1 q | exact h0 q
theorem sp_has {b : Nat} {np p : Int} {fs : List AV} (hP : h b = some (aO 4 (vI np :: fs))) (hn : 0 ≤ np ∧ np ≤ 8) (hp : -2147483648 ≤ p ∧ p < 2147483648) (h1 : 0 ≤ p ∧ p < np → Q (some (vI 1)) n h) (h0 : ¬ (0 ≤ p ∧ p < np) → Q (some (vI 0)) n h) : Cl G mX4_has [vR b, vI p] n h Q := by
  refine cl_of (by decide) (Nat.le_of_ble_eq_true rfl) rfl ?_
  refine r_iload_n (pc := 0) dX4_has_0 rfl <| r_if_lt (pc := 1) 16 dX4_has_1 (by decide) (by omega) (fun hc_1 => ?_) (fun hc_1 => ?_)
  · skip
    refine r_iconst (pc := 16) dX4_has_16 <| r_zret (pc := 17) dX4_has_17 rfl (by omega) ⟨Nat.le_of_ble_eq_true rfl, Nat.le_of_ble_eq_true rfl⟩ <| ?_
    first | exact h1 (by omega) | exact h0 (by omega)
  · skip
    refine r_iload_n (pc := 4) dX4_has_4 rfl <| r_aload_n (pc := 5) dX4_has_5 rfl <| r_getf (pc := 6) dX4_has_6 fA_X4_9 hP rfl <| r_icmp_ge (pc := 9) 16 dX4_has_9 (by decide) (by omega) (by omega) (fun hc_9 => ?_) (fun hc_9 => ?_)
    · skip
      refine r_iconst (pc := 16) dX4_has_16 <| r_zret (pc := 17) dX4_has_17 rfl (by omega) ⟨Nat.le_of_ble_eq_true rfl, Nat.le_of_ble_eq_true rfl⟩ <| ?_
      first | exact h1 (by omega) | exact h0 (by omega)
    · skip
      refine r_iconst (pc := 12) dX4_has_12 <| r_goto (pc := 13) 17 dX4_has_13 (by decide) <| r_zret (pc := 17) dX4_has_17 rfl (by omega) ⟨Nat.le_of_ble_eq_true rfl, Nat.le_of_ble_eq_true rfl⟩ <| ?_
      first | exact h1 (by omega) | exact h0 (by omega)
theorem sp_ageOf {b : Nat} {np p : Int} {kd ag ld rk : Int → Int} (hp : isP h b np kd ag ld rk) (hk : Bd kd 0 5) (hx : 0 ≤ p ∧ p < 8) (hQ : Q (some (vI (ageF kd ag p))) n h) : Cl G mX4_ageOf [vR b, vI p] n h Q := by
  obtain ⟨hP, hP1, hP2, hP3, hP4⟩ := hp
  have b1 := hk p
  refine cl_of (by decide) (Nat.le_of_ble_eq_true rfl) rfl ?_
  refine r_aload_n (pc := 0) dX4_ageOf_0 rfl <| r_getf (pc := 1) dX4_ageOf_1 fA_X4_15 hP rfl <| r_iload_n (pc := 4) dX4_ageOf_4 rfl <| r_iald (pc := 5) dX4_ageOf_5 hP1 (by omega) (by decide) <| r_iconst (pc := 6) dX4_ageOf_6 <| r_icmp_ne (pc := 7) 12 dX4_ageOf_7 (by decide) (by omega) (by omega) (fun hc_7 => ?_) (fun hc_7 => ?_)
  · skip
    refine r_aload_n (pc := 12) dX4_ageOf_12 rfl <| r_getf (pc := 13) dX4_ageOf_13 fA_X4_15 hP rfl <| r_iload_n (pc := 16) dX4_ageOf_16 rfl <| r_iald (pc := 17) dX4_ageOf_17 hP1 (by omega) (by decide) <| r_iconst (pc := 18) dX4_ageOf_18 <| r_icmp_ne (pc := 19) 34 dX4_ageOf_19 (by decide) (by omega) (by omega) (fun hc_19 => ?_) (fun hc_19 => ?_)
    · skip
      refine r_aload_n (pc := 34) dX4_ageOf_34 rfl <| r_getf (pc := 35) dX4_ageOf_35 fA_X4_19 hP rfl <| r_iload_n (pc := 38) dX4_ageOf_38 rfl <| r_iald (pc := 39) dX4_ageOf_39 hP2 (by omega) (by decide) <| r_iret (pc := 40) dX4_ageOf_40 rfl ⟨Nat.le_of_ble_eq_true rfl, Nat.le_of_ble_eq_true rfl⟩ <| ?_
      exact qI (by unfold ageF; (repeat' split) <;> omega) hQ
    · skip
      refine r_aload_n (pc := 22) dX4_ageOf_22 rfl <| r_getf (pc := 23) dX4_ageOf_23 fA_X4_19 hP rfl <| r_iload_n (pc := 26) dX4_ageOf_26 rfl <| r_iald (pc := 27) dX4_ageOf_27 hP2 (by omega) (by decide) <| r_bipush (pc := 28) dX4_ageOf_28 (by decide) <| r_iadd (pc := 30) dX4_ageOf_30 <| r_goto (pc := 31) 40 dX4_ageOf_31 (by decide) <| r_iret (pc := 40) dX4_ageOf_40 rfl ⟨Nat.le_of_ble_eq_true rfl, Nat.le_of_ble_eq_true rfl⟩ <| ?_
      exact qI (by unfold ageF; (repeat' split) <;> omega) hQ
  · skip
    refine r_iconst (pc := 10) dX4_ageOf_10 <| r_iret (pc := 11) dX4_ageOf_11 rfl ⟨Nat.le_of_ble_eq_true rfl, Nat.le_of_ble_eq_true rfl⟩ <| ?_
    exact qI (by unfold ageF; (repeat' split) <;> omega) hQ
theorem sp_loadOf {b : Nat} {np p : Int} {kd ag ld rk : Int → Int} (hp : isP h b np kd ag ld rk) (hk : Bd kd 0 5) (hx : 0 ≤ p ∧ p < 8) (hQ : Q (some (vI (loadF kd ld p))) n h) : Cl G mX4_loadOf [vR b, vI p] n h Q := by
  obtain ⟨hP, hP1, hP2, hP3, hP4⟩ := hp
  have b1 := hk p
  refine cl_of (by decide) (Nat.le_of_ble_eq_true rfl) rfl ?_
  refine r_aload_n (pc := 0) dX4_loadOf_0 rfl <| r_getf (pc := 1) dX4_loadOf_1 fA_X4_15 hP rfl <| r_iload_n (pc := 4) dX4_loadOf_4 rfl <| r_iald (pc := 5) dX4_loadOf_5 hP1 (by omega) (by decide) <| r_iconst (pc := 6) dX4_loadOf_6 <| r_icmp_eq (pc := 7) 20 dX4_loadOf_7 (by decide) (by omega) (by omega) (fun hc_7 => ?_) (fun hc_7 => ?_)
  · skip
    refine r_iconst (pc := 20) dX4_loadOf_20 <| r_goto (pc := 21) 25 dX4_loadOf_21 (by decide) <| r_istoren_2 (pc := 25) dX4_loadOf_25 rfl <| r_iload_n (pc := 26) dX4_loadOf_26 rfl <| r_if_eq (pc := 27) 41 dX4_loadOf_27 (by decide) (by decide) (fun q => absurd q (by decide)) (fun _ => ?_)
    refine r_aload_n (pc := 30) dX4_loadOf_30 rfl <| r_getf (pc := 31) dX4_loadOf_31 fA_X4_22 hP rfl <| r_iload_n (pc := 34) dX4_loadOf_34 rfl <| r_iald (pc := 35) dX4_loadOf_35 hP3 (by omega) (by decide) <| r_iconst (pc := 36) dX4_loadOf_36 <| r_iadd (pc := 37) dX4_loadOf_37 <| r_goto (pc := 38) 47 dX4_loadOf_38 (by decide) <| r_iret (pc := 47) dX4_loadOf_47 rfl ⟨Nat.le_of_ble_eq_true rfl, Nat.le_of_ble_eq_true rfl⟩ <| ?_
    exact qI (by unfold loadF; (repeat' split) <;> omega) hQ
  · skip
    refine r_aload_n (pc := 10) dX4_loadOf_10 rfl <| r_getf (pc := 11) dX4_loadOf_11 fA_X4_15 hP rfl <| r_iload_n (pc := 14) dX4_loadOf_14 rfl <| r_iald (pc := 15) dX4_loadOf_15 hP1 (by omega) (by decide) <| r_iconst (pc := 16) dX4_loadOf_16 <| r_icmp_ne (pc := 17) 24 dX4_loadOf_17 (by decide) (by omega) (by omega) (fun hc_17 => ?_) (fun hc_17 => ?_)
    · skip
      refine r_iconst (pc := 24) dX4_loadOf_24 <| r_istoren_2 (pc := 25) dX4_loadOf_25 rfl <| r_iload_n (pc := 26) dX4_loadOf_26 rfl <| r_if_eq (pc := 27) 41 dX4_loadOf_27 (by decide) (by decide) (fun _ => ?_) (fun q => absurd q (by decide))
      refine r_aload_n (pc := 41) dX4_loadOf_41 rfl <| r_getf (pc := 42) dX4_loadOf_42 fA_X4_22 hP rfl <| r_iload_n (pc := 45) dX4_loadOf_45 rfl <| r_iald (pc := 46) dX4_loadOf_46 hP3 (by omega) (by decide) <| r_iret (pc := 47) dX4_loadOf_47 rfl ⟨Nat.le_of_ble_eq_true rfl, Nat.le_of_ble_eq_true rfl⟩ <| ?_
      exact qI (by unfold loadF; (repeat' split) <;> omega) hQ
    · skip
      refine r_iconst (pc := 20) dX4_loadOf_20 <| r_goto (pc := 21) 25 dX4_loadOf_21 (by decide) <| r_istoren_2 (pc := 25) dX4_loadOf_25 rfl <| r_iload_n (pc := 26) dX4_loadOf_26 rfl <| r_if_eq (pc := 27) 41 dX4_loadOf_27 (by decide) (by decide) (fun q => absurd q (by decide)) (fun _ => ?_)
      refine r_aload_n (pc := 30) dX4_loadOf_30 rfl <| r_getf (pc := 31) dX4_loadOf_31 fA_X4_22 hP rfl <| r_iload_n (pc := 34) dX4_loadOf_34 rfl <| r_iald (pc := 35) dX4_loadOf_35 hP3 (by omega) (by decide) <| r_iconst (pc := 36) dX4_loadOf_36 <| r_iadd (pc := 37) dX4_loadOf_37 <| r_goto (pc := 38) 47 dX4_loadOf_38 (by decide) <| r_iret (pc := 47) dX4_loadOf_47 rfl ⟨Nat.le_of_ble_eq_true rfl, Nat.le_of_ble_eq_true rfl⟩ <| ?_
      exact qI (by unfold loadF; (repeat' split) <;> omega) hQ
theorem sp_rankOf {b : Nat} {np p : Int} {kd ag ld rk : Int → Int} (hp : isP h b np kd ag ld rk) (hk : Bd kd 0 5) (hx : 0 ≤ p ∧ p < 8) (hQ : Q (some (vI (rankF kd rk p))) n h) : Cl G mX4_rankOf [vR b, vI p] n h Q := by
  obtain ⟨hP, hP1, hP2, hP3, hP4⟩ := hp
  have b1 := hk p
  refine cl_of (by decide) (Nat.le_of_ble_eq_true rfl) rfl ?_
  refine r_aload_n (pc := 0) dX4_rankOf_0 rfl <| r_getf (pc := 1) dX4_rankOf_1 fA_X4_15 hP rfl <| r_iload_n (pc := 4) dX4_rankOf_4 rfl <| r_iald (pc := 5) dX4_rankOf_5 hP1 (by omega) (by decide) <| r_iconst (pc := 6) dX4_rankOf_6 <| r_icmp_ne (pc := 7) 19 dX4_rankOf_7 (by decide) (by omega) (by omega) (fun hc_7 => ?_) (fun hc_7 => ?_)
  · skip
    refine r_aload_n (pc := 19) dX4_rankOf_19 rfl <| r_getf (pc := 20) dX4_rankOf_20 fA_X4_15 hP rfl <| r_iload_n (pc := 23) dX4_rankOf_23 rfl <| r_iald (pc := 24) dX4_rankOf_24 hP1 (by omega) (by decide) <| r_iconst (pc := 25) dX4_rankOf_25 <| r_icmp_eq (pc := 26) 39 dX4_rankOf_26 (by decide) (by omega) (by omega) (fun hc_26 => ?_) (fun hc_26 => ?_)
    · skip
      refine r_iconst (pc := 39) dX4_rankOf_39 <| r_goto (pc := 40) 44 dX4_rankOf_40 (by decide) <| r_istoren_2 (pc := 44) dX4_rankOf_44 rfl <| r_iload_n (pc := 45) dX4_rankOf_45 rfl <| r_if_eq (pc := 46) 60 dX4_rankOf_46 (by decide) (by decide) (fun q => absurd q (by decide)) (fun _ => ?_)
      refine r_iconst (pc := 49) dX4_rankOf_49 <| r_aload_n (pc := 50) dX4_rankOf_50 rfl <| r_getf (pc := 51) dX4_rankOf_51 fA_X4_25 hP rfl <| r_iload_n (pc := 54) dX4_rankOf_54 rfl <| r_iald (pc := 55) dX4_rankOf_55 hP4 (by omega) (by decide) <| r_imul (pc := 56) dX4_rankOf_56 <| r_goto (pc := 57) 66 dX4_rankOf_57 (by decide) <| r_iret (pc := 66) dX4_rankOf_66 rfl ⟨Nat.le_of_ble_eq_true rfl, Nat.le_of_ble_eq_true rfl⟩ <| ?_
      exact qI (by unfold rankF; (repeat' split) <;> omega) hQ
    · skip
      refine r_aload_n (pc := 29) dX4_rankOf_29 rfl <| r_getf (pc := 30) dX4_rankOf_30 fA_X4_15 hP rfl <| r_iload_n (pc := 33) dX4_rankOf_33 rfl <| r_iald (pc := 34) dX4_rankOf_34 hP1 (by omega) (by decide) <| r_iconst (pc := 35) dX4_rankOf_35 <| r_icmp_ne (pc := 36) 43 dX4_rankOf_36 (by decide) (by omega) (by omega) (fun hc_36 => ?_) (fun hc_36 => ?_)
      · skip
        refine r_iconst (pc := 43) dX4_rankOf_43 <| r_istoren_2 (pc := 44) dX4_rankOf_44 rfl <| r_iload_n (pc := 45) dX4_rankOf_45 rfl <| r_if_eq (pc := 46) 60 dX4_rankOf_46 (by decide) (by decide) (fun _ => ?_) (fun q => absurd q (by decide))
        refine r_aload_n (pc := 60) dX4_rankOf_60 rfl <| r_getf (pc := 61) dX4_rankOf_61 fA_X4_25 hP rfl <| r_iload_n (pc := 64) dX4_rankOf_64 rfl <| r_iald (pc := 65) dX4_rankOf_65 hP4 (by omega) (by decide) <| r_iret (pc := 66) dX4_rankOf_66 rfl ⟨Nat.le_of_ble_eq_true rfl, Nat.le_of_ble_eq_true rfl⟩ <| ?_
        exact qI (by unfold rankF; (repeat' split) <;> omega) hQ
      · skip
        refine r_iconst (pc := 39) dX4_rankOf_39 <| r_goto (pc := 40) 44 dX4_rankOf_40 (by decide) <| r_istoren_2 (pc := 44) dX4_rankOf_44 rfl <| r_iload_n (pc := 45) dX4_rankOf_45 rfl <| r_if_eq (pc := 46) 60 dX4_rankOf_46 (by decide) (by decide) (fun q => absurd q (by decide)) (fun _ => ?_)
        refine r_iconst (pc := 49) dX4_rankOf_49 <| r_aload_n (pc := 50) dX4_rankOf_50 rfl <| r_getf (pc := 51) dX4_rankOf_51 fA_X4_25 hP rfl <| r_iload_n (pc := 54) dX4_rankOf_54 rfl <| r_iald (pc := 55) dX4_rankOf_55 hP4 (by omega) (by decide) <| r_imul (pc := 56) dX4_rankOf_56 <| r_goto (pc := 57) 66 dX4_rankOf_57 (by decide) <| r_iret (pc := 66) dX4_rankOf_66 rfl ⟨Nat.le_of_ble_eq_true rfl, Nat.le_of_ble_eq_true rfl⟩ <| ?_
        exact qI (by unfold rankF; (repeat' split) <;> omega) hQ
  · skip
    refine r_aload_n (pc := 10) dX4_rankOf_10 rfl <| r_getf (pc := 11) dX4_rankOf_11 fA_X4_25 hP rfl <| r_iload_n (pc := 14) dX4_rankOf_14 rfl <| r_iald (pc := 15) dX4_rankOf_15 hP4 (by omega) (by decide) <| r_iconst (pc := 16) dX4_rankOf_16 <| r_iadd (pc := 17) dX4_rankOf_17 <| r_iret (pc := 18) dX4_rankOf_18 rfl ⟨Nat.le_of_ble_eq_true rfl, Nat.le_of_ble_eq_true rfl⟩ <| ?_
    exact qI (by unfold rankF; (repeat' split) <;> omega) hQ
theorem sp_went {b : Nat} {g o : Int} {ow la : Int → Int} (hb : isB h b ow la) (hw : Bd ow 0 99) (hg : 0 ≤ g ∧ g < 8) (ho : 0 ≤ o ∧ o < 8) (hQ : ∀ h', isB h' b (wentO ow g o) (wentL la g o) → Fr (fun q => q = b + 1 ∨ q = b + 2) h h' → Q none n h') : Cl G mX1_wentFirst [vR b, vI g, vI o] n h Q := by
  obtain ⟨hB, hB1, hB2⟩ := hb
  have b1 := hw (g * 8 + o)
  refine cl_of (by decide) (Nat.le_of_ble_eq_true rfl) rfl ?_
  refine r_iload_n (pc := 0) dX1_wentFirst_0 rfl <| r_iload_n (pc := 1) dX1_wentFirst_1 rfl <| cSNi [_, _] (pc := 2) dX1_wentFirst_2 k_X1_30 ⟨⟨Nat.le_of_ble_eq_true rfl, Nat.le_of_ble_eq_true rfl⟩, ⟨Nat.le_of_ble_eq_true rfl, Nat.le_of_ble_eq_true rfl⟩, Nat.le_of_ble_eq_true rfl⟩ ⟨rfl, rfl⟩ ?_
  refine sp_pair ?_
  refine ⟨_, rfl, ?_⟩
  refine r_istoren_3 (pc := 5) dX1_wentFirst_5 rfl <| r_aload_n (pc := 6) dX1_wentFirst_6 rfl <| r_getf (pc := 7) dX1_wentFirst_7 fA_X1_9 hB rfl <| r_iload_n (pc := 10) dX1_wentFirst_10 rfl <| r_aload_n (pc := 11) dX1_wentFirst_11 rfl <| r_getf (pc := 12) dX1_wentFirst_12 fA_X1_9 hB rfl <| r_iload_n (pc := 15) dX1_wentFirst_15 rfl <| r_iald (pc := 16) dX1_wentFirst_16 hB1 (by omega) (by decide) <| r_iconst (pc := 17) dX1_wentFirst_17 <| r_iadd (pc := 18) dX1_wentFirst_18 <| r_bipush (pc := 19) dX1_wentFirst_19 (by decide) <| r_min (pc := 21) dX1_wentFirst_21 kL_X1_34 mI1 mI2 mI3 ⟨Nat.le_of_ble_eq_true rfl, Nat.le_of_ble_eq_true rfl⟩ ⟨Nat.le_of_ble_eq_true rfl, Nat.le_of_ble_eq_true rfl⟩ (by omega) (by omega) <| r_iast (pc := 24) dX1_wentFirst_24 hB1 (by omega) (by decide) (fun h_24 hB1 hF_24 => ?_)
  replace hB := hF_24.keep hB (by omega)
  replace hB2 := hF_24.keep hB2 (by omega)
  refine r_aload_n (pc := 25) dX1_wentFirst_25 rfl <| r_getf (pc := 26) dX1_wentFirst_26 fA_X1_15 hB rfl <| r_iload_n (pc := 29) dX1_wentFirst_29 rfl <| r_iload_n (pc := 30) dX1_wentFirst_30 rfl <| r_iast (pc := 31) dX1_wentFirst_31 hB2 (by omega) (by decide) (fun h_31 hB2 hF_31 => ?_)
  replace hB := hF_31.keep hB (by omega)
  replace hB1 := hF_31.keep hB1 (by omega)
  refine r_aload_n (pc := 32) dX1_wentFirst_32 rfl <| r_getf (pc := 33) dX1_wentFirst_33 fA_X1_15 hB rfl <| r_iload_n (pc := 36) dX1_wentFirst_36 rfl <| r_iload_n (pc := 37) dX1_wentFirst_37 rfl <| cSNi [_, _] (pc := 38) dX1_wentFirst_38 k_X1_30 ⟨⟨Nat.le_of_ble_eq_true rfl, Nat.le_of_ble_eq_true rfl⟩, ⟨Nat.le_of_ble_eq_true rfl, Nat.le_of_ble_eq_true rfl⟩, Nat.le_of_ble_eq_true rfl⟩ ⟨rfl, rfl⟩ ?_
  refine sp_pair ?_
  refine ⟨_, rfl, ?_⟩
  refine r_iload_n (pc := 41) dX1_wentFirst_41 rfl <| r_iast (pc := 42) dX1_wentFirst_42 hB2 (by omega) (by decide) (fun h_42 hB2 hF_42 => ?_)
  replace hB := hF_42.keep hB (by omega)
  replace hB1 := hF_42.keep hB1 (by omega)
  refine r_vret (pc := 43) dX1_wentFirst_43 rfl ⟨Nat.le_of_ble_eq_true rfl, Nat.le_of_ble_eq_true rfl⟩ <| ?_
  exact hQ _ ⟨hB, hB1, hB2⟩ (fun q hq => ((hF_42 q (by omega)).trans (hF_31 q (by omega))).trans (hF_24 q (by omega)))
end LF

