/-! ===== leaves of the class: numbers, people, bows ===== -/
section LF
variable {G : GT} {n : Nat} {h : Hp} {Q : PT}
theorem sp_pair {x z : Int} (hQ : Q (some (vI (x * 8 + z))) n h) : Cl G mX8_pair [vI x, vI z] n h Q := by
  refine cl_of (by decide) (Nat.le_of_ble_eq_true rfl) rfl ?_
  refine r_iload_n (pc := 0) dX8_pair_0 rfl <| r_bipush (pc := 1) dX8_pair_1 (by decide) <| r_imul (pc := 3) dX8_pair_3 <| r_iload_n (pc := 4) dX8_pair_4 rfl <| r_iadd (pc := 5) dX8_pair_5 <| r_iret (pc := 6) dX8_pair_6 rfl ⟨Nat.le_of_ble_eq_true rfl, Nat.le_of_ble_eq_true rfl⟩ <| ?_
  exact hQ
theorem sp_within {x a b : Int} (hx : -2147483648 ≤ x ∧ x < 2147483648) (ha : -2147483648 ≤ a ∧ a < 2147483648) (hb : -2147483648 ≤ b ∧ b < 2147483648) (h1 : a ≤ x ∧ x ≤ b → Q (some (vI 1)) n h) (h0 : ¬ (a ≤ x ∧ x ≤ b) → Q (some (vI 0)) n h) : Cl G mX8_within [vI x, vI a, vI b] n h Q := by
  refine cl_of (by decide) (Nat.le_of_ble_eq_true rfl) rfl ?_
  refine r_iload_n (pc := 0) dX8_within_0 rfl <| r_iload_n (pc := 1) dX8_within_1 rfl <| r_icmp_lt (pc := 2) 14 dX8_within_2 (by decide) (by omega) (by omega) (fun hc_2 => ?_) (fun hc_2 => ?_)
  · skip
    refine r_iconst (pc := 14) dX8_within_14 <| r_zret (pc := 15) dX8_within_15 rfl (by omega) ⟨Nat.le_of_ble_eq_true rfl, Nat.le_of_ble_eq_true rfl⟩ <| ?_
    first | exact h1 (by omega) | exact h0 (by omega)
  · skip
    refine r_iload_n (pc := 5) dX8_within_5 rfl <| r_iload_n (pc := 6) dX8_within_6 rfl <| r_icmp_gt (pc := 7) 14 dX8_within_7 (by decide) (by omega) (by omega) (fun hc_7 => ?_) (fun hc_7 => ?_)
    · skip
      refine r_iconst (pc := 14) dX8_within_14 <| r_zret (pc := 15) dX8_within_15 rfl (by omega) ⟨Nat.le_of_ble_eq_true rfl, Nat.le_of_ble_eq_true rfl⟩ <| ?_
      first | exact h1 (by omega) | exact h0 (by omega)
    · skip
      refine r_iconst (pc := 10) dX8_within_10 <| r_goto (pc := 11) 15 dX8_within_11 (by decide) <| r_zret (pc := 15) dX8_within_15 rfl (by omega) ⟨Nat.le_of_ble_eq_true rfl, Nat.le_of_ble_eq_true rfl⟩ <| ?_
      first | exact h1 (by omega) | exact h0 (by omega)
end LF

