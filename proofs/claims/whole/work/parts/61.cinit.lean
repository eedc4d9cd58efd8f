/-! ===== the class: new ones ===== -/
section CI
variable {G : GT} {n : Nat} {h h' : Hp} {Q : PT} {s : SS}
theorem lp_fill {c N : Nat} {v : Int} (hN : N < 1000) : ∀ (q : Nat) (k : Int) (h : Hp) (f : Int → Int), 0 ≤ k → k + q = N → h c = some (aA N f) → (∀ h', h' c = some (aA N (fun j => if k ≤ j ∧ j < N then v else f j)) → Fr (fun j => j = c) h h' → Q none n h') → At G mJ7_fill_53178 5 [vR c, vI v, vI k, vI (N : Int)] [] (0, 0, n) h Q := by
  intro q
  induction q with
  | zero =>
    intro k h f hk hq hc hQ
    refine r_iload_n (pc := 5) dJ7_fill_53178_5 rfl <| r_iload_n (pc := 6) dJ7_fill_53178_6 rfl <| r_icmp_ge (pc := 7) 20 dJ7_fill_53178_7 (by decide) (by omega) (by omega) (fun hc_7 => ?_) (fun hc_7 => ?_)
    · skip
      refine r_vret (pc := 20) dJ7_fill_53178_20 rfl ⟨Nat.le_of_ble_eq_true rfl, Nat.le_of_ble_eq_true rfl⟩ <| ?_
      refine hQ h ?_ Fr.rf
      rw [hc]
      congr 3
      funext j
      rw [if_neg (by omega)]
    · skip
      exfalso; omega
  | succ q ih =>
    intro k h f hk hq hc hQ
    refine r_iload_n (pc := 5) dJ7_fill_53178_5 rfl <| r_iload_n (pc := 6) dJ7_fill_53178_6 rfl <| r_icmp_ge (pc := 7) 20 dJ7_fill_53178_7 (by decide) (by omega) (by omega) (fun hc_7 => ?_) (fun hc_7 => ?_)
    · skip
      exfalso; omega
    · skip
      refine r_aload_n (pc := 10) dJ7_fill_53178_10 rfl <| r_iload_n (pc := 11) dJ7_fill_53178_11 rfl <| r_iload_n (pc := 12) dJ7_fill_53178_12 rfl <| r_iast (pc := 13) dJ7_fill_53178_13 hc (by omega) (by decide) (fun h_13 hc hF_13 => ?_)
      refine r_iinc_2 (pc := 14) dJ7_fill_53178_14 rfl rfl <| r_goto (pc := 17) 5 dJ7_fill_53178_17 (by decide) <| ?_
      refine ih (k + 1) h_13 _ (by omega) (by omega) hc (fun h' a1 a2 => hQ h' ?_ (fun j hj => (a2 j hj).trans (hF_13 j hj)))
      rw [a1]
      congr 3
      funext j
      by_cases ej : j = k
      · rw [if_neg (by omega), if_pos (by omega), ej, iu_s]
      · rw [iu_n ej]
        by_cases c1 : k ≤ j ∧ j < N
        · rw [if_pos (by omega), if_pos (by omega)]
        · rw [if_neg (by omega), if_neg (by omega)]
theorem sp_fill {c N : Nat} {v : Int} {f : Int → Int} (hN : N < 1000) (hc : h c = some (aA N f)) (hQ : ∀ h', h' c = some (aA N (fun j => if 0 ≤ j ∧ j < N then v else f j)) → Fr (fun j => j = c) h h' → Q none n h') : Cl G mJ7_fill_53178 [vR c, vI v] n h Q := by
  refine cl_of (by decide) (Nat.le_of_ble_eq_true rfl) rfl ?_
  refine r_iconst (pc := 0) dJ7_fill_53178_0 <| r_istoren_2 (pc := 1) dJ7_fill_53178_1 rfl <| r_aload_n (pc := 2) dJ7_fill_53178_2 rfl <| r_alen (pc := 3) dJ7_fill_53178_3 hc <| r_istoren_3 (pc := 4) dJ7_fill_53178_4 rfl <| ?_
  exact lp_fill hN N 0 h f (by omega) (by omega) hc hQ
theorem sp_pinit {b : Nat} (h0 : h b = some (aO 4 [vI 0, vN, vN, vN, vN])) (hQ : ∀ h', isP h' b 0 (fun _ => 0) (fun _ => 0) (fun _ => 0) (fun _ => 0) → Fr (fun x => b ≤ x ∧ x < b + 5) h h' → Q none (b + 5) h') : Cl G mX4_init [vR b] (b + 1) h Q := by
  refine cl_of (by decide) (Nat.le_of_ble_eq_true rfl) rfl ?_
  refine r_aload_n (pc := 0) dX4_init_0 rfl <| r_oinit (pc := 1) dX4_init_1 kL_X4_3 oI1 oI2 ⟨Nat.le_of_ble_eq_true rfl, Nat.le_of_ble_eq_true rfl⟩ <| r_aload_n (pc := 4) dX4_init_4 rfl <| r_iconst (pc := 5) dX4_init_5 <| r_putf (pc := 6) dX4_init_6 fP_X4_9 rfl rfl h0 rfl (fun h_6 h0 hF_6 => ?_)
  simp only [List.set_cons_zero, List.set_cons_succ] at h0
  refine r_aload_n (pc := 9) dX4_init_9 rfl <| r_bipush (pc := 10) dX4_init_10 (by decide) <| w_newa (pc := 12) dX4_init_12 wA_int rfl (by decide) ⟨Nat.le_of_ble_eq_true rfl, Nat.le_of_ble_eq_true rfl⟩ (fun h_12 hn_12 hF_12 => ?_)
  replace h0 := hF_12.keep h0 (by omega)
  refine r_putF (pc := 14) dX4_init_14 rfl fP_X4_15 rfl rfl h0 rfl (fun h_14 h0 hF_14 => ?_)
  simp only [List.set_cons_zero, List.set_cons_succ] at h0
  replace hn_12 := hF_14.keep hn_12 (by omega)
  refine r_aload_n (pc := 17) dX4_init_17 rfl <| r_bipush (pc := 18) dX4_init_18 (by decide) <| w_newa (pc := 20) dX4_init_20 wA_int rfl (by decide) ⟨Nat.le_of_ble_eq_true rfl, Nat.le_of_ble_eq_true rfl⟩ (fun h_20 hn_20 hF_20 => ?_)
  replace h0 := hF_20.keep h0 (by omega)
  replace hn_12 := hF_20.keep hn_12 (by omega)
  refine r_putF (pc := 22) dX4_init_22 rfl fP_X4_19 rfl rfl h0 rfl (fun h_22 h0 hF_22 => ?_)
  simp only [List.set_cons_zero, List.set_cons_succ] at h0
  replace hn_12 := hF_22.keep hn_12 (by omega)
  replace hn_20 := hF_22.keep hn_20 (by omega)
  refine r_aload_n (pc := 25) dX4_init_25 rfl <| r_bipush (pc := 26) dX4_init_26 (by decide) <| w_newa (pc := 28) dX4_init_28 wA_int rfl (by decide) ⟨Nat.le_of_ble_eq_true rfl, Nat.le_of_ble_eq_true rfl⟩ (fun h_28 hn_28 hF_28 => ?_)
  replace h0 := hF_28.keep h0 (by omega)
  replace hn_12 := hF_28.keep hn_12 (by omega)
  replace hn_20 := hF_28.keep hn_20 (by omega)
  refine r_putF (pc := 30) dX4_init_30 rfl fP_X4_22 rfl rfl h0 rfl (fun h_30 h0 hF_30 => ?_)
  simp only [List.set_cons_zero, List.set_cons_succ] at h0
  replace hn_12 := hF_30.keep hn_12 (by omega)
  replace hn_20 := hF_30.keep hn_20 (by omega)
  replace hn_28 := hF_30.keep hn_28 (by omega)
  refine r_aload_n (pc := 33) dX4_init_33 rfl <| r_bipush (pc := 34) dX4_init_34 (by decide) <| w_newa (pc := 36) dX4_init_36 wA_int rfl (by decide) ⟨Nat.le_of_ble_eq_true rfl, Nat.le_of_ble_eq_true rfl⟩ (fun h_36 hn_36 hF_36 => ?_)
  replace h0 := hF_36.keep h0 (by omega)
  replace hn_12 := hF_36.keep hn_12 (by omega)
  replace hn_20 := hF_36.keep hn_20 (by omega)
  replace hn_28 := hF_36.keep hn_28 (by omega)
  refine r_putF (pc := 38) dX4_init_38 rfl fP_X4_25 rfl rfl h0 rfl (fun h_38 h0 hF_38 => ?_)
  simp only [List.set_cons_zero, List.set_cons_succ] at h0
  replace hn_12 := hF_38.keep hn_12 (by omega)
  replace hn_20 := hF_38.keep hn_20 (by omega)
  replace hn_28 := hF_38.keep hn_28 (by omega)
  replace hn_36 := hF_38.keep hn_36 (by omega)
  refine r_vret (pc := 41) dX4_init_41 rfl ⟨Nat.le_of_ble_eq_true rfl, Nat.le_of_ble_eq_true rfl⟩ <| ?_
  refine hQ _ ⟨h0, hF_38.keep (hF_36.keep (hF_30.keep (hF_28.keep (hF_22.keep (hF_20.keep (hF_14.keep hn_12z (by omega)) (by omega)) (by omega)) (by omega)) (by omega)) (by omega)) (by omega), hn_20, hn_28, hn_36⟩ (fun x hx => ?_)
  exact (hF_38 x (by omega)).trans ((hF_36 x (by omega)).trans ((hF_30 x (by omega)).trans ((hF_28 x (by omega)).trans ((hF_22 x (by omega)).trans ((hF_20 x (by omega)).trans ((hF_14 x (by omega)).trans ((hF_12 x (by omega)).trans (hF_6 x (by omega)))))))))
end CI

