/-! ===== the class: new ones ===== -/
section CI
variable {G : GT} {n : Nat} {h h' : Hp} {Q : PT} {s : SS}
theorem lp_fill {c N : Nat} {v : Int} (hN : N < 1000) : ∀ (q : Nat) (k : Int) (h : Hp) (f : Int → Int), 0 ≤ k → k + q = N → h c = some (aA N f) → (∀ h', h' c = some (aA N (fun j => if k ≤ j ∧ j < N then v else f j)) → Fr (fun j => j = c) h h' → Q none n h') → At G mJ7_fill_53178 5 [vR c, vI v, vI k, vI (N : Int)] [] (0, 0, n) h Q := by
  intro q
  induction q with
  | zero =>
    intro k h f hk hq hc hQ
    refine r_iload_n (pc := 5) dJ7_fill_53178_5 rfl <| r_iload_n (pc := 6) dJ7_fill_53178_6 rfl <| r_icmp_ge (pc := 7) 20 dJ7_fill_53178_7 (by decide) (by omega) (by omega) (fun hc_7 => ?_) (fun hc_7 => ?_)
    · skip
      refine r_vret (pc := 20) dJ7_fill_53178_20 rfl ⟨Nat.le_of_ble_eq_true rfl, Nat.le_of_ble_eq_true rfl⟩ <| ?_
      refine hQ h ?_ Fr.rf
      rw [hc]
      congr 3
      funext j
      rw [if_neg (by omega)]
    · skip
      exfalso; omega
  | succ q ih =>
    intro k h f hk hq hc hQ
    refine r_iload_n (pc := 5) dJ7_fill_53178_5 rfl <| r_iload_n (pc := 6) dJ7_fill_53178_6 rfl <| r_icmp_ge (pc := 7) 20 dJ7_fill_53178_7 (by decide) (by omega) (by omega) (fun hc_7 => ?_) (fun hc_7 => ?_)
    · skip
      exfalso; omega
    · skip
      refine r_aload_n (pc := 10) dJ7_fill_53178_10 rfl <| r_iload_n (pc := 11) dJ7_fill_53178_11 rfl <| r_iload_n (pc := 12) dJ7_fill_53178_12 rfl <| r_iast (pc := 13) dJ7_fill_53178_13 hc (by omega) (by omega) (fun h_13 hc hF_13 => ?_)
      refine r_iinc_2 (pc := 14) dJ7_fill_53178_14 rfl rfl <| r_goto (pc := 17) 5 dJ7_fill_53178_17 (by decide) <| ?_
      refine ih (k + 1) h_13 _ (by omega) (by omega) hc (fun h' a1 a2 => hQ h' ?_ (fun j hj => (a2 j hj).trans (hF_13 j hj)))
      rw [a1]
      congr 3
      funext j
      by_cases ej : j = k
      · rw [if_neg (by omega), if_pos (by omega), ej, iu_s]
      · rw [iu_n ej]
        by_cases c1 : k ≤ j ∧ j < N
        · rw [if_pos (by omega), if_pos (by omega)]
        · rw [if_neg (by omega), if_neg (by omega)]
theorem sp_fill {c N : Nat} {v : Int} {f : Int → Int} (hN : N < 1000) (hc : h c = some (aA N f)) (hQ : ∀ h', h' c = some (aA N (fun j => if 0 ≤ j ∧ j < N then v else f j)) → Fr (fun j => j = c) h h' → Q none n h') : Cl G mJ7_fill_53178 [vR c, vI v] n h Q := by
  refine cl_of (by decide) (Nat.le_of_ble_eq_true rfl) rfl ?_
  refine r_iconst (pc := 0) dJ7_fill_53178_0 <| r_istoren_2 (pc := 1) dJ7_fill_53178_1 rfl <| r_aload_n (pc := 2) dJ7_fill_53178_2 rfl <| r_alen (pc := 3) dJ7_fill_53178_3 hc <| r_istoren_3 (pc := 4) dJ7_fill_53178_4 rfl <| ?_
  exact lp_fill hN N 0 h f (by omega) (by omega) hc hQ
theorem sp_pinit {b : Nat} (h0 : h b = some (aO 4 [vI 0, vN, vN, vN, vN])) (hQ : ∀ h', isP h' b 0 (fun _ => 0) (fun _ => 0) (fun _ => 0) (fun _ => 0) → Fr (fun x => b ≤ x ∧ x < b + 5) h h' → Q none (b + 5) h') : Cl G mX4_init [vR b] (b + 1) h Q := by
  refine cl_of (by decide) (Nat.le_of_ble_eq_true rfl) rfl ?_
  refine r_aload_n (pc := 0) dX4_init_0 rfl <| r_oinit (pc := 1) dX4_init_1 kL_X4_3 oI1 oI2 ⟨Nat.le_of_ble_eq_true rfl, Nat.le_of_ble_eq_true rfl⟩ <| r_aload_n (pc := 4) dX4_init_4 rfl <| r_iconst (pc := 5) dX4_init_5 <| r_putf (pc := 6) dX4_init_6 fP_X4_9 rfl rfl h0 rfl (fun h_6 h0 hF_6 => ?_)
  simp only [List.set_cons_zero, List.set_cons_succ] at h0
  refine r_aload_n (pc := 9) dX4_init_9 rfl <| r_bipush (pc := 10) dX4_init_10 (by decide) <| w_newa (pc := 12) dX4_init_12 wA_int rfl (by decide) ⟨Nat.le_of_ble_eq_true rfl, Nat.le_of_ble_eq_true rfl⟩ (fun h_12 hn_12 hF_12 => ?_)
  replace h0 := hF_12.keep h0 (by omega)
  refine r_putF (pc := 14) dX4_init_14 rfl fP_X4_15 rfl rfl h0 rfl (fun h_14 h0 hF_14 => ?_)
  simp only [List.set_cons_zero, List.set_cons_succ] at h0
  replace hn_12 := hF_14.keep hn_12 (by omega)
  refine r_aload_n (pc := 17) dX4_init_17 rfl <| r_bipush (pc := 18) dX4_init_18 (by decide) <| w_newa (pc := 20) dX4_init_20 wA_int rfl (by decide) ⟨Nat.le_of_ble_eq_true rfl, Nat.le_of_ble_eq_true rfl⟩ (fun h_20 hn_20 hF_20 => ?_)
  replace h0 := hF_20.keep h0 (by omega)
  replace hn_12 := hF_20.keep hn_12 (by omega)
  refine r_putF (pc := 22) dX4_init_22 rfl fP_X4_19 rfl rfl h0 rfl (fun h_22 h0 hF_22 => ?_)
  simp only [List.set_cons_zero, List.set_cons_succ] at h0
  replace hn_12 := hF_22.keep hn_12 (by omega)
  replace hn_20 := hF_22.keep hn_20 (by omega)
  refine r_aload_n (pc := 25) dX4_init_25 rfl <| r_bipush (pc := 26) dX4_init_26 (by decide) <| w_newa (pc := 28) dX4_init_28 wA_int rfl (by decide) ⟨Nat.le_of_ble_eq_true rfl, Nat.le_of_ble_eq_true rfl⟩ (fun h_28 hn_28 hF_28 => ?_)
  replace h0 := hF_28.keep h0 (by omega)
  replace hn_12 := hF_28.keep hn_12 (by omega)
  replace hn_20 := hF_28.keep hn_20 (by omega)
  refine r_putF (pc := 30) dX4_init_30 rfl fP_X4_22 rfl rfl h0 rfl (fun h_30 h0 hF_30 => ?_)
  simp only [List.set_cons_zero, List.set_cons_succ] at h0
  replace hn_12 := hF_30.keep hn_12 (by omega)
  replace hn_20 := hF_30.keep hn_20 (by omega)
  replace hn_28 := hF_30.keep hn_28 (by omega)
  refine r_aload_n (pc := 33) dX4_init_33 rfl <| r_bipush (pc := 34) dX4_init_34 (by decide) <| w_newa (pc := 36) dX4_init_36 wA_int rfl (by decide) ⟨Nat.le_of_ble_eq_true rfl, Nat.le_of_ble_eq_true rfl⟩ (fun h_36 hn_36 hF_36 => ?_)
  replace h0 := hF_36.keep h0 (by omega)
  replace hn_12 := hF_36.keep hn_12 (by omega)
  replace hn_20 := hF_36.keep hn_20 (by omega)
  replace hn_28 := hF_36.keep hn_28 (by omega)
  refine r_putF (pc := 38) dX4_init_38 rfl fP_X4_25 rfl rfl h0 rfl (fun h_38 h0 hF_38 => ?_)
  simp only [List.set_cons_zero, List.set_cons_succ] at h0
  replace hn_12 := hF_38.keep hn_12 (by omega)
  replace hn_20 := hF_38.keep hn_20 (by omega)
  replace hn_28 := hF_38.keep hn_28 (by omega)
  replace hn_36 := hF_38.keep hn_36 (by omega)
  refine r_vret (pc := 41) dX4_init_41 rfl ⟨Nat.le_of_ble_eq_true rfl, Nat.le_of_ble_eq_true rfl⟩ <| ?_
  exact hQ _ ⟨h0, hn_12, hn_20, hn_28, hn_36⟩ (fun x hx => ((hF_38 x (by omega)).trans ((hF_36 x (by omega)).trans ((hF_30 x (by omega)).trans ((hF_28 x (by omega)).trans ((hF_22 x (by omega)).trans ((hF_20 x (by omega)).trans ((hF_14 x (by omega)).trans ((hF_12 x (by omega)).trans (hF_6 x (by omega)))))))))))
theorem sp_binit {b : Nat} (h0 : h b = some (aO 1 [vN, vN])) (hQ : ∀ h', isB h' b (fun _ => 0) (fun j => if 0 ≤ j ∧ j < ((64 : Nat) : Int) then -1 else 0) → Fr (fun x => b ≤ x ∧ x < b + 3) h h' → Q none (b + 3) h') : Cl G mX1_init [vR b] (b + 1) h Q := by
  refine cl_of (by decide) (Nat.le_of_ble_eq_true rfl) rfl ?_
  refine r_aload_n (pc := 0) dX1_init_0 rfl <| r_oinit (pc := 1) dX1_init_1 kL_X1_3 oI1 oI2 ⟨Nat.le_of_ble_eq_true rfl, Nat.le_of_ble_eq_true rfl⟩ <| r_aload_n (pc := 4) dX1_init_4 rfl <| r_bipush (pc := 5) dX1_init_5 (by decide) <| w_newa (pc := 7) dX1_init_7 wA_int rfl (by decide) ⟨Nat.le_of_ble_eq_true rfl, Nat.le_of_ble_eq_true rfl⟩ (fun h_7 hn_7 hF_7 => ?_)
  replace h0 := hF_7.keep h0 (by omega)
  refine r_putF (pc := 9) dX1_init_9 rfl fP_X1_9 rfl rfl h0 rfl (fun h_9 h0 hF_9 => ?_)
  simp only [List.set_cons_zero, List.set_cons_succ] at h0
  replace hn_7 := hF_9.keep hn_7 (by omega)
  refine r_aload_n (pc := 12) dX1_init_12 rfl <| r_bipush (pc := 13) dX1_init_13 (by decide) <| w_newa (pc := 15) dX1_init_15 wA_int rfl (by decide) ⟨Nat.le_of_ble_eq_true rfl, Nat.le_of_ble_eq_true rfl⟩ (fun h_15 hn_15 hF_15 => ?_)
  replace h0 := hF_15.keep h0 (by omega)
  replace hn_7 := hF_15.keep hn_7 (by omega)
  refine r_putF (pc := 17) dX1_init_17 rfl fP_X1_15 rfl rfl h0 rfl (fun h_17 h0 hF_17 => ?_)
  simp only [List.set_cons_zero, List.set_cons_succ] at h0
  replace hn_7 := hF_17.keep hn_7 (by omega)
  replace hn_15 := hF_17.keep hn_15 (by omega)
  refine r_aload_n (pc := 20) dX1_init_20 rfl <| r_getf (pc := 21) dX1_init_21 fA_X1_15 h0 rfl <| r_iconst (pc := 24) dX1_init_24 <| cSv [_, _] (pc := 25) dX1_init_25 k_X1_18 ⟨⟨Nat.le_of_ble_eq_true rfl, Nat.le_of_ble_eq_true rfl⟩, ⟨Nat.le_of_ble_eq_true rfl, Nat.le_of_ble_eq_true rfl⟩, Nat.le_of_ble_eq_true rfl⟩ ⟨rfl, rfl⟩ ?_
  refine sp_fill (by decide) hn_15 (fun h1 k1 hF1 => ?_)
  refine ⟨rfl, ?_⟩
  refine r_vret (pc := 28) dX1_init_28 rfl ⟨Nat.le_of_ble_eq_true rfl, Nat.le_of_ble_eq_true rfl⟩ <| ?_
  exact hQ _ ⟨hF1.keep h0 (by omega), hF1.keep hn_7 (by omega), k1⟩ (fun x hx => ((hF1 x (by omega)).trans ((hF_17 x (by omega)).trans ((hF_15 x (by omega)).trans ((hF_9 x (by omega)).trans (hF_7 x (by omega)))))))
theorem Inv_0 : Inv bk0 := by
  have e0 : ∀ j, ¬ ((100 ≤ j ∧ j < 164) ∨ (172 ≤ j ∧ j < 178)) → bk0 j = 0 := fun j hj => if_neg hj
  have e1 : ∀ j, ((100 ≤ j ∧ j < 164) ∨ (172 ≤ j ∧ j < 178)) → bk0 j = -1 := fun j hj => if_pos hj
  refine ⟨⟨?_, ?_, ?_, ?_⟩, fun j => ?_, fun i a b => ?_, fun i a b => ?_, fun x y a b c => ?_, fun i a b => ?_, ⟨fun i a b => ?_, fun i j a b c => ?_⟩, fun d a b => ?_, fun a b a0 a1 b0 b1 => ?_, fun k a b => ?_⟩
  · rw [e0 0 (by omega)]; omega
  · rw [e0 1 (by omega)]; omega
  · rw [e0 2 (by omega)]; omega
  · rw [e0 3 (by omega)]; omega
  · unfold bk0; split <;> omega
  · rw [e0 _ (by omega), e0 _ (by omega), e0 _ (by omega), e0 _ (by omega)]; omega
  · rw [e0 _ (by omega)]; omega
  · rw [e1 _ (by omega)]; exact Or.inl rfl
  · rw [e0 _ (by omega)]; omega
  · rw [e0 2 (by omega)] at b; omega
  · rw [e0 2 (by omega)] at c; omega
  · rw [e1 _ (by omega)]; exact Or.inl rfl
  · rw [e0 _ (by omega), e0 _ (by omega)]; omega
  · rw [e0 3 (by omega)] at b; omega
theorem sp_winit {w : Nat} (h0 : h w = some (aO 7 [vN, vN, vN, vI 0, vN, vI 0, vN, vN, vN, vI 0])) (hQ : ∀ h', isW h' w bk0 → Fr (fun x => w ≤ x ∧ x < w + 14) h h' → Q none (w + 14) h') : Cl G mX7_init [vR w] (w + 1) h Q := by
  have e0 : ∀ j, ¬ ((100 ≤ j ∧ j < 164) ∨ (172 ≤ j ∧ j < 178)) → bk0 j = 0 := fun j hj => if_neg hj
  have e1 : ∀ j, ((100 ≤ j ∧ j < 164) ∨ (172 ≤ j ∧ j < 178)) → bk0 j = -1 := fun j hj => if_pos hj
  have z : ∀ lo hi : Int, lo ≤ 0 → 0 ≤ hi → Bd (fun _ => 0) lo hi := fun lo hi a b j => ⟨a, b⟩
  refine cl_of (by decide) (Nat.le_of_ble_eq_true rfl) rfl ?_
  refine r_aload_n (pc := 0) dX7_init_0 rfl <| r_oinit (pc := 1) dX7_init_1 kL_X7_3 oI1 oI2 ⟨Nat.le_of_ble_eq_true rfl, Nat.le_of_ble_eq_true rfl⟩ <| r_aload_n (pc := 4) dX7_init_4 rfl <| w_new (pc := 5) dX7_init_5 fN_X7_9 ⟨Nat.le_of_ble_eq_true rfl, Nat.le_of_ble_eq_true rfl⟩ (fun h_5 hn_5 hF_5 => ?_)
  replace h0 := hF_5.keep h0 (by omega)
  refine r_dup (pc := 8) dX7_init_8 rfl <| cINa [] (pc := 9) dX7_init_9 k_X7_11 ⟨⟨Nat.le_of_ble_eq_true rfl, Nat.le_of_ble_eq_true rfl⟩, ⟨Nat.le_of_ble_eq_true rfl, Nat.le_of_ble_eq_true rfl⟩, Nat.le_of_ble_eq_true rfl⟩ ?_
  refine sp_pinit hn_5 (fun h1 kP hF1 => ?_)
  refine ⟨rfl, ?_⟩
  replace hn_5 := kP.1
  replace h0 := hF1.keep h0 (by omega)
  refine r_putF (pc := 12) dX7_init_12 rfl fP_X7_12 rfl rfl h0 rfl (fun h_12 h0 hF_12 => ?_)
  simp only [List.set_cons_zero, List.set_cons_succ] at h0
  replace hn_5 := hF_12.keep hn_5 (by omega)
  refine r_aload_n (pc := 15) dX7_init_15 rfl <| w_new (pc := 16) dX7_init_16 fN_X7_18 ⟨Nat.le_of_ble_eq_true rfl, Nat.le_of_ble_eq_true rfl⟩ (fun h_16 hn_16 hF_16 => ?_)
  replace h0 := hF_16.keep h0 (by omega)
  replace hn_5 := hF_16.keep hn_5 (by omega)
  refine r_dup (pc := 19) dX7_init_19 rfl <| cIa [] (pc := 20) dX7_init_20 k_X7_20 ⟨⟨Nat.le_of_ble_eq_true rfl, Nat.le_of_ble_eq_true rfl⟩, ⟨Nat.le_of_ble_eq_true rfl, Nat.le_of_ble_eq_true rfl⟩, Nat.le_of_ble_eq_true rfl⟩ ?_
  refine sp_binit hn_16 (fun h2 kB hF2 => ?_)
  refine ⟨rfl, ?_⟩
  replace hn_16 := kB.1
  replace h0 := hF2.keep h0 (by omega)
  replace hn_5 := hF2.keep hn_5 (by omega)
  refine r_putF (pc := 23) dX7_init_23 rfl fP_X7_21 rfl rfl h0 rfl (fun h_23 h0 hF_23 => ?_)
  simp only [List.set_cons_zero, List.set_cons_succ] at h0
  replace hn_5 := hF_23.keep hn_5 (by omega)
  replace hn_16 := hF_23.keep hn_16 (by omega)
  refine r_aload_n (pc := 26) dX7_init_26 rfl <| r_sipush (pc := 27) dX7_init_27 (by decide) <| w_newa (pc := 30) dX7_init_30 wA_int rfl (by decide) ⟨Nat.le_of_ble_eq_true rfl, Nat.le_of_ble_eq_true rfl⟩ (fun h_30 hn_30 hF_30 => ?_)
  replace h0 := hF_30.keep h0 (by omega)
  replace hn_5 := hF_30.keep hn_5 (by omega)
  replace hn_16 := hF_30.keep hn_16 (by omega)
  refine r_putF (pc := 32) dX7_init_32 rfl fP_X7_25 rfl rfl h0 rfl (fun h_32 h0 hF_32 => ?_)
  simp only [List.set_cons_zero, List.set_cons_succ] at h0
  replace hn_5 := hF_32.keep hn_5 (by omega)
  replace hn_16 := hF_32.keep hn_16 (by omega)
  replace hn_30 := hF_32.keep hn_30 (by omega)
  refine r_aload_n (pc := 35) dX7_init_35 rfl <| r_iconst (pc := 36) dX7_init_36 <| r_putf (pc := 37) dX7_init_37 fP_X7_29 rfl rfl h0 rfl (fun h_37 h0 hF_37 => ?_)
  simp only [List.set_cons_zero, List.set_cons_succ] at h0
  replace hn_5 := hF_37.keep hn_5 (by omega)
  replace hn_16 := hF_37.keep hn_16 (by omega)
  replace hn_30 := hF_37.keep hn_30 (by omega)
  refine r_aload_n (pc := 40) dX7_init_40 rfl <| r_bipush (pc := 41) dX7_init_41 (by decide) <| w_newa (pc := 43) dX7_init_43 wA_int rfl (by decide) ⟨Nat.le_of_ble_eq_true rfl, Nat.le_of_ble_eq_true rfl⟩ (fun h_43 hn_43 hF_43 => ?_)
  replace h0 := hF_43.keep h0 (by omega)
  replace hn_5 := hF_43.keep hn_5 (by omega)
  replace hn_16 := hF_43.keep hn_16 (by omega)
  replace hn_30 := hF_43.keep hn_30 (by omega)
  refine r_putF (pc := 45) dX7_init_45 rfl fP_X7_33 rfl rfl h0 rfl (fun h_45 h0 hF_45 => ?_)
  simp only [List.set_cons_zero, List.set_cons_succ] at h0
  replace hn_5 := hF_45.keep hn_5 (by omega)
  replace hn_16 := hF_45.keep hn_16 (by omega)
  replace hn_30 := hF_45.keep hn_30 (by omega)
  replace hn_43 := hF_45.keep hn_43 (by omega)
  refine r_aload_n (pc := 48) dX7_init_48 rfl <| r_iconst (pc := 49) dX7_init_49 <| r_putf (pc := 50) dX7_init_50 fP_X7_36 rfl rfl h0 rfl (fun h_50 h0 hF_50 => ?_)
  simp only [List.set_cons_zero, List.set_cons_succ] at h0
  replace hn_5 := hF_50.keep hn_5 (by omega)
  replace hn_16 := hF_50.keep hn_16 (by omega)
  replace hn_30 := hF_50.keep hn_30 (by omega)
  replace hn_43 := hF_50.keep hn_43 (by omega)
  refine r_aload_n (pc := 53) dX7_init_53 rfl <| r_bipush (pc := 54) dX7_init_54 (by decide) <| w_newa (pc := 56) dX7_init_56 wA_int rfl (by decide) ⟨Nat.le_of_ble_eq_true rfl, Nat.le_of_ble_eq_true rfl⟩ (fun h_56 hn_56 hF_56 => ?_)
  replace h0 := hF_56.keep h0 (by omega)
  replace hn_5 := hF_56.keep hn_5 (by omega)
  replace hn_16 := hF_56.keep hn_16 (by omega)
  replace hn_30 := hF_56.keep hn_30 (by omega)
  replace hn_43 := hF_56.keep hn_43 (by omega)
  refine r_putF (pc := 58) dX7_init_58 rfl fP_X7_39 rfl rfl h0 rfl (fun h_58 h0 hF_58 => ?_)
  simp only [List.set_cons_zero, List.set_cons_succ] at h0
  replace hn_5 := hF_58.keep hn_5 (by omega)
  replace hn_16 := hF_58.keep hn_16 (by omega)
  replace hn_30 := hF_58.keep hn_30 (by omega)
  replace hn_43 := hF_58.keep hn_43 (by omega)
  replace hn_56 := hF_58.keep hn_56 (by omega)
  refine r_aload_n (pc := 61) dX7_init_61 rfl <| r_bipush (pc := 62) dX7_init_62 (by decide) <| w_newa (pc := 64) dX7_init_64 wA_int rfl (by decide) ⟨Nat.le_of_ble_eq_true rfl, Nat.le_of_ble_eq_true rfl⟩ (fun h_64 hn_64 hF_64 => ?_)
  replace h0 := hF_64.keep h0 (by omega)
  replace hn_5 := hF_64.keep hn_5 (by omega)
  replace hn_16 := hF_64.keep hn_16 (by omega)
  replace hn_30 := hF_64.keep hn_30 (by omega)
  replace hn_43 := hF_64.keep hn_43 (by omega)
  replace hn_56 := hF_64.keep hn_56 (by omega)
  refine r_putF (pc := 66) dX7_init_66 rfl fP_X7_42 rfl rfl h0 rfl (fun h_66 h0 hF_66 => ?_)
  simp only [List.set_cons_zero, List.set_cons_succ] at h0
  replace hn_5 := hF_66.keep hn_5 (by omega)
  replace hn_16 := hF_66.keep hn_16 (by omega)
  replace hn_30 := hF_66.keep hn_30 (by omega)
  replace hn_43 := hF_66.keep hn_43 (by omega)
  replace hn_56 := hF_66.keep hn_56 (by omega)
  replace hn_64 := hF_66.keep hn_64 (by omega)
  refine r_aload_n (pc := 69) dX7_init_69 rfl <| r_bipush (pc := 70) dX7_init_70 (by decide) <| w_newa (pc := 72) dX7_init_72 wA_int rfl (by decide) ⟨Nat.le_of_ble_eq_true rfl, Nat.le_of_ble_eq_true rfl⟩ (fun h_72 hn_72 hF_72 => ?_)
  replace h0 := hF_72.keep h0 (by omega)
  replace hn_5 := hF_72.keep hn_5 (by omega)
  replace hn_16 := hF_72.keep hn_16 (by omega)
  replace hn_30 := hF_72.keep hn_30 (by omega)
  replace hn_43 := hF_72.keep hn_43 (by omega)
  replace hn_56 := hF_72.keep hn_56 (by omega)
  replace hn_64 := hF_72.keep hn_64 (by omega)
  refine r_putF (pc := 74) dX7_init_74 rfl fP_X7_45 rfl rfl h0 rfl (fun h_74 h0 hF_74 => ?_)
  simp only [List.set_cons_zero, List.set_cons_succ] at h0
  replace hn_5 := hF_74.keep hn_5 (by omega)
  replace hn_16 := hF_74.keep hn_16 (by omega)
  replace hn_30 := hF_74.keep hn_30 (by omega)
  replace hn_43 := hF_74.keep hn_43 (by omega)
  replace hn_56 := hF_74.keep hn_56 (by omega)
  replace hn_64 := hF_74.keep hn_64 (by omega)
  replace hn_72 := hF_74.keep hn_72 (by omega)
  refine r_aload_n (pc := 77) dX7_init_77 rfl <| r_iconst (pc := 78) dX7_init_78 <| r_putf (pc := 79) dX7_init_79 fP_X7_48 rfl rfl h0 rfl (fun h_79 h0 hF_79 => ?_)
  simp only [List.set_cons_zero, List.set_cons_succ] at h0
  replace hn_5 := hF_79.keep hn_5 (by omega)
  replace hn_16 := hF_79.keep hn_16 (by omega)
  replace hn_30 := hF_79.keep hn_30 (by omega)
  replace hn_43 := hF_79.keep hn_43 (by omega)
  replace hn_56 := hF_79.keep hn_56 (by omega)
  replace hn_64 := hF_79.keep hn_64 (by omega)
  replace hn_72 := hF_79.keep hn_72 (by omega)
  refine r_aload_n (pc := 82) dX7_init_82 rfl <| r_getf (pc := 83) dX7_init_83 fA_X7_39 h0 rfl <| r_iconst (pc := 86) dX7_init_86 <| cSv [_, _] (pc := 87) dX7_init_87 k_X7_51 ⟨⟨Nat.le_of_ble_eq_true rfl, Nat.le_of_ble_eq_true rfl⟩, ⟨Nat.le_of_ble_eq_true rfl, Nat.le_of_ble_eq_true rfl⟩, Nat.le_of_ble_eq_true rfl⟩ ⟨rfl, rfl⟩ ?_
  refine sp_fill (by decide) hn_56 (fun h3 k3 hF3 => ?_)
  refine ⟨rfl, ?_⟩
  refine r_vret (pc := 90) dX7_init_90 rfl ⟨Nat.le_of_ble_eq_true rfl, Nat.le_of_ble_eq_true rfl⟩ <| ?_
  have hA : Fr (fun x => x = w ∨ w + 6 ≤ x ∧ x < w + 14) h1 h3 := fun x hx => ((hF3 x (by omega)).trans ((hF_79 x (by omega)).trans ((hF_74 x (by omega)).trans ((hF_72 x (by omega)).trans ((hF_66 x (by omega)).trans ((hF_64 x (by omega)).trans ((hF_58 x (by omega)).trans ((hF_56 x (by omega)).trans ((hF_50 x (by omega)).trans ((hF_45 x (by omega)).trans ((hF_43 x (by omega)).trans ((hF_37 x (by omega)).trans ((hF_32 x (by omega)).trans ((hF_30 x (by omega)).trans ((hF_23 x (by omega)).trans ((hF2 x (by omega)).trans ((hF_16 x (by omega)).trans (hF_12 x (by omega)))))))))))))))))))
  have hB : Fr (fun x => x = w ∨ w + 9 ≤ x ∧ x < w + 14) h2 h3 := fun x hx => ((hF3 x (by omega)).trans ((hF_79 x (by omega)).trans ((hF_74 x (by omega)).trans ((hF_72 x (by omega)).trans ((hF_66 x (by omega)).trans ((hF_64 x (by omega)).trans ((hF_58 x (by omega)).trans ((hF_56 x (by omega)).trans ((hF_50 x (by omega)).trans ((hF_45 x (by omega)).trans ((hF_43 x (by omega)).trans ((hF_37 x (by omega)).trans ((hF_32 x (by omega)).trans ((hF_30 x (by omega)).trans (hF_23 x (by omega))))))))))))))))
  refine hQ _ (isW_iff.mpr ⟨?_, ⟨_, _, _, _, ⟨?_, hA.keep kP.2.1 (by omega), hA.keep kP.2.2.1 (by omega), hA.keep kP.2.2.2.1 (by omega), hA.keep kP.2.2.2.2 (by omega)⟩, ⟨z _ _ (by omega) (by omega), z _ _ (by omega) (by omega), z _ _ (by omega) (by omega), z _ _ (by omega) (by omega)⟩, fun i a b => ?_⟩, ⟨_, _, ⟨hB.keep kB.1 (by omega), hB.keep kB.2.1 (by omega), hB.keep kB.2.2 (by omega)⟩, ⟨z _ _ (by omega) (by omega), fun j => ?_⟩, fun i a b => ?_, fun x y a b c => ?_⟩, ⟨_, hF3.keep hn_30 (by omega), z _ _ (by omega) (by omega), fun i a b => ?_⟩, ⟨_, hF3.keep hn_43 (by omega), z _ _ (by omega) (by omega), fun i a b => ?_⟩, ⟨_, k3, fun j => ?_, fun i a b => ?_⟩, ⟨_, hF3.keep hn_64 (by omega), z _ _ (by omega) (by omega), fun i a b => ?_⟩, ⟨_, hF3.keep hn_72 (by omega), z _ _ (by omega) (by omega), fun i a b => ?_⟩⟩) (fun x hx => ?_)
  · unfold oW
    rw [e0 1 (by omega), e0 2 (by omega), e0 3 (by omega)]
    exact hF3.keep h0 (by omega)
  · rw [e0 0 (by omega)]; exact hA.keep kP.1 (by omega)
  · rw [e0 _ (by omega), e0 _ (by omega), e0 _ (by omega), e0 _ (by omega)]; exact ⟨rfl, rfl, rfl, rfl⟩
  · show (-1 : Int) ≤ (if _ then -1 else 0) ∧ (if _ then (-1 : Int) else 0) ≤ 7
    split <;> omega
  · rw [e0 _ (by omega)]
  · rw [e1 _ (by omega)]
    exact ⟨if_pos (by omega), if_pos (by omega)⟩
  · rw [e0 _ (by omega)]
  · rw [e0 _ (by omega)]
  · show (-1 : Int) ≤ (if _ then -1 else 0) ∧ (if _ then (-1 : Int) else 0) ≤ 7
    split <;> omega
  · rw [e1 _ (by omega)]
    show (if 0 ≤ i ∧ i < ((6 : Nat) : Int) then (-1 : Int) else 0) = -1
    rw [if_pos (by omega)]
  · rw [e0 _ (by omega)]
  · rw [e0 _ (by omega)]
  · exact (hA x (by omega)).trans ((hF1 x (by omega)).trans (hF_5 x (by omega)))
end CI

