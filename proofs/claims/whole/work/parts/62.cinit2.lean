/-! ===== the class: new ones, images ===== -/
section CI2
variable {G : GT} {n : Nat} {h h' : Hp} {Q : PT} {s : SS}
theorem sp_tinit {b : Nat} (h0 : h b = some (aO 6 [vN, vI 0, vI 0, vI 0, vI 0])) (hQ : ∀ h', h' b = some (aO 6 [vR (b + 1), vI 0, vI 0, vI 0, vI 0]) → Fr (fun x => b ≤ x ∧ x < b + 2) h h' → Q none (b + 2) h') : Cl G mX6_init [vR b] (b + 1) h Q := by
  refine cl_of (by decide) (Nat.le_of_ble_eq_true rfl) rfl ?_
  refine r_aload_n (pc := 0) dX6_init_0 rfl <| r_oinit (pc := 1) dX6_init_1 kL_X6_1 oI1 oI2 ⟨Nat.le_of_ble_eq_true rfl, Nat.le_of_ble_eq_true rfl⟩ <| r_aload_n (pc := 4) dX6_init_4 rfl <| r_iconst (pc := 5) dX6_init_5 <| w_newa (pc := 6) dX6_init_6 wA_int rfl (by decide) ⟨Nat.le_of_ble_eq_true rfl, Nat.le_of_ble_eq_true rfl⟩ (fun h_6 hn_6 hF_6 => ?_)
  replace h0 := hF_6.keep h0 (by omega)
  refine r_putf (pc := 8) dX6_init_8 fP_X6_7 rfl rfl h0 rfl (fun h_8 h0 hF_8 => ?_)
  simp only [List.set_cons_zero, List.set_cons_succ] at h0
  replace hn_6 := hF_8.keep hn_6 (by omega)
  refine r_aload_n (pc := 11) dX6_init_11 rfl <| r_iconst (pc := 12) dX6_init_12 <| r_putf (pc := 13) dX6_init_13 fP_X6_13 rfl rfl h0 rfl (fun h_13 h0 hF_13 => ?_)
  simp only [List.set_cons_zero, List.set_cons_succ] at h0
  replace hn_6 := hF_13.keep hn_6 (by omega)
  refine r_aload_n (pc := 16) dX6_init_16 rfl <| r_iconst (pc := 17) dX6_init_17 <| r_putf (pc := 18) dX6_init_18 fP_X6_17 rfl rfl h0 rfl (fun h_18 h0 hF_18 => ?_)
  simp only [List.set_cons_zero, List.set_cons_succ] at h0
  replace hn_6 := hF_18.keep hn_6 (by omega)
  refine r_aload_n (pc := 21) dX6_init_21 rfl <| r_iconst (pc := 22) dX6_init_22 <| r_putf (pc := 23) dX6_init_23 fP_X6_20 rfl rfl h0 rfl (fun h_23 h0 hF_23 => ?_)
  simp only [List.set_cons_zero, List.set_cons_succ] at h0
  replace hn_6 := hF_23.keep hn_6 (by omega)
  refine r_aload_n (pc := 26) dX6_init_26 rfl <| r_iconst (pc := 27) dX6_init_27 <| r_putf (pc := 28) dX6_init_28 fP_X6_23 rfl rfl h0 rfl (fun h_28 h0 hF_28 => ?_)
  simp only [List.set_cons_zero, List.set_cons_succ] at h0
  replace hn_6 := hF_28.keep hn_6 (by omega)
  refine r_vret (pc := 31) dX6_init_31 rfl ⟨Nat.le_of_ble_eq_true rfl, Nat.le_of_ble_eq_true rfl⟩ <| ?_
  exact hQ _ h0 (fun x hx => ((hF_28 x (by omega)).trans ((hF_23 x (by omega)).trans ((hF_18 x (by omega)).trans ((hF_13 x (by omega)).trans ((hF_8 x (by omega)).trans (hF_6 x (by omega))))))))
theorem sp_bkinit {b : Nat} (h0 : h b = some (aO 0 [vN, vI 0, vI 0, vI 0, vN, vN, vN, vN])) (hQ : ∀ h', isBk h' b (-1, []) → isTk h' b → Fr (fun x => b ≤ x ∧ x < b + 7) h h' → Q none (b + 7) h') : Cl G mX0_init [vR b] (b + 1) h Q := by
  have z : ∀ lo hi : Int, lo ≤ 0 → 0 ≤ hi → Bd (fun _ => 0) lo hi := fun lo hi a b j => ⟨a, b⟩
  refine cl_of (by decide) (Nat.le_of_ble_eq_true rfl) rfl ?_
  refine r_aload_n (pc := 0) dX0_init_0 rfl <| r_oinit (pc := 1) dX0_init_1 kL_X0_3 oI1 oI2 ⟨Nat.le_of_ble_eq_true rfl, Nat.le_of_ble_eq_true rfl⟩ <| r_aload_n (pc := 4) dX0_init_4 rfl <| w_new (pc := 5) dX0_init_5 fN_X0_9 ⟨Nat.le_of_ble_eq_true rfl, Nat.le_of_ble_eq_true rfl⟩ (fun h_5 hn_5 hF_5 => ?_)
  replace h0 := hF_5.keep h0 (by omega)
  refine r_dup (pc := 8) dX0_init_8 rfl <| cINa [] (pc := 9) dX0_init_9 k_X0_11 ⟨⟨Nat.le_of_ble_eq_true rfl, Nat.le_of_ble_eq_true rfl⟩, ⟨Nat.le_of_ble_eq_true rfl, Nat.le_of_ble_eq_true rfl⟩, Nat.le_of_ble_eq_true rfl⟩ ?_
  refine sp_tinit hn_5 (fun h1 k1 hF1 => ?_)
  refine ⟨rfl, ?_⟩
  replace hn_5 := k1
  replace h0 := hF1.keep h0 (by omega)
  refine r_putF (pc := 12) dX0_init_12 rfl fP_X0_12 rfl rfl h0 rfl (fun h_12 h0 hF_12 => ?_)
  simp only [List.set_cons_zero, List.set_cons_succ] at h0
  replace hn_5 := hF_12.keep hn_5 (by omega)
  refine r_aload_n (pc := 15) dX0_init_15 rfl <| r_iconst (pc := 16) dX0_init_16 <| r_putf (pc := 17) dX0_init_17 fP_X0_18 rfl rfl h0 rfl (fun h_17 h0 hF_17 => ?_)
  simp only [List.set_cons_zero, List.set_cons_succ] at h0
  replace hn_5 := hF_17.keep hn_5 (by omega)
  refine r_aload_n (pc := 20) dX0_init_20 rfl <| r_iconst (pc := 21) dX0_init_21 <| r_putf (pc := 22) dX0_init_22 fP_X0_22 rfl rfl h0 rfl (fun h_22 h0 hF_22 => ?_)
  simp only [List.set_cons_zero, List.set_cons_succ] at h0
  replace hn_5 := hF_22.keep hn_5 (by omega)
  refine r_aload_n (pc := 25) dX0_init_25 rfl <| r_iconst (pc := 26) dX0_init_26 <| r_putf (pc := 27) dX0_init_27 fP_X0_25 rfl rfl h0 rfl (fun h_27 h0 hF_27 => ?_)
  simp only [List.set_cons_zero, List.set_cons_succ] at h0
  replace hn_5 := hF_27.keep hn_5 (by omega)
  refine r_aload_n (pc := 30) dX0_init_30 rfl <| r_bipush (pc := 31) dX0_init_31 (by decide) <| w_newa (pc := 33) dX0_init_33 wA_int rfl (by decide) ⟨Nat.le_of_ble_eq_true rfl, Nat.le_of_ble_eq_true rfl⟩ (fun h_33 hn_33 hF_33 => ?_)
  replace h0 := hF_33.keep h0 (by omega)
  replace hn_5 := hF_33.keep hn_5 (by omega)
  refine r_putF (pc := 35) dX0_init_35 rfl fP_X0_28 rfl rfl h0 rfl (fun h_35 h0 hF_35 => ?_)
  simp only [List.set_cons_zero, List.set_cons_succ] at h0
  replace hn_5 := hF_35.keep hn_5 (by omega)
  replace hn_33 := hF_35.keep hn_33 (by omega)
  refine r_aload_n (pc := 38) dX0_init_38 rfl <| r_bipush (pc := 39) dX0_init_39 (by decide) <| w_newa (pc := 41) dX0_init_41 wA_int rfl (by decide) ⟨Nat.le_of_ble_eq_true rfl, Nat.le_of_ble_eq_true rfl⟩ (fun h_41 hn_41 hF_41 => ?_)
  replace h0 := hF_41.keep h0 (by omega)
  replace hn_5 := hF_41.keep hn_5 (by omega)
  replace hn_33 := hF_41.keep hn_33 (by omega)
  refine r_putF (pc := 43) dX0_init_43 rfl fP_X0_32 rfl rfl h0 rfl (fun h_43 h0 hF_43 => ?_)
  simp only [List.set_cons_zero, List.set_cons_succ] at h0
  replace hn_5 := hF_43.keep hn_5 (by omega)
  replace hn_33 := hF_43.keep hn_33 (by omega)
  replace hn_41 := hF_43.keep hn_41 (by omega)
  refine r_aload_n (pc := 46) dX0_init_46 rfl <| r_bipush (pc := 47) dX0_init_47 (by decide) <| w_newa (pc := 49) dX0_init_49 wA_int rfl (by decide) ⟨Nat.le_of_ble_eq_true rfl, Nat.le_of_ble_eq_true rfl⟩ (fun h_49 hn_49 hF_49 => ?_)
  replace h0 := hF_49.keep h0 (by omega)
  replace hn_5 := hF_49.keep hn_5 (by omega)
  replace hn_33 := hF_49.keep hn_33 (by omega)
  replace hn_41 := hF_49.keep hn_41 (by omega)
  refine r_putF (pc := 51) dX0_init_51 rfl fP_X0_35 rfl rfl h0 rfl (fun h_51 h0 hF_51 => ?_)
  simp only [List.set_cons_zero, List.set_cons_succ] at h0
  replace hn_5 := hF_51.keep hn_5 (by omega)
  replace hn_33 := hF_51.keep hn_33 (by omega)
  replace hn_41 := hF_51.keep hn_41 (by omega)
  replace hn_49 := hF_51.keep hn_49 (by omega)
  refine r_aload_n (pc := 54) dX0_init_54 rfl <| r_bipush (pc := 55) dX0_init_55 (by decide) <| w_newa (pc := 57) dX0_init_57 wA_int rfl (by decide) ⟨Nat.le_of_ble_eq_true rfl, Nat.le_of_ble_eq_true rfl⟩ (fun h_57 hn_57 hF_57 => ?_)
  replace h0 := hF_57.keep h0 (by omega)
  replace hn_5 := hF_57.keep hn_5 (by omega)
  replace hn_33 := hF_57.keep hn_33 (by omega)
  replace hn_41 := hF_57.keep hn_41 (by omega)
  replace hn_49 := hF_57.keep hn_49 (by omega)
  refine r_putF (pc := 59) dX0_init_59 rfl fP_X0_38 rfl rfl h0 rfl (fun h_59 h0 hF_59 => ?_)
  simp only [List.set_cons_zero, List.set_cons_succ] at h0
  replace hn_5 := hF_59.keep hn_5 (by omega)
  replace hn_33 := hF_59.keep hn_33 (by omega)
  replace hn_41 := hF_59.keep hn_41 (by omega)
  replace hn_49 := hF_59.keep hn_49 (by omega)
  replace hn_57 := hF_59.keep hn_57 (by omega)
  refine r_vret (pc := 62) dX0_init_62 rfl ⟨Nat.le_of_ble_eq_true rfl, Nat.le_of_ble_eq_true rfl⟩ <| ?_
  have hF : Fr (fun x => b ≤ x ∧ x < b + 7) h h_59 := fun x hx => ((hF_59 x (by omega)).trans ((hF_57 x (by omega)).trans ((hF_51 x (by omega)).trans ((hF_49 x (by omega)).trans ((hF_43 x (by omega)).trans ((hF_41 x (by omega)).trans ((hF_35 x (by omega)).trans ((hF_33 x (by omega)).trans ((hF_27 x (by omega)).trans ((hF_22 x (by omega)).trans ((hF_17 x (by omega)).trans ((hF_12 x (by omega)).trans ((hF1 x (by omega)).trans (hF_5 x (by omega)))))))))))))))
  refine hQ _ ⟨⟨_, _, _, _, _, hn_5⟩, Or.inl ⟨rfl, _, _, _, _, 0, h0, hn_33, hn_41, hn_49, hn_57, ⟨z _ _ (by omega) (by omega), z _ _ (by omega) (by omega), z _ _ (by omega) (by omega)⟩, by decide, fun j q hq => by simp at hq, fun j => by simp, fun i a c => ?_⟩⟩ ⟨_, _, _, _, _, _, _, _, _, _, _, _, h0, hn_5, hn_33, hn_41, hn_49, hn_57, z _ _ (by omega) (by omega), z _ _ (by omega) (by omega), z _ _ (by omega) (by omega)⟩ hF
  simp [askN]
theorem sp_kinit {b : Nat} (h0 : h b = some (aO 5 [vI 0, vI 0, vI 0])) (hQ : ∀ h', h' b = some (aO 5 [vI (-1), vI 9, vI (-1)]) → Fr (fun x => x = b) h h' → Q none n h') : Cl G mX5_init [vR b] n h Q := by
  refine cl_of (by decide) (Nat.le_of_ble_eq_true rfl) rfl ?_
  refine r_aload_n (pc := 0) dX5_init_0 rfl <| r_oinit (pc := 1) dX5_init_1 kL_X5_3 oI1 oI2 ⟨Nat.le_of_ble_eq_true rfl, Nat.le_of_ble_eq_true rfl⟩ <| r_aload_n (pc := 4) dX5_init_4 rfl <| r_iconst (pc := 5) dX5_init_5 <| r_putf (pc := 6) dX5_init_6 fP_X5_9 rfl rfl h0 rfl (fun h_6 h0 hF_6 => ?_)
  simp only [List.set_cons_zero, List.set_cons_succ] at h0
  refine r_aload_n (pc := 9) dX5_init_9 rfl <| r_bipush (pc := 10) dX5_init_10 (by decide) <| r_putf (pc := 12) dX5_init_12 fP_X5_15 rfl rfl h0 rfl (fun h_12 h0 hF_12 => ?_)
  simp only [List.set_cons_zero, List.set_cons_succ] at h0
  refine r_aload_n (pc := 15) dX5_init_15 rfl <| r_iconst (pc := 16) dX5_init_16 <| r_putf (pc := 17) dX5_init_17 fP_X5_18 rfl rfl h0 rfl (fun h_17 h0 hF_17 => ?_)
  simp only [List.set_cons_zero, List.set_cons_succ] at h0
  refine r_vret (pc := 20) dX5_init_20 rfl ⟨Nat.le_of_ble_eq_true rfl, Nat.le_of_ble_eq_true rfl⟩ <| ?_
  exact hQ _ h0 (fun x hx => ((hF_17 x (by omega)).trans ((hF_12 x (by omega)).trans (hF_6 x (by omega)))))
theorem sp_sinit {b : Nat} (h0 : h b = some (aO 3 [vN, vN, vN, vN, vN])) (hQ : ∀ h', (h' b = some (aO 3 [vR (b + 1), vR (b + 2), vR (b + 3), vR (b + 4), vR (b + 5)]) ∧ ∃ f1 f2 f3 f4 f5 : Int → Int, h' (b + 1) = some (aA 64 f1) ∧ h' (b + 2) = some (aA 64 f2) ∧ h' (b + 3) = some (aA 8 f3) ∧ h' (b + 4) = some (aA 8 f4) ∧ h' (b + 5) = some (aA 8 f5)) → Fr (fun x => b ≤ x ∧ x < b + 6) h h' → Q none (b + 6) h') : Cl G mX3_init [vR b] (b + 1) h Q := by
  refine cl_of (by decide) (Nat.le_of_ble_eq_true rfl) rfl ?_
  refine r_aload_n (pc := 0) dX3_init_0 rfl <| r_oinit (pc := 1) dX3_init_1 kL_X3_3 oI1 oI2 ⟨Nat.le_of_ble_eq_true rfl, Nat.le_of_ble_eq_true rfl⟩ <| r_aload_n (pc := 4) dX3_init_4 rfl <| r_bipush (pc := 5) dX3_init_5 (by decide) <| w_newa (pc := 7) dX3_init_7 wA_int rfl (by decide) ⟨Nat.le_of_ble_eq_true rfl, Nat.le_of_ble_eq_true rfl⟩ (fun h_7 hn_7 hF_7 => ?_)
  replace h0 := hF_7.keep h0 (by omega)
  refine r_putF (pc := 9) dX3_init_9 rfl fP_X3_9 rfl rfl h0 rfl (fun h_9 h0 hF_9 => ?_)
  simp only [List.set_cons_zero, List.set_cons_succ] at h0
  replace hn_7 := hF_9.keep hn_7 (by omega)
  refine r_aload_n (pc := 12) dX3_init_12 rfl <| r_bipush (pc := 13) dX3_init_13 (by decide) <| w_newa (pc := 15) dX3_init_15 wA_int rfl (by decide) ⟨Nat.le_of_ble_eq_true rfl, Nat.le_of_ble_eq_true rfl⟩ (fun h_15 hn_15 hF_15 => ?_)
  replace h0 := hF_15.keep h0 (by omega)
  replace hn_7 := hF_15.keep hn_7 (by omega)
  refine r_putF (pc := 17) dX3_init_17 rfl fP_X3_15 rfl rfl h0 rfl (fun h_17 h0 hF_17 => ?_)
  simp only [List.set_cons_zero, List.set_cons_succ] at h0
  replace hn_7 := hF_17.keep hn_7 (by omega)
  replace hn_15 := hF_17.keep hn_15 (by omega)
  refine r_aload_n (pc := 20) dX3_init_20 rfl <| r_bipush (pc := 21) dX3_init_21 (by decide) <| w_newa (pc := 23) dX3_init_23 wA_int rfl (by decide) ⟨Nat.le_of_ble_eq_true rfl, Nat.le_of_ble_eq_true rfl⟩ (fun h_23 hn_23 hF_23 => ?_)
  replace h0 := hF_23.keep h0 (by omega)
  replace hn_7 := hF_23.keep hn_7 (by omega)
  replace hn_15 := hF_23.keep hn_15 (by omega)
  refine r_putF (pc := 25) dX3_init_25 rfl fP_X3_18 rfl rfl h0 rfl (fun h_25 h0 hF_25 => ?_)
  simp only [List.set_cons_zero, List.set_cons_succ] at h0
  replace hn_7 := hF_25.keep hn_7 (by omega)
  replace hn_15 := hF_25.keep hn_15 (by omega)
  replace hn_23 := hF_25.keep hn_23 (by omega)
  refine r_aload_n (pc := 28) dX3_init_28 rfl <| r_bipush (pc := 29) dX3_init_29 (by decide) <| w_newa (pc := 31) dX3_init_31 wA_int rfl (by decide) ⟨Nat.le_of_ble_eq_true rfl, Nat.le_of_ble_eq_true rfl⟩ (fun h_31 hn_31 hF_31 => ?_)
  replace h0 := hF_31.keep h0 (by omega)
  replace hn_7 := hF_31.keep hn_7 (by omega)
  replace hn_15 := hF_31.keep hn_15 (by omega)
  replace hn_23 := hF_31.keep hn_23 (by omega)
  refine r_putF (pc := 33) dX3_init_33 rfl fP_X3_21 rfl rfl h0 rfl (fun h_33 h0 hF_33 => ?_)
  simp only [List.set_cons_zero, List.set_cons_succ] at h0
  replace hn_7 := hF_33.keep hn_7 (by omega)
  replace hn_15 := hF_33.keep hn_15 (by omega)
  replace hn_23 := hF_33.keep hn_23 (by omega)
  replace hn_31 := hF_33.keep hn_31 (by omega)
  refine r_aload_n (pc := 36) dX3_init_36 rfl <| r_bipush (pc := 37) dX3_init_37 (by decide) <| w_newa (pc := 39) dX3_init_39 wA_int rfl (by decide) ⟨Nat.le_of_ble_eq_true rfl, Nat.le_of_ble_eq_true rfl⟩ (fun h_39 hn_39 hF_39 => ?_)
  replace h0 := hF_39.keep h0 (by omega)
  replace hn_7 := hF_39.keep hn_7 (by omega)
  replace hn_15 := hF_39.keep hn_15 (by omega)
  replace hn_23 := hF_39.keep hn_23 (by omega)
  replace hn_31 := hF_39.keep hn_31 (by omega)
  refine r_putF (pc := 41) dX3_init_41 rfl fP_X3_24 rfl rfl h0 rfl (fun h_41 h0 hF_41 => ?_)
  simp only [List.set_cons_zero, List.set_cons_succ] at h0
  replace hn_7 := hF_41.keep hn_7 (by omega)
  replace hn_15 := hF_41.keep hn_15 (by omega)
  replace hn_23 := hF_41.keep hn_23 (by omega)
  replace hn_31 := hF_41.keep hn_31 (by omega)
  replace hn_39 := hF_41.keep hn_39 (by omega)
  refine r_vret (pc := 44) dX3_init_44 rfl ⟨Nat.le_of_ble_eq_true rfl, Nat.le_of_ble_eq_true rfl⟩ <| ?_
  exact hQ _ ⟨h0, _, _, _, _, _, hn_7, hn_15, hn_23, hn_31, hn_39⟩ (fun x hx => ((hF_41 x (by omega)).trans ((hF_39 x (by omega)).trans ((hF_33 x (by omega)).trans ((hF_31 x (by omega)).trans ((hF_25 x (by omega)).trans ((hF_23 x (by omega)).trans ((hF_17 x (by omega)).trans ((hF_15 x (by omega)).trans ((hF_9 x (by omega)).trans (hF_7 x (by omega))))))))))))
theorem sp_jinit {b : Nat} (h0 : h b = some (aO 2 [vN, vN, vN, vI 0])) (hQ : ∀ h', (∃ (st : Int) (f1 f2 f3 : Int → Int), h' b = some (aO 2 [vR (b + 1), vR (b + 2), vR (b + 3), vI st]) ∧ h' (b + 1) = some (aA 6 f1) ∧ h' (b + 2) = some (aA 6 f2) ∧ h' (b + 3) = some (aA 6 f3)) → Fr (fun x => b ≤ x ∧ x < b + 4) h h' → Q none (b + 4) h') : Cl G mX2_init [vR b] (b + 1) h Q := by
  refine cl_of (by decide) (Nat.le_of_ble_eq_true rfl) rfl ?_
  refine r_aload_n (pc := 0) dX2_init_0 rfl <| r_oinit (pc := 1) dX2_init_1 kL_X2_3 oI1 oI2 ⟨Nat.le_of_ble_eq_true rfl, Nat.le_of_ble_eq_true rfl⟩ <| r_aload_n (pc := 4) dX2_init_4 rfl <| r_bipush (pc := 5) dX2_init_5 (by decide) <| w_newa (pc := 7) dX2_init_7 wA_int rfl (by decide) ⟨Nat.le_of_ble_eq_true rfl, Nat.le_of_ble_eq_true rfl⟩ (fun h_7 hn_7 hF_7 => ?_)
  replace h0 := hF_7.keep h0 (by omega)
  refine r_putF (pc := 9) dX2_init_9 rfl fP_X2_9 rfl rfl h0 rfl (fun h_9 h0 hF_9 => ?_)
  simp only [List.set_cons_zero, List.set_cons_succ] at h0
  replace hn_7 := hF_9.keep hn_7 (by omega)
  refine r_aload_n (pc := 12) dX2_init_12 rfl <| r_bipush (pc := 13) dX2_init_13 (by decide) <| w_newa (pc := 15) dX2_init_15 wA_int rfl (by decide) ⟨Nat.le_of_ble_eq_true rfl, Nat.le_of_ble_eq_true rfl⟩ (fun h_15 hn_15 hF_15 => ?_)
  replace h0 := hF_15.keep h0 (by omega)
  replace hn_7 := hF_15.keep hn_7 (by omega)
  refine r_putF (pc := 17) dX2_init_17 rfl fP_X2_15 rfl rfl h0 rfl (fun h_17 h0 hF_17 => ?_)
  simp only [List.set_cons_zero, List.set_cons_succ] at h0
  replace hn_7 := hF_17.keep hn_7 (by omega)
  replace hn_15 := hF_17.keep hn_15 (by omega)
  refine r_aload_n (pc := 20) dX2_init_20 rfl <| r_bipush (pc := 21) dX2_init_21 (by decide) <| w_newa (pc := 23) dX2_init_23 wA_int rfl (by decide) ⟨Nat.le_of_ble_eq_true rfl, Nat.le_of_ble_eq_true rfl⟩ (fun h_23 hn_23 hF_23 => ?_)
  replace h0 := hF_23.keep h0 (by omega)
  replace hn_7 := hF_23.keep hn_7 (by omega)
  replace hn_15 := hF_23.keep hn_15 (by omega)
  refine r_putF (pc := 25) dX2_init_25 rfl fP_X2_18 rfl rfl h0 rfl (fun h_25 h0 hF_25 => ?_)
  simp only [List.set_cons_zero, List.set_cons_succ] at h0
  replace hn_7 := hF_25.keep hn_7 (by omega)
  replace hn_15 := hF_25.keep hn_15 (by omega)
  replace hn_23 := hF_25.keep hn_23 (by omega)
  refine r_aload_n (pc := 28) dX2_init_28 rfl <| r_iconst (pc := 29) dX2_init_29 <| r_putf (pc := 30) dX2_init_30 fP_X2_21 rfl rfl h0 rfl (fun h_30 h0 hF_30 => ?_)
  simp only [List.set_cons_zero, List.set_cons_succ] at h0
  replace hn_7 := hF_30.keep hn_7 (by omega)
  replace hn_15 := hF_30.keep hn_15 (by omega)
  replace hn_23 := hF_30.keep hn_23 (by omega)
  refine r_vret (pc := 33) dX2_init_33 rfl ⟨Nat.le_of_ble_eq_true rfl, Nat.le_of_ble_eq_true rfl⟩ <| ?_
  exact hQ _ ⟨_, _, _, _, h0, hn_7, hn_15, hn_23⟩ (fun x hx => ((hF_30 x (by omega)).trans ((hF_25 x (by omega)).trans ((hF_23 x (by omega)).trans ((hF_17 x (by omega)).trans ((hF_15 x (by omega)).trans ((hF_9 x (by omega)).trans (hF_7 x (by omega)))))))))
theorem prs_0 : parse (txB bk0) (bk0 1) = (-1, []) := by
  have e : bk0 1 = 0 := if_neg (by omega)
  rw [e]
  rfl
/-- a new object of the class: it holds the first state -/
theorem sp_cinit (h0 : h 0 = some (aO 8 [vN, vN, vN, vN, vN, vN, vN, vN, vN, vI 0, vI 0, vI 0, vI 0, vI 0])) (hQ : ∀ h', isC h' 58 s00 → Fr (fun x => x < 45) h h' → Q none 45 h') : Cl G mX8_init [vR 0] 1 h Q := by
  refine cl_of (by decide) (Nat.le_of_ble_eq_true rfl) rfl ?_
  refine r_aload_n (pc := 0) dX8_init_0 rfl <| r_oinit (pc := 1) dX8_init_1 kL_X8_3 oI1 oI2 ⟨Nat.le_of_ble_eq_true rfl, Nat.le_of_ble_eq_true rfl⟩ <| r_aload_n (pc := 4) dX8_init_4 rfl <| w_new (pc := 5) dX8_init_5 fN_X8_9 ⟨Nat.le_of_ble_eq_true rfl, Nat.le_of_ble_eq_true rfl⟩ (fun h_5 hn_5 hF_5 => ?_)
  replace h0 := hF_5.keep h0 (by omega)
  refine r_dup (pc := 8) dX8_init_8 rfl <| cIa [] (pc := 9) dX8_init_9 k_X8_11 ⟨⟨Nat.le_of_ble_eq_true rfl, Nat.le_of_ble_eq_true rfl⟩, ⟨Nat.le_of_ble_eq_true rfl, Nat.le_of_ble_eq_true rfl⟩, Nat.le_of_ble_eq_true rfl⟩ ?_
  refine sp_winit hn_5 (fun h1 k1 hF1 => ?_)
  refine ⟨rfl, ?_⟩
  obtain ⟨hn_5, -⟩ := isW_iff.mp k1
  replace h0 := hF1.keep h0 (by omega)
  refine r_putF (pc := 12) dX8_init_12 rfl fP_X8_12 rfl rfl h0 rfl (fun h_12 h0 hF_12 => ?_)
  simp only [List.set_cons_zero, List.set_cons_succ] at h0
  replace hn_5 := hF_12.keep hn_5 (by omega)
  refine r_aload_n (pc := 15) dX8_init_15 rfl <| r_iconst (pc := 16) dX8_init_16 <| w_anew (pc := 17) dX8_init_17 wT_77 rfl (by decide) ⟨Nat.le_of_ble_eq_true rfl, Nat.le_of_ble_eq_true rfl⟩ (fun h_17 hn_17 hF_17 => ?_)
  replace h0 := hF_17.keep h0 (by omega)
  replace hn_5 := hF_17.keep hn_5 (by omega)
  refine r_putF (pc := 20) dX8_init_20 rfl fP_X8_16 rfl rfl h0 rfl (fun h_20 h0 hF_20 => ?_)
  simp only [List.set_cons_zero, List.set_cons_succ] at h0
  replace hn_5 := hF_20.keep hn_5 (by omega)
  replace hn_17 := hF_20.keep hn_17 (by omega)
  refine r_aload_n (pc := 23) dX8_init_23 rfl <| w_new (pc := 24) dX8_init_24 fN_X8_20 ⟨Nat.le_of_ble_eq_true rfl, Nat.le_of_ble_eq_true rfl⟩ (fun h_24 hn_24 hF_24 => ?_)
  replace h0 := hF_24.keep h0 (by omega)
  replace hn_5 := hF_24.keep hn_5 (by omega)
  replace hn_17 := hF_24.keep hn_17 (by omega)
  refine r_dup (pc := 27) dX8_init_27 rfl <| cINa [] (pc := 28) dX8_init_28 k_X8_22 ⟨⟨Nat.le_of_ble_eq_true rfl, Nat.le_of_ble_eq_true rfl⟩, ⟨Nat.le_of_ble_eq_true rfl, Nat.le_of_ble_eq_true rfl⟩, Nat.le_of_ble_eq_true rfl⟩ ?_
  refine sp_bkinit hn_24 (fun h2 k2 k2' hF2 => ?_)
  refine ⟨rfl, ?_⟩
  obtain ⟨bsz, bab, bfa, btt, bro, bco, ble, bak, hn_24⟩ : ∃ a b c : Int, ∃ d e f g i : Nat, h2 16 = some (aO 0 [vR d, vI a, vI b, vI c, vR e, vR f, vR g, vR i]) := by
    obtain ⟨-, k | k⟩ := k2
    · obtain ⟨-, _, _, _, _, _, g1, -⟩ := k; exact ⟨_, _, _, _, _, _, _, _, g1⟩
    · obtain ⟨-, _, _, _, _, _, _, g1, -⟩ := k; exact ⟨_, _, _, _, _, _, _, _, g1⟩
  replace h0 := hF2.keep h0 (by omega)
  replace hn_5 := hF2.keep hn_5 (by omega)
  replace hn_17 := hF2.keep hn_17 (by omega)
  refine r_putF (pc := 31) dX8_init_31 rfl fP_X8_23 rfl rfl h0 rfl (fun h_31 h0 hF_31 => ?_)
  simp only [List.set_cons_zero, List.set_cons_succ] at h0
  replace hn_5 := hF_31.keep hn_5 (by omega)
  replace hn_17 := hF_31.keep hn_17 (by omega)
  replace hn_24 := hF_31.keep hn_24 (by omega)
  refine r_aload_n (pc := 34) dX8_init_34 rfl <| w_new (pc := 35) dX8_init_35 fN_X8_20 ⟨Nat.le_of_ble_eq_true rfl, Nat.le_of_ble_eq_true rfl⟩ (fun h_35 hn_35 hF_35 => ?_)
  replace h0 := hF_35.keep h0 (by omega)
  replace hn_5 := hF_35.keep hn_5 (by omega)
  replace hn_17 := hF_35.keep hn_17 (by omega)
  replace hn_24 := hF_35.keep hn_24 (by omega)
  refine r_dup (pc := 38) dX8_init_38 rfl <| cINa [] (pc := 39) dX8_init_39 k_X8_22 ⟨⟨Nat.le_of_ble_eq_true rfl, Nat.le_of_ble_eq_true rfl⟩, ⟨Nat.le_of_ble_eq_true rfl, Nat.le_of_ble_eq_true rfl⟩, Nat.le_of_ble_eq_true rfl⟩ ?_
  refine sp_bkinit hn_35 (fun h3 k3 k3' hF3 => ?_)
  refine ⟨rfl, ?_⟩
  obtain ⟨ro3, co3, le3, ak3, fa3, sz3, ab3, len3, nx3, pl3, va3, tt3, g3, -⟩ := id k3'
  replace hn_35 := g3
  replace h0 := hF3.keep h0 (by omega)
  replace hn_5 := hF3.keep hn_5 (by omega)
  replace hn_17 := hF3.keep hn_17 (by omega)
  replace hn_24 := hF3.keep hn_24 (by omega)
  refine r_putF (pc := 42) dX8_init_42 rfl fP_X8_27 rfl rfl h0 rfl (fun h_42 h0 hF_42 => ?_)
  simp only [List.set_cons_zero, List.set_cons_succ] at h0
  replace hn_5 := hF_42.keep hn_5 (by omega)
  replace hn_17 := hF_42.keep hn_17 (by omega)
  replace hn_24 := hF_42.keep hn_24 (by omega)
  replace hn_35 := hF_42.keep hn_35 (by omega)
  refine r_aload_n (pc := 45) dX8_init_45 rfl <| w_new (pc := 46) dX8_init_46 fN_X8_30 ⟨Nat.le_of_ble_eq_true rfl, Nat.le_of_ble_eq_true rfl⟩ (fun h_46 hn_46 hF_46 => ?_)
  replace h0 := hF_46.keep h0 (by omega)
  replace hn_5 := hF_46.keep hn_5 (by omega)
  replace hn_17 := hF_46.keep hn_17 (by omega)
  replace hn_24 := hF_46.keep hn_24 (by omega)
  replace hn_35 := hF_46.keep hn_35 (by omega)
  refine r_dup (pc := 49) dX8_init_49 rfl <| cINv [] (pc := 50) dX8_init_50 k_X8_32 ⟨⟨Nat.le_of_ble_eq_true rfl, Nat.le_of_ble_eq_true rfl⟩, ⟨Nat.le_of_ble_eq_true rfl, Nat.le_of_ble_eq_true rfl⟩, Nat.le_of_ble_eq_true rfl⟩ ⟨rfl, rfl⟩ ?_
  refine sp_kinit hn_46 (fun h4 k4 hF4 => ?_)
  refine ⟨rfl, ?_⟩
  replace hn_46 := k4
  replace h0 := hF4.keep h0 (by omega)
  replace hn_5 := hF4.keep hn_5 (by omega)
  replace hn_17 := hF4.keep hn_17 (by omega)
  replace hn_24 := hF4.keep hn_24 (by omega)
  replace hn_35 := hF4.keep hn_35 (by omega)
  refine r_putF (pc := 53) dX8_init_53 rfl fP_X8_33 rfl rfl h0 rfl (fun h_53 h0 hF_53 => ?_)
  simp only [List.set_cons_zero, List.set_cons_succ] at h0
  replace hn_5 := hF_53.keep hn_5 (by omega)
  replace hn_17 := hF_53.keep hn_17 (by omega)
  replace hn_24 := hF_53.keep hn_24 (by omega)
  replace hn_35 := hF_53.keep hn_35 (by omega)
  replace hn_46 := hF_53.keep hn_46 (by omega)
  refine r_aload_n (pc := 56) dX8_init_56 rfl <| w_new (pc := 57) dX8_init_57 fN_X8_37 ⟨Nat.le_of_ble_eq_true rfl, Nat.le_of_ble_eq_true rfl⟩ (fun h_57 hn_57 hF_57 => ?_)
  replace h0 := hF_57.keep h0 (by omega)
  replace hn_5 := hF_57.keep hn_5 (by omega)
  replace hn_17 := hF_57.keep hn_17 (by omega)
  replace hn_24 := hF_57.keep hn_24 (by omega)
  replace hn_35 := hF_57.keep hn_35 (by omega)
  replace hn_46 := hF_57.keep hn_46 (by omega)
  refine r_dup (pc := 60) dX8_init_60 rfl <| cINa [] (pc := 61) dX8_init_61 k_X8_39 ⟨⟨Nat.le_of_ble_eq_true rfl, Nat.le_of_ble_eq_true rfl⟩, ⟨Nat.le_of_ble_eq_true rfl, Nat.le_of_ble_eq_true rfl⟩, Nat.le_of_ble_eq_true rfl⟩ ?_
  refine sp_sinit hn_57 (fun h5 k5 hF5 => ?_)
  refine ⟨rfl, ?_⟩
  replace hn_57 := k5.1
  replace h0 := hF5.keep h0 (by omega)
  replace hn_5 := hF5.keep hn_5 (by omega)
  replace hn_17 := hF5.keep hn_17 (by omega)
  replace hn_24 := hF5.keep hn_24 (by omega)
  replace hn_35 := hF5.keep hn_35 (by omega)
  replace hn_46 := hF5.keep hn_46 (by omega)
  refine r_putF (pc := 64) dX8_init_64 rfl fP_X8_40 rfl rfl h0 rfl (fun h_64 h0 hF_64 => ?_)
  simp only [List.set_cons_zero, List.set_cons_succ] at h0
  replace hn_5 := hF_64.keep hn_5 (by omega)
  replace hn_17 := hF_64.keep hn_17 (by omega)
  replace hn_24 := hF_64.keep hn_24 (by omega)
  replace hn_35 := hF_64.keep hn_35 (by omega)
  replace hn_46 := hF_64.keep hn_46 (by omega)
  replace hn_57 := hF_64.keep hn_57 (by omega)
  refine r_aload_n (pc := 67) dX8_init_67 rfl <| w_new (pc := 68) dX8_init_68 fN_X8_44 ⟨Nat.le_of_ble_eq_true rfl, Nat.le_of_ble_eq_true rfl⟩ (fun h_68 hn_68 hF_68 => ?_)
  replace h0 := hF_68.keep h0 (by omega)
  replace hn_5 := hF_68.keep hn_5 (by omega)
  replace hn_17 := hF_68.keep hn_17 (by omega)
  replace hn_24 := hF_68.keep hn_24 (by omega)
  replace hn_35 := hF_68.keep hn_35 (by omega)
  replace hn_46 := hF_68.keep hn_46 (by omega)
  replace hn_57 := hF_68.keep hn_57 (by omega)
  refine r_dup (pc := 71) dX8_init_71 rfl <| cINa [] (pc := 72) dX8_init_72 k_X8_46 ⟨⟨Nat.le_of_ble_eq_true rfl, Nat.le_of_ble_eq_true rfl⟩, ⟨Nat.le_of_ble_eq_true rfl, Nat.le_of_ble_eq_true rfl⟩, Nat.le_of_ble_eq_true rfl⟩ ?_
  refine sp_jinit hn_68 (fun h6 k6 hF6 => ?_)
  refine ⟨rfl, ?_⟩
  obtain ⟨st6, f61, f62, f63, g6, -⟩ := id k6
  replace hn_68 := g6
  replace h0 := hF6.keep h0 (by omega)
  replace hn_5 := hF6.keep hn_5 (by omega)
  replace hn_17 := hF6.keep hn_17 (by omega)
  replace hn_24 := hF6.keep hn_24 (by omega)
  replace hn_35 := hF6.keep hn_35 (by omega)
  replace hn_46 := hF6.keep hn_46 (by omega)
  replace hn_57 := hF6.keep hn_57 (by omega)
  refine r_putF (pc := 75) dX8_init_75 rfl fP_X8_47 rfl rfl h0 rfl (fun h_75 h0 hF_75 => ?_)
  simp only [List.set_cons_zero, List.set_cons_succ] at h0
  replace hn_5 := hF_75.keep hn_5 (by omega)
  replace hn_17 := hF_75.keep hn_17 (by omega)
  replace hn_24 := hF_75.keep hn_24 (by omega)
  replace hn_35 := hF_75.keep hn_35 (by omega)
  replace hn_46 := hF_75.keep hn_46 (by omega)
  replace hn_57 := hF_75.keep hn_57 (by omega)
  replace hn_68 := hF_75.keep hn_68 (by omega)
  refine r_aload_n (pc := 78) dX8_init_78 rfl <| w_new (pc := 79) dX8_init_79 fN_X8_51 ⟨Nat.le_of_ble_eq_true rfl, Nat.le_of_ble_eq_true rfl⟩ (fun h_79 hn_79 hF_79 => ?_)
  replace h0 := hF_79.keep h0 (by omega)
  replace hn_5 := hF_79.keep hn_5 (by omega)
  replace hn_17 := hF_79.keep hn_17 (by omega)
  replace hn_24 := hF_79.keep hn_24 (by omega)
  replace hn_35 := hF_79.keep hn_35 (by omega)
  replace hn_46 := hF_79.keep hn_46 (by omega)
  replace hn_57 := hF_79.keep hn_57 (by omega)
  replace hn_68 := hF_79.keep hn_68 (by omega)
  refine r_dup (pc := 82) dX8_init_82 rfl <| cIa [] (pc := 83) dX8_init_83 k_X8_53 ⟨⟨Nat.le_of_ble_eq_true rfl, Nat.le_of_ble_eq_true rfl⟩, ⟨Nat.le_of_ble_eq_true rfl, Nat.le_of_ble_eq_true rfl⟩, Nat.le_of_ble_eq_true rfl⟩ ?_
  refine sp_binit hn_79 (fun h7 k7 hF7 => ?_)
  refine ⟨rfl, ?_⟩
  replace hn_79 := k7.1
  replace h0 := hF7.keep h0 (by omega)
  replace hn_5 := hF7.keep hn_5 (by omega)
  replace hn_17 := hF7.keep hn_17 (by omega)
  replace hn_24 := hF7.keep hn_24 (by omega)
  replace hn_35 := hF7.keep hn_35 (by omega)
  replace hn_46 := hF7.keep hn_46 (by omega)
  replace hn_57 := hF7.keep hn_57 (by omega)
  replace hn_68 := hF7.keep hn_68 (by omega)
  refine r_putF (pc := 86) dX8_init_86 rfl fP_X8_54 rfl rfl h0 rfl (fun h_86 h0 hF_86 => ?_)
  simp only [List.set_cons_zero, List.set_cons_succ] at h0
  replace hn_5 := hF_86.keep hn_5 (by omega)
  replace hn_17 := hF_86.keep hn_17 (by omega)
  replace hn_24 := hF_86.keep hn_24 (by omega)
  replace hn_35 := hF_86.keep hn_35 (by omega)
  replace hn_46 := hF_86.keep hn_46 (by omega)
  replace hn_57 := hF_86.keep hn_57 (by omega)
  replace hn_68 := hF_86.keep hn_68 (by omega)
  replace hn_79 := hF_86.keep hn_79 (by omega)
  refine r_aload_n (pc := 89) dX8_init_89 rfl <| r_bipush (pc := 90) dX8_init_90 (by decide) <| w_newa (pc := 92) dX8_init_92 wA_int rfl (by decide) ⟨Nat.le_of_ble_eq_true rfl, Nat.le_of_ble_eq_true rfl⟩ (fun h_92 hn_92 hF_92 => ?_)
  replace h0 := hF_92.keep h0 (by omega)
  replace hn_5 := hF_92.keep hn_5 (by omega)
  replace hn_17 := hF_92.keep hn_17 (by omega)
  replace hn_24 := hF_92.keep hn_24 (by omega)
  replace hn_35 := hF_92.keep hn_35 (by omega)
  replace hn_46 := hF_92.keep hn_46 (by omega)
  replace hn_57 := hF_92.keep hn_57 (by omega)
  replace hn_68 := hF_92.keep hn_68 (by omega)
  replace hn_79 := hF_92.keep hn_79 (by omega)
  refine r_putF (pc := 94) dX8_init_94 rfl fP_X8_58 rfl rfl h0 rfl (fun h_94 h0 hF_94 => ?_)
  simp only [List.set_cons_zero, List.set_cons_succ] at h0
  replace hn_5 := hF_94.keep hn_5 (by omega)
  replace hn_17 := hF_94.keep hn_17 (by omega)
  replace hn_24 := hF_94.keep hn_24 (by omega)
  replace hn_35 := hF_94.keep hn_35 (by omega)
  replace hn_46 := hF_94.keep hn_46 (by omega)
  replace hn_57 := hF_94.keep hn_57 (by omega)
  replace hn_68 := hF_94.keep hn_68 (by omega)
  replace hn_79 := hF_94.keep hn_79 (by omega)
  replace hn_92 := hF_94.keep hn_92 (by omega)
  refine r_aload_n (pc := 97) dX8_init_97 rfl <| r_iconst (pc := 98) dX8_init_98 <| r_putf (pc := 99) dX8_init_99 fP_X8_62 rfl rfl h0 rfl (fun h_99 h0 hF_99 => ?_)
  simp only [List.set_cons_zero, List.set_cons_succ] at h0
  replace hn_5 := hF_99.keep hn_5 (by omega)
  replace hn_17 := hF_99.keep hn_17 (by omega)
  replace hn_24 := hF_99.keep hn_24 (by omega)
  replace hn_35 := hF_99.keep hn_35 (by omega)
  replace hn_46 := hF_99.keep hn_46 (by omega)
  replace hn_57 := hF_99.keep hn_57 (by omega)
  replace hn_68 := hF_99.keep hn_68 (by omega)
  replace hn_79 := hF_99.keep hn_79 (by omega)
  replace hn_92 := hF_99.keep hn_92 (by omega)
  refine r_aload_n (pc := 102) dX8_init_102 rfl <| r_iconst (pc := 103) dX8_init_103 <| r_putf (pc := 104) dX8_init_104 fP_X8_66 rfl rfl h0 rfl (fun h_104 h0 hF_104 => ?_)
  simp only [List.set_cons_zero, List.set_cons_succ] at h0
  replace hn_5 := hF_104.keep hn_5 (by omega)
  replace hn_17 := hF_104.keep hn_17 (by omega)
  replace hn_24 := hF_104.keep hn_24 (by omega)
  replace hn_35 := hF_104.keep hn_35 (by omega)
  replace hn_46 := hF_104.keep hn_46 (by omega)
  replace hn_57 := hF_104.keep hn_57 (by omega)
  replace hn_68 := hF_104.keep hn_68 (by omega)
  replace hn_79 := hF_104.keep hn_79 (by omega)
  replace hn_92 := hF_104.keep hn_92 (by omega)
  refine r_aload_n (pc := 107) dX8_init_107 rfl <| r_iconst (pc := 108) dX8_init_108 <| r_putf (pc := 109) dX8_init_109 fP_X8_69 rfl rfl h0 rfl (fun h_109 h0 hF_109 => ?_)
  simp only [List.set_cons_zero, List.set_cons_succ] at h0
  replace hn_5 := hF_109.keep hn_5 (by omega)
  replace hn_17 := hF_109.keep hn_17 (by omega)
  replace hn_24 := hF_109.keep hn_24 (by omega)
  replace hn_35 := hF_109.keep hn_35 (by omega)
  replace hn_46 := hF_109.keep hn_46 (by omega)
  replace hn_57 := hF_109.keep hn_57 (by omega)
  replace hn_68 := hF_109.keep hn_68 (by omega)
  replace hn_79 := hF_109.keep hn_79 (by omega)
  replace hn_92 := hF_109.keep hn_92 (by omega)
  refine r_aload_n (pc := 112) dX8_init_112 rfl <| r_iconst (pc := 113) dX8_init_113 <| r_putf (pc := 114) dX8_init_114 fP_X8_72 rfl rfl h0 rfl (fun h_114 h0 hF_114 => ?_)
  simp only [List.set_cons_zero, List.set_cons_succ] at h0
  replace hn_5 := hF_114.keep hn_5 (by omega)
  replace hn_17 := hF_114.keep hn_17 (by omega)
  replace hn_24 := hF_114.keep hn_24 (by omega)
  replace hn_35 := hF_114.keep hn_35 (by omega)
  replace hn_46 := hF_114.keep hn_46 (by omega)
  replace hn_57 := hF_114.keep hn_57 (by omega)
  replace hn_68 := hF_114.keep hn_68 (by omega)
  replace hn_79 := hF_114.keep hn_79 (by omega)
  replace hn_92 := hF_114.keep hn_92 (by omega)
  refine r_aload_n (pc := 117) dX8_init_117 rfl <| r_iconst (pc := 118) dX8_init_118 <| r_putf (pc := 119) dX8_init_119 fP_X8_75 rfl rfl h0 rfl (fun h_119 h0 hF_119 => ?_)
  simp only [List.set_cons_zero, List.set_cons_succ] at h0
  replace hn_5 := hF_119.keep hn_5 (by omega)
  replace hn_17 := hF_119.keep hn_17 (by omega)
  replace hn_24 := hF_119.keep hn_24 (by omega)
  replace hn_35 := hF_119.keep hn_35 (by omega)
  replace hn_46 := hF_119.keep hn_46 (by omega)
  replace hn_57 := hF_119.keep hn_57 (by omega)
  replace hn_68 := hF_119.keep hn_68 (by omega)
  replace hn_79 := hF_119.keep hn_79 (by omega)
  replace hn_92 := hF_119.keep hn_92 (by omega)
  refine r_vret (pc := 122) dX8_init_122 rfl ⟨Nat.le_of_ble_eq_true rfl, Nat.le_of_ble_eq_true rfl⟩ <| ?_
  have f7 : Fr (fun x => x = 0 ∨ x = 44) h7 h_119 := fun x hx => ((hF_119 x (by omega)).trans ((hF_114 x (by omega)).trans ((hF_109 x (by omega)).trans ((hF_104 x (by omega)).trans ((hF_99 x (by omega)).trans ((hF_94 x (by omega)).trans ((hF_92 x (by omega)).trans (hF_86 x (by omega)))))))))
  have f6 : Fr (fun x => x = 0 ∨ 41 ≤ x ∧ x < 45) h6 h_119 := fun x hx => (f7 x (by omega)).trans ((hF7 x (by omega)).trans ((hF_79 x (by omega)).trans (hF_75 x (by omega))))
  have f5 : Fr (fun x => x = 0 ∨ 37 ≤ x ∧ x < 45) h5 h_119 := fun x hx => (f6 x (by omega)).trans ((hF6 x (by omega)).trans ((hF_68 x (by omega)).trans (hF_64 x (by omega))))
  have f4 : Fr (fun x => x = 0 ∨ 31 ≤ x ∧ x < 45) h4 h_119 := fun x hx => (f5 x (by omega)).trans ((hF5 x (by omega)).trans ((hF_57 x (by omega)).trans (hF_53 x (by omega))))
  have f3 : Fr (fun x => x = 0 ∨ 30 ≤ x ∧ x < 45) h3 h_119 := fun x hx => (f4 x (by omega)).trans ((hF4 x (by omega)).trans ((hF_46 x (by omega)).trans (hF_42 x (by omega))))
  have f2 : Fr (fun x => x = 0 ∨ 23 ≤ x ∧ x < 45) h2 h_119 := fun x hx => (f3 x (by omega)).trans ((hF3 x (by omega)).trans ((hF_35 x (by omega)).trans (hF_31 x (by omega))))
  have f1 : Fr (fun x => x = 0 ∨ 15 ≤ x ∧ x < 45) h1 h_119 := fun x hx => (f2 x (by omega)).trans ((hF2 x (by omega)).trans ((hF_24 x (by omega)).trans ((hF_20 x (by omega)).trans ((hF_17 x (by omega)).trans (hF_12 x (by omega))))))
  refine hQ _ ⟨h0, k1.fr (fun q a b => f1 q (by omega)), ?_, isX_iff.mpr ⟨⟨_, _, _, hn_46⟩, xP.fr (h := h5) k5 (fun q a b => f5 q (by omega)), xJ.fr (h := h6) k6 (fun q a b => f6 q (by omega)), ⟨_, _, ⟨f7.keep k7.1 (by omega), f7.keep k7.2.1 (by omega), f7.keep k7.2.2 (by omega)⟩, fun j => by show (0 : Int) ≤ 0 ∧ (0 : Int) ≤ 99; decide, fun j => ?_⟩, ⟨_, hn_92⟩, k3'.fr (fun q a b => f3 q (by omega))⟩, _, hn_17, Or.inl ⟨rfl, rfl, rfl, rfl, rfl⟩⟩ (fun x hx => (f1 x (by omega)).trans ((hF1 x (by omega)).trans (hF_5 x (by omega))))
  · rw [show parse (txB s00.bk) (s00.bk 1) = (-1, []) from prs_0]
    exact k2.fr (fun q a b => f2 q (by omega))
  · show (-1 : Int) ≤ (if _ then -1 else 0) ∧ (if _ then (-1 : Int) else 0) ≤ 7
    split <;> omega
end CI2

