/-! ===== the class: strikes, the call ===== -/
section CS5
variable {G : GT} {n : Nat} {h h' : Hp} {Q : PT} {s : SS}
theorem sp_nameAll (hC : isC h n s) (hI : Inv s.bk) (hok : okB s.bk) (hQ : ∀ h' nf', isC h' n s → h' 44 = some (aA 64 nf') → arL nf' 0 (pbA s.bk (itB s.bk) (s.bk 0) (s.bk 0).toNat 0) → ((pbA s.bk (itB s.bk) (s.bk 0) (s.bk 0).toNat 0).length : Int) ≤ 64 → Fr (fun q => q = 44) h h' → Q (some (vI ((pbA s.bk (itB s.bk) (s.bk 0) (s.bk 0).toNat 0).length : Nat))) n h') : Cl G mX8_nameAllTwo [vR 0] n h Q := by
  have i0 := hI.1.1
  obtain ⟨-, -, -, -, ⟨nf, c44⟩, -⟩ := isX_iff.mp hC.2.2.2.1
  refine cl_of (by decide) (Nat.le_of_ble_eq_true rfl) rfl ?_
  refine r_iconst (pc := 0) dX8_nameAllTwo_0 <| r_istoren_1 (pc := 1) dX8_nameAllTwo_1 rfl <| r_iconst (pc := 2) dX8_nameAllTwo_2 <| r_istoren_2 (pc := 3) dX8_nameAllTwo_3 rfl <| ?_
  exact lp_nA hI hok (s.bk 0).toNat 0 h nf [] _ (by omega) (by omega) hC c44 (fun i v hv => by cases hv) (by simp) hQ
theorem cs_strikes (hC : isC h n s) (hI : Inv s.bk) (hQ : ∀ h', isC h' n (fStrikes s).2 → Fr CR h h' → Q (some (vI (fStrikes s).1)) n h') : Cl G mX8_strikes [vR 0] n h Q := by
  have c0 := hC.1
  unfold fStrikes at hQ
  refine cl_of (by decide) (Nat.le_of_ble_eq_true rfl) rfl ?_
  refine r_aload_n (pc := 0) dX8_strikes_0 rfl <| cVi [] (pc := 1) dX8_strikes_1 k_X8_143 ⟨⟨Nat.le_of_ble_eq_true rfl, Nat.le_of_ble_eq_true rfl⟩, ⟨Nat.le_of_ble_eq_true rfl, Nat.le_of_ble_eq_true rfl⟩, Nat.le_of_ble_eq_true rfl⟩ ⟨rfl, rfl⟩ c0 ?_
  refine cs_faulty hC hI (fun q3 => ?_) (fun q3 => ?_)
  · skip
    refine ⟨_, rfl, ?_⟩
    refine r_if_eq (pc := 4) 14 dX8_strikes_4 (by decide) (by decide) (fun q => absurd q (by decide)) (fun _ => ?_)
    refine r_aload_n (pc := 7) dX8_strikes_7 rfl <| r_bipush (pc := 8) dX8_strikes_8 (by decide) <| cVi [_] (pc := 10) dX8_strikes_10 k_X8_147 ⟨⟨Nat.le_of_ble_eq_true rfl, Nat.le_of_ble_eq_true rfl⟩, ⟨Nat.le_of_ble_eq_true rfl, Nat.le_of_ble_eq_true rfl⟩, Nat.le_of_ble_eq_true rfl⟩ ⟨rfl, rfl⟩ c0 ?_
    refine cs_no hC (fun h1 g1 g2 => ?_)
    refine ⟨_, rfl, ?_⟩
    refine r_iret (pc := 13) dX8_strikes_13 rfl ⟨Nat.le_of_ble_eq_true rfl, Nat.le_of_ble_eq_true rfl⟩ <| ?_
    rw [if_pos q3] at hQ; exact hQ _ g1 g2
  · skip
    refine ⟨_, rfl, ?_⟩
    refine r_if_eq (pc := 4) 14 dX8_strikes_4 (by decide) (by decide) (fun _ => ?_) (fun q => absurd q (by decide))
    refine r_aload_n (pc := 14) dX8_strikes_14 rfl <| cVi [] (pc := 15) dX8_strikes_15 k_X8_265 ⟨⟨Nat.le_of_ble_eq_true rfl, Nat.le_of_ble_eq_true rfl⟩, ⟨Nat.le_of_ble_eq_true rfl, Nat.le_of_ble_eq_true rfl⟩, Nat.le_of_ble_eq_true rfl⟩ ⟨rfl, rfl⟩ c0 ?_
    refine sp_nameAll hC hI q3 (fun h1 nf g1 g2 g3 g4 g5 => ?_)
    refine ⟨_, rfl, ?_⟩
    refine r_istoren_1 (pc := 18) dX8_strikes_18 rfl <| r_iconst (pc := 19) dX8_strikes_19 <| r_istoren_2 (pc := 20) dX8_strikes_20 rfl <| r_iconst (pc := 21) dX8_strikes_21 <| r_istoren_3 (pc := 22) dX8_strikes_22 rfl <| ?_
    rw [if_neg (fun q => q q3)] at hQ
    exact lp_cstrikes hI q3 g1 g2 g3 g4 (2 ^ (itB s.bk).length) 0 (-1) _ (by omega) (by omega) (hQ _ g1 (g5.wk (fun q => by omega)))
end CS5

