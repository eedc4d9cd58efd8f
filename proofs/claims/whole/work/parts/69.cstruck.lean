/-! ===== the class: struck ===== -/
section CSk
variable {G : GT} {n : Nat} {h h' : Hp} {Q : PT} {s : SS}
theorem sp_pair8 {x z : Int} (hQ : Q (some (vI (8 * x + z))) n h) : Cl G mX8_pair [vI x, vI z] n h Q := sp_pair (by rw [show x * 8 + z = 8 * x + z by omega]; exact hQ)
abbrev o41 : AE := aO 1 [vR 42, vR 43]
theorem sp_ring {lf : Int → Int} {a b c : Int} (c41 : h 41 = some o41) (c42 : h 42 = some (aA 64 lf)) (hB : B64 lf) (ha : 0 ≤ a ∧ a < 8) (hb : 0 ≤ b ∧ b < 8) (hc : 0 ≤ c ∧ c < 8) (hQ : ∀ h', h' 42 = some (aA 64 (st3 lf a b c)) → Fr (fun q => q = 42) h h' → Q none n h') : Cl G mX1_strikeRing [vR 41, vI a, vI b, vI c] n h Q := by
  have h1 := hB (8 * a + b) (by omega) (by omega)
  have h2 := hB (8 * b + c) (by omega) (by omega)
  have h3 := hB (8 * c + a) (by omega) (by omega)
  have h4 : 0 ≤ (if lf (8 * c + a) < lf (8 * b + c) then lf (8 * c + a) else lf (8 * b + c)) ∧ (if lf (8 * c + a) < lf (8 * b + c) then lf (8 * c + a) else lf (8 * b + c)) ≤ 99 := by split <;> omega
  refine cl_of (by decide) (Nat.le_of_ble_eq_true rfl) rfl ?_
  refine r_aload_n (pc := 0) dX1_strikeRing_0 rfl <| r_getf (pc := 1) dX1_strikeRing_1 fA_X1_9 c41 rfl <| r_iload_n (pc := 4) dX1_strikeRing_4 rfl <| r_iload_n (pc := 5) dX1_strikeRing_5 rfl <| cSNi [_, _] (pc := 6) dX1_strikeRing_6 k_X1_30 ⟨⟨Nat.le_of_ble_eq_true rfl, Nat.le_of_ble_eq_true rfl⟩, ⟨Nat.le_of_ble_eq_true rfl, Nat.le_of_ble_eq_true rfl⟩, Nat.le_of_ble_eq_true rfl⟩ ⟨rfl, rfl⟩ ?_
  refine sp_pair8 ?_
  refine ⟨_, rfl, ?_⟩
  refine r_iald (pc := 9) dX1_strikeRing_9 c42 (by omega) (by decide) <| r_aload_n (pc := 10) dX1_strikeRing_10 rfl <| r_getf (pc := 11) dX1_strikeRing_11 fA_X1_9 c41 rfl <| r_iload_n (pc := 14) dX1_strikeRing_14 rfl <| r_iload_n (pc := 15) dX1_strikeRing_15 rfl <| cSNi [_, _] (pc := 16) dX1_strikeRing_16 k_X1_30 ⟨⟨Nat.le_of_ble_eq_true rfl, Nat.le_of_ble_eq_true rfl⟩, ⟨Nat.le_of_ble_eq_true rfl, Nat.le_of_ble_eq_true rfl⟩, Nat.le_of_ble_eq_true rfl⟩ ⟨rfl, rfl⟩ ?_
  refine sp_pair8 ?_
  refine ⟨_, rfl, ?_⟩
  refine r_iald (pc := 19) dX1_strikeRing_19 c42 (by omega) (by decide) <| r_aload_n (pc := 20) dX1_strikeRing_20 rfl <| r_getf (pc := 21) dX1_strikeRing_21 fA_X1_9 c41 rfl <| r_iload_n (pc := 24) dX1_strikeRing_24 rfl <| r_iload_n (pc := 25) dX1_strikeRing_25 rfl <| cSNi [_, _] (pc := 26) dX1_strikeRing_26 k_X1_30 ⟨⟨Nat.le_of_ble_eq_true rfl, Nat.le_of_ble_eq_true rfl⟩, ⟨Nat.le_of_ble_eq_true rfl, Nat.le_of_ble_eq_true rfl⟩, Nat.le_of_ble_eq_true rfl⟩ ⟨rfl, rfl⟩ ?_
  refine sp_pair8 ?_
  refine ⟨_, rfl, ?_⟩
  refine r_iald (pc := 29) dX1_strikeRing_29 c42 (by omega) (by decide) <| r_min (pc := 30) dX1_strikeRing_30 kL_X1_34 mI1 mI2 mI3 ⟨Nat.le_of_ble_eq_true rfl, Nat.le_of_ble_eq_true rfl⟩ ⟨Nat.le_of_ble_eq_true rfl, Nat.le_of_ble_eq_true rfl⟩ (by omega) (by omega) <| r_min (pc := 33) dX1_strikeRing_33 kL_X1_34 mI1 mI2 mI3 ⟨Nat.le_of_ble_eq_true rfl, Nat.le_of_ble_eq_true rfl⟩ ⟨Nat.le_of_ble_eq_true rfl, Nat.le_of_ble_eq_true rfl⟩ (by omega) (by omega) <| r_istore_4 (pc := 36) dX1_strikeRing_36 rfl <| r_aload_n (pc := 38) dX1_strikeRing_38 rfl <| r_getf (pc := 39) dX1_strikeRing_39 fA_X1_9 c41 rfl <| r_iload_n (pc := 42) dX1_strikeRing_42 rfl <| r_iload_n (pc := 43) dX1_strikeRing_43 rfl <| cSNi [_, _] (pc := 44) dX1_strikeRing_44 k_X1_30 ⟨⟨Nat.le_of_ble_eq_true rfl, Nat.le_of_ble_eq_true rfl⟩, ⟨Nat.le_of_ble_eq_true rfl, Nat.le_of_ble_eq_true rfl⟩, Nat.le_of_ble_eq_true rfl⟩ ⟨rfl, rfl⟩ ?_
  refine sp_pair8 ?_
  refine ⟨_, rfl, ?_⟩
  refine r_dup2 (pc := 47) dX1_strikeRing_47 ⟨rfl, rfl⟩ <| r_iald (pc := 48) dX1_strikeRing_48 c42 (by omega) (by decide) <| r_iload (pc := 49) dX1_strikeRing_49 rfl <| r_isub (pc := 51) dX1_strikeRing_51 <| r_iast (pc := 52) dX1_strikeRing_52 c42 (by omega) (by decide) (fun h_52 c42 hF_52 => ?_)
  replace c41 := hF_52.keep c41 (by omega)
  refine r_aload_n (pc := 53) dX1_strikeRing_53 rfl <| r_getf (pc := 54) dX1_strikeRing_54 fA_X1_9 c41 rfl <| r_iload_n (pc := 57) dX1_strikeRing_57 rfl <| r_iload_n (pc := 58) dX1_strikeRing_58 rfl <| cSNi [_, _] (pc := 59) dX1_strikeRing_59 k_X1_30 ⟨⟨Nat.le_of_ble_eq_true rfl, Nat.le_of_ble_eq_true rfl⟩, ⟨Nat.le_of_ble_eq_true rfl, Nat.le_of_ble_eq_true rfl⟩, Nat.le_of_ble_eq_true rfl⟩ ⟨rfl, rfl⟩ ?_
  refine sp_pair8 ?_
  refine ⟨_, rfl, ?_⟩
  refine r_dup2 (pc := 62) dX1_strikeRing_62 ⟨rfl, rfl⟩ <| r_iald (pc := 63) dX1_strikeRing_63 c42 (by omega) (by decide) <| r_iload (pc := 64) dX1_strikeRing_64 rfl <| r_isub (pc := 66) dX1_strikeRing_66 <| r_iast (pc := 67) dX1_strikeRing_67 c42 (by omega) (by decide) (fun h_67 c42 hF_67 => ?_)
  replace c41 := hF_67.keep c41 (by omega)
  refine r_aload_n (pc := 68) dX1_strikeRing_68 rfl <| r_getf (pc := 69) dX1_strikeRing_69 fA_X1_9 c41 rfl <| r_iload_n (pc := 72) dX1_strikeRing_72 rfl <| r_iload_n (pc := 73) dX1_strikeRing_73 rfl <| cSNi [_, _] (pc := 74) dX1_strikeRing_74 k_X1_30 ⟨⟨Nat.le_of_ble_eq_true rfl, Nat.le_of_ble_eq_true rfl⟩, ⟨Nat.le_of_ble_eq_true rfl, Nat.le_of_ble_eq_true rfl⟩, Nat.le_of_ble_eq_true rfl⟩ ⟨rfl, rfl⟩ ?_
  refine sp_pair8 ?_
  refine ⟨_, rfl, ?_⟩
  refine r_dup2 (pc := 77) dX1_strikeRing_77 ⟨rfl, rfl⟩ <| r_iald (pc := 78) dX1_strikeRing_78 c42 (by omega) (by decide) <| r_iload (pc := 79) dX1_strikeRing_79 rfl <| r_isub (pc := 81) dX1_strikeRing_81 <| r_iast (pc := 82) dX1_strikeRing_82 c42 (by omega) (by decide) (fun h_82 c42 hF_82 => ?_)
  replace c41 := hF_82.keep c41 (by omega)
  refine r_vret (pc := 83) dX1_strikeRing_83 rfl ⟨Nat.le_of_ble_eq_true rfl, Nat.le_of_ble_eq_true rfl⟩ <| ?_
  exact hQ _ c42 (fun q hq => ((hF_82 q (by omega)).trans ((hF_67 q (by omega)).trans (hF_52 q (by omega)))))
theorem lp_c2b {a : Int} (ha : 0 ≤ a ∧ a < 8) : ∀ (q : Nat) (b : Int) (h : Hp) (lf : Int → Int) (l3 : AV), a < b → b + q = 8 → h 41 = some o41 → h 42 = some (aA 64 lf) → B64 lf →
    (∀ h' b' l3', h' 42 = some (aA 64 (lpI (s2B a) q b lf)) → B64 (lpI (s2B a) q b lf) → Fr (fun j => j = 42) h h' → At G mX1_strikeOut 76 [vR 41, vI a, vI b', l3'] [] (0, 0, n) h' Q) → At G mX1_strikeOut 12 [vR 41, vI a, vI b, l3] [] (0, 0, n) h Q := by
  intro q
  induction q with
  | zero =>
    intro b h lf l3 hb hq c41 c42 hB hQ
    refine r_iload_n (pc := 12) dX1_strikeOut_12 rfl <| r_bipush (pc := 13) dX1_strikeOut_13 (by decide) <| r_icmp_ge (pc := 15) 76 dX1_strikeOut_15 (by decide) (by omega) (by omega) (fun hc_15 => ?_) (fun hc_15 => ?_)
    · skip
      exact hQ h b _ c42 hB Fr.rf
    · skip
      exfalso; omega
  | succ q ih =>
    intro b h lf l3 hb hq c41 c42 hB hQ
    have h1 := hB (8 * a + b) (by omega) (by omega)
    have h2 := hB (8 * b + a) (by omega) (by omega)
    refine r_iload_n (pc := 12) dX1_strikeOut_12 rfl <| r_bipush (pc := 13) dX1_strikeOut_13 (by decide) <| r_icmp_ge (pc := 15) 76 dX1_strikeOut_15 (by decide) (by omega) (by omega) (fun hc_15 => ?_) (fun hc_15 => ?_)
    · skip
      exfalso; omega
    · skip
      refine r_aload_n (pc := 18) dX1_strikeOut_18 rfl <| r_getf (pc := 19) dX1_strikeOut_19 fA_X1_9 c41 rfl <| r_iload_n (pc := 22) dX1_strikeOut_22 rfl <| r_iload_n (pc := 23) dX1_strikeOut_23 rfl <| cSNi [_, _] (pc := 24) dX1_strikeOut_24 k_X1_30 ⟨⟨Nat.le_of_ble_eq_true rfl, Nat.le_of_ble_eq_true rfl⟩, ⟨Nat.le_of_ble_eq_true rfl, Nat.le_of_ble_eq_true rfl⟩, Nat.le_of_ble_eq_true rfl⟩ ⟨rfl, rfl⟩ ?_
      refine sp_pair8 ?_
      refine ⟨_, rfl, ?_⟩
      refine r_iald (pc := 27) dX1_strikeOut_27 c42 (by omega) (by decide) <| r_aload_n (pc := 28) dX1_strikeOut_28 rfl <| r_getf (pc := 29) dX1_strikeOut_29 fA_X1_9 c41 rfl <| r_iload_n (pc := 32) dX1_strikeOut_32 rfl <| r_iload_n (pc := 33) dX1_strikeOut_33 rfl <| cSNi [_, _] (pc := 34) dX1_strikeOut_34 k_X1_30 ⟨⟨Nat.le_of_ble_eq_true rfl, Nat.le_of_ble_eq_true rfl⟩, ⟨Nat.le_of_ble_eq_true rfl, Nat.le_of_ble_eq_true rfl⟩, Nat.le_of_ble_eq_true rfl⟩ ⟨rfl, rfl⟩ ?_
      refine sp_pair8 ?_
      refine ⟨_, rfl, ?_⟩
      refine r_iald (pc := 37) dX1_strikeOut_37 c42 (by omega) (by decide) <| r_min (pc := 38) dX1_strikeOut_38 kL_X1_34 mI1 mI2 mI3 ⟨Nat.le_of_ble_eq_true rfl, Nat.le_of_ble_eq_true rfl⟩ ⟨Nat.le_of_ble_eq_true rfl, Nat.le_of_ble_eq_true rfl⟩ (by omega) (by omega) <| r_istoren_3 (pc := 41) dX1_strikeOut_41 rfl <| r_aload_n (pc := 42) dX1_strikeOut_42 rfl <| r_getf (pc := 43) dX1_strikeOut_43 fA_X1_9 c41 rfl <| r_iload_n (pc := 46) dX1_strikeOut_46 rfl <| r_iload_n (pc := 47) dX1_strikeOut_47 rfl <| cSNi [_, _] (pc := 48) dX1_strikeOut_48 k_X1_30 ⟨⟨Nat.le_of_ble_eq_true rfl, Nat.le_of_ble_eq_true rfl⟩, ⟨Nat.le_of_ble_eq_true rfl, Nat.le_of_ble_eq_true rfl⟩, Nat.le_of_ble_eq_true rfl⟩ ⟨rfl, rfl⟩ ?_
      refine sp_pair8 ?_
      refine ⟨_, rfl, ?_⟩
      refine r_dup2 (pc := 51) dX1_strikeOut_51 ⟨rfl, rfl⟩ <| r_iald (pc := 52) dX1_strikeOut_52 c42 (by omega) (by decide) <| r_iload_n (pc := 53) dX1_strikeOut_53 rfl <| r_isub (pc := 54) dX1_strikeOut_54 <| r_iast (pc := 55) dX1_strikeOut_55 c42 (by omega) (by decide) (fun h_55 c42 hF_55 => ?_)
      replace c41 := hF_55.keep c41 (by omega)
      refine r_aload_n (pc := 56) dX1_strikeOut_56 rfl <| r_getf (pc := 57) dX1_strikeOut_57 fA_X1_9 c41 rfl <| r_iload_n (pc := 60) dX1_strikeOut_60 rfl <| r_iload_n (pc := 61) dX1_strikeOut_61 rfl <| cSNi [_, _] (pc := 62) dX1_strikeOut_62 k_X1_30 ⟨⟨Nat.le_of_ble_eq_true rfl, Nat.le_of_ble_eq_true rfl⟩, ⟨Nat.le_of_ble_eq_true rfl, Nat.le_of_ble_eq_true rfl⟩, Nat.le_of_ble_eq_true rfl⟩ ⟨rfl, rfl⟩ ?_
      refine sp_pair8 ?_
      refine ⟨_, rfl, ?_⟩
      refine r_dup2 (pc := 65) dX1_strikeOut_65 ⟨rfl, rfl⟩ <| r_iald (pc := 66) dX1_strikeOut_66 c42 (by omega) (by decide) <| r_iload_n (pc := 67) dX1_strikeOut_67 rfl <| r_isub (pc := 68) dX1_strikeOut_68 <| r_iast (pc := 69) dX1_strikeOut_69 c42 (by omega) (by decide) (fun h_69 c42 hF_69 => ?_)
      replace c41 := hF_69.keep c41 (by omega)
      refine r_iinc_2 (pc := 70) dX1_strikeOut_70 rfl rfl <| r_goto (pc := 73) 12 dX1_strikeOut_73 (by decide) <| ?_
      have hF : Fr (fun j => j = 42) h h_69 := fun q hq => ((hF_69 q (by omega)).trans (hF_55 q (by omega)))
      exact ih (b + 1) h_69 (st2 lf a b) _ (by omega) (by omega) c41 c42 (st2_B hB ha (by omega) (by omega)) (fun h' b' l3' d1 d2 d3 => hQ h' b' l3' d1 d2 (fun j hj => (d3 j hj).trans (hF j hj)))
theorem lp_c2a : ∀ (q : Nat) (a : Int) (h : Hp) (lf : Int → Int) (l2 l3 : AV), 0 ≤ a → a + q = 8 → h 41 = some o41 → h 42 = some (aA 64 lf) → B64 lf →
    (∀ h' a' l2' l3', h' 42 = some (aA 64 (lpI s2A q a lf)) → B64 (lpI s2A q a lf) → Fr (fun j => j = 42) h h' → At G mX1_strikeOut 82 [vR 41, vI a', l2', l3'] [] (0, 0, n) h' Q) → At G mX1_strikeOut 2 [vR 41, vI a, l2, l3] [] (0, 0, n) h Q := by
  intro q
  induction q with
  | zero =>
    intro a h lf l2 l3 ha hq c41 c42 hB hQ
    refine r_iload_n (pc := 2) dX1_strikeOut_2 rfl <| r_bipush (pc := 3) dX1_strikeOut_3 (by decide) <| r_icmp_ge (pc := 5) 82 dX1_strikeOut_5 (by decide) (by omega) (by omega) (fun hc_5 => ?_) (fun hc_5 => ?_)
    · skip
      exact hQ h a _ _ c42 hB Fr.rf
    · skip
      exfalso; omega
  | succ q ih =>
    intro a h lf l2 l3 ha hq c41 c42 hB hQ
    refine r_iload_n (pc := 2) dX1_strikeOut_2 rfl <| r_bipush (pc := 3) dX1_strikeOut_3 (by decide) <| r_icmp_ge (pc := 5) 82 dX1_strikeOut_5 (by decide) (by omega) (by omega) (fun hc_5 => ?_) (fun hc_5 => ?_)
    · skip
      exfalso; omega
    · skip
      refine r_iload_n (pc := 8) dX1_strikeOut_8 rfl <| r_iconst (pc := 9) dX1_strikeOut_9 <| r_iadd (pc := 10) dX1_strikeOut_10 <| r_istoren_2 (pc := 11) dX1_strikeOut_11 rfl <| ?_
      refine lp_c2b (by omega) (7 - a).toNat (a + 1) h lf _ (by omega) (by omega) c41 c42 hB (fun h1 b' l3' d1 d2 d3 => ?_)
      refine r_iinc_1 (pc := 76) dX1_strikeOut_76 rfl rfl <| r_goto (pc := 79) 2 dX1_strikeOut_79 (by decide) <| ?_
      exact ih (a + 1) h1 _ _ _ (by omega) (by omega) (d3.keep c41 (by omega)) d1 d2 (fun h' a' l2' l3' e1 e2 e3 => hQ h' a' l2' l3' e1 e2 (fun j hj => (e3 j hj).trans (d3 j hj)))
theorem lp_c3c {a b : Int} (ha : 0 ≤ a ∧ a < b) (hb : b < 8) : ∀ (q : Nat) (c : Int) (h : Hp) (lf : Int → Int), b < c → c + q = 8 → h 41 = some o41 → h 42 = some (aA 64 lf) → B64 lf →
    (∀ h' c', h' 42 = some (aA 64 (lpI (s3C a b) q c lf)) → B64 (lpI (s3C a b) q c lf) → Fr (fun j => j = 42) h h' → At G mX1_strikeOut 130 [vR 41, vI a, vI b, vI c'] [] (0, 0, n) h' Q) → At G mX1_strikeOut 104 [vR 41, vI a, vI b, vI c] [] (0, 0, n) h Q := by
  intro q
  induction q with
  | zero =>
    intro c h lf hc hq c41 c42 hB hQ
    refine r_iload_n (pc := 104) dX1_strikeOut_104 rfl <| r_bipush (pc := 105) dX1_strikeOut_105 (by decide) <| r_icmp_ge (pc := 107) 130 dX1_strikeOut_107 (by decide) (by omega) (by omega) (fun hc_107 => ?_) (fun hc_107 => ?_)
    · skip
      exact hQ h c c42 hB Fr.rf
    · skip
      exfalso; omega
  | succ q ih =>
    intro c h lf hc hq c41 c42 hB hQ
    refine r_iload_n (pc := 104) dX1_strikeOut_104 rfl <| r_bipush (pc := 105) dX1_strikeOut_105 (by decide) <| r_icmp_ge (pc := 107) 130 dX1_strikeOut_107 (by decide) (by omega) (by omega) (fun hc_107 => ?_) (fun hc_107 => ?_)
    · skip
      exfalso; omega
    · skip
      refine r_aload_n (pc := 110) dX1_strikeOut_110 rfl <| r_iload_n (pc := 111) dX1_strikeOut_111 rfl <| r_iload_n (pc := 112) dX1_strikeOut_112 rfl <| r_iload_n (pc := 113) dX1_strikeOut_113 rfl <| cVv [_, _, _] (pc := 114) dX1_strikeOut_114 k_X1_39 ⟨⟨Nat.le_of_ble_eq_true rfl, Nat.le_of_ble_eq_true rfl⟩, ⟨Nat.le_of_ble_eq_true rfl, Nat.le_of_ble_eq_true rfl⟩, Nat.le_of_ble_eq_true rfl⟩ ⟨rfl, rfl⟩ c41 ?_
      refine sp_ring c41 c42 hB (by omega) (by omega) (by omega) (fun h1 d1 d2 => ?_)
      refine ⟨rfl, ?_⟩
      have hB1 : B64 (st3 lf a b c) := st3_B hB (by omega) (by omega) (by omega) (by omega) (by omega) (by omega)
      replace c41 := d2.keep c41 (by omega)
      refine r_aload_n (pc := 117) dX1_strikeOut_117 rfl <| r_iload_n (pc := 118) dX1_strikeOut_118 rfl <| r_iload_n (pc := 119) dX1_strikeOut_119 rfl <| r_iload_n (pc := 120) dX1_strikeOut_120 rfl <| cVv [_, _, _] (pc := 121) dX1_strikeOut_121 k_X1_39 ⟨⟨Nat.le_of_ble_eq_true rfl, Nat.le_of_ble_eq_true rfl⟩, ⟨Nat.le_of_ble_eq_true rfl, Nat.le_of_ble_eq_true rfl⟩, Nat.le_of_ble_eq_true rfl⟩ ⟨rfl, rfl⟩ c41 ?_
      refine sp_ring c41 d1 hB1 (by omega) (by omega) (by omega) (fun h2 e1 e2 => ?_)
      refine ⟨rfl, ?_⟩
      refine r_iinc_3 (pc := 124) dX1_strikeOut_124 rfl rfl <| r_goto (pc := 127) 104 dX1_strikeOut_127 (by decide) <| ?_
      have hF : Fr (fun j => j = 42) h h2 := fun j hj => (e2 j hj).trans (d2 j hj)
      exact ih (c + 1) h2 _ (by omega) (by omega) (e2.keep c41 (by omega)) e1 (st3_B hB1 (by omega) (by omega) (by omega) (by omega) (by omega) (by omega)) (fun h' c' f1 f2 f3 => hQ h' c' f1 f2 (fun j hj => (f3 j hj).trans (hF j hj)))
theorem lp_c3b {a : Int} (ha : 0 ≤ a ∧ a < 8) : ∀ (q : Nat) (b : Int) (h : Hp) (lf : Int → Int) (l3 : AV), a < b → b + q = 8 → h 41 = some o41 → h 42 = some (aA 64 lf) → B64 lf →
    (∀ h' b' l3', h' 42 = some (aA 64 (lpI (s3B a) q b lf)) → B64 (lpI (s3B a) q b lf) → Fr (fun j => j = 42) h h' → At G mX1_strikeOut 136 [vR 41, vI a, vI b', l3'] [] (0, 0, n) h' Q) → At G mX1_strikeOut 94 [vR 41, vI a, vI b, l3] [] (0, 0, n) h Q := by
  intro q
  induction q with
  | zero =>
    intro b h lf l3 hb hq c41 c42 hB hQ
    refine r_iload_n (pc := 94) dX1_strikeOut_94 rfl <| r_bipush (pc := 95) dX1_strikeOut_95 (by decide) <| r_icmp_ge (pc := 97) 136 dX1_strikeOut_97 (by decide) (by omega) (by omega) (fun hc_97 => ?_) (fun hc_97 => ?_)
    · skip
      exact hQ h b _ c42 hB Fr.rf
    · skip
      exfalso; omega
  | succ q ih =>
    intro b h lf l3 hb hq c41 c42 hB hQ
    refine r_iload_n (pc := 94) dX1_strikeOut_94 rfl <| r_bipush (pc := 95) dX1_strikeOut_95 (by decide) <| r_icmp_ge (pc := 97) 136 dX1_strikeOut_97 (by decide) (by omega) (by omega) (fun hc_97 => ?_) (fun hc_97 => ?_)
    · skip
      exfalso; omega
    · skip
      refine r_iload_n (pc := 100) dX1_strikeOut_100 rfl <| r_iconst (pc := 101) dX1_strikeOut_101 <| r_iadd (pc := 102) dX1_strikeOut_102 <| r_istoren_3 (pc := 103) dX1_strikeOut_103 rfl <| ?_
      refine lp_c3c (by omega) (by omega) (7 - b).toNat (b + 1) h lf (by omega) (by omega) c41 c42 hB (fun h1 c' d1 d2 d3 => ?_)
      refine r_iinc_2 (pc := 130) dX1_strikeOut_130 rfl rfl <| r_goto (pc := 133) 94 dX1_strikeOut_133 (by decide) <| ?_
      exact ih (b + 1) h1 _ _ (by omega) (by omega) (d3.keep c41 (by omega)) d1 d2 (fun h' b' l3' e1 e2 e3 => hQ h' b' l3' e1 e2 (fun j hj => (e3 j hj).trans (d3 j hj)))
theorem lp_c3a : ∀ (q : Nat) (a : Int) (h : Hp) (lf : Int → Int) (l2 l3 : AV), 0 ≤ a → a + q = 8 → h 41 = some o41 → h 42 = some (aA 64 lf) → B64 lf →
    (∀ h', h' 42 = some (aA 64 (lpI s3A q a lf)) → B64 (lpI s3A q a lf) → Fr (fun j => j = 42) h h' → Q none n h') → At G mX1_strikeOut 84 [vR 41, vI a, l2, l3] [] (0, 0, n) h Q := by
  intro q
  induction q with
  | zero =>
    intro a h lf l2 l3 ha hq c41 c42 hB hQ
    refine r_iload_n (pc := 84) dX1_strikeOut_84 rfl <| r_bipush (pc := 85) dX1_strikeOut_85 (by decide) <| r_icmp_ge (pc := 87) 142 dX1_strikeOut_87 (by decide) (by omega) (by omega) (fun hc_87 => ?_) (fun hc_87 => ?_)
    · skip
      refine r_vret (pc := 142) dX1_strikeOut_142 rfl ⟨Nat.le_of_ble_eq_true rfl, Nat.le_of_ble_eq_true rfl⟩ <| ?_
      exact hQ h c42 hB Fr.rf
    · skip
      exfalso; omega
  | succ q ih =>
    intro a h lf l2 l3 ha hq c41 c42 hB hQ
    refine r_iload_n (pc := 84) dX1_strikeOut_84 rfl <| r_bipush (pc := 85) dX1_strikeOut_85 (by decide) <| r_icmp_ge (pc := 87) 142 dX1_strikeOut_87 (by decide) (by omega) (by omega) (fun hc_87 => ?_) (fun hc_87 => ?_)
    · skip
      exfalso; omega
    · skip
      refine r_iload_n (pc := 90) dX1_strikeOut_90 rfl <| r_iconst (pc := 91) dX1_strikeOut_91 <| r_iadd (pc := 92) dX1_strikeOut_92 <| r_istoren_2 (pc := 93) dX1_strikeOut_93 rfl <| ?_
      refine lp_c3b (by omega) (7 - a).toNat (a + 1) h lf _ (by omega) (by omega) c41 c42 hB (fun h1 b' l3' d1 d2 d3 => ?_)
      refine r_iinc_1 (pc := 136) dX1_strikeOut_136 rfl rfl <| r_goto (pc := 139) 84 dX1_strikeOut_139 (by decide) <| ?_
      exact ih (a + 1) h1 _ _ _ (by omega) (by omega) (d3.keep c41 (by omega)) d1 d2 (fun h' e1 e2 e3 => hQ h' e1 e2 (fun j hj => (e3 j hj).trans (d3 j hj)))
theorem sp_strikeOut {lf : Int → Int} (c41 : h 41 = some o41) (c42 : h 42 = some (aA 64 lf)) (hB : B64 lf) (hQ : ∀ h', h' 42 = some (aA 64 (skF lf)) → B64 (skF lf) → Fr (fun j => j = 42) h h' → Q none n h') : Cl G mX1_strikeOut [vR 41] n h Q := by
  refine cl_of (by decide) (Nat.le_of_ble_eq_true rfl) rfl ?_
  refine r_iconst (pc := 0) dX1_strikeOut_0 <| r_istoren_1 (pc := 1) dX1_strikeOut_1 rfl <| ?_
  refine lp_c2a 8 0 h lf _ _ (by omega) (by omega) c41 c42 hB (fun h1 a' l2' l3' d1 d2 d3 => ?_)
  refine r_iconst (pc := 82) dX1_strikeOut_82 <| r_istoren_1 (pc := 83) dX1_strikeOut_83 rfl <| ?_
  refine lp_c3a 8 0 h1 _ _ _ (by omega) (by omega) (d3.keep c41 (by omega)) d1 d2 (fun h2 e1 e2 e3 => hQ h2 ?_ ?_ (fun j hj => (e3 j hj).trans (d3 j hj)))
  · unfold skF; exact e1
  · unfold skF; exact e2
theorem lp_csum {lf : Int → Int} (c41 : h 41 = some o41) (c42 : h 42 = some (aA 64 lf)) : ∀ (q : Nat) (k x : Int), 0 ≤ k → k + q = 64 → Q (some (vI (lpI (smS lf) q k x))) n h → At G mX1_sum 4 [vR 41, vI x, vI k] [] (0, 0, n) h Q := by
  intro q
  induction q with
  | zero =>
    intro k x hk hq hQ
    refine r_iload_n (pc := 4) dX1_sum_4 rfl <| r_bipush (pc := 5) dX1_sum_5 (by decide) <| r_icmp_ge (pc := 7) 25 dX1_sum_7 (by decide) (by omega) (by omega) (fun hc_7 => ?_) (fun hc_7 => ?_)
    · skip
      refine r_iload_n (pc := 25) dX1_sum_25 rfl <| r_iret (pc := 26) dX1_sum_26 rfl ⟨Nat.le_of_ble_eq_true rfl, Nat.le_of_ble_eq_true rfl⟩ <| ?_
      exact hQ
    · skip
      exfalso; omega
  | succ q ih =>
    intro k x hk hq hQ
    refine r_iload_n (pc := 4) dX1_sum_4 rfl <| r_bipush (pc := 5) dX1_sum_5 (by decide) <| r_icmp_ge (pc := 7) 25 dX1_sum_7 (by decide) (by omega) (by omega) (fun hc_7 => ?_) (fun hc_7 => ?_)
    · skip
      exfalso; omega
    · skip
      refine r_iload_n (pc := 10) dX1_sum_10 rfl <| r_aload_n (pc := 11) dX1_sum_11 rfl <| r_getf (pc := 12) dX1_sum_12 fA_X1_9 c41 rfl <| r_iload_n (pc := 15) dX1_sum_15 rfl <| r_iald (pc := 16) dX1_sum_16 c42 (by omega) (by decide) <| r_iadd (pc := 17) dX1_sum_17 <| r_istoren_1 (pc := 18) dX1_sum_18 rfl <| r_iinc_2 (pc := 19) dX1_sum_19 rfl rfl <| r_goto (pc := 22) 4 dX1_sum_22 (by decide) <| ?_
      exact ih (k + 1) (x + lf k) (by omega) (by omega) hQ
theorem sp_sum {lf : Int → Int} (c41 : h 41 = some o41) (c42 : h 42 = some (aA 64 lf)) (hQ : Q (some (vI (sum64 lf))) n h) : Cl G mX1_sum [vR 41] n h Q := by
  refine cl_of (by decide) (Nat.le_of_ble_eq_true rfl) rfl ?_
  refine r_iconst (pc := 0) dX1_sum_0 <| r_istoren_1 (pc := 1) dX1_sum_1 rfl <| r_iconst (pc := 2) dX1_sum_2 <| r_istoren_2 (pc := 3) dX1_sum_3 rfl <| ?_
  exact lp_csum c41 c42 64 0 0 (by omega) (by omega) (by unfold sum64 at hQ; exact hQ)
end CSk


