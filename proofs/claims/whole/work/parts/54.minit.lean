/-! ===== the model: a new one ===== -/
section WN
variable {G : GT} {y : MT} {pc : Nat} {L st : List AV} {c0 s0 n0 : Nat} {h : Hp} {Q : PT}
theorem w_new {i ci N : Nat} {fs : List AV} (hd : decode y.cd pc = .ok (.new i, 3)) (hf : FN y.nm.cls i ci N fs) (hc : c0 + 1 ≤ y.mc ∧ s0 + N ≤ y.ms)
    (kk : ∀ h1 : Hp, h1 n0 = some (aO ci fs) → Fr (fun q => q = n0) h h1 → At G y (pc + 3) L (vR n0 :: st) (c0 + 1, s0 + N, n0 + 1) h1 Q) : At G y pc L st (c0, s0, n0) h Q := r_new hd hf hc kk
theorem w_newa {n : Int} {N : Nat} (hd : decode y.cd pc = .ok (.newarray .int, 2)) (hw : inT (.arrayClass .int)) (hn : n = N) (hN : N ≤ 100000) (hc : c0 + 1 ≤ y.mc ∧ s0 + N ≤ y.ms)
    (kk : ∀ h1 : Hp, h1 n0 = some (aA N (fun _ => 0)) → Fr (fun q => q = n0) h h1 → At G y (pc + 2) L (vR n0 :: st) (c0 + 1, s0 + N, n0 + 1) h1 Q) : At G y pc L (vI n :: st) (c0, s0, n0) h Q := r_newa hd hw hn hN hc kk
theorem w_newz {n : Int} {N : Nat} (hd : decode y.cd pc = .ok (.newarray .boolean, 2)) (hw : inT (.arrayClass .boolean)) (hn : n = N) (hN : N ≤ 100000) (hc : c0 + 1 ≤ y.mc ∧ s0 + N ≤ y.ms)
    (kk : ∀ h1 : Hp, h1 n0 = some (aZ N (fun _ => 0)) → Fr (fun q => q = n0) h h1 → At G y (pc + 2) L (vR n0 :: st) (c0 + 1, s0 + N, n0 + 1) h1 Q) : At G y pc L (vI n :: st) (c0, s0, n0) h Q := r_newz hd hw hn hN hc kk
theorem w_anew {i : Nat} {n : Int} {N : Nat} (hd : decode y.cd pc = .ok (.anewarray i, 3)) (hw : inT (.classLink y.nm.cls i RX7)) (hn : n = N) (hN : N ≤ 100000) (hc : c0 + 1 ≤ y.mc ∧ s0 + N ≤ y.ms)
    (kk : ∀ h1 : Hp, h1 n0 = some (aW N (fun _ => none)) → Fr (fun q => q = n0) h h1 → At G y (pc + 3) L (vR n0 :: st) (c0 + 1, s0 + N, n0 + 1) h1 Q) : At G y pc L (vI n :: st) (c0, s0, n0) h Q := r_anew hd hw hn hN hc kk
end WN
def bk0 (j : Int) : Int := if (100 ≤ j ∧ j < 164) ∨ (172 ≤ j ∧ j < 178) then -1 else 0
def s00 : SS := (bk0, none, none, 0, 1, 0, 0, 0)
theorem itOk_0 : itOk (fun _ => 0) := by
  intro j _
  show ((0 : Int) ≤ 0 ∧ (0 : Int) ≤ 99) ∧ ((0 : Int) ≤ 0 ∧ (0 : Int) ≤ 1) ∧ ((0 : Int) ≤ 0 ∧ (0 : Int) < 10) ∧ ((0 : Int) ≤ 0 ∧ (0 : Int) < 100)
  decide
theorem Bd_0 : Bd (fun _ => 0) (-1) 255 := by
  intro j
  show (-1 : Int) ≤ 0 ∧ (0 : Int) ≤ 255
  decide
section MIn
variable {G : GT} {n : Nat} {h : Hp} {Q : PT}
theorem lp_mi1 {c sl : Nat} {e : Nat → Int} : ∀ (q : Nat) (k : Int) (h : Hp) (bk : Int → Int), 0 ≤ k → k + q = 64 → h 45 = some (aO 9 (mF e)) → h 46 = some (aA 480 bk) → (∀ h' k', h' 46 = some (aA 480 (fun j => if 100 + k ≤ j ∧ j < 164 then -1 else bk j)) → Fr (fun j => j = 46) h h' → At G mX9_init 125 [vR 45, vI k'] [] (c, sl, n) h' Q) → At G mX9_init 103 [vR 45, vI k] [] (c, sl, n) h Q := by
  intro q
  induction q with
  | zero =>
    intro k h bk hk hq g45 g46 hQ
    refine r_iload_n (pc := 103) dX9_init_103 rfl <| r_bipush (pc := 104) dX9_init_104 (by decide) <| r_icmp_ge (pc := 106) 125 dX9_init_106 (by decide) (by omega) (by omega) (fun hc_106 => ?_) (fun hc_106 => ?_)
    · skip
      refine hQ h k ?_ Fr.rf
      rw [g46]
      congr 3
      funext j
      rw [if_neg (by omega)]
    · skip
      exfalso; omega
  | succ q ih =>
    intro k h bk hk hq g45 g46 hQ
    have hM' := g45
    unfold mF at hM'
    refine r_iload_n (pc := 103) dX9_init_103 rfl <| r_bipush (pc := 104) dX9_init_104 (by decide) <| r_icmp_ge (pc := 106) 125 dX9_init_106 (by decide) (by omega) (by omega) (fun hc_106 => ?_) (fun hc_106 => ?_)
    · skip
      exfalso; omega
    · skip
      refine r_aload_n (pc := 109) dX9_init_109 rfl <| r_getf (pc := 110) dX9_init_110 fA_X9_7 hM' rfl <| r_bipush (pc := 113) dX9_init_113 (by decide) <| r_iload_n (pc := 115) dX9_init_115 rfl <| r_iadd (pc := 116) dX9_init_116 <| r_iconst (pc := 117) dX9_init_117 <| r_iast (pc := 118) dX9_init_118 g46 (by omega) (by decide) (fun h_118 g46 hF_118 => ?_)
      replace hM' := hF_118.keep hM' (by omega)
      refine r_iinc_1 (pc := 119) dX9_init_119 rfl rfl <| r_goto (pc := 122) 103 dX9_init_122 (by decide) <| ?_
      refine ih (k + 1) h_118 _ (by omega) (by omega) (hF_118.keep g45 (by omega)) g46 (fun h' k' a1 a2 => hQ h' k' ?_ (fun j hj => (a2 j hj).trans (hF_118 j hj)))
      rw [a1]
      congr 3
      funext j
      by_cases ej : j = 100 + k
      · rw [if_neg (by omega), if_pos (by omega), ej, iu_s]
      · rw [iu_n ej]
        by_cases c1 : 100 + k ≤ j ∧ j < 164
        · rw [if_pos c1, if_pos (by omega)]
        · rw [if_neg c1, if_neg (by omega)]
theorem lp_mi2 {c sl : Nat} {e : Nat → Int} : ∀ (q : Nat) (k : Int) (h : Hp) (bk : Int → Int), 0 ≤ k → k + q = 6 → h 45 = some (aO 9 (mF e)) → h 46 = some (aA 480 bk) → (∀ h' k', h' 46 = some (aA 480 (fun j => if 172 + k ≤ j ∧ j < 178 then -1 else bk j)) → Fr (fun j => j = 46) h h' → At G mX9_init 150 [vR 45, vI k'] [] (c, sl, n) h' Q) → At G mX9_init 127 [vR 45, vI k] [] (c, sl, n) h Q := by
  intro q
  induction q with
  | zero =>
    intro k h bk hk hq g45 g46 hQ
    refine r_iload_n (pc := 127) dX9_init_127 rfl <| r_bipush (pc := 128) dX9_init_128 (by decide) <| r_icmp_ge (pc := 130) 150 dX9_init_130 (by decide) (by omega) (by omega) (fun hc_130 => ?_) (fun hc_130 => ?_)
    · skip
      refine hQ h k ?_ Fr.rf
      rw [g46]
      congr 3
      funext j
      rw [if_neg (by omega)]
    · skip
      exfalso; omega
  | succ q ih =>
    intro k h bk hk hq g45 g46 hQ
    have hM' := g45
    unfold mF at hM'
    refine r_iload_n (pc := 127) dX9_init_127 rfl <| r_bipush (pc := 128) dX9_init_128 (by decide) <| r_icmp_ge (pc := 130) 150 dX9_init_130 (by decide) (by omega) (by omega) (fun hc_130 => ?_) (fun hc_130 => ?_)
    · skip
      exfalso; omega
    · skip
      refine r_aload_n (pc := 133) dX9_init_133 rfl <| r_getf (pc := 134) dX9_init_134 fA_X9_7 hM' rfl <| r_sipush (pc := 137) dX9_init_137 (by decide) <| r_iload_n (pc := 140) dX9_init_140 rfl <| r_iadd (pc := 141) dX9_init_141 <| r_iconst (pc := 142) dX9_init_142 <| r_iast (pc := 143) dX9_init_143 g46 (by omega) (by decide) (fun h_143 g46 hF_143 => ?_)
      replace hM' := hF_143.keep hM' (by omega)
      refine r_iinc_1 (pc := 144) dX9_init_144 rfl rfl <| r_goto (pc := 147) 127 dX9_init_147 (by decide) <| ?_
      refine ih (k + 1) h_143 _ (by omega) (by omega) (hF_143.keep g45 (by omega)) g46 (fun h' k' a1 a2 => hQ h' k' ?_ (fun j hj => (a2 j hj).trans (hF_143 j hj)))
      rw [a1]
      congr 3
      funext j
      by_cases ej : j = 172 + k
      · rw [if_neg (by omega), if_pos (by omega), ej, iu_s]
      · rw [iu_n ej]
        by_cases c1 : 172 + k ≤ j ∧ j < 178
        · rw [if_pos c1, if_pos (by omega)]
        · rw [if_neg c1, if_neg (by omega)]
theorem sp_minit (h0 : h 45 = some (aO 9 [vN, vN, vN, vN, vI 0, vI 0, vI 0, vI 0, vI 0, vI 0, vN, vI 0, vI 0, vI 0, vI 0, vN, vN, vI 0, vN, vN, vN, vN, vN])) (hQ : ∀ h', isM h' s00 → Fr MR h h' → Q none 58 h') : Cl G mX9_init [vR 45] 46 h Q := by
  refine cl_of (by decide) (Nat.le_of_ble_eq_true rfl) rfl ?_
  refine r_aload_n (pc := 0) dX9_init_0 rfl <| r_oinit (pc := 1) dX9_init_1 kL_X9_1 oI1 oI2 ⟨Nat.le_of_ble_eq_true rfl, Nat.le_of_ble_eq_true rfl⟩ <| r_aload_n (pc := 4) dX9_init_4 rfl <| r_sipush (pc := 5) dX9_init_5 (by decide) <| w_newa (pc := 8) dX9_init_8 wA_int rfl (by decide) ⟨Nat.le_of_ble_eq_true rfl, Nat.le_of_ble_eq_true rfl⟩ (fun h_8 hn_8 hF_8 => ?_)
  replace h0 := hF_8.keep h0 (by omega)
  refine r_putF (pc := 10) dX9_init_10 rfl fP_X9_7 rfl rfl h0 rfl (fun h_10 h0 hF_10 => ?_)
  simp only [List.set_cons_zero, List.set_cons_succ] at h0
  replace hn_8 := hF_10.keep hn_8 (by omega)
  refine r_aload_n (pc := 13) dX9_init_13 rfl <| r_sipush (pc := 14) dX9_init_14 (by decide) <| w_newa (pc := 17) dX9_init_17 wA_int rfl (by decide) ⟨Nat.le_of_ble_eq_true rfl, Nat.le_of_ble_eq_true rfl⟩ (fun h_17 hn_17 hF_17 => ?_)
  replace h0 := hF_17.keep h0 (by omega)
  replace hn_8 := hF_17.keep hn_8 (by omega)
  refine r_putF (pc := 19) dX9_init_19 rfl fP_X9_13 rfl rfl h0 rfl (fun h_19 h0 hF_19 => ?_)
  simp only [List.set_cons_zero, List.set_cons_succ] at h0
  replace hn_8 := hF_19.keep hn_8 (by omega)
  replace hn_17 := hF_19.keep hn_17 (by omega)
  refine r_aload_n (pc := 22) dX9_init_22 rfl <| r_iconst (pc := 23) dX9_init_23 <| w_newz (pc := 24) dX9_init_24 wA_boolean rfl (by decide) ⟨Nat.le_of_ble_eq_true rfl, Nat.le_of_ble_eq_true rfl⟩ (fun h_24 hn_24 hF_24 => ?_)
  replace h0 := hF_24.keep h0 (by omega)
  replace hn_8 := hF_24.keep hn_8 (by omega)
  replace hn_17 := hF_24.keep hn_17 (by omega)
  refine r_putF (pc := 26) dX9_init_26 rfl fP_X9_16 rfl rfl h0 rfl (fun h_26 h0 hF_26 => ?_)
  simp only [List.set_cons_zero, List.set_cons_succ] at h0
  replace hn_8 := hF_26.keep hn_8 (by omega)
  replace hn_17 := hF_26.keep hn_17 (by omega)
  replace hn_24 := hF_26.keep hn_24 (by omega)
  refine r_aload_n (pc := 29) dX9_init_29 rfl <| r_iconst (pc := 30) dX9_init_30 <| w_newa (pc := 31) dX9_init_31 wA_int rfl (by decide) ⟨Nat.le_of_ble_eq_true rfl, Nat.le_of_ble_eq_true rfl⟩ (fun h_31 hn_31 hF_31 => ?_)
  replace h0 := hF_31.keep h0 (by omega)
  replace hn_8 := hF_31.keep hn_8 (by omega)
  replace hn_17 := hF_31.keep hn_17 (by omega)
  replace hn_24 := hF_31.keep hn_24 (by omega)
  refine r_putF (pc := 33) dX9_init_33 rfl fP_X9_20 rfl rfl h0 rfl (fun h_33 h0 hF_33 => ?_)
  simp only [List.set_cons_zero, List.set_cons_succ] at h0
  replace hn_8 := hF_33.keep hn_8 (by omega)
  replace hn_17 := hF_33.keep hn_17 (by omega)
  replace hn_24 := hF_33.keep hn_24 (by omega)
  replace hn_31 := hF_33.keep hn_31 (by omega)
  refine r_aload_n (pc := 36) dX9_init_36 rfl <| r_bipush (pc := 37) dX9_init_37 (by decide) <| w_newa (pc := 39) dX9_init_39 wA_int rfl (by decide) ⟨Nat.le_of_ble_eq_true rfl, Nat.le_of_ble_eq_true rfl⟩ (fun h_39 hn_39 hF_39 => ?_)
  replace h0 := hF_39.keep h0 (by omega)
  replace hn_8 := hF_39.keep hn_8 (by omega)
  replace hn_17 := hF_39.keep hn_17 (by omega)
  replace hn_24 := hF_39.keep hn_24 (by omega)
  replace hn_31 := hF_39.keep hn_31 (by omega)
  refine r_putF (pc := 41) dX9_init_41 rfl fP_X9_23 rfl rfl h0 rfl (fun h_41 h0 hF_41 => ?_)
  simp only [List.set_cons_zero, List.set_cons_succ] at h0
  replace hn_8 := hF_41.keep hn_8 (by omega)
  replace hn_17 := hF_41.keep hn_17 (by omega)
  replace hn_24 := hF_41.keep hn_24 (by omega)
  replace hn_31 := hF_41.keep hn_31 (by omega)
  replace hn_39 := hF_41.keep hn_39 (by omega)
  refine r_aload_n (pc := 44) dX9_init_44 rfl <| r_sipush (pc := 45) dX9_init_45 (by decide) <| w_newa (pc := 48) dX9_init_48 wA_int rfl (by decide) ⟨Nat.le_of_ble_eq_true rfl, Nat.le_of_ble_eq_true rfl⟩ (fun h_48 hn_48 hF_48 => ?_)
  replace h0 := hF_48.keep h0 (by omega)
  replace hn_8 := hF_48.keep hn_8 (by omega)
  replace hn_17 := hF_48.keep hn_17 (by omega)
  replace hn_24 := hF_48.keep hn_24 (by omega)
  replace hn_31 := hF_48.keep hn_31 (by omega)
  replace hn_39 := hF_48.keep hn_39 (by omega)
  refine r_putF (pc := 50) dX9_init_50 rfl fP_X9_26 rfl rfl h0 rfl (fun h_50 h0 hF_50 => ?_)
  simp only [List.set_cons_zero, List.set_cons_succ] at h0
  replace hn_8 := hF_50.keep hn_8 (by omega)
  replace hn_17 := hF_50.keep hn_17 (by omega)
  replace hn_24 := hF_50.keep hn_24 (by omega)
  replace hn_31 := hF_50.keep hn_31 (by omega)
  replace hn_39 := hF_50.keep hn_39 (by omega)
  replace hn_48 := hF_50.keep hn_48 (by omega)
  refine r_aload_n (pc := 53) dX9_init_53 rfl <| r_bipush (pc := 54) dX9_init_54 (by decide) <| w_newa (pc := 56) dX9_init_56 wA_int rfl (by decide) ⟨Nat.le_of_ble_eq_true rfl, Nat.le_of_ble_eq_true rfl⟩ (fun h_56 hn_56 hF_56 => ?_)
  replace h0 := hF_56.keep h0 (by omega)
  replace hn_8 := hF_56.keep hn_8 (by omega)
  replace hn_17 := hF_56.keep hn_17 (by omega)
  replace hn_24 := hF_56.keep hn_24 (by omega)
  replace hn_31 := hF_56.keep hn_31 (by omega)
  replace hn_39 := hF_56.keep hn_39 (by omega)
  replace hn_48 := hF_56.keep hn_48 (by omega)
  refine r_putF (pc := 58) dX9_init_58 rfl fP_X9_29 rfl rfl h0 rfl (fun h_58 h0 hF_58 => ?_)
  simp only [List.set_cons_zero, List.set_cons_succ] at h0
  replace hn_8 := hF_58.keep hn_8 (by omega)
  replace hn_17 := hF_58.keep hn_17 (by omega)
  replace hn_24 := hF_58.keep hn_24 (by omega)
  replace hn_31 := hF_58.keep hn_31 (by omega)
  replace hn_39 := hF_58.keep hn_39 (by omega)
  replace hn_48 := hF_58.keep hn_48 (by omega)
  replace hn_56 := hF_58.keep hn_56 (by omega)
  refine r_aload_n (pc := 61) dX9_init_61 rfl <| r_bipush (pc := 62) dX9_init_62 (by decide) <| w_newa (pc := 64) dX9_init_64 wA_int rfl (by decide) ⟨Nat.le_of_ble_eq_true rfl, Nat.le_of_ble_eq_true rfl⟩ (fun h_64 hn_64 hF_64 => ?_)
  replace h0 := hF_64.keep h0 (by omega)
  replace hn_8 := hF_64.keep hn_8 (by omega)
  replace hn_17 := hF_64.keep hn_17 (by omega)
  replace hn_24 := hF_64.keep hn_24 (by omega)
  replace hn_31 := hF_64.keep hn_31 (by omega)
  replace hn_39 := hF_64.keep hn_39 (by omega)
  replace hn_48 := hF_64.keep hn_48 (by omega)
  replace hn_56 := hF_64.keep hn_56 (by omega)
  refine r_putF (pc := 66) dX9_init_66 rfl fP_X9_32 rfl rfl h0 rfl (fun h_66 h0 hF_66 => ?_)
  simp only [List.set_cons_zero, List.set_cons_succ] at h0
  replace hn_8 := hF_66.keep hn_8 (by omega)
  replace hn_17 := hF_66.keep hn_17 (by omega)
  replace hn_24 := hF_66.keep hn_24 (by omega)
  replace hn_31 := hF_66.keep hn_31 (by omega)
  replace hn_39 := hF_66.keep hn_39 (by omega)
  replace hn_48 := hF_66.keep hn_48 (by omega)
  replace hn_56 := hF_66.keep hn_56 (by omega)
  replace hn_64 := hF_66.keep hn_64 (by omega)
  refine r_aload_n (pc := 69) dX9_init_69 rfl <| r_bipush (pc := 70) dX9_init_70 (by decide) <| w_newa (pc := 72) dX9_init_72 wA_int rfl (by decide) ⟨Nat.le_of_ble_eq_true rfl, Nat.le_of_ble_eq_true rfl⟩ (fun h_72 hn_72 hF_72 => ?_)
  replace h0 := hF_72.keep h0 (by omega)
  replace hn_8 := hF_72.keep hn_8 (by omega)
  replace hn_17 := hF_72.keep hn_17 (by omega)
  replace hn_24 := hF_72.keep hn_24 (by omega)
  replace hn_31 := hF_72.keep hn_31 (by omega)
  replace hn_39 := hF_72.keep hn_39 (by omega)
  replace hn_48 := hF_72.keep hn_48 (by omega)
  replace hn_56 := hF_72.keep hn_56 (by omega)
  replace hn_64 := hF_72.keep hn_64 (by omega)
  refine r_putF (pc := 74) dX9_init_74 rfl fP_X9_35 rfl rfl h0 rfl (fun h_74 h0 hF_74 => ?_)
  simp only [List.set_cons_zero, List.set_cons_succ] at h0
  replace hn_8 := hF_74.keep hn_8 (by omega)
  replace hn_17 := hF_74.keep hn_17 (by omega)
  replace hn_24 := hF_74.keep hn_24 (by omega)
  replace hn_31 := hF_74.keep hn_31 (by omega)
  replace hn_39 := hF_74.keep hn_39 (by omega)
  replace hn_48 := hF_74.keep hn_48 (by omega)
  replace hn_56 := hF_74.keep hn_56 (by omega)
  replace hn_64 := hF_74.keep hn_64 (by omega)
  replace hn_72 := hF_74.keep hn_72 (by omega)
  refine r_aload_n (pc := 77) dX9_init_77 rfl <| r_bipush (pc := 78) dX9_init_78 (by decide) <| w_newa (pc := 80) dX9_init_80 wA_int rfl (by decide) ⟨Nat.le_of_ble_eq_true rfl, Nat.le_of_ble_eq_true rfl⟩ (fun h_80 hn_80 hF_80 => ?_)
  replace h0 := hF_80.keep h0 (by omega)
  replace hn_8 := hF_80.keep hn_8 (by omega)
  replace hn_17 := hF_80.keep hn_17 (by omega)
  replace hn_24 := hF_80.keep hn_24 (by omega)
  replace hn_31 := hF_80.keep hn_31 (by omega)
  replace hn_39 := hF_80.keep hn_39 (by omega)
  replace hn_48 := hF_80.keep hn_48 (by omega)
  replace hn_56 := hF_80.keep hn_56 (by omega)
  replace hn_64 := hF_80.keep hn_64 (by omega)
  replace hn_72 := hF_80.keep hn_72 (by omega)
  refine r_putF (pc := 82) dX9_init_82 rfl fP_X9_38 rfl rfl h0 rfl (fun h_82 h0 hF_82 => ?_)
  simp only [List.set_cons_zero, List.set_cons_succ] at h0
  replace hn_8 := hF_82.keep hn_8 (by omega)
  replace hn_17 := hF_82.keep hn_17 (by omega)
  replace hn_24 := hF_82.keep hn_24 (by omega)
  replace hn_31 := hF_82.keep hn_31 (by omega)
  replace hn_39 := hF_82.keep hn_39 (by omega)
  replace hn_48 := hF_82.keep hn_48 (by omega)
  replace hn_56 := hF_82.keep hn_56 (by omega)
  replace hn_64 := hF_82.keep hn_64 (by omega)
  replace hn_72 := hF_82.keep hn_72 (by omega)
  replace hn_80 := hF_82.keep hn_80 (by omega)
  refine r_aload_n (pc := 85) dX9_init_85 rfl <| r_bipush (pc := 86) dX9_init_86 (by decide) <| w_newa (pc := 88) dX9_init_88 wA_int rfl (by decide) ⟨Nat.le_of_ble_eq_true rfl, Nat.le_of_ble_eq_true rfl⟩ (fun h_88 hn_88 hF_88 => ?_)
  replace h0 := hF_88.keep h0 (by omega)
  replace hn_8 := hF_88.keep hn_8 (by omega)
  replace hn_17 := hF_88.keep hn_17 (by omega)
  replace hn_24 := hF_88.keep hn_24 (by omega)
  replace hn_31 := hF_88.keep hn_31 (by omega)
  replace hn_39 := hF_88.keep hn_39 (by omega)
  replace hn_48 := hF_88.keep hn_48 (by omega)
  replace hn_56 := hF_88.keep hn_56 (by omega)
  replace hn_64 := hF_88.keep hn_64 (by omega)
  replace hn_72 := hF_88.keep hn_72 (by omega)
  replace hn_80 := hF_88.keep hn_80 (by omega)
  refine r_putF (pc := 90) dX9_init_90 rfl fP_X9_41 rfl rfl h0 rfl (fun h_90 h0 hF_90 => ?_)
  simp only [List.set_cons_zero, List.set_cons_succ] at h0
  replace hn_8 := hF_90.keep hn_8 (by omega)
  replace hn_17 := hF_90.keep hn_17 (by omega)
  replace hn_24 := hF_90.keep hn_24 (by omega)
  replace hn_31 := hF_90.keep hn_31 (by omega)
  replace hn_39 := hF_90.keep hn_39 (by omega)
  replace hn_48 := hF_90.keep hn_48 (by omega)
  replace hn_56 := hF_90.keep hn_56 (by omega)
  replace hn_64 := hF_90.keep hn_64 (by omega)
  replace hn_72 := hF_90.keep hn_72 (by omega)
  replace hn_80 := hF_90.keep hn_80 (by omega)
  replace hn_88 := hF_90.keep hn_88 (by omega)
  refine r_aload_n (pc := 93) dX9_init_93 rfl <| r_bipush (pc := 94) dX9_init_94 (by decide) <| w_newa (pc := 96) dX9_init_96 wA_int rfl (by decide) ⟨Nat.le_of_ble_eq_true rfl, Nat.le_of_ble_eq_true rfl⟩ (fun h_96 hn_96 hF_96 => ?_)
  replace h0 := hF_96.keep h0 (by omega)
  replace hn_8 := hF_96.keep hn_8 (by omega)
  replace hn_17 := hF_96.keep hn_17 (by omega)
  replace hn_24 := hF_96.keep hn_24 (by omega)
  replace hn_31 := hF_96.keep hn_31 (by omega)
  replace hn_39 := hF_96.keep hn_39 (by omega)
  replace hn_48 := hF_96.keep hn_48 (by omega)
  replace hn_56 := hF_96.keep hn_56 (by omega)
  replace hn_64 := hF_96.keep hn_64 (by omega)
  replace hn_72 := hF_96.keep hn_72 (by omega)
  replace hn_80 := hF_96.keep hn_80 (by omega)
  replace hn_88 := hF_96.keep hn_88 (by omega)
  refine r_putF (pc := 98) dX9_init_98 rfl fP_X9_44 rfl rfl h0 rfl (fun h_98 h0 hF_98 => ?_)
  simp only [List.set_cons_zero, List.set_cons_succ] at h0
  replace hn_8 := hF_98.keep hn_8 (by omega)
  replace hn_17 := hF_98.keep hn_17 (by omega)
  replace hn_24 := hF_98.keep hn_24 (by omega)
  replace hn_31 := hF_98.keep hn_31 (by omega)
  replace hn_39 := hF_98.keep hn_39 (by omega)
  replace hn_48 := hF_98.keep hn_48 (by omega)
  replace hn_56 := hF_98.keep hn_56 (by omega)
  replace hn_64 := hF_98.keep hn_64 (by omega)
  replace hn_72 := hF_98.keep hn_72 (by omega)
  replace hn_80 := hF_98.keep hn_80 (by omega)
  replace hn_88 := hF_98.keep hn_88 (by omega)
  replace hn_96 := hF_98.keep hn_96 (by omega)
  refine r_iconst (pc := 101) dX9_init_101 <| r_istoren_1 (pc := 102) dX9_init_102 rfl <| ?_
  have k45 : h_98 45 = some (aO 9 (mF (fun _ => 0))) := h0
  refine lp_mi1 64 0 h_98 (fun _ => 0) (by omega) (by omega) k45 hn_8 (fun h1 k' a1 a2 => ?_)
  refine r_iconst (pc := 125) dX9_init_125 <| r_istoren_1 (pc := 126) dX9_init_126 rfl <| ?_
  refine lp_mi2 6 0 h1 _ (by omega) (by omega) (a2.keep k45 (by omega)) a1 (fun h2 k' b1 b2 => ?_)
  have hM' := b2.keep (a2.keep k45 (by omega)) (by omega)
  unfold mF at hM'
  have hF2 : Fr (fun j => j = 46) h_98 h2 := fun j hj => (b2 j hj).trans (a2 j hj)
  refine r_aload_n (pc := 150) dX9_init_150 rfl <| r_iconst (pc := 151) dX9_init_151 <| r_putf (pc := 152) dX9_init_152 fP_X9_47 rfl rfl hM' rfl (fun h_152 hM' hF_152 => ?_)
  simp only [List.set_cons_zero, List.set_cons_succ] at hM'
  refine r_vret (pc := 155) dX9_init_155 rfl ⟨Nat.le_of_ble_eq_true rfl, Nat.le_of_ble_eq_true rfl⟩ <| ?_
  have c45 : h_152 45 = some (aO 9 (mF (nu (fun _ => 0) 5 1))) := hM'
  have eb : (fun j : Int => if 172 + (0 : Int) ≤ j ∧ j < 178 then (-1 : Int) else (fun j => if 100 + (0 : Int) ≤ j ∧ j < 164 then -1 else (fun _ => 0) j) j) = bk0 := by
    funext j
    show (if 172 + (0 : Int) ≤ j ∧ j < 178 then (-1 : Int) else if 100 + (0 : Int) ≤ j ∧ j < 164 then -1 else 0) = bk0 j
    unfold bk0
    (repeat' split) <;> omega
  rw [eb] at b1
  have hF : Fr (fun j => j = 45 ∨ j = 46) h_98 h_152 := fun j hj => (hF_152 j (by omega)).trans (hF2 j (by omega))
  refine hQ _ ⟨nu (fun _ => 0) 5 1, _, _, _, _, _, _, _, _, _, _, _, c45, ⟨rfl, rfl⟩, ⟨show (-10000 : Int) ≤ 0 by decide, show (0 : Int) ≤ 10000 by decide⟩, hF_152.keep b1 (by omega), hF.keep hn_17 (by omega), hF.keep hn_24 (by omega), hF.keep hn_31 (by omega), hF.keep hn_39 (by omega), itOk_0, hF.keep hn_48 (by omega), hF.keep hn_56 (by omega), hF.keep hn_64 (by omega), hF.keep hn_72 (by omega), hF.keep hn_80 (by omega), hF.keep hn_88 (by omega), hF.keep hn_96 (by omega), ⟨rfl, rfl, rfl⟩, ⟨rfl, rfl⟩, Bd_0⟩ (fun j hj => (hF j (by omega)).trans ?_)
  exact (hF_98 j (by omega)).trans <| (hF_96 j (by omega)).trans <| (hF_90 j (by omega)).trans <| (hF_88 j (by omega)).trans <| (hF_82 j (by omega)).trans <| (hF_80 j (by omega)).trans <| (hF_74 j (by omega)).trans <| (hF_72 j (by omega)).trans <| (hF_66 j (by omega)).trans <| (hF_64 j (by omega)).trans <| (hF_58 j (by omega)).trans <| (hF_56 j (by omega)).trans <| (hF_50 j (by omega)).trans <| (hF_48 j (by omega)).trans <| (hF_41 j (by omega)).trans <| (hF_39 j (by omega)).trans <| (hF_33 j (by omega)).trans <| (hF_31 j (by omega)).trans <| (hF_26 j (by omega)).trans <| (hF_24 j (by omega)).trans <| (hF_19 j (by omega)).trans <| (hF_17 j (by omega)).trans <| (hF_10 j (by omega)).trans (hF_8 j (by omega))
end MIn



