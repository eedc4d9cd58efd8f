/-! ===== the model: nextOrder, soonest ===== -/
section MNx
variable {G : GT} {n : Nat} {h : Hp} {Q : PT} {s : SS}
theorem lp_nk {e : Nat → Int} {ln : Int → Int} {m : Int} {l2 l3 l4 l5 : AV} (g45 : h 45 = some (aO 9 (mF e))) (g52 : h 52 = some (aA 8 ln)) (hm : 0 ≤ m ∧ m ≤ 8) (hr : ∀ i, 0 ≤ i → i < m → 0 ≤ ln i ∧ ln i < 8) : ∀ (q : Nat) (k : Int), k + 1 = q → k + 1 < m → At G mX9_nextOrder 34 [vR 45, vI (kF ln q k), l2, l3, l4, l5] [] (0, 0, n) h Q → At G mX9_nextOrder 7 [vR 45, vI k, l2, l3, l4, l5] [] (0, 0, n) h Q := by
  have hM' := g45
  unfold mF at hM'
  intro q
  induction q with
  | zero =>
    intro k hk hkm hQ
    refine r_iload_n (pc := 7) dX9_nextOrder_7 rfl <| r_if_lt (pc := 8) 34 dX9_nextOrder_8 (by decide) (by omega) (fun hc_8 => ?_) (fun hc_8 => ?_)
    · skip
      exact hQ
    · skip
      exfalso; omega
  | succ q ih =>
    intro k hk hkm hQ
    have b1 := hr k (by omega) (by omega)
    have b2 := hr (k + 1) (by omega) (by omega)
    simp only [kF] at hQ
    refine r_iload_n (pc := 7) dX9_nextOrder_7 rfl <| r_if_lt (pc := 8) 34 dX9_nextOrder_8 (by decide) (by omega) (fun hc_8 => ?_) (fun hc_8 => ?_)
    · skip
      exfalso; omega
    · skip
      refine r_aload_n (pc := 11) dX9_nextOrder_11 rfl <| r_getf (pc := 12) dX9_nextOrder_12 fA_X9_29 hM' rfl <| r_iload_n (pc := 15) dX9_nextOrder_15 rfl <| r_iald (pc := 16) dX9_nextOrder_16 g52 (by omega) (by decide) <| r_aload_n (pc := 17) dX9_nextOrder_17 rfl <| r_getf (pc := 18) dX9_nextOrder_18 fA_X9_29 hM' rfl <| r_iload_n (pc := 21) dX9_nextOrder_21 rfl <| r_iconst (pc := 22) dX9_nextOrder_22 <| r_iadd (pc := 23) dX9_nextOrder_23 <| r_iald (pc := 24) dX9_nextOrder_24 g52 (by omega) (by decide) <| r_icmp_le (pc := 25) 34 dX9_nextOrder_25 (by decide) (by omega) (by omega) (fun hc_25 => ?_) (fun hc_25 => ?_)
      · skip
        rw [if_neg (by omega)] at hQ; exact hQ
      · skip
        refine r_iinc_1 (pc := 28) dX9_nextOrder_28 rfl rfl <| r_goto (pc := 31) 7 dX9_nextOrder_31 (by decide) <| ?_
        rw [if_pos (by omega)] at hQ
        exact ih (k - 1) (by omega) (by omega) hQ
theorem lp_nj {e : Nat → Int} {ln : Int → Int} {m k : Int} {l3 l4 l5 : AV} (g45 : h 45 = some (aO 9 (mF e))) (g52 : h 52 = some (aA 8 ln)) (hm : 0 ≤ m ∧ m ≤ 8) (hk : 0 ≤ k ∧ k < m) (hr : ∀ i, 0 ≤ i → i < m → 0 ≤ ln i ∧ ln i < 8) : ∀ (q : Nat) (j : Int), j + 1 = q → k ≤ j → j < m → At G mX9_nextOrder 68 [vR 45, vI k, vI (jF ln (ln k) q j), l3, l4, l5] [] (0, 0, n) h Q → At G mX9_nextOrder 47 [vR 45, vI k, vI j, l3, l4, l5] [] (0, 0, n) h Q := by
  have hM' := g45
  unfold mF at hM'
  have b1 := hr k hk.1 hk.2
  intro q
  induction q with
  | zero =>
    intro j hj hkj hjm hQ
    exfalso; omega
  | succ q ih =>
    intro j hj hkj hjm hQ
    have b2 := hr j (by omega) (by omega)
    have hne : j = k → ln j = ln k := fun e => by rw [e]
    simp only [jF] at hQ
    refine r_aload_n (pc := 47) dX9_nextOrder_47 rfl <| r_getf (pc := 48) dX9_nextOrder_48 fA_X9_29 hM' rfl <| r_iload_n (pc := 51) dX9_nextOrder_51 rfl <| r_iald (pc := 52) dX9_nextOrder_52 g52 (by omega) (by decide) <| r_aload_n (pc := 53) dX9_nextOrder_53 rfl <| r_getf (pc := 54) dX9_nextOrder_54 fA_X9_29 hM' rfl <| r_iload_n (pc := 57) dX9_nextOrder_57 rfl <| r_iald (pc := 58) dX9_nextOrder_58 g52 (by omega) (by decide) <| r_icmp_ge (pc := 59) 68 dX9_nextOrder_59 (by decide) (by omega) (by omega) (fun hc_59 => ?_) (fun hc_59 => ?_)
    · skip
      rw [if_neg (by omega)] at hQ; exact hQ
    · skip
      refine r_iinc_2 (pc := 62) dX9_nextOrder_62 rfl rfl <| r_goto (pc := 65) 47 dX9_nextOrder_65 (by decide) <| ?_
      rw [if_pos (by omega)] at hQ
      exact ih (j - 1) (by omega) (by omega) (by omega) hQ
theorem lp_nr {e : Nat → Int} {m k1 k2 : Int} (hm : 0 ≤ m ∧ m ≤ 8) : ∀ (q : Nat) (lo hi : Int) (h : Hp) (ln : Int → Int) (l3 : AV), 0 ≤ lo → hi < m → hi ≤ lo + q → h 45 = some (aO 9 (mF e)) → h 52 = some (aA 8 ln) → (lo ≤ 10 ∧ -10 ≤ hi) →
    (∀ h', h' 52 = some (aA 8 (rvF q lo hi ln)) → Fr (fun j => j = 52) h h' → Q (some (vI 1)) n h') → At G mX9_nextOrder 107 [vR 45, vI k1, vI k2, l3, vI lo, vI hi] [] (0, 0, n) h Q := by
  intro q
  induction q with
  | zero =>
    intro lo hi h ln l3 h0 h1 h2 g45 g52 hb hQ
    refine r_iload (pc := 107) dX9_nextOrder_107 rfl <| r_iload (pc := 109) dX9_nextOrder_109 rfl <| r_icmp_ge (pc := 111) 153 dX9_nextOrder_111 (by decide) (by omega) (by omega) (fun hc_111 => ?_) (fun hc_111 => ?_)
    · skip
      refine r_iconst (pc := 153) dX9_nextOrder_153 <| r_zret (pc := 154) dX9_nextOrder_154 rfl (by omega) ⟨Nat.le_of_ble_eq_true rfl, Nat.le_of_ble_eq_true rfl⟩ <| ?_
      exact hQ h g52 Fr.rf
    · skip
      exfalso; omega
  | succ q ih =>
    intro lo hi h ln l3 h0 h1 h2 g45 g52 hb hQ
    have hM' := g45
    unfold mF at hM'
    simp only [rvF] at hQ
    refine r_iload (pc := 107) dX9_nextOrder_107 rfl <| r_iload (pc := 109) dX9_nextOrder_109 rfl <| r_icmp_ge (pc := 111) 153 dX9_nextOrder_111 (by decide) (by omega) (by omega) (fun hc_111 => ?_) (fun hc_111 => ?_)
    · skip
      refine r_iconst (pc := 153) dX9_nextOrder_153 <| r_zret (pc := 154) dX9_nextOrder_154 rfl (by omega) ⟨Nat.le_of_ble_eq_true rfl, Nat.le_of_ble_eq_true rfl⟩ <| ?_
      rw [if_neg (by omega)] at hQ
      exact hQ h g52 Fr.rf
    · skip
      refine r_aload_n (pc := 114) dX9_nextOrder_114 rfl <| r_getf (pc := 115) dX9_nextOrder_115 fA_X9_29 hM' rfl <| r_iload (pc := 118) dX9_nextOrder_118 rfl <| r_iald (pc := 120) dX9_nextOrder_120 g52 (by omega) (by decide) <| r_istoren_3 (pc := 121) dX9_nextOrder_121 rfl <| r_aload_n (pc := 122) dX9_nextOrder_122 rfl <| r_getf (pc := 123) dX9_nextOrder_123 fA_X9_29 hM' rfl <| r_iload (pc := 126) dX9_nextOrder_126 rfl <| r_aload_n (pc := 128) dX9_nextOrder_128 rfl <| r_getf (pc := 129) dX9_nextOrder_129 fA_X9_29 hM' rfl <| r_iload (pc := 132) dX9_nextOrder_132 rfl <| r_iald (pc := 134) dX9_nextOrder_134 g52 (by omega) (by decide) <| r_iast (pc := 135) dX9_nextOrder_135 g52 (by omega) (by decide) (fun h_135 g52 hF_135 => ?_)
      replace hM' := hF_135.keep hM' (by omega)
      refine r_aload_n (pc := 136) dX9_nextOrder_136 rfl <| r_getf (pc := 137) dX9_nextOrder_137 fA_X9_29 hM' rfl <| r_iload (pc := 140) dX9_nextOrder_140 rfl <| r_iload_n (pc := 142) dX9_nextOrder_142 rfl <| r_iast (pc := 143) dX9_nextOrder_143 g52 (by omega) (by decide) (fun h_143 g52 hF_143 => ?_)
      replace hM' := hF_143.keep hM' (by omega)
      refine r_iinc_4 (pc := 144) dX9_nextOrder_144 rfl rfl <| r_iinc_5 (pc := 147) dX9_nextOrder_147 rfl rfl <| r_goto (pc := 150) 107 dX9_nextOrder_150 (by decide) <| ?_
      rw [if_pos (by omega)] at hQ
      have hF : Fr (fun j => j = 52) h h_143 := fun j hj => (hF_143 j hj).trans (hF_135 j hj)
      refine ih (lo + 1) (hi - 1) h_143 _ _ (by omega) (by omega) (by omega) (hF.keep g45 (by omega)) g52 (by omega) (fun h' a1 a2 => hQ h' a1 (fun j hj => (a2 j hj).trans (hF j hj)))
theorem sp_next {e : Nat → Int} {ln : Int → Int} {m : Int} (g45 : h 45 = some (aO 9 (mF e))) (h17 : e 17 = m) (hm : 0 ≤ m ∧ m ≤ 8) (g52 : h 52 = some (aA 8 ln)) (hr : ∀ i, 0 ≤ i → i < m → 0 ≤ ln i ∧ ln i < 8)
    (h0 : nxF m ln = none → Q (some (vI 0)) n h) (h1 : ∀ f' h', nxF m ln = some f' → h' 52 = some (aA 8 f') → Fr (fun j => j = 52) h h' → Q (some (vI 1)) n h') : Cl G mX9_nextOrder [vR 45] n h Q := by
  have hM' := g45
  unfold mF at hM'
  refine cl_of (by decide) (Nat.le_of_ble_eq_true rfl) rfl ?_
  by_cases m2 : 2 ≤ m
  · skip
    refine r_aload_n (pc := 0) dX9_nextOrder_0 rfl <| r_getf (pc := 1) dX9_nextOrder_1 fA_X9_178 hM' rfl <| r_iconst (pc := 4) dX9_nextOrder_4 <| r_isub (pc := 5) dX9_nextOrder_5 <| r_istoren_1 (pc := 6) dX9_nextOrder_6 rfl <| ?_
    have e1 : e 17 - 2 = m - 2 := by omega
    rw [e1]
    refine lp_nk g45 g52 hm hr (m - 1).toNat (m - 2) (by omega) (by omega) ?_
    have ik := @kF_in ln (m - 1).toNat (m - 2) (by omega)
    unfold nxF at h0 h1
    generalize hkd : kF ln (m - 1).toNat (m - 2) = k at *
    refine r_iload_n (pc := 34) dX9_nextOrder_34 rfl <| r_if_ge (pc := 35) 40 dX9_nextOrder_35 (by decide) (by omega) (fun hc_35 => ?_) (fun hc_35 => ?_)
    · skip
      refine r_aload_n (pc := 40) dX9_nextOrder_40 rfl <| r_getf (pc := 41) dX9_nextOrder_41 fA_X9_178 hM' rfl <| r_iconst (pc := 44) dX9_nextOrder_44 <| r_isub (pc := 45) dX9_nextOrder_45 <| r_istoren_2 (pc := 46) dX9_nextOrder_46 rfl <| ?_
      have e2 : e 17 - 1 = m - 1 := by omega
      rw [e2]
      have ij := @jF_in ln (ln k) k (by omega) m.toNat (m - 1) (by omega) (by omega)
      refine lp_nj g45 g52 hm (by omega) hr m.toNat (m - 1) (by omega) (by omega) (by omega) ?_
      generalize hjd : jF ln (ln k) m.toNat (m - 1) = j at *
      refine r_aload_n (pc := 68) dX9_nextOrder_68 rfl <| r_getf (pc := 69) dX9_nextOrder_69 fA_X9_29 hM' rfl <| r_iload_n (pc := 72) dX9_nextOrder_72 rfl <| r_iald (pc := 73) dX9_nextOrder_73 g52 (by omega) (by decide) <| r_istoren_3 (pc := 74) dX9_nextOrder_74 rfl <| r_aload_n (pc := 75) dX9_nextOrder_75 rfl <| r_getf (pc := 76) dX9_nextOrder_76 fA_X9_29 hM' rfl <| r_iload_n (pc := 79) dX9_nextOrder_79 rfl <| r_aload_n (pc := 80) dX9_nextOrder_80 rfl <| r_getf (pc := 81) dX9_nextOrder_81 fA_X9_29 hM' rfl <| r_iload_n (pc := 84) dX9_nextOrder_84 rfl <| r_iald (pc := 85) dX9_nextOrder_85 g52 (by omega) (by decide) <| r_iast (pc := 86) dX9_nextOrder_86 g52 (by omega) (by decide) (fun h_86 g52 hF_86 => ?_)
      replace hM' := hF_86.keep hM' (by omega)
      refine r_aload_n (pc := 87) dX9_nextOrder_87 rfl <| r_getf (pc := 88) dX9_nextOrder_88 fA_X9_29 hM' rfl <| r_iload_n (pc := 91) dX9_nextOrder_91 rfl <| r_iload_n (pc := 92) dX9_nextOrder_92 rfl <| r_iast (pc := 93) dX9_nextOrder_93 g52 (by omega) (by decide) (fun h_93 g52 hF_93 => ?_)
      replace hM' := hF_93.keep hM' (by omega)
      refine r_iload_n (pc := 94) dX9_nextOrder_94 rfl <| r_iconst (pc := 95) dX9_nextOrder_95 <| r_iadd (pc := 96) dX9_nextOrder_96 <| r_istore_4 (pc := 97) dX9_nextOrder_97 rfl <| r_aload_n (pc := 99) dX9_nextOrder_99 rfl <| r_getf (pc := 100) dX9_nextOrder_100 fA_X9_178 hM' rfl <| r_iconst (pc := 103) dX9_nextOrder_103 <| r_isub (pc := 104) dX9_nextOrder_104 <| r_istore_5 (pc := 105) dX9_nextOrder_105 rfl <| ?_
      have hF : Fr (fun j => j = 52) h h_93 := fun j hj => (hF_93 j hj).trans (hF_86 j hj)
      rw [e2]
      refine lp_nr hm m.toNat (k + 1) (m - 1) h_93 _ _ (by omega) (by omega) (by omega) (hF.keep g45 (by omega)) g52 (by omega) (fun h' a1 a2 => h1 _ h' (if_neg (by omega)) a1 (fun j hj => (a2 j hj).trans (hF j hj)))
    · skip
      refine r_iconst (pc := 38) dX9_nextOrder_38 <| r_zret (pc := 39) dX9_nextOrder_39 rfl (by omega) ⟨Nat.le_of_ble_eq_true rfl, Nat.le_of_ble_eq_true rfl⟩ <| ?_
      exact h0 (if_pos (by omega))
  · skip
    refine r_aload_n (pc := 0) dX9_nextOrder_0 rfl <| r_getf (pc := 1) dX9_nextOrder_1 fA_X9_178 hM' rfl <| r_iconst (pc := 4) dX9_nextOrder_4 <| r_isub (pc := 5) dX9_nextOrder_5 <| r_istoren_1 (pc := 6) dX9_nextOrder_6 rfl <| r_iload_n (pc := 7) dX9_nextOrder_7 rfl <| r_if_lt (pc := 8) 34 dX9_nextOrder_8 (by decide) (by omega) (fun hc_8 => ?_) (fun hc_8 => ?_)
    · skip
      refine r_iload_n (pc := 34) dX9_nextOrder_34 rfl <| r_if_ge (pc := 35) 40 dX9_nextOrder_35 (by decide) (by omega) (fun hc_35 => ?_) (fun hc_35 => ?_)
      · skip
        exfalso; omega
      · skip
        refine r_iconst (pc := 38) dX9_nextOrder_38 <| r_zret (pc := 39) dX9_nextOrder_39 rfl (by omega) ⟨Nat.le_of_ble_eq_true rfl, Nat.le_of_ble_eq_true rfl⟩ <| ?_
        refine h0 ?_
        unfold nxF
        have e1 : (m - 1).toNat = 0 := by omega
        rw [e1]
        exact if_pos (by show m - 2 < 0; omega)
    · skip
      exfalso; omega
end MNx



