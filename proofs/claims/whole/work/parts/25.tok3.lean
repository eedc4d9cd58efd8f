/-! ===== the class: a token, whole ===== -/
section TKE
variable {G : GT} {n : Nat} {h : Hp} {Q : PT} {t tt : Nat} {tx : Int → Int}
theorem lp_rn5 {len s : Int} (hb : Bd tx 0 255) (hl : 0 ≤ len ∧ len ≤ 160) (hne : t ≠ tt) : ∀ (q : Nat) (p va : Int) (h : Hp), h t = some (aO 6 [vR tt, vI len, vI p, vI s, vI va]) → h tt = some (aA 160 tx) → 0 ≤ s ∧ s ≤ p ∧ p ≤ len → (len - p).toNat = q → (0 ≤ va ∧ va ≤ 999) → (p - s ≤ 2 → va = valD tx s (p - s)) → (s < p → 48 ≤ tx s ∧ tx s ≤ 57) →
    (∀ h' v, (advF pD tx len p - s ≤ 2 → v = valD tx s (advF pD tx len p - s)) → h' t = some (aO 6 [vR tt, vI len, vI (advF pD tx len p), vI s, vI v]) → Fr (fun q => q = t) h h' → At G mX6_readNumber 72 [vR t] [] (0, 0, n) h' Q) → At G mX6_readNumber 5 [vR t] [] (0, 0, n) h Q := by
  intro q
  induction q using Nat.strongRecOn with
  | ind q ih =>
    intro p va h hT hX hp hq hv hv2 hs hQ
    have b1 := hb p
    refine r_aload_n (pc := 5) dX6_readNumber_5 rfl <| r_getf (pc := 6) dX6_readNumber_6 fA_X6_17 hT rfl <| r_aload_n (pc := 9) dX6_readNumber_9 rfl <| r_getf (pc := 10) dX6_readNumber_10 fA_X6_13 hT rfl <| r_icmp_ge (pc := 13) 72 dX6_readNumber_13 (by decide) (by omega) (by omega) (fun hc_13 => ?_) (fun hc_13 => ?_)
    · skip
      rw [advF_end (by simp only [pD, decide_eq_true_eq]; omega)] at hQ
      exact hQ h va hv2 hT Fr.rf
    · skip
      refine r_aload_n (pc := 16) dX6_readNumber_16 rfl <| r_getf (pc := 17) dX6_readNumber_17 fA_X6_7 hT rfl <| r_aload_n (pc := 20) dX6_readNumber_20 rfl <| r_getf (pc := 21) dX6_readNumber_21 fA_X6_17 hT rfl <| r_iald (pc := 24) dX6_readNumber_24 hX (by omega) (by decide) <| cSi [_] (pc := 25) dX6_readNumber_25 k_X6_40 ⟨⟨Nat.le_of_ble_eq_true rfl, Nat.le_of_ble_eq_true rfl⟩, ⟨Nat.le_of_ble_eq_true rfl, Nat.le_of_ble_eq_true rfl⟩, Nat.le_of_ble_eq_true rfl⟩ ⟨rfl, rfl⟩ ?_
      refine sp_isFigure (by omega) (fun q1 => ?_) (fun q1 => ?_)
      · skip
        refine ⟨_, rfl, ?_⟩
        refine r_if_eq (pc := 28) 72 dX6_readNumber_28 (by decide) (by decide) (fun q => absurd q (by decide)) (fun _ => ?_)
        refine r_aload_n (pc := 31) dX6_readNumber_31 rfl <| r_aload_n (pc := 32) dX6_readNumber_32 rfl <| r_getf (pc := 33) dX6_readNumber_33 fA_X6_23 hT rfl <| r_bipush (pc := 36) dX6_readNumber_36 (by decide) <| r_imul (pc := 38) dX6_readNumber_38 <| r_aload_n (pc := 39) dX6_readNumber_39 rfl <| r_getf (pc := 40) dX6_readNumber_40 fA_X6_7 hT rfl <| r_aload_n (pc := 43) dX6_readNumber_43 rfl <| r_getf (pc := 44) dX6_readNumber_44 fA_X6_17 hT rfl <| r_iald (pc := 47) dX6_readNumber_47 hX (by omega) (by decide) <| r_iadd (pc := 48) dX6_readNumber_48 <| r_bipush (pc := 49) dX6_readNumber_49 (by decide) <| r_isub (pc := 51) dX6_readNumber_51 <| r_sipush (pc := 52) dX6_readNumber_52 (by decide) <| r_irem (pc := 55) dX6_readNumber_55 (by omega) (by omega) <| r_putf (pc := 56) dX6_readNumber_56 fP_X6_23 rfl rfl hT rfl (fun h_56 hT hF_56 => ?_)
        simp only [List.set_cons_zero, List.set_cons_succ] at hT
        replace hX := hF_56.keep hX (by omega)
        refine r_aload_n (pc := 59) dX6_readNumber_59 rfl <| r_dup (pc := 60) dX6_readNumber_60 rfl <| r_getf (pc := 61) dX6_readNumber_61 fA_X6_17 hT rfl <| r_iconst (pc := 64) dX6_readNumber_64 <| r_iadd (pc := 65) dX6_readNumber_65 <| r_putf (pc := 66) dX6_readNumber_66 fP_X6_17 rfl rfl hT rfl (fun h_66 hT hF_66 => ?_)
        simp only [List.set_cons_zero, List.set_cons_succ] at hT
        replace hX := hF_66.keep hX (by omega)
        refine r_goto (pc := 69) 5 dX6_readNumber_69 (by decide) <| ?_
        rw [advF_go (by omega) (by simp only [pD, decide_eq_true_eq]; exact q1)] at hQ
        refine ih _ (by omega) (p + 1) _ _ hT hX (by omega) rfl (by omega) ?_ ?_ (fun h2 v g1 h3 h4 => hQ h2 v g1 h3 (fun p hp => (h4 p hp).trans ((hF_66 p hp).trans (hF_56 p hp))))
        · intro h2
          rw [valD_step (by omega), hv2 (by omega)]
          have hsp : p - s = 0 ∨ p - s = 1 := by omega
          rcases hsp with e | e
          · rw [e]; show (0 * 10 + tx p - 48) % 1000 = 10 * 0 + tx p - 48; omega
          · rw [e]
            have := hs (by omega)
            show ((tx s - 48) * 10 + tx p - 48) % 1000 = 10 * (tx s - 48) + tx p - 48
            omega
        · intro _
          by_cases e : s = p
          · rw [e]; exact q1
          · exact hs (by omega)
      · skip
        refine ⟨_, rfl, ?_⟩
        refine r_if_eq (pc := 28) 72 dX6_readNumber_28 (by decide) (by decide) (fun _ => ?_) (fun q => absurd q (by decide))
        rw [advF_end (by simp only [pD, decide_eq_true_eq]; omega)] at hQ
        exact hQ h va hv2 hT Fr.rf
theorem sp_readNumber {len s va : Int} (hT : h t = some (aO 6 [vR tt, vI len, vI s, vI s, vI va])) (hX : h tt = some (aA 160 tx)) (hb : Bd tx 0 255) (hl : 0 ≤ len ∧ len ≤ 160) (hne : t ≠ tt) (hp : 0 ≤ s ∧ s ≤ len)
    (hQ : ∀ h' v, (advF pD tx len s - s ≤ 2 → v = valD tx s (advF pD tx len s - s)) → h' t = some (aO 6 [vR tt, vI len, vI (advF pD tx len s), vI s, vI v]) → Fr (fun q => q = t) h h' → Q (some (vI (if advF pD tx len s - s ≤ 2 then 12 else 14))) n h') : Cl G mX6_readNumber [vR t] n h Q := by
  have hD := advF_in (P := pD) (tx := tx) hp.2
  refine cl_of (by decide) (Nat.le_of_ble_eq_true rfl) rfl ?_
  refine r_aload_n (pc := 0) dX6_readNumber_0 rfl <| r_iconst (pc := 1) dX6_readNumber_1 <| r_putf (pc := 2) dX6_readNumber_2 fP_X6_23 rfl rfl hT rfl (fun h_2 hT hF_2 => ?_)
  simp only [List.set_cons_zero, List.set_cons_succ] at hT
  replace hX := hF_2.keep hX (by omega)
  refine lp_rn5 hb hl hne _ s 0 _ hT hX (by omega) rfl (by omega) (fun _ => by unfold valD; rw [if_pos (by omega)]) (fun q => by omega) (fun h2 v g1 hT2 hF2 => ?_)
  clear hT
  refine r_aload_n (pc := 72) dX6_readNumber_72 rfl <| r_getf (pc := 73) dX6_readNumber_73 fA_X6_17 hT2 rfl <| r_aload_n (pc := 76) dX6_readNumber_76 rfl <| r_getf (pc := 77) dX6_readNumber_77 fA_X6_20 hT2 rfl <| r_isub (pc := 80) dX6_readNumber_80 <| r_iconst (pc := 81) dX6_readNumber_81 <| r_icmp_gt (pc := 82) 90 dX6_readNumber_82 (by decide) (by omega) (by omega) (fun hc_82 => ?_) (fun hc_82 => ?_)
  · skip
    refine r_bipush (pc := 90) dX6_readNumber_90 (by decide) <| r_iret (pc := 92) dX6_readNumber_92 rfl ⟨Nat.le_of_ble_eq_true rfl, Nat.le_of_ble_eq_true rfl⟩ <| ?_
    exact qI (by split <;> omega) (hQ h2 v g1 hT2 (fun p hp => (hF2 p hp).trans (hF_2 p hp)))
  · skip
    refine r_bipush (pc := 85) dX6_readNumber_85 (by decide) <| r_goto (pc := 87) 92 dX6_readNumber_87 (by decide) <| r_iret (pc := 92) dX6_readNumber_92 rfl ⟨Nat.le_of_ble_eq_true rfl, Nat.le_of_ble_eq_true rfl⟩ <| ?_
    exact qI (by split <;> omega) (hQ h2 v g1 hT2 (fun p hp => (hF2 p hp).trans (hF_2 p hp)))
theorem lp_rd0 {len pl va : Int} (hb : Bd tx 0 255) (hl : 0 ≤ len ∧ len ≤ 160) (hne : t ≠ tt) : ∀ (q : Nat) (p : Int) (h : Hp), h t = some (aO 6 [vR tt, vI len, vI p, vI pl, vI va]) → h tt = some (aA 160 tx) → 0 ≤ p ∧ p ≤ len → (len - p).toNat = q →
    (∀ h', h' t = some (aO 6 [vR tt, vI len, vI (advF pB tx len p), vI pl, vI va]) → Fr (fun q => q = t) h h' → At G mX6_read 38 [vR t] [] (0, 0, n) h' Q) → At G mX6_read 0 [vR t] [] (0, 0, n) h Q := by
  intro q
  induction q using Nat.strongRecOn with
  | ind q ih =>
    intro p h hT hX hp hq hQ
    have b1 := hb p
    refine r_aload_n (pc := 0) dX6_read_0 rfl <| r_getf (pc := 1) dX6_read_1 fA_X6_17 hT rfl <| r_aload_n (pc := 4) dX6_read_4 rfl <| r_getf (pc := 5) dX6_read_5 fA_X6_13 hT rfl <| r_icmp_ge (pc := 8) 38 dX6_read_8 (by decide) (by omega) (by omega) (fun hc_8 => ?_) (fun hc_8 => ?_)
    · skip
      rw [advF_end (by simp only [pB, decide_eq_true_eq]; omega)] at hQ
      exact hQ h hT Fr.rf
    · skip
      refine r_aload_n (pc := 11) dX6_read_11 rfl <| r_getf (pc := 12) dX6_read_12 fA_X6_7 hT rfl <| r_aload_n (pc := 15) dX6_read_15 rfl <| r_getf (pc := 16) dX6_read_16 fA_X6_17 hT rfl <| r_iald (pc := 19) dX6_read_19 hX (by omega) (by decide) <| r_bipush (pc := 20) dX6_read_20 (by decide) <| r_icmp_ne (pc := 22) 38 dX6_read_22 (by decide) (by omega) (by omega) (fun hc_22 => ?_) (fun hc_22 => ?_)
      · skip
        rw [advF_end (by simp only [pB, decide_eq_true_eq]; omega)] at hQ
        exact hQ h hT Fr.rf
      · skip
        refine r_aload_n (pc := 25) dX6_read_25 rfl <| r_dup (pc := 26) dX6_read_26 rfl <| r_getf (pc := 27) dX6_read_27 fA_X6_17 hT rfl <| r_iconst (pc := 30) dX6_read_30 <| r_iadd (pc := 31) dX6_read_31 <| r_putf (pc := 32) dX6_read_32 fP_X6_17 rfl rfl hT rfl (fun h_32 hT hF_32 => ?_)
        simp only [List.set_cons_zero, List.set_cons_succ] at hT
        replace hX := hF_32.keep hX (by omega)
        refine r_goto (pc := 35) 0 dX6_read_35 (by decide) <| ?_
        rw [advF_go (by omega) (by simp only [pB, decide_eq_true_eq]; omega)] at hQ
        exact ih _ (by omega) (p + 1) _ hT hX (by omega) rfl (fun h2 h3 h4 => hQ h2 h3 (fun p hp => (h4 p hp).trans (hF_32 p hp)))
theorem sp_read {len p pl va : Int} (hT : h t = some (aO 6 [vR tt, vI len, vI p, vI pl, vI va])) (hX : h tt = some (aA 160 tx)) (hb : Bd tx 0 255) (hl : 0 ≤ len ∧ len ≤ 160) (hne : t ≠ tt) (hp : 0 ≤ p ∧ p ≤ len)
    (hQ : ∀ h' v, ((tok tx len p).2.1 = 12 → v = (tok tx len p).2.2.1) → h' t = some (aO 6 [vR tt, vI len, vI (tok tx len p).2.2.2, vI (tok tx len p).1, vI v]) → Fr (fun q => q = t) h h' → Q (some (vI (tok tx len p).2.1)) n h') : Cl G mX6_read [vR t] n h Q := by
  have hs := advF_in (P := pB) (tx := tx) hp.2
  refine cl_of (by decide) (Nat.le_of_ble_eq_true rfl) rfl ?_
  refine lp_rd0 hb hl hne _ p h hT hX hp rfl (fun h1 hT1 hF1 => ?_)
  clear hT
  obtain ⟨s, hse⟩ : ∃ s, s = advF pB tx len p := ⟨_, rfl⟩
  rw [← hse] at hs hT1
  have hX := hF1.keep hX (by omega)
  have b1 := hb s
  have hL := advF_in (P := pL) (tx := tx) hs.2
  have hD := advF_in (P := pD) (tx := tx) hs.2
  refine r_aload_n (pc := 38) dX6_read_38 rfl <| r_aload_n (pc := 39) dX6_read_39 rfl <| r_getf (pc := 40) dX6_read_40 fA_X6_17 hT1 rfl <| r_putf (pc := 43) dX6_read_43 fP_X6_20 rfl rfl hT1 rfl (fun h_43 hT1 hF_43 => ?_)
  simp only [List.set_cons_zero, List.set_cons_succ] at hT1
  replace hX := hF_43.keep hX (by omega)
  refine r_aload_n (pc := 46) dX6_read_46 rfl <| r_getf (pc := 47) dX6_read_47 fA_X6_17 hT1 rfl <| r_aload_n (pc := 50) dX6_read_50 rfl <| r_getf (pc := 51) dX6_read_51 fA_X6_13 hT1 rfl <| r_icmp_lt (pc := 54) 60 dX6_read_54 (by decide) (by omega) (by omega) (fun hc_54 => ?_) (fun hc_54 => ?_)
  · skip
    refine r_aload_n (pc := 60) dX6_read_60 rfl <| r_getf (pc := 61) dX6_read_61 fA_X6_7 hT1 rfl <| r_aload_n (pc := 64) dX6_read_64 rfl <| r_getf (pc := 65) dX6_read_65 fA_X6_17 hT1 rfl <| r_iald (pc := 68) dX6_read_68 hX (by omega) (by decide) <| cSi [_] (pc := 69) dX6_read_69 k_X6_32 ⟨⟨Nat.le_of_ble_eq_true rfl, Nat.le_of_ble_eq_true rfl⟩, ⟨Nat.le_of_ble_eq_true rfl, Nat.le_of_ble_eq_true rfl⟩, Nat.le_of_ble_eq_true rfl⟩ ⟨rfl, rfl⟩ ?_
    refine sp_isLetter (by omega) (fun q1 => ?_) (fun q1 => ?_)
    · skip
      refine ⟨_, rfl, ?_⟩
      refine r_if_eq (pc := 72) 80 dX6_read_72 (by decide) (by decide) (fun q => absurd q (by decide)) (fun _ => ?_)
      refine r_aload_n (pc := 75) dX6_read_75 rfl <| cVi [] (pc := 76) dX6_read_76 k_X6_36 ⟨⟨Nat.le_of_ble_eq_true rfl, Nat.le_of_ble_eq_true rfl⟩, ⟨Nat.le_of_ble_eq_true rfl, Nat.le_of_ble_eq_true rfl⟩, Nat.le_of_ble_eq_true rfl⟩ ⟨rfl, rfl⟩ hT1 ?_
      refine sp_readWord hT1 hX hb hl hne (by omega) (fun h2 hT2 hF2 => ?_)
      refine ⟨_, rfl, ?_⟩
      refine r_iret (pc := 79) dX6_read_79 rfl ⟨Nat.le_of_ble_eq_true rfl, Nat.le_of_ble_eq_true rfl⟩ <| ?_
      have hK := tok_word (tx := tx) (nt := len) (p := p) (by rw [← hse]; omega) (by rw [← hse]; exact q1)
      rw [← hse] at hK
      rw [hK] at hQ
      refine hQ h2 va (fun q => ?_) hT2 (fun p hp => (hF2 p hp).trans ((hF_43 p hp).trans (hF1 p hp)))
      exfalso
      have hk := kindW_in (seg tx s (advF pL tx len s - s).toNat)
      have q2 : kindW (seg tx s (advF pL tx len s - s).toNat) = 12 := q
      omega
    · skip
      refine ⟨_, rfl, ?_⟩
      refine r_if_eq (pc := 72) 80 dX6_read_72 (by decide) (by decide) (fun _ => ?_) (fun q => absurd q (by decide))
      refine r_aload_n (pc := 80) dX6_read_80 rfl <| r_getf (pc := 81) dX6_read_81 fA_X6_7 hT1 rfl <| r_aload_n (pc := 84) dX6_read_84 rfl <| r_getf (pc := 85) dX6_read_85 fA_X6_17 hT1 rfl <| r_iald (pc := 88) dX6_read_88 hX (by omega) (by decide) <| cSi [_] (pc := 89) dX6_read_89 k_X6_40 ⟨⟨Nat.le_of_ble_eq_true rfl, Nat.le_of_ble_eq_true rfl⟩, ⟨Nat.le_of_ble_eq_true rfl, Nat.le_of_ble_eq_true rfl⟩, Nat.le_of_ble_eq_true rfl⟩ ⟨rfl, rfl⟩ ?_
      refine sp_isFigure (by omega) (fun q2 => ?_) (fun q2 => ?_)
      · skip
        refine ⟨_, rfl, ?_⟩
        refine r_if_eq (pc := 92) 100 dX6_read_92 (by decide) (by decide) (fun q => absurd q (by decide)) (fun _ => ?_)
        refine r_aload_n (pc := 95) dX6_read_95 rfl <| cVi [] (pc := 96) dX6_read_96 k_X6_43 ⟨⟨Nat.le_of_ble_eq_true rfl, Nat.le_of_ble_eq_true rfl⟩, ⟨Nat.le_of_ble_eq_true rfl, Nat.le_of_ble_eq_true rfl⟩, Nat.le_of_ble_eq_true rfl⟩ ⟨rfl, rfl⟩ hT1 ?_
        refine sp_readNumber hT1 hX hb hl hne (by omega) (fun h2 v2 g2 hT2 hF2 => ?_)
        refine ⟨_, rfl, ?_⟩
        refine r_iret (pc := 99) dX6_read_99 rfl ⟨Nat.le_of_ble_eq_true rfl, Nat.le_of_ble_eq_true rfl⟩ <| ?_
        have hK := tok_num (tx := tx) (nt := len) (p := p) (by rw [← hse]; omega) (by rw [← hse]; exact q2)
        rw [← hse] at hK
        have hD1 : s + 1 ≤ advF pD tx len s := by
          rw [advF_go (by omega) (by simp only [pD, decide_eq_true_eq]; exact q2)]
          exact (advF_in (by omega)).1
        rw [hK] at hQ
        refine hQ h2 v2 (fun q => ?_) hT2 (fun p hp => (hF2 p hp).trans ((hF_43 p hp).trans (hF1 p hp)))
        have q3 : (if advF pD tx len s - s ≤ 2 then (12 : Int) else 14) = 12 := q
        have q4 : advF pD tx len s - s ≤ 2 := by
          by_cases e : advF pD tx len s - s ≤ 2
          · exact e
          · rw [if_neg e] at q3; omega
        rw [g2 q4]
        unfold valD
        rw [if_neg (by omega)]
      · skip
        refine ⟨_, rfl, ?_⟩
        refine r_if_eq (pc := 92) 100 dX6_read_92 (by decide) (by decide) (fun _ => ?_) (fun q => absurd q (by decide))
        refine r_aload_n (pc := 100) dX6_read_100 rfl <| r_dup (pc := 101) dX6_read_101 rfl <| r_getf (pc := 102) dX6_read_102 fA_X6_17 hT1 rfl <| r_iconst (pc := 105) dX6_read_105 <| r_iadd (pc := 106) dX6_read_106 <| r_putf (pc := 107) dX6_read_107 fP_X6_17 rfl rfl hT1 rfl (fun h_107 hT1 hF_107 => ?_)
        simp only [List.set_cons_zero, List.set_cons_succ] at hT1
        replace hX := hF_107.keep hX (by omega)
        refine r_aload_n (pc := 110) dX6_read_110 rfl <| r_getf (pc := 111) dX6_read_111 fA_X6_7 hT1 rfl <| r_aload_n (pc := 114) dX6_read_114 rfl <| r_getf (pc := 115) dX6_read_115 fA_X6_20 hT1 rfl <| r_iald (pc := 118) dX6_read_118 hX (by omega) (by decide) <| r_bipush (pc := 119) dX6_read_119 (by decide) <| r_icmp_ne (pc := 121) 129 dX6_read_121 (by decide) (by omega) (by omega) (fun hc_121 => ?_) (fun hc_121 => ?_)
        · skip
          refine r_bipush (pc := 129) dX6_read_129 (by decide) <| r_iret (pc := 131) dX6_read_131 rfl ⟨Nat.le_of_ble_eq_true rfl, Nat.le_of_ble_eq_true rfl⟩ <| ?_
          have hK := tok_else (tx := tx) (nt := len) (p := p) (by rw [← hse]; omega) (by rw [← hse]; exact q1) (by rw [← hse]; exact q2)
          rw [← hse] at hK
          rw [hK] at hQ
          have hQ2 := hQ _ va (fun q => ?_) hT1 (fun p hp => (hF_107 p hp).trans ((hF_43 p hp).trans (hF1 p hp)))
          · refine qI ?_ hQ2
            show _ = (if tx s = 59 then (13 : Int) else 14)
            split <;> omega
          · exfalso
            have q3 : (if tx s = 59 then (13 : Int) else 14) = 12 := q
            split at q3 <;> omega
        · skip
          refine r_bipush (pc := 124) dX6_read_124 (by decide) <| r_goto (pc := 126) 131 dX6_read_126 (by decide) <| r_iret (pc := 131) dX6_read_131 rfl ⟨Nat.le_of_ble_eq_true rfl, Nat.le_of_ble_eq_true rfl⟩ <| ?_
          have hK := tok_else (tx := tx) (nt := len) (p := p) (by rw [← hse]; omega) (by rw [← hse]; exact q1) (by rw [← hse]; exact q2)
          rw [← hse] at hK
          rw [hK] at hQ
          have hQ2 := hQ _ va (fun q => ?_) hT1 (fun p hp => (hF_107 p hp).trans ((hF_43 p hp).trans (hF1 p hp)))
          · refine qI ?_ hQ2
            show _ = (if tx s = 59 then (13 : Int) else 14)
            split <;> omega
          · exfalso
            have q3 : (if tx s = 59 then (13 : Int) else 14) = 12 := q
            split at q3 <;> omega
  · skip
    refine r_bipush (pc := 57) dX6_read_57 (by decide) <| r_iret (pc := 59) dX6_read_59 rfl ⟨Nat.le_of_ble_eq_true rfl, Nat.le_of_ble_eq_true rfl⟩ <| ?_
    have hK := tok_over (tx := tx) (nt := len) (p := p) (by rw [← hse]; omega)
    rw [← hse] at hK
    rw [hK] at hQ
    exact hQ _ va (fun q => absurd (show (15 : Int) = 12 from q) (by decide)) hT1 (fun p hp => (hF_43 p hp).trans (hF1 p hp))
theorem sp_open {tt0 : Nat} {len0 nx pl va len : Int} (hT : h t = some (aO 6 [vR tt0, vI len0, vI nx, vI pl, vI va])) (hX : h tt = some (aA 160 tx)) (hl : 0 ≤ len ∧ len ≤ 160) (hne : t ≠ tt) (hQ : ∀ h', h' t = some (aO 6 [vR tt, vI len, vI 0, vI pl, vI va]) → Fr (fun q => q = t) h h' → Q none n h') : Cl G mX6_open [vR t, vR tt, vI len] n h Q := by
  refine cl_of (by decide) (Nat.le_of_ble_eq_true rfl) rfl ?_
  refine r_aload_n (pc := 0) dX6_open_0 rfl <| r_aload_n (pc := 1) dX6_open_1 rfl <| r_putf (pc := 2) dX6_open_2 fP_X6_7 rfl rfl hT rfl (fun h_2 hT hF_2 => ?_)
  simp only [List.set_cons_zero, List.set_cons_succ] at hT
  replace hX := hF_2.keep hX (by omega)
  refine r_aload_n (pc := 5) dX6_open_5 rfl <| r_iload_n (pc := 6) dX6_open_6 rfl <| r_aload_n (pc := 7) dX6_open_7 rfl <| r_alen (pc := 8) dX6_open_8 hX <| r_min (pc := 9) dX6_open_9 kL_X6_26 mI1 mI2 mI3 ⟨Nat.le_of_ble_eq_true rfl, Nat.le_of_ble_eq_true rfl⟩ ⟨Nat.le_of_ble_eq_true rfl, Nat.le_of_ble_eq_true rfl⟩ (by omega) (by omega) <| r_putf (pc := 12) dX6_open_12 fP_X6_13 rfl rfl hT rfl (fun h_12 hT hF_12 => ?_)
  simp only [List.set_cons_zero, List.set_cons_succ] at hT
  replace hX := hF_12.keep hX (by omega)
  refine r_aload_n (pc := 15) dX6_open_15 rfl <| r_iconst (pc := 16) dX6_open_16 <| r_putf (pc := 17) dX6_open_17 fP_X6_17 rfl rfl hT rfl (fun h_17 hT hF_17 => ?_)
  simp only [List.set_cons_zero, List.set_cons_succ] at hT
  replace hX := hF_17.keep hX (by omega)
  refine r_vret (pc := 20) dX6_open_20 rfl ⟨Nat.le_of_ble_eq_true rfl, Nat.le_of_ble_eq_true rfl⟩ <| ?_
  refine hQ _ ?_ (fun p hp => (hF_17 p hp).trans ((hF_12 p hp).trans (hF_2 p hp)))
  rw [if_neg (by omega)] at hT
  exact hT
end TKE


