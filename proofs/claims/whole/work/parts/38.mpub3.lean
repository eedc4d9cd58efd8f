/-! ===== the model: tell, come, type, image, from, digest ===== -/
section MP3
variable {G : GT} {n : Nat} {h : Hp} {Q : PT} {s : SS}
theorem ms_tell {a b w : Int} (hM : isM h s) (hI : Inv s.bk) (ha : inI a) (hb : inI b) (hw : inI w) (hQ : ∀ h', isM h' (fTell s a b w).2 → Fr MR h h' → Q (some (vI (fTell s a b w).1)) n h') : Cl G mX9_tell [vR 45, vI a, vI b, vI w] n h Q := by
  obtain ⟨e, it, g45, ge, g9, g46, -⟩ := id hM.raw
  have hM' := g45
  unfold mF at hM'
  have i0 := hI.1.1
  have i3 := hI.1.2.2.2
  unfold fTell at hQ
  refine cl_of (by decide) (Nat.le_of_ble_eq_true rfl) rfl ?_
  refine r_aload_n (pc := 0) dX9_tell_0 rfl <| r_iload_n (pc := 1) dX9_tell_1 rfl <| r_iload_n (pc := 2) dX9_tell_2 rfl <| cVi [_, _] (pc := 3) dX9_tell_3 k_X9_81 ⟨⟨Nat.le_of_ble_eq_true rfl, Nat.le_of_ble_eq_true rfl⟩, ⟨Nat.le_of_ble_eq_true rfl, Nat.le_of_ble_eq_true rfl⟩, Nat.le_of_ble_eq_true rfl⟩ ⟨rfl, rfl⟩ hM' ?_
  refine sp_areTwo g45 g46 hI.2.1 ha hb (fun q1 => ?_) (fun q1 => ?_)
  · skip
    refine ⟨_, rfl, ?_⟩
    refine r_if_eq (pc := 6) 19 dX9_tell_6 (by decide) (by decide) (fun q => absurd q (by decide)) (fun _ => ?_)
    refine r_iload_n (pc := 9) dX9_tell_9 rfl <| r_iload_n (pc := 10) dX9_tell_10 rfl <| r_icmp_eq (pc := 11) 24 dX9_tell_11 (by decide) (by omega) (by omega) (fun hc_11 => ?_) (fun hc_11 => ?_)
    · skip
      refine r_aload_n (pc := 24) dX9_tell_24 rfl <| r_getf (pc := 25) dX9_tell_25 fA_X9_7 hM' rfl <| r_iconst (pc := 28) dX9_tell_28 <| r_iald (pc := 29) dX9_tell_29 g46 (by omega) (by decide) <| r_bipush (pc := 30) dX9_tell_30 (by decide) <| r_icmp_ne (pc := 32) 40 dX9_tell_32 (by decide) (by omega) (by omega) (fun hc_32 => ?_) (fun hc_32 => ?_)
      · skip
        refine r_sipush (pc := 40) dX9_tell_40 (by decide) <| r_iconst (pc := 43) dX9_tell_43 <| r_aload_n (pc := 44) dX9_tell_44 rfl <| r_getf (pc := 45) dX9_tell_45 fA_X9_7 hM' rfl <| r_iconst (pc := 48) dX9_tell_48 <| r_iald (pc := 49) dX9_tell_49 g46 (by omega) (by decide) <| r_imul (pc := 50) dX9_tell_50 <| r_iadd (pc := 51) dX9_tell_51 <| r_istore_4 (pc := 52) dX9_tell_52 rfl <| r_aload_n (pc := 54) dX9_tell_54 rfl <| r_getf (pc := 55) dX9_tell_55 fA_X9_7 hM' rfl <| r_iload (pc := 58) dX9_tell_58 rfl <| r_iload_n (pc := 60) dX9_tell_60 rfl <| r_iast (pc := 61) dX9_tell_61 g46 (by omega) (by decide) (fun h_61 g46 hF_61 => ?_)
        replace hM' := hF_61.keep hM' (by omega)
        refine r_aload_n (pc := 62) dX9_tell_62 rfl <| r_getf (pc := 63) dX9_tell_63 fA_X9_7 hM' rfl <| r_iload (pc := 66) dX9_tell_66 rfl <| r_iconst (pc := 68) dX9_tell_68 <| r_iadd (pc := 69) dX9_tell_69 <| r_iload_n (pc := 70) dX9_tell_70 rfl <| r_iast (pc := 71) dX9_tell_71 g46 (by omega) (by decide) (fun h_71 g46 hF_71 => ?_)
        replace hM' := hF_71.keep hM' (by omega)
        refine r_aload_n (pc := 72) dX9_tell_72 rfl <| r_getf (pc := 73) dX9_tell_73 fA_X9_7 hM' rfl <| r_iload (pc := 76) dX9_tell_76 rfl <| r_iconst (pc := 78) dX9_tell_78 <| r_iadd (pc := 79) dX9_tell_79 <| r_iload_n (pc := 80) dX9_tell_80 rfl <| r_iast (pc := 81) dX9_tell_81 g46 (by omega) (by decide) (fun h_81 g46 hF_81 => ?_)
        replace hM' := hF_81.keep hM' (by omega)
        refine r_aload_n (pc := 82) dX9_tell_82 rfl <| r_getf (pc := 83) dX9_tell_83 fA_X9_7 hM' rfl <| r_iconst (pc := 86) dX9_tell_86 <| r_dup2 (pc := 87) dX9_tell_87 ⟨rfl, rfl⟩ <| r_iald (pc := 88) dX9_tell_88 g46 (by omega) (by decide) <| r_iconst (pc := 89) dX9_tell_89 <| r_iadd (pc := 90) dX9_tell_90 <| r_iast (pc := 91) dX9_tell_91 g46 (by omega) (by decide) (fun h_91 g46 hF_91 => ?_)
        replace hM' := hF_91.keep hM' (by omega)
        have ez : (iu (iu (iu s.bk (216 + 3 * s.bk 3) a) (216 + 3 * s.bk 3 + 1) b) (216 + 3 * s.bk 3 + 2) w) 3 = s.bk 3 := by
          rw [iu_n (by omega), iu_n (by omega), iu_n (by omega)]
        rw [ez] at g46
        refine r_aload_n (pc := 92) dX9_tell_92 rfl <| r_getf (pc := 93) dX9_tell_93 fA_X9_7 hM' rfl <| r_iconst (pc := 96) dX9_tell_96 <| r_iald (pc := 97) dX9_tell_97 g46 (by omega) (by decide) <| r_iconst (pc := 98) dX9_tell_98 <| r_isub (pc := 99) dX9_tell_99 <| r_iret (pc := 100) dX9_tell_100 rfl ⟨Nat.le_of_ble_eq_true rfl, Nat.le_of_ble_eq_true rfl⟩ <| ?_
        rw [if_neg (by omega), if_neg (by omega)] at hQ
        have hF : Fr (fun q => q = 46) h h_91 := fun j hj => (hF_91 j hj).trans ((hF_81 j hj).trans ((hF_71 j hj).trans (hF_61 j hj)))
        refine qI ?_ (hQ _ (hM.k46 g46 hF) (hF.wk (fun j => by omega)))
        rw [iu_s]; omega
      · skip
        refine r_aload_n (pc := 35) dX9_tell_35 rfl <| cVi [] (pc := 36) dX9_tell_36 k_X9_73 ⟨⟨Nat.le_of_ble_eq_true rfl, Nat.le_of_ble_eq_true rfl⟩, ⟨Nat.le_of_ble_eq_true rfl, Nat.le_of_ble_eq_true rfl⟩, Nat.le_of_ble_eq_true rfl⟩ ⟨rfl, rfl⟩ hM' ?_
        refine ms_full hM (fun h1 g1 g2 => ?_)
        refine ⟨_, rfl, ?_⟩
        refine r_iret (pc := 39) dX9_tell_39 rfl ⟨Nat.le_of_ble_eq_true rfl, Nat.le_of_ble_eq_true rfl⟩ <| ?_
        rw [if_neg (by omega), if_pos (by omega)] at hQ
        exact hQ _ g1 g2
    · skip
      refine r_iload_n (pc := 14) dX9_tell_14 rfl <| r_iload_n (pc := 15) dX9_tell_15 rfl <| r_icmp_eq (pc := 16) 24 dX9_tell_16 (by decide) (by omega) (by omega) (fun hc_16 => ?_) (fun hc_16 => ?_)
      · skip
        refine r_aload_n (pc := 24) dX9_tell_24 rfl <| r_getf (pc := 25) dX9_tell_25 fA_X9_7 hM' rfl <| r_iconst (pc := 28) dX9_tell_28 <| r_iald (pc := 29) dX9_tell_29 g46 (by omega) (by decide) <| r_bipush (pc := 30) dX9_tell_30 (by decide) <| r_icmp_ne (pc := 32) 40 dX9_tell_32 (by decide) (by omega) (by omega) (fun hc_32 => ?_) (fun hc_32 => ?_)
        · skip
          refine r_sipush (pc := 40) dX9_tell_40 (by decide) <| r_iconst (pc := 43) dX9_tell_43 <| r_aload_n (pc := 44) dX9_tell_44 rfl <| r_getf (pc := 45) dX9_tell_45 fA_X9_7 hM' rfl <| r_iconst (pc := 48) dX9_tell_48 <| r_iald (pc := 49) dX9_tell_49 g46 (by omega) (by decide) <| r_imul (pc := 50) dX9_tell_50 <| r_iadd (pc := 51) dX9_tell_51 <| r_istore_4 (pc := 52) dX9_tell_52 rfl <| r_aload_n (pc := 54) dX9_tell_54 rfl <| r_getf (pc := 55) dX9_tell_55 fA_X9_7 hM' rfl <| r_iload (pc := 58) dX9_tell_58 rfl <| r_iload_n (pc := 60) dX9_tell_60 rfl <| r_iast (pc := 61) dX9_tell_61 g46 (by omega) (by decide) (fun h_61 g46 hF_61 => ?_)
          replace hM' := hF_61.keep hM' (by omega)
          refine r_aload_n (pc := 62) dX9_tell_62 rfl <| r_getf (pc := 63) dX9_tell_63 fA_X9_7 hM' rfl <| r_iload (pc := 66) dX9_tell_66 rfl <| r_iconst (pc := 68) dX9_tell_68 <| r_iadd (pc := 69) dX9_tell_69 <| r_iload_n (pc := 70) dX9_tell_70 rfl <| r_iast (pc := 71) dX9_tell_71 g46 (by omega) (by decide) (fun h_71 g46 hF_71 => ?_)
          replace hM' := hF_71.keep hM' (by omega)
          refine r_aload_n (pc := 72) dX9_tell_72 rfl <| r_getf (pc := 73) dX9_tell_73 fA_X9_7 hM' rfl <| r_iload (pc := 76) dX9_tell_76 rfl <| r_iconst (pc := 78) dX9_tell_78 <| r_iadd (pc := 79) dX9_tell_79 <| r_iload_n (pc := 80) dX9_tell_80 rfl <| r_iast (pc := 81) dX9_tell_81 g46 (by omega) (by decide) (fun h_81 g46 hF_81 => ?_)
          replace hM' := hF_81.keep hM' (by omega)
          refine r_aload_n (pc := 82) dX9_tell_82 rfl <| r_getf (pc := 83) dX9_tell_83 fA_X9_7 hM' rfl <| r_iconst (pc := 86) dX9_tell_86 <| r_dup2 (pc := 87) dX9_tell_87 ⟨rfl, rfl⟩ <| r_iald (pc := 88) dX9_tell_88 g46 (by omega) (by decide) <| r_iconst (pc := 89) dX9_tell_89 <| r_iadd (pc := 90) dX9_tell_90 <| r_iast (pc := 91) dX9_tell_91 g46 (by omega) (by decide) (fun h_91 g46 hF_91 => ?_)
          replace hM' := hF_91.keep hM' (by omega)
          have ez : (iu (iu (iu s.bk (216 + 3 * s.bk 3) a) (216 + 3 * s.bk 3 + 1) b) (216 + 3 * s.bk 3 + 2) w) 3 = s.bk 3 := by
            rw [iu_n (by omega), iu_n (by omega), iu_n (by omega)]
          rw [ez] at g46
          refine r_aload_n (pc := 92) dX9_tell_92 rfl <| r_getf (pc := 93) dX9_tell_93 fA_X9_7 hM' rfl <| r_iconst (pc := 96) dX9_tell_96 <| r_iald (pc := 97) dX9_tell_97 g46 (by omega) (by decide) <| r_iconst (pc := 98) dX9_tell_98 <| r_isub (pc := 99) dX9_tell_99 <| r_iret (pc := 100) dX9_tell_100 rfl ⟨Nat.le_of_ble_eq_true rfl, Nat.le_of_ble_eq_true rfl⟩ <| ?_
          rw [if_neg (by omega), if_neg (by omega)] at hQ
          have hF : Fr (fun q => q = 46) h h_91 := fun j hj => (hF_91 j hj).trans ((hF_81 j hj).trans ((hF_71 j hj).trans (hF_61 j hj)))
          refine qI ?_ (hQ _ (hM.k46 g46 hF) (hF.wk (fun j => by omega)))
          rw [iu_s]; omega
        · skip
          refine r_aload_n (pc := 35) dX9_tell_35 rfl <| cVi [] (pc := 36) dX9_tell_36 k_X9_73 ⟨⟨Nat.le_of_ble_eq_true rfl, Nat.le_of_ble_eq_true rfl⟩, ⟨Nat.le_of_ble_eq_true rfl, Nat.le_of_ble_eq_true rfl⟩, Nat.le_of_ble_eq_true rfl⟩ ⟨rfl, rfl⟩ hM' ?_
          refine ms_full hM (fun h1 g1 g2 => ?_)
          refine ⟨_, rfl, ?_⟩
          refine r_iret (pc := 39) dX9_tell_39 rfl ⟨Nat.le_of_ble_eq_true rfl, Nat.le_of_ble_eq_true rfl⟩ <| ?_
          rw [if_neg (by omega), if_pos (by omega)] at hQ
          exact hQ _ g1 g2
      · skip
        refine r_aload_n (pc := 19) dX9_tell_19 rfl <| cVi [] (pc := 20) dX9_tell_20 k_X9_69 ⟨⟨Nat.le_of_ble_eq_true rfl, Nat.le_of_ble_eq_true rfl⟩, ⟨Nat.le_of_ble_eq_true rfl, Nat.le_of_ble_eq_true rfl⟩, Nat.le_of_ble_eq_true rfl⟩ ⟨rfl, rfl⟩ hM' ?_
        refine ms_bad hM (fun h1 g1 g2 => ?_)
        refine ⟨_, rfl, ?_⟩
        refine r_iret (pc := 23) dX9_tell_23 rfl ⟨Nat.le_of_ble_eq_true rfl, Nat.le_of_ble_eq_true rfl⟩ <| ?_
        rw [if_pos (by omega)] at hQ
        exact hQ _ g1 g2
  · skip
    refine ⟨_, rfl, ?_⟩
    refine r_if_eq (pc := 6) 19 dX9_tell_6 (by decide) (by decide) (fun _ => ?_) (fun q => absurd q (by decide))
    refine r_aload_n (pc := 19) dX9_tell_19 rfl <| cVi [] (pc := 20) dX9_tell_20 k_X9_69 ⟨⟨Nat.le_of_ble_eq_true rfl, Nat.le_of_ble_eq_true rfl⟩, ⟨Nat.le_of_ble_eq_true rfl, Nat.le_of_ble_eq_true rfl⟩, Nat.le_of_ble_eq_true rfl⟩ ⟨rfl, rfl⟩ hM' ?_
    refine ms_bad hM (fun h1 g1 g2 => ?_)
    refine ⟨_, rfl, ?_⟩
    refine r_iret (pc := 23) dX9_tell_23 rfl ⟨Nat.le_of_ble_eq_true rfl, Nat.le_of_ble_eq_true rfl⟩ <| ?_
    rw [if_pos (by omega)] at hQ
    exact hQ _ g1 g2
def inQ (bk : Int → Int) (p : Int) : Prop := ∃ j, 0 ≤ j ∧ j < bk 2 ∧ bk (164 + j) = p
noncomputable def fCome (s : SS) (p : Int) : Int × SS := @ite (Int × SS) ((0 ≤ p ∧ p < s.bk 0) ∧ ¬ inQ s.bk p) (Classical.propDecidable _) (s.bk 2 + 1, s.sbk (iu (iu s.bk (164 + s.bk 2) p) 2 (s.bk 2 + 1))) (-2, s.bad)
theorem pig : ∀ (m : Nat) (f : Nat → Nat), (∀ i, i ≤ m → f i < m) → (∀ i j, i < j → j ≤ m → f i ≠ f j) → False := by
  intro m
  induction m with
  | zero => intro f h1 _; exact absurd (h1 0 (Nat.le_refl 0)) (by omega)
  | succ m ih =>
    intro f h1 h2
    refine ih (fun i => if f i = m then f (m + 1) else f i) (fun i hi => ?_) (fun i j hij hj => ?_)
    · have a := h1 i (by omega)
      have b := h1 (m + 1) (by omega)
      have c := h2 i (m + 1) (by omega) (by omega)
      show (if f i = m then f (m + 1) else f i) < m
      split <;> omega
    · have a := h2 i j hij (by omega)
      have b := h2 i (m + 1) (by omega) (by omega)
      have c := h2 j (m + 1) (by omega) (by omega)
      show (if f i = m then f (m + 1) else f i) ≠ (if f j = m then f (m + 1) else f j)
      split <;> split <;> omega
/-- who isn't in the queue finds room -/
theorem q_room {bk : Int → Int} {p : Int} (hI : Inv bk) (hp : 0 ≤ p ∧ p < bk 0) (hn : ¬ inQ bk p) : bk 2 < 8 := by
  have i0 := hI.1.1
  have i2 := hI.1.2.2.1
  obtain ⟨q1, q2⟩ := hI.2.2.2.2.2.2.1
  refine Classical.byContradiction (fun hc => ?_)
  refine pig 8 (fun i => if i = 8 then p.toNat else (bk (164 + i)).toNat) (fun i hi => ?_) (fun i j hij hj => ?_)
  · show (if i = 8 then p.toNat else (bk (164 + i)).toNat) < 8
    split
    · omega
    · have := q1 i (by omega) (by omega); omega
  · show (if i = 8 then p.toNat else (bk (164 + i)).toNat) ≠ (if j = 8 then p.toNat else (bk (164 + j)).toNat)
    rw [if_neg (by omega)]
    have a := q1 i (by omega) (by omega)
    split
    · have : bk (164 + i) ≠ p := fun e => hn ⟨i, by omega, by omega, e⟩
      omega
    · have b := q1 j (by omega) (by omega)
      have := q2 i j (by omega) (by omega) (by omega)
      omega
theorem lp_mcome {p : Int} {bk : Int → Int} {e : Nat → Int} (g45 : h 45 = some (aO 9 (mF e))) (g46 : h 46 = some (aA 480 bk)) (hI : Inv bk) (hp : inI p)
    : ∀ (q : Nat) (r k : Int), 0 ≤ k → k + q = bk 2 → (r = 0 ∨ r = 1) →
    (∀ k', (r = 1 ∧ ∀ j, k ≤ j → j < bk 2 → ¬ bk (164 + j) = p) → At G mX9_come 48 [vR 45, vI p, vI 1, vI k'] [] (0, 0, n) h Q) →
    (∀ k', ¬ (r = 1 ∧ ∀ j, k ≤ j → j < bk 2 → ¬ bk (164 + j) = p) → At G mX9_come 48 [vR 45, vI p, vI 0, vI k'] [] (0, 0, n) h Q) → At G mX9_come 8 [vR 45, vI p, vI r, vI k] [] (0, 0, n) h Q := by
  have hM' := g45
  unfold mF at hM'
  have i2 := hI.1.2.2.1
  intro q
  induction q with
  | zero =>
    intro r k hk hq hr h1 h0
    refine r_iload_n (pc := 8) dX9_come_8 rfl <| r_aload_n (pc := 9) dX9_come_9 rfl <| r_getf (pc := 10) dX9_come_10 fA_X9_7 hM' rfl <| r_iconst (pc := 13) dX9_come_13 <| r_iald (pc := 14) dX9_come_14 g46 (by omega) (by decide) <| r_icmp_ge (pc := 15) 48 dX9_come_15 (by decide) (by omega) (by omega) (fun hc_15 => ?_) (fun hc_15 => ?_)
    · skip
      rcases hr with rfl | rfl
      · exact h0 k (by omega)
      · exact h1 k ⟨rfl, fun j a b => by omega⟩
    · skip
      exfalso; omega
  | succ q ih =>
    intro r k hk hq hr h1 h0
    have bq := hI.2.1 (164 + k)
    refine r_iload_n (pc := 8) dX9_come_8 rfl <| r_aload_n (pc := 9) dX9_come_9 rfl <| r_getf (pc := 10) dX9_come_10 fA_X9_7 hM' rfl <| r_iconst (pc := 13) dX9_come_13 <| r_iald (pc := 14) dX9_come_14 g46 (by omega) (by decide) <| r_icmp_ge (pc := 15) 48 dX9_come_15 (by decide) (by omega) (by omega) (fun hc_15 => ?_) (fun hc_15 => ?_)
    · skip
      exfalso; omega
    · skip
      refine r_iload_n (pc := 18) dX9_come_18 rfl <| r_if_eq (pc := 19) 40 dX9_come_19 (by decide) (by omega) (fun hc_19 => ?_) (fun hc_19 => ?_)
      · skip
        refine r_iconst (pc := 40) dX9_come_40 <| r_istoren_2 (pc := 41) dX9_come_41 rfl <| r_iinc_3 (pc := 42) dX9_come_42 rfl rfl <| r_goto (pc := 45) 8 dX9_come_45 (by decide) <| ?_
        refine ih _ (k + 1) (by omega) (by omega) (by omega) (fun k' c => h1 k' ?_) (fun k' c => h0 k' ?_)
        · obtain ⟨c1, c2⟩ := c
          first
            | omega
            | refine ⟨by omega, fun j j1 j2 => ?_⟩
              by_cases e : j = k
              · rw [e]; omega
              · exact c2 j (by omega) j2
        · rintro ⟨c1, c2⟩
          have := c2 k (by omega) (by omega)
          first
            | omega
            | exact c ⟨by omega, fun j j1 j2 => c2 j (by omega) j2⟩
      · skip
        refine r_aload_n (pc := 22) dX9_come_22 rfl <| r_getf (pc := 23) dX9_come_23 fA_X9_7 hM' rfl <| r_sipush (pc := 26) dX9_come_26 (by decide) <| r_iload_n (pc := 29) dX9_come_29 rfl <| r_iadd (pc := 30) dX9_come_30 <| r_iald (pc := 31) dX9_come_31 g46 (by omega) (by decide) <| r_iload_n (pc := 32) dX9_come_32 rfl <| r_icmp_eq (pc := 33) 40 dX9_come_33 (by decide) (by omega) (by omega) (fun hc_33 => ?_) (fun hc_33 => ?_)
        · skip
          refine r_iconst (pc := 40) dX9_come_40 <| r_istoren_2 (pc := 41) dX9_come_41 rfl <| r_iinc_3 (pc := 42) dX9_come_42 rfl rfl <| r_goto (pc := 45) 8 dX9_come_45 (by decide) <| ?_
          refine ih _ (k + 1) (by omega) (by omega) (by omega) (fun k' c => h1 k' ?_) (fun k' c => h0 k' ?_)
          · obtain ⟨c1, c2⟩ := c
            first
              | omega
              | refine ⟨by omega, fun j j1 j2 => ?_⟩
                by_cases e : j = k
                · rw [e]; omega
                · exact c2 j (by omega) j2
          · rintro ⟨c1, c2⟩
            have := c2 k (by omega) (by omega)
            first
              | omega
              | exact c ⟨by omega, fun j j1 j2 => c2 j (by omega) j2⟩
        · skip
          refine r_iconst (pc := 36) dX9_come_36 <| r_goto (pc := 37) 41 dX9_come_37 (by decide) <| r_istoren_2 (pc := 41) dX9_come_41 rfl <| r_iinc_3 (pc := 42) dX9_come_42 rfl rfl <| r_goto (pc := 45) 8 dX9_come_45 (by decide) <| ?_
          refine ih _ (k + 1) (by omega) (by omega) (by omega) (fun k' c => h1 k' ?_) (fun k' c => h0 k' ?_)
          · obtain ⟨c1, c2⟩ := c
            first
              | omega
              | refine ⟨by omega, fun j j1 j2 => ?_⟩
                by_cases e : j = k
                · rw [e]; omega
                · exact c2 j (by omega) j2
          · rintro ⟨c1, c2⟩
            have := c2 k (by omega) (by omega)
            first
              | omega
              | exact c ⟨by omega, fun j j1 j2 => c2 j (by omega) j2⟩
theorem ms_come {p : Int} (hM : isM h s) (hI : Inv s.bk) (hp : inI p) (hQ : ∀ h', isM h' (fCome s p).2 → Fr MR h h' → Q (some (vI (fCome s p).1)) n h') : Cl G mX9_come [vR 45, vI p] n h Q := by
  obtain ⟨e, it, g45, ge, g9, g46, -⟩ := id hM.raw
  have hM' := g45
  unfold mF at hM'
  have i0 := hI.1.1
  have i2 := hI.1.2.2.1
  have hroom := @q_room s.bk p hI
  unfold fCome at hQ
  refine cl_of (by decide) (Nat.le_of_ble_eq_true rfl) rfl ?_
  refine r_aload_n (pc := 0) dX9_come_0 rfl <| r_iload_n (pc := 1) dX9_come_1 rfl <| cVi [_] (pc := 2) dX9_come_2 k_X9_59 ⟨⟨Nat.le_of_ble_eq_true rfl, Nat.le_of_ble_eq_true rfl⟩, ⟨Nat.le_of_ble_eq_true rfl, Nat.le_of_ble_eq_true rfl⟩, Nat.le_of_ble_eq_true rfl⟩ ⟨rfl, rfl⟩ hM' ?_
  refine sp_isPerson g45 g46 hI.2.1 hp (fun q1 => ?_) (fun q1 => ?_)
  · skip
    refine ⟨_, rfl, ?_⟩
    refine r_istoren_2 (pc := 5) dX9_come_5 rfl <| r_iconst (pc := 6) dX9_come_6 <| r_istoren_3 (pc := 7) dX9_come_7 rfl <| ?_
    refine lp_mcome g45 g46 hI hp (s.bk 2).toNat _ 0 (by omega) (by omega) (by omega) (fun k' c => ?_) (fun k' c => ?_)
    · first
        | (exfalso; omega)
        | skip
          have hn : ¬ inQ s.bk p := fun ⟨j, a, b, d⟩ => c.2 j a b d
          rw [if_pos ⟨q1, hn⟩] at hQ
          have hr := hroom q1 hn
          clear c hroom hn
          refine r_iload_n (pc := 48) dX9_come_48 rfl <| r_if_ne (pc := 49) 57 dX9_come_49 (by decide) (by decide) (fun _ => ?_) (fun q => absurd q (by decide))
          refine r_aload_n (pc := 57) dX9_come_57 rfl <| r_getf (pc := 58) dX9_come_58 fA_X9_7 hM' rfl <| r_sipush (pc := 61) dX9_come_61 (by decide) <| r_aload_n (pc := 64) dX9_come_64 rfl <| r_getf (pc := 65) dX9_come_65 fA_X9_7 hM' rfl <| r_iconst (pc := 68) dX9_come_68 <| r_iald (pc := 69) dX9_come_69 g46 (by omega) (by decide) <| r_iadd (pc := 70) dX9_come_70 <| r_iload_n (pc := 71) dX9_come_71 rfl <| r_iast (pc := 72) dX9_come_72 g46 (by omega) (by decide) (fun h_72 g46 hF_72 => ?_)
          replace hM' := hF_72.keep hM' (by omega)
          refine r_aload_n (pc := 73) dX9_come_73 rfl <| r_getf (pc := 74) dX9_come_74 fA_X9_7 hM' rfl <| r_iconst (pc := 77) dX9_come_77 <| r_dup2 (pc := 78) dX9_come_78 ⟨rfl, rfl⟩ <| r_iald (pc := 79) dX9_come_79 g46 (by omega) (by decide) <| r_iconst (pc := 80) dX9_come_80 <| r_iadd (pc := 81) dX9_come_81 <| r_iast (pc := 82) dX9_come_82 g46 (by omega) (by decide) (fun h_82 g46 hF_82 => ?_)
          replace hM' := hF_82.keep hM' (by omega)
          have ez : (iu s.bk (164 + s.bk 2) p) 2 = s.bk 2 := by rw [iu_n (by omega)]
          rw [ez] at g46
          refine r_aload_n (pc := 83) dX9_come_83 rfl <| r_getf (pc := 84) dX9_come_84 fA_X9_7 hM' rfl <| r_iconst (pc := 87) dX9_come_87 <| r_iald (pc := 88) dX9_come_88 g46 (by omega) (by decide) <| r_iret (pc := 89) dX9_come_89 rfl ⟨Nat.le_of_ble_eq_true rfl, Nat.le_of_ble_eq_true rfl⟩ <| ?_
          have hF : Fr (fun q => q = 46) h h_82 := fun j hj => (hF_82 j hj).trans (hF_72 j hj)
          refine qI ?_ (hQ _ (hM.k46 g46 hF) (hF.wk (fun j => by omega)))
          rw [iu_s]
    · have hn : ¬ ((0 ≤ p ∧ p < s.bk 0) ∧ ¬ inQ s.bk p) := by
        first
          | (intro hh; exact q1 hh.1)
          | (intro hh; exact c ⟨rfl, fun j a b d => hh.2 ⟨j, a, b, d⟩⟩)
      rw [if_neg hn] at hQ
      clear c hroom hn
      refine r_iload_n (pc := 48) dX9_come_48 rfl <| r_if_ne (pc := 49) 57 dX9_come_49 (by decide) (by decide) (fun q => absurd q (by decide)) (fun _ => ?_)
      refine r_aload_n (pc := 52) dX9_come_52 rfl <| cVi [] (pc := 53) dX9_come_53 k_X9_69 ⟨⟨Nat.le_of_ble_eq_true rfl, Nat.le_of_ble_eq_true rfl⟩, ⟨Nat.le_of_ble_eq_true rfl, Nat.le_of_ble_eq_true rfl⟩, Nat.le_of_ble_eq_true rfl⟩ ⟨rfl, rfl⟩ hM' ?_
      refine ms_bad hM (fun h1 g1 g2 => ?_)
      refine ⟨_, rfl, ?_⟩
      refine r_iret (pc := 56) dX9_come_56 rfl ⟨Nat.le_of_ble_eq_true rfl, Nat.le_of_ble_eq_true rfl⟩ <| ?_
      exact hQ _ g1 g2
  · skip
    refine ⟨_, rfl, ?_⟩
    refine r_istoren_2 (pc := 5) dX9_come_5 rfl <| r_iconst (pc := 6) dX9_come_6 <| r_istoren_3 (pc := 7) dX9_come_7 rfl <| ?_
    refine lp_mcome g45 g46 hI hp (s.bk 2).toNat _ 0 (by omega) (by omega) (by omega) (fun k' c => ?_) (fun k' c => ?_)
    · first
        | (exfalso; omega)
        | skip
          have hn : ¬ inQ s.bk p := fun ⟨j, a, b, d⟩ => c.2 j a b d
          rw [if_pos ⟨q1, hn⟩] at hQ
          have hr := hroom q1 hn
          clear c hroom hn
          refine r_iload_n (pc := 48) dX9_come_48 rfl <| r_if_ne (pc := 49) 57 dX9_come_49 (by decide) (by decide) (fun _ => ?_) (fun q => absurd q (by decide))
          refine r_aload_n (pc := 57) dX9_come_57 rfl <| r_getf (pc := 58) dX9_come_58 fA_X9_7 hM' rfl <| r_sipush (pc := 61) dX9_come_61 (by decide) <| r_aload_n (pc := 64) dX9_come_64 rfl <| r_getf (pc := 65) dX9_come_65 fA_X9_7 hM' rfl <| r_iconst (pc := 68) dX9_come_68 <| r_iald (pc := 69) dX9_come_69 g46 (by omega) (by decide) <| r_iadd (pc := 70) dX9_come_70 <| r_iload_n (pc := 71) dX9_come_71 rfl <| r_iast (pc := 72) dX9_come_72 g46 (by omega) (by decide) (fun h_72 g46 hF_72 => ?_)
          replace hM' := hF_72.keep hM' (by omega)
          refine r_aload_n (pc := 73) dX9_come_73 rfl <| r_getf (pc := 74) dX9_come_74 fA_X9_7 hM' rfl <| r_iconst (pc := 77) dX9_come_77 <| r_dup2 (pc := 78) dX9_come_78 ⟨rfl, rfl⟩ <| r_iald (pc := 79) dX9_come_79 g46 (by omega) (by decide) <| r_iconst (pc := 80) dX9_come_80 <| r_iadd (pc := 81) dX9_come_81 <| r_iast (pc := 82) dX9_come_82 g46 (by omega) (by decide) (fun h_82 g46 hF_82 => ?_)
          replace hM' := hF_82.keep hM' (by omega)
          have ez : (iu s.bk (164 + s.bk 2) p) 2 = s.bk 2 := by rw [iu_n (by omega)]
          rw [ez] at g46
          refine r_aload_n (pc := 83) dX9_come_83 rfl <| r_getf (pc := 84) dX9_come_84 fA_X9_7 hM' rfl <| r_iconst (pc := 87) dX9_come_87 <| r_iald (pc := 88) dX9_come_88 g46 (by omega) (by decide) <| r_iret (pc := 89) dX9_come_89 rfl ⟨Nat.le_of_ble_eq_true rfl, Nat.le_of_ble_eq_true rfl⟩ <| ?_
          have hF : Fr (fun q => q = 46) h h_82 := fun j hj => (hF_82 j hj).trans (hF_72 j hj)
          refine qI ?_ (hQ _ (hM.k46 g46 hF) (hF.wk (fun j => by omega)))
          rw [iu_s]
    · have hn : ¬ ((0 ≤ p ∧ p < s.bk 0) ∧ ¬ inQ s.bk p) := by
        first
          | (intro hh; exact q1 hh.1)
          | (intro hh; exact c ⟨rfl, fun j a b d => hh.2 ⟨j, a, b, d⟩⟩)
      rw [if_neg hn] at hQ
      clear c hroom hn
      refine r_iload_n (pc := 48) dX9_come_48 rfl <| r_if_ne (pc := 49) 57 dX9_come_49 (by decide) (by decide) (fun q => absurd q (by decide)) (fun _ => ?_)
      refine r_aload_n (pc := 52) dX9_come_52 rfl <| cVi [] (pc := 53) dX9_come_53 k_X9_69 ⟨⟨Nat.le_of_ble_eq_true rfl, Nat.le_of_ble_eq_true rfl⟩, ⟨Nat.le_of_ble_eq_true rfl, Nat.le_of_ble_eq_true rfl⟩, Nat.le_of_ble_eq_true rfl⟩ ⟨rfl, rfl⟩ hM' ?_
      refine ms_bad hM (fun h1 g1 g2 => ?_)
      refine ⟨_, rfl, ?_⟩
      refine r_iret (pc := 56) dX9_come_56 rfl ⟨Nat.le_of_ble_eq_true rfl, Nat.le_of_ble_eq_true rfl⟩ <| ?_
      exact hQ _ g1 g2
end MP3


