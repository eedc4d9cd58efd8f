/-! ===== the model: calls ===== -/
abbrev MR : Nat → Prop := fun q => 45 ≤ q ∧ q < 58
abbrev inI (x : Int) : Prop := -2147483648 ≤ x ∧ x < 2147483648
def SS.bad (s : SS) : SS := (s.bk, s.i0, s.i1, s.up, s.dn, s.c0 + 1, s.c1, s.c2)
def SS.no (s : SS) : SS := (s.bk, s.i0, s.i1, s.up, s.dn, s.c0, s.c1 + 1, s.c2)
def SS.full (s : SS) : SS := (s.bk, s.i0, s.i1, s.up, s.dn, s.c0, s.c1, s.c2 + 1)
def SS.sbk (s : SS) (bk : Int → Int) : SS := (bk, s.i0, s.i1, s.up, s.dn, s.c0, s.c1, s.c2)
section MP
variable {G : GT} {n : Nat} {h : Hp} {Q : PT} {s : SS}
theorem isM.k46 {h' : Hp} {bk : Int → Int} (hM : isM h s) (h1 : h' 46 = some (aA 480 bk)) (hF : Fr (fun q => q = 46) h h') : isM h' (s.sbk bk) := by
  obtain ⟨e, it, im, kp, rf, hd, ln, gs, bs, cs, fr, lf, g45, ge, g9, g46, g47, g48, g49, g50, gi, g51, g52, g53, g54, g55, g56, g57, gr⟩ := hM
  exact ⟨e, it, im, kp, rf, hd, ln, gs, bs, cs, fr, lf, hF.keep g45 (by omega), ge, g9, h1, hF.keep g47 (by omega), hF.keep g48 (by omega), hF.keep g49 (by omega), hF.keep g50 (by omega), gi, hF.keep g51 (by omega), hF.keep g52 (by omega), hF.keep g53 (by omega), hF.keep g54 (by omega), hF.keep g55 (by omega), hF.keep g56 (by omega), hF.keep g57 (by omega), gr⟩
theorem isM.k45 {h' : Hp} {e e' : Nat → Int} (hM : isM h s) (h0 : h 45 = some (aO 9 (mF e))) (h1 : h' 45 = some (aO 9 (mF e'))) (he : e' 4 = e 4 ∧ e' 5 = e 5) (h9 : -10000 ≤ e' 9 ∧ e' 9 ≤ 10000) (hF : Fr (fun q => q = 45) h h') : isM h' s := by
  obtain ⟨e0, it, im, kp, rf, hd, ln, gs, bs, cs, fr, lf, g45, ge, g9, g46, g47, g48, g49, g50, gi, g51, g52, g53, g54, g55, g56, g57, gr⟩ := hM
  rw [h0] at g45
  have hfs : mF e = mF e0 := by
    have := Option.some.inj g45
    simp only [aO, Sum.inr.injEq, Sum.inl.injEq, Prod.mk.injEq, true_and] at this
    exact this
  have h4 : e 4 = e0 4 := by
    have := congrArg (fun l : List AV => l[4]?) hfs
    simpa [mF, vI] using this
  have h5 : e 5 = e0 5 := by
    have := congrArg (fun l : List AV => l[5]?) hfs
    simpa [mF, vI] using this
  exact ⟨e', it, im, kp, rf, hd, ln, gs, bs, cs, fr, lf, h1, by omega, h9, hF.keep g46 (by omega), hF.keep g47 (by omega), hF.keep g48 (by omega), hF.keep g49 (by omega), hF.keep g50 (by omega), gi, hF.keep g51 (by omega), hF.keep g52 (by omega), hF.keep g53 (by omega), hF.keep g54 (by omega), hF.keep g55 (by omega), hF.keep g56 (by omega), hF.keep g57 (by omega), gr⟩
theorem ms_refuse {v : Int} (hM : isM h s) (k : Int) (hk : 0 ≤ k ∧ k < 3) (hQ : ∀ h', isM h' (if k = 0 then s.bad else if k = 1 then s.no else s.full) → Fr MR h h' → Q (some (vI v)) n h') : Cl G mX9_refuses [vR 45, vI k, vI v] n h Q := by
  obtain ⟨e, it, im, kp, rf, hd, ln, gs, bs, cs, fr, lf, g45, ge, g9, g46, g47, g48, g49, g50, gi, g51, g52, g53, g54, g55, g56, g57, ⟨r0, r1, r2⟩, gr⟩ := hM
  refine sp_refuses g45 g49 hk (fun h' h1 hF => hQ h' ?_ (hF.wk (fun j => by omega)))
  rcases (show k = 0 ∨ k = 1 ∨ k = 2 by omega) with rfl | rfl | rfl
  · exact ⟨e, it, im, kp, _, hd, ln, gs, bs, cs, fr, lf, hF.keep g45 (by omega), ge, g9, hF.keep g46 (by omega), hF.keep g47 (by omega), hF.keep g48 (by omega), h1, hF.keep g50 (by omega), gi, hF.keep g51 (by omega), hF.keep g52 (by omega), hF.keep g53 (by omega), hF.keep g54 (by omega), hF.keep g55 (by omega), hF.keep g56 (by omega), hF.keep g57 (by omega), ⟨by rw [iu_s, r0]; rfl, by rw [iu_n (by decide)]; exact r1, by rw [iu_n (by decide)]; exact r2⟩, gr⟩
  · exact ⟨e, it, im, kp, _, hd, ln, gs, bs, cs, fr, lf, hF.keep g45 (by omega), ge, g9, hF.keep g46 (by omega), hF.keep g47 (by omega), hF.keep g48 (by omega), h1, hF.keep g50 (by omega), gi, hF.keep g51 (by omega), hF.keep g52 (by omega), hF.keep g53 (by omega), hF.keep g54 (by omega), hF.keep g55 (by omega), hF.keep g56 (by omega), hF.keep g57 (by omega), ⟨by rw [iu_n (by decide)]; exact r0, by rw [iu_s, r1]; rfl, by rw [iu_n (by decide)]; exact r2⟩, gr⟩
  · exact ⟨e, it, im, kp, _, hd, ln, gs, bs, cs, fr, lf, hF.keep g45 (by omega), ge, g9, hF.keep g46 (by omega), hF.keep g47 (by omega), hF.keep g48 (by omega), h1, hF.keep g50 (by omega), gi, hF.keep g51 (by omega), hF.keep g52 (by omega), hF.keep g53 (by omega), hF.keep g54 (by omega), hF.keep g55 (by omega), hF.keep g56 (by omega), hF.keep g57 (by omega), ⟨by rw [iu_n (by decide)]; exact r0, by rw [iu_n (by decide)]; exact r1, by rw [iu_s, r2]; rfl⟩, gr⟩
theorem isM.raw (hM : isM h s) : ∃ e it, h 45 = some (aO 9 (mF e)) ∧ (e 4 = s.up ∧ e 5 = s.dn) ∧ (-10000 ≤ e 9 ∧ e 9 ≤ 10000) ∧ h 46 = some (aA 480 s.bk) ∧ h 50 = some (aA 40 it) ∧ itOk it := by
  obtain ⟨e, it, im, kp, rf, hd, ln, gs, bs, cs, fr, lf, g45, ge, g9, g46, g47, g48, g49, g50, gi, -⟩ := hM
  exact ⟨e, it, g45, ge, g9, g46, g50, gi⟩
theorem ms_bad (hM : isM h s) (hQ : ∀ h', isM h' s.bad → Fr MR h h' → Q (some (vI (-2))) n h') : Cl G mX9_bad [vR 45] n h Q := by
  obtain ⟨e, it, g45, -⟩ := id hM.raw
  refine cl_of (by decide) (Nat.le_of_ble_eq_true rfl) rfl ?_
  refine r_aload_n (pc := 0) dX9_bad_0 rfl <| r_iconst (pc := 1) dX9_bad_1 <| r_bipush (pc := 2) dX9_bad_2 (by decide) <| cVi [_, _] (pc := 4) dX9_bad_4 k_X9_51 ⟨⟨Nat.le_of_ble_eq_true rfl, Nat.le_of_ble_eq_true rfl⟩, ⟨Nat.le_of_ble_eq_true rfl, Nat.le_of_ble_eq_true rfl⟩, Nat.le_of_ble_eq_true rfl⟩ ⟨rfl, rfl⟩ g45 ?_
  refine ms_refuse hM 0 (by omega) (fun h1 g1 g2 => ?_)
  refine ⟨_, rfl, ?_⟩
  refine r_iret (pc := 7) dX9_bad_7 rfl ⟨Nat.le_of_ble_eq_true rfl, Nat.le_of_ble_eq_true rfl⟩ <| ?_
  exact hQ _ g1 g2
theorem ms_no (hM : isM h s) (hQ : ∀ h', isM h' s.no → Fr MR h h' → Q (some (vI (-3))) n h') : Cl G mX9_no [vR 45] n h Q := by
  obtain ⟨e, it, g45, -⟩ := id hM.raw
  refine cl_of (by decide) (Nat.le_of_ble_eq_true rfl) rfl ?_
  refine r_aload_n (pc := 0) dX9_no_0 rfl <| r_iconst (pc := 1) dX9_no_1 <| r_bipush (pc := 2) dX9_no_2 (by decide) <| cVi [_, _] (pc := 4) dX9_no_4 k_X9_51 ⟨⟨Nat.le_of_ble_eq_true rfl, Nat.le_of_ble_eq_true rfl⟩, ⟨Nat.le_of_ble_eq_true rfl, Nat.le_of_ble_eq_true rfl⟩, Nat.le_of_ble_eq_true rfl⟩ ⟨rfl, rfl⟩ g45 ?_
  refine ms_refuse hM 1 (by omega) (fun h1 g1 g2 => ?_)
  refine ⟨_, rfl, ?_⟩
  refine r_iret (pc := 7) dX9_no_7 rfl ⟨Nat.le_of_ble_eq_true rfl, Nat.le_of_ble_eq_true rfl⟩ <| ?_
  exact hQ _ g1 g2
theorem ms_full (hM : isM h s) (hQ : ∀ h', isM h' s.full → Fr MR h h' → Q (some (vI (-4))) n h') : Cl G mX9_full [vR 45] n h Q := by
  obtain ⟨e, it, g45, -⟩ := id hM.raw
  refine cl_of (by decide) (Nat.le_of_ble_eq_true rfl) rfl ?_
  refine r_aload_n (pc := 0) dX9_full_0 rfl <| r_iconst (pc := 1) dX9_full_1 <| r_bipush (pc := 2) dX9_full_2 (by decide) <| cVi [_, _] (pc := 4) dX9_full_4 k_X9_51 ⟨⟨Nat.le_of_ble_eq_true rfl, Nat.le_of_ble_eq_true rfl⟩, ⟨Nat.le_of_ble_eq_true rfl, Nat.le_of_ble_eq_true rfl⟩, Nat.le_of_ble_eq_true rfl⟩ ⟨rfl, rfl⟩ g45 ?_
  refine ms_refuse hM 2 (by omega) (fun h1 g1 g2 => ?_)
  refine ⟨_, rfl, ?_⟩
  refine r_iret (pc := 7) dX9_full_7 rfl ⟨Nat.le_of_ble_eq_true rfl, Nat.le_of_ble_eq_true rfl⟩ <| ?_
  exact hQ _ g1 g2
theorem ms_reads (hM : isM h s) (hI : Inv s.bk)
    (h1 : (parse (txB s.bk) (s.bk 1)).1 = -1 → ∀ h' e it, isM h' s → h' 45 = some (aO 9 (mF e)) → h' 46 = some (aA 480 s.bk) → h' 50 = some (aA 40 it) → itOk it → itRel it (itB s.bk) → e 11 = (itB s.bk).length ∧ (itB s.bk).length ≤ 9 → e 12 = 0 → (-10000 ≤ e 9 ∧ e 9 ≤ 10000) → Fr MR h h' → Q (some (vI 1)) n h')
    (h0 : ¬ (parse (txB s.bk) (s.bk 1)).1 = -1 → ∀ h' e, isM h' s → h' 45 = some (aO 9 (mF e)) → e 7 = (parse (txB s.bk) (s.bk 1)).1 → Fr MR h h' → Q (some (vI 0)) n h') : Cl G mX9_reads [vR 45] n h Q := by
  obtain ⟨e, it, im, kp, rf, hd, ln, gs, bs, cs, fr, lf, g45, ge, g9, g46, g47, g48, g49, g50, gi, g51, g52, g53, g54, g55, g56, g57, gr⟩ := hM
  refine sp_reads g45 g46 g50 hI.2.1 hI.1.2.1 g9 gi ?_
  intro h' e' it' b k45 ke k9 k50 ki hF kk
  have hM' : isM h' s := ⟨e', it', im, kp, rf, hd, ln, gs, bs, cs, fr, lf, k45, by omega, k9, hF.keep g46 (by omega), hF.keep g47 (by omega), hF.keep g48 (by omega), hF.keep g49 (by omega), k50, ki, hF.keep g51 (by omega), hF.keep g52 (by omega), hF.keep g53 (by omega), hF.keep g54 (by omega), hF.keep g55 (by omega), hF.keep g56 (by omega), hF.keep g57 (by omega), gr⟩
  rcases kk with ⟨c1, rfl, c2, c3, c4, c5⟩ | ⟨c1, rfl, c2⟩
  · exact h1 c1 h' e' it' hM' k45 (hF.keep g46 (by omega)) k50 ki c5 ⟨c2, c3⟩ c4 k9 (hF.wk (fun j => by omega))
  · exact h0 c1 h' e' hM' k45 c2 (hF.wk (fun j => by omega))
/-! the calls' functions, and the model's contracts -/
def fPerson (s : SS) (k a l r : Int) : Int × SS := if ¬ ((0 ≤ k ∧ k ≤ 5) ∧ (0 ≤ a ∧ a ≤ 99) ∧ (0 ≤ l ∧ l ≤ 9) ∧ (0 ≤ r ∧ r ≤ 9)) then (-2, s.bad) else if s.bk 0 = 8 then (-4, s.full) else
  (s.bk 0, s.sbk (iu (iu (iu (iu (iu s.bk (4 + 4 * s.bk 0) k) (4 + 4 * s.bk 0 + 1) a) (4 + 4 * s.bk 0 + 2) l) (4 + 4 * s.bk 0 + 3) r) 0 (s.bk 0 + 1)))
theorem ms_person {k a l r : Int} (hM : isM h s) (hI : Inv s.bk) (hk : inI k) (ha : inI a) (hl : inI l) (hr : inI r) (hQ : ∀ h', isM h' (fPerson s k a l r).2 → Fr MR h h' → Q (some (vI (fPerson s k a l r).1)) n h') : Cl G mX9_person [vR 45, vI k, vI a, vI l, vI r] n h Q := by
  obtain ⟨e, it, g45, ge, g9, g46, -⟩ := id hM.raw
  have hM' := g45
  unfold mF at hM'
  have i0 := hI.1.1
  refine cl_of (by decide) (Nat.le_of_ble_eq_true rfl) rfl ?_
  refine r_iload_n (pc := 0) dX9_person_0 rfl <| r_i2l (pc := 1) dX9_person_1 (by omega) <| r_lconst (pc := 2) (v := 0) dX9_person_2 rfl <| r_ldc2 (pc := 3) dX9_person_3 cT_X9_63 <| cSi [_, _, _] (pc := 6) dX9_person_6 k_X9_55 ⟨⟨Nat.le_of_ble_eq_true rfl, Nat.le_of_ble_eq_true rfl⟩, ⟨Nat.le_of_ble_eq_true rfl, Nat.le_of_ble_eq_true rfl⟩, Nat.le_of_ble_eq_true rfl⟩ ⟨rfl, rfl⟩ ?_
  refine sp_in (by omega) (by omega) (by omega) (fun q1 => ?_) (fun q1 => ?_)
  · skip
    refine ⟨_, rfl, ?_⟩
    refine r_if_eq (pc := 9) 49 dX9_person_9 (by decide) (by decide) (fun q => absurd q (by decide)) (fun _ => ?_)
    refine r_iload_n (pc := 12) dX9_person_12 rfl <| r_i2l (pc := 13) dX9_person_13 (by omega) <| r_lconst (pc := 14) (v := 0) dX9_person_14 rfl <| r_ldc2 (pc := 15) dX9_person_15 cT_X9_65 <| cSi [_, _, _] (pc := 18) dX9_person_18 k_X9_55 ⟨⟨Nat.le_of_ble_eq_true rfl, Nat.le_of_ble_eq_true rfl⟩, ⟨Nat.le_of_ble_eq_true rfl, Nat.le_of_ble_eq_true rfl⟩, Nat.le_of_ble_eq_true rfl⟩ ⟨rfl, rfl⟩ ?_
    refine sp_in (by omega) (by omega) (by omega) (fun q2 => ?_) (fun q2 => ?_)
    · skip
      refine ⟨_, rfl, ?_⟩
      refine r_if_eq (pc := 21) 49 dX9_person_21 (by decide) (by decide) (fun q => absurd q (by decide)) (fun _ => ?_)
      refine r_iload_n (pc := 24) dX9_person_24 rfl <| r_i2l (pc := 25) dX9_person_25 (by omega) <| r_lconst (pc := 26) (v := 0) dX9_person_26 rfl <| r_ldc2 (pc := 27) dX9_person_27 cT_X9_67 <| cSi [_, _, _] (pc := 30) dX9_person_30 k_X9_55 ⟨⟨Nat.le_of_ble_eq_true rfl, Nat.le_of_ble_eq_true rfl⟩, ⟨Nat.le_of_ble_eq_true rfl, Nat.le_of_ble_eq_true rfl⟩, Nat.le_of_ble_eq_true rfl⟩ ⟨rfl, rfl⟩ ?_
      refine sp_in (by omega) (by omega) (by omega) (fun q3 => ?_) (fun q3 => ?_)
      · skip
        refine ⟨_, rfl, ?_⟩
        refine r_if_eq (pc := 33) 49 dX9_person_33 (by decide) (by decide) (fun q => absurd q (by decide)) (fun _ => ?_)
        refine r_iload (pc := 36) dX9_person_36 rfl <| r_i2l (pc := 38) dX9_person_38 (by omega) <| r_lconst (pc := 39) (v := 0) dX9_person_39 rfl <| r_ldc2 (pc := 40) dX9_person_40 cT_X9_67 <| cSi [_, _, _] (pc := 43) dX9_person_43 k_X9_55 ⟨⟨Nat.le_of_ble_eq_true rfl, Nat.le_of_ble_eq_true rfl⟩, ⟨Nat.le_of_ble_eq_true rfl, Nat.le_of_ble_eq_true rfl⟩, Nat.le_of_ble_eq_true rfl⟩ ⟨rfl, rfl⟩ ?_
        refine sp_in (by omega) (by omega) (by omega) (fun q4 => ?_) (fun q4 => ?_)
        · skip
          refine ⟨_, rfl, ?_⟩
          refine r_if_ne (pc := 46) 54 dX9_person_46 (by decide) (by decide) (fun _ => ?_) (fun q => absurd q (by decide))
          refine r_aload_n (pc := 54) dX9_person_54 rfl <| r_getf (pc := 55) dX9_person_55 fA_X9_7 hM' rfl <| r_iconst (pc := 58) dX9_person_58 <| r_iald (pc := 59) dX9_person_59 g46 (by omega) (by decide) <| r_bipush (pc := 60) dX9_person_60 (by decide) <| r_icmp_ne (pc := 62) 70 dX9_person_62 (by decide) (by omega) (by omega) (fun hc_62 => ?_) (fun hc_62 => ?_)
          · skip
            refine r_iconst (pc := 70) dX9_person_70 <| r_iconst (pc := 71) dX9_person_71 <| r_aload_n (pc := 72) dX9_person_72 rfl <| r_getf (pc := 73) dX9_person_73 fA_X9_7 hM' rfl <| r_iconst (pc := 76) dX9_person_76 <| r_iald (pc := 77) dX9_person_77 g46 (by omega) (by decide) <| r_imul (pc := 78) dX9_person_78 <| r_iadd (pc := 79) dX9_person_79 <| r_istore_5 (pc := 80) dX9_person_80 rfl <| r_aload_n (pc := 82) dX9_person_82 rfl <| r_getf (pc := 83) dX9_person_83 fA_X9_7 hM' rfl <| r_iload (pc := 86) dX9_person_86 rfl <| r_iload_n (pc := 88) dX9_person_88 rfl <| r_iast (pc := 89) dX9_person_89 g46 (by omega) (by decide) (fun h_89 g46 hF_89 => ?_)
            replace hM' := hF_89.keep hM' (by omega)
            refine r_aload_n (pc := 90) dX9_person_90 rfl <| r_getf (pc := 91) dX9_person_91 fA_X9_7 hM' rfl <| r_iload (pc := 94) dX9_person_94 rfl <| r_iconst (pc := 96) dX9_person_96 <| r_iadd (pc := 97) dX9_person_97 <| r_iload_n (pc := 98) dX9_person_98 rfl <| r_iast (pc := 99) dX9_person_99 g46 (by omega) (by decide) (fun h_99 g46 hF_99 => ?_)
            replace hM' := hF_99.keep hM' (by omega)
            refine r_aload_n (pc := 100) dX9_person_100 rfl <| r_getf (pc := 101) dX9_person_101 fA_X9_7 hM' rfl <| r_iload (pc := 104) dX9_person_104 rfl <| r_iconst (pc := 106) dX9_person_106 <| r_iadd (pc := 107) dX9_person_107 <| r_iload_n (pc := 108) dX9_person_108 rfl <| r_iast (pc := 109) dX9_person_109 g46 (by omega) (by decide) (fun h_109 g46 hF_109 => ?_)
            replace hM' := hF_109.keep hM' (by omega)
            refine r_aload_n (pc := 110) dX9_person_110 rfl <| r_getf (pc := 111) dX9_person_111 fA_X9_7 hM' rfl <| r_iload (pc := 114) dX9_person_114 rfl <| r_iconst (pc := 116) dX9_person_116 <| r_iadd (pc := 117) dX9_person_117 <| r_iload (pc := 118) dX9_person_118 rfl <| r_iast (pc := 120) dX9_person_120 g46 (by omega) (by decide) (fun h_120 g46 hF_120 => ?_)
            replace hM' := hF_120.keep hM' (by omega)
            refine r_aload_n (pc := 121) dX9_person_121 rfl <| r_getf (pc := 122) dX9_person_122 fA_X9_7 hM' rfl <| r_iconst (pc := 125) dX9_person_125 <| r_dup2 (pc := 126) dX9_person_126 ⟨rfl, rfl⟩ <| r_iald (pc := 127) dX9_person_127 g46 (by omega) (by decide) <| r_iconst (pc := 128) dX9_person_128 <| r_iadd (pc := 129) dX9_person_129 <| r_iast (pc := 130) dX9_person_130 g46 (by omega) (by decide) (fun h_130 g46 hF_130 => ?_)
            replace hM' := hF_130.keep hM' (by omega)
            have ez : (iu (iu (iu (iu s.bk (4 + 4 * s.bk 0) k) (4 + 4 * s.bk 0 + 1) a) (4 + 4 * s.bk 0 + 2) l) (4 + 4 * s.bk 0 + 3) r) 0 = s.bk 0 := by
              rw [iu_n (by omega), iu_n (by omega), iu_n (by omega), iu_n (by omega)]
            rw [ez] at g46
            refine r_aload_n (pc := 131) dX9_person_131 rfl <| r_getf (pc := 132) dX9_person_132 fA_X9_7 hM' rfl <| r_iconst (pc := 135) dX9_person_135 <| r_iald (pc := 136) dX9_person_136 g46 (by omega) (by decide) <| r_iconst (pc := 137) dX9_person_137 <| r_isub (pc := 138) dX9_person_138 <| r_iret (pc := 139) dX9_person_139 rfl ⟨Nat.le_of_ble_eq_true rfl, Nat.le_of_ble_eq_true rfl⟩ <| ?_
            unfold fPerson at hQ
            rw [if_neg (by omega), if_neg (by omega)] at hQ
            have hF : Fr (fun q => q = 46) h h_130 := fun j hj => (hF_130 j hj).trans ((hF_120 j hj).trans ((hF_109 j hj).trans ((hF_99 j hj).trans (hF_89 j hj))))
            refine qI ?_ (hQ _ (hM.k46 g46 hF) (hF.wk (fun j => by omega)))
            rw [iu_s]; omega
          · skip
            refine r_aload_n (pc := 65) dX9_person_65 rfl <| cVi [] (pc := 66) dX9_person_66 k_X9_73 ⟨⟨Nat.le_of_ble_eq_true rfl, Nat.le_of_ble_eq_true rfl⟩, ⟨Nat.le_of_ble_eq_true rfl, Nat.le_of_ble_eq_true rfl⟩, Nat.le_of_ble_eq_true rfl⟩ ⟨rfl, rfl⟩ hM' ?_
            refine ms_full hM (fun h1 g1 g2 => ?_)
            refine ⟨_, rfl, ?_⟩
            refine r_iret (pc := 69) dX9_person_69 rfl ⟨Nat.le_of_ble_eq_true rfl, Nat.le_of_ble_eq_true rfl⟩ <| ?_
            unfold fPerson at hQ
            rw [if_neg (by omega), if_pos (by omega)] at hQ
            exact hQ _ g1 g2
        · skip
          refine ⟨_, rfl, ?_⟩
          refine r_if_ne (pc := 46) 54 dX9_person_46 (by decide) (by decide) (fun q => absurd q (by decide)) (fun _ => ?_)
          refine r_aload_n (pc := 49) dX9_person_49 rfl <| cVi [] (pc := 50) dX9_person_50 k_X9_69 ⟨⟨Nat.le_of_ble_eq_true rfl, Nat.le_of_ble_eq_true rfl⟩, ⟨Nat.le_of_ble_eq_true rfl, Nat.le_of_ble_eq_true rfl⟩, Nat.le_of_ble_eq_true rfl⟩ ⟨rfl, rfl⟩ hM' ?_
          refine ms_bad hM (fun h1 g1 g2 => ?_)
          refine ⟨_, rfl, ?_⟩
          refine r_iret (pc := 53) dX9_person_53 rfl ⟨Nat.le_of_ble_eq_true rfl, Nat.le_of_ble_eq_true rfl⟩ <| ?_
          unfold fPerson at hQ
          rw [if_pos (by omega)] at hQ
          exact hQ _ g1 g2
      · skip
        refine ⟨_, rfl, ?_⟩
        refine r_if_eq (pc := 33) 49 dX9_person_33 (by decide) (by decide) (fun _ => ?_) (fun q => absurd q (by decide))
        refine r_aload_n (pc := 49) dX9_person_49 rfl <| cVi [] (pc := 50) dX9_person_50 k_X9_69 ⟨⟨Nat.le_of_ble_eq_true rfl, Nat.le_of_ble_eq_true rfl⟩, ⟨Nat.le_of_ble_eq_true rfl, Nat.le_of_ble_eq_true rfl⟩, Nat.le_of_ble_eq_true rfl⟩ ⟨rfl, rfl⟩ hM' ?_
        refine ms_bad hM (fun h1 g1 g2 => ?_)
        refine ⟨_, rfl, ?_⟩
        refine r_iret (pc := 53) dX9_person_53 rfl ⟨Nat.le_of_ble_eq_true rfl, Nat.le_of_ble_eq_true rfl⟩ <| ?_
        unfold fPerson at hQ
        rw [if_pos (by omega)] at hQ
        exact hQ _ g1 g2
    · skip
      refine ⟨_, rfl, ?_⟩
      refine r_if_eq (pc := 21) 49 dX9_person_21 (by decide) (by decide) (fun _ => ?_) (fun q => absurd q (by decide))
      refine r_aload_n (pc := 49) dX9_person_49 rfl <| cVi [] (pc := 50) dX9_person_50 k_X9_69 ⟨⟨Nat.le_of_ble_eq_true rfl, Nat.le_of_ble_eq_true rfl⟩, ⟨Nat.le_of_ble_eq_true rfl, Nat.le_of_ble_eq_true rfl⟩, Nat.le_of_ble_eq_true rfl⟩ ⟨rfl, rfl⟩ hM' ?_
      refine ms_bad hM (fun h1 g1 g2 => ?_)
      refine ⟨_, rfl, ?_⟩
      refine r_iret (pc := 53) dX9_person_53 rfl ⟨Nat.le_of_ble_eq_true rfl, Nat.le_of_ble_eq_true rfl⟩ <| ?_
      unfold fPerson at hQ
      rw [if_pos (by omega)] at hQ
      exact hQ _ g1 g2
  · skip
    refine ⟨_, rfl, ?_⟩
    refine r_if_eq (pc := 9) 49 dX9_person_9 (by decide) (by decide) (fun _ => ?_) (fun q => absurd q (by decide))
    refine r_aload_n (pc := 49) dX9_person_49 rfl <| cVi [] (pc := 50) dX9_person_50 k_X9_69 ⟨⟨Nat.le_of_ble_eq_true rfl, Nat.le_of_ble_eq_true rfl⟩, ⟨Nat.le_of_ble_eq_true rfl, Nat.le_of_ble_eq_true rfl⟩, Nat.le_of_ble_eq_true rfl⟩ ⟨rfl, rfl⟩ hM' ?_
    refine ms_bad hM (fun h1 g1 g2 => ?_)
    refine ⟨_, rfl, ?_⟩
    refine r_iret (pc := 53) dX9_person_53 rfl ⟨Nat.le_of_ble_eq_true rfl, Nat.le_of_ble_eq_true rfl⟩ <| ?_
    unfold fPerson at hQ
    rw [if_pos (by omega)] at hQ
    exact hQ _ g1 g2
def fCounts (s : SS) (p w : Int) : Int × SS := if (0 ≤ p ∧ p < s.bk 0) ∧ (0 ≤ w ∧ w ≤ 2) then (cnt s.bk p w, s) else (-2, s.bad)
theorem ms_counts {p w : Int} (hM : isM h s) (hI : Inv s.bk) (hp : inI p) (hw : inI w) (hQ : ∀ h', isM h' (fCounts s p w).2 → Fr MR h h' → Q (some (vI (fCounts s p w).1)) n h') : Cl G mX9_counts [vR 45, vI p, vI w] n h Q := by
  obtain ⟨e, it, g45, ge, g9, g46, -⟩ := id hM.raw
  have hM' := g45
  unfold mF at hM'
  have i0 := hI.1.1
  unfold fCounts at hQ
  refine cl_of (by decide) (Nat.le_of_ble_eq_true rfl) rfl ?_
  refine r_aload_n (pc := 0) dX9_counts_0 rfl <| r_iload_n (pc := 1) dX9_counts_1 rfl <| cVi [_] (pc := 2) dX9_counts_2 k_X9_59 ⟨⟨Nat.le_of_ble_eq_true rfl, Nat.le_of_ble_eq_true rfl⟩, ⟨Nat.le_of_ble_eq_true rfl, Nat.le_of_ble_eq_true rfl⟩, Nat.le_of_ble_eq_true rfl⟩ ⟨rfl, rfl⟩ hM' ?_
  refine sp_isPerson g45 g46 hI.2.1 hp (fun q1 => ?_) (fun q1 => ?_)
  · skip
    refine ⟨_, rfl, ?_⟩
    refine r_if_eq (pc := 5) 29 dX9_counts_5 (by decide) (by decide) (fun q => absurd q (by decide)) (fun _ => ?_)
    refine r_iload_n (pc := 8) dX9_counts_8 rfl <| r_i2l (pc := 9) dX9_counts_9 (by omega) <| r_lconst (pc := 10) (v := 0) dX9_counts_10 rfl <| r_ldc2 (pc := 11) dX9_counts_11 cT_X9_76 <| cSi [_, _, _] (pc := 14) dX9_counts_14 k_X9_55 ⟨⟨Nat.le_of_ble_eq_true rfl, Nat.le_of_ble_eq_true rfl⟩, ⟨Nat.le_of_ble_eq_true rfl, Nat.le_of_ble_eq_true rfl⟩, Nat.le_of_ble_eq_true rfl⟩ ⟨rfl, rfl⟩ ?_
    refine sp_in (by omega) (by omega) (by omega) (fun q2 => ?_) (fun q2 => ?_)
    · skip
      refine ⟨_, rfl, ?_⟩
      refine r_if_eq (pc := 17) 29 dX9_counts_17 (by decide) (by decide) (fun q => absurd q (by decide)) (fun _ => ?_)
      refine r_aload_n (pc := 20) dX9_counts_20 rfl <| r_iload_n (pc := 21) dX9_counts_21 rfl <| r_iload_n (pc := 22) dX9_counts_22 rfl <| cVi [_, _] (pc := 23) dX9_counts_23 k_X9_78 ⟨⟨Nat.le_of_ble_eq_true rfl, Nat.le_of_ble_eq_true rfl⟩, ⟨Nat.le_of_ble_eq_true rfl, Nat.le_of_ble_eq_true rfl⟩, Nat.le_of_ble_eq_true rfl⟩ ⟨rfl, rfl⟩ hM' ?_
      refine sp_countsOf g45 g46 hI.2.1 (by omega) (by omega) ?_
      refine ⟨_, rfl, ?_⟩
      refine r_goto (pc := 26) 33 dX9_counts_26 (by decide) <| r_iret (pc := 33) dX9_counts_33 rfl ⟨Nat.le_of_ble_eq_true rfl, Nat.le_of_ble_eq_true rfl⟩ <| ?_
      first
        | (rw [if_pos (by omega)] at hQ; exact hQ _ hM Fr.rf)
        | (rw [if_neg (by omega)] at hQ; exact hQ _ g1 g2)
    · skip
      refine ⟨_, rfl, ?_⟩
      refine r_if_eq (pc := 17) 29 dX9_counts_17 (by decide) (by decide) (fun _ => ?_) (fun q => absurd q (by decide))
      refine r_aload_n (pc := 29) dX9_counts_29 rfl <| cVi [] (pc := 30) dX9_counts_30 k_X9_69 ⟨⟨Nat.le_of_ble_eq_true rfl, Nat.le_of_ble_eq_true rfl⟩, ⟨Nat.le_of_ble_eq_true rfl, Nat.le_of_ble_eq_true rfl⟩, Nat.le_of_ble_eq_true rfl⟩ ⟨rfl, rfl⟩ hM' ?_
      refine ms_bad hM (fun h1 g1 g2 => ?_)
      refine ⟨_, rfl, ?_⟩
      refine r_iret (pc := 33) dX9_counts_33 rfl ⟨Nat.le_of_ble_eq_true rfl, Nat.le_of_ble_eq_true rfl⟩ <| ?_
      first
        | (rw [if_pos (by omega)] at hQ; exact hQ _ hM Fr.rf)
        | (rw [if_neg (by omega)] at hQ; exact hQ _ g1 g2)
  · skip
    refine ⟨_, rfl, ?_⟩
    refine r_if_eq (pc := 5) 29 dX9_counts_5 (by decide) (by decide) (fun _ => ?_) (fun q => absurd q (by decide))
    refine r_aload_n (pc := 29) dX9_counts_29 rfl <| cVi [] (pc := 30) dX9_counts_30 k_X9_69 ⟨⟨Nat.le_of_ble_eq_true rfl, Nat.le_of_ble_eq_true rfl⟩, ⟨Nat.le_of_ble_eq_true rfl, Nat.le_of_ble_eq_true rfl⟩, Nat.le_of_ble_eq_true rfl⟩ ⟨rfl, rfl⟩ hM' ?_
    refine ms_bad hM (fun h1 g1 g2 => ?_)
    refine ⟨_, rfl, ?_⟩
    refine r_iret (pc := 33) dX9_counts_33 rfl ⟨Nat.le_of_ble_eq_true rfl, Nat.le_of_ble_eq_true rfl⟩ <| ?_
    first
      | (rw [if_pos (by omega)] at hQ; exact hQ _ hM Fr.rf)
      | (rw [if_neg (by omega)] at hQ; exact hQ _ g1 g2)
def fOwe (s : SS) (a b w : Int) : Int × SS := if ((0 ≤ a ∧ a < s.bk 0) ∧ (0 ≤ b ∧ b < s.bk 0) ∧ a ≠ b) ∧ (0 ≤ w ∧ w ≤ 99) then (s.bk (36 + 8 * a + b), s.sbk (iu s.bk (36 + 8 * a + b) w)) else (-2, s.bad)
theorem ms_owe {a b w : Int} (hM : isM h s) (hI : Inv s.bk) (ha : inI a) (hb : inI b) (hw : inI w) (hQ : ∀ h', isM h' (fOwe s a b w).2 → Fr MR h h' → Q (some (vI (fOwe s a b w).1)) n h') : Cl G mX9_owe [vR 45, vI a, vI b, vI w] n h Q := by
  obtain ⟨e, it, g45, ge, g9, g46, -⟩ := id hM.raw
  have hM' := g45
  unfold mF at hM'
  have i0 := hI.1.1
  unfold fOwe at hQ
  refine cl_of (by decide) (Nat.le_of_ble_eq_true rfl) rfl ?_
  refine r_aload_n (pc := 0) dX9_owe_0 rfl <| r_iload_n (pc := 1) dX9_owe_1 rfl <| r_iload_n (pc := 2) dX9_owe_2 rfl <| cVi [_, _] (pc := 3) dX9_owe_3 k_X9_81 ⟨⟨Nat.le_of_ble_eq_true rfl, Nat.le_of_ble_eq_true rfl⟩, ⟨Nat.le_of_ble_eq_true rfl, Nat.le_of_ble_eq_true rfl⟩, Nat.le_of_ble_eq_true rfl⟩ ⟨rfl, rfl⟩ hM' ?_
  refine sp_areTwo g45 g46 hI.2.1 ha hb (fun q1 => ?_) (fun q1 => ?_)
  · skip
    refine ⟨_, rfl, ?_⟩
    refine r_if_eq (pc := 6) 21 dX9_owe_6 (by decide) (by decide) (fun q => absurd q (by decide)) (fun _ => ?_)
    refine r_iload_n (pc := 9) dX9_owe_9 rfl <| r_i2l (pc := 10) dX9_owe_10 (by omega) <| r_lconst (pc := 11) (v := 0) dX9_owe_11 rfl <| r_ldc2 (pc := 12) dX9_owe_12 cT_X9_65 <| cSi [_, _, _] (pc := 15) dX9_owe_15 k_X9_55 ⟨⟨Nat.le_of_ble_eq_true rfl, Nat.le_of_ble_eq_true rfl⟩, ⟨Nat.le_of_ble_eq_true rfl, Nat.le_of_ble_eq_true rfl⟩, Nat.le_of_ble_eq_true rfl⟩ ⟨rfl, rfl⟩ ?_
    refine sp_in (by omega) (by omega) (by omega) (fun q2 => ?_) (fun q2 => ?_)
    · skip
      refine ⟨_, rfl, ?_⟩
      refine r_if_ne (pc := 18) 26 dX9_owe_18 (by decide) (by decide) (fun _ => ?_) (fun q => absurd q (by decide))
      refine r_aload_n (pc := 26) dX9_owe_26 rfl <| r_getf (pc := 27) dX9_owe_27 fA_X9_7 hM' rfl <| r_bipush (pc := 30) dX9_owe_30 (by decide) <| r_bipush (pc := 32) dX9_owe_32 (by decide) <| r_iload_n (pc := 34) dX9_owe_34 rfl <| r_imul (pc := 35) dX9_owe_35 <| r_iadd (pc := 36) dX9_owe_36 <| r_iload_n (pc := 37) dX9_owe_37 rfl <| r_iadd (pc := 38) dX9_owe_38 <| r_iald (pc := 39) dX9_owe_39 g46 (by omega) (by decide) <| r_istore_4 (pc := 40) dX9_owe_40 rfl <| r_aload_n (pc := 42) dX9_owe_42 rfl <| r_getf (pc := 43) dX9_owe_43 fA_X9_7 hM' rfl <| r_bipush (pc := 46) dX9_owe_46 (by decide) <| r_bipush (pc := 48) dX9_owe_48 (by decide) <| r_iload_n (pc := 50) dX9_owe_50 rfl <| r_imul (pc := 51) dX9_owe_51 <| r_iadd (pc := 52) dX9_owe_52 <| r_iload_n (pc := 53) dX9_owe_53 rfl <| r_iadd (pc := 54) dX9_owe_54 <| r_iload_n (pc := 55) dX9_owe_55 rfl <| r_iast (pc := 56) dX9_owe_56 g46 (by omega) (by decide) (fun h_56 g46 hF_56 => ?_)
      replace hM' := hF_56.keep hM' (by omega)
      refine r_iload (pc := 57) dX9_owe_57 rfl <| r_iret (pc := 59) dX9_owe_59 rfl ⟨Nat.le_of_ble_eq_true rfl, Nat.le_of_ble_eq_true rfl⟩ <| ?_
      rw [if_pos (by omega)] at hQ
      exact hQ _ (hM.k46 g46 hF_56) (hF_56.wk (fun j => by omega))
    · skip
      refine ⟨_, rfl, ?_⟩
      refine r_if_ne (pc := 18) 26 dX9_owe_18 (by decide) (by decide) (fun q => absurd q (by decide)) (fun _ => ?_)
      refine r_aload_n (pc := 21) dX9_owe_21 rfl <| cVi [] (pc := 22) dX9_owe_22 k_X9_69 ⟨⟨Nat.le_of_ble_eq_true rfl, Nat.le_of_ble_eq_true rfl⟩, ⟨Nat.le_of_ble_eq_true rfl, Nat.le_of_ble_eq_true rfl⟩, Nat.le_of_ble_eq_true rfl⟩ ⟨rfl, rfl⟩ hM' ?_
      refine ms_bad hM (fun h1 g1 g2 => ?_)
      refine ⟨_, rfl, ?_⟩
      refine r_iret (pc := 25) dX9_owe_25 rfl ⟨Nat.le_of_ble_eq_true rfl, Nat.le_of_ble_eq_true rfl⟩ <| ?_
      rw [if_neg (by omega)] at hQ; exact hQ _ g1 g2
  · skip
    refine ⟨_, rfl, ?_⟩
    refine r_if_eq (pc := 6) 21 dX9_owe_6 (by decide) (by decide) (fun _ => ?_) (fun q => absurd q (by decide))
    refine r_aload_n (pc := 21) dX9_owe_21 rfl <| cVi [] (pc := 22) dX9_owe_22 k_X9_69 ⟨⟨Nat.le_of_ble_eq_true rfl, Nat.le_of_ble_eq_true rfl⟩, ⟨Nat.le_of_ble_eq_true rfl, Nat.le_of_ble_eq_true rfl⟩, Nat.le_of_ble_eq_true rfl⟩ ⟨rfl, rfl⟩ hM' ?_
    refine ms_bad hM (fun h1 g1 g2 => ?_)
    refine ⟨_, rfl, ?_⟩
    refine r_iret (pc := 25) dX9_owe_25 rfl ⟨Nat.le_of_ble_eq_true rfl, Nat.le_of_ble_eq_true rfl⟩ <| ?_
    rw [if_neg (by omega)] at hQ; exact hQ _ g1 g2
def fOwes (s : SS) (a b : Int) : Int × SS := if (0 ≤ a ∧ a < s.bk 0) ∧ (0 ≤ b ∧ b < s.bk 0) ∧ a ≠ b then (s.bk (36 + 8 * a + b), s) else (-2, s.bad)
theorem ms_owes {a b : Int} (hM : isM h s) (hI : Inv s.bk) (ha : inI a) (hb : inI b) (hQ : ∀ h', isM h' (fOwes s a b).2 → Fr MR h h' → Q (some (vI (fOwes s a b).1)) n h') : Cl G mX9_owes [vR 45, vI a, vI b] n h Q := by
  obtain ⟨e, it, g45, ge, g9, g46, -⟩ := id hM.raw
  have hM' := g45
  unfold mF at hM'
  have i0 := hI.1.1
  unfold fOwes at hQ
  refine cl_of (by decide) (Nat.le_of_ble_eq_true rfl) rfl ?_
  refine r_aload_n (pc := 0) dX9_owes_0 rfl <| r_iload_n (pc := 1) dX9_owes_1 rfl <| r_iload_n (pc := 2) dX9_owes_2 rfl <| cVi [_, _] (pc := 3) dX9_owes_3 k_X9_81 ⟨⟨Nat.le_of_ble_eq_true rfl, Nat.le_of_ble_eq_true rfl⟩, ⟨Nat.le_of_ble_eq_true rfl, Nat.le_of_ble_eq_true rfl⟩, Nat.le_of_ble_eq_true rfl⟩ ⟨rfl, rfl⟩ hM' ?_
  refine sp_areTwo g45 g46 hI.2.1 ha hb (fun q1 => ?_) (fun q1 => ?_)
  · skip
    refine ⟨_, rfl, ?_⟩
    refine r_if_eq (pc := 6) 26 dX9_owes_6 (by decide) (by decide) (fun q => absurd q (by decide)) (fun _ => ?_)
    refine r_aload_n (pc := 9) dX9_owes_9 rfl <| r_getf (pc := 10) dX9_owes_10 fA_X9_7 hM' rfl <| r_bipush (pc := 13) dX9_owes_13 (by decide) <| r_bipush (pc := 15) dX9_owes_15 (by decide) <| r_iload_n (pc := 17) dX9_owes_17 rfl <| r_imul (pc := 18) dX9_owes_18 <| r_iadd (pc := 19) dX9_owes_19 <| r_iload_n (pc := 20) dX9_owes_20 rfl <| r_iadd (pc := 21) dX9_owes_21 <| r_iald (pc := 22) dX9_owes_22 g46 (by omega) (by decide) <| r_goto (pc := 23) 30 dX9_owes_23 (by decide) <| r_iret (pc := 30) dX9_owes_30 rfl ⟨Nat.le_of_ble_eq_true rfl, Nat.le_of_ble_eq_true rfl⟩ <| ?_
    first
      | (rw [if_pos (by omega)] at hQ; exact hQ _ hM Fr.rf)
      | (rw [if_neg (by omega)] at hQ; exact hQ _ g1 g2)
  · skip
    refine ⟨_, rfl, ?_⟩
    refine r_if_eq (pc := 6) 26 dX9_owes_6 (by decide) (by decide) (fun _ => ?_) (fun q => absurd q (by decide))
    refine r_aload_n (pc := 26) dX9_owes_26 rfl <| cVi [] (pc := 27) dX9_owes_27 k_X9_69 ⟨⟨Nat.le_of_ble_eq_true rfl, Nat.le_of_ble_eq_true rfl⟩, ⟨Nat.le_of_ble_eq_true rfl, Nat.le_of_ble_eq_true rfl⟩, Nat.le_of_ble_eq_true rfl⟩ ⟨rfl, rfl⟩ hM' ?_
    refine ms_bad hM (fun h1 g1 g2 => ?_)
    refine ⟨_, rfl, ?_⟩
    refine r_iret (pc := 30) dX9_owes_30 rfl ⟨Nat.le_of_ble_eq_true rfl, Nat.le_of_ble_eq_true rfl⟩ <| ?_
    first
      | (rw [if_pos (by omega)] at hQ; exact hQ _ hM Fr.rf)
      | (rw [if_neg (by omega)] at hQ; exact hQ _ g1 g2)
def fClear (s : SS) : Int × SS := (s.bk 1, s.sbk (iu s.bk 1 0))
theorem ms_clear (hM : isM h s) (hQ : ∀ h', isM h' (fClear s).2 → Fr MR h h' → Q (some (vI (fClear s).1)) n h') : Cl G mX9_clear [vR 45] n h Q := by
  obtain ⟨e, it, g45, ge, g9, g46, -⟩ := id hM.raw
  have hM' := g45
  unfold mF at hM'
  refine cl_of (by decide) (Nat.le_of_ble_eq_true rfl) rfl ?_
  refine r_aload_n (pc := 0) dX9_clear_0 rfl <| r_getf (pc := 1) dX9_clear_1 fA_X9_7 hM' rfl <| r_iconst (pc := 4) dX9_clear_4 <| r_iald (pc := 5) dX9_clear_5 g46 (by omega) (by decide) <| r_istoren_1 (pc := 6) dX9_clear_6 rfl <| r_aload_n (pc := 7) dX9_clear_7 rfl <| r_getf (pc := 8) dX9_clear_8 fA_X9_7 hM' rfl <| r_iconst (pc := 11) dX9_clear_11 <| r_iconst (pc := 12) dX9_clear_12 <| r_iast (pc := 13) dX9_clear_13 g46 (by omega) (by decide) (fun h_13 g46 hF_13 => ?_)
  replace hM' := hF_13.keep hM' (by omega)
  refine r_iload_n (pc := 14) dX9_clear_14 rfl <| r_iret (pc := 15) dX9_clear_15 rfl ⟨Nat.le_of_ble_eq_true rfl, Nat.le_of_ble_eq_true rfl⟩ <| ?_
  exact hQ _ (hM.k46 g46 hF_13) (hF_13.wk (fun j => by omega))
def fDisperse (s : SS) : Int × SS := (s.bk 2, s.sbk (iu s.bk 2 0))
theorem ms_disperse (hM : isM h s) (hQ : ∀ h', isM h' (fDisperse s).2 → Fr MR h h' → Q (some (vI (fDisperse s).1)) n h') : Cl G mX9_disperse [vR 45] n h Q := by
  obtain ⟨e, it, g45, ge, g9, g46, -⟩ := id hM.raw
  have hM' := g45
  unfold mF at hM'
  refine cl_of (by decide) (Nat.le_of_ble_eq_true rfl) rfl ?_
  refine r_aload_n (pc := 0) dX9_disperse_0 rfl <| r_getf (pc := 1) dX9_disperse_1 fA_X9_7 hM' rfl <| r_iconst (pc := 4) dX9_disperse_4 <| r_iald (pc := 5) dX9_disperse_5 g46 (by omega) (by decide) <| r_istoren_1 (pc := 6) dX9_disperse_6 rfl <| r_aload_n (pc := 7) dX9_disperse_7 rfl <| r_getf (pc := 8) dX9_disperse_8 fA_X9_7 hM' rfl <| r_iconst (pc := 11) dX9_disperse_11 <| r_iconst (pc := 12) dX9_disperse_12 <| r_iast (pc := 13) dX9_disperse_13 g46 (by omega) (by decide) (fun h_13 g46 hF_13 => ?_)
  replace hM' := hF_13.keep hM' (by omega)
  refine r_iload_n (pc := 14) dX9_disperse_14 rfl <| r_iret (pc := 15) dX9_disperse_15 rfl ⟨Nat.le_of_ble_eq_true rfl, Nat.le_of_ble_eq_true rfl⟩ <| ?_
  exact hQ _ (hM.k46 g46 hF_13) (hF_13.wk (fun j => by omega))
def fForget (s : SS) : Int × SS := (s.bk 3, s.sbk (iu s.bk 3 0))
theorem ms_forget (hM : isM h s) (hQ : ∀ h', isM h' (fForget s).2 → Fr MR h h' → Q (some (vI (fForget s).1)) n h') : Cl G mX9_forget [vR 45] n h Q := by
  obtain ⟨e, it, g45, ge, g9, g46, -⟩ := id hM.raw
  have hM' := g45
  unfold mF at hM'
  refine cl_of (by decide) (Nat.le_of_ble_eq_true rfl) rfl ?_
  refine r_aload_n (pc := 0) dX9_forget_0 rfl <| r_getf (pc := 1) dX9_forget_1 fA_X9_7 hM' rfl <| r_iconst (pc := 4) dX9_forget_4 <| r_iald (pc := 5) dX9_forget_5 g46 (by omega) (by decide) <| r_istoren_1 (pc := 6) dX9_forget_6 rfl <| r_aload_n (pc := 7) dX9_forget_7 rfl <| r_getf (pc := 8) dX9_forget_8 fA_X9_7 hM' rfl <| r_iconst (pc := 11) dX9_forget_11 <| r_iconst (pc := 12) dX9_forget_12 <| r_iast (pc := 13) dX9_forget_13 g46 (by omega) (by decide) (fun h_13 g46 hF_13 => ?_)
  replace hM' := hF_13.keep hM' (by omega)
  refine r_iload_n (pc := 14) dX9_forget_14 rfl <| r_iret (pc := 15) dX9_forget_15 rfl ⟨Nat.le_of_ble_eq_true rfl, Nat.le_of_ble_eq_true rfl⟩ <| ?_
  exact hQ _ (hM.k46 g46 hF_13) (hF_13.wk (fun j => by omega))
def fFault (s : SS) : Int × SS := ((parse (txB s.bk) (s.bk 1)).1, s)
theorem ms_fault (hM : isM h s) (hI : Inv s.bk) (hQ : ∀ h', isM h' (fFault s).2 → Fr MR h h' → Q (some (vI (fFault s).1)) n h') : Cl G mX9_fault [vR 45] n h Q := by
  obtain ⟨e, it, g45, ge, g9, g46, -⟩ := id hM.raw
  unfold fFault at hQ
  refine cl_of (by decide) (Nat.le_of_ble_eq_true rfl) rfl ?_
  refine r_aload_n (pc := 0) dX9_fault_0 rfl <| cVi [] (pc := 1) dX9_fault_1 k_X9_145 ⟨⟨Nat.le_of_ble_eq_true rfl, Nat.le_of_ble_eq_true rfl⟩, ⟨Nat.le_of_ble_eq_true rfl, Nat.le_of_ble_eq_true rfl⟩, Nat.le_of_ble_eq_true rfl⟩ ⟨rfl, rfl⟩ g45 ?_
  refine ms_reads hM hI (fun q1 h1 e1 it1 m1 m2 m3 m4 m5 m6 m7 m8 m9 m10 => ?_) (fun q1 h1 e1 m1 m2 m3 m10 => ?_)
  · skip
    refine ⟨_, rfl, ?_⟩
    clear g45; have g45 := m2
    refine r_if_eq (pc := 4) 11 dX9_fault_4 (by decide) (by decide) (fun q => absurd q (by decide)) (fun _ => ?_)
    refine r_iconst (pc := 7) dX9_fault_7 <| r_goto (pc := 8) 15 dX9_fault_8 (by decide) <| r_iret (pc := 15) dX9_fault_15 rfl ⟨Nat.le_of_ble_eq_true rfl, Nat.le_of_ble_eq_true rfl⟩ <| ?_
    first
      | (rw [q1] at hQ; exact hQ _ m1 m10)
      | exact qI m3 (hQ _ m1 m10)
  · skip
    refine ⟨_, rfl, ?_⟩
    clear g45; have g45 := m2
    refine r_if_eq (pc := 4) 11 dX9_fault_4 (by decide) (by decide) (fun _ => ?_) (fun q => absurd q (by decide))
    refine r_aload_n (pc := 11) dX9_fault_11 rfl <| r_getf (pc := 12) dX9_fault_12 fA_X9_119 g45 rfl <| r_iret (pc := 15) dX9_fault_15 rfl ⟨Nat.le_of_ble_eq_true rfl, Nat.le_of_ble_eq_true rfl⟩ <| ?_
    first
      | (rw [q1] at hQ; exact hQ _ m1 m10)
      | exact qI m3 (hQ _ m1 m10)
def fItem (s : SS) (i w : Int) : Int × SS := if ¬ ((0 ≤ i ∧ i ≤ 8) ∧ (0 ≤ w ∧ w ≤ 3)) then (-2, s.bad) else if ¬ (parse (txB s.bk) (s.bk 1)).1 = -1 then (-3, s.no) else if i < (itB s.bk).length then (itOf (itB s.bk) (4 * i + w), s) else (-2, s.bad)
theorem ms_item {i w : Int} (hM : isM h s) (hI : Inv s.bk) (hi : inI i) (hw : inI w) (hQ : ∀ h', isM h' (fItem s i w).2 → Fr MR h h' → Q (some (vI (fItem s i w).1)) n h') : Cl G mX9_item [vR 45, vI i, vI w] n h Q := by
  obtain ⟨e, it, g45, ge, g9, g46, -⟩ := id hM.raw
  have hM' := g45
  unfold mF at hM'
  unfold fItem at hQ
  refine cl_of (by decide) (Nat.le_of_ble_eq_true rfl) rfl ?_
  refine r_iload_n (pc := 0) dX9_item_0 rfl <| r_i2l (pc := 1) dX9_item_1 (by omega) <| r_lconst (pc := 2) (v := 0) dX9_item_2 rfl <| r_ldc2 (pc := 3) dX9_item_3 cT_X9_85 <| cSi [_, _, _] (pc := 6) dX9_item_6 k_X9_55 ⟨⟨Nat.le_of_ble_eq_true rfl, Nat.le_of_ble_eq_true rfl⟩, ⟨Nat.le_of_ble_eq_true rfl, Nat.le_of_ble_eq_true rfl⟩, Nat.le_of_ble_eq_true rfl⟩ ⟨rfl, rfl⟩ ?_
  refine sp_in (by omega) (by omega) (by omega) (fun q1 => ?_) (fun q1 => ?_)
  · skip
    refine ⟨_, rfl, ?_⟩
    refine r_if_eq (pc := 9) 24 dX9_item_9 (by decide) (by decide) (fun q => absurd q (by decide)) (fun _ => ?_)
    refine r_iload_n (pc := 12) dX9_item_12 rfl <| r_i2l (pc := 13) dX9_item_13 (by omega) <| r_lconst (pc := 14) (v := 0) dX9_item_14 rfl <| r_ldc2 (pc := 15) dX9_item_15 cT_X9_149 <| cSi [_, _, _] (pc := 18) dX9_item_18 k_X9_55 ⟨⟨Nat.le_of_ble_eq_true rfl, Nat.le_of_ble_eq_true rfl⟩, ⟨Nat.le_of_ble_eq_true rfl, Nat.le_of_ble_eq_true rfl⟩, Nat.le_of_ble_eq_true rfl⟩ ⟨rfl, rfl⟩ ?_
    refine sp_in (by omega) (by omega) (by omega) (fun q2 => ?_) (fun q2 => ?_)
    · skip
      refine ⟨_, rfl, ?_⟩
      refine r_if_ne (pc := 21) 29 dX9_item_21 (by decide) (by decide) (fun _ => ?_) (fun q => absurd q (by decide))
      refine r_aload_n (pc := 29) dX9_item_29 rfl <| cVi [] (pc := 30) dX9_item_30 k_X9_145 ⟨⟨Nat.le_of_ble_eq_true rfl, Nat.le_of_ble_eq_true rfl⟩, ⟨Nat.le_of_ble_eq_true rfl, Nat.le_of_ble_eq_true rfl⟩, Nat.le_of_ble_eq_true rfl⟩ ⟨rfl, rfl⟩ hM' ?_
      refine ms_reads hM hI (fun q3 h1 e1 it1 m1 m2 m3 m4 m5 m6 m7 m8 m9 m10 => ?_) (fun q3 h1 e1 m1 m2 m3 m10 => ?_)
      · skip
        refine ⟨_, rfl, ?_⟩
        clear hM'; have hM' := m2; unfold mF at hM'
        refine r_if_ne (pc := 33) 41 dX9_item_33 (by decide) (by decide) (fun _ => ?_) (fun q => absurd q (by decide))
        refine r_iload_n (pc := 41) dX9_item_41 rfl <| r_aload_n (pc := 42) dX9_item_42 rfl <| r_getf (pc := 43) dX9_item_43 fA_X9_136 hM' rfl <| r_icmp_ge (pc := 46) 62 dX9_item_46 (by decide) (by omega) (by omega) (fun hc_46 => ?_) (fun hc_46 => ?_)
        · skip
          refine r_aload_n (pc := 62) dX9_item_62 rfl <| cVi [] (pc := 63) dX9_item_63 k_X9_69 ⟨⟨Nat.le_of_ble_eq_true rfl, Nat.le_of_ble_eq_true rfl⟩, ⟨Nat.le_of_ble_eq_true rfl, Nat.le_of_ble_eq_true rfl⟩, Nat.le_of_ble_eq_true rfl⟩ ⟨rfl, rfl⟩ hM' ?_
          refine ms_bad m1 (fun h2 g1 g2 => ?_)
          refine ⟨_, rfl, ?_⟩
          refine r_iret (pc := 66) dX9_item_66 rfl ⟨Nat.le_of_ble_eq_true rfl, Nat.le_of_ble_eq_true rfl⟩ <| ?_
          rw [if_neg (by omega), if_neg (by omega)] at hQ
          first
            | (rw [if_pos (by omega)] at hQ
               refine qI ?_ (hQ _ m1 m10)
               obtain ⟨q, hq⟩ : ∃ q, (itB s.bk)[i.toNat]? = some q := ⟨(itB s.bk)[i.toNat]'(by omega), List.getElem?_eq_getElem (by omega)⟩
               obtain ⟨e0, e1, e2, e3⟩ := itOf_at hq
               obtain ⟨f0, f1, f2, f3⟩ := m6 _ _ hq
               have hj : ((i.toNat : Nat) : Int) = i := by omega
               rw [hj] at e0 e1 e2 e3 f0 f1 f2 f3
               rcases (show w = 0 ∨ w = 1 ∨ w = 2 ∨ w = 3 by omega) with rfl | rfl | rfl | rfl
               · rw [show 4 * i + 0 = 4 * i by omega, e0, f0]
               · rw [e1, f1]
               · rw [e2, f2]
               · rw [e3, f3])
            | (rw [if_neg (by omega)] at hQ; exact hQ _ g1 (fun j hj => (g2 j hj).trans (m10 j hj)))
        · skip
          refine r_aload_n (pc := 49) dX9_item_49 rfl <| r_getf (pc := 50) dX9_item_50 fA_X9_23 hM' rfl <| r_iconst (pc := 53) dX9_item_53 <| r_iload_n (pc := 54) dX9_item_54 rfl <| r_imul (pc := 55) dX9_item_55 <| r_iload_n (pc := 56) dX9_item_56 rfl <| r_iadd (pc := 57) dX9_item_57 <| r_iald (pc := 58) dX9_item_58 m4 (by omega) (by decide) <| r_goto (pc := 59) 66 dX9_item_59 (by decide) <| r_iret (pc := 66) dX9_item_66 rfl ⟨Nat.le_of_ble_eq_true rfl, Nat.le_of_ble_eq_true rfl⟩ <| ?_
          rw [if_neg (by omega), if_neg (by omega)] at hQ
          first
            | (rw [if_pos (by omega)] at hQ
               refine qI ?_ (hQ _ m1 m10)
               obtain ⟨q, hq⟩ : ∃ q, (itB s.bk)[i.toNat]? = some q := ⟨(itB s.bk)[i.toNat]'(by omega), List.getElem?_eq_getElem (by omega)⟩
               obtain ⟨e0, e1, e2, e3⟩ := itOf_at hq
               obtain ⟨f0, f1, f2, f3⟩ := m6 _ _ hq
               have hj : ((i.toNat : Nat) : Int) = i := by omega
               rw [hj] at e0 e1 e2 e3 f0 f1 f2 f3
               rcases (show w = 0 ∨ w = 1 ∨ w = 2 ∨ w = 3 by omega) with rfl | rfl | rfl | rfl
               · rw [show 4 * i + 0 = 4 * i by omega, e0, f0]
               · rw [e1, f1]
               · rw [e2, f2]
               · rw [e3, f3])
            | (rw [if_neg (by omega)] at hQ; exact hQ _ g1 (fun j hj => (g2 j hj).trans (m10 j hj)))
      · skip
        refine ⟨_, rfl, ?_⟩
        clear hM'; have hM' := m2; unfold mF at hM'
        refine r_if_ne (pc := 33) 41 dX9_item_33 (by decide) (by decide) (fun q => absurd q (by decide)) (fun _ => ?_)
        refine r_aload_n (pc := 36) dX9_item_36 rfl <| cVi [] (pc := 37) dX9_item_37 k_X9_151 ⟨⟨Nat.le_of_ble_eq_true rfl, Nat.le_of_ble_eq_true rfl⟩, ⟨Nat.le_of_ble_eq_true rfl, Nat.le_of_ble_eq_true rfl⟩, Nat.le_of_ble_eq_true rfl⟩ ⟨rfl, rfl⟩ hM' ?_
        refine ms_no m1 (fun h2 g1 g2 => ?_)
        refine ⟨_, rfl, ?_⟩
        refine r_iret (pc := 40) dX9_item_40 rfl ⟨Nat.le_of_ble_eq_true rfl, Nat.le_of_ble_eq_true rfl⟩ <| ?_
        rw [if_neg (by omega), if_pos q3] at hQ; exact hQ _ g1 (fun j hj => (g2 j hj).trans (m10 j hj))
    · skip
      refine ⟨_, rfl, ?_⟩
      refine r_if_ne (pc := 21) 29 dX9_item_21 (by decide) (by decide) (fun q => absurd q (by decide)) (fun _ => ?_)
      refine r_aload_n (pc := 24) dX9_item_24 rfl <| cVi [] (pc := 25) dX9_item_25 k_X9_69 ⟨⟨Nat.le_of_ble_eq_true rfl, Nat.le_of_ble_eq_true rfl⟩, ⟨Nat.le_of_ble_eq_true rfl, Nat.le_of_ble_eq_true rfl⟩, Nat.le_of_ble_eq_true rfl⟩ ⟨rfl, rfl⟩ hM' ?_
      refine ms_bad hM (fun h1 g1 g2 => ?_)
      refine ⟨_, rfl, ?_⟩
      refine r_iret (pc := 28) dX9_item_28 rfl ⟨Nat.le_of_ble_eq_true rfl, Nat.le_of_ble_eq_true rfl⟩ <| ?_
      rw [if_pos (by omega)] at hQ; exact hQ _ g1 g2
  · skip
    refine ⟨_, rfl, ?_⟩
    refine r_if_eq (pc := 9) 24 dX9_item_9 (by decide) (by decide) (fun _ => ?_) (fun q => absurd q (by decide))
    refine r_aload_n (pc := 24) dX9_item_24 rfl <| cVi [] (pc := 25) dX9_item_25 k_X9_69 ⟨⟨Nat.le_of_ble_eq_true rfl, Nat.le_of_ble_eq_true rfl⟩, ⟨Nat.le_of_ble_eq_true rfl, Nat.le_of_ble_eq_true rfl⟩, Nat.le_of_ble_eq_true rfl⟩ ⟨rfl, rfl⟩ hM' ?_
    refine ms_bad hM (fun h1 g1 g2 => ?_)
    refine ⟨_, rfl, ?_⟩
    refine r_iret (pc := 28) dX9_item_28 rfl ⟨Nat.le_of_ble_eq_true rfl, Nat.le_of_ble_eq_true rfl⟩ <| ?_
    rw [if_pos (by omega)] at hQ; exact hQ _ g1 g2
end MP

