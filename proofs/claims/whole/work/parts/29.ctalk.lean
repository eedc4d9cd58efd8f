/-! ===== the class: whom an item names ===== -/
def AC (kd ag ld rk : Int → Int) (w p : Int) : Int := if w = 0 then ageF kd ag p else if w = 1 then loadF kd ld p else rankF kd rk p
abbrev OC (ow : Int → Int) : Int → Int → Int := fun x y => ow (x * 8 + y)
abbrev LC (la : Int → Int) : Int → Int → Int := fun x y => la (x * 8 + y)
def leadF (A O : Int → Int → Int) (c x y : Int) : Int := if c = 0 then A 0 x - A 0 y else if c = 1 then A 0 y - A 0 x else if c = 2 then A 1 x - A 1 y else if c = 3 then A 1 y - A 1 x else if c = 4 then A 2 x - A 2 y else if c = 5 then A 2 y - A 2 x else O y x - O x y
theorem AC_in {kd ag ld rk : Int → Int} (b1 : Bd kd 0 5) (b2 : Bd ag 0 99) (b3 : Bd ld 0 9) (b4 : Bd rk 0 9) (w p : Int) : 0 ≤ AC kd ag ld rk w p ∧ AC kd ag ld rk w p ≤ 119 := by
  have := b1 p; have := b2 p; have := b3 p; have := b4 p
  unfold AC ageF loadF rankF
  (repeat' split) <;> omega
/-- the class's naming is the model's, where n is from 1 on and last is one of the two -/
theorem name_lead {A O Ls : Int → Int → Int} {c k x y : Int} (hc : 0 ≤ c ∧ c ≤ 9) (hk : 1 ≤ k) (hL : Ls x y = -1 ∨ Ls x y = x ∨ Ls x y = y) (hxy : x ≠ y ∧ 0 ≤ x ∧ 0 ≤ y) : nameV A O Ls c k x y = if c = 7 then (if Ls x y = -1 then -1 else if Ls x y = x then y else x) else if c = 8 then x else if c = 9 then y else if k ≤ leadF A O c x y then x else if k ≤ - leadF A O c x y then y else -1 := by
  rcases (show c = 0 ∨ c = 1 ∨ c = 2 ∨ c = 3 ∨ c = 4 ∨ c = 5 ∨ c = 6 ∨ c = 7 ∨ c = 8 ∨ c = 9 by omega) with rfl | rfl | rfl | rfl | rfl | rfl | rfl | rfl | rfl | rfl
  all_goals (unfold nameV leadF moreF; simp (config := { decide := true }) only [if_true, if_false, true_or, false_or, show (0 : Int) / 2 = 0 from rfl, show (1 : Int) / 2 = 0 from rfl, show (2 : Int) / 2 = 1 from rfl, show (3 : Int) / 2 = 1 from rfl, show (4 : Int) / 2 = 2 from rfl, show (5 : Int) / 2 = 2 from rfl] <;> ((repeat' split) <;> omega))
theorem name_none {A O Ls : Int → Int → Int} {c k x y : Int} (hc : 0 ≤ c ∧ c ≤ 9) (hk : 1 ≤ k) (hL : Ls x y = -1 ∨ Ls x y = x ∨ Ls x y = y) (hs : Ls y x = Ls x y) (hxy : x ≠ y ∧ 0 ≤ x ∧ 0 ≤ y) : nameV A O Ls c k x y = -1 ↔ nameV A O Ls c k y x = -1 := by
  rw [name_lead hc hk hL hxy, name_lead hc hk (by omega) (by omega), hs]
  have hl : leadF A O c y x = - leadF A O c x y := by unfold leadF; (repeat' split) <;> omega
  rw [hl]
  (repeat' split) <;> omega
section CT
variable {G : GT} {n : Nat} {h : Hp} {Q : PT} {b pb bb : Nat} {np : Int} {kd ag ld rk ow la : Int → Int}
theorem sp_leadOf {c x y : Int} (hP : isP h pb np kd ag ld rk) (hB : isB h bb ow la) (hk : Bd kd 0 5) (b2 : Bd ag 0 99) (b3 : Bd ld 0 9) (b4 : Bd rk 0 9) (hw : Bd ow 0 99) (hc : 0 ≤ c ∧ c ≤ 9) (hx : 0 ≤ x ∧ x < 8) (hy : 0 ≤ y ∧ y < 8) (hQ : Q (some (vI (leadF (AC kd ag ld rk) (OC ow) c x y))) n h) : Cl G mX0_leadOf [vI c, vR pb, vR bb, vI x, vI y] n h Q := by
  have hP' := hP
  obtain ⟨hP0, hP1, hP2, hP3, hP4⟩ := hP
  obtain ⟨hB0, hB1, hB2⟩ := hB
  refine cl_of (by decide) (Nat.le_of_ble_eq_true rfl) rfl ?_
  refine r_iload_n (pc := 0) dX0_leadOf_0 rfl <| ?_
  rcases (show c = 0 ∨ c = 1 ∨ c = 2 ∨ c = 3 ∨ c = 4 ∨ c = 5 ∨ (c < 0 ∨ 5 < c) by omega) with hs_1 | hs_1 | hs_1 | hs_1 | hs_1 | hs_1 | hs_1
  · skip
    refine r_tableIn (pc := 1) 40 dX0_leadOf_1 (by omega) (by omega) (by rw [hs_1]; rfl) (by decide) ?_
    refine r_aload_n (pc := 40) dX0_leadOf_40 rfl <| r_iload_n (pc := 41) dX0_leadOf_41 rfl <| cVi [_] (pc := 42) dX0_leadOf_42 k_X0_104 ⟨⟨Nat.le_of_ble_eq_true rfl, Nat.le_of_ble_eq_true rfl⟩, ⟨Nat.le_of_ble_eq_true rfl, Nat.le_of_ble_eq_true rfl⟩, Nat.le_of_ble_eq_true rfl⟩ ⟨rfl, rfl⟩ hP0 ?_
    refine sp_ageOf hP' hk (by omega) ?_
    refine ⟨_, rfl, ?_⟩
    refine r_aload_n (pc := 45) dX0_leadOf_45 rfl <| r_iload (pc := 46) dX0_leadOf_46 rfl <| cVi [_] (pc := 48) dX0_leadOf_48 k_X0_104 ⟨⟨Nat.le_of_ble_eq_true rfl, Nat.le_of_ble_eq_true rfl⟩, ⟨Nat.le_of_ble_eq_true rfl, Nat.le_of_ble_eq_true rfl⟩, Nat.le_of_ble_eq_true rfl⟩ ⟨rfl, rfl⟩ hP0 ?_
    refine sp_ageOf hP' hk (by omega) ?_
    refine ⟨_, rfl, ?_⟩
    refine r_isub (pc := 51) dX0_leadOf_51 <| r_iret (pc := 52) dX0_leadOf_52 rfl ⟨Nat.le_of_ble_eq_true rfl, Nat.le_of_ble_eq_true rfl⟩ <| ?_
    first | (subst hs_1; exact hQ) | exact qI (by unfold leadF; simp only [show ¬ c = 0 by omega, show ¬ c = 1 by omega, show ¬ c = 2 by omega, show ¬ c = 3 by omega, show ¬ c = 4 by omega, show ¬ c = 5 by omega, if_false, OC]) hQ
  · skip
    refine r_tableIn (pc := 1) 53 dX0_leadOf_1 (by omega) (by omega) (by rw [hs_1]; rfl) (by decide) ?_
    refine r_aload_n (pc := 53) dX0_leadOf_53 rfl <| r_iload (pc := 54) dX0_leadOf_54 rfl <| cVi [_] (pc := 56) dX0_leadOf_56 k_X0_104 ⟨⟨Nat.le_of_ble_eq_true rfl, Nat.le_of_ble_eq_true rfl⟩, ⟨Nat.le_of_ble_eq_true rfl, Nat.le_of_ble_eq_true rfl⟩, Nat.le_of_ble_eq_true rfl⟩ ⟨rfl, rfl⟩ hP0 ?_
    refine sp_ageOf hP' hk (by omega) ?_
    refine ⟨_, rfl, ?_⟩
    refine r_aload_n (pc := 59) dX0_leadOf_59 rfl <| r_iload_n (pc := 60) dX0_leadOf_60 rfl <| cVi [_] (pc := 61) dX0_leadOf_61 k_X0_104 ⟨⟨Nat.le_of_ble_eq_true rfl, Nat.le_of_ble_eq_true rfl⟩, ⟨Nat.le_of_ble_eq_true rfl, Nat.le_of_ble_eq_true rfl⟩, Nat.le_of_ble_eq_true rfl⟩ ⟨rfl, rfl⟩ hP0 ?_
    refine sp_ageOf hP' hk (by omega) ?_
    refine ⟨_, rfl, ?_⟩
    refine r_isub (pc := 64) dX0_leadOf_64 <| r_iret (pc := 65) dX0_leadOf_65 rfl ⟨Nat.le_of_ble_eq_true rfl, Nat.le_of_ble_eq_true rfl⟩ <| ?_
    first | (subst hs_1; exact hQ) | exact qI (by unfold leadF; simp only [show ¬ c = 0 by omega, show ¬ c = 1 by omega, show ¬ c = 2 by omega, show ¬ c = 3 by omega, show ¬ c = 4 by omega, show ¬ c = 5 by omega, if_false, OC]) hQ
  · skip
    refine r_tableIn (pc := 1) 66 dX0_leadOf_1 (by omega) (by omega) (by rw [hs_1]; rfl) (by decide) ?_
    refine r_aload_n (pc := 66) dX0_leadOf_66 rfl <| r_iload_n (pc := 67) dX0_leadOf_67 rfl <| cVi [_] (pc := 68) dX0_leadOf_68 k_X0_109 ⟨⟨Nat.le_of_ble_eq_true rfl, Nat.le_of_ble_eq_true rfl⟩, ⟨Nat.le_of_ble_eq_true rfl, Nat.le_of_ble_eq_true rfl⟩, Nat.le_of_ble_eq_true rfl⟩ ⟨rfl, rfl⟩ hP0 ?_
    refine sp_loadOf hP' hk (by omega) ?_
    refine ⟨_, rfl, ?_⟩
    refine r_aload_n (pc := 71) dX0_leadOf_71 rfl <| r_iload (pc := 72) dX0_leadOf_72 rfl <| cVi [_] (pc := 74) dX0_leadOf_74 k_X0_109 ⟨⟨Nat.le_of_ble_eq_true rfl, Nat.le_of_ble_eq_true rfl⟩, ⟨Nat.le_of_ble_eq_true rfl, Nat.le_of_ble_eq_true rfl⟩, Nat.le_of_ble_eq_true rfl⟩ ⟨rfl, rfl⟩ hP0 ?_
    refine sp_loadOf hP' hk (by omega) ?_
    refine ⟨_, rfl, ?_⟩
    refine r_isub (pc := 77) dX0_leadOf_77 <| r_iret (pc := 78) dX0_leadOf_78 rfl ⟨Nat.le_of_ble_eq_true rfl, Nat.le_of_ble_eq_true rfl⟩ <| ?_
    first | (subst hs_1; exact hQ) | exact qI (by unfold leadF; simp only [show ¬ c = 0 by omega, show ¬ c = 1 by omega, show ¬ c = 2 by omega, show ¬ c = 3 by omega, show ¬ c = 4 by omega, show ¬ c = 5 by omega, if_false, OC]) hQ
  · skip
    refine r_tableIn (pc := 1) 79 dX0_leadOf_1 (by omega) (by omega) (by rw [hs_1]; rfl) (by decide) ?_
    refine r_aload_n (pc := 79) dX0_leadOf_79 rfl <| r_iload (pc := 80) dX0_leadOf_80 rfl <| cVi [_] (pc := 82) dX0_leadOf_82 k_X0_109 ⟨⟨Nat.le_of_ble_eq_true rfl, Nat.le_of_ble_eq_true rfl⟩, ⟨Nat.le_of_ble_eq_true rfl, Nat.le_of_ble_eq_true rfl⟩, Nat.le_of_ble_eq_true rfl⟩ ⟨rfl, rfl⟩ hP0 ?_
    refine sp_loadOf hP' hk (by omega) ?_
    refine ⟨_, rfl, ?_⟩
    refine r_aload_n (pc := 85) dX0_leadOf_85 rfl <| r_iload_n (pc := 86) dX0_leadOf_86 rfl <| cVi [_] (pc := 87) dX0_leadOf_87 k_X0_109 ⟨⟨Nat.le_of_ble_eq_true rfl, Nat.le_of_ble_eq_true rfl⟩, ⟨Nat.le_of_ble_eq_true rfl, Nat.le_of_ble_eq_true rfl⟩, Nat.le_of_ble_eq_true rfl⟩ ⟨rfl, rfl⟩ hP0 ?_
    refine sp_loadOf hP' hk (by omega) ?_
    refine ⟨_, rfl, ?_⟩
    refine r_isub (pc := 90) dX0_leadOf_90 <| r_iret (pc := 91) dX0_leadOf_91 rfl ⟨Nat.le_of_ble_eq_true rfl, Nat.le_of_ble_eq_true rfl⟩ <| ?_
    first | (subst hs_1; exact hQ) | exact qI (by unfold leadF; simp only [show ¬ c = 0 by omega, show ¬ c = 1 by omega, show ¬ c = 2 by omega, show ¬ c = 3 by omega, show ¬ c = 4 by omega, show ¬ c = 5 by omega, if_false, OC]) hQ
  · skip
    refine r_tableIn (pc := 1) 92 dX0_leadOf_1 (by omega) (by omega) (by rw [hs_1]; rfl) (by decide) ?_
    refine r_aload_n (pc := 92) dX0_leadOf_92 rfl <| r_iload_n (pc := 93) dX0_leadOf_93 rfl <| cVi [_] (pc := 94) dX0_leadOf_94 k_X0_112 ⟨⟨Nat.le_of_ble_eq_true rfl, Nat.le_of_ble_eq_true rfl⟩, ⟨Nat.le_of_ble_eq_true rfl, Nat.le_of_ble_eq_true rfl⟩, Nat.le_of_ble_eq_true rfl⟩ ⟨rfl, rfl⟩ hP0 ?_
    refine sp_rankOf hP' hk (by omega) ?_
    refine ⟨_, rfl, ?_⟩
    refine r_aload_n (pc := 97) dX0_leadOf_97 rfl <| r_iload (pc := 98) dX0_leadOf_98 rfl <| cVi [_] (pc := 100) dX0_leadOf_100 k_X0_112 ⟨⟨Nat.le_of_ble_eq_true rfl, Nat.le_of_ble_eq_true rfl⟩, ⟨Nat.le_of_ble_eq_true rfl, Nat.le_of_ble_eq_true rfl⟩, Nat.le_of_ble_eq_true rfl⟩ ⟨rfl, rfl⟩ hP0 ?_
    refine sp_rankOf hP' hk (by omega) ?_
    refine ⟨_, rfl, ?_⟩
    refine r_isub (pc := 103) dX0_leadOf_103 <| r_iret (pc := 104) dX0_leadOf_104 rfl ⟨Nat.le_of_ble_eq_true rfl, Nat.le_of_ble_eq_true rfl⟩ <| ?_
    first | (subst hs_1; exact hQ) | exact qI (by unfold leadF; simp only [show ¬ c = 0 by omega, show ¬ c = 1 by omega, show ¬ c = 2 by omega, show ¬ c = 3 by omega, show ¬ c = 4 by omega, show ¬ c = 5 by omega, if_false, OC]) hQ
  · skip
    refine r_tableIn (pc := 1) 105 dX0_leadOf_1 (by omega) (by omega) (by rw [hs_1]; rfl) (by decide) ?_
    refine r_aload_n (pc := 105) dX0_leadOf_105 rfl <| r_iload (pc := 106) dX0_leadOf_106 rfl <| cVi [_] (pc := 108) dX0_leadOf_108 k_X0_112 ⟨⟨Nat.le_of_ble_eq_true rfl, Nat.le_of_ble_eq_true rfl⟩, ⟨Nat.le_of_ble_eq_true rfl, Nat.le_of_ble_eq_true rfl⟩, Nat.le_of_ble_eq_true rfl⟩ ⟨rfl, rfl⟩ hP0 ?_
    refine sp_rankOf hP' hk (by omega) ?_
    refine ⟨_, rfl, ?_⟩
    refine r_aload_n (pc := 111) dX0_leadOf_111 rfl <| r_iload_n (pc := 112) dX0_leadOf_112 rfl <| cVi [_] (pc := 113) dX0_leadOf_113 k_X0_112 ⟨⟨Nat.le_of_ble_eq_true rfl, Nat.le_of_ble_eq_true rfl⟩, ⟨Nat.le_of_ble_eq_true rfl, Nat.le_of_ble_eq_true rfl⟩, Nat.le_of_ble_eq_true rfl⟩ ⟨rfl, rfl⟩ hP0 ?_
    refine sp_rankOf hP' hk (by omega) ?_
    refine ⟨_, rfl, ?_⟩
    refine r_isub (pc := 116) dX0_leadOf_116 <| r_iret (pc := 117) dX0_leadOf_117 rfl ⟨Nat.le_of_ble_eq_true rfl, Nat.le_of_ble_eq_true rfl⟩ <| ?_
    first | (subst hs_1; exact hQ) | exact qI (by unfold leadF; simp only [show ¬ c = 0 by omega, show ¬ c = 1 by omega, show ¬ c = 2 by omega, show ¬ c = 3 by omega, show ¬ c = 4 by omega, show ¬ c = 5 by omega, if_false, OC]) hQ
  · skip
    refine r_tableOut (pc := 1) 118 dX0_leadOf_1 (by omega) hs_1 (by decide) ?_
    refine r_aload_n (pc := 118) dX0_leadOf_118 rfl <| r_getf (pc := 119) dX0_leadOf_119 fA_X0_115 hB0 rfl <| r_iload (pc := 122) dX0_leadOf_122 rfl <| r_iload_n (pc := 124) dX0_leadOf_124 rfl <| cSNi [_, _] (pc := 125) dX0_leadOf_125 k_X0_98 ⟨⟨Nat.le_of_ble_eq_true rfl, Nat.le_of_ble_eq_true rfl⟩, ⟨Nat.le_of_ble_eq_true rfl, Nat.le_of_ble_eq_true rfl⟩, Nat.le_of_ble_eq_true rfl⟩ ⟨rfl, rfl⟩ ?_
    refine sp_pair ?_
    refine ⟨_, rfl, ?_⟩
    refine r_iald (pc := 128) dX0_leadOf_128 hB1 (by omega) (by decide) <| r_aload_n (pc := 129) dX0_leadOf_129 rfl <| r_getf (pc := 130) dX0_leadOf_130 fA_X0_115 hB0 rfl <| r_iload_n (pc := 133) dX0_leadOf_133 rfl <| r_iload (pc := 134) dX0_leadOf_134 rfl <| cSNi [_, _] (pc := 136) dX0_leadOf_136 k_X0_98 ⟨⟨Nat.le_of_ble_eq_true rfl, Nat.le_of_ble_eq_true rfl⟩, ⟨Nat.le_of_ble_eq_true rfl, Nat.le_of_ble_eq_true rfl⟩, Nat.le_of_ble_eq_true rfl⟩ ⟨rfl, rfl⟩ ?_
    refine sp_pair ?_
    refine ⟨_, rfl, ?_⟩
    refine r_iald (pc := 139) dX0_leadOf_139 hB1 (by omega) (by decide) <| r_isub (pc := 140) dX0_leadOf_140 <| r_iret (pc := 141) dX0_leadOf_141 rfl ⟨Nat.le_of_ble_eq_true rfl, Nat.le_of_ble_eq_true rfl⟩ <| ?_
    first | (subst hs_1; exact hQ) | exact qI (by unfold leadF; simp only [show ¬ c = 0 by omega, show ¬ c = 1 by omega, show ¬ c = 2 by omega, show ¬ c = 3 by omega, show ¬ c = 4 by omega, show ¬ c = 5 by omega, if_false, OC]) hQ
theorem sp_named {fa sz aB j x y : Int} {co le : Int → Int} (hK : h b = some (aO 0 [vR (b + 1), vI fa, vI sz, vI aB, vR (b + 3), vR (b + 4), vR (b + 5), vR (b + 6)])) (h4 : h (b + 4) = some (aA 9 co)) (h5 : h (b + 5) = some (aA 9 le)) (hP : isP h pb np kd ag ld rk) (hB : isB h bb ow la) (hk : Bd kd 0 5) (b2 : Bd ag 0 99) (b3 : Bd ld 0 9) (b4 : Bd rk 0 9) (hw : Bd ow 0 99) (hla : Bd la (-1) 7) (hj : 0 ≤ j ∧ j < 9) (hc : 0 ≤ co j ∧ co j ≤ 9) (hl : 1 ≤ le j ∧ le j ≤ 99) (hx : 0 ≤ x ∧ x < 8) (hy : 0 ≤ y ∧ y < 8) (hxy : x ≠ y) (hL : LC la x y = -1 ∨ LC la x y = x ∨ LC la x y = y)
    (hQ : Q (some (vI (nameV (AC kd ag ld rk) (OC ow) (LC la) (co j) (le j) x y))) n h) : Cl G mX0_named [vR b, vI j, vR pb, vR bb, vI x, vI y] n h Q := by
  have hB' := hB
  obtain ⟨hB0, hB1, hB2⟩ := hB
  obtain ⟨hP0, -⟩ := id hP
  have bl := hla (x * 8 + y)
  rw [name_lead (by omega) (by omega) hL (by omega)] at hQ
  have a1 := AC_in hk b2 b3 b4 0 x
  have a2 := AC_in hk b2 b3 b4 0 y
  have a3 := AC_in hk b2 b3 b4 1 x
  have a4 := AC_in hk b2 b3 b4 1 y
  have a5 := AC_in hk b2 b3 b4 2 x
  have a6 := AC_in hk b2 b3 b4 2 y
  have a7 := hw (x * 8 + y)
  have a8 := hw (y * 8 + x)
  have hlead : -1000 ≤ leadF (AC kd ag ld rk) (OC ow) (co j) x y ∧ leadF (AC kd ag ld rk) (OC ow) (co j) x y ≤ 1000 := by
    unfold leadF; simp only [OC]; (repeat' split) <;> omega
  refine cl_of (by decide) (Nat.le_of_ble_eq_true rfl) rfl ?_
  refine r_aload_n (pc := 0) dX0_named_0 rfl <| r_getf (pc := 1) dX0_named_1 fA_X0_32 hK rfl <| r_iload_n (pc := 4) dX0_named_4 rfl <| r_iald (pc := 5) dX0_named_5 h4 (by omega) (by decide) <| ?_
  rcases (show (co j) = 7 ∨ (co j) = 8 ∨ (co j) = 9 ∨ ((co j) < 7 ∨ 9 < (co j)) by omega) with hs_6 | hs_6 | hs_6 | hs_6
  · skip
    refine r_tableIn (pc := 6) 32 dX0_named_6 (by omega) (by omega) (by rw [hs_6]; rfl) (by decide) ?_
    refine r_aload_n (pc := 32) dX0_named_32 rfl <| r_getf (pc := 33) dX0_named_33 fA_X0_93 hB0 rfl <| r_iload (pc := 36) dX0_named_36 rfl <| r_iload (pc := 38) dX0_named_38 rfl <| cSNi [_, _] (pc := 40) dX0_named_40 k_X0_98 ⟨⟨Nat.le_of_ble_eq_true rfl, Nat.le_of_ble_eq_true rfl⟩, ⟨Nat.le_of_ble_eq_true rfl, Nat.le_of_ble_eq_true rfl⟩, Nat.le_of_ble_eq_true rfl⟩ ⟨rfl, rfl⟩ ?_
    refine sp_pair ?_
    refine ⟨_, rfl, ?_⟩
    refine r_iald (pc := 43) dX0_named_43 hB2 (by omega) (by decide) <| r_istore_6 (pc := 44) dX0_named_44 rfl <| r_iload (pc := 46) dX0_named_46 rfl <| r_iconst (pc := 48) dX0_named_48 <| r_icmp_ne (pc := 49) 54 dX0_named_49 (by decide) (by omega) (by omega) (fun hc_49 => ?_) (fun hc_49 => ?_)
    · skip
      refine r_iload (pc := 54) dX0_named_54 rfl <| r_iload (pc := 56) dX0_named_56 rfl <| r_icmp_ne (pc := 58) 66 dX0_named_58 (by decide) (by omega) (by omega) (fun hc_58 => ?_) (fun hc_58 => ?_)
      · skip
        refine r_iload (pc := 66) dX0_named_66 rfl <| r_iret (pc := 68) dX0_named_68 rfl ⟨Nat.le_of_ble_eq_true rfl, Nat.le_of_ble_eq_true rfl⟩ <| ?_
        refine qI ?_ hQ
        simp only [LC] at *
        (repeat' split) <;> omega
      · skip
        refine r_iload (pc := 61) dX0_named_61 rfl <| r_goto (pc := 63) 68 dX0_named_63 (by decide) <| r_iret (pc := 68) dX0_named_68 rfl ⟨Nat.le_of_ble_eq_true rfl, Nat.le_of_ble_eq_true rfl⟩ <| ?_
        refine qI ?_ hQ
        simp only [LC] at *
        (repeat' split) <;> omega
    · skip
      refine r_iconst (pc := 52) dX0_named_52 <| r_iret (pc := 53) dX0_named_53 rfl ⟨Nat.le_of_ble_eq_true rfl, Nat.le_of_ble_eq_true rfl⟩ <| ?_
      refine qI ?_ hQ
      simp only [LC] at *
      (repeat' split) <;> omega
  · skip
    refine r_tableIn (pc := 6) 69 dX0_named_6 (by omega) (by omega) (by rw [hs_6]; rfl) (by decide) ?_
    refine r_iload (pc := 69) dX0_named_69 rfl <| r_iret (pc := 71) dX0_named_71 rfl ⟨Nat.le_of_ble_eq_true rfl, Nat.le_of_ble_eq_true rfl⟩ <| ?_
    refine qI ?_ hQ
    simp only [LC] at *
    (repeat' split) <;> omega
  · skip
    refine r_tableIn (pc := 6) 72 dX0_named_6 (by omega) (by omega) (by rw [hs_6]; rfl) (by decide) ?_
    refine r_iload (pc := 72) dX0_named_72 rfl <| r_iret (pc := 74) dX0_named_74 rfl ⟨Nat.le_of_ble_eq_true rfl, Nat.le_of_ble_eq_true rfl⟩ <| ?_
    refine qI ?_ hQ
    simp only [LC] at *
    (repeat' split) <;> omega
  · skip
    refine r_tableOut (pc := 6) 75 dX0_named_6 (by omega) hs_6 (by decide) ?_
    refine r_aload_n (pc := 75) dX0_named_75 rfl <| r_getf (pc := 76) dX0_named_76 fA_X0_32 hK rfl <| r_iload_n (pc := 79) dX0_named_79 rfl <| r_iald (pc := 80) dX0_named_80 h4 (by omega) (by decide) <| r_aload_n (pc := 81) dX0_named_81 rfl <| r_aload_n (pc := 82) dX0_named_82 rfl <| r_iload (pc := 83) dX0_named_83 rfl <| r_iload (pc := 85) dX0_named_85 rfl <| cSi [_, _, _, _, _] (pc := 87) dX0_named_87 k_X0_101 ⟨⟨Nat.le_of_ble_eq_true rfl, Nat.le_of_ble_eq_true rfl⟩, ⟨Nat.le_of_ble_eq_true rfl, Nat.le_of_ble_eq_true rfl⟩, Nat.le_of_ble_eq_true rfl⟩ ⟨rfl, rfl⟩ ?_
    refine sp_leadOf hP hB' hk b2 b3 b4 hw hc hx hy ?_
    refine ⟨_, rfl, ?_⟩
    refine r_istore_7 (pc := 90) dX0_named_90 rfl <| r_iload (pc := 92) dX0_named_92 rfl <| r_aload_n (pc := 94) dX0_named_94 rfl <| r_getf (pc := 95) dX0_named_95 fA_X0_35 hK rfl <| r_iload_n (pc := 98) dX0_named_98 rfl <| r_iald (pc := 99) dX0_named_99 h5 (by omega) (by decide) <| r_icmp_lt (pc := 100) 106 dX0_named_100 (by decide) (by omega) (by omega) (fun hc_100 => ?_) (fun hc_100 => ?_)
    · skip
      refine r_iload (pc := 106) dX0_named_106 rfl <| r_ineg (pc := 108) dX0_named_108 <| r_aload_n (pc := 109) dX0_named_109 rfl <| r_getf (pc := 110) dX0_named_110 fA_X0_35 hK rfl <| r_iload_n (pc := 113) dX0_named_113 rfl <| r_iald (pc := 114) dX0_named_114 h5 (by omega) (by decide) <| r_icmp_lt (pc := 115) 123 dX0_named_115 (by decide) (by omega) (by omega) (fun hc_115 => ?_) (fun hc_115 => ?_)
      · skip
        refine r_iconst (pc := 123) dX0_named_123 <| r_iret (pc := 124) dX0_named_124 rfl ⟨Nat.le_of_ble_eq_true rfl, Nat.le_of_ble_eq_true rfl⟩ <| ?_
        refine qI ?_ hQ
        simp only [LC] at *
        (repeat' split) <;> omega
      · skip
        refine r_iload (pc := 118) dX0_named_118 rfl <| r_goto (pc := 120) 124 dX0_named_120 (by decide) <| r_iret (pc := 124) dX0_named_124 rfl ⟨Nat.le_of_ble_eq_true rfl, Nat.le_of_ble_eq_true rfl⟩ <| ?_
        refine qI ?_ hQ
        simp only [LC] at *
        (repeat' split) <;> omega
    · skip
      refine r_iload (pc := 103) dX0_named_103 rfl <| r_iret (pc := 105) dX0_named_105 rfl ⟨Nat.le_of_ble_eq_true rfl, Nat.le_of_ble_eq_true rfl⟩ <| ?_
      refine qI ?_ hQ
      simp only [LC] at *
      (repeat' split) <;> omega
/-- numbers by their bits -/
def bitsN (p : Nat → Bool) : Nat → Nat
  | 0 => 0
  | j + 1 => if p j = true then bitsN p j ||| 2 ^ j else bitsN p j
theorem bitsN_lt (p : Nat → Bool) : ∀ j : Nat, bitsN p j < 2 ^ j := by
  intro j
  induction j with
  | zero => simp [bitsN]
  | succ j ih =>
    have h2 : 2 ^ (j + 1) = 2 ^ j + 2 ^ j := by rw [Nat.pow_succ]; omega
    unfold bitsN
    split
    · exact Nat.or_lt_two_pow (by omega) (by omega)
    · omega
theorem bitsN_bit (p : Nat → Bool) (i : Nat) : ∀ j : Nat, (bitsN p j).testBit i = (decide (i < j) && p i) := by
  intro j
  induction j with
  | zero => simp [bitsN]
  | succ j ih =>
    unfold bitsN
    by_cases e : i = j
    · subst e
      have hf : (bitsN p i).testBit i = false := by rw [ih]; simp
      by_cases hp : p i = true
      · rw [if_pos hp, Nat.testBit_or, Nat.testBit_two_pow_self, hf]; simp [hp]
      · rw [if_neg hp, hf]; simp [hp]
    · have hd : decide (i < j + 1) = decide (i < j) := by
        by_cases q : i < j
        · simp [q, show i < j + 1 by omega]
        · simp [q, show ¬ i < j + 1 by omega]
      by_cases hp : p j = true
      · rw [if_pos hp, Nat.testBit_or, ih, Nat.testBit_two_pow, hd]; simp [show ¬ j = i by omega]
      · rw [if_neg hp, ih, hd]
theorem askN_bits (ro : Int → Int) (k : Int) : ∀ m : Nat, askN ro k m = bitsN (fun j => decide (ro (j : Int) ≤ k)) m := by
  intro m
  induction m with
  | zero => rfl
  | succ m ih =>
    unfold askN bitsN
    rw [ih]
    simp only [decide_eq_true_eq]
/-- the first bit of nine -/
def lowJ (v : Nat) : Option Nat := (List.range 9).find? (fun j => v.testBit j)
def lowV (v : Nat) : Nat := match lowJ v with
  | none => 0
  | some j => 2 ^ j
theorem low_and : ∀ v : Nat, v < 512 → Int32.ofInt (v : Int) &&& Int32.ofInt (-(v : Int)) = Int32.ofInt (lowV v : Nat) := by decide +kernel
theorem lowV_in : ∀ v : Nat, v < 512 → lowV v < 512 := by decide +kernel
end CT

