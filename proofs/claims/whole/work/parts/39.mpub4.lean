/-! ===== the model: type, image, from, digest ===== -/
section MP4
variable {G : GT} {n : Nat} {h : Hp} {Q : PT} {s : SS}
def fType (s : SS) (v k : Int) : Int × SS := if ¬ (1 ≤ k ∧ k ≤ 8) then (-2, s.bad) else if 160 < s.bk 1 + k then (-4, s.full) else (s.bk 1 + k, s.sbk (tyB v k.toNat s.bk))
theorem tyB_1 (v : Int) : ∀ (k : Nat) (b : Int → Int), tyB v k b 1 = b 1 + k := by
  intro k
  induction k with
  | zero => intro b; simp [tyB]
  | succ k ih => intro b; rw [tyB, ih, iu_s]; omega
theorem lp_type {v m : Int} {e : Nat → Int} : ∀ (q : Nat) (k : Int) (h : Hp) (b : Int → Int), k + 1 = q → q ≤ 8 → h 45 = some (aO 9 (mF e)) → h 46 = some (aA 480 b) → 0 ≤ b 1 ∧ b 1 + q ≤ 160 →
    (∀ h', h' 46 = some (aA 480 (tyB v q b)) → Fr (fun j => j = 46) h h' → Q (some (vI (tyB v q b 1))) n h') → At G mX9_type 41 [vR 45, vJ v, vU, vI m, vI k] [] (0, 0, n) h Q := by
  intro q
  induction q with
  | zero =>
    intro k h b hk h8 g45 g46 hb hQ
    unfold mF at g45
    refine r_iload (pc := 41) dX9_type_41 rfl <| r_if_lt (pc := 43) 89 dX9_type_43 (by decide) (by omega) (fun hc_43 => ?_) (fun hc_43 => ?_)
    · skip
      refine r_aload_n (pc := 89) dX9_type_89 rfl <| r_getf (pc := 90) dX9_type_90 fA_X9_7 g45 rfl <| r_iconst (pc := 93) dX9_type_93 <| r_iald (pc := 94) dX9_type_94 g46 (by omega) (by decide) <| r_iret (pc := 95) dX9_type_95 rfl ⟨Nat.le_of_ble_eq_true rfl, Nat.le_of_ble_eq_true rfl⟩ <| ?_
      exact hQ _ g46 Fr.rf
    · skip
      exfalso; omega
  | succ q ih =>
    intro k h b hk h8 g45 g46 hb hQ
    obtain rfl : k = (q : Int) := by omega
    have hM' := g45
    unfold mF at hM'
    have hby := byt_in v q
    have e8 : (8 * (q : Int)) = ((8 * q : Nat) : Int) := by omega
    refine r_iload (pc := 41) dX9_type_41 rfl <| r_if_lt (pc := 43) 89 dX9_type_43 (by decide) (by omega) (fun hc_43 => ?_) (fun hc_43 => ?_)
    · skip
      exfalso; omega
    · skip
      refine r_aload_n (pc := 46) dX9_type_46 rfl <| r_getf (pc := 47) dX9_type_47 fA_X9_7 hM' rfl <| r_sipush (pc := 50) dX9_type_50 (by decide) <| r_aload_n (pc := 53) dX9_type_53 rfl <| r_getf (pc := 54) dX9_type_54 fA_X9_7 hM' rfl <| r_iconst (pc := 57) dX9_type_57 <| r_iald (pc := 58) dX9_type_58 g46 (by omega) (by decide) <| r_iadd (pc := 59) dX9_type_59 <| r_lload_n (pc := 60) dX9_type_60 rfl <| r_bipush (pc := 61) dX9_type_61 (by decide) <| r_iload (pc := 63) dX9_type_63 rfl <| r_imul (pc := 65) dX9_type_65 <| r_lshr (pc := 66) (Int64.ofInt v >>> ((Int32.ofInt (8 * (q : Int))).toInt64 &&& 63)).toInt dX9_type_66 (Int64.ofInt_toInt _).symm <| r_ldc2 (pc := 67) dX9_type_67 cT_X9_87 <| r_land (pc := 70) ((Int64.ofInt v >>> ((Int32.ofInt (8 * (q : Int))).toInt64 &&& 63)) &&& Int64.ofInt 255).toInt dX9_type_70 (by rw [Int64.ofInt_toInt, Int64.ofInt_toInt]) <| r_l2i (pc := 71) (byt v q) dX9_type_71 (by rw [Int64.ofInt_toInt, e8]; exact byt_m v q (by omega)) <| r_iast (pc := 72) dX9_type_72 g46 (by omega) (by decide) (fun h_72 g46 hF_72 => ?_)
      replace hM' := hF_72.keep hM' (by omega)
      refine r_aload_n (pc := 73) dX9_type_73 rfl <| r_getf (pc := 74) dX9_type_74 fA_X9_7 hM' rfl <| r_iconst (pc := 77) dX9_type_77 <| r_dup2 (pc := 78) dX9_type_78 ⟨rfl, rfl⟩ <| r_iald (pc := 79) dX9_type_79 g46 (by omega) (by decide) <| r_iconst (pc := 80) dX9_type_80 <| r_iadd (pc := 81) dX9_type_81 <| r_iast (pc := 82) dX9_type_82 g46 (by omega) (by decide) (fun h_82 g46 hF_82 => ?_)
      replace hM' := hF_82.keep hM' (by omega)
      have ez : (iu b (264 + b 1) (byt v q)) 1 = b 1 := by rw [iu_n (by omega)]
      rw [ez] at g46
      refine r_iinc_4 (pc := 83) dX9_type_83 rfl rfl <| r_goto (pc := 86) 41 dX9_type_86 (by decide) <| ?_
      have hF : Fr (fun j => j = 46) h h_82 := fun j hj => (hF_82 j hj).trans (hF_72 j hj)
      refine ih _ _ _ (by omega) (by omega) (hF.keep g45 (by omega)) g46 (by rw [iu_s]; omega) (fun h' a1 a2 => hQ h' a1 (fun j hj => (a2 j hj).trans (hF j hj)))
theorem ms_type {v k : Int} (hM : isM h s) (hI : Inv s.bk) (hk : inI k) (hQ : ∀ h', isM h' (fType s v k).2 → Fr MR h h' → Q (some (vI (fType s v k).1)) n h') : Cl G mX9_type [vR 45, vJ v, vI k] n h Q := by
  obtain ⟨e, it, g45, ge, g9, g46, -⟩ := id hM.raw
  have hM' := g45
  unfold mF at hM'
  have i1 := hI.1.2.1
  unfold fType at hQ
  refine cl_of (by decide) (Nat.le_of_ble_eq_true rfl) rfl ?_
  refine r_iload_n (pc := 0) dX9_type_0 rfl <| r_i2l (pc := 1) dX9_type_1 (by omega) <| r_lconst (pc := 2) (v := 1) dX9_type_2 rfl <| r_ldc2 (pc := 3) dX9_type_3 cT_X9_85 <| cSi [_, _, _] (pc := 6) dX9_type_6 k_X9_55 ⟨⟨Nat.le_of_ble_eq_true rfl, Nat.le_of_ble_eq_true rfl⟩, ⟨Nat.le_of_ble_eq_true rfl, Nat.le_of_ble_eq_true rfl⟩, Nat.le_of_ble_eq_true rfl⟩ ⟨rfl, rfl⟩ ?_
  refine sp_in (by omega) (by omega) (by omega) (fun q1 => ?_) (fun q1 => ?_)
  · skip
    refine ⟨_, rfl, ?_⟩
    refine r_if_ne (pc := 9) 17 dX9_type_9 (by decide) (by decide) (fun _ => ?_) (fun q => absurd q (by decide))
    refine r_aload_n (pc := 17) dX9_type_17 rfl <| r_getf (pc := 18) dX9_type_18 fA_X9_7 hM' rfl <| r_iconst (pc := 21) dX9_type_21 <| r_iald (pc := 22) dX9_type_22 g46 (by omega) (by decide) <| r_iload_n (pc := 23) dX9_type_23 rfl <| r_iadd (pc := 24) dX9_type_24 <| r_sipush (pc := 25) dX9_type_25 (by decide) <| r_icmp_le (pc := 28) 36 dX9_type_28 (by decide) (by omega) (by omega) (fun hc_28 => ?_) (fun hc_28 => ?_)
    · skip
      refine r_iload_n (pc := 36) dX9_type_36 rfl <| r_iconst (pc := 37) dX9_type_37 <| r_isub (pc := 38) dX9_type_38 <| r_istore_4 (pc := 39) dX9_type_39 rfl <| ?_
      rw [if_neg (by omega), if_neg (by omega)] at hQ
      refine lp_type k.toNat _ h s.bk (by omega) (by omega) g45 g46 (by omega) (fun h' a1 a2 => qI ?_ (hQ h' (hM.k46 a1 a2) (a2.wk (fun j => by omega))))
      rw [tyB_1]; omega
    · skip
      refine r_aload_n (pc := 31) dX9_type_31 rfl <| cVi [] (pc := 32) dX9_type_32 k_X9_73 ⟨⟨Nat.le_of_ble_eq_true rfl, Nat.le_of_ble_eq_true rfl⟩, ⟨Nat.le_of_ble_eq_true rfl, Nat.le_of_ble_eq_true rfl⟩, Nat.le_of_ble_eq_true rfl⟩ ⟨rfl, rfl⟩ hM' ?_
      refine ms_full hM (fun h1 g1 g2 => ?_)
      refine ⟨_, rfl, ?_⟩
      refine r_iret (pc := 35) dX9_type_35 rfl ⟨Nat.le_of_ble_eq_true rfl, Nat.le_of_ble_eq_true rfl⟩ <| ?_
      rw [if_neg (by omega), if_pos (by omega)] at hQ; exact hQ _ g1 g2
  · skip
    refine ⟨_, rfl, ?_⟩
    refine r_if_ne (pc := 9) 17 dX9_type_9 (by decide) (by decide) (fun q => absurd q (by decide)) (fun _ => ?_)
    refine r_aload_n (pc := 12) dX9_type_12 rfl <| cVi [] (pc := 13) dX9_type_13 k_X9_69 ⟨⟨Nat.le_of_ble_eq_true rfl, Nat.le_of_ble_eq_true rfl⟩, ⟨Nat.le_of_ble_eq_true rfl, Nat.le_of_ble_eq_true rfl⟩, Nat.le_of_ble_eq_true rfl⟩ ⟨rfl, rfl⟩ hM' ?_
    refine ms_bad hM (fun h1 g1 g2 => ?_)
    refine ⟨_, rfl, ?_⟩
    refine r_iret (pc := 16) dX9_type_16 rfl ⟨Nat.le_of_ble_eq_true rfl, Nat.le_of_ble_eq_true rfl⟩ <| ?_
    rw [if_pos (by omega)] at hQ; exact hQ _ g1 g2
/-! images -/
def cp480 (b o : Int → Int) : Int → Int := fun k => if 0 ≤ k ∧ k < 480 then b k else o k
def SS.img (s : SS) (i : Int) : Option (Int → Int) := if i = 0 then s.i0 else s.i1
def SS.simg (s : SS) (i : Int) (b : Int → Int) : SS := if i = 0 then (s.bk, some b, s.i1, s.up, s.dn, s.c0, s.c1, s.c2) else (s.bk, s.i0, some b, s.up, s.dn, s.c0, s.c1, s.c2)
def fImage (s : SS) (i : Int) : Int × SS := if ¬ (0 ≤ i ∧ i ≤ 1) then (-2, s.bad) else (1, s.simg i s.bk)
def fFrom (s : SS) (i : Int) : Int × SS := if ¬ (0 ≤ i ∧ i ≤ 1) then (-2, s.bad) else match s.img i with
  | none => (-3, s.no)
  | some b => (1, s.sbk (cp480 b s.bk))
theorem lp_mimg {i : Int} {bk : Int → Int} {e : Nat → Int} (hi : 0 ≤ i ∧ i ≤ 1) : ∀ (q : Nat) (k : Int) (h : Hp) (im : Int → Int), 0 ≤ k → k + q = 480 → h 45 = some (aO 9 (mF e)) → h 46 = some (aA 480 bk) → h 47 = some (aA 960 im) →
    (∀ h' k' im', h' 47 = some (aA 960 im') → (∀ j, im' j = if 480 * i + k ≤ j ∧ j < 480 * i + 480 then bk (j - 480 * i) else im j) → Fr (fun j => j = 47) h h' → At G mX9_image 48 [vR 45, vI i, vI k'] [] (0, 0, n) h' Q) → At G mX9_image 17 [vR 45, vI i, vI k] [] (0, 0, n) h Q := by
  intro q
  induction q with
  | zero =>
    intro k h im hk hq g45 g46 g47 hQ
    unfold mF at g45
    refine r_iload_n (pc := 17) dX9_image_17 rfl <| r_sipush (pc := 18) dX9_image_18 (by decide) <| r_icmp_ge (pc := 21) 48 dX9_image_21 (by decide) (by omega) (by omega) (fun hc_21 => ?_) (fun hc_21 => ?_)
    · skip
      refine hQ _ _ im g47 (fun j => ?_) Fr.rf
      rw [if_neg (by omega)]
    · skip
      exfalso; omega
  | succ q ih =>
    intro k h im hk hq g45 g46 g47 hQ
    have hM' := g45
    unfold mF at hM'
    refine r_iload_n (pc := 17) dX9_image_17 rfl <| r_sipush (pc := 18) dX9_image_18 (by decide) <| r_icmp_ge (pc := 21) 48 dX9_image_21 (by decide) (by omega) (by omega) (fun hc_21 => ?_) (fun hc_21 => ?_)
    · skip
      exfalso; omega
    · skip
      refine r_aload_n (pc := 24) dX9_image_24 rfl <| r_getf (pc := 25) dX9_image_25 fA_X9_13 hM' rfl <| r_sipush (pc := 28) dX9_image_28 (by decide) <| r_iload_n (pc := 31) dX9_image_31 rfl <| r_imul (pc := 32) dX9_image_32 <| r_iload_n (pc := 33) dX9_image_33 rfl <| r_iadd (pc := 34) dX9_image_34 <| r_aload_n (pc := 35) dX9_image_35 rfl <| r_getf (pc := 36) dX9_image_36 fA_X9_7 hM' rfl <| r_iload_n (pc := 39) dX9_image_39 rfl <| r_iald (pc := 40) dX9_image_40 g46 (by omega) (by decide) <| r_iast (pc := 41) dX9_image_41 g47 (by omega) (by decide) (fun h_41 g47 hF_41 => ?_)
      replace hM' := hF_41.keep hM' (by omega)
      replace g46 := hF_41.keep g46 (by omega)
      refine r_iinc_2 (pc := 42) dX9_image_42 rfl rfl <| r_goto (pc := 45) 17 dX9_image_45 (by decide) <| ?_
      refine ih _ _ _ (by omega) (by omega) (hF_41.keep g45 (by omega)) g46 g47 (fun h' k' im' a1 a2 a3 => hQ h' k' im' a1 (fun j => ?_) (fun j hj => (a3 j hj).trans (hF_41 j hj)))
      rw [a2 j]
      by_cases e1 : j = 480 * i + k
      · subst e1
        rw [if_neg (by omega), iu_s, if_pos (by omega)]; congr 1; omega
      · by_cases e2 : 480 * i + k ≤ j ∧ j < 480 * i + 480
        · rw [if_pos (by omega), if_pos e2]
        · rw [if_neg (by omega), if_neg e2, iu_n e1]
theorem ms_image {i : Int} (hM : isM h s) (hI : Inv s.bk) (hi : inI i) (hQ : ∀ h', isM h' (fImage s i).2 → Fr MR h h' → Q (some (vI (fImage s i).1)) n h') : Cl G mX9_image [vR 45, vI i] n h Q := by
  obtain ⟨e, it, im, kp, rf, hd, ln, gs, bs, cs, fr, lf, g45, ge, g9, g46, g47, g48, g49, g50, gi, g51, g52, g53, g54, g55, g56, g57, gr, ⟨gm0, gm1⟩, gb⟩ := id hM
  have hM' := g45
  unfold mF at hM'
  unfold fImage at hQ
  refine cl_of (by decide) (Nat.le_of_ble_eq_true rfl) rfl ?_
  refine r_iload_n (pc := 0) dX9_image_0 rfl <| r_i2l (pc := 1) dX9_image_1 (by omega) <| r_lconst (pc := 2) (v := 0) dX9_image_2 rfl <| r_lconst (pc := 3) (v := 1) dX9_image_3 rfl <| cSi [_, _, _] (pc := 4) dX9_image_4 k_X9_55 ⟨⟨Nat.le_of_ble_eq_true rfl, Nat.le_of_ble_eq_true rfl⟩, ⟨Nat.le_of_ble_eq_true rfl, Nat.le_of_ble_eq_true rfl⟩, Nat.le_of_ble_eq_true rfl⟩ ⟨rfl, rfl⟩ ?_
  refine sp_in (by omega) (by omega) (by omega) (fun q1 => ?_) (fun q1 => ?_)
  · skip
    refine ⟨_, rfl, ?_⟩
    refine r_if_ne (pc := 7) 15 dX9_image_7 (by decide) (by decide) (fun _ => ?_) (fun q => absurd q (by decide))
    refine r_iconst (pc := 15) dX9_image_15 <| r_istoren_2 (pc := 16) dX9_image_16 rfl <| ?_
    rw [if_neg (by omega)] at hQ
    refine lp_mimg q1 480 0 h im (by omega) (by omega) g45 g46 g47 (fun h1 k' im' a1 a2 a3 => ?_)
    replace hM' := a3.keep hM' (by omega)
    have k48 := a3.keep g48 (by omega)
    refine r_aload_n (pc := 48) dX9_image_48 rfl <| r_getf (pc := 49) dX9_image_49 fA_X9_16 hM' rfl <| r_iload_n (pc := 52) dX9_image_52 rfl <| r_iconst (pc := 53) dX9_image_53 <| r_zast (pc := 54) dX9_image_54 k48 (by omega) (by decide) (by omega) (fun h_54 k48 hF_54 => ?_)
    replace hM' := hF_54.keep hM' (by omega)
    refine r_iconst (pc := 55) dX9_image_55 <| r_iret (pc := 56) dX9_image_56 rfl ⟨Nat.le_of_ble_eq_true rfl, Nat.le_of_ble_eq_true rfl⟩ <| ?_
    have hF : Fr (fun j => j = 47 ∨ j = 48) h h_54 := fun j hj => (hF_54 j (by omega)).trans (a3 j (by omega))
    refine hQ _ ?_ (hF.wk (fun j => by omega))
    have hin : ∀ k, 0 ≤ k → k < 480 → im' (480 * i + k) = s.bk k := by
      intro k k0 k1
      rw [a2, if_pos (by omega)]; congr 1; omega
    have hout : ∀ j, ¬ (480 * i ≤ j ∧ j < 480 * i + 480) → im' j = im j := by
      intro j hj
      rw [a2, if_neg (by omega)]
    have hb' : Bd im' (-1) 255 := by
      intro j
      rw [a2]
      split
      · exact hI.2.1 _
      · exact gb j
    have hmi : mI im' (iu kp i 1) 0 (s.simg i s.bk).i0 ∧ mI im' (iu kp i 1) 1 (s.simg i s.bk).i1 := by
      rcases (show i = 0 ∨ i = 1 by omega) with rfl | rfl
      · refine ⟨⟨iu_s .., hin⟩, ?_⟩
        show mI im' (iu kp 0 1) 1 s.i1
        revert gm1
        unfold mI
        cases s.i1 with
        | none => intro gm1; rw [iu_n (by decide)]; exact gm1
        | some b => intro gm1; exact ⟨by rw [iu_n (by decide)]; exact gm1.1, fun k k0 k1 => by rw [hout _ (by omega)]; exact gm1.2 k k0 k1⟩
      · refine ⟨?_, ⟨iu_s .., hin⟩⟩
        show mI im' (iu kp 1 1) 0 s.i0
        revert gm0
        unfold mI
        cases s.i0 with
        | none => intro gm0; rw [iu_n (by decide)]; exact gm0
        | some b => intro gm0; exact ⟨by rw [iu_n (by decide)]; exact gm0.1, fun k k0 k1 => by rw [hout _ (by omega)]; exact gm0.2 k k0 k1⟩
    have hsame : (s.simg i s.bk).bk = s.bk ∧ (s.simg i s.bk).up = s.up ∧ (s.simg i s.bk).dn = s.dn ∧ (s.simg i s.bk).c0 = s.c0 ∧ (s.simg i s.bk).c1 = s.c1 ∧ (s.simg i s.bk).c2 = s.c2 := by
      unfold SS.simg; split <;> exact ⟨rfl, rfl, rfl, rfl, rfl, rfl⟩
    obtain ⟨z1, z2, z3, z4, z5, z6⟩ := hsame
    exact ⟨e, it, im', _, rf, hd, ln, gs, bs, cs, fr, lf, hF.keep g45 (by omega), by rw [z2, z3]; exact ge, g9, by rw [z1]; exact hF.keep g46 (by omega), (hF_54 47 (by omega)).trans a1, k48, hF.keep g49 (by omega), hF.keep g50 (by omega), gi, hF.keep g51 (by omega), hF.keep g52 (by omega), hF.keep g53 (by omega), hF.keep g54 (by omega), hF.keep g55 (by omega), hF.keep g56 (by omega), hF.keep g57 (by omega), by rw [z4, z5, z6]; exact gr, hmi, hb'⟩
  · skip
    refine ⟨_, rfl, ?_⟩
    refine r_if_ne (pc := 7) 15 dX9_image_7 (by decide) (by decide) (fun q => absurd q (by decide)) (fun _ => ?_)
    refine r_aload_n (pc := 10) dX9_image_10 rfl <| cVi [] (pc := 11) dX9_image_11 k_X9_69 ⟨⟨Nat.le_of_ble_eq_true rfl, Nat.le_of_ble_eq_true rfl⟩, ⟨Nat.le_of_ble_eq_true rfl, Nat.le_of_ble_eq_true rfl⟩, Nat.le_of_ble_eq_true rfl⟩ ⟨rfl, rfl⟩ hM' ?_
    refine ms_bad hM (fun h1 g1 g2 => ?_)
    refine ⟨_, rfl, ?_⟩
    refine r_iret (pc := 14) dX9_image_14 rfl ⟨Nat.le_of_ble_eq_true rfl, Nat.le_of_ble_eq_true rfl⟩ <| ?_
    rw [if_pos (by omega)] at hQ; exact hQ _ g1 g2
theorem lp_mfrom {i : Int} {im : Int → Int} {e : Nat → Int} (hi : 0 ≤ i ∧ i ≤ 1) : ∀ (q : Nat) (k : Int) (h : Hp) (bk : Int → Int), 0 ≤ k → k + q = 480 → h 45 = some (aO 9 (mF e)) → h 46 = some (aA 480 bk) → h 47 = some (aA 960 im) →
    (∀ h' bk', h' 46 = some (aA 480 bk') → (∀ j, bk' j = if k ≤ j ∧ j < 480 then im (480 * i + j) else bk j) → Fr (fun j => j = 46) h h' → Q (some (vI 1)) n h') → At G mX9_from 31 [vR 45, vI i, vI k] [] (0, 0, n) h Q := by
  intro q
  induction q with
  | zero =>
    intro k h bk hk hq g45 g46 g47 hQ
    unfold mF at g45
    refine r_iload_n (pc := 31) dX9_from_31 rfl <| r_sipush (pc := 32) dX9_from_32 (by decide) <| r_icmp_ge (pc := 35) 62 dX9_from_35 (by decide) (by omega) (by omega) (fun hc_35 => ?_) (fun hc_35 => ?_)
    · skip
      refine r_iconst (pc := 62) dX9_from_62 <| r_iret (pc := 63) dX9_from_63 rfl ⟨Nat.le_of_ble_eq_true rfl, Nat.le_of_ble_eq_true rfl⟩ <| ?_
      refine hQ _ bk g46 (fun j => ?_) Fr.rf
      rw [if_neg (by omega)]
    · skip
      exfalso; omega
  | succ q ih =>
    intro k h bk hk hq g45 g46 g47 hQ
    have hM' := g45
    unfold mF at hM'
    refine r_iload_n (pc := 31) dX9_from_31 rfl <| r_sipush (pc := 32) dX9_from_32 (by decide) <| r_icmp_ge (pc := 35) 62 dX9_from_35 (by decide) (by omega) (by omega) (fun hc_35 => ?_) (fun hc_35 => ?_)
    · skip
      exfalso; omega
    · skip
      refine r_aload_n (pc := 38) dX9_from_38 rfl <| r_getf (pc := 39) dX9_from_39 fA_X9_7 hM' rfl <| r_iload_n (pc := 42) dX9_from_42 rfl <| r_aload_n (pc := 43) dX9_from_43 rfl <| r_getf (pc := 44) dX9_from_44 fA_X9_13 hM' rfl <| r_sipush (pc := 47) dX9_from_47 (by decide) <| r_iload_n (pc := 50) dX9_from_50 rfl <| r_imul (pc := 51) dX9_from_51 <| r_iload_n (pc := 52) dX9_from_52 rfl <| r_iadd (pc := 53) dX9_from_53 <| r_iald (pc := 54) dX9_from_54 g47 (by omega) (by decide) <| r_iast (pc := 55) dX9_from_55 g46 (by omega) (by decide) (fun h_55 g46 hF_55 => ?_)
      replace hM' := hF_55.keep hM' (by omega)
      replace g47 := hF_55.keep g47 (by omega)
      refine r_iinc_2 (pc := 56) dX9_from_56 rfl rfl <| r_goto (pc := 59) 31 dX9_from_59 (by decide) <| ?_
      refine ih _ _ _ (by omega) (by omega) (hF_55.keep g45 (by omega)) g46 g47 (fun h' bk' a1 a2 a3 => hQ h' bk' a1 (fun j => ?_) (fun j hj => (a3 j hj).trans (hF_55 j hj)))
      rw [a2 j]
      by_cases e1 : j = k
      · subst e1
        rw [if_neg (by omega), iu_s, if_pos (by omega)]
      · by_cases e2 : k ≤ j ∧ j < 480
        · rw [if_pos (by omega), if_pos e2]
        · rw [if_neg (by omega), if_neg e2, iu_n e1]
theorem ms_from {i : Int} (hM : isM h s) (hI : Inv s.bk) (hi : inI i) (hQ : ∀ h', isM h' (fFrom s i).2 → Fr MR h h' → Q (some (vI (fFrom s i).1)) n h') : Cl G mX9_from [vR 45, vI i] n h Q := by
  obtain ⟨e, it, im, kp, rf, hd, ln, gs, bs, cs, fr, lf, g45, ge, g9, g46, g47, g48, g49, g50, gi, g51, g52, g53, g54, g55, g56, g57, gr, ⟨gm0, gm1⟩, gb⟩ := id hM
  have hM' := g45
  unfold mF at hM'
  unfold fFrom at hQ
  have key : (0 ≤ i ∧ i ≤ 1) → (kp i = 0 ∧ s.img i = none) ∨ (∃ b, kp i = 1 ∧ s.img i = some b ∧ ∀ k, 0 ≤ k → k < 480 → im (480 * i + k) = b k) := by
    intro hh
    have gen : ∀ (o : Option (Int → Int)), mI im kp i o → (kp i = 0 ∧ o = none) ∨ (∃ b, kp i = 1 ∧ o = some b ∧ ∀ k, 0 ≤ k → k < 480 → im (480 * i + k) = b k) := by
      intro o ho
      unfold mI at ho
      cases o with
      | none => exact Or.inl ⟨ho, rfl⟩
      | some b => exact Or.inr ⟨b, ho.1, rfl, ho.2⟩
    rcases (show i = 0 ∨ i = 1 by omega) with rfl | rfl
    · exact gen s.i0 gm0
    · exact gen s.i1 gm1
  refine cl_of (by decide) (Nat.le_of_ble_eq_true rfl) rfl ?_
  refine r_iload_n (pc := 0) dX9_from_0 rfl <| r_i2l (pc := 1) dX9_from_1 (by omega) <| r_lconst (pc := 2) (v := 0) dX9_from_2 rfl <| r_lconst (pc := 3) (v := 1) dX9_from_3 rfl <| cSi [_, _, _] (pc := 4) dX9_from_4 k_X9_55 ⟨⟨Nat.le_of_ble_eq_true rfl, Nat.le_of_ble_eq_true rfl⟩, ⟨Nat.le_of_ble_eq_true rfl, Nat.le_of_ble_eq_true rfl⟩, Nat.le_of_ble_eq_true rfl⟩ ⟨rfl, rfl⟩ ?_
  refine sp_in (by omega) (by omega) (by omega) (fun q1 => ?_) (fun q1 => ?_)
  · skip
    refine ⟨_, rfl, ?_⟩
    refine r_if_ne (pc := 7) 15 dX9_from_7 (by decide) (by decide) (fun _ => ?_) (fun q => absurd q (by decide))
    rw [if_neg (by omega)] at hQ
    have k01 : kp i = 0 ∨ kp i = 1 := by
      rcases key q1 with ⟨a, b⟩ | ⟨b, a, c⟩
      · exact Or.inl a
      · exact Or.inr a
    refine r_aload_n (pc := 15) dX9_from_15 rfl <| r_getf (pc := 16) dX9_from_16 fA_X9_16 hM' rfl <| r_iload_n (pc := 19) dX9_from_19 rfl <| r_zald (pc := 20) dX9_from_20 g48 (by omega) (by decide) <| r_if_ne (pc := 21) 29 dX9_from_21 (by decide) (by omega) (fun hc_21 => ?_) (fun hc_21 => ?_)
    · skip
      refine r_iconst (pc := 29) dX9_from_29 <| r_istoren_2 (pc := 30) dX9_from_30 rfl <| ?_
      rcases key q1 with ⟨a, b⟩ | ⟨b, a, c, d⟩
      · exfalso; omega
      · rw [c] at hQ
        refine lp_mfrom q1 480 0 h s.bk (by omega) (by omega) g45 g46 g47 (fun h1 bk' a1 a2 a3 => ?_)
        have eb : bk' = cp480 b s.bk := by
          funext j
          rw [a2 j]
          unfold cp480
          by_cases e1 : 0 ≤ j ∧ j < 480
          · rw [if_pos e1, if_pos e1, d j e1.1 e1.2]
          · rw [if_neg e1, if_neg e1]
        rw [eb] at a1
        exact hQ _ (hM.k46 a1 a3) (a3.wk (fun j => by omega))
    · skip
      refine r_aload_n (pc := 24) dX9_from_24 rfl <| cVi [] (pc := 25) dX9_from_25 k_X9_151 ⟨⟨Nat.le_of_ble_eq_true rfl, Nat.le_of_ble_eq_true rfl⟩, ⟨Nat.le_of_ble_eq_true rfl, Nat.le_of_ble_eq_true rfl⟩, Nat.le_of_ble_eq_true rfl⟩ ⟨rfl, rfl⟩ hM' ?_
      refine ms_no hM (fun h1 g1 g2 => ?_)
      refine ⟨_, rfl, ?_⟩
      refine r_iret (pc := 28) dX9_from_28 rfl ⟨Nat.le_of_ble_eq_true rfl, Nat.le_of_ble_eq_true rfl⟩ <| ?_
      rcases key q1 with ⟨a, b⟩ | ⟨b, a, c⟩
      · rw [b] at hQ; exact hQ _ g1 g2
      · exfalso; omega
  · skip
    refine ⟨_, rfl, ?_⟩
    refine r_if_ne (pc := 7) 15 dX9_from_7 (by decide) (by decide) (fun q => absurd q (by decide)) (fun _ => ?_)
    refine r_aload_n (pc := 10) dX9_from_10 rfl <| cVi [] (pc := 11) dX9_from_11 k_X9_69 ⟨⟨Nat.le_of_ble_eq_true rfl, Nat.le_of_ble_eq_true rfl⟩, ⟨Nat.le_of_ble_eq_true rfl, Nat.le_of_ble_eq_true rfl⟩, Nat.le_of_ble_eq_true rfl⟩ ⟨rfl, rfl⟩ hM' ?_
    refine ms_bad hM (fun h1 g1 g2 => ?_)
    refine ⟨_, rfl, ?_⟩
    refine r_iret (pc := 14) dX9_from_14 rfl ⟨Nat.le_of_ble_eq_true rfl, Nat.le_of_ble_eq_true rfl⟩ <| ?_
    rw [if_pos (by omega)] at hQ; exact hQ _ g1 g2
end MP4


