/-! ===== the class: judge, learns ===== -/
section CJd
variable {G : GT} {n : Nat} {h h' : Hp} {Q : PT} {s : SS}
theorem isC.bw (hC : isC h n s) (kB : xB h') (hF : Fr (fun q => 41 ≤ q ∧ q ≤ 43) h h') : isC h' n s := by
  obtain ⟨x1, x2, x3, x4, x5, x6⟩ := isX_iff.mp hC.2.2.2.1
  exact hC.kx (isX_iff.mpr ⟨x1.fr (hF 30 (by omega)), x2.fr (fun q a b => hF q (by omega)), x3.fr (fun q a b => hF q (by omega)), kB, x5.fr (hF 44 (by omega)), x6.fr (fun q a b => hF q (by omega))⟩) (hF.wk (fun q => by omega))
theorem isC.tk (hC : isC h n s) (k30 : xT h') (hF : Fr (fun q => q = 30) h h') : isC h' n s := by
  obtain ⟨x1, x2, x3, x4, x5, x6⟩ := isX_iff.mp hC.2.2.2.1
  exact hC.kx (isX_iff.mpr ⟨k30, x2.fr (fun q a b => hF q (by omega)), x3.fr (fun q a b => hF q (by omega)), x4.fr (fun q a b => hF q (by omega)), x5.fr (hF 44 (by omega)), x6.fr (fun q a b => hF q (by omega))⟩) (hF.wk (fun q => by omega))
theorem isC.sg (hC : isC h n s) (k : isTk h' 23) (hF : Fr (fun q => 23 ≤ q ∧ q < 30) h h') : isC h' n s := by
  obtain ⟨x1, x2, x3, x4, x5, x6⟩ := isX_iff.mp hC.2.2.2.1
  exact hC.kx (isX_iff.mpr ⟨x1.fr (hF 30 (by omega)), x2.fr (fun q a b => hF q (by omega)), x3.fr (fun q a b => hF q (by omega)), x4.fr (fun q a b => hF q (by omega)), x5.fr (hF 44 (by omega)), k⟩) (hF.wk (fun q => by omega))
theorem RP.out {bk bk' kd ag ld rk : Int → Int} (hr : RP bk kd ag ld rk) (hb : ∀ j, 4 ≤ j → j < 36 → bk' j = bk j) : RP bk' kd ag ld rk := fun i a b => by
  rw [hb (4 + 4 * i) (by omega) (by omega), hb (4 + 4 * i + 1) (by omega) (by omega), hb (4 + 4 * i + 2) (by omega) (by omega), hb (4 + 4 * i + 3) (by omega) (by omega)]
  exact hr i a b
/-- a talk by any book, over any bows -/
theorem cs_hold2 {x y : Int} {b : Nat} {its : List IT} {bb : Nat} {b' ow la : Int → Int} (hC : isC h n s) (hI : Inv b') (ho : ∀ j, j < 36 → b' j = s.bk j) (hb : b = 16 ∨ b = 23) (hg : isGB h b its) (hok : itsOk its) (hbb : bb = 7 ∨ bb = 41) (kB : isB h bb ow la) (d5 : Bd ow 0 99) (d6 : Bd la (-1) 7) (ro : RO b' ow la) (hx : 0 ≤ x ∧ x < 8) (hy : 0 ≤ y ∧ y < 8) (hxy : x ≠ y) (hQ : ∀ h', isC h' n s → h' 30 = some (aO 5 [vI (TI its b' x y).1, vI (TI its b' x y).2.1, vI (TI its b' x y).2.2]) → Fr (fun q => q = 30) h h' → Q none n h') : Cl G mX5_hold [vR 30, vR b, vR 2, vR bb, vI x, vI y] n h Q := by
  obtain ⟨kd, ag, ld, rk, ow0, la0, tx, qu, wa, lg, ev, c0, c1, c2, c3, c4, c5, c6, c7, c8, c9, c10, c11, c12, c13, c14, ⟨⟨d1, d2, d3, d4⟩, -⟩, rp, -⟩ := hC.opn
  obtain ⟨ga, gb, gc, c30⟩ := id (isX_iff.mp hC.2.2.2.1).1
  refine sp_hold (pb := 2) (bb := bb) (np := s.bk 0) hg hok ⟨⟨c2, c3, c4, c5, c6⟩, kB, ⟨d1, d2, d3, d4⟩, d5, d6⟩ (laOk_of hI ro) c30 (by omega) (by omega) hx hy hxy (fun h1 k30 hF => ?_)
  rw [talk_cls (rp.out (fun j a c => ho j c)) ro hok hx hy hxy] at k30
  exact hQ h1 (hC.tk ⟨_, _, _, k30⟩ hF) k30 hF
theorem lp_fw {b : Nat} {its : List IT} (hI : Inv s.bk) (hb : b = 16 ∨ b = 23) (hok : itsOk its) : ∀ (q : Nat) (k : Int) (b' ow la : Int → Int) (h : Hp) (l3 l4 l5 : AV), isJ l3 = false → isJ l4 = false → 0 ≤ k → k + q = s.bk 3 → Inv b' → (∀ j, ¬ (36 ≤ j ∧ j < 164) → b' j = s.bk j) → isC h n s → isGB h b its → isB h 41 ow la → Bd ow 0 99 → Bd la (-1) 7 → RO b' ow la →
    (∀ h', isC h' n s → isGB h' b its → Fr (fun q => q = 30 ∨ 41 ≤ q ∧ q ≤ 43) h h' → Q (some (vI (jdG its s.bk q k b'))) n h') → At G mX8_firstWrong 16 [vR 0, vR b, vI k, l3, l4, l5] [] (0, 0, n) h Q := by
  have i0 := hI.1.1
  have i3 := hI.1.2.2.2
  intro q
  induction q with
  | zero =>
    intro k b' ow la h l3 l4 l5 hl3 hl4 hk hq hIb hout hC hg kB d5 d6 ro hQ
    obtain ⟨kd, ag, ld, rk, ow0, la0, tx, qu, wa, lg, ev, c0, c1, -⟩ := hC.opn
    refine r_iload_n (pc := 16) dX8_firstWrong_16 rfl <| r_aload_n (pc := 17) dX8_firstWrong_17 rfl <| r_getf (pc := 18) dX8_firstWrong_18 fA_X8_12 c0 rfl <| r_getf (pc := 21) dX8_firstWrong_21 fA_X8_231 c1 rfl <| r_icmp_ge (pc := 24) 132 dX8_firstWrong_24 (by decide) (by omega) (by omega) (fun hc_24 => ?_) (fun hc_24 => ?_)
    · skip
      refine r_iconst (pc := 132) dX8_firstWrong_132 <| r_iret (pc := 133) dX8_firstWrong_133 rfl ⟨Nat.le_of_ble_eq_true rfl, Nat.le_of_ble_eq_true rfl⟩ <| ?_
      exact hQ h hC hg Fr.rf
    · skip
      exfalso; omega
  | succ q ih =>
    intro k b' ow la h l3 l4 l5 hl3 hl4 hk hq hIb hout hC hg kB d5 d6 ro hQ
    obtain ⟨kd, ag, ld, rk, ow0, la0, tx, qu, wa, lg, ev, c0, c1, c2, c3, c4, c5, c6, c7, c8, c9, c10, c11, c12, c13, c14, ⟨-, -, -, -, -, -, de⟩, -, -, -, -, -, -, re⟩ := hC.opn
    obtain ⟨ga, gb, gc, c30⟩ := id (isX_iff.mp hC.2.2.2.1).1
    have c41 := kB.1
    have evk := hI.2.2.2.2.2.2.2.2.2 k hk (by omega)
    have v0 : ev (k * 3) = s.bk (216 + 3 * k) := by rw [re _ (by omega) (by omega)]; congr 1; omega
    have v1 : ev (k * 3 + 1) = s.bk (216 + 3 * k + 1) := by rw [re _ (by omega) (by omega)]; congr 1; omega
    have v2 : ev (k * 3 + 2) = s.bk (216 + 3 * k + 2) := by rw [re _ (by omega) (by omega)]; congr 1; omega
    simp only [jdG] at hQ
    generalize hA : s.bk (216 + 3 * k) = A at *
    generalize hB : s.bk (216 + 3 * k + 1) = B at *
    generalize hW : s.bk (216 + 3 * k + 2) = W at *
    have hb3 := TI_in (its := its) hIb (x := A) (y := B) (by omega) (by omega) evk.2.2.1
    refine r_iload_n (pc := 16) dX8_firstWrong_16 rfl <| r_aload_n (pc := 17) dX8_firstWrong_17 rfl <| r_getf (pc := 18) dX8_firstWrong_18 fA_X8_12 c0 rfl <| r_getf (pc := 21) dX8_firstWrong_21 fA_X8_231 c1 rfl <| r_icmp_ge (pc := 24) 132 dX8_firstWrong_24 (by decide) (by omega) (by omega) (fun hc_24 => ?_) (fun hc_24 => ?_)
    · skip
      exfalso; omega
    · skip
      refine r_aload_n (pc := 27) dX8_firstWrong_27 rfl <| r_getf (pc := 28) dX8_firstWrong_28 fA_X8_12 c0 rfl <| r_getf (pc := 31) dX8_firstWrong_31 fA_X8_234 c1 rfl <| r_iload_n (pc := 34) dX8_firstWrong_34 rfl <| r_iconst (pc := 35) dX8_firstWrong_35 <| r_imul (pc := 36) dX8_firstWrong_36 <| r_iald (pc := 37) dX8_firstWrong_37 c14 (by omega) (by decide) <| ?_
      rw [v0]
      refine r_istoren_3 (pc := 38) dX8_firstWrong_38 rfl <| r_aload_n (pc := 39) dX8_firstWrong_39 rfl <| r_getf (pc := 40) dX8_firstWrong_40 fA_X8_12 c0 rfl <| r_getf (pc := 43) dX8_firstWrong_43 fA_X8_234 c1 rfl <| r_iload_n (pc := 46) dX8_firstWrong_46 rfl <| r_iconst (pc := 47) dX8_firstWrong_47 <| r_imul (pc := 48) dX8_firstWrong_48 <| r_iconst (pc := 49) dX8_firstWrong_49 <| r_iadd (pc := 50) dX8_firstWrong_50 <| r_iald (pc := 51) dX8_firstWrong_51 c14 (by omega) (by decide) <| ?_
      rw [v1]
      refine r_istore_4 (pc := 52) dX8_firstWrong_52 rfl <| r_aload_n (pc := 54) dX8_firstWrong_54 rfl <| r_getf (pc := 55) dX8_firstWrong_55 fA_X8_12 c0 rfl <| r_getf (pc := 58) dX8_firstWrong_58 fA_X8_234 c1 rfl <| r_iload_n (pc := 61) dX8_firstWrong_61 rfl <| r_iconst (pc := 62) dX8_firstWrong_62 <| r_imul (pc := 63) dX8_firstWrong_63 <| r_iconst (pc := 64) dX8_firstWrong_64 <| r_iadd (pc := 65) dX8_firstWrong_65 <| r_iald (pc := 66) dX8_firstWrong_66 c14 (by omega) (by decide) <| ?_
      rw [v2]
      refine r_istore_5 (pc := 67) dX8_firstWrong_67 rfl <| r_aload_n (pc := 69) dX8_firstWrong_69 rfl <| r_getf (pc := 70) dX8_firstWrong_70 fA_X8_33 c0 rfl <| r_aload_n (pc := 73) dX8_firstWrong_73 rfl <| r_aload_n (pc := 74) dX8_firstWrong_74 rfl <| r_getf (pc := 75) dX8_firstWrong_75 fA_X8_12 c0 rfl <| r_getf (pc := 78) dX8_firstWrong_78 fA_X8_86 c1 rfl <| r_aload_n (pc := 81) dX8_firstWrong_81 rfl <| r_getf (pc := 82) dX8_firstWrong_82 fA_X8_54 c0 rfl <| r_iload_n (pc := 85) dX8_firstWrong_85 rfl <| r_iload (pc := 86) dX8_firstWrong_86 rfl <| cVv [_, _, _, _, _] (pc := 88) dX8_firstWrong_88 k_X8_163 ⟨⟨Nat.le_of_ble_eq_true rfl, Nat.le_of_ble_eq_true rfl⟩, ⟨Nat.le_of_ble_eq_true rfl, Nat.le_of_ble_eq_true rfl⟩, Nat.le_of_ble_eq_true rfl⟩ ⟨rfl, rfl⟩ c30 ?_
      refine cs_hold2 (bb := 41) hC hIb (fun j hj => hout j (by omega)) hb hg hok (Or.inr rfl) kB d5 d6 ro (by omega) (by omega) evk.2.2.1 (fun h1 k1 k30 hF1 => ?_)
      refine ⟨rfl, ?_⟩
      replace c0 := hF1.keep c0 (by omega)
      replace c41 := hF1.keep c41 (by omega)
      clear c30
      have c30 := k30
      have kg := hg.keep hF1 (by omega) (by omega) (by omega) (by omega) (by omega)
      refine r_aload_n (pc := 91) dX8_firstWrong_91 rfl <| r_getf (pc := 92) dX8_firstWrong_92 fA_X8_33 c0 rfl <| r_getf (pc := 95) dX8_firstWrong_95 fA_X8_167 c30 rfl <| r_iload (pc := 98) dX8_firstWrong_98 rfl <| r_icmp_eq (pc := 100) 105 dX8_firstWrong_100 (by decide) (by omega) (by omega) (fun hc_100 => ?_) (fun hc_100 => ?_)
      · skip
        refine r_aload_n (pc := 105) dX8_firstWrong_105 rfl <| r_getf (pc := 106) dX8_firstWrong_106 fA_X8_54 c0 rfl <| r_iload (pc := 109) dX8_firstWrong_109 rfl <| r_iload (pc := 111) dX8_firstWrong_111 rfl <| r_iload_n (pc := 113) dX8_firstWrong_113 rfl <| r_icmp_ne (pc := 114) 122 dX8_firstWrong_114 (by decide) (by omega) (by omega) (fun hc_114 => ?_) (fun hc_114 => ?_)
        · skip
          refine r_iload_n (pc := 122) dX8_firstWrong_122 rfl <| cVv [_, _] (pc := 123) dX8_firstWrong_123 k_X8_176 ⟨⟨Nat.le_of_ble_eq_true rfl, Nat.le_of_ble_eq_true rfl⟩, ⟨Nat.le_of_ble_eq_true rfl, Nat.le_of_ble_eq_true rfl⟩, Nat.le_of_ble_eq_true rfl⟩ ⟨rfl, rfl⟩ c41 ?_
          refine sp_went ⟨c41, hF1.keep kB.2.1 (by omega), hF1.keep kB.2.2 (by omega)⟩ d5 (by omega) (by omega) (fun h2 kB2 hF2 => ?_)
          refine ⟨rfl, ?_⟩
          refine r_iinc_2 (pc := 126) dX8_firstWrong_126 rfl rfl <| r_goto (pc := 129) 16 dX8_firstWrong_129 (by decide) <| ?_
          rw [if_pos (by omega)] at hQ
          have hF : Fr (fun q => q = 30 ∨ 41 ≤ q ∧ q ≤ 43) h h2 := fun q hq => ((hF2 q (by omega)).trans (hF1 q (by omega)))
          have k2 : isC h2 n s := k1.bw ⟨_, _, kB2, wO_bd d5 (by omega), wL_bd d6 (by omega)⟩ (hF2.wk (fun q => by omega))
          refine ih (k + 1) (wentB b' W (A + B - W)) _ _ h2 _ _ _ rfl rfl (by omega) (by omega) (wentB_Inv hIb (by omega) (by omega) (by omega)) (fun j hj => (wentB_out (by omega) (by omega) hj).trans (hout j hj)) k2 (kg.keep hF2 (by omega) (by omega) (by omega) (by omega) (by omega)) kB2 (wO_bd d5 (by omega)) (wL_bd d6 (by omega)) (RO.cg (went_RO ro (by omega) (by omega) (by omega)) (by omega)) (fun h' a1 a2 a3 => hQ h' a1 a2 (fun q hq => (a3 q hq).trans (hF q hq)))
        · skip
          refine r_iload (pc := 117) dX8_firstWrong_117 rfl <| r_goto (pc := 119) 123 dX8_firstWrong_119 (by decide) <| cVv [_, _] (pc := 123) dX8_firstWrong_123 k_X8_176 ⟨⟨Nat.le_of_ble_eq_true rfl, Nat.le_of_ble_eq_true rfl⟩, ⟨Nat.le_of_ble_eq_true rfl, Nat.le_of_ble_eq_true rfl⟩, Nat.le_of_ble_eq_true rfl⟩ ⟨rfl, rfl⟩ c41 ?_
          refine sp_went ⟨c41, hF1.keep kB.2.1 (by omega), hF1.keep kB.2.2 (by omega)⟩ d5 (by omega) (by omega) (fun h2 kB2 hF2 => ?_)
          refine ⟨rfl, ?_⟩
          refine r_iinc_2 (pc := 126) dX8_firstWrong_126 rfl rfl <| r_goto (pc := 129) 16 dX8_firstWrong_129 (by decide) <| ?_
          rw [if_pos (by omega)] at hQ
          have hF : Fr (fun q => q = 30 ∨ 41 ≤ q ∧ q ≤ 43) h h2 := fun q hq => ((hF2 q (by omega)).trans (hF1 q (by omega)))
          have k2 : isC h2 n s := k1.bw ⟨_, _, kB2, wO_bd d5 (by omega), wL_bd d6 (by omega)⟩ (hF2.wk (fun q => by omega))
          refine ih (k + 1) (wentB b' W (A + B - W)) _ _ h2 _ _ _ rfl rfl (by omega) (by omega) (wentB_Inv hIb (by omega) (by omega) (by omega)) (fun j hj => (wentB_out (by omega) (by omega) hj).trans (hout j hj)) k2 (kg.keep hF2 (by omega) (by omega) (by omega) (by omega) (by omega)) kB2 (wO_bd d5 (by omega)) (wL_bd d6 (by omega)) (RO.cg (went_RO ro (by omega) (by omega) (by omega)) (by omega)) (fun h' a1 a2 a3 => hQ h' a1 a2 (fun q hq => (a3 q hq).trans (hF q hq)))
      · skip
        refine r_iload_n (pc := 103) dX8_firstWrong_103 rfl <| r_iret (pc := 104) dX8_firstWrong_104 rfl ⟨Nat.le_of_ble_eq_true rfl, Nat.le_of_ble_eq_true rfl⟩ <| ?_
        rw [if_neg (by omega)] at hQ
        exact hQ h1 k1 kg (hF1.wk (fun q => by omega))
theorem cs_first {b : Nat} {its : List IT} (hC : isC h n s) (hI : Inv s.bk) (hb : b = 16 ∨ b = 23) (hg : isGB h b its) (hok : itsOk its) (hQ : ∀ h', isC h' n s → isGB h' b its → Fr (fun q => q = 30 ∨ 41 ≤ q ∧ q ≤ 43) h h' → Q (some (vI (jdF its s.bk))) n h') : Cl G mX8_firstWrong [vR 0, vR b] n h Q := by
  obtain ⟨kd, ag, ld, rk, ow, la, tx, qu, wa, lg, ev, c0, c1, c2, c3, c4, c5, c6, c7, c8, c9, c10, c11, c12, c13, c14, ⟨-, ⟨d5, d6⟩, -⟩, -, ro, -⟩ := hC.opn
  obtain ⟨-, -, -, ⟨f1, f2, kB, e1, e2⟩, -⟩ := isX_iff.mp hC.2.2.2.1
  have c41 := kB.1
  have i3 := hI.1.2.2.2
  refine cl_of (by decide) (Nat.le_of_ble_eq_true rfl) rfl ?_
  refine r_aload_n (pc := 0) dX8_firstWrong_0 rfl <| r_getf (pc := 1) dX8_firstWrong_1 fA_X8_54 c0 rfl <| r_aload_n (pc := 4) dX8_firstWrong_4 rfl <| r_getf (pc := 5) dX8_firstWrong_5 fA_X8_12 c0 rfl <| r_getf (pc := 8) dX8_firstWrong_8 fA_X8_120 c1 rfl <| cVv [_] (pc := 11) dX8_firstWrong_11 k_X8_245 ⟨⟨Nat.le_of_ble_eq_true rfl, Nat.le_of_ble_eq_true rfl⟩, ⟨Nat.le_of_ble_eq_true rfl, Nat.le_of_ble_eq_true rfl⟩, Nat.le_of_ble_eq_true rfl⟩ ⟨rfl, rfl⟩ c41 ?_
  refine sp_bcopy kB ⟨c7, c8, c9⟩ (by omega) (fun h1 kB1 hF1 => ?_)
  refine ⟨rfl, ?_⟩
  refine r_iconst (pc := 14) dX8_firstWrong_14 <| r_istoren_2 (pc := 15) dX8_firstWrong_15 rfl <| ?_
  have hd5 := icpy_bd (N := 64) d5 e1
  have hd6 := icpy_bd (N := 64) d6 e2
  have hro : RO s.bk (icpy ow f1 0 0 64) (icpy la f2 0 0 64) := ⟨fun i a c => by rw [icpy_in a c]; exact ro.1 i a c, fun x y a c d => by rw [icpy_in (by omega) (by omega), icpy_in (by omega) (by omega)]; exact ro.2 x y a c d⟩
  have k1 : isC h1 n s := hC.bw ⟨_, _, kB1, hd5, hd6⟩ (hF1.wk (fun q => by omega))
  exact lp_fw hI hb hok (s.bk 3).toNat 0 s.bk _ _ h1 _ _ _ rfl rfl (by omega) (by omega) hI (fun j _ => rfl) k1 (hg.keep hF1 (by omega) (by omega) (by omega) (by omega) (by omega)) kB1 hd5 hd6 hro (fun h' a1 a2 a3 => hQ h' a1 a2 (fun q hq => ((a3 q (by omega)).trans (hF1 q (by omega)))))
theorem cs_judge (hC : isC h n s) (hI : Inv s.bk) (hQ : ∀ h', isC h' n (fJudge s).2 → Fr CR h h' → Q (some (vI (fJudge s).1)) n h') : Cl G mX8_judge [vR 0] n h Q := by
  have c0 := hC.1
  unfold fJudge at hQ
  refine cl_of (by decide) (Nat.le_of_ble_eq_true rfl) rfl ?_
  refine r_aload_n (pc := 0) dX8_judge_0 rfl <| cVi [] (pc := 1) dX8_judge_1 k_X8_143 ⟨⟨Nat.le_of_ble_eq_true rfl, Nat.le_of_ble_eq_true rfl⟩, ⟨Nat.le_of_ble_eq_true rfl, Nat.le_of_ble_eq_true rfl⟩, Nat.le_of_ble_eq_true rfl⟩ ⟨rfl, rfl⟩ c0 ?_
  refine cs_faulty hC hI (fun q3 => ?_) (fun q3 => ?_)
  · skip
    refine ⟨_, rfl, ?_⟩
    refine r_if_eq (pc := 4) 14 dX8_judge_4 (by decide) (by decide) (fun q => absurd q (by decide)) (fun _ => ?_)
    refine r_aload_n (pc := 7) dX8_judge_7 rfl <| r_bipush (pc := 8) dX8_judge_8 (by decide) <| cVi [_] (pc := 10) dX8_judge_10 k_X8_147 ⟨⟨Nat.le_of_ble_eq_true rfl, Nat.le_of_ble_eq_true rfl⟩, ⟨Nat.le_of_ble_eq_true rfl, Nat.le_of_ble_eq_true rfl⟩, Nat.le_of_ble_eq_true rfl⟩ ⟨rfl, rfl⟩ c0 ?_
    refine cs_no hC (fun h1 g1 g2 => ?_)
    refine ⟨_, rfl, ?_⟩
    refine r_iret (pc := 13) dX8_judge_13 rfl ⟨Nat.le_of_ble_eq_true rfl, Nat.le_of_ble_eq_true rfl⟩ <| ?_
    rw [if_pos q3] at hQ; exact hQ _ g1 g2
  · skip
    refine ⟨_, rfl, ?_⟩
    refine r_if_eq (pc := 4) 14 dX8_judge_4 (by decide) (by decide) (fun _ => ?_) (fun q => absurd q (by decide))
    refine r_aload_n (pc := 14) dX8_judge_14 rfl <| r_aload_n (pc := 15) dX8_judge_15 rfl <| r_getf (pc := 16) dX8_judge_16 fA_X8_23 c0 rfl <| cVi [_] (pc := 19) dX8_judge_19 k_X8_237 ⟨⟨Nat.le_of_ble_eq_true rfl, Nat.le_of_ble_eq_true rfl⟩, ⟨Nat.le_of_ble_eq_true rfl, Nat.le_of_ble_eq_true rfl⟩, Nat.le_of_ble_eq_true rfl⟩ ⟨rfl, rfl⟩ c0 ?_
    refine cs_first hC hI (Or.inl rfl) (hC.2.2.1.good q3) (parse_ok (tx := txB s.bk) hI.1.2.1.1).1 (fun h1 g1 g2 g3 => ?_)
    refine ⟨_, rfl, ?_⟩
    refine r_iret (pc := 22) dX8_judge_22 rfl ⟨Nat.le_of_ble_eq_true rfl, Nat.le_of_ble_eq_true rfl⟩ <| ?_
    rw [if_neg (fun q => q q3)] at hQ; exact hQ _ g1 (g3.wk (fun q => by omega))
theorem sp_only {w : Int} (hk : isTk h 23) (hw : 0 ≤ w ∧ w ≤ 9) (hQ : ∀ h', isGB h' 23 (onlyI w) → isTk h' 23 → Fr (fun q => 23 ≤ q ∧ q < 30) h h' → Q none n h') : Cl G mX0_holdOnly [vR 23, vI w] n h Q := by
  obtain ⟨ro, co, le, ak, fa, sz, ab, len, nx, pl, va, tt, g0, g1, g2, g3, g4, g5, b1, b2, b3⟩ := hk
  change h 23 = some (aO 0 [vR 24, vI fa, vI sz, vI ab, vR 26, vR 27, vR 28, vR 29]) at g0
  change h 26 = some (aA 9 ro) at g2
  change h 27 = some (aA 9 co) at g3
  change h 28 = some (aA 9 le) at g4
  change h 29 = some (aA 10 ak) at g5
  change h 24 = _ at g1
  refine cl_of (by decide) (Nat.le_of_ble_eq_true rfl) rfl ?_
  refine r_aload_n (pc := 0) dX0_holdOnly_0 rfl <| r_iconst (pc := 1) dX0_holdOnly_1 <| r_putf (pc := 2) dX0_holdOnly_2 fP_X0_18 rfl rfl g0 rfl (fun h_2 g0 hF_2 => ?_)
  simp only [List.set_cons_zero, List.set_cons_succ] at g0
  replace g2 := hF_2.keep g2 (by omega)
  replace g3 := hF_2.keep g3 (by omega)
  replace g4 := hF_2.keep g4 (by omega)
  replace g5 := hF_2.keep g5 (by omega)
  refine r_aload_n (pc := 5) dX0_holdOnly_5 rfl <| r_iconst (pc := 6) dX0_holdOnly_6 <| r_putf (pc := 7) dX0_holdOnly_7 fP_X0_22 rfl rfl g0 rfl (fun h_7 g0 hF_7 => ?_)
  simp only [List.set_cons_zero, List.set_cons_succ] at g0
  replace g2 := hF_7.keep g2 (by omega)
  replace g3 := hF_7.keep g3 (by omega)
  replace g4 := hF_7.keep g4 (by omega)
  replace g5 := hF_7.keep g5 (by omega)
  refine r_aload_n (pc := 10) dX0_holdOnly_10 rfl <| r_iconst (pc := 11) dX0_holdOnly_11 <| r_putf (pc := 12) dX0_holdOnly_12 fP_X0_25 rfl rfl g0 rfl (fun h_12 g0 hF_12 => ?_)
  simp only [List.set_cons_zero, List.set_cons_succ] at g0
  replace g2 := hF_12.keep g2 (by omega)
  replace g3 := hF_12.keep g3 (by omega)
  replace g4 := hF_12.keep g4 (by omega)
  replace g5 := hF_12.keep g5 (by omega)
  refine r_aload_n (pc := 15) dX0_holdOnly_15 rfl <| r_getf (pc := 16) dX0_holdOnly_16 fA_X0_28 g0 rfl <| r_iconst (pc := 19) dX0_holdOnly_19 <| r_iconst (pc := 20) dX0_holdOnly_20 <| r_iast (pc := 21) dX0_holdOnly_21 g2 (by omega) (by decide) (fun h_21 g2 hF_21 => ?_)
  replace g0 := hF_21.keep g0 (by omega)
  replace g3 := hF_21.keep g3 (by omega)
  replace g4 := hF_21.keep g4 (by omega)
  replace g5 := hF_21.keep g5 (by omega)
  refine r_aload_n (pc := 22) dX0_holdOnly_22 rfl <| r_getf (pc := 23) dX0_holdOnly_23 fA_X0_32 g0 rfl <| r_iconst (pc := 26) dX0_holdOnly_26 <| r_iload_n (pc := 27) dX0_holdOnly_27 rfl <| r_iast (pc := 28) dX0_holdOnly_28 g3 (by omega) (by decide) (fun h_28 g3 hF_28 => ?_)
  replace g0 := hF_28.keep g0 (by omega)
  replace g2 := hF_28.keep g2 (by omega)
  replace g4 := hF_28.keep g4 (by omega)
  replace g5 := hF_28.keep g5 (by omega)
  refine r_aload_n (pc := 29) dX0_holdOnly_29 rfl <| r_getf (pc := 30) dX0_holdOnly_30 fA_X0_35 g0 rfl <| r_iconst (pc := 33) dX0_holdOnly_33 <| r_iconst (pc := 34) dX0_holdOnly_34 <| r_iast (pc := 35) dX0_holdOnly_35 g4 (by omega) (by decide) (fun h_35 g4 hF_35 => ?_)
  replace g0 := hF_35.keep g0 (by omega)
  replace g2 := hF_35.keep g2 (by omega)
  replace g3 := hF_35.keep g3 (by omega)
  replace g5 := hF_35.keep g5 (by omega)
  refine r_aload_n (pc := 36) dX0_holdOnly_36 rfl <| cVv [] (pc := 37) dX0_holdOnly_37 k_X0_45 ⟨⟨Nat.le_of_ble_eq_true rfl, Nat.le_of_ble_eq_true rfl⟩, ⟨Nat.le_of_ble_eq_true rfl, Nat.le_of_ble_eq_true rfl⟩, Nat.le_of_ble_eq_true rfl⟩ ⟨rfl, rfl⟩ g0 ?_
  refine sp_sort (m := 1) (b := 23) g0 g2 g5 (by omega) (b1.iu (by omega)) (fun h1 ak1 k1 k2 hF1 => ?_)
  refine ⟨rfl, ?_⟩
  refine r_vret (pc := 40) dX0_holdOnly_40 rfl ⟨Nat.le_of_ble_eq_true rfl, Nat.le_of_ble_eq_true rfl⟩ <| ?_
  have hF : Fr (fun q => 23 ≤ q ∧ q < 30 ∧ q ≠ 24) h h1 := fun q hq => ((hF1 q (by omega)).trans ((hF_35 q (by omega)).trans ((hF_28 q (by omega)).trans ((hF_21 q (by omega)).trans ((hF_12 q (by omega)).trans ((hF_7 q (by omega)).trans (hF_2 q (by omega))))))))
  refine hQ h1 ⟨_, _, _, _, 0, hF1.keep g0 (by omega), hF1.keep g2 (by omega), hF1.keep g3 (by omega), hF1.keep g4 (by omega), k1, ⟨b1.iu (by omega), b2.iu (by omega), b3.iu (by omega)⟩, show (1 : Nat) ≤ 9 by decide, fun j q hq => ?_, fun j => ?_, k2⟩ ⟨_, _, _, _, _, _, _, _, _, _, _, _, hF1.keep g0 (by omega), hF.keep g1 (by omega), hF1.keep g2 (by omega), hF1.keep g3 (by omega), hF1.keep g4 (by omega), k1, b1.iu (by omega), b2.iu (by omega), b3.iu (by omega)⟩ (hF.wk (fun q => by omega))
  · unfold onlyI at hq
    match j, hq with
    | 0, hq => cases hq; exact ⟨iu_s _ _ _, iu_s _ _ _, iu_s _ _ _⟩
    | j + 1, hq => cases hq
  · unfold onlyI
    match j with
    | 0 => simp
    | j + 1 => simp
theorem onlyI_ok {w : Int} (hw : 0 ≤ w ∧ w ≤ 9) : itsOk (onlyI w) := by
  intro q hq
  unfold onlyI at hq
  rw [List.mem_singleton.mp hq]
  exact ⟨⟨show (1 : Int) ≤ 1 by decide, show (1 : Int) ≤ 9 by decide⟩, Or.inl rfl, hw, ⟨show (1 : Int) ≤ 1 by decide, show (1 : Int) ≤ 99 by decide⟩⟩
theorem lp_clearns (hI : Inv s.bk) : ∀ (q w : Nat) (h : Hp), w + q = 10 → isC h n s →
    (∀ h', isC h' n s → Fr CR h h' → Q (some (vI ((bitsN (fun w => decide (jdF (onlyI w) s.bk = -1)) 10 : Nat) : Int))) n h') →
    At G mX8_learns 4 [vR 0, vI ((bitsN (fun w => decide (jdF (onlyI w) s.bk = -1)) w : Nat) : Int), vI (w : Int)] [] (0, 0, n) h Q := by
  have i3 := hI.1.2.2.2
  intro q
  induction q with
  | zero =>
    intro w h hw hC hQ
    have e1 : w = 10 := by omega
    subst e1
    refine r_iload_n (pc := 4) dX8_learns_4 rfl <| r_bipush (pc := 5) dX8_learns_5 (by decide) <| r_icmp_ge (pc := 7) 42 dX8_learns_7 (by decide) (by omega) (by omega) (fun hc_7 => ?_) (fun hc_7 => ?_)
    · skip
      refine r_iload_n (pc := 42) dX8_learns_42 rfl <| r_iret (pc := 43) dX8_learns_43 rfl ⟨Nat.le_of_ble_eq_true rfl, Nat.le_of_ble_eq_true rfl⟩ <| ?_
      exact hQ h hC Fr.rf
    · skip
      exfalso; omega
  | succ q ih =>
    intro w h hw hC hQ
    have c0 := hC.1
    have hj := @jdG_in (onlyI w) s.bk (s.bk 3).toNat 0 s.bk (by omega)
    change -1 ≤ jdF (onlyI w) s.bk ∧ jdF (onlyI w) s.bk < 0 + ((s.bk 3).toNat : Int) + 1 at hj
    obtain ⟨-, -, -, -, -, x6⟩ := isX_iff.mp hC.2.2.2.1
    obtain ⟨ro, co, le, ak, fa, sz, ab, len, nx, pl, va, tt, g0, -⟩ := id x6
    change h 23 = some (aO 0 [vR 24, vI fa, vI sz, vI ab, vR 26, vR 27, vR 28, vR 29]) at g0
    refine r_iload_n (pc := 4) dX8_learns_4 rfl <| r_bipush (pc := 5) dX8_learns_5 (by decide) <| r_icmp_ge (pc := 7) 42 dX8_learns_7 (by decide) (by omega) (by omega) (fun hc_7 => ?_) (fun hc_7 => ?_)
    · skip
      exfalso; omega
    · skip
      refine r_aload_n (pc := 10) dX8_learns_10 rfl <| r_getf (pc := 11) dX8_learns_11 fA_X8_27 c0 rfl <| r_iload_n (pc := 14) dX8_learns_14 rfl <| cVv [_] (pc := 15) dX8_learns_15 k_X8_241 ⟨⟨Nat.le_of_ble_eq_true rfl, Nat.le_of_ble_eq_true rfl⟩, ⟨Nat.le_of_ble_eq_true rfl, Nat.le_of_ble_eq_true rfl⟩, Nat.le_of_ble_eq_true rfl⟩ ⟨rfl, rfl⟩ g0 ?_
      refine sp_only (w := (w : Int)) x6 (by omega) (fun h1 k1 k1' hF1 => ?_)
      refine ⟨rfl, ?_⟩
      have k2 := hC.sg k1' hF1
      replace c0 := hF1.keep c0 (by omega)
      refine r_aload_n (pc := 18) dX8_learns_18 rfl <| r_aload_n (pc := 19) dX8_learns_19 rfl <| r_getf (pc := 20) dX8_learns_20 fA_X8_27 c0 rfl <| cVi [_] (pc := 23) dX8_learns_23 k_X8_237 ⟨⟨Nat.le_of_ble_eq_true rfl, Nat.le_of_ble_eq_true rfl⟩, ⟨Nat.le_of_ble_eq_true rfl, Nat.le_of_ble_eq_true rfl⟩, Nat.le_of_ble_eq_true rfl⟩ ⟨rfl, rfl⟩ c0 ?_
      refine cs_first k2 hI (Or.inr rfl) k1 (onlyI_ok (by omega)) (fun h2 a1 a2 a3 => ?_)
      refine ⟨_, rfl, ?_⟩
      have hF2 : Fr CR h h2 := fun j hj => ((a3 j (by omega)).trans (hF1 j (by omega)))
      refine r_iconst (pc := 26) dX8_learns_26 <| r_icmp_ne (pc := 27) 36 dX8_learns_27 (by decide) (by omega) (by omega) (fun hc_27 => ?_) (fun hc_27 => ?_)
      · skip
        refine r_iinc_2 (pc := 36) dX8_learns_36 rfl rfl <| r_goto (pc := 39) 4 dX8_learns_39 (by decide) <| ?_
        have hs := ih (w + 1) h2 (by omega) a1 (fun h' c1 c2 => hQ h' c1 (fun j hj => (c2 j hj).trans (hF2 j hj)))
        first
          | (rw [show bitsN (fun w : Nat => decide (jdF (onlyI w) s.bk = -1)) (w + 1) = bitsN (fun w : Nat => decide (jdF (onlyI w) s.bk = -1)) w ||| 2 ^ w from by simp [bitsN, hc_27]] at hs
             exact hs)
          | (rw [show bitsN (fun w : Nat => decide (jdF (onlyI w) s.bk = -1)) (w + 1) = bitsN (fun w : Nat => decide (jdF (onlyI w) s.bk = -1)) w from by simp [bitsN, hc_27]] at hs
             exact hs)
      · skip
        refine r_iload_n (pc := 30) dX8_learns_30 rfl <| r_iconst (pc := 31) dX8_learns_31 <| r_iload_n (pc := 32) dX8_learns_32 rfl <| r_ishl (pc := 33) ((2 ^ w : Nat) : Int) dX8_learns_33 (shl10 (by omega)) <| r_ior (pc := 34) ((bitsN (fun w => decide (jdF (onlyI w) s.bk = -1)) w ||| 2 ^ w : Nat) : Int) dX8_learns_34 (i_orN _ _) <| r_istoren_1 (pc := 35) dX8_learns_35 rfl <| r_iinc_2 (pc := 36) dX8_learns_36 rfl rfl <| r_goto (pc := 39) 4 dX8_learns_39 (by decide) <| ?_
        have hs := ih (w + 1) h2 (by omega) a1 (fun h' c1 c2 => hQ h' c1 (fun j hj => (c2 j hj).trans (hF2 j hj)))
        first
          | (rw [show bitsN (fun w : Nat => decide (jdF (onlyI w) s.bk = -1)) (w + 1) = bitsN (fun w : Nat => decide (jdF (onlyI w) s.bk = -1)) w ||| 2 ^ w from by simp [bitsN, hc_27]] at hs
             exact hs)
          | (rw [show bitsN (fun w : Nat => decide (jdF (onlyI w) s.bk = -1)) (w + 1) = bitsN (fun w : Nat => decide (jdF (onlyI w) s.bk = -1)) w from by simp [bitsN, hc_27]] at hs
             exact hs)
theorem cs_learns (hC : isC h n s) (hI : Inv s.bk) (hQ : ∀ h', isC h' n (fLearns s).2 → Fr CR h h' → Q (some (vI (fLearns s).1)) n h') : Cl G mX8_learns [vR 0] n h Q := by
  unfold fLearns at hQ
  refine cl_of (by decide) (Nat.le_of_ble_eq_true rfl) rfl ?_
  refine r_iconst (pc := 0) dX8_learns_0 <| r_istoren_1 (pc := 1) dX8_learns_1 rfl <| r_iconst (pc := 2) dX8_learns_2 <| r_istoren_2 (pc := 3) dX8_learns_3 rfl <| ?_
  exact lp_clearns hI 10 0 h (by omega) hC hQ
end CJd

