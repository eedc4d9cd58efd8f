/-! ===== the class: have, firsts ===== -/
section CHv
variable {G : GT} {n : Nat} {h h' : Hp} {Q : PT} {s : SS}
theorem isC.ld {ld : Int → Int} {p l : Int} (hC : isC h n s) (hI : Inv s.bk) (hp : 0 ≤ p ∧ p < 8) (hl : 0 ≤ l ∧ l ≤ 9) (k0 : h 5 = some (aA 8 ld)) (k : h' 5 = some (aA 8 (iu ld p l))) (hF : Fr (fun q => q = 5) h h') : isC h' n (s.sbk (iu s.bk (4 + 4 * p + 2) l)) := by
  obtain ⟨kd, ag, ld', rk, ow, la, tx, qu, wa, lg, ev, c0, c1, c2, c3, c4, c5, c6, c7, c8, c9, c10, c11, c12, c13, c14, ⟨⟨d1, d2, d3, d4⟩, -⟩, rp, -⟩ := hC.opn
  obtain ⟨u0, u1, u2, u3, u4, u5, u6, u7⟩ := isW_iff.mp hC.2.1
  have e : ld' = ld := by
    rw [k0] at c5
    simp only [Option.some.injEq, aA, Sum.inl.injEq, Prod.mk.injEq, true_and] at c5
    exact c5.symm
  subst e
  have eo : ∀ j, ¬ (j = 4 + 4 * p + 2) → iu s.bk (4 + 4 * p + 2) l j = s.bk j := fun j hj => iu_n hj
  refine hC.wld hI ?_ ⟨kd, ag, iu ld' p l, rk, ⟨?_, hF.keep c3 (by omega), hF.keep c4 (by omega), k, hF.keep c6 (by omega)⟩, ⟨d1, d2, d3.iu hl, d4⟩, fun i a b => ?_⟩ (u2.fr (fun q a b => hF q (by omega)) (fun j a b => eo j (by omega))) (u4.fr (hF 11 (by omega)) (fun j a b => eo j (by omega))) (u5.fr (hF 12 (by omega)) (fun j a b => eo j (by omega))) (u6.fr (hF 13 (by omega)) (fun j a b => eo j (by omega))) (u7.fr (hF 14 (by omega)) (fun j a b => eo j (by omega))) (fun j hj => eo j (by omega)) (hC.2.2.2.1.fr (fun q a b => hF q (by omega))) (hF.wk (fun q => by omega))
  · rw [oW_eq (bk := s.bk) (eo 1 (by omega)) (eo 2 (by omega)) (eo 3 (by omega))]
    exact (hF 1 (by omega)).trans u0
  · rw [eo 0 (by omega)]; exact (hF 2 (by omega)).trans c2
  · obtain ⟨r1, r2, r3, r4⟩ := rp i a b
    rw [eo _ (by omega), eo _ (by omega), eo (4 + 4 * i + 3) (by omega)]
    refine ⟨r1, r2, ?_, r4⟩
    by_cases ei : i = p
    · rw [ei, iu_s, iu_s]
    · rw [iu_n ei, eo _ (by omega)]; exact r3
theorem cs_goes {p o f x y : Int} (hC : isC h n s) (hI : Inv s.bk) (hok : okB s.bk) (hp : 0 ≤ p ∧ p < 8) (ho : 0 ≤ o ∧ o < 8) (hpo : p ≠ o) (hf : f = 0 ∧ x = o ∧ y = p ∨ f = 1 ∧ x = p ∧ y = o)
    (h1 : (TB s.bk x y).1 = p → ∀ h', isC h' n s → Fr (fun q => q = 30) h h' → Q (some (vI 1)) n h') (h0 : ¬ (TB s.bk x y).1 = p → ∀ h', isC h' n s → Fr (fun q => q = 30) h h' → Q (some (vI 0)) n h') : Cl G mX8_goesFirst [vR 0, vI p, vI o, vI f] n h Q := by
  obtain ⟨kd, ag, ld, rk, ow, la, tx, qu, wa, lg, ev, c0, c1, c2, c3, c4, c5, c6, c7, -⟩ := hC.opn
  obtain ⟨ga, gb, gc, c30⟩ := id (isX_iff.mp hC.2.2.2.1).1
  have hb3 := TB_3 hI (x := x) (y := y) (by omega) (by omega) (by omega)
  refine cl_of (by decide) (Nat.le_of_ble_eq_true rfl) rfl ?_
  refine r_iload_n (pc := 0) dX8_goesFirst_0 rfl <| r_if_eq (pc := 1) 34 dX8_goesFirst_1 (by decide) (by omega) (fun hc_1 => ?_) (fun hc_1 => ?_)
  · skip
    refine r_aload_n (pc := 34) dX8_goesFirst_34 rfl <| r_getf (pc := 35) dX8_goesFirst_35 fA_X8_33 c0 rfl <| r_aload_n (pc := 38) dX8_goesFirst_38 rfl <| r_getf (pc := 39) dX8_goesFirst_39 fA_X8_23 c0 rfl <| r_aload_n (pc := 42) dX8_goesFirst_42 rfl <| r_getf (pc := 43) dX8_goesFirst_43 fA_X8_12 c0 rfl <| r_getf (pc := 46) dX8_goesFirst_46 fA_X8_86 c1 rfl <| r_aload_n (pc := 49) dX8_goesFirst_49 rfl <| r_getf (pc := 50) dX8_goesFirst_50 fA_X8_12 c0 rfl <| r_getf (pc := 53) dX8_goesFirst_53 fA_X8_120 c1 rfl <| r_iload_n (pc := 56) dX8_goesFirst_56 rfl <| r_iload_n (pc := 57) dX8_goesFirst_57 rfl <| cVv [_, _, _, _, _] (pc := 58) dX8_goesFirst_58 k_X8_163 ⟨⟨Nat.le_of_ble_eq_true rfl, Nat.le_of_ble_eq_true rfl⟩, ⟨Nat.le_of_ble_eq_true rfl, Nat.le_of_ble_eq_true rfl⟩, Nat.le_of_ble_eq_true rfl⟩ ⟨rfl, rfl⟩ c30 ?_
    have ex : x = o := by omega
    have ey : y = p := by omega
    subst ex ey
    refine cs_hold hC hI hok (by omega) (by omega) (by omega) (fun h2 k1 k30 hF => ?_)
    refine ⟨rfl, ?_⟩
    replace c0 := hF.keep c0 (by omega)
    clear c30
    have c30 := k30
    refine r_aload_n (pc := 61) dX8_goesFirst_61 rfl <| r_getf (pc := 62) dX8_goesFirst_62 fA_X8_33 c0 rfl <| r_getf (pc := 65) dX8_goesFirst_65 fA_X8_167 c30 rfl <| r_iload_n (pc := 68) dX8_goesFirst_68 rfl <| r_icmp_ne (pc := 69) 76 dX8_goesFirst_69 (by decide) (by omega) (by omega) (fun hc_69 => ?_) (fun hc_69 => ?_)
    · skip
      refine r_iconst (pc := 76) dX8_goesFirst_76 <| r_zret (pc := 77) dX8_goesFirst_77 rfl (by omega) ⟨Nat.le_of_ble_eq_true rfl, Nat.le_of_ble_eq_true rfl⟩ <| ?_
      first
        | exact h1 (by assumption) h2 k1 hF
        | exact h0 (by assumption) h2 k1 hF
    · skip
      refine r_iconst (pc := 72) dX8_goesFirst_72 <| r_goto (pc := 73) 77 dX8_goesFirst_73 (by decide) <| r_zret (pc := 77) dX8_goesFirst_77 rfl (by omega) ⟨Nat.le_of_ble_eq_true rfl, Nat.le_of_ble_eq_true rfl⟩ <| ?_
      first
        | exact h1 (by assumption) h2 k1 hF
        | exact h0 (by assumption) h2 k1 hF
  · skip
    refine r_aload_n (pc := 4) dX8_goesFirst_4 rfl <| r_getf (pc := 5) dX8_goesFirst_5 fA_X8_33 c0 rfl <| r_aload_n (pc := 8) dX8_goesFirst_8 rfl <| r_getf (pc := 9) dX8_goesFirst_9 fA_X8_23 c0 rfl <| r_aload_n (pc := 12) dX8_goesFirst_12 rfl <| r_getf (pc := 13) dX8_goesFirst_13 fA_X8_12 c0 rfl <| r_getf (pc := 16) dX8_goesFirst_16 fA_X8_86 c1 rfl <| r_aload_n (pc := 19) dX8_goesFirst_19 rfl <| r_getf (pc := 20) dX8_goesFirst_20 fA_X8_12 c0 rfl <| r_getf (pc := 23) dX8_goesFirst_23 fA_X8_120 c1 rfl <| r_iload_n (pc := 26) dX8_goesFirst_26 rfl <| r_iload_n (pc := 27) dX8_goesFirst_27 rfl <| cVv [_, _, _, _, _] (pc := 28) dX8_goesFirst_28 k_X8_163 ⟨⟨Nat.le_of_ble_eq_true rfl, Nat.le_of_ble_eq_true rfl⟩, ⟨Nat.le_of_ble_eq_true rfl, Nat.le_of_ble_eq_true rfl⟩, Nat.le_of_ble_eq_true rfl⟩ ⟨rfl, rfl⟩ c30 ?_
    have ex : x = p := by omega
    have ey : y = o := by omega
    subst ex ey
    refine cs_hold hC hI hok (by omega) (by omega) (by omega) (fun h2 k1 k30 hF => ?_)
    refine ⟨rfl, ?_⟩
    replace c0 := hF.keep c0 (by omega)
    clear c30
    have c30 := k30
    refine r_goto (pc := 31) 61 dX8_goesFirst_31 (by decide) <| r_aload_n (pc := 61) dX8_goesFirst_61 rfl <| r_getf (pc := 62) dX8_goesFirst_62 fA_X8_33 c0 rfl <| r_getf (pc := 65) dX8_goesFirst_65 fA_X8_167 c30 rfl <| r_iload_n (pc := 68) dX8_goesFirst_68 rfl <| r_icmp_ne (pc := 69) 76 dX8_goesFirst_69 (by decide) (by omega) (by omega) (fun hc_69 => ?_) (fun hc_69 => ?_)
    · skip
      refine r_iconst (pc := 76) dX8_goesFirst_76 <| r_zret (pc := 77) dX8_goesFirst_77 rfl (by omega) ⟨Nat.le_of_ble_eq_true rfl, Nat.le_of_ble_eq_true rfl⟩ <| ?_
      first
        | exact h1 (by assumption) h2 k1 hF
        | exact h0 (by assumption) h2 k1 hF
    · skip
      refine r_iconst (pc := 72) dX8_goesFirst_72 <| r_goto (pc := 73) 77 dX8_goesFirst_73 (by decide) <| r_zret (pc := 77) dX8_goesFirst_77 rfl (by omega) ⟨Nat.le_of_ble_eq_true rfl, Nat.le_of_ble_eq_true rfl⟩ <| ?_
      first
        | exact h1 (by assumption) h2 k1 hF
        | exact h0 (by assumption) h2 k1 hF
theorem chv_56 {p o f hd fd ld : Int} (hf : 0 ≤ fd ∧ fd ≤ 9) (hl : 0 ≤ ld ∧ ld ≤ 10) (hQ : At G mX8_have 103 [vR 0, vI p, vI o, vI f, vI hd, vI fd, vI ld] [] (0, 0, n) h Q) : At G mX8_have 56 [vR 0, vI p, vI o, vI f, vI hd, vI fd, vI ld] [] (0, 0, n) h Q := by
  refine r_iload (pc := 56) dX8_have_56 rfl <| r_bipush (pc := 58) dX8_have_58 (by decide) <| r_icmp_gt (pc := 60) 103 dX8_have_60 (by decide) (by omega) (by omega) (fun hc_60 => ?_) (fun hc_60 => ?_)
  · skip
    exact hQ
  · skip
    refine r_iload (pc := 63) dX8_have_63 rfl <| r_iconst (pc := 65) dX8_have_65 <| r_icmp_ne (pc := 66) 103 dX8_have_66 (by decide) (by omega) (by omega) (fun hc_66 => ?_) (fun hc_66 => ?_)
    · skip
      exact hQ
    · skip
      exfalso; omega
theorem lp_chave {p o f hd x y : Int} (hI : Inv s.bk) (hok : okB s.bk) (hp : 0 ≤ p ∧ p < 8) (ho : 0 ≤ o ∧ o < 8) (hpo : p ≠ o) (hf : f = 0 ∧ x = o ∧ y = p ∨ f = 1 ∧ x = p ∧ y = o) :
    ∀ (q : Nat) (ld : Int) (h : Hp) (b' : Int → Int), 0 ≤ ld → ld + q = 10 → isC h n (s.sbk b') → Inv b' → (∀ j, j ≠ 4 + 4 * p + 2 → b' j = s.bk j) →
    (∀ h' b'' ld', isC h' n (s.sbk b'') → Inv b'' → (∀ j, j ≠ 4 + 4 * p + 2 → b'' j = s.bk j) → Fr (fun j => j = 5 ∨ j = 30) h h' → At G mX8_have 103 [vR 0, vI p, vI o, vI f, vI hd, vI (hvG (itB s.bk) s.bk p x y q ld), vI ld'] [] (0, 0, n) h' Q) →
    At G mX8_have 56 [vR 0, vI p, vI o, vI f, vI hd, vI (-1), vI ld] [] (0, 0, n) h Q := by
  intro q
  induction q with
  | zero =>
    intro ld h b' hl hq hC hIb hb hQ
    refine r_iload (pc := 56) dX8_have_56 rfl <| r_bipush (pc := 58) dX8_have_58 (by decide) <| r_icmp_gt (pc := 60) 103 dX8_have_60 (by decide) (by omega) (by omega) (fun hc_60 => ?_) (fun hc_60 => ?_)
    · skip
      exact hQ h b' ld hC hIb hb Fr.rf
    · skip
      exfalso; omega
  | succ q ih =>
    intro ld h b' hl hq hC hIb hb hQ
    obtain ⟨kd, ag, ldA, rk, ow, la, tx, qu, wa, lg, ev, c0, c1, c2, c3, c4, c5, c6, c7, -⟩ := hC.opn
    have eb : iu b' (4 + 4 * p + 2) ld = iu s.bk (4 + 4 * p + 2) ld := by
      funext j
      by_cases ej : j = 4 + 4 * p + 2
      · rw [ej, iu_s, iu_s]
      · rw [iu_n ej, iu_n ej, hb j ej]
    have hI' := hI.load hp (l := ld) (by omega)
    have epr : parse (txB (iu s.bk (4 + 4 * p + 2) ld)) (iu s.bk (4 + 4 * p + 2) ld 1) = parse (txB s.bk) (s.bk 1) := prs_eq hI (iu_n (by omega)) (fun j a b => iu_n (by omega))
    have hok' : okB (iu s.bk (4 + 4 * p + 2) ld) := by
      show (parse (txB (iu s.bk (4 + 4 * p + 2) ld)) (iu s.bk (4 + 4 * p + 2) ld 1)).1 = -1
      rw [epr]; exact hok
    have eT : TB (iu s.bk (4 + 4 * p + 2) ld) x y = TI (itB s.bk) (iu s.bk (4 + 4 * p + 2) ld) x y := by
      unfold TB
      rw [show itB (iu s.bk (4 + 4 * p + 2) ld) = itB s.bk from congrArg Prod.snd epr]
    simp only [hvG] at hQ
    rw [← eT] at hQ
    have c5o := c5
    refine r_iload (pc := 56) dX8_have_56 rfl <| r_bipush (pc := 58) dX8_have_58 (by decide) <| r_icmp_gt (pc := 60) 103 dX8_have_60 (by decide) (by omega) (by omega) (fun hc_60 => ?_) (fun hc_60 => ?_)
    · skip
      exfalso; omega
    · skip
      refine r_iload (pc := 63) dX8_have_63 rfl <| r_iconst (pc := 65) dX8_have_65 <| r_icmp_ne (pc := 66) 103 dX8_have_66 (by decide) (by decide) (by decide) (fun q => absurd q (by decide)) (fun _ => ?_)
      refine r_aload_n (pc := 69) dX8_have_69 rfl <| r_getf (pc := 70) dX8_have_70 fA_X8_12 c0 rfl <| r_getf (pc := 73) dX8_have_73 fA_X8_86 c1 rfl <| r_getf (pc := 76) dX8_have_76 fA_X8_255 c2 rfl <| r_iload_n (pc := 79) dX8_have_79 rfl <| r_iload (pc := 80) dX8_have_80 rfl <| r_iast (pc := 82) dX8_have_82 c5 (by omega) (by decide) (fun h_82 c5 hF_82 => ?_)
      replace c0 := hF_82.keep c0 (by omega)
      replace c1 := hF_82.keep c1 (by omega)
      replace c2 := hF_82.keep c2 (by omega)
      replace c7 := hF_82.keep c7 (by omega)
      refine r_aload_n (pc := 83) dX8_have_83 rfl <| r_iload_n (pc := 84) dX8_have_84 rfl <| r_iload_n (pc := 85) dX8_have_85 rfl <| r_iload_n (pc := 86) dX8_have_86 rfl <| cVi [_, _, _] (pc := 87) dX8_have_87 k_X8_258 ⟨⟨Nat.le_of_ble_eq_true rfl, Nat.le_of_ble_eq_true rfl⟩, ⟨Nat.le_of_ble_eq_true rfl, Nat.le_of_ble_eq_true rfl⟩, Nat.le_of_ble_eq_true rfl⟩ ⟨rfl, rfl⟩ c0 ?_
      have k1 : isC h_82 n (s.sbk (iu s.bk (4 + 4 * p + 2) ld)) := by
        rw [← eb]
        exact hC.ld hIb hp (l := ld) (by omega) c5o c5 hF_82
      refine cs_goes k1 hI' hok' hp ho hpo hf (fun q1 h2 k2 hF2 => ?_) (fun q1 h2 k2 hF2 => ?_)
      · skip
        refine ⟨_, rfl, ?_⟩
        refine r_if_eq (pc := 90) 97 dX8_have_90 (by decide) (by decide) (fun q => absurd q (by decide)) (fun _ => ?_)
        refine r_iload (pc := 93) dX8_have_93 rfl <| r_istore_5 (pc := 95) dX8_have_95 rfl <| r_iinc_6 (pc := 97) dX8_have_97 rfl rfl <| r_goto (pc := 100) 56 dX8_have_100 (by decide) <| ?_
        have hF : Fr (fun j => j = 5 ∨ j = 30) h h2 := fun j hj => ((hF2 j (by omega)).trans (hF_82 j (by omega)))
        first
          | (rw [if_pos (show (TB (iu s.bk (4 + 4 * p + 2) ld) x y).1 = p from q1)] at hQ
             exact chv_56 (by omega) (by omega) (hQ h2 _ _ k2 hI' (fun j hj => iu_n hj) hF))
          | (rw [if_neg (show ¬ (TB (iu s.bk (4 + 4 * p + 2) ld) x y).1 = p from q1)] at hQ
             exact ih (ld + 1) h2 _ (by omega) (by omega) k2 hI' (fun j hj => iu_n hj) (fun h' b'' ld' a1 a2 a3 a4 => hQ h' b'' ld' a1 a2 a3 (fun j hj => (a4 j hj).trans (hF j hj))))
      · skip
        refine ⟨_, rfl, ?_⟩
        refine r_if_eq (pc := 90) 97 dX8_have_90 (by decide) (by decide) (fun _ => ?_) (fun q => absurd q (by decide))
        refine r_iinc_6 (pc := 97) dX8_have_97 rfl rfl <| r_goto (pc := 100) 56 dX8_have_100 (by decide) <| ?_
        have hF : Fr (fun j => j = 5 ∨ j = 30) h h2 := fun j hj => ((hF2 j (by omega)).trans (hF_82 j (by omega)))
        first
          | (rw [if_pos (show (TB (iu s.bk (4 + 4 * p + 2) ld) x y).1 = p from q1)] at hQ
             exact chv_56 (by omega) (by omega) (hQ h2 _ _ k2 hI' (fun j hj => iu_n hj) hF))
          | (rw [if_neg (show ¬ (TB (iu s.bk (4 + 4 * p + 2) ld) x y).1 = p from q1)] at hQ
             exact ih (ld + 1) h2 _ (by omega) (by omega) k2 hI' (fun j hj => iu_n hj) (fun h' b'' ld' a1 a2 a3 a4 => hQ h' b'' ld' a1 a2 a3 (fun j hj => (a4 j hj).trans (hF j hj))))
theorem cs_have {p o f : Int} (hC : isC h n s) (hI : Inv s.bk) (hp : inI p) (ho : inI o) (hf : f = 0 ∨ f = 1) (hQ : ∀ h', isC h' n (fHave s p o f).2 → Fr CR h h' → Q (some (vI (fHave s p o f).1)) n h') : Cl G mX8_have [vR 0, vI p, vI o, vI f] n h Q := by
  obtain ⟨kd, ag, ld, rk, ow, la, tx, qu, wa, lg, ev, c0, c1, c2, c3, c4, c5, c6, c7, c8, c9, c10, c11, c12, c13, c14, -, rp, -⟩ := hC.opn
  have i0 := hI.1.1
  unfold fHave at hQ
  refine cl_of (by decide) (Nat.le_of_ble_eq_true rfl) rfl ?_
  refine r_aload_n (pc := 0) dX8_have_0 rfl <| r_getf (pc := 1) dX8_have_1 fA_X8_12 c0 rfl <| r_getf (pc := 4) dX8_have_4 fA_X8_86 c1 rfl <| r_iload_n (pc := 7) dX8_have_7 rfl <| r_iload_n (pc := 8) dX8_have_8 rfl <| cVi [_, _] (pc := 9) dX8_have_9 k_X8_116 ⟨⟨Nat.le_of_ble_eq_true rfl, Nat.le_of_ble_eq_true rfl⟩, ⟨Nat.le_of_ble_eq_true rfl, Nat.le_of_ble_eq_true rfl⟩, Nat.le_of_ble_eq_true rfl⟩ ⟨rfl, rfl⟩ c2 ?_
  refine sp_hasTwo c2 (by omega) hp ho (fun q1 => ?_) (fun q1 => ?_)
  · skip
    refine ⟨_, rfl, ?_⟩
    refine r_if_ne (pc := 12) 22 dX8_have_12 (by decide) (by decide) (fun _ => ?_) (fun q => absurd q (by decide))
    refine r_aload_n (pc := 22) dX8_have_22 rfl <| cVi [] (pc := 23) dX8_have_23 k_X8_143 ⟨⟨Nat.le_of_ble_eq_true rfl, Nat.le_of_ble_eq_true rfl⟩, ⟨Nat.le_of_ble_eq_true rfl, Nat.le_of_ble_eq_true rfl⟩, Nat.le_of_ble_eq_true rfl⟩ ⟨rfl, rfl⟩ c0 ?_
    refine cs_faulty hC hI (fun q3 => ?_) (fun q3 => ?_)
    · skip
      refine ⟨_, rfl, ?_⟩
      refine r_if_eq (pc := 26) 36 dX8_have_26 (by decide) (by decide) (fun q => absurd q (by decide)) (fun _ => ?_)
      refine r_aload_n (pc := 29) dX8_have_29 rfl <| r_bipush (pc := 30) dX8_have_30 (by decide) <| cVi [_] (pc := 32) dX8_have_32 k_X8_147 ⟨⟨Nat.le_of_ble_eq_true rfl, Nat.le_of_ble_eq_true rfl⟩, ⟨Nat.le_of_ble_eq_true rfl, Nat.le_of_ble_eq_true rfl⟩, Nat.le_of_ble_eq_true rfl⟩ ⟨rfl, rfl⟩ c0 ?_
      refine cs_no hC (fun h1 g1 g2 => ?_)
      refine ⟨_, rfl, ?_⟩
      refine r_iret (pc := 35) dX8_have_35 rfl ⟨Nat.le_of_ble_eq_true rfl, Nat.le_of_ble_eq_true rfl⟩ <| ?_
      rw [if_neg (by omega), if_pos q3] at hQ; exact hQ _ g1 g2
    · skip
      refine ⟨_, rfl, ?_⟩
      refine r_if_eq (pc := 26) 36 dX8_have_26 (by decide) (by decide) (fun _ => ?_) (fun q => absurd q (by decide))
      refine r_aload_n (pc := 36) dX8_have_36 rfl <| r_getf (pc := 37) dX8_have_37 fA_X8_12 c0 rfl <| r_getf (pc := 40) dX8_have_40 fA_X8_86 c1 rfl <| r_getf (pc := 43) dX8_have_43 fA_X8_255 c2 rfl <| r_iload_n (pc := 46) dX8_have_46 rfl <| r_iald (pc := 47) dX8_have_47 c5 (by omega) (by decide) <| r_istore_4 (pc := 48) dX8_have_48 rfl <| r_iconst (pc := 50) dX8_have_50 <| r_istore_5 (pc := 51) dX8_have_51 rfl <| r_iconst (pc := 53) dX8_have_53 <| r_istore_6 (pc := 54) dX8_have_54 rfl <| ?_
      rw [if_neg (by omega), if_neg (fun q => q q3)] at hQ
      have el := (rp p (by omega) (by omega)).2.2.1
      have bl := (hI.2.2.1 p (by omega) (by omega)).2.2.1
      obtain ⟨x, y, hxy⟩ : ∃ x y, f = 0 ∧ x = o ∧ y = p ∨ f = 1 ∧ x = p ∧ y = o := by
        rcases hf with e1 | e1
        · exact ⟨o, p, Or.inl ⟨e1, rfl, rfl⟩⟩
        · exact ⟨p, o, Or.inr ⟨e1, rfl, rfl⟩⟩
      rw [el]
      refine lp_chave hI q3 (by omega) (by omega) (by omega) hxy 10 0 h s.bk (by omega) (by omega) hC hI (fun j _ => rfl) (fun h2 b2 ld' a1 a2 a3 a4 => ?_)
      obtain ⟨kd', ag', ld2, rk', ow', la', tx', qu', wa', lg', ev', e0, e1, e2, e3, e4, e5, e6, e7, -⟩ := a1.opn
      have e5o := e5
      refine r_aload_n (pc := 103) dX8_have_103 rfl <| r_getf (pc := 104) dX8_have_104 fA_X8_12 e0 rfl <| r_getf (pc := 107) dX8_have_107 fA_X8_86 e1 rfl <| r_getf (pc := 110) dX8_have_110 fA_X8_255 e2 rfl <| r_iload_n (pc := 113) dX8_have_113 rfl <| r_iload (pc := 114) dX8_have_114 rfl <| r_iast (pc := 116) dX8_have_116 e5 (by omega) (by decide) (fun h_116 e5 hF_116 => ?_)
      replace e0 := hF_116.keep e0 (by omega)
      replace e1 := hF_116.keep e1 (by omega)
      replace e2 := hF_116.keep e2 (by omega)
      refine r_iload (pc := 117) dX8_have_117 rfl <| r_iret (pc := 119) dX8_have_119 rfl ⟨Nat.le_of_ble_eq_true rfl, Nat.le_of_ble_eq_true rfl⟩ <| ?_
      have eb : iu b2 (4 + 4 * p + 2) (s.bk (4 + 4 * p + 2)) = s.bk := by
        funext j
        by_cases ej : j = 4 + 4 * p + 2
        · rw [ej, iu_s]
        · rw [iu_n ej, a3 j ej]
      have k2 : isC h_116 n s := by
        have := a1.ld a2 (by omega) (l := s.bk (4 + 4 * p + 2)) (by omega) e5o e5 hF_116
        have e2 : (s.sbk b2).sbk (iu (s.sbk b2).bk (4 + 4 * p + 2) (s.bk (4 + 4 * p + 2))) = s := by
          show s.sbk (iu b2 (4 + 4 * p + 2) (s.bk (4 + 4 * p + 2))) = s
          rw [eb]
          rfl
        rw [e2] at this
        exact this
      refine qI ?_ (hQ _ k2 (fun j hj => ((hF_116 j (by omega)).trans (a4 j (by omega)))))
      rcases hxy with ⟨r1, r2, r3⟩ | ⟨r1, r2, r3⟩
      · rw [if_pos r1, r2, r3]
      · rw [if_neg (by omega), r2, r3]
  · skip
    refine ⟨_, rfl, ?_⟩
    refine r_if_ne (pc := 12) 22 dX8_have_12 (by decide) (by decide) (fun q => absurd q (by decide)) (fun _ => ?_)
    refine r_aload_n (pc := 15) dX8_have_15 rfl <| r_bipush (pc := 16) dX8_have_16 (by decide) <| cVi [_] (pc := 18) dX8_have_18 k_X8_82 ⟨⟨Nat.le_of_ble_eq_true rfl, Nat.le_of_ble_eq_true rfl⟩, ⟨Nat.le_of_ble_eq_true rfl, Nat.le_of_ble_eq_true rfl⟩, Nat.le_of_ble_eq_true rfl⟩ ⟨rfl, rfl⟩ c0 ?_
    refine cs_bad hC (fun h1 g1 g2 => ?_)
    refine ⟨_, rfl, ?_⟩
    refine r_iret (pc := 21) dX8_have_21 rfl ⟨Nat.le_of_ble_eq_true rfl, Nat.le_of_ble_eq_true rfl⟩ <| ?_
    rw [if_pos (by omega)] at hQ; exact hQ _ g1 g2
end CHv


