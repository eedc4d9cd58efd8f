/-! ===== the class: calls ===== -/
theorem oW_eq {w : Nat} {bk bk' : Int → Int} (h1 : bk' 1 = bk 1) (h2 : bk' 2 = bk 2) (h3 : bk' 3 = bk 3) : oW w bk' = oW w bk := by unfold oW; rw [h1, h2, h3]
section CP
variable {G : GT} {n : Nat} {h h' : Hp} {Q : PT} {s : SS}
theorem isC.wld {bk' : Int → Int} (hC : isC h n s) (hI : Inv s.bk) (w1 : h' 1 = some (oW 1 bk')) (hp : wP h' 1 bk') (hb : wB h' 1 bk') (hq : wA h' 11 8 0 7 164 bk') (hw : wA h' 12 6 (-1) 7 172 bk') (hl : wA h' 13 36 0 99 180 bk') (he : wA h' 14 48 0 7 216 bk') (ht : ∀ j, (j = 1 ∨ 264 ≤ j ∧ j < 424) → bk' j = s.bk j) (hX : isX h') (hF : Fr (fun q => (1 ≤ q ∧ q < 15 ∧ q ≠ 10) ∨ (23 ≤ q ∧ q < 45)) h h') : isC h' n (s.sbk bk') := by
  have hC' := hC
  obtain ⟨c0, c1, c2, -⟩ := hC'
  obtain ⟨-, -, -, u3, -⟩ := isW_iff.mp c1
  refine hC.upd (s' := s.sbk bk') ⟨rfl, rfl⟩ (hF.keep c0 (by omega)) (isW_iff.mpr ⟨w1, hp, hb, u3.fr (hF 10 (by omega)) (fun j a b => ht j (by omega)), hq, hw, hl, he⟩) ?_ hX (hF.wk (fun q => by omega))
  have e := prs_eq (bk' := bk') hI (ht 1 (by omega)) (fun j a b => ht j (by omega))
  show isBk h' 16 (parse (txB bk') (bk' 1))
  rw [e]
  exact c2.fr (fun q a b => hF q (by omega))
theorem sp_add {np k a l r : Int} {kd ag ld rk : Int → Int} (c2 : h 2 = some (aO 4 [vI np, vR 3, vR 4, vR 5, vR 6])) (c3 : h 3 = some (aA 8 kd)) (c4 : h 4 = some (aA 8 ag)) (c5 : h 5 = some (aA 8 ld)) (c6 : h 6 = some (aA 8 rk)) (hn : 0 ≤ np ∧ np < 8)
    (hQ : ∀ h', h' 2 = some (aO 4 [vI (np + 1), vR 3, vR 4, vR 5, vR 6]) → h' 3 = some (aA 8 (iu kd np k)) → h' 4 = some (aA 8 (iu ag np a)) → h' 5 = some (aA 8 (iu ld np l)) → h' 6 = some (aA 8 (iu rk np r)) → Fr (fun q => 2 ≤ q ∧ q ≤ 6) h h' → Q (some (vI np)) n h') : Cl G mX4_add [vR 2, vI k, vI a, vI l, vI r] n h Q := by
  refine cl_of (by decide) (Nat.le_of_ble_eq_true rfl) rfl ?_
  refine r_aload_n (pc := 0) dX4_add_0 rfl <| r_getf (pc := 1) dX4_add_1 fA_X4_15 c2 rfl <| r_aload_n (pc := 4) dX4_add_4 rfl <| r_getf (pc := 5) dX4_add_5 fA_X4_9 c2 rfl <| r_iload_n (pc := 8) dX4_add_8 rfl <| r_iast (pc := 9) dX4_add_9 c3 (by omega) (by decide) (fun h_9 c3 hF_9 => ?_)
  replace c2 := hF_9.keep c2 (by omega)
  replace c4 := hF_9.keep c4 (by omega)
  replace c5 := hF_9.keep c5 (by omega)
  replace c6 := hF_9.keep c6 (by omega)
  refine r_aload_n (pc := 10) dX4_add_10 rfl <| r_getf (pc := 11) dX4_add_11 fA_X4_19 c2 rfl <| r_aload_n (pc := 14) dX4_add_14 rfl <| r_getf (pc := 15) dX4_add_15 fA_X4_9 c2 rfl <| r_iload_n (pc := 18) dX4_add_18 rfl <| r_iast (pc := 19) dX4_add_19 c4 (by omega) (by decide) (fun h_19 c4 hF_19 => ?_)
  replace c2 := hF_19.keep c2 (by omega)
  replace c3 := hF_19.keep c3 (by omega)
  replace c5 := hF_19.keep c5 (by omega)
  replace c6 := hF_19.keep c6 (by omega)
  refine r_aload_n (pc := 20) dX4_add_20 rfl <| r_getf (pc := 21) dX4_add_21 fA_X4_22 c2 rfl <| r_aload_n (pc := 24) dX4_add_24 rfl <| r_getf (pc := 25) dX4_add_25 fA_X4_9 c2 rfl <| r_iload_n (pc := 28) dX4_add_28 rfl <| r_iast (pc := 29) dX4_add_29 c5 (by omega) (by decide) (fun h_29 c5 hF_29 => ?_)
  replace c2 := hF_29.keep c2 (by omega)
  replace c3 := hF_29.keep c3 (by omega)
  replace c4 := hF_29.keep c4 (by omega)
  replace c6 := hF_29.keep c6 (by omega)
  refine r_aload_n (pc := 30) dX4_add_30 rfl <| r_getf (pc := 31) dX4_add_31 fA_X4_25 c2 rfl <| r_aload_n (pc := 34) dX4_add_34 rfl <| r_getf (pc := 35) dX4_add_35 fA_X4_9 c2 rfl <| r_iload (pc := 38) dX4_add_38 rfl <| r_iast (pc := 40) dX4_add_40 c6 (by omega) (by decide) (fun h_40 c6 hF_40 => ?_)
  replace c2 := hF_40.keep c2 (by omega)
  replace c3 := hF_40.keep c3 (by omega)
  replace c4 := hF_40.keep c4 (by omega)
  replace c5 := hF_40.keep c5 (by omega)
  refine r_aload_n (pc := 41) dX4_add_41 rfl <| r_dup (pc := 42) dX4_add_42 rfl <| r_getf (pc := 43) dX4_add_43 fA_X4_9 c2 rfl <| r_iconst (pc := 46) dX4_add_46 <| r_iadd (pc := 47) dX4_add_47 <| r_putf (pc := 48) dX4_add_48 fP_X4_9 rfl rfl c2 rfl (fun h_48 c2 hF_48 => ?_)
  simp only [List.set_cons_zero, List.set_cons_succ] at c2
  replace c3 := hF_48.keep c3 (by omega)
  replace c4 := hF_48.keep c4 (by omega)
  replace c5 := hF_48.keep c5 (by omega)
  replace c6 := hF_48.keep c6 (by omega)
  refine r_aload_n (pc := 51) dX4_add_51 rfl <| r_getf (pc := 52) dX4_add_52 fA_X4_9 c2 rfl <| r_iconst (pc := 55) dX4_add_55 <| r_isub (pc := 56) dX4_add_56 <| r_iret (pc := 57) dX4_add_57 rfl ⟨Nat.le_of_ble_eq_true rfl, Nat.le_of_ble_eq_true rfl⟩ <| ?_
  refine qI (by omega) (hQ _ c2 c3 c4 c5 c6 (fun q hq => ?_))
  exact (hF_48 q (by omega)).trans ((hF_40 q (by omega)).trans ((hF_29 q (by omega)).trans ((hF_19 q (by omega)).trans (hF_9 q (by omega)))))
theorem cs_person {k a l r : Int} (hC : isC h n s) (hI : Inv s.bk) (hk : inI k) (ha : inI a) (hl : inI l) (hr : inI r) (hQ : ∀ h', isC h' n (fPerson s k a l r).2 → Fr CR h h' → Q (some (vI (fPerson s k a l r).1)) n h') : Cl G mX8_person [vR 0, vI k, vI a, vI l, vI r] n h Q := by
  obtain ⟨kd, ag, ld, rk, ow, la, tx, qu, wa, lg, ev, c0, c1, c2, c3, c4, c5, c6, c7, c8, c9, c10, c11, c12, c13, c14, ⟨⟨d1, d2, d3, d4⟩, -⟩, rp, -⟩ := hC.opn
  have i0 := hI.1.1
  unfold fPerson at hQ
  refine cl_of (by decide) (Nat.le_of_ble_eq_true rfl) rfl ?_
  refine r_iload_n (pc := 0) dX8_person_0 rfl <| r_iconst (pc := 1) dX8_person_1 <| r_iconst (pc := 2) dX8_person_2 <| cSi [_, _, _] (pc := 3) dX8_person_3 k_X8_78 ⟨⟨Nat.le_of_ble_eq_true rfl, Nat.le_of_ble_eq_true rfl⟩, ⟨Nat.le_of_ble_eq_true rfl, Nat.le_of_ble_eq_true rfl⟩, Nat.le_of_ble_eq_true rfl⟩ ⟨rfl, rfl⟩ ?_
  refine sp_within (by omega) (by omega) (by omega) (fun q1 => ?_) (fun q1 => ?_)
  · skip
    refine ⟨_, rfl, ?_⟩
    refine r_if_eq (pc := 6) 40 dX8_person_6 (by decide) (by decide) (fun q => absurd q (by decide)) (fun _ => ?_)
    refine r_iload_n (pc := 9) dX8_person_9 rfl <| r_iconst (pc := 10) dX8_person_10 <| r_bipush (pc := 11) dX8_person_11 (by decide) <| cSi [_, _, _] (pc := 13) dX8_person_13 k_X8_78 ⟨⟨Nat.le_of_ble_eq_true rfl, Nat.le_of_ble_eq_true rfl⟩, ⟨Nat.le_of_ble_eq_true rfl, Nat.le_of_ble_eq_true rfl⟩, Nat.le_of_ble_eq_true rfl⟩ ⟨rfl, rfl⟩ ?_
    refine sp_within (by omega) (by omega) (by omega) (fun q2 => ?_) (fun q2 => ?_)
    · skip
      refine ⟨_, rfl, ?_⟩
      refine r_if_eq (pc := 16) 40 dX8_person_16 (by decide) (by decide) (fun q => absurd q (by decide)) (fun _ => ?_)
      refine r_iload_n (pc := 19) dX8_person_19 rfl <| r_iconst (pc := 20) dX8_person_20 <| r_bipush (pc := 21) dX8_person_21 (by decide) <| cSi [_, _, _] (pc := 23) dX8_person_23 k_X8_78 ⟨⟨Nat.le_of_ble_eq_true rfl, Nat.le_of_ble_eq_true rfl⟩, ⟨Nat.le_of_ble_eq_true rfl, Nat.le_of_ble_eq_true rfl⟩, Nat.le_of_ble_eq_true rfl⟩ ⟨rfl, rfl⟩ ?_
      refine sp_within (by omega) (by omega) (by omega) (fun q3 => ?_) (fun q3 => ?_)
      · skip
        refine ⟨_, rfl, ?_⟩
        refine r_if_eq (pc := 26) 40 dX8_person_26 (by decide) (by decide) (fun q => absurd q (by decide)) (fun _ => ?_)
        refine r_iload (pc := 29) dX8_person_29 rfl <| r_iconst (pc := 31) dX8_person_31 <| r_bipush (pc := 32) dX8_person_32 (by decide) <| cSi [_, _, _] (pc := 34) dX8_person_34 k_X8_78 ⟨⟨Nat.le_of_ble_eq_true rfl, Nat.le_of_ble_eq_true rfl⟩, ⟨Nat.le_of_ble_eq_true rfl, Nat.le_of_ble_eq_true rfl⟩, Nat.le_of_ble_eq_true rfl⟩ ⟨rfl, rfl⟩ ?_
        refine sp_within (by omega) (by omega) (by omega) (fun q4 => ?_) (fun q4 => ?_)
        · skip
          refine ⟨_, rfl, ?_⟩
          refine r_if_ne (pc := 37) 47 dX8_person_37 (by decide) (by decide) (fun _ => ?_) (fun q => absurd q (by decide))
          refine r_aload_n (pc := 47) dX8_person_47 rfl <| r_getf (pc := 48) dX8_person_48 fA_X8_12 c0 rfl <| r_getf (pc := 51) dX8_person_51 fA_X8_86 c1 rfl <| r_getf (pc := 54) dX8_person_54 fA_X8_90 c2 rfl <| r_bipush (pc := 57) dX8_person_57 (by decide) <| r_icmp_lt (pc := 59) 67 dX8_person_59 (by decide) (by omega) (by omega) (fun hc_59 => ?_) (fun hc_59 => ?_)
          · skip
            refine r_aload_n (pc := 67) dX8_person_67 rfl <| r_getf (pc := 68) dX8_person_68 fA_X8_12 c0 rfl <| r_getf (pc := 71) dX8_person_71 fA_X8_86 c1 rfl <| r_iload_n (pc := 74) dX8_person_74 rfl <| r_iload_n (pc := 75) dX8_person_75 rfl <| r_iload_n (pc := 76) dX8_person_76 rfl <| r_iload (pc := 77) dX8_person_77 rfl <| cVi [_, _, _, _] (pc := 79) dX8_person_79 k_X8_99 ⟨⟨Nat.le_of_ble_eq_true rfl, Nat.le_of_ble_eq_true rfl⟩, ⟨Nat.le_of_ble_eq_true rfl, Nat.le_of_ble_eq_true rfl⟩, Nat.le_of_ble_eq_true rfl⟩ ⟨rfl, rfl⟩ c2 ?_
            refine sp_add c2 c3 c4 c5 c6 (by omega) (fun h1 k2 k3 k4 k5 k6 hF => ?_)
            refine ⟨_, rfl, ?_⟩
            refine r_iret (pc := 82) dX8_person_82 rfl ⟨Nat.le_of_ble_eq_true rfl, Nat.le_of_ble_eq_true rfl⟩ <| ?_
            rw [if_neg (by omega), if_neg (by omega)] at hQ
            obtain ⟨u0, u1, u2, u3, u4, u5, u6, u7⟩ := isW_iff.mp hC.2.1
            have eo : ∀ j, ¬ (j = 0 ∨ j = 4 + 4 * s.bk 0 ∨ j = 4 + 4 * s.bk 0 + 1 ∨ j = 4 + 4 * s.bk 0 + 2 ∨ j = 4 + 4 * s.bk 0 + 3) → (iu (iu (iu (iu (iu s.bk (4 + 4 * s.bk 0) k) (4 + 4 * s.bk 0 + 1) a) (4 + 4 * s.bk 0 + 2) l) (4 + 4 * s.bk 0 + 3) r) 0 (s.bk 0 + 1)) j = s.bk j := by
              intro j hj
              rw [iu_n (by omega), iu_n (by omega), iu_n (by omega), iu_n (by omega), iu_n (by omega)]
            refine hQ _ (hC.wld hI ?_ ⟨iu kd (s.bk 0) k, iu ag (s.bk 0) a, iu ld (s.bk 0) l, iu rk (s.bk 0) r, ⟨?_, k3, k4, k5, k6⟩, ⟨d1.iu (by omega), d2.iu (by omega), d3.iu (by omega), d4.iu (by omega)⟩, fun i i0 i1 => ?_⟩ (u2.fr (fun q a b => hF q (by omega)) (fun j a b => eo j (by omega))) (u4.fr (hF 11 (by omega)) (fun j a b => eo j (by omega))) (u5.fr (hF 12 (by omega)) (fun j a b => eo j (by omega))) (u6.fr (hF 13 (by omega)) (fun j a b => eo j (by omega))) (u7.fr (hF 14 (by omega)) (fun j a b => eo j (by omega))) (fun j hj => eo j (by omega)) (hC.2.2.2.1.fr (fun q a b => hF q (by omega))) (hF.wk (fun q => by omega))) (hF.wk (fun q => by omega))
            · rw [oW_eq (bk := s.bk) (eo 1 (by omega)) (eo 2 (by omega)) (eo 3 (by omega))]
              exact (hF 1 (by omega)).trans c1
            · rw [iu_s]; exact k2
            · by_cases e : i = s.bk 0
              · rw [e, iu_s, iu_s, iu_s, iu_s]
                refine ⟨?_, ?_, ?_, ?_⟩
                · rw [iu_n (by omega), iu_n (by omega), iu_n (by omega), iu_n (by omega), iu_s]
                · rw [iu_n (by omega), iu_n (by omega), iu_n (by omega), iu_s]
                · rw [iu_n (by omega), iu_n (by omega), iu_s]
                · rw [iu_n (by omega), iu_s]
              · rw [iu_n e, iu_n e, iu_n e, iu_n e, eo (4 + 4 * i) (by omega), eo (4 + 4 * i + 1) (by omega), eo (4 + 4 * i + 2) (by omega), eo (4 + 4 * i + 3) (by omega)]
                exact rp i i0 i1
          · skip
            refine r_aload_n (pc := 62) dX8_person_62 rfl <| cVi [] (pc := 63) dX8_person_63 k_X8_95 ⟨⟨Nat.le_of_ble_eq_true rfl, Nat.le_of_ble_eq_true rfl⟩, ⟨Nat.le_of_ble_eq_true rfl, Nat.le_of_ble_eq_true rfl⟩, Nat.le_of_ble_eq_true rfl⟩ ⟨rfl, rfl⟩ c0 ?_
            refine cs_full hC (fun h1 g1 g2 => ?_)
            refine ⟨_, rfl, ?_⟩
            refine r_iret (pc := 66) dX8_person_66 rfl ⟨Nat.le_of_ble_eq_true rfl, Nat.le_of_ble_eq_true rfl⟩ <| ?_
            rw [if_neg (by omega), if_pos (by omega)] at hQ; exact hQ _ g1 g2
        · skip
          refine ⟨_, rfl, ?_⟩
          refine r_if_ne (pc := 37) 47 dX8_person_37 (by decide) (by decide) (fun q => absurd q (by decide)) (fun _ => ?_)
          refine r_aload_n (pc := 40) dX8_person_40 rfl <| r_bipush (pc := 41) dX8_person_41 (by decide) <| cVi [_] (pc := 43) dX8_person_43 k_X8_82 ⟨⟨Nat.le_of_ble_eq_true rfl, Nat.le_of_ble_eq_true rfl⟩, ⟨Nat.le_of_ble_eq_true rfl, Nat.le_of_ble_eq_true rfl⟩, Nat.le_of_ble_eq_true rfl⟩ ⟨rfl, rfl⟩ c0 ?_
          refine cs_bad hC (fun h1 g1 g2 => ?_)
          refine ⟨_, rfl, ?_⟩
          refine r_iret (pc := 46) dX8_person_46 rfl ⟨Nat.le_of_ble_eq_true rfl, Nat.le_of_ble_eq_true rfl⟩ <| ?_
          rw [if_pos (by omega)] at hQ; exact hQ _ g1 g2
      · skip
        refine ⟨_, rfl, ?_⟩
        refine r_if_eq (pc := 26) 40 dX8_person_26 (by decide) (by decide) (fun _ => ?_) (fun q => absurd q (by decide))
        refine r_aload_n (pc := 40) dX8_person_40 rfl <| r_bipush (pc := 41) dX8_person_41 (by decide) <| cVi [_] (pc := 43) dX8_person_43 k_X8_82 ⟨⟨Nat.le_of_ble_eq_true rfl, Nat.le_of_ble_eq_true rfl⟩, ⟨Nat.le_of_ble_eq_true rfl, Nat.le_of_ble_eq_true rfl⟩, Nat.le_of_ble_eq_true rfl⟩ ⟨rfl, rfl⟩ c0 ?_
        refine cs_bad hC (fun h1 g1 g2 => ?_)
        refine ⟨_, rfl, ?_⟩
        refine r_iret (pc := 46) dX8_person_46 rfl ⟨Nat.le_of_ble_eq_true rfl, Nat.le_of_ble_eq_true rfl⟩ <| ?_
        rw [if_pos (by omega)] at hQ; exact hQ _ g1 g2
    · skip
      refine ⟨_, rfl, ?_⟩
      refine r_if_eq (pc := 16) 40 dX8_person_16 (by decide) (by decide) (fun _ => ?_) (fun q => absurd q (by decide))
      refine r_aload_n (pc := 40) dX8_person_40 rfl <| r_bipush (pc := 41) dX8_person_41 (by decide) <| cVi [_] (pc := 43) dX8_person_43 k_X8_82 ⟨⟨Nat.le_of_ble_eq_true rfl, Nat.le_of_ble_eq_true rfl⟩, ⟨Nat.le_of_ble_eq_true rfl, Nat.le_of_ble_eq_true rfl⟩, Nat.le_of_ble_eq_true rfl⟩ ⟨rfl, rfl⟩ c0 ?_
      refine cs_bad hC (fun h1 g1 g2 => ?_)
      refine ⟨_, rfl, ?_⟩
      refine r_iret (pc := 46) dX8_person_46 rfl ⟨Nat.le_of_ble_eq_true rfl, Nat.le_of_ble_eq_true rfl⟩ <| ?_
      rw [if_pos (by omega)] at hQ; exact hQ _ g1 g2
  · skip
    refine ⟨_, rfl, ?_⟩
    refine r_if_eq (pc := 6) 40 dX8_person_6 (by decide) (by decide) (fun _ => ?_) (fun q => absurd q (by decide))
    refine r_aload_n (pc := 40) dX8_person_40 rfl <| r_bipush (pc := 41) dX8_person_41 (by decide) <| cVi [_] (pc := 43) dX8_person_43 k_X8_82 ⟨⟨Nat.le_of_ble_eq_true rfl, Nat.le_of_ble_eq_true rfl⟩, ⟨Nat.le_of_ble_eq_true rfl, Nat.le_of_ble_eq_true rfl⟩, Nat.le_of_ble_eq_true rfl⟩ ⟨rfl, rfl⟩ c0 ?_
    refine cs_bad hC (fun h1 g1 g2 => ?_)
    refine ⟨_, rfl, ?_⟩
    refine r_iret (pc := 46) dX8_person_46 rfl ⟨Nat.le_of_ble_eq_true rfl, Nat.le_of_ble_eq_true rfl⟩ <| ?_
    rw [if_pos (by omega)] at hQ; exact hQ _ g1 g2
theorem cs_counts {p w : Int} (hC : isC h n s) (hI : Inv s.bk) (hp : inI p) (hw : inI w) (hQ : ∀ h', isC h' n (fCounts s p w).2 → Fr CR h h' → Q (some (vI (fCounts s p w).1)) n h') : Cl G mX8_counts [vR 0, vI p, vI w] n h Q := by
  obtain ⟨kd, ag, ld, rk, ow, la, tx, qu, wa, lg, ev, c0, c1, c2, c3, c4, c5, c6, c7, c8, c9, c10, c11, c12, c13, c14, ⟨⟨d1, d2, d3, d4⟩, -⟩, rp, -⟩ := hC.opn
  have i0 := hI.1.1
  unfold fCounts at hQ
  have hP : isP h 2 (s.bk 0) kd ag ld rk := ⟨c2, c3, c4, c5, c6⟩
  refine cl_of (by decide) (Nat.le_of_ble_eq_true rfl) rfl ?_
  refine r_aload_n (pc := 0) dX8_counts_0 rfl <| r_getf (pc := 1) dX8_counts_1 fA_X8_12 c0 rfl <| r_getf (pc := 4) dX8_counts_4 fA_X8_86 c1 rfl <| r_iload_n (pc := 7) dX8_counts_7 rfl <| cVi [_] (pc := 8) dX8_counts_8 k_X8_103 ⟨⟨Nat.le_of_ble_eq_true rfl, Nat.le_of_ble_eq_true rfl⟩, ⟨Nat.le_of_ble_eq_true rfl, Nat.le_of_ble_eq_true rfl⟩, Nat.le_of_ble_eq_true rfl⟩ ⟨rfl, rfl⟩ c2 ?_
  refine sp_has c2 (by omega) hp (fun q1 => ?_) (fun q1 => ?_)
  · skip
    refine ⟨_, rfl, ?_⟩
    refine r_if_eq (pc := 11) 23 dX8_counts_11 (by decide) (by decide) (fun q => absurd q (by decide)) (fun _ => ?_)
    refine r_iload_n (pc := 14) dX8_counts_14 rfl <| r_iconst (pc := 15) dX8_counts_15 <| r_iconst (pc := 16) dX8_counts_16 <| cSi [_, _, _] (pc := 17) dX8_counts_17 k_X8_78 ⟨⟨Nat.le_of_ble_eq_true rfl, Nat.le_of_ble_eq_true rfl⟩, ⟨Nat.le_of_ble_eq_true rfl, Nat.le_of_ble_eq_true rfl⟩, Nat.le_of_ble_eq_true rfl⟩ ⟨rfl, rfl⟩ ?_
    refine sp_within (by omega) (by omega) (by omega) (fun q2 => ?_) (fun q2 => ?_)
    · skip
      refine ⟨_, rfl, ?_⟩
      refine r_if_ne (pc := 20) 30 dX8_counts_20 (by decide) (by decide) (fun _ => ?_) (fun q => absurd q (by decide))
      refine r_iload_n (pc := 30) dX8_counts_30 rfl <| r_if_ne (pc := 31) 46 dX8_counts_31 (by decide) (by omega) (fun hc_31 => ?_) (fun hc_31 => ?_)
      · skip
        refine r_iload_n (pc := 46) dX8_counts_46 rfl <| r_iconst (pc := 47) dX8_counts_47 <| r_icmp_ne (pc := 48) 65 dX8_counts_48 (by decide) (by omega) (by omega) (fun hc_48 => ?_) (fun hc_48 => ?_)
        · skip
          refine r_aload_n (pc := 65) dX8_counts_65 rfl <| r_getf (pc := 66) dX8_counts_66 fA_X8_12 c0 rfl <| r_getf (pc := 69) dX8_counts_69 fA_X8_86 c1 rfl <| r_iload_n (pc := 72) dX8_counts_72 rfl <| cVi [_] (pc := 73) dX8_counts_73 k_X8_113 ⟨⟨Nat.le_of_ble_eq_true rfl, Nat.le_of_ble_eq_true rfl⟩, ⟨Nat.le_of_ble_eq_true rfl, Nat.le_of_ble_eq_true rfl⟩, Nat.le_of_ble_eq_true rfl⟩ ⟨rfl, rfl⟩ c2 ?_
          refine sp_rankOf hP d1 (by omega) ?_
          obtain ⟨e1, e2, e3, e4⟩ := rp p (by omega) (by omega)
          have ec : rankF kd rk p = cnt s.bk p w := by
            rw [show w = 2 by omega]
            unfold rankF cnt
            rw [e1, e4]
            simp [Int.add_assoc]
          rw [ec]
          refine ⟨_, rfl, ?_⟩
          refine r_iret (pc := 76) dX8_counts_76 rfl ⟨Nat.le_of_ble_eq_true rfl, Nat.le_of_ble_eq_true rfl⟩ <| ?_
          rw [if_pos (by omega)] at hQ; exact hQ _ hC Fr.rf
        · skip
          refine r_aload_n (pc := 51) dX8_counts_51 rfl <| r_getf (pc := 52) dX8_counts_52 fA_X8_12 c0 rfl <| r_getf (pc := 55) dX8_counts_55 fA_X8_86 c1 rfl <| r_iload_n (pc := 58) dX8_counts_58 rfl <| cVi [_] (pc := 59) dX8_counts_59 k_X8_110 ⟨⟨Nat.le_of_ble_eq_true rfl, Nat.le_of_ble_eq_true rfl⟩, ⟨Nat.le_of_ble_eq_true rfl, Nat.le_of_ble_eq_true rfl⟩, Nat.le_of_ble_eq_true rfl⟩ ⟨rfl, rfl⟩ c2 ?_
          refine sp_loadOf hP d1 (by omega) ?_
          obtain ⟨e1, e2, e3, e4⟩ := rp p (by omega) (by omega)
          have ec : loadF kd ld p = cnt s.bk p w := by
            rw [show w = 1 by omega]
            unfold loadF cnt
            rw [e1, e3]
            simp [Int.add_assoc]
          rw [ec]
          refine ⟨_, rfl, ?_⟩
          refine r_goto (pc := 62) 76 dX8_counts_62 (by decide) <| r_iret (pc := 76) dX8_counts_76 rfl ⟨Nat.le_of_ble_eq_true rfl, Nat.le_of_ble_eq_true rfl⟩ <| ?_
          rw [if_pos (by omega)] at hQ; exact hQ _ hC Fr.rf
      · skip
        refine r_aload_n (pc := 34) dX8_counts_34 rfl <| r_getf (pc := 35) dX8_counts_35 fA_X8_12 c0 rfl <| r_getf (pc := 38) dX8_counts_38 fA_X8_86 c1 rfl <| r_iload_n (pc := 41) dX8_counts_41 rfl <| cVi [_] (pc := 42) dX8_counts_42 k_X8_107 ⟨⟨Nat.le_of_ble_eq_true rfl, Nat.le_of_ble_eq_true rfl⟩, ⟨Nat.le_of_ble_eq_true rfl, Nat.le_of_ble_eq_true rfl⟩, Nat.le_of_ble_eq_true rfl⟩ ⟨rfl, rfl⟩ c2 ?_
        refine sp_ageOf hP d1 (by omega) ?_
        obtain ⟨e1, e2, e3, e4⟩ := rp p (by omega) (by omega)
        have ec : ageF kd ag p = cnt s.bk p w := by
          rw [show w = 0 by omega]
          unfold ageF cnt
          rw [e1, e2]
          simp
        rw [ec]
        refine ⟨_, rfl, ?_⟩
        refine r_iret (pc := 45) dX8_counts_45 rfl ⟨Nat.le_of_ble_eq_true rfl, Nat.le_of_ble_eq_true rfl⟩ <| ?_
        rw [if_pos (by omega)] at hQ; exact hQ _ hC Fr.rf
    · skip
      refine ⟨_, rfl, ?_⟩
      refine r_if_ne (pc := 20) 30 dX8_counts_20 (by decide) (by decide) (fun q => absurd q (by decide)) (fun _ => ?_)
      refine r_aload_n (pc := 23) dX8_counts_23 rfl <| r_bipush (pc := 24) dX8_counts_24 (by decide) <| cVi [_] (pc := 26) dX8_counts_26 k_X8_82 ⟨⟨Nat.le_of_ble_eq_true rfl, Nat.le_of_ble_eq_true rfl⟩, ⟨Nat.le_of_ble_eq_true rfl, Nat.le_of_ble_eq_true rfl⟩, Nat.le_of_ble_eq_true rfl⟩ ⟨rfl, rfl⟩ c0 ?_
      refine cs_bad hC (fun h1 g1 g2 => ?_)
      refine ⟨_, rfl, ?_⟩
      refine r_iret (pc := 29) dX8_counts_29 rfl ⟨Nat.le_of_ble_eq_true rfl, Nat.le_of_ble_eq_true rfl⟩ <| ?_
      rw [if_neg (by omega)] at hQ; exact hQ _ g1 g2
  · skip
    refine ⟨_, rfl, ?_⟩
    refine r_if_eq (pc := 11) 23 dX8_counts_11 (by decide) (by decide) (fun _ => ?_) (fun q => absurd q (by decide))
    refine r_aload_n (pc := 23) dX8_counts_23 rfl <| r_bipush (pc := 24) dX8_counts_24 (by decide) <| cVi [_] (pc := 26) dX8_counts_26 k_X8_82 ⟨⟨Nat.le_of_ble_eq_true rfl, Nat.le_of_ble_eq_true rfl⟩, ⟨Nat.le_of_ble_eq_true rfl, Nat.le_of_ble_eq_true rfl⟩, Nat.le_of_ble_eq_true rfl⟩ ⟨rfl, rfl⟩ c0 ?_
    refine cs_bad hC (fun h1 g1 g2 => ?_)
    refine ⟨_, rfl, ?_⟩
    refine r_iret (pc := 29) dX8_counts_29 rfl ⟨Nat.le_of_ble_eq_true rfl, Nat.le_of_ble_eq_true rfl⟩ <| ?_
    rw [if_neg (by omega)] at hQ; exact hQ _ g1 g2
theorem cs_owe {a b w : Int} (hC : isC h n s) (hI : Inv s.bk) (ha : inI a) (hb : inI b) (hw : inI w) (hQ : ∀ h', isC h' n (fOwe s a b w).2 → Fr CR h h' → Q (some (vI (fOwe s a b w).1)) n h') : Cl G mX8_owe [vR 0, vI a, vI b, vI w] n h Q := by
  obtain ⟨kd, ag, ld, rk, ow, la, tx, qu, wa, lg, ev, c0, c1, c2, c3, c4, c5, c6, c7, c8, c9, c10, c11, c12, c13, c14, ⟨-, ⟨d5, d6⟩, -⟩, rp, ro, -⟩ := hC.opn
  have i0 := hI.1.1
  unfold fOwe at hQ
  refine cl_of (by decide) (Nat.le_of_ble_eq_true rfl) rfl ?_
  refine r_aload_n (pc := 0) dX8_owe_0 rfl <| r_getf (pc := 1) dX8_owe_1 fA_X8_12 c0 rfl <| r_getf (pc := 4) dX8_owe_4 fA_X8_86 c1 rfl <| r_iload_n (pc := 7) dX8_owe_7 rfl <| r_iload_n (pc := 8) dX8_owe_8 rfl <| cVi [_, _] (pc := 9) dX8_owe_9 k_X8_116 ⟨⟨Nat.le_of_ble_eq_true rfl, Nat.le_of_ble_eq_true rfl⟩, ⟨Nat.le_of_ble_eq_true rfl, Nat.le_of_ble_eq_true rfl⟩, Nat.le_of_ble_eq_true rfl⟩ ⟨rfl, rfl⟩ c2 ?_
  refine sp_hasTwo c2 (by omega) ha hb (fun q1 => ?_) (fun q1 => ?_)
  · skip
    refine ⟨_, rfl, ?_⟩
    refine r_if_eq (pc := 12) 25 dX8_owe_12 (by decide) (by decide) (fun q => absurd q (by decide)) (fun _ => ?_)
    refine r_iload_n (pc := 15) dX8_owe_15 rfl <| r_iconst (pc := 16) dX8_owe_16 <| r_bipush (pc := 17) dX8_owe_17 (by decide) <| cSi [_, _, _] (pc := 19) dX8_owe_19 k_X8_78 ⟨⟨Nat.le_of_ble_eq_true rfl, Nat.le_of_ble_eq_true rfl⟩, ⟨Nat.le_of_ble_eq_true rfl, Nat.le_of_ble_eq_true rfl⟩, Nat.le_of_ble_eq_true rfl⟩ ⟨rfl, rfl⟩ ?_
    refine sp_within (by omega) (by omega) (by omega) (fun q2 => ?_) (fun q2 => ?_)
    · skip
      refine ⟨_, rfl, ?_⟩
      refine r_if_ne (pc := 22) 32 dX8_owe_22 (by decide) (by decide) (fun _ => ?_) (fun q => absurd q (by decide))
      refine r_aload_n (pc := 32) dX8_owe_32 rfl <| r_getf (pc := 33) dX8_owe_33 fA_X8_12 c0 rfl <| r_getf (pc := 36) dX8_owe_36 fA_X8_120 c1 rfl <| r_getf (pc := 39) dX8_owe_39 fA_X8_123 c7 rfl <| r_iload_n (pc := 42) dX8_owe_42 rfl <| r_iload_n (pc := 43) dX8_owe_43 rfl <| cSi [_, _] (pc := 44) dX8_owe_44 k_X8_126 ⟨⟨Nat.le_of_ble_eq_true rfl, Nat.le_of_ble_eq_true rfl⟩, ⟨Nat.le_of_ble_eq_true rfl, Nat.le_of_ble_eq_true rfl⟩, Nat.le_of_ble_eq_true rfl⟩ ⟨rfl, rfl⟩ ?_
      refine sp_pair ?_
      refine ⟨_, rfl, ?_⟩
      refine r_iald (pc := 47) dX8_owe_47 c8 (by omega) (by decide) <| r_istore_4 (pc := 48) dX8_owe_48 rfl <| r_aload_n (pc := 50) dX8_owe_50 rfl <| r_getf (pc := 51) dX8_owe_51 fA_X8_12 c0 rfl <| r_getf (pc := 54) dX8_owe_54 fA_X8_120 c1 rfl <| r_getf (pc := 57) dX8_owe_57 fA_X8_123 c7 rfl <| r_iload_n (pc := 60) dX8_owe_60 rfl <| r_iload_n (pc := 61) dX8_owe_61 rfl <| cSi [_, _] (pc := 62) dX8_owe_62 k_X8_126 ⟨⟨Nat.le_of_ble_eq_true rfl, Nat.le_of_ble_eq_true rfl⟩, ⟨Nat.le_of_ble_eq_true rfl, Nat.le_of_ble_eq_true rfl⟩, Nat.le_of_ble_eq_true rfl⟩ ⟨rfl, rfl⟩ ?_
      refine sp_pair ?_
      refine ⟨_, rfl, ?_⟩
      refine r_iload_n (pc := 65) dX8_owe_65 rfl <| r_iast (pc := 66) dX8_owe_66 c8 (by omega) (by decide) (fun h_66 c8 hF_66 => ?_)
      replace c0 := hF_66.keep c0 (by omega)
      replace c1 := hF_66.keep c1 (by omega)
      replace c2 := hF_66.keep c2 (by omega)
      replace c7 := hF_66.keep c7 (by omega)
      refine r_iload (pc := 67) dX8_owe_67 rfl <| r_iret (pc := 69) dX8_owe_69 rfl ⟨Nat.le_of_ble_eq_true rfl, Nat.le_of_ble_eq_true rfl⟩ <| ?_
      rw [if_pos (by omega)] at hQ
      obtain ⟨u0, u1, u2, u3, u4, u5, u6, u7⟩ := isW_iff.mp hC.2.1
      have eo : ∀ j, ¬ (j = 36 + 8 * a + b) → iu s.bk (36 + 8 * a + b) w j = s.bk j := fun j hj => iu_n hj
      have hF := hF_66
      refine qI ?_ (hQ _ (hC.wld hI ?_ (u1.fr (fun q a b => hF q (by omega)) (fun j a => eo j (by omega))) ⟨iu ow (a * 8 + b) w, la, ⟨c7, c8, hF.keep c9 (by omega)⟩, ⟨d5.iu (by omega), d6⟩, fun i i0 i1 => ?_, fun x y x0 xy y8 => ?_⟩ (u4.fr (hF 11 (by omega)) (fun j a b => eo j (by omega))) (u5.fr (hF 12 (by omega)) (fun j a b => eo j (by omega))) (u6.fr (hF 13 (by omega)) (fun j a b => eo j (by omega))) (u7.fr (hF 14 (by omega)) (fun j a b => eo j (by omega))) (fun j hj => eo j (by omega)) (hC.2.2.2.1.fr (fun q a b => hF q (by omega))) (hF.wk (fun q => by omega))) (hF.wk (fun q => by omega)))
      · rw [ro.1 _ (by omega) (by omega)]; congr 1; omega
      · rw [oW_eq (bk := s.bk) (eo 1 (by omega)) (eo 2 (by omega)) (eo 3 (by omega))]
        exact c1
      · by_cases e : i = a * 8 + b
        · rw [e, iu_s, show 36 + (a * 8 + b) = 36 + 8 * a + b by omega, iu_s]
        · rw [iu_n e, eo _ (by omega)]; exact ro.1 i i0 i1
      · rw [eo _ (by omega)]; exact ro.2 x y x0 xy y8
    · skip
      refine ⟨_, rfl, ?_⟩
      refine r_if_ne (pc := 22) 32 dX8_owe_22 (by decide) (by decide) (fun q => absurd q (by decide)) (fun _ => ?_)
      refine r_aload_n (pc := 25) dX8_owe_25 rfl <| r_bipush (pc := 26) dX8_owe_26 (by decide) <| cVi [_] (pc := 28) dX8_owe_28 k_X8_82 ⟨⟨Nat.le_of_ble_eq_true rfl, Nat.le_of_ble_eq_true rfl⟩, ⟨Nat.le_of_ble_eq_true rfl, Nat.le_of_ble_eq_true rfl⟩, Nat.le_of_ble_eq_true rfl⟩ ⟨rfl, rfl⟩ c0 ?_
      refine cs_bad hC (fun h1 g1 g2 => ?_)
      refine ⟨_, rfl, ?_⟩
      refine r_iret (pc := 31) dX8_owe_31 rfl ⟨Nat.le_of_ble_eq_true rfl, Nat.le_of_ble_eq_true rfl⟩ <| ?_
      rw [if_neg (by omega)] at hQ; exact hQ _ g1 g2
  · skip
    refine ⟨_, rfl, ?_⟩
    refine r_if_eq (pc := 12) 25 dX8_owe_12 (by decide) (by decide) (fun _ => ?_) (fun q => absurd q (by decide))
    refine r_aload_n (pc := 25) dX8_owe_25 rfl <| r_bipush (pc := 26) dX8_owe_26 (by decide) <| cVi [_] (pc := 28) dX8_owe_28 k_X8_82 ⟨⟨Nat.le_of_ble_eq_true rfl, Nat.le_of_ble_eq_true rfl⟩, ⟨Nat.le_of_ble_eq_true rfl, Nat.le_of_ble_eq_true rfl⟩, Nat.le_of_ble_eq_true rfl⟩ ⟨rfl, rfl⟩ c0 ?_
    refine cs_bad hC (fun h1 g1 g2 => ?_)
    refine ⟨_, rfl, ?_⟩
    refine r_iret (pc := 31) dX8_owe_31 rfl ⟨Nat.le_of_ble_eq_true rfl, Nat.le_of_ble_eq_true rfl⟩ <| ?_
    rw [if_neg (by omega)] at hQ; exact hQ _ g1 g2
theorem cs_owes {a b : Int} (hC : isC h n s) (hI : Inv s.bk) (ha : inI a) (hb : inI b) (hQ : ∀ h', isC h' n (fOwes s a b).2 → Fr CR h h' → Q (some (vI (fOwes s a b).1)) n h') : Cl G mX8_owes [vR 0, vI a, vI b] n h Q := by
  obtain ⟨kd, ag, ld, rk, ow, la, tx, qu, wa, lg, ev, c0, c1, c2, c3, c4, c5, c6, c7, c8, c9, c10, c11, c12, c13, c14, ⟨-, ⟨d5, d6⟩, -⟩, rp, ro, -⟩ := hC.opn
  have i0 := hI.1.1
  unfold fOwes at hQ
  refine cl_of (by decide) (Nat.le_of_ble_eq_true rfl) rfl ?_
  refine r_aload_n (pc := 0) dX8_owes_0 rfl <| r_getf (pc := 1) dX8_owes_1 fA_X8_12 c0 rfl <| r_getf (pc := 4) dX8_owes_4 fA_X8_86 c1 rfl <| r_iload_n (pc := 7) dX8_owes_7 rfl <| r_iload_n (pc := 8) dX8_owes_8 rfl <| cVi [_, _] (pc := 9) dX8_owes_9 k_X8_116 ⟨⟨Nat.le_of_ble_eq_true rfl, Nat.le_of_ble_eq_true rfl⟩, ⟨Nat.le_of_ble_eq_true rfl, Nat.le_of_ble_eq_true rfl⟩, Nat.le_of_ble_eq_true rfl⟩ ⟨rfl, rfl⟩ c2 ?_
  refine sp_hasTwo c2 (by omega) ha hb (fun q1 => ?_) (fun q1 => ?_)
  · skip
    refine ⟨_, rfl, ?_⟩
    refine r_if_ne (pc := 12) 22 dX8_owes_12 (by decide) (by decide) (fun _ => ?_) (fun q => absurd q (by decide))
    refine r_aload_n (pc := 22) dX8_owes_22 rfl <| r_getf (pc := 23) dX8_owes_23 fA_X8_12 c0 rfl <| r_getf (pc := 26) dX8_owes_26 fA_X8_120 c1 rfl <| r_getf (pc := 29) dX8_owes_29 fA_X8_123 c7 rfl <| r_iload_n (pc := 32) dX8_owes_32 rfl <| r_iload_n (pc := 33) dX8_owes_33 rfl <| cSi [_, _] (pc := 34) dX8_owes_34 k_X8_126 ⟨⟨Nat.le_of_ble_eq_true rfl, Nat.le_of_ble_eq_true rfl⟩, ⟨Nat.le_of_ble_eq_true rfl, Nat.le_of_ble_eq_true rfl⟩, Nat.le_of_ble_eq_true rfl⟩ ⟨rfl, rfl⟩ ?_
    refine sp_pair ?_
    refine ⟨_, rfl, ?_⟩
    refine r_iald (pc := 37) dX8_owes_37 c8 (by omega) (by decide) <| r_iret (pc := 38) dX8_owes_38 rfl ⟨Nat.le_of_ble_eq_true rfl, Nat.le_of_ble_eq_true rfl⟩ <| ?_
    rw [if_pos (by omega)] at hQ
    refine qI ?_ (hQ _ hC Fr.rf)
    rw [ro.1 _ (by omega) (by omega)]; congr 1; omega
  · skip
    refine ⟨_, rfl, ?_⟩
    refine r_if_ne (pc := 12) 22 dX8_owes_12 (by decide) (by decide) (fun q => absurd q (by decide)) (fun _ => ?_)
    refine r_aload_n (pc := 15) dX8_owes_15 rfl <| r_bipush (pc := 16) dX8_owes_16 (by decide) <| cVi [_] (pc := 18) dX8_owes_18 k_X8_82 ⟨⟨Nat.le_of_ble_eq_true rfl, Nat.le_of_ble_eq_true rfl⟩, ⟨Nat.le_of_ble_eq_true rfl, Nat.le_of_ble_eq_true rfl⟩, Nat.le_of_ble_eq_true rfl⟩ ⟨rfl, rfl⟩ c0 ?_
    refine cs_bad hC (fun h1 g1 g2 => ?_)
    refine ⟨_, rfl, ?_⟩
    refine r_iret (pc := 21) dX8_owes_21 rfl ⟨Nat.le_of_ble_eq_true rfl, Nat.le_of_ble_eq_true rfl⟩ <| ?_
    rw [if_neg (by omega)] at hQ; exact hQ _ g1 g2
theorem cs_fault (hC : isC h n s) (hQ : ∀ h', isC h' n (fFault s).2 → Fr CR h h' → Q (some (vI (fFault s).1)) n h') : Cl G mX8_fault [vR 0] n h Q := by
  have c0 := hC.1
  obtain ⟨sz, ab, ro, co, le, ak, c16, -⟩ := hC.bkf
  refine cl_of (by decide) (Nat.le_of_ble_eq_true rfl) rfl ?_
  refine r_aload_n (pc := 0) dX8_fault_0 rfl <| r_getf (pc := 1) dX8_fault_1 fA_X8_23 c0 rfl <| r_getf (pc := 4) dX8_fault_4 fA_X8_140 c16 rfl <| r_iret (pc := 7) dX8_fault_7 rfl ⟨Nat.le_of_ble_eq_true rfl, Nat.le_of_ble_eq_true rfl⟩ <| ?_
  exact hQ _ hC Fr.rf
theorem cs_hold {x y : Int} (hC : isC h n s) (hI : Inv s.bk) (hok : okB s.bk) (hx : 0 ≤ x ∧ x < 8) (hy : 0 ≤ y ∧ y < 8) (hxy : x ≠ y) (hQ : ∀ h', isC h' n s → h' 30 = some (aO 5 [vI (TB s.bk x y).1, vI (TB s.bk x y).2.1, vI (TB s.bk x y).2.2]) → Fr (fun q => q = 30) h h' → Q none n h') : Cl G mX5_hold [vR 30, vR 16, vR 2, vR 7, vI x, vI y] n h Q := by
  obtain ⟨kd, ag, ld, rk, ow, la, tx, qu, wa, lg, ev, c0, c1, c2, c3, c4, c5, c6, c7, c8, c9, c10, c11, c12, c13, c14, ⟨⟨d1, d2, d3, d4⟩, ⟨d5, d6⟩, -⟩, rp, ro, -⟩ := hC.opn
  obtain ⟨x1, x2, x3, x4, x5, x6⟩ := isX_iff.mp hC.2.2.2.1
  obtain ⟨ga, gb, gc, c30⟩ := id x1
  have hg := hC.2.2.1.good hok
  have hits := (parse_ok (tx := txB s.bk) hI.1.2.1.1).1
  refine sp_hold (pb := 2) (bb := 7) (np := s.bk 0) hg hits ⟨⟨c2, c3, c4, c5, c6⟩, ⟨c7, c8, c9⟩, ⟨d1, d2, d3, d4⟩, d5, d6⟩ (laOk_of hI ro) c30 (by omega) (by omega) hx hy hxy (fun h1 k30 hF => ?_)
  rw [talk_cls rp ro hits hx hy hxy] at k30
  refine hQ h1 (hC.kx (isX_iff.mpr ⟨⟨_, _, _, k30⟩, x2.fr (fun q a b => hF q (by omega)), x3.fr (fun q a b => hF q (by omega)), x4.fr (fun q a b => hF q (by omega)), x5.fr (hF 44 (by omega)), x6.fr (fun q a b => hF q (by omega))⟩) (hF.wk (fun q => by omega))) k30 hF
theorem cs_talk {a b w : Int} (hC : isC h n s) (hI : Inv s.bk) (ha : inI a) (hb : inI b) (hw : inI w) (hQ : ∀ h', isC h' n (fTalk s a b w).2 → Fr CR h h' → Q (some (vI (fTalk s a b w).1)) n h') : Cl G mX8_talk [vR 0, vI a, vI b, vI w] n h Q := by
  obtain ⟨kd, ag, ld, rk, ow, la, tx, qu, wa, lg, ev, c0, c1, c2, c3, c4, c5, c6, c7, c8, c9, c10, c11, c12, c13, c14, -⟩ := hC.opn
  have i0 := hI.1.1
  obtain ⟨ga, gb, gc, c30⟩ := id (isX_iff.mp hC.2.2.2.1).1
  unfold fTalk at hQ
  refine cl_of (by decide) (Nat.le_of_ble_eq_true rfl) rfl ?_
  refine r_aload_n (pc := 0) dX8_talk_0 rfl <| r_getf (pc := 1) dX8_talk_1 fA_X8_12 c0 rfl <| r_getf (pc := 4) dX8_talk_4 fA_X8_86 c1 rfl <| r_iload_n (pc := 7) dX8_talk_7 rfl <| r_iload_n (pc := 8) dX8_talk_8 rfl <| cVi [_, _] (pc := 9) dX8_talk_9 k_X8_116 ⟨⟨Nat.le_of_ble_eq_true rfl, Nat.le_of_ble_eq_true rfl⟩, ⟨Nat.le_of_ble_eq_true rfl, Nat.le_of_ble_eq_true rfl⟩, Nat.le_of_ble_eq_true rfl⟩ ⟨rfl, rfl⟩ c2 ?_
  refine sp_hasTwo c2 (by omega) ha hb (fun q1 => ?_) (fun q1 => ?_)
  · skip
    refine ⟨_, rfl, ?_⟩
    refine r_if_eq (pc := 12) 24 dX8_talk_12 (by decide) (by decide) (fun q => absurd q (by decide)) (fun _ => ?_)
    refine r_iload_n (pc := 15) dX8_talk_15 rfl <| r_iconst (pc := 16) dX8_talk_16 <| r_iconst (pc := 17) dX8_talk_17 <| cSi [_, _, _] (pc := 18) dX8_talk_18 k_X8_78 ⟨⟨Nat.le_of_ble_eq_true rfl, Nat.le_of_ble_eq_true rfl⟩, ⟨Nat.le_of_ble_eq_true rfl, Nat.le_of_ble_eq_true rfl⟩, Nat.le_of_ble_eq_true rfl⟩ ⟨rfl, rfl⟩ ?_
    refine sp_within (by omega) (by omega) (by omega) (fun q2 => ?_) (fun q2 => ?_)
    · skip
      refine ⟨_, rfl, ?_⟩
      refine r_if_ne (pc := 21) 31 dX8_talk_21 (by decide) (by decide) (fun _ => ?_) (fun q => absurd q (by decide))
      refine r_aload_n (pc := 31) dX8_talk_31 rfl <| cVi [] (pc := 32) dX8_talk_32 k_X8_143 ⟨⟨Nat.le_of_ble_eq_true rfl, Nat.le_of_ble_eq_true rfl⟩, ⟨Nat.le_of_ble_eq_true rfl, Nat.le_of_ble_eq_true rfl⟩, Nat.le_of_ble_eq_true rfl⟩ ⟨rfl, rfl⟩ c0 ?_
      refine cs_faulty hC hI (fun q3 => ?_) (fun q3 => ?_)
      · skip
        refine ⟨_, rfl, ?_⟩
        refine r_if_eq (pc := 35) 45 dX8_talk_35 (by decide) (by decide) (fun q => absurd q (by decide)) (fun _ => ?_)
        refine r_aload_n (pc := 38) dX8_talk_38 rfl <| r_bipush (pc := 39) dX8_talk_39 (by decide) <| cVi [_] (pc := 41) dX8_talk_41 k_X8_147 ⟨⟨Nat.le_of_ble_eq_true rfl, Nat.le_of_ble_eq_true rfl⟩, ⟨Nat.le_of_ble_eq_true rfl, Nat.le_of_ble_eq_true rfl⟩, Nat.le_of_ble_eq_true rfl⟩ ⟨rfl, rfl⟩ c0 ?_
        refine cs_no hC (fun h1 g1 g2 => ?_)
        refine ⟨_, rfl, ?_⟩
        refine r_iret (pc := 44) dX8_talk_44 rfl ⟨Nat.le_of_ble_eq_true rfl, Nat.le_of_ble_eq_true rfl⟩ <| ?_
        rw [if_neg (by omega), if_pos q3] at hQ; exact hQ _ g1 g2
      · skip
        refine ⟨_, rfl, ?_⟩
        refine r_if_eq (pc := 35) 45 dX8_talk_35 (by decide) (by decide) (fun _ => ?_) (fun q => absurd q (by decide))
        refine r_aload_n (pc := 45) dX8_talk_45 rfl <| r_getf (pc := 46) dX8_talk_46 fA_X8_33 c0 rfl <| r_aload_n (pc := 49) dX8_talk_49 rfl <| r_getf (pc := 50) dX8_talk_50 fA_X8_23 c0 rfl <| r_aload_n (pc := 53) dX8_talk_53 rfl <| r_getf (pc := 54) dX8_talk_54 fA_X8_12 c0 rfl <| r_getf (pc := 57) dX8_talk_57 fA_X8_86 c1 rfl <| r_aload_n (pc := 60) dX8_talk_60 rfl <| r_getf (pc := 61) dX8_talk_61 fA_X8_12 c0 rfl <| r_getf (pc := 64) dX8_talk_64 fA_X8_120 c1 rfl <| r_iload_n (pc := 67) dX8_talk_67 rfl <| r_iload_n (pc := 68) dX8_talk_68 rfl <| cVv [_, _, _, _, _] (pc := 69) dX8_talk_69 k_X8_163 ⟨⟨Nat.le_of_ble_eq_true rfl, Nat.le_of_ble_eq_true rfl⟩, ⟨Nat.le_of_ble_eq_true rfl, Nat.le_of_ble_eq_true rfl⟩, Nat.le_of_ble_eq_true rfl⟩ ⟨rfl, rfl⟩ c30 ?_
        refine cs_hold hC hI q3 (by omega) (by omega) (by omega) (fun h1 g1 k30 hF => ?_)
        refine ⟨rfl, ?_⟩
        replace c0 := hF.keep c0 (by omega)
        clear c30
        have c30 := k30
        refine r_iload_n (pc := 72) dX8_talk_72 rfl <| r_if_ne (pc := 73) 84 dX8_talk_73 (by decide) (by omega) (fun hc_73 => ?_) (fun hc_73 => ?_)
        · skip
          refine r_iload_n (pc := 84) dX8_talk_84 rfl <| r_iconst (pc := 85) dX8_talk_85 <| r_icmp_ne (pc := 86) 99 dX8_talk_86 (by decide) (by omega) (by omega) (fun hc_86 => ?_) (fun hc_86 => ?_)
          · skip
            refine r_aload_n (pc := 99) dX8_talk_99 rfl <| r_getf (pc := 100) dX8_talk_100 fA_X8_33 c0 rfl <| r_getf (pc := 103) dX8_talk_103 fA_X8_173 c30 rfl <| r_iret (pc := 106) dX8_talk_106 rfl ⟨Nat.le_of_ble_eq_true rfl, Nat.le_of_ble_eq_true rfl⟩ <| ?_
            rw [if_neg (by omega), if_neg (fun q => q q3)] at hQ
            refine qI ?_ (hQ _ g1 (hF.wk (fun q => by omega)))
            first
              | (rw [if_pos (by omega)])
              | (rw [if_neg (by omega), if_pos (by omega)])
              | (rw [if_neg (by omega), if_neg (by omega)])
          · skip
            refine r_aload_n (pc := 89) dX8_talk_89 rfl <| r_getf (pc := 90) dX8_talk_90 fA_X8_33 c0 rfl <| r_getf (pc := 93) dX8_talk_93 fA_X8_170 c30 rfl <| r_goto (pc := 96) 106 dX8_talk_96 (by decide) <| r_iret (pc := 106) dX8_talk_106 rfl ⟨Nat.le_of_ble_eq_true rfl, Nat.le_of_ble_eq_true rfl⟩ <| ?_
            rw [if_neg (by omega), if_neg (fun q => q q3)] at hQ
            refine qI ?_ (hQ _ g1 (hF.wk (fun q => by omega)))
            first
              | (rw [if_pos (by omega)])
              | (rw [if_neg (by omega), if_pos (by omega)])
              | (rw [if_neg (by omega), if_neg (by omega)])
        · skip
          refine r_aload_n (pc := 76) dX8_talk_76 rfl <| r_getf (pc := 77) dX8_talk_77 fA_X8_33 c0 rfl <| r_getf (pc := 80) dX8_talk_80 fA_X8_167 c30 rfl <| r_iret (pc := 83) dX8_talk_83 rfl ⟨Nat.le_of_ble_eq_true rfl, Nat.le_of_ble_eq_true rfl⟩ <| ?_
          rw [if_neg (by omega), if_neg (fun q => q q3)] at hQ
          refine qI ?_ (hQ _ g1 (hF.wk (fun q => by omega)))
          first
            | (rw [if_pos (by omega)])
            | (rw [if_neg (by omega), if_pos (by omega)])
            | (rw [if_neg (by omega), if_neg (by omega)])
    · skip
      refine ⟨_, rfl, ?_⟩
      refine r_if_ne (pc := 21) 31 dX8_talk_21 (by decide) (by decide) (fun q => absurd q (by decide)) (fun _ => ?_)
      refine r_aload_n (pc := 24) dX8_talk_24 rfl <| r_bipush (pc := 25) dX8_talk_25 (by decide) <| cVi [_] (pc := 27) dX8_talk_27 k_X8_82 ⟨⟨Nat.le_of_ble_eq_true rfl, Nat.le_of_ble_eq_true rfl⟩, ⟨Nat.le_of_ble_eq_true rfl, Nat.le_of_ble_eq_true rfl⟩, Nat.le_of_ble_eq_true rfl⟩ ⟨rfl, rfl⟩ c0 ?_
      refine cs_bad hC (fun h1 g1 g2 => ?_)
      refine ⟨_, rfl, ?_⟩
      refine r_iret (pc := 30) dX8_talk_30 rfl ⟨Nat.le_of_ble_eq_true rfl, Nat.le_of_ble_eq_true rfl⟩ <| ?_
      rw [if_pos (by omega)] at hQ; exact hQ _ g1 g2
  · skip
    refine ⟨_, rfl, ?_⟩
    refine r_if_eq (pc := 12) 24 dX8_talk_12 (by decide) (by decide) (fun _ => ?_) (fun q => absurd q (by decide))
    refine r_aload_n (pc := 24) dX8_talk_24 rfl <| r_bipush (pc := 25) dX8_talk_25 (by decide) <| cVi [_] (pc := 27) dX8_talk_27 k_X8_82 ⟨⟨Nat.le_of_ble_eq_true rfl, Nat.le_of_ble_eq_true rfl⟩, ⟨Nat.le_of_ble_eq_true rfl, Nat.le_of_ble_eq_true rfl⟩, Nat.le_of_ble_eq_true rfl⟩ ⟨rfl, rfl⟩ c0 ?_
    refine cs_bad hC (fun h1 g1 g2 => ?_)
    refine ⟨_, rfl, ?_⟩
    refine r_iret (pc := 30) dX8_talk_30 rfl ⟨Nat.le_of_ble_eq_true rfl, Nat.le_of_ble_eq_true rfl⟩ <| ?_
    rw [if_pos (by omega)] at hQ; exact hQ _ g1 g2
theorem went_RO {bk ow la : Int → Int} {w o : Int} (hr : RO bk ow la) (hw : 0 ≤ w ∧ w < 8) (ho : 0 ≤ o ∧ o < 8) (hwo : w ≠ o) : RO (wentB bk w o) (wentO ow w o) (wentL la w o) := by
  refine ⟨fun i a b => ?_, fun x y x0 xy y8 => ?_⟩
  · unfold wentO wentB
    rw [iu_n (x := 100 + (if w < o then 8 * w + o else 8 * o + w)) (by split <;> omega)]
    by_cases e : i = w * 8 + o
    · rw [e, iu_s, show 36 + (w * 8 + o) = 36 + 8 * w + o by omega, iu_s, hr.1 _ (by omega) (by omega), show 36 + (w * 8 + o) = 36 + 8 * w + o by omega]
    · rw [iu_n e, iu_n (by omega)]; exact hr.1 i a b
  · have h2 := hr.2 x y x0 xy y8
    unfold wentL wentB
    by_cases e1 : x = w ∧ y = o
    · obtain ⟨rfl, rfl⟩ := e1
      rw [if_pos xy, iu_s, iu_n (by omega), iu_s, iu_s]; exact ⟨rfl, rfl⟩
    · by_cases e2 : x = o ∧ y = w
      · obtain ⟨rfl, rfl⟩ := e2
        rw [if_neg (show ¬ y < x by omega), iu_s, iu_s, iu_n (by omega), iu_s]; exact ⟨rfl, rfl⟩
      · rw [iu_n (show x * 8 + y ≠ o * 8 + w by omega), iu_n (show x * 8 + y ≠ w * 8 + o by omega), iu_n (show y * 8 + x ≠ o * 8 + w by omega), iu_n (show y * 8 + x ≠ w * 8 + o by omega), iu_n (show 100 + (8 * x + y) ≠ 100 + (if w < o then 8 * w + o else 8 * o + w) by split <;> omega), iu_n (show 100 + (8 * x + y) ≠ 36 + 8 * w + o by omega)]
        exact h2
theorem wO_bd {ow : Int → Int} {w o : Int} (d : Bd ow 0 99) (hw : 0 ≤ w ∧ w < 8) : Bd (wentO ow w o) 0 99 := by
  unfold wentO
  refine d.iu ?_
  have := d (w * 8 + o)
  split <;> omega
theorem wL_bd {la : Int → Int} {w o : Int} (d : Bd la (-1) 7) (hw : 0 ≤ w ∧ w < 8) : Bd (wentL la w o) (-1) 7 := (d.iu (by omega)).iu (by omega)
theorem RO.cg {bk ow la : Int → Int} {w o o' : Int} (hr : RO (wentB bk w o) ow la) (e : o = o') : RO (wentB bk w o') ow la := e ▸ hr
/-- one has gone first, by the class's bows -/
theorem isC.went {ow la : Int → Int} {w o : Int} (hC : isC h n s) (hI : Inv s.bk) (hr : RO (wentB s.bk w o) ow la) (d5 : Bd ow 0 99) (d6 : Bd la (-1) 7) (kB : isB h' 7 ow la) (hF : Fr (fun q => q = 7 + 1 ∨ q = 7 + 2) h h') (hw : 0 ≤ w ∧ w < 8) (ho : 0 ≤ o ∧ o < 8) (hwo : w ≠ o) : isC h' n (s.sbk (wentB s.bk w o)) := by
  obtain ⟨u0, u1, u2, u3, u4, u5, u6, u7⟩ := isW_iff.mp hC.2.1
  have eo : ∀ j, ¬ (36 ≤ j ∧ j < 164) → wentB s.bk w o j = s.bk j := fun j hj => wentB_out hw ho hj
  refine hC.wld hI ?_ (u1.fr (fun q a b => hF q (by omega)) (fun j a => eo j (by omega))) ⟨ow, la, kB, ⟨d5, d6⟩, hr⟩ (u4.fr (hF 11 (by omega)) (fun j a b => eo j (by omega))) (u5.fr (hF 12 (by omega)) (fun j a b => eo j (by omega))) (u6.fr (hF 13 (by omega)) (fun j a b => eo j (by omega))) (u7.fr (hF 14 (by omega)) (fun j a b => eo j (by omega))) (fun j hj => eo j (by omega)) (hC.2.2.2.1.fr (fun q a b => hF q (by omega))) (hF.wk (fun q => by omega))
  rw [oW_eq (bk := s.bk) (eo 1 (by omega)) (eo 2 (by omega)) (eo 3 (by omega))]
  exact (hF 1 (by omega)).trans u0
theorem cs_meet {a b : Int} (hC : isC h n s) (hI : Inv s.bk) (ha : inI a) (hb : inI b) (hQ : ∀ h', isC h' n (fMeet s a b).2 → Fr CR h h' → Q (some (vI (fMeet s a b).1)) n h') : Cl G mX8_meet [vR 0, vI a, vI b] n h Q := by
  obtain ⟨kd, ag, ld, rk, ow, la, tx, qu, wa, lg, ev, c0, c1, c2, c3, c4, c5, c6, c7, c8, c9, c10, c11, c12, c13, c14, ⟨-, ⟨d5, d6⟩, -⟩, rp, ro, -⟩ := hC.opn
  have i0 := hI.1.1
  obtain ⟨ga, gb, gc, c30⟩ := id (isX_iff.mp hC.2.2.2.1).1
  unfold fMeet at hQ
  refine cl_of (by decide) (Nat.le_of_ble_eq_true rfl) rfl ?_
  refine r_aload_n (pc := 0) dX8_meet_0 rfl <| r_getf (pc := 1) dX8_meet_1 fA_X8_12 c0 rfl <| r_getf (pc := 4) dX8_meet_4 fA_X8_86 c1 rfl <| r_iload_n (pc := 7) dX8_meet_7 rfl <| r_iload_n (pc := 8) dX8_meet_8 rfl <| cVi [_, _] (pc := 9) dX8_meet_9 k_X8_116 ⟨⟨Nat.le_of_ble_eq_true rfl, Nat.le_of_ble_eq_true rfl⟩, ⟨Nat.le_of_ble_eq_true rfl, Nat.le_of_ble_eq_true rfl⟩, Nat.le_of_ble_eq_true rfl⟩ ⟨rfl, rfl⟩ c2 ?_
  refine sp_hasTwo c2 (by omega) ha hb (fun q1 => ?_) (fun q1 => ?_)
  · skip
    refine ⟨_, rfl, ?_⟩
    refine r_if_ne (pc := 12) 22 dX8_meet_12 (by decide) (by decide) (fun _ => ?_) (fun q => absurd q (by decide))
    refine r_aload_n (pc := 22) dX8_meet_22 rfl <| cVi [] (pc := 23) dX8_meet_23 k_X8_143 ⟨⟨Nat.le_of_ble_eq_true rfl, Nat.le_of_ble_eq_true rfl⟩, ⟨Nat.le_of_ble_eq_true rfl, Nat.le_of_ble_eq_true rfl⟩, Nat.le_of_ble_eq_true rfl⟩ ⟨rfl, rfl⟩ c0 ?_
    refine cs_faulty hC hI (fun q3 => ?_) (fun q3 => ?_)
    · skip
      refine ⟨_, rfl, ?_⟩
      refine r_if_eq (pc := 26) 36 dX8_meet_26 (by decide) (by decide) (fun q => absurd q (by decide)) (fun _ => ?_)
      refine r_aload_n (pc := 29) dX8_meet_29 rfl <| r_bipush (pc := 30) dX8_meet_30 (by decide) <| cVi [_] (pc := 32) dX8_meet_32 k_X8_147 ⟨⟨Nat.le_of_ble_eq_true rfl, Nat.le_of_ble_eq_true rfl⟩, ⟨Nat.le_of_ble_eq_true rfl, Nat.le_of_ble_eq_true rfl⟩, Nat.le_of_ble_eq_true rfl⟩ ⟨rfl, rfl⟩ c0 ?_
      refine cs_no hC (fun h1 g1 g2 => ?_)
      refine ⟨_, rfl, ?_⟩
      refine r_iret (pc := 35) dX8_meet_35 rfl ⟨Nat.le_of_ble_eq_true rfl, Nat.le_of_ble_eq_true rfl⟩ <| ?_
      rw [if_neg (by omega), if_pos q3] at hQ; exact hQ _ g1 g2
    · skip
      refine ⟨_, rfl, ?_⟩
      refine r_if_eq (pc := 26) 36 dX8_meet_26 (by decide) (by decide) (fun _ => ?_) (fun q => absurd q (by decide))
      refine r_aload_n (pc := 36) dX8_meet_36 rfl <| r_getf (pc := 37) dX8_meet_37 fA_X8_33 c0 rfl <| r_aload_n (pc := 40) dX8_meet_40 rfl <| r_getf (pc := 41) dX8_meet_41 fA_X8_23 c0 rfl <| r_aload_n (pc := 44) dX8_meet_44 rfl <| r_getf (pc := 45) dX8_meet_45 fA_X8_12 c0 rfl <| r_getf (pc := 48) dX8_meet_48 fA_X8_86 c1 rfl <| r_aload_n (pc := 51) dX8_meet_51 rfl <| r_getf (pc := 52) dX8_meet_52 fA_X8_12 c0 rfl <| r_getf (pc := 55) dX8_meet_55 fA_X8_120 c1 rfl <| r_iload_n (pc := 58) dX8_meet_58 rfl <| r_iload_n (pc := 59) dX8_meet_59 rfl <| cVv [_, _, _, _, _] (pc := 60) dX8_meet_60 k_X8_163 ⟨⟨Nat.le_of_ble_eq_true rfl, Nat.le_of_ble_eq_true rfl⟩, ⟨Nat.le_of_ble_eq_true rfl, Nat.le_of_ble_eq_true rfl⟩, Nat.le_of_ble_eq_true rfl⟩ ⟨rfl, rfl⟩ c30 ?_
      have hb3 : (TB s.bk a b).1 = -1 ∨ (TB s.bk a b).1 = a ∨ (TB s.bk a b).1 = b := TI_in (its := itB s.bk) hI (by omega) (by omega) (by omega)
      refine cs_hold hC hI q3 (by omega) (by omega) (by omega) (fun h1 g1 k30 hF => ?_)
      refine ⟨rfl, ?_⟩
      replace c0 := hF.keep c0 (by omega)
      replace c1 := hF.keep c1 (by omega)
      replace c7 := hF.keep c7 (by omega)
      clear c30
      have c30 := k30
      refine r_aload_n (pc := 63) dX8_meet_63 rfl <| r_getf (pc := 64) dX8_meet_64 fA_X8_33 c0 rfl <| r_getf (pc := 67) dX8_meet_67 fA_X8_167 c30 rfl <| r_iconst (pc := 70) dX8_meet_70 <| r_icmp_eq (pc := 71) 107 dX8_meet_71 (by decide) (by omega) (by omega) (fun hc_71 => ?_) (fun hc_71 => ?_)
      · skip
        refine r_aload_n (pc := 107) dX8_meet_107 rfl <| r_getf (pc := 108) dX8_meet_108 fA_X8_33 c0 rfl <| r_getf (pc := 111) dX8_meet_111 fA_X8_167 c30 rfl <| r_iret (pc := 114) dX8_meet_114 rfl ⟨Nat.le_of_ble_eq_true rfl, Nat.le_of_ble_eq_true rfl⟩ <| ?_
        rw [if_neg (by omega), if_neg (fun q => q q3)] at hQ
        first
          | (rw [if_pos hc_71] at hQ
             exact qI hc_71 (hQ _ g1 (hF.wk (fun q => by omega))))
          | (rw [if_neg hc_71] at hQ
             refine hQ _ (g1.went hI ?_ ?_ ?_ kB hF2 ?_ ?_ ?_) (fun q hq => (hF2 q (by omega)).trans (hF q (by omega)))
             · exact RO.cg (went_RO ro (by omega) (by omega) (by omega)) (by omega)
             · exact wO_bd d5 (by omega)
             · exact wL_bd d6 (by omega)
             · omega
             · omega
             · omega)
      · skip
        refine r_aload_n (pc := 74) dX8_meet_74 rfl <| r_getf (pc := 75) dX8_meet_75 fA_X8_12 c0 rfl <| r_getf (pc := 78) dX8_meet_78 fA_X8_120 c1 rfl <| r_aload_n (pc := 81) dX8_meet_81 rfl <| r_getf (pc := 82) dX8_meet_82 fA_X8_33 c0 rfl <| r_getf (pc := 85) dX8_meet_85 fA_X8_167 c30 rfl <| r_aload_n (pc := 88) dX8_meet_88 rfl <| r_getf (pc := 89) dX8_meet_89 fA_X8_33 c0 rfl <| r_getf (pc := 92) dX8_meet_92 fA_X8_167 c30 rfl <| r_iload_n (pc := 95) dX8_meet_95 rfl <| r_icmp_ne (pc := 96) 103 dX8_meet_96 (by decide) (by omega) (by omega) (fun hc_96 => ?_) (fun hc_96 => ?_)
        · skip
          refine r_iload_n (pc := 103) dX8_meet_103 rfl <| cVv [_, _] (pc := 104) dX8_meet_104 k_X8_176 ⟨⟨Nat.le_of_ble_eq_true rfl, Nat.le_of_ble_eq_true rfl⟩, ⟨Nat.le_of_ble_eq_true rfl, Nat.le_of_ble_eq_true rfl⟩, Nat.le_of_ble_eq_true rfl⟩ ⟨rfl, rfl⟩ c7 ?_
          refine sp_went ⟨c7, hF.keep c8 (by omega), hF.keep c9 (by omega)⟩ d5 (by omega) (by omega) (fun h2 kB hF2 => ?_)
          refine ⟨rfl, ?_⟩
          replace c0 := hF2.keep c0 (by omega)
          replace c30 := hF2.keep c30 (by omega)
          refine r_aload_n (pc := 107) dX8_meet_107 rfl <| r_getf (pc := 108) dX8_meet_108 fA_X8_33 c0 rfl <| r_getf (pc := 111) dX8_meet_111 fA_X8_167 c30 rfl <| r_iret (pc := 114) dX8_meet_114 rfl ⟨Nat.le_of_ble_eq_true rfl, Nat.le_of_ble_eq_true rfl⟩ <| ?_
          rw [if_neg (by omega), if_neg (fun q => q q3)] at hQ
          first
            | (rw [if_pos hc_71] at hQ
               exact qI hc_71 (hQ _ g1 (hF.wk (fun q => by omega))))
            | (rw [if_neg hc_71] at hQ
               refine hQ _ (g1.went hI ?_ ?_ ?_ kB hF2 ?_ ?_ ?_) (fun q hq => (hF2 q (by omega)).trans (hF q (by omega)))
               · exact RO.cg (went_RO ro (by omega) (by omega) (by omega)) (by omega)
               · exact wO_bd d5 (by omega)
               · exact wL_bd d6 (by omega)
               · omega
               · omega
               · omega)
        · skip
          refine r_iload_n (pc := 99) dX8_meet_99 rfl <| r_goto (pc := 100) 104 dX8_meet_100 (by decide) <| cVv [_, _] (pc := 104) dX8_meet_104 k_X8_176 ⟨⟨Nat.le_of_ble_eq_true rfl, Nat.le_of_ble_eq_true rfl⟩, ⟨Nat.le_of_ble_eq_true rfl, Nat.le_of_ble_eq_true rfl⟩, Nat.le_of_ble_eq_true rfl⟩ ⟨rfl, rfl⟩ c7 ?_
          refine sp_went ⟨c7, hF.keep c8 (by omega), hF.keep c9 (by omega)⟩ d5 (by omega) (by omega) (fun h2 kB hF2 => ?_)
          refine ⟨rfl, ?_⟩
          replace c0 := hF2.keep c0 (by omega)
          replace c30 := hF2.keep c30 (by omega)
          refine r_aload_n (pc := 107) dX8_meet_107 rfl <| r_getf (pc := 108) dX8_meet_108 fA_X8_33 c0 rfl <| r_getf (pc := 111) dX8_meet_111 fA_X8_167 c30 rfl <| r_iret (pc := 114) dX8_meet_114 rfl ⟨Nat.le_of_ble_eq_true rfl, Nat.le_of_ble_eq_true rfl⟩ <| ?_
          rw [if_neg (by omega), if_neg (fun q => q q3)] at hQ
          first
            | (rw [if_pos hc_71] at hQ
               exact qI hc_71 (hQ _ g1 (hF.wk (fun q => by omega))))
            | (rw [if_neg hc_71] at hQ
               refine hQ _ (g1.went hI ?_ ?_ ?_ kB hF2 ?_ ?_ ?_) (fun q hq => (hF2 q (by omega)).trans (hF q (by omega)))
               · exact RO.cg (went_RO ro (by omega) (by omega) (by omega)) (by omega)
               · exact wO_bd d5 (by omega)
               · exact wL_bd d6 (by omega)
               · omega
               · omega
               · omega)
  · skip
    refine ⟨_, rfl, ?_⟩
    refine r_if_ne (pc := 12) 22 dX8_meet_12 (by decide) (by decide) (fun q => absurd q (by decide)) (fun _ => ?_)
    refine r_aload_n (pc := 15) dX8_meet_15 rfl <| r_bipush (pc := 16) dX8_meet_16 (by decide) <| cVi [_] (pc := 18) dX8_meet_18 k_X8_82 ⟨⟨Nat.le_of_ble_eq_true rfl, Nat.le_of_ble_eq_true rfl⟩, ⟨Nat.le_of_ble_eq_true rfl, Nat.le_of_ble_eq_true rfl⟩, Nat.le_of_ble_eq_true rfl⟩ ⟨rfl, rfl⟩ c0 ?_
    refine cs_bad hC (fun h1 g1 g2 => ?_)
    refine ⟨_, rfl, ?_⟩
    refine r_iret (pc := 21) dX8_meet_21 rfl ⟨Nat.le_of_ble_eq_true rfl, Nat.le_of_ble_eq_true rfl⟩ <| ?_
    rw [if_pos (by omega)] at hQ; exact hQ _ g1 g2
end CP

