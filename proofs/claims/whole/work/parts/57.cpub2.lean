/-! ===== the class: calls, on ===== -/
section CP2
variable {G : GT} {n : Nat} {h h' : Hp} {Q : PT} {s : SS}
theorem isC.qwle {bk' : Int → Int} (hC : isC h n s) (hI : Inv s.bk) (w1 : h' 1 = some (oW 1 bk')) (hq : wA h' 11 8 0 7 164 bk') (hw : wA h' 12 6 (-1) 7 172 bk') (hl : wA h' 13 36 0 99 180 bk') (he : wA h' 14 48 0 7 216 bk') (eo : ∀ j, ¬ (j = 2 ∨ j = 3 ∨ 164 ≤ j ∧ j < 264) → bk' j = s.bk j) (hF : Fr (fun q => q = 1 ∨ 11 ≤ q ∧ q ≤ 14) h h') : isC h' n (s.sbk bk') := by
  obtain ⟨u0, u1, u2, u3, u4, u5, u6, u7⟩ := isW_iff.mp hC.2.1
  exact hC.wld hI w1 (u1.fr (fun q a b => hF q (by omega)) (fun j a => eo j (by omega))) (u2.fr (fun q a b => hF q (by omega)) (fun j a b => eo j (by omega))) hq hw hl he (fun j hj => eo j (by omega)) (hC.2.2.2.1.fr (fun q a b => hF q (by omega))) (hF.wk (fun q => by omega))
theorem cs_item {i w : Int} (hC : isC h n s) (hI : Inv s.bk) (hi : inI i) (hw : inI w) (hQ : ∀ h', isC h' n (fItem s i w).2 → Fr CR h h' → Q (some (vI (fItem s i w).1)) n h') : Cl G mX8_item [vR 0, vI i, vI w] n h Q := by
  have c0 := hC.1
  unfold fItem at hQ
  by_cases hok : okB s.bk
  · obtain ⟨ro, co, le, ak, ab, c16, c19, c20, c21, c22, ⟨b1, b2, b3⟩, hm, hcl, hag, hak⟩ := hC.2.2.1.good hok
    have hab : ab < 1024 := hag.lt (by omega)
    have hits := (parse_ok (tx := txB s.bk) hI.1.2.1.1).1
    have key : ∀ v, (0 ≤ i ∧ i < (itB s.bk).length) → (0 ≤ w ∧ w ≤ 3) → (∀ q : IT, (itB s.bk)[i.toNat]? = some q → v = if w = 0 then q.1 else if w = 1 then q.2.1 else if w = 2 then q.2.2.1 else q.2.2.2) → v = itOf (itB s.bk) (4 * i + w) := by
      intro v h1 h2 h3
      obtain ⟨q, hq⟩ : ∃ q, (itB s.bk)[i.toNat]? = some q := ⟨(itB s.bk)[i.toNat]'(by omega), List.getElem?_eq_getElem (by omega)⟩
      obtain ⟨e0, e1, e2, e3⟩ := itOf_at hq
      rw [show ((i.toNat : Nat) : Int) = i by omega] at e0 e1 e2 e3
      rw [h3 q hq]
      rcases (show w = 0 ∨ w = 1 ∨ w = 2 ∨ w = 3 by omega) with rfl | rfl | rfl | rfl
      · rw [if_pos rfl, ← e0]; congr 1; omega
      · rw [if_neg (by decide), if_pos rfl, ← e1]
      · rw [if_neg (by decide), if_neg (by decide), if_pos rfl, ← e2]
      · rw [if_neg (by decide), if_neg (by decide), if_neg (by decide), ← e3]
    have hcl' : ∀ q : IT, 0 ≤ i → (itB s.bk)[i.toNat]? = some q → ro i = q.1 ∧ co i = q.2.2.1 ∧ le i = q.2.2.2 := by
      intro q h0 hq
      have := hcl _ q hq
      rw [show ((i.toNat : Nat) : Int) = i by omega] at this
      exact this
    have hag' : ∀ q : IT, 0 ≤ i → (itB s.bk)[i.toNat]? = some q → bitI (ab : Int) i = q.2.1 := by
      intro q h0 hq
      have h1 := hag i.toNat
      rw [hq] at h1
      have h2 := (hits q (List.mem_of_getElem? hq)).2.1
      have h3 : bitI (ab : Int) i = ((ab / 2 ^ i.toNat % 2 : Nat) : Int) := by unfold bitI; simp
      rw [h3]
      simp only [Option.map_some, Option.getD_some] at h1
      rw [Nat.testBit_eq_decide_div_mod_eq] at h1
      rcases h2 with h2 | h2
      · rw [h2] at h1 ⊢
        simp at h1
        omega
      · rw [h2] at h1 ⊢
        simp at h1
        omega
    change h 16 = some (aO 0 [vR 17, vI (-1), vI ((itB s.bk).length : Int), vI (ab : Nat), vR 19, vR 20, vR 21, vR 22]) at c16
    change (itB s.bk).length ≤ 9 at hm
    change h 19 = some (aA 9 ro) at c19
    change h 20 = some (aA 9 co) at c20
    change h 21 = some (aA 9 le) at c21
    refine cl_of (by decide) (Nat.le_of_ble_eq_true rfl) rfl ?_
    refine r_iload_n (pc := 0) dX8_item_0 rfl <| r_iconst (pc := 1) dX8_item_1 <| r_bipush (pc := 2) dX8_item_2 (by decide) <| cSi [_, _, _] (pc := 4) dX8_item_4 k_X8_78 ⟨⟨Nat.le_of_ble_eq_true rfl, Nat.le_of_ble_eq_true rfl⟩, ⟨Nat.le_of_ble_eq_true rfl, Nat.le_of_ble_eq_true rfl⟩, Nat.le_of_ble_eq_true rfl⟩ ⟨rfl, rfl⟩ ?_
    refine sp_within (by omega) (by omega) (by omega) (fun q1 => ?_) (fun q1 => ?_)
    · skip
      refine ⟨_, rfl, ?_⟩
      refine r_if_eq (pc := 7) 19 dX8_item_7 (by decide) (by decide) (fun q => absurd q (by decide)) (fun _ => ?_)
      refine r_iload_n (pc := 10) dX8_item_10 rfl <| r_iconst (pc := 11) dX8_item_11 <| r_iconst (pc := 12) dX8_item_12 <| cSi [_, _, _] (pc := 13) dX8_item_13 k_X8_78 ⟨⟨Nat.le_of_ble_eq_true rfl, Nat.le_of_ble_eq_true rfl⟩, ⟨Nat.le_of_ble_eq_true rfl, Nat.le_of_ble_eq_true rfl⟩, Nat.le_of_ble_eq_true rfl⟩ ⟨rfl, rfl⟩ ?_
      refine sp_within (by omega) (by omega) (by omega) (fun q2 => ?_) (fun q2 => ?_)
      · skip
        refine ⟨_, rfl, ?_⟩
        refine r_if_ne (pc := 16) 26 dX8_item_16 (by decide) (by decide) (fun _ => ?_) (fun q => absurd q (by decide))
        refine r_aload_n (pc := 26) dX8_item_26 rfl <| cVi [] (pc := 27) dX8_item_27 k_X8_143 ⟨⟨Nat.le_of_ble_eq_true rfl, Nat.le_of_ble_eq_true rfl⟩, ⟨Nat.le_of_ble_eq_true rfl, Nat.le_of_ble_eq_true rfl⟩, Nat.le_of_ble_eq_true rfl⟩ ⟨rfl, rfl⟩ c0 ?_
        refine cs_faulty hC hI (fun q3 => ?_) (fun q3 => ?_)
        · skip
          refine ⟨_, rfl, ?_⟩
          refine r_if_eq (pc := 30) 40 dX8_item_30 (by decide) (by decide) (fun q => absurd q (by decide)) (fun _ => ?_)
          refine r_aload_n (pc := 33) dX8_item_33 rfl <| r_bipush (pc := 34) dX8_item_34 (by decide) <| cVi [_] (pc := 36) dX8_item_36 k_X8_147 ⟨⟨Nat.le_of_ble_eq_true rfl, Nat.le_of_ble_eq_true rfl⟩, ⟨Nat.le_of_ble_eq_true rfl, Nat.le_of_ble_eq_true rfl⟩, Nat.le_of_ble_eq_true rfl⟩ ⟨rfl, rfl⟩ c0 ?_
          refine cs_no hC (fun h1 g1 g2 => ?_)
          refine ⟨_, rfl, ?_⟩
          refine r_iret (pc := 39) dX8_item_39 rfl ⟨Nat.le_of_ble_eq_true rfl, Nat.le_of_ble_eq_true rfl⟩ <| ?_
          exact absurd hok q3
        · skip
          refine ⟨_, rfl, ?_⟩
          refine r_if_eq (pc := 30) 40 dX8_item_30 (by decide) (by decide) (fun _ => ?_) (fun q => absurd q (by decide))
          refine r_iload_n (pc := 40) dX8_item_40 rfl <| r_aload_n (pc := 41) dX8_item_41 rfl <| r_getf (pc := 42) dX8_item_42 fA_X8_23 c0 rfl <| r_getf (pc := 45) dX8_item_45 fA_X8_150 c16 rfl <| r_icmp_lt (pc := 48) 58 dX8_item_48 (by decide) (by omega) (by omega) (fun hc_48 => ?_) (fun hc_48 => ?_)
          · skip
            refine r_iload_n (pc := 58) dX8_item_58 rfl <| ?_
            rcases (show w = 0 ∨ w = 1 ∨ w = 2 ∨ (w < 0 ∨ 2 < w) by omega) with hs_59 | hs_59 | hs_59 | hs_59
            · skip
              refine r_tableIn (pc := 59) 84 dX8_item_59 (by omega) (by omega) (by rw [hs_59]; rfl) (by decide) ?_
              refine r_aload_n (pc := 84) dX8_item_84 rfl <| r_getf (pc := 85) dX8_item_85 fA_X8_23 c0 rfl <| r_getf (pc := 88) dX8_item_88 fA_X8_151 c16 rfl <| r_iload_n (pc := 91) dX8_item_91 rfl <| r_iald (pc := 92) dX8_item_92 c19 (by omega) (by decide) <| r_iret (pc := 93) dX8_item_93 rfl ⟨Nat.le_of_ble_eq_true rfl, Nat.le_of_ble_eq_true rfl⟩ <| ?_
              rw [if_neg (by omega), if_neg (fun q => q hok), if_pos (by omega)] at hQ
              refine qI (key _ (by omega) (by omega) (fun q hq => ?_)) (hQ _ hC Fr.rf)
              rw [if_pos (by omega)]; exact (hcl' q (by omega) hq).1
            · skip
              refine r_tableIn (pc := 59) 94 dX8_item_59 (by omega) (by omega) (by rw [hs_59]; rfl) (by decide) ?_
              refine r_aload_n (pc := 94) dX8_item_94 rfl <| r_getf (pc := 95) dX8_item_95 fA_X8_23 c0 rfl <| r_getf (pc := 98) dX8_item_98 fA_X8_154 c16 rfl <| r_iload_n (pc := 101) dX8_item_101 rfl <| r_ishr (pc := 102) ((ab : Int) / (2 ^ i.toNat : Nat)) dX8_item_102 (i_shr (by omega) (by omega)) <| r_iconst (pc := 103) dX8_item_103 <| r_iand (pc := 104) (bitI (ab : Int) i) dX8_item_104 (i_bit (by omega)) <| r_iret (pc := 105) dX8_item_105 rfl ⟨Nat.le_of_ble_eq_true rfl, Nat.le_of_ble_eq_true rfl⟩ <| ?_
              rw [if_neg (by omega), if_neg (fun q => q hok), if_pos (by omega)] at hQ
              refine qI (key _ (by omega) (by omega) (fun q hq => ?_)) (hQ _ hC Fr.rf)
              rw [if_neg (by omega), if_pos (by omega)]; exact hag' q (by omega) hq
            · skip
              refine r_tableIn (pc := 59) 106 dX8_item_59 (by omega) (by omega) (by rw [hs_59]; rfl) (by decide) ?_
              refine r_aload_n (pc := 106) dX8_item_106 rfl <| r_getf (pc := 107) dX8_item_107 fA_X8_23 c0 rfl <| r_getf (pc := 110) dX8_item_110 fA_X8_157 c16 rfl <| r_iload_n (pc := 113) dX8_item_113 rfl <| r_iald (pc := 114) dX8_item_114 c20 (by omega) (by decide) <| r_iret (pc := 115) dX8_item_115 rfl ⟨Nat.le_of_ble_eq_true rfl, Nat.le_of_ble_eq_true rfl⟩ <| ?_
              rw [if_neg (by omega), if_neg (fun q => q hok), if_pos (by omega)] at hQ
              refine qI (key _ (by omega) (by omega) (fun q hq => ?_)) (hQ _ hC Fr.rf)
              rw [if_neg (by omega), if_neg (by omega), if_pos (by omega)]; exact (hcl' q (by omega) hq).2.1
            · skip
              refine r_tableOut (pc := 59) 116 dX8_item_59 (by omega) hs_59 (by decide) ?_
              refine r_aload_n (pc := 116) dX8_item_116 rfl <| r_getf (pc := 117) dX8_item_117 fA_X8_23 c0 rfl <| r_getf (pc := 120) dX8_item_120 fA_X8_160 c16 rfl <| r_iload_n (pc := 123) dX8_item_123 rfl <| r_iald (pc := 124) dX8_item_124 c21 (by omega) (by decide) <| r_iret (pc := 125) dX8_item_125 rfl ⟨Nat.le_of_ble_eq_true rfl, Nat.le_of_ble_eq_true rfl⟩ <| ?_
              rw [if_neg (by omega), if_neg (fun q => q hok), if_pos (by omega)] at hQ
              refine qI (key _ (by omega) (by omega) (fun q hq => ?_)) (hQ _ hC Fr.rf)
              rw [if_neg (by omega), if_neg (by omega), if_neg (by omega)]; exact (hcl' q (by omega) hq).2.2
          · skip
            refine r_aload_n (pc := 51) dX8_item_51 rfl <| r_bipush (pc := 52) dX8_item_52 (by decide) <| cVi [_] (pc := 54) dX8_item_54 k_X8_82 ⟨⟨Nat.le_of_ble_eq_true rfl, Nat.le_of_ble_eq_true rfl⟩, ⟨Nat.le_of_ble_eq_true rfl, Nat.le_of_ble_eq_true rfl⟩, Nat.le_of_ble_eq_true rfl⟩ ⟨rfl, rfl⟩ c0 ?_
            refine cs_bad hC (fun h1 g1 g2 => ?_)
            refine ⟨_, rfl, ?_⟩
            refine r_iret (pc := 57) dX8_item_57 rfl ⟨Nat.le_of_ble_eq_true rfl, Nat.le_of_ble_eq_true rfl⟩ <| ?_
            rw [if_neg (by omega), if_neg (fun q => q hok), if_neg (by omega)] at hQ; exact hQ _ g1 g2
      · skip
        refine ⟨_, rfl, ?_⟩
        refine r_if_ne (pc := 16) 26 dX8_item_16 (by decide) (by decide) (fun q => absurd q (by decide)) (fun _ => ?_)
        refine r_aload_n (pc := 19) dX8_item_19 rfl <| r_bipush (pc := 20) dX8_item_20 (by decide) <| cVi [_] (pc := 22) dX8_item_22 k_X8_82 ⟨⟨Nat.le_of_ble_eq_true rfl, Nat.le_of_ble_eq_true rfl⟩, ⟨Nat.le_of_ble_eq_true rfl, Nat.le_of_ble_eq_true rfl⟩, Nat.le_of_ble_eq_true rfl⟩ ⟨rfl, rfl⟩ c0 ?_
        refine cs_bad hC (fun h1 g1 g2 => ?_)
        refine ⟨_, rfl, ?_⟩
        refine r_iret (pc := 25) dX8_item_25 rfl ⟨Nat.le_of_ble_eq_true rfl, Nat.le_of_ble_eq_true rfl⟩ <| ?_
        rw [if_pos (by omega)] at hQ; exact hQ _ g1 g2
    · skip
      refine ⟨_, rfl, ?_⟩
      refine r_if_eq (pc := 7) 19 dX8_item_7 (by decide) (by decide) (fun _ => ?_) (fun q => absurd q (by decide))
      refine r_aload_n (pc := 19) dX8_item_19 rfl <| r_bipush (pc := 20) dX8_item_20 (by decide) <| cVi [_] (pc := 22) dX8_item_22 k_X8_82 ⟨⟨Nat.le_of_ble_eq_true rfl, Nat.le_of_ble_eq_true rfl⟩, ⟨Nat.le_of_ble_eq_true rfl, Nat.le_of_ble_eq_true rfl⟩, Nat.le_of_ble_eq_true rfl⟩ ⟨rfl, rfl⟩ c0 ?_
      refine cs_bad hC (fun h1 g1 g2 => ?_)
      refine ⟨_, rfl, ?_⟩
      refine r_iret (pc := 25) dX8_item_25 rfl ⟨Nat.le_of_ble_eq_true rfl, Nat.le_of_ble_eq_true rfl⟩ <| ?_
      rw [if_pos (by omega)] at hQ; exact hQ _ g1 g2
  · skip
    refine cl_of (by decide) (Nat.le_of_ble_eq_true rfl) rfl ?_
    refine r_iload_n (pc := 0) dX8_item_0 rfl <| r_iconst (pc := 1) dX8_item_1 <| r_bipush (pc := 2) dX8_item_2 (by decide) <| cSi [_, _, _] (pc := 4) dX8_item_4 k_X8_78 ⟨⟨Nat.le_of_ble_eq_true rfl, Nat.le_of_ble_eq_true rfl⟩, ⟨Nat.le_of_ble_eq_true rfl, Nat.le_of_ble_eq_true rfl⟩, Nat.le_of_ble_eq_true rfl⟩ ⟨rfl, rfl⟩ ?_
    refine sp_within (by omega) (by omega) (by omega) (fun q1 => ?_) (fun q1 => ?_)
    · skip
      refine ⟨_, rfl, ?_⟩
      refine r_if_eq (pc := 7) 19 dX8_item_7 (by decide) (by decide) (fun q => absurd q (by decide)) (fun _ => ?_)
      refine r_iload_n (pc := 10) dX8_item_10 rfl <| r_iconst (pc := 11) dX8_item_11 <| r_iconst (pc := 12) dX8_item_12 <| cSi [_, _, _] (pc := 13) dX8_item_13 k_X8_78 ⟨⟨Nat.le_of_ble_eq_true rfl, Nat.le_of_ble_eq_true rfl⟩, ⟨Nat.le_of_ble_eq_true rfl, Nat.le_of_ble_eq_true rfl⟩, Nat.le_of_ble_eq_true rfl⟩ ⟨rfl, rfl⟩ ?_
      refine sp_within (by omega) (by omega) (by omega) (fun q2 => ?_) (fun q2 => ?_)
      · skip
        refine ⟨_, rfl, ?_⟩
        refine r_if_ne (pc := 16) 26 dX8_item_16 (by decide) (by decide) (fun _ => ?_) (fun q => absurd q (by decide))
        refine r_aload_n (pc := 26) dX8_item_26 rfl <| cVi [] (pc := 27) dX8_item_27 k_X8_143 ⟨⟨Nat.le_of_ble_eq_true rfl, Nat.le_of_ble_eq_true rfl⟩, ⟨Nat.le_of_ble_eq_true rfl, Nat.le_of_ble_eq_true rfl⟩, Nat.le_of_ble_eq_true rfl⟩ ⟨rfl, rfl⟩ c0 ?_
        refine cs_faulty hC hI (fun q3 => ?_) (fun q3 => absurd q3 hok)
        · skip
          refine ⟨_, rfl, ?_⟩
          refine r_if_eq (pc := 30) 40 dX8_item_30 (by decide) (by decide) (fun q => absurd q (by decide)) (fun _ => ?_)
          refine r_aload_n (pc := 33) dX8_item_33 rfl <| r_bipush (pc := 34) dX8_item_34 (by decide) <| cVi [_] (pc := 36) dX8_item_36 k_X8_147 ⟨⟨Nat.le_of_ble_eq_true rfl, Nat.le_of_ble_eq_true rfl⟩, ⟨Nat.le_of_ble_eq_true rfl, Nat.le_of_ble_eq_true rfl⟩, Nat.le_of_ble_eq_true rfl⟩ ⟨rfl, rfl⟩ c0 ?_
          refine cs_no hC (fun h1 g1 g2 => ?_)
          refine ⟨_, rfl, ?_⟩
          refine r_iret (pc := 39) dX8_item_39 rfl ⟨Nat.le_of_ble_eq_true rfl, Nat.le_of_ble_eq_true rfl⟩ <| ?_
          rw [if_neg (by omega), if_pos hok] at hQ; exact hQ _ g1 g2
      · skip
        refine ⟨_, rfl, ?_⟩
        refine r_if_ne (pc := 16) 26 dX8_item_16 (by decide) (by decide) (fun q => absurd q (by decide)) (fun _ => ?_)
        refine r_aload_n (pc := 19) dX8_item_19 rfl <| r_bipush (pc := 20) dX8_item_20 (by decide) <| cVi [_] (pc := 22) dX8_item_22 k_X8_82 ⟨⟨Nat.le_of_ble_eq_true rfl, Nat.le_of_ble_eq_true rfl⟩, ⟨Nat.le_of_ble_eq_true rfl, Nat.le_of_ble_eq_true rfl⟩, Nat.le_of_ble_eq_true rfl⟩ ⟨rfl, rfl⟩ c0 ?_
        refine cs_bad hC (fun h1 g1 g2 => ?_)
        refine ⟨_, rfl, ?_⟩
        refine r_iret (pc := 25) dX8_item_25 rfl ⟨Nat.le_of_ble_eq_true rfl, Nat.le_of_ble_eq_true rfl⟩ <| ?_
        rw [if_pos (by omega)] at hQ; exact hQ _ g1 g2
    · skip
      refine ⟨_, rfl, ?_⟩
      refine r_if_eq (pc := 7) 19 dX8_item_7 (by decide) (by decide) (fun _ => ?_) (fun q => absurd q (by decide))
      refine r_aload_n (pc := 19) dX8_item_19 rfl <| r_bipush (pc := 20) dX8_item_20 (by decide) <| cVi [_] (pc := 22) dX8_item_22 k_X8_82 ⟨⟨Nat.le_of_ble_eq_true rfl, Nat.le_of_ble_eq_true rfl⟩, ⟨Nat.le_of_ble_eq_true rfl, Nat.le_of_ble_eq_true rfl⟩, Nat.le_of_ble_eq_true rfl⟩ ⟨rfl, rfl⟩ c0 ?_
      refine cs_bad hC (fun h1 g1 g2 => ?_)
      refine ⟨_, rfl, ?_⟩
      refine r_iret (pc := 25) dX8_item_25 rfl ⟨Nat.le_of_ble_eq_true rfl, Nat.le_of_ble_eq_true rfl⟩ <| ?_
      rw [if_pos (by omega)] at hQ; exact hQ _ g1 g2
theorem cs_disperse (hC : isC h n s) (hI : Inv s.bk) (hQ : ∀ h', isC h' n (fDisperse s).2 → Fr CR h h' → Q (some (vI (fDisperse s).1)) n h') : Cl G mX8_disperse [vR 0] n h Q := by
  obtain ⟨kd, ag, ld, rk, ow, la, tx, qu, wa, lg, ev, c0, c1, c2, c3, c4, c5, c6, c7, c8, c9, c10, c11, c12, c13, c14, -⟩ := hC.opn
  obtain ⟨u0, u1, u2, u3, u4, u5, u6, u7⟩ := isW_iff.mp hC.2.1
  unfold fDisperse at hQ
  refine cl_of (by decide) (Nat.le_of_ble_eq_true rfl) rfl ?_
  refine r_aload_n (pc := 0) dX8_disperse_0 rfl <| r_getf (pc := 1) dX8_disperse_1 fA_X8_12 c0 rfl <| r_getf (pc := 4) dX8_disperse_4 fA_X8_186 c1 rfl <| r_istoren_1 (pc := 7) dX8_disperse_7 rfl <| r_aload_n (pc := 8) dX8_disperse_8 rfl <| r_getf (pc := 9) dX8_disperse_9 fA_X8_12 c0 rfl <| r_iconst (pc := 12) dX8_disperse_12 <| r_putf (pc := 13) dX8_disperse_13 fP_X8_186 rfl rfl c1 rfl (fun h_13 c1 hF_13 => ?_)
  simp only [List.set_cons_zero, List.set_cons_succ] at c1
  replace c0 := hF_13.keep c0 (by omega)
  replace c2 := hF_13.keep c2 (by omega)
  replace c7 := hF_13.keep c7 (by omega)
  refine r_iload_n (pc := 16) dX8_disperse_16 rfl <| r_iret (pc := 17) dX8_disperse_17 rfl ⟨Nat.le_of_ble_eq_true rfl, Nat.le_of_ble_eq_true rfl⟩ <| ?_
  have hF := hF_13
  have eo : ∀ j, ¬ j = 2 → iu s.bk 2 0 j = s.bk j := fun j hj => iu_n hj
  refine hQ _ (hC.qwle hI ?_ (u4.fr (hF 11 (by omega)) (fun j a b => eo j (by omega))) (u5.fr (hF 12 (by omega)) (fun j a b => eo j (by omega))) (u6.fr (hF 13 (by omega)) (fun j a b => eo j (by omega))) (u7.fr (hF 14 (by omega)) (fun j a b => eo j (by omega))) (fun j hj => eo j (by omega)) (hF.wk (fun q => by omega))) (hF.wk (fun q => by omega))
  unfold oW
  rw [eo 1 (by omega), eo 3 (by omega), iu_s]
  exact c1
theorem cs_forget (hC : isC h n s) (hI : Inv s.bk) (hQ : ∀ h', isC h' n (fForget s).2 → Fr CR h h' → Q (some (vI (fForget s).1)) n h') : Cl G mX8_forget [vR 0] n h Q := by
  obtain ⟨kd, ag, ld, rk, ow, la, tx, qu, wa, lg, ev, c0, c1, c2, c3, c4, c5, c6, c7, c8, c9, c10, c11, c12, c13, c14, -⟩ := hC.opn
  obtain ⟨u0, u1, u2, u3, u4, u5, u6, u7⟩ := isW_iff.mp hC.2.1
  unfold fForget at hQ
  refine cl_of (by decide) (Nat.le_of_ble_eq_true rfl) rfl ?_
  refine r_aload_n (pc := 0) dX8_forget_0 rfl <| r_getf (pc := 1) dX8_forget_1 fA_X8_12 c0 rfl <| r_getf (pc := 4) dX8_forget_4 fA_X8_231 c1 rfl <| r_istoren_1 (pc := 7) dX8_forget_7 rfl <| r_aload_n (pc := 8) dX8_forget_8 rfl <| r_getf (pc := 9) dX8_forget_9 fA_X8_12 c0 rfl <| r_iconst (pc := 12) dX8_forget_12 <| r_putf (pc := 13) dX8_forget_13 fP_X8_231 rfl rfl c1 rfl (fun h_13 c1 hF_13 => ?_)
  simp only [List.set_cons_zero, List.set_cons_succ] at c1
  replace c0 := hF_13.keep c0 (by omega)
  replace c2 := hF_13.keep c2 (by omega)
  replace c7 := hF_13.keep c7 (by omega)
  refine r_iload_n (pc := 16) dX8_forget_16 rfl <| r_iret (pc := 17) dX8_forget_17 rfl ⟨Nat.le_of_ble_eq_true rfl, Nat.le_of_ble_eq_true rfl⟩ <| ?_
  have hF := hF_13
  have eo : ∀ j, ¬ j = 3 → iu s.bk 3 0 j = s.bk j := fun j hj => iu_n hj
  refine hQ _ (hC.qwle hI ?_ (u4.fr (hF 11 (by omega)) (fun j a b => eo j (by omega))) (u5.fr (hF 12 (by omega)) (fun j a b => eo j (by omega))) (u6.fr (hF 13 (by omega)) (fun j a b => eo j (by omega))) (u7.fr (hF 14 (by omega)) (fun j a b => eo j (by omega))) (fun j hj => eo j (by omega)) (hF.wk (fun q => by omega))) (hF.wk (fun q => by omega))
  unfold oW
  rw [eo 1 (by omega), eo 2 (by omega), iu_s]
  exact c1
theorem cs_waits {d p : Int} (hC : isC h n s) (hI : Inv s.bk) (hd : inI d) (hp : inI p) (hQ : ∀ h', isC h' n (fWaits s d p).2 → Fr CR h h' → Q (some (vI (fWaits s d p).1)) n h') : Cl G mX8_waits [vR 0, vI d, vI p] n h Q := by
  obtain ⟨kd, ag, ld, rk, ow, la, tx, qu, wa, lg, ev, c0, c1, c2, c3, c4, c5, c6, c7, c8, c9, c10, c11, c12, c13, c14, ⟨-, -, -, -, dw, -⟩, -, -, -, -, rw_, -⟩ := hC.opn
  obtain ⟨u0, u1, u2, u3, u4, u5, u6, u7⟩ := isW_iff.mp hC.2.1
  have i0 := hI.1.1
  unfold fWaits at hQ
  refine cl_of (by decide) (Nat.le_of_ble_eq_true rfl) rfl ?_
  refine r_iload_n (pc := 0) dX8_waits_0 rfl <| cSi [_] (pc := 1) dX8_waits_1 k_X8_207 ⟨⟨Nat.le_of_ble_eq_true rfl, Nat.le_of_ble_eq_true rfl⟩, ⟨Nat.le_of_ble_eq_true rfl, Nat.le_of_ble_eq_true rfl⟩, Nat.le_of_ble_eq_true rfl⟩ ⟨rfl, rfl⟩ ?_
  refine sp_isDoor hd (fun q1 => ?_) (fun q1 => ?_)
  · skip
    refine ⟨_, rfl, ?_⟩
    refine r_if_eq (pc := 4) 26 dX8_waits_4 (by decide) (by decide) (fun q => absurd q (by decide)) (fun _ => ?_)
    refine r_iload_n (pc := 7) dX8_waits_7 rfl <| r_iconst (pc := 8) dX8_waits_8 <| r_icmp_eq (pc := 9) 33 dX8_waits_9 (by decide) (by omega) (by omega) (fun hc_9 => ?_) (fun hc_9 => ?_)
    · skip
      refine r_aload_n (pc := 33) dX8_waits_33 rfl <| r_getf (pc := 34) dX8_waits_34 fA_X8_12 c0 rfl <| r_getf (pc := 37) dX8_waits_37 fA_X8_210 c1 rfl <| r_iload_n (pc := 40) dX8_waits_40 rfl <| r_iald (pc := 41) dX8_waits_41 c12 (by omega) (by decide) <| r_istoren_3 (pc := 42) dX8_waits_42 rfl <| r_aload_n (pc := 43) dX8_waits_43 rfl <| r_getf (pc := 44) dX8_waits_44 fA_X8_12 c0 rfl <| r_getf (pc := 47) dX8_waits_47 fA_X8_210 c1 rfl <| r_iload_n (pc := 50) dX8_waits_50 rfl <| r_iload_n (pc := 51) dX8_waits_51 rfl <| r_iast (pc := 52) dX8_waits_52 c12 (by omega) (by decide) (fun h_52 c12 hF_52 => ?_)
      replace c0 := hF_52.keep c0 (by omega)
      replace c1 := hF_52.keep c1 (by omega)
      replace c2 := hF_52.keep c2 (by omega)
      replace c7 := hF_52.keep c7 (by omega)
      refine r_iload_n (pc := 53) dX8_waits_53 rfl <| r_iret (pc := 54) dX8_waits_54 rfl ⟨Nat.le_of_ble_eq_true rfl, Nat.le_of_ble_eq_true rfl⟩ <| ?_
      rw [if_pos (by omega)] at hQ
      have hF := hF_52
      have eo : ∀ j, ¬ j = 172 + d → iu s.bk (172 + d) p j = s.bk j := fun j hj => iu_n hj
      refine qI (rw_ d (by omega) (by omega)) (hQ _ (hC.qwle hI ?_ (u4.fr (hF 11 (by omega)) (fun j a b => eo j (by omega))) ⟨iu wa d p, c12, dw.iu (by omega), fun i a b => ?_⟩ (u6.fr (hF 13 (by omega)) (fun j a b => eo j (by omega))) (u7.fr (hF 14 (by omega)) (fun j a b => eo j (by omega))) (fun j hj => eo j (by omega)) (hF.wk (fun q => by omega))) (hF.wk (fun q => by omega)))
      · rw [oW_eq (bk := s.bk) (eo 1 (by omega)) (eo 2 (by omega)) (eo 3 (by omega))]
        exact c1
      · by_cases e : i = d
        · rw [e, iu_s, iu_s]
        · rw [iu_n e, eo _ (by omega)]; exact rw_ i a b
    · skip
      refine r_aload_n (pc := 12) dX8_waits_12 rfl <| r_getf (pc := 13) dX8_waits_13 fA_X8_12 c0 rfl <| r_getf (pc := 16) dX8_waits_16 fA_X8_86 c1 rfl <| r_iload_n (pc := 19) dX8_waits_19 rfl <| cVi [_] (pc := 20) dX8_waits_20 k_X8_103 ⟨⟨Nat.le_of_ble_eq_true rfl, Nat.le_of_ble_eq_true rfl⟩, ⟨Nat.le_of_ble_eq_true rfl, Nat.le_of_ble_eq_true rfl⟩, Nat.le_of_ble_eq_true rfl⟩ ⟨rfl, rfl⟩ c2 ?_
      refine sp_has c2 (by omega) hp (fun q2 => ?_) (fun q2 => ?_)
      · skip
        refine ⟨_, rfl, ?_⟩
        refine r_if_ne (pc := 23) 33 dX8_waits_23 (by decide) (by decide) (fun _ => ?_) (fun q => absurd q (by decide))
        refine r_aload_n (pc := 33) dX8_waits_33 rfl <| r_getf (pc := 34) dX8_waits_34 fA_X8_12 c0 rfl <| r_getf (pc := 37) dX8_waits_37 fA_X8_210 c1 rfl <| r_iload_n (pc := 40) dX8_waits_40 rfl <| r_iald (pc := 41) dX8_waits_41 c12 (by omega) (by decide) <| r_istoren_3 (pc := 42) dX8_waits_42 rfl <| r_aload_n (pc := 43) dX8_waits_43 rfl <| r_getf (pc := 44) dX8_waits_44 fA_X8_12 c0 rfl <| r_getf (pc := 47) dX8_waits_47 fA_X8_210 c1 rfl <| r_iload_n (pc := 50) dX8_waits_50 rfl <| r_iload_n (pc := 51) dX8_waits_51 rfl <| r_iast (pc := 52) dX8_waits_52 c12 (by omega) (by decide) (fun h_52 c12 hF_52 => ?_)
        replace c0 := hF_52.keep c0 (by omega)
        replace c1 := hF_52.keep c1 (by omega)
        replace c2 := hF_52.keep c2 (by omega)
        replace c7 := hF_52.keep c7 (by omega)
        refine r_iload_n (pc := 53) dX8_waits_53 rfl <| r_iret (pc := 54) dX8_waits_54 rfl ⟨Nat.le_of_ble_eq_true rfl, Nat.le_of_ble_eq_true rfl⟩ <| ?_
        rw [if_pos (by omega)] at hQ
        have hF := hF_52
        have eo : ∀ j, ¬ j = 172 + d → iu s.bk (172 + d) p j = s.bk j := fun j hj => iu_n hj
        refine qI (rw_ d (by omega) (by omega)) (hQ _ (hC.qwle hI ?_ (u4.fr (hF 11 (by omega)) (fun j a b => eo j (by omega))) ⟨iu wa d p, c12, dw.iu (by omega), fun i a b => ?_⟩ (u6.fr (hF 13 (by omega)) (fun j a b => eo j (by omega))) (u7.fr (hF 14 (by omega)) (fun j a b => eo j (by omega))) (fun j hj => eo j (by omega)) (hF.wk (fun q => by omega))) (hF.wk (fun q => by omega)))
        · rw [oW_eq (bk := s.bk) (eo 1 (by omega)) (eo 2 (by omega)) (eo 3 (by omega))]
          exact c1
        · by_cases e : i = d
          · rw [e, iu_s, iu_s]
          · rw [iu_n e, eo _ (by omega)]; exact rw_ i a b
      · skip
        refine ⟨_, rfl, ?_⟩
        refine r_if_ne (pc := 23) 33 dX8_waits_23 (by decide) (by decide) (fun q => absurd q (by decide)) (fun _ => ?_)
        refine r_aload_n (pc := 26) dX8_waits_26 rfl <| r_bipush (pc := 27) dX8_waits_27 (by decide) <| cVi [_] (pc := 29) dX8_waits_29 k_X8_82 ⟨⟨Nat.le_of_ble_eq_true rfl, Nat.le_of_ble_eq_true rfl⟩, ⟨Nat.le_of_ble_eq_true rfl, Nat.le_of_ble_eq_true rfl⟩, Nat.le_of_ble_eq_true rfl⟩ ⟨rfl, rfl⟩ c0 ?_
        refine cs_bad hC (fun h1 g1 g2 => ?_)
        refine ⟨_, rfl, ?_⟩
        refine r_iret (pc := 32) dX8_waits_32 rfl ⟨Nat.le_of_ble_eq_true rfl, Nat.le_of_ble_eq_true rfl⟩ <| ?_
        rw [if_neg (by omega)] at hQ; exact hQ _ g1 g2
  · skip
    refine ⟨_, rfl, ?_⟩
    refine r_if_eq (pc := 4) 26 dX8_waits_4 (by decide) (by decide) (fun _ => ?_) (fun q => absurd q (by decide))
    refine r_aload_n (pc := 26) dX8_waits_26 rfl <| r_bipush (pc := 27) dX8_waits_27 (by decide) <| cVi [_] (pc := 29) dX8_waits_29 k_X8_82 ⟨⟨Nat.le_of_ble_eq_true rfl, Nat.le_of_ble_eq_true rfl⟩, ⟨Nat.le_of_ble_eq_true rfl, Nat.le_of_ble_eq_true rfl⟩, Nat.le_of_ble_eq_true rfl⟩ ⟨rfl, rfl⟩ c0 ?_
    refine cs_bad hC (fun h1 g1 g2 => ?_)
    refine ⟨_, rfl, ?_⟩
    refine r_iret (pc := 32) dX8_waits_32 rfl ⟨Nat.le_of_ble_eq_true rfl, Nat.le_of_ble_eq_true rfl⟩ <| ?_
    rw [if_neg (by omega)] at hQ; exact hQ _ g1 g2
theorem cs_leg {a b m : Int} (hC : isC h n s) (hI : Inv s.bk) (ha : inI a) (hb : inI b) (hm : inI m) (hQ : ∀ h', isC h' n (fLeg s a b m).2 → Fr CR h h' → Q (some (vI (fLeg s a b m).1)) n h') : Cl G mX8_leg [vR 0, vI a, vI b, vI m] n h Q := by
  obtain ⟨kd, ag, ld, rk, ow, la, tx, qu, wa, lg, ev, c0, c1, c2, c3, c4, c5, c6, c7, c8, c9, c10, c11, c12, c13, c14, ⟨-, -, -, -, -, dl, -⟩, -, -, -, -, -, rl_, -⟩ := hC.opn
  obtain ⟨u0, u1, u2, u3, u4, u5, u6, u7⟩ := isW_iff.mp hC.2.1
  unfold fLeg at hQ
  refine cl_of (by decide) (Nat.le_of_ble_eq_true rfl) rfl ?_
  refine r_iload_n (pc := 0) dX8_leg_0 rfl <| cSi [_] (pc := 1) dX8_leg_1 k_X8_207 ⟨⟨Nat.le_of_ble_eq_true rfl, Nat.le_of_ble_eq_true rfl⟩, ⟨Nat.le_of_ble_eq_true rfl, Nat.le_of_ble_eq_true rfl⟩, Nat.le_of_ble_eq_true rfl⟩ ⟨rfl, rfl⟩ ?_
  refine sp_isDoor ha (fun q1 => ?_) (fun q1 => ?_)
  · skip
    refine ⟨_, rfl, ?_⟩
    refine r_if_eq (pc := 4) 29 dX8_leg_4 (by decide) (by decide) (fun q => absurd q (by decide)) (fun _ => ?_)
    refine r_iload_n (pc := 7) dX8_leg_7 rfl <| cSi [_] (pc := 8) dX8_leg_8 k_X8_207 ⟨⟨Nat.le_of_ble_eq_true rfl, Nat.le_of_ble_eq_true rfl⟩, ⟨Nat.le_of_ble_eq_true rfl, Nat.le_of_ble_eq_true rfl⟩, Nat.le_of_ble_eq_true rfl⟩ ⟨rfl, rfl⟩ ?_
    refine sp_isDoor hb (fun q2 => ?_) (fun q2 => ?_)
    · skip
      refine ⟨_, rfl, ?_⟩
      refine r_if_eq (pc := 11) 29 dX8_leg_11 (by decide) (by decide) (fun q => absurd q (by decide)) (fun _ => ?_)
      refine r_iload_n (pc := 14) dX8_leg_14 rfl <| r_iload_n (pc := 15) dX8_leg_15 rfl <| r_icmp_eq (pc := 16) 29 dX8_leg_16 (by decide) (by omega) (by omega) (fun hc_16 => ?_) (fun hc_16 => ?_)
      · skip
        refine r_aload_n (pc := 29) dX8_leg_29 rfl <| r_bipush (pc := 30) dX8_leg_30 (by decide) <| cVi [_] (pc := 32) dX8_leg_32 k_X8_82 ⟨⟨Nat.le_of_ble_eq_true rfl, Nat.le_of_ble_eq_true rfl⟩, ⟨Nat.le_of_ble_eq_true rfl, Nat.le_of_ble_eq_true rfl⟩, Nat.le_of_ble_eq_true rfl⟩ ⟨rfl, rfl⟩ c0 ?_
        refine cs_bad hC (fun h1 g1 g2 => ?_)
        refine ⟨_, rfl, ?_⟩
        refine r_iret (pc := 35) dX8_leg_35 rfl ⟨Nat.le_of_ble_eq_true rfl, Nat.le_of_ble_eq_true rfl⟩ <| ?_
        rw [if_neg (by omega)] at hQ; exact hQ _ g1 g2
      · skip
        refine r_iload_n (pc := 19) dX8_leg_19 rfl <| r_iconst (pc := 20) dX8_leg_20 <| r_bipush (pc := 21) dX8_leg_21 (by decide) <| cSi [_, _, _] (pc := 23) dX8_leg_23 k_X8_78 ⟨⟨Nat.le_of_ble_eq_true rfl, Nat.le_of_ble_eq_true rfl⟩, ⟨Nat.le_of_ble_eq_true rfl, Nat.le_of_ble_eq_true rfl⟩, Nat.le_of_ble_eq_true rfl⟩ ⟨rfl, rfl⟩ ?_
        refine sp_within (by omega) (by omega) (by omega) (fun q3 => ?_) (fun q3 => ?_)
        · skip
          refine ⟨_, rfl, ?_⟩
          refine r_if_ne (pc := 26) 36 dX8_leg_26 (by decide) (by decide) (fun _ => ?_) (fun q => absurd q (by decide))
          refine r_aload_n (pc := 36) dX8_leg_36 rfl <| r_getf (pc := 37) dX8_leg_37 fA_X8_12 c0 rfl <| r_getf (pc := 40) dX8_leg_40 fA_X8_213 c1 rfl <| r_iload_n (pc := 43) dX8_leg_43 rfl <| r_bipush (pc := 44) dX8_leg_44 (by decide) <| r_imul (pc := 46) dX8_leg_46 <| r_iload_n (pc := 47) dX8_leg_47 rfl <| r_iadd (pc := 48) dX8_leg_48 <| r_iald (pc := 49) dX8_leg_49 c13 (by omega) (by decide) <| r_istore_4 (pc := 50) dX8_leg_50 rfl <| r_aload_n (pc := 52) dX8_leg_52 rfl <| r_getf (pc := 53) dX8_leg_53 fA_X8_12 c0 rfl <| r_getf (pc := 56) dX8_leg_56 fA_X8_213 c1 rfl <| r_iload_n (pc := 59) dX8_leg_59 rfl <| r_bipush (pc := 60) dX8_leg_60 (by decide) <| r_imul (pc := 62) dX8_leg_62 <| r_iload_n (pc := 63) dX8_leg_63 rfl <| r_iadd (pc := 64) dX8_leg_64 <| r_iload_n (pc := 65) dX8_leg_65 rfl <| r_iast (pc := 66) dX8_leg_66 c13 (by omega) (by decide) (fun h_66 c13 hF_66 => ?_)
          replace c0 := hF_66.keep c0 (by omega)
          replace c1 := hF_66.keep c1 (by omega)
          replace c2 := hF_66.keep c2 (by omega)
          replace c7 := hF_66.keep c7 (by omega)
          refine r_aload_n (pc := 67) dX8_leg_67 rfl <| r_getf (pc := 68) dX8_leg_68 fA_X8_12 c0 rfl <| r_getf (pc := 71) dX8_leg_71 fA_X8_213 c1 rfl <| r_iload_n (pc := 74) dX8_leg_74 rfl <| r_bipush (pc := 75) dX8_leg_75 (by decide) <| r_imul (pc := 77) dX8_leg_77 <| r_iload_n (pc := 78) dX8_leg_78 rfl <| r_iadd (pc := 79) dX8_leg_79 <| r_iload_n (pc := 80) dX8_leg_80 rfl <| r_iast (pc := 81) dX8_leg_81 c13 (by omega) (by decide) (fun h_81 c13 hF_81 => ?_)
          replace c0 := hF_81.keep c0 (by omega)
          replace c1 := hF_81.keep c1 (by omega)
          replace c2 := hF_81.keep c2 (by omega)
          replace c7 := hF_81.keep c7 (by omega)
          refine r_iload (pc := 82) dX8_leg_82 rfl <| r_iret (pc := 84) dX8_leg_84 rfl ⟨Nat.le_of_ble_eq_true rfl, Nat.le_of_ble_eq_true rfl⟩ <| ?_
          rw [if_pos (by omega)] at hQ
          have hF : Fr (fun q => q = 13) h h_81 := fun q hq => (hF_81 q hq).trans (hF_66 q hq)
          have eo : ∀ j, ¬ (j = 180 + 6 * a + b ∨ j = 180 + 6 * b + a) → iu (iu s.bk (180 + 6 * a + b) m) (180 + 6 * b + a) m j = s.bk j := fun j hj => by rw [iu_n (by omega), iu_n (by omega)]
          refine qI ?_ (hQ _ (hC.qwle hI ?_ (u4.fr (hF 11 (by omega)) (fun j a b => eo j (by omega))) (u5.fr (hF 12 (by omega)) (fun j a b => eo j (by omega))) ⟨_, c13, (dl.iu (by omega)).iu (by omega), fun i i0 i1 => ?_⟩ (u7.fr (hF 14 (by omega)) (fun j a b => eo j (by omega))) (fun j hj => eo j (by omega)) (hF.wk (fun q => by omega))) (hF.wk (fun q => by omega)))
          · rw [rl_ _ (by omega) (by omega)]; congr 1; omega
          · rw [oW_eq (bk := s.bk) (eo 1 (by omega)) (eo 2 (by omega)) (eo 3 (by omega))]
            exact c1
          · by_cases e : i = b * 6 + a
            · rw [e, iu_s, show 180 + (b * 6 + a) = 180 + 6 * b + a by omega, iu_s]
            · rw [iu_n e]
              by_cases e2 : i = a * 6 + b
              · rw [e2, iu_s, show 180 + (a * 6 + b) = 180 + 6 * a + b by omega, iu_n (by omega), iu_s]
              · rw [iu_n e2, eo _ (by omega)]; exact rl_ i i0 i1
        · skip
          refine ⟨_, rfl, ?_⟩
          refine r_if_ne (pc := 26) 36 dX8_leg_26 (by decide) (by decide) (fun q => absurd q (by decide)) (fun _ => ?_)
          refine r_aload_n (pc := 29) dX8_leg_29 rfl <| r_bipush (pc := 30) dX8_leg_30 (by decide) <| cVi [_] (pc := 32) dX8_leg_32 k_X8_82 ⟨⟨Nat.le_of_ble_eq_true rfl, Nat.le_of_ble_eq_true rfl⟩, ⟨Nat.le_of_ble_eq_true rfl, Nat.le_of_ble_eq_true rfl⟩, Nat.le_of_ble_eq_true rfl⟩ ⟨rfl, rfl⟩ c0 ?_
          refine cs_bad hC (fun h1 g1 g2 => ?_)
          refine ⟨_, rfl, ?_⟩
          refine r_iret (pc := 35) dX8_leg_35 rfl ⟨Nat.le_of_ble_eq_true rfl, Nat.le_of_ble_eq_true rfl⟩ <| ?_
          rw [if_neg (by omega)] at hQ; exact hQ _ g1 g2
    · skip
      refine ⟨_, rfl, ?_⟩
      refine r_if_eq (pc := 11) 29 dX8_leg_11 (by decide) (by decide) (fun _ => ?_) (fun q => absurd q (by decide))
      refine r_aload_n (pc := 29) dX8_leg_29 rfl <| r_bipush (pc := 30) dX8_leg_30 (by decide) <| cVi [_] (pc := 32) dX8_leg_32 k_X8_82 ⟨⟨Nat.le_of_ble_eq_true rfl, Nat.le_of_ble_eq_true rfl⟩, ⟨Nat.le_of_ble_eq_true rfl, Nat.le_of_ble_eq_true rfl⟩, Nat.le_of_ble_eq_true rfl⟩ ⟨rfl, rfl⟩ c0 ?_
      refine cs_bad hC (fun h1 g1 g2 => ?_)
      refine ⟨_, rfl, ?_⟩
      refine r_iret (pc := 35) dX8_leg_35 rfl ⟨Nat.le_of_ble_eq_true rfl, Nat.le_of_ble_eq_true rfl⟩ <| ?_
      rw [if_neg (by omega)] at hQ; exact hQ _ g1 g2
  · skip
    refine ⟨_, rfl, ?_⟩
    refine r_if_eq (pc := 4) 29 dX8_leg_4 (by decide) (by decide) (fun _ => ?_) (fun q => absurd q (by decide))
    refine r_aload_n (pc := 29) dX8_leg_29 rfl <| r_bipush (pc := 30) dX8_leg_30 (by decide) <| cVi [_] (pc := 32) dX8_leg_32 k_X8_82 ⟨⟨Nat.le_of_ble_eq_true rfl, Nat.le_of_ble_eq_true rfl⟩, ⟨Nat.le_of_ble_eq_true rfl, Nat.le_of_ble_eq_true rfl⟩, Nat.le_of_ble_eq_true rfl⟩ ⟨rfl, rfl⟩ c0 ?_
    refine cs_bad hC (fun h1 g1 g2 => ?_)
    refine ⟨_, rfl, ?_⟩
    refine r_iret (pc := 35) dX8_leg_35 rfl ⟨Nat.le_of_ble_eq_true rfl, Nat.le_of_ble_eq_true rfl⟩ <| ?_
    rw [if_neg (by omega)] at hQ; exact hQ _ g1 g2
theorem cs_tell {a b w : Int} (hC : isC h n s) (hI : Inv s.bk) (ha : inI a) (hb : inI b) (hw : inI w) (hQ : ∀ h', isC h' n (fTell s a b w).2 → Fr CR h h' → Q (some (vI (fTell s a b w).1)) n h') : Cl G mX8_tell [vR 0, vI a, vI b, vI w] n h Q := by
  obtain ⟨kd, ag, ld, rk, ow, la, tx, qu, wa, lg, ev, c0, c1, c2, c3, c4, c5, c6, c7, c8, c9, c10, c11, c12, c13, c14, ⟨-, -, -, -, -, -, de⟩, -, -, -, -, -, -, re⟩ := hC.opn
  obtain ⟨u0, u1, u2, u3, u4, u5, u6, u7⟩ := isW_iff.mp hC.2.1
  have i0 := hI.1.1
  have i3 := hI.1.2.2.2
  unfold fTell at hQ
  refine cl_of (by decide) (Nat.le_of_ble_eq_true rfl) rfl ?_
  refine r_aload_n (pc := 0) dX8_tell_0 rfl <| r_getf (pc := 1) dX8_tell_1 fA_X8_12 c0 rfl <| r_getf (pc := 4) dX8_tell_4 fA_X8_86 c1 rfl <| r_iload_n (pc := 7) dX8_tell_7 rfl <| r_iload_n (pc := 8) dX8_tell_8 rfl <| cVi [_, _] (pc := 9) dX8_tell_9 k_X8_116 ⟨⟨Nat.le_of_ble_eq_true rfl, Nat.le_of_ble_eq_true rfl⟩, ⟨Nat.le_of_ble_eq_true rfl, Nat.le_of_ble_eq_true rfl⟩, Nat.le_of_ble_eq_true rfl⟩ ⟨rfl, rfl⟩ c2 ?_
  refine sp_hasTwo c2 (by omega) ha hb (fun q1 => ?_) (fun q1 => ?_)
  · skip
    refine ⟨_, rfl, ?_⟩
    refine r_if_eq (pc := 12) 25 dX8_tell_12 (by decide) (by decide) (fun q => absurd q (by decide)) (fun _ => ?_)
    refine r_iload_n (pc := 15) dX8_tell_15 rfl <| r_iload_n (pc := 16) dX8_tell_16 rfl <| r_icmp_eq (pc := 17) 32 dX8_tell_17 (by decide) (by omega) (by omega) (fun hc_17 => ?_) (fun hc_17 => ?_)
    · skip
      refine r_aload_n (pc := 32) dX8_tell_32 rfl <| r_getf (pc := 33) dX8_tell_33 fA_X8_12 c0 rfl <| r_getf (pc := 36) dX8_tell_36 fA_X8_231 c1 rfl <| r_bipush (pc := 39) dX8_tell_39 (by decide) <| r_icmp_lt (pc := 41) 49 dX8_tell_41 (by decide) (by omega) (by omega) (fun hc_41 => ?_) (fun hc_41 => ?_)
      · skip
        refine r_aload_n (pc := 49) dX8_tell_49 rfl <| r_getf (pc := 50) dX8_tell_50 fA_X8_12 c0 rfl <| r_getf (pc := 53) dX8_tell_53 fA_X8_231 c1 rfl <| r_iconst (pc := 56) dX8_tell_56 <| r_imul (pc := 57) dX8_tell_57 <| r_istore_4 (pc := 58) dX8_tell_58 rfl <| r_aload_n (pc := 60) dX8_tell_60 rfl <| r_getf (pc := 61) dX8_tell_61 fA_X8_12 c0 rfl <| r_getf (pc := 64) dX8_tell_64 fA_X8_234 c1 rfl <| r_iload (pc := 67) dX8_tell_67 rfl <| r_iload_n (pc := 69) dX8_tell_69 rfl <| r_iast (pc := 70) dX8_tell_70 c14 (by omega) (by decide) (fun h_70 c14 hF_70 => ?_)
        replace c0 := hF_70.keep c0 (by omega)
        replace c1 := hF_70.keep c1 (by omega)
        replace c2 := hF_70.keep c2 (by omega)
        replace c7 := hF_70.keep c7 (by omega)
        refine r_aload_n (pc := 71) dX8_tell_71 rfl <| r_getf (pc := 72) dX8_tell_72 fA_X8_12 c0 rfl <| r_getf (pc := 75) dX8_tell_75 fA_X8_234 c1 rfl <| r_iload (pc := 78) dX8_tell_78 rfl <| r_iconst (pc := 80) dX8_tell_80 <| r_iadd (pc := 81) dX8_tell_81 <| r_iload_n (pc := 82) dX8_tell_82 rfl <| r_iast (pc := 83) dX8_tell_83 c14 (by omega) (by decide) (fun h_83 c14 hF_83 => ?_)
        replace c0 := hF_83.keep c0 (by omega)
        replace c1 := hF_83.keep c1 (by omega)
        replace c2 := hF_83.keep c2 (by omega)
        replace c7 := hF_83.keep c7 (by omega)
        refine r_aload_n (pc := 84) dX8_tell_84 rfl <| r_getf (pc := 85) dX8_tell_85 fA_X8_12 c0 rfl <| r_getf (pc := 88) dX8_tell_88 fA_X8_234 c1 rfl <| r_iload (pc := 91) dX8_tell_91 rfl <| r_iconst (pc := 93) dX8_tell_93 <| r_iadd (pc := 94) dX8_tell_94 <| r_iload_n (pc := 95) dX8_tell_95 rfl <| r_iast (pc := 96) dX8_tell_96 c14 (by omega) (by decide) (fun h_96 c14 hF_96 => ?_)
        replace c0 := hF_96.keep c0 (by omega)
        replace c1 := hF_96.keep c1 (by omega)
        replace c2 := hF_96.keep c2 (by omega)
        replace c7 := hF_96.keep c7 (by omega)
        refine r_aload_n (pc := 97) dX8_tell_97 rfl <| r_getf (pc := 98) dX8_tell_98 fA_X8_12 c0 rfl <| r_dup (pc := 101) dX8_tell_101 rfl <| r_getf (pc := 102) dX8_tell_102 fA_X8_231 c1 rfl <| r_iconst (pc := 105) dX8_tell_105 <| r_iadd (pc := 106) dX8_tell_106 <| r_putf (pc := 107) dX8_tell_107 fP_X8_231 rfl rfl c1 rfl (fun h_107 c1 hF_107 => ?_)
        simp only [List.set_cons_zero, List.set_cons_succ] at c1
        replace c0 := hF_107.keep c0 (by omega)
        replace c2 := hF_107.keep c2 (by omega)
        replace c7 := hF_107.keep c7 (by omega)
        replace c14 := hF_107.keep c14 (by omega)
        refine r_aload_n (pc := 110) dX8_tell_110 rfl <| r_getf (pc := 111) dX8_tell_111 fA_X8_12 c0 rfl <| r_getf (pc := 114) dX8_tell_114 fA_X8_231 c1 rfl <| r_iconst (pc := 117) dX8_tell_117 <| r_isub (pc := 118) dX8_tell_118 <| r_iret (pc := 119) dX8_tell_119 rfl ⟨Nat.le_of_ble_eq_true rfl, Nat.le_of_ble_eq_true rfl⟩ <| ?_
        rw [if_neg (by omega), if_neg (by omega)] at hQ
        have hF : Fr (fun q => q = 1 ∨ q = 14) h h_107 := fun q hq => (hF_107 q (by omega)).trans ((hF_96 q (by omega)).trans ((hF_83 q (by omega)).trans (hF_70 q (by omega))))
        have eo : ∀ j, ¬ (j = 3 ∨ j = 216 + 3 * s.bk 3 ∨ j = 216 + 3 * s.bk 3 + 1 ∨ j = 216 + 3 * s.bk 3 + 2) → iu (iu (iu (iu s.bk (216 + 3 * s.bk 3) a) (216 + 3 * s.bk 3 + 1) b) (216 + 3 * s.bk 3 + 2) w) 3 (s.bk 3 + 1) j = s.bk j := fun j hj => by rw [iu_n (by omega), iu_n (by omega), iu_n (by omega), iu_n (by omega)]
        refine qI ?_ (hQ _ (hC.qwle hI ?_ (u4.fr (hF 11 (by omega)) (fun j a b => eo j (by omega))) (u5.fr (hF 12 (by omega)) (fun j a b => eo j (by omega))) (u6.fr (hF 13 (by omega)) (fun j a b => eo j (by omega))) ⟨_, c14, ((de.iu (by omega)).iu (by omega)).iu (by omega), fun i i0 i1 => ?_⟩ (fun j hj => eo j (by omega)) (hF.wk (fun q => by omega))) (hF.wk (fun q => by omega)))
        · omega
        · unfold oW
          rw [eo 1 (by omega), eo 2 (by omega), iu_s]
          exact c1
        · by_cases e : i = s.bk 3 * 3 + 2
          · rw [e, iu_s, show 216 + (s.bk 3 * 3 + 2) = 216 + 3 * s.bk 3 + 2 by omega, iu_n (by omega), iu_s]
          · rw [iu_n e]
            by_cases e2 : i = s.bk 3 * 3 + 1
            · rw [e2, iu_s, show 216 + (s.bk 3 * 3 + 1) = 216 + 3 * s.bk 3 + 1 by omega, iu_n (by omega), iu_n (by omega), iu_s]
            · rw [iu_n e2]
              by_cases e3 : i = s.bk 3 * 3
              · rw [e3, iu_s, show 216 + (s.bk 3 * 3) = 216 + 3 * s.bk 3 by omega, iu_n (by omega), iu_n (by omega), iu_n (by omega), iu_s]
              · rw [iu_n e3, eo _ (by omega)]; exact re i i0 i1
      · skip
        refine r_aload_n (pc := 44) dX8_tell_44 rfl <| cVi [] (pc := 45) dX8_tell_45 k_X8_95 ⟨⟨Nat.le_of_ble_eq_true rfl, Nat.le_of_ble_eq_true rfl⟩, ⟨Nat.le_of_ble_eq_true rfl, Nat.le_of_ble_eq_true rfl⟩, Nat.le_of_ble_eq_true rfl⟩ ⟨rfl, rfl⟩ c0 ?_
        refine cs_full hC (fun h1 g1 g2 => ?_)
        refine ⟨_, rfl, ?_⟩
        refine r_iret (pc := 48) dX8_tell_48 rfl ⟨Nat.le_of_ble_eq_true rfl, Nat.le_of_ble_eq_true rfl⟩ <| ?_
        rw [if_neg (by omega), if_pos (by omega)] at hQ; exact hQ _ g1 g2
    · skip
      refine r_iload_n (pc := 20) dX8_tell_20 rfl <| r_iload_n (pc := 21) dX8_tell_21 rfl <| r_icmp_eq (pc := 22) 32 dX8_tell_22 (by decide) (by omega) (by omega) (fun hc_22 => ?_) (fun hc_22 => ?_)
      · skip
        refine r_aload_n (pc := 32) dX8_tell_32 rfl <| r_getf (pc := 33) dX8_tell_33 fA_X8_12 c0 rfl <| r_getf (pc := 36) dX8_tell_36 fA_X8_231 c1 rfl <| r_bipush (pc := 39) dX8_tell_39 (by decide) <| r_icmp_lt (pc := 41) 49 dX8_tell_41 (by decide) (by omega) (by omega) (fun hc_41 => ?_) (fun hc_41 => ?_)
        · skip
          refine r_aload_n (pc := 49) dX8_tell_49 rfl <| r_getf (pc := 50) dX8_tell_50 fA_X8_12 c0 rfl <| r_getf (pc := 53) dX8_tell_53 fA_X8_231 c1 rfl <| r_iconst (pc := 56) dX8_tell_56 <| r_imul (pc := 57) dX8_tell_57 <| r_istore_4 (pc := 58) dX8_tell_58 rfl <| r_aload_n (pc := 60) dX8_tell_60 rfl <| r_getf (pc := 61) dX8_tell_61 fA_X8_12 c0 rfl <| r_getf (pc := 64) dX8_tell_64 fA_X8_234 c1 rfl <| r_iload (pc := 67) dX8_tell_67 rfl <| r_iload_n (pc := 69) dX8_tell_69 rfl <| r_iast (pc := 70) dX8_tell_70 c14 (by omega) (by decide) (fun h_70 c14 hF_70 => ?_)
          replace c0 := hF_70.keep c0 (by omega)
          replace c1 := hF_70.keep c1 (by omega)
          replace c2 := hF_70.keep c2 (by omega)
          replace c7 := hF_70.keep c7 (by omega)
          refine r_aload_n (pc := 71) dX8_tell_71 rfl <| r_getf (pc := 72) dX8_tell_72 fA_X8_12 c0 rfl <| r_getf (pc := 75) dX8_tell_75 fA_X8_234 c1 rfl <| r_iload (pc := 78) dX8_tell_78 rfl <| r_iconst (pc := 80) dX8_tell_80 <| r_iadd (pc := 81) dX8_tell_81 <| r_iload_n (pc := 82) dX8_tell_82 rfl <| r_iast (pc := 83) dX8_tell_83 c14 (by omega) (by decide) (fun h_83 c14 hF_83 => ?_)
          replace c0 := hF_83.keep c0 (by omega)
          replace c1 := hF_83.keep c1 (by omega)
          replace c2 := hF_83.keep c2 (by omega)
          replace c7 := hF_83.keep c7 (by omega)
          refine r_aload_n (pc := 84) dX8_tell_84 rfl <| r_getf (pc := 85) dX8_tell_85 fA_X8_12 c0 rfl <| r_getf (pc := 88) dX8_tell_88 fA_X8_234 c1 rfl <| r_iload (pc := 91) dX8_tell_91 rfl <| r_iconst (pc := 93) dX8_tell_93 <| r_iadd (pc := 94) dX8_tell_94 <| r_iload_n (pc := 95) dX8_tell_95 rfl <| r_iast (pc := 96) dX8_tell_96 c14 (by omega) (by decide) (fun h_96 c14 hF_96 => ?_)
          replace c0 := hF_96.keep c0 (by omega)
          replace c1 := hF_96.keep c1 (by omega)
          replace c2 := hF_96.keep c2 (by omega)
          replace c7 := hF_96.keep c7 (by omega)
          refine r_aload_n (pc := 97) dX8_tell_97 rfl <| r_getf (pc := 98) dX8_tell_98 fA_X8_12 c0 rfl <| r_dup (pc := 101) dX8_tell_101 rfl <| r_getf (pc := 102) dX8_tell_102 fA_X8_231 c1 rfl <| r_iconst (pc := 105) dX8_tell_105 <| r_iadd (pc := 106) dX8_tell_106 <| r_putf (pc := 107) dX8_tell_107 fP_X8_231 rfl rfl c1 rfl (fun h_107 c1 hF_107 => ?_)
          simp only [List.set_cons_zero, List.set_cons_succ] at c1
          replace c0 := hF_107.keep c0 (by omega)
          replace c2 := hF_107.keep c2 (by omega)
          replace c7 := hF_107.keep c7 (by omega)
          replace c14 := hF_107.keep c14 (by omega)
          refine r_aload_n (pc := 110) dX8_tell_110 rfl <| r_getf (pc := 111) dX8_tell_111 fA_X8_12 c0 rfl <| r_getf (pc := 114) dX8_tell_114 fA_X8_231 c1 rfl <| r_iconst (pc := 117) dX8_tell_117 <| r_isub (pc := 118) dX8_tell_118 <| r_iret (pc := 119) dX8_tell_119 rfl ⟨Nat.le_of_ble_eq_true rfl, Nat.le_of_ble_eq_true rfl⟩ <| ?_
          rw [if_neg (by omega), if_neg (by omega)] at hQ
          have hF : Fr (fun q => q = 1 ∨ q = 14) h h_107 := fun q hq => (hF_107 q (by omega)).trans ((hF_96 q (by omega)).trans ((hF_83 q (by omega)).trans (hF_70 q (by omega))))
          have eo : ∀ j, ¬ (j = 3 ∨ j = 216 + 3 * s.bk 3 ∨ j = 216 + 3 * s.bk 3 + 1 ∨ j = 216 + 3 * s.bk 3 + 2) → iu (iu (iu (iu s.bk (216 + 3 * s.bk 3) a) (216 + 3 * s.bk 3 + 1) b) (216 + 3 * s.bk 3 + 2) w) 3 (s.bk 3 + 1) j = s.bk j := fun j hj => by rw [iu_n (by omega), iu_n (by omega), iu_n (by omega), iu_n (by omega)]
          refine qI ?_ (hQ _ (hC.qwle hI ?_ (u4.fr (hF 11 (by omega)) (fun j a b => eo j (by omega))) (u5.fr (hF 12 (by omega)) (fun j a b => eo j (by omega))) (u6.fr (hF 13 (by omega)) (fun j a b => eo j (by omega))) ⟨_, c14, ((de.iu (by omega)).iu (by omega)).iu (by omega), fun i i0 i1 => ?_⟩ (fun j hj => eo j (by omega)) (hF.wk (fun q => by omega))) (hF.wk (fun q => by omega)))
          · omega
          · unfold oW
            rw [eo 1 (by omega), eo 2 (by omega), iu_s]
            exact c1
          · by_cases e : i = s.bk 3 * 3 + 2
            · rw [e, iu_s, show 216 + (s.bk 3 * 3 + 2) = 216 + 3 * s.bk 3 + 2 by omega, iu_n (by omega), iu_s]
            · rw [iu_n e]
              by_cases e2 : i = s.bk 3 * 3 + 1
              · rw [e2, iu_s, show 216 + (s.bk 3 * 3 + 1) = 216 + 3 * s.bk 3 + 1 by omega, iu_n (by omega), iu_n (by omega), iu_s]
              · rw [iu_n e2]
                by_cases e3 : i = s.bk 3 * 3
                · rw [e3, iu_s, show 216 + (s.bk 3 * 3) = 216 + 3 * s.bk 3 by omega, iu_n (by omega), iu_n (by omega), iu_n (by omega), iu_s]
                · rw [iu_n e3, eo _ (by omega)]; exact re i i0 i1
        · skip
          refine r_aload_n (pc := 44) dX8_tell_44 rfl <| cVi [] (pc := 45) dX8_tell_45 k_X8_95 ⟨⟨Nat.le_of_ble_eq_true rfl, Nat.le_of_ble_eq_true rfl⟩, ⟨Nat.le_of_ble_eq_true rfl, Nat.le_of_ble_eq_true rfl⟩, Nat.le_of_ble_eq_true rfl⟩ ⟨rfl, rfl⟩ c0 ?_
          refine cs_full hC (fun h1 g1 g2 => ?_)
          refine ⟨_, rfl, ?_⟩
          refine r_iret (pc := 48) dX8_tell_48 rfl ⟨Nat.le_of_ble_eq_true rfl, Nat.le_of_ble_eq_true rfl⟩ <| ?_
          rw [if_neg (by omega), if_pos (by omega)] at hQ; exact hQ _ g1 g2
      · skip
        refine r_aload_n (pc := 25) dX8_tell_25 rfl <| r_bipush (pc := 26) dX8_tell_26 (by decide) <| cVi [_] (pc := 28) dX8_tell_28 k_X8_82 ⟨⟨Nat.le_of_ble_eq_true rfl, Nat.le_of_ble_eq_true rfl⟩, ⟨Nat.le_of_ble_eq_true rfl, Nat.le_of_ble_eq_true rfl⟩, Nat.le_of_ble_eq_true rfl⟩ ⟨rfl, rfl⟩ c0 ?_
        refine cs_bad hC (fun h1 g1 g2 => ?_)
        refine ⟨_, rfl, ?_⟩
        refine r_iret (pc := 31) dX8_tell_31 rfl ⟨Nat.le_of_ble_eq_true rfl, Nat.le_of_ble_eq_true rfl⟩ <| ?_
        rw [if_pos (by omega)] at hQ; exact hQ _ g1 g2
  · skip
    refine ⟨_, rfl, ?_⟩
    refine r_if_eq (pc := 12) 25 dX8_tell_12 (by decide) (by decide) (fun _ => ?_) (fun q => absurd q (by decide))
    refine r_aload_n (pc := 25) dX8_tell_25 rfl <| r_bipush (pc := 26) dX8_tell_26 (by decide) <| cVi [_] (pc := 28) dX8_tell_28 k_X8_82 ⟨⟨Nat.le_of_ble_eq_true rfl, Nat.le_of_ble_eq_true rfl⟩, ⟨Nat.le_of_ble_eq_true rfl, Nat.le_of_ble_eq_true rfl⟩, Nat.le_of_ble_eq_true rfl⟩ ⟨rfl, rfl⟩ c0 ?_
    refine cs_bad hC (fun h1 g1 g2 => ?_)
    refine ⟨_, rfl, ?_⟩
    refine r_iret (pc := 31) dX8_tell_31 rfl ⟨Nat.le_of_ble_eq_true rfl, Nat.le_of_ble_eq_true rfl⟩ <| ?_
    rw [if_pos (by omega)] at hQ; exact hQ _ g1 g2
theorem cs_part {w : Int} (hC : isC h n s) (hw : inI w) (hQ : ∀ h', isC h' n (fPart s w).2 → Fr CR h h' → Q (some (vI (fPart s w).1)) n h') : Cl G mX8_part [vR 0, vI w] n h Q := by
  have c0 := hC.1
  unfold fPart at hQ
  refine cl_of (by decide) (Nat.le_of_ble_eq_true rfl) rfl ?_
  refine r_iload_n (pc := 0) dX8_part_0 rfl <| r_iconst (pc := 1) dX8_part_1 <| r_iconst (pc := 2) dX8_part_2 <| cSi [_, _, _] (pc := 3) dX8_part_3 k_X8_78 ⟨⟨Nat.le_of_ble_eq_true rfl, Nat.le_of_ble_eq_true rfl⟩, ⟨Nat.le_of_ble_eq_true rfl, Nat.le_of_ble_eq_true rfl⟩, Nat.le_of_ble_eq_true rfl⟩ ⟨rfl, rfl⟩ ?_
  refine sp_within (by omega) (by omega) (by omega) (fun q1 => ?_) (fun q1 => ?_)
  · skip
    refine ⟨_, rfl, ?_⟩
    refine r_if_ne (pc := 6) 16 dX8_part_6 (by decide) (by decide) (fun _ => ?_) (fun q => absurd q (by decide))
    refine r_iload_n (pc := 16) dX8_part_16 rfl <| r_if_ne (pc := 17) 27 dX8_part_17 (by decide) (by omega) (fun hc_17 => ?_) (fun hc_17 => ?_)
    · skip
      refine r_aload_n (pc := 27) dX8_part_27 rfl <| r_getf (pc := 28) dX8_part_28 fA_X8_66 c0 rfl <| r_iret (pc := 31) dX8_part_31 rfl ⟨Nat.le_of_ble_eq_true rfl, Nat.le_of_ble_eq_true rfl⟩ <| ?_
      first
        | (rw [if_pos (by omega)] at hQ; exact hQ _ hC Fr.rf)
        | (rw [if_neg (by omega), if_pos (by omega)] at hQ; exact hQ _ hC Fr.rf)
    · skip
      refine r_aload_n (pc := 20) dX8_part_20 rfl <| r_getf (pc := 21) dX8_part_21 fA_X8_62 c0 rfl <| r_goto (pc := 24) 31 dX8_part_24 (by decide) <| r_iret (pc := 31) dX8_part_31 rfl ⟨Nat.le_of_ble_eq_true rfl, Nat.le_of_ble_eq_true rfl⟩ <| ?_
      first
        | (rw [if_pos (by omega)] at hQ; exact hQ _ hC Fr.rf)
        | (rw [if_neg (by omega), if_pos (by omega)] at hQ; exact hQ _ hC Fr.rf)
  · skip
    refine ⟨_, rfl, ?_⟩
    refine r_if_ne (pc := 6) 16 dX8_part_6 (by decide) (by decide) (fun q => absurd q (by decide)) (fun _ => ?_)
    refine r_aload_n (pc := 9) dX8_part_9 rfl <| r_bipush (pc := 10) dX8_part_10 (by decide) <| cVi [_] (pc := 12) dX8_part_12 k_X8_82 ⟨⟨Nat.le_of_ble_eq_true rfl, Nat.le_of_ble_eq_true rfl⟩, ⟨Nat.le_of_ble_eq_true rfl, Nat.le_of_ble_eq_true rfl⟩, Nat.le_of_ble_eq_true rfl⟩ ⟨rfl, rfl⟩ c0 ?_
    refine cs_bad hC (fun h1 g1 g2 => ?_)
    refine ⟨_, rfl, ?_⟩
    refine r_iret (pc := 15) dX8_part_15 rfl ⟨Nat.le_of_ble_eq_true rfl, Nat.le_of_ble_eq_true rfl⟩ <| ?_
    rw [if_neg (by omega), if_neg (by omega)] at hQ; exact hQ _ g1 g2
theorem cs_status {w : Int} (hC : isC h n s) (hw : inI w) (hQ : ∀ h', isC h' n (fStatus s w).2 → Fr CR h h' → Q (some (vI (fStatus s w).1)) n h') : Cl G mX8_status [vR 0, vI w] n h Q := by
  have c0 := hC.1
  unfold fStatus at hQ
  refine cl_of (by decide) (Nat.le_of_ble_eq_true rfl) rfl ?_
  refine r_iload_n (pc := 0) dX8_status_0 rfl <| ?_
  rcases (show w = 0 ∨ w = 1 ∨ w = 2 ∨ (w < 0 ∨ 2 < w) by omega) with hs_1 | hs_1 | hs_1 | hs_1
  · skip
    refine r_tableIn (pc := 1) 28 dX8_status_1 (by omega) (by omega) (by rw [hs_1]; rfl) (by decide) ?_
    refine r_aload_n (pc := 28) dX8_status_28 rfl <| r_getf (pc := 29) dX8_status_29 fA_X8_69 c0 rfl <| r_iret (pc := 32) dX8_status_32 rfl ⟨Nat.le_of_ble_eq_true rfl, Nat.le_of_ble_eq_true rfl⟩ <| ?_
    rw [if_pos (by omega)] at hQ; exact hQ _ hC Fr.rf
  · skip
    refine r_tableIn (pc := 1) 33 dX8_status_1 (by omega) (by omega) (by rw [hs_1]; rfl) (by decide) ?_
    refine r_aload_n (pc := 33) dX8_status_33 rfl <| r_getf (pc := 34) dX8_status_34 fA_X8_72 c0 rfl <| r_iret (pc := 37) dX8_status_37 rfl ⟨Nat.le_of_ble_eq_true rfl, Nat.le_of_ble_eq_true rfl⟩ <| ?_
    rw [if_neg (by omega), if_pos (by omega)] at hQ; exact hQ _ hC Fr.rf
  · skip
    refine r_tableIn (pc := 1) 38 dX8_status_1 (by omega) (by omega) (by rw [hs_1]; rfl) (by decide) ?_
    refine r_aload_n (pc := 38) dX8_status_38 rfl <| r_getf (pc := 39) dX8_status_39 fA_X8_75 c0 rfl <| r_iret (pc := 42) dX8_status_42 rfl ⟨Nat.le_of_ble_eq_true rfl, Nat.le_of_ble_eq_true rfl⟩ <| ?_
    rw [if_neg (by omega), if_neg (by omega), if_pos (by omega)] at hQ; exact hQ _ hC Fr.rf
  · skip
    refine r_tableOut (pc := 1) 43 dX8_status_1 (by omega) hs_1 (by decide) ?_
    refine r_aload_n (pc := 43) dX8_status_43 rfl <| r_iconst (pc := 44) dX8_status_44 <| cVi [_] (pc := 45) dX8_status_45 k_X8_82 ⟨⟨Nat.le_of_ble_eq_true rfl, Nat.le_of_ble_eq_true rfl⟩, ⟨Nat.le_of_ble_eq_true rfl, Nat.le_of_ble_eq_true rfl⟩, Nat.le_of_ble_eq_true rfl⟩ ⟨rfl, rfl⟩ c0 ?_
    refine cs_bad hC (fun h1 g1 g2 => ?_)
    refine ⟨_, rfl, ?_⟩
    refine r_iret (pc := 48) dX8_status_48 rfl ⟨Nat.le_of_ble_eq_true rfl, Nat.le_of_ble_eq_true rfl⟩ <| ?_
    rw [if_neg (by omega), if_neg (by omega), if_neg (by omega)] at hQ; exact hQ _ g1 g2
theorem cs_count {w : Int} (hC : isC h n s) (hw : inI w) (hQ : ∀ h', isC h' n (fCount s w).2 → Fr CR h h' → Q (some (vI (fCount s w).1)) n h') : Cl G mX8_count [vR 0, vI w] n h Q := by
  obtain ⟨kd, ag, ld, rk, ow, la, tx, qu, wa, lg, ev, c0, c1, c2, c3, c4, c5, c6, c7, c8, c9, c10, c11, c12, c13, c14, -⟩ := hC.opn
  unfold fCount at hQ
  refine cl_of (by decide) (Nat.le_of_ble_eq_true rfl) rfl ?_
  refine r_iload_n (pc := 0) dX8_count_0 rfl <| ?_
  rcases (show w = 0 ∨ w = 1 ∨ w = 2 ∨ w = 3 ∨ (w < 0 ∨ 3 < w) by omega) with hs_1 | hs_1 | hs_1 | hs_1 | hs_1
  · skip
    refine r_tableIn (pc := 1) 32 dX8_count_1 (by omega) (by omega) (by rw [hs_1]; rfl) (by decide) ?_
    refine r_aload_n (pc := 32) dX8_count_32 rfl <| r_getf (pc := 33) dX8_count_33 fA_X8_12 c0 rfl <| r_getf (pc := 36) dX8_count_36 fA_X8_86 c1 rfl <| r_getf (pc := 39) dX8_count_39 fA_X8_90 c2 rfl <| r_iret (pc := 42) dX8_count_42 rfl ⟨Nat.le_of_ble_eq_true rfl, Nat.le_of_ble_eq_true rfl⟩ <| ?_
    rw [if_pos (by omega), hs_1] at hQ; exact hQ _ hC Fr.rf
  · skip
    refine r_tableIn (pc := 1) 43 dX8_count_1 (by omega) (by omega) (by rw [hs_1]; rfl) (by decide) ?_
    refine r_aload_n (pc := 43) dX8_count_43 rfl <| r_getf (pc := 44) dX8_count_44 fA_X8_12 c0 rfl <| r_getf (pc := 47) dX8_count_47 fA_X8_130 c1 rfl <| r_iret (pc := 50) dX8_count_50 rfl ⟨Nat.le_of_ble_eq_true rfl, Nat.le_of_ble_eq_true rfl⟩ <| ?_
    rw [if_pos (by omega), hs_1] at hQ; exact hQ _ hC Fr.rf
  · skip
    refine r_tableIn (pc := 1) 51 dX8_count_1 (by omega) (by omega) (by rw [hs_1]; rfl) (by decide) ?_
    refine r_aload_n (pc := 51) dX8_count_51 rfl <| r_getf (pc := 52) dX8_count_52 fA_X8_12 c0 rfl <| r_getf (pc := 55) dX8_count_55 fA_X8_186 c1 rfl <| r_iret (pc := 58) dX8_count_58 rfl ⟨Nat.le_of_ble_eq_true rfl, Nat.le_of_ble_eq_true rfl⟩ <| ?_
    rw [if_pos (by omega), hs_1] at hQ; exact hQ _ hC Fr.rf
  · skip
    refine r_tableIn (pc := 1) 59 dX8_count_1 (by omega) (by omega) (by rw [hs_1]; rfl) (by decide) ?_
    refine r_aload_n (pc := 59) dX8_count_59 rfl <| r_getf (pc := 60) dX8_count_60 fA_X8_12 c0 rfl <| r_getf (pc := 63) dX8_count_63 fA_X8_231 c1 rfl <| r_iret (pc := 66) dX8_count_66 rfl ⟨Nat.le_of_ble_eq_true rfl, Nat.le_of_ble_eq_true rfl⟩ <| ?_
    rw [if_pos (by omega), hs_1] at hQ; exact hQ _ hC Fr.rf
  · skip
    refine r_tableOut (pc := 1) 67 dX8_count_1 (by omega) hs_1 (by decide) ?_
    refine r_aload_n (pc := 67) dX8_count_67 rfl <| r_bipush (pc := 68) dX8_count_68 (by decide) <| cVi [_] (pc := 70) dX8_count_70 k_X8_82 ⟨⟨Nat.le_of_ble_eq_true rfl, Nat.le_of_ble_eq_true rfl⟩, ⟨Nat.le_of_ble_eq_true rfl, Nat.le_of_ble_eq_true rfl⟩, Nat.le_of_ble_eq_true rfl⟩ ⟨rfl, rfl⟩ c0 ?_
    refine cs_bad hC (fun h1 g1 g2 => ?_)
    refine ⟨_, rfl, ?_⟩
    refine r_iret (pc := 73) dX8_count_73 rfl ⟨Nat.le_of_ble_eq_true rfl, Nat.le_of_ble_eq_true rfl⟩ <| ?_
    rw [if_neg (by omega)] at hQ; exact hQ _ g1 g2
end CP2

