/-! ===== the class: the book is read ===== -/
theorem BSt.keep {h h' : Hp} {b : Nat} {fa st : Int} {its : List IT} {cu : IT} {S : Nat → Prop} (hS : BSt h b fa st its cu) (hF : Fr S h h') (h0 : ¬ S b) (h3 : ¬ S (b + 3)) (h4 : ¬ S (b + 4)) (h5 : ¬ S (b + 5)) : BSt h' b fa st its cu := by
  obtain ⟨ro, co, le, ab, g1, g2, g3, g4, g⟩ := hS
  exact ⟨ro, co, le, ab, hF.keep g1 h0, hF.keep g2 h3, hF.keep g3 h4, hF.keep g4 h5, g⟩
theorem BSw.keep {h h' : Hp} {b : Nat} {fa : Int} {m : Nat} {S : Nat → Prop} (hS : BSw h b fa m) (hF : Fr S h h') (h0 : ¬ S b) (h3 : ¬ S (b + 3)) (h4 : ¬ S (b + 4)) (h5 : ¬ S (b + 5)) : BSw h' b fa m := by
  obtain ⟨ro, co, le, ab, g1, g2, g3, g4, g⟩ := hS
  exact ⟨ro, co, le, ab, hF.keep g1 h0, hF.keep g2 h3, hF.keep g3 h4, hF.keep g4 h5, g⟩
theorem tok_val {tx : Int → Int} {nt p : Int} (hb : Bd tx 0 255) : -10000 ≤ (tok tx nt p).2.2.1 ∧ (tok tx nt p).2.2.1 ≤ 10000 := by
  have b1 := hb (advF pB tx nt p)
  have b2 := hb (advF pB tx nt p + 1)
  by_cases h1 : advF pB tx nt p < nt
  · by_cases h2 : 97 ≤ tx (advF pB tx nt p) ∧ tx (advF pB tx nt p) ≤ 122
    · rw [tok_word h1 h2]; exact ⟨show (-10000 : Int) ≤ 0 by decide, show (0 : Int) ≤ 10000 by decide⟩
    · by_cases h3 : 48 ≤ tx (advF pB tx nt p) ∧ tx (advF pB tx nt p) ≤ 57
      · rw [tok_num h1 h3]
        simp only
        split <;> omega
      · rw [tok_else h1 h2 h3]; exact ⟨show (-10000 : Int) ≤ 0 by decide, show (0 : Int) ≤ 10000 by decide⟩
  · rw [tok_over h1]; exact ⟨show (-10000 : Int) ≤ 0 by decide, show (0 : Int) ≤ 10000 by decide⟩
theorem pstep_v {st k v v' : Int} {its : List IT} {cu : IT} (h : k = 12 → v = v') : pstep st k v its cu = pstep st k v' its cu := by
  by_cases e : k = 12
  · rw [h e]
  · unfold pstep
    simp only [e, false_and, if_false, and_false]
section BK3
variable {G : GT} {n : Nat} {h : Hp} {Q : PT} {b tt : Nat} {fa len : Int} {tx : Int → Int} {r : Int × List IT}
def RiQ (b tt : Nat) (fa : Int) (r : Int × List IT) (n : Nat) (h : Hp) (Q : PT) : Prop := ∀ (h' : Hp) (len nx pl va : Int), (r.1 = -1 ∧ (∃ cu, BSt h' b fa 0 r.2 cu) ∨ ¬ r.1 = -1 ∧ ∃ m, BSw h' b fa m) → h' (b + 1) = some (aO 6 [vR tt, vI len, vI nx, vI pl, vI va]) → Fr (fun q => q = b ∨ q = b + 1 ∨ q = b + 3 ∨ q = b + 4 ∨ q = b + 5) h h' → Q (some (vI r.1)) n h'
theorem lp_ri (hb : Bd tx 0 255) (hl : 0 ≤ len ∧ len ≤ 160) (hne : tt < b ∨ b + 6 < tt) : ∀ (f : Nat) (kk p st pl va : Int) (its : List IT) (cu : IT) (h : Hp) (l5 : AV), BSt h b fa st its cu → h (b + 1) = some (aO 6 [vR tt, vI len, vI p, vI pl, vI va]) → h tt = some (aA 160 tx) → 0 ≤ p ∧ p ≤ len → kk + f = len → 0 ≤ kk → len - p ≤ f → 0 ≤ st ∧ st ≤ 5 → pm tx len (f + 1) p st its cu = r → RiQ b tt fa r n h Q →
    At G mX0_readItems 14 [vR b, vR tt, vI len, vI st, vI kk, l5] [] (0, 0, n) h Q := by
  intro f
  induction f with
  | zero =>
    intro kk p st pl va its cu h l5 hS hT hX hp hkk hk0 hf hst hpm hQ
    obtain ⟨ro, co, le, ab, hB, -⟩ := id hS
    obtain ⟨w1, w2, w3, w4, w5⟩ := tok_in (tx := tx) hp
    have h15 : (tok tx len p).2.1 = 15 := by
      by_cases e : (tok tx len p).2.1 = 15
      · exact e
      · have := w5 e; omega
    refine r_iload (pc := 14) dX0_readItems_14 rfl <| r_iload_n (pc := 16) dX0_readItems_16 rfl <| r_icmp_gt (pc := 17) 74 dX0_readItems_17 (by decide) (by omega) (by omega) (fun hc_17 => ?_) (fun hc_17 => ?_)
    · skip
      exfalso; omega
    · skip
      refine r_aload_n (pc := 20) dX0_readItems_20 rfl <| r_getf (pc := 21) dX0_readItems_21 fA_X0_12 hB rfl <| cVi [] (pc := 24) dX0_readItems_24 k_X0_52 ⟨⟨Nat.le_of_ble_eq_true rfl, Nat.le_of_ble_eq_true rfl⟩, ⟨Nat.le_of_ble_eq_true rfl, Nat.le_of_ble_eq_true rfl⟩, Nat.le_of_ble_eq_true rfl⟩ ⟨rfl, rfl⟩ hT ?_
      refine sp_read hT hX hb hl (by omega) hp (fun h' v g1 hT2 hF => ?_)
      refine ⟨_, rfl, ?_⟩
      refine r_istore_5 (pc := 27) dX0_readItems_27 rfl <| r_iload (pc := 29) dX0_readItems_29 rfl <| r_bipush (pc := 31) dX0_readItems_31 (by decide) <| r_icmp_ne (pc := 33) 46 dX0_readItems_33 (by decide) (by omega) (by omega) (fun hc_33 => ?_) (fun hc_33 => ?_)
      · skip
        exfalso; omega
      · skip
        refine r_iload_n (pc := 36) dX0_readItems_36 rfl <| r_if_ne (pc := 37) 44 dX0_readItems_37 (by decide) (by omega) (fun hc_37 => ?_) (fun hc_37 => ?_)
        · skip
          refine r_iload_n (pc := 44) dX0_readItems_44 rfl <| r_iret (pc := 45) dX0_readItems_45 rfl ⟨Nat.le_of_ble_eq_true rfl, Nat.le_of_ble_eq_true rfl⟩ <| ?_
          rw [pm_over h15] at hpm
          subst hpm
          first
            | (rw [if_pos hc_37] at hQ
               have hQ2 := hQ h' _ _ _ _ (Or.inl ⟨rfl, cu, by rw [← hc_37]; exact hS.keep hF (by omega) (by omega) (by omega) (by omega)⟩) hT2 (hF.wk (fun j => by omega))
               exact hQ2)
            | (rw [if_neg hc_37] at hQ
               exact hQ h' _ _ _ _ (Or.inr ⟨by show ¬ len = -1; omega, _, hS.w.keep hF (by omega) (by omega) (by omega) (by omega)⟩) hT2 (hF.wk (fun j => by omega)))
        · skip
          refine r_iconst (pc := 40) dX0_readItems_40 <| r_goto (pc := 41) 45 dX0_readItems_41 (by decide) <| r_iret (pc := 45) dX0_readItems_45 rfl ⟨Nat.le_of_ble_eq_true rfl, Nat.le_of_ble_eq_true rfl⟩ <| ?_
          rw [pm_over h15] at hpm
          subst hpm
          first
            | (rw [if_pos hc_37] at hQ
               have hQ2 := hQ h' _ _ _ _ (Or.inl ⟨rfl, cu, by rw [← hc_37]; exact hS.keep hF (by omega) (by omega) (by omega) (by omega)⟩) hT2 (hF.wk (fun j => by omega))
               exact hQ2)
            | (rw [if_neg hc_37] at hQ
               exact hQ h' _ _ _ _ (Or.inr ⟨by show ¬ len = -1; omega, _, hS.w.keep hF (by omega) (by omega) (by omega) (by omega)⟩) hT2 (hF.wk (fun j => by omega)))
  | succ f ih =>
    intro kk p st pl va its cu h l5 hS hT hX hp hkk hk0 hf hst hpm hQ
    obtain ⟨ro, co, le, ab, hB, -⟩ := id hS
    obtain ⟨w1, w2, w3, w4, w5⟩ := tok_in (tx := tx) hp
    have hvv := tok_val (tx := tx) (nt := len) (p := p) hb
    refine r_iload (pc := 14) dX0_readItems_14 rfl <| r_iload_n (pc := 16) dX0_readItems_16 rfl <| r_icmp_gt (pc := 17) 74 dX0_readItems_17 (by decide) (by omega) (by omega) (fun hc_17 => ?_) (fun hc_17 => ?_)
    · skip
      exfalso; omega
    · skip
      refine r_aload_n (pc := 20) dX0_readItems_20 rfl <| r_getf (pc := 21) dX0_readItems_21 fA_X0_12 hB rfl <| cVi [] (pc := 24) dX0_readItems_24 k_X0_52 ⟨⟨Nat.le_of_ble_eq_true rfl, Nat.le_of_ble_eq_true rfl⟩, ⟨Nat.le_of_ble_eq_true rfl, Nat.le_of_ble_eq_true rfl⟩, Nat.le_of_ble_eq_true rfl⟩ ⟨rfl, rfl⟩ hT ?_
      refine sp_read hT hX hb hl (by omega) hp (fun h' v g1 hT2 hF => ?_)
      have hB := hF.keep hB (by omega)
      have hX := hF.keep hX (by omega)
      have hS := hS.keep hF (by omega) (by omega) (by omega) (by omega)
      refine ⟨_, rfl, ?_⟩
      clear hT
      have hT := hT2
      refine r_istore_5 (pc := 27) dX0_readItems_27 rfl <| r_iload (pc := 29) dX0_readItems_29 rfl <| r_bipush (pc := 31) dX0_readItems_31 (by decide) <| r_icmp_ne (pc := 33) 46 dX0_readItems_33 (by decide) (by omega) (by omega) (fun hc_33 => ?_) (fun hc_33 => ?_)
      · skip
        refine r_aload_n (pc := 46) dX0_readItems_46 rfl <| r_iload_n (pc := 47) dX0_readItems_47 rfl <| r_iload (pc := 48) dX0_readItems_48 rfl <| cVi [_, _] (pc := 50) dX0_readItems_50 k_X0_56 ⟨⟨Nat.le_of_ble_eq_true rfl, Nat.le_of_ble_eq_true rfl⟩, ⟨Nat.le_of_ble_eq_true rfl, Nat.le_of_ble_eq_true rfl⟩, Nat.le_of_ble_eq_true rfl⟩ ⟨rfl, rfl⟩ hB ?_
        refine sp_take hne hS hT (by omega) hst (fun q => by rw [g1 q]; exact hvv) (fun q1 h2 hw hF2 => ?_) (fun st2 its2 cu2 q1 hst2 h2 hS2 hF2 => ?_)
        · skip
          refine ⟨_, rfl, ?_⟩
          have hT := hF2.keep hT (by omega)
          first
            | (obtain ⟨ro2, co2, le2, ab2, hB, -⟩ := id hw)
            | (obtain ⟨ro2, co2, le2, ab2, hB, -⟩ := id hS2)
          refine r_istoren_3 (pc := 53) dX0_readItems_53 rfl <| r_iload_n (pc := 54) dX0_readItems_54 rfl <| r_bipush (pc := 55) dX0_readItems_55 (by decide) <| r_icmp_ne (pc := 57) 68 dX0_readItems_57 (by decide) (by decide) (by decide) (fun q => absurd q (by decide)) (fun _ => ?_)
          refine r_aload_n (pc := 60) dX0_readItems_60 rfl <| r_getf (pc := 61) dX0_readItems_61 fA_X0_12 hB rfl <| r_getf (pc := 64) dX0_readItems_64 fA_X0_60 hT rfl <| r_iret (pc := 67) dX0_readItems_67 rfl ⟨Nat.le_of_ble_eq_true rfl, Nat.le_of_ble_eq_true rfl⟩ <| ?_
          have hps : pstep st (tok tx len p).2.1 (tok tx len p).2.2.1 its cu = none := by rw [← pstep_v g1]; exact q1
          rw [pm_none hc_33 hps] at hpm
          subst hpm
          exact hQ h2 _ _ _ _ (Or.inr ⟨by show ¬ (tok tx len p).1 = -1; omega, _, hw⟩) hT (fun j hj => (hF2 j (by omega)).trans (hF j (by omega)))
        · skip
          refine ⟨_, rfl, ?_⟩
          have hT := hF2.keep hT (by omega)
          first
            | (obtain ⟨ro2, co2, le2, ab2, hB, -⟩ := id hw)
            | (obtain ⟨ro2, co2, le2, ab2, hB, -⟩ := id hS2)
          refine r_istoren_3 (pc := 53) dX0_readItems_53 rfl <| r_iload_n (pc := 54) dX0_readItems_54 rfl <| r_bipush (pc := 55) dX0_readItems_55 (by decide) <| r_icmp_ne (pc := 57) 68 dX0_readItems_57 (by decide) (by omega) (by omega) (fun hc_57 => ?_) (fun hc_57 => ?_)
          · skip
            refine r_iinc_4 (pc := 68) dX0_readItems_68 rfl rfl <| r_goto (pc := 71) 14 dX0_readItems_71 (by decide) <| ?_
            have hps : pstep st (tok tx len p).2.1 (tok tx len p).2.2.1 its cu = some (st2, its2, cu2) := by rw [← pstep_v g1]; exact q1
            rw [pm_some hc_33 hps] at hpm
            have w5 := w5 hc_33
            refine ih (kk + 1) (tok tx len p).2.2.2 st2 _ v its2 cu2 h2 _ hS2 hT (hF2.keep hX (by omega)) (by omega) (by omega) (by omega) (by omega) hst2 hpm ?_
            intro h3 len3 nx3 pl3 va3 g3 g4 g5
            exact hQ h3 len3 nx3 pl3 va3 g3 g4 (fun j hj => (g5 j hj).trans ((hF2 j (by omega)).trans (hF j (by omega))))
          · skip
            exfalso; omega
      · skip
        refine r_iload_n (pc := 36) dX0_readItems_36 rfl <| r_if_ne (pc := 37) 44 dX0_readItems_37 (by decide) (by omega) (fun hc_37 => ?_) (fun hc_37 => ?_)
        · skip
          refine r_iload_n (pc := 44) dX0_readItems_44 rfl <| r_iret (pc := 45) dX0_readItems_45 rfl ⟨Nat.le_of_ble_eq_true rfl, Nat.le_of_ble_eq_true rfl⟩ <| ?_
          rw [pm_over (by omega)] at hpm
          subst hpm
          first
            | (rw [if_pos hc_37] at hQ
               exact hQ h' _ _ _ _ (Or.inl ⟨rfl, cu, by rw [← hc_37]; exact hS⟩) hT2 (hF.wk (fun j => by omega)))
            | (rw [if_neg hc_37] at hQ
               exact hQ h' _ _ _ _ (Or.inr ⟨by show ¬ len = -1; omega, _, hS.w⟩) hT2 (hF.wk (fun j => by omega)))
        · skip
          refine r_iconst (pc := 40) dX0_readItems_40 <| r_goto (pc := 41) 45 dX0_readItems_41 (by decide) <| r_iret (pc := 45) dX0_readItems_45 rfl ⟨Nat.le_of_ble_eq_true rfl, Nat.le_of_ble_eq_true rfl⟩ <| ?_
          rw [pm_over (by omega)] at hpm
          subst hpm
          first
            | (rw [if_pos hc_37] at hQ
               exact hQ h' _ _ _ _ (Or.inl ⟨rfl, cu, by rw [← hc_37]; exact hS⟩) hT2 (hF.wk (fun j => by omega)))
            | (rw [if_neg hc_37] at hQ
               exact hQ h' _ _ _ _ (Or.inr ⟨by show ¬ len = -1; omega, _, hS.w⟩) hT2 (hF.wk (fun j => by omega)))
theorem sp_readItems {tt0 : Nat} {len0 nx pl va : Int} {cu : IT} (hS : BSt h b fa 0 [] cu) (hT : h (b + 1) = some (aO 6 [vR tt0, vI len0, vI nx, vI pl, vI va])) (hX : h tt = some (aA 160 tx)) (hb : Bd tx 0 255) (hl : 0 ≤ len ∧ len ≤ 160) (hne : tt < b ∨ b + 6 < tt) (hQ : RiQ b tt fa (parse tx len) n h Q) : Cl G mX0_readItems [vR b, vR tt, vI len] n h Q := by
  obtain ⟨ro, co, le, ab, hB, h3, h4, h5, hrest⟩ := id hS
  refine cl_of (by decide) (Nat.le_of_ble_eq_true rfl) rfl ?_
  refine r_aload_n (pc := 0) dX0_readItems_0 rfl <| r_getf (pc := 1) dX0_readItems_1 fA_X0_12 hB rfl <| r_aload_n (pc := 4) dX0_readItems_4 rfl <| r_iload_n (pc := 5) dX0_readItems_5 rfl <| cVv [_, _] (pc := 6) dX0_readItems_6 k_X0_48 ⟨⟨Nat.le_of_ble_eq_true rfl, Nat.le_of_ble_eq_true rfl⟩, ⟨Nat.le_of_ble_eq_true rfl, Nat.le_of_ble_eq_true rfl⟩, Nat.le_of_ble_eq_true rfl⟩ ⟨rfl, rfl⟩ hT ?_
  refine sp_open hT hX hl (by omega) (fun h1 hT1 hF1 => ?_)
  refine ⟨rfl, ?_⟩
  refine r_iconst (pc := 9) dX0_readItems_9 <| r_istoren_3 (pc := 10) dX0_readItems_10 rfl <| r_iconst (pc := 11) dX0_readItems_11 <| r_istore_4 (pc := 12) dX0_readItems_12 rfl <| ?_
  refine lp_ri (fa := fa) hb hl hne len.toNat 0 0 0 _ _ [] (1, 0, 0, 1) h1 _ ?_ hT1 (hF1.keep hX (by omega)) (by omega) (by omega) (by omega) (by omega) (by omega) rfl ?_
  · have := hS.keep hF1 (by omega) (by omega) (by omega) (by omega)
    obtain ⟨ro, co, le, ab, g1, g2, g3, g4, g5, g6, g7, g8, g9⟩ := this
    exact ⟨ro, co, le, ab, g1, g2, g3, g4, g5, g6, g7, g8, fun q => absurd rfl q⟩
  · intro h3 len3 nx3 pl3 va3 g3 g4 g5
    exact hQ h3 len3 nx3 pl3 va3 g3 g4 (fun j hj => (g5 j hj).trans (hF1 j (by omega)))
/-- the items that are asked in a round, as bits -/
def askN (ro : Int → Int) (k : Int) : Nat → Nat
  | 0 => 0
  | j + 1 => if ro (j : Int) ≤ k then askN ro k j ||| 2 ^ j else askN ro k j
theorem askN_lt (ro : Int → Int) (k : Int) : ∀ j : Nat, askN ro k j < 2 ^ j := by
  intro j
  induction j with
  | zero => simp [askN]
  | succ j ih =>
    have h2 : 2 ^ (j + 1) = 2 ^ j + 2 ^ j := by rw [Nat.pow_succ]; omega
    unfold askN
    split
    · exact Nat.or_lt_two_pow (by omega) (by omega)
    · omega
theorem askN_t {ro : Int → Int} {k : Int} {j : Nat} (h : ro (j : Int) ≤ k) : askN ro k (j + 1) = askN ro k j ||| 2 ^ j := by
  simp only [askN, if_pos h]
theorem askN_f {ro : Int → Int} {k : Int} {j : Nat} (h : ¬ ro (j : Int) ≤ k) : askN ro k (j + 1) = askN ro k j := by
  simp only [askN, if_neg h]
theorem lp_so17 {m : Nat} {ro : Int → Int} {k : Int} (hm : m ≤ 9) (hr : Bd ro 0 9) (hk : 1 ≤ k ∧ k ≤ 9) : ∀ (q j : Nat) (h : Hp) (ak : Int → Int), h b = some (aO 0 [vR (b + 1), vI fa, vI (m : Int), vI len, vR (b + 3), vR (b + 4), vR (b + 5), vR (b + 6)]) → h (b + 3) = some (aA 9 ro) → h (b + 6) = some (aA 10 ak) → j + q = m → ak k = (askN ro k j : Nat) →
    (∀ h' ak', h' (b + 6) = some (aA 10 ak') → ak' k = (askN ro k m : Nat) → (∀ i, i ≠ k → ak' i = ak i) → Fr (fun q => q = b + 6) h h' → At G mX0_sortByRounds 53 [vR b, vI k, vI (m : Int)] [] (0, 0, n) h' Q) →
    At G mX0_sortByRounds 17 [vR b, vI k, vI (j : Int)] [] (0, 0, n) h Q := by
  intro q
  induction q with
  | zero =>
    intro j h ak hB h3 h6 hj hak hQ
    have b3 := hr (j : Int)
    have ejm : j = m := by omega
    subst ejm
    refine r_iload_n (pc := 17) dX0_sortByRounds_17 rfl <| r_aload_n (pc := 18) dX0_sortByRounds_18 rfl <| r_getf (pc := 19) dX0_sortByRounds_19 fA_X0_22 hB rfl <| r_icmp_ge (pc := 22) 53 dX0_sortByRounds_22 (by decide) (by omega) (by omega) (fun hc_22 => ?_) (fun hc_22 => ?_)
    · skip
      exact hQ h ak h6 hak (fun _ _ => rfl) Fr.rf
    · skip
      exfalso; omega
  | succ q ih =>
    intro j h ak hB h3 h6 hj hak hQ
    have b3 := hr (j : Int)
    have hlt := askN_lt ro k j
    have hp : 2 ^ j ≤ 2 ^ 9 := Nat.pow_le_pow_right (by omega) (by omega)
    have e1 : Int32.ofInt 1 <<< (Int32.ofInt (j : Int) &&& 31) = Int32.ofInt ((2 ^ j : Nat) : Int) := by
      have := i_shl (x := 1) (j := (j : Int)) (by omega) (by omega) (by simp only [Int.toNat_natCast]; omega)
      simpa using this
    have e2 := i_orN (askN ro k j) (2 ^ j)
    rw [← hak] at e2
    refine r_iload_n (pc := 17) dX0_sortByRounds_17 rfl <| r_aload_n (pc := 18) dX0_sortByRounds_18 rfl <| r_getf (pc := 19) dX0_sortByRounds_19 fA_X0_22 hB rfl <| r_icmp_ge (pc := 22) 53 dX0_sortByRounds_22 (by decide) (by omega) (by omega) (fun hc_22 => ?_) (fun hc_22 => ?_)
    · skip
      exfalso; omega
    · skip
      refine r_aload_n (pc := 25) dX0_sortByRounds_25 rfl <| r_getf (pc := 26) dX0_sortByRounds_26 fA_X0_28 hB rfl <| r_iload_n (pc := 29) dX0_sortByRounds_29 rfl <| r_iald (pc := 30) dX0_sortByRounds_30 h3 (by omega) (by decide) <| r_iload_n (pc := 31) dX0_sortByRounds_31 rfl <| r_icmp_gt (pc := 32) 47 dX0_sortByRounds_32 (by decide) (by omega) (by omega) (fun hc_32 => ?_) (fun hc_32 => ?_)
      · skip
        refine r_iinc_2 (pc := 47) dX0_sortByRounds_47 rfl rfl <| r_goto (pc := 50) 17 dX0_sortByRounds_50 (by decide) <| ?_
        first
          | exact ih (j + 1) _ _ hB h3 h6 (by omega) (by rw [iu_s, askN_t (by omega)]) (fun h' ak' g1 g2 g3 g4 => hQ h' ak' g1 g2 (fun i hi => by rw [g3 i hi, iu_n hi]) (fun p hp => (g4 p hp).trans (hF_46 p hp)))
          | exact ih (j + 1) _ _ hB h3 h6 (by omega) (by rw [askN_f (by omega)]; exact hak) hQ
      · skip
        refine r_aload_n (pc := 35) dX0_sortByRounds_35 rfl <| r_getf (pc := 36) dX0_sortByRounds_36 fA_X0_38 hB rfl <| r_iload_n (pc := 39) dX0_sortByRounds_39 rfl <| r_dup2 (pc := 40) dX0_sortByRounds_40 ⟨rfl, rfl⟩ <| r_iald (pc := 41) dX0_sortByRounds_41 h6 (by omega) (by decide) <| r_iconst (pc := 42) dX0_sortByRounds_42 <| r_iload_n (pc := 43) dX0_sortByRounds_43 rfl <| r_ishl (pc := 44) ((2 ^ j : Nat) : Int) dX0_sortByRounds_44 e1 <| r_ior (pc := 45) ((askN ro k j ||| 2 ^ j : Nat) : Int) dX0_sortByRounds_45 e2 <| r_iast (pc := 46) dX0_sortByRounds_46 h6 (by omega) (by decide) (fun h_46 h6 hF_46 => ?_)
        replace hB := hF_46.keep hB (by omega)
        replace h3 := hF_46.keep h3 (by omega)
        refine r_iinc_2 (pc := 47) dX0_sortByRounds_47 rfl rfl <| r_goto (pc := 50) 17 dX0_sortByRounds_50 (by decide) <| ?_
        first
          | exact ih (j + 1) _ _ hB h3 h6 (by omega) (by rw [iu_s, askN_t (by omega)]) (fun h' ak' g1 g2 g3 g4 => hQ h' ak' g1 g2 (fun i hi => by rw [g3 i hi, iu_n hi]) (fun p hp => (g4 p hp).trans (hF_46 p hp)))
          | exact ih (j + 1) _ _ hB h3 h6 (by omega) (by rw [askN_f (by omega)]; exact hak) hQ
theorem lp_so2 {m : Nat} {ro : Int → Int} (hm : m ≤ 9) (hr : Bd ro 0 9) : ∀ (q : Nat) (k : Int) (h : Hp) (ak : Int → Int) (l2 : AV), h b = some (aO 0 [vR (b + 1), vI fa, vI (m : Int), vI len, vR (b + 3), vR (b + 4), vR (b + 5), vR (b + 6)]) → h (b + 3) = some (aA 9 ro) → h (b + 6) = some (aA 10 ak) → 1 ≤ k → k + q = 10 → (∀ i, 1 ≤ i → i < k → ak i = (askN ro i m : Nat)) →
    (∀ h' ak', h' (b + 6) = some (aA 10 ak') → (∀ i, 1 ≤ i → i < 10 → ak' i = (askN ro i m : Nat)) → Fr (fun q => q = b + 6) h h' → Q none n h') →
    At G mX0_sortByRounds 2 [vR b, vI k, l2] [] (0, 0, n) h Q := by
  intro q
  induction q with
  | zero =>
    intro k h ak l2 hB h3 h6 hk hq hak hQ
    refine r_iload_n (pc := 2) dX0_sortByRounds_2 rfl <| r_bipush (pc := 3) dX0_sortByRounds_3 (by decide) <| r_icmp_gt (pc := 5) 59 dX0_sortByRounds_5 (by decide) (by omega) (by omega) (fun hc_5 => ?_) (fun hc_5 => ?_)
    · skip
      refine r_vret (pc := 59) dX0_sortByRounds_59 rfl ⟨Nat.le_of_ble_eq_true rfl, Nat.le_of_ble_eq_true rfl⟩ <| ?_
      exact hQ h ak h6 (fun i h1 h2 => hak i h1 (by omega)) Fr.rf
    · skip
      exfalso; omega
  | succ q ih =>
    intro k h ak l2 hB h3 h6 hk hq hak hQ
    refine r_iload_n (pc := 2) dX0_sortByRounds_2 rfl <| r_bipush (pc := 3) dX0_sortByRounds_3 (by decide) <| r_icmp_gt (pc := 5) 59 dX0_sortByRounds_5 (by decide) (by omega) (by omega) (fun hc_5 => ?_) (fun hc_5 => ?_)
    · skip
      exfalso; omega
    · skip
      refine r_aload_n (pc := 8) dX0_sortByRounds_8 rfl <| r_getf (pc := 9) dX0_sortByRounds_9 fA_X0_38 hB rfl <| r_iload_n (pc := 12) dX0_sortByRounds_12 rfl <| r_iconst (pc := 13) dX0_sortByRounds_13 <| r_iast (pc := 14) dX0_sortByRounds_14 h6 (by omega) (by decide) (fun h_14 h6 hF_14 => ?_)
      replace hB := hF_14.keep hB (by omega)
      replace h3 := hF_14.keep h3 (by omega)
      refine r_iconst (pc := 15) dX0_sortByRounds_15 <| r_istoren_2 (pc := 16) dX0_sortByRounds_16 rfl <| ?_
      refine lp_so17 hm hr (by omega) m 0 _ _ hB h3 h6 (by omega) (by rw [iu_s]; rfl) (fun h' ak' g1 g2 g3 g4 => ?_)
      have hB := g4.keep hB (by omega)
      have h3 := g4.keep h3 (by omega)
      refine r_iinc_1 (pc := 53) dX0_sortByRounds_53 rfl rfl <| r_goto (pc := 56) 2 dX0_sortByRounds_56 (by decide) <| ?_
      refine ih (k + 1) h' ak' _ hB h3 g1 (by omega) (by omega) (fun i h1 h2 => ?_) (fun h'' ak'' e1 e2 e3 => hQ h'' ak'' e1 e2 (fun p hp => (e3 p hp).trans ((g4 p hp).trans (hF_14 p hp))))
      by_cases e : i = k
      · rw [e]; exact g2
      · rw [g3 i e, iu_n e]; exact hak i h1 (by omega)
theorem sp_sort {m : Nat} {ro ak : Int → Int} (hB : h b = some (aO 0 [vR (b + 1), vI fa, vI (m : Int), vI len, vR (b + 3), vR (b + 4), vR (b + 5), vR (b + 6)])) (h3 : h (b + 3) = some (aA 9 ro)) (h6 : h (b + 6) = some (aA 10 ak)) (hm : m ≤ 9) (hr : Bd ro 0 9)
    (hQ : ∀ h' ak', h' (b + 6) = some (aA 10 ak') → (∀ i, 1 ≤ i → i < 10 → ak' i = (askN ro i m : Nat)) → Fr (fun q => q = b + 6) h h' → Q none n h') : Cl G mX0_sortByRounds [vR b] n h Q := by
  refine cl_of (by decide) (Nat.le_of_ble_eq_true rfl) rfl ?_
  refine r_iconst (pc := 0) dX0_sortByRounds_0 <| r_istoren_1 (pc := 1) dX0_sortByRounds_1 rfl <| ?_
  exact lp_so2 hm hr 9 1 h ak _ hB h3 h6 (by omega) (by omega) (fun i h1 h2 => by omega) hQ
/-- the book as read: its fault, its items -/
def isBk (h : Hp) (b : Nat) (r : Int × List IT) : Prop := (∃ (tt : Nat) (len nx pl va : Int), h (b + 1) = some (aO 6 [vR tt, vI len, vI nx, vI pl, vI va])) ∧
  ((r.1 = -1 ∧ ∃ (ro co le ak : Int → Int) (ab : Nat), h b = some (aO 0 [vR (b + 1), vI (-1), vI (r.2.length : Int), vI (ab : Nat), vR (b + 3), vR (b + 4), vR (b + 5), vR (b + 6)]) ∧ h (b + 3) = some (aA 9 ro) ∧ h (b + 4) = some (aA 9 co) ∧ h (b + 5) = some (aA 9 le) ∧ h (b + 6) = some (aA 10 ak) ∧ (Bd ro 0 9 ∧ Bd co 0 9 ∧ Bd le 0 99) ∧ r.2.length ≤ 9 ∧ clRel ro co le r.2 ∧ agRel ab r.2 ∧ (∀ i, 1 ≤ i → i < 10 → ak i = (askN ro i r.2.length : Nat))) ∨
   (¬ r.1 = -1 ∧ ∃ (ro co le ak : Int → Int) (ab m : Nat), h b = some (aO 0 [vR (b + 1), vI r.1, vI (m : Int), vI (ab : Nat), vR (b + 3), vR (b + 4), vR (b + 5), vR (b + 6)]) ∧ h (b + 3) = some (aA 9 ro) ∧ h (b + 4) = some (aA 9 co) ∧ h (b + 5) = some (aA 9 le) ∧ h (b + 6) = some (aA 10 ak) ∧ (Bd ro 0 9 ∧ Bd co 0 9 ∧ Bd le 0 99) ∧ m ≤ 9 ∧ ab < 1024))
/-- Book.read -/
theorem sp_bread {r0 : Int × List IT} (hk : isBk h b r0) (hX : h tt = some (aA 160 tx)) (hb : Bd tx 0 255) (hl : 0 ≤ len ∧ len ≤ 160) (hne : tt < b ∨ b + 6 < tt)
    (hQ : ∀ h', isBk h' b (parse tx len) → Fr (fun q => q = b ∨ q = b + 1 ∨ q = b + 3 ∨ q = b + 4 ∨ q = b + 5 ∨ q = b + 6) h h' → Q none n h') : Cl G mX0_read [vR b, vR tt, vI len] n h Q := by
  obtain ⟨⟨tt0, len0, nx, pl, va, hT⟩, hk2⟩ := hk
  obtain ⟨ro, co, le, ak, fa0, sz0, ab0, hB, h3, h4, h5, h6, bd1, bd2, bd3⟩ : ∃ (ro co le ak : Int → Int) (fa0 sz0 ab0 : Int), h b = some (aO 0 [vR (b + 1), vI fa0, vI sz0, vI ab0, vR (b + 3), vR (b + 4), vR (b + 5), vR (b + 6)]) ∧ h (b + 3) = some (aA 9 ro) ∧ h (b + 4) = some (aA 9 co) ∧ h (b + 5) = some (aA 9 le) ∧ h (b + 6) = some (aA 10 ak) ∧ Bd ro 0 9 ∧ Bd co 0 9 ∧ Bd le 0 99 := by
    rcases hk2 with ⟨-, ro, co, le, ak, ab, g1, g2, g3, g4, g5, ⟨g6, g7, g8⟩, -⟩ | ⟨-, ro, co, le, ak, ab, m, g1, g2, g3, g4, g5, ⟨g6, g7, g8⟩, -⟩
    · exact ⟨ro, co, le, ak, _, _, _, g1, g2, g3, g4, g5, g6, g7, g8⟩
    · exact ⟨ro, co, le, ak, _, _, _, g1, g2, g3, g4, g5, g6, g7, g8⟩
  clear hk2
  refine cl_of (by decide) (Nat.le_of_ble_eq_true rfl) rfl ?_
  refine r_aload_n (pc := 0) dX0_read_0 rfl <| r_iconst (pc := 1) dX0_read_1 <| r_putf (pc := 2) dX0_read_2 fP_X0_22 rfl rfl hB rfl (fun h_2 hB hF_2 => ?_)
  simp only [List.set_cons_zero, List.set_cons_succ] at hB
  replace hT := hF_2.keep hT (by omega)
  replace h3 := hF_2.keep h3 (by omega)
  replace h4 := hF_2.keep h4 (by omega)
  replace h5 := hF_2.keep h5 (by omega)
  replace h6 := hF_2.keep h6 (by omega)
  replace hX := hF_2.keep hX (by omega)
  refine r_aload_n (pc := 5) dX0_read_5 rfl <| r_iconst (pc := 6) dX0_read_6 <| r_putf (pc := 7) dX0_read_7 fP_X0_25 rfl rfl hB rfl (fun h_7 hB hF_7 => ?_)
  simp only [List.set_cons_zero, List.set_cons_succ] at hB
  replace hT := hF_7.keep hT (by omega)
  replace h3 := hF_7.keep h3 (by omega)
  replace h4 := hF_7.keep h4 (by omega)
  replace h5 := hF_7.keep h5 (by omega)
  replace h6 := hF_7.keep h6 (by omega)
  replace hX := hF_7.keep hX (by omega)
  refine r_aload_n (pc := 10) dX0_read_10 rfl <| r_aload_n (pc := 11) dX0_read_11 rfl <| r_aload_n (pc := 12) dX0_read_12 rfl <| r_iload_n (pc := 13) dX0_read_13 rfl <| cVi [_, _] (pc := 14) dX0_read_14 k_X0_41 ⟨⟨Nat.le_of_ble_eq_true rfl, Nat.le_of_ble_eq_true rfl⟩, ⟨Nat.le_of_ble_eq_true rfl, Nat.le_of_ble_eq_true rfl⟩, Nat.le_of_ble_eq_true rfl⟩ ⟨rfl, rfl⟩ hB ?_
  refine sp_readItems (fa := fa0) (cu := (1, 0, 0, 1)) ⟨ro, co, le, 0, hB, h3, h4, h5, ⟨bd1, bd2, bd3⟩, by simp, fun j q hq => by simp at hq, fun _ j => by simp, fun q => absurd rfl q⟩ hT hX hb hl hne ?_
  intro h1 len1 nx1 pl1 va1 gr hT1 hF1
  have h6 := hF1.keep h6 (by omega)
  clear hB h3 h4 h5
  obtain ⟨ro, co, le, ab, m, hB, h3, h4, h5, ⟨bd1, bd2, bd3⟩, hm9, hfin⟩ : ∃ (ro co le : Int → Int) (ab m : Nat), h1 b = some (aO 0 [vR (b + 1), vI fa0, vI (m : Int), vI (ab : Nat), vR (b + 3), vR (b + 4), vR (b + 5), vR (b + 6)]) ∧ h1 (b + 3) = some (aA 9 ro) ∧ h1 (b + 4) = some (aA 9 co) ∧ h1 (b + 5) = some (aA 9 le) ∧ (Bd ro 0 9 ∧ Bd co 0 9 ∧ Bd le 0 99) ∧ m ≤ 9 ∧ ((parse tx len).1 = -1 ∧ m = (parse tx len).2.length ∧ clRel ro co le (parse tx len).2 ∧ agRel ab (parse tx len).2 ∨ ¬ (parse tx len).1 = -1 ∧ ab < 1024) := by
    rcases gr with ⟨e1, cu, ro, co, le, ab, g1, g2, g3, g4, g5, g6, g7, g8, -⟩ | ⟨e1, m, ro, co, le, ab, g1, g2, g3, g4, g5, g6, g7⟩
    · exact ⟨ro, co, le, ab, _, g1, g2, g3, g4, g5, g6, Or.inl ⟨e1, rfl, g7, g8 rfl⟩⟩
    · exact ⟨ro, co, le, ab, m, g1, g2, g3, g4, g5, g6, Or.inr ⟨e1, g7⟩⟩
  clear gr
  clear hT
  have hT := hT1
  have hX := hF1.keep hX (by omega)
  refine ⟨_, rfl, ?_⟩
  refine r_putf (pc := 17) dX0_read_17 fP_X0_18 rfl rfl hB rfl (fun h_17 hB hF_17 => ?_)
  simp only [List.set_cons_zero, List.set_cons_succ] at hB
  replace hT := hF_17.keep hT (by omega)
  replace h3 := hF_17.keep h3 (by omega)
  replace h4 := hF_17.keep h4 (by omega)
  replace h5 := hF_17.keep h5 (by omega)
  replace h6 := hF_17.keep h6 (by omega)
  replace hX := hF_17.keep hX (by omega)
  refine r_aload_n (pc := 20) dX0_read_20 rfl <| cVv [] (pc := 21) dX0_read_21 k_X0_45 ⟨⟨Nat.le_of_ble_eq_true rfl, Nat.le_of_ble_eq_true rfl⟩, ⟨Nat.le_of_ble_eq_true rfl, Nat.le_of_ble_eq_true rfl⟩, Nat.le_of_ble_eq_true rfl⟩ ⟨rfl, rfl⟩ hB ?_
  refine sp_sort hB h3 h6 hm9 bd1 (fun h2 ak2 g6 gak hF2 => ?_)
  refine ⟨rfl, ?_⟩
  refine r_vret (pc := 24) dX0_read_24 rfl ⟨Nat.le_of_ble_eq_true rfl, Nat.le_of_ble_eq_true rfl⟩ <| ?_
  refine hQ h2 ⟨⟨tt, len1, nx1, pl1, va1, hF2.keep hT (by omega)⟩, ?_⟩ (fun p hp => (hF2 p (by omega)).trans ((hF_17 p (by omega)).trans ((hF1 p (by omega)).trans ((hF_7 p (by omega)).trans (hF_2 p (by omega))))))
  rcases hfin with ⟨e1, e2, e3, e4⟩ | ⟨e1, e2⟩
  · subst e2
    refine Or.inl ⟨e1, ro, co, le, ak2, ab, ?_, hF2.keep h3 (by omega), hF2.keep h4 (by omega), hF2.keep h5 (by omega), g6, ⟨bd1, bd2, bd3⟩, hm9, e3, e4, gak⟩
    rw [e1] at hB
    exact hF2.keep hB (by omega)
  · exact Or.inr ⟨e1, ro, co, le, ak2, ab, m, hF2.keep hB (by omega), hF2.keep h3 (by omega), hF2.keep h4 (by omega), hF2.keep h5 (by omega), g6, ⟨bd1, bd2, bd3⟩, hm9, e2⟩
end BK3


