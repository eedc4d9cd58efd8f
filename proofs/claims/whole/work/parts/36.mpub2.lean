/-! ===== the model: more calls ===== -/
section MP2
variable {G : GT} {n : Nat} {h : Hp} {Q : PT} {s : SS}
def fTalk (s : SS) (a b w : Int) : Int × SS := if ¬ (((0 ≤ a ∧ a < s.bk 0) ∧ (0 ≤ b ∧ b < s.bk 0) ∧ a ≠ b) ∧ (0 ≤ w ∧ w ≤ 2)) then (-2, s.bad) else if ¬ (parse (txB s.bk) (s.bk 1)).1 = -1 then (-3, s.no) else (if w = 0 then (TB s.bk a b).1 else if w = 1 then (TB s.bk a b).2.1 else (TB s.bk a b).2.2, s)
theorem ms_talk {a b w : Int} (hM : isM h s) (hI : Inv s.bk) (ha : inI a) (hb : inI b) (hw : inI w) (hQ : ∀ h', isM h' (fTalk s a b w).2 → Fr MR h h' → Q (some (vI (fTalk s a b w).1)) n h') : Cl G mX9_talk [vR 45, vI a, vI b, vI w] n h Q := by
  obtain ⟨e, it, g45, ge, g9, g46, -⟩ := id hM.raw
  have hM' := g45
  unfold mF at hM'
  have i0 := hI.1.1
  unfold fTalk at hQ
  refine cl_of (by decide) (Nat.le_of_ble_eq_true rfl) rfl ?_
  refine r_aload_n (pc := 0) dX9_talk_0 rfl <| r_iload_n (pc := 1) dX9_talk_1 rfl <| r_iload_n (pc := 2) dX9_talk_2 rfl <| cVi [_, _] (pc := 3) dX9_talk_3 k_X9_81 ⟨⟨Nat.le_of_ble_eq_true rfl, Nat.le_of_ble_eq_true rfl⟩, ⟨Nat.le_of_ble_eq_true rfl, Nat.le_of_ble_eq_true rfl⟩, Nat.le_of_ble_eq_true rfl⟩ ⟨rfl, rfl⟩ hM' ?_
  refine sp_areTwo g45 g46 hI.2.1 ha hb (fun q1 => ?_) (fun q1 => ?_)
  · skip
    refine ⟨_, rfl, ?_⟩
    refine r_if_eq (pc := 6) 21 dX9_talk_6 (by decide) (by decide) (fun q => absurd q (by decide)) (fun _ => ?_)
    refine r_iload_n (pc := 9) dX9_talk_9 rfl <| r_i2l (pc := 10) dX9_talk_10 (by omega) <| r_lconst (pc := 11) (v := 0) dX9_talk_11 rfl <| r_ldc2 (pc := 12) dX9_talk_12 cT_X9_76 <| cSi [_, _, _] (pc := 15) dX9_talk_15 k_X9_55 ⟨⟨Nat.le_of_ble_eq_true rfl, Nat.le_of_ble_eq_true rfl⟩, ⟨Nat.le_of_ble_eq_true rfl, Nat.le_of_ble_eq_true rfl⟩, Nat.le_of_ble_eq_true rfl⟩ ⟨rfl, rfl⟩ ?_
    refine sp_in (by omega) (by omega) (by omega) (fun q2 => ?_) (fun q2 => ?_)
    · skip
      refine ⟨_, rfl, ?_⟩
      refine r_if_ne (pc := 18) 26 dX9_talk_18 (by decide) (by decide) (fun _ => ?_) (fun q => absurd q (by decide))
      refine r_aload_n (pc := 26) dX9_talk_26 rfl <| cVi [] (pc := 27) dX9_talk_27 k_X9_145 ⟨⟨Nat.le_of_ble_eq_true rfl, Nat.le_of_ble_eq_true rfl⟩, ⟨Nat.le_of_ble_eq_true rfl, Nat.le_of_ble_eq_true rfl⟩, Nat.le_of_ble_eq_true rfl⟩ ⟨rfl, rfl⟩ hM' ?_
      refine ms_reads hM hI (fun q3 h1 e1 it1 m1 m2 m3 m4 m5 m6 m7 m8 m9 m10 => ?_) (fun q3 h1 e1 m1 m2 m3 m10 => ?_)
      · skip
        refine ⟨_, rfl, ?_⟩
        clear hM'; have hM' := m2; unfold mF at hM'
        refine r_if_ne (pc := 30) 38 dX9_talk_30 (by decide) (by decide) (fun _ => ?_) (fun q => absurd q (by decide))
        refine r_aload_n (pc := 38) dX9_talk_38 rfl <| r_iload_n (pc := 39) dX9_talk_39 rfl <| r_iload_n (pc := 40) dX9_talk_40 rfl <| cVi [_, _] (pc := 41) dX9_talk_41 k_X9_171 ⟨⟨Nat.le_of_ble_eq_true rfl, Nat.le_of_ble_eq_true rfl⟩, ⟨Nat.le_of_ble_eq_true rfl, Nat.le_of_ble_eq_true rfl⟩, Nat.le_of_ble_eq_true rfl⟩ ⟨rfl, rfl⟩ hM' ?_
        have hT : talkF (nmB s.bk) it1 (e1 11) (e1 12) a b = TB s.bk a b := by rw [m7.1, m8, talk_mod (bk := s.bk) m6]; rfl
        refine sp_talks m2 m3 m4 hI.2.1 m5 (by omega) (by omega) (by omega) (by omega) (fun h2 k45 hF2 => ?_)
        rw [hT] at k45 ⊢
        clear hM'
        have hM' : h2 45 = some (aO 9 [vR 46, vR 47, vR 48, vR 49, vI (e1 4), vI (e1 5), vI (e1 6), vI (e1 7), vI (e1 8), vI (e1 9), vR 50, vI (e1 11), vI (e1 12), vI ((TB s.bk a b).2.1), vI ((TB s.bk a b).2.2), vR 51, vR 52, vI (e1 17), vR 53, vR 54, vR 55, vR 56, vR 57]) := k45
        refine ⟨_, rfl, ?_⟩
        refine r_istore_4 (pc := 44) dX9_talk_44 rfl <| r_iload_n (pc := 46) dX9_talk_46 rfl <| r_if_ne (pc := 47) 55 dX9_talk_47 (by decide) (by omega) (fun hc_47 => ?_) (fun hc_47 => ?_)
        · skip
          refine r_iload_n (pc := 55) dX9_talk_55 rfl <| r_iconst (pc := 56) dX9_talk_56 <| r_icmp_ne (pc := 57) 67 dX9_talk_57 (by decide) (by omega) (by omega) (fun hc_57 => ?_) (fun hc_57 => ?_)
          · skip
            refine r_aload_n (pc := 67) dX9_talk_67 rfl <| r_getf (pc := 68) dX9_talk_68 fA_X9_164 hM' rfl <| r_iret (pc := 71) dX9_talk_71 rfl ⟨Nat.le_of_ble_eq_true rfl, Nat.le_of_ble_eq_true rfl⟩ <| ?_
            rw [if_neg (by omega), if_neg (by omega)] at hQ
            refine qI ?_ (hQ _ (m1.k45 m2 k45 ⟨rfl, rfl⟩ m9 hF2) (fun j hj => (hF2 j (by omega)).trans (m10 j hj)))
            (repeat' split) <;> first | rfl | (exfalso; omega)
          · skip
            refine r_aload_n (pc := 60) dX9_talk_60 rfl <| r_getf (pc := 61) dX9_talk_61 fA_X9_161 hM' rfl <| r_goto (pc := 64) 71 dX9_talk_64 (by decide) <| r_iret (pc := 71) dX9_talk_71 rfl ⟨Nat.le_of_ble_eq_true rfl, Nat.le_of_ble_eq_true rfl⟩ <| ?_
            rw [if_neg (by omega), if_neg (by omega)] at hQ
            refine qI ?_ (hQ _ (m1.k45 m2 k45 ⟨rfl, rfl⟩ m9 hF2) (fun j hj => (hF2 j (by omega)).trans (m10 j hj)))
            (repeat' split) <;> first | rfl | (exfalso; omega)
        · skip
          refine r_iload (pc := 50) dX9_talk_50 rfl <| r_goto (pc := 52) 71 dX9_talk_52 (by decide) <| r_iret (pc := 71) dX9_talk_71 rfl ⟨Nat.le_of_ble_eq_true rfl, Nat.le_of_ble_eq_true rfl⟩ <| ?_
          rw [if_neg (by omega), if_neg (by omega)] at hQ
          refine qI ?_ (hQ _ (m1.k45 m2 k45 ⟨rfl, rfl⟩ m9 hF2) (fun j hj => (hF2 j (by omega)).trans (m10 j hj)))
          (repeat' split) <;> first | rfl | (exfalso; omega)
      · skip
        refine ⟨_, rfl, ?_⟩
        clear hM'; have hM' := m2; unfold mF at hM'
        refine r_if_ne (pc := 30) 38 dX9_talk_30 (by decide) (by decide) (fun q => absurd q (by decide)) (fun _ => ?_)
        refine r_aload_n (pc := 33) dX9_talk_33 rfl <| cVi [] (pc := 34) dX9_talk_34 k_X9_151 ⟨⟨Nat.le_of_ble_eq_true rfl, Nat.le_of_ble_eq_true rfl⟩, ⟨Nat.le_of_ble_eq_true rfl, Nat.le_of_ble_eq_true rfl⟩, Nat.le_of_ble_eq_true rfl⟩ ⟨rfl, rfl⟩ hM' ?_
        refine ms_no m1 (fun h2 g1 g2 => ?_)
        refine ⟨_, rfl, ?_⟩
        refine r_iret (pc := 37) dX9_talk_37 rfl ⟨Nat.le_of_ble_eq_true rfl, Nat.le_of_ble_eq_true rfl⟩ <| ?_
        rw [if_neg (by omega), if_pos q3] at hQ; exact hQ _ g1 (fun j hj => (g2 j hj).trans (m10 j hj))
    · skip
      refine ⟨_, rfl, ?_⟩
      refine r_if_ne (pc := 18) 26 dX9_talk_18 (by decide) (by decide) (fun q => absurd q (by decide)) (fun _ => ?_)
      refine r_aload_n (pc := 21) dX9_talk_21 rfl <| cVi [] (pc := 22) dX9_talk_22 k_X9_69 ⟨⟨Nat.le_of_ble_eq_true rfl, Nat.le_of_ble_eq_true rfl⟩, ⟨Nat.le_of_ble_eq_true rfl, Nat.le_of_ble_eq_true rfl⟩, Nat.le_of_ble_eq_true rfl⟩ ⟨rfl, rfl⟩ hM' ?_
      refine ms_bad hM (fun h1 g1 g2 => ?_)
      refine ⟨_, rfl, ?_⟩
      refine r_iret (pc := 25) dX9_talk_25 rfl ⟨Nat.le_of_ble_eq_true rfl, Nat.le_of_ble_eq_true rfl⟩ <| ?_
      rw [if_pos (by omega)] at hQ; exact hQ _ g1 g2
  · skip
    refine ⟨_, rfl, ?_⟩
    refine r_if_eq (pc := 6) 21 dX9_talk_6 (by decide) (by decide) (fun _ => ?_) (fun q => absurd q (by decide))
    refine r_aload_n (pc := 21) dX9_talk_21 rfl <| cVi [] (pc := 22) dX9_talk_22 k_X9_69 ⟨⟨Nat.le_of_ble_eq_true rfl, Nat.le_of_ble_eq_true rfl⟩, ⟨Nat.le_of_ble_eq_true rfl, Nat.le_of_ble_eq_true rfl⟩, Nat.le_of_ble_eq_true rfl⟩ ⟨rfl, rfl⟩ hM' ?_
    refine ms_bad hM (fun h1 g1 g2 => ?_)
    refine ⟨_, rfl, ?_⟩
    refine r_iret (pc := 25) dX9_talk_25 rfl ⟨Nat.le_of_ble_eq_true rfl, Nat.le_of_ble_eq_true rfl⟩ <| ?_
    rw [if_pos (by omega)] at hQ; exact hQ _ g1 g2
def fMeet (s : SS) (a b : Int) : Int × SS := if ¬ ((0 ≤ a ∧ a < s.bk 0) ∧ (0 ≤ b ∧ b < s.bk 0) ∧ a ≠ b) then (-2, s.bad) else if ¬ (parse (txB s.bk) (s.bk 1)).1 = -1 then (-3, s.no) else if (TB s.bk a b).1 = -1 then (-1, s) else ((TB s.bk a b).1, s.sbk (wentB s.bk (TB s.bk a b).1 (a + b - (TB s.bk a b).1)))
theorem ms_meet {a b : Int} (hM : isM h s) (hI : Inv s.bk) (ha : inI a) (hb : inI b) (hQ : ∀ h', isM h' (fMeet s a b).2 → Fr MR h h' → Q (some (vI (fMeet s a b).1)) n h') : Cl G mX9_meet [vR 45, vI a, vI b] n h Q := by
  obtain ⟨e, it, g45, ge, g9, g46, -⟩ := id hM.raw
  have hM' := g45
  unfold mF at hM'
  have i0 := hI.1.1
  unfold fMeet at hQ
  refine cl_of (by decide) (Nat.le_of_ble_eq_true rfl) rfl ?_
  refine r_aload_n (pc := 0) dX9_meet_0 rfl <| r_iload_n (pc := 1) dX9_meet_1 rfl <| r_iload_n (pc := 2) dX9_meet_2 rfl <| cVi [_, _] (pc := 3) dX9_meet_3 k_X9_81 ⟨⟨Nat.le_of_ble_eq_true rfl, Nat.le_of_ble_eq_true rfl⟩, ⟨Nat.le_of_ble_eq_true rfl, Nat.le_of_ble_eq_true rfl⟩, Nat.le_of_ble_eq_true rfl⟩ ⟨rfl, rfl⟩ hM' ?_
  refine sp_areTwo g45 g46 hI.2.1 ha hb (fun q1 => ?_) (fun q1 => ?_)
  · skip
    refine ⟨_, rfl, ?_⟩
    refine r_if_ne (pc := 6) 14 dX9_meet_6 (by decide) (by decide) (fun _ => ?_) (fun q => absurd q (by decide))
    refine r_aload_n (pc := 14) dX9_meet_14 rfl <| cVi [] (pc := 15) dX9_meet_15 k_X9_145 ⟨⟨Nat.le_of_ble_eq_true rfl, Nat.le_of_ble_eq_true rfl⟩, ⟨Nat.le_of_ble_eq_true rfl, Nat.le_of_ble_eq_true rfl⟩, Nat.le_of_ble_eq_true rfl⟩ ⟨rfl, rfl⟩ hM' ?_
    refine ms_reads hM hI (fun q3 h1 e1 it1 m1 m2 m3 m4 m5 m6 m7 m8 m9 m10 => ?_) (fun q3 h1 e1 m1 m2 m3 m10 => ?_)
    · skip
      refine ⟨_, rfl, ?_⟩
      clear hM'; have hM' := m2; unfold mF at hM'
      refine r_if_ne (pc := 18) 26 dX9_meet_18 (by decide) (by decide) (fun _ => ?_) (fun q => absurd q (by decide))
      refine r_aload_n (pc := 26) dX9_meet_26 rfl <| r_iload_n (pc := 27) dX9_meet_27 rfl <| r_iload_n (pc := 28) dX9_meet_28 rfl <| cVi [_, _] (pc := 29) dX9_meet_29 k_X9_171 ⟨⟨Nat.le_of_ble_eq_true rfl, Nat.le_of_ble_eq_true rfl⟩, ⟨Nat.le_of_ble_eq_true rfl, Nat.le_of_ble_eq_true rfl⟩, Nat.le_of_ble_eq_true rfl⟩ ⟨rfl, rfl⟩ hM' ?_
      have hT : talkF (nmB s.bk) it1 (e1 11) (e1 12) a b = TB s.bk a b := by rw [m7.1, m8, talk_mod (bk := s.bk) m6]; rfl
      have hin : TB s.bk a b = (-1, 9, -1) ∨ _ := TB_in hI (by omega) (by omega) (by omega)
      refine sp_talks m2 m3 m4 hI.2.1 m5 (by omega) (by omega) (by omega) (by omega) (fun h2 k45 hF2 => ?_)
      rw [hT] at k45 ⊢
      have hb3 : (TB s.bk a b).1 = -1 ∨ (TB s.bk a b).1 = a ∨ (TB s.bk a b).1 = b := by
        rcases hin with e | e
        · rw [e]; exact Or.inl rfl
        · exact Or.inr e.1
      clear hM'
      have hM' : h2 45 = some (aO 9 [vR 46, vR 47, vR 48, vR 49, vI (e1 4), vI (e1 5), vI (e1 6), vI (e1 7), vI (e1 8), vI (e1 9), vR 50, vI (e1 11), vI (e1 12), vI ((TB s.bk a b).2.1), vI ((TB s.bk a b).2.2), vR 51, vR 52, vI (e1 17), vR 53, vR 54, vR 55, vR 56, vR 57]) := k45
      refine ⟨_, rfl, ?_⟩
      refine r_istoren_3 (pc := 32) dX9_meet_32 rfl <| r_iload_n (pc := 33) dX9_meet_33 rfl <| r_iconst (pc := 34) dX9_meet_34 <| r_icmp_eq (pc := 35) 48 dX9_meet_35 (by decide) (by omega) (by omega) (fun hc_35 => ?_) (fun hc_35 => ?_)
      · skip
        refine r_iload_n (pc := 48) dX9_meet_48 rfl <| r_iret (pc := 49) dX9_meet_49 rfl ⟨Nat.le_of_ble_eq_true rfl, Nat.le_of_ble_eq_true rfl⟩ <| ?_
        rw [if_neg (by omega), if_neg (by omega)] at hQ
        first
          | (rw [if_pos hc_35] at hQ
             exact qI hc_35 (hQ _ (m1.k45 m2 k45 ⟨rfl, rfl⟩ m9 hF2) (fun j hj => (hF2 j (by omega)).trans (m10 j hj))))
          | (rw [if_neg hc_35] at hQ
             exact hQ _ ((m1.k45 m2 k45 ⟨rfl, rfl⟩ m9 hF2).k46 k46 hF3) (fun j hj => (hF3 j (by omega)).trans ((hF2 j (by omega)).trans (m10 j hj))))
      · skip
        refine r_aload_n (pc := 38) dX9_meet_38 rfl <| r_iload_n (pc := 39) dX9_meet_39 rfl <| r_iload_n (pc := 40) dX9_meet_40 rfl <| r_iload_n (pc := 41) dX9_meet_41 rfl <| r_iadd (pc := 42) dX9_meet_42 <| r_iload_n (pc := 43) dX9_meet_43 rfl <| r_isub (pc := 44) dX9_meet_44 <| cVv [_, _] (pc := 45) dX9_meet_45 k_X9_174 ⟨⟨Nat.le_of_ble_eq_true rfl, Nat.le_of_ble_eq_true rfl⟩, ⟨Nat.le_of_ble_eq_true rfl, Nat.le_of_ble_eq_true rfl⟩, Nat.le_of_ble_eq_true rfl⟩ ⟨rfl, rfl⟩ hM' ?_
        refine sp_mwent (e := nu (nu e1 13 (TB s.bk a b).2.1) 14 (TB s.bk a b).2.2) k45 (hF2.keep m3 (by omega)) hI.2.1 (by omega) (by omega) (fun h3 k46 hF3 => ?_)
        refine ⟨rfl, ?_⟩
        refine r_iload_n (pc := 48) dX9_meet_48 rfl <| r_iret (pc := 49) dX9_meet_49 rfl ⟨Nat.le_of_ble_eq_true rfl, Nat.le_of_ble_eq_true rfl⟩ <| ?_
        rw [if_neg (by omega), if_neg (by omega)] at hQ
        first
          | (rw [if_pos hc_35] at hQ
             exact qI hc_35 (hQ _ (m1.k45 m2 k45 ⟨rfl, rfl⟩ m9 hF2) (fun j hj => (hF2 j (by omega)).trans (m10 j hj))))
          | (rw [if_neg hc_35] at hQ
             exact hQ _ ((m1.k45 m2 k45 ⟨rfl, rfl⟩ m9 hF2).k46 k46 hF3) (fun j hj => (hF3 j (by omega)).trans ((hF2 j (by omega)).trans (m10 j hj))))
    · skip
      refine ⟨_, rfl, ?_⟩
      clear hM'; have hM' := m2; unfold mF at hM'
      refine r_if_ne (pc := 18) 26 dX9_meet_18 (by decide) (by decide) (fun q => absurd q (by decide)) (fun _ => ?_)
      refine r_aload_n (pc := 21) dX9_meet_21 rfl <| cVi [] (pc := 22) dX9_meet_22 k_X9_151 ⟨⟨Nat.le_of_ble_eq_true rfl, Nat.le_of_ble_eq_true rfl⟩, ⟨Nat.le_of_ble_eq_true rfl, Nat.le_of_ble_eq_true rfl⟩, Nat.le_of_ble_eq_true rfl⟩ ⟨rfl, rfl⟩ hM' ?_
      refine ms_no m1 (fun h2 g1 g2 => ?_)
      refine ⟨_, rfl, ?_⟩
      refine r_iret (pc := 25) dX9_meet_25 rfl ⟨Nat.le_of_ble_eq_true rfl, Nat.le_of_ble_eq_true rfl⟩ <| ?_
      rw [if_neg (by omega), if_pos q3] at hQ; exact hQ _ g1 (fun j hj => (g2 j hj).trans (m10 j hj))
  · skip
    refine ⟨_, rfl, ?_⟩
    refine r_if_ne (pc := 6) 14 dX9_meet_6 (by decide) (by decide) (fun q => absurd q (by decide)) (fun _ => ?_)
    refine r_aload_n (pc := 9) dX9_meet_9 rfl <| cVi [] (pc := 10) dX9_meet_10 k_X9_69 ⟨⟨Nat.le_of_ble_eq_true rfl, Nat.le_of_ble_eq_true rfl⟩, ⟨Nat.le_of_ble_eq_true rfl, Nat.le_of_ble_eq_true rfl⟩, Nat.le_of_ble_eq_true rfl⟩ ⟨rfl, rfl⟩ hM' ?_
    refine ms_bad hM (fun h1 g1 g2 => ?_)
    refine ⟨_, rfl, ?_⟩
    refine r_iret (pc := 13) dX9_meet_13 rfl ⟨Nat.le_of_ble_eq_true rfl, Nat.le_of_ble_eq_true rfl⟩ <| ?_
    rw [if_pos (by omega)] at hQ; exact hQ _ g1 g2
theorem sp_mdoor {d : Int} (hd : inI d) (h1 : 0 ≤ d ∧ d ≤ 5 → Q (some (vI 1)) n h) (h0 : ¬ (0 ≤ d ∧ d ≤ 5) → Q (some (vI 0)) n h) : Cl G mX9_isDoor [vI d] n h Q := by
  refine cl_of (by decide) (Nat.le_of_ble_eq_true rfl) rfl ?_
  refine r_iload_n (pc := 0) dX9_isDoor_0 rfl <| r_i2l (pc := 1) dX9_isDoor_1 (by omega) <| r_lconst (pc := 2) (v := 0) dX9_isDoor_2 rfl <| r_ldc2 (pc := 3) dX9_isDoor_3 cT_X9_63 <| cSi [_, _, _] (pc := 6) dX9_isDoor_6 k_X9_55 ⟨⟨Nat.le_of_ble_eq_true rfl, Nat.le_of_ble_eq_true rfl⟩, ⟨Nat.le_of_ble_eq_true rfl, Nat.le_of_ble_eq_true rfl⟩, Nat.le_of_ble_eq_true rfl⟩ ⟨rfl, rfl⟩ ?_
  refine sp_in (by omega) (by omega) (by omega) (fun q1 => ?_) (fun q1 => ?_)
  · skip
    refine ⟨_, rfl, ?_⟩
    refine r_zret (pc := 9) dX9_isDoor_9 rfl (by omega) ⟨Nat.le_of_ble_eq_true rfl, Nat.le_of_ble_eq_true rfl⟩ <| ?_
    first | exact h1 q1 | exact h0 q1
  · skip
    refine ⟨_, rfl, ?_⟩
    refine r_zret (pc := 9) dX9_isDoor_9 rfl (by omega) ⟨Nat.le_of_ble_eq_true rfl, Nat.le_of_ble_eq_true rfl⟩ <| ?_
    first | exact h1 q1 | exact h0 q1
def fWaits (s : SS) (d p : Int) : Int × SS := if (0 ≤ d ∧ d ≤ 5) ∧ (p = -1 ∨ (0 ≤ p ∧ p < s.bk 0)) then (s.bk (172 + d), s.sbk (iu s.bk (172 + d) p)) else (-10, s.bad)
theorem ms_waits {d p : Int} (hM : isM h s) (hI : Inv s.bk) (hd : inI d) (hp : inI p) (hQ : ∀ h', isM h' (fWaits s d p).2 → Fr MR h h' → Q (some (vI (fWaits s d p).1)) n h') : Cl G mX9_waits [vR 45, vI d, vI p] n h Q := by
  obtain ⟨e, it, g45, ge, g9, g46, -⟩ := id hM.raw
  have hM' := g45
  unfold mF at hM'
  have i0 := hI.1.1
  unfold fWaits at hQ
  refine cl_of (by decide) (Nat.le_of_ble_eq_true rfl) rfl ?_
  refine r_iload_n (pc := 0) dX9_waits_0 rfl <| cSi [_] (pc := 1) dX9_waits_1 k_X9_197 ⟨⟨Nat.le_of_ble_eq_true rfl, Nat.le_of_ble_eq_true rfl⟩, ⟨Nat.le_of_ble_eq_true rfl, Nat.le_of_ble_eq_true rfl⟩, Nat.le_of_ble_eq_true rfl⟩ ⟨rfl, rfl⟩ ?_
  refine sp_mdoor hd (fun q1 => ?_) (fun q1 => ?_)
  · skip
    refine ⟨_, rfl, ?_⟩
    refine r_if_eq (pc := 4) 20 dX9_waits_4 (by decide) (by decide) (fun q => absurd q (by decide)) (fun _ => ?_)
    refine r_iload_n (pc := 7) dX9_waits_7 rfl <| r_iconst (pc := 8) dX9_waits_8 <| r_icmp_eq (pc := 9) 28 dX9_waits_9 (by decide) (by omega) (by omega) (fun hc_9 => ?_) (fun hc_9 => ?_)
    · skip
      refine r_aload_n (pc := 28) dX9_waits_28 rfl <| r_getf (pc := 29) dX9_waits_29 fA_X9_7 hM' rfl <| r_sipush (pc := 32) dX9_waits_32 (by decide) <| r_iload_n (pc := 35) dX9_waits_35 rfl <| r_iadd (pc := 36) dX9_waits_36 <| r_iald (pc := 37) dX9_waits_37 g46 (by omega) (by decide) <| r_istoren_3 (pc := 38) dX9_waits_38 rfl <| r_aload_n (pc := 39) dX9_waits_39 rfl <| r_getf (pc := 40) dX9_waits_40 fA_X9_7 hM' rfl <| r_sipush (pc := 43) dX9_waits_43 (by decide) <| r_iload_n (pc := 46) dX9_waits_46 rfl <| r_iadd (pc := 47) dX9_waits_47 <| r_iload_n (pc := 48) dX9_waits_48 rfl <| r_iast (pc := 49) dX9_waits_49 g46 (by omega) (by decide) (fun h_49 g46 hF_49 => ?_)
      replace hM' := hF_49.keep hM' (by omega)
      refine r_iload_n (pc := 50) dX9_waits_50 rfl <| r_iret (pc := 51) dX9_waits_51 rfl ⟨Nat.le_of_ble_eq_true rfl, Nat.le_of_ble_eq_true rfl⟩ <| ?_
      first
        | (rw [if_neg (by omega)] at hQ; exact hQ _ g1 g2)
        | (rw [if_pos (by omega)] at hQ; exact hQ _ (hM.k46 g46 hF_49) (hF_49.wk (fun j => by omega)))
    · skip
      refine r_aload_n (pc := 12) dX9_waits_12 rfl <| r_iload_n (pc := 13) dX9_waits_13 rfl <| cVi [_] (pc := 14) dX9_waits_14 k_X9_59 ⟨⟨Nat.le_of_ble_eq_true rfl, Nat.le_of_ble_eq_true rfl⟩, ⟨Nat.le_of_ble_eq_true rfl, Nat.le_of_ble_eq_true rfl⟩, Nat.le_of_ble_eq_true rfl⟩ ⟨rfl, rfl⟩ hM' ?_
      refine sp_isPerson g45 g46 hI.2.1 hp (fun q2 => ?_) (fun q2 => ?_)
      · skip
        refine ⟨_, rfl, ?_⟩
        refine r_if_ne (pc := 17) 28 dX9_waits_17 (by decide) (by decide) (fun _ => ?_) (fun q => absurd q (by decide))
        refine r_aload_n (pc := 28) dX9_waits_28 rfl <| r_getf (pc := 29) dX9_waits_29 fA_X9_7 hM' rfl <| r_sipush (pc := 32) dX9_waits_32 (by decide) <| r_iload_n (pc := 35) dX9_waits_35 rfl <| r_iadd (pc := 36) dX9_waits_36 <| r_iald (pc := 37) dX9_waits_37 g46 (by omega) (by decide) <| r_istoren_3 (pc := 38) dX9_waits_38 rfl <| r_aload_n (pc := 39) dX9_waits_39 rfl <| r_getf (pc := 40) dX9_waits_40 fA_X9_7 hM' rfl <| r_sipush (pc := 43) dX9_waits_43 (by decide) <| r_iload_n (pc := 46) dX9_waits_46 rfl <| r_iadd (pc := 47) dX9_waits_47 <| r_iload_n (pc := 48) dX9_waits_48 rfl <| r_iast (pc := 49) dX9_waits_49 g46 (by omega) (by decide) (fun h_49 g46 hF_49 => ?_)
        replace hM' := hF_49.keep hM' (by omega)
        refine r_iload_n (pc := 50) dX9_waits_50 rfl <| r_iret (pc := 51) dX9_waits_51 rfl ⟨Nat.le_of_ble_eq_true rfl, Nat.le_of_ble_eq_true rfl⟩ <| ?_
        first
          | (rw [if_neg (by omega)] at hQ; exact hQ _ g1 g2)
          | (rw [if_pos (by omega)] at hQ; exact hQ _ (hM.k46 g46 hF_49) (hF_49.wk (fun j => by omega)))
      · skip
        refine ⟨_, rfl, ?_⟩
        refine r_if_ne (pc := 17) 28 dX9_waits_17 (by decide) (by decide) (fun q => absurd q (by decide)) (fun _ => ?_)
        refine r_aload_n (pc := 20) dX9_waits_20 rfl <| r_iconst (pc := 21) dX9_waits_21 <| r_bipush (pc := 22) dX9_waits_22 (by decide) <| cVi [_, _] (pc := 24) dX9_waits_24 k_X9_51 ⟨⟨Nat.le_of_ble_eq_true rfl, Nat.le_of_ble_eq_true rfl⟩, ⟨Nat.le_of_ble_eq_true rfl, Nat.le_of_ble_eq_true rfl⟩, Nat.le_of_ble_eq_true rfl⟩ ⟨rfl, rfl⟩ hM' ?_
        refine ms_refuse hM 0 (by omega) (fun h1 g1 g2 => ?_)
        refine ⟨_, rfl, ?_⟩
        refine r_iret (pc := 27) dX9_waits_27 rfl ⟨Nat.le_of_ble_eq_true rfl, Nat.le_of_ble_eq_true rfl⟩ <| ?_
        first
          | (rw [if_neg (by omega)] at hQ; exact hQ _ g1 g2)
          | (rw [if_pos (by omega)] at hQ; exact hQ _ (hM.k46 g46 hF_49) (hF_49.wk (fun j => by omega)))
  · skip
    refine ⟨_, rfl, ?_⟩
    refine r_if_eq (pc := 4) 20 dX9_waits_4 (by decide) (by decide) (fun _ => ?_) (fun q => absurd q (by decide))
    refine r_aload_n (pc := 20) dX9_waits_20 rfl <| r_iconst (pc := 21) dX9_waits_21 <| r_bipush (pc := 22) dX9_waits_22 (by decide) <| cVi [_, _] (pc := 24) dX9_waits_24 k_X9_51 ⟨⟨Nat.le_of_ble_eq_true rfl, Nat.le_of_ble_eq_true rfl⟩, ⟨Nat.le_of_ble_eq_true rfl, Nat.le_of_ble_eq_true rfl⟩, Nat.le_of_ble_eq_true rfl⟩ ⟨rfl, rfl⟩ hM' ?_
    refine ms_refuse hM 0 (by omega) (fun h1 g1 g2 => ?_)
    refine ⟨_, rfl, ?_⟩
    refine r_iret (pc := 27) dX9_waits_27 rfl ⟨Nat.le_of_ble_eq_true rfl, Nat.le_of_ble_eq_true rfl⟩ <| ?_
    first
      | (rw [if_neg (by omega)] at hQ; exact hQ _ g1 g2)
      | (rw [if_pos (by omega)] at hQ; exact hQ _ (hM.k46 g46 hF_49) (hF_49.wk (fun j => by omega)))
def fLeg (s : SS) (a b m : Int) : Int × SS := if (0 ≤ a ∧ a ≤ 5) ∧ (0 ≤ b ∧ b ≤ 5) ∧ a ≠ b ∧ (0 ≤ m ∧ m ≤ 99) then (s.bk (180 + 6 * a + b), s.sbk (iu (iu s.bk (180 + 6 * a + b) m) (180 + 6 * b + a) m)) else (-2, s.bad)
theorem ms_leg {a b m : Int} (hM : isM h s) (hI : Inv s.bk) (ha : inI a) (hb : inI b) (hm : inI m) (hQ : ∀ h', isM h' (fLeg s a b m).2 → Fr MR h h' → Q (some (vI (fLeg s a b m).1)) n h') : Cl G mX9_leg [vR 45, vI a, vI b, vI m] n h Q := by
  obtain ⟨e, it, g45, ge, g9, g46, -⟩ := id hM.raw
  have hM' := g45
  unfold mF at hM'
  unfold fLeg at hQ
  refine cl_of (by decide) (Nat.le_of_ble_eq_true rfl) rfl ?_
  refine r_iload_n (pc := 0) dX9_leg_0 rfl <| cSi [_] (pc := 1) dX9_leg_1 k_X9_197 ⟨⟨Nat.le_of_ble_eq_true rfl, Nat.le_of_ble_eq_true rfl⟩, ⟨Nat.le_of_ble_eq_true rfl, Nat.le_of_ble_eq_true rfl⟩, Nat.le_of_ble_eq_true rfl⟩ ⟨rfl, rfl⟩ ?_
  refine sp_mdoor ha (fun q1 => ?_) (fun q1 => ?_)
  · skip
    refine ⟨_, rfl, ?_⟩
    refine r_if_eq (pc := 4) 31 dX9_leg_4 (by decide) (by decide) (fun q => absurd q (by decide)) (fun _ => ?_)
    refine r_iload_n (pc := 7) dX9_leg_7 rfl <| cSi [_] (pc := 8) dX9_leg_8 k_X9_197 ⟨⟨Nat.le_of_ble_eq_true rfl, Nat.le_of_ble_eq_true rfl⟩, ⟨Nat.le_of_ble_eq_true rfl, Nat.le_of_ble_eq_true rfl⟩, Nat.le_of_ble_eq_true rfl⟩ ⟨rfl, rfl⟩ ?_
    refine sp_mdoor hb (fun q2 => ?_) (fun q2 => ?_)
    · skip
      refine ⟨_, rfl, ?_⟩
      refine r_if_eq (pc := 11) 31 dX9_leg_11 (by decide) (by decide) (fun q => absurd q (by decide)) (fun _ => ?_)
      refine r_iload_n (pc := 14) dX9_leg_14 rfl <| r_iload_n (pc := 15) dX9_leg_15 rfl <| r_icmp_eq (pc := 16) 31 dX9_leg_16 (by decide) (by omega) (by omega) (fun hc_16 => ?_) (fun hc_16 => ?_)
      · skip
        refine r_aload_n (pc := 31) dX9_leg_31 rfl <| cVi [] (pc := 32) dX9_leg_32 k_X9_69 ⟨⟨Nat.le_of_ble_eq_true rfl, Nat.le_of_ble_eq_true rfl⟩, ⟨Nat.le_of_ble_eq_true rfl, Nat.le_of_ble_eq_true rfl⟩, Nat.le_of_ble_eq_true rfl⟩ ⟨rfl, rfl⟩ hM' ?_
        refine ms_bad hM (fun h1 g1 g2 => ?_)
        refine ⟨_, rfl, ?_⟩
        refine r_iret (pc := 35) dX9_leg_35 rfl ⟨Nat.le_of_ble_eq_true rfl, Nat.le_of_ble_eq_true rfl⟩ <| ?_
        first
          | (rw [if_neg (by omega)] at hQ; exact hQ _ g1 g2)
          | (rw [if_pos (by omega)] at hQ
             have hF : Fr (fun q => q = 46) h _ := fun j hj => (hF_84 j hj).trans (hF_68 j hj)
             exact hQ _ (hM.k46 g46 hF) (hF.wk (fun j => by omega)))
      · skip
        refine r_iload_n (pc := 19) dX9_leg_19 rfl <| r_i2l (pc := 20) dX9_leg_20 (by omega) <| r_lconst (pc := 21) (v := 0) dX9_leg_21 rfl <| r_ldc2 (pc := 22) dX9_leg_22 cT_X9_65 <| cSi [_, _, _] (pc := 25) dX9_leg_25 k_X9_55 ⟨⟨Nat.le_of_ble_eq_true rfl, Nat.le_of_ble_eq_true rfl⟩, ⟨Nat.le_of_ble_eq_true rfl, Nat.le_of_ble_eq_true rfl⟩, Nat.le_of_ble_eq_true rfl⟩ ⟨rfl, rfl⟩ ?_
        refine sp_in (by omega) (by omega) (by omega) (fun q4 => ?_) (fun q4 => ?_)
        · skip
          refine ⟨_, rfl, ?_⟩
          refine r_if_ne (pc := 28) 36 dX9_leg_28 (by decide) (by decide) (fun _ => ?_) (fun q => absurd q (by decide))
          refine r_aload_n (pc := 36) dX9_leg_36 rfl <| r_getf (pc := 37) dX9_leg_37 fA_X9_7 hM' rfl <| r_sipush (pc := 40) dX9_leg_40 (by decide) <| r_bipush (pc := 43) dX9_leg_43 (by decide) <| r_iload_n (pc := 45) dX9_leg_45 rfl <| r_imul (pc := 46) dX9_leg_46 <| r_iadd (pc := 47) dX9_leg_47 <| r_iload_n (pc := 48) dX9_leg_48 rfl <| r_iadd (pc := 49) dX9_leg_49 <| r_iald (pc := 50) dX9_leg_50 g46 (by omega) (by decide) <| r_istore_4 (pc := 51) dX9_leg_51 rfl <| r_aload_n (pc := 53) dX9_leg_53 rfl <| r_getf (pc := 54) dX9_leg_54 fA_X9_7 hM' rfl <| r_sipush (pc := 57) dX9_leg_57 (by decide) <| r_bipush (pc := 60) dX9_leg_60 (by decide) <| r_iload_n (pc := 62) dX9_leg_62 rfl <| r_imul (pc := 63) dX9_leg_63 <| r_iadd (pc := 64) dX9_leg_64 <| r_iload_n (pc := 65) dX9_leg_65 rfl <| r_iadd (pc := 66) dX9_leg_66 <| r_iload_n (pc := 67) dX9_leg_67 rfl <| r_iast (pc := 68) dX9_leg_68 g46 (by omega) (by decide) (fun h_68 g46 hF_68 => ?_)
          replace hM' := hF_68.keep hM' (by omega)
          refine r_aload_n (pc := 69) dX9_leg_69 rfl <| r_getf (pc := 70) dX9_leg_70 fA_X9_7 hM' rfl <| r_sipush (pc := 73) dX9_leg_73 (by decide) <| r_bipush (pc := 76) dX9_leg_76 (by decide) <| r_iload_n (pc := 78) dX9_leg_78 rfl <| r_imul (pc := 79) dX9_leg_79 <| r_iadd (pc := 80) dX9_leg_80 <| r_iload_n (pc := 81) dX9_leg_81 rfl <| r_iadd (pc := 82) dX9_leg_82 <| r_iload_n (pc := 83) dX9_leg_83 rfl <| r_iast (pc := 84) dX9_leg_84 g46 (by omega) (by decide) (fun h_84 g46 hF_84 => ?_)
          replace hM' := hF_84.keep hM' (by omega)
          refine r_iload (pc := 85) dX9_leg_85 rfl <| r_iret (pc := 87) dX9_leg_87 rfl ⟨Nat.le_of_ble_eq_true rfl, Nat.le_of_ble_eq_true rfl⟩ <| ?_
          first
            | (rw [if_neg (by omega)] at hQ; exact hQ _ g1 g2)
            | (rw [if_pos (by omega)] at hQ
               have hF : Fr (fun q => q = 46) h _ := fun j hj => (hF_84 j hj).trans (hF_68 j hj)
               exact hQ _ (hM.k46 g46 hF) (hF.wk (fun j => by omega)))
        · skip
          refine ⟨_, rfl, ?_⟩
          refine r_if_ne (pc := 28) 36 dX9_leg_28 (by decide) (by decide) (fun q => absurd q (by decide)) (fun _ => ?_)
          refine r_aload_n (pc := 31) dX9_leg_31 rfl <| cVi [] (pc := 32) dX9_leg_32 k_X9_69 ⟨⟨Nat.le_of_ble_eq_true rfl, Nat.le_of_ble_eq_true rfl⟩, ⟨Nat.le_of_ble_eq_true rfl, Nat.le_of_ble_eq_true rfl⟩, Nat.le_of_ble_eq_true rfl⟩ ⟨rfl, rfl⟩ hM' ?_
          refine ms_bad hM (fun h1 g1 g2 => ?_)
          refine ⟨_, rfl, ?_⟩
          refine r_iret (pc := 35) dX9_leg_35 rfl ⟨Nat.le_of_ble_eq_true rfl, Nat.le_of_ble_eq_true rfl⟩ <| ?_
          first
            | (rw [if_neg (by omega)] at hQ; exact hQ _ g1 g2)
            | (rw [if_pos (by omega)] at hQ
               have hF : Fr (fun q => q = 46) h _ := fun j hj => (hF_84 j hj).trans (hF_68 j hj)
               exact hQ _ (hM.k46 g46 hF) (hF.wk (fun j => by omega)))
    · skip
      refine ⟨_, rfl, ?_⟩
      refine r_if_eq (pc := 11) 31 dX9_leg_11 (by decide) (by decide) (fun _ => ?_) (fun q => absurd q (by decide))
      refine r_aload_n (pc := 31) dX9_leg_31 rfl <| cVi [] (pc := 32) dX9_leg_32 k_X9_69 ⟨⟨Nat.le_of_ble_eq_true rfl, Nat.le_of_ble_eq_true rfl⟩, ⟨Nat.le_of_ble_eq_true rfl, Nat.le_of_ble_eq_true rfl⟩, Nat.le_of_ble_eq_true rfl⟩ ⟨rfl, rfl⟩ hM' ?_
      refine ms_bad hM (fun h1 g1 g2 => ?_)
      refine ⟨_, rfl, ?_⟩
      refine r_iret (pc := 35) dX9_leg_35 rfl ⟨Nat.le_of_ble_eq_true rfl, Nat.le_of_ble_eq_true rfl⟩ <| ?_
      first
        | (rw [if_neg (by omega)] at hQ; exact hQ _ g1 g2)
        | (rw [if_pos (by omega)] at hQ
           have hF : Fr (fun q => q = 46) h _ := fun j hj => (hF_84 j hj).trans (hF_68 j hj)
           exact hQ _ (hM.k46 g46 hF) (hF.wk (fun j => by omega)))
  · skip
    refine ⟨_, rfl, ?_⟩
    refine r_if_eq (pc := 4) 31 dX9_leg_4 (by decide) (by decide) (fun _ => ?_) (fun q => absurd q (by decide))
    refine r_aload_n (pc := 31) dX9_leg_31 rfl <| cVi [] (pc := 32) dX9_leg_32 k_X9_69 ⟨⟨Nat.le_of_ble_eq_true rfl, Nat.le_of_ble_eq_true rfl⟩, ⟨Nat.le_of_ble_eq_true rfl, Nat.le_of_ble_eq_true rfl⟩, Nat.le_of_ble_eq_true rfl⟩ ⟨rfl, rfl⟩ hM' ?_
    refine ms_bad hM (fun h1 g1 g2 => ?_)
    refine ⟨_, rfl, ?_⟩
    refine r_iret (pc := 35) dX9_leg_35 rfl ⟨Nat.le_of_ble_eq_true rfl, Nat.le_of_ble_eq_true rfl⟩ <| ?_
    first
      | (rw [if_neg (by omega)] at hQ; exact hQ _ g1 g2)
      | (rw [if_pos (by omega)] at hQ
         have hF : Fr (fun q => q = 46) h _ := fun j hj => (hF_84 j hj).trans (hF_68 j hj)
         exact hQ _ (hM.k46 g46 hF) (hF.wk (fun j => by omega)))
def fTell (s : SS) (a b w : Int) : Int × SS := if ¬ (((0 ≤ a ∧ a < s.bk 0) ∧ (0 ≤ b ∧ b < s.bk 0) ∧ a ≠ b) ∧ (w = a ∨ w = b)) then (-2, s.bad) else if s.bk 3 = 16 then (-4, s.full) else
  (s.bk 3, s.sbk (iu (iu (iu (iu s.bk (216 + 3 * s.bk 3) a) (216 + 3 * s.bk 3 + 1) b) (216 + 3 * s.bk 3 + 2) w) 3 (s.bk 3 + 1)))
def fPart (s : SS) (w : Int) : Int × SS := if w = 0 then (s.up, s) else if w = 1 then (s.dn, s) else (-2, s.bad)
theorem ms_part {w : Int} (hM : isM h s) (hw : inI w) (hQ : ∀ h', isM h' (fPart s w).2 → Fr MR h h' → Q (some (vI (fPart s w).1)) n h') : Cl G mX9_part [vR 45, vI w] n h Q := by
  obtain ⟨e, it, g45, ge, g9, g46, -⟩ := id hM.raw
  have hM' := g45
  unfold mF at hM'
  unfold fPart at hQ
  refine cl_of (by decide) (Nat.le_of_ble_eq_true rfl) rfl ?_
  refine r_iload_n (pc := 0) dX9_part_0 rfl <| r_if_ne (pc := 1) 11 dX9_part_1 (by decide) (by omega) (fun hc_1 => ?_) (fun hc_1 => ?_)
  · skip
    refine r_iload_n (pc := 11) dX9_part_11 rfl <| r_iconst (pc := 12) dX9_part_12 <| r_icmp_ne (pc := 13) 23 dX9_part_13 (by decide) (by omega) (by omega) (fun hc_13 => ?_) (fun hc_13 => ?_)
    · skip
      refine r_aload_n (pc := 23) dX9_part_23 rfl <| cVi [] (pc := 24) dX9_part_24 k_X9_69 ⟨⟨Nat.le_of_ble_eq_true rfl, Nat.le_of_ble_eq_true rfl⟩, ⟨Nat.le_of_ble_eq_true rfl, Nat.le_of_ble_eq_true rfl⟩, Nat.le_of_ble_eq_true rfl⟩ ⟨rfl, rfl⟩ hM' ?_
      refine ms_bad hM (fun h1 g1 g2 => ?_)
      refine ⟨_, rfl, ?_⟩
      refine r_iret (pc := 27) dX9_part_27 rfl ⟨Nat.le_of_ble_eq_true rfl, Nat.le_of_ble_eq_true rfl⟩ <| ?_
      first
        | (rw [if_pos (by omega)] at hQ; exact qI ge.1 (hQ _ hM Fr.rf))
        | (rw [if_neg (by omega), if_pos (by omega)] at hQ; exact qI ge.2 (hQ _ hM Fr.rf))
        | (rw [if_neg (by omega), if_neg (by omega)] at hQ; exact hQ _ g1 g2)
    · skip
      refine r_aload_n (pc := 16) dX9_part_16 rfl <| r_getf (pc := 17) dX9_part_17 fA_X9_47 hM' rfl <| r_goto (pc := 20) 27 dX9_part_20 (by decide) <| r_iret (pc := 27) dX9_part_27 rfl ⟨Nat.le_of_ble_eq_true rfl, Nat.le_of_ble_eq_true rfl⟩ <| ?_
      first
        | (rw [if_pos (by omega)] at hQ; exact qI ge.1 (hQ _ hM Fr.rf))
        | (rw [if_neg (by omega), if_pos (by omega)] at hQ; exact qI ge.2 (hQ _ hM Fr.rf))
        | (rw [if_neg (by omega), if_neg (by omega)] at hQ; exact hQ _ g1 g2)
  · skip
    refine r_aload_n (pc := 4) dX9_part_4 rfl <| r_getf (pc := 5) dX9_part_5 fA_X9_217 hM' rfl <| r_goto (pc := 8) 27 dX9_part_8 (by decide) <| r_iret (pc := 27) dX9_part_27 rfl ⟨Nat.le_of_ble_eq_true rfl, Nat.le_of_ble_eq_true rfl⟩ <| ?_
    first
      | (rw [if_pos (by omega)] at hQ; exact qI ge.1 (hQ _ hM Fr.rf))
      | (rw [if_neg (by omega), if_pos (by omega)] at hQ; exact qI ge.2 (hQ _ hM Fr.rf))
      | (rw [if_neg (by omega), if_neg (by omega)] at hQ; exact hQ _ g1 g2)
def fCount (s : SS) (w : Int) : Int × SS := if 0 ≤ w ∧ w ≤ 3 then (s.bk w, s) else (-2, s.bad)
theorem ms_count {w : Int} (hM : isM h s) (hw : inI w) (hQ : ∀ h', isM h' (fCount s w).2 → Fr MR h h' → Q (some (vI (fCount s w).1)) n h') : Cl G mX9_count [vR 45, vI w] n h Q := by
  obtain ⟨e, it, g45, ge, g9, g46, -⟩ := id hM.raw
  have hM' := g45
  unfold mF at hM'
  unfold fCount at hQ
  refine cl_of (by decide) (Nat.le_of_ble_eq_true rfl) rfl ?_
  refine r_iload_n (pc := 0) dX9_count_0 rfl <| r_i2l (pc := 1) dX9_count_1 (by omega) <| r_lconst (pc := 2) (v := 0) dX9_count_2 rfl <| r_ldc2 (pc := 3) dX9_count_3 cT_X9_149 <| cSi [_, _, _] (pc := 6) dX9_count_6 k_X9_55 ⟨⟨Nat.le_of_ble_eq_true rfl, Nat.le_of_ble_eq_true rfl⟩, ⟨Nat.le_of_ble_eq_true rfl, Nat.le_of_ble_eq_true rfl⟩, Nat.le_of_ble_eq_true rfl⟩ ⟨rfl, rfl⟩ ?_
  refine sp_in (by omega) (by omega) (by omega) (fun q1 => ?_) (fun q1 => ?_)
  · skip
    refine ⟨_, rfl, ?_⟩
    refine r_if_eq (pc := 9) 21 dX9_count_9 (by decide) (by decide) (fun q => absurd q (by decide)) (fun _ => ?_)
    refine r_aload_n (pc := 12) dX9_count_12 rfl <| r_getf (pc := 13) dX9_count_13 fA_X9_7 hM' rfl <| r_iload_n (pc := 16) dX9_count_16 rfl <| r_iald (pc := 17) dX9_count_17 g46 (by omega) (by decide) <| r_goto (pc := 18) 25 dX9_count_18 (by decide) <| r_iret (pc := 25) dX9_count_25 rfl ⟨Nat.le_of_ble_eq_true rfl, Nat.le_of_ble_eq_true rfl⟩ <| ?_
    first
      | (rw [if_pos (by omega)] at hQ; exact hQ _ hM Fr.rf)
      | (rw [if_neg (by omega)] at hQ; exact hQ _ g1 g2)
  · skip
    refine ⟨_, rfl, ?_⟩
    refine r_if_eq (pc := 9) 21 dX9_count_9 (by decide) (by decide) (fun _ => ?_) (fun q => absurd q (by decide))
    refine r_aload_n (pc := 21) dX9_count_21 rfl <| cVi [] (pc := 22) dX9_count_22 k_X9_69 ⟨⟨Nat.le_of_ble_eq_true rfl, Nat.le_of_ble_eq_true rfl⟩, ⟨Nat.le_of_ble_eq_true rfl, Nat.le_of_ble_eq_true rfl⟩, Nat.le_of_ble_eq_true rfl⟩ ⟨rfl, rfl⟩ hM' ?_
    refine ms_bad hM (fun h1 g1 g2 => ?_)
    refine ⟨_, rfl, ?_⟩
    refine r_iret (pc := 25) dX9_count_25 rfl ⟨Nat.le_of_ble_eq_true rfl, Nat.le_of_ble_eq_true rfl⟩ <| ?_
    first
      | (rw [if_pos (by omega)] at hQ; exact hQ _ hM Fr.rf)
      | (rw [if_neg (by omega)] at hQ; exact hQ _ g1 g2)
def fStatus (s : SS) (w : Int) : Int × SS := if w = 0 then (s.c0, s) else if w = 1 then (s.c1, s) else if w = 2 then (s.c2, s) else (-1, s.bad)
theorem ms_status {w : Int} (hM : isM h s) (hw : inI w) (hQ : ∀ h', isM h' (fStatus s w).2 → Fr MR h h' → Q (some (vI (fStatus s w).1)) n h') : Cl G mX9_status [vR 45, vI w] n h Q := by
  obtain ⟨e, it, im, kp, rf, hd, ln, gs, bs, cs, fr, lf, g45, ge, g9, g46, g47, g48, g49, g50, gi, g51, g52, g53, g54, g55, g56, g57, ⟨r0, r1, r2⟩, gr⟩ := id hM
  have hM' := g45
  unfold mF at hM'
  unfold fStatus at hQ
  refine cl_of (by decide) (Nat.le_of_ble_eq_true rfl) rfl ?_
  refine r_iload_n (pc := 0) dX9_status_0 rfl <| r_i2l (pc := 1) dX9_status_1 (by omega) <| r_lconst (pc := 2) (v := 0) dX9_status_2 rfl <| r_ldc2 (pc := 3) dX9_status_3 cT_X9_76 <| cSi [_, _, _] (pc := 6) dX9_status_6 k_X9_55 ⟨⟨Nat.le_of_ble_eq_true rfl, Nat.le_of_ble_eq_true rfl⟩, ⟨Nat.le_of_ble_eq_true rfl, Nat.le_of_ble_eq_true rfl⟩, Nat.le_of_ble_eq_true rfl⟩ ⟨rfl, rfl⟩ ?_
  refine sp_in (by omega) (by omega) (by omega) (fun q1 => ?_) (fun q1 => ?_)
  · skip
    refine ⟨_, rfl, ?_⟩
    refine r_if_eq (pc := 9) 21 dX9_status_9 (by decide) (by decide) (fun q => absurd q (by decide)) (fun _ => ?_)
    refine r_aload_n (pc := 12) dX9_status_12 rfl <| r_getf (pc := 13) dX9_status_13 fA_X9_20 hM' rfl <| r_iload_n (pc := 16) dX9_status_16 rfl <| r_iald (pc := 17) dX9_status_17 g49 (by omega) (by decide) <| r_goto (pc := 18) 27 dX9_status_18 (by decide) <| r_iret (pc := 27) dX9_status_27 rfl ⟨Nat.le_of_ble_eq_true rfl, Nat.le_of_ble_eq_true rfl⟩ <| ?_
    first
      | (rw [if_neg (by omega), if_neg (by omega), if_neg (by omega)] at hQ; exact hQ _ g1 g2)
      | (rcases (show w = 0 ∨ w = 1 ∨ w = 2 by omega) with rfl | rfl | rfl
         · exact qI r0 (hQ _ hM Fr.rf)
         · exact qI r1 (hQ _ hM Fr.rf)
         · exact qI r2 (hQ _ hM Fr.rf))
  · skip
    refine ⟨_, rfl, ?_⟩
    refine r_if_eq (pc := 9) 21 dX9_status_9 (by decide) (by decide) (fun _ => ?_) (fun q => absurd q (by decide))
    refine r_aload_n (pc := 21) dX9_status_21 rfl <| r_iconst (pc := 22) dX9_status_22 <| r_iconst (pc := 23) dX9_status_23 <| cVi [_, _] (pc := 24) dX9_status_24 k_X9_51 ⟨⟨Nat.le_of_ble_eq_true rfl, Nat.le_of_ble_eq_true rfl⟩, ⟨Nat.le_of_ble_eq_true rfl, Nat.le_of_ble_eq_true rfl⟩, Nat.le_of_ble_eq_true rfl⟩ ⟨rfl, rfl⟩ hM' ?_
    refine ms_refuse hM 0 (by omega) (fun h1 g1 g2 => ?_)
    refine ⟨_, rfl, ?_⟩
    refine r_iret (pc := 27) dX9_status_27 rfl ⟨Nat.le_of_ble_eq_true rfl, Nat.le_of_ble_eq_true rfl⟩ <| ?_
    first
      | (rw [if_neg (by omega), if_neg (by omega), if_neg (by omega)] at hQ; exact hQ _ g1 g2)
      | (rcases (show w = 0 ∨ w = 1 ∨ w = 2 by omega) with rfl | rfl | rfl
         · exact qI r0 (hQ _ hM Fr.rf)
         · exact qI r1 (hQ _ hM Fr.rf)
         · exact qI r2 (hQ _ hM Fr.rf))
end MP2


