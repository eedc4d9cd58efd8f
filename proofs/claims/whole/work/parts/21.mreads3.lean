/-! ===== the model: reads, whole ===== -/
section RD2
variable {G : GT} {n : Nat} {h : Hp} {Q : PT} {bk it : Int → Int} {e : Nat → Int} {r : Int × List IT}
theorem a19 (hb : Bd bk (-1) 255) (ht : 0 ≤ bk 1 ∧ bk 1 ≤ 160) : ∀ F, Nx G bk r n Q F := by
  intro F
  induction F with
  | zero => intro h e it its cu p l1 f hf; omega
  | succ F ih =>
    intro h e it its cu p l1 f hfF hM hB hI hp hf hT hm h12 hr hk hpm hQ
    have next : Nx G bk r n Q f := ih.mono (by omega)
    have hM' := hM
    unfold mF at hM'
    have hT' := hT
    obtain ⟨t6, t7, t8, t9, t10⟩ := hT
    obtain ⟨w1, w2, w3, w4, w5⟩ := tkB_in hp
    obtain ⟨m1, m2, m3, m4, m5, m6, m7, m8, m9⟩ := mtok_k w1
    have hkk : itOk (iu (iu (iu it (4 * (its.length : Int)) 1) (4 * (its.length : Int) + 1) 0) (4 * (its.length : Int) + 3) 1) := ((hk.iu0 (by omega)).iu1 (by omega)).iu3 (by omega)
    have hrr : itRel (iu (iu (iu it (4 * (its.length : Int)) 1) (4 * (its.length : Int) + 1) 0) (4 * (its.length : Int) + 3) 1) its := ((hr.iu (by omega)).iu (by omega)).iu (by omega)
    have hcc : (iu (iu (iu it (4 * (its.length : Int)) 1) (4 * (its.length : Int) + 1) 0) (4 * (its.length : Int) + 3) 1) (4 * its.length) = 1 ∧ (iu (iu (iu it (4 * (its.length : Int)) 1) (4 * (its.length : Int) + 1) 0) (4 * (its.length : Int) + 3) 1) (4 * its.length + 1) = 0 ∧ (iu (iu (iu it (4 * (its.length : Int)) 1) (4 * (its.length : Int) + 1) 0) (4 * (its.length : Int) + 3) 1) (4 * its.length + 3) = 1 := by
      refine ⟨?_, ?_, ?_⟩
      · rw [iu_n (by omega), iu_n (by omega), iu_s]
      · rw [iu_n (by omega), iu_s]
      · rw [iu_s]
    refine r_aload_n (pc := 19) dX9_reads_19 rfl <| r_getf (pc := 20) dX9_reads_20 fA_X9_122 hM' rfl <| r_if_eq (pc := 23) 247 dX9_reads_23 (by decide) (by omega) (fun hc_23 => ?_) (fun hc_23 => ?_)
    · skip
      refine r_iconst (pc := 247) dX9_reads_247 <| r_zret (pc := 248) dX9_reads_248 rfl (by omega) ⟨Nat.le_of_ble_eq_true rfl, Nat.le_of_ble_eq_true rfl⟩ <| ?_
      have h15 : (tkB bk p).2.1 = 15 := m1.mp (by rw [← t8]; exact hc_23)
      rw [pm_over h15] at hpm
      subst hpm
      exact hQ h e it 1 hM' ⟨rfl, rfl⟩ t10 hI hk Fr.rf (Or.inl ⟨rfl, rfl, hm.1, hm.2, h12, hr⟩)
    · skip
      refine r_aload_n (pc := 26) dX9_reads_26 rfl <| r_getf (pc := 27) dX9_reads_27 fA_X9_136 hM' rfl <| r_bipush (pc := 30) dX9_reads_30 (by decide) <| r_icmp_eq (pc := 32) 43 dX9_reads_32 (by decide) (by omega) (by omega) (fun hc_32 => ?_) (fun hc_32 => ?_)
      · skip
        refine r_iconst (pc := 43) dX9_reads_43 <| r_zret (pc := 44) dX9_reads_44 rfl (by omega) ⟨Nat.le_of_ble_eq_true rfl, Nat.le_of_ble_eq_true rfl⟩ <| ?_
        refine hQ h e it 0 hM' ⟨rfl, rfl⟩ t10 hI hk Fr.rf (Or.inr ?_)
        have h15 : ¬ (tkB bk p).2.1 = 15 := fun q => hc_23 (by rw [t8]; exact m1.mpr q)
        have hps : pstep 0 (tkB bk p).2.1 (tkB bk p).2.2.1 its cu = none := by
          unfold pstep stepA
          rw [if_pos rfl]
          first
            | (rw [if_pos (by omega)]; done)
            | (have h12k : 12 ≤ (tkB bk p).2.1 := m2.mp (by omega)
               split
               · rfl
               · simp only [show ¬ (tkB bk p).2.1 = 10 by omega, show ¬ (tkB bk p).2.1 = 11 by omega, show ¬ (tkB bk p).2.1 < 10 by omega, if_false, Option.map_none])
        rw [pm_none h15 hps] at hpm
        subst hpm
        exact ⟨by show ¬ (tkB bk p).1 = -1; omega, rfl, t7⟩
      · skip
        refine r_aload_n (pc := 35) dX9_reads_35 rfl <| r_getf (pc := 36) dX9_reads_36 fA_X9_122 hM' rfl <| r_iconst (pc := 39) dX9_reads_39 <| r_icmp_ge (pc := 40) 45 dX9_reads_40 (by decide) (by omega) (by omega) (fun hc_40 => ?_) (fun hc_40 => ?_)
        · skip
          refine r_iconst (pc := 45) dX9_reads_45 <| r_aload_n (pc := 46) dX9_reads_46 rfl <| r_getf (pc := 47) dX9_reads_47 fA_X9_136 hM' rfl <| r_imul (pc := 50) dX9_reads_50 <| r_istoren_1 (pc := 51) dX9_reads_51 rfl <| r_aload_n (pc := 52) dX9_reads_52 rfl <| r_getf (pc := 53) dX9_reads_53 fA_X9_23 hM' rfl <| r_iload_n (pc := 56) dX9_reads_56 rfl <| r_iconst (pc := 57) dX9_reads_57 <| r_iast (pc := 58) dX9_reads_58 hI (by omega) (by decide) (fun h_58 hI hF_58 => ?_)
          replace hM' := hF_58.keep hM' (by omega)
          replace hB := hF_58.keep hB (by omega)
          refine r_aload_n (pc := 59) dX9_reads_59 rfl <| r_getf (pc := 60) dX9_reads_60 fA_X9_23 hM' rfl <| r_iload_n (pc := 63) dX9_reads_63 rfl <| r_iconst (pc := 64) dX9_reads_64 <| r_iadd (pc := 65) dX9_reads_65 <| r_iconst (pc := 66) dX9_reads_66 <| r_iast (pc := 67) dX9_reads_67 hI (by omega) (by decide) (fun h_67 hI hF_67 => ?_)
          replace hM' := hF_67.keep hM' (by omega)
          replace hB := hF_67.keep hB (by omega)
          refine r_aload_n (pc := 68) dX9_reads_68 rfl <| r_getf (pc := 69) dX9_reads_69 fA_X9_23 hM' rfl <| r_iload_n (pc := 72) dX9_reads_72 rfl <| r_iconst (pc := 73) dX9_reads_73 <| r_iadd (pc := 74) dX9_reads_74 <| r_iconst (pc := 75) dX9_reads_75 <| r_iast (pc := 76) dX9_reads_76 hI (by omega) (by decide) (fun h_76 hI hF_76 => ?_)
          replace hM' := hF_76.keep hM' (by omega)
          replace hB := hF_76.keep hB (by omega)
          refine r_aload_n (pc := 77) dX9_reads_77 rfl <| r_getf (pc := 78) dX9_reads_78 fA_X9_122 hM' rfl <| r_iconst (pc := 81) dX9_reads_81 <| r_icmp_ne (pc := 82) 128 dX9_reads_82 (by decide) (by omega) (by omega) (fun hc_82 => ?_) (fun hc_82 => ?_)
          · skip
            have hk10 : ¬ (tkB bk p).2.1 = 10 := fun q => hc_82 (by rw [t8]; exact m3.mpr q)
            rw [hm.1] at hI ⊢
            refine a128 (cu := (1, 0, 0, 1)) hM' hB hI hb ht hp hf hT' ⟨hm.1, by omega⟩ h12 hrr hkk hcc ?_ (hQ.go ⟨rfl, rfl⟩ (fun q hq => (hF_76 q (by omega)).trans ((hF_67 q (by omega)).trans (hF_58 q (by omega))))) next
            rw [← hpm]
            exact pm_same (Or.inr (by show ¬ (tkB bk p).2.1 = 15; omega)) (fun _ => pstep_02 hk10 (by omega))
          · skip
            refine r_aload_n (pc := 85) dX9_reads_85 rfl <| cVv [] (pc := 86) dX9_reads_86 k_X9_142 ⟨⟨Nat.le_of_ble_eq_true rfl, Nat.le_of_ble_eq_true rfl⟩, ⟨Nat.le_of_ble_eq_true rfl, Nat.le_of_ble_eq_true rfl⟩, Nat.le_of_ble_eq_true rfl⟩ ⟨rfl, rfl⟩ hM' ?_
            refine sp_scans hM' hB hb ht (by omega) t10 (fun h2 v g1 g2 g3 g4 => ?_)
            refine ⟨rfl, ?_⟩
            have hk10 : (tkB bk p).2.1 = 10 := m3.mp (by rw [← t8]; exact hc_82)
            have hps : pstep 0 (tkB bk p).2.1 (tkB bk p).2.2.1 its cu = some (1, its, (1, 0, 0, 1)) := by
              unfold pstep; simp [hk10]; omega
            rw [pm_some (by show ¬ (tkB bk p).2.1 = 15; omega) hps] at hpm
            have w5 := w5 (by omega)
            obtain ⟨f', rfl⟩ : ∃ f', f = f' + 1 := ⟨f - 1, by omega⟩
            rw [t6] at g1 g3
            rw [hm.1] at hI ⊢
            exact a89 (cu := (1, 0, 0, 1)) (p := (tkB bk p).2.2.2) (f := f') g3 (g4.keep hB (by omega)) (g4.keep hI (by omega)) hb ht (by omega) (by omega) ⟨rfl, rfl, rfl, g1, g2⟩ ⟨hm.1, by omega⟩ h12 hrr hkk hcc hpm (hQ.go ⟨rfl, rfl⟩ (fun q hq => (g4 q (by omega)).trans ((hF_76 q (by omega)).trans ((hF_67 q (by omega)).trans (hF_58 q (by omega)))))) (next.mono (by omega))
        · skip
          refine r_iconst (pc := 43) dX9_reads_43 <| r_zret (pc := 44) dX9_reads_44 rfl (by omega) ⟨Nat.le_of_ble_eq_true rfl, Nat.le_of_ble_eq_true rfl⟩ <| ?_
          refine hQ h e it 0 hM' ⟨rfl, rfl⟩ t10 hI hk Fr.rf (Or.inr ?_)
          have h15 : ¬ (tkB bk p).2.1 = 15 := fun q => hc_23 (by rw [t8]; exact m1.mpr q)
          have hps : pstep 0 (tkB bk p).2.1 (tkB bk p).2.2.1 its cu = none := by
            unfold pstep stepA
            rw [if_pos rfl]
            first
              | (rw [if_pos (by omega)]; done)
              | (have h12k : 12 ≤ (tkB bk p).2.1 := m2.mp (by omega)
                 split
                 · rfl
                 · simp only [show ¬ (tkB bk p).2.1 = 10 by omega, show ¬ (tkB bk p).2.1 = 11 by omega, show ¬ (tkB bk p).2.1 < 10 by omega, if_false, Option.map_none])
          rw [pm_none h15 hps] at hpm
          subst hpm
          exact ⟨by show ¬ (tkB bk p).1 = -1; omega, rfl, t7⟩
/-- reads(): the text as it stands -/
theorem sp_reads (hM : h 45 = some (aO 9 (mF e))) (hB : h 46 = some (aA 480 bk)) (hI : h 50 = some (aA 40 it)) (hb : Bd bk (-1) 255) (ht : 0 ≤ bk 1 ∧ bk 1 ≤ 160) (h9 : -10000 ≤ e 9 ∧ e 9 ≤ 10000) (hk : itOk it) (hQ : RdQ G bk (parse (txB bk) (bk 1)) n e h Q) : Cl G mX9_reads [vR 45] n h Q := by
  have hM' := hM
  unfold mF at hM'
  refine cl_of (by decide) (Nat.le_of_ble_eq_true rfl) rfl ?_
  refine r_aload_n (pc := 0) dX9_reads_0 rfl <| r_iconst (pc := 1) dX9_reads_1 <| r_putf (pc := 2) dX9_reads_2 fP_X9_89 rfl rfl hM' rfl (fun h_2 hM' hF_2 => ?_)
  simp only [List.set_cons_zero, List.set_cons_succ] at hM'
  replace hB := hF_2.keep hB (by omega)
  replace hI := hF_2.keep hI (by omega)
  refine r_aload_n (pc := 5) dX9_reads_5 rfl <| r_iconst (pc := 6) dX9_reads_6 <| r_putf (pc := 7) dX9_reads_7 fP_X9_136 rfl rfl hM' rfl (fun h_7 hM' hF_7 => ?_)
  simp only [List.set_cons_zero, List.set_cons_succ] at hM'
  replace hB := hF_7.keep hB (by omega)
  replace hI := hF_7.keep hI (by omega)
  refine r_aload_n (pc := 10) dX9_reads_10 rfl <| r_iconst (pc := 11) dX9_reads_11 <| r_putf (pc := 12) dX9_reads_12 fP_X9_139 rfl rfl hM' rfl (fun h_12 hM' hF_12 => ?_)
  simp only [List.set_cons_zero, List.set_cons_succ] at hM'
  replace hB := hF_12.keep hB (by omega)
  replace hI := hF_12.keep hI (by omega)
  refine r_aload_n (pc := 15) dX9_reads_15 rfl <| cVv [] (pc := 16) dX9_reads_16 k_X9_142 ⟨⟨Nat.le_of_ble_eq_true rfl, Nat.le_of_ble_eq_true rfl⟩, ⟨Nat.le_of_ble_eq_true rfl, Nat.le_of_ble_eq_true rfl⟩, Nat.le_of_ble_eq_true rfl⟩ ⟨rfl, rfl⟩ hM' ?_
  refine sp_scans (e := nu (nu (nu e 6 0) 11 0) 12 0) hM' hB hb ht (by show 0 ≤ (0 : Int) ∧ (0 : Int) ≤ bk 1; omega) h9 (fun h2 v g1 g2 g3 g4 => ?_)
  refine ⟨rfl, ?_⟩
  exact a19 hb ht _ h2 _ it [] (1, 0, 0, 1) 0 _ (bk 1).toNat (Nat.lt_succ_self _) g3 (g4.keep hB (by omega)) (g4.keep hI (by omega)) (by omega) (by omega) ⟨rfl, rfl, rfl, g1, g2⟩ ⟨rfl, by simp⟩ rfl (fun j q hq => by simp at hq) hk rfl (hQ.go ⟨rfl, rfl⟩ (fun q hq => (g4 q (by omega)).trans ((hF_12 q (by omega)).trans ((hF_7 q (by omega)).trans (hF_2 q (by omega))))))
end RD2

