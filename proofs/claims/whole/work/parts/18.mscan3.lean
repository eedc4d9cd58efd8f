/-! ===== the model: scans ===== -/
section TK
variable {tx : Int → Int} {nt p : Int}
theorem tok_over (h : ¬ advF pB tx nt p < nt) : tok tx nt p = (advF pB tx nt p, 15, 0, advF pB tx nt p) := by
  unfold tok; simp only [h, not_false_eq_true, if_true]
theorem tok_word (h : advF pB tx nt p < nt) (hl : 97 ≤ tx (advF pB tx nt p) ∧ tx (advF pB tx nt p) ≤ 122) : tok tx nt p = (advF pB tx nt p, kindW (seg tx (advF pB tx nt p) (advF pL tx nt (advF pB tx nt p) - advF pB tx nt p).toNat), 0, advF pL tx nt (advF pB tx nt p)) := by
  unfold tok; simp only [h, not_true_eq_false, if_false, pL, hl, and_self, decide_true, if_true]
theorem tok_num (h : advF pB tx nt p < nt) (hl : 48 ≤ tx (advF pB tx nt p) ∧ tx (advF pB tx nt p) ≤ 57) : tok tx nt p = (advF pB tx nt p, if advF pD tx nt (advF pB tx nt p) - advF pB tx nt p ≤ 2 then 12 else 14, if advF pD tx nt (advF pB tx nt p) - advF pB tx nt p = 1 then tx (advF pB tx nt p) - 48 else 10 * (tx (advF pB tx nt p) - 48) + (tx (advF pB tx nt p + 1) - 48), advF pD tx nt (advF pB tx nt p)) := by
  have h2 : pL (tx (advF pB tx nt p)) = false := by simp only [pL, decide_eq_false_iff_not]; omega
  unfold tok; simp only [h, not_true_eq_false, if_false, h2, Bool.false_eq_true, pD, hl, and_self, decide_true, if_true]
theorem tok_else (h : advF pB tx nt p < nt) (hl : ¬ (97 ≤ tx (advF pB tx nt p) ∧ tx (advF pB tx nt p) ≤ 122)) (hd : ¬ (48 ≤ tx (advF pB tx nt p) ∧ tx (advF pB tx nt p) ≤ 57)) : tok tx nt p = (advF pB tx nt p, if tx (advF pB tx nt p) = 59 then 13 else 14, 0, advF pB tx nt p + 1) := by
  unfold tok; simp only [h, not_true_eq_false, if_false, pL, hl, decide_false, Bool.false_eq_true, pD, hd]
end TK
section MS3
variable {G : GT} {n : Nat} {h : Hp} {Q : PT}
theorem sp_isAtP {e : Nat → Int} {bk : Int → Int} {lo hi p : Int} (hM : h 45 = some (aO 9 (mF e))) (hp : e 6 = p) (hB : h 46 = some (aA 480 bk)) (hb : Bd bk (-1) 255) (ht : bk 1 ≤ 160) (ha : 0 ≤ p ∧ p ≤ 160) (hl : 0 ≤ lo ∧ lo ≤ 255) (hh : 0 ≤ hi ∧ hi ≤ 255) (h1 : p < bk 1 ∧ lo ≤ txB bk p ∧ txB bk p ≤ hi → Q (some (vI 1)) n h) (h0 : ¬ (p < bk 1 ∧ lo ≤ txB bk p ∧ txB bk p ≤ hi) → Q (some (vI 0)) n h) : Cl G mX9_isAt [vR 45, vI lo, vI hi] n h Q := by
  subst hp
  exact sp_isAt hM hB hb ht ha hl hh h1 h0
abbrev tkB (bk : Int → Int) (p : Int) : Int × Int × Int × Int := tok (txB bk) (bk 1) p
theorem sp_scans {e : Nat → Int} {bk : Int → Int} (hM : h 45 = some (aO 9 (mF e))) (hB : h 46 = some (aA 480 bk)) (hb : Bd bk (-1) 255) (ht : 0 ≤ bk 1 ∧ bk 1 ≤ 160) (hp : 0 ≤ e 6 ∧ e 6 ≤ bk 1) (h9 : -10000 ≤ e 9 ∧ e 9 ≤ 10000)
    (hQ : ∀ h' v, ((tkB bk (e 6)).2.1 = 12 → v = (tkB bk (e 6)).2.2.1) → -10000 ≤ v ∧ v ≤ 10000 → h' 45 = some (aO 9 (mF (nu (nu (nu (nu e 6 (tkB bk (e 6)).2.2.2) 7 (tkB bk (e 6)).1) 8 (mtok (tkB bk (e 6)).2.1)) 9 v))) → Fr (fun q => q = 45) h h' → Q none n h') : Cl G mX9_scans [vR 45] n h Q := by
  refine cl_of (by decide) (Nat.le_of_ble_eq_true rfl) rfl ?_
  refine lp_s0 hb ht.2 _ (e 6) h e hM rfl hB hp rfl (fun h1 hM1 hF1 => ?_)
  have hs := advF_in (P := pB) (tx := txB bk) hp.2
  obtain ⟨s, hse⟩ : ∃ s, s = advF pB (txB bk) (bk 1) (e 6) := ⟨_, rfl⟩
  rw [← hse] at hs hM1
  have hB := hF1.keep hB (by omega)
  have b1 := hb (264 + s)
  have b2 := hb (264 + (s + 1))
  have hL := advF_in (P := pL) (tx := txB bk) hs.2
  have hD := advF_in (P := pD) (tx := txB bk) hs.2
  have hM' : h1 45 = some (aO 9 [vR 46, vR 47, vR 48, vR 49, vI (e 4), vI (e 5), vI (s), vI (e 7), vI (e 8), vI (e 9), vR 50, vI (e 11), vI (e 12), vI (e 13), vI (e 14), vR 51, vR 52, vI (e 17), vR 53, vR 54, vR 55, vR 56, vR 57]) := hM1
  refine r_aload_n (pc := 24) dX9_scans_24 rfl <| r_aload_n (pc := 25) dX9_scans_25 rfl <| r_getf (pc := 26) dX9_scans_26 fA_X9_89 hM' rfl <| r_putf (pc := 29) dX9_scans_29 fP_X9_119 rfl rfl hM' rfl (fun h_29 hM' hF_29 => ?_)
  simp only [List.set_cons_zero, List.set_cons_succ] at hM'
  replace hB := hF_29.keep hB (by omega)
  refine r_aload_n (pc := 32) dX9_scans_32 rfl <| r_getf (pc := 33) dX9_scans_33 fA_X9_89 hM' rfl <| r_aload_n (pc := 36) dX9_scans_36 rfl <| r_getf (pc := 37) dX9_scans_37 fA_X9_7 hM' rfl <| r_iconst (pc := 40) dX9_scans_40 <| r_iald (pc := 41) dX9_scans_41 hB (by omega) (by decide) <| r_icmp_ne (pc := 42) 51 dX9_scans_42 (by decide) (by omega) (by omega) (fun hc_42 => ?_) (fun hc_42 => ?_)
  · skip
    refine r_aload_n (pc := 51) dX9_scans_51 rfl <| r_bipush (pc := 52) dX9_scans_52 (by decide) <| r_bipush (pc := 54) dX9_scans_54 (by decide) <| cVi [_, _] (pc := 56) dX9_scans_56 k_X9_116 ⟨⟨Nat.le_of_ble_eq_true rfl, Nat.le_of_ble_eq_true rfl⟩, ⟨Nat.le_of_ble_eq_true rfl, Nat.le_of_ble_eq_true rfl⟩, Nat.le_of_ble_eq_true rfl⟩ ⟨rfl, rfl⟩ hM' ?_
    refine sp_isAtP (e := nu (nu e 6 s) 7 s) (p := s) hM' rfl hB hb ht.2 (by omega) (by omega) (by omega) (fun q1 => ?_) (fun q1 => ?_)
    · skip
      refine ⟨_, rfl, ?_⟩
      refine r_if_eq (pc := 59) 160 dX9_scans_59 (by decide) (by decide) (fun q => absurd q (by decide)) (fun _ => ?_)
      refine r_lconst (pc := 62) (v := 0) dX9_scans_62 rfl <| r_lstoren_1 (pc := 63) dX9_scans_63 rfl <| ?_
      have hT := tok_word (tx := txB bk) (nt := bk 1) (p := e 6) (by rw [← hse]; omega) (by rw [← hse]; exact q1.2)
      rw [← hse] at hT
      change tkB bk (e 6) = _ at hT
      refine lp_s64 hb ht.2 _ s s 0 _ (nu (nu e 6 s) 7 s) hM' rfl rfl hB (by omega) rfl (by simp [seg]) (by intro _; simp [seg, enc]) (by omega) (fun h2 v2 g1 g2 g3 g4 g5 => ?_)
      refine lp_s133 (bk := bk) g4 ⟨show 0 ≤ s by omega, show s ≤ _ from hL.1, show _ ≤ (160 : Int) by show advF pL (txB bk) (bk 1) s ≤ 160; omega⟩ g3 (fun h3 g6 g7 => ?_)
      have hk : (if 7 < advF pL (txB bk) (bk 1) s - s then (1 : Int) else mtok (kindV v2)) = mtok (kindW (seg (txB bk) s (advF pL (txB bk) (bk 1) s - s).toNat)) := by
        split
        · rw [kindW_long (by rw [seg_len]; omega)]; rfl
        · rw [g2 (by omega), kindV_enc g1]
      refine hQ h3 (e 9) ?_ h9 ?_ (fun p hp => (g7 p hp).trans ((g5 p hp).trans ((hF_29 p hp).trans (hF1 p hp))))
      · rw [hT]
        intro q
        exfalso
        have : kindW (seg (txB bk) s (advF pL (txB bk) (bk 1) s - s).toNat) = 12 := q
        unfold kindW at this
        split at this <;> omega
      · rw [hT]
        show h3 45 = some (aO 9 (mF (nu (nu (nu (nu e 6 _) 7 s) 8 (mtok (kindW (seg (txB bk) s (advF pL (txB bk) (bk 1) s - s).toNat)))) 9 (e 9))))
        rw [← hk]
        exact g6
    · skip
      refine ⟨_, rfl, ?_⟩
      refine r_if_eq (pc := 59) 160 dX9_scans_59 (by decide) (by decide) (fun _ => ?_) (fun q => absurd q (by decide))
      refine r_aload_n (pc := 160) dX9_scans_160 rfl <| r_bipush (pc := 161) dX9_scans_161 (by decide) <| r_bipush (pc := 163) dX9_scans_163 (by decide) <| cVi [_, _] (pc := 165) dX9_scans_165 k_X9_116 ⟨⟨Nat.le_of_ble_eq_true rfl, Nat.le_of_ble_eq_true rfl⟩, ⟨Nat.le_of_ble_eq_true rfl, Nat.le_of_ble_eq_true rfl⟩, Nat.le_of_ble_eq_true rfl⟩ ⟨rfl, rfl⟩ hM' ?_
      refine sp_isAtP (e := nu (nu e 6 s) 7 s) (p := s) hM' rfl hB hb ht.2 (by omega) (by omega) (by omega) (fun q2 => ?_) (fun q2 => ?_)
      · skip
        refine ⟨_, rfl, ?_⟩
        refine r_if_eq (pc := 168) 271 dX9_scans_168 (by decide) (by decide) (fun q => absurd q (by decide)) (fun _ => ?_)
        refine r_aload_n (pc := 171) dX9_scans_171 rfl <| r_iconst (pc := 172) dX9_scans_172 <| r_putf (pc := 173) dX9_scans_173 fP_X9_133 rfl rfl hM' rfl (fun h_173 hM' hF_173 => ?_)
        simp only [List.set_cons_zero, List.set_cons_succ] at hM'
        replace hB := hF_173.keep hB (by omega)
        have hT := tok_num (tx := txB bk) (nt := bk 1) (p := e 6) (by rw [← hse]; omega) (by rw [← hse]; exact q2.2)
        rw [← hse] at hT
        change tkB bk (e 6) = _ at hT
        have hD1 : s + 1 ≤ advF pD (txB bk) (bk 1) s := by
          rw [advF_go (by omega) (by simp only [pD, decide_eq_true_eq]; exact q2.2)]
          exact (advF_in (by omega)).1
        refine lp_s176 hb ht.2 _ s s _ (nu (nu (nu e 6 s) 7 s) 9 0) hM' rfl rfl hB (by omega) rfl (show (0 : Int) = valD _ s (s - s) by unfold valD; rw [if_pos (by omega)]) (fun h2 g4 g5 => ?_)
        refine lp_s248 (bk := bk) g4 ⟨show 0 ≤ s by omega, show s ≤ _ from hD.1, show _ ≤ (160 : Int) by show advF pD (txB bk) (bk 1) s ≤ 160; omega⟩ (fun h3 g6 g7 => ?_)
        have hk : (if 2 < advF pD (txB bk) (bk 1) s - s then (1 : Int) else 2) = mtok (if advF pD (txB bk) (bk 1) s - s ≤ 2 then 12 else 14) := by
          split
          · rw [if_neg (by omega)]; rfl
          · rw [if_pos (by omega)]; rfl
        refine hQ h3 (valD (txB bk) s (advF pD (txB bk) (bk 1) s - s)) ?_ ?_ ?_ (fun p hp => (g7 p hp).trans ((g5 p hp).trans ((hF_173 p hp).trans ((hF_29 p hp).trans (hF1 p hp)))))
        · rw [hT]
          intro _
          unfold valD
          rw [if_neg (by omega)]
        · unfold valD
          simp only [txB]
          (repeat' split) <;> omega
        · rw [hT]
          show h3 45 = some (aO 9 (mF (nu (nu (nu (nu e 6 _) 7 s) 8 (mtok (if advF pD (txB bk) (bk 1) s - s ≤ 2 then 12 else 14))) 9 _)))
          rw [← hk]
          exact g6
      · skip
        refine ⟨_, rfl, ?_⟩
        refine r_if_eq (pc := 168) 271 dX9_scans_168 (by decide) (by decide) (fun _ => ?_) (fun q => absurd q (by decide))
        refine r_aload_n (pc := 271) dX9_scans_271 rfl <| r_aload_n (pc := 272) dX9_scans_272 rfl <| r_bipush (pc := 273) dX9_scans_273 (by decide) <| r_bipush (pc := 275) dX9_scans_275 (by decide) <| cVi [_, _] (pc := 277) dX9_scans_277 k_X9_116 ⟨⟨Nat.le_of_ble_eq_true rfl, Nat.le_of_ble_eq_true rfl⟩, ⟨Nat.le_of_ble_eq_true rfl, Nat.le_of_ble_eq_true rfl⟩, Nat.le_of_ble_eq_true rfl⟩ ⟨rfl, rfl⟩ hM' ?_
        refine sp_isAtP (e := nu (nu e 6 s) 7 s) (p := s) hM' rfl hB hb ht.2 (by omega) (by omega) (by omega) (fun q3 => ?_) (fun q3 => ?_)
        · skip
          refine ⟨_, rfl, ?_⟩
          refine r_if_eq (pc := 280) 287 dX9_scans_280 (by decide) (by decide) (fun q => absurd q (by decide)) (fun _ => ?_)
          refine r_iconst (pc := 283) dX9_scans_283 <| r_goto (pc := 284) 288 dX9_scans_284 (by decide) <| r_putf (pc := 288) dX9_scans_288 fP_X9_122 rfl rfl hM' rfl (fun h_288 hM' hF_288 => ?_)
          simp only [List.set_cons_zero, List.set_cons_succ] at hM'
          replace hB := hF_288.keep hB (by omega)
          refine r_aload_n (pc := 291) dX9_scans_291 rfl <| r_dup (pc := 292) dX9_scans_292 rfl <| r_getf (pc := 293) dX9_scans_293 fA_X9_89 hM' rfl <| r_iconst (pc := 296) dX9_scans_296 <| r_iadd (pc := 297) dX9_scans_297 <| r_putf (pc := 298) dX9_scans_298 fP_X9_89 rfl rfl hM' rfl (fun h_298 hM' hF_298 => ?_)
          simp only [List.set_cons_zero, List.set_cons_succ] at hM'
          replace hB := hF_298.keep hB (by omega)
          refine r_vret (pc := 301) dX9_scans_301 rfl ⟨Nat.le_of_ble_eq_true rfl, Nat.le_of_ble_eq_true rfl⟩ <| ?_
          have hT := tok_else (tx := txB bk) (nt := bk 1) (p := e 6) (by rw [← hse]; omega) (by rw [← hse]; omega) (by rw [← hse]; omega)
          rw [← hse] at hT
          change tkB bk (e 6) = _ at hT
          refine hQ _ (e 9) ?_ h9 ?_ (fun p hp => (hF_298 p hp).trans ((hF_288 p hp).trans ((hF_29 p hp).trans (hF1 p hp))))
          · rw [hT]
            intro q
            exfalso
            have : (if txB bk s = 59 then (13 : Int) else 14) = 12 := q
            split at this <;> omega
          · rw [hT]
            first
              | rw [if_pos (by omega)]; exact hM'
              | rw [if_neg (by omega)]; exact hM'
        · skip
          refine ⟨_, rfl, ?_⟩
          refine r_if_eq (pc := 280) 287 dX9_scans_280 (by decide) (by decide) (fun _ => ?_) (fun q => absurd q (by decide))
          refine r_iconst (pc := 287) dX9_scans_287 <| r_putf (pc := 288) dX9_scans_288 fP_X9_122 rfl rfl hM' rfl (fun h_288 hM' hF_288 => ?_)
          simp only [List.set_cons_zero, List.set_cons_succ] at hM'
          replace hB := hF_288.keep hB (by omega)
          refine r_aload_n (pc := 291) dX9_scans_291 rfl <| r_dup (pc := 292) dX9_scans_292 rfl <| r_getf (pc := 293) dX9_scans_293 fA_X9_89 hM' rfl <| r_iconst (pc := 296) dX9_scans_296 <| r_iadd (pc := 297) dX9_scans_297 <| r_putf (pc := 298) dX9_scans_298 fP_X9_89 rfl rfl hM' rfl (fun h_298 hM' hF_298 => ?_)
          simp only [List.set_cons_zero, List.set_cons_succ] at hM'
          replace hB := hF_298.keep hB (by omega)
          refine r_vret (pc := 301) dX9_scans_301 rfl ⟨Nat.le_of_ble_eq_true rfl, Nat.le_of_ble_eq_true rfl⟩ <| ?_
          have hT := tok_else (tx := txB bk) (nt := bk 1) (p := e 6) (by rw [← hse]; omega) (by rw [← hse]; omega) (by rw [← hse]; omega)
          rw [← hse] at hT
          change tkB bk (e 6) = _ at hT
          refine hQ _ (e 9) ?_ h9 ?_ (fun p hp => (hF_298 p hp).trans ((hF_288 p hp).trans ((hF_29 p hp).trans (hF1 p hp))))
          · rw [hT]
            intro q
            exfalso
            have : (if txB bk s = 59 then (13 : Int) else 14) = 12 := q
            split at this <;> omega
          · rw [hT]
            first
              | rw [if_pos (by omega)]; exact hM'
              | rw [if_neg (by omega)]; exact hM'
  · skip
    refine r_aload_n (pc := 45) dX9_scans_45 rfl <| r_iconst (pc := 46) dX9_scans_46 <| r_putf (pc := 47) dX9_scans_47 fP_X9_122 rfl rfl hM' rfl (fun h_47 hM' hF_47 => ?_)
    simp only [List.set_cons_zero, List.set_cons_succ] at hM'
    replace hB := hF_47.keep hB (by omega)
    refine r_vret (pc := 50) dX9_scans_50 rfl ⟨Nat.le_of_ble_eq_true rfl, Nat.le_of_ble_eq_true rfl⟩ <| ?_
    have hT := tok_over (tx := txB bk) (nt := bk 1) (p := e 6) (by rw [← hse]; omega)
    rw [← hse] at hT
    change tkB bk (e 6) = _ at hT
    refine hQ _ (e 9) ?_ h9 ?_ (fun p hp => (hF_47 p hp).trans ((hF_29 p hp).trans (hF1 p hp)))
    · rw [hT]; intro q; exact absurd (show (15 : Int) = 12 from q) (by decide)
    · rw [hT]; exact hM'
end MS3

