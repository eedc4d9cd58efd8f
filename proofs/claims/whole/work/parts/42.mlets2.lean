/-! ===== the model: through, avoid ===== -/
section ML3
variable {G : GT} {n : Nat} {h : Hp} {Q : PT} {s : SS}
theorem lets_end {e : Nat → Int} {b0 bk hd gs : Int → Int} {mn left op k : Int} {l5 l6 : AV} (hop : op = 0 ∨ op = 1) (g45 : h 45 = some (aO 9 (mF e))) (h17 : 1 ≤ e 17 ∧ e 17 ≤ 8) (g46 : h 46 = some (aA 480 bk)) (g51 : h 51 = some (aA 128 hd)) (g53 : h 53 = some (aA 8 gs)) (hh : ∀ j, 0 ≤ j → j < 128 → hd j = b0 (36 + j)) (hb : ∀ j, ¬ (36 ≤ j ∧ j < 164) → bk j = b0 j)
    (hQ : ∀ h', h' 46 = some (aA 480 b0) → h' 53 = some (aA 8 (iu gs (e 17 - 1) left)) → Fr (fun j => j = 46 ∨ j = 53) h h' → Q (some (vI (if op = 0 then -1 else mn))) n h') : At G mX9_lets 122 [vR 45, vI mn, vI left, vI op, vI k, l5, l6] [] (0, 0, n) h Q := by
  have hM' := g45
  unfold mF at hM'
  refine r_aload_n (pc := 122) dX9_lets_122 rfl <| r_getf (pc := 123) dX9_lets_123 fA_X9_32 hM' rfl <| r_aload_n (pc := 126) dX9_lets_126 rfl <| r_getf (pc := 127) dX9_lets_127 fA_X9_178 hM' rfl <| r_iconst (pc := 130) dX9_lets_130 <| r_isub (pc := 131) dX9_lets_131 <| r_iload_n (pc := 132) dX9_lets_132 rfl <| r_iast (pc := 133) dX9_lets_133 g53 (by omega) (by decide) (fun h_133 g53 hF_133 => ?_)
  replace hM' := hF_133.keep hM' (by omega)
  refine r_aload_n (pc := 134) dX9_lets_134 rfl <| cVv [] (pc := 135) dX9_lets_135 k_X9_184 ⟨⟨Nat.le_of_ble_eq_true rfl, Nat.le_of_ble_eq_true rfl⟩, ⟨Nat.le_of_ble_eq_true rfl, Nat.le_of_ble_eq_true rfl⟩, Nat.le_of_ble_eq_true rfl⟩ ⟨rfl, rfl⟩ hM' ?_
  refine sp_undoes (hF_133.keep g45 (by omega)) (hF_133.keep g46 (by omega)) (hF_133.keep g51 (by omega)) hh hb (fun h1 a1 a2 => ?_)
  refine ⟨rfl, ?_⟩
  refine r_iload_n (pc := 138) dX9_lets_138 rfl <| r_if_eq (pc := 139) 146 dX9_lets_139 (by decide) (by omega) (fun hc_139 => ?_) (fun hc_139 => ?_)
  · skip
    refine r_iconst (pc := 146) dX9_lets_146 <| r_iret (pc := 147) dX9_lets_147 rfl ⟨Nat.le_of_ble_eq_true rfl, Nat.le_of_ble_eq_true rfl⟩ <| ?_
    refine qI ?_ (hQ _ a1 (a2.keep g53 (by omega)) (fun j hj => (a2 j (by omega)).trans (hF_133 j (by omega))))
    first
      | rw [if_pos (by omega)]
      | rw [if_neg (by omega)]
  · skip
    refine r_iload_n (pc := 142) dX9_lets_142 rfl <| r_goto (pc := 143) 147 dX9_lets_143 (by decide) <| r_iret (pc := 147) dX9_lets_147 rfl ⟨Nat.le_of_ble_eq_true rfl, Nat.le_of_ble_eq_true rfl⟩ <| ?_
    refine qI ?_ (hQ _ a1 (a2.keep g53 (by omega)) (fun j hj => (a2 j (by omega)).trans (hF_133 j (by omega))))
    first
      | rw [if_pos (by omega)]
      | rw [if_neg (by omega)]
theorem lp_lets {b0 it hd ln : Int → Int} {m mx sk : Int} (hI : Inv b0) (hit : itOk it) (hm : 1 ≤ m ∧ m ≤ 8) (hmx : 0 ≤ mx ∧ mx ≤ 9) (hsk : 0 ≤ sk ∧ sk < 512) (hh : ∀ j, 0 ≤ j → j < 128 → hd j = b0 (36 + j)) :
    ∀ (R : List Int) (k left mm : Int) (g : List Int) (h : Hp) (e : Nat → Int) (bk gs : Int → Int) (l5 l6 : AV), 1 ≤ k → k + R.length = m → (g.length : Int) = k - 1 → h 45 = some (aO 9 (mF e)) → e 17 = m ∧ e 11 = mx ∧ e 12 = sk → h 46 = some (aA 480 bk) → h 50 = some (aA 40 it) → h 51 = some (aA 128 hd) → h 52 = some (aA 8 ln) → h 53 = some (aA 8 gs) →
    arL ln k R → arL gs 0 g → (0 ≤ left ∧ left < 8) → (∀ y ∈ R, 0 ≤ y ∧ y < 8) → R.Nodup → left ∉ R → (∀ y ∈ R, ∀ x, 0 ≤ x → x < 8 → x ≠ y → kpB b0 bk x y) → (∀ j, ¬ (36 ≤ j ∧ j < 164) → bk j = b0 j) → Bd bk (-1) 255 →
    (∀ h' e' gs', h' 45 = some (aO 9 (mF e')) → (∀ j, j ≠ 13 → j ≠ 14 → e' j = e j) → h' 46 = some (aA 480 b0) → h' 53 = some (aA 8 gs') → (∀ q, psL (talkF (nmB b0) it mx sk) R left mm g = some q → arL gs' 0 q.2) → Fr (fun j => j = 45 ∨ j = 46 ∨ j = 53) h h' → Q (some (vI (minL (psL (talkF (nmB b0) it mx sk) R left mm g)))) n h') →
    At G mX9_lets 30 [vR 45, vI (mm + (m - k)), vI left, vI 1, vI k, l5, l6] [] (0, 0, n) h Q := by
  intro R
  induction R with
  | nil =>
    intro k left mm g h e bk gs l5 l6 hk hkm hg g45 he g46 g50 g51 g52 g53 hln hgs hlf hR hnd hlR hkp hout hbd hQ
    have hM' := g45
    unfold mF at hM'
    simp only [List.length_nil] at hkm
    refine r_iload (pc := 30) dX9_lets_30 rfl <| r_aload_n (pc := 32) dX9_lets_32 rfl <| r_getf (pc := 33) dX9_lets_33 fA_X9_178 hM' rfl <| r_icmp_ge (pc := 36) 122 dX9_lets_36 (by decide) (by omega) (by omega) (fun hc_36 => ?_) (fun hc_36 => ?_)
    · skip
      refine lets_end (Or.inr rfl) g45 (by omega) g46 g51 g53 hh hout (fun h1 a1 a2 a3 => ?_)
      rw [if_neg (by decide)]
      refine qI ?_ (hQ h1 e _ (a3.keep g45 (by omega)) (fun j _ _ => rfl) a1 a2 (fun q hq => ?_) (a3.wk (fun j => by omega)))
      · show mm + (m - k) = mm
        omega
      · cases hq
        exact hgs.snoc (by omega)
    · skip
      exfalso; omega
  | cons c R ih =>
    intro k left mm g h e bk gs l5 l6 hk hkm hg g45 he g46 g50 g51 g52 g53 hln hgs hlf hR hnd hlR hkp hout hbd hQ
    obtain ⟨he17, he11, he12⟩ := he
    have hM' := g45
    unfold mF at hM'
    simp only [List.length_cons] at hkm
    obtain ⟨hc0, hln'⟩ := hln.cons
    have hcr := hR c List.mem_cons_self
    have hne : left ≠ c := fun e0 => hlR (by rw [e0]; exact List.mem_cons_self)
    have hT : talkF (nmB bk) it (e 11) (e 12) left c = talkF (nmB b0) it mx sk left c := by
      rw [he11, he12]
      exact talk_kp hit (by omega) (fun j hj => hout j (by omega)) hlf hcr (hkp c List.mem_cons_self left hlf.1 hlf.2 hne)
    have hin : talkF (nmB b0) it mx sk left c = (-1, 9, -1) ∨ _ := TB_in hI hlf hcr hne
    have hb3 : (talkF (nmB b0) it mx sk left c).1 = -1 ∨ (talkF (nmB b0) it mx sk left c).1 = left ∨ (talkF (nmB b0) it mx sk left c).1 = c := by
      rcases hin with e | e
      · rw [e]; exact Or.inl rfl
      · exact Or.inr e.1
    clear hin
    refine r_iload (pc := 30) dX9_lets_30 rfl <| r_aload_n (pc := 32) dX9_lets_32 rfl <| r_getf (pc := 33) dX9_lets_33 fA_X9_178 hM' rfl <| r_icmp_ge (pc := 36) 122 dX9_lets_36 (by decide) (by omega) (by omega) (fun hc_36 => ?_) (fun hc_36 => ?_)
    · skip
      exfalso; omega
    · skip
      refine r_iload_n (pc := 39) dX9_lets_39 rfl <| r_if_eq (pc := 40) 122 dX9_lets_40 (by decide) (by decide) (fun q => absurd q (by decide)) (fun _ => ?_)
      refine r_aload_n (pc := 43) dX9_lets_43 rfl <| r_iload_n (pc := 44) dX9_lets_44 rfl <| r_aload_n (pc := 45) dX9_lets_45 rfl <| r_getf (pc := 46) dX9_lets_46 fA_X9_29 hM' rfl <| r_iload (pc := 49) dX9_lets_49 rfl <| r_iald (pc := 51) dX9_lets_51 g52 (by omega) (by decide) <| ?_
      rw [hc0]
      refine cVi [_, _] (pc := 52) dX9_lets_52 k_X9_171 ⟨⟨Nat.le_of_ble_eq_true rfl, Nat.le_of_ble_eq_true rfl⟩, ⟨Nat.le_of_ble_eq_true rfl, Nat.le_of_ble_eq_true rfl⟩, Nat.le_of_ble_eq_true rfl⟩ ⟨rfl, rfl⟩ hM' ?_
      refine sp_talks g45 g46 g50 hbd hit (by omega) (by omega) hlf hcr (fun h2 k45 hF2 => ?_)
      rw [hT] at k45 ⊢
      clear hM'
      have hM' : h2 45 = some (aO 9 [vR 46, vR 47, vR 48, vR 49, vI (e 4), vI (e 5), vI (e 6), vI (e 7), vI (e 8), vI (e 9), vR 50, vI (e 11), vI (e 12), vI ((talkF (nmB b0) it mx sk left c).2.1), vI ((talkF (nmB b0) it mx sk left c).2.2), vR 51, vR 52, vI (e 17), vR 53, vR 54, vR 55, vR 56, vR 57]) := k45
      refine ⟨_, rfl, ?_⟩
      replace g52 := hF2.keep g52 (by omega)
      have g53' := hF2.keep g53 (by omega)
      refine r_istore_5 (pc := 55) dX9_lets_55 rfl <| r_iload (pc := 57) dX9_lets_57 rfl <| r_iconst (pc := 59) dX9_lets_59 <| r_icmp_eq (pc := 60) 67 dX9_lets_60 (by decide) (by omega) (by omega) (fun hc_60 => ?_) (fun hc_60 => ?_)
      · skip
        have hsh : psL (talkF (nmB b0) it mx sk) (c :: R) left mm g = none := by simp only [psL]; rw [if_pos hc_60]
        rw [hsh] at hQ
        refine r_iconst (pc := 67) dX9_lets_67 <| r_istoren_3 (pc := 68) dX9_lets_68 rfl <| r_iload_n (pc := 69) dX9_lets_69 rfl <| r_if_eq (pc := 70) 116 dX9_lets_70 (by decide) (by decide) (fun _ => ?_) (fun q => absurd q (by decide))
        refine r_iinc_4 (pc := 116) dX9_lets_116 rfl rfl <| r_goto (pc := 119) 30 dX9_lets_119 (by decide) <| r_iload (pc := 30) dX9_lets_30 rfl <| r_aload_n (pc := 32) dX9_lets_32 rfl <| r_getf (pc := 33) dX9_lets_33 fA_X9_178 hM' rfl <| r_icmp_ge (pc := 36) 122 dX9_lets_36 (by decide) (by omega) (by omega) (fun hc_36 => ?_) (fun hc_36 => ?_)
        · skip
          refine lets_end (e := nu (nu e 13 (talkF (nmB b0) it mx sk left c).2.1) 14 (talkF (nmB b0) it mx sk left c).2.2) (Or.inl rfl) k45 (show 1 ≤ e 17 ∧ e 17 ≤ 8 by omega) (hF2.keep g46 (by omega)) (hF2.keep g51 (by omega)) g53' hh hout (fun h1 a1 a2 a3 => ?_)
          rw [if_pos rfl]
          refine hQ h1 _ _ (a3.keep k45 (by omega)) (fun j j1 j2 => by unfold nu; rw [if_neg j2, if_neg j1]) a1 a2 (fun q hq => by cases hq) (fun j hj => (a3 j (by omega)).trans (hF2 j (by omega)))
        · skip
          refine r_iload_n (pc := 39) dX9_lets_39 rfl <| r_if_eq (pc := 40) 122 dX9_lets_40 (by decide) (by decide) (fun _ => ?_) (fun q => absurd q (by decide))
          refine lets_end (e := nu (nu e 13 (talkF (nmB b0) it mx sk left c).2.1) 14 (talkF (nmB b0) it mx sk left c).2.2) (Or.inl rfl) k45 (show 1 ≤ e 17 ∧ e 17 ≤ 8 by omega) (hF2.keep g46 (by omega)) (hF2.keep g51 (by omega)) g53' hh hout (fun h1 a1 a2 a3 => ?_)
          rw [if_pos rfl]
          refine hQ h1 _ _ (a3.keep k45 (by omega)) (fun j j1 j2 => by unfold nu; rw [if_neg j2, if_neg j1]) a1 a2 (fun q hq => by cases hq) (fun j hj => (a3 j (by omega)).trans (hF2 j (by omega)))
      · skip
        refine r_iconst (pc := 63) dX9_lets_63 <| r_goto (pc := 64) 68 dX9_lets_64 (by decide) <| r_istoren_3 (pc := 68) dX9_lets_68 rfl <| r_iload_n (pc := 69) dX9_lets_69 rfl <| r_if_eq (pc := 70) 116 dX9_lets_70 (by decide) (by decide) (fun q => absurd q (by decide)) (fun _ => ?_)
        refine r_iload_n (pc := 73) dX9_lets_73 rfl <| r_aload_n (pc := 74) dX9_lets_74 rfl <| r_getf (pc := 75) dX9_lets_75 fA_X9_161 hM' rfl <| r_iadd (pc := 78) dX9_lets_78 <| r_istoren_1 (pc := 79) dX9_lets_79 rfl <| r_iload_n (pc := 80) dX9_lets_80 rfl <| r_aload_n (pc := 81) dX9_lets_81 rfl <| r_getf (pc := 82) dX9_lets_82 fA_X9_29 hM' rfl <| r_iload (pc := 85) dX9_lets_85 rfl <| r_iald (pc := 87) dX9_lets_87 g52 (by omega) (by decide) <| ?_
        rw [hc0]
        refine r_iadd (pc := 88) dX9_lets_88 <| r_iload (pc := 89) dX9_lets_89 rfl <| r_isub (pc := 91) dX9_lets_91 <| r_istore_6 (pc := 92) dX9_lets_92 rfl <| r_aload_n (pc := 94) dX9_lets_94 rfl <| r_iload (pc := 95) dX9_lets_95 rfl <| r_iload (pc := 97) dX9_lets_97 rfl <| cVv [_, _] (pc := 99) dX9_lets_99 k_X9_174 ⟨⟨Nat.le_of_ble_eq_true rfl, Nat.le_of_ble_eq_true rfl⟩, ⟨Nat.le_of_ble_eq_true rfl, Nat.le_of_ble_eq_true rfl⟩, Nat.le_of_ble_eq_true rfl⟩ ⟨rfl, rfl⟩ hM' ?_
        refine sp_mwent k45 (hF2.keep g46 (by omega)) hbd (by omega) (by omega) (fun h3 k46 hF3 => ?_)
        refine ⟨rfl, ?_⟩
        replace hM' := hF3.keep hM' (by omega)
        replace g53' := hF3.keep g53' (by omega)
        replace g52 := hF3.keep g52 (by omega)
        refine r_aload_n (pc := 102) dX9_lets_102 rfl <| r_getf (pc := 103) dX9_lets_103 fA_X9_32 hM' rfl <| r_iload (pc := 106) dX9_lets_106 rfl <| r_iconst (pc := 108) dX9_lets_108 <| r_isub (pc := 109) dX9_lets_109 <| r_iload (pc := 110) dX9_lets_110 rfl <| r_iast (pc := 112) dX9_lets_112 g53' (by omega) (by decide) (fun h_112 g53' hF_112 => ?_)
        replace hM' := hF_112.keep hM' (by omega)
        replace g52 := hF_112.keep g52 (by omega)
        refine r_iload (pc := 113) dX9_lets_113 rfl <| r_istoren_2 (pc := 115) dX9_lets_115 rfl <| r_iinc_4 (pc := 116) dX9_lets_116 rfl rfl <| r_goto (pc := 119) 30 dX9_lets_119 (by decide) <| ?_
        have hps : psL (talkF (nmB b0) it mx sk) (c :: R) left mm g = psL (talkF (nmB b0) it mx sk) R (left + c - (talkF (nmB b0) it mx sk left c).1) (mm + (talkF (nmB b0) it mx sk left c).2.1 + 1) (g ++ [(talkF (nmB b0) it mx sk left c).1]) := by
          simp only [psL]; rw [if_neg hc_60]
        rw [hps] at hQ
        obtain ⟨hcR, hndR⟩ := List.nodup_cons.mp hnd
        have hF : Fr (fun j => j = 45 ∨ j = 46 ∨ j = 53) h h_112 := fun j hj => (hF_112 j (by omega)).trans ((hF3 j (by omega)).trans (hF2 j (by omega)))
        have hlR' : left ∉ R := fun hm => hlR (List.mem_cons_of_mem _ hm)
        have hlen : (g ++ [(talkF (nmB b0) it mx sk left c).1]).length = g.length + 1 := by simp
        have emn : mm + (m - k) + (talkF (nmB b0) it mx sk left c).2.1 = mm + (talkF (nmB b0) it mx sk left c).2.1 + 1 + (m - (k + 1)) := by omega
        rw [emn]
        refine ih (k + 1) _ _ _ h_112 _ _ _ _ _ (by omega) (by omega) (by rw [hlen]; omega) (hF_112.keep (hF3.keep k45 (by omega)) (by omega)) ⟨he17, he11, he12⟩ (hF_112.keep k46 (by omega)) (hF.keep g50 (by omega)) (hF.keep g51 (by omega)) g52 g53' hln' (hgs.snoc (by omega)) (by omega) (fun y hy => hR y (List.mem_cons_of_mem _ hy)) hndR ?_ ?_ ?_ (wentB_bd hbd (by omega)) ?_
        · rcases hb3 with e1 | e1 | e1
          · exact absurd e1 hc_60
          · rw [e1, show left + c - left = c by omega]; exact hcR
          · rw [e1, show left + c - c = left by omega]; exact hlR'
        · intro y hy x x0 x8 hxy
          have hyr := hR y (List.mem_cons_of_mem _ hy)
          have hyc : y ≠ c := fun e0 => hcR (e0 ▸ hy)
          have hyl : y ≠ left := fun e0 => hlR' (e0 ▸ hy)
          exact (hkp y (List.mem_cons_of_mem _ hy) x x0 x8 hxy).tr (wentB_kp (by omega) (by omega) ⟨x0, x8⟩ hyr hxy (by omega))
        · intro j hj
          rw [wentB_out (by omega) (by omega) hj, hout j hj]
        · intro h' e' gs' a1 a2 a3 a4 a5 a6
          refine hQ h' e' gs' a1 (fun j j1 j2 => ?_) a3 a4 a5 (fun j hj => (a6 j hj).trans (hF j hj))
          rw [a2 j j1 j2]
          unfold nu; rw [if_neg j2, if_neg j1]
theorem sp_lets {b0 it hd ln gs : Int → Int} {L : List Int} {e : Nat → Int} (hI : Inv b0) (hit : itOk it) (hmx : 0 ≤ e 11 ∧ e 11 ≤ 9) (hsk : 0 ≤ e 12 ∧ e 12 < 512) (g45 : h 45 = some (aO 9 (mF e))) (g46 : h 46 = some (aA 480 b0)) (g50 : h 50 = some (aA 40 it)) (g51 : h 51 = some (aA 128 hd)) (g52 : h 52 = some (aA 8 ln)) (g53 : h 53 = some (aA 8 gs))
    (h17 : e 17 = L.length) (hlen : L.length ≤ 8) (hln : arL ln 0 L) (hL : ∀ y ∈ L, 0 ≤ y ∧ y < 8) (hnd : L.Nodup)
    (hQ : ∀ h' e' hd' gs', h' 45 = some (aO 9 (mF e')) → (∀ j, j ≠ 13 → j ≠ 14 → e' j = e j) → h' 46 = some (aA 480 b0) → h' 51 = some (aA 128 hd') → h' 53 = some (aA 8 gs') → (∀ q, passL (talkF (nmB b0) it (e 11) (e 12)) L = some q → arL gs' 0 q.2) → Fr (fun j => j = 45 ∨ j = 46 ∨ j = 51 ∨ j = 53) h h' → Q (some (vI (minL (passL (talkF (nmB b0) it (e 11) (e 12)) L)))) n h') : Cl G mX9_lets [vR 45] n h Q := by
  have hM' := g45
  unfold mF at hM'
  refine cl_of (by decide) (Nat.le_of_ble_eq_true rfl) rfl ?_
  cases L with
  | nil =>
    simp only [List.length_nil] at h17
    refine r_aload_n (pc := 0) dX9_lets_0 rfl <| r_getf (pc := 1) dX9_lets_1 fA_X9_178 hM' rfl <| r_if_ne (pc := 4) 9 dX9_lets_4 (by decide) (by omega) (fun hc_4 => ?_) (fun hc_4 => ?_)
    · skip
      exfalso; omega
    · skip
      refine r_iconst (pc := 7) dX9_lets_7 <| r_iret (pc := 8) dX9_lets_8 rfl ⟨Nat.le_of_ble_eq_true rfl, Nat.le_of_ble_eq_true rfl⟩ <| ?_
      exact hQ h e hd gs g45 (fun j _ _ => rfl) g46 g51 g53 (fun q hq => by cases hq; exact fun i v hv => by cases hv) Fr.rf
  | cons p L =>
    simp only [List.length_cons] at h17 hlen
    obtain ⟨hp0, hln'⟩ := hln.cons
    rw [Int.zero_add] at hln'
    obtain ⟨hpL, hndL⟩ := List.nodup_cons.mp hnd
    refine r_aload_n (pc := 0) dX9_lets_0 rfl <| r_getf (pc := 1) dX9_lets_1 fA_X9_178 hM' rfl <| r_if_ne (pc := 4) 9 dX9_lets_4 (by decide) (by omega) (fun hc_4 => ?_) (fun hc_4 => ?_)
    · skip
      refine r_aload_n (pc := 9) dX9_lets_9 rfl <| cVv [] (pc := 10) dX9_lets_10 k_X9_181 ⟨⟨Nat.le_of_ble_eq_true rfl, Nat.le_of_ble_eq_true rfl⟩, ⟨Nat.le_of_ble_eq_true rfl, Nat.le_of_ble_eq_true rfl⟩, Nat.le_of_ble_eq_true rfl⟩ ⟨rfl, rfl⟩ hM' ?_
      refine sp_holds g45 g46 g51 (fun h1 hd' k51 kh hF => ?_)
      refine ⟨rfl, ?_⟩
      replace hM' := hF.keep hM' (by omega)
      replace g52 := hF.keep g52 (by omega)
      refine r_aload_n (pc := 13) dX9_lets_13 rfl <| r_getf (pc := 14) dX9_lets_14 fA_X9_178 hM' rfl <| r_istoren_1 (pc := 17) dX9_lets_17 rfl <| r_aload_n (pc := 18) dX9_lets_18 rfl <| r_getf (pc := 19) dX9_lets_19 fA_X9_29 hM' rfl <| r_iconst (pc := 22) dX9_lets_22 <| r_iald (pc := 23) dX9_lets_23 g52 (by omega) (by decide) <| ?_
      rw [hp0]
      refine r_istoren_2 (pc := 24) dX9_lets_24 rfl <| r_iconst (pc := 25) dX9_lets_25 <| r_istoren_3 (pc := 26) dX9_lets_26 rfl <| r_iconst (pc := 27) dX9_lets_27 <| r_istore_4 (pc := 28) dX9_lets_28 rfl <| ?_
      have emn : e 17 = 1 + (e 17 - 1) := by omega
      rw [emn]
      refine lp_lets hI hit (by omega) hmx hsk kh L 1 p 1 [] h1 e b0 gs _ _ (by omega) (by omega) (by simp) (hF.keep g45 (by omega)) ⟨rfl, rfl, rfl⟩ (hF.keep g46 (by omega)) (hF.keep g50 (by omega)) k51 g52 (hF.keep g53 (by omega)) hln' (fun i v hv => by cases hv) (hL p List.mem_cons_self) (fun y hy => hL y (List.mem_cons_of_mem _ hy)) hndL hpL (fun y _ x _ _ _ => ⟨rfl, rfl, rfl, rfl⟩) (fun j _ => rfl) hI.2.1 ?_
      intro h' e' gs' a1 a2 a3 a4 a5 a6
      exact hQ h' e' hd' gs' a1 a2 a3 (a6.keep k51 (by omega)) a4 a5 (fun j hj => (a6 j (by omega)).trans (hF j (by omega)))
    · skip
      exfalso; omega
abbrev okB (bk : Int → Int) : Prop := (parse (txB bk) (bk 1)).1 = -1
def fThrough (s : SS) (i : Int) : Int × SS := if i < -1 then (-10, s.bad) else if ¬ okB s.bk then (-20, s.no) else match passL (TB s.bk) (qL s.bk (-1)) with
  | none => (-1, s)
  | some q => (if i = -1 then q.1 else if i < s.bk 2 then (q.2[i.toNat]?).getD 0 else -5, s)
theorem TB_fun {bk it : Int → Int} {many sk : Int} (hr : itRel it (itB bk)) (hm : many = (itB bk).length) (hs : sk = 0) : talkF (nmB bk) it many sk = TB bk := by
  funext a b
  rw [hm, hs, talk_mod (bk := bk) hr]; rfl
theorem psL_pos {T : Int → Int → Int × Int × Int} (hT : ∀ x y, 0 ≤ (T x y).2.1) : ∀ (L : List Int) (l m : Int) (g : List Int) (q : Int × List Int), 0 ≤ m → psL T L l m g = some q → 0 ≤ q.1 := by
  intro L
  induction L with
  | nil => intro l m g q hm h; cases h; exact hm
  | cons c L ih =>
    intro l m g q hm h
    simp only [psL] at h
    split at h
    · cases h
    · exact ih _ _ _ _ (by have := hT l c; omega) h
theorem talkF_r {nm : Int → Int → Int → Int → Int} {it : Int → Int} {many sk a b : Int} : 1 ≤ (talkF nm it many sk a b).2.1 ∧ (talkF nm it many sk a b).2.1 ≤ 9 := by
  unfold talkF
  rcases talkG_in (S := roundF nm it many sk a b) 9 1 with h | ⟨k, j, g, h1, h2, -, h3⟩
  · rw [h]; decide
  · rw [h3]; exact ⟨h1, by show k ≤ 9; omega⟩
theorem psL_le {T : Int → Int → Int × Int × Int} (hT : ∀ x y, (T x y).2.1 ≤ 9) : ∀ (L : List Int) (l m : Int) (g : List Int) (q : Int × List Int), psL T L l m g = some q → q.1 ≤ m + 10 * L.length := by
  intro L
  induction L with
  | nil => intro l m g q h; cases h; simp
  | cons c L ih =>
    intro l m g q h
    simp only [psL] at h
    split at h
    · cases h
    · have := ih _ _ _ _ h
      have := hT l c
      simp only [List.length_cons]; omega
theorem passL_in {T : Int → Int → Int × Int × Int} (hT : ∀ x y, 0 ≤ (T x y).2.1 ∧ (T x y).2.1 ≤ 9) {L : List Int} {q : Int × List Int} (hl : L.length ≤ 8) (h : passL T L = some q) : 0 ≤ q.1 ∧ q.1 ≤ 90 := by
  cases L with
  | nil => cases h; decide
  | cons p L =>
    have h1 := psL_pos (fun x y => (hT x y).1) L p 1 [] q (by omega) h
    have h2 := psL_le (fun x y => (hT x y).2) L p 1 [] q h
    simp only [List.length_cons] at hl
    omega
theorem TB_r (bk : Int → Int) (x y : Int) : 0 ≤ (TB bk x y).2.1 ∧ (TB bk x y).2.1 ≤ 9 := by
  have : 1 ≤ (TB bk x y).2.1 ∧ (TB bk x y).2.1 ≤ 9 := talkF_r
  omega
theorem getL {f : Int → Int} {L : List Int} {i : Int} (h : arL f 0 L) (h0 : 0 ≤ i) (h1 : i < L.length) : f i = (L[i.toNat]?).getD 0 := by
  have hi : L[i.toNat]? = some (L[i.toNat]'(by omega)) := List.getElem?_eq_getElem (by omega)
  have := h i.toNat _ hi
  rw [hi]
  rw [show (0 : Int) + (i.toNat : Int) = i by omega] at this
  exact this
end ML3


