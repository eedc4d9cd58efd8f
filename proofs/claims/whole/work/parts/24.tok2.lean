/-! ===== the class: reading a token ===== -/
theorem seg_eq {tx : Int → Int} {s : Int} {m : Nat} {l : List Int} : seg tx s m = l ↔ l.length = m ∧ ∀ j : Nat, j < m → tx (s + (j : Int)) = l.getD j 0 := by
  constructor
  · rintro rfl
    refine ⟨seg_len _ _ _, fun j hj => ?_⟩
    simp [seg, List.getD_eq_getElem?_getD, hj]
  · rintro ⟨h1, h2⟩
    apply List.ext_getElem
    · rw [seg_len, h1]
    · intro i hi hi2
      have := h2 i (by omega)
      simp only [seg, List.getElem_map, List.getElem_range]
      rw [this]
      simp [List.getD_eq_getElem?_getD, hi2]
section TKD
variable {G : GT} {n : Nat} {h : Hp} {Q : PT} {t tt : Nat} {tx : Int → Int}
theorem sp_isLetter {x : Int} (hx : -1000 ≤ x ∧ x ≤ 1000) (h1 : 97 ≤ x ∧ x ≤ 122 → Q (some (vI 1)) n h) (h0 : ¬ (97 ≤ x ∧ x ≤ 122) → Q (some (vI 0)) n h) : Cl G mX6_isLetter [vI x] n h Q := by
  refine cl_of (by decide) (Nat.le_of_ble_eq_true rfl) rfl ?_
  refine r_iload_n (pc := 0) dX6_isLetter_0 rfl <| r_bipush (pc := 1) dX6_isLetter_1 (by decide) <| r_icmp_lt (pc := 3) 16 dX6_isLetter_3 (by decide) (by omega) (by omega) (fun hc_3 => ?_) (fun hc_3 => ?_)
  · skip
    refine r_iconst (pc := 16) dX6_isLetter_16 <| r_zret (pc := 17) dX6_isLetter_17 rfl (by omega) ⟨Nat.le_of_ble_eq_true rfl, Nat.le_of_ble_eq_true rfl⟩ <| ?_
    first | exact h1 (by omega) | exact h0 (by omega)
  · skip
    refine r_iload_n (pc := 6) dX6_isLetter_6 rfl <| r_bipush (pc := 7) dX6_isLetter_7 (by decide) <| r_icmp_gt (pc := 9) 16 dX6_isLetter_9 (by decide) (by omega) (by omega) (fun hc_9 => ?_) (fun hc_9 => ?_)
    · skip
      refine r_iconst (pc := 16) dX6_isLetter_16 <| r_zret (pc := 17) dX6_isLetter_17 rfl (by omega) ⟨Nat.le_of_ble_eq_true rfl, Nat.le_of_ble_eq_true rfl⟩ <| ?_
      first | exact h1 (by omega) | exact h0 (by omega)
    · skip
      refine r_iconst (pc := 12) dX6_isLetter_12 <| r_goto (pc := 13) 17 dX6_isLetter_13 (by decide) <| r_zret (pc := 17) dX6_isLetter_17 rfl (by omega) ⟨Nat.le_of_ble_eq_true rfl, Nat.le_of_ble_eq_true rfl⟩ <| ?_
      first | exact h1 (by omega) | exact h0 (by omega)
theorem sp_isFigure {x : Int} (hx : -1000 ≤ x ∧ x ≤ 1000) (h1 : 48 ≤ x ∧ x ≤ 57 → Q (some (vI 1)) n h) (h0 : ¬ (48 ≤ x ∧ x ≤ 57) → Q (some (vI 0)) n h) : Cl G mX6_isFigure [vI x] n h Q := by
  refine cl_of (by decide) (Nat.le_of_ble_eq_true rfl) rfl ?_
  refine r_iload_n (pc := 0) dX6_isFigure_0 rfl <| r_bipush (pc := 1) dX6_isFigure_1 (by decide) <| r_icmp_lt (pc := 3) 16 dX6_isFigure_3 (by decide) (by omega) (by omega) (fun hc_3 => ?_) (fun hc_3 => ?_)
  · skip
    refine r_iconst (pc := 16) dX6_isFigure_16 <| r_zret (pc := 17) dX6_isFigure_17 rfl (by omega) ⟨Nat.le_of_ble_eq_true rfl, Nat.le_of_ble_eq_true rfl⟩ <| ?_
    first | exact h1 (by omega) | exact h0 (by omega)
  · skip
    refine r_iload_n (pc := 6) dX6_isFigure_6 rfl <| r_bipush (pc := 7) dX6_isFigure_7 (by decide) <| r_icmp_gt (pc := 9) 16 dX6_isFigure_9 (by decide) (by omega) (by omega) (fun hc_9 => ?_) (fun hc_9 => ?_)
    · skip
      refine r_iconst (pc := 16) dX6_isFigure_16 <| r_zret (pc := 17) dX6_isFigure_17 rfl (by omega) ⟨Nat.le_of_ble_eq_true rfl, Nat.le_of_ble_eq_true rfl⟩ <| ?_
      first | exact h1 (by omega) | exact h0 (by omega)
    · skip
      refine r_iconst (pc := 12) dX6_isFigure_12 <| r_goto (pc := 13) 17 dX6_isFigure_13 (by decide) <| r_zret (pc := 17) dX6_isFigure_17 rfl (by omega) ⟨Nat.le_of_ble_eq_true rfl, Nat.le_of_ble_eq_true rfl⟩ <| ?_
      first | exact h1 (by omega) | exact h0 (by omega)
theorem lp_spell {w len nx pl va : Int} (hw : 0 ≤ w ∧ w < 12) (hT : h t = some (aO 6 [vR tt, vI len, vI nx, vI pl, vI va])) (hX : h tt = some (aA 160 tx)) (hb : Bd tx 0 255) (hp : 0 ≤ pl ∧ pl ≤ nx ∧ nx ≤ 160) (hlt : ∀ j : Int, pl ≤ j ∧ j < nx → 97 ≤ tx j ∧ tx j ≤ 122) (hs : nx - pl < 8) (he : ltW.getD (w * 8 + (nx - pl)).toNat 0 = 32) (h1 : seg tx pl (nx - pl).toNat = wL.getD w.toNat [] → Q (some (vI 1)) n h) (h0 : ¬ seg tx pl (nx - pl).toNat = wL.getD w.toNat [] → Q (some (vI 0)) n h) :
    ∀ (q : Nat) (i : Int), 0 ≤ i ∧ i ≤ nx - pl → (nx - pl - i).toNat = q → (∀ j : Nat, (j : Int) < i → tx (pl + (j : Int)) = ltW.getD (w.toNat * 8 + j) 0) → At G mX6_spells 38 [vR t, vI w, vI (w * 8), vI (nx - pl), vI i] [] (0, 0, n) h Q := by
  obtain ⟨wl, wf⟩ := lt_wd w.toNat (by omega)
  intro q
  induction q using Nat.strongRecOn with
  | ind q ih =>
    intro i hi hq hj
    have b1 := hb (pl + i)
    have b2 := lt_in (w * 8 + i).toNat
    have ei : (w * 8 + i).toNat = w.toNat * 8 + i.toNat := by omega
    refine r_iload (pc := 38) dX6_spells_38 rfl <| r_iload_n (pc := 40) dX6_spells_40 rfl <| r_icmp_ge (pc := 41) 75 dX6_spells_41 (by decide) (by omega) (by omega) (fun hc_41 => ?_) (fun hc_41 => ?_)
    · skip
      refine r_iconst (pc := 75) dX6_spells_75 <| r_zret (pc := 76) dX6_spells_76 rfl (by omega) ⟨Nat.le_of_ble_eq_true rfl, Nat.le_of_ble_eq_true rfl⟩ <| ?_
      have es : (w * 8 + (nx - pl)).toNat = w.toNat * 8 + (nx - pl).toNat := by omega
      rw [es] at he
      have hge : (wL.getD w.toNat []).length ≤ (nx - pl).toNat := by
        by_cases e : (nx - pl).toNat < (wL.getD w.toNat []).length
        · have := ((wf _ (by omega)).1 e).2
          omega
        · omega
      have hle : (nx - pl).toNat ≤ (wL.getD w.toNat []).length := by
        by_cases e : (wL.getD w.toNat []).length < (nx - pl).toNat
        · exfalso
          have g1 := (wf _ wl).2 (Nat.le_refl _)
          have g2 := hj (wL.getD w.toNat []).length (by omega)
          have g3 := hlt (pl + ((wL.getD w.toNat []).length : Nat)) (by omega)
          omega
        · omega
      refine h1 (seg_eq.mpr ⟨by omega, fun j hj2 => ?_⟩)
      rw [hj j (by omega)]
      exact ((wf j (by omega)).1 (by omega)).1
    · skip
      refine r_getLT (pc := 44) dX6_spells_44 fS_X6_49 <| r_iload_n (pc := 47) dX6_spells_47 rfl <| r_iload (pc := 48) dX6_spells_48 rfl <| r_iadd (pc := 50) dX6_spells_50 <| r_caldO (pc := 51) dX6_spells_51 (by omega) <| r_aload_n (pc := 52) dX6_spells_52 rfl <| r_getf (pc := 53) dX6_spells_53 fA_X6_7 hT rfl <| r_aload_n (pc := 56) dX6_spells_56 rfl <| r_getf (pc := 57) dX6_spells_57 fA_X6_20 hT rfl <| r_iload (pc := 60) dX6_spells_60 rfl <| r_iadd (pc := 62) dX6_spells_62 <| r_iald (pc := 63) dX6_spells_63 hX (by omega) (by decide) <| r_icmp_eq (pc := 64) 69 dX6_spells_64 (by decide) (by omega) (by omega) (fun hc_64 => ?_) (fun hc_64 => ?_)
      · skip
        refine r_iinc_4 (pc := 69) dX6_spells_69 rfl rfl <| r_goto (pc := 72) 38 dX6_spells_72 (by decide) <| ?_
        refine ih _ (by omega) (i + 1) (by omega) rfl (fun j hj2 => ?_)
        by_cases e : (j : Int) = i
        · have ej : j = i.toNat := by omega
          rw [e, ← hc_64, ei, ej]
        · exact hj j (by omega)
      · skip
        refine r_iconst (pc := 67) dX6_spells_67 <| r_zret (pc := 68) dX6_spells_68 rfl (by omega) ⟨Nat.le_of_ble_eq_true rfl, Nat.le_of_ble_eq_true rfl⟩ <| ?_
        refine h0 (fun e => hc_64 ?_)
        obtain ⟨e1, e2⟩ := seg_eq.mp e
        have := e2 i.toNat (by omega)
        rw [ei, ((wf i.toNat (by omega)).1 (by omega)).1, ← this]
        congr 1
        omega
theorem sp_spells {w len nx pl va : Int} (hw : 0 ≤ w ∧ w < 12) (hT : h t = some (aO 6 [vR tt, vI len, vI nx, vI pl, vI va])) (hX : h tt = some (aA 160 tx)) (hb : Bd tx 0 255) (hp : 0 ≤ pl ∧ pl ≤ nx ∧ nx ≤ 160) (hlt : ∀ j : Int, pl ≤ j ∧ j < nx → 97 ≤ tx j ∧ tx j ≤ 122) (h1 : seg tx pl (nx - pl).toNat = wL.getD w.toNat [] → Q (some (vI 1)) n h) (h0 : ¬ seg tx pl (nx - pl).toNat = wL.getD w.toNat [] → Q (some (vI 0)) n h) : Cl G mX6_spells [vR t, vI w] n h Q := by
  obtain ⟨wl, wf⟩ := lt_wd w.toNat (by omega)
  have b2 := lt_in (w * 8 + (nx - pl)).toNat
  have es : (w * 8 + (nx - pl)).toNat = w.toNat * 8 + (nx - pl).toNat := by omega
  have hno : seg tx pl (nx - pl).toNat = wL.getD w.toNat [] → nx - pl < 8 ∧ ltW.getD (w * 8 + (nx - pl)).toNat 0 = 32 := by
    intro e
    obtain ⟨e1, e2⟩ := seg_eq.mp e
    refine ⟨by omega, ?_⟩
    rw [es]
    exact (wf _ (by omega)).2 (by omega)
  refine cl_of (by decide) (Nat.le_of_ble_eq_true rfl) rfl ?_
  refine r_iload_n (pc := 0) dX6_spells_0 rfl <| r_bipush (pc := 1) dX6_spells_1 (by decide) <| r_imul (pc := 3) dX6_spells_3 <| r_istoren_2 (pc := 4) dX6_spells_4 rfl <| r_aload_n (pc := 5) dX6_spells_5 rfl <| r_getf (pc := 6) dX6_spells_6 fA_X6_17 hT rfl <| r_aload_n (pc := 9) dX6_spells_9 rfl <| r_getf (pc := 10) dX6_spells_10 fA_X6_20 hT rfl <| r_isub (pc := 13) dX6_spells_13 <| r_istoren_3 (pc := 14) dX6_spells_14 rfl <| r_iload_n (pc := 15) dX6_spells_15 rfl <| r_bipush (pc := 16) dX6_spells_16 (by decide) <| r_icmp_ge (pc := 18) 33 dX6_spells_18 (by decide) (by omega) (by omega) (fun hc_18 => ?_) (fun hc_18 => ?_)
  · skip
    refine r_iconst (pc := 33) dX6_spells_33 <| r_zret (pc := 34) dX6_spells_34 rfl (by omega) ⟨Nat.le_of_ble_eq_true rfl, Nat.le_of_ble_eq_true rfl⟩ <| ?_
    refine h0 (fun e => ?_)
    have := hno e
    omega
  · skip
    refine r_getLT (pc := 21) dX6_spells_21 fS_X6_49 <| r_iload_n (pc := 24) dX6_spells_24 rfl <| r_iload_n (pc := 25) dX6_spells_25 rfl <| r_iadd (pc := 26) dX6_spells_26 <| r_caldO (pc := 27) dX6_spells_27 (by omega) <| r_bipush (pc := 28) dX6_spells_28 (by decide) <| r_icmp_eq (pc := 30) 35 dX6_spells_30 (by decide) (by omega) (by omega) (fun hc_30 => ?_) (fun hc_30 => ?_)
    · skip
      refine r_iconst (pc := 35) dX6_spells_35 <| r_istore_4 (pc := 36) dX6_spells_36 rfl <| ?_
      exact lp_spell hw hT hX hb hp hlt (by omega) hc_30 h1 h0 _ 0 (by omega) rfl (fun j hj => by omega)
    · skip
      refine r_iconst (pc := 33) dX6_spells_33 <| r_zret (pc := 34) dX6_spells_34 rfl (by omega) ⟨Nat.le_of_ble_eq_true rfl, Nat.le_of_ble_eq_true rfl⟩ <| ?_
      refine h0 (fun e => ?_)
      have := hno e
      omega
/-- the letters of a word -/
theorem lp_rw0 {len pl va : Int} {l1 : AV} (hb : Bd tx 0 255) (hl : 0 ≤ len ∧ len ≤ 160) (hne : t ≠ tt) : ∀ (q : Nat) (p : Int) (h : Hp), h t = some (aO 6 [vR tt, vI len, vI p, vI pl, vI va]) → h tt = some (aA 160 tx) → 0 ≤ p ∧ p ≤ len → (len - p).toNat = q →
    (∀ h', h' t = some (aO 6 [vR tt, vI len, vI (advF pL tx len p), vI pl, vI va]) → Fr (fun q => q = t) h h' → At G mX6_readWord 39 [vR t, l1] [] (0, 0, n) h' Q) → At G mX6_readWord 0 [vR t, l1] [] (0, 0, n) h Q := by
  intro q
  induction q using Nat.strongRecOn with
  | ind q ih =>
    intro p h hT hX hp hq hQ
    have b1 := hb p
    refine r_aload_n (pc := 0) dX6_readWord_0 rfl <| r_getf (pc := 1) dX6_readWord_1 fA_X6_17 hT rfl <| r_aload_n (pc := 4) dX6_readWord_4 rfl <| r_getf (pc := 5) dX6_readWord_5 fA_X6_13 hT rfl <| r_icmp_ge (pc := 8) 39 dX6_readWord_8 (by decide) (by omega) (by omega) (fun hc_8 => ?_) (fun hc_8 => ?_)
    · skip
      rw [advF_end (by simp only [pL, decide_eq_true_eq]; omega)] at hQ
      exact hQ h hT Fr.rf
    · skip
      refine r_aload_n (pc := 11) dX6_readWord_11 rfl <| r_getf (pc := 12) dX6_readWord_12 fA_X6_7 hT rfl <| r_aload_n (pc := 15) dX6_readWord_15 rfl <| r_getf (pc := 16) dX6_readWord_16 fA_X6_17 hT rfl <| r_iald (pc := 19) dX6_readWord_19 hX (by omega) (by decide) <| cSi [_] (pc := 20) dX6_readWord_20 k_X6_32 ⟨⟨Nat.le_of_ble_eq_true rfl, Nat.le_of_ble_eq_true rfl⟩, ⟨Nat.le_of_ble_eq_true rfl, Nat.le_of_ble_eq_true rfl⟩, Nat.le_of_ble_eq_true rfl⟩ ⟨rfl, rfl⟩ ?_
      refine sp_isLetter (by omega) (fun q1 => ?_) (fun q1 => ?_)
      · skip
        refine ⟨_, rfl, ?_⟩
        refine r_if_eq (pc := 23) 39 dX6_readWord_23 (by decide) (by decide) (fun q => absurd q (by decide)) (fun _ => ?_)
        refine r_aload_n (pc := 26) dX6_readWord_26 rfl <| r_dup (pc := 27) dX6_readWord_27 rfl <| r_getf (pc := 28) dX6_readWord_28 fA_X6_17 hT rfl <| r_iconst (pc := 31) dX6_readWord_31 <| r_iadd (pc := 32) dX6_readWord_32 <| r_putf (pc := 33) dX6_readWord_33 fP_X6_17 rfl rfl hT rfl (fun h_33 hT hF_33 => ?_)
        simp only [List.set_cons_zero, List.set_cons_succ] at hT
        replace hX := hF_33.keep hX (by omega)
        refine r_goto (pc := 36) 0 dX6_readWord_36 (by decide) <| ?_
        rw [advF_go (by omega) (by simp only [pL, decide_eq_true_eq]; exact q1)] at hQ
        exact ih _ (by omega) (p + 1) _ hT hX (by omega) rfl (fun h2 h3 h4 => hQ h2 h3 (fun p hp => (h4 p hp).trans (hF_33 p hp)))
      · skip
        refine ⟨_, rfl, ?_⟩
        refine r_if_eq (pc := 23) 39 dX6_readWord_23 (by decide) (by decide) (fun _ => ?_) (fun q => absurd q (by decide))
        rw [advF_end (by simp only [pL, decide_eq_true_eq]; omega)] at hQ
        exact hQ h hT Fr.rf
theorem idxOf_first {α : Type} [BEq α] [LawfulBEq α] {l : List α} {x : α} {k : Nat} {d : α} (hk : k < l.length) (h1 : x = l.getD k d) (h2 : ∀ j, j < k → ¬ x = l.getD j d) : l.idxOf x = k := by
  induction l generalizing k with
  | nil => simp at hk
  | cons a l ih =>
    rw [List.idxOf_cons]
    cases k with
    | zero =>
      have : a = x := by simpa using h1.symm
      simp [this]
    | succ k =>
      have e : (a == x) = false := by
        have := h2 0 (by omega)
        simp only [List.getD_cons_zero] at this
        simpa using fun q : a = x => this q.symm
      rw [e]
      have := ih (k := k) (by simpa using hk) (by simpa using h1) (fun j hj => by simpa using h2 (j + 1) (by omega))
      simp [this]
theorem lp_rw41 {len nx pl va : Int} (hT : h t = some (aO 6 [vR tt, vI len, vI nx, vI pl, vI va])) (hX : h tt = some (aA 160 tx)) (hb : Bd tx 0 255) (hp : 0 ≤ pl ∧ pl ≤ nx ∧ nx ≤ 160) (hlt : ∀ j : Int, pl ≤ j ∧ j < nx → 97 ≤ tx j ∧ tx j ≤ 122) (hQ : Q (some (vI (kindW (seg tx pl (nx - pl).toNat)))) n h) :
    ∀ (q : Nat) (w : Int), 0 ≤ w ∧ w ≤ 12 → (12 - w).toNat = q → (∀ j : Nat, (j : Int) < w → ¬ seg tx pl (nx - pl).toNat = wL.getD j []) → At G mX6_readWord 41 [vR t, vI w] [] (0, 0, n) h Q := by
  intro q
  induction q using Nat.strongRecOn with
  | ind q ih =>
    intro w hw hq hj
    refine r_iload_n (pc := 41) dX6_readWord_41 rfl <| r_bipush (pc := 42) dX6_readWord_42 (by decide) <| r_icmp_ge (pc := 44) 63 dX6_readWord_44 (by decide) (by omega) (by omega) (fun hc_44 => ?_) (fun hc_44 => ?_)
    · skip
      refine r_bipush (pc := 63) dX6_readWord_63 (by decide) <| r_iret (pc := 65) dX6_readWord_65 rfl ⟨Nat.le_of_ble_eq_true rfl, Nat.le_of_ble_eq_true rfl⟩ <| ?_
      refine qI ?_ hQ
      unfold kindW
      rw [if_neg ?_]
      intro hlt
      have hm : wL.getD (wL.idxOf (seg tx pl (nx - pl).toNat)) [] = seg tx pl (nx - pl).toNat := by
        rw [List.getD_eq_getElem?_getD, List.getElem?_eq_getElem (show _ < wL.length from hlt)]
        simp
      exact hj (wL.idxOf (seg tx pl (nx - pl).toNat)) (by omega) hm.symm
    · skip
      refine r_aload_n (pc := 47) dX6_readWord_47 rfl <| r_iload_n (pc := 48) dX6_readWord_48 rfl <| cVi [_] (pc := 49) dX6_readWord_49 k_X6_46 ⟨⟨Nat.le_of_ble_eq_true rfl, Nat.le_of_ble_eq_true rfl⟩, ⟨Nat.le_of_ble_eq_true rfl, Nat.le_of_ble_eq_true rfl⟩, Nat.le_of_ble_eq_true rfl⟩ ⟨rfl, rfl⟩ hT ?_
      refine sp_spells (by omega) hT hX hb hp hlt (fun q1 => ?_) (fun q1 => ?_)
      · skip
        refine ⟨_, rfl, ?_⟩
        refine r_if_eq (pc := 52) 57 dX6_readWord_52 (by decide) (by decide) (fun q => absurd q (by decide)) (fun _ => ?_)
        refine r_iload_n (pc := 55) dX6_readWord_55 rfl <| r_iret (pc := 56) dX6_readWord_56 rfl ⟨Nat.le_of_ble_eq_true rfl, Nat.le_of_ble_eq_true rfl⟩ <| ?_
        refine qI ?_ hQ
        unfold kindW
        rw [idxOf_first (k := w.toNat) (show w.toNat < wL.length by show w.toNat < 12; omega) q1 (fun j hj2 => hj j (by omega)), if_pos (by omega)]
        omega
      · skip
        refine ⟨_, rfl, ?_⟩
        refine r_if_eq (pc := 52) 57 dX6_readWord_52 (by decide) (by decide) (fun _ => ?_) (fun q => absurd q (by decide))
        refine r_iinc_1 (pc := 57) dX6_readWord_57 rfl rfl <| r_goto (pc := 60) 41 dX6_readWord_60 (by decide) <| ?_
        refine ih _ (by omega) (w + 1) (by omega) rfl (fun j hj2 => ?_)
        by_cases e : (j : Int) = w
        · rw [show j = w.toNat by omega]; exact q1
        · exact hj j (by omega)
theorem sp_readWord {len p va : Int} (hT : h t = some (aO 6 [vR tt, vI len, vI p, vI p, vI va])) (hX : h tt = some (aA 160 tx)) (hb : Bd tx 0 255) (hl : 0 ≤ len ∧ len ≤ 160) (hne : t ≠ tt) (hp : 0 ≤ p ∧ p ≤ len) (hQ : ∀ h', h' t = some (aO 6 [vR tt, vI len, vI (advF pL tx len p), vI p, vI va]) → Fr (fun q => q = t) h h' → Q (some (vI (kindW (seg tx p (advF pL tx len p - p).toNat)))) n h') : Cl G mX6_readWord [vR t] n h Q := by
  have hL := advF_in (P := pL) (tx := tx) hp.2
  refine cl_of (by decide) (Nat.le_of_ble_eq_true rfl) rfl ?_
  refine lp_rw0 hb hl hne _ p h hT hX (by omega) rfl (fun h1 hT1 hF1 => ?_)
  have hX1 := hF1.keep hX (by omega)
  refine r_iconst (pc := 39) dX6_readWord_39 <| r_istoren_1 (pc := 40) dX6_readWord_40 rfl <| ?_
  exact lp_rw41 hT1 hX1 hb (by omega) (fun j hj => advL_all hj) (hQ h1 hT1 hF1) _ 0 (by omega) rfl (fun j hj => by omega)
end TKD

