/-! ===== the class: reading a token ===== -/
theorem seg_eq {tx : Int → Int} {s : Int} {m : Nat} {l : List Int} : seg tx s m = l ↔ l.length = m ∧ ∀ j : Nat, j < m → tx (s + (j : Int)) = l.getD j 0 := by
  constructor
  · rintro rfl
    refine ⟨seg_len _ _ _, fun j hj => ?_⟩
    simp [seg, List.getD_eq_getElem?_getD, hj]
  · rintro ⟨h1, h2⟩
    apply List.ext_getElem
    · rw [seg_len, h1]
    · intro i hi hi2
      have := h2 i (by omega)
      simp only [seg, List.getElem_map, List.getElem_range]
      rw [this]
      simp [List.getD_eq_getElem?_getD, hi2]
section TKD
variable {G : GT} {n : Nat} {h : Hp} {Q : PT} {t tt : Nat} {tx : Int → Int}
theorem sp_isLetter {x : Int} (hx : -1000 ≤ x ∧ x ≤ 1000) (h1 : 97 ≤ x ∧ x ≤ 122 → Q (some (vI 1)) n h) (h0 : ¬ (97 ≤ x ∧ x ≤ 122) → Q (some (vI 0)) n h) : Cl G mX6_isLetter [vI x] n h Q := by
  refine cl_of (by decide) (Nat.le_of_ble_eq_true rfl) rfl ?_
  refine r_iload_n (pc := 0) dX6_isLetter_0 rfl <| r_bipush (pc := 1) dX6_isLetter_1 (by decide) <| r_icmp_lt (pc := 3) 16 dX6_isLetter_3 (by decide) (by omega) (by omega) (fun hc_3 => ?_) (fun hc_3 => ?_)
  · skip
    refine r_iconst (pc := 16) dX6_isLetter_16 <| r_zret (pc := 17) dX6_isLetter_17 rfl (by omega) ⟨Nat.le_of_ble_eq_true rfl, Nat.le_of_ble_eq_true rfl⟩ <| ?_
    first | exact h1 (by omega) | exact h0 (by omega)
  · skip
    refine r_iload_n (pc := 6) dX6_isLetter_6 rfl <| r_bipush (pc := 7) dX6_isLetter_7 (by decide) <| r_icmp_gt (pc := 9) 16 dX6_isLetter_9 (by decide) (by omega) (by omega) (fun hc_9 => ?_) (fun hc_9 => ?_)
    · skip
      refine r_iconst (pc := 16) dX6_isLetter_16 <| r_zret (pc := 17) dX6_isLetter_17 rfl (by omega) ⟨Nat.le_of_ble_eq_true rfl, Nat.le_of_ble_eq_true rfl⟩ <| ?_
      first | exact h1 (by omega) | exact h0 (by omega)
    · skip
      refine r_iconst (pc := 12) dX6_isLetter_12 <| r_goto (pc := 13) 17 dX6_isLetter_13 (by decide) <| r_zret (pc := 17) dX6_isLetter_17 rfl (by omega) ⟨Nat.le_of_ble_eq_true rfl, Nat.le_of_ble_eq_true rfl⟩ <| ?_
      first | exact h1 (by omega) | exact h0 (by omega)
theorem sp_isFigure {x : Int} (hx : -1000 ≤ x ∧ x ≤ 1000) (h1 : 48 ≤ x ∧ x ≤ 57 → Q (some (vI 1)) n h) (h0 : ¬ (48 ≤ x ∧ x ≤ 57) → Q (some (vI 0)) n h) : Cl G mX6_isFigure [vI x] n h Q := by
  refine cl_of (by decide) (Nat.le_of_ble_eq_true rfl) rfl ?_
  refine r_iload_n (pc := 0) dX6_isFigure_0 rfl <| r_bipush (pc := 1) dX6_isFigure_1 (by decide) <| r_icmp_lt (pc := 3) 16 dX6_isFigure_3 (by decide) (by omega) (by omega) (fun hc_3 => ?_) (fun hc_3 => ?_)
  · skip
    refine r_iconst (pc := 16) dX6_isFigure_16 <| r_zret (pc := 17) dX6_isFigure_17 rfl (by omega) ⟨Nat.le_of_ble_eq_true rfl, Nat.le_of_ble_eq_true rfl⟩ <| ?_
    first | exact h1 (by omega) | exact h0 (by omega)
  · skip
    refine r_iload_n (pc := 6) dX6_isFigure_6 rfl <| r_bipush (pc := 7) dX6_isFigure_7 (by decide) <| r_icmp_gt (pc := 9) 16 dX6_isFigure_9 (by decide) (by omega) (by omega) (fun hc_9 => ?_) (fun hc_9 => ?_)
    · skip
      refine r_iconst (pc := 16) dX6_isFigure_16 <| r_zret (pc := 17) dX6_isFigure_17 rfl (by omega) ⟨Nat.le_of_ble_eq_true rfl, Nat.le_of_ble_eq_true rfl⟩ <| ?_
      first | exact h1 (by omega) | exact h0 (by omega)
    · skip
      refine r_iconst (pc := 12) dX6_isFigure_12 <| r_goto (pc := 13) 17 dX6_isFigure_13 (by decide) <| r_zret (pc := 17) dX6_isFigure_17 rfl (by omega) ⟨Nat.le_of_ble_eq_true rfl, Nat.le_of_ble_eq_true rfl⟩ <| ?_
      first | exact h1 (by omega) | exact h0 (by omega)
theorem lp_spell {k : Nat} {len nx pl va : Int} (hk : k < 12) (hT : h t = some (aO 6 [vR tt, vI len, vI nx, vI pl, vI va])) (hX : h tt = some (aA 160 tx)) (hb : Bd tx 0 255) (hp : 0 ≤ pl ∧ pl ≤ nx ∧ nx ≤ 160) (hL : nx - pl = (sLen.getD k 0 : Nat)) (h1 : seg tx pl (nx - pl).toNat = wL.getD k [] → Q (some (vI 1)) n h) (h0 : ¬ seg tx pl (nx - pl).toNat = wL.getD k [] → Q (some (vI 0)) n h) :
    ∀ (q : Nat) (i : Int), 0 ≤ i ∧ i ≤ nx - pl → (nx - pl - i).toNat = q → (∀ j : Nat, (j : Int) < i → tx (pl + (j : Int)) = (wL.getD k []).getD j 0) → At G mX6_spells 20 [vR t, vO (2 * k), vI i] [] (0, 0, n) h Q := by
  have bl : sLen.getD k 0 ≤ 8 := by
    have : ∀ k, k < 12 → sLen.getD k 0 ≤ 8 := by decide +kernel
    exact this k hk
  have bw := (sLen_lt k hk).2
  intro q
  induction q using Nat.strongRecOn with
  | ind q ih =>
    intro i hi hq hj
    have b1 := hb (pl + i)
    refine r_iload_n (pc := 20) dX6_spells_20 rfl <| r_aload_nO (pc := 21) dX6_spells_21 rfl <| cOi [] (pc := 22) dX6_spells_22 k_X6_56 ⟨⟨Nat.le_of_ble_eq_true rfl, Nat.le_of_ble_eq_true rfl⟩, ⟨Nat.le_of_ble_eq_true rfl, Nat.le_of_ble_eq_true rfl⟩, Nat.le_of_ble_eq_true rfl⟩ ⟨rfl, rfl⟩ (by omega) ?_
    refine sp_slen hk ?_
    refine ⟨_, rfl, ?_⟩
    refine r_icmp_ge (pc := 25) 55 dX6_spells_25 (by decide) (by omega) (by omega) (fun hc_25 => ?_) (fun hc_25 => ?_)
    · skip
      refine r_iconst (pc := 55) dX6_spells_55 <| r_zret (pc := 56) dX6_spells_56 rfl (by omega) ⟨Nat.le_of_ble_eq_true rfl, Nat.le_of_ble_eq_true rfl⟩ <| ?_
      refine h1 (seg_eq.mpr ⟨by omega, fun j hj2 => hj j (by omega)⟩)
    · skip
      refine r_aload_nO (pc := 28) dX6_spells_28 rfl <| r_iload_n (pc := 29) dX6_spells_29 rfl <| cOi [_] (pc := 30) dX6_spells_30 k_X6_60 ⟨⟨Nat.le_of_ble_eq_true rfl, Nat.le_of_ble_eq_true rfl⟩, ⟨Nat.le_of_ble_eq_true rfl, Nat.le_of_ble_eq_true rfl⟩, Nat.le_of_ble_eq_true rfl⟩ ⟨rfl, rfl⟩ (by omega) ?_
      refine sp_charAt hk (by omega) ?_
      refine ⟨_, rfl, ?_⟩
      have b2 := (sB_eq k hk i.toNat (by omega))
      refine r_aload_n (pc := 33) dX6_spells_33 rfl <| r_getf (pc := 34) dX6_spells_34 fA_X6_9 hT rfl <| r_aload_n (pc := 37) dX6_spells_37 rfl <| r_getf (pc := 38) dX6_spells_38 fA_X6_22 hT rfl <| r_iload_n (pc := 41) dX6_spells_41 rfl <| r_iadd (pc := 42) dX6_spells_42 <| r_iald (pc := 43) dX6_spells_43 hX (by omega) (by decide) <| r_icmp_eq (pc := 44) 49 dX6_spells_44 (by decide) (by omega) (by omega) (fun hc_44 => ?_) (fun hc_44 => ?_)
      · skip
        refine r_iinc_2 (pc := 49) dX6_spells_49 rfl rfl <| r_goto (pc := 52) 20 dX6_spells_52 (by decide) <| ?_
        refine ih _ (by omega) (i + 1) (by omega) rfl (fun j hj2 => ?_)
        by_cases e : (j : Int) = i
        · have ej : j = i.toNat := by omega
          rw [e, ← hc_44, b2.1, ej]
        · exact hj j (by omega)
      · skip
        refine r_iconst (pc := 47) dX6_spells_47 <| r_zret (pc := 48) dX6_spells_48 rfl (by omega) ⟨Nat.le_of_ble_eq_true rfl, Nat.le_of_ble_eq_true rfl⟩ <| ?_
        refine h0 (fun e => hc_44 ?_)
        have := (seg_eq.mp e).2 i.toNat (by omega)
        rw [b2.1, ← this]
        congr 1
        omega
theorem sp_spells {k : Nat} {len nx pl va : Int} (hk : k < 12) (hT : h t = some (aO 6 [vR tt, vI len, vI nx, vI pl, vI va])) (hX : h tt = some (aA 160 tx)) (hb : Bd tx 0 255) (hp : 0 ≤ pl ∧ pl ≤ nx ∧ nx ≤ 160) (h1 : seg tx pl (nx - pl).toNat = wL.getD k [] → Q (some (vI 1)) n h) (h0 : ¬ seg tx pl (nx - pl).toNat = wL.getD k [] → Q (some (vI 0)) n h) : Cl G mX6_spells [vR t, vO (2 * k)] n h Q := by
  have bl := (sLen_lt k hk)
  refine cl_of (by decide) (Nat.le_of_ble_eq_true rfl) rfl ?_
  refine r_aload_nO (pc := 0) dX6_spells_0 rfl <| cOi [] (pc := 1) dX6_spells_1 k_X6_56 ⟨⟨Nat.le_of_ble_eq_true rfl, Nat.le_of_ble_eq_true rfl⟩, ⟨Nat.le_of_ble_eq_true rfl, Nat.le_of_ble_eq_true rfl⟩, Nat.le_of_ble_eq_true rfl⟩ ⟨rfl, rfl⟩ (by omega) ?_
  refine sp_slen hk ?_
  refine ⟨_, rfl, ?_⟩
  refine r_aload_n (pc := 4) dX6_spells_4 rfl <| r_getf (pc := 5) dX6_spells_5 fA_X6_19 hT rfl <| r_aload_n (pc := 8) dX6_spells_8 rfl <| r_getf (pc := 9) dX6_spells_9 fA_X6_22 hT rfl <| r_isub (pc := 12) dX6_spells_12 <| r_icmp_eq (pc := 13) 18 dX6_spells_13 (by decide) (by omega) (by omega) (fun hc_13 => ?_) (fun hc_13 => ?_)
  · skip
    refine r_iconst (pc := 18) dX6_spells_18 <| r_istoren_2 (pc := 19) dX6_spells_19 rfl <| ?_
    exact lp_spell hk hT hX hb hp (by omega) h1 h0 _ 0 (by omega) rfl (fun j hj => by omega)
  · skip
    refine r_iconst (pc := 16) dX6_spells_16 <| r_zret (pc := 17) dX6_spells_17 rfl (by omega) ⟨Nat.le_of_ble_eq_true rfl, Nat.le_of_ble_eq_true rfl⟩ <| ?_
    refine h0 (fun e => ?_)
    have := (seg_eq.mp e).1
    omega
/-- the letters of a word -/
theorem lp_rw0 {len pl va : Int} {l1 : AV} (hb : Bd tx 0 255) (hl : 0 ≤ len ∧ len ≤ 160) (hne : t ≠ tt) : ∀ (q : Nat) (p : Int) (h : Hp), h t = some (aO 6 [vR tt, vI len, vI p, vI pl, vI va]) → h tt = some (aA 160 tx) → 0 ≤ p ∧ p ≤ len → (len - p).toNat = q →
    (∀ h', h' t = some (aO 6 [vR tt, vI len, vI (advF pL tx len p), vI pl, vI va]) → Fr (fun q => q = t) h h' → At G mX6_readWord 39 [vR t, l1] [] (0, 0, n) h' Q) → At G mX6_readWord 0 [vR t, l1] [] (0, 0, n) h Q := by
  intro q
  induction q using Nat.strongRecOn with
  | ind q ih =>
    intro p h hT hX hp hq hQ
    have b1 := hb p
    refine r_aload_n (pc := 0) dX6_readWord_0 rfl <| r_getf (pc := 1) dX6_readWord_1 fA_X6_19 hT rfl <| r_aload_n (pc := 4) dX6_readWord_4 rfl <| r_getf (pc := 5) dX6_readWord_5 fA_X6_15 hT rfl <| r_icmp_ge (pc := 8) 39 dX6_readWord_8 (by decide) (by omega) (by omega) (fun hc_8 => ?_) (fun hc_8 => ?_)
    · skip
      rw [advF_end (by simp only [pL, decide_eq_true_eq]; omega)] at hQ
      exact hQ h hT Fr.rf
    · skip
      refine r_aload_n (pc := 11) dX6_readWord_11 rfl <| r_getf (pc := 12) dX6_readWord_12 fA_X6_9 hT rfl <| r_aload_n (pc := 15) dX6_readWord_15 rfl <| r_getf (pc := 16) dX6_readWord_16 fA_X6_19 hT rfl <| r_iald (pc := 19) dX6_readWord_19 hX (by omega) (by decide) <| cSi [_] (pc := 20) dX6_readWord_20 k_X6_34 ⟨⟨Nat.le_of_ble_eq_true rfl, Nat.le_of_ble_eq_true rfl⟩, ⟨Nat.le_of_ble_eq_true rfl, Nat.le_of_ble_eq_true rfl⟩, Nat.le_of_ble_eq_true rfl⟩ ⟨rfl, rfl⟩ ?_
      refine sp_isLetter (by omega) (fun q1 => ?_) (fun q1 => ?_)
      · skip
        refine ⟨_, rfl, ?_⟩
        refine r_if_eq (pc := 23) 39 dX6_readWord_23 (by decide) (by decide) (fun q => absurd q (by decide)) (fun _ => ?_)
        refine r_aload_n (pc := 26) dX6_readWord_26 rfl <| r_dup (pc := 27) dX6_readWord_27 rfl <| r_getf (pc := 28) dX6_readWord_28 fA_X6_19 hT rfl <| r_iconst (pc := 31) dX6_readWord_31 <| r_iadd (pc := 32) dX6_readWord_32 <| r_putf (pc := 33) dX6_readWord_33 fP_X6_19 rfl rfl hT rfl (fun h_33 hT hF_33 => ?_)
        simp only [List.set_cons_zero, List.set_cons_succ] at hT
        replace hX := hF_33.keep hX (by omega)
        refine r_goto (pc := 36) 0 dX6_readWord_36 (by decide) <| ?_
        rw [advF_go (by omega) (by simp only [pL, decide_eq_true_eq]; exact q1)] at hQ
        exact ih _ (by omega) (p + 1) _ hT hX (by omega) rfl (fun h2 h3 h4 => hQ h2 h3 (fun p hp => (h4 p hp).trans (hF_33 p hp)))
      · skip
        refine ⟨_, rfl, ?_⟩
        refine r_if_eq (pc := 23) 39 dX6_readWord_23 (by decide) (by decide) (fun _ => ?_) (fun q => absurd q (by decide))
        rw [advF_end (by simp only [pL, decide_eq_true_eq]; omega)] at hQ
        exact hQ h hT Fr.rf
theorem idxOf_first {α : Type} [BEq α] [LawfulBEq α] {l : List α} {x : α} {k : Nat} {d : α} (hk : k < l.length) (h1 : x = l.getD k d) (h2 : ∀ j, j < k → ¬ x = l.getD j d) : l.idxOf x = k := by
  induction l generalizing k with
  | nil => simp at hk
  | cons a l ih =>
    rw [List.idxOf_cons]
    cases k with
    | zero =>
      have : a = x := by simpa using h1.symm
      simp [this]
    | succ k =>
      have e : (a == x) = false := by
        have := h2 0 (by omega)
        simp only [List.getD_cons_zero] at this
        simpa using fun q : a = x => this q.symm
      rw [e]
      have := ih (k := k) (by simpa using hk) (by simpa using h1) (fun j hj => by simpa using h2 (j + 1) (by omega))
      simp [this]
theorem lp_rw41 {len nx pl va : Int} (hT : h t = some (aO 6 [vR tt, vI len, vI nx, vI pl, vI va])) (hX : h tt = some (aA 160 tx)) (hb : Bd tx 0 255) (hp : 0 ≤ pl ∧ pl ≤ nx ∧ nx ≤ 160) (hQ : Q (some (vI (kindW (seg tx pl (nx - pl).toNat)))) n h) :
    ∀ (q : Nat) (w : Int), 0 ≤ w ∧ w ≤ 12 → (12 - w).toNat = q → (∀ j : Nat, (j : Int) < w → ¬ seg tx pl (nx - pl).toNat = wL.getD j []) → At G mX6_readWord 41 [vR t, vI w] [] (0, 0, n) h Q := by
  intro q
  induction q using Nat.strongRecOn with
  | ind q ih =>
    intro w hw hq hj
    refine r_iload_n (pc := 41) dX6_readWord_41 rfl <| r_bipush (pc := 42) dX6_readWord_42 (by decide) <| r_icmp_ge (pc := 44) 66 dX6_readWord_44 (by decide) (by omega) (by omega) (fun hc_44 => ?_) (fun hc_44 => ?_)
    · skip
      refine r_bipush (pc := 66) dX6_readWord_66 (by decide) <| r_iret (pc := 68) dX6_readWord_68 rfl ⟨Nat.le_of_ble_eq_true rfl, Nat.le_of_ble_eq_true rfl⟩ <| ?_
      refine qI ?_ hQ
      unfold kindW
      rw [if_neg ?_]
      intro hlt
      have hm : wL.getD (wL.idxOf (seg tx pl (nx - pl).toNat)) [] = seg tx pl (nx - pl).toNat := by
        rw [List.getD_eq_getElem?_getD, List.getElem?_eq_getElem (show _ < wL.length from hlt)]
        simp
      exact hj (wL.idxOf (seg tx pl (nx - pl).toNat)) (by omega) hm.symm
    · skip
      refine r_aload_n (pc := 47) dX6_readWord_47 rfl <| r_iload_n (pc := 48) dX6_readWord_48 rfl <| cSi [_] (pc := 49) dX6_readWord_49 k_X6_48 ⟨⟨Nat.le_of_ble_eq_true rfl, Nat.le_of_ble_eq_true rfl⟩, ⟨Nat.le_of_ble_eq_true rfl, Nat.le_of_ble_eq_true rfl⟩, Nat.le_of_ble_eq_true rfl⟩ ⟨rfl, rfl⟩ ?_
      refine sp_cword (by omega) ?_
      refine ⟨_, rfl, ?_⟩
      refine cVi [_] (pc := 52) dX6_readWord_52 k_X6_52 ⟨⟨Nat.le_of_ble_eq_true rfl, Nat.le_of_ble_eq_true rfl⟩, ⟨Nat.le_of_ble_eq_true rfl, Nat.le_of_ble_eq_true rfl⟩, Nat.le_of_ble_eq_true rfl⟩ ⟨rfl, rfl⟩ hT ?_
      refine sp_spells (by omega) hT hX hb hp (fun q1 => ?_) (fun q1 => ?_)
      · skip
        refine ⟨_, rfl, ?_⟩
        refine r_if_eq (pc := 55) 60 dX6_readWord_55 (by decide) (by decide) (fun q => absurd q (by decide)) (fun _ => ?_)
        refine r_iload_n (pc := 58) dX6_readWord_58 rfl <| r_iret (pc := 59) dX6_readWord_59 rfl ⟨Nat.le_of_ble_eq_true rfl, Nat.le_of_ble_eq_true rfl⟩ <| ?_
        refine qI ?_ hQ
        unfold kindW
        rw [idxOf_first (k := w.toNat) (show w.toNat < wL.length by show w.toNat < 12; omega) q1 (fun j hj2 => hj j (by omega)), if_pos (by omega)]
        omega
      · skip
        refine ⟨_, rfl, ?_⟩
        refine r_if_eq (pc := 55) 60 dX6_readWord_55 (by decide) (by decide) (fun _ => ?_) (fun q => absurd q (by decide))
        refine r_iinc_1 (pc := 60) dX6_readWord_60 rfl rfl <| r_goto (pc := 63) 41 dX6_readWord_63 (by decide) <| ?_
        refine ih _ (by omega) (w + 1) (by omega) rfl (fun j hj2 => ?_)
        by_cases e : (j : Int) = w
        · rw [show j = w.toNat by omega]; exact q1
        · exact hj j (by omega)
theorem sp_readWord {len p pl va : Int} (hT : h t = some (aO 6 [vR tt, vI len, vI p, vI pl, vI va])) (hX : h tt = some (aA 160 tx)) (hb : Bd tx 0 255) (hl : 0 ≤ len ∧ len ≤ 160) (hne : t ≠ tt) (hp : 0 ≤ pl ∧ pl ≤ p ∧ p ≤ len) (hQ : ∀ h', h' t = some (aO 6 [vR tt, vI len, vI (advF pL tx len p), vI pl, vI va]) → Fr (fun q => q = t) h h' → Q (some (vI (kindW (seg tx pl (advF pL tx len p - pl).toNat)))) n h') : Cl G mX6_readWord [vR t] n h Q := by
  have hL := advF_in (P := pL) (tx := tx) hp.2.2
  refine cl_of (by decide) (Nat.le_of_ble_eq_true rfl) rfl ?_
  refine lp_rw0 hb hl hne _ p h hT hX (by omega) rfl (fun h1 hT1 hF1 => ?_)
  have hX1 := hF1.keep hX (by omega)
  refine r_iconst (pc := 39) dX6_readWord_39 <| r_istoren_1 (pc := 40) dX6_readWord_40 rfl <| ?_
  exact lp_rw41 hT1 hX1 hb (by omega) (hQ h1 hT1 hF1) _ 0 (by omega) rfl (fun j hj => by omega)
end TKD

