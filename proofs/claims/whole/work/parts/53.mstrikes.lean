/-! ===== the model: strikes ===== -/
abbrev pcS (x : Int) : Int → Int → Int := fun k y => y + bitI x k
def popF (x : Int) : Int := lpI (pcS x) 9 0 0
def okS (bk : Int → Int) (its : List IT) (set : Int) : Prop := ∀ a b, (0 ≤ a ∧ a < bk 0) → (0 ≤ b ∧ b < bk 0) → ¬ a = b → ¬ (talkF (nmB bk) (itOf its) its.length set a b).1 = -1
noncomputable def stG (P : Int → Prop) : Nat → Int → Int → Int
  | 0, _, f => f
  | q + 1, x, f => stG P q (x + 1) (@ite Int ((f = -1 ∨ popF x < popF f) ∧ P x) (Classical.propDecidable _) x f)
noncomputable def fStrikes (s : SS) : Int × SS := if ¬ okB s.bk then (-3, s.no) else (stG (okS s.bk (itB s.bk)) (2 ^ (itB s.bk).length) 0 (-1), s)
section MSt
variable {G : GT} {n : Nat} {h : Hp} {Q : PT} {s : SS} {e : Nat → Int} {it : Int → Int}
theorem lp_bits {x : Int} (hx : 0 ≤ x ∧ x < 2147483648) : ∀ (q : Nat) (k y : Int), 0 ≤ k → k + q = 9 → (0 ≤ y ∧ y ≤ k) → ((0 ≤ lpI (pcS x) q k y ∧ lpI (pcS x) q k y ≤ 9) → Q (some (vI (lpI (pcS x) q k y))) n h) → At G mX9_bits 4 [vI x, vI y, vI k] [] (0, 0, n) h Q := by
  intro q
  induction q with
  | zero =>
    intro k y hk hq hy hQ
    refine r_iload_n (pc := 4) dX9_bits_4 rfl <| r_bipush (pc := 5) dX9_bits_5 (by decide) <| r_icmp_ge (pc := 7) 24 dX9_bits_7 (by decide) (by omega) (by omega) (fun hc_7 => ?_) (fun hc_7 => ?_)
    · skip
      refine r_iload_n (pc := 24) dX9_bits_24 rfl <| r_iret (pc := 25) dX9_bits_25 rfl ⟨Nat.le_of_ble_eq_true rfl, Nat.le_of_ble_eq_true rfl⟩ <| ?_
      exact hQ (by simp only [lpI]; omega)
    · skip
      exfalso; omega
  | succ q ih =>
    intro k y hk hq hy hQ
    have hb := bitI_01 x k
    refine r_iload_n (pc := 4) dX9_bits_4 rfl <| r_bipush (pc := 5) dX9_bits_5 (by decide) <| r_icmp_ge (pc := 7) 24 dX9_bits_7 (by decide) (by omega) (by omega) (fun hc_7 => ?_) (fun hc_7 => ?_)
    · skip
      exfalso; omega
    · skip
      refine r_iload_n (pc := 10) dX9_bits_10 rfl <| r_iload_n (pc := 11) dX9_bits_11 rfl <| r_iload_n (pc := 12) dX9_bits_12 rfl <| r_ishr (pc := 13) (x / (2 ^ k.toNat : Nat)) dX9_bits_13 (i_shr hx (by omega)) <| r_iconst (pc := 14) dX9_bits_14 <| r_iand (pc := 15) (bitI x k) dX9_bits_15 (i_bit hx) <| r_iadd (pc := 16) dX9_bits_16 <| r_istoren_1 (pc := 17) dX9_bits_17 rfl <| r_iinc_2 (pc := 18) dX9_bits_18 rfl rfl <| r_goto (pc := 21) 4 dX9_bits_21 (by decide) <| ?_
      exact ih (k + 1) (y + bitI x k) (by omega) (by omega) (by omega) hQ
theorem sp_bits {x : Int} (hx : 0 ≤ x ∧ x < 2147483648) (hQ : (0 ≤ popF x ∧ popF x ≤ 9) → Q (some (vI (popF x))) n h) : Cl G mX9_bits [vI x] n h Q := by
  refine cl_of (by decide) (Nat.le_of_ble_eq_true rfl) rfl ?_
  refine r_iconst (pc := 0) dX9_bits_0 <| r_istoren_1 (pc := 1) dX9_bits_1 rfl <| r_iconst (pc := 2) dX9_bits_2 <| r_istoren_2 (pc := 3) dX9_bits_3 rfl <| ?_
  exact lp_bits hx 9 0 0 (by omega) (by omega) (by omega) hQ
abbrev nvT (bk it : Int → Int) (m sk a b : Int) : Prop := ¬ (talkF (nmB bk) it m sk a b).1 = -1
theorem ga_0 {a b : Int} (hW : wM h s e it) (hI : Inv s.bk) (ha : 0 ≤ a ∧ a ≤ 9) (hb : 0 ≤ b ∧ b ≤ 9) (hQ : Q (some (vI 0)) n h) : At G mX9_goesAlways 20 [vR 45, vI 0, vI a, vI b] [] (0, 0, n) h Q := by
  have hM' := hW.2.1
  unfold mF at hM'
  have g46 := hW.2.2.1
  have i0 := hI.1.1
  refine r_iload_n (pc := 20) dX9_goesAlways_20 rfl <| r_aload_n (pc := 21) dX9_goesAlways_21 rfl <| r_getf (pc := 22) dX9_goesAlways_22 fA_X9_7 hM' rfl <| r_iconst (pc := 25) dX9_goesAlways_25 <| r_iald (pc := 26) dX9_goesAlways_26 g46 (by omega) (by decide) <| r_icmp_ge (pc := 27) 61 dX9_goesAlways_27 (by decide) (by omega) (by omega) (fun hc_27 => ?_) (fun hc_27 => ?_)
  · skip
    refine r_iinc_2 (pc := 61) dX9_goesAlways_61 rfl rfl <| r_goto (pc := 64) 4 dX9_goesAlways_64 (by decide) <| r_iload_n (pc := 4) dX9_goesAlways_4 rfl <| r_aload_n (pc := 5) dX9_goesAlways_5 rfl <| r_getf (pc := 6) dX9_goesAlways_6 fA_X9_7 hM' rfl <| r_iconst (pc := 9) dX9_goesAlways_9 <| r_iald (pc := 10) dX9_goesAlways_10 g46 (by omega) (by decide) <| r_icmp_ge (pc := 11) 67 dX9_goesAlways_11 (by decide) (by omega) (by omega) (fun hc_11 => ?_) (fun hc_11 => ?_)
    · skip
      refine r_iload_n (pc := 67) dX9_goesAlways_67 rfl <| r_zret (pc := 68) dX9_goesAlways_68 rfl (by omega) ⟨Nat.le_of_ble_eq_true rfl, Nat.le_of_ble_eq_true rfl⟩ <| ?_
      exact hQ
    · skip
      refine r_iload_n (pc := 14) dX9_goesAlways_14 rfl <| r_if_eq (pc := 15) 67 dX9_goesAlways_15 (by decide) (by decide) (fun _ => ?_) (fun q => absurd q (by decide))
      refine r_iload_n (pc := 67) dX9_goesAlways_67 rfl <| r_zret (pc := 68) dX9_goesAlways_68 rfl (by omega) ⟨Nat.le_of_ble_eq_true rfl, Nat.le_of_ble_eq_true rfl⟩ <| ?_
      exact hQ
  · skip
    refine r_iload_n (pc := 30) dX9_goesAlways_30 rfl <| r_if_eq (pc := 31) 61 dX9_goesAlways_31 (by decide) (by decide) (fun _ => ?_) (fun q => absurd q (by decide))
    refine r_iinc_2 (pc := 61) dX9_goesAlways_61 rfl rfl <| r_goto (pc := 64) 4 dX9_goesAlways_64 (by decide) <| r_iload_n (pc := 4) dX9_goesAlways_4 rfl <| r_aload_n (pc := 5) dX9_goesAlways_5 rfl <| r_getf (pc := 6) dX9_goesAlways_6 fA_X9_7 hM' rfl <| r_iconst (pc := 9) dX9_goesAlways_9 <| r_iald (pc := 10) dX9_goesAlways_10 g46 (by omega) (by decide) <| r_icmp_ge (pc := 11) 67 dX9_goesAlways_11 (by decide) (by omega) (by omega) (fun hc_11 => ?_) (fun hc_11 => ?_)
    · skip
      refine r_iload_n (pc := 67) dX9_goesAlways_67 rfl <| r_zret (pc := 68) dX9_goesAlways_68 rfl (by omega) ⟨Nat.le_of_ble_eq_true rfl, Nat.le_of_ble_eq_true rfl⟩ <| ?_
      exact hQ
    · skip
      refine r_iload_n (pc := 14) dX9_goesAlways_14 rfl <| r_if_eq (pc := 15) 67 dX9_goesAlways_15 (by decide) (by decide) (fun _ => ?_) (fun q => absurd q (by decide))
      refine r_iload_n (pc := 67) dX9_goesAlways_67 rfl <| r_zret (pc := 68) dX9_goesAlways_68 rfl (by omega) ⟨Nat.le_of_ble_eq_true rfl, Nat.le_of_ble_eq_true rfl⟩ <| ?_
      exact hQ
theorem lp_gb {m sk a : Int} (hI : Inv s.bk) (ha : 0 ≤ a ∧ a < s.bk 0) : ∀ (q : Nat) (b : Int) (h : Hp) (e : Nat → Int), 0 ≤ b → b + q = s.bk 0 → wM h s e it → e 11 = m → e 12 = sk →
    ((∀ b', b ≤ b' → b' < s.bk 0 → ¬ a = b' → nvT s.bk it m sk a b') → ∀ h' e' b', wM h' s e' it → (∀ j, j ≠ 13 → j ≠ 14 → e' j = e j) → Fr (fun j => j = 45) h h' → At G mX9_goesAlways 61 [vR 45, vI 1, vI a, vI b'] [] (0, 0, n) h' Q) →
    (∀ b', b ≤ b' → b' < s.bk 0 → ¬ a = b' → ¬ nvT s.bk it m sk a b' → ∀ h' e', wM h' s e' it → (∀ j, j ≠ 13 → j ≠ 14 → e' j = e j) → Fr (fun j => j = 45) h h' → Q (some (vI 0)) n h') → At G mX9_goesAlways 20 [vR 45, vI 1, vI a, vI b] [] (0, 0, n) h Q := by
  have i0 := hI.1.1
  intro q
  induction q with
  | zero =>
    intro b h e hb hq hW h11 h12 h1 h0
    have hM' := hW.2.1
    unfold mF at hM'
    have g46 := hW.2.2.1
    refine r_iload_n (pc := 20) dX9_goesAlways_20 rfl <| r_aload_n (pc := 21) dX9_goesAlways_21 rfl <| r_getf (pc := 22) dX9_goesAlways_22 fA_X9_7 hM' rfl <| r_iconst (pc := 25) dX9_goesAlways_25 <| r_iald (pc := 26) dX9_goesAlways_26 g46 (by omega) (by decide) <| r_icmp_ge (pc := 27) 61 dX9_goesAlways_27 (by decide) (by omega) (by omega) (fun hc_27 => ?_) (fun hc_27 => ?_)
    · skip
      exact h1 (fun b' x y => by omega) h e b hW (fun j _ _ => rfl) Fr.rf
    · skip
      exfalso; omega
  | succ q ih =>
    intro b h e hb hq hW h11 h12 h1 h0
    have hM' := hW.2.1
    unfold mF at hM'
    have g46 := hW.2.2.1
    refine r_iload_n (pc := 20) dX9_goesAlways_20 rfl <| r_aload_n (pc := 21) dX9_goesAlways_21 rfl <| r_getf (pc := 22) dX9_goesAlways_22 fA_X9_7 hM' rfl <| r_iconst (pc := 25) dX9_goesAlways_25 <| r_iald (pc := 26) dX9_goesAlways_26 g46 (by omega) (by decide) <| r_icmp_ge (pc := 27) 61 dX9_goesAlways_27 (by decide) (by omega) (by omega) (fun hc_27 => ?_) (fun hc_27 => ?_)
    · skip
      exfalso; omega
    · skip
      refine r_iload_n (pc := 30) dX9_goesAlways_30 rfl <| r_if_eq (pc := 31) 61 dX9_goesAlways_31 (by decide) (by decide) (fun q => absurd q (by decide)) (fun _ => ?_)
      refine r_iload_n (pc := 34) dX9_goesAlways_34 rfl <| r_iload_n (pc := 35) dX9_goesAlways_35 rfl <| r_icmp_eq (pc := 36) 49 dX9_goesAlways_36 (by decide) (by omega) (by omega) (fun hc_36 => ?_) (fun hc_36 => ?_)
      · skip
        refine r_iconst (pc := 49) dX9_goesAlways_49 <| r_goto (pc := 50) 54 dX9_goesAlways_50 (by decide) <| r_istoren_1 (pc := 54) dX9_goesAlways_54 rfl <| r_iinc_3 (pc := 55) dX9_goesAlways_55 rfl rfl <| r_goto (pc := 58) 20 dX9_goesAlways_58 (by decide) <| ?_
        first
          | exact ga_0 w1 hI (by omega) (by omega) (h0 b (by omega) (by omega) (by omega) (fun q => q (by omega)) h2 e2 w1 w2 hF1)
          | (exact ih (b + 1) h2 e2 (by omega) (by omega) w1 ((w2 11 (by decide) (by decide)).trans h11) ((w2 12 (by decide) (by decide)).trans h12)
              (fun hh h' e' b' c1 c2 c3 => h1 (fun b' x y z => by
                by_cases eb : b' = b
                · subst eb; show ¬ _; omega
                · exact hh b' (by omega) y z) h' e' b' c1 (fun j j1 j2 => (c2 j j1 j2).trans (w2 j j1 j2)) (fun j hj => (c3 j hj).trans (hF1 j hj)))
              (fun b' x y z w h' e' c1 c2 c3 => h0 b' (by omega) y z w h' e' c1 (fun j j1 j2 => (c2 j j1 j2).trans (w2 j j1 j2)) (fun j hj => (c3 j hj).trans (hF1 j hj))))
          | (exact ih (b + 1) h e (by omega) (by omega) hW h11 h12
              (fun hh h' e' b' c1 c2 c3 => h1 (fun b' x y z => hh b' (by omega) y z) h' e' b' c1 c2 c3)
              (fun b' x y z w h' e' c1 c2 c3 => h0 b' (by omega) y z w h' e' c1 c2 c3))
      · skip
        refine r_aload_n (pc := 39) dX9_goesAlways_39 rfl <| r_iload_n (pc := 40) dX9_goesAlways_40 rfl <| r_iload_n (pc := 41) dX9_goesAlways_41 rfl <| cVi [_, _] (pc := 42) dX9_goesAlways_42 k_X9_171 ⟨⟨Nat.le_of_ble_eq_true rfl, Nat.le_of_ble_eq_true rfl⟩, ⟨Nat.le_of_ble_eq_true rfl, Nat.le_of_ble_eq_true rfl⟩, Nat.le_of_ble_eq_true rfl⟩ ⟨rfl, rfl⟩ hM' ?_
        have hb3 : (talkF (nmB s.bk) it (e 11) (e 12) a b).1 = -1 ∨ (talkF (nmB s.bk) it (e 11) (e 12) a b).1 = a ∨ (talkF (nmB s.bk) it (e 11) (e 12) a b).1 = b := by
          have := @TB_in s.bk it (e 11) (e 12) a b hI (by omega) (by omega) (by omega)
          rcases this with e1 | e1
          · rw [e1]; exact Or.inl rfl
          · exact Or.inr e1.1
        refine wm_talks hW hI (by omega) (by omega) (fun h2 e2 w1 w2 w3 hF1 => ?_)
        rw [h11, h12] at hb3 ⊢
        refine ⟨_, rfl, ?_⟩
        refine r_iconst (pc := 45) dX9_goesAlways_45 <| r_icmp_eq (pc := 46) 53 dX9_goesAlways_46 (by decide) (by omega) (by omega) (fun hc_46 => ?_) (fun hc_46 => ?_)
        · skip
          refine r_iconst (pc := 53) dX9_goesAlways_53 <| r_istoren_1 (pc := 54) dX9_goesAlways_54 rfl <| r_iinc_3 (pc := 55) dX9_goesAlways_55 rfl rfl <| r_goto (pc := 58) 20 dX9_goesAlways_58 (by decide) <| ?_
          first
            | exact ga_0 w1 hI (by omega) (by omega) (h0 b (by omega) (by omega) (by omega) (fun q => q (by omega)) h2 e2 w1 w2 hF1)
            | (exact ih (b + 1) h2 e2 (by omega) (by omega) w1 ((w2 11 (by decide) (by decide)).trans h11) ((w2 12 (by decide) (by decide)).trans h12)
                (fun hh h' e' b' c1 c2 c3 => h1 (fun b' x y z => by
                  by_cases eb : b' = b
                  · subst eb; show ¬ _; omega
                  · exact hh b' (by omega) y z) h' e' b' c1 (fun j j1 j2 => (c2 j j1 j2).trans (w2 j j1 j2)) (fun j hj => (c3 j hj).trans (hF1 j hj)))
                (fun b' x y z w h' e' c1 c2 c3 => h0 b' (by omega) y z w h' e' c1 (fun j j1 j2 => (c2 j j1 j2).trans (w2 j j1 j2)) (fun j hj => (c3 j hj).trans (hF1 j hj))))
            | (exact ih (b + 1) h e (by omega) (by omega) hW h11 h12
                (fun hh h' e' b' c1 c2 c3 => h1 (fun b' x y z => hh b' (by omega) y z) h' e' b' c1 c2 c3)
                (fun b' x y z w h' e' c1 c2 c3 => h0 b' (by omega) y z w h' e' c1 c2 c3))
        · skip
          refine r_iconst (pc := 49) dX9_goesAlways_49 <| r_goto (pc := 50) 54 dX9_goesAlways_50 (by decide) <| r_istoren_1 (pc := 54) dX9_goesAlways_54 rfl <| r_iinc_3 (pc := 55) dX9_goesAlways_55 rfl rfl <| r_goto (pc := 58) 20 dX9_goesAlways_58 (by decide) <| ?_
          first
            | exact ga_0 w1 hI (by omega) (by omega) (h0 b (by omega) (by omega) (by omega) (fun q => q (by omega)) h2 e2 w1 w2 hF1)
            | (exact ih (b + 1) h2 e2 (by omega) (by omega) w1 ((w2 11 (by decide) (by decide)).trans h11) ((w2 12 (by decide) (by decide)).trans h12)
                (fun hh h' e' b' c1 c2 c3 => h1 (fun b' x y z => by
                  by_cases eb : b' = b
                  · subst eb; show ¬ _; omega
                  · exact hh b' (by omega) y z) h' e' b' c1 (fun j j1 j2 => (c2 j j1 j2).trans (w2 j j1 j2)) (fun j hj => (c3 j hj).trans (hF1 j hj)))
                (fun b' x y z w h' e' c1 c2 c3 => h0 b' (by omega) y z w h' e' c1 (fun j j1 j2 => (c2 j j1 j2).trans (w2 j j1 j2)) (fun j hj => (c3 j hj).trans (hF1 j hj))))
            | (exact ih (b + 1) h e (by omega) (by omega) hW h11 h12
                (fun hh h' e' b' c1 c2 c3 => h1 (fun b' x y z => hh b' (by omega) y z) h' e' b' c1 c2 c3)
                (fun b' x y z w h' e' c1 c2 c3 => h0 b' (by omega) y z w h' e' c1 c2 c3))
theorem lp_ga {m sk : Int} (hI : Inv s.bk) : ∀ (q : Nat) (a : Int) (h : Hp) (e : Nat → Int) (l3 : AV), 0 ≤ a → a + q = s.bk 0 → wM h s e it → e 11 = m → e 12 = sk →
    ((∀ a' b', a ≤ a' → a' < s.bk 0 → 0 ≤ b' → b' < s.bk 0 → ¬ a' = b' → nvT s.bk it m sk a' b') → ∀ h' e', wM h' s e' it → (∀ j, j ≠ 13 → j ≠ 14 → e' j = e j) → Fr (fun j => j = 45) h h' → Q (some (vI 1)) n h') →
    (∀ a' b', a ≤ a' → a' < s.bk 0 → 0 ≤ b' → b' < s.bk 0 → ¬ a' = b' → ¬ nvT s.bk it m sk a' b' → ∀ h' e', wM h' s e' it → (∀ j, j ≠ 13 → j ≠ 14 → e' j = e j) → Fr (fun j => j = 45) h h' → Q (some (vI 0)) n h') → At G mX9_goesAlways 4 [vR 45, vI 1, vI a, l3] [] (0, 0, n) h Q := by
  have i0 := hI.1.1
  intro q
  induction q with
  | zero =>
    intro a h e l3 ha hq hW h11 h12 h1 h0
    have hM' := hW.2.1
    unfold mF at hM'
    have g46 := hW.2.2.1
    refine r_iload_n (pc := 4) dX9_goesAlways_4 rfl <| r_aload_n (pc := 5) dX9_goesAlways_5 rfl <| r_getf (pc := 6) dX9_goesAlways_6 fA_X9_7 hM' rfl <| r_iconst (pc := 9) dX9_goesAlways_9 <| r_iald (pc := 10) dX9_goesAlways_10 g46 (by omega) (by decide) <| r_icmp_ge (pc := 11) 67 dX9_goesAlways_11 (by decide) (by omega) (by omega) (fun hc_11 => ?_) (fun hc_11 => ?_)
    · skip
      refine r_iload_n (pc := 67) dX9_goesAlways_67 rfl <| r_zret (pc := 68) dX9_goesAlways_68 rfl (by omega) ⟨Nat.le_of_ble_eq_true rfl, Nat.le_of_ble_eq_true rfl⟩ <| ?_
      exact h1 (fun a' b' x y => by omega) h e hW (fun j _ _ => rfl) Fr.rf
    · skip
      exfalso; omega
  | succ q ih =>
    intro a h e l3 ha hq hW h11 h12 h1 h0
    have hM' := hW.2.1
    unfold mF at hM'
    have g46 := hW.2.2.1
    refine r_iload_n (pc := 4) dX9_goesAlways_4 rfl <| r_aload_n (pc := 5) dX9_goesAlways_5 rfl <| r_getf (pc := 6) dX9_goesAlways_6 fA_X9_7 hM' rfl <| r_iconst (pc := 9) dX9_goesAlways_9 <| r_iald (pc := 10) dX9_goesAlways_10 g46 (by omega) (by decide) <| r_icmp_ge (pc := 11) 67 dX9_goesAlways_11 (by decide) (by omega) (by omega) (fun hc_11 => ?_) (fun hc_11 => ?_)
    · skip
      exfalso; omega
    · skip
      refine r_iload_n (pc := 14) dX9_goesAlways_14 rfl <| r_if_eq (pc := 15) 67 dX9_goesAlways_15 (by decide) (by decide) (fun q => absurd q (by decide)) (fun _ => ?_)
      refine r_iconst (pc := 18) dX9_goesAlways_18 <| r_istoren_3 (pc := 19) dX9_goesAlways_19 rfl <| ?_
      refine lp_gb hI (by omega) (s.bk 0).toNat 0 h e (by omega) (by omega) hW h11 h12 (fun hh h2 e2 b' c1 c2 c3 => ?_) (fun b' x y z w h' e' c1 c2 c3 => h0 a b' (by omega) (by omega) x y z w h' e' c1 c2 c3)
      refine r_iinc_2 (pc := 61) dX9_goesAlways_61 rfl rfl <| r_goto (pc := 64) 4 dX9_goesAlways_64 (by decide) <| ?_
      exact ih (a + 1) h2 e2 _ (by omega) (by omega) c1 ((c2 11 (by decide) (by decide)).trans h11) ((c2 12 (by decide) (by decide)).trans h12)
        (fun hh2 h' e' d1 d2 d3 => h1 (fun a' b' x y z w u => by
          by_cases ea : a' = a
          · subst ea; exact hh b' z w u
          · exact hh2 a' b' (by omega) y z w u) h' e' d1 (fun j j1 j2 => (d2 j j1 j2).trans (c2 j j1 j2)) (fun j hj => (d3 j hj).trans (c3 j hj)))
        (fun a' b' x y z w u v h' e' d1 d2 d3 => h0 a' b' (by omega) y z w u v h' e' d1 (fun j j1 j2 => (d2 j j1 j2).trans (c2 j j1 j2)) (fun j hj => (d3 j hj).trans (c3 j hj)))
theorem sp_goes {its : List IT} {sk : Int} (hW : wM h s e it) (hI : Inv s.bk) (hr : itRel it its) (h11 : e 11 = its.length) (h12 : e 12 = sk)
    (h1 : okS s.bk its sk → ∀ h' e', wM h' s e' it → (∀ j, j ≠ 13 → j ≠ 14 → e' j = e j) → Fr (fun j => j = 45) h h' → Q (some (vI 1)) n h')
    (h0 : ¬ okS s.bk its sk → ∀ h' e', wM h' s e' it → (∀ j, j ≠ 13 → j ≠ 14 → e' j = e j) → Fr (fun j => j = 45) h h' → Q (some (vI 0)) n h') : Cl G mX9_goesAlways [vR 45] n h Q := by
  have i0 := hI.1.1
  have hT : ∀ a b, talkF (nmB s.bk) it its.length sk a b = talkF (nmB s.bk) (itOf its) its.length sk a b := fun a b => talk_mod (bk := s.bk) hr
  refine cl_of (by decide) (Nat.le_of_ble_eq_true rfl) rfl ?_
  refine r_iconst (pc := 0) dX9_goesAlways_0 <| r_istoren_1 (pc := 1) dX9_goesAlways_1 rfl <| r_iconst (pc := 2) dX9_goesAlways_2 <| r_istoren_2 (pc := 3) dX9_goesAlways_3 rfl <| ?_
  refine lp_ga (m := its.length) (sk := sk) hI (s.bk 0).toNat 0 h e _ (by omega) (by omega) hW h11 h12 (fun hh h' e' c1 c2 c3 => h1 (fun a b ha hb hab => ?_) h' e' c1 c2 c3) (fun a b x y z w u v h' e' c1 c2 c3 => h0 (fun hok => v ?_) h' e' c1 c2 c3)
  · have := hh a b ha.1 ha.2 hb.1 hb.2 hab
    rw [← hT]; exact this
  · have := hok a b ⟨x, y⟩ ⟨z, w⟩ u
    rw [← hT] at this; exact this
theorem lp_strikes {its : List IT} (hI : Inv s.bk) (hr : itRel it its) (hl : its.length ≤ 9) : ∀ (q : Nat) (x f : Int) (h : Hp) (e : Nat → Int), 0 ≤ x → x + q = (2 ^ its.length : Nat) → (-1 ≤ f ∧ f < x) → wM h s e it → e 11 = its.length →
    (∀ h', isM h' s → Fr MR h h' → Q (some (vI (stG (okS s.bk its) q x f))) n h') → At G mX9_strikes 16 [vR 45, vI f, vI x] [] (0, 0, n) h Q := by
  have hp : 2 ^ its.length ≤ 2 ^ 9 := Nat.pow_le_pow_right (by decide) hl
  intro q
  induction q with
  | zero =>
    intro x f h e hx hq hf hW h11 hQ
    have hM' := hW.2.1
    unfold mF at hM'
    rw [h11] at hM'
    refine r_iload_n (pc := 16) dX9_strikes_16 rfl <| r_iconst (pc := 17) dX9_strikes_17 <| r_aload_n (pc := 18) dX9_strikes_18 rfl <| r_getf (pc := 19) dX9_strikes_19 fA_X9_136 hM' rfl <| r_ishl (pc := 22) ((2 ^ its.length : Nat) : Int) dX9_strikes_22 (shl10 (by omega)) <| r_icmp_ge (pc := 23) 66 dX9_strikes_23 (by decide) (by omega) (by omega) (fun hc_23 => ?_) (fun hc_23 => ?_)
    · skip
      refine r_iload_n (pc := 66) dX9_strikes_66 rfl <| r_iret (pc := 67) dX9_strikes_67 rfl ⟨Nat.le_of_ble_eq_true rfl, Nat.le_of_ble_eq_true rfl⟩ <| ?_
      exact hQ h hW.1 Fr.rf
    · skip
      exfalso; omega
  | succ q ih =>
    intro x f h e hx hq hf hW h11 hQ
    have hM' := hW.2.1
    unfold mF at hM'
    rw [h11] at hM'
    simp only [stG] at hQ
    have fin : ∀ f' h' e', (-1 ≤ f' ∧ f' < x + 1) → wM h' s e' it → e' 11 = its.length → Fr MR h h' → f' = @ite Int ((f = -1 ∨ popF x < popF f) ∧ okS s.bk its x) (Classical.propDecidable _) x f → At G mX9_strikes 16 [vR 45, vI f', vI (x + 1)] [] (0, 0, n) h' Q := by
      intro f' h' e' hf' w1 w2 hF ef
      subst ef
      exact ih (x + 1) _ h' e' (by omega) (by omega) hf' w1 w2 (fun h'' c1 c2 => hQ h'' c1 (fun j hj => (c2 j hj).trans (hF j hj)))
    refine r_iload_n (pc := 16) dX9_strikes_16 rfl <| r_iconst (pc := 17) dX9_strikes_17 <| r_aload_n (pc := 18) dX9_strikes_18 rfl <| r_getf (pc := 19) dX9_strikes_19 fA_X9_136 hM' rfl <| r_ishl (pc := 22) ((2 ^ its.length : Nat) : Int) dX9_strikes_22 (shl10 (by omega)) <| r_icmp_ge (pc := 23) 66 dX9_strikes_23 (by decide) (by omega) (by omega) (fun hc_23 => ?_) (fun hc_23 => ?_)
    · skip
      exfalso; omega
    · skip
      refine r_iload_n (pc := 26) dX9_strikes_26 rfl <| r_iconst (pc := 27) dX9_strikes_27 <| r_icmp_eq (pc := 28) 42 dX9_strikes_28 (by decide) (by omega) (by omega) (fun hc_28 => ?_) (fun hc_28 => ?_)
      · skip
        refine r_aload_n (pc := 42) dX9_strikes_42 rfl <| r_iload_n (pc := 43) dX9_strikes_43 rfl <| r_putf (pc := 44) dX9_strikes_44 fP_X9_139 rfl rfl hM' rfl (fun h_44 hM' hF_44 => ?_)
        simp only [List.set_cons_zero, List.set_cons_succ] at hM'
        refine r_aload_n (pc := 47) dX9_strikes_47 rfl <| cVi [] (pc := 48) dX9_strikes_48 k_X9_224 ⟨⟨Nat.le_of_ble_eq_true rfl, Nat.le_of_ble_eq_true rfl⟩, ⟨Nat.le_of_ble_eq_true rfl, Nat.le_of_ble_eq_true rfl⟩, Nat.le_of_ble_eq_true rfl⟩ ⟨rfl, rfl⟩ hM' ?_
        have k45 : h_44 45 = some (aO 9 (mF (nu (nu e 11 its.length) 12 x))) := hM'
        have w1 : wM h_44 s (nu (nu e 11 its.length) 12 x) it := hW.up k45 ⟨rfl, rfl, rfl⟩ (hF_44.keep hW.2.2.1 (by omega)) (hF_44.keep hW.2.2.2.1 (by omega)) hW.2.2.2.2.1 (show (0 : Int) ≤ its.length ∧ (its.length : Int) ≤ 9 by omega) (show 0 ≤ x ∧ x < 512 by omega) (fun j j1 j2 => Or.inl (hF_44 j (by omega))) (hF_44.wk (fun j => by omega))
        refine sp_goes (its := its) (sk := x) w1 hI hr rfl rfl (fun q1 h2 e2 c1 c2 c3 => ?_) (fun q1 h2 e2 c1 c2 c3 => ?_)
        · skip
          refine ⟨_, rfl, ?_⟩
          have hF : Fr MR h h2 := fun j hj => (c3 j (by omega)).trans (hF_44 j (by omega))
          refine r_if_eq (pc := 51) 58 dX9_strikes_51 (by decide) (by decide) (fun q => absurd q (by decide)) (fun _ => ?_)
          refine r_iload_n (pc := 54) dX9_strikes_54 rfl <| r_goto (pc := 55) 59 dX9_strikes_55 (by decide) <| r_istoren_1 (pc := 59) dX9_strikes_59 rfl <| r_iinc_2 (pc := 60) dX9_strikes_60 rfl rfl <| r_goto (pc := 63) 16 dX9_strikes_63 (by decide) <| ?_
          first
            | (refine fin x h2 e2 (by omega) c1 (c2 11 (by decide) (by decide)) hF ?_
               rw [if_pos ⟨by omega, q1⟩])
            | (refine fin f h2 e2 (by omega) c1 (c2 11 (by decide) (by decide)) hF ?_
               rw [if_neg (fun q => q1 q.2)])
            | (refine fin f h e (by omega) hW h11 Fr.rf ?_
               rw [if_neg (fun q => by have := q.1; omega)])
        · skip
          refine ⟨_, rfl, ?_⟩
          have hF : Fr MR h h2 := fun j hj => (c3 j (by omega)).trans (hF_44 j (by omega))
          refine r_if_eq (pc := 51) 58 dX9_strikes_51 (by decide) (by decide) (fun _ => ?_) (fun q => absurd q (by decide))
          refine r_iload_n (pc := 58) dX9_strikes_58 rfl <| r_istoren_1 (pc := 59) dX9_strikes_59 rfl <| r_iinc_2 (pc := 60) dX9_strikes_60 rfl rfl <| r_goto (pc := 63) 16 dX9_strikes_63 (by decide) <| ?_
          first
            | (refine fin x h2 e2 (by omega) c1 (c2 11 (by decide) (by decide)) hF ?_
               rw [if_pos ⟨by omega, q1⟩])
            | (refine fin f h2 e2 (by omega) c1 (c2 11 (by decide) (by decide)) hF ?_
               rw [if_neg (fun q => q1 q.2)])
            | (refine fin f h e (by omega) hW h11 Fr.rf ?_
               rw [if_neg (fun q => by have := q.1; omega)])
      · skip
        refine r_iload_n (pc := 31) dX9_strikes_31 rfl <| cSi [_] (pc := 32) dX9_strikes_32 k_X9_220 ⟨⟨Nat.le_of_ble_eq_true rfl, Nat.le_of_ble_eq_true rfl⟩, ⟨Nat.le_of_ble_eq_true rfl, Nat.le_of_ble_eq_true rfl⟩, Nat.le_of_ble_eq_true rfl⟩ ⟨rfl, rfl⟩ ?_
        refine sp_bits (by omega) (fun hp1 => ?_)
        refine ⟨_, rfl, ?_⟩
        refine r_iload_n (pc := 35) dX9_strikes_35 rfl <| cSi [_] (pc := 36) dX9_strikes_36 k_X9_220 ⟨⟨Nat.le_of_ble_eq_true rfl, Nat.le_of_ble_eq_true rfl⟩, ⟨Nat.le_of_ble_eq_true rfl, Nat.le_of_ble_eq_true rfl⟩, Nat.le_of_ble_eq_true rfl⟩ ⟨rfl, rfl⟩ ?_
        refine sp_bits (by omega) (fun hp2 => ?_)
        refine ⟨_, rfl, ?_⟩
        refine r_icmp_ge (pc := 39) 60 dX9_strikes_39 (by decide) (by omega) (by omega) (fun hc_39 => ?_) (fun hc_39 => ?_)
        · skip
          refine r_iinc_2 (pc := 60) dX9_strikes_60 rfl rfl <| r_goto (pc := 63) 16 dX9_strikes_63 (by decide) <| ?_
          first
            | (refine fin x h2 e2 (by omega) c1 (c2 11 (by decide) (by decide)) hF ?_
               rw [if_pos ⟨by omega, q1⟩])
            | (refine fin f h2 e2 (by omega) c1 (c2 11 (by decide) (by decide)) hF ?_
               rw [if_neg (fun q => q1 q.2)])
            | (refine fin f h e (by omega) hW h11 Fr.rf ?_
               rw [if_neg (fun q => by have := q.1; omega)])
        · skip
          refine r_aload_n (pc := 42) dX9_strikes_42 rfl <| r_iload_n (pc := 43) dX9_strikes_43 rfl <| r_putf (pc := 44) dX9_strikes_44 fP_X9_139 rfl rfl hM' rfl (fun h_44 hM' hF_44 => ?_)
          simp only [List.set_cons_zero, List.set_cons_succ] at hM'
          refine r_aload_n (pc := 47) dX9_strikes_47 rfl <| cVi [] (pc := 48) dX9_strikes_48 k_X9_224 ⟨⟨Nat.le_of_ble_eq_true rfl, Nat.le_of_ble_eq_true rfl⟩, ⟨Nat.le_of_ble_eq_true rfl, Nat.le_of_ble_eq_true rfl⟩, Nat.le_of_ble_eq_true rfl⟩ ⟨rfl, rfl⟩ hM' ?_
          have k45 : h_44 45 = some (aO 9 (mF (nu (nu e 11 its.length) 12 x))) := hM'
          have w1 : wM h_44 s (nu (nu e 11 its.length) 12 x) it := hW.up k45 ⟨rfl, rfl, rfl⟩ (hF_44.keep hW.2.2.1 (by omega)) (hF_44.keep hW.2.2.2.1 (by omega)) hW.2.2.2.2.1 (show (0 : Int) ≤ its.length ∧ (its.length : Int) ≤ 9 by omega) (show 0 ≤ x ∧ x < 512 by omega) (fun j j1 j2 => Or.inl (hF_44 j (by omega))) (hF_44.wk (fun j => by omega))
          refine sp_goes (its := its) (sk := x) w1 hI hr rfl rfl (fun q1 h2 e2 c1 c2 c3 => ?_) (fun q1 h2 e2 c1 c2 c3 => ?_)
          · skip
            refine ⟨_, rfl, ?_⟩
            have hF : Fr MR h h2 := fun j hj => (c3 j (by omega)).trans (hF_44 j (by omega))
            refine r_if_eq (pc := 51) 58 dX9_strikes_51 (by decide) (by decide) (fun q => absurd q (by decide)) (fun _ => ?_)
            refine r_iload_n (pc := 54) dX9_strikes_54 rfl <| r_goto (pc := 55) 59 dX9_strikes_55 (by decide) <| r_istoren_1 (pc := 59) dX9_strikes_59 rfl <| r_iinc_2 (pc := 60) dX9_strikes_60 rfl rfl <| r_goto (pc := 63) 16 dX9_strikes_63 (by decide) <| ?_
            first
              | (refine fin x h2 e2 (by omega) c1 (c2 11 (by decide) (by decide)) hF ?_
                 rw [if_pos ⟨by omega, q1⟩])
              | (refine fin f h2 e2 (by omega) c1 (c2 11 (by decide) (by decide)) hF ?_
                 rw [if_neg (fun q => q1 q.2)])
              | (refine fin f h e (by omega) hW h11 Fr.rf ?_
                 rw [if_neg (fun q => by have := q.1; omega)])
          · skip
            refine ⟨_, rfl, ?_⟩
            have hF : Fr MR h h2 := fun j hj => (c3 j (by omega)).trans (hF_44 j (by omega))
            refine r_if_eq (pc := 51) 58 dX9_strikes_51 (by decide) (by decide) (fun _ => ?_) (fun q => absurd q (by decide))
            refine r_iload_n (pc := 58) dX9_strikes_58 rfl <| r_istoren_1 (pc := 59) dX9_strikes_59 rfl <| r_iinc_2 (pc := 60) dX9_strikes_60 rfl rfl <| r_goto (pc := 63) 16 dX9_strikes_63 (by decide) <| ?_
            first
              | (refine fin x h2 e2 (by omega) c1 (c2 11 (by decide) (by decide)) hF ?_
                 rw [if_pos ⟨by omega, q1⟩])
              | (refine fin f h2 e2 (by omega) c1 (c2 11 (by decide) (by decide)) hF ?_
                 rw [if_neg (fun q => q1 q.2)])
              | (refine fin f h e (by omega) hW h11 Fr.rf ?_
                 rw [if_neg (fun q => by have := q.1; omega)])
theorem ms_strikes (hM : isM h s) (hI : Inv s.bk) (hQ : ∀ h', isM h' (fStrikes s).2 → Fr MR h h' → Q (some (vI (fStrikes s).1)) n h') : Cl G mX9_strikes [vR 45] n h Q := by
  obtain ⟨e, it, g45, ge, g9, g46, -⟩ := id hM.raw
  have hM' := g45
  unfold mF at hM'
  unfold fStrikes at hQ
  refine cl_of (by decide) (Nat.le_of_ble_eq_true rfl) rfl ?_
  refine r_aload_n (pc := 0) dX9_strikes_0 rfl <| cVi [] (pc := 1) dX9_strikes_1 k_X9_145 ⟨⟨Nat.le_of_ble_eq_true rfl, Nat.le_of_ble_eq_true rfl⟩, ⟨Nat.le_of_ble_eq_true rfl, Nat.le_of_ble_eq_true rfl⟩, Nat.le_of_ble_eq_true rfl⟩ ⟨rfl, rfl⟩ hM' ?_
  refine wm_reads hM hI (fun q3 h1 e1 it1 m1 m6 m7 m7' m8 m10 => ?_) (fun q3 h1 m1 m10 => ?_)
  · skip
    refine ⟨_, rfl, ?_⟩
    clear hM' g45
    first
      | (have g45 := m1.2.1; have hM' := g45; unfold mF at hM')
      | (obtain ⟨e1, it1, g45, -⟩ := id m1.raw; have hM' := g45; unfold mF at hM')
    refine r_if_ne (pc := 4) 12 dX9_strikes_4 (by decide) (by decide) (fun _ => ?_) (fun q => absurd q (by decide))
    refine r_iconst (pc := 12) dX9_strikes_12 <| r_istoren_1 (pc := 13) dX9_strikes_13 rfl <| r_iconst (pc := 14) dX9_strikes_14 <| r_istoren_2 (pc := 15) dX9_strikes_15 rfl <| ?_
    rw [if_neg (fun q => q q3)] at hQ
    exact lp_strikes hI m6 m7' (2 ^ (itB s.bk).length) 0 (-1) h1 e1 (by omega) (by omega) (by omega) m1 m7 (fun h' c1 c2 => hQ h' c1 (fun j hj => (c2 j hj).trans (m10 j hj)))
  · skip
    refine ⟨_, rfl, ?_⟩
    clear hM' g45
    first
      | (have g45 := m1.2.1; have hM' := g45; unfold mF at hM')
      | (obtain ⟨e1, it1, g45, -⟩ := id m1.raw; have hM' := g45; unfold mF at hM')
    refine r_if_ne (pc := 4) 12 dX9_strikes_4 (by decide) (by decide) (fun q => absurd q (by decide)) (fun _ => ?_)
    refine r_aload_n (pc := 7) dX9_strikes_7 rfl <| cVi [] (pc := 8) dX9_strikes_8 k_X9_151 ⟨⟨Nat.le_of_ble_eq_true rfl, Nat.le_of_ble_eq_true rfl⟩, ⟨Nat.le_of_ble_eq_true rfl, Nat.le_of_ble_eq_true rfl⟩, Nat.le_of_ble_eq_true rfl⟩ ⟨rfl, rfl⟩ hM' ?_
    refine ms_no m1 (fun h2 g1 g2 => ?_)
    refine ⟨_, rfl, ?_⟩
    refine r_iret (pc := 11) dX9_strikes_11 rfl ⟨Nat.le_of_ble_eq_true rfl, Nat.le_of_ble_eq_true rfl⟩ <| ?_
    rw [if_pos q3] at hQ; exact hQ _ g1 (fun j hj => (g2 j hj).trans (m10 j hj))
end MSt


