/-! ===== the model: have, firsts ===== -/
theorem Inv.load {bk : Int → Int} {p l : Int} (hI : Inv bk) (hp : 0 ≤ p ∧ p < 8) (hl : 0 ≤ l ∧ l ≤ 9) : Inv (iu bk (4 + 4 * p + 2) l) := by
  obtain ⟨⟨i0, i1, i2, i3⟩, ib0, ip, iw1, iw2, ib, ⟨iq1, iq2⟩, iw, il, ie⟩ := hI
  have e : ∀ j, j ≠ 4 + 4 * p + 2 → iu bk (4 + 4 * p + 2) l j = bk j := fun j hj => iu_n hj
  have e0 := e 0 (by omega)
  have e1 := e 1 (by omega)
  have e2 := e 2 (by omega)
  have e3 := e 3 (by omega)
  refine ⟨⟨by omega, by omega, by omega, by omega⟩, ib0.iu (by omega), fun i a b => ?_, fun i a b => ?_, fun x y a b c => ?_, fun i a b => ?_, ⟨fun i a b => ?_, fun i j a b c => ?_⟩, fun d a b => ?_, fun a b a0 a1 b0 b1 => ?_, fun k a b => ?_⟩
  · have := ip i a b
    rw [e (4 + 4 * i) (by omega), e (4 + 4 * i + 1) (by omega), e (4 + 4 * i + 3) (by omega)]
    by_cases c : i = p
    · subst c; rw [iu_s]; exact ⟨this.1, this.2.1, hl, this.2.2.2⟩
    · rw [e (4 + 4 * i + 2) (by omega)]; exact this
  · rw [e (36 + i) (by omega)]; exact iw1 i a b
  · rw [e (100 + (8 * x + y)) (by omega)]; exact iw2 x y a b c
  · rw [e (264 + i) (by omega)]; exact ib i a b
  · rw [e (164 + i) (by omega), e0]; exact iq1 i a (by omega)
  · rw [e (164 + i) (by omega), e (164 + j) (by omega)]; exact iq2 i j a b (by omega)
  · rw [e (172 + d) (by omega), e0]; exact iw d a b
  · rw [e (180 + 6 * a + b) (by omega), e (180 + 6 * b + a) (by omega)]; exact il a b a0 a1 b0 b1
  · rw [e (216 + 3 * k) (by omega), e (216 + 3 * k + 1) (by omega), e (216 + 3 * k + 2) (by omega), e0]; exact ie k a (by omega)
def hvG (its : List IT) (bk : Int → Int) (p x y : Int) : Nat → Int → Int
  | 0, _ => -1
  | q + 1, l => if (TI its (iu bk (4 + 4 * p + 2) l) x y).1 = p then l else hvG its bk p x y q (l + 1)
def fHave (s : SS) (p o f : Int) : Int × SS := if ¬ ((0 ≤ p ∧ p < s.bk 0) ∧ (0 ≤ o ∧ o < s.bk 0) ∧ p ≠ o) then (-2, s.bad) else if ¬ okB s.bk then (-3, s.no) else (if f = 0 then hvG (itB s.bk) s.bk p o p 10 0 else hvG (itB s.bk) s.bk p p o 10 0, s)
theorem TI_in {its : List IT} {b : Int → Int} {x y : Int} (hI : Inv b) (hx : 0 ≤ x ∧ x < 8) (hy : 0 ≤ y ∧ y < 8) (hxy : x ≠ y) : (TI its b x y).1 = -1 ∨ (TI its b x y).1 = x ∨ (TI its b x y).1 = y := by
  have := @TB_in b (itOf its) its.length 0 x y hI hx hy hxy
  rcases this with e1 | e1
  · show (talkF (nmB b) (itOf its) its.length 0 x y).1 = -1 ∨ _
    rw [e1]; exact Or.inl rfl
  · exact Or.inr e1.1
section MHv
variable {G : GT} {n : Nat} {h : Hp} {Q : PT} {s : SS} {e : Nat → Int} {it : Int → Int}
theorem hv_46 {p o f hd fd ld : Int} (hf : 0 ≤ fd ∧ fd ≤ 9) (hl : 0 ≤ ld ∧ ld ≤ 10) (hQ : At G mX9_have 110 [vR 45, vI p, vI o, vI f, vI hd, vI fd, vI ld] [] (0, 0, n) h Q) : At G mX9_have 46 [vR 45, vI p, vI o, vI f, vI hd, vI fd, vI ld] [] (0, 0, n) h Q := by
  refine r_iload (pc := 46) dX9_have_46 rfl <| r_bipush (pc := 48) dX9_have_48 (by decide) <| r_icmp_ge (pc := 50) 110 dX9_have_50 (by decide) (by omega) (by omega) (fun hc_50 => ?_) (fun hc_50 => ?_)
  · skip
    exact hQ
  · skip
    refine r_iload (pc := 53) dX9_have_53 rfl <| r_iconst (pc := 55) dX9_have_55 <| r_icmp_ne (pc := 56) 110 dX9_have_56 (by decide) (by omega) (by omega) (fun hc_56 => ?_) (fun hc_56 => ?_)
    · skip
      exact hQ
    · skip
      exfalso; omega
theorem lp_have {its : List IT} {bk : Int → Int} {p o f hd mx x y : Int} (hI : Inv bk) (hit : itOk it) (hmx : 0 ≤ mx ∧ mx ≤ 9) (hT : ∀ b x y, talkF (nmB b) it mx 0 x y = TI its b x y) (hp : 0 ≤ p ∧ p < 8) (ho : 0 ≤ o ∧ o < 8) (hpo : p ≠ o) (hf : f = 0 ∧ x = o ∧ y = p ∨ f = 1 ∧ x = p ∧ y = o) :
    ∀ (q : Nat) (ld : Int) (h : Hp) (e : Nat → Int) (b' : Int → Int), 0 ≤ ld → ld + q = 10 → h 45 = some (aO 9 (mF e)) → e 11 = mx ∧ e 12 = 0 → h 46 = some (aA 480 b') → (∀ j, j ≠ 4 + 4 * p + 2 → b' j = bk j) → h 50 = some (aA 40 it) →
    (∀ h' e' b'' ld', h' 45 = some (aO 9 (mF e')) → (∀ j, j ≠ 13 → j ≠ 14 → e' j = e j) → h' 46 = some (aA 480 b'') → (∀ j, j ≠ 4 + 4 * p + 2 → b'' j = bk j) → Fr (fun j => j = 45 ∨ j = 46) h h' → At G mX9_have 110 [vR 45, vI p, vI o, vI f, vI hd, vI (hvG its bk p x y q ld), vI ld'] [] (0, 0, n) h' Q) →
    At G mX9_have 46 [vR 45, vI p, vI o, vI f, vI hd, vI (-1), vI ld] [] (0, 0, n) h Q := by
  intro q
  induction q with
  | zero =>
    intro ld h e b' hl hq g45 he g46 hb g50 hQ
    refine r_iload (pc := 46) dX9_have_46 rfl <| r_bipush (pc := 48) dX9_have_48 (by decide) <| r_icmp_ge (pc := 50) 110 dX9_have_50 (by decide) (by omega) (by omega) (fun hc_50 => ?_) (fun hc_50 => ?_)
    · skip
      exact hQ h e b' ld g45 (fun j _ _ => rfl) g46 hb Fr.rf
    · skip
      exfalso; omega
  | succ q ih =>
    intro ld h e b' hl hq g45 he g46 hb g50 hQ
    obtain ⟨he11, he12⟩ := he
    have hM' := g45
    unfold mF at hM'
    have eb : iu b' (4 + 4 * p + 2) ld = iu bk (4 + 4 * p + 2) ld := by
      funext j
      by_cases ej : j = 4 + 4 * p + 2
      · rw [ej, iu_s, iu_s]
      · rw [iu_n ej, iu_n ej, hb j ej]
    have hI' := hI.load hp (l := ld) (by omega)
    have hb3 := TI_in (its := its) hI' (x := x) (y := y) (by omega) (by omega) (by omega)
    have hTb : talkF (nmB (iu bk (4 + 4 * p + 2) ld)) it (e 11) (e 12) x y = TI its (iu bk (4 + 4 * p + 2) ld) x y := by rw [he11, he12]; exact hT _ x y
    simp only [hvG] at hQ
    refine r_iload (pc := 46) dX9_have_46 rfl <| r_bipush (pc := 48) dX9_have_48 (by decide) <| r_icmp_ge (pc := 50) 110 dX9_have_50 (by decide) (by omega) (by omega) (fun hc_50 => ?_) (fun hc_50 => ?_)
    · skip
      exfalso; omega
    · skip
      refine r_iload (pc := 53) dX9_have_53 rfl <| r_iconst (pc := 55) dX9_have_55 <| r_icmp_ne (pc := 56) 110 dX9_have_56 (by decide) (by decide) (by decide) (fun q => absurd q (by decide)) (fun _ => ?_)
      refine r_aload_n (pc := 59) dX9_have_59 rfl <| r_getf (pc := 60) dX9_have_60 fA_X9_7 hM' rfl <| r_iconst (pc := 63) dX9_have_63 <| r_iconst (pc := 64) dX9_have_64 <| r_iload_n (pc := 65) dX9_have_65 rfl <| r_imul (pc := 66) dX9_have_66 <| r_iadd (pc := 67) dX9_have_67 <| r_iconst (pc := 68) dX9_have_68 <| r_iadd (pc := 69) dX9_have_69 <| r_iload (pc := 70) dX9_have_70 rfl <| r_iast (pc := 72) dX9_have_72 g46 (by omega) (by decide) (fun h_72 g46 hF_72 => ?_)
      replace hM' := hF_72.keep hM' (by omega)
      rw [eb] at g46
      have g45' := hF_72.keep g45 (by omega)
      have g50' := hF_72.keep g50 (by omega)
      refine r_iload_n (pc := 73) dX9_have_73 rfl <| r_if_eq (pc := 74) 86 dX9_have_74 (by decide) (by omega) (fun hc_74 => ?_) (fun hc_74 => ?_)
      · skip
        refine r_aload_n (pc := 86) dX9_have_86 rfl <| r_iload_n (pc := 87) dX9_have_87 rfl <| r_iload_n (pc := 88) dX9_have_88 rfl <| cVi [_, _] (pc := 89) dX9_have_89 k_X9_171 ⟨⟨Nat.le_of_ble_eq_true rfl, Nat.le_of_ble_eq_true rfl⟩, ⟨Nat.le_of_ble_eq_true rfl, Nat.le_of_ble_eq_true rfl⟩, Nat.le_of_ble_eq_true rfl⟩ ⟨rfl, rfl⟩ hM' ?_
        have ex : x = o := by omega
        have ey : y = p := by omega
        subst ex ey
        refine sp_talks g45' g46 g50' hI'.2.1 hit (by omega) (by omega) (by omega) (by omega) (fun h2 k45 hF2 => ?_)
        rw [hTb] at k45 ⊢
        refine ⟨_, rfl, ?_⟩
        refine r_iload_n (pc := 92) dX9_have_92 rfl <| r_icmp_ne (pc := 93) 101 dX9_have_93 (by decide) (by omega) (by omega) (fun hc_93 => ?_) (fun hc_93 => ?_)
        · skip
          refine r_iconst (pc := 101) dX9_have_101 <| r_istore_5 (pc := 102) dX9_have_102 rfl <| r_iinc_6 (pc := 104) dX9_have_104 rfl rfl <| r_goto (pc := 107) 46 dX9_have_107 (by decide) <| ?_
          have k46 := hF2.keep g46 (by omega)
          have hF : Fr (fun j => j = 45 ∨ j = 46) h h2 := fun j hj => (hF2 j (by omega)).trans (hF_72 j (by omega))
          first
            | (rw [if_pos (by assumption)] at hQ
               refine hv_46 (by omega) (by omega) (hQ h2 _ _ _ k45 (fun j j1 j2 => by unfold nu; rw [if_neg j2, if_neg j1]) k46 (fun j hj => iu_n hj) hF))
            | (rw [if_neg (by assumption)] at hQ
               exact ih (ld + 1) h2 _ _ (by omega) (by omega) k45 ⟨he11, he12⟩ k46 (fun j hj => iu_n hj) (hF.keep g50 (by omega)) (fun h' e' b'' ld' a1 a2 a3 a4 a5 => hQ h' e' b'' ld' a1 (fun j j1 j2 => by rw [a2 j j1 j2]; unfold nu; rw [if_neg j2, if_neg j1]) a3 a4 (fun j hj => (a5 j hj).trans (hF j hj))))
        · skip
          refine r_iload (pc := 96) dX9_have_96 rfl <| r_goto (pc := 98) 102 dX9_have_98 (by decide) <| r_istore_5 (pc := 102) dX9_have_102 rfl <| r_iinc_6 (pc := 104) dX9_have_104 rfl rfl <| r_goto (pc := 107) 46 dX9_have_107 (by decide) <| ?_
          have k46 := hF2.keep g46 (by omega)
          have hF : Fr (fun j => j = 45 ∨ j = 46) h h2 := fun j hj => (hF2 j (by omega)).trans (hF_72 j (by omega))
          first
            | (rw [if_pos (by assumption)] at hQ
               refine hv_46 (by omega) (by omega) (hQ h2 _ _ _ k45 (fun j j1 j2 => by unfold nu; rw [if_neg j2, if_neg j1]) k46 (fun j hj => iu_n hj) hF))
            | (rw [if_neg (by assumption)] at hQ
               exact ih (ld + 1) h2 _ _ (by omega) (by omega) k45 ⟨he11, he12⟩ k46 (fun j hj => iu_n hj) (hF.keep g50 (by omega)) (fun h' e' b'' ld' a1 a2 a3 a4 a5 => hQ h' e' b'' ld' a1 (fun j j1 j2 => by rw [a2 j j1 j2]; unfold nu; rw [if_neg j2, if_neg j1]) a3 a4 (fun j hj => (a5 j hj).trans (hF j hj))))
      · skip
        refine r_aload_n (pc := 77) dX9_have_77 rfl <| r_iload_n (pc := 78) dX9_have_78 rfl <| r_iload_n (pc := 79) dX9_have_79 rfl <| cVi [_, _] (pc := 80) dX9_have_80 k_X9_171 ⟨⟨Nat.le_of_ble_eq_true rfl, Nat.le_of_ble_eq_true rfl⟩, ⟨Nat.le_of_ble_eq_true rfl, Nat.le_of_ble_eq_true rfl⟩, Nat.le_of_ble_eq_true rfl⟩ ⟨rfl, rfl⟩ hM' ?_
        have ex : x = p := by omega
        have ey : y = o := by omega
        subst ex ey
        refine sp_talks g45' g46 g50' hI'.2.1 hit (by omega) (by omega) (by omega) (by omega) (fun h2 k45 hF2 => ?_)
        rw [hTb] at k45 ⊢
        refine ⟨_, rfl, ?_⟩
        refine r_goto (pc := 83) 92 dX9_have_83 (by decide) <| r_iload_n (pc := 92) dX9_have_92 rfl <| r_icmp_ne (pc := 93) 101 dX9_have_93 (by decide) (by omega) (by omega) (fun hc_93 => ?_) (fun hc_93 => ?_)
        · skip
          refine r_iconst (pc := 101) dX9_have_101 <| r_istore_5 (pc := 102) dX9_have_102 rfl <| r_iinc_6 (pc := 104) dX9_have_104 rfl rfl <| r_goto (pc := 107) 46 dX9_have_107 (by decide) <| ?_
          have k46 := hF2.keep g46 (by omega)
          have hF : Fr (fun j => j = 45 ∨ j = 46) h h2 := fun j hj => (hF2 j (by omega)).trans (hF_72 j (by omega))
          first
            | (rw [if_pos (by assumption)] at hQ
               refine hv_46 (by omega) (by omega) (hQ h2 _ _ _ k45 (fun j j1 j2 => by unfold nu; rw [if_neg j2, if_neg j1]) k46 (fun j hj => iu_n hj) hF))
            | (rw [if_neg (by assumption)] at hQ
               exact ih (ld + 1) h2 _ _ (by omega) (by omega) k45 ⟨he11, he12⟩ k46 (fun j hj => iu_n hj) (hF.keep g50 (by omega)) (fun h' e' b'' ld' a1 a2 a3 a4 a5 => hQ h' e' b'' ld' a1 (fun j j1 j2 => by rw [a2 j j1 j2]; unfold nu; rw [if_neg j2, if_neg j1]) a3 a4 (fun j hj => (a5 j hj).trans (hF j hj))))
        · skip
          refine r_iload (pc := 96) dX9_have_96 rfl <| r_goto (pc := 98) 102 dX9_have_98 (by decide) <| r_istore_5 (pc := 102) dX9_have_102 rfl <| r_iinc_6 (pc := 104) dX9_have_104 rfl rfl <| r_goto (pc := 107) 46 dX9_have_107 (by decide) <| ?_
          have k46 := hF2.keep g46 (by omega)
          have hF : Fr (fun j => j = 45 ∨ j = 46) h h2 := fun j hj => (hF2 j (by omega)).trans (hF_72 j (by omega))
          first
            | (rw [if_pos (by assumption)] at hQ
               refine hv_46 (by omega) (by omega) (hQ h2 _ _ _ k45 (fun j j1 j2 => by unfold nu; rw [if_neg j2, if_neg j1]) k46 (fun j hj => iu_n hj) hF))
            | (rw [if_neg (by assumption)] at hQ
               exact ih (ld + 1) h2 _ _ (by omega) (by omega) k45 ⟨he11, he12⟩ k46 (fun j hj => iu_n hj) (hF.keep g50 (by omega)) (fun h' e' b'' ld' a1 a2 a3 a4 a5 => hQ h' e' b'' ld' a1 (fun j j1 j2 => by rw [a2 j j1 j2]; unfold nu; rw [if_neg j2, if_neg j1]) a3 a4 (fun j hj => (a5 j hj).trans (hF j hj))))
theorem ms_have {p o f : Int} (hM : isM h s) (hI : Inv s.bk) (hp : inI p) (ho : inI o) (hf : f = 0 ∨ f = 1) (hQ : ∀ h', isM h' (fHave s p o f).2 → Fr MR h h' → Q (some (vI (fHave s p o f).1)) n h') : Cl G mX9_have [vR 45, vI p, vI o, vI f] n h Q := by
  obtain ⟨e, it, g45, ge, g9, g46, -⟩ := id hM.raw
  have hM' := g45
  unfold mF at hM'
  have i0 := hI.1.1
  unfold fHave at hQ
  refine cl_of (by decide) (Nat.le_of_ble_eq_true rfl) rfl ?_
  refine r_aload_n (pc := 0) dX9_have_0 rfl <| r_iload_n (pc := 1) dX9_have_1 rfl <| r_iload_n (pc := 2) dX9_have_2 rfl <| cVi [_, _] (pc := 3) dX9_have_3 k_X9_81 ⟨⟨Nat.le_of_ble_eq_true rfl, Nat.le_of_ble_eq_true rfl⟩, ⟨Nat.le_of_ble_eq_true rfl, Nat.le_of_ble_eq_true rfl⟩, Nat.le_of_ble_eq_true rfl⟩ ⟨rfl, rfl⟩ hM' ?_
  refine sp_areTwo g45 g46 hI.2.1 hp ho (fun q1 => ?_) (fun q1 => ?_)
  · skip
    refine ⟨_, rfl, ?_⟩
    refine r_if_ne (pc := 6) 14 dX9_have_6 (by decide) (by decide) (fun _ => ?_) (fun q => absurd q (by decide))
    refine r_aload_n (pc := 14) dX9_have_14 rfl <| cVi [] (pc := 15) dX9_have_15 k_X9_145 ⟨⟨Nat.le_of_ble_eq_true rfl, Nat.le_of_ble_eq_true rfl⟩, ⟨Nat.le_of_ble_eq_true rfl, Nat.le_of_ble_eq_true rfl⟩, Nat.le_of_ble_eq_true rfl⟩ ⟨rfl, rfl⟩ hM' ?_
    refine wm_reads hM hI (fun q3 h1 e1 it1 m1 m6 m7 m7' m8 m10 => ?_) (fun q3 h1 m1 m10 => ?_)
    · skip
      refine ⟨_, rfl, ?_⟩
      clear hM' g45 g46
      first
        | (have g45 := m1.2.1; have g46 := m1.2.2.1; have hM' := g45; unfold mF at hM')
        | (obtain ⟨e1, it1, g45, -, -, g46, -⟩ := id m1.raw; have hM' := g45; unfold mF at hM')
      refine r_if_ne (pc := 18) 26 dX9_have_18 (by decide) (by decide) (fun _ => ?_) (fun q => absurd q (by decide))
      refine r_aload_n (pc := 26) dX9_have_26 rfl <| r_getf (pc := 27) dX9_have_27 fA_X9_7 hM' rfl <| r_iconst (pc := 30) dX9_have_30 <| r_iconst (pc := 31) dX9_have_31 <| r_iload_n (pc := 32) dX9_have_32 rfl <| r_imul (pc := 33) dX9_have_33 <| r_iadd (pc := 34) dX9_have_34 <| r_iconst (pc := 35) dX9_have_35 <| r_iadd (pc := 36) dX9_have_36 <| r_iald (pc := 37) dX9_have_37 g46 (by omega) (by decide) <| r_istore_4 (pc := 38) dX9_have_38 rfl <| r_iconst (pc := 40) dX9_have_40 <| r_istore_5 (pc := 41) dX9_have_41 rfl <| r_iconst (pc := 43) dX9_have_43 <| r_istore_6 (pc := 44) dX9_have_44 rfl <| ?_
      rw [if_neg (by omega), if_neg (fun q => q q3)] at hQ
      have hT : ∀ b x y, talkF (nmB b) it1 (e1 11) 0 x y = TI (itB s.bk) b x y := fun b x y => by rw [m7, talk_mod (bk := b) m6]
      obtain ⟨x, y, hxy⟩ : ∃ x y, f = 0 ∧ x = o ∧ y = p ∨ f = 1 ∧ x = p ∧ y = o := by
        rcases hf with e1 | e1
        · exact ⟨o, p, Or.inl ⟨e1, rfl, rfl⟩⟩
        · exact ⟨p, o, Or.inr ⟨e1, rfl, rfl⟩⟩
      refine lp_have hI m1.2.2.2.2.1 m1.2.2.2.2.2.1 hT (by omega) (by omega) (by omega) hxy 10 0 h1 e1 s.bk (by omega) (by omega) g45 ⟨rfl, m8⟩ g46 (fun j _ => rfl) m1.2.2.2.1 (fun h2 e2 b2 ld' a1 a2 a3 a4 a5 => ?_)
      clear hM'
      have hM' := a1
      unfold mF at hM'
      refine r_aload_n (pc := 110) dX9_have_110 rfl <| r_getf (pc := 111) dX9_have_111 fA_X9_7 hM' rfl <| r_iconst (pc := 114) dX9_have_114 <| r_iconst (pc := 115) dX9_have_115 <| r_iload_n (pc := 116) dX9_have_116 rfl <| r_imul (pc := 117) dX9_have_117 <| r_iadd (pc := 118) dX9_have_118 <| r_iconst (pc := 119) dX9_have_119 <| r_iadd (pc := 120) dX9_have_120 <| r_iload (pc := 121) dX9_have_121 rfl <| r_iast (pc := 123) dX9_have_123 a3 (by omega) (by decide) (fun h_123 a3 hF_123 => ?_)
      replace hM' := hF_123.keep hM' (by omega)
      refine r_iload (pc := 124) dX9_have_124 rfl <| r_iret (pc := 126) dX9_have_126 rfl ⟨Nat.le_of_ble_eq_true rfl, Nat.le_of_ble_eq_true rfl⟩ <| ?_
      have eb : iu b2 (4 + 4 * p + 2) (s.bk (4 + 4 * p + 2)) = s.bk := by
        funext j
        by_cases ej : j = 4 + 4 * p + 2
        · rw [ej, iu_s]
        · rw [iu_n ej, a4 j ej]
      rw [eb] at a3
      have hF : Fr (fun j => j = 45 ∨ j = 46) h1 h_123 := fun j hj => (hF_123 j (by omega)).trans (a5 j hj)
      have w2 : wM h_123 s e2 it1 := m1.up (hF_123.keep a1 (by omega)) ⟨a2 4 (by decide) (by decide), a2 5 (by decide) (by decide), a2 9 (by decide) (by decide)⟩ a3 (hF.keep m1.2.2.2.1 (by omega)) m1.2.2.2.2.1 (by rw [a2 11 (by decide) (by decide)]; exact m1.2.2.2.2.2.1) (by rw [a2 12 (by decide) (by decide)]; exact m1.2.2.2.2.2.2) (fun j j1 j2 => Or.inl (hF j (by omega))) (hF.wk (fun j => by omega))
      refine qI ?_ (hQ _ w2.1 (fun j hj => (hF j (by omega)).trans (m10 j hj)))
      rcases hxy with ⟨r1, r2, r3⟩ | ⟨r1, r2, r3⟩
      · rw [if_pos r1, r2, r3]
      · rw [if_neg (by omega), r2, r3]
    · skip
      refine ⟨_, rfl, ?_⟩
      clear hM' g45 g46
      first
        | (have g45 := m1.2.1; have g46 := m1.2.2.1; have hM' := g45; unfold mF at hM')
        | (obtain ⟨e1, it1, g45, -, -, g46, -⟩ := id m1.raw; have hM' := g45; unfold mF at hM')
      refine r_if_ne (pc := 18) 26 dX9_have_18 (by decide) (by decide) (fun q => absurd q (by decide)) (fun _ => ?_)
      refine r_aload_n (pc := 21) dX9_have_21 rfl <| cVi [] (pc := 22) dX9_have_22 k_X9_151 ⟨⟨Nat.le_of_ble_eq_true rfl, Nat.le_of_ble_eq_true rfl⟩, ⟨Nat.le_of_ble_eq_true rfl, Nat.le_of_ble_eq_true rfl⟩, Nat.le_of_ble_eq_true rfl⟩ ⟨rfl, rfl⟩ hM' ?_
      refine ms_no m1 (fun h2 g1 g2 => ?_)
      refine ⟨_, rfl, ?_⟩
      refine r_iret (pc := 25) dX9_have_25 rfl ⟨Nat.le_of_ble_eq_true rfl, Nat.le_of_ble_eq_true rfl⟩ <| ?_
      rw [if_neg (by omega), if_pos q3] at hQ; exact hQ _ g1 (fun j hj => (g2 j hj).trans (m10 j hj))
  · skip
    refine ⟨_, rfl, ?_⟩
    refine r_if_ne (pc := 6) 14 dX9_have_6 (by decide) (by decide) (fun q => absurd q (by decide)) (fun _ => ?_)
    refine r_aload_n (pc := 9) dX9_have_9 rfl <| cVi [] (pc := 10) dX9_have_10 k_X9_69 ⟨⟨Nat.le_of_ble_eq_true rfl, Nat.le_of_ble_eq_true rfl⟩, ⟨Nat.le_of_ble_eq_true rfl, Nat.le_of_ble_eq_true rfl⟩, Nat.le_of_ble_eq_true rfl⟩ ⟨rfl, rfl⟩ hM' ?_
    refine ms_bad hM (fun h1 g1 g2 => ?_)
    refine ⟨_, rfl, ?_⟩
    refine r_iret (pc := 13) dX9_have_13 rfl ⟨Nat.le_of_ble_eq_true rfl, Nat.le_of_ble_eq_true rfl⟩ <| ?_
    rw [if_pos (by omega)] at hQ; exact hQ _ g1 g2
def upS (T : Int → Int → Int × Int × Int) (p : Int) : Int → Int → Int := fun o x => if o = p then x else x + ((if (T p o).1 = p then 1 else 0) + (if (T o p).1 = p then 1 else 0))
def upF (bk : Int → Int) (p : Int) : Int := lpI (upS (TB bk) p) (bk 0).toNat 0 0
def SS.fr (s : SS) (u d : Int) : SS := (s.bk, s.i0, s.i1, u, d, s.c0, s.c1, s.c2)
def gdF (u a : Int) : Int := ((Nat.gcd u.toNat a.toNat : Nat) : Int)
def fFirsts (s : SS) (p : Int) : Int × SS := if ¬ (0 ≤ p ∧ p < s.bk 0) then (-2, s.bad) else if ¬ okB s.bk ∨ s.bk 0 < 2 then (-3, s.no) else (1, s.fr (upF s.bk p / gdF (upF s.bk p) (2 * (s.bk 0 - 1))) (2 * (s.bk 0 - 1) / gdF (upF s.bk p) (2 * (s.bk 0 - 1))))
theorem lp_div {u0 u1 : Int} : ∀ (y : Nat) (x : Nat) (l4 : AV), x < 100 → y < 100 → Q (some (vI ((Nat.gcd x y : Nat) : Int))) n h → At G mX9_divisor 4 [vI u0, vI u1, vI (x : Int), vI (y : Int), l4] [] (0, 0, n) h Q := by
  intro y
  induction y using Nat.strongRecOn with
  | _ y ih =>
    intro x l4 hx hy hQ
    by_cases c : y = 0
    · subst c
      rw [Nat.gcd_zero_right] at hQ
      refine r_iload_n (pc := 4) dX9_divisor_4 rfl <| r_if_eq (pc := 5) 21 dX9_divisor_5 (by decide) (by omega) (fun hc_5 => ?_) (fun hc_5 => ?_)
      · skip
        refine r_iload_n (pc := 21) dX9_divisor_21 rfl <| r_iret (pc := 22) dX9_divisor_22 rfl ⟨Nat.le_of_ble_eq_true rfl, Nat.le_of_ble_eq_true rfl⟩ <| ?_
        exact hQ
      · skip
        exfalso; omega
    · skip
      refine r_iload_n (pc := 4) dX9_divisor_4 rfl <| r_if_eq (pc := 5) 21 dX9_divisor_5 (by decide) (by omega) (fun hc_5 => ?_) (fun hc_5 => ?_)
      · skip
        exfalso; omega
      · skip
        refine r_iload_n (pc := 8) dX9_divisor_8 rfl <| r_iload_n (pc := 9) dX9_divisor_9 rfl <| r_irem (pc := 10) dX9_divisor_10 (by omega) (by omega) <| r_istore_4 (pc := 11) dX9_divisor_11 rfl <| r_iload_n (pc := 13) dX9_divisor_13 rfl <| r_istoren_2 (pc := 14) dX9_divisor_14 rfl <| r_iload (pc := 15) dX9_divisor_15 rfl <| r_istoren_3 (pc := 17) dX9_divisor_17 rfl <| r_goto (pc := 18) 4 dX9_divisor_18 (by decide) <| ?_
        have hlt := Nat.mod_lt x (show y > 0 by omega)
        have := ih (x % y) hlt y (vI ((x : Int) % (y : Int))) hy (by omega) (by
          rw [show Nat.gcd y (x % y) = Nat.gcd x y by rw [Nat.gcd_comm y (x % y), ← Nat.gcd_rec, Nat.gcd_comm]]
          exact hQ)
        rw [show ((x % y : Nat) : Int) = (x : Int) % (y : Int) by simp] at this
        exact this
theorem sp_divisor {x y : Int} (hx : 0 ≤ x ∧ x < 100) (hy : 0 ≤ y ∧ y < 100) (hQ : Q (some (vI (gdF x y))) n h) : Cl G mX9_divisor [vI x, vI y] n h Q := by
  refine cl_of (by decide) (Nat.le_of_ble_eq_true rfl) rfl ?_
  refine r_iload_n (pc := 0) dX9_divisor_0 rfl <| r_istoren_2 (pc := 1) dX9_divisor_1 rfl <| r_iload_n (pc := 2) dX9_divisor_2 rfl <| r_istoren_3 (pc := 3) dX9_divisor_3 rfl <| ?_
  have := lp_div (G := G) (n := n) (h := h) (Q := Q) (u0 := x) (u1 := y) y.toNat x.toNat vU (by omega) (by omega) hQ
  rw [show ((y.toNat : Nat) : Int) = y by omega, show ((x.toNat : Nat) : Int) = x by omega] at this
  exact this
theorem upS_in {T : Int → Int → Int × Int × Int} {p o x : Int} : x ≤ upS T p o x ∧ upS T p o x ≤ x + 2 ∧ (o = p → upS T p o x = x) := by
  unfold upS
  (repeat' split) <;> omega
theorem lp_firsts {p : Int} {m : Int} (hI : Inv s.bk) (hT : talkF (nmB s.bk) it m 0 = TB s.bk) (hp : 0 ≤ p ∧ p < s.bk 0) : ∀ (q : Nat) (o x : Int) (h : Hp) (e : Nat → Int) (l4 : AV), 0 ≤ o → o + q = s.bk 0 → (0 ≤ x ∧ x ≤ 2 * (if p < o then o - 1 else o)) → wM h s e it → e 11 = m → e 12 = 0 →
    (∀ h' e' o' l4', wM h' s e' it → (0 ≤ lpI (upS (TB s.bk) p) q o x ∧ lpI (upS (TB s.bk) p) q o x ≤ 2 * (s.bk 0 - 1)) → Fr MR h h' → At G mX9_firsts 94 [vR 45, vI p, vI (lpI (upS (TB s.bk) p) q o x), vI o', l4'] [] (0, 0, n) h' Q) → At G mX9_firsts 39 [vR 45, vI p, vI x, vI o, l4] [] (0, 0, n) h Q := by
  have i0 := hI.1.1
  intro q
  induction q with
  | zero =>
    intro o x h e l4 ho hq hx hW h11 h12 hQ
    have hM' := hW.2.1
    unfold mF at hM'
    have g46 := hW.2.2.1
    rw [if_pos (by omega)] at hx
    refine r_iload_n (pc := 39) dX9_firsts_39 rfl <| r_aload_n (pc := 40) dX9_firsts_40 rfl <| r_getf (pc := 41) dX9_firsts_41 fA_X9_7 hM' rfl <| r_iconst (pc := 44) dX9_firsts_44 <| r_iald (pc := 45) dX9_firsts_45 g46 (by omega) (by decide) <| r_icmp_ge (pc := 46) 94 dX9_firsts_46 (by decide) (by omega) (by omega) (fun hc_46 => ?_) (fun hc_46 => ?_)
    · skip
      exact hQ h e o _ hW (by simp only [lpI]; omega) Fr.rf
    · skip
      exfalso; omega
  | succ q ih =>
    intro o x h e l4 ho hq hx hW h11 h12 hQ
    have hM' := hW.2.1
    unfold mF at hM'
    have g46 := hW.2.2.1
    have hT1 : talkF (nmB s.bk) it (e 11) (e 12) p o = TB s.bk p o := by rw [h11, h12, hT]
    have hu := @upS_in (TB s.bk) p o x
    have hx2 : 0 ≤ upS (TB s.bk) p o x ∧ upS (TB s.bk) p o x ≤ 2 * (if p < o + 1 then o + 1 - 1 else o + 1) := by
      by_cases c : p < o
      · rw [if_pos c] at hx; rw [if_pos (by omega)]; omega
      · rw [if_neg c] at hx
        by_cases c2 : o = p
        · rw [if_pos (by omega)]; omega
        · rw [if_neg (by omega)]; omega
    have hx3 : x ≤ 20 := by
      by_cases c : p < o
      · rw [if_pos c] at hx; omega
      · rw [if_neg c] at hx; omega
    clear hx
    have hu2 : upS (TB s.bk) p o x = if o = p then x else x + ((if (TB s.bk p o).1 = p then 1 else 0) + (if (TB s.bk o p).1 = p then 1 else 0)) := rfl
    by_cases c : o = p
    · rw [if_pos c] at hu2
      refine r_iload_n (pc := 39) dX9_firsts_39 rfl <| r_aload_n (pc := 40) dX9_firsts_40 rfl <| r_getf (pc := 41) dX9_firsts_41 fA_X9_7 hM' rfl <| r_iconst (pc := 44) dX9_firsts_44 <| r_iald (pc := 45) dX9_firsts_45 g46 (by omega) (by decide) <| r_icmp_ge (pc := 46) 94 dX9_firsts_46 (by decide) (by omega) (by omega) (fun hc_46 => ?_) (fun hc_46 => ?_)
      · skip
        exfalso; omega
      · skip
        refine r_iload_n (pc := 49) dX9_firsts_49 rfl <| r_iload_n (pc := 50) dX9_firsts_50 rfl <| r_icmp_eq (pc := 51) 88 dX9_firsts_51 (by decide) (by omega) (by omega) (fun hc_51 => ?_) (fun hc_51 => ?_)
        · skip
          refine r_iinc_3 (pc := 88) dX9_firsts_88 rfl rfl <| r_goto (pc := 91) 39 dX9_firsts_91 (by decide) <| ?_
          have hs := ih (o + 1) (upS (TB s.bk) p o x) h e l4 (by omega) (by omega) hx2 hW h11 h12 hQ
          rw [hu2] at hs
          exact hs
        · skip
          exfalso; omega
    · rw [if_neg c] at hu2
      have r1 := TB_in (many := (itB s.bk).length) (sk := 0) (it := itOf (itB s.bk)) hI (x := p) (y := o) (by omega) (by omega) (by omega)
      have r2 := TB_in (many := (itB s.bk).length) (sk := 0) (it := itOf (itB s.bk)) hI (x := o) (y := p) (by omega) (by omega) (by omega)
      have b1 : (TB s.bk p o).1 = -1 ∨ (TB s.bk p o).1 = p ∨ (TB s.bk p o).1 = o := TI_in (its := itB s.bk) hI (by omega) (by omega) (by omega)
      have b2 : (TB s.bk o p).1 = -1 ∨ (TB s.bk o p).1 = o ∨ (TB s.bk o p).1 = p := TI_in (its := itB s.bk) hI (by omega) (by omega) (by omega)
      clear r1 r2
      refine r_iload_n (pc := 39) dX9_firsts_39 rfl <| r_aload_n (pc := 40) dX9_firsts_40 rfl <| r_getf (pc := 41) dX9_firsts_41 fA_X9_7 hM' rfl <| r_iconst (pc := 44) dX9_firsts_44 <| r_iald (pc := 45) dX9_firsts_45 g46 (by omega) (by decide) <| r_icmp_ge (pc := 46) 94 dX9_firsts_46 (by decide) (by omega) (by omega) (fun hc_46 => ?_) (fun hc_46 => ?_)
      · skip
        exfalso; omega
      · skip
        refine r_iload_n (pc := 49) dX9_firsts_49 rfl <| r_iload_n (pc := 50) dX9_firsts_50 rfl <| r_icmp_eq (pc := 51) 88 dX9_firsts_51 (by decide) (by omega) (by omega) (fun hc_51 => ?_) (fun hc_51 => ?_)
        · skip
          exfalso; omega
        · skip
          refine r_iload_n (pc := 54) dX9_firsts_54 rfl <| r_aload_n (pc := 55) dX9_firsts_55 rfl <| r_iload_n (pc := 56) dX9_firsts_56 rfl <| r_iload_n (pc := 57) dX9_firsts_57 rfl <| cVi [_, _] (pc := 58) dX9_firsts_58 k_X9_171 ⟨⟨Nat.le_of_ble_eq_true rfl, Nat.le_of_ble_eq_true rfl⟩, ⟨Nat.le_of_ble_eq_true rfl, Nat.le_of_ble_eq_true rfl⟩, Nat.le_of_ble_eq_true rfl⟩ ⟨rfl, rfl⟩ hM' ?_
          refine wm_talks hW hI (by omega) (by omega) (fun h1 e1 w1 w2 w3 hF1 => ?_)
          rw [hT1]
          have hT2 : talkF (nmB s.bk) it (e1 11) (e1 12) o p = TB s.bk o p := by rw [w2 11 (by decide) (by decide), w2 12 (by decide) (by decide), h11, h12, hT]
          clear hM'
          have hM' := w1.2.1
          unfold mF at hM'
          refine ⟨_, rfl, ?_⟩
          refine r_iload_n (pc := 61) dX9_firsts_61 rfl <| r_icmp_ne (pc := 62) 69 dX9_firsts_62 (by decide) (by omega) (by omega) (fun hc_62 => ?_) (fun hc_62 => ?_)
          · skip
            refine r_iconst (pc := 69) dX9_firsts_69 <| r_aload_n (pc := 70) dX9_firsts_70 rfl <| r_iload_n (pc := 71) dX9_firsts_71 rfl <| r_iload_n (pc := 72) dX9_firsts_72 rfl <| cVi [_, _] (pc := 73) dX9_firsts_73 k_X9_171 ⟨⟨Nat.le_of_ble_eq_true rfl, Nat.le_of_ble_eq_true rfl⟩, ⟨Nat.le_of_ble_eq_true rfl, Nat.le_of_ble_eq_true rfl⟩, Nat.le_of_ble_eq_true rfl⟩ ⟨rfl, rfl⟩ hM' ?_
            refine wm_talks w1 hI (by omega) (by omega) (fun h2 e2 v1 v2 v3 hF2 => ?_)
            rw [hT2]
            clear hM'
            have hM' := v1.2.1
            unfold mF at hM'
            have g46 := v1.2.2.1
            have hF : Fr MR h h2 := fun j hj => (hF2 j (by omega)).trans (hF1 j (by omega))
            refine ⟨_, rfl, ?_⟩
            refine r_iload_n (pc := 76) dX9_firsts_76 rfl <| r_icmp_ne (pc := 77) 84 dX9_firsts_77 (by decide) (by omega) (by omega) (fun hc_77 => ?_) (fun hc_77 => ?_)
            · skip
              refine r_iconst (pc := 84) dX9_firsts_84 <| r_iadd (pc := 85) dX9_firsts_85 <| r_iadd (pc := 86) dX9_firsts_86 <| r_istoren_2 (pc := 87) dX9_firsts_87 rfl <| r_iinc_3 (pc := 88) dX9_firsts_88 rfl rfl <| r_goto (pc := 91) 39 dX9_firsts_91 (by decide) <| ?_
              have hs := fun l4 => ih (o + 1) (upS (TB s.bk) p o x) h2 e2 l4 (by omega) (by omega) hx2 v1 ((v2 11 (by decide) (by decide)).trans ((w2 11 (by decide) (by decide)).trans h11)) ((v2 12 (by decide) (by decide)).trans ((w2 12 (by decide) (by decide)).trans h12)) (fun h' e' o' l4' c1 c2 c3 => hQ h' e' o' l4' c1 c2 (fun j hj => (c3 j hj).trans (hF j hj)))
              rw [hu2] at hs
              first
                | (rw [if_pos (by assumption), if_pos (by assumption)] at hs; exact hs _)
                | (rw [if_pos (by assumption), if_neg (by assumption)] at hs; exact hs _)
                | (rw [if_neg (by assumption), if_pos (by assumption)] at hs; exact hs _)
                | (rw [if_neg (by assumption), if_neg (by assumption)] at hs; exact hs _)
            · skip
              refine r_iconst (pc := 80) dX9_firsts_80 <| r_goto (pc := 81) 85 dX9_firsts_81 (by decide) <| r_iadd (pc := 85) dX9_firsts_85 <| r_iadd (pc := 86) dX9_firsts_86 <| r_istoren_2 (pc := 87) dX9_firsts_87 rfl <| r_iinc_3 (pc := 88) dX9_firsts_88 rfl rfl <| r_goto (pc := 91) 39 dX9_firsts_91 (by decide) <| ?_
              have hs := fun l4 => ih (o + 1) (upS (TB s.bk) p o x) h2 e2 l4 (by omega) (by omega) hx2 v1 ((v2 11 (by decide) (by decide)).trans ((w2 11 (by decide) (by decide)).trans h11)) ((v2 12 (by decide) (by decide)).trans ((w2 12 (by decide) (by decide)).trans h12)) (fun h' e' o' l4' c1 c2 c3 => hQ h' e' o' l4' c1 c2 (fun j hj => (c3 j hj).trans (hF j hj)))
              rw [hu2] at hs
              first
                | (rw [if_pos (by assumption), if_pos (by assumption)] at hs; exact hs _)
                | (rw [if_pos (by assumption), if_neg (by assumption)] at hs; exact hs _)
                | (rw [if_neg (by assumption), if_pos (by assumption)] at hs; exact hs _)
                | (rw [if_neg (by assumption), if_neg (by assumption)] at hs; exact hs _)
          · skip
            refine r_iconst (pc := 65) dX9_firsts_65 <| r_goto (pc := 66) 70 dX9_firsts_66 (by decide) <| r_aload_n (pc := 70) dX9_firsts_70 rfl <| r_iload_n (pc := 71) dX9_firsts_71 rfl <| r_iload_n (pc := 72) dX9_firsts_72 rfl <| cVi [_, _] (pc := 73) dX9_firsts_73 k_X9_171 ⟨⟨Nat.le_of_ble_eq_true rfl, Nat.le_of_ble_eq_true rfl⟩, ⟨Nat.le_of_ble_eq_true rfl, Nat.le_of_ble_eq_true rfl⟩, Nat.le_of_ble_eq_true rfl⟩ ⟨rfl, rfl⟩ hM' ?_
            refine wm_talks w1 hI (by omega) (by omega) (fun h2 e2 v1 v2 v3 hF2 => ?_)
            rw [hT2]
            clear hM'
            have hM' := v1.2.1
            unfold mF at hM'
            have g46 := v1.2.2.1
            have hF : Fr MR h h2 := fun j hj => (hF2 j (by omega)).trans (hF1 j (by omega))
            refine ⟨_, rfl, ?_⟩
            refine r_iload_n (pc := 76) dX9_firsts_76 rfl <| r_icmp_ne (pc := 77) 84 dX9_firsts_77 (by decide) (by omega) (by omega) (fun hc_77 => ?_) (fun hc_77 => ?_)
            · skip
              refine r_iconst (pc := 84) dX9_firsts_84 <| r_iadd (pc := 85) dX9_firsts_85 <| r_iadd (pc := 86) dX9_firsts_86 <| r_istoren_2 (pc := 87) dX9_firsts_87 rfl <| r_iinc_3 (pc := 88) dX9_firsts_88 rfl rfl <| r_goto (pc := 91) 39 dX9_firsts_91 (by decide) <| ?_
              have hs := fun l4 => ih (o + 1) (upS (TB s.bk) p o x) h2 e2 l4 (by omega) (by omega) hx2 v1 ((v2 11 (by decide) (by decide)).trans ((w2 11 (by decide) (by decide)).trans h11)) ((v2 12 (by decide) (by decide)).trans ((w2 12 (by decide) (by decide)).trans h12)) (fun h' e' o' l4' c1 c2 c3 => hQ h' e' o' l4' c1 c2 (fun j hj => (c3 j hj).trans (hF j hj)))
              rw [hu2] at hs
              first
                | (rw [if_pos (by assumption), if_pos (by assumption)] at hs; exact hs _)
                | (rw [if_pos (by assumption), if_neg (by assumption)] at hs; exact hs _)
                | (rw [if_neg (by assumption), if_pos (by assumption)] at hs; exact hs _)
                | (rw [if_neg (by assumption), if_neg (by assumption)] at hs; exact hs _)
            · skip
              refine r_iconst (pc := 80) dX9_firsts_80 <| r_goto (pc := 81) 85 dX9_firsts_81 (by decide) <| r_iadd (pc := 85) dX9_firsts_85 <| r_iadd (pc := 86) dX9_firsts_86 <| r_istoren_2 (pc := 87) dX9_firsts_87 rfl <| r_iinc_3 (pc := 88) dX9_firsts_88 rfl rfl <| r_goto (pc := 91) 39 dX9_firsts_91 (by decide) <| ?_
              have hs := fun l4 => ih (o + 1) (upS (TB s.bk) p o x) h2 e2 l4 (by omega) (by omega) hx2 v1 ((v2 11 (by decide) (by decide)).trans ((w2 11 (by decide) (by decide)).trans h11)) ((v2 12 (by decide) (by decide)).trans ((w2 12 (by decide) (by decide)).trans h12)) (fun h' e' o' l4' c1 c2 c3 => hQ h' e' o' l4' c1 c2 (fun j hj => (c3 j hj).trans (hF j hj)))
              rw [hu2] at hs
              first
                | (rw [if_pos (by assumption), if_pos (by assumption)] at hs; exact hs _)
                | (rw [if_pos (by assumption), if_neg (by assumption)] at hs; exact hs _)
                | (rw [if_neg (by assumption), if_pos (by assumption)] at hs; exact hs _)
                | (rw [if_neg (by assumption), if_neg (by assumption)] at hs; exact hs _)
theorem isM.frac {h' : Hp} {e' : Nat → Int} {u d : Int} (hM : isM h s) (k45 : h' 45 = some (aO 9 (mF e'))) (he : e' 4 = u ∧ e' 5 = d) (h9 : -10000 ≤ e' 9 ∧ e' 9 ≤ 10000) (hF : Fr (fun q => q = 45) h h') : isM h' (s.fr u d) := by
  obtain ⟨e, it, im, kp, rf, hd, ln, gs, bs, cs, fr, lf, g45, ge, g9, g46, g47, g48, g49, g50, gi, g51, g52, g53, g54, g55, g56, g57, gr⟩ := hM
  exact ⟨e', it, im, kp, rf, hd, ln, gs, bs, cs, fr, lf, k45, he, h9, hF.keep g46 (by omega), hF.keep g47 (by omega), hF.keep g48 (by omega), hF.keep g49 (by omega), hF.keep g50 (by omega), gi, hF.keep g51 (by omega), hF.keep g52 (by omega), hF.keep g53 (by omega), hF.keep g54 (by omega), hF.keep g55 (by omega), hF.keep g56 (by omega), hF.keep g57 (by omega), gr⟩
theorem gdF_pos {u a : Int} (hu : 0 ≤ u) (ha : 0 < a) : 0 < gdF u a ∧ gdF u a ≤ a := by
  unfold gdF
  have h1 : 0 < Nat.gcd u.toNat a.toNat := Nat.gcd_pos_of_pos_right _ (by omega)
  have h2 : Nat.gcd u.toNat a.toNat ≤ a.toNat := Nat.gcd_le_right _ (by omega)
  omega
theorem ms_firsts {p : Int} (hM : isM h s) (hI : Inv s.bk) (hp : inI p) (hQ : ∀ h', isM h' (fFirsts s p).2 → Fr MR h h' → Q (some (vI (fFirsts s p).1)) n h') : Cl G mX9_firsts [vR 45, vI p] n h Q := by
  obtain ⟨e, it, g45, ge, g9, g46, -⟩ := id hM.raw
  have hM' := g45
  unfold mF at hM'
  have i0 := hI.1.1
  unfold fFirsts at hQ
  refine cl_of (by decide) (Nat.le_of_ble_eq_true rfl) rfl ?_
  refine r_aload_n (pc := 0) dX9_firsts_0 rfl <| r_iload_n (pc := 1) dX9_firsts_1 rfl <| cVi [_] (pc := 2) dX9_firsts_2 k_X9_59 ⟨⟨Nat.le_of_ble_eq_true rfl, Nat.le_of_ble_eq_true rfl⟩, ⟨Nat.le_of_ble_eq_true rfl, Nat.le_of_ble_eq_true rfl⟩, Nat.le_of_ble_eq_true rfl⟩ ⟨rfl, rfl⟩ hM' ?_
  refine sp_isPerson g45 g46 hI.2.1 hp (fun q1 => ?_) (fun q1 => ?_)
  · skip
    refine ⟨_, rfl, ?_⟩
    refine r_if_ne (pc := 5) 13 dX9_firsts_5 (by decide) (by decide) (fun _ => ?_) (fun q => absurd q (by decide))
    refine r_aload_n (pc := 13) dX9_firsts_13 rfl <| cVi [] (pc := 14) dX9_firsts_14 k_X9_145 ⟨⟨Nat.le_of_ble_eq_true rfl, Nat.le_of_ble_eq_true rfl⟩, ⟨Nat.le_of_ble_eq_true rfl, Nat.le_of_ble_eq_true rfl⟩, Nat.le_of_ble_eq_true rfl⟩ ⟨rfl, rfl⟩ hM' ?_
    refine wm_reads hM hI (fun q3 h1 e1 it1 m1 m6 m7 m7' m8 m10 => ?_) (fun q3 h1 m1 m10 => ?_)
    · skip
      refine ⟨_, rfl, ?_⟩
      clear hM' g45 g46
      first
        | (have g45 := m1.2.1; have g46 := m1.2.2.1; have hM' := g45; unfold mF at hM')
        | (obtain ⟨e1, it1, g45, -, -, g46, -⟩ := id m1.raw; have hM' := g45; unfold mF at hM')
      refine r_if_eq (pc := 17) 30 dX9_firsts_17 (by decide) (by decide) (fun q => absurd q (by decide)) (fun _ => ?_)
      refine r_aload_n (pc := 20) dX9_firsts_20 rfl <| r_getf (pc := 21) dX9_firsts_21 fA_X9_7 hM' rfl <| r_iconst (pc := 24) dX9_firsts_24 <| r_iald (pc := 25) dX9_firsts_25 g46 (by omega) (by decide) <| r_iconst (pc := 26) dX9_firsts_26 <| r_icmp_ge (pc := 27) 35 dX9_firsts_27 (by decide) (by omega) (by omega) (fun hc_27 => ?_) (fun hc_27 => ?_)
      · skip
        refine r_iconst (pc := 35) dX9_firsts_35 <| r_istoren_2 (pc := 36) dX9_firsts_36 rfl <| r_iconst (pc := 37) dX9_firsts_37 <| r_istoren_3 (pc := 38) dX9_firsts_38 rfl <| ?_
        rw [if_neg (by omega), if_neg (fun q => q.elim (fun q => q q3) (by omega))] at hQ
        refine lp_firsts hI (TB_fun m6 m7 rfl) (by omega) (s.bk 0).toNat 0 0 h1 e1 _ (by omega) (by omega) ⟨by omega, by split <;> omega⟩ m1 rfl m8 (fun h2 e2 o' l4' a1 a2 a3 => ?_)
        change At G mX9_firsts 94 [vR 45, vI p, vI (upF s.bk p), vI o', l4'] [] (0, 0, n) h2 Q
        change 0 ≤ upF s.bk p ∧ upF s.bk p ≤ 2 * (s.bk 0 - 1) at a2
        have hgp := gdF_pos (u := upF s.bk p) (a := 2 * (s.bk 0 - 1)) a2.1 (by omega)
        have hex := a1.1.e45 a1.2.1
        generalize hU : upF s.bk p = U at *
        clear hM' g46
        have hM' := a1.2.1
        unfold mF at hM'
        have g46 := a1.2.2.1
        refine r_iconst (pc := 94) dX9_firsts_94 <| r_aload_n (pc := 95) dX9_firsts_95 rfl <| r_getf (pc := 96) dX9_firsts_96 fA_X9_7 hM' rfl <| r_iconst (pc := 99) dX9_firsts_99 <| r_iald (pc := 100) dX9_firsts_100 g46 (by omega) (by decide) <| r_iconst (pc := 101) dX9_firsts_101 <| r_isub (pc := 102) dX9_firsts_102 <| r_imul (pc := 103) dX9_firsts_103 <| r_istoren_3 (pc := 104) dX9_firsts_104 rfl <| r_iload_n (pc := 105) dX9_firsts_105 rfl <| r_iload_n (pc := 106) dX9_firsts_106 rfl <| cSi [_, _] (pc := 107) dX9_firsts_107 k_X9_214 ⟨⟨Nat.le_of_ble_eq_true rfl, Nat.le_of_ble_eq_true rfl⟩, ⟨Nat.le_of_ble_eq_true rfl, Nat.le_of_ble_eq_true rfl⟩, Nat.le_of_ble_eq_true rfl⟩ ⟨rfl, rfl⟩ ?_
        refine sp_divisor (by omega) (by omega) ?_
        refine ⟨_, rfl, ?_⟩
        refine r_istore_4 (pc := 110) dX9_firsts_110 rfl <| r_aload_n (pc := 112) dX9_firsts_112 rfl <| r_iload_n (pc := 113) dX9_firsts_113 rfl <| r_iload (pc := 114) dX9_firsts_114 rfl <| r_idiv (pc := 116) dX9_firsts_116 (by omega) (by omega) <| r_putf (pc := 117) dX9_firsts_117 fP_X9_217 rfl rfl hM' rfl (fun h_117 hM' hF_117 => ?_)
        simp only [List.set_cons_zero, List.set_cons_succ] at hM'
        replace g46 := hF_117.keep g46 (by omega)
        refine r_aload_n (pc := 120) dX9_firsts_120 rfl <| r_iload_n (pc := 121) dX9_firsts_121 rfl <| r_iload (pc := 122) dX9_firsts_122 rfl <| r_idiv (pc := 124) dX9_firsts_124 (by omega) (by omega) <| r_putf (pc := 125) dX9_firsts_125 fP_X9_47 rfl rfl hM' rfl (fun h_125 hM' hF_125 => ?_)
        simp only [List.set_cons_zero, List.set_cons_succ] at hM'
        replace g46 := hF_125.keep g46 (by omega)
        refine r_iconst (pc := 128) dX9_firsts_128 <| r_iret (pc := 129) dX9_firsts_129 rfl ⟨Nat.le_of_ble_eq_true rfl, Nat.le_of_ble_eq_true rfl⟩ <| ?_
        have k45 : h_125 45 = some (aO 9 (mF (nu (nu e2 4 (U / gdF U (2 * (s.bk 0 - 1)))) 5 (2 * (s.bk 0 - 1) / gdF U (2 * (s.bk 0 - 1)))))) := hM'
        have hF : Fr (fun q => q = 45) h2 h_125 := fun j hj => (hF_125 j hj).trans (hF_117 j hj)
        exact hQ _ (a1.1.frac k45 ⟨rfl, rfl⟩ hex.2 hF) (fun j hj => (hF j (by omega)).trans ((a3 j hj).trans (m10 j hj)))
      · skip
        refine r_aload_n (pc := 30) dX9_firsts_30 rfl <| cVi [] (pc := 31) dX9_firsts_31 k_X9_151 ⟨⟨Nat.le_of_ble_eq_true rfl, Nat.le_of_ble_eq_true rfl⟩, ⟨Nat.le_of_ble_eq_true rfl, Nat.le_of_ble_eq_true rfl⟩, Nat.le_of_ble_eq_true rfl⟩ ⟨rfl, rfl⟩ hM' ?_
        first | refine ms_no m1.1 (fun h2 g1 g2 => ?_) | refine ms_no m1 (fun h2 g1 g2 => ?_)
        refine ⟨_, rfl, ?_⟩
        refine r_iret (pc := 34) dX9_firsts_34 rfl ⟨Nat.le_of_ble_eq_true rfl, Nat.le_of_ble_eq_true rfl⟩ <| ?_
        first
          | (rw [if_neg (by omega), if_pos (Or.inl q3)] at hQ; exact hQ _ g1 (fun j hj => (g2 j hj).trans (m10 j hj)))
          | (rw [if_neg (by omega), if_pos (Or.inr (by omega))] at hQ; exact hQ _ g1 (fun j hj => (g2 j hj).trans (m10 j hj)))
    · skip
      refine ⟨_, rfl, ?_⟩
      clear hM' g45 g46
      first
        | (have g45 := m1.2.1; have g46 := m1.2.2.1; have hM' := g45; unfold mF at hM')
        | (obtain ⟨e1, it1, g45, -, -, g46, -⟩ := id m1.raw; have hM' := g45; unfold mF at hM')
      refine r_if_eq (pc := 17) 30 dX9_firsts_17 (by decide) (by decide) (fun _ => ?_) (fun q => absurd q (by decide))
      refine r_aload_n (pc := 30) dX9_firsts_30 rfl <| cVi [] (pc := 31) dX9_firsts_31 k_X9_151 ⟨⟨Nat.le_of_ble_eq_true rfl, Nat.le_of_ble_eq_true rfl⟩, ⟨Nat.le_of_ble_eq_true rfl, Nat.le_of_ble_eq_true rfl⟩, Nat.le_of_ble_eq_true rfl⟩ ⟨rfl, rfl⟩ hM' ?_
      first | refine ms_no m1.1 (fun h2 g1 g2 => ?_) | refine ms_no m1 (fun h2 g1 g2 => ?_)
      refine ⟨_, rfl, ?_⟩
      refine r_iret (pc := 34) dX9_firsts_34 rfl ⟨Nat.le_of_ble_eq_true rfl, Nat.le_of_ble_eq_true rfl⟩ <| ?_
      first
        | (rw [if_neg (by omega), if_pos (Or.inl q3)] at hQ; exact hQ _ g1 (fun j hj => (g2 j hj).trans (m10 j hj)))
        | (rw [if_neg (by omega), if_pos (Or.inr (by omega))] at hQ; exact hQ _ g1 (fun j hj => (g2 j hj).trans (m10 j hj)))
  · skip
    refine ⟨_, rfl, ?_⟩
    refine r_if_ne (pc := 5) 13 dX9_firsts_5 (by decide) (by decide) (fun q => absurd q (by decide)) (fun _ => ?_)
    refine r_aload_n (pc := 8) dX9_firsts_8 rfl <| cVi [] (pc := 9) dX9_firsts_9 k_X9_69 ⟨⟨Nat.le_of_ble_eq_true rfl, Nat.le_of_ble_eq_true rfl⟩, ⟨Nat.le_of_ble_eq_true rfl, Nat.le_of_ble_eq_true rfl⟩, Nat.le_of_ble_eq_true rfl⟩ ⟨rfl, rfl⟩ hM' ?_
    refine ms_bad hM (fun h1 g1 g2 => ?_)
    refine ⟨_, rfl, ?_⟩
    refine r_iret (pc := 12) dX9_firsts_12 rfl ⟨Nat.le_of_ble_eq_true rfl, Nat.le_of_ble_eq_true rfl⟩ <| ?_
    rw [if_pos (by omega)] at hQ; exact hQ _ g1 g2
end MHv


