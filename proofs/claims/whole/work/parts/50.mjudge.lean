/-! ===== the model: judge, learns ===== -/
theorem Inv.bows {bk b' : Int → Int} (hI : Inv bk) (ho : ∀ j, ¬ (36 ≤ j ∧ j < 164) → b' j = bk j) (hb : Bd b' (-1) 255) (h1 : ∀ i, 0 ≤ i → i < 64 → 0 ≤ b' (36 + i) ∧ b' (36 + i) ≤ 99) (h2 : ∀ a b, 0 ≤ a → a < b → b < 8 → b' (100 + (8 * a + b)) = -1 ∨ b' (100 + (8 * a + b)) = a ∨ b' (100 + (8 * a + b)) = b) : Inv b' := by
  obtain ⟨⟨i0, i1, i2, i3⟩, -, ip, -, -, ib, ⟨iq1, iq2⟩, iw, il, ie⟩ := hI
  have e0 := ho 0 (by omega)
  have e1 := ho 1 (by omega)
  have e2 := ho 2 (by omega)
  have e3 := ho 3 (by omega)
  refine ⟨⟨by omega, by omega, by omega, by omega⟩, hb, fun i a b => ?_, h1, h2, fun i a b => ?_, ⟨fun i a b => ?_, fun i j a b c => ?_⟩, fun d a b => ?_, fun a b a0 a1 b0 b1 => ?_, fun k a b => ?_⟩
  · rw [ho (4 + 4 * i) (by omega), ho (4 + 4 * i + 1) (by omega), ho (4 + 4 * i + 2) (by omega), ho (4 + 4 * i + 3) (by omega)]; exact ip i a b
  · rw [ho (264 + i) (by omega)]; exact ib i a b
  · rw [ho (164 + i) (by omega), e0]; exact iq1 i a (by omega)
  · rw [ho (164 + i) (by omega), ho (164 + j) (by omega)]; exact iq2 i j a b (by omega)
  · rw [ho (172 + d) (by omega), e0]; exact iw d a b
  · rw [ho (180 + 6 * a + b) (by omega), ho (180 + 6 * b + a) (by omega)]; exact il a b a0 a1 b0 b1
  · rw [ho (216 + 3 * k) (by omega), ho (216 + 3 * k + 1) (by omega), ho (216 + 3 * k + 2) (by omega), e0]; exact ie k a (by omega)
theorem wentB_Inv {bk : Int → Int} {w o : Int} (hI : Inv bk) (hw : 0 ≤ w ∧ w < 8) (ho : 0 ≤ o ∧ o < 8) (hwo : w ≠ o) : Inv (wentB bk w o) := by
  refine hI.bows (fun j hj => wentB_out hw ho hj) (wentB_bd hI.2.1 hw) (fun i a b => ?_) (fun x y x0 xy y8 => ?_)
  · have h1 := hI.2.2.2.1 i a b
    unfold wentB
    rw [iu_n (by split <;> omega)]
    by_cases e : 36 + i = 36 + 8 * w + o
    · rw [e, iu_s]
      rw [e] at h1
      split <;> omega
    · rw [iu_n e]; exact h1
  · have h1 := hI.2.2.2.2.1 x y x0 xy y8
    unfold wentB
    by_cases e : 100 + (8 * x + y) = 100 + (if w < o then 8 * w + o else 8 * o + w)
    · rw [e, iu_s]
      split at e <;> omega
    · rw [iu_n e, iu_n (by omega)]; exact h1
/-- a talk by items, whatever the bows are -/
abbrev TI (its : List IT) (b : Int → Int) (x y : Int) : Int × Int × Int := talkF (nmB b) (itOf its) its.length 0 x y
def jdG (its : List IT) (b0 : Int → Int) : Nat → Int → (Int → Int) → Int
  | 0, _, _ => -1
  | q + 1, k, b => if (TI its b (b0 (216 + 3 * k)) (b0 (216 + 3 * k + 1))).1 = b0 (216 + 3 * k + 2) then jdG its b0 q (k + 1) (wentB b (b0 (216 + 3 * k + 2)) (b0 (216 + 3 * k) + b0 (216 + 3 * k + 1) - b0 (216 + 3 * k + 2))) else k
def jdF (its : List IT) (bk : Int → Int) : Int := jdG its bk (bk 3).toNat 0 bk
def fJudge (s : SS) : Int × SS := if ¬ okB s.bk then (-3, s.no) else (jdF (itB s.bk) s.bk, s)
def onlyI (w : Int) : List IT := [(1, 0, w, 1)]
def fLearns (s : SS) : Int × SS := (((bitsN (fun w => decide (jdF (onlyI w) s.bk = -1)) 10 : Nat) : Int), s)
theorem jdG_in {its : List IT} {b0 : Int → Int} : ∀ (q : Nat) (k : Int) (b : Int → Int), 0 ≤ k → -1 ≤ jdG its b0 q k b ∧ jdG its b0 q k b < k + q + 1 := by
  intro q
  induction q with
  | zero => intro k b hk; simp only [jdG]; omega
  | succ q ih =>
    intro k b hk
    simp only [jdG]
    split
    · have := ih (k + 1) (wentB b (b0 (216 + 3 * k + 2)) (b0 (216 + 3 * k) + b0 (216 + 3 * k + 1) - b0 (216 + 3 * k + 2))) (by omega); omega
    · omega
section MJd
variable {G : GT} {n : Nat} {h : Hp} {Q : PT} {s : SS} {e : Nat → Int} {it : Int → Int}
theorem jud_end {b0 bk hd : Int → Int} {f k : Int} {l3 l4 l5 : AV} (g45 : h 45 = some (aO 9 (mF e))) (g46 : h 46 = some (aA 480 bk)) (g51 : h 51 = some (aA 128 hd)) (hh : ∀ j, 0 ≤ j → j < 128 → hd j = b0 (36 + j)) (hb : ∀ j, ¬ (36 ≤ j ∧ j < 164) → bk j = b0 j)
    (hQ : ∀ h', h' 46 = some (aA 480 b0) → Fr (fun j => j = 46) h h' → Q (some (vI f)) n h') : At G mX9_judges 105 [vR 45, vI f, vI k, l3, l4, l5] [] (0, 0, n) h Q := by
  refine r_aload_n (pc := 105) dX9_judges_105 rfl <| cVv [] (pc := 106) dX9_judges_106 k_X9_184 ⟨⟨Nat.le_of_ble_eq_true rfl, Nat.le_of_ble_eq_true rfl⟩, ⟨Nat.le_of_ble_eq_true rfl, Nat.le_of_ble_eq_true rfl⟩, Nat.le_of_ble_eq_true rfl⟩ ⟨rfl, rfl⟩ g45 ?_
  refine sp_undoes g45 g46 g51 hh hb (fun h1 a1 a2 => ?_)
  refine ⟨rfl, ?_⟩
  refine r_iload_n (pc := 109) dX9_judges_109 rfl <| r_iret (pc := 110) dX9_judges_110 rfl ⟨Nat.le_of_ble_eq_true rfl, Nat.le_of_ble_eq_true rfl⟩ <| ?_
  exact hQ _ a1 a2
theorem jud_8 {b0 bk hd : Int → Int} {f k : Int} {l3 l4 l5 : AV} (hf : 0 ≤ f ∧ f ≤ 99) (hk : 0 ≤ k ∧ k ≤ 99) (hb3 : Bd bk (-1) 255) (g45 : h 45 = some (aO 9 (mF e))) (g46 : h 46 = some (aA 480 bk)) (g51 : h 51 = some (aA 128 hd)) (hh : ∀ j, 0 ≤ j → j < 128 → hd j = b0 (36 + j)) (hb : ∀ j, ¬ (36 ≤ j ∧ j < 164) → bk j = b0 j)
    (hQ : ∀ h', h' 46 = some (aA 480 b0) → Fr (fun j => j = 46) h h' → Q (some (vI f)) n h') : At G mX9_judges 8 [vR 45, vI f, vI k, l3, l4, l5] [] (0, 0, n) h Q := by
  have hM' := g45
  unfold mF at hM'
  have b3 := hb3 3
  refine r_iload_n (pc := 8) dX9_judges_8 rfl <| r_aload_n (pc := 9) dX9_judges_9 rfl <| r_getf (pc := 10) dX9_judges_10 fA_X9_7 hM' rfl <| r_iconst (pc := 13) dX9_judges_13 <| r_iald (pc := 14) dX9_judges_14 g46 (by omega) (by decide) <| r_icmp_ge (pc := 15) 105 dX9_judges_15 (by decide) (by omega) (by omega) (fun hc_15 => ?_) (fun hc_15 => ?_)
  · skip
    exact jud_end g45 g46 g51 hh hb hQ
  · skip
    refine r_iload_n (pc := 18) dX9_judges_18 rfl <| r_iconst (pc := 19) dX9_judges_19 <| r_icmp_ne (pc := 20) 105 dX9_judges_20 (by decide) (by omega) (by omega) (fun hc_20 => ?_) (fun hc_20 => ?_)
    · skip
      exact jud_end g45 g46 g51 hh hb hQ
    · skip
      exfalso; omega
theorem lp_judges {b0 hd : Int → Int} {its : List IT} {mx : Int} (hI : Inv b0) (hit : itOk it) (hmx : 0 ≤ mx ∧ mx ≤ 9) (hT : ∀ b x y, talkF (nmB b) it mx 0 x y = TI its b x y) (hh : ∀ j, 0 ≤ j → j < 128 → hd j = b0 (36 + j)) :
    ∀ (q : Nat) (k : Int) (b : Int → Int) (h : Hp) (e : Nat → Int) (l3 l4 l5 : AV), 0 ≤ k → k + q = b0 3 → Inv b → (∀ j, ¬ (36 ≤ j ∧ j < 164) → b j = b0 j) → h 45 = some (aO 9 (mF e)) → e 11 = mx ∧ e 12 = 0 → h 46 = some (aA 480 b) → h 50 = some (aA 40 it) → h 51 = some (aA 128 hd) →
    (∀ h' e', h' 45 = some (aO 9 (mF e')) → (∀ j, j ≠ 13 → j ≠ 14 → e' j = e j) → h' 46 = some (aA 480 b0) → Fr (fun j => j = 45 ∨ j = 46) h h' → Q (some (vI (jdG its b0 q k b))) n h') →
    At G mX9_judges 8 [vR 45, vI (-1), vI k, l3, l4, l5] [] (0, 0, n) h Q := by
  have i0 := hI.1.1
  have i3 := hI.1.2.2.2
  intro q
  induction q with
  | zero =>
    intro k b h e l3 l4 l5 hk hq hIb hout g45 he g46 g50 g51 hQ
    have hM' := g45
    unfold mF at hM'
    have e3 := hout 3 (by omega)
    refine r_iload_n (pc := 8) dX9_judges_8 rfl <| r_aload_n (pc := 9) dX9_judges_9 rfl <| r_getf (pc := 10) dX9_judges_10 fA_X9_7 hM' rfl <| r_iconst (pc := 13) dX9_judges_13 <| r_iald (pc := 14) dX9_judges_14 g46 (by omega) (by decide) <| r_icmp_ge (pc := 15) 105 dX9_judges_15 (by decide) (by omega) (by omega) (fun hc_15 => ?_) (fun hc_15 => ?_)
    · skip
      exact jud_end g45 g46 g51 hh hout (fun h' a1 a2 => hQ h' e (a2.keep g45 (by omega)) (fun j _ _ => rfl) a1 (a2.wk (fun j => by omega)))
    · skip
      exfalso; omega
  | succ q ih =>
    intro k b h e l3 l4 l5 hk hq hIb hout g45 he g46 g50 g51 hQ
    obtain ⟨he11, he12⟩ := he
    have hM' := g45
    unfold mF at hM'
    have e3 := hout 3 (by omega)
    have ev := hI.2.2.2.2.2.2.2.2.2 k hk (by omega)
    have v0 := hout (216 + 3 * k) (by omega)
    have v1 := hout (216 + 3 * k + 1) (by omega)
    have v2 := hout (216 + 3 * k + 2) (by omega)
    simp only [jdG] at hQ
    generalize hA : b0 (216 + 3 * k) = A at *
    generalize hB : b0 (216 + 3 * k + 1) = B at *
    generalize hW : b0 (216 + 3 * k + 2) = W at *
    have hTb : talkF (nmB b) it (e 11) (e 12) A B = TI its b A B := by rw [he11, he12]; exact hT b A B
    have hb3 : (TI its b A B).1 = -1 ∨ (TI its b A B).1 = A ∨ (TI its b A B).1 = B := by
      have := @TB_in b (itOf its) its.length 0 A B hIb (by omega) (by omega) ev.2.2.1
      rcases this with e1 | e1
      · show (talkF (nmB b) (itOf its) its.length 0 A B).1 = -1 ∨ _
        rw [e1]; exact Or.inl rfl
      · exact Or.inr e1.1
    refine r_iload_n (pc := 8) dX9_judges_8 rfl <| r_aload_n (pc := 9) dX9_judges_9 rfl <| r_getf (pc := 10) dX9_judges_10 fA_X9_7 hM' rfl <| r_iconst (pc := 13) dX9_judges_13 <| r_iald (pc := 14) dX9_judges_14 g46 (by omega) (by decide) <| r_icmp_ge (pc := 15) 105 dX9_judges_15 (by decide) (by omega) (by omega) (fun hc_15 => ?_) (fun hc_15 => ?_)
    · skip
      exfalso; omega
    · skip
      refine r_iload_n (pc := 18) dX9_judges_18 rfl <| r_iconst (pc := 19) dX9_judges_19 <| r_icmp_ne (pc := 20) 105 dX9_judges_20 (by decide) (by decide) (by decide) (fun q => absurd q (by decide)) (fun _ => ?_)
      refine r_aload_n (pc := 23) dX9_judges_23 rfl <| r_getf (pc := 24) dX9_judges_24 fA_X9_7 hM' rfl <| r_sipush (pc := 27) dX9_judges_27 (by decide) <| r_iconst (pc := 30) dX9_judges_30 <| r_iload_n (pc := 31) dX9_judges_31 rfl <| r_imul (pc := 32) dX9_judges_32 <| r_iadd (pc := 33) dX9_judges_33 <| r_iald (pc := 34) dX9_judges_34 g46 (by omega) (by decide) <| ?_
      rw [v0]
      refine r_istoren_3 (pc := 35) dX9_judges_35 rfl <| r_aload_n (pc := 36) dX9_judges_36 rfl <| r_getf (pc := 37) dX9_judges_37 fA_X9_7 hM' rfl <| r_sipush (pc := 40) dX9_judges_40 (by decide) <| r_iconst (pc := 43) dX9_judges_43 <| r_iload_n (pc := 44) dX9_judges_44 rfl <| r_imul (pc := 45) dX9_judges_45 <| r_iadd (pc := 46) dX9_judges_46 <| r_iconst (pc := 47) dX9_judges_47 <| r_iadd (pc := 48) dX9_judges_48 <| r_iald (pc := 49) dX9_judges_49 g46 (by omega) (by decide) <| ?_
      rw [v1]
      refine r_istore_4 (pc := 50) dX9_judges_50 rfl <| r_aload_n (pc := 52) dX9_judges_52 rfl <| r_getf (pc := 53) dX9_judges_53 fA_X9_7 hM' rfl <| r_sipush (pc := 56) dX9_judges_56 (by decide) <| r_iconst (pc := 59) dX9_judges_59 <| r_iload_n (pc := 60) dX9_judges_60 rfl <| r_imul (pc := 61) dX9_judges_61 <| r_iadd (pc := 62) dX9_judges_62 <| r_iconst (pc := 63) dX9_judges_63 <| r_iadd (pc := 64) dX9_judges_64 <| r_iald (pc := 65) dX9_judges_65 g46 (by omega) (by decide) <| ?_
      rw [v2]
      refine r_istore_5 (pc := 66) dX9_judges_66 rfl <| r_aload_n (pc := 68) dX9_judges_68 rfl <| r_iload_n (pc := 69) dX9_judges_69 rfl <| r_iload (pc := 70) dX9_judges_70 rfl <| cVi [_, _] (pc := 72) dX9_judges_72 k_X9_171 ⟨⟨Nat.le_of_ble_eq_true rfl, Nat.le_of_ble_eq_true rfl⟩, ⟨Nat.le_of_ble_eq_true rfl, Nat.le_of_ble_eq_true rfl⟩, Nat.le_of_ble_eq_true rfl⟩ ⟨rfl, rfl⟩ hM' ?_
      refine sp_talks g45 g46 g50 hIb.2.1 hit (by omega) (by omega) (by omega) (by omega) (fun h2 k45 hF2 => ?_)
      rw [hTb] at k45 ⊢
      clear hM'
      have hM' := k45
      unfold mF at hM'
      replace g46 := hF2.keep g46 (by omega)
      refine ⟨_, rfl, ?_⟩
      refine r_iload (pc := 75) dX9_judges_75 rfl <| r_icmp_ne (pc := 77) 84 dX9_judges_77 (by decide) (by omega) (by omega) (fun hc_77 => ?_) (fun hc_77 => ?_)
      · skip
        refine r_iload_n (pc := 84) dX9_judges_84 rfl <| r_istoren_1 (pc := 85) dX9_judges_85 rfl <| r_aload_n (pc := 86) dX9_judges_86 rfl <| r_iload (pc := 87) dX9_judges_87 rfl <| r_iload_n (pc := 89) dX9_judges_89 rfl <| r_iload (pc := 90) dX9_judges_90 rfl <| r_iadd (pc := 92) dX9_judges_92 <| r_iload (pc := 93) dX9_judges_93 rfl <| r_isub (pc := 95) dX9_judges_95 <| cVv [_, _] (pc := 96) dX9_judges_96 k_X9_174 ⟨⟨Nat.le_of_ble_eq_true rfl, Nat.le_of_ble_eq_true rfl⟩, ⟨Nat.le_of_ble_eq_true rfl, Nat.le_of_ble_eq_true rfl⟩, Nat.le_of_ble_eq_true rfl⟩ ⟨rfl, rfl⟩ hM' ?_
        refine sp_mwent k45 g46 hIb.2.1 (by omega) (by omega) (fun h3 k46 hF3 => ?_)
        have hF : Fr (fun j => j = 45 ∨ j = 46) h h3 := fun j hj => (hF3 j (by omega)).trans (hF2 j (by omega))
        have hI' : Inv (wentB b W (A + B - W)) := wentB_Inv hIb (by omega) (by omega) (by omega)
        have hout' : ∀ j, ¬ (36 ≤ j ∧ j < 164) → wentB b W (A + B - W) j = b0 j := fun j hj => (wentB_out (by omega) (by omega) hj).trans (hout j hj)
        have k45' := hF3.keep k45 (by omega)
        replace hM' := hF3.keep hM' (by omega)
        clear g46
        have g46 := k46
        refine ⟨rfl, ?_⟩
        refine r_iinc_2 (pc := 99) dX9_judges_99 rfl rfl <| r_goto (pc := 102) 8 dX9_judges_102 (by decide) <| ?_
        first
          | (rw [if_pos (by omega)] at hQ
             exact ih (k + 1) _ h3 _ _ _ _ (by omega) (by omega) hI' hout' k45' ⟨he11, he12⟩ k46 (hF.keep g50 (by omega)) (hF.keep g51 (by omega)) (fun h' e' a1 a2 a3 a4 => hQ h' e' a1 (fun j j1 j2 => by rw [a2 j j1 j2]; unfold nu; rw [if_neg j2, if_neg j1]) a3 (fun j hj => (a4 j hj).trans (hF j hj))))
          | (rw [if_neg (by omega)] at hQ
             exact jud_8 (by omega) (by omega) hI'.2.1 k45' k46 (hF.keep g51 (by omega)) hh hout' (fun h' a1 a2 => hQ h' _ (a2.keep k45' (by omega)) (fun j j1 j2 => by unfold nu; rw [if_neg j2, if_neg j1]) a1 (fun j hj => (a2 j (by omega)).trans (hF j hj))))
      · skip
        refine r_iconst (pc := 80) dX9_judges_80 <| r_goto (pc := 81) 85 dX9_judges_81 (by decide) <| r_istoren_1 (pc := 85) dX9_judges_85 rfl <| r_aload_n (pc := 86) dX9_judges_86 rfl <| r_iload (pc := 87) dX9_judges_87 rfl <| r_iload_n (pc := 89) dX9_judges_89 rfl <| r_iload (pc := 90) dX9_judges_90 rfl <| r_iadd (pc := 92) dX9_judges_92 <| r_iload (pc := 93) dX9_judges_93 rfl <| r_isub (pc := 95) dX9_judges_95 <| cVv [_, _] (pc := 96) dX9_judges_96 k_X9_174 ⟨⟨Nat.le_of_ble_eq_true rfl, Nat.le_of_ble_eq_true rfl⟩, ⟨Nat.le_of_ble_eq_true rfl, Nat.le_of_ble_eq_true rfl⟩, Nat.le_of_ble_eq_true rfl⟩ ⟨rfl, rfl⟩ hM' ?_
        refine sp_mwent k45 g46 hIb.2.1 (by omega) (by omega) (fun h3 k46 hF3 => ?_)
        have hF : Fr (fun j => j = 45 ∨ j = 46) h h3 := fun j hj => (hF3 j (by omega)).trans (hF2 j (by omega))
        have hI' : Inv (wentB b W (A + B - W)) := wentB_Inv hIb (by omega) (by omega) (by omega)
        have hout' : ∀ j, ¬ (36 ≤ j ∧ j < 164) → wentB b W (A + B - W) j = b0 j := fun j hj => (wentB_out (by omega) (by omega) hj).trans (hout j hj)
        have k45' := hF3.keep k45 (by omega)
        replace hM' := hF3.keep hM' (by omega)
        clear g46
        have g46 := k46
        refine ⟨rfl, ?_⟩
        refine r_iinc_2 (pc := 99) dX9_judges_99 rfl rfl <| r_goto (pc := 102) 8 dX9_judges_102 (by decide) <| ?_
        first
          | (rw [if_pos (by omega)] at hQ
             exact ih (k + 1) _ h3 _ _ _ _ (by omega) (by omega) hI' hout' k45' ⟨he11, he12⟩ k46 (hF.keep g50 (by omega)) (hF.keep g51 (by omega)) (fun h' e' a1 a2 a3 a4 => hQ h' e' a1 (fun j j1 j2 => by rw [a2 j j1 j2]; unfold nu; rw [if_neg j2, if_neg j1]) a3 (fun j hj => (a4 j hj).trans (hF j hj))))
          | (rw [if_neg (by omega)] at hQ
             exact jud_8 (by omega) (by omega) hI'.2.1 k45' k46 (hF.keep g51 (by omega)) hh hout' (fun h' a1 a2 => hQ h' _ (a2.keep k45' (by omega)) (fun j j1 j2 => by unfold nu; rw [if_neg j2, if_neg j1]) a1 (fun j hj => (a2 j (by omega)).trans (hF j hj))))
theorem wm_judges {its : List IT} (hW : wM h s e it) (hI : Inv s.bk) (h12 : e 12 = 0) (hT : ∀ b x y, talkF (nmB b) it (e 11) 0 x y = TI its b x y) (hQ : ∀ h' e', wM h' s e' it → (∀ j, j ≠ 13 → j ≠ 14 → e' j = e j) → Fr (fun j => j = 45 ∨ j = 46 ∨ j = 51) h h' → Q (some (vI (jdF its s.bk))) n h') : Cl G mX9_judges [vR 45] n h Q := by
  obtain ⟨hd, k51⟩ := hW.1.sc 51 (by omega) (by omega)
  have hM' := hW.2.1
  unfold mF at hM'
  have i3 := hI.1.2.2.2
  refine cl_of (by decide) (Nat.le_of_ble_eq_true rfl) rfl ?_
  refine r_aload_n (pc := 0) dX9_judges_0 rfl <| cVv [] (pc := 1) dX9_judges_1 k_X9_181 ⟨⟨Nat.le_of_ble_eq_true rfl, Nat.le_of_ble_eq_true rfl⟩, ⟨Nat.le_of_ble_eq_true rfl, Nat.le_of_ble_eq_true rfl⟩, Nat.le_of_ble_eq_true rfl⟩ ⟨rfl, rfl⟩ hM' ?_
  refine sp_holds hW.2.1 hW.2.2.1 k51 (fun h1 hd' a1 a2 a3 => ?_)
  refine ⟨rfl, ?_⟩
  refine r_iconst (pc := 4) dX9_judges_4 <| r_istoren_1 (pc := 5) dX9_judges_5 rfl <| r_iconst (pc := 6) dX9_judges_6 <| r_istoren_2 (pc := 7) dX9_judges_7 rfl <| ?_
  refine lp_judges hI hW.2.2.2.2.1 hW.2.2.2.2.2.1 hT a2 (s.bk 3).toNat 0 s.bk h1 e _ _ _ (by omega) (by omega) hI (fun j _ => rfl) (a3.keep hW.2.1 (by omega)) ⟨rfl, h12⟩ (a3.keep hW.2.2.1 (by omega)) (a3.keep hW.2.2.2.1 (by omega)) a1 (fun h' e' c1 c2 c3 c4 => hQ h' e' ?_ c2 (fun j hj => (c4 j (by omega)).trans (a3 j (by omega))))
  have hF : Fr (fun j => j = 45 ∨ j = 46 ∨ j = 51) h h' := fun j hj => (c4 j (by omega)).trans (a3 j (by omega))
  exact hW.up c1 ⟨c2 4 (by decide) (by decide), c2 5 (by decide) (by decide), c2 9 (by decide) (by decide)⟩ c3 (hF.keep hW.2.2.2.1 (by omega)) hW.2.2.2.2.1 (by rw [c2 11 (by decide) (by decide)]; exact hW.2.2.2.2.2.1) (by rw [c2 12 (by decide) (by decide)]; exact hW.2.2.2.2.2.2) (fun j j1 j2 => by
    by_cases ej : j = 51
    · subst ej; exact Or.inr ⟨hd', (c4 51 (by omega)).trans a1⟩
    · exact Or.inl (hF j (by omega))) (hF.wk (fun j => by omega))
theorem ms_judge (hM : isM h s) (hI : Inv s.bk) (hQ : ∀ h', isM h' (fJudge s).2 → Fr MR h h' → Q (some (vI (fJudge s).1)) n h') : Cl G mX9_judge [vR 45] n h Q := by
  obtain ⟨e, it, g45, ge, g9, g46, -⟩ := id hM.raw
  have hM' := g45
  unfold mF at hM'
  unfold fJudge at hQ
  refine cl_of (by decide) (Nat.le_of_ble_eq_true rfl) rfl ?_
  refine r_aload_n (pc := 0) dX9_judge_0 rfl <| cVi [] (pc := 1) dX9_judge_1 k_X9_145 ⟨⟨Nat.le_of_ble_eq_true rfl, Nat.le_of_ble_eq_true rfl⟩, ⟨Nat.le_of_ble_eq_true rfl, Nat.le_of_ble_eq_true rfl⟩, Nat.le_of_ble_eq_true rfl⟩ ⟨rfl, rfl⟩ hM' ?_
  refine wm_reads hM hI (fun q3 h1 e1 it1 m1 m6 m7 m7' m8 m10 => ?_) (fun q3 h1 m1 m10 => ?_)
  · skip
    refine ⟨_, rfl, ?_⟩
    clear hM' g45
    first
      | (have g45 := m1.2.1; have hM' := g45; unfold mF at hM')
      | (obtain ⟨e1, it1, g45, -⟩ := id m1.raw; have hM' := g45; unfold mF at hM')
    refine r_if_eq (pc := 4) 14 dX9_judge_4 (by decide) (by decide) (fun q => absurd q (by decide)) (fun _ => ?_)
    refine r_aload_n (pc := 7) dX9_judge_7 rfl <| cVi [] (pc := 8) dX9_judge_8 k_X9_207 ⟨⟨Nat.le_of_ble_eq_true rfl, Nat.le_of_ble_eq_true rfl⟩, ⟨Nat.le_of_ble_eq_true rfl, Nat.le_of_ble_eq_true rfl⟩, Nat.le_of_ble_eq_true rfl⟩ ⟨rfl, rfl⟩ hM' ?_
    refine wm_judges (its := itB s.bk) m1 hI m8 (fun b x y => ?_) (fun h2 e2 a1 a2 a3 => ?_)
    · rw [m7, talk_mod (bk := b) m6]
    refine ⟨_, rfl, ?_⟩
    refine r_goto (pc := 11) 18 dX9_judge_11 (by decide) <| r_iret (pc := 18) dX9_judge_18 rfl ⟨Nat.le_of_ble_eq_true rfl, Nat.le_of_ble_eq_true rfl⟩ <| ?_
    first
      | (rw [if_pos q3] at hQ; exact hQ _ g1 (fun j hj => (g2 j hj).trans (m10 j hj)))
      | (rw [if_neg (fun q => q q3)] at hQ; exact hQ _ a1.1 (fun j hj => (a3 j (by omega)).trans (m10 j hj)))
  · skip
    refine ⟨_, rfl, ?_⟩
    clear hM' g45
    first
      | (have g45 := m1.2.1; have hM' := g45; unfold mF at hM')
      | (obtain ⟨e1, it1, g45, -⟩ := id m1.raw; have hM' := g45; unfold mF at hM')
    refine r_if_eq (pc := 4) 14 dX9_judge_4 (by decide) (by decide) (fun _ => ?_) (fun q => absurd q (by decide))
    refine r_aload_n (pc := 14) dX9_judge_14 rfl <| cVi [] (pc := 15) dX9_judge_15 k_X9_151 ⟨⟨Nat.le_of_ble_eq_true rfl, Nat.le_of_ble_eq_true rfl⟩, ⟨Nat.le_of_ble_eq_true rfl, Nat.le_of_ble_eq_true rfl⟩, Nat.le_of_ble_eq_true rfl⟩ ⟨rfl, rfl⟩ hM' ?_
    refine ms_no m1 (fun h2 g1 g2 => ?_)
    refine ⟨_, rfl, ?_⟩
    refine r_iret (pc := 18) dX9_judge_18 rfl ⟨Nat.le_of_ble_eq_true rfl, Nat.le_of_ble_eq_true rfl⟩ <| ?_
    first
      | (rw [if_pos q3] at hQ; exact hQ _ g1 (fun j hj => (g2 j hj).trans (m10 j hj)))
      | (rw [if_neg (fun q => q q3)] at hQ; exact hQ _ a1.1 (fun j hj => (a3 j (by omega)).trans (m10 j hj)))
theorem shl10 {j : Nat} (h : j < 10) : Int32.ofInt 1 <<< (Int32.ofInt (j : Int) &&& 31) = Int32.ofInt ((2 ^ j : Nat) : Int) := by
  have hp : 2 ^ j ≤ 2 ^ 10 := Nat.pow_le_pow_right (by decide) (by omega)
  have := i_shl (x := 1) (j := (j : Int)) (by omega) (by omega) (by simp only [Int.toNat_natCast]; omega)
  simpa using this
theorem or0 (a : Nat) : Int32.ofInt (a : Int) ||| Int32.ofInt 0 = Int32.ofInt (a : Int) := by
  have := i_orN a 0
  simpa using this
theorem onlyI_rel {it : Int → Int} {w : Int} (h0 : it 0 = 1) (h1 : it 1 = 0) (h2 : it 2 = w) (h3 : it 3 = 1) : itRel it (onlyI w) := by
  intro j q hq
  unfold onlyI at hq
  match j, hq with
  | 0, hq => cases hq; exact ⟨h0, h1, h2, h3⟩
  | j + 1, hq => cases hq
theorem itOk.iu4 {it : Int → Int} {w : Int} (hit : itOk it) (hw : 0 ≤ w ∧ w < 10) : itOk (iu (iu (iu (iu it 0 1) 1 0) 2 w) 3 1) := by
  intro j hj
  by_cases e : j = 0
  · subst e
    have a0 : (iu (iu (iu (iu it 0 1) 1 0) 2 w) 3 1) (4 * 0) = 1 := by rw [iu_n (by omega), iu_n (by omega), iu_n (by omega)]; exact iu_s _ _ _
    have a1 : (iu (iu (iu (iu it 0 1) 1 0) 2 w) 3 1) (4 * 0 + 1) = 0 := by rw [iu_n (by omega), iu_n (by omega)]; exact iu_s _ _ _
    have a2 : (iu (iu (iu (iu it 0 1) 1 0) 2 w) 3 1) (4 * 0 + 2) = w := by rw [iu_n (by omega)]; exact iu_s _ _ _
    have a3 : (iu (iu (iu (iu it 0 1) 1 0) 2 w) 3 1) (4 * 0 + 3) = 1 := iu_s _ _ _
    rw [a0, a1, a2, a3]
    omega
  · have := hit j hj
    rw [iu_n (by omega), iu_n (by omega), iu_n (by omega), iu_n (by omega), iu_n (by omega), iu_n (by omega), iu_n (by omega), iu_n (by omega), iu_n (by omega), iu_n (by omega), iu_n (by omega), iu_n (by omega), iu_n (by omega), iu_n (by omega), iu_n (by omega), iu_n (by omega)]
    exact this
theorem lp_learns (hI : Inv s.bk) : ∀ (q w : Nat) (h : Hp) (e : Nat → Int) (it : Int → Int), w + q = 10 → isM h s → h 45 = some (aO 9 (mF e)) → h 46 = some (aA 480 s.bk) → h 50 = some (aA 40 it) → itOk it →
    (∀ h', isM h' s → Fr MR h h' → Q (some (vI ((bitsN (fun w => decide (jdF (onlyI w) s.bk = -1)) 10 : Nat) : Int))) n h') →
    At G mX9_learns 4 [vR 45, vI ((bitsN (fun w => decide (jdF (onlyI w) s.bk = -1)) w : Nat) : Int), vI (w : Int)] [] (0, 0, n) h Q := by
  have i3 := hI.1.2.2.2
  intro q
  induction q with
  | zero =>
    intro w h e it hw hW g45 g46 g50 hit hQ
    have e1 : w = 10 := by omega
    subst e1
    refine r_iload_n (pc := 4) dX9_learns_4 rfl <| r_bipush (pc := 5) dX9_learns_5 (by decide) <| r_icmp_ge (pc := 7) 72 dX9_learns_7 (by decide) (by omega) (by omega) (fun hc_7 => ?_) (fun hc_7 => ?_)
    · skip
      refine r_iload_n (pc := 72) dX9_learns_72 rfl <| r_iret (pc := 73) dX9_learns_73 rfl ⟨Nat.le_of_ble_eq_true rfl, Nat.le_of_ble_eq_true rfl⟩ <| ?_
      exact hQ h hW Fr.rf
    · skip
      exfalso; omega
  | succ q ih =>
    intro w h e it hw hW g45 g46 g50 hit hQ
    have hM' := g45
    unfold mF at hM'
    have ex := hW.e45 g45
    have hj := @jdG_in (onlyI w) s.bk (s.bk 3).toNat 0 s.bk (by omega)
    change -1 ≤ jdF (onlyI w) s.bk ∧ jdF (onlyI w) s.bk < 0 + ((s.bk 3).toNat : Int) + 1 at hj
    refine r_iload_n (pc := 4) dX9_learns_4 rfl <| r_bipush (pc := 5) dX9_learns_5 (by decide) <| r_icmp_ge (pc := 7) 72 dX9_learns_7 (by decide) (by omega) (by omega) (fun hc_7 => ?_) (fun hc_7 => ?_)
    · skip
      exfalso; omega
    · skip
      refine r_aload_n (pc := 10) dX9_learns_10 rfl <| r_iconst (pc := 11) dX9_learns_11 <| r_putf (pc := 12) dX9_learns_12 fP_X9_136 rfl rfl hM' rfl (fun h_12 hM' hF_12 => ?_)
      simp only [List.set_cons_zero, List.set_cons_succ] at hM'
      replace g50 := hF_12.keep g50 (by omega)
      refine r_aload_n (pc := 15) dX9_learns_15 rfl <| r_iconst (pc := 16) dX9_learns_16 <| r_putf (pc := 17) dX9_learns_17 fP_X9_139 rfl rfl hM' rfl (fun h_17 hM' hF_17 => ?_)
      simp only [List.set_cons_zero, List.set_cons_succ] at hM'
      replace g50 := hF_17.keep g50 (by omega)
      refine r_aload_n (pc := 20) dX9_learns_20 rfl <| r_getf (pc := 21) dX9_learns_21 fA_X9_23 hM' rfl <| r_iconst (pc := 24) dX9_learns_24 <| r_iconst (pc := 25) dX9_learns_25 <| r_iast (pc := 26) dX9_learns_26 g50 (by omega) (by decide) (fun h_26 g50 hF_26 => ?_)
      replace hM' := hF_26.keep hM' (by omega)
      refine r_aload_n (pc := 27) dX9_learns_27 rfl <| r_getf (pc := 28) dX9_learns_28 fA_X9_23 hM' rfl <| r_iconst (pc := 31) dX9_learns_31 <| r_iconst (pc := 32) dX9_learns_32 <| r_iast (pc := 33) dX9_learns_33 g50 (by omega) (by decide) (fun h_33 g50 hF_33 => ?_)
      replace hM' := hF_33.keep hM' (by omega)
      refine r_aload_n (pc := 34) dX9_learns_34 rfl <| r_getf (pc := 35) dX9_learns_35 fA_X9_23 hM' rfl <| r_iconst (pc := 38) dX9_learns_38 <| r_iload_n (pc := 39) dX9_learns_39 rfl <| r_iast (pc := 40) dX9_learns_40 g50 (by omega) (by decide) (fun h_40 g50 hF_40 => ?_)
      replace hM' := hF_40.keep hM' (by omega)
      refine r_aload_n (pc := 41) dX9_learns_41 rfl <| r_getf (pc := 42) dX9_learns_42 fA_X9_23 hM' rfl <| r_iconst (pc := 45) dX9_learns_45 <| r_iconst (pc := 46) dX9_learns_46 <| r_iast (pc := 47) dX9_learns_47 g50 (by omega) (by decide) (fun h_47 g50 hF_47 => ?_)
      replace hM' := hF_47.keep hM' (by omega)
      refine r_iload_n (pc := 48) dX9_learns_48 rfl <| r_aload_n (pc := 49) dX9_learns_49 rfl <| cVi [] (pc := 50) dX9_learns_50 k_X9_207 ⟨⟨Nat.le_of_ble_eq_true rfl, Nat.le_of_ble_eq_true rfl⟩, ⟨Nat.le_of_ble_eq_true rfl, Nat.le_of_ble_eq_true rfl⟩, Nat.le_of_ble_eq_true rfl⟩ ⟨rfl, rfl⟩ hM' ?_
      have hF : Fr (fun j => j = 45 ∨ j = 50) h h_47 := fun j hj => (hF_47 j (by omega)).trans ((hF_40 j (by omega)).trans ((hF_33 j (by omega)).trans ((hF_26 j (by omega)).trans ((hF_17 j (by omega)).trans (hF_12 j (by omega))))))
      have k45 : h_47 45 = some (aO 9 (mF (nu (nu e 11 1) 12 0))) := hM'
      have ki := hit.iu4 (w := (w : Int)) (by omega)
      have w1 : wM h_47 s (nu (nu e 11 1) 12 0) _ := ⟨hW.gen2 k45 ex.1 ex.2 (hF.keep g46 (by omega)) g50 ki (fun j j1 j2 => Or.inl (hF j (by omega))) (hF.wk (fun j => by omega)), k45, hF.keep g46 (by omega), g50, ki, (show (0 : Int) ≤ 1 ∧ (1 : Int) ≤ 9 by omega), (show (0 : Int) ≤ 0 ∧ (0 : Int) < 512 by omega)⟩
      have hrel : itRel (iu (iu (iu (iu it 0 1) 1 0) 2 (w : Int)) 3 1) (onlyI w) := onlyI_rel (by rw [iu_n (by omega), iu_n (by omega), iu_n (by omega)]; exact iu_s _ _ _) (by rw [iu_n (by omega), iu_n (by omega)]; exact iu_s _ _ _) (by rw [iu_n (by omega)]; exact iu_s _ _ _) (iu_s _ _ _)
      refine wm_judges (its := onlyI w) w1 hI rfl (fun b x y => ?_) (fun h2 e2 a1 a2 a3 => ?_)
      · have := talk_mod (bk := b) hrel (sk := 0) (x := x) (y := y) (nm := nmB b)
        exact this
      refine ⟨_, rfl, ?_⟩
      have hF2 : Fr MR h h2 := fun j hj => (a3 j (by omega)).trans (hF j (by omega))
      refine r_iconst (pc := 53) dX9_learns_53 <| r_icmp_ne (pc := 54) 63 dX9_learns_54 (by decide) (by omega) (by omega) (fun hc_54 => ?_) (fun hc_54 => ?_)
      · skip
        refine r_iconst (pc := 63) dX9_learns_63 <| r_ior (pc := 64) ((bitsN (fun w => decide (jdF (onlyI w) s.bk = -1)) w : Nat) : Int) dX9_learns_64 (or0 _) <| r_istoren_1 (pc := 65) dX9_learns_65 rfl <| r_iinc_2 (pc := 66) dX9_learns_66 rfl rfl <| r_goto (pc := 69) 4 dX9_learns_69 (by decide) <| ?_
        have hs := ih (w + 1) h2 e2 _ (by omega) a1.1 a1.2.1 a1.2.2.1 a1.2.2.2.1 a1.2.2.2.2.1 (fun h' c1 c2 => hQ h' c1 (fun j hj => (c2 j hj).trans (hF2 j hj)))
        rw [show bitsN (fun w : Nat => decide (jdF (onlyI w) s.bk = -1)) (w + 1) = bitsN (fun w : Nat => decide (jdF (onlyI w) s.bk = -1)) w from by simp [bitsN, hc_54]] at hs
        exact hs
      · skip
        refine r_iconst (pc := 57) dX9_learns_57 <| r_iload_n (pc := 58) dX9_learns_58 rfl <| r_ishl (pc := 59) ((2 ^ w : Nat) : Int) dX9_learns_59 (shl10 (by omega)) <| r_goto (pc := 60) 64 dX9_learns_60 (by decide) <| r_ior (pc := 64) ((bitsN (fun w => decide (jdF (onlyI w) s.bk = -1)) w ||| 2 ^ w : Nat) : Int) dX9_learns_64 (i_orN _ _) <| r_istoren_1 (pc := 65) dX9_learns_65 rfl <| r_iinc_2 (pc := 66) dX9_learns_66 rfl rfl <| r_goto (pc := 69) 4 dX9_learns_69 (by decide) <| ?_
        have hs := ih (w + 1) h2 e2 _ (by omega) a1.1 a1.2.1 a1.2.2.1 a1.2.2.2.1 a1.2.2.2.2.1 (fun h' c1 c2 => hQ h' c1 (fun j hj => (c2 j hj).trans (hF2 j hj)))
        rw [show bitsN (fun w : Nat => decide (jdF (onlyI w) s.bk = -1)) (w + 1) = bitsN (fun w : Nat => decide (jdF (onlyI w) s.bk = -1)) w ||| 2 ^ w from by simp [bitsN, hc_54]] at hs
        exact hs
theorem ms_learns (hM : isM h s) (hI : Inv s.bk) (hQ : ∀ h', isM h' (fLearns s).2 → Fr MR h h' → Q (some (vI (fLearns s).1)) n h') : Cl G mX9_learns [vR 45] n h Q := by
  obtain ⟨e, it, g45, ge, g9, g46, g50, hit⟩ := id hM.raw
  unfold fLearns at hQ
  refine cl_of (by decide) (Nat.le_of_ble_eq_true rfl) rfl ?_
  refine r_iconst (pc := 0) dX9_learns_0 <| r_istoren_1 (pc := 1) dX9_learns_1 rfl <| r_iconst (pc := 2) dX9_learns_2 <| r_istoren_2 (pc := 3) dX9_learns_3 rfl <| ?_
  exact lp_learns hI 10 0 h e it (by omega) hM g45 g46 g50 hit hQ
end MJd


