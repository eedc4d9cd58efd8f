/-! ===== bows struck out ===== -/
def sbF (f : Int → Int) (i x : Int) : Int → Int := iu f i (f i - x)
def mnF (x z : Int) : Int := if z < x then z else x
def st2 (f : Int → Int) (a b : Int) : Int → Int := sbF (sbF f (8 * a + b) (mnF (f (8 * a + b)) (f (8 * b + a)))) (8 * b + a) (mnF (f (8 * a + b)) (f (8 * b + a)))
def mn3 (f : Int → Int) (a b c : Int) : Int := mnF (f (8 * a + b)) (mnF (f (8 * b + c)) (f (8 * c + a)))
def st3 (f : Int → Int) (a b c : Int) : Int → Int := sbF (sbF (sbF f (8 * a + b) (mn3 f a b c)) (8 * b + c) (mn3 f a b c)) (8 * c + a) (mn3 f a b c)
abbrev s2B (a : Int) : Int → (Int → Int) → (Int → Int) := fun b f => st2 f a b
abbrev s2A : Int → (Int → Int) → (Int → Int) := fun a f => lpI (s2B a) (7 - a).toNat (a + 1) f
abbrev s3C (a b : Int) : Int → (Int → Int) → (Int → Int) := fun c f => st3 (st3 f a b c) a c b
abbrev s3B (a : Int) : Int → (Int → Int) → (Int → Int) := fun b f => lpI (s3C a b) (7 - b).toNat (b + 1) f
abbrev s3A : Int → (Int → Int) → (Int → Int) := fun a f => lpI (s3B a) (7 - a).toNat (a + 1) f
def skF (f : Int → Int) : Int → Int := lpI s3A 8 0 (lpI s2A 8 0 f)
abbrev smS (f : Int → Int) : Int → Int → Int := fun k x => x + f k
def sum64 (f : Int → Int) : Int := lpI (smS f) 64 0 0
def B64 (f : Int → Int) : Prop := ∀ i, 0 ≤ i → i < 64 → 0 ≤ f i ∧ f i ≤ 99
def ag64 (f g : Int → Int) : Prop := ∀ i, 0 ≤ i → i < 64 → f i = g i
theorem mnF_in {x z : Int} : mnF x z ≤ x ∧ mnF x z ≤ z ∧ (mnF x z = x ∨ mnF x z = z) := by unfold mnF; split <;> omega
theorem sbF_s {f : Int → Int} {i x : Int} : sbF f i x i = f i - x := iu_s _ _ _
theorem sbF_n {f : Int → Int} {i j x : Int} (h : j ≠ i) : sbF f i x j = f j := iu_n h
theorem sbF_ag {f g : Int → Int} {i x : Int} (h : ag64 f g) (hi : 0 ≤ i ∧ i < 64) : ag64 (sbF f i x) (sbF g i x) := by
  intro j j0 j1
  by_cases e : j = i
  · rw [e, sbF_s, sbF_s, h i hi.1 hi.2]
  · rw [sbF_n e, sbF_n e, h j j0 j1]
theorem st2_ag {f g : Int → Int} {a b : Int} (h : ag64 f g) (ha : 0 ≤ a ∧ a < 8) (hb : 0 ≤ b ∧ b < 8) : ag64 (st2 f a b) (st2 g a b) := by
  unfold st2
  rw [h (8 * a + b) (by omega) (by omega), h (8 * b + a) (by omega) (by omega)]
  exact sbF_ag (sbF_ag h (by omega)) (by omega)
theorem st3_ag {f g : Int → Int} {a b c : Int} (h : ag64 f g) (ha : 0 ≤ a ∧ a < 8) (hb : 0 ≤ b ∧ b < 8) (hc : 0 ≤ c ∧ c < 8) : ag64 (st3 f a b c) (st3 g a b c) := by
  unfold st3 mn3
  rw [h (8 * a + b) (by omega) (by omega), h (8 * b + c) (by omega) (by omega), h (8 * c + a) (by omega) (by omega)]
  exact sbF_ag (sbF_ag (sbF_ag h (by omega)) (by omega)) (by omega)
theorem st2_B {f : Int → Int} {a b : Int} (h : B64 f) (ha : 0 ≤ a ∧ a < 8) (hb : 0 ≤ b ∧ b < 8) (hab : a ≠ b) : B64 (st2 f a b) := by
  intro i i0 i1
  have m := @mnF_in (f (8 * a + b)) (f (8 * b + a))
  have h1 := h (8 * a + b) (by omega) (by omega)
  have h2 := h (8 * b + a) (by omega) (by omega)
  have h3 := h i i0 i1
  unfold st2
  generalize mnF (f (8 * a + b)) (f (8 * b + a)) = x at *
  by_cases e : i = 8 * b + a
  · rw [e, sbF_s, sbF_n (by omega)]; omega
  · rw [sbF_n e]
    by_cases e2 : i = 8 * a + b
    · rw [e2, sbF_s]; omega
    · rw [sbF_n e2]; exact h3
theorem st3_B {f : Int → Int} {a b c : Int} (h : B64 f) (ha : 0 ≤ a ∧ a < 8) (hb : 0 ≤ b ∧ b < 8) (hc : 0 ≤ c ∧ c < 8) (hab : a ≠ b) (hbc : b ≠ c) (hac : a ≠ c) : B64 (st3 f a b c) := by
  intro i i0 i1
  have m := @mnF_in (f (8 * a + b)) (mnF (f (8 * b + c)) (f (8 * c + a)))
  have m2 := @mnF_in (f (8 * b + c)) (f (8 * c + a))
  have h1 := h (8 * a + b) (by omega) (by omega)
  have h2 := h (8 * b + c) (by omega) (by omega)
  have h4 := h (8 * c + a) (by omega) (by omega)
  have h3 := h i i0 i1
  unfold st3 mn3
  generalize mnF (f (8 * a + b)) (mnF (f (8 * b + c)) (f (8 * c + a))) = x at *
  by_cases e : i = 8 * c + a
  · rw [e, sbF_s, sbF_n (by omega), sbF_n (by omega)]; omega
  · rw [sbF_n e]
    by_cases e2 : i = 8 * b + c
    · rw [e2, sbF_s, sbF_n (by omega)]; omega
    · rw [sbF_n e2]
      by_cases e3 : i = 8 * a + b
      · rw [e3, sbF_s]; omega
      · rw [sbF_n e3]; exact h3
theorem lpI_ind {α : Type} {f : Int → α → α} {P : α → Prop} : ∀ (q : Nat) (i : Int) (x : α), (∀ k y, i ≤ k → k < i + q → P y → P (f k y)) → P x → P (lpI f q i x) := by
  intro q
  induction q with
  | zero => intro i x _ h; exact h
  | succ q ih => intro i x hs h; exact ih (i + 1) _ (fun k y a b => hs k y (by omega) (by omega)) (hs i x (by omega) (by omega) h)
theorem lpI_rel {α β : Type} {f : Int → α → α} {g : Int → β → β} {P : α → β → Prop} : ∀ (q : Nat) (i : Int) (x : α) (y : β), (∀ k x y, i ≤ k → k < i + q → P x y → P (f k x) (g k y)) → P x y → P (lpI f q i x) (lpI g q i y) := by
  intro q
  induction q with
  | zero => intro i x y _ h; exact h
  | succ q ih => intro i x y hs h; exact ih (i + 1) _ _ (fun k x y a b => hs k x y (by omega) (by omega)) (hs i x y (by omega) (by omega) h)
theorem skF_ag {f g : Int → Int} (h : ag64 f g) : ag64 (skF f) (skF g) := by
  unfold skF
  refine lpI_rel 8 0 _ _ (fun a f g a0 a1 h => ?_) (lpI_rel 8 0 _ _ (fun a f g a0 a1 h => ?_) h)
  · refine lpI_rel _ _ _ _ (fun b f g b0 b1 h => ?_) h
    refine lpI_rel _ _ _ _ (fun c f g c0 c1 h => ?_) h
    exact st3_ag (st3_ag h (by omega) (by omega) (by omega)) (by omega) (by omega) (by omega)
  · refine lpI_rel _ _ _ _ (fun b f g b0 b1 h => ?_) h
    exact st2_ag h (by omega) (by omega)
theorem sum64_ag {f g : Int → Int} (h : ag64 f g) : sum64 f = sum64 g := by
  unfold sum64
  refine lpI_rel (P := fun x y => x = y) 64 0 0 0 (fun k x y k0 k1 e => ?_) rfl
  show x + f k = y + g k
  rw [e, h k k0 (by omega)]
theorem skF_B {f : Int → Int} (h : B64 f) : B64 (skF f) := by
  unfold skF
  refine lpI_ind 8 0 _ (fun a f a0 a1 h => ?_) (lpI_ind 8 0 _ (fun a f a0 a1 h => ?_) h)
  · refine lpI_ind _ _ _ (fun b f b0 b1 h => ?_) h
    refine lpI_ind _ _ _ (fun c f c0 c1 h => ?_) h
    exact st3_B (st3_B h (by omega) (by omega) (by omega) (by omega) (by omega) (by omega)) (by omega) (by omega) (by omega) (by omega) (by omega) (by omega)
  · refine lpI_ind _ _ _ (fun b f b0 b1 h => ?_) h
    exact st2_B h (by omega) (by omega) (by omega)
def owB (bk : Int → Int) (i : Int) : Int := bk (36 + i)
def fStruck (s : SS) (a b : Int) : Int × SS := if a = -1 ∧ b = -1 then (sum64 (skF (owB s.bk)), s) else if (0 ≤ a ∧ a < s.bk 0) ∧ (0 ≤ b ∧ b < s.bk 0) ∧ a ≠ b then (skF (owB s.bk) (8 * a + b), s) else (-10, s.bad)
section MSk
variable {G : GT} {n : Nat} {h : Hp} {Q : PT} {s : SS} {e : Nat → Int} {it : Int → Int}
theorem sp_strikesOut {lf : Int → Int} {a b c : Int} (g45 : h 45 = some (aO 9 (mF e))) (g57 : h 57 = some (aA 64 lf)) (hB : B64 lf) (ha : 0 ≤ a ∧ a < 8) (hb : 0 ≤ b ∧ b < 8) (hc : 0 ≤ c ∧ c < 8) (hab : a ≠ b) (hbc : b ≠ c) (hac : a ≠ c) (hQ : ∀ h', h' 57 = some (aA 64 (st3 lf a b c)) → Fr (fun q => q = 57) h h' → Q none n h') : Cl G mX9_strikesOut [vR 45, vI a, vI b, vI c] n h Q := by
  have hM' := g45
  unfold mF at hM'
  have h1 := hB (8 * a + b) (by omega) (by omega)
  have h2 := hB (8 * b + c) (by omega) (by omega)
  have h3 := hB (8 * c + a) (by omega) (by omega)
  have fin : ∀ x h', x = mn3 lf a b c → h' 57 = some (aA 64 (iu (iu (iu lf (8 * a + b) (lf (8 * a + b) - x)) (8 * b + c) ((iu lf (8 * a + b) (lf (8 * a + b) - x)) (8 * b + c) - x)) (8 * c + a) ((iu (iu lf (8 * a + b) (lf (8 * a + b) - x)) (8 * b + c) ((iu lf (8 * a + b) (lf (8 * a + b) - x)) (8 * b + c) - x)) (8 * c + a) - x))) → Fr (fun q => q = 57) h h' → Q none n h' := by
    intro x h' e1 k57 hF
    subst e1
    exact hQ h' k57 hF
  have emn : mn3 lf a b c = mnF (lf (8 * a + b)) (mnF (lf (8 * b + c)) (lf (8 * c + a))) := rfl
  unfold mnF at emn
  refine cl_of (by decide) (Nat.le_of_ble_eq_true rfl) rfl ?_
  refine r_aload_n (pc := 0) dX9_strikesOut_0 rfl <| r_getf (pc := 1) dX9_strikesOut_1 fA_X9_44 hM' rfl <| r_bipush (pc := 4) dX9_strikesOut_4 (by decide) <| r_iload_n (pc := 6) dX9_strikesOut_6 rfl <| r_imul (pc := 7) dX9_strikesOut_7 <| r_iload_n (pc := 8) dX9_strikesOut_8 rfl <| r_iadd (pc := 9) dX9_strikesOut_9 <| r_iald (pc := 10) dX9_strikesOut_10 g57 (by omega) (by decide) <| r_istore_4 (pc := 11) dX9_strikesOut_11 rfl <| r_aload_n (pc := 13) dX9_strikesOut_13 rfl <| r_getf (pc := 14) dX9_strikesOut_14 fA_X9_44 hM' rfl <| r_bipush (pc := 17) dX9_strikesOut_17 (by decide) <| r_iload_n (pc := 19) dX9_strikesOut_19 rfl <| r_imul (pc := 20) dX9_strikesOut_20 <| r_iload_n (pc := 21) dX9_strikesOut_21 rfl <| r_iadd (pc := 22) dX9_strikesOut_22 <| r_iald (pc := 23) dX9_strikesOut_23 g57 (by omega) (by decide) <| r_iload (pc := 24) dX9_strikesOut_24 rfl <| r_icmp_ge (pc := 26) 43 dX9_strikesOut_26 (by decide) (by omega) (by omega) (fun hc_26 => ?_) (fun hc_26 => ?_)
  · skip
    refine r_iload (pc := 43) dX9_strikesOut_43 rfl <| r_istore_4 (pc := 45) dX9_strikesOut_45 rfl <| r_aload_n (pc := 47) dX9_strikesOut_47 rfl <| r_getf (pc := 48) dX9_strikesOut_48 fA_X9_44 hM' rfl <| r_bipush (pc := 51) dX9_strikesOut_51 (by decide) <| r_iload_n (pc := 53) dX9_strikesOut_53 rfl <| r_imul (pc := 54) dX9_strikesOut_54 <| r_iload_n (pc := 55) dX9_strikesOut_55 rfl <| r_iadd (pc := 56) dX9_strikesOut_56 <| r_iald (pc := 57) dX9_strikesOut_57 g57 (by omega) (by decide) <| r_iload (pc := 58) dX9_strikesOut_58 rfl <| r_icmp_ge (pc := 60) 77 dX9_strikesOut_60 (by decide) (by omega) (by omega) (fun hc_60 => ?_) (fun hc_60 => ?_)
    · skip
      refine r_iload (pc := 77) dX9_strikesOut_77 rfl <| r_istore_4 (pc := 79) dX9_strikesOut_79 rfl <| r_aload_n (pc := 81) dX9_strikesOut_81 rfl <| r_getf (pc := 82) dX9_strikesOut_82 fA_X9_44 hM' rfl <| r_bipush (pc := 85) dX9_strikesOut_85 (by decide) <| r_iload_n (pc := 87) dX9_strikesOut_87 rfl <| r_imul (pc := 88) dX9_strikesOut_88 <| r_iload_n (pc := 89) dX9_strikesOut_89 rfl <| r_iadd (pc := 90) dX9_strikesOut_90 <| r_dup2 (pc := 91) dX9_strikesOut_91 ⟨rfl, rfl⟩ <| r_iald (pc := 92) dX9_strikesOut_92 g57 (by omega) (by decide) <| r_iload (pc := 93) dX9_strikesOut_93 rfl <| r_isub (pc := 95) dX9_strikesOut_95 <| r_iast (pc := 96) dX9_strikesOut_96 g57 (by omega) (by decide) (fun h_96 g57 hF_96 => ?_)
      replace hM' := hF_96.keep hM' (by omega)
      refine r_aload_n (pc := 97) dX9_strikesOut_97 rfl <| r_getf (pc := 98) dX9_strikesOut_98 fA_X9_44 hM' rfl <| r_bipush (pc := 101) dX9_strikesOut_101 (by decide) <| r_iload_n (pc := 103) dX9_strikesOut_103 rfl <| r_imul (pc := 104) dX9_strikesOut_104 <| r_iload_n (pc := 105) dX9_strikesOut_105 rfl <| r_iadd (pc := 106) dX9_strikesOut_106 <| r_dup2 (pc := 107) dX9_strikesOut_107 ⟨rfl, rfl⟩ <| r_iald (pc := 108) dX9_strikesOut_108 g57 (by omega) (by decide) <| r_iload (pc := 109) dX9_strikesOut_109 rfl <| r_isub (pc := 111) dX9_strikesOut_111 <| r_iast (pc := 112) dX9_strikesOut_112 g57 (by omega) (by decide) (fun h_112 g57 hF_112 => ?_)
      replace hM' := hF_112.keep hM' (by omega)
      refine r_aload_n (pc := 113) dX9_strikesOut_113 rfl <| r_getf (pc := 114) dX9_strikesOut_114 fA_X9_44 hM' rfl <| r_bipush (pc := 117) dX9_strikesOut_117 (by decide) <| r_iload_n (pc := 119) dX9_strikesOut_119 rfl <| r_imul (pc := 120) dX9_strikesOut_120 <| r_iload_n (pc := 121) dX9_strikesOut_121 rfl <| r_iadd (pc := 122) dX9_strikesOut_122 <| r_dup2 (pc := 123) dX9_strikesOut_123 ⟨rfl, rfl⟩ <| r_iald (pc := 124) dX9_strikesOut_124 g57 (by omega) (by decide) <| r_iload (pc := 125) dX9_strikesOut_125 rfl <| r_isub (pc := 127) dX9_strikesOut_127 <| r_iast (pc := 128) dX9_strikesOut_128 g57 (by omega) (by decide) (fun h_128 g57 hF_128 => ?_)
      replace hM' := hF_128.keep hM' (by omega)
      refine r_vret (pc := 129) dX9_strikesOut_129 rfl ⟨Nat.le_of_ble_eq_true rfl, Nat.le_of_ble_eq_true rfl⟩ <| ?_
      refine fin _ _ ?_ g57 (fun j hj => (hF_128 j hj).trans ((hF_112 j hj).trans (hF_96 j hj)))
      rw [emn]
      (repeat' split) <;> omega
    · skip
      refine r_aload_n (pc := 63) dX9_strikesOut_63 rfl <| r_getf (pc := 64) dX9_strikesOut_64 fA_X9_44 hM' rfl <| r_bipush (pc := 67) dX9_strikesOut_67 (by decide) <| r_iload_n (pc := 69) dX9_strikesOut_69 rfl <| r_imul (pc := 70) dX9_strikesOut_70 <| r_iload_n (pc := 71) dX9_strikesOut_71 rfl <| r_iadd (pc := 72) dX9_strikesOut_72 <| r_iald (pc := 73) dX9_strikesOut_73 g57 (by omega) (by decide) <| r_goto (pc := 74) 79 dX9_strikesOut_74 (by decide) <| r_istore_4 (pc := 79) dX9_strikesOut_79 rfl <| r_aload_n (pc := 81) dX9_strikesOut_81 rfl <| r_getf (pc := 82) dX9_strikesOut_82 fA_X9_44 hM' rfl <| r_bipush (pc := 85) dX9_strikesOut_85 (by decide) <| r_iload_n (pc := 87) dX9_strikesOut_87 rfl <| r_imul (pc := 88) dX9_strikesOut_88 <| r_iload_n (pc := 89) dX9_strikesOut_89 rfl <| r_iadd (pc := 90) dX9_strikesOut_90 <| r_dup2 (pc := 91) dX9_strikesOut_91 ⟨rfl, rfl⟩ <| r_iald (pc := 92) dX9_strikesOut_92 g57 (by omega) (by decide) <| r_iload (pc := 93) dX9_strikesOut_93 rfl <| r_isub (pc := 95) dX9_strikesOut_95 <| r_iast (pc := 96) dX9_strikesOut_96 g57 (by omega) (by decide) (fun h_96 g57 hF_96 => ?_)
      replace hM' := hF_96.keep hM' (by omega)
      refine r_aload_n (pc := 97) dX9_strikesOut_97 rfl <| r_getf (pc := 98) dX9_strikesOut_98 fA_X9_44 hM' rfl <| r_bipush (pc := 101) dX9_strikesOut_101 (by decide) <| r_iload_n (pc := 103) dX9_strikesOut_103 rfl <| r_imul (pc := 104) dX9_strikesOut_104 <| r_iload_n (pc := 105) dX9_strikesOut_105 rfl <| r_iadd (pc := 106) dX9_strikesOut_106 <| r_dup2 (pc := 107) dX9_strikesOut_107 ⟨rfl, rfl⟩ <| r_iald (pc := 108) dX9_strikesOut_108 g57 (by omega) (by decide) <| r_iload (pc := 109) dX9_strikesOut_109 rfl <| r_isub (pc := 111) dX9_strikesOut_111 <| r_iast (pc := 112) dX9_strikesOut_112 g57 (by omega) (by decide) (fun h_112 g57 hF_112 => ?_)
      replace hM' := hF_112.keep hM' (by omega)
      refine r_aload_n (pc := 113) dX9_strikesOut_113 rfl <| r_getf (pc := 114) dX9_strikesOut_114 fA_X9_44 hM' rfl <| r_bipush (pc := 117) dX9_strikesOut_117 (by decide) <| r_iload_n (pc := 119) dX9_strikesOut_119 rfl <| r_imul (pc := 120) dX9_strikesOut_120 <| r_iload_n (pc := 121) dX9_strikesOut_121 rfl <| r_iadd (pc := 122) dX9_strikesOut_122 <| r_dup2 (pc := 123) dX9_strikesOut_123 ⟨rfl, rfl⟩ <| r_iald (pc := 124) dX9_strikesOut_124 g57 (by omega) (by decide) <| r_iload (pc := 125) dX9_strikesOut_125 rfl <| r_isub (pc := 127) dX9_strikesOut_127 <| r_iast (pc := 128) dX9_strikesOut_128 g57 (by omega) (by decide) (fun h_128 g57 hF_128 => ?_)
      replace hM' := hF_128.keep hM' (by omega)
      refine r_vret (pc := 129) dX9_strikesOut_129 rfl ⟨Nat.le_of_ble_eq_true rfl, Nat.le_of_ble_eq_true rfl⟩ <| ?_
      refine fin _ _ ?_ g57 (fun j hj => (hF_128 j hj).trans ((hF_112 j hj).trans (hF_96 j hj)))
      rw [emn]
      (repeat' split) <;> omega
  · skip
    refine r_aload_n (pc := 29) dX9_strikesOut_29 rfl <| r_getf (pc := 30) dX9_strikesOut_30 fA_X9_44 hM' rfl <| r_bipush (pc := 33) dX9_strikesOut_33 (by decide) <| r_iload_n (pc := 35) dX9_strikesOut_35 rfl <| r_imul (pc := 36) dX9_strikesOut_36 <| r_iload_n (pc := 37) dX9_strikesOut_37 rfl <| r_iadd (pc := 38) dX9_strikesOut_38 <| r_iald (pc := 39) dX9_strikesOut_39 g57 (by omega) (by decide) <| r_goto (pc := 40) 45 dX9_strikesOut_40 (by decide) <| r_istore_4 (pc := 45) dX9_strikesOut_45 rfl <| r_aload_n (pc := 47) dX9_strikesOut_47 rfl <| r_getf (pc := 48) dX9_strikesOut_48 fA_X9_44 hM' rfl <| r_bipush (pc := 51) dX9_strikesOut_51 (by decide) <| r_iload_n (pc := 53) dX9_strikesOut_53 rfl <| r_imul (pc := 54) dX9_strikesOut_54 <| r_iload_n (pc := 55) dX9_strikesOut_55 rfl <| r_iadd (pc := 56) dX9_strikesOut_56 <| r_iald (pc := 57) dX9_strikesOut_57 g57 (by omega) (by decide) <| r_iload (pc := 58) dX9_strikesOut_58 rfl <| r_icmp_ge (pc := 60) 77 dX9_strikesOut_60 (by decide) (by omega) (by omega) (fun hc_60 => ?_) (fun hc_60 => ?_)
    · skip
      refine r_iload (pc := 77) dX9_strikesOut_77 rfl <| r_istore_4 (pc := 79) dX9_strikesOut_79 rfl <| r_aload_n (pc := 81) dX9_strikesOut_81 rfl <| r_getf (pc := 82) dX9_strikesOut_82 fA_X9_44 hM' rfl <| r_bipush (pc := 85) dX9_strikesOut_85 (by decide) <| r_iload_n (pc := 87) dX9_strikesOut_87 rfl <| r_imul (pc := 88) dX9_strikesOut_88 <| r_iload_n (pc := 89) dX9_strikesOut_89 rfl <| r_iadd (pc := 90) dX9_strikesOut_90 <| r_dup2 (pc := 91) dX9_strikesOut_91 ⟨rfl, rfl⟩ <| r_iald (pc := 92) dX9_strikesOut_92 g57 (by omega) (by decide) <| r_iload (pc := 93) dX9_strikesOut_93 rfl <| r_isub (pc := 95) dX9_strikesOut_95 <| r_iast (pc := 96) dX9_strikesOut_96 g57 (by omega) (by decide) (fun h_96 g57 hF_96 => ?_)
      replace hM' := hF_96.keep hM' (by omega)
      refine r_aload_n (pc := 97) dX9_strikesOut_97 rfl <| r_getf (pc := 98) dX9_strikesOut_98 fA_X9_44 hM' rfl <| r_bipush (pc := 101) dX9_strikesOut_101 (by decide) <| r_iload_n (pc := 103) dX9_strikesOut_103 rfl <| r_imul (pc := 104) dX9_strikesOut_104 <| r_iload_n (pc := 105) dX9_strikesOut_105 rfl <| r_iadd (pc := 106) dX9_strikesOut_106 <| r_dup2 (pc := 107) dX9_strikesOut_107 ⟨rfl, rfl⟩ <| r_iald (pc := 108) dX9_strikesOut_108 g57 (by omega) (by decide) <| r_iload (pc := 109) dX9_strikesOut_109 rfl <| r_isub (pc := 111) dX9_strikesOut_111 <| r_iast (pc := 112) dX9_strikesOut_112 g57 (by omega) (by decide) (fun h_112 g57 hF_112 => ?_)
      replace hM' := hF_112.keep hM' (by omega)
      refine r_aload_n (pc := 113) dX9_strikesOut_113 rfl <| r_getf (pc := 114) dX9_strikesOut_114 fA_X9_44 hM' rfl <| r_bipush (pc := 117) dX9_strikesOut_117 (by decide) <| r_iload_n (pc := 119) dX9_strikesOut_119 rfl <| r_imul (pc := 120) dX9_strikesOut_120 <| r_iload_n (pc := 121) dX9_strikesOut_121 rfl <| r_iadd (pc := 122) dX9_strikesOut_122 <| r_dup2 (pc := 123) dX9_strikesOut_123 ⟨rfl, rfl⟩ <| r_iald (pc := 124) dX9_strikesOut_124 g57 (by omega) (by decide) <| r_iload (pc := 125) dX9_strikesOut_125 rfl <| r_isub (pc := 127) dX9_strikesOut_127 <| r_iast (pc := 128) dX9_strikesOut_128 g57 (by omega) (by decide) (fun h_128 g57 hF_128 => ?_)
      replace hM' := hF_128.keep hM' (by omega)
      refine r_vret (pc := 129) dX9_strikesOut_129 rfl ⟨Nat.le_of_ble_eq_true rfl, Nat.le_of_ble_eq_true rfl⟩ <| ?_
      refine fin _ _ ?_ g57 (fun j hj => (hF_128 j hj).trans ((hF_112 j hj).trans (hF_96 j hj)))
      rw [emn]
      (repeat' split) <;> omega
    · skip
      refine r_aload_n (pc := 63) dX9_strikesOut_63 rfl <| r_getf (pc := 64) dX9_strikesOut_64 fA_X9_44 hM' rfl <| r_bipush (pc := 67) dX9_strikesOut_67 (by decide) <| r_iload_n (pc := 69) dX9_strikesOut_69 rfl <| r_imul (pc := 70) dX9_strikesOut_70 <| r_iload_n (pc := 71) dX9_strikesOut_71 rfl <| r_iadd (pc := 72) dX9_strikesOut_72 <| r_iald (pc := 73) dX9_strikesOut_73 g57 (by omega) (by decide) <| r_goto (pc := 74) 79 dX9_strikesOut_74 (by decide) <| r_istore_4 (pc := 79) dX9_strikesOut_79 rfl <| r_aload_n (pc := 81) dX9_strikesOut_81 rfl <| r_getf (pc := 82) dX9_strikesOut_82 fA_X9_44 hM' rfl <| r_bipush (pc := 85) dX9_strikesOut_85 (by decide) <| r_iload_n (pc := 87) dX9_strikesOut_87 rfl <| r_imul (pc := 88) dX9_strikesOut_88 <| r_iload_n (pc := 89) dX9_strikesOut_89 rfl <| r_iadd (pc := 90) dX9_strikesOut_90 <| r_dup2 (pc := 91) dX9_strikesOut_91 ⟨rfl, rfl⟩ <| r_iald (pc := 92) dX9_strikesOut_92 g57 (by omega) (by decide) <| r_iload (pc := 93) dX9_strikesOut_93 rfl <| r_isub (pc := 95) dX9_strikesOut_95 <| r_iast (pc := 96) dX9_strikesOut_96 g57 (by omega) (by decide) (fun h_96 g57 hF_96 => ?_)
      replace hM' := hF_96.keep hM' (by omega)
      refine r_aload_n (pc := 97) dX9_strikesOut_97 rfl <| r_getf (pc := 98) dX9_strikesOut_98 fA_X9_44 hM' rfl <| r_bipush (pc := 101) dX9_strikesOut_101 (by decide) <| r_iload_n (pc := 103) dX9_strikesOut_103 rfl <| r_imul (pc := 104) dX9_strikesOut_104 <| r_iload_n (pc := 105) dX9_strikesOut_105 rfl <| r_iadd (pc := 106) dX9_strikesOut_106 <| r_dup2 (pc := 107) dX9_strikesOut_107 ⟨rfl, rfl⟩ <| r_iald (pc := 108) dX9_strikesOut_108 g57 (by omega) (by decide) <| r_iload (pc := 109) dX9_strikesOut_109 rfl <| r_isub (pc := 111) dX9_strikesOut_111 <| r_iast (pc := 112) dX9_strikesOut_112 g57 (by omega) (by decide) (fun h_112 g57 hF_112 => ?_)
      replace hM' := hF_112.keep hM' (by omega)
      refine r_aload_n (pc := 113) dX9_strikesOut_113 rfl <| r_getf (pc := 114) dX9_strikesOut_114 fA_X9_44 hM' rfl <| r_bipush (pc := 117) dX9_strikesOut_117 (by decide) <| r_iload_n (pc := 119) dX9_strikesOut_119 rfl <| r_imul (pc := 120) dX9_strikesOut_120 <| r_iload_n (pc := 121) dX9_strikesOut_121 rfl <| r_iadd (pc := 122) dX9_strikesOut_122 <| r_dup2 (pc := 123) dX9_strikesOut_123 ⟨rfl, rfl⟩ <| r_iald (pc := 124) dX9_strikesOut_124 g57 (by omega) (by decide) <| r_iload (pc := 125) dX9_strikesOut_125 rfl <| r_isub (pc := 127) dX9_strikesOut_127 <| r_iast (pc := 128) dX9_strikesOut_128 g57 (by omega) (by decide) (fun h_128 g57 hF_128 => ?_)
      replace hM' := hF_128.keep hM' (by omega)
      refine r_vret (pc := 129) dX9_strikesOut_129 rfl ⟨Nat.le_of_ble_eq_true rfl, Nat.le_of_ble_eq_true rfl⟩ <| ?_
      refine fin _ _ ?_ g57 (fun j hj => (hF_128 j hj).trans ((hF_112 j hj).trans (hF_96 j hj)))
      rw [emn]
      (repeat' split) <;> omega
theorem lp_kcopy {a b al : Int} {bk : Int → Int} {l5 l6 : AV} : ∀ (q : Nat) (k : Int) (h : Hp) (lf : Int → Int), 0 ≤ k → k + q = 64 → h 45 = some (aO 9 (mF e)) → h 46 = some (aA 480 bk) → h 57 = some (aA 64 lf) →
    (∀ h' lf' k', h' 57 = some (aA 64 lf') → (∀ j, k ≤ j → j < 64 → lf' j = owB bk j) → (∀ j, j < k → lf' j = lf j) → Fr (fun j => j = 57) h h' → At G mX9_struck 70 [vR 45, vI a, vI b, vI al, vI k', l5, l6] [] (0, 0, n) h' Q) → At G mX9_struck 40 [vR 45, vI a, vI b, vI al, vI k, l5, l6] [] (0, 0, n) h Q := by
  intro q
  induction q with
  | zero =>
    intro k h lf hk hq g45 g46 g57 hQ
    refine r_iload (pc := 40) dX9_struck_40 rfl <| r_bipush (pc := 42) dX9_struck_42 (by decide) <| r_icmp_ge (pc := 44) 70 dX9_struck_44 (by decide) (by omega) (by omega) (fun hc_44 => ?_) (fun hc_44 => ?_)
    · skip
      exact hQ h lf k g57 (fun j a b => by omega) (fun j _ => rfl) Fr.rf
    · skip
      exfalso; omega
  | succ q ih =>
    intro k h lf hk hq g45 g46 g57 hQ
    have hM' := g45
    unfold mF at hM'
    refine r_iload (pc := 40) dX9_struck_40 rfl <| r_bipush (pc := 42) dX9_struck_42 (by decide) <| r_icmp_ge (pc := 44) 70 dX9_struck_44 (by decide) (by omega) (by omega) (fun hc_44 => ?_) (fun hc_44 => ?_)
    · skip
      exfalso; omega
    · skip
      refine r_aload_n (pc := 47) dX9_struck_47 rfl <| r_getf (pc := 48) dX9_struck_48 fA_X9_44 hM' rfl <| r_iload (pc := 51) dX9_struck_51 rfl <| r_aload_n (pc := 53) dX9_struck_53 rfl <| r_getf (pc := 54) dX9_struck_54 fA_X9_7 hM' rfl <| r_bipush (pc := 57) dX9_struck_57 (by decide) <| r_iload (pc := 59) dX9_struck_59 rfl <| r_iadd (pc := 61) dX9_struck_61 <| r_iald (pc := 62) dX9_struck_62 g46 (by omega) (by decide) <| r_iast (pc := 63) dX9_struck_63 g57 (by omega) (by decide) (fun h_63 g57 hF_63 => ?_)
      replace hM' := hF_63.keep hM' (by omega)
      replace g46 := hF_63.keep g46 (by omega)
      refine r_iinc_4 (pc := 64) dX9_struck_64 rfl rfl <| r_goto (pc := 67) 40 dX9_struck_67 (by decide) <| ?_
      refine ih (k + 1) h_63 _ (by omega) (by omega) (hF_63.keep g45 (by omega)) g46 g57 (fun h' lf' k' a1 a2 a3 a4 => hQ h' lf' k' a1 (fun j j1 j2 => ?_) (fun j j1 => ?_) (fun j hj => (a4 j hj).trans (hF_63 j hj)))
      · by_cases e1 : j = k
        · rw [a3 j (by omega), e1, iu_s]; rfl
        · exact a2 j (by omega) j2
      · rw [a3 j (by omega), iu_n (by omega)]
theorem lp_k2b {a0 b0 al a : Int} {l6 : AV} (ha : 0 ≤ a ∧ a < 8) : ∀ (q : Nat) (b : Int) (h : Hp) (lf : Int → Int) (l6 : AV), a < b → b + q = 8 → h 45 = some (aO 9 (mF e)) → h 57 = some (aA 64 lf) → B64 lf →
    (∀ h' b' l6', h' 57 = some (aA 64 (lpI (s2B a) q b lf)) → B64 (lpI (s2B a) q b lf) → Fr (fun j => j = 57) h h' → At G mX9_struck 195 [vR 45, vI a0, vI b0, vI al, vI a, vI b', l6'] [] (0, 0, n) h' Q) → At G mX9_struck 86 [vR 45, vI a0, vI b0, vI al, vI a, vI b, l6] [] (0, 0, n) h Q := by
  intro q
  induction q with
  | zero =>
    intro b h lf l6 hb hq g45 g57 hB hQ
    refine r_iload (pc := 86) dX9_struck_86 rfl <| r_bipush (pc := 88) dX9_struck_88 (by decide) <| r_icmp_ge (pc := 90) 195 dX9_struck_90 (by decide) (by omega) (by omega) (fun hc_90 => ?_) (fun hc_90 => ?_)
    · skip
      exact hQ h b _ g57 hB Fr.rf
    · skip
      exfalso; omega
  | succ q ih =>
    intro b h lf l6 hb hq g45 g57 hB hQ
    have hM' := g45
    unfold mF at hM'
    have h1 := hB (8 * a + b) (by omega) (by omega)
    have h2 := hB (8 * b + a) (by omega) (by omega)
    have fin : ∀ x h' l6', x = mnF (lf (8 * a + b)) (lf (8 * b + a)) → h' 57 = some (aA 64 (iu (iu lf (8 * a + b) (lf (8 * a + b) - x)) (8 * b + a) ((iu lf (8 * a + b) (lf (8 * a + b) - x)) (8 * b + a) - x))) → Fr (fun q => q = 57) h h' → At G mX9_struck 86 [vR 45, vI a0, vI b0, vI al, vI a, vI (b + 1), l6'] [] (0, 0, n) h' Q := by
      intro x h' l6' e1 k57 hF
      subst e1
      exact ih (b + 1) h' _ l6' (by omega) (by omega) (hF.keep g45 (by omega)) k57 (st2_B hB ha (by omega) (by omega)) (fun h'' b' l6' c1 c2 c3 => hQ h'' b' l6' c1 c2 (fun j hj => (c3 j hj).trans (hF j hj)))
    have emn : mnF (lf (8 * a + b)) (lf (8 * b + a)) = mnF (lf (8 * a + b)) (lf (8 * b + a)) := rfl
    conv at emn => rhs; unfold mnF
    refine r_iload (pc := 86) dX9_struck_86 rfl <| r_bipush (pc := 88) dX9_struck_88 (by decide) <| r_icmp_ge (pc := 90) 195 dX9_struck_90 (by decide) (by omega) (by omega) (fun hc_90 => ?_) (fun hc_90 => ?_)
    · skip
      exfalso; omega
    · skip
      refine r_aload_n (pc := 93) dX9_struck_93 rfl <| r_getf (pc := 94) dX9_struck_94 fA_X9_44 hM' rfl <| r_bipush (pc := 97) dX9_struck_97 (by decide) <| r_iload (pc := 99) dX9_struck_99 rfl <| r_imul (pc := 101) dX9_struck_101 <| r_iload (pc := 102) dX9_struck_102 rfl <| r_iadd (pc := 104) dX9_struck_104 <| r_iald (pc := 105) dX9_struck_105 g57 (by omega) (by decide) <| r_aload_n (pc := 106) dX9_struck_106 rfl <| r_getf (pc := 107) dX9_struck_107 fA_X9_44 hM' rfl <| r_bipush (pc := 110) dX9_struck_110 (by decide) <| r_iload (pc := 112) dX9_struck_112 rfl <| r_imul (pc := 114) dX9_struck_114 <| r_iload (pc := 115) dX9_struck_115 rfl <| r_iadd (pc := 117) dX9_struck_117 <| r_iald (pc := 118) dX9_struck_118 g57 (by omega) (by decide) <| r_icmp_ge (pc := 119) 138 dX9_struck_119 (by decide) (by omega) (by omega) (fun hc_119 => ?_) (fun hc_119 => ?_)
      · skip
        refine r_aload_n (pc := 138) dX9_struck_138 rfl <| r_getf (pc := 139) dX9_struck_139 fA_X9_44 hM' rfl <| r_bipush (pc := 142) dX9_struck_142 (by decide) <| r_iload (pc := 144) dX9_struck_144 rfl <| r_imul (pc := 146) dX9_struck_146 <| r_iload (pc := 147) dX9_struck_147 rfl <| r_iadd (pc := 149) dX9_struck_149 <| r_iald (pc := 150) dX9_struck_150 g57 (by omega) (by decide) <| r_istore_6 (pc := 151) dX9_struck_151 rfl <| r_aload_n (pc := 153) dX9_struck_153 rfl <| r_getf (pc := 154) dX9_struck_154 fA_X9_44 hM' rfl <| r_bipush (pc := 157) dX9_struck_157 (by decide) <| r_iload (pc := 159) dX9_struck_159 rfl <| r_imul (pc := 161) dX9_struck_161 <| r_iload (pc := 162) dX9_struck_162 rfl <| r_iadd (pc := 164) dX9_struck_164 <| r_dup2 (pc := 165) dX9_struck_165 ⟨rfl, rfl⟩ <| r_iald (pc := 166) dX9_struck_166 g57 (by omega) (by decide) <| r_iload (pc := 167) dX9_struck_167 rfl <| r_isub (pc := 169) dX9_struck_169 <| r_iast (pc := 170) dX9_struck_170 g57 (by omega) (by decide) (fun h_170 g57 hF_170 => ?_)
        replace hM' := hF_170.keep hM' (by omega)
        refine r_aload_n (pc := 171) dX9_struck_171 rfl <| r_getf (pc := 172) dX9_struck_172 fA_X9_44 hM' rfl <| r_bipush (pc := 175) dX9_struck_175 (by decide) <| r_iload (pc := 177) dX9_struck_177 rfl <| r_imul (pc := 179) dX9_struck_179 <| r_iload (pc := 180) dX9_struck_180 rfl <| r_iadd (pc := 182) dX9_struck_182 <| r_dup2 (pc := 183) dX9_struck_183 ⟨rfl, rfl⟩ <| r_iald (pc := 184) dX9_struck_184 g57 (by omega) (by decide) <| r_iload (pc := 185) dX9_struck_185 rfl <| r_isub (pc := 187) dX9_struck_187 <| r_iast (pc := 188) dX9_struck_188 g57 (by omega) (by decide) (fun h_188 g57 hF_188 => ?_)
        replace hM' := hF_188.keep hM' (by omega)
        refine r_iinc_5 (pc := 189) dX9_struck_189 rfl rfl <| r_goto (pc := 192) 86 dX9_struck_192 (by decide) <| ?_
        refine fin _ _ _ ?_ g57 (fun j hj => (hF_188 j hj).trans (hF_170 j hj))
        rw [emn]
        split <;> omega
      · skip
        refine r_aload_n (pc := 122) dX9_struck_122 rfl <| r_getf (pc := 123) dX9_struck_123 fA_X9_44 hM' rfl <| r_bipush (pc := 126) dX9_struck_126 (by decide) <| r_iload (pc := 128) dX9_struck_128 rfl <| r_imul (pc := 130) dX9_struck_130 <| r_iload (pc := 131) dX9_struck_131 rfl <| r_iadd (pc := 133) dX9_struck_133 <| r_iald (pc := 134) dX9_struck_134 g57 (by omega) (by decide) <| r_goto (pc := 135) 151 dX9_struck_135 (by decide) <| r_istore_6 (pc := 151) dX9_struck_151 rfl <| r_aload_n (pc := 153) dX9_struck_153 rfl <| r_getf (pc := 154) dX9_struck_154 fA_X9_44 hM' rfl <| r_bipush (pc := 157) dX9_struck_157 (by decide) <| r_iload (pc := 159) dX9_struck_159 rfl <| r_imul (pc := 161) dX9_struck_161 <| r_iload (pc := 162) dX9_struck_162 rfl <| r_iadd (pc := 164) dX9_struck_164 <| r_dup2 (pc := 165) dX9_struck_165 ⟨rfl, rfl⟩ <| r_iald (pc := 166) dX9_struck_166 g57 (by omega) (by decide) <| r_iload (pc := 167) dX9_struck_167 rfl <| r_isub (pc := 169) dX9_struck_169 <| r_iast (pc := 170) dX9_struck_170 g57 (by omega) (by decide) (fun h_170 g57 hF_170 => ?_)
        replace hM' := hF_170.keep hM' (by omega)
        refine r_aload_n (pc := 171) dX9_struck_171 rfl <| r_getf (pc := 172) dX9_struck_172 fA_X9_44 hM' rfl <| r_bipush (pc := 175) dX9_struck_175 (by decide) <| r_iload (pc := 177) dX9_struck_177 rfl <| r_imul (pc := 179) dX9_struck_179 <| r_iload (pc := 180) dX9_struck_180 rfl <| r_iadd (pc := 182) dX9_struck_182 <| r_dup2 (pc := 183) dX9_struck_183 ⟨rfl, rfl⟩ <| r_iald (pc := 184) dX9_struck_184 g57 (by omega) (by decide) <| r_iload (pc := 185) dX9_struck_185 rfl <| r_isub (pc := 187) dX9_struck_187 <| r_iast (pc := 188) dX9_struck_188 g57 (by omega) (by decide) (fun h_188 g57 hF_188 => ?_)
        replace hM' := hF_188.keep hM' (by omega)
        refine r_iinc_5 (pc := 189) dX9_struck_189 rfl rfl <| r_goto (pc := 192) 86 dX9_struck_192 (by decide) <| ?_
        refine fin _ _ _ ?_ g57 (fun j hj => (hF_188 j hj).trans (hF_170 j hj))
        rw [emn]
        split <;> omega
theorem lp_k2a {a0 b0 al : Int} : ∀ (q : Nat) (a : Int) (h : Hp) (lf : Int → Int) (l5 l6 : AV), 0 ≤ a → a + q = 8 → h 45 = some (aO 9 (mF e)) → h 57 = some (aA 64 lf) → B64 lf →
    (∀ h' a' l5' l6', h' 57 = some (aA 64 (lpI s2A q a lf)) → B64 (lpI s2A q a lf) → Fr (fun j => j = 57) h h' → At G mX9_struck 201 [vR 45, vI a0, vI b0, vI al, vI a', l5', l6'] [] (0, 0, n) h' Q) → At G mX9_struck 73 [vR 45, vI a0, vI b0, vI al, vI a, l5, l6] [] (0, 0, n) h Q := by
  intro q
  induction q with
  | zero =>
    intro a h lf l5 l6 ha hq g45 g57 hB hQ
    refine r_iload (pc := 73) dX9_struck_73 rfl <| r_bipush (pc := 75) dX9_struck_75 (by decide) <| r_icmp_ge (pc := 77) 201 dX9_struck_77 (by decide) (by omega) (by omega) (fun hc_77 => ?_) (fun hc_77 => ?_)
    · skip
      exact hQ h a _ _ g57 hB Fr.rf
    · skip
      exfalso; omega
  | succ q ih =>
    intro a h lf l5 l6 ha hq g45 g57 hB hQ
    refine r_iload (pc := 73) dX9_struck_73 rfl <| r_bipush (pc := 75) dX9_struck_75 (by decide) <| r_icmp_ge (pc := 77) 201 dX9_struck_77 (by decide) (by omega) (by omega) (fun hc_77 => ?_) (fun hc_77 => ?_)
    · skip
      exfalso; omega
    · skip
      refine r_iload (pc := 80) dX9_struck_80 rfl <| r_iconst (pc := 82) dX9_struck_82 <| r_iadd (pc := 83) dX9_struck_83 <| r_istore_5 (pc := 84) dX9_struck_84 rfl <| ?_
      refine lp_k2b (l6 := vU) (by omega) (7 - a).toNat (a + 1) h lf _ (by omega) (by omega) g45 g57 hB (fun h1 b' l6' c1 c2 c3 => ?_)
      refine r_iinc_4 (pc := 195) dX9_struck_195 rfl rfl <| r_goto (pc := 198) 73 dX9_struck_198 (by decide) <| ?_
      exact ih (a + 1) h1 _ _ _ (by omega) (by omega) (c3.keep g45 (by omega)) c1 c2 (fun h' a' l5' l6' d1 d2 d3 => hQ h' a' l5' l6' d1 d2 (fun j hj => (d3 j hj).trans (c3 j hj)))
theorem lp_k3c {a0 b0 al a b : Int} (ha : 0 ≤ a ∧ a < b) (hb : b < 8) : ∀ (q : Nat) (c : Int) (h : Hp) (lf : Int → Int), b < c → c + q = 8 → h 45 = some (aO 9 (mF e)) → h 57 = some (aA 64 lf) → B64 lf →
    (∀ h' c', h' 57 = some (aA 64 (lpI (s3C a b) q c lf)) → B64 (lpI (s3C a b) q c lf) → Fr (fun j => j = 57) h h' → At G mX9_struck 263 [vR 45, vI a0, vI b0, vI al, vI a, vI b, vI c'] [] (0, 0, n) h' Q) → At G mX9_struck 230 [vR 45, vI a0, vI b0, vI al, vI a, vI b, vI c] [] (0, 0, n) h Q := by
  intro q
  induction q with
  | zero =>
    intro c h lf hc hq g45 g57 hB hQ
    refine r_iload (pc := 230) dX9_struck_230 rfl <| r_bipush (pc := 232) dX9_struck_232 (by decide) <| r_icmp_ge (pc := 234) 263 dX9_struck_234 (by decide) (by omega) (by omega) (fun hc_234 => ?_) (fun hc_234 => ?_)
    · skip
      exact hQ h c g57 hB Fr.rf
    · skip
      exfalso; omega
  | succ q ih =>
    intro c h lf hc hq g45 g57 hB hQ
    have hM' := g45
    unfold mF at hM'
    refine r_iload (pc := 230) dX9_struck_230 rfl <| r_bipush (pc := 232) dX9_struck_232 (by decide) <| r_icmp_ge (pc := 234) 263 dX9_struck_234 (by decide) (by omega) (by omega) (fun hc_234 => ?_) (fun hc_234 => ?_)
    · skip
      exfalso; omega
    · skip
      refine r_aload_n (pc := 237) dX9_struck_237 rfl <| r_iload (pc := 238) dX9_struck_238 rfl <| r_iload (pc := 240) dX9_struck_240 rfl <| r_iload (pc := 242) dX9_struck_242 rfl <| cVv [_, _, _] (pc := 244) dX9_struck_244 k_X9_210 ⟨⟨Nat.le_of_ble_eq_true rfl, Nat.le_of_ble_eq_true rfl⟩, ⟨Nat.le_of_ble_eq_true rfl, Nat.le_of_ble_eq_true rfl⟩, Nat.le_of_ble_eq_true rfl⟩ ⟨rfl, rfl⟩ hM' ?_
      refine sp_strikesOut g45 g57 hB (by omega) (by omega) (by omega) (by omega) (by omega) (by omega) (fun h1 c1 c2 => ?_)
      refine ⟨rfl, ?_⟩
      have hB1 : B64 (st3 lf a b c) := st3_B hB (by omega) (by omega) (by omega) (by omega) (by omega) (by omega)
      replace hM' := c2.keep hM' (by omega)
      refine r_aload_n (pc := 247) dX9_struck_247 rfl <| r_iload (pc := 248) dX9_struck_248 rfl <| r_iload (pc := 250) dX9_struck_250 rfl <| r_iload (pc := 252) dX9_struck_252 rfl <| cVv [_, _, _] (pc := 254) dX9_struck_254 k_X9_210 ⟨⟨Nat.le_of_ble_eq_true rfl, Nat.le_of_ble_eq_true rfl⟩, ⟨Nat.le_of_ble_eq_true rfl, Nat.le_of_ble_eq_true rfl⟩, Nat.le_of_ble_eq_true rfl⟩ ⟨rfl, rfl⟩ hM' ?_
      refine sp_strikesOut (c2.keep g45 (by omega)) c1 hB1 (by omega) (by omega) (by omega) (by omega) (by omega) (by omega) (fun h2 d1 d2 => ?_)
      refine ⟨rfl, ?_⟩
      refine r_iinc_6 (pc := 257) dX9_struck_257 rfl rfl <| r_goto (pc := 260) 230 dX9_struck_260 (by decide) <| ?_
      have hF : Fr (fun j => j = 57) h h2 := fun j hj => (d2 j hj).trans (c2 j hj)
      exact ih (c + 1) h2 _ (by omega) (by omega) (hF.keep g45 (by omega)) d1 (st3_B hB1 (by omega) (by omega) (by omega) (by omega) (by omega) (by omega)) (fun h' c' e1 e2 e3 => hQ h' c' e1 e2 (fun j hj => (e3 j hj).trans (hF j hj)))
theorem lp_k3b {a0 b0 al a : Int} (ha : 0 ≤ a ∧ a < 8) : ∀ (q : Nat) (b : Int) (h : Hp) (lf : Int → Int) (l6 : AV), a < b → b + q = 8 → h 45 = some (aO 9 (mF e)) → h 57 = some (aA 64 lf) → B64 lf →
    (∀ h' b' l6', h' 57 = some (aA 64 (lpI (s3B a) q b lf)) → B64 (lpI (s3B a) q b lf) → Fr (fun j => j = 57) h h' → At G mX9_struck 269 [vR 45, vI a0, vI b0, vI al, vI a, vI b', l6'] [] (0, 0, n) h' Q) → At G mX9_struck 217 [vR 45, vI a0, vI b0, vI al, vI a, vI b, l6] [] (0, 0, n) h Q := by
  intro q
  induction q with
  | zero =>
    intro b h lf l6 hb hq g45 g57 hB hQ
    refine r_iload (pc := 217) dX9_struck_217 rfl <| r_bipush (pc := 219) dX9_struck_219 (by decide) <| r_icmp_ge (pc := 221) 269 dX9_struck_221 (by decide) (by omega) (by omega) (fun hc_221 => ?_) (fun hc_221 => ?_)
    · skip
      exact hQ h b _ g57 hB Fr.rf
    · skip
      exfalso; omega
  | succ q ih =>
    intro b h lf l6 hb hq g45 g57 hB hQ
    refine r_iload (pc := 217) dX9_struck_217 rfl <| r_bipush (pc := 219) dX9_struck_219 (by decide) <| r_icmp_ge (pc := 221) 269 dX9_struck_221 (by decide) (by omega) (by omega) (fun hc_221 => ?_) (fun hc_221 => ?_)
    · skip
      exfalso; omega
    · skip
      refine r_iload (pc := 224) dX9_struck_224 rfl <| r_iconst (pc := 226) dX9_struck_226 <| r_iadd (pc := 227) dX9_struck_227 <| r_istore_6 (pc := 228) dX9_struck_228 rfl <| ?_
      refine lp_k3c (by omega) (by omega) (7 - b).toNat (b + 1) h lf (by omega) (by omega) g45 g57 hB (fun h1 c' c1 c2 c3 => ?_)
      refine r_iinc_5 (pc := 263) dX9_struck_263 rfl rfl <| r_goto (pc := 266) 217 dX9_struck_266 (by decide) <| ?_
      exact ih (b + 1) h1 _ _ (by omega) (by omega) (c3.keep g45 (by omega)) c1 c2 (fun h' b' l6' d1 d2 d3 => hQ h' b' l6' d1 d2 (fun j hj => (d3 j hj).trans (c3 j hj)))
theorem lp_k3a {a0 b0 al : Int} : ∀ (q : Nat) (a : Int) (h : Hp) (lf : Int → Int) (l5 l6 : AV), 0 ≤ a → a + q = 8 → h 45 = some (aO 9 (mF e)) → h 57 = some (aA 64 lf) → B64 lf →
    (∀ h' a' l5' l6', h' 57 = some (aA 64 (lpI s3A q a lf)) → B64 (lpI s3A q a lf) → Fr (fun j => j = 57) h h' → At G mX9_struck 275 [vR 45, vI a0, vI b0, vI al, vI a', l5', l6'] [] (0, 0, n) h' Q) → At G mX9_struck 204 [vR 45, vI a0, vI b0, vI al, vI a, l5, l6] [] (0, 0, n) h Q := by
  intro q
  induction q with
  | zero =>
    intro a h lf l5 l6 ha hq g45 g57 hB hQ
    refine r_iload (pc := 204) dX9_struck_204 rfl <| r_bipush (pc := 206) dX9_struck_206 (by decide) <| r_icmp_ge (pc := 208) 275 dX9_struck_208 (by decide) (by omega) (by omega) (fun hc_208 => ?_) (fun hc_208 => ?_)
    · skip
      exact hQ h a _ _ g57 hB Fr.rf
    · skip
      exfalso; omega
  | succ q ih =>
    intro a h lf l5 l6 ha hq g45 g57 hB hQ
    refine r_iload (pc := 204) dX9_struck_204 rfl <| r_bipush (pc := 206) dX9_struck_206 (by decide) <| r_icmp_ge (pc := 208) 275 dX9_struck_208 (by decide) (by omega) (by omega) (fun hc_208 => ?_) (fun hc_208 => ?_)
    · skip
      exfalso; omega
    · skip
      refine r_iload (pc := 211) dX9_struck_211 rfl <| r_iconst (pc := 213) dX9_struck_213 <| r_iadd (pc := 214) dX9_struck_214 <| r_istore_5 (pc := 215) dX9_struck_215 rfl <| ?_
      refine lp_k3b (by omega) (7 - a).toNat (a + 1) h lf _ (by omega) (by omega) g45 g57 hB (fun h1 b' l6' c1 c2 c3 => ?_)
      refine r_iinc_4 (pc := 269) dX9_struck_269 rfl rfl <| r_goto (pc := 272) 204 dX9_struck_272 (by decide) <| ?_
      exact ih (a + 1) h1 _ _ _ (by omega) (by omega) (c3.keep g45 (by omega)) c1 c2 (fun h' a' l5' l6' d1 d2 d3 => hQ h' a' l5' l6' d1 d2 (fun j hj => (d3 j hj).trans (c3 j hj)))
theorem lp_ksum {a0 b0 al : Int} {lf : Int → Int} {l6 : AV} (g45 : h 45 = some (aO 9 (mF e))) (g57 : h 57 = some (aA 64 lf)) (hB : B64 lf) : ∀ (q : Nat) (k x : Int), 0 ≤ k → k + q = 64 → (0 ≤ x ∧ x ≤ 99 * k) → (∀ k', (0 ≤ lpI (smS lf) q k x ∧ lpI (smS lf) q k x ≤ 6336) → At G mX9_struck 306 [vR 45, vI a0, vI b0, vI al, vI (lpI (smS lf) q k x), vI k', l6] [] (0, 0, n) h Q) → At G mX9_struck 281 [vR 45, vI a0, vI b0, vI al, vI x, vI k, l6] [] (0, 0, n) h Q := by
  have hM' := g45
  unfold mF at hM'
  intro q
  induction q with
  | zero =>
    intro k x hk hq hx hQ
    refine r_iload (pc := 281) dX9_struck_281 rfl <| r_bipush (pc := 283) dX9_struck_283 (by decide) <| r_icmp_ge (pc := 285) 306 dX9_struck_285 (by decide) (by omega) (by omega) (fun hc_285 => ?_) (fun hc_285 => ?_)
    · skip
      exact hQ k (by simp only [lpI]; omega)
    · skip
      exfalso; omega
  | succ q ih =>
    intro k x hk hq hx hQ
    have hb := hB k (by omega) (by omega)
    refine r_iload (pc := 281) dX9_struck_281 rfl <| r_bipush (pc := 283) dX9_struck_283 (by decide) <| r_icmp_ge (pc := 285) 306 dX9_struck_285 (by decide) (by omega) (by omega) (fun hc_285 => ?_) (fun hc_285 => ?_)
    · skip
      exfalso; omega
    · skip
      refine r_iload (pc := 288) dX9_struck_288 rfl <| r_aload_n (pc := 290) dX9_struck_290 rfl <| r_getf (pc := 291) dX9_struck_291 fA_X9_44 hM' rfl <| r_iload (pc := 294) dX9_struck_294 rfl <| r_iald (pc := 296) dX9_struck_296 g57 (by omega) (by decide) <| r_iadd (pc := 297) dX9_struck_297 <| r_istore_4 (pc := 298) dX9_struck_298 rfl <| r_iinc_5 (pc := 300) dX9_struck_300 rfl rfl <| r_goto (pc := 303) 281 dX9_struck_303 (by decide) <| ?_
      exact ih (k + 1) (x + lf k) (by omega) (by omega) (by omega) hQ
theorem struck_at {a b al : Int} {l4 l5 l6 : AV} (hM : isM h s) (hI : Inv s.bk) (hal : al = 0 ∨ al = 1) (hab : al = 0 → (0 ≤ a ∧ a < 8) ∧ (0 ≤ b ∧ b < 8))
    (hQ : ∀ h', isM h' s → Fr MR h h' → Q (some (vI (if al = 1 then sum64 (skF (owB s.bk)) else skF (owB s.bk) (8 * a + b)))) n h') : At G mX9_struck 37 [vR 45, vI a, vI b, vI al, l4, l5, l6] [] (0, 0, n) h Q := by
  obtain ⟨e, it, g45, ge, g9, g46, g50, hit⟩ := id hM.raw
  obtain ⟨lf, k57⟩ := hM.sc 57 (by omega) (by omega)
  refine r_iconst (pc := 37) dX9_struck_37 <| r_istore_4 (pc := 38) dX9_struck_38 rfl <| ?_
  refine lp_kcopy 64 0 h lf (by omega) (by omega) g45 g46 k57 (fun h1 lf1 k' a1 a2 a3 a4 => ?_)
  have hag : ag64 lf1 (owB s.bk) := fun i i0 i1 => a2 i i0 i1
  have hB : B64 lf1 := fun i i0 i1 => by rw [a2 i i0 i1]; exact hI.2.2.2.1 i i0 i1
  refine r_iconst (pc := 70) dX9_struck_70 <| r_istore_4 (pc := 71) dX9_struck_71 rfl <| ?_
  refine lp_k2a 8 0 h1 lf1 _ _ (by omega) (by omega) (a4.keep g45 (by omega)) a1 hB (fun h2 a' l5' l6' b1 b2 b3 => ?_)
  refine r_iconst (pc := 201) dX9_struck_201 <| r_istore_4 (pc := 202) dX9_struck_202 rfl <| ?_
  refine lp_k3a 8 0 h2 _ _ _ (by omega) (by omega) (b3.keep (a4.keep g45 (by omega)) (by omega)) b1 b2 (fun h3 a' l5' l6' c1 c2 c3 => ?_)
  change h3 57 = some (aA 64 (skF lf1)) at c1
  change B64 (skF lf1) at c2
  have hag2 := skF_ag hag
  have hsum : ∀ _ : Unit, sum64 (skF lf1) = sum64 (skF (owB s.bk)) := fun _ => sum64_ag hag2
  have hF : Fr (fun j => j = 57) h h3 := fun j hj => (c3 j hj).trans ((b3 j hj).trans (a4 j hj))
  have hM3 : isM h3 s := hM.gen2 (hF.keep g45 (by omega)) ge g9 (hF.keep g46 (by omega)) (hF.keep g50 (by omega)) hit (fun j j1 j2 => by
    by_cases ej : j = 57
    · subst ej; exact Or.inr ⟨_, c1⟩
    · exact Or.inl (hF j ej)) (hF.wk (fun j => by omega))
  have hFM : Fr MR h h3 := hF.wk (fun j => by omega)
  have hQ' := hQ h3 hM3 hFM
  refine r_iconst (pc := 275) dX9_struck_275 <| r_istore_4 (pc := 276) dX9_struck_276 rfl <| r_iconst (pc := 278) dX9_struck_278 <| r_istore_5 (pc := 279) dX9_struck_279 rfl <| ?_
  refine lp_ksum (hF.keep g45 (by omega)) c1 c2 64 0 0 (by omega) (by omega) (by omega) (fun k' hk' => ?_)
  change At G mX9_struck 306 [vR 45, vI a, vI b, vI al, vI (sum64 (skF lf1)), vI k', l6'] [] (0, 0, n) h3 Q
  change 0 ≤ sum64 (skF lf1) ∧ sum64 (skF lf1) ≤ 6336 at hk'
  generalize hSd : sum64 (skF lf1) = S at hk' ⊢
  have hM' := hF.keep g45 (by omega)
  unfold mF at hM'
  refine r_iload_n (pc := 306) dX9_struck_306 rfl <| r_if_eq (pc := 307) 315 dX9_struck_307 (by decide) (by omega) (fun hc_307 => ?_) (fun hc_307 => ?_)
  · skip
    refine r_aload_n (pc := 315) dX9_struck_315 rfl <| r_getf (pc := 316) dX9_struck_316 fA_X9_44 hM' rfl <| r_bipush (pc := 319) dX9_struck_319 (by decide) <| r_iload_n (pc := 321) dX9_struck_321 rfl <| r_imul (pc := 322) dX9_struck_322 <| r_iload_n (pc := 323) dX9_struck_323 rfl <| r_iadd (pc := 324) dX9_struck_324 <| r_iald (pc := 325) dX9_struck_325 c1 (by omega) (by decide) <| r_iret (pc := 326) dX9_struck_326 rfl ⟨Nat.le_of_ble_eq_true rfl, Nat.le_of_ble_eq_true rfl⟩ <| ?_
    refine qI ?_ hQ'
    first
      | (rw [if_pos (by omega)]; exact hSd.symm.trans (hsum ()))
      | (rw [if_neg (by omega)]; exact hag2 _ (by omega) (by omega))
  · skip
    refine r_iload (pc := 310) dX9_struck_310 rfl <| r_goto (pc := 312) 326 dX9_struck_312 (by decide) <| r_iret (pc := 326) dX9_struck_326 rfl ⟨Nat.le_of_ble_eq_true rfl, Nat.le_of_ble_eq_true rfl⟩ <| ?_
    refine qI ?_ hQ'
    first
      | (rw [if_pos (by omega)]; exact hSd.symm.trans (hsum ()))
      | (rw [if_neg (by omega)]; exact hag2 _ (by omega) (by omega))
theorem ms_struck {a b : Int} (hM : isM h s) (hI : Inv s.bk) (ha : inI a) (hb : inI b) (hQ : ∀ h', isM h' (fStruck s a b).2 → Fr MR h h' → Q (some (vI (fStruck s a b).1)) n h') : Cl G mX9_struck [vR 45, vI a, vI b] n h Q := by
  obtain ⟨e, it, g45, ge, g9, g46, -⟩ := id hM.raw
  have hM' := g45
  unfold mF at hM'
  have i0 := hI.1.1
  unfold fStruck at hQ
  refine cl_of (by decide) (Nat.le_of_ble_eq_true rfl) rfl ?_
  refine r_iload_n (pc := 0) dX9_struck_0 rfl <| r_iconst (pc := 1) dX9_struck_1 <| r_icmp_ne (pc := 2) 14 dX9_struck_2 (by decide) (by omega) (by omega) (fun hc_2 => ?_) (fun hc_2 => ?_)
  · skip
    refine r_iconst (pc := 14) dX9_struck_14 <| r_istoren_3 (pc := 15) dX9_struck_15 rfl <| r_iload_n (pc := 16) dX9_struck_16 rfl <| r_if_ne (pc := 17) 37 dX9_struck_17 (by decide) (by decide) (fun q => absurd q (by decide)) (fun _ => ?_)
    refine r_aload_n (pc := 20) dX9_struck_20 rfl <| r_iload_n (pc := 21) dX9_struck_21 rfl <| r_iload_n (pc := 22) dX9_struck_22 rfl <| cVi [_, _] (pc := 23) dX9_struck_23 k_X9_81 ⟨⟨Nat.le_of_ble_eq_true rfl, Nat.le_of_ble_eq_true rfl⟩, ⟨Nat.le_of_ble_eq_true rfl, Nat.le_of_ble_eq_true rfl⟩, Nat.le_of_ble_eq_true rfl⟩ ⟨rfl, rfl⟩ hM' ?_
    refine sp_areTwo g45 g46 hI.2.1 ha hb (fun q1 => ?_) (fun q1 => ?_)
    · skip
      refine ⟨_, rfl, ?_⟩
      refine r_if_ne (pc := 26) 37 dX9_struck_26 (by decide) (by decide) (fun _ => ?_) (fun q => absurd q (by decide))
      first
        | (rw [if_pos (by omega)] at hQ
           exact struck_at hM hI (Or.inr rfl) (fun q => absurd q (by decide)) (fun h' a1 a2 => by rw [if_pos rfl]; exact hQ h' a1 a2))
        | (rw [if_neg (by omega), if_pos (by omega)] at hQ
           exact struck_at hM hI (Or.inl rfl) (fun _ => by omega) (fun h' a1 a2 => by rw [if_neg (by decide)]; exact hQ h' a1 a2))
    · skip
      refine ⟨_, rfl, ?_⟩
      refine r_if_ne (pc := 26) 37 dX9_struck_26 (by decide) (by decide) (fun q => absurd q (by decide)) (fun _ => ?_)
      refine r_aload_n (pc := 29) dX9_struck_29 rfl <| r_iconst (pc := 30) dX9_struck_30 <| r_bipush (pc := 31) dX9_struck_31 (by decide) <| cVi [_, _] (pc := 33) dX9_struck_33 k_X9_51 ⟨⟨Nat.le_of_ble_eq_true rfl, Nat.le_of_ble_eq_true rfl⟩, ⟨Nat.le_of_ble_eq_true rfl, Nat.le_of_ble_eq_true rfl⟩, Nat.le_of_ble_eq_true rfl⟩ ⟨rfl, rfl⟩ hM' ?_
      refine ms_refuse hM 0 (by omega) (fun h1 g1 g2 => ?_)
      refine ⟨_, rfl, ?_⟩
      refine r_iret (pc := 36) dX9_struck_36 rfl ⟨Nat.le_of_ble_eq_true rfl, Nat.le_of_ble_eq_true rfl⟩ <| ?_
      rw [if_neg (by omega), if_neg (by omega)] at hQ; exact hQ _ g1 g2
  · skip
    refine r_iload_n (pc := 5) dX9_struck_5 rfl <| r_iconst (pc := 6) dX9_struck_6 <| r_icmp_ne (pc := 7) 14 dX9_struck_7 (by decide) (by omega) (by omega) (fun hc_7 => ?_) (fun hc_7 => ?_)
    · skip
      refine r_iconst (pc := 14) dX9_struck_14 <| r_istoren_3 (pc := 15) dX9_struck_15 rfl <| r_iload_n (pc := 16) dX9_struck_16 rfl <| r_if_ne (pc := 17) 37 dX9_struck_17 (by decide) (by decide) (fun q => absurd q (by decide)) (fun _ => ?_)
      refine r_aload_n (pc := 20) dX9_struck_20 rfl <| r_iload_n (pc := 21) dX9_struck_21 rfl <| r_iload_n (pc := 22) dX9_struck_22 rfl <| cVi [_, _] (pc := 23) dX9_struck_23 k_X9_81 ⟨⟨Nat.le_of_ble_eq_true rfl, Nat.le_of_ble_eq_true rfl⟩, ⟨Nat.le_of_ble_eq_true rfl, Nat.le_of_ble_eq_true rfl⟩, Nat.le_of_ble_eq_true rfl⟩ ⟨rfl, rfl⟩ hM' ?_
      refine sp_areTwo g45 g46 hI.2.1 ha hb (fun q1 => ?_) (fun q1 => ?_)
      · skip
        refine ⟨_, rfl, ?_⟩
        refine r_if_ne (pc := 26) 37 dX9_struck_26 (by decide) (by decide) (fun _ => ?_) (fun q => absurd q (by decide))
        first
          | (rw [if_pos (by omega)] at hQ
             exact struck_at hM hI (Or.inr rfl) (fun q => absurd q (by decide)) (fun h' a1 a2 => by rw [if_pos rfl]; exact hQ h' a1 a2))
          | (rw [if_neg (by omega), if_pos (by omega)] at hQ
             exact struck_at hM hI (Or.inl rfl) (fun _ => by omega) (fun h' a1 a2 => by rw [if_neg (by decide)]; exact hQ h' a1 a2))
      · skip
        refine ⟨_, rfl, ?_⟩
        refine r_if_ne (pc := 26) 37 dX9_struck_26 (by decide) (by decide) (fun q => absurd q (by decide)) (fun _ => ?_)
        refine r_aload_n (pc := 29) dX9_struck_29 rfl <| r_iconst (pc := 30) dX9_struck_30 <| r_bipush (pc := 31) dX9_struck_31 (by decide) <| cVi [_, _] (pc := 33) dX9_struck_33 k_X9_51 ⟨⟨Nat.le_of_ble_eq_true rfl, Nat.le_of_ble_eq_true rfl⟩, ⟨Nat.le_of_ble_eq_true rfl, Nat.le_of_ble_eq_true rfl⟩, Nat.le_of_ble_eq_true rfl⟩ ⟨rfl, rfl⟩ hM' ?_
        refine ms_refuse hM 0 (by omega) (fun h1 g1 g2 => ?_)
        refine ⟨_, rfl, ?_⟩
        refine r_iret (pc := 36) dX9_struck_36 rfl ⟨Nat.le_of_ble_eq_true rfl, Nat.le_of_ble_eq_true rfl⟩ <| ?_
        rw [if_neg (by omega), if_neg (by omega)] at hQ; exact hQ _ g1 g2
    · skip
      refine r_iconst (pc := 10) dX9_struck_10 <| r_goto (pc := 11) 15 dX9_struck_11 (by decide) <| r_istoren_3 (pc := 15) dX9_struck_15 rfl <| r_iload_n (pc := 16) dX9_struck_16 rfl <| r_if_ne (pc := 17) 37 dX9_struck_17 (by decide) (by decide) (fun _ => ?_) (fun q => absurd q (by decide))
      first
        | (rw [if_pos (by omega)] at hQ
           exact struck_at hM hI (Or.inr rfl) (fun q => absurd q (by decide)) (fun h' a1 a2 => by rw [if_pos rfl]; exact hQ h' a1 a2))
        | (rw [if_neg (by omega), if_pos (by omega)] at hQ
           exact struck_at hM hI (Or.inl rfl) (fun _ => by omega) (fun h' a1 a2 => by rw [if_neg (by decide)]; exact hQ h' a1 a2))
end MSk





