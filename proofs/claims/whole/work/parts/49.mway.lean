/-! ===== the model: way ===== -/
def lgB (bk : Int → Int) (a b : Int) : Int := bk (180 + 6 * a + b)
def costF (T : Int → Int → Int × Int × Int) (bk : Int → Int) (p d : Int) : Int := if bk (172 + d) = -1 ∨ bk (172 + d) = p then 0 else if (T (bk (172 + d)) p).1 = -1 then -1 else (T (bk (172 + d)) p).2.1 + (if (T (bk (172 + d)) p).1 = bk (172 + d) then 1 else 0)
abbrev csB (bk : Int → Int) (p d : Int) : Int := costF (TB bk) bk p d
abbrev fwB (bk : Int → Int) (p t : Int) : Int → Int := rT (lgB bk) (csB bk p) t 5 (f0 t)
noncomputable def fWay (s : SS) (p a t i : Int) : Int × SS := if ¬ ((0 ≤ p ∧ p < s.bk 0) ∧ (0 ≤ a ∧ a ≤ 5) ∧ (0 ≤ t ∧ t ≤ 5) ∧ -1 ≤ i) then (-10, s.bad) else if ¬ okB s.bk then (-20, s.no) else if 1000000 ≤ fwB s.bk p t a then (-1, s) else if i = -1 then (fwB s.bk p t a, s) else (((pth (lgB s.bk) (csB s.bk p) (fwB s.bk p t) t 5 a)[i.toNat]?).getD (-5), s)
theorem costF_in {bk : Int → Int} {p d : Int} : -1 ≤ csB bk p d ∧ csB bk p d ≤ 10 := by
  have := TB_r bk (bk (172 + d)) p
  unfold csB costF
  (repeat' split) <;> omega
theorem lgOk_B {bk : Int → Int} {p : Int} (hI : Inv bk) : lgOk (lgB bk) (csB bk p) := by
  refine ⟨fun a b ha hb => (hI.2.2.2.2.2.2.2.2.1 a b ha.1 ha.2 hb.1 hb.2).1, fun b hb => costF_in⟩
section MWy
variable {G : GT} {n : Nat} {h : Hp} {Q : PT} {s : SS} {e : Nat → Int} {it : Int → Int}
theorem wM.cell {h' : Hp} {j : Nat} {f : Int → Int} (hW : wM h s e it) (hj : 51 ≤ j ∧ j < 58) (k : h' j = some (aA (szM j) f)) (hF : Fr (fun q => q = j) h h') : wM h' s e it :=
  hW.up (hF.keep hW.2.1 (by omega)) ⟨rfl, rfl, rfl⟩ (hF.keep hW.2.2.1 (by omega)) (hF.keep hW.2.2.2.1 (by omega)) hW.2.2.2.2.1 hW.2.2.2.2.2.1 hW.2.2.2.2.2.2 (fun i i1 i2 => by
    by_cases ej : i = j
    · subst ej; exact Or.inr ⟨_, k⟩
    · exact Or.inl (hF i ej)) (hF.wk (fun q => by omega))
theorem wm_talks {a b : Int} (hW : wM h s e it) (hI : Inv s.bk) (ha : 0 ≤ a ∧ a < 8) (hb : 0 ≤ b ∧ b < 8) (hQ : ∀ h' e', wM h' s e' it → (∀ j, j ≠ 13 → j ≠ 14 → e' j = e j) → e' 13 = (talkF (nmB s.bk) it (e 11) (e 12) a b).2.1 → Fr (fun q => q = 45) h h' → Q (some (vI (talkF (nmB s.bk) it (e 11) (e 12) a b).1)) n h') : Cl G mX9_talks [vR 45, vI a, vI b] n h Q := by
  refine sp_talks hW.2.1 hW.2.2.1 hW.2.2.2.1 hI.2.1 hW.2.2.2.2.1 hW.2.2.2.2.2.1 hW.2.2.2.2.2.2 ha hb (fun h' k45 hF => hQ h' (nu (nu e 13 (talkF (nmB s.bk) it (e 11) (e 12) a b).2.1) 14 (talkF (nmB s.bk) it (e 11) (e 12) a b).2.2) ?_ (fun j j1 j2 => by unfold nu; rw [if_neg j2, if_neg j1]) rfl hF)
  exact hW.up k45 ⟨rfl, rfl, rfl⟩ (hF.keep hW.2.2.1 (by omega)) (hF.keep hW.2.2.2.1 (by omega)) hW.2.2.2.2.1 hW.2.2.2.2.2.1 hW.2.2.2.2.2.2 (fun j j1 j2 => Or.inl (hF j (by omega))) (hF.wk (fun j => by omega))
theorem sp_cost {p d m : Int} (hW : wM h s e it) (hI : Inv s.bk) (hT : talkF (nmB s.bk) it m 0 = TB s.bk) (h11 : e 11 = m) (h12 : e 12 = 0) (hp : 0 ≤ p ∧ p < s.bk 0) (hd : dR d) (hQ : ∀ h' e', wM h' s e' it → (∀ j, j ≠ 13 → j ≠ 14 → e' j = e j) → Fr (fun q => q = 45) h h' → Q (some (vI (csB s.bk p d))) n h') : Cl G mX9_costOf [vR 45, vI p, vI d] n h Q := by
  have hM' := hW.2.1
  unfold mF at hM'
  have g46 := hW.2.2.1
  have i0 := hI.1.1
  have hw := hI.2.2.2.2.2.2.2.1 d hd.1 hd.2
  unfold csB costF at hQ
  have hr := TB_r s.bk (s.bk (172 + d)) p
  refine cl_of (by decide) (Nat.le_of_ble_eq_true rfl) rfl ?_
  refine r_aload_n (pc := 0) dX9_costOf_0 rfl <| r_getf (pc := 1) dX9_costOf_1 fA_X9_7 hM' rfl <| r_sipush (pc := 4) dX9_costOf_4 (by decide) <| r_iload_n (pc := 7) dX9_costOf_7 rfl <| r_iadd (pc := 8) dX9_costOf_8 <| r_iald (pc := 9) dX9_costOf_9 g46 (by omega) (by decide) <| r_istoren_3 (pc := 10) dX9_costOf_10 rfl <| r_iload_n (pc := 11) dX9_costOf_11 rfl <| r_iconst (pc := 12) dX9_costOf_12 <| r_icmp_eq (pc := 13) 21 dX9_costOf_13 (by decide) (by omega) (by omega) (fun hc_13 => ?_) (fun hc_13 => ?_)
  · skip
    refine r_iconst (pc := 21) dX9_costOf_21 <| r_iret (pc := 22) dX9_costOf_22 rfl ⟨Nat.le_of_ble_eq_true rfl, Nat.le_of_ble_eq_true rfl⟩ <| ?_
    rw [if_pos (by omega)] at hQ; exact hQ h e hW (fun j _ _ => rfl) Fr.rf
  · skip
    refine r_iload_n (pc := 16) dX9_costOf_16 rfl <| r_iload_n (pc := 17) dX9_costOf_17 rfl <| r_icmp_ne (pc := 18) 23 dX9_costOf_18 (by decide) (by omega) (by omega) (fun hc_18 => ?_) (fun hc_18 => ?_)
    · skip
      refine r_aload_n (pc := 23) dX9_costOf_23 rfl <| r_iload_n (pc := 24) dX9_costOf_24 rfl <| r_iload_n (pc := 25) dX9_costOf_25 rfl <| cVi [_, _] (pc := 26) dX9_costOf_26 k_X9_171 ⟨⟨Nat.le_of_ble_eq_true rfl, Nat.le_of_ble_eq_true rfl⟩, ⟨Nat.le_of_ble_eq_true rfl, Nat.le_of_ble_eq_true rfl⟩, Nat.le_of_ble_eq_true rfl⟩ ⟨rfl, rfl⟩ hM' ?_
      have hin : talkF (nmB s.bk) it (e 11) (e 12) (s.bk (172 + d)) p = TB s.bk (s.bk (172 + d)) p := by rw [h11, h12, hT]
      have hb3 : (TB s.bk (s.bk (172 + d)) p).1 = -1 ∨ (TB s.bk (s.bk (172 + d)) p).1 = s.bk (172 + d) ∨ (TB s.bk (s.bk (172 + d)) p).1 = p := by
        have := @TB_in s.bk (itOf (itB s.bk)) (itB s.bk).length 0 (s.bk (172 + d)) p hI (by omega) (by omega) (by omega)
        rcases this with e1 | e1
        · unfold TB; rw [e1]; exact Or.inl rfl
        · exact Or.inr e1.1
      refine wm_talks hW hI (by omega) (by omega) (fun h1 e1 w1 w2 w3 hF1 => ?_)
      rw [hin] at w3 ⊢
      clear hM'
      have hM' := w1.2.1
      unfold mF at hM'
      refine ⟨_, rfl, ?_⟩
      refine r_istore_4 (pc := 29) dX9_costOf_29 rfl <| r_iload (pc := 31) dX9_costOf_31 rfl <| r_iconst (pc := 33) dX9_costOf_33 <| r_icmp_ne (pc := 34) 41 dX9_costOf_34 (by decide) (by omega) (by omega) (fun hc_34 => ?_) (fun hc_34 => ?_)
      · skip
        refine r_aload_n (pc := 41) dX9_costOf_41 rfl <| r_getf (pc := 42) dX9_costOf_42 fA_X9_161 hM' rfl <| r_iload (pc := 45) dX9_costOf_45 rfl <| r_iload_n (pc := 47) dX9_costOf_47 rfl <| r_icmp_ne (pc := 48) 55 dX9_costOf_48 (by decide) (by omega) (by omega) (fun hc_48 => ?_) (fun hc_48 => ?_)
        · skip
          refine r_iconst (pc := 55) dX9_costOf_55 <| r_iadd (pc := 56) dX9_costOf_56 <| r_iret (pc := 57) dX9_costOf_57 rfl ⟨Nat.le_of_ble_eq_true rfl, Nat.le_of_ble_eq_true rfl⟩ <| ?_
          rw [if_neg (by omega)] at hQ
          refine qI ?_ (hQ h1 e1 w1 w2 hF1)
          first
            | rw [if_pos (by omega)]
            | (rw [if_neg (by omega), if_pos (by omega)]; omega)
            | (rw [if_neg (by omega), if_neg (by omega)]; omega)
        · skip
          refine r_iconst (pc := 51) dX9_costOf_51 <| r_goto (pc := 52) 56 dX9_costOf_52 (by decide) <| r_iadd (pc := 56) dX9_costOf_56 <| r_iret (pc := 57) dX9_costOf_57 rfl ⟨Nat.le_of_ble_eq_true rfl, Nat.le_of_ble_eq_true rfl⟩ <| ?_
          rw [if_neg (by omega)] at hQ
          refine qI ?_ (hQ h1 e1 w1 w2 hF1)
          first
            | rw [if_pos (by omega)]
            | (rw [if_neg (by omega), if_pos (by omega)]; omega)
            | (rw [if_neg (by omega), if_neg (by omega)]; omega)
      · skip
        refine r_iconst (pc := 37) dX9_costOf_37 <| r_goto (pc := 38) 57 dX9_costOf_38 (by decide) <| r_iret (pc := 57) dX9_costOf_57 rfl ⟨Nat.le_of_ble_eq_true rfl, Nat.le_of_ble_eq_true rfl⟩ <| ?_
        rw [if_neg (by omega)] at hQ
        refine qI ?_ (hQ h1 e1 w1 w2 hF1)
        first
          | rw [if_pos (by omega)]
          | (rw [if_neg (by omega), if_pos (by omega)]; omega)
          | (rw [if_neg (by omega), if_neg (by omega)]; omega)
    · skip
      refine r_iconst (pc := 21) dX9_costOf_21 <| r_iret (pc := 22) dX9_costOf_22 rfl ⟨Nat.le_of_ble_eq_true rfl, Nat.le_of_ble_eq_true rfl⟩ <| ?_
      rw [if_pos (by omega)] at hQ; exact hQ h e hW (fun j _ _ => rfl) Fr.rf
theorem sp_leads {a b : Int} {c F cs fr : Int → Int} (g45 : h 45 = some (aO 9 (mF e))) (g46 : h 46 = some (aA 480 s.bk)) (g55 : h 55 = some (aA 6 cs)) (g56 : h 56 = some (aA 6 fr)) (hI : Inv s.bk) (hc : ag6 cs c) (hf : ag6 fr F) (hL : lgOk (lgB s.bk) c) (hF : ∀ a, dR a → 0 ≤ F a ∧ F a ≤ 1000000) (ha : dR a) (hb : dR b)
    (h1 : ldP (lgB s.bk) c F a b → Q (some (vI 1)) n h) (h0 : ¬ ldP (lgB s.bk) c F a b → Q (some (vI 0)) n h) : Cl G mX9_leads [vR 45, vI a, vI b] n h Q := by
  have hM' := g45
  unfold mF at hM'
  have l1 : lgB s.bk a b = s.bk (180 + 6 * a + b) := rfl
  have l2 := hL.1 a b ha hb
  have l3 := hL.2 b hb
  have c1 := hc b hb
  have f1 := hf a ha
  have f2 := hf b hb
  have f3 := hF a ha
  have f4 := hF b hb
  unfold ldP at h0 h1
  refine cl_of (by decide) (Nat.le_of_ble_eq_true rfl) rfl ?_
  refine r_iload_n (pc := 0) dX9_leads_0 rfl <| r_iload_n (pc := 1) dX9_leads_1 rfl <| r_icmp_eq (pc := 2) 86 dX9_leads_2 (by decide) (by omega) (by omega) (fun hc_2 => ?_) (fun hc_2 => ?_)
  · skip
    refine r_iconst (pc := 86) dX9_leads_86 <| r_zret (pc := 87) dX9_leads_87 rfl (by omega) ⟨Nat.le_of_ble_eq_true rfl, Nat.le_of_ble_eq_true rfl⟩ <| ?_
    first
      | exact h1 (by omega)
      | exact h0 (by omega)
  · skip
    refine r_aload_n (pc := 5) dX9_leads_5 rfl <| r_getf (pc := 6) dX9_leads_6 fA_X9_7 hM' rfl <| r_sipush (pc := 9) dX9_leads_9 (by decide) <| r_bipush (pc := 12) dX9_leads_12 (by decide) <| r_iload_n (pc := 14) dX9_leads_14 rfl <| r_imul (pc := 15) dX9_leads_15 <| r_iadd (pc := 16) dX9_leads_16 <| r_iload_n (pc := 17) dX9_leads_17 rfl <| r_iadd (pc := 18) dX9_leads_18 <| r_iald (pc := 19) dX9_leads_19 g46 (by omega) (by decide) <| r_if_le (pc := 20) 86 dX9_leads_20 (by decide) (by omega) (fun hc_20 => ?_) (fun hc_20 => ?_)
    · skip
      refine r_iconst (pc := 86) dX9_leads_86 <| r_zret (pc := 87) dX9_leads_87 rfl (by omega) ⟨Nat.le_of_ble_eq_true rfl, Nat.le_of_ble_eq_true rfl⟩ <| ?_
      first
        | exact h1 (by omega)
        | exact h0 (by omega)
    · skip
      refine r_aload_n (pc := 23) dX9_leads_23 rfl <| r_getf (pc := 24) dX9_leads_24 fA_X9_38 hM' rfl <| r_iload_n (pc := 27) dX9_leads_27 rfl <| r_iald (pc := 28) dX9_leads_28 g55 (by omega) (by decide) <| r_iconst (pc := 29) dX9_leads_29 <| r_icmp_eq (pc := 30) 86 dX9_leads_30 (by decide) (by omega) (by omega) (fun hc_30 => ?_) (fun hc_30 => ?_)
      · skip
        refine r_iconst (pc := 86) dX9_leads_86 <| r_zret (pc := 87) dX9_leads_87 rfl (by omega) ⟨Nat.le_of_ble_eq_true rfl, Nat.le_of_ble_eq_true rfl⟩ <| ?_
        first
          | exact h1 (by omega)
          | exact h0 (by omega)
      · skip
        refine r_aload_n (pc := 33) dX9_leads_33 rfl <| r_getf (pc := 34) dX9_leads_34 fA_X9_41 hM' rfl <| r_iload_n (pc := 37) dX9_leads_37 rfl <| r_iald (pc := 38) dX9_leads_38 g56 (by omega) (by decide) <| r_ldc (pc := 39) dX9_leads_39 cT_X9_200 <| r_icmp_ge (pc := 41) 86 dX9_leads_41 (by decide) (by omega) (by omega) (fun hc_41 => ?_) (fun hc_41 => ?_)
        · skip
          refine r_iconst (pc := 86) dX9_leads_86 <| r_zret (pc := 87) dX9_leads_87 rfl (by omega) ⟨Nat.le_of_ble_eq_true rfl, Nat.le_of_ble_eq_true rfl⟩ <| ?_
          first
            | exact h1 (by omega)
            | exact h0 (by omega)
        · skip
          refine r_aload_n (pc := 44) dX9_leads_44 rfl <| r_getf (pc := 45) dX9_leads_45 fA_X9_41 hM' rfl <| r_iload_n (pc := 48) dX9_leads_48 rfl <| r_iald (pc := 49) dX9_leads_49 g56 (by omega) (by decide) <| r_aload_n (pc := 50) dX9_leads_50 rfl <| r_getf (pc := 51) dX9_leads_51 fA_X9_7 hM' rfl <| r_sipush (pc := 54) dX9_leads_54 (by decide) <| r_bipush (pc := 57) dX9_leads_57 (by decide) <| r_iload_n (pc := 59) dX9_leads_59 rfl <| r_imul (pc := 60) dX9_leads_60 <| r_iadd (pc := 61) dX9_leads_61 <| r_iload_n (pc := 62) dX9_leads_62 rfl <| r_iadd (pc := 63) dX9_leads_63 <| r_iald (pc := 64) dX9_leads_64 g46 (by omega) (by decide) <| r_aload_n (pc := 65) dX9_leads_65 rfl <| r_getf (pc := 66) dX9_leads_66 fA_X9_38 hM' rfl <| r_iload_n (pc := 69) dX9_leads_69 rfl <| r_iald (pc := 70) dX9_leads_70 g55 (by omega) (by decide) <| r_iadd (pc := 71) dX9_leads_71 <| r_aload_n (pc := 72) dX9_leads_72 rfl <| r_getf (pc := 73) dX9_leads_73 fA_X9_41 hM' rfl <| r_iload_n (pc := 76) dX9_leads_76 rfl <| r_iald (pc := 77) dX9_leads_77 g56 (by omega) (by decide) <| r_iadd (pc := 78) dX9_leads_78 <| r_icmp_ne (pc := 79) 86 dX9_leads_79 (by decide) (by omega) (by omega) (fun hc_79 => ?_) (fun hc_79 => ?_)
          · skip
            refine r_iconst (pc := 86) dX9_leads_86 <| r_zret (pc := 87) dX9_leads_87 rfl (by omega) ⟨Nat.le_of_ble_eq_true rfl, Nat.le_of_ble_eq_true rfl⟩ <| ?_
            first
              | exact h1 (by omega)
              | exact h0 (by omega)
          · skip
            refine r_iconst (pc := 82) dX9_leads_82 <| r_goto (pc := 83) 87 dX9_leads_83 (by decide) <| r_zret (pc := 87) dX9_leads_87 rfl (by omega) ⟨Nat.le_of_ble_eq_true rfl, Nat.le_of_ble_eq_true rfl⟩ <| ?_
            first
              | exact h1 (by omega)
              | exact h0 (by omega)
/-- the rounds of relaxing -/
theorem lp_w2 {p a0 t i tn a : Int} {c cs : Int → Int} (hI : Inv s.bk) (hc : ag6 cs c) (hL : lgOk (lgB s.bk) c) (ht : dR t) (ha : dR a) (htn : inI tn) : ∀ (q : Nat) (b : Int) (h : Hp) (fr F : Int → Int) (l8 : AV), 0 ≤ b → b + q = 6 → h 45 = some (aO 9 (mF e)) → h 46 = some (aA 480 s.bk) → h 55 = some (aA 6 cs) → h 56 = some (aA 6 fr) → ag6 fr F → wJ (lgB s.bk) c t F →
    (∀ h' fr' b' l8', h' 56 = some (aA 6 fr') → ag6 fr' (rB (lgB s.bk) c t a q b F) → Fr (fun q => q = 56) h h' → At G mX9_way 237 [vR 45, vI p, vI a0, vI t, vI i, vI tn, vI a, vI b', l8'] [] (0, 0, n) h' Q) → At G mX9_way 123 [vR 45, vI p, vI a0, vI t, vI i, vI tn, vI a, vI b, l8] [] (0, 0, n) h Q := by
  intro q
  induction q with
  | zero =>
    intro b h fr F l8 hb hq g45 g46 g55 g56 hf hJ hQ
    refine r_iload (pc := 123) dX9_way_123 rfl <| r_bipush (pc := 125) dX9_way_125 (by decide) <| r_icmp_ge (pc := 127) 237 dX9_way_127 (by decide) (by omega) (by omega) (fun hc_127 => ?_) (fun hc_127 => ?_)
    · skip
      exact hQ h fr b _ g56 hf Fr.rf
    · skip
      exfalso; omega
  | succ q ih =>
    intro b h fr F l8 hb hq g45 g46 g55 g56 hf hJ hQ
    have hM' := g45
    unfold mF at hM'
    have hbR : dR b := by omega
    have l1 : lgB s.bk a b = s.bk (180 + 6 * a + b) := rfl
    have l2 := hL.1 a b ha hbR
    have l3 := hL.2 b hbR
    have c1 := hc b hbR
    have f1 := hf a ha
    have f2 := hf b hbR
    have f3 := hJ.1 a ha
    have f4 := hJ.1 b hbR
    have hJ' := rx_J hL ha hbR hJ
    have no : ¬ ((¬ a = t ∧ ¬ a = b ∧ 0 < lgB s.bk a b ∧ ¬ c b = -1) ∧ lgB s.bk a b + c b + F b < F a) → ag6 fr (rx (lgB s.bk) c t F a b) := by
      intro hn
      unfold rx; rw [if_neg hn]; exact hf
    refine r_iload (pc := 123) dX9_way_123 rfl <| r_bipush (pc := 125) dX9_way_125 (by decide) <| r_icmp_ge (pc := 127) 237 dX9_way_127 (by decide) (by omega) (by omega) (fun hc_127 => ?_) (fun hc_127 => ?_)
    · skip
      exfalso; omega
    · skip
      refine r_aload_n (pc := 130) dX9_way_130 rfl <| r_getf (pc := 131) dX9_way_131 fA_X9_7 hM' rfl <| r_sipush (pc := 134) dX9_way_134 (by decide) <| r_bipush (pc := 137) dX9_way_137 (by decide) <| r_iload (pc := 139) dX9_way_139 rfl <| r_imul (pc := 141) dX9_way_141 <| r_iadd (pc := 142) dX9_way_142 <| r_iload (pc := 143) dX9_way_143 rfl <| r_iadd (pc := 145) dX9_way_145 <| r_iald (pc := 146) dX9_way_146 g46 (by omega) (by decide) <| r_istore_8 (pc := 147) dX9_way_147 rfl <| r_iload (pc := 149) dX9_way_149 rfl <| r_iload_n (pc := 151) dX9_way_151 rfl <| r_icmp_eq (pc := 152) 231 dX9_way_152 (by decide) (by omega) (by omega) (fun hc_152 => ?_) (fun hc_152 => ?_)
      · skip
        refine r_iinc_7 (pc := 231) dX9_way_231 rfl rfl <| r_goto (pc := 234) 123 dX9_way_234 (by decide) <| ?_
        first
          | exact ih (b + 1) h fr (rx (lgB s.bk) c t F a b) _ (by omega) (by omega) g45 g46 g55 g56 (no (by omega)) hJ' hQ
          | (refine ih (b + 1) h_230 _ (rx (lgB s.bk) c t F a b) _ (by omega) (by omega) (hF_230.keep g45 (by omega)) g46 g55 g56 (fun x hx => ?_) hJ' (fun h' fr' b' l8' a1 a2 a3 => hQ h' fr' b' l8' a1 a2 (fun j hj => (a3 j hj).trans (hF_230 j hj)))
             unfold rx
             rw [if_pos (by omega)]
             by_cases ex : x = a
             · rw [ex, iu_s, iu_s]; omega
             · rw [iu_n ex, iu_n ex]; exact hf x hx)
      · skip
        refine r_iload (pc := 155) dX9_way_155 rfl <| r_iload (pc := 157) dX9_way_157 rfl <| r_icmp_eq (pc := 159) 231 dX9_way_159 (by decide) (by omega) (by omega) (fun hc_159 => ?_) (fun hc_159 => ?_)
        · skip
          refine r_iinc_7 (pc := 231) dX9_way_231 rfl rfl <| r_goto (pc := 234) 123 dX9_way_234 (by decide) <| ?_
          first
            | exact ih (b + 1) h fr (rx (lgB s.bk) c t F a b) _ (by omega) (by omega) g45 g46 g55 g56 (no (by omega)) hJ' hQ
            | (refine ih (b + 1) h_230 _ (rx (lgB s.bk) c t F a b) _ (by omega) (by omega) (hF_230.keep g45 (by omega)) g46 g55 g56 (fun x hx => ?_) hJ' (fun h' fr' b' l8' a1 a2 a3 => hQ h' fr' b' l8' a1 a2 (fun j hj => (a3 j hj).trans (hF_230 j hj)))
               unfold rx
               rw [if_pos (by omega)]
               by_cases ex : x = a
               · rw [ex, iu_s, iu_s]; omega
               · rw [iu_n ex, iu_n ex]; exact hf x hx)
        · skip
          refine r_iload (pc := 162) dX9_way_162 rfl <| r_if_le (pc := 164) 231 dX9_way_164 (by decide) (by omega) (fun hc_164 => ?_) (fun hc_164 => ?_)
          · skip
            refine r_iinc_7 (pc := 231) dX9_way_231 rfl rfl <| r_goto (pc := 234) 123 dX9_way_234 (by decide) <| ?_
            first
              | exact ih (b + 1) h fr (rx (lgB s.bk) c t F a b) _ (by omega) (by omega) g45 g46 g55 g56 (no (by omega)) hJ' hQ
              | (refine ih (b + 1) h_230 _ (rx (lgB s.bk) c t F a b) _ (by omega) (by omega) (hF_230.keep g45 (by omega)) g46 g55 g56 (fun x hx => ?_) hJ' (fun h' fr' b' l8' a1 a2 a3 => hQ h' fr' b' l8' a1 a2 (fun j hj => (a3 j hj).trans (hF_230 j hj)))
                 unfold rx
                 rw [if_pos (by omega)]
                 by_cases ex : x = a
                 · rw [ex, iu_s, iu_s]; omega
                 · rw [iu_n ex, iu_n ex]; exact hf x hx)
          · skip
            refine r_aload_n (pc := 167) dX9_way_167 rfl <| r_getf (pc := 168) dX9_way_168 fA_X9_38 hM' rfl <| r_iload (pc := 171) dX9_way_171 rfl <| r_iald (pc := 173) dX9_way_173 g55 (by omega) (by decide) <| r_iconst (pc := 174) dX9_way_174 <| r_icmp_eq (pc := 175) 231 dX9_way_175 (by decide) (by omega) (by omega) (fun hc_175 => ?_) (fun hc_175 => ?_)
            · skip
              refine r_iinc_7 (pc := 231) dX9_way_231 rfl rfl <| r_goto (pc := 234) 123 dX9_way_234 (by decide) <| ?_
              first
                | exact ih (b + 1) h fr (rx (lgB s.bk) c t F a b) _ (by omega) (by omega) g45 g46 g55 g56 (no (by omega)) hJ' hQ
                | (refine ih (b + 1) h_230 _ (rx (lgB s.bk) c t F a b) _ (by omega) (by omega) (hF_230.keep g45 (by omega)) g46 g55 g56 (fun x hx => ?_) hJ' (fun h' fr' b' l8' a1 a2 a3 => hQ h' fr' b' l8' a1 a2 (fun j hj => (a3 j hj).trans (hF_230 j hj)))
                   unfold rx
                   rw [if_pos (by omega)]
                   by_cases ex : x = a
                   · rw [ex, iu_s, iu_s]; omega
                   · rw [iu_n ex, iu_n ex]; exact hf x hx)
            · skip
              refine r_iload (pc := 178) dX9_way_178 rfl <| r_aload_n (pc := 180) dX9_way_180 rfl <| r_getf (pc := 181) dX9_way_181 fA_X9_38 hM' rfl <| r_iload (pc := 184) dX9_way_184 rfl <| r_iald (pc := 186) dX9_way_186 g55 (by omega) (by decide) <| r_iadd (pc := 187) dX9_way_187 <| r_aload_n (pc := 188) dX9_way_188 rfl <| r_getf (pc := 189) dX9_way_189 fA_X9_41 hM' rfl <| r_iload (pc := 192) dX9_way_192 rfl <| r_iald (pc := 194) dX9_way_194 g56 (by omega) (by decide) <| r_iadd (pc := 195) dX9_way_195 <| r_aload_n (pc := 196) dX9_way_196 rfl <| r_getf (pc := 197) dX9_way_197 fA_X9_41 hM' rfl <| r_iload (pc := 200) dX9_way_200 rfl <| r_iald (pc := 202) dX9_way_202 g56 (by omega) (by decide) <| r_icmp_ge (pc := 203) 231 dX9_way_203 (by decide) (by omega) (by omega) (fun hc_203 => ?_) (fun hc_203 => ?_)
              · skip
                refine r_iinc_7 (pc := 231) dX9_way_231 rfl rfl <| r_goto (pc := 234) 123 dX9_way_234 (by decide) <| ?_
                first
                  | exact ih (b + 1) h fr (rx (lgB s.bk) c t F a b) _ (by omega) (by omega) g45 g46 g55 g56 (no (by omega)) hJ' hQ
                  | (refine ih (b + 1) h_230 _ (rx (lgB s.bk) c t F a b) _ (by omega) (by omega) (hF_230.keep g45 (by omega)) g46 g55 g56 (fun x hx => ?_) hJ' (fun h' fr' b' l8' a1 a2 a3 => hQ h' fr' b' l8' a1 a2 (fun j hj => (a3 j hj).trans (hF_230 j hj)))
                     unfold rx
                     rw [if_pos (by omega)]
                     by_cases ex : x = a
                     · rw [ex, iu_s, iu_s]; omega
                     · rw [iu_n ex, iu_n ex]; exact hf x hx)
              · skip
                refine r_aload_n (pc := 206) dX9_way_206 rfl <| r_getf (pc := 207) dX9_way_207 fA_X9_41 hM' rfl <| r_iload (pc := 210) dX9_way_210 rfl <| r_iload (pc := 212) dX9_way_212 rfl <| r_aload_n (pc := 214) dX9_way_214 rfl <| r_getf (pc := 215) dX9_way_215 fA_X9_38 hM' rfl <| r_iload (pc := 218) dX9_way_218 rfl <| r_iald (pc := 220) dX9_way_220 g55 (by omega) (by decide) <| r_iadd (pc := 221) dX9_way_221 <| r_aload_n (pc := 222) dX9_way_222 rfl <| r_getf (pc := 223) dX9_way_223 fA_X9_41 hM' rfl <| r_iload (pc := 226) dX9_way_226 rfl <| r_iald (pc := 228) dX9_way_228 g56 (by omega) (by decide) <| r_iadd (pc := 229) dX9_way_229 <| r_iast (pc := 230) dX9_way_230 g56 (by omega) (by decide) (fun h_230 g56 hF_230 => ?_)
                replace hM' := hF_230.keep hM' (by omega)
                replace g46 := hF_230.keep g46 (by omega)
                replace g55 := hF_230.keep g55 (by omega)
                refine r_iinc_7 (pc := 231) dX9_way_231 rfl rfl <| r_goto (pc := 234) 123 dX9_way_234 (by decide) <| ?_
                first
                  | exact ih (b + 1) h fr (rx (lgB s.bk) c t F a b) _ (by omega) (by omega) g45 g46 g55 g56 (no (by omega)) hJ' hQ
                  | (refine ih (b + 1) h_230 _ (rx (lgB s.bk) c t F a b) _ (by omega) (by omega) (hF_230.keep g45 (by omega)) g46 g55 g56 (fun x hx => ?_) hJ' (fun h' fr' b' l8' a1 a2 a3 => hQ h' fr' b' l8' a1 a2 (fun j hj => (a3 j hj).trans (hF_230 j hj)))
                     unfold rx
                     rw [if_pos (by omega)]
                     by_cases ex : x = a
                     · rw [ex, iu_s, iu_s]; omega
                     · rw [iu_n ex, iu_n ex]; exact hf x hx)
theorem lp_w3 {p a0 t i tn : Int} {c cs : Int → Int} (hI : Inv s.bk) (hc : ag6 cs c) (hL : lgOk (lgB s.bk) c) (ht : dR t) (htn : inI tn) : ∀ (q : Nat) (a : Int) (h : Hp) (fr F : Int → Int) (l7 l8 : AV), 0 ≤ a → a + q = 6 → h 45 = some (aO 9 (mF e)) → h 46 = some (aA 480 s.bk) → h 55 = some (aA 6 cs) → h 56 = some (aA 6 fr) → ag6 fr F → wJ (lgB s.bk) c t F →
    (∀ h' fr' a' l7' l8', h' 56 = some (aA 6 fr') → ag6 fr' (rA (lgB s.bk) c t q a F) → Fr (fun q => q = 56) h h' → At G mX9_way 243 [vR 45, vI p, vI a0, vI t, vI i, vI tn, vI a', l7', l8'] [] (0, 0, n) h' Q) → At G mX9_way 113 [vR 45, vI p, vI a0, vI t, vI i, vI tn, vI a, l7, l8] [] (0, 0, n) h Q := by
  intro q
  induction q with
  | zero =>
    intro a h fr F l7 l8 ha hq g45 g46 g55 g56 hf hJ hQ
    refine r_iload (pc := 113) dX9_way_113 rfl <| r_bipush (pc := 115) dX9_way_115 (by decide) <| r_icmp_ge (pc := 117) 243 dX9_way_117 (by decide) (by omega) (by omega) (fun hc_117 => ?_) (fun hc_117 => ?_)
    · skip
      exact hQ h fr a _ _ g56 hf Fr.rf
    · skip
      exfalso; omega
  | succ q ih =>
    intro a h fr F l7 l8 ha hq g45 g46 g55 g56 hf hJ hQ
    have hJ' := rB_J hL (show dR a by omega) 6 0 F (by omega) (by omega) hJ
    refine r_iload (pc := 113) dX9_way_113 rfl <| r_bipush (pc := 115) dX9_way_115 (by decide) <| r_icmp_ge (pc := 117) 243 dX9_way_117 (by decide) (by omega) (by omega) (fun hc_117 => ?_) (fun hc_117 => ?_)
    · skip
      exfalso; omega
    · skip
      refine r_iconst (pc := 120) dX9_way_120 <| r_istore_7 (pc := 121) dX9_way_121 rfl <| ?_
      refine lp_w2 hI hc hL ht (show dR a by omega) htn 6 0 h fr F _ (by omega) (by omega) g45 g46 g55 g56 hf hJ (fun h1 fr1 b' l8' a1 a2 a3 => ?_)
      refine r_iinc_6 (pc := 237) dX9_way_237 rfl rfl <| r_goto (pc := 240) 113 dX9_way_240 (by decide) <| ?_
      exact ih (a + 1) h1 fr1 _ _ _ (by omega) (by omega) (a3.keep g45 (by omega)) (a3.keep g46 (by omega)) (a3.keep g55 (by omega)) a1 a2 hJ' (fun h' fr' a' l7' l8' b1 b2 b3 => hQ h' fr' a' l7' l8' b1 b2 (fun j hj => (b3 j hj).trans (a3 j hj)))
theorem lp_w4 {p a0 t i : Int} {c cs : Int → Int} (hI : Inv s.bk) (hc : ag6 cs c) (hL : lgOk (lgB s.bk) c) (ht : dR t) : ∀ (q : Nat) (tn : Int) (h : Hp) (fr F : Int → Int) (l6 l7 l8 : AV), 0 ≤ tn → tn + q = 6 → h 45 = some (aO 9 (mF e)) → h 46 = some (aA 480 s.bk) → h 55 = some (aA 6 cs) → h 56 = some (aA 6 fr) → ag6 fr F → wJ (lgB s.bk) c t F →
    (∀ h' fr' tn' l6' l7' l8', h' 56 = some (aA 6 fr') → ag6 fr' (rT (lgB s.bk) c t q F) → Fr (fun q => q = 56) h h' → At G mX9_way 249 [vR 45, vI p, vI a0, vI t, vI i, vI tn', l6', l7', l8'] [] (0, 0, n) h' Q) → At G mX9_way 103 [vR 45, vI p, vI a0, vI t, vI i, vI tn, l6, l7, l8] [] (0, 0, n) h Q := by
  intro q
  induction q with
  | zero =>
    intro tn h fr F l6 l7 l8 ha hq g45 g46 g55 g56 hf hJ hQ
    refine r_iload (pc := 103) dX9_way_103 rfl <| r_bipush (pc := 105) dX9_way_105 (by decide) <| r_icmp_ge (pc := 107) 249 dX9_way_107 (by decide) (by omega) (by omega) (fun hc_107 => ?_) (fun hc_107 => ?_)
    · skip
      exact hQ h fr tn _ _ _ g56 hf Fr.rf
    · skip
      exfalso; omega
  | succ q ih =>
    intro tn h fr F l6 l7 l8 ha hq g45 g46 g55 g56 hf hJ hQ
    have hJ' := rA_J hL 6 0 F (by omega) (by omega) hJ
    refine r_iload (pc := 103) dX9_way_103 rfl <| r_bipush (pc := 105) dX9_way_105 (by decide) <| r_icmp_ge (pc := 107) 249 dX9_way_107 (by decide) (by omega) (by omega) (fun hc_107 => ?_) (fun hc_107 => ?_)
    · skip
      exfalso; omega
    · skip
      refine r_iconst (pc := 110) dX9_way_110 <| r_istore_6 (pc := 111) dX9_way_111 rfl <| ?_
      refine lp_w3 hI hc hL ht (by omega) 6 0 h fr F _ _ (by omega) (by omega) g45 g46 g55 g56 hf hJ (fun h1 fr1 b' l7' l8' a1 a2 a3 => ?_)
      refine r_iinc_5 (pc := 243) dX9_way_243 rfl rfl <| r_goto (pc := 246) 103 dX9_way_246 (by decide) <| ?_
      exact ih (tn + 1) h1 fr1 _ _ _ _ (by omega) (by omega) (a3.keep g45 (by omega)) (a3.keep g46 (by omega)) (a3.keep g55 (by omega)) a1 a2 hJ' (fun h' fr' a' l6' l7' l8' b1 b2 b3 => hQ h' fr' a' l6' l7' l8' b1 b2 (fun j hj => (b3 j hj).trans (a3 j hj)))
theorem lp_w1 {p a0 t i m : Int} (hI : Inv s.bk) (hT : talkF (nmB s.bk) it m 0 = TB s.bk) (hp : 0 ≤ p ∧ p < s.bk 0) (ht : dR t) : ∀ (q : Nat) (d : Int) (h : Hp) (e : Nat → Int) (cs fr : Int → Int) (l6 l7 l8 : AV), 0 ≤ d → d + q = 6 → wM h s e it → e 11 = m → e 12 = 0 → h 55 = some (aA 6 cs) → h 56 = some (aA 6 fr) → (∀ j, 0 ≤ j → j < d → cs j = csB s.bk p j ∧ fr j = f0 t j) →
    (∀ h' e' cs' fr' d' l6' l7' l8', wM h' s e' it → h' 55 = some (aA 6 cs') → h' 56 = some (aA 6 fr') → ag6 cs' (csB s.bk p) → ag6 fr' (f0 t) → Fr MR h h' → At G mX9_way 100 [vR 45, vI p, vI a0, vI t, vI i, vI d', l6', l7', l8'] [] (0, 0, n) h' Q) → At G mX9_way 54 [vR 45, vI p, vI a0, vI t, vI i, vI d, l6, l7, l8] [] (0, 0, n) h Q := by
  intro q
  induction q with
  | zero =>
    intro d h e cs fr l6 l7 l8 hd hq hW h11 h12 g55 g56 hj hQ
    refine r_iload (pc := 54) dX9_way_54 rfl <| r_bipush (pc := 56) dX9_way_56 (by decide) <| r_icmp_ge (pc := 58) 100 dX9_way_58 (by decide) (by omega) (by omega) (fun hc_58 => ?_) (fun hc_58 => ?_)
    · skip
      exact hQ h e cs fr d _ _ _ hW g55 g56 (fun x hx => (hj x hx.1 (by omega)).1) (fun x hx => (hj x hx.1 (by omega)).2) Fr.rf
    · skip
      exfalso; omega
  | succ q ih =>
    intro d h e cs fr l6 l7 l8 hd hq hW h11 h12 g55 g56 hj hQ
    have hM' := hW.2.1
    unfold mF at hM'
    have hdR : dR d := by omega
    refine r_iload (pc := 54) dX9_way_54 rfl <| r_bipush (pc := 56) dX9_way_56 (by decide) <| r_icmp_ge (pc := 58) 100 dX9_way_58 (by decide) (by omega) (by omega) (fun hc_58 => ?_) (fun hc_58 => ?_)
    · skip
      exfalso; omega
    · skip
      refine r_aload_n (pc := 61) dX9_way_61 rfl <| r_getf (pc := 62) dX9_way_62 fA_X9_38 hM' rfl <| r_iload (pc := 65) dX9_way_65 rfl <| r_aload_n (pc := 67) dX9_way_67 rfl <| r_iload_n (pc := 68) dX9_way_68 rfl <| r_iload (pc := 69) dX9_way_69 rfl <| cVi [_, _] (pc := 71) dX9_way_71 k_X9_201 ⟨⟨Nat.le_of_ble_eq_true rfl, Nat.le_of_ble_eq_true rfl⟩, ⟨Nat.le_of_ble_eq_true rfl, Nat.le_of_ble_eq_true rfl⟩, Nat.le_of_ble_eq_true rfl⟩ ⟨rfl, rfl⟩ hM' ?_
      refine sp_cost hW hI hT h11 h12 hp hdR (fun h1 e1 w1 w2 hF1 => ?_)
      clear hM'
      have hM' := w1.2.1
      unfold mF at hM'
      replace g55 := hF1.keep g55 (by omega)
      replace g56 := hF1.keep g56 (by omega)
      refine ⟨_, rfl, ?_⟩
      refine r_iast (pc := 74) dX9_way_74 g55 (by omega) (by decide) (fun h_74 g55 hF_74 => ?_)
      replace hM' := hF_74.keep hM' (by omega)
      replace g56 := hF_74.keep g56 (by omega)
      refine r_aload_n (pc := 75) dX9_way_75 rfl <| r_getf (pc := 76) dX9_way_76 fA_X9_41 hM' rfl <| r_iload (pc := 79) dX9_way_79 rfl <| r_iload (pc := 81) dX9_way_81 rfl <| r_iload_n (pc := 83) dX9_way_83 rfl <| r_icmp_ne (pc := 84) 91 dX9_way_84 (by decide) (by omega) (by omega) (fun hc_84 => ?_) (fun hc_84 => ?_)
      · skip
        refine r_ldc (pc := 91) dX9_way_91 cT_X9_200 <| r_iast (pc := 93) dX9_way_93 g56 (by omega) (by decide) (fun h_93 g56 hF_93 => ?_)
        replace hM' := hF_93.keep hM' (by omega)
        replace g55 := hF_93.keep g55 (by omega)
        refine r_iinc_5 (pc := 94) dX9_way_94 rfl rfl <| r_goto (pc := 97) 54 dX9_way_97 (by decide) <| ?_
        have w3 := w1.cell (j := 55) (by omega) ((hF_93 55 (by omega)).symm.trans g55) hF_74
        have w4 := w3.cell (j := 56) (by omega) g56 hF_93
        have hF : Fr MR h h_93 := fun j hj => (hF_93 j (by omega)).trans ((hF_74 j (by omega)).trans (hF1 j (by omega)))
        refine ih (d + 1) h_93 e1 _ _ _ _ _ (by omega) (by omega) w4 ((w2 11 (by decide) (by decide)).trans h11) ((w2 12 (by decide) (by decide)).trans h12) g55 g56 (fun j j0 j1 => ?_) (fun h' e' cs' fr' d' l6' l7' l8' b1 b2 b3 b4 b5 b6 => hQ h' e' cs' fr' d' l6' l7' l8' b1 b2 b3 b4 b5 (fun j hj => (b6 j hj).trans (hF j hj)))
        by_cases ej : j = d
        · subst ej
          rw [iu_s, iu_s]
          refine ⟨rfl, ?_⟩
          unfold f0
          first
            | rw [if_pos (by omega)]
            | rw [if_neg (by omega)]
        · rw [iu_n ej, iu_n ej]
          exact hj j j0 (by omega)
      · skip
        refine r_iconst (pc := 87) dX9_way_87 <| r_goto (pc := 88) 93 dX9_way_88 (by decide) <| r_iast (pc := 93) dX9_way_93 g56 (by omega) (by decide) (fun h_93 g56 hF_93 => ?_)
        replace hM' := hF_93.keep hM' (by omega)
        replace g55 := hF_93.keep g55 (by omega)
        refine r_iinc_5 (pc := 94) dX9_way_94 rfl rfl <| r_goto (pc := 97) 54 dX9_way_97 (by decide) <| ?_
        have w3 := w1.cell (j := 55) (by omega) ((hF_93 55 (by omega)).symm.trans g55) hF_74
        have w4 := w3.cell (j := 56) (by omega) g56 hF_93
        have hF : Fr MR h h_93 := fun j hj => (hF_93 j (by omega)).trans ((hF_74 j (by omega)).trans (hF1 j (by omega)))
        refine ih (d + 1) h_93 e1 _ _ _ _ _ (by omega) (by omega) w4 ((w2 11 (by decide) (by decide)).trans h11) ((w2 12 (by decide) (by decide)).trans h12) g55 g56 (fun j j0 j1 => ?_) (fun h' e' cs' fr' d' l6' l7' l8' b1 b2 b3 b4 b5 b6 => hQ h' e' cs' fr' d' l6' l7' l8' b1 b2 b3 b4 b5 (fun j hj => (b6 j hj).trans (hF j hj)))
        by_cases ej : j = d
        · subst ej
          rw [iu_s, iu_s]
          refine ⟨rfl, ?_⟩
          unfold f0
          first
            | rw [if_pos (by omega)]
            | rw [if_neg (by omega)]
        · rw [iu_n ej, iu_n ej]
          exact hj j j0 (by omega)
theorem lp_w5 {p a0 t i d k : Int} {c F cs fr : Int → Int} {l8 : AV} (g45 : h 45 = some (aO 9 (mF e))) (g46 : h 46 = some (aA 480 s.bk)) (g55 : h 55 = some (aA 6 cs)) (g56 : h 56 = some (aA 6 fr)) (hI : Inv s.bk) (hc : ag6 cs c) (hf : ag6 fr F) (hL : lgOk (lgB s.bk) c) (hF : ∀ a, dR a → 0 ≤ F a ∧ F a ≤ 1000000) (hd : dR d) :
    ∀ (q : Nat) (b : Int), 0 ≤ b → b + q = 6 → (∃ x, b ≤ x ∧ x < b + q ∧ ldP (lgB s.bk) c F d x) → At G mX9_way 314 [vR 45, vI p, vI a0, vI t, vI i, vI d, vI k, vI (fst6 (ldP (lgB s.bk) c F d) q b), l8] [] (0, 0, n) h Q → At G mX9_way 297 [vR 45, vI p, vI a0, vI t, vI i, vI d, vI k, vI b, l8] [] (0, 0, n) h Q := by
  have hM' := g45
  unfold mF at hM'
  intro q
  induction q with
  | zero => rintro b hb hq ⟨x, h1, h2, h3⟩; exfalso; omega
  | succ q ih =>
    intro b hb hq hx hQ
    refine r_aload_n (pc := 297) dX9_way_297 rfl <| r_iload (pc := 298) dX9_way_298 rfl <| r_iload (pc := 300) dX9_way_300 rfl <| cVi [_, _] (pc := 302) dX9_way_302 k_X9_204 ⟨⟨Nat.le_of_ble_eq_true rfl, Nat.le_of_ble_eq_true rfl⟩, ⟨Nat.le_of_ble_eq_true rfl, Nat.le_of_ble_eq_true rfl⟩, Nat.le_of_ble_eq_true rfl⟩ ⟨rfl, rfl⟩ hM' ?_
    refine sp_leads g45 g46 g55 g56 hI hc hf hL hF hd (by omega) (fun q1 => ?_) (fun q1 => ?_)
    · skip
      refine ⟨_, rfl, ?_⟩
      refine r_if_ne (pc := 305) 314 dX9_way_305 (by decide) (by decide) (fun _ => ?_) (fun q => absurd q (by decide))
      rw [fst6_y q1] at hQ; exact hQ
    · skip
      refine ⟨_, rfl, ?_⟩
      refine r_if_ne (pc := 305) 314 dX9_way_305 (by decide) (by decide) (fun q => absurd q (by decide)) (fun _ => ?_)
      refine r_iinc_7 (pc := 308) dX9_way_308 rfl rfl <| r_goto (pc := 311) 297 dX9_way_311 (by decide) <| ?_
      rw [fst6_n q1] at hQ
      refine ih (b + 1) (by omega) (by omega) ?_ hQ
      obtain ⟨x, h1, h2, h3⟩ := hx
      have : x ≠ b := fun e => q1 (e ▸ h3)
      exact ⟨x, by omega, by omega, h3⟩
theorem lp_w6 {p a0 t i : Int} {cs fr : Int → Int} (g45 : h 45 = some (aO 9 (mF e))) (g46 : h 46 = some (aA 480 s.bk)) (g55 : h 55 = some (aA 6 cs)) (g56 : h 56 = some (aA 6 fr)) (hI : Inv s.bk) (hc : ag6 cs (csB s.bk p)) (hf : ag6 fr (fwB s.bk p t)) (ht : dR t) (hi : inI i) :
    ∀ (q : Nat) (d k : Int) (l7 l8 : AV), dR d → 0 ≤ k → k ≤ i → fwB s.bk p t d < 1000000 → rk6 (fwB s.bk p t) d ≤ q → Q (some (vI (((pth (lgB s.bk) (csB s.bk p) (fwB s.bk p t) t q d)[(i - k).toNat]?).getD (-5)))) n h → At G mX9_way 281 [vR 45, vI p, vI a0, vI t, vI i, vI d, vI k, l7, l8] [] (0, 0, n) h Q := by
  have hL := lgOk_B (p := p) hI
  have hJ := rT_J (t := t) hL 5 (f0 t) f0_J
  intro q
  induction q with
  | zero =>
    intro d k l7 l8 hd hk hki hF hr hQ
    have hdt : d = t := Classical.byContradiction (fun hn => by
      have : rk6 (fwB s.bk p t) (nxD (lgB s.bk) (csB s.bk p) (fwB s.bk p t) d) < rk6 (fwB s.bk p t) d := (nx_in hL ht hd hn hF).2.2
      omega)
    refine r_iload (pc := 281) dX9_way_281 rfl <| r_iload (pc := 283) dX9_way_283 rfl <| r_icmp_ge (pc := 285) 324 dX9_way_285 (by decide) (by omega) (by omega) (fun hc_285 => ?_) (fun hc_285 => ?_)
    · skip
      refine r_iload (pc := 324) dX9_way_324 rfl <| r_iload (pc := 326) dX9_way_326 rfl <| r_icmp_ge (pc := 328) 336 dX9_way_328 (by decide) (by omega) (by omega) (fun hc_328 => ?_) (fun hc_328 => ?_)
      · skip
        refine r_iload (pc := 336) dX9_way_336 rfl <| r_iret (pc := 338) dX9_way_338 rfl ⟨Nat.le_of_ble_eq_true rfl, Nat.le_of_ble_eq_true rfl⟩ <| ?_
        refine qI ?_ hQ
        simp only [pth]
        first
          | (rw [show (i - k).toNat = 0 by omega]; rfl)
          | (rw [show (i - k).toNat = (i - k - 1).toNat + 1 by omega]; rfl)
          | (exfalso; omega)
      · skip
        refine r_bipush (pc := 331) dX9_way_331 (by decide) <| r_goto (pc := 333) 338 dX9_way_333 (by decide) <| r_iret (pc := 338) dX9_way_338 rfl ⟨Nat.le_of_ble_eq_true rfl, Nat.le_of_ble_eq_true rfl⟩ <| ?_
        refine qI ?_ hQ
        simp only [pth]
        first
          | (rw [show (i - k).toNat = 0 by omega]; rfl)
          | (rw [show (i - k).toNat = (i - k - 1).toNat + 1 by omega]; rfl)
          | (exfalso; omega)
    · skip
      refine r_iload (pc := 288) dX9_way_288 rfl <| r_iload_n (pc := 290) dX9_way_290 rfl <| r_icmp_eq (pc := 291) 324 dX9_way_291 (by decide) (by omega) (by omega) (fun hc_291 => ?_) (fun hc_291 => ?_)
      · skip
        refine r_iload (pc := 324) dX9_way_324 rfl <| r_iload (pc := 326) dX9_way_326 rfl <| r_icmp_ge (pc := 328) 336 dX9_way_328 (by decide) (by omega) (by omega) (fun hc_328 => ?_) (fun hc_328 => ?_)
        · skip
          refine r_iload (pc := 336) dX9_way_336 rfl <| r_iret (pc := 338) dX9_way_338 rfl ⟨Nat.le_of_ble_eq_true rfl, Nat.le_of_ble_eq_true rfl⟩ <| ?_
          refine qI ?_ hQ
          simp only [pth]
          first
            | (rw [show (i - k).toNat = 0 by omega]; rfl)
            | (rw [show (i - k).toNat = (i - k - 1).toNat + 1 by omega]; rfl)
            | (exfalso; omega)
        · skip
          refine r_bipush (pc := 331) dX9_way_331 (by decide) <| r_goto (pc := 333) 338 dX9_way_333 (by decide) <| r_iret (pc := 338) dX9_way_338 rfl ⟨Nat.le_of_ble_eq_true rfl, Nat.le_of_ble_eq_true rfl⟩ <| ?_
          refine qI ?_ hQ
          simp only [pth]
          first
            | (rw [show (i - k).toNat = 0 by omega]; rfl)
            | (rw [show (i - k).toNat = (i - k - 1).toNat + 1 by omega]; rfl)
            | (exfalso; omega)
      · skip
        exfalso; omega
  | succ q ih =>
    intro d k l7 l8 hd hk hki hF hr hQ
    by_cases hdt : d = t
    · skip
      refine r_iload (pc := 281) dX9_way_281 rfl <| r_iload (pc := 283) dX9_way_283 rfl <| r_icmp_ge (pc := 285) 324 dX9_way_285 (by decide) (by omega) (by omega) (fun hc_285 => ?_) (fun hc_285 => ?_)
      · skip
        refine r_iload (pc := 324) dX9_way_324 rfl <| r_iload (pc := 326) dX9_way_326 rfl <| r_icmp_ge (pc := 328) 336 dX9_way_328 (by decide) (by omega) (by omega) (fun hc_328 => ?_) (fun hc_328 => ?_)
        · skip
          refine r_iload (pc := 336) dX9_way_336 rfl <| r_iret (pc := 338) dX9_way_338 rfl ⟨Nat.le_of_ble_eq_true rfl, Nat.le_of_ble_eq_true rfl⟩ <| ?_
          refine qI ?_ hQ
          simp only [pth]
          rw [if_pos hdt]
          first
            | (rw [show (i - k).toNat = 0 by omega]; rfl)
            | (rw [show (i - k).toNat = (i - k - 1).toNat + 1 by omega]; rfl)
            | (exfalso; omega)
        · skip
          refine r_bipush (pc := 331) dX9_way_331 (by decide) <| r_goto (pc := 333) 338 dX9_way_333 (by decide) <| r_iret (pc := 338) dX9_way_338 rfl ⟨Nat.le_of_ble_eq_true rfl, Nat.le_of_ble_eq_true rfl⟩ <| ?_
          refine qI ?_ hQ
          simp only [pth]
          rw [if_pos hdt]
          first
            | (rw [show (i - k).toNat = 0 by omega]; rfl)
            | (rw [show (i - k).toNat = (i - k - 1).toNat + 1 by omega]; rfl)
            | (exfalso; omega)
      · skip
        refine r_iload (pc := 288) dX9_way_288 rfl <| r_iload_n (pc := 290) dX9_way_290 rfl <| r_icmp_eq (pc := 291) 324 dX9_way_291 (by decide) (by omega) (by omega) (fun hc_291 => ?_) (fun hc_291 => ?_)
        · skip
          refine r_iload (pc := 324) dX9_way_324 rfl <| r_iload (pc := 326) dX9_way_326 rfl <| r_icmp_ge (pc := 328) 336 dX9_way_328 (by decide) (by omega) (by omega) (fun hc_328 => ?_) (fun hc_328 => ?_)
          · skip
            refine r_iload (pc := 336) dX9_way_336 rfl <| r_iret (pc := 338) dX9_way_338 rfl ⟨Nat.le_of_ble_eq_true rfl, Nat.le_of_ble_eq_true rfl⟩ <| ?_
            refine qI ?_ hQ
            simp only [pth]
            rw [if_pos hdt]
            first
              | (rw [show (i - k).toNat = 0 by omega]; rfl)
              | (rw [show (i - k).toNat = (i - k - 1).toNat + 1 by omega]; rfl)
              | (exfalso; omega)
          · skip
            refine r_bipush (pc := 331) dX9_way_331 (by decide) <| r_goto (pc := 333) 338 dX9_way_333 (by decide) <| r_iret (pc := 338) dX9_way_338 rfl ⟨Nat.le_of_ble_eq_true rfl, Nat.le_of_ble_eq_true rfl⟩ <| ?_
            refine qI ?_ hQ
            simp only [pth]
            rw [if_pos hdt]
            first
              | (rw [show (i - k).toNat = 0 by omega]; rfl)
              | (rw [show (i - k).toNat = (i - k - 1).toNat + 1 by omega]; rfl)
              | (exfalso; omega)
        · skip
          exfalso; omega
    · have hnx := nx_in hL ht hd hdt hF
      have hnr : rk6 (fwB s.bk p t) (nxD (lgB s.bk) (csB s.bk p) (fwB s.bk p t) d) < rk6 (fwB s.bk p t) d := hnx.2.2
      obtain ⟨x, hx, hxl⟩ := nx_ex hL ht hd hdt hF
      simp only [pth] at hQ
      rw [if_neg hdt] at hQ
      refine r_iload (pc := 281) dX9_way_281 rfl <| r_iload (pc := 283) dX9_way_283 rfl <| r_icmp_ge (pc := 285) 324 dX9_way_285 (by decide) (by omega) (by omega) (fun hc_285 => ?_) (fun hc_285 => ?_)
      · skip
        refine r_iload (pc := 324) dX9_way_324 rfl <| r_iload (pc := 326) dX9_way_326 rfl <| r_icmp_ge (pc := 328) 336 dX9_way_328 (by decide) (by omega) (by omega) (fun hc_328 => ?_) (fun hc_328 => ?_)
        · skip
          refine r_iload (pc := 336) dX9_way_336 rfl <| r_iret (pc := 338) dX9_way_338 rfl ⟨Nat.le_of_ble_eq_true rfl, Nat.le_of_ble_eq_true rfl⟩ <| ?_
          refine qI ?_ hQ
          first
            | (rw [show (i - k).toNat = 0 by omega]; rfl)
            | (exfalso; omega)
        · skip
          refine r_bipush (pc := 331) dX9_way_331 (by decide) <| r_goto (pc := 333) 338 dX9_way_333 (by decide) <| r_iret (pc := 338) dX9_way_338 rfl ⟨Nat.le_of_ble_eq_true rfl, Nat.le_of_ble_eq_true rfl⟩ <| ?_
          refine qI ?_ hQ
          first
            | (rw [show (i - k).toNat = 0 by omega]; rfl)
            | (exfalso; omega)
      · skip
        refine r_iload (pc := 288) dX9_way_288 rfl <| r_iload_n (pc := 290) dX9_way_290 rfl <| r_icmp_eq (pc := 291) 324 dX9_way_291 (by decide) (by omega) (by omega) (fun hc_291 => ?_) (fun hc_291 => ?_)
        · skip
          exfalso; omega
        · skip
          refine r_iconst (pc := 294) dX9_way_294 <| r_istore_7 (pc := 295) dX9_way_295 rfl <| ?_
          refine lp_w5 g45 g46 g55 g56 hI hc hf hL hJ.1 hd 6 0 (by omega) (by omega) ⟨x, by omega, by omega, hxl⟩ ?_
          refine r_iload (pc := 314) dX9_way_314 rfl <| r_istore_5 (pc := 316) dX9_way_316 rfl <| r_iinc_6 (pc := 318) dX9_way_318 rfl rfl <| r_goto (pc := 321) 281 dX9_way_321 (by decide) <| ?_
          refine ih (nxD (lgB s.bk) (csB s.bk p) (fwB s.bk p t) d) (k + 1) _ _ hnx.1 (by omega) (by omega) hnx.2.1.2.2.2.1 (by omega) ?_
          rw [show (i - k).toNat = (i - (k + 1)).toNat + 1 by omega] at hQ
          exact hQ
theorem ms_way {p a t i : Int} (hM : isM h s) (hI : Inv s.bk) (hp : inI p) (ha : inI a) (ht : inI t) (hi : inI i) (hQ : ∀ h', isM h' (fWay s p a t i).2 → Fr MR h h' → Q (some (vI (fWay s p a t i).1)) n h') : Cl G mX9_way [vR 45, vI p, vI a, vI t, vI i] n h Q := by
  obtain ⟨e, it, g45, ge, g9, g46, -⟩ := id hM.raw
  have hM' := g45
  unfold mF at hM'
  have i0 := hI.1.1
  unfold fWay at hQ
  refine cl_of (by decide) (Nat.le_of_ble_eq_true rfl) rfl ?_
  refine r_aload_n (pc := 0) dX9_way_0 rfl <| r_iload_n (pc := 1) dX9_way_1 rfl <| cVi [_] (pc := 2) dX9_way_2 k_X9_59 ⟨⟨Nat.le_of_ble_eq_true rfl, Nat.le_of_ble_eq_true rfl⟩, ⟨Nat.le_of_ble_eq_true rfl, Nat.le_of_ble_eq_true rfl⟩, Nat.le_of_ble_eq_true rfl⟩ ⟨rfl, rfl⟩ hM' ?_
  refine sp_isPerson g45 g46 hI.2.1 hp (fun q1 => ?_) (fun q1 => ?_)
  · skip
    refine ⟨_, rfl, ?_⟩
    refine r_if_eq (pc := 5) 28 dX9_way_5 (by decide) (by decide) (fun q => absurd q (by decide)) (fun _ => ?_)
    refine r_iload_n (pc := 8) dX9_way_8 rfl <| cSi [_] (pc := 9) dX9_way_9 k_X9_197 ⟨⟨Nat.le_of_ble_eq_true rfl, Nat.le_of_ble_eq_true rfl⟩, ⟨Nat.le_of_ble_eq_true rfl, Nat.le_of_ble_eq_true rfl⟩, Nat.le_of_ble_eq_true rfl⟩ ⟨rfl, rfl⟩ ?_
    refine sp_mdoor ha (fun q2 => ?_) (fun q2 => ?_)
    · skip
      refine ⟨_, rfl, ?_⟩
      refine r_if_eq (pc := 12) 28 dX9_way_12 (by decide) (by decide) (fun q => absurd q (by decide)) (fun _ => ?_)
      refine r_iload_n (pc := 15) dX9_way_15 rfl <| cSi [_] (pc := 16) dX9_way_16 k_X9_197 ⟨⟨Nat.le_of_ble_eq_true rfl, Nat.le_of_ble_eq_true rfl⟩, ⟨Nat.le_of_ble_eq_true rfl, Nat.le_of_ble_eq_true rfl⟩, Nat.le_of_ble_eq_true rfl⟩ ⟨rfl, rfl⟩ ?_
      refine sp_mdoor ht (fun q4 => ?_) (fun q4 => ?_)
      · skip
        refine ⟨_, rfl, ?_⟩
        refine r_if_eq (pc := 19) 28 dX9_way_19 (by decide) (by decide) (fun q => absurd q (by decide)) (fun _ => ?_)
        refine r_iload (pc := 22) dX9_way_22 rfl <| r_iconst (pc := 24) dX9_way_24 <| r_icmp_ge (pc := 25) 36 dX9_way_25 (by decide) (by omega) (by omega) (fun hc_25 => ?_) (fun hc_25 => ?_)
        · skip
          refine r_aload_n (pc := 36) dX9_way_36 rfl <| cVi [] (pc := 37) dX9_way_37 k_X9_145 ⟨⟨Nat.le_of_ble_eq_true rfl, Nat.le_of_ble_eq_true rfl⟩, ⟨Nat.le_of_ble_eq_true rfl, Nat.le_of_ble_eq_true rfl⟩, Nat.le_of_ble_eq_true rfl⟩ ⟨rfl, rfl⟩ hM' ?_
          refine wm_reads hM hI (fun q3 h1 e1 it1 m1 m6 m7 m7' m8 m10 => ?_) (fun q3 h1 m1 m10 => ?_)
          · skip
            refine ⟨_, rfl, ?_⟩
            clear hM' g45 g46
            first
              | (have g45 := m1.2.1; have g46 := m1.2.2.1; have hM' := g45; unfold mF at hM')
              | (obtain ⟨e1, it1, g45, -, -, g46, -⟩ := id m1.raw; have hM' := g45; unfold mF at hM')
            refine r_if_ne (pc := 40) 51 dX9_way_40 (by decide) (by decide) (fun _ => ?_) (fun q => absurd q (by decide))
            refine r_iconst (pc := 51) dX9_way_51 <| r_istore_5 (pc := 52) dX9_way_52 rfl <| ?_
            rw [if_neg (by omega), if_neg (fun q => q q3)] at hQ
            have htR : dR t := by omega
            have haR : dR a := by omega
            have hL := lgOk_B (p := p) hI
            have hJ0 : wJ (lgB s.bk) (csB s.bk p) t (f0 t) := f0_J
            have hJ : wJ (lgB s.bk) (csB s.bk p) t (fwB s.bk p t) := rT_J (t := t) hL 5 (f0 t) hJ0
            obtain ⟨cs, k55⟩ := m1.1.sc 55 (by omega) (by omega)
            obtain ⟨fr, k56⟩ := m1.1.sc 56 (by omega) (by omega)
            refine lp_w1 hI (TB_fun m6 m7 rfl) (by omega) htR 6 0 h1 e1 cs fr _ _ _ (by omega) (by omega) m1 rfl m8 k55 k56 (fun j j0 j1 => by omega) (fun h2 e2 cs2 fr2 d' l6' l7' l8' a1 a2 a3 a4 a5 a6 => ?_)
            refine r_iconst (pc := 100) dX9_way_100 <| r_istore_5 (pc := 101) dX9_way_101 rfl <| ?_
            refine lp_w4 hI a4 hL htR 6 0 h2 fr2 (f0 t) _ _ _ (by omega) (by omega) a1.2.1 a1.2.2.1 a2 a3 a5 hJ0 (fun h3 fr3 tn' l6' l7' l8' b1 b2 b3 => ?_)
            have b4 : ag6 fr3 (fwB s.bk p t) := fun x hx => (b2 x hx).trans ((five hL htR).1 x hx)
            have w3 := a1.cell (j := 56) (by omega) b1 b3
            have hF : Fr MR h h3 := fun j hj => (b3 j (by omega)).trans ((a6 j hj).trans (m10 j hj))
            have hfa := b4 a haR
            have hJa := hJ.1 a haR
            clear hM'
            have hM' := w3.2.1
            unfold mF at hM'
            refine r_aload_n (pc := 249) dX9_way_249 rfl <| r_getf (pc := 250) dX9_way_250 fA_X9_41 hM' rfl <| r_iload_n (pc := 253) dX9_way_253 rfl <| r_iald (pc := 254) dX9_way_254 b1 (by omega) (by decide) <| r_ldc (pc := 255) dX9_way_255 cT_X9_200 <| r_icmp_lt (pc := 257) 262 dX9_way_257 (by decide) (by omega) (by omega) (fun hc_257 => ?_) (fun hc_257 => ?_)
            · skip
              refine r_iload (pc := 262) dX9_way_262 rfl <| r_iconst (pc := 264) dX9_way_264 <| r_icmp_ne (pc := 265) 275 dX9_way_265 (by decide) (by omega) (by omega) (fun hc_265 => ?_) (fun hc_265 => ?_)
              · skip
                refine r_iload_n (pc := 275) dX9_way_275 rfl <| r_istore_5 (pc := 276) dX9_way_276 rfl <| r_iconst (pc := 278) dX9_way_278 <| r_istore_6 (pc := 279) dX9_way_279 rfl <| ?_
                rw [if_neg (by omega), if_neg (by omega)] at hQ
                refine lp_w6 w3.2.1 w3.2.2.1 (b3.keep a2 (by omega)) b1 hI a4 b4 htR hi 5 a 0 _ _ haR (by omega) (by omega) (by omega) (rk_5 haR) ?_
                rw [Int.sub_zero]
                exact hQ _ w3.1 hF
              · skip
                refine r_aload_n (pc := 268) dX9_way_268 rfl <| r_getf (pc := 269) dX9_way_269 fA_X9_41 hM' rfl <| r_iload_n (pc := 272) dX9_way_272 rfl <| r_iald (pc := 273) dX9_way_273 b1 (by omega) (by decide) <| r_iret (pc := 274) dX9_way_274 rfl ⟨Nat.le_of_ble_eq_true rfl, Nat.le_of_ble_eq_true rfl⟩ <| ?_
                rw [if_neg (by omega), if_pos (by omega)] at hQ; exact qI hfa (hQ _ w3.1 hF)
            · skip
              refine r_iconst (pc := 260) dX9_way_260 <| r_iret (pc := 261) dX9_way_261 rfl ⟨Nat.le_of_ble_eq_true rfl, Nat.le_of_ble_eq_true rfl⟩ <| ?_
              rw [if_pos (by omega)] at hQ; exact hQ _ w3.1 hF
          · skip
            refine ⟨_, rfl, ?_⟩
            clear hM' g45 g46
            first
              | (have g45 := m1.2.1; have g46 := m1.2.2.1; have hM' := g45; unfold mF at hM')
              | (obtain ⟨e1, it1, g45, -, -, g46, -⟩ := id m1.raw; have hM' := g45; unfold mF at hM')
            refine r_if_ne (pc := 40) 51 dX9_way_40 (by decide) (by decide) (fun q => absurd q (by decide)) (fun _ => ?_)
            refine r_aload_n (pc := 43) dX9_way_43 rfl <| r_iconst (pc := 44) dX9_way_44 <| r_bipush (pc := 45) dX9_way_45 (by decide) <| cVi [_, _] (pc := 47) dX9_way_47 k_X9_51 ⟨⟨Nat.le_of_ble_eq_true rfl, Nat.le_of_ble_eq_true rfl⟩, ⟨Nat.le_of_ble_eq_true rfl, Nat.le_of_ble_eq_true rfl⟩, Nat.le_of_ble_eq_true rfl⟩ ⟨rfl, rfl⟩ hM' ?_
            refine ms_refuse m1 1 (by omega) (fun h2 g1 g2 => ?_)
            refine ⟨_, rfl, ?_⟩
            refine r_iret (pc := 50) dX9_way_50 rfl ⟨Nat.le_of_ble_eq_true rfl, Nat.le_of_ble_eq_true rfl⟩ <| ?_
            rw [if_neg (by omega), if_pos q3] at hQ; exact hQ _ g1 (fun j hj => (g2 j hj).trans (m10 j hj))
        · skip
          refine r_aload_n (pc := 28) dX9_way_28 rfl <| r_iconst (pc := 29) dX9_way_29 <| r_bipush (pc := 30) dX9_way_30 (by decide) <| cVi [_, _] (pc := 32) dX9_way_32 k_X9_51 ⟨⟨Nat.le_of_ble_eq_true rfl, Nat.le_of_ble_eq_true rfl⟩, ⟨Nat.le_of_ble_eq_true rfl, Nat.le_of_ble_eq_true rfl⟩, Nat.le_of_ble_eq_true rfl⟩ ⟨rfl, rfl⟩ hM' ?_
          refine ms_refuse hM 0 (by omega) (fun h1 g1 g2 => ?_)
          refine ⟨_, rfl, ?_⟩
          refine r_iret (pc := 35) dX9_way_35 rfl ⟨Nat.le_of_ble_eq_true rfl, Nat.le_of_ble_eq_true rfl⟩ <| ?_
          rw [if_pos (by omega)] at hQ; exact hQ _ g1 g2
      · skip
        refine ⟨_, rfl, ?_⟩
        refine r_if_eq (pc := 19) 28 dX9_way_19 (by decide) (by decide) (fun _ => ?_) (fun q => absurd q (by decide))
        refine r_aload_n (pc := 28) dX9_way_28 rfl <| r_iconst (pc := 29) dX9_way_29 <| r_bipush (pc := 30) dX9_way_30 (by decide) <| cVi [_, _] (pc := 32) dX9_way_32 k_X9_51 ⟨⟨Nat.le_of_ble_eq_true rfl, Nat.le_of_ble_eq_true rfl⟩, ⟨Nat.le_of_ble_eq_true rfl, Nat.le_of_ble_eq_true rfl⟩, Nat.le_of_ble_eq_true rfl⟩ ⟨rfl, rfl⟩ hM' ?_
        refine ms_refuse hM 0 (by omega) (fun h1 g1 g2 => ?_)
        refine ⟨_, rfl, ?_⟩
        refine r_iret (pc := 35) dX9_way_35 rfl ⟨Nat.le_of_ble_eq_true rfl, Nat.le_of_ble_eq_true rfl⟩ <| ?_
        rw [if_pos (by omega)] at hQ; exact hQ _ g1 g2
    · skip
      refine ⟨_, rfl, ?_⟩
      refine r_if_eq (pc := 12) 28 dX9_way_12 (by decide) (by decide) (fun _ => ?_) (fun q => absurd q (by decide))
      refine r_aload_n (pc := 28) dX9_way_28 rfl <| r_iconst (pc := 29) dX9_way_29 <| r_bipush (pc := 30) dX9_way_30 (by decide) <| cVi [_, _] (pc := 32) dX9_way_32 k_X9_51 ⟨⟨Nat.le_of_ble_eq_true rfl, Nat.le_of_ble_eq_true rfl⟩, ⟨Nat.le_of_ble_eq_true rfl, Nat.le_of_ble_eq_true rfl⟩, Nat.le_of_ble_eq_true rfl⟩ ⟨rfl, rfl⟩ hM' ?_
      refine ms_refuse hM 0 (by omega) (fun h1 g1 g2 => ?_)
      refine ⟨_, rfl, ?_⟩
      refine r_iret (pc := 35) dX9_way_35 rfl ⟨Nat.le_of_ble_eq_true rfl, Nat.le_of_ble_eq_true rfl⟩ <| ?_
      rw [if_pos (by omega)] at hQ; exact hQ _ g1 g2
  · skip
    refine ⟨_, rfl, ?_⟩
    refine r_if_eq (pc := 5) 28 dX9_way_5 (by decide) (by decide) (fun _ => ?_) (fun q => absurd q (by decide))
    refine r_aload_n (pc := 28) dX9_way_28 rfl <| r_iconst (pc := 29) dX9_way_29 <| r_bipush (pc := 30) dX9_way_30 (by decide) <| cVi [_, _] (pc := 32) dX9_way_32 k_X9_51 ⟨⟨Nat.le_of_ble_eq_true rfl, Nat.le_of_ble_eq_true rfl⟩, ⟨Nat.le_of_ble_eq_true rfl, Nat.le_of_ble_eq_true rfl⟩, Nat.le_of_ble_eq_true rfl⟩ ⟨rfl, rfl⟩ hM' ?_
    refine ms_refuse hM 0 (by omega) (fun h1 g1 g2 => ?_)
    refine ⟨_, rfl, ?_⟩
    refine r_iret (pc := 35) dX9_way_35 rfl ⟨Nat.le_of_ble_eq_true rfl, Nat.le_of_ble_eq_true rfl⟩ <| ?_
    rw [if_pos (by omega)] at hQ; exact hQ _ g1 g2
end MWy



