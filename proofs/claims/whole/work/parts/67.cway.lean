/-! ===== the class: way ===== -/
def ovF (lg : Int → Int → Int) (c F : Int → Int) (a b : Int) : Int := if lg a b = 0 ∨ c b = -1 then 1000000 else if lg a b + c b + F b < 1000000 then lg a b + c b + F b else 1000000
abbrev o37 (st : Int) : AE := aO 2 [vR 38, vR 39, vR 40, vI st]
section CWy
variable {G : GT} {n : Nat} {h h' : Hp} {Q : PT} {s : SS} {lA c F cs fr : Int → Int} {bk : Int → Int} {st t : Int}
theorem sp_over {a b : Int} (c37 : h 37 = some (o37 st)) (c38 : h 38 = some (aA 6 cs)) (c39 : h 39 = some (aA 6 fr)) (c13 : h 13 = some (aA 36 lA)) (rl : REq lA bk 180 36) (hc : ag6 cs c) (hf : ag6 fr F) (hL : lgOk (lgB bk) c) (hF : ∀ a, dR a → 0 ≤ F a ∧ F a ≤ 1000000) (ha : dR a) (hb : dR b) (hQ : Q (some (vI (ovF (lgB bk) c F a b))) n h) : Cl G mX2_over [vR 37, vR 13, vI a, vI b] n h Q := by
  have l1 : lA (a * 6 + b) = lgB bk a b := by rw [rl _ (by omega) (by omega)]; unfold lgB; congr 1; omega
  have l2 := hL.1 a b ha hb
  have l3 := hL.2 b hb
  have c1 := hc b hb
  have f2 := hf b hb
  have f4 := hF b hb
  unfold ovF at hQ
  refine cl_of (by decide) (Nat.le_of_ble_eq_true rfl) rfl ?_
  refine r_aload_n (pc := 0) dX2_over_0 rfl <| r_iload_n (pc := 1) dX2_over_1 rfl <| r_bipush (pc := 2) dX2_over_2 (by decide) <| r_imul (pc := 4) dX2_over_4 <| r_iload_n (pc := 5) dX2_over_5 rfl <| r_iadd (pc := 6) dX2_over_6 <| r_iald (pc := 7) dX2_over_7 c13 (by omega) (by decide) <| r_istore_4 (pc := 8) dX2_over_8 rfl <| r_iload (pc := 10) dX2_over_10 rfl <| r_if_eq (pc := 12) 25 dX2_over_12 (by decide) (by omega) (fun hc_12 => ?_) (fun hc_12 => ?_)
  · skip
    refine r_ldc (pc := 25) dX2_over_25 cT_X2_29 <| r_iret (pc := 27) dX2_over_27 rfl ⟨Nat.le_of_ble_eq_true rfl, Nat.le_of_ble_eq_true rfl⟩ <| ?_
    rw [if_pos (by omega)] at hQ; exact hQ
  · skip
    refine r_aload_n (pc := 15) dX2_over_15 rfl <| r_getf (pc := 16) dX2_over_16 fA_X2_9 c37 rfl <| r_iload_n (pc := 19) dX2_over_19 rfl <| r_iald (pc := 20) dX2_over_20 c38 (by omega) (by decide) <| r_iconst (pc := 21) dX2_over_21 <| r_icmp_ne (pc := 22) 28 dX2_over_22 (by decide) (by omega) (by omega) (fun hc_22 => ?_) (fun hc_22 => ?_)
    · skip
      refine r_ldc (pc := 28) dX2_over_28 cT_X2_29 <| r_iload (pc := 30) dX2_over_30 rfl <| r_aload_n (pc := 32) dX2_over_32 rfl <| r_getf (pc := 33) dX2_over_33 fA_X2_9 c37 rfl <| r_iload_n (pc := 36) dX2_over_36 rfl <| r_iald (pc := 37) dX2_over_37 c38 (by omega) (by decide) <| r_iadd (pc := 38) dX2_over_38 <| r_aload_n (pc := 39) dX2_over_39 rfl <| r_getf (pc := 40) dX2_over_40 fA_X2_15 c37 rfl <| r_iload_n (pc := 43) dX2_over_43 rfl <| r_iald (pc := 44) dX2_over_44 c39 (by omega) (by decide) <| r_iadd (pc := 45) dX2_over_45 <| r_min (pc := 46) dX2_over_46 kL_X2_43 mI1 mI2 mI3 ⟨Nat.le_of_ble_eq_true rfl, Nat.le_of_ble_eq_true rfl⟩ ⟨Nat.le_of_ble_eq_true rfl, Nat.le_of_ble_eq_true rfl⟩ (by omega) (by omega) <| r_iret (pc := 49) dX2_over_49 rfl ⟨Nat.le_of_ble_eq_true rfl, Nat.le_of_ble_eq_true rfl⟩ <| ?_
      rw [if_neg (by omega)] at hQ
      refine qI ?_ hQ
      rw [l1, c1, f2]
    · skip
      refine r_ldc (pc := 25) dX2_over_25 cT_X2_29 <| r_iret (pc := 27) dX2_over_27 rfl ⟨Nat.le_of_ble_eq_true rfl, Nat.le_of_ble_eq_true rfl⟩ <| ?_
      rw [if_pos (by omega)] at hQ; exact hQ
theorem ov_rx {a b : Int} (hL : lgOk (lgB bk) c) (hz : ∀ a, dR a → lgB bk a a = 0) (hJ : wJ (lgB bk) c t F) (ha : dR a) (hb : dR b) (hf : ag6 fr F) : ag6 (iu fr a (if ovF (lgB bk) c F a b < fr a then ovF (lgB bk) c F a b else fr a)) (rx (lgB bk) c t F a b) := by
  intro x hx
  have l2 := hL.1 a b ha hb
  have l3 := hL.2 b hb
  have f1 := hf a ha
  have f3 := hJ.1 a ha
  have f4 := hJ.1 b hb
  have f5 := hJ.2.1
  have e1 : a = t → F a = 0 := fun e => by rw [e]; exact f5
  have e2 : a = b → lgB bk a b = 0 := fun e => by rw [← e]; exact hz a ha
  by_cases ex : x = a
  · rw [ex, iu_s]
    unfold rx
    by_cases hc : (¬ a = t ∧ ¬ a = b ∧ 0 < lgB bk a b ∧ ¬ c b = -1) ∧ lgB bk a b + c b + F b < F a
    · have eo : ovF (lgB bk) c F a b = lgB bk a b + c b + F b := by
        unfold ovF
        rw [if_neg (show ¬ (lgB bk a b = 0 ∨ c b = -1) by omega), if_pos (show lgB bk a b + c b + F b < 1000000 by omega)]
      rw [if_pos hc, iu_s, eo, if_pos (by omega)]
    · have eo : ¬ ovF (lgB bk) c F a b < fr a := by
        unfold ovF
        (repeat' split) <;> omega
      rw [if_neg hc, if_neg eo]; exact f1
  · rw [iu_n ex]
    unfold rx
    split
    · rw [iu_n ex]; exact hf x hx
    · exact hf x hx
theorem lp_m2 {k a : Int} (hc : ag6 cs c) (hL : lgOk (lgB bk) c) (hz : ∀ a, dR a → lgB bk a a = 0) (rl : REq lA bk 180 36) (ht : dR t) (ha : dR a) : ∀ (q : Nat) (b : Int) (h : Hp) (fr F : Int → Int), 0 ≤ b → b + q = 6 → h 37 = some (o37 st) → h 38 = some (aA 6 cs) → h 39 = some (aA 6 fr) → h 13 = some (aA 36 lA) → ag6 fr F → wJ (lgB bk) c t F →
    (∀ h' fr' b', h' 39 = some (aA 6 fr') → ag6 fr' (rB (lgB bk) c t a q b F) → Fr (fun q => q = 39) h h' → At G mX2_measure 76 [vR 37, vR 13, vI t, vI k, vI a, vI b'] [] (0, 0, n) h' Q) → At G mX2_measure 37 [vR 37, vR 13, vI t, vI k, vI a, vI b] [] (0, 0, n) h Q := by
  intro q
  induction q with
  | zero =>
    intro b h fr F hb hq c37 c38 c39 c13 hf hJ hQ
    refine r_iload (pc := 37) dX2_measure_37 rfl <| r_bipush (pc := 39) dX2_measure_39 (by decide) <| r_icmp_ge (pc := 41) 76 dX2_measure_41 (by decide) (by omega) (by omega) (fun hc_41 => ?_) (fun hc_41 => ?_)
    · skip
      exact hQ h fr b c39 hf Fr.rf
    · skip
      exfalso; omega
  | succ q ih =>
    intro b h fr F hb hq c37 c38 c39 c13 hf hJ hQ
    have hbR : dR b := by omega
    have f1 := hf a ha
    have f3 := hJ.1 a ha
    have ho : 0 ≤ ovF (lgB bk) c F a b ∧ ovF (lgB bk) c F a b ≤ 1000000 := by
      have l2 := hL.1 a b ha hbR
      have l3 := hL.2 b hbR
      have f4 := hJ.1 b hbR
      unfold ovF
      (repeat' split) <;> omega
    have hrx := ov_rx hL hz hJ ha hbR hf
    have hJ' := rx_J hL ha hbR hJ
    refine r_iload (pc := 37) dX2_measure_37 rfl <| r_bipush (pc := 39) dX2_measure_39 (by decide) <| r_icmp_ge (pc := 41) 76 dX2_measure_41 (by decide) (by omega) (by omega) (fun hc_41 => ?_) (fun hc_41 => ?_)
    · skip
      exfalso; omega
    · skip
      refine r_aload_n (pc := 44) dX2_measure_44 rfl <| r_getf (pc := 45) dX2_measure_45 fA_X2_15 c37 rfl <| r_iload (pc := 48) dX2_measure_48 rfl <| r_aload_n (pc := 50) dX2_measure_50 rfl <| r_getf (pc := 51) dX2_measure_51 fA_X2_15 c37 rfl <| r_iload (pc := 54) dX2_measure_54 rfl <| r_iald (pc := 56) dX2_measure_56 c39 (by omega) (by decide) <| r_aload_n (pc := 57) dX2_measure_57 rfl <| r_aload_n (pc := 58) dX2_measure_58 rfl <| r_iload (pc := 59) dX2_measure_59 rfl <| r_iload (pc := 61) dX2_measure_61 rfl <| cVi [_, _, _] (pc := 63) dX2_measure_63 k_X2_39 ⟨⟨Nat.le_of_ble_eq_true rfl, Nat.le_of_ble_eq_true rfl⟩, ⟨Nat.le_of_ble_eq_true rfl, Nat.le_of_ble_eq_true rfl⟩, Nat.le_of_ble_eq_true rfl⟩ ⟨rfl, rfl⟩ c37 ?_
      refine sp_over c37 c38 c39 c13 rl hc hf hL hJ.1 ha hbR ?_
      refine ⟨_, rfl, ?_⟩
      refine r_min (pc := 66) dX2_measure_66 kL_X2_43 mI1 mI2 mI3 ⟨Nat.le_of_ble_eq_true rfl, Nat.le_of_ble_eq_true rfl⟩ ⟨Nat.le_of_ble_eq_true rfl, Nat.le_of_ble_eq_true rfl⟩ (by omega) (by omega) <| r_iast (pc := 69) dX2_measure_69 c39 (by omega) (by decide) (fun h_69 c39 hF_69 => ?_)
      replace c37 := hF_69.keep c37 (by omega)
      refine r_iinc_5 (pc := 70) dX2_measure_70 rfl rfl <| r_goto (pc := 73) 37 dX2_measure_73 (by decide) <| ?_
      exact ih (b + 1) h_69 _ (rx (lgB bk) c t F a b) (by omega) (by omega) c37 (hF_69.keep c38 (by omega)) c39 (hF_69.keep c13 (by omega)) hrx hJ' (fun h' fr' b' a1 a2 a3 => hQ h' fr' b' a1 a2 (fun j hj => (a3 j hj).trans (hF_69 j hj)))
theorem lp_m3 {k : Int} (hc : ag6 cs c) (hL : lgOk (lgB bk) c) (hz : ∀ a, dR a → lgB bk a a = 0) (rl : REq lA bk 180 36) (ht : dR t) : ∀ (q : Nat) (a : Int) (h : Hp) (fr F : Int → Int) (l5 : AV), 0 ≤ a → a + q = 6 → h 37 = some (o37 st) → h 38 = some (aA 6 cs) → h 39 = some (aA 6 fr) → h 13 = some (aA 36 lA) → ag6 fr F → wJ (lgB bk) c t F →
    (∀ h' fr' a' l5', h' 39 = some (aA 6 fr') → ag6 fr' (rA (lgB bk) c t q a F) → Fr (fun q => q = 39) h h' → At G mX2_measure 82 [vR 37, vR 13, vI t, vI k, vI a', l5'] [] (0, 0, n) h' Q) → At G mX2_measure 27 [vR 37, vR 13, vI t, vI k, vI a, l5] [] (0, 0, n) h Q := by
  intro q
  induction q with
  | zero =>
    intro a h fr F l5 ha hq c37 c38 c39 c13 hf hJ hQ
    refine r_iload (pc := 27) dX2_measure_27 rfl <| r_bipush (pc := 29) dX2_measure_29 (by decide) <| r_icmp_ge (pc := 31) 82 dX2_measure_31 (by decide) (by omega) (by omega) (fun hc_31 => ?_) (fun hc_31 => ?_)
    · skip
      exact hQ h fr a _ c39 hf Fr.rf
    · skip
      exfalso; omega
  | succ q ih =>
    intro a h fr F l5 ha hq c37 c38 c39 c13 hf hJ hQ
    have hJ' := rB_J hL (show dR a by omega) 6 0 F (by omega) (by omega) hJ
    refine r_iload (pc := 27) dX2_measure_27 rfl <| r_bipush (pc := 29) dX2_measure_29 (by decide) <| r_icmp_ge (pc := 31) 82 dX2_measure_31 (by decide) (by omega) (by omega) (fun hc_31 => ?_) (fun hc_31 => ?_)
    · skip
      exfalso; omega
    · skip
      refine r_iconst (pc := 34) dX2_measure_34 <| r_istore_5 (pc := 35) dX2_measure_35 rfl <| ?_
      refine lp_m2 hc hL hz rl ht (show dR a by omega) 6 0 h fr F (by omega) (by omega) c37 c38 c39 c13 hf hJ (fun h1 fr1 b' a1 a2 a3 => ?_)
      refine r_iinc_4 (pc := 76) dX2_measure_76 rfl rfl <| r_goto (pc := 79) 27 dX2_measure_79 (by decide) <| ?_
      exact ih (a + 1) h1 fr1 _ _ (by omega) (by omega) (a3.keep c37 (by omega)) (a3.keep c38 (by omega)) a1 (a3.keep c13 (by omega)) a2 hJ' (fun h' fr' a' l5' b1 b2 b3 => hQ h' fr' a' l5' b1 b2 (fun j hj => (b3 j hj).trans (a3 j hj)))
theorem lp_m4 (hc : ag6 cs c) (hL : lgOk (lgB bk) c) (hz : ∀ a, dR a → lgB bk a a = 0) (rl : REq lA bk 180 36) (ht : dR t) : ∀ (q : Nat) (k : Int) (h : Hp) (fr F : Int → Int) (l4 l5 : AV), 1 ≤ k → k + q = 6 → h 37 = some (o37 st) → h 38 = some (aA 6 cs) → h 39 = some (aA 6 fr) → h 13 = some (aA 36 lA) → ag6 fr F → wJ (lgB bk) c t F →
    (∀ h' fr', h' 39 = some (aA 6 fr') → ag6 fr' (rT (lgB bk) c t q F) → Fr (fun q => q = 39) h h' → Q none n h') → At G mX2_measure 18 [vR 37, vR 13, vI t, vI k, l4, l5] [] (0, 0, n) h Q := by
  intro q
  induction q with
  | zero =>
    intro k h fr F l4 l5 hk hq c37 c38 c39 c13 hf hJ hQ
    refine r_iload_n (pc := 18) dX2_measure_18 rfl <| r_bipush (pc := 19) dX2_measure_19 (by decide) <| r_icmp_ge (pc := 21) 88 dX2_measure_21 (by decide) (by omega) (by omega) (fun hc_21 => ?_) (fun hc_21 => ?_)
    · skip
      refine r_vret (pc := 88) dX2_measure_88 rfl ⟨Nat.le_of_ble_eq_true rfl, Nat.le_of_ble_eq_true rfl⟩ <| ?_
      exact hQ h fr c39 hf Fr.rf
    · skip
      exfalso; omega
  | succ q ih =>
    intro k h fr F l4 l5 hk hq c37 c38 c39 c13 hf hJ hQ
    have hJ' := rA_J hL 6 0 F (by omega) (by omega) hJ
    refine r_iload_n (pc := 18) dX2_measure_18 rfl <| r_bipush (pc := 19) dX2_measure_19 (by decide) <| r_icmp_ge (pc := 21) 88 dX2_measure_21 (by decide) (by omega) (by omega) (fun hc_21 => ?_) (fun hc_21 => ?_)
    · skip
      exfalso; omega
    · skip
      refine r_iconst (pc := 24) dX2_measure_24 <| r_istore_4 (pc := 25) dX2_measure_25 rfl <| ?_
      refine lp_m3 hc hL hz rl ht 6 0 h fr F _ (by omega) (by omega) c37 c38 c39 c13 hf hJ (fun h1 fr1 a' l5' a1 a2 a3 => ?_)
      refine r_iinc_3 (pc := 82) dX2_measure_82 rfl rfl <| r_goto (pc := 85) 18 dX2_measure_85 (by decide) <| ?_
      exact ih (k + 1) h1 fr1 _ _ _ (by omega) (by omega) (a3.keep c37 (by omega)) (a3.keep c38 (by omega)) a1 (a3.keep c13 (by omega)) a2 hJ' (fun h' fr' b1 b2 b3 => hQ h' fr' b1 b2 (fun j hj => (b3 j hj).trans (a3 j hj)))
theorem sp_measure (hc : ag6 cs c) (hL : lgOk (lgB bk) c) (hz : ∀ a, dR a → lgB bk a a = 0) (rl : REq lA bk 180 36) (ht : dR t) (c37 : h 37 = some (o37 st)) (c38 : h 38 = some (aA 6 cs)) (c39 : h 39 = some (aA 6 fr)) (c13 : h 13 = some (aA 36 lA)) (hQ : ∀ h' fr', h' 39 = some (aA 6 fr') → ag6 fr' (rT (lgB bk) c t 5 (f0 t)) → Fr (fun q => q = 39) h h' → Q none n h') : Cl G mX2_measure [vR 37, vR 13, vI t] n h Q := by
  refine cl_of (by decide) (Nat.le_of_ble_eq_true rfl) rfl ?_
  refine r_aload_n (pc := 0) dX2_measure_0 rfl <| r_getf (pc := 1) dX2_measure_1 fA_X2_15 c37 rfl <| r_ldc (pc := 4) dX2_measure_4 cT_X2_29 <| cSv [_, _] (pc := 6) dX2_measure_6 k_X2_34 ⟨⟨Nat.le_of_ble_eq_true rfl, Nat.le_of_ble_eq_true rfl⟩, ⟨Nat.le_of_ble_eq_true rfl, Nat.le_of_ble_eq_true rfl⟩, Nat.le_of_ble_eq_true rfl⟩ ⟨rfl, rfl⟩ ?_
  refine sp_fill (by decide) c39 (fun h1 k1 hF1 => ?_)
  refine ⟨rfl, ?_⟩
  replace c37 := hF1.keep c37 (by omega)
  replace c39 := k1
  refine r_aload_n (pc := 9) dX2_measure_9 rfl <| r_getf (pc := 10) dX2_measure_10 fA_X2_15 c37 rfl <| r_iload_n (pc := 13) dX2_measure_13 rfl <| r_iconst (pc := 14) dX2_measure_14 <| r_iast (pc := 15) dX2_measure_15 c39 (by omega) (by decide) (fun h_15 c39 hF_15 => ?_)
  replace c37 := hF_15.keep c37 (by omega)
  refine r_iconst (pc := 16) dX2_measure_16 <| r_istoren_3 (pc := 17) dX2_measure_17 rfl <| ?_
  have hF : Fr (fun q => q = 39) h h_15 := fun q hq => ((hF_15 q (by omega)).trans (hF1 q (by omega)))
  refine lp_m4 hc hL hz rl ht 5 1 h_15 _ (f0 t) _ _ (by omega) (by omega) c37 (hF.keep c38 (by omega)) c39 (hF.keep c13 (by omega)) (fun x hx => ?_) f0_J (fun h' fr' a1 a2 a3 => hQ h' fr' a1 a2 (fun j hj => (a3 j hj).trans (hF j hj)))
  unfold f0
  by_cases ex : x = t
  · rw [ex, iu_s, if_pos rfl]
  · rw [iu_n ex, if_neg ex]
    show (if 0 ≤ x ∧ x < ((6 : Nat) : Int) then (1000000 : Int) else fr x) = 1000000
    rw [if_pos (by omega)]
theorem ov_ld {d b : Int} (hL : lgOk (lgB bk) c) (hz : ∀ a, dR a → lgB bk a a = 0) (hF : ∀ a, dR a → 0 ≤ F a ∧ F a ≤ 1000000) (hd : dR d) (hb : dR b) (hlt : F d < 1000000) : ovF (lgB bk) c F d b = F d ↔ ldP (lgB bk) c F d b := by
  have l2 := hL.1 d b hd hb
  have l3 := hL.2 b hb
  have f4 := hF b hb
  have e2 : d = b → lgB bk d b = 0 := fun e => by rw [← e]; exact hz d hd
  unfold ovF ldP
  by_cases k1 : lgB bk d b = 0 ∨ c b = -1
  · rw [if_pos k1]; omega
  · rw [if_neg k1]
    by_cases k2 : lgB bk d b + c b + F b < 1000000
    · rw [if_pos k2]; omega
    · rw [if_neg k2]; omega
theorem lp_nd {d : Int} (c37 : h 37 = some (o37 st)) (c38 : h 38 = some (aA 6 cs)) (c39 : h 39 = some (aA 6 fr)) (c13 : h 13 = some (aA 36 lA)) (rl : REq lA bk 180 36) (hc : ag6 cs c) (hf : ag6 fr F) (hL : lgOk (lgB bk) c) (hz : ∀ a, dR a → lgB bk a a = 0) (hF : ∀ a, dR a → 0 ≤ F a ∧ F a ≤ 1000000) (hd : dR d) (hlt : F d < 1000000) :
    ∀ (q : Nat) (b : Int), 0 ≤ b → b + q = 6 → (∃ x, b ≤ x ∧ x < b + q ∧ ldP (lgB bk) c F d x) → Q (some (vI (fst6 (ldP (lgB bk) c F d) q b))) n h → At G mX2_nextDoor 2 [vR 37, vR 13, vI d, vI b] [] (0, 0, n) h Q := by
  intro q
  induction q with
  | zero => rintro b hb hq ⟨x, h1, h2, h3⟩; exfalso; omega
  | succ q ih =>
    intro b hb hq hx hQ
    have hbR : dR b := by omega
    have hov := ov_ld hL hz hF hd hbR hlt
    have f1 := hf d hd
    have f3 := hF d hd
    have ho : 0 ≤ ovF (lgB bk) c F d b ∧ ovF (lgB bk) c F d b ≤ 1000000 := by
      have l2 := hL.1 d b hd hbR
      have l3 := hL.2 b hbR
      have f4 := hF b hbR
      unfold ovF
      (repeat' split) <;> omega
    refine r_iload_n (pc := 2) dX2_nextDoor_2 rfl <| r_bipush (pc := 3) dX2_nextDoor_3 (by decide) <| r_icmp_ge (pc := 5) 32 dX2_nextDoor_5 (by decide) (by omega) (by omega) (fun hc_5 => ?_) (fun hc_5 => ?_)
    · skip
      exfalso; omega
    · skip
      refine r_aload_n (pc := 8) dX2_nextDoor_8 rfl <| r_aload_n (pc := 9) dX2_nextDoor_9 rfl <| r_iload_n (pc := 10) dX2_nextDoor_10 rfl <| r_iload_n (pc := 11) dX2_nextDoor_11 rfl <| cVi [_, _, _] (pc := 12) dX2_nextDoor_12 k_X2_39 ⟨⟨Nat.le_of_ble_eq_true rfl, Nat.le_of_ble_eq_true rfl⟩, ⟨Nat.le_of_ble_eq_true rfl, Nat.le_of_ble_eq_true rfl⟩, Nat.le_of_ble_eq_true rfl⟩ ⟨rfl, rfl⟩ c37 ?_
      refine sp_over c37 c38 c39 c13 rl hc hf hL hF hd hbR ?_
      refine ⟨_, rfl, ?_⟩
      refine r_aload_n (pc := 15) dX2_nextDoor_15 rfl <| r_getf (pc := 16) dX2_nextDoor_16 fA_X2_15 c37 rfl <| r_iload_n (pc := 19) dX2_nextDoor_19 rfl <| r_iald (pc := 20) dX2_nextDoor_20 c39 (by omega) (by decide) <| r_icmp_ne (pc := 21) 26 dX2_nextDoor_21 (by decide) (by omega) (by omega) (fun hc_21 => ?_) (fun hc_21 => ?_)
      · skip
        refine r_iinc_3 (pc := 26) dX2_nextDoor_26 rfl rfl <| r_goto (pc := 29) 2 dX2_nextDoor_29 (by decide) <| ?_
        have hp : ¬ ldP (lgB bk) c F d b := fun e => by have := hov.mpr e; omega
        rw [fst6_n hp] at hQ
        refine ih (b + 1) (by omega) (by omega) ?_ hQ
        obtain ⟨x, h1, h2, h3⟩ := hx
        have : x ≠ b := fun e => hp (e ▸ h3)
        exact ⟨x, by omega, by omega, h3⟩
      · skip
        refine r_iload_n (pc := 24) dX2_nextDoor_24 rfl <| r_iret (pc := 25) dX2_nextDoor_25 rfl ⟨Nat.le_of_ble_eq_true rfl, Nat.le_of_ble_eq_true rfl⟩ <| ?_
        have hp := hov.mp (by omega)
        rw [fst6_y hp] at hQ
        exact hQ
theorem sp_nextDoor {d : Int} (c37 : h 37 = some (o37 st)) (c38 : h 38 = some (aA 6 cs)) (c39 : h 39 = some (aA 6 fr)) (c13 : h 13 = some (aA 36 lA)) (rl : REq lA bk 180 36) (hc : ag6 cs c) (hf : ag6 fr F) (hL : lgOk (lgB bk) c) (hz : ∀ a, dR a → lgB bk a a = 0) (hF : ∀ a, dR a → 0 ≤ F a ∧ F a ≤ 1000000) (hd : dR d) (hlt : F d < 1000000) (hx : ∃ x, dR x ∧ ldP (lgB bk) c F d x) (hQ : Q (some (vI (nxD (lgB bk) c F d))) n h) : Cl G mX2_nextDoor [vR 37, vR 13, vI d] n h Q := by
  refine cl_of (by decide) (Nat.le_of_ble_eq_true rfl) rfl ?_
  refine r_iconst (pc := 0) dX2_nextDoor_0 <| r_istoren_3 (pc := 1) dX2_nextDoor_1 rfl <| ?_
  obtain ⟨x, x1, x2⟩ := hx
  exact lp_nd c37 c38 c39 c13 rl hc hf hL hz hF hd hlt 6 0 (by omega) (by omega) ⟨x, by omega, by omega, x2⟩ hQ
theorem pth_len {lg : Int → Int → Int} {c F : Int → Int} {t : Int} : ∀ (q : Nat) (d : Int), 1 ≤ (pth lg c F t q d).length ∧ (pth lg c F t q d).length ≤ q + 1 := by
  intro q
  induction q with
  | zero => intro d; simp [pth]
  | succ q ih =>
    intro d
    simp only [pth]
    split
    · simp
    · have := ih (nxD lg c F d)
      simp; omega
theorem lp_go {a0 : Int} (rl : REq lA bk 180 36) (hc : ag6 cs c) (hL : lgOk (lgB bk) c) (hz : ∀ a, dR a → lgB bk a a = 0) (ht : dR t) (hf : ag6 fr (rT (lgB bk) c t 5 (f0 t))) (ha0 : dR a0) :
    ∀ (q : Nat) (d k : Int) (A : List Int) (h : Hp) (pa : Int → Int) (st : Int), 1 ≤ k → k + q = 6 → (A.length : Int) + 1 = k → dR d → rT (lgB bk) c t 5 (f0 t) d < 1000000 → h 37 = some (o37 st) → h 38 = some (aA 6 cs) → h 39 = some (aA 6 fr) → h 40 = some (aA 6 pa) → h 13 = some (aA 36 lA) → arL pa 0 (A ++ [d]) → st = k →
    (∀ h' pa', h' 37 = some (o37 ((A ++ pth (lgB bk) c (rT (lgB bk) c t 5 (f0 t)) t q d).length : Nat)) → h' 40 = some (aA 6 pa') → arL pa' 0 (A ++ pth (lgB bk) c (rT (lgB bk) c t 5 (f0 t)) t q d) → Fr (fun q => q = 37 ∨ q = 40) h h' → Q (some (vI (rT (lgB bk) c t 5 (f0 t) a0))) n h') → At G mX2_go 34 [vR 37, vR 13, vI a0, vI t, vI k] [] (0, 0, n) h Q := by
  have hJ := rT_J (t := t) hL 5 (f0 t) f0_J
  have hfa := hf a0 ha0
  intro q
  induction q with
  | zero =>
    intro d k A h pa st hk hq hA hd hlt c37 c38 c39 c40 c13 hpa hst hQ
    refine r_iload (pc := 34) dX2_go_34 rfl <| r_bipush (pc := 36) dX2_go_36 (by decide) <| r_icmp_ge (pc := 38) 91 dX2_go_38 (by decide) (by omega) (by omega) (fun hc_38 => ?_) (fun hc_38 => ?_)
    · skip
      refine r_aload_n (pc := 91) dX2_go_91 rfl <| r_getf (pc := 92) dX2_go_92 fA_X2_15 c37 rfl <| r_iload_n (pc := 95) dX2_go_95 rfl <| r_iald (pc := 96) dX2_go_96 c39 (by omega) (by decide) <| r_iret (pc := 97) dX2_go_97 rfl ⟨Nat.le_of_ble_eq_true rfl, Nat.le_of_ble_eq_true rfl⟩ <| ?_
      refine qI hfa (hQ h pa ?_ c40 hpa Fr.rf)
      rw [c37]
      simp only [pth]
      rw [show (((A ++ [d]).length : Nat) : Int) = st by simp; omega]
    · skip
      exfalso; omega
  | succ q ih =>
    intro d k A h pa st hk hq hA hd hlt c37 c38 c39 c40 c13 hpa hst hQ
    have hpd : pa (k - 1) = d := by
      have := hpa A.length d (by simp)
      rw [← this]; congr 1; omega
    simp only [pth] at hQ
    by_cases hdt : d = t
    · rw [if_pos hdt] at hQ
      refine r_iload (pc := 34) dX2_go_34 rfl <| r_bipush (pc := 36) dX2_go_36 (by decide) <| r_icmp_ge (pc := 38) 91 dX2_go_38 (by decide) (by omega) (by omega) (fun hc_38 => ?_) (fun hc_38 => ?_)
      · skip
        exfalso; omega
      · skip
        refine r_aload_n (pc := 41) dX2_go_41 rfl <| r_getf (pc := 42) dX2_go_42 fA_X2_18 c37 rfl <| r_iload (pc := 45) dX2_go_45 rfl <| r_iconst (pc := 47) dX2_go_47 <| r_isub (pc := 48) dX2_go_48 <| r_iald (pc := 49) dX2_go_49 c40 (by omega) (by decide) <| r_iload_n (pc := 50) dX2_go_50 rfl <| r_icmp_eq (pc := 51) 91 dX2_go_51 (by decide) (by omega) (by omega) (fun hc_51 => ?_) (fun hc_51 => ?_)
        · skip
          refine r_aload_n (pc := 91) dX2_go_91 rfl <| r_getf (pc := 92) dX2_go_92 fA_X2_15 c37 rfl <| r_iload_n (pc := 95) dX2_go_95 rfl <| r_iald (pc := 96) dX2_go_96 c39 (by omega) (by decide) <| r_iret (pc := 97) dX2_go_97 rfl ⟨Nat.le_of_ble_eq_true rfl, Nat.le_of_ble_eq_true rfl⟩ <| ?_
          refine qI hfa (hQ h pa ?_ c40 hpa Fr.rf)
          rw [c37]
          rw [show (((A ++ [d]).length : Nat) : Int) = st by simp; omega]
        · skip
          exfalso; omega
    · rw [if_neg hdt] at hQ
      have hnx := nx_in hL ht hd hdt hlt
      have hne := nx_ex hL ht hd hdt hlt
      refine r_iload (pc := 34) dX2_go_34 rfl <| r_bipush (pc := 36) dX2_go_36 (by decide) <| r_icmp_ge (pc := 38) 91 dX2_go_38 (by decide) (by omega) (by omega) (fun hc_38 => ?_) (fun hc_38 => ?_)
      · skip
        exfalso; omega
      · skip
        refine r_aload_n (pc := 41) dX2_go_41 rfl <| r_getf (pc := 42) dX2_go_42 fA_X2_18 c37 rfl <| r_iload (pc := 45) dX2_go_45 rfl <| r_iconst (pc := 47) dX2_go_47 <| r_isub (pc := 48) dX2_go_48 <| r_iald (pc := 49) dX2_go_49 c40 (by omega) (by decide) <| r_iload_n (pc := 50) dX2_go_50 rfl <| r_icmp_eq (pc := 51) 91 dX2_go_51 (by decide) (by omega) (by omega) (fun hc_51 => ?_) (fun hc_51 => ?_)
        · skip
          exfalso; omega
        · skip
          refine r_aload_n (pc := 54) dX2_go_54 rfl <| r_getf (pc := 55) dX2_go_55 fA_X2_18 c37 rfl <| r_iload (pc := 58) dX2_go_58 rfl <| r_aload_n (pc := 60) dX2_go_60 rfl <| r_aload_n (pc := 61) dX2_go_61 rfl <| r_aload_n (pc := 62) dX2_go_62 rfl <| r_getf (pc := 63) dX2_go_63 fA_X2_18 c37 rfl <| r_iload (pc := 66) dX2_go_66 rfl <| r_iconst (pc := 68) dX2_go_68 <| r_isub (pc := 69) dX2_go_69 <| r_iald (pc := 70) dX2_go_70 c40 (by omega) (by decide) <| cVi [_, _] (pc := 71) dX2_go_71 k_X2_30 ⟨⟨Nat.le_of_ble_eq_true rfl, Nat.le_of_ble_eq_true rfl⟩, ⟨Nat.le_of_ble_eq_true rfl, Nat.le_of_ble_eq_true rfl⟩, Nat.le_of_ble_eq_true rfl⟩ ⟨rfl, rfl⟩ c37 ?_
          rw [hpd]
          refine sp_nextDoor c37 c38 c39 c13 rl hc hf hL hz hJ.1 hd hlt hne ?_
          refine ⟨_, rfl, ?_⟩
          refine r_iast (pc := 74) dX2_go_74 c40 (by omega) (by decide) (fun h_74 c40 hF_74 => ?_)
          replace c37 := hF_74.keep c37 (by omega)
          replace c39 := hF_74.keep c39 (by omega)
          refine r_aload_n (pc := 75) dX2_go_75 rfl <| r_dup (pc := 76) dX2_go_76 rfl <| r_getf (pc := 77) dX2_go_77 fA_X2_21 c37 rfl <| r_iconst (pc := 80) dX2_go_80 <| r_iadd (pc := 81) dX2_go_81 <| r_putf (pc := 82) dX2_go_82 fP_X2_21 rfl rfl c37 rfl (fun h_82 c37 hF_82 => ?_)
          simp only [List.set_cons_zero, List.set_cons_succ] at c37
          replace c39 := hF_82.keep c39 (by omega)
          replace c40 := hF_82.keep c40 (by omega)
          refine r_iinc_4 (pc := 85) dX2_go_85 rfl rfl <| r_goto (pc := 88) 34 dX2_go_88 (by decide) <| ?_
          have e1 : A ++ d :: pth (lgB bk) c (rT (lgB bk) c t 5 (f0 t)) t q (nxD (lgB bk) c (rT (lgB bk) c t 5 (f0 t)) d) = (A ++ [d]) ++ pth (lgB bk) c (rT (lgB bk) c t 5 (f0 t)) t q (nxD (lgB bk) c (rT (lgB bk) c t 5 (f0 t)) d) := by simp
          rw [e1] at hQ
          have hF : Fr (fun q => q = 37 ∨ q = 40) h h_82 := fun q hq => ((hF_82 q (by omega)).trans (hF_74 q (by omega)))
          have hl' : (A ++ [d]).length = A.length + 1 := by simp
          exact ih (nxD (lgB bk) c (rT (lgB bk) c t 5 (f0 t)) d) (k + 1) (A ++ [d]) h_82 _ (st + 1) (by omega) (by omega) (by rw [hl']; omega) hnx.1 hnx.2.1.2.2.2.1 c37 (hF.keep c38 (by omega)) c39 c40 (hF.keep c13 (by omega)) (hpa.snoc (by rw [hl']; omega)) (by omega) (fun h' pa' a1 a2 a3 a4 => hQ h' pa' a1 a2 a3 (fun j hj => (a4 j hj).trans (hF j hj)))
theorem isC.jr (hC : isC h n s) (kJ : xJ h') (hF : Fr (fun q => 37 ≤ q ∧ q ≤ 40) h h') : isC h' n s := by
  obtain ⟨x1, x2, x3, x4, x5, x6⟩ := isX_iff.mp hC.2.2.2.1
  exact hC.kx (isX_iff.mpr ⟨x1.fr (hF 30 (by omega)), x2.fr (fun q a b => hF q (by omega)), kJ, x4.fr (fun q a b => hF q (by omega)), x5.fr (hF 44 (by omega)), x6.fr (fun q a b => hF q (by omega))⟩) (hF.wk (fun q => by omega))
theorem sp_go {a0 : Int} {pa : Int → Int} (hFd : F = rT (lgB bk) c t 5 (f0 t)) (rl : REq lA bk 180 36) (hc : ag6 cs c) (hL : lgOk (lgB bk) c) (hz : ∀ a, dR a → lgB bk a a = 0) (ht : dR t) (ha0 : dR a0) (c37 : h 37 = some (o37 st)) (c38 : h 38 = some (aA 6 cs)) (c39 : h 39 = some (aA 6 fr)) (c40 : h 40 = some (aA 6 pa)) (c13 : h 13 = some (aA 36 lA))
    (h0 : 1000000 ≤ F a0 → ∀ h' fr', h' 37 = some (o37 st) → h' 39 = some (aA 6 fr') → h' 40 = some (aA 6 pa) → Fr (fun q => 37 ≤ q ∧ q ≤ 40 ∧ q ≠ 38) h h' → Q (some (vI (-1))) n h')
    (h1 : F a0 < 1000000 → ∀ h' fr' pa', h' 37 = some (o37 ((pth (lgB bk) c (F) t 5 a0).length : Nat)) → h' 39 = some (aA 6 fr') → h' 40 = some (aA 6 pa') → arL pa' 0 (pth (lgB bk) c (F) t 5 a0) → Fr (fun q => 37 ≤ q ∧ q ≤ 40 ∧ q ≠ 38) h h' → Q (some (vI (F a0))) n h') : Cl G mX2_go [vR 37, vR 13, vI a0, vI t] n h Q := by
  subst hFd
  have hJ := rT_J (t := t) hL 5 (f0 t) f0_J
  have hJa := hJ.1 a0 ha0
  refine cl_of (by decide) (Nat.le_of_ble_eq_true rfl) rfl ?_
  refine r_aload_n (pc := 0) dX2_go_0 rfl <| r_aload_n (pc := 1) dX2_go_1 rfl <| r_iload_n (pc := 2) dX2_go_2 rfl <| cVv [_, _] (pc := 3) dX2_go_3 k_X2_25 ⟨⟨Nat.le_of_ble_eq_true rfl, Nat.le_of_ble_eq_true rfl⟩, ⟨Nat.le_of_ble_eq_true rfl, Nat.le_of_ble_eq_true rfl⟩, Nat.le_of_ble_eq_true rfl⟩ ⟨rfl, rfl⟩ c37 ?_
  refine sp_measure hc hL hz rl ht c37 c38 c39 c13 (fun h2 fr2 k39 kf hF2 => ?_)
  have hfa := kf a0 ha0
  refine ⟨rfl, ?_⟩
  replace c37 := hF2.keep c37 (by omega)
  replace c40 := hF2.keep c40 (by omega)
  refine r_aload_n (pc := 6) dX2_go_6 rfl <| r_getf (pc := 7) dX2_go_7 fA_X2_15 c37 rfl <| r_iload_n (pc := 10) dX2_go_10 rfl <| r_iald (pc := 11) dX2_go_11 k39 (by omega) (by decide) <| r_ldc (pc := 12) dX2_go_12 cT_X2_29 <| r_icmp_lt (pc := 14) 19 dX2_go_14 (by decide) (by omega) (by omega) (fun hc_14 => ?_) (fun hc_14 => ?_)
  · skip
    refine r_aload_n (pc := 19) dX2_go_19 rfl <| r_getf (pc := 20) dX2_go_20 fA_X2_18 c37 rfl <| r_iconst (pc := 23) dX2_go_23 <| r_iload_n (pc := 24) dX2_go_24 rfl <| r_iast (pc := 25) dX2_go_25 c40 (by omega) (by decide) (fun h_25 c40 hF_25 => ?_)
    replace c37 := hF_25.keep c37 (by omega)
    replace k39 := hF_25.keep k39 (by omega)
    refine r_aload_n (pc := 26) dX2_go_26 rfl <| r_iconst (pc := 27) dX2_go_27 <| r_putf (pc := 28) dX2_go_28 fP_X2_21 rfl rfl c37 rfl (fun h_28 c37 hF_28 => ?_)
    simp only [List.set_cons_zero, List.set_cons_succ] at c37
    replace c40 := hF_28.keep c40 (by omega)
    replace k39 := hF_28.keep k39 (by omega)
    refine r_iconst (pc := 31) dX2_go_31 <| r_istore_4 (pc := 32) dX2_go_32 rfl <| ?_
    have hF : Fr (fun q => 37 ≤ q ∧ q ≤ 40 ∧ q ≠ 38) h h_28 := fun q hq => ((hF_28 q (by omega)).trans ((hF_25 q (by omega)).trans (hF2 q (by omega))))
    refine lp_go rl hc hL hz ht kf ha0 5 a0 1 [] h_28 _ 1 (by omega) (by omega) (by simp) ha0 (by omega) c37 (hF.keep c38 (by omega)) k39 c40 (hF.keep c13 (by omega)) ?_ rfl (fun h' pa' a1 a2 a3 a4 => ?_)
    · intro i v hv
      match i, hv with
      | 0, hv =>
        simp at hv
        rw [← hv]
        exact iu_s _ _ _
      | i + 1, hv => simp at hv
    · rw [List.nil_append] at a1 a3
      exact h1 (by omega) h' fr2 pa' a1 (a4.keep k39 (by omega)) a2 a3 (fun q hq => ((a4 q (by omega)).trans (hF q (by omega))))
  · skip
    refine r_iconst (pc := 17) dX2_go_17 <| r_iret (pc := 18) dX2_go_18 rfl ⟨Nat.le_of_ble_eq_true rfl, Nat.le_of_ble_eq_true rfl⟩ <| ?_
    exact h0 (by omega) h2 fr2 c37 k39 c40 (hF2.wk (fun q => by omega))
theorem cs_toll {d p : Int} (hC : isC h n s) (hI : Inv s.bk) (hok : okB s.bk) (hd : dR d) (hp : 0 ≤ p ∧ p < s.bk 0) (hQ : ∀ h', isC h' n s → Fr (fun q => q = 30) h h' → Q (some (vI (csB s.bk p d))) n h') : Cl G mX8_tollAt [vR 0, vI d, vI p] n h Q := by
  obtain ⟨kd, ag, ld, rk, ow, la, tx, qu, wa, lg, ev, c0, c1, c2, c3, c4, c5, c6, c7, c8, c9, c10, c11, c12, c13, c14, ⟨-, -, -, -, dw, -⟩, -, -, -, -, rw_, -⟩ := hC.opn
  obtain ⟨ga, gb, gc, c30⟩ := id (isX_iff.mp hC.2.2.2.1).1
  have i0 := hI.1.1
  have ew := rw_ d hd.1 hd.2
  have hw := hI.2.2.2.2.2.2.2.1 d hd.1 hd.2
  have hr := TB_r s.bk (s.bk (172 + d)) p
  unfold csB costF at hQ
  refine cl_of (by decide) (Nat.le_of_ble_eq_true rfl) rfl ?_
  refine r_aload_n (pc := 0) dX8_tollAt_0 rfl <| r_getf (pc := 1) dX8_tollAt_1 fA_X8_12 c0 rfl <| r_getf (pc := 4) dX8_tollAt_4 fA_X8_210 c1 rfl <| r_iload_n (pc := 7) dX8_tollAt_7 rfl <| r_iald (pc := 8) dX8_tollAt_8 c12 (by omega) (by decide) <| ?_
  rw [ew]
  refine r_istoren_3 (pc := 9) dX8_tollAt_9 rfl <| r_iload_n (pc := 10) dX8_tollAt_10 rfl <| r_iconst (pc := 11) dX8_tollAt_11 <| r_icmp_eq (pc := 12) 20 dX8_tollAt_12 (by decide) (by omega) (by omega) (fun hc_12 => ?_) (fun hc_12 => ?_)
  · skip
    refine r_iconst (pc := 20) dX8_tollAt_20 <| r_iret (pc := 21) dX8_tollAt_21 rfl ⟨Nat.le_of_ble_eq_true rfl, Nat.le_of_ble_eq_true rfl⟩ <| ?_
    rw [if_pos (by omega)] at hQ; exact hQ h hC Fr.rf
  · skip
    refine r_iload_n (pc := 15) dX8_tollAt_15 rfl <| r_iload_n (pc := 16) dX8_tollAt_16 rfl <| r_icmp_ne (pc := 17) 22 dX8_tollAt_17 (by decide) (by omega) (by omega) (fun hc_17 => ?_) (fun hc_17 => ?_)
    · skip
      refine r_aload_n (pc := 22) dX8_tollAt_22 rfl <| r_getf (pc := 23) dX8_tollAt_23 fA_X8_33 c0 rfl <| r_aload_n (pc := 26) dX8_tollAt_26 rfl <| r_getf (pc := 27) dX8_tollAt_27 fA_X8_23 c0 rfl <| r_aload_n (pc := 30) dX8_tollAt_30 rfl <| r_getf (pc := 31) dX8_tollAt_31 fA_X8_12 c0 rfl <| r_getf (pc := 34) dX8_tollAt_34 fA_X8_86 c1 rfl <| r_aload_n (pc := 37) dX8_tollAt_37 rfl <| r_getf (pc := 38) dX8_tollAt_38 fA_X8_12 c0 rfl <| r_getf (pc := 41) dX8_tollAt_41 fA_X8_120 c1 rfl <| r_iload_n (pc := 44) dX8_tollAt_44 rfl <| r_iload_n (pc := 45) dX8_tollAt_45 rfl <| cVv [_, _, _, _, _] (pc := 46) dX8_tollAt_46 k_X8_163 ⟨⟨Nat.le_of_ble_eq_true rfl, Nat.le_of_ble_eq_true rfl⟩, ⟨Nat.le_of_ble_eq_true rfl, Nat.le_of_ble_eq_true rfl⟩, Nat.le_of_ble_eq_true rfl⟩ ⟨rfl, rfl⟩ c30 ?_
      have hb3 := TB_3 hI (x := s.bk (172 + d)) (y := p) (by omega) (by omega) (by omega)
      refine cs_hold hC hI hok (by omega) (by omega) (by omega) (fun h1 k1 k30 hF1 => ?_)
      rw [if_neg (by omega)] at hQ
      refine ⟨rfl, ?_⟩
      replace c0 := hF1.keep c0 (by omega)
      clear c30
      have c30 := k30
      refine r_aload_n (pc := 49) dX8_tollAt_49 rfl <| r_getf (pc := 50) dX8_tollAt_50 fA_X8_33 c0 rfl <| r_getf (pc := 53) dX8_tollAt_53 fA_X8_167 c30 rfl <| r_iconst (pc := 56) dX8_tollAt_56 <| r_icmp_ne (pc := 57) 62 dX8_tollAt_57 (by decide) (by omega) (by omega) (fun hc_57 => ?_) (fun hc_57 => ?_)
      · skip
        refine r_aload_n (pc := 62) dX8_tollAt_62 rfl <| r_getf (pc := 63) dX8_tollAt_63 fA_X8_33 c0 rfl <| r_getf (pc := 66) dX8_tollAt_66 fA_X8_167 c30 rfl <| r_iload_n (pc := 69) dX8_tollAt_69 rfl <| r_icmp_ne (pc := 70) 85 dX8_tollAt_70 (by decide) (by omega) (by omega) (fun hc_70 => ?_) (fun hc_70 => ?_)
        · skip
          refine r_aload_n (pc := 85) dX8_tollAt_85 rfl <| r_getf (pc := 86) dX8_tollAt_86 fA_X8_33 c0 rfl <| r_getf (pc := 89) dX8_tollAt_89 fA_X8_170 c30 rfl <| r_iret (pc := 92) dX8_tollAt_92 rfl ⟨Nat.le_of_ble_eq_true rfl, Nat.le_of_ble_eq_true rfl⟩ <| ?_
          rw [if_neg (by omega)] at hQ
          refine qI ?_ (hQ h1 k1 hF1)
          first
            | rw [if_pos (by omega)]
            | (rw [if_neg (by omega)]; omega)
        · skip
          refine r_aload_n (pc := 73) dX8_tollAt_73 rfl <| r_getf (pc := 74) dX8_tollAt_74 fA_X8_33 c0 rfl <| r_getf (pc := 77) dX8_tollAt_77 fA_X8_170 c30 rfl <| r_iconst (pc := 80) dX8_tollAt_80 <| r_iadd (pc := 81) dX8_tollAt_81 <| r_goto (pc := 82) 92 dX8_tollAt_82 (by decide) <| r_iret (pc := 92) dX8_tollAt_92 rfl ⟨Nat.le_of_ble_eq_true rfl, Nat.le_of_ble_eq_true rfl⟩ <| ?_
          rw [if_neg (by omega)] at hQ
          refine qI ?_ (hQ h1 k1 hF1)
          first
            | rw [if_pos (by omega)]
            | (rw [if_neg (by omega)]; omega)
      · skip
        refine r_iconst (pc := 60) dX8_tollAt_60 <| r_iret (pc := 61) dX8_tollAt_61 rfl ⟨Nat.le_of_ble_eq_true rfl, Nat.le_of_ble_eq_true rfl⟩ <| ?_
        rw [if_pos (by omega)] at hQ; exact hQ h1 k1 hF1
    · skip
      refine r_iconst (pc := 20) dX8_tollAt_20 <| r_iret (pc := 21) dX8_tollAt_21 rfl ⟨Nat.le_of_ble_eq_true rfl, Nat.le_of_ble_eq_true rfl⟩ <| ?_
      rw [if_pos (by omega)] at hQ; exact hQ h hC Fr.rf
theorem lp_cw1 {p a0 i : Int} (hI : Inv s.bk) (hok : okB s.bk) (hp : 0 ≤ p ∧ p < s.bk 0) : ∀ (q : Nat) (d : Int) (h : Hp) (cs : Int → Int), 0 ≤ d → d + q = 6 → isC h n s → h 38 = some (aA 6 cs) → (∀ j, 0 ≤ j → j < d → cs j = csB s.bk p j) →
    (∀ h' cs' d', isC h' n s → h' 38 = some (aA 6 cs') → ag6 cs' (csB s.bk p) → Fr (fun q => q = 30 ∨ q = 38) h h' → At G mX8_way 88 [vR 0, vI p, vI a0, vI t, vI i, vI d'] [] (0, 0, n) h' Q) → At G mX8_way 58 [vR 0, vI p, vI a0, vI t, vI i, vI d] [] (0, 0, n) h Q := by
  intro q
  induction q with
  | zero =>
    intro d h cs hd hq hC c38 hj hQ
    refine r_iload (pc := 58) dX8_way_58 rfl <| r_bipush (pc := 60) dX8_way_60 (by decide) <| r_icmp_ge (pc := 62) 88 dX8_way_62 (by decide) (by omega) (by omega) (fun hc_62 => ?_) (fun hc_62 => ?_)
    · skip
      exact hQ h cs d hC c38 (fun x hx => hj x hx.1 (by omega)) Fr.rf
    · skip
      exfalso; omega
  | succ q ih =>
    intro d h cs hd hq hC c38 hj hQ
    have c0 := hC.1
    obtain ⟨-, -, ⟨st, f1, f2, f3, c37, -⟩, -⟩ := isX_iff.mp hC.2.2.2.1
    refine r_iload (pc := 58) dX8_way_58 rfl <| r_bipush (pc := 60) dX8_way_60 (by decide) <| r_icmp_ge (pc := 62) 88 dX8_way_62 (by decide) (by omega) (by omega) (fun hc_62 => ?_) (fun hc_62 => ?_)
    · skip
      exfalso; omega
    · skip
      refine r_aload_n (pc := 65) dX8_way_65 rfl <| r_getf (pc := 66) dX8_way_66 fA_X8_47 c0 rfl <| r_getf (pc := 69) dX8_way_69 fA_X8_216 c37 rfl <| r_iload (pc := 72) dX8_way_72 rfl <| r_aload_n (pc := 74) dX8_way_74 rfl <| r_iload (pc := 75) dX8_way_75 rfl <| r_iload_n (pc := 77) dX8_way_77 rfl <| cVi [_, _] (pc := 78) dX8_way_78 k_X8_219 ⟨⟨Nat.le_of_ble_eq_true rfl, Nat.le_of_ble_eq_true rfl⟩, ⟨Nat.le_of_ble_eq_true rfl, Nat.le_of_ble_eq_true rfl⟩, Nat.le_of_ble_eq_true rfl⟩ ⟨rfl, rfl⟩ c0 ?_
      refine cs_toll hC hI hok (by omega) hp (fun h1 k1 hF1 => ?_)
      refine ⟨_, rfl, ?_⟩
      replace c38 := hF1.keep c38 (by omega)
      replace c0 := hF1.keep c0 (by omega)
      replace c37 := hF1.keep c37 (by omega)
      refine r_iast (pc := 81) dX8_way_81 c38 (by omega) (by decide) (fun h_81 c38 hF_81 => ?_)
      replace c0 := hF_81.keep c0 (by omega)
      replace c37 := hF_81.keep c37 (by omega)
      refine r_iinc_5 (pc := 82) dX8_way_82 rfl rfl <| r_goto (pc := 85) 58 dX8_way_85 (by decide) <| ?_
      obtain ⟨-, -, ⟨st', g1, g2, g3, y0, y1, y2, y3⟩, -⟩ := isX_iff.mp k1.2.2.2.1
      have k2 := k1.jr ⟨st', _, g2, g3, hF_81.keep y0 (by omega), c38, hF_81.keep y2 (by omega), hF_81.keep y3 (by omega)⟩ (hF_81.wk (fun q => by omega))
      refine ih (d + 1) h_81 _ (by omega) (by omega) k2 c38 (fun j j0 j1 => ?_) (fun h' cs' d' a1 a2 a3 a4 => hQ h' cs' d' a1 a2 a3 (fun q hq => ((a4 q (by omega)).trans ((hF_81 q (by omega)).trans (hF1 q (by omega))))))
      by_cases ej : j = d
      · rw [ej, iu_s]
      · rw [iu_n ej]; exact hj j j0 (by omega)
theorem cs_way {p a t i : Int} (hC : isC h n s) (hI : Inv s.bk) (hp : inI p) (ha : inI a) (ht : inI t) (hi : inI i) (hQ : ∀ h', isC h' n (fWay s p a t i).2 → Fr CR h h' → Q (some (vI (fWay s p a t i).1)) n h') : Cl G mX8_way [vR 0, vI p, vI a, vI t, vI i] n h Q := by
  obtain ⟨kd, ag, ld, rk, ow, la, tx, qu, wa, lg, ev, c0, c1, c2, c3, c4, c5, c6, c7, c8, c9, c10, c11, c12, c13, c14, -, -, -, -, -, -, rl, -⟩ := hC.opn
  have i0 := hI.1.1
  unfold fWay at hQ
  refine cl_of (by decide) (Nat.le_of_ble_eq_true rfl) rfl ?_
  refine r_aload_n (pc := 0) dX8_way_0 rfl <| r_getf (pc := 1) dX8_way_1 fA_X8_12 c0 rfl <| r_getf (pc := 4) dX8_way_4 fA_X8_86 c1 rfl <| r_iload_n (pc := 7) dX8_way_7 rfl <| cVi [_] (pc := 8) dX8_way_8 k_X8_103 ⟨⟨Nat.le_of_ble_eq_true rfl, Nat.le_of_ble_eq_true rfl⟩, ⟨Nat.le_of_ble_eq_true rfl, Nat.le_of_ble_eq_true rfl⟩, Nat.le_of_ble_eq_true rfl⟩ ⟨rfl, rfl⟩ c2 ?_
  refine sp_has c2 (by omega) hp (fun q1 => ?_) (fun q1 => ?_)
  · skip
    refine ⟨_, rfl, ?_⟩
    refine r_if_eq (pc := 11) 34 dX8_way_11 (by decide) (by decide) (fun q => absurd q (by decide)) (fun _ => ?_)
    refine r_iload_n (pc := 14) dX8_way_14 rfl <| cSi [_] (pc := 15) dX8_way_15 k_X8_207 ⟨⟨Nat.le_of_ble_eq_true rfl, Nat.le_of_ble_eq_true rfl⟩, ⟨Nat.le_of_ble_eq_true rfl, Nat.le_of_ble_eq_true rfl⟩, Nat.le_of_ble_eq_true rfl⟩ ⟨rfl, rfl⟩ ?_
    refine sp_isDoor ha (fun q2 => ?_) (fun q2 => ?_)
    · skip
      refine ⟨_, rfl, ?_⟩
      refine r_if_eq (pc := 18) 34 dX8_way_18 (by decide) (by decide) (fun q => absurd q (by decide)) (fun _ => ?_)
      refine r_iload_n (pc := 21) dX8_way_21 rfl <| cSi [_] (pc := 22) dX8_way_22 k_X8_207 ⟨⟨Nat.le_of_ble_eq_true rfl, Nat.le_of_ble_eq_true rfl⟩, ⟨Nat.le_of_ble_eq_true rfl, Nat.le_of_ble_eq_true rfl⟩, Nat.le_of_ble_eq_true rfl⟩ ⟨rfl, rfl⟩ ?_
      refine sp_isDoor ht (fun q4 => ?_) (fun q4 => ?_)
      · skip
        refine ⟨_, rfl, ?_⟩
        refine r_if_eq (pc := 25) 34 dX8_way_25 (by decide) (by decide) (fun q => absurd q (by decide)) (fun _ => ?_)
        refine r_iload (pc := 28) dX8_way_28 rfl <| r_iconst (pc := 30) dX8_way_30 <| r_icmp_ge (pc := 31) 41 dX8_way_31 (by decide) (by omega) (by omega) (fun hc_31 => ?_) (fun hc_31 => ?_)
        · skip
          refine r_aload_n (pc := 41) dX8_way_41 rfl <| cVi [] (pc := 42) dX8_way_42 k_X8_143 ⟨⟨Nat.le_of_ble_eq_true rfl, Nat.le_of_ble_eq_true rfl⟩, ⟨Nat.le_of_ble_eq_true rfl, Nat.le_of_ble_eq_true rfl⟩, Nat.le_of_ble_eq_true rfl⟩ ⟨rfl, rfl⟩ c0 ?_
          refine cs_faulty hC hI (fun q3 => ?_) (fun q3 => ?_)
          · skip
            refine ⟨_, rfl, ?_⟩
            refine r_if_eq (pc := 45) 55 dX8_way_45 (by decide) (by decide) (fun q => absurd q (by decide)) (fun _ => ?_)
            refine r_aload_n (pc := 48) dX8_way_48 rfl <| r_bipush (pc := 49) dX8_way_49 (by decide) <| cVi [_] (pc := 51) dX8_way_51 k_X8_147 ⟨⟨Nat.le_of_ble_eq_true rfl, Nat.le_of_ble_eq_true rfl⟩, ⟨Nat.le_of_ble_eq_true rfl, Nat.le_of_ble_eq_true rfl⟩, Nat.le_of_ble_eq_true rfl⟩ ⟨rfl, rfl⟩ c0 ?_
            refine cs_no hC (fun h1 g1 g2 => ?_)
            refine ⟨_, rfl, ?_⟩
            refine r_iret (pc := 54) dX8_way_54 rfl ⟨Nat.le_of_ble_eq_true rfl, Nat.le_of_ble_eq_true rfl⟩ <| ?_
            rw [if_neg (by omega), if_pos q3] at hQ; exact hQ _ g1 g2
          · skip
            refine ⟨_, rfl, ?_⟩
            refine r_if_eq (pc := 45) 55 dX8_way_45 (by decide) (by decide) (fun _ => ?_) (fun q => absurd q (by decide))
            refine r_iconst (pc := 55) dX8_way_55 <| r_istore_5 (pc := 56) dX8_way_56 rfl <| ?_
            rw [if_neg (by omega), if_neg (fun q => q q3)] at hQ
            have htR : dR t := by omega
            have haR : dR a := by omega
            have hL := lgOk_B (p := p) hI
            have hz : ∀ a, dR a → lgB s.bk a a = 0 := fun a ha => (hI.2.2.2.2.2.2.2.2.1 a a ha.1 ha.2 ha.1 ha.2).2.2 rfl
            have hJ : wJ (lgB s.bk) (csB s.bk p) t (fwB s.bk p t) := rT_J (t := t) hL 5 (f0 t) f0_J
            have hJa := hJ.1 a haR
            obtain ⟨-, -, ⟨st0, f1, f2, f3, y0, y1, y2, y3⟩, -⟩ := isX_iff.mp hC.2.2.2.1
            refine lp_cw1 hI q3 (by omega) 6 0 h f1 (by omega) (by omega) hC y1 (fun j j0 j1 => by omega) (fun h1 cs1 d' a1 a2 a3 a4 => ?_)
            replace c0 := a4.keep c0 (by omega)
            replace c1 := a4.keep c1 (by omega)
            replace c13 := a4.keep c13 (by omega)
            have c37 := a4.keep y0 (by omega)
            have c40 := a4.keep y3 (by omega)
            refine r_aload_n (pc := 88) dX8_way_88 rfl <| r_getf (pc := 89) dX8_way_89 fA_X8_47 c0 rfl <| r_aload_n (pc := 92) dX8_way_92 rfl <| r_getf (pc := 93) dX8_way_93 fA_X8_12 c0 rfl <| r_getf (pc := 96) dX8_way_96 fA_X8_213 c1 rfl <| r_iload_n (pc := 99) dX8_way_99 rfl <| r_iload_n (pc := 100) dX8_way_100 rfl <| cVi [_, _, _] (pc := 101) dX8_way_101 k_X8_222 ⟨⟨Nat.le_of_ble_eq_true rfl, Nat.le_of_ble_eq_true rfl⟩, ⟨Nat.le_of_ble_eq_true rfl, Nat.le_of_ble_eq_true rfl⟩, Nat.le_of_ble_eq_true rfl⟩ ⟨rfl, rfl⟩ c37 ?_
            refine sp_go (c := csB s.bk p) (F := fwB s.bk p t) rfl rl a3 hL hz htR haR c37 a2 (a4.keep y2 (by omega)) c40 c13 (fun hge h2 fr2 b1 b2 b3 hF2 => ?_) (fun hlt h2 fr2 pa2 b1 b2 b3 b4 hF2 => ?_)
            · skip
              refine ⟨_, rfl, ?_⟩
              replace c0 := hF2.keep c0 (by omega)
              clear c37 c40
              have c37 := b1
              have c40 := b3
              have hpl := @pth_len (lgB s.bk) (csB s.bk p) (fwB s.bk p t) t 5 a
              have hF : Fr CR h h2 := fun q hq => ((hF2 q (by omega)).trans (a4 q (by omega)))
              have k2 : isC h2 n s := a1.jr ⟨_, _, _, _, b1, hF2.keep a2 (by omega), b2, b3⟩ (hF2.wk (fun q => by omega))
              refine r_istore_5 (pc := 104) dX8_way_104 rfl <| r_iload (pc := 106) dX8_way_106 rfl <| r_iconst (pc := 108) dX8_way_108 <| r_icmp_eq (pc := 109) 118 dX8_way_109 (by decide) (by omega) (by omega) (fun hc_109 => ?_) (fun hc_109 => ?_)
              · skip
                refine r_iload (pc := 118) dX8_way_118 rfl <| r_iret (pc := 120) dX8_way_120 rfl ⟨Nat.le_of_ble_eq_true rfl, Nat.le_of_ble_eq_true rfl⟩ <| ?_
                first
                  | (rw [if_pos hge] at hQ; exact hQ _ k2 hF)
                  | (rw [if_neg (by omega), if_pos (by omega)] at hQ; exact hQ _ k2 hF)
                  | (exfalso; omega)
              · skip
                refine r_iload (pc := 112) dX8_way_112 rfl <| r_iconst (pc := 114) dX8_way_114 <| r_icmp_ne (pc := 115) 121 dX8_way_115 (by decide) (by omega) (by omega) (fun hc_115 => ?_) (fun hc_115 => ?_)
                · skip
                  refine r_iload (pc := 121) dX8_way_121 rfl <| r_aload_n (pc := 123) dX8_way_123 rfl <| r_getf (pc := 124) dX8_way_124 fA_X8_47 c0 rfl <| r_getf (pc := 127) dX8_way_127 fA_X8_225 c37 rfl <| r_icmp_ge (pc := 130) 146 dX8_way_130 (by decide) (by omega) (by omega) (fun hc_130 => ?_) (fun hc_130 => ?_)
                  · skip
                    refine r_bipush (pc := 146) dX8_way_146 (by decide) <| r_iret (pc := 148) dX8_way_148 rfl ⟨Nat.le_of_ble_eq_true rfl, Nat.le_of_ble_eq_true rfl⟩ <| ?_
                    first
                      | (exfalso; omega)
                      | (rw [if_neg (by omega), if_neg (by omega)] at hQ
                         refine qI ?_ (hQ _ k2 hF)
                         first
                           | (rw [List.getElem?_eq_none (by omega)]; rfl)
                           | (have hi2 : (pth (lgB s.bk) (csB s.bk p) (fwB s.bk p t) t 5 a)[i.toNat]? = some _ := List.getElem?_eq_getElem (by omega)
                              have := b4 i.toNat _ hi2
                              rw [hi2, ← this]
                              show pa2 i = pa2 (0 + (i.toNat : Int))
                              congr 1; omega))
                  · skip
                    refine r_aload_n (pc := 133) dX8_way_133 rfl <| r_getf (pc := 134) dX8_way_134 fA_X8_47 c0 rfl <| r_getf (pc := 137) dX8_way_137 fA_X8_228 c37 rfl <| r_iload (pc := 140) dX8_way_140 rfl <| r_iald (pc := 142) dX8_way_142 c40 (by omega) (by decide) <| r_goto (pc := 143) 148 dX8_way_143 (by decide) <| r_iret (pc := 148) dX8_way_148 rfl ⟨Nat.le_of_ble_eq_true rfl, Nat.le_of_ble_eq_true rfl⟩ <| ?_
                    first
                      | (exfalso; omega)
                      | (rw [if_neg (by omega), if_neg (by omega)] at hQ
                         refine qI ?_ (hQ _ k2 hF)
                         first
                           | (rw [List.getElem?_eq_none (by omega)]; rfl)
                           | (have hi2 : (pth (lgB s.bk) (csB s.bk p) (fwB s.bk p t) t 5 a)[i.toNat]? = some _ := List.getElem?_eq_getElem (by omega)
                              have := b4 i.toNat _ hi2
                              rw [hi2, ← this]
                              show pa2 i = pa2 (0 + (i.toNat : Int))
                              congr 1; omega))
                · skip
                  refine r_iload (pc := 118) dX8_way_118 rfl <| r_iret (pc := 120) dX8_way_120 rfl ⟨Nat.le_of_ble_eq_true rfl, Nat.le_of_ble_eq_true rfl⟩ <| ?_
                  first
                    | (rw [if_pos hge] at hQ; exact hQ _ k2 hF)
                    | (rw [if_neg (by omega), if_pos (by omega)] at hQ; exact hQ _ k2 hF)
                    | (exfalso; omega)
            · skip
              refine ⟨_, rfl, ?_⟩
              replace c0 := hF2.keep c0 (by omega)
              clear c37 c40
              have c37 := b1
              have c40 := b3
              have hpl := @pth_len (lgB s.bk) (csB s.bk p) (fwB s.bk p t) t 5 a
              have hF : Fr CR h h2 := fun q hq => ((hF2 q (by omega)).trans (a4 q (by omega)))
              have k2 : isC h2 n s := a1.jr ⟨_, _, _, _, b1, hF2.keep a2 (by omega), b2, b3⟩ (hF2.wk (fun q => by omega))
              refine r_istore_5 (pc := 104) dX8_way_104 rfl <| r_iload (pc := 106) dX8_way_106 rfl <| r_iconst (pc := 108) dX8_way_108 <| r_icmp_eq (pc := 109) 118 dX8_way_109 (by decide) (by omega) (by omega) (fun hc_109 => ?_) (fun hc_109 => ?_)
              · skip
                refine r_iload (pc := 118) dX8_way_118 rfl <| r_iret (pc := 120) dX8_way_120 rfl ⟨Nat.le_of_ble_eq_true rfl, Nat.le_of_ble_eq_true rfl⟩ <| ?_
                first
                  | (rw [if_pos hge] at hQ; exact hQ _ k2 hF)
                  | (rw [if_neg (by omega), if_pos (by omega)] at hQ; exact hQ _ k2 hF)
                  | (exfalso; omega)
              · skip
                refine r_iload (pc := 112) dX8_way_112 rfl <| r_iconst (pc := 114) dX8_way_114 <| r_icmp_ne (pc := 115) 121 dX8_way_115 (by decide) (by omega) (by omega) (fun hc_115 => ?_) (fun hc_115 => ?_)
                · skip
                  refine r_iload (pc := 121) dX8_way_121 rfl <| r_aload_n (pc := 123) dX8_way_123 rfl <| r_getf (pc := 124) dX8_way_124 fA_X8_47 c0 rfl <| r_getf (pc := 127) dX8_way_127 fA_X8_225 c37 rfl <| r_icmp_ge (pc := 130) 146 dX8_way_130 (by decide) (by omega) (by omega) (fun hc_130 => ?_) (fun hc_130 => ?_)
                  · skip
                    refine r_bipush (pc := 146) dX8_way_146 (by decide) <| r_iret (pc := 148) dX8_way_148 rfl ⟨Nat.le_of_ble_eq_true rfl, Nat.le_of_ble_eq_true rfl⟩ <| ?_
                    first
                      | (exfalso; omega)
                      | (rw [if_neg (by omega), if_neg (by omega)] at hQ
                         refine qI ?_ (hQ _ k2 hF)
                         first
                           | (rw [List.getElem?_eq_none (by omega)]; rfl)
                           | (have hi2 : (pth (lgB s.bk) (csB s.bk p) (fwB s.bk p t) t 5 a)[i.toNat]? = some _ := List.getElem?_eq_getElem (by omega)
                              have := b4 i.toNat _ hi2
                              rw [hi2, ← this]
                              show pa2 i = pa2 (0 + (i.toNat : Int))
                              congr 1; omega))
                  · skip
                    refine r_aload_n (pc := 133) dX8_way_133 rfl <| r_getf (pc := 134) dX8_way_134 fA_X8_47 c0 rfl <| r_getf (pc := 137) dX8_way_137 fA_X8_228 c37 rfl <| r_iload (pc := 140) dX8_way_140 rfl <| r_iald (pc := 142) dX8_way_142 c40 (by omega) (by decide) <| r_goto (pc := 143) 148 dX8_way_143 (by decide) <| r_iret (pc := 148) dX8_way_148 rfl ⟨Nat.le_of_ble_eq_true rfl, Nat.le_of_ble_eq_true rfl⟩ <| ?_
                    first
                      | (exfalso; omega)
                      | (rw [if_neg (by omega), if_neg (by omega)] at hQ
                         refine qI ?_ (hQ _ k2 hF)
                         first
                           | (rw [List.getElem?_eq_none (by omega)]; rfl)
                           | (have hi2 : (pth (lgB s.bk) (csB s.bk p) (fwB s.bk p t) t 5 a)[i.toNat]? = some _ := List.getElem?_eq_getElem (by omega)
                              have := b4 i.toNat _ hi2
                              rw [hi2, ← this]
                              show pa2 i = pa2 (0 + (i.toNat : Int))
                              congr 1; omega))
                · skip
                  refine r_iload (pc := 118) dX8_way_118 rfl <| r_iret (pc := 120) dX8_way_120 rfl ⟨Nat.le_of_ble_eq_true rfl, Nat.le_of_ble_eq_true rfl⟩ <| ?_
                  first
                    | (rw [if_pos hge] at hQ; exact hQ _ k2 hF)
                    | (rw [if_neg (by omega), if_pos (by omega)] at hQ; exact hQ _ k2 hF)
                    | (exfalso; omega)
        · skip
          refine r_aload_n (pc := 34) dX8_way_34 rfl <| r_bipush (pc := 35) dX8_way_35 (by decide) <| cVi [_] (pc := 37) dX8_way_37 k_X8_82 ⟨⟨Nat.le_of_ble_eq_true rfl, Nat.le_of_ble_eq_true rfl⟩, ⟨Nat.le_of_ble_eq_true rfl, Nat.le_of_ble_eq_true rfl⟩, Nat.le_of_ble_eq_true rfl⟩ ⟨rfl, rfl⟩ c0 ?_
          refine cs_bad hC (fun h1 g1 g2 => ?_)
          refine ⟨_, rfl, ?_⟩
          refine r_iret (pc := 40) dX8_way_40 rfl ⟨Nat.le_of_ble_eq_true rfl, Nat.le_of_ble_eq_true rfl⟩ <| ?_
          rw [if_pos (by omega)] at hQ; exact hQ _ g1 g2
      · skip
        refine ⟨_, rfl, ?_⟩
        refine r_if_eq (pc := 25) 34 dX8_way_25 (by decide) (by decide) (fun _ => ?_) (fun q => absurd q (by decide))
        refine r_aload_n (pc := 34) dX8_way_34 rfl <| r_bipush (pc := 35) dX8_way_35 (by decide) <| cVi [_] (pc := 37) dX8_way_37 k_X8_82 ⟨⟨Nat.le_of_ble_eq_true rfl, Nat.le_of_ble_eq_true rfl⟩, ⟨Nat.le_of_ble_eq_true rfl, Nat.le_of_ble_eq_true rfl⟩, Nat.le_of_ble_eq_true rfl⟩ ⟨rfl, rfl⟩ c0 ?_
        refine cs_bad hC (fun h1 g1 g2 => ?_)
        refine ⟨_, rfl, ?_⟩
        refine r_iret (pc := 40) dX8_way_40 rfl ⟨Nat.le_of_ble_eq_true rfl, Nat.le_of_ble_eq_true rfl⟩ <| ?_
        rw [if_pos (by omega)] at hQ; exact hQ _ g1 g2
    · skip
      refine ⟨_, rfl, ?_⟩
      refine r_if_eq (pc := 18) 34 dX8_way_18 (by decide) (by decide) (fun _ => ?_) (fun q => absurd q (by decide))
      refine r_aload_n (pc := 34) dX8_way_34 rfl <| r_bipush (pc := 35) dX8_way_35 (by decide) <| cVi [_] (pc := 37) dX8_way_37 k_X8_82 ⟨⟨Nat.le_of_ble_eq_true rfl, Nat.le_of_ble_eq_true rfl⟩, ⟨Nat.le_of_ble_eq_true rfl, Nat.le_of_ble_eq_true rfl⟩, Nat.le_of_ble_eq_true rfl⟩ ⟨rfl, rfl⟩ c0 ?_
      refine cs_bad hC (fun h1 g1 g2 => ?_)
      refine ⟨_, rfl, ?_⟩
      refine r_iret (pc := 40) dX8_way_40 rfl ⟨Nat.le_of_ble_eq_true rfl, Nat.le_of_ble_eq_true rfl⟩ <| ?_
      rw [if_pos (by omega)] at hQ; exact hQ _ g1 g2
  · skip
    refine ⟨_, rfl, ?_⟩
    refine r_if_eq (pc := 11) 34 dX8_way_11 (by decide) (by decide) (fun _ => ?_) (fun q => absurd q (by decide))
    refine r_aload_n (pc := 34) dX8_way_34 rfl <| r_bipush (pc := 35) dX8_way_35 (by decide) <| cVi [_] (pc := 37) dX8_way_37 k_X8_82 ⟨⟨Nat.le_of_ble_eq_true rfl, Nat.le_of_ble_eq_true rfl⟩, ⟨Nat.le_of_ble_eq_true rfl, Nat.le_of_ble_eq_true rfl⟩, Nat.le_of_ble_eq_true rfl⟩ ⟨rfl, rfl⟩ c0 ?_
    refine cs_bad hC (fun h1 g1 g2 => ?_)
    refine ⟨_, rfl, ?_⟩
    refine r_iret (pc := 40) dX8_way_40 rfl ⟨Nat.le_of_ble_eq_true rfl, Nat.le_of_ble_eq_true rfl⟩ <| ?_
    rw [if_pos (by omega)] at hQ; exact hQ _ g1 g2
end CWy


