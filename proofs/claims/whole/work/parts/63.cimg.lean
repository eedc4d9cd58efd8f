/-! ===== the class: image, from ===== -/
theorem r_Nastoren_2 {G : GT} {y : MT} {pc : Nat} {L st : List AV} {a : AL} {h : Hp} {Q : PT} {b0 b1 b2 : AV} (hd : decode y.cd pc = .ok (.astore_n 2, 1)) (hj : isJ b1 = false) (k : At G y (pc + 1) (b0 :: b1 :: vN :: L) st a h Q) : At G y pc (b0 :: b1 :: b2 :: L) (vN :: st) a h Q := by
  intro p e R s m args below meth c H locs LS F w1 w2 w3
  refine lv_astore_nN F.1 F.2.1 hd rfl w3.1 (by have := w3.2; simp at this; omega) rfl (fun LS' h' => ?_)
  exact k p e R s m args below meth c H locs LS' F w1 w2 (lvc.st1 (pre := [b0, b1]) (post := L) w3 rfl (fun w hw => by have e : some b1 = some w := hw; cases e; exact hj) h')
section CIm
variable {G : GT} {n : Nat} {h h' : Hp} {Q : PT} {s : SS}
theorem isW.cg {w : Nat} {b b' : Int → Int} (hW : isW h w b) (e : ∀ j, 0 ≤ j → j < 480 → b' j = b j) : isW h w b' := by
  obtain ⟨u0, u1, u2, u3, u4, u5, u6, u7⟩ := isW_iff.mp hW
  refine isW_iff.mpr ⟨?_, u1.fr (fun _ _ _ => rfl) (fun j a => e j (by omega) (by omega)), u2.fr (fun _ _ _ => rfl) (fun j a b => e j (by omega) (by omega)), u3.fr rfl (fun j a b => e j (by omega) (by omega)), u4.fr rfl (fun j a b => e j (by omega) (by omega)), u5.fr rfl (fun j a b => e j (by omega) (by omega)), u6.fr rfl (fun j a b => e j (by omega) (by omega)), u7.fr rfl (fun j a b => e j (by omega) (by omega))⟩
  rw [oW_eq (e 1 (by omega) (by omega)) (e 2 (by omega) (by omega)) (e 3 (by omega) (by omega))]
  exact u0
theorem cI2.get {g : Int → Option Nat} {o0 o1 : Option (Int → Int)} {i : Int} (k : cI2 h g n o0 o1) (hi : i = 0 ∨ i = 1) : (g i = none ∧ (if i = 0 then o0 else o1) = none ∧ (n = 58 ∨ n = 72)) ∨ ∃ w b, g i = some w ∧ (if i = 0 then o0 else o1) = some b ∧ (w = 58 ∨ w = 72) ∧ w + 14 ≤ n ∧ isW h w b ∧ Inv b := by
  rcases k with ⟨k1, k2, k3, k4, k5⟩ | ⟨b, k1, k2, k3, k4, k5, k6, k7⟩ | ⟨b, k1, k2, k3, k4, k5, k6, k7⟩ | ⟨b0, b1, w0, w1, k1, k2, k3, k4, k5, k6, k7, k8, k9, k10⟩
  · left
    rcases hi with rfl | rfl
    · exact ⟨k3, by rw [if_pos rfl]; exact k1, Or.inl k5⟩
    · exact ⟨k4, (if_neg (by decide)).trans k2, Or.inl k5⟩
  · rcases hi with rfl | rfl
    · exact Or.inr ⟨58, b, k3, by rw [if_pos rfl]; exact k1, Or.inl rfl, by omega, k6, k7⟩
    · exact Or.inl ⟨k4, (if_neg (by decide)).trans k2, Or.inr k5⟩
  · rcases hi with rfl | rfl
    · exact Or.inl ⟨k3, by rw [if_pos rfl]; exact k1, Or.inr k5⟩
    · exact Or.inr ⟨58, b, k4, (if_neg (by decide)).trans k2, Or.inl rfl, by omega, k6, k7⟩
  · right
    rcases hi with rfl | rfl
    · exact ⟨w0, b0, k3, by rw [if_pos rfl]; exact k1, by omega, by omega, k7, k9⟩
    · exact ⟨w1, b1, k4, (if_neg (by decide)).trans k2, by omega, by omega, k8, k10⟩
theorem cI2.new {g : Int → Option Nat} {o0 o1 : Option (Int → Int)} {i : Int} {b : Int → Int} (k : cI2 h g n o0 o1) (hi : i = 0 ∨ i = 1) (hg : g i = none) (hW : isW h' n b) (hI : Inv b) (hF : Fr (fun x => x < 45 ∨ (n ≤ x ∧ x < n + 14)) h h') : cI2 h' (fun q => if q = i then some n else g q) (n + 14) (if i = 0 then some b else o0) (if i = 0 then o1 else some b) := by
  rcases k with ⟨k1, k2, k3, k4, k5⟩ | ⟨b', k1, k2, k3, k4, k5, k6, k7⟩ | ⟨b', k1, k2, k3, k4, k5, k6, k7⟩ | ⟨b0, b1, w0, w1, k1, k2, k3, k4, k5, k6, k7, k8, k9, k10⟩
  · subst k5
    rcases hi with rfl | rfl
    · rw [if_pos rfl, if_pos rfl]
      exact Or.inr (Or.inl ⟨b, rfl, k2, if_pos rfl, (if_neg (by decide)).trans k4, rfl, hW, hI⟩)
    · rw [if_neg (by decide), if_neg (by decide)]
      exact Or.inr (Or.inr (Or.inl ⟨b, k1, rfl, (if_neg (by decide)).trans k3, if_pos rfl, rfl, hW, hI⟩))
  · subst k5
    rcases hi with rfl | rfl
    · rw [k3] at hg; cases hg
    · rw [if_neg (by decide), if_neg (by decide)]
      exact Or.inr (Or.inr (Or.inr ⟨b', b, 58, 72, k1, rfl, (if_neg (by decide)).trans k3, if_pos rfl, Or.inl ⟨rfl, rfl⟩, rfl, k6.fr (fun q x y => hF q (by omega)), hW, k7, hI⟩))
  · subst k5
    rcases hi with rfl | rfl
    · rw [if_pos rfl, if_pos rfl]
      exact Or.inr (Or.inr (Or.inr ⟨b, b', 72, 58, rfl, k2, if_pos rfl, (if_neg (by decide)).trans k4, Or.inr ⟨rfl, rfl⟩, rfl, hW, k6.fr (fun q x y => hF q (by omega)), hI, k7⟩))
    · rw [k4] at hg; cases hg
  · rcases hi with rfl | rfl
    · rw [k3] at hg; cases hg
    · rw [k4] at hg; cases hg
theorem cI2.old {g : Int → Option Nat} {o0 o1 : Option (Int → Int)} {i : Int} {w : Nat} {b : Int → Int} (k : cI2 h g n o0 o1) (hi : i = 0 ∨ i = 1) (hg : g i = some w) (hW : isW h' w b) (hI : Inv b) (hF : Fr (fun x => x < 45 ∨ (w ≤ x ∧ x < w + 14)) h h') : cI2 h' (fun q => if q = i then some w else g q) n (if i = 0 then some b else o0) (if i = 0 then o1 else some b) := by
  rcases k with ⟨k1, k2, k3, k4, k5⟩ | ⟨b', k1, k2, k3, k4, k5, k6, k7⟩ | ⟨b', k1, k2, k3, k4, k5, k6, k7⟩ | ⟨b0, b1, w0, w1, k1, k2, k3, k4, k5, k6, k7, k8, k9, k10⟩
  · rcases hi with rfl | rfl
    · rw [k3] at hg; cases hg
    · rw [k4] at hg; cases hg
  · rcases hi with rfl | rfl
    · rw [k3] at hg; cases hg
      rw [if_pos rfl, if_pos rfl]
      exact Or.inr (Or.inl ⟨b, rfl, k2, if_pos rfl, (if_neg (by decide)).trans k4, k5, hW, hI⟩)
    · rw [k4] at hg; cases hg
  · rcases hi with rfl | rfl
    · rw [k3] at hg; cases hg
    · rw [k4] at hg; cases hg
      rw [if_neg (by decide), if_neg (by decide)]
      exact Or.inr (Or.inr (Or.inl ⟨b, k1, rfl, (if_neg (by decide)).trans k3, if_pos rfl, k5, hW, hI⟩))
  · rcases hi with rfl | rfl
    · rw [k3] at hg; cases hg
      rw [if_pos rfl, if_pos rfl]
      exact Or.inr (Or.inr (Or.inr ⟨b, b1, w, w1, rfl, k2, if_pos rfl, (if_neg (by decide)).trans k4, k5, k6, hW, k8.fr (fun q x y => hF q (by omega)), hI, k10⟩))
    · rw [k4] at hg; cases hg
      rw [if_neg (by decide), if_neg (by decide)]
      exact Or.inr (Or.inr (Or.inr ⟨b0, b, w0, w, k1, rfl, (if_neg (by decide)).trans k3, if_pos rfl, k5, k6, k7.fr (fun q x y => hF q (by omega)), hW, k9, hI⟩))
theorem isC.img {n' : Nat} {g' : Int → Option Nat} {i : Int} (hC : isC h n s) (hi : i = 0 ∨ i = 1) (k15 : h' 15 = some (aW 2 g')) (kI : cI2 h' g' n' (if i = 0 then some s.bk else s.i0) (if i = 0 then s.i1 else some s.bk)) (hF : Fr (fun x => x = 15 ∨ 58 ≤ x) h h') : isC h' n' (s.simg i s.bk) := by
  obtain ⟨c0, c1, c2, c3, -⟩ := hC
  unfold SS.simg
  rcases hi with rfl | rfl
  · rw [if_pos rfl] at kI ⊢
    rw [if_pos rfl] at kI
    exact ⟨hF.keep c0 (by omega), c1.fr (fun q a b => hF q (by omega)), c2.fr (fun q a b => hF q (by omega)), c3.fr (fun q a b => hF q (by omega)), g', k15, kI⟩
  · rw [if_neg (by decide)] at kI ⊢
    rw [if_neg (by decide)] at kI
    exact ⟨hF.keep c0 (by omega), c1.fr (fun q a b => hF q (by omega)), c2.fr (fun q a b => hF q (by omega)), c3.fr (fun q a b => hF q (by omega)), g', k15, kI⟩
theorem cs_image {i : Int} (hC : isC h n s) (hI : Inv s.bk) (hi : inI i) (hQ : ∀ h' n', isC h' n' (fImage s i).2 → Fr CR h h' → Q (some (vI (fImage s i).1)) n' h') : Cl G mX8_image [vR 0, vI i] n h Q := by
  have c0 := hC.1
  obtain ⟨g, c15, hg⟩ := hC.2.2.2.2
  obtain ⟨c1, -⟩ := isW_iff.mp hC.2.1
  have hW1 := hC.2.1
  unfold fImage at hQ
  by_cases hin : i = 0 ∨ i = 1
  · rw [if_neg (by omega)] at hQ
    rcases hg.get hin with ⟨g1, g2, g3⟩ | ⟨w, b, g1, g2, g3, g4, g5, g6⟩
    · skip
      refine cl_of (by decide) (Nat.le_of_ble_eq_true rfl) rfl ?_
      refine r_iload_n (pc := 0) dX8_image_0 rfl <| r_iconst (pc := 1) dX8_image_1 <| r_iconst (pc := 2) dX8_image_2 <| cSi [_, _, _] (pc := 3) dX8_image_3 k_X8_78 ⟨⟨Nat.le_of_ble_eq_true rfl, Nat.le_of_ble_eq_true rfl⟩, ⟨Nat.le_of_ble_eq_true rfl, Nat.le_of_ble_eq_true rfl⟩, Nat.le_of_ble_eq_true rfl⟩ ⟨rfl, rfl⟩ ?_
      refine sp_within (by omega) (by omega) (by omega) (fun q1 => ?_) (fun q1 => by omega)
      · skip
        refine ⟨_, rfl, ?_⟩
        refine r_if_ne (pc := 6) 16 dX8_image_6 (by decide) (by decide) (fun _ => ?_) (fun q => absurd q (by decide))
        refine r_aload_n (pc := 16) dX8_image_16 rfl <| r_getf (pc := 17) dX8_image_17 fA_X8_16 c0 rfl <| r_iload_n (pc := 20) dX8_image_20 rfl <| r_aaldN (pc := 21) dX8_image_21 c15 (by omega) (by decide) g1 <| r_ifnonnullN (pc := 22) dX8_image_22 <| w_new (pc := 25) dX8_image_25 fN_X8_9 ⟨Nat.le_of_ble_eq_true rfl, Nat.le_of_ble_eq_true rfl⟩ (fun h_25 hn_25 hF_25 => ?_)
        replace c0 := hF_25.keep c0 (by omega)
        replace c1 := hF_25.keep c1 (by omega)
        replace c15 := hF_25.keep c15 (by omega)
        refine r_dup (pc := 28) dX8_image_28 rfl <| cIa [] (pc := 29) dX8_image_29 k_X8_11 ⟨⟨Nat.le_of_ble_eq_true rfl, Nat.le_of_ble_eq_true rfl⟩, ⟨Nat.le_of_ble_eq_true rfl, Nat.le_of_ble_eq_true rfl⟩, Nat.le_of_ble_eq_true rfl⟩ ?_
        refine sp_winit hn_25 (fun h1 k1 hF1 => ?_)
        refine ⟨rfl, ?_⟩
        obtain ⟨hn_25, -⟩ := isW_iff.mp k1
        replace c0 := hF1.keep c0 (by omega)
        replace c1 := hF1.keep c1 (by omega)
        replace c15 := hF1.keep c15 (by omega)
        have hFa : Fr (fun x => n ≤ x ∧ x < n + 14) h h1 := fun x hx => ((hF1 x (by omega)).trans (hF_25 x (by omega)))
        refine r_goto (pc := 32) 41 dX8_image_32 (by decide) <| r_astoren_2 (pc := 41) dX8_image_41 rfl <| r_aload_n (pc := 42) dX8_image_42 rfl <| r_aload_n (pc := 43) dX8_image_43 rfl <| r_getf (pc := 44) dX8_image_44 fA_X8_12 c0 rfl <| cVv [_] (pc := 47) dX8_image_47 k_X8_276 ⟨⟨Nat.le_of_ble_eq_true rfl, Nat.le_of_ble_eq_true rfl⟩, ⟨Nat.le_of_ble_eq_true rfl, Nat.le_of_ble_eq_true rfl⟩, Nat.le_of_ble_eq_true rfl⟩ ⟨rfl, rfl⟩ hn_25 ?_
        refine sp_wcopy k1 (hW1.fr (fun q a b => hFa q (by omega))) (by omega) (fun h2 k2 hF2 => ?_)
        refine ⟨rfl, ?_⟩
        obtain ⟨hn_25, -⟩ := isW_iff.mp k2
        replace c0 := hF2.keep c0 (by omega)
        replace c1 := hF2.keep c1 (by omega)
        replace c15 := hF2.keep c15 (by omega)
        refine r_aload_n (pc := 50) dX8_image_50 rfl <| r_getf (pc := 51) dX8_image_51 fA_X8_16 c0 rfl <| r_iload_n (pc := 54) dX8_image_54 rfl <| r_aload_n (pc := 55) dX8_image_55 rfl <| r_aast (pc := 56) dX8_image_56 c15 hn_25 (by omega) (by decide) (fun h_56 c15 hF_56 => ?_)
        replace c0 := hF_56.keep c0 (by omega)
        replace c1 := hF_56.keep c1 (by omega)
        replace hn_25 := hF_56.keep hn_25 (by omega)
        refine r_iconst (pc := 57) dX8_image_57 <| r_iret (pc := 58) dX8_image_58 rfl ⟨Nat.le_of_ble_eq_true rfl, Nat.le_of_ble_eq_true rfl⟩ <| ?_
        have hF : Fr (fun x => x = 15 ∨ (n ≤ x ∧ x < n + 14)) h h_56 := fun x hx => (hF_56 x (by omega)).trans ((hF2 x (by omega)).trans (hFa x (by omega)))
        exact hQ _ _ (hC.img hin c15 (hg.new hin g1 (k2.fr (fun q a b => hF_56 q (by omega))) hI (hF.wk (fun q => by omega))) (hF.wk (fun q => by omega))) (hF.wk (fun q => by omega))
    · obtain ⟨w0, -⟩ := isW_iff.mp g5
      refine cl_of (by decide) (Nat.le_of_ble_eq_true rfl) rfl ?_
      refine r_iload_n (pc := 0) dX8_image_0 rfl <| r_iconst (pc := 1) dX8_image_1 <| r_iconst (pc := 2) dX8_image_2 <| cSi [_, _, _] (pc := 3) dX8_image_3 k_X8_78 ⟨⟨Nat.le_of_ble_eq_true rfl, Nat.le_of_ble_eq_true rfl⟩, ⟨Nat.le_of_ble_eq_true rfl, Nat.le_of_ble_eq_true rfl⟩, Nat.le_of_ble_eq_true rfl⟩ ⟨rfl, rfl⟩ ?_
      refine sp_within (by omega) (by omega) (by omega) (fun q1 => ?_) (fun q1 => by omega)
      · skip
        refine ⟨_, rfl, ?_⟩
        refine r_if_ne (pc := 6) 16 dX8_image_6 (by decide) (by decide) (fun _ => ?_) (fun q => absurd q (by decide))
        refine r_aload_n (pc := 16) dX8_image_16 rfl <| r_getf (pc := 17) dX8_image_17 fA_X8_16 c0 rfl <| r_iload_n (pc := 20) dX8_image_20 rfl <| r_aald (pc := 21) dX8_image_21 c15 (by omega) (by decide) g1 <| r_ifnonnull (pc := 22) (t := 35) dX8_image_22 (by decide) <| r_aload_n (pc := 35) dX8_image_35 rfl <| r_getf (pc := 36) dX8_image_36 fA_X8_16 c0 rfl <| r_iload_n (pc := 39) dX8_image_39 rfl <| r_aald (pc := 40) dX8_image_40 c15 (by omega) (by decide) g1 <| r_astoren_2 (pc := 41) dX8_image_41 rfl <| r_aload_n (pc := 42) dX8_image_42 rfl <| r_aload_n (pc := 43) dX8_image_43 rfl <| r_getf (pc := 44) dX8_image_44 fA_X8_12 c0 rfl <| cVv [_] (pc := 47) dX8_image_47 k_X8_276 ⟨⟨Nat.le_of_ble_eq_true rfl, Nat.le_of_ble_eq_true rfl⟩, ⟨Nat.le_of_ble_eq_true rfl, Nat.le_of_ble_eq_true rfl⟩, Nat.le_of_ble_eq_true rfl⟩ ⟨rfl, rfl⟩ w0 ?_
        refine sp_wcopy g5 hW1 (by omega) (fun h2 k2 hF2 => ?_)
        refine ⟨rfl, ?_⟩
        obtain ⟨w0, -⟩ := isW_iff.mp k2
        replace c0 := hF2.keep c0 (by omega)
        replace c1 := hF2.keep c1 (by omega)
        replace c15 := hF2.keep c15 (by omega)
        refine r_aload_n (pc := 50) dX8_image_50 rfl <| r_getf (pc := 51) dX8_image_51 fA_X8_16 c0 rfl <| r_iload_n (pc := 54) dX8_image_54 rfl <| r_aload_n (pc := 55) dX8_image_55 rfl <| r_aast (pc := 56) dX8_image_56 c15 w0 (by omega) (by decide) (fun h_56 c15 hF_56 => ?_)
        replace c0 := hF_56.keep c0 (by omega)
        replace c1 := hF_56.keep c1 (by omega)
        replace w0 := hF_56.keep w0 (by omega)
        refine r_iconst (pc := 57) dX8_image_57 <| r_iret (pc := 58) dX8_image_58 rfl ⟨Nat.le_of_ble_eq_true rfl, Nat.le_of_ble_eq_true rfl⟩ <| ?_
        have hF : Fr (fun x => x = 15 ∨ (w ≤ x ∧ x < w + 14)) h h_56 := fun x hx => (hF_56 x (by omega)).trans (hF2 x (by omega))
        exact hQ _ _ (hC.img hin c15 (hg.old hin g1 (k2.fr (fun q a b => hF_56 q (by omega))) hI (hF.wk (fun q => by omega))) (hF.wk (fun q => by omega))) (hF.wk (fun q => by omega))
  · rw [if_pos (by omega)] at hQ
    refine cl_of (by decide) (Nat.le_of_ble_eq_true rfl) rfl ?_
    refine r_iload_n (pc := 0) dX8_image_0 rfl <| r_iconst (pc := 1) dX8_image_1 <| r_iconst (pc := 2) dX8_image_2 <| cSi [_, _, _] (pc := 3) dX8_image_3 k_X8_78 ⟨⟨Nat.le_of_ble_eq_true rfl, Nat.le_of_ble_eq_true rfl⟩, ⟨Nat.le_of_ble_eq_true rfl, Nat.le_of_ble_eq_true rfl⟩, Nat.le_of_ble_eq_true rfl⟩ ⟨rfl, rfl⟩ ?_
    refine sp_within (by omega) (by omega) (by omega) (fun q1 => by omega) (fun q1 => ?_)
    · skip
      refine ⟨_, rfl, ?_⟩
      refine r_if_ne (pc := 6) 16 dX8_image_6 (by decide) (by decide) (fun q => absurd q (by decide)) (fun _ => ?_)
      refine r_aload_n (pc := 9) dX8_image_9 rfl <| r_bipush (pc := 10) dX8_image_10 (by decide) <| cVi [_] (pc := 12) dX8_image_12 k_X8_82 ⟨⟨Nat.le_of_ble_eq_true rfl, Nat.le_of_ble_eq_true rfl⟩, ⟨Nat.le_of_ble_eq_true rfl, Nat.le_of_ble_eq_true rfl⟩, Nat.le_of_ble_eq_true rfl⟩ ⟨rfl, rfl⟩ c0 ?_
      refine cs_bad hC (fun h1 g1 g2 => ?_)
      refine ⟨_, rfl, ?_⟩
      refine r_iret (pc := 15) dX8_image_15 rfl ⟨Nat.le_of_ble_eq_true rfl, Nat.le_of_ble_eq_true rfl⟩ <| ?_
      exact hQ _ _ g1 g2
theorem cs_from {i : Int} (hC : isC h n s) (hI : Inv s.bk) (hi : inI i) (hQ : ∀ h', isC h' n (fFrom s i).2 → Fr CR h h' → Q (some (vI (fFrom s i).1)) n h') : Cl G mX8_from [vR 0, vI i] n h Q := by
  have c0 := hC.1
  obtain ⟨g, c15, hg⟩ := hC.2.2.2.2
  obtain ⟨c1, -⟩ := isW_iff.mp hC.2.1
  have hW1 := hC.2.1
  obtain ⟨bsz, bab, bro, bco, ble, bak, c16, -⟩ := hC.bkf
  unfold fFrom at hQ
  by_cases hin : i = 0 ∨ i = 1
  · rw [if_neg (by omega)] at hQ
    rcases hg.get hin with ⟨g1, g2, g3⟩ | ⟨w, b, g1, g2, g3, g4, g5, g6⟩
    · have g2' : s.img i = none := g2
      rw [g2'] at hQ
      refine cl_of (by decide) (Nat.le_of_ble_eq_true rfl) rfl ?_
      refine r_iload_n (pc := 0) dX8_from_0 rfl <| r_iconst (pc := 1) dX8_from_1 <| r_iconst (pc := 2) dX8_from_2 <| cSi [_, _, _] (pc := 3) dX8_from_3 k_X8_78 ⟨⟨Nat.le_of_ble_eq_true rfl, Nat.le_of_ble_eq_true rfl⟩, ⟨Nat.le_of_ble_eq_true rfl, Nat.le_of_ble_eq_true rfl⟩, Nat.le_of_ble_eq_true rfl⟩ ⟨rfl, rfl⟩ ?_
      refine sp_within (by omega) (by omega) (by omega) (fun q1 => ?_) (fun q1 => by omega)
      · skip
        refine ⟨_, rfl, ?_⟩
        refine r_if_ne (pc := 6) 16 dX8_from_6 (by decide) (by decide) (fun _ => ?_) (fun q => absurd q (by decide))
        refine r_aload_n (pc := 16) dX8_from_16 rfl <| r_getf (pc := 17) dX8_from_17 fA_X8_16 c0 rfl <| r_iload_n (pc := 20) dX8_from_20 rfl <| r_aaldN (pc := 21) dX8_from_21 c15 (by omega) (by decide) g1 <| r_Nastoren_2 (pc := 22) dX8_from_22 rfl <| r_aload_nN (pc := 23) dX8_from_23 rfl <| r_ifnonnullN (pc := 24) dX8_from_24 <| r_aload_n (pc := 27) dX8_from_27 rfl <| r_bipush (pc := 28) dX8_from_28 (by decide) <| cVi [_] (pc := 30) dX8_from_30 k_X8_147 ⟨⟨Nat.le_of_ble_eq_true rfl, Nat.le_of_ble_eq_true rfl⟩, ⟨Nat.le_of_ble_eq_true rfl, Nat.le_of_ble_eq_true rfl⟩, Nat.le_of_ble_eq_true rfl⟩ ⟨rfl, rfl⟩ c0 ?_
        refine cs_no hC (fun h1 k1 k2 => ?_)
        refine ⟨_, rfl, ?_⟩
        refine r_iret (pc := 33) dX8_from_33 rfl ⟨Nat.le_of_ble_eq_true rfl, Nat.le_of_ble_eq_true rfl⟩ <| ?_
        exact hQ _ k1 k2
    · have g2' : s.img i = some b := g2
      rw [g2'] at hQ
      have ecp : ∀ j, 0 ≤ j → j < 480 → cp480 b s.bk j = b j := fun j a c => if_pos ⟨a, c⟩
      refine cl_of (by decide) (Nat.le_of_ble_eq_true rfl) rfl ?_
      refine r_iload_n (pc := 0) dX8_from_0 rfl <| r_iconst (pc := 1) dX8_from_1 <| r_iconst (pc := 2) dX8_from_2 <| cSi [_, _, _] (pc := 3) dX8_from_3 k_X8_78 ⟨⟨Nat.le_of_ble_eq_true rfl, Nat.le_of_ble_eq_true rfl⟩, ⟨Nat.le_of_ble_eq_true rfl, Nat.le_of_ble_eq_true rfl⟩, Nat.le_of_ble_eq_true rfl⟩ ⟨rfl, rfl⟩ ?_
      refine sp_within (by omega) (by omega) (by omega) (fun q1 => ?_) (fun q1 => by omega)
      · skip
        refine ⟨_, rfl, ?_⟩
        refine r_if_ne (pc := 6) 16 dX8_from_6 (by decide) (by decide) (fun _ => ?_) (fun q => absurd q (by decide))
        refine r_aload_n (pc := 16) dX8_from_16 rfl <| r_getf (pc := 17) dX8_from_17 fA_X8_16 c0 rfl <| r_iload_n (pc := 20) dX8_from_20 rfl <| r_aald (pc := 21) dX8_from_21 c15 (by omega) (by decide) g1 <| r_astoren_2 (pc := 22) dX8_from_22 rfl <| r_aload_n (pc := 23) dX8_from_23 rfl <| r_ifnonnull (pc := 24) (t := 34) dX8_from_24 (by decide) <| r_aload_n (pc := 34) dX8_from_34 rfl <| r_getf (pc := 35) dX8_from_35 fA_X8_12 c0 rfl <| r_aload_n (pc := 38) dX8_from_38 rfl <| cVv [_] (pc := 39) dX8_from_39 k_X8_276 ⟨⟨Nat.le_of_ble_eq_true rfl, Nat.le_of_ble_eq_true rfl⟩, ⟨Nat.le_of_ble_eq_true rfl, Nat.le_of_ble_eq_true rfl⟩, Nat.le_of_ble_eq_true rfl⟩ ⟨rfl, rfl⟩ c1 ?_
        refine sp_wcopy hW1 g5 (by omega) (fun h2 k2 hF2 => ?_)
        refine ⟨rfl, ?_⟩
        have k3 := k2.cg ecp
        obtain ⟨c1, v1, v2, v3, v4, v5, v6, v7⟩ := isW_iff.mp k3
        obtain ⟨tx, c10, dt, rt⟩ := v3
        replace c0 := hF2.keep c0 (by omega)
        replace c16 := hF2.keep c16 (by omega)
        have i1 := g6.1.2.1
        rw [← ecp 1 (by omega) (by omega)] at i1
        refine r_aload_n (pc := 42) dX8_from_42 rfl <| r_getf (pc := 43) dX8_from_43 fA_X8_23 c0 rfl <| r_aload_n (pc := 46) dX8_from_46 rfl <| r_getf (pc := 47) dX8_from_47 fA_X8_12 c0 rfl <| r_getf (pc := 50) dX8_from_50 fA_X8_133 c1 rfl <| r_aload_n (pc := 53) dX8_from_53 rfl <| r_getf (pc := 54) dX8_from_54 fA_X8_12 c0 rfl <| r_getf (pc := 57) dX8_from_57 fA_X8_130 c1 rfl <| cVv [_, _] (pc := 60) dX8_from_60 k_X8_136 ⟨⟨Nat.le_of_ble_eq_true rfl, Nat.le_of_ble_eq_true rfl⟩, ⟨Nat.le_of_ble_eq_true rfl, Nat.le_of_ble_eq_true rfl⟩, Nat.le_of_ble_eq_true rfl⟩ ⟨rfl, rfl⟩ c16 ?_
        refine cs_read (bk' := cp480 b s.bk) (hC.2.2.1.fr (fun q a b => hF2 q (by omega))) c10 dt rt i1 rfl (fun h3 kB hF3 => ?_)
        refine ⟨rfl, ?_⟩
        refine r_iconst (pc := 63) dX8_from_63 <| r_iret (pc := 64) dX8_from_64 rfl ⟨Nat.le_of_ble_eq_true rfl, Nat.le_of_ble_eq_true rfl⟩ <| ?_
        have hF : Fr (fun q => q < 23 ∧ q ≠ 0 ∧ q ≠ 15) h h3 := fun q hq => (hF3 q (by omega)).trans (hF2 q (by omega))
        exact hQ _ (hC.upd (s' := s.sbk (cp480 b s.bk)) ⟨rfl, rfl⟩ (hF3.keep c0 (by omega)) (k3.fr (fun q a b => hF3 q (by omega))) kB (hC.2.2.2.1.fr (fun q a b => hF q (by omega))) (hF.wk (fun q => by omega))) (hF.wk (fun q => by omega))
  · rw [if_pos (by omega)] at hQ
    refine cl_of (by decide) (Nat.le_of_ble_eq_true rfl) rfl ?_
    refine r_iload_n (pc := 0) dX8_from_0 rfl <| r_iconst (pc := 1) dX8_from_1 <| r_iconst (pc := 2) dX8_from_2 <| cSi [_, _, _] (pc := 3) dX8_from_3 k_X8_78 ⟨⟨Nat.le_of_ble_eq_true rfl, Nat.le_of_ble_eq_true rfl⟩, ⟨Nat.le_of_ble_eq_true rfl, Nat.le_of_ble_eq_true rfl⟩, Nat.le_of_ble_eq_true rfl⟩ ⟨rfl, rfl⟩ ?_
    refine sp_within (by omega) (by omega) (by omega) (fun q1 => by omega) (fun q1 => ?_)
    · skip
      refine ⟨_, rfl, ?_⟩
      refine r_if_ne (pc := 6) 16 dX8_from_6 (by decide) (by decide) (fun q => absurd q (by decide)) (fun _ => ?_)
      refine r_aload_n (pc := 9) dX8_from_9 rfl <| r_bipush (pc := 10) dX8_from_10 (by decide) <| cVi [_] (pc := 12) dX8_from_12 k_X8_82 ⟨⟨Nat.le_of_ble_eq_true rfl, Nat.le_of_ble_eq_true rfl⟩, ⟨Nat.le_of_ble_eq_true rfl, Nat.le_of_ble_eq_true rfl⟩, Nat.le_of_ble_eq_true rfl⟩ ⟨rfl, rfl⟩ c0 ?_
      refine cs_bad hC (fun h1 g1 g2 => ?_)
      refine ⟨_, rfl, ?_⟩
      refine r_iret (pc := 15) dX8_from_15 rfl ⟨Nat.le_of_ble_eq_true rfl, Nat.le_of_ble_eq_true rfl⟩ <| ?_
      exact hQ _ g1 g2
end CIm

