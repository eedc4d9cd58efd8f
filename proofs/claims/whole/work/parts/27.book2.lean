/-! ===== the class: the book's state behind its tokens ===== -/
def clRel (ro co le : Int → Int) (its : List IT) : Prop := ∀ (j : Nat) (q : IT), its[j]? = some q → ro j = q.1 ∧ co j = q.2.2.1 ∧ le j = q.2.2.2
def agRel (a : Nat) (its : List IT) : Prop := ∀ j : Nat, a.testBit j = ((its[j]?).map (fun q => decide (q.2.1 = 1))).getD false
theorem clRel.r {ro co le : Int → Int} {its : List IT} (h : clRel ro co le its) {v : Int} : clRel (iu ro its.length v) co le its := fun j q hq => by
  have hj : j < its.length := (List.getElem?_eq_some_iff.mp hq).1
  rw [iu_n (by omega)]; exact h j q hq
theorem clRel.c {ro co le : Int → Int} {its : List IT} (h : clRel ro co le its) {v : Int} : clRel ro (iu co its.length v) le its := fun j q hq => by
  have hj : j < its.length := (List.getElem?_eq_some_iff.mp hq).1
  rw [iu_n (x := (its.length : Int)) (by omega)]; exact h j q hq
theorem clRel.l {ro co le : Int → Int} {its : List IT} (h : clRel ro co le its) {v : Int} : clRel ro co (iu le its.length v) its := fun j q hq => by
  have hj : j < its.length := (List.getElem?_eq_some_iff.mp hq).1
  rw [iu_n (x := (its.length : Int)) (by omega)]; exact h j q hq
theorem clRel.push {ro co le : Int → Int} {its : List IT} {cu : IT} (h : clRel ro co le its) (h0 : ro its.length = cu.1) (h1 : co its.length = cu.2.2.1) (h2 : le its.length = cu.2.2.2) : clRel ro co le (its ++ [cu]) := by
  intro j q hq
  by_cases hj : j < its.length
  · rw [List.getElem?_append_left hj] at hq
    exact h j q hq
  · rw [List.getElem?_append_right (by omega)] at hq
    have hz : j - its.length < 1 := (List.getElem?_eq_some_iff.mp hq).1
    rw [show j - its.length = 0 by omega] at hq
    cases hq
    rw [show j = its.length by omega]
    exact ⟨h0, h1, h2⟩
theorem agRel.app0 {a : Nat} {its : List IT} {cu : IT} (h : agRel a its) (hc : ¬ cu.2.1 = 1) : agRel a (its ++ [cu]) := by
  intro j
  rw [h j]
  by_cases hj : j < its.length
  · rw [List.getElem?_append_left hj]
  · rw [List.getElem?_eq_none (by omega), List.getElem?_append_right (by omega)]
    cases hk : j - its.length with
    | zero => simp [hc]
    | succ m => simp
theorem agRel.app {a : Nat} {its : List IT} {cu cu' : IT} (h : agRel a (its ++ [cu])) (hc : cu'.2.1 = cu.2.1) : agRel a (its ++ [cu']) := by
  intro j
  rw [h j]
  by_cases hj : j < its.length
  · rw [List.getElem?_append_left hj, List.getElem?_append_left hj]
  · rw [List.getElem?_append_right (by omega), List.getElem?_append_right (by omega)]
    cases hk : j - its.length with
    | zero => simp [hc]
    | succ m => simp
theorem agRel.or {a : Nat} {its : List IT} {cu cu' : IT} (h : agRel a (its ++ [cu])) (hc : cu'.2.1 = 1) : agRel (a ||| 2 ^ its.length) (its ++ [cu']) := by
  intro j
  rw [Nat.testBit_or, Nat.testBit_two_pow, h j]
  by_cases hj : j < its.length
  · rw [List.getElem?_append_left hj, List.getElem?_append_left hj]
    simp [show ¬ its.length = j by omega]
  · rw [List.getElem?_append_right (by omega), List.getElem?_append_right (by omega)]
    cases hk : j - its.length with
    | zero => simp [hc, show its.length = j by omega]
    | succ m => simp [show ¬ its.length = j by omega]
theorem agRel.lt {a : Nat} {its : List IT} (h : agRel a its) (hl : its.length ≤ 10) : a < 1024 := by
  have : a < 2 ^ 10 := Nat.lt_pow_two_of_testBit a (fun j hj => by rw [h j, List.getElem?_eq_none (by omega)]; rfl)
  omega
def BSt (h : Hp) (b : Nat) (fa stage : Int) (its : List IT) (cu : IT) : Prop := ∃ (ro co le : Int → Int) (ab : Nat), h b = some (aO 0 [vR (b + 1), vI fa, vI (its.length : Int), vI (ab : Nat), vR (b + 3), vR (b + 4), vR (b + 5), vR (b + 6)]) ∧ h (b + 3) = some (aA 9 ro) ∧ h (b + 4) = some (aA 9 co) ∧ h (b + 5) = some (aA 9 le) ∧ (Bd ro 0 9 ∧ Bd co 0 9 ∧ Bd le 0 99) ∧ its.length ≤ 9 ∧ clRel ro co le its ∧ (stage = 0 → agRel ab its) ∧
  (¬ stage = 0 → its.length < 9 ∧ agRel ab (its ++ [cu]) ∧ ro its.length = cu.1 ∧ le its.length = cu.2.2.2 ∧ (4 ≤ stage → co its.length = cu.2.2.1))
/-- the book in some state: only sizes are known -/
def BSw (h : Hp) (b : Nat) (fa : Int) (m : Nat) : Prop := ∃ (ro co le : Int → Int) (ab : Nat), h b = some (aO 0 [vR (b + 1), vI fa, vI (m : Int), vI (ab : Nat), vR (b + 3), vR (b + 4), vR (b + 5), vR (b + 6)]) ∧ h (b + 3) = some (aA 9 ro) ∧ h (b + 4) = some (aA 9 co) ∧ h (b + 5) = some (aA 9 le) ∧ (Bd ro 0 9 ∧ Bd co 0 9 ∧ Bd le 0 99) ∧ m ≤ 9 ∧ ab < 1024
theorem BSt.w {h : Hp} {b : Nat} {fa st : Int} {its : List IT} {cu : IT} (hS : BSt h b fa st its cu) : BSw h b fa its.length := by
  obtain ⟨ro, co, le, ab, h1, h2, h3, h4, h5, h6, h7, h8, h9⟩ := hS
  refine ⟨ro, co, le, ab, h1, h2, h3, h4, h5, h6, ?_⟩
  by_cases e : st = 0
  · exact (h8 e).lt (by omega)
  · exact (h9 e).2.1.lt (by simp; omega)
section BK2
variable {G : GT} {n : Nat} {h : Hp} {Q : PT} {b tt : Nat} {fa len nx pl va k st : Int} {its : List IT} {cu : IT}
theorem sp_take (hne : tt < b ∨ b + 6 < tt) (hS : BSt h b fa st its cu) (hT : h (b + 1) = some (aO 6 [vR tt, vI len, vI nx, vI pl, vI va])) (hk : 0 ≤ k ∧ k ≤ 15) (hst : 0 ≤ st ∧ st ≤ 5) (hv : k = 12 → -10000 ≤ va ∧ va ≤ 10000)
    (h0 : pstep st k va its cu = none → ∀ h', BSw h' b fa its.length → Fr (fun q => q = b ∨ q = b + 3 ∨ q = b + 4 ∨ q = b + 5) h h' → Q (some (vI 6)) n h')
    (h1 : ∀ st' its' cu', pstep st k va its cu = some (st', its', cu') → 0 ≤ st' ∧ st' ≤ 5 → ∀ h', BSt h' b fa st' its' cu' → Fr (fun q => q = b ∨ q = b + 3 ∨ q = b + 4 ∨ q = b + 5) h h' → Q (some (vI st')) n h') : Cl G mX0_take [vR b, vI st, vI k] n h Q := by
  have hw := hS.w
  obtain ⟨ro, co, le, ab, hB, h3, h4, h5, ⟨bd1, bd2, bd3⟩, hlen, hcl, hag0, hag⟩ := hS
  have hlt : ab < 1024 := by
    by_cases e : st = 0
    · exact (hag0 e).lt (by omega)
    · exact (hag e).2.1.lt (by simp; omega)
  refine cl_of (by decide) (Nat.le_of_ble_eq_true rfl) rfl ?_
  refine r_iload_n (pc := 0) dX0_take_0 rfl <| ?_
  rcases (show st = 0 ∨ st = 1 ∨ st = 2 ∨ st = 3 ∨ st = 4 ∨ st = 5 ∨ (st < 0 ∨ 5 < st) by omega) with hs_1 | hs_1 | hs_1 | hs_1 | hs_1 | hs_1 | hs_1
  · skip
    refine r_tableIn (pc := 1) 40 dX0_take_1 (by omega) (by omega) (by rw [hs_1]; rfl) (by decide) ?_
    refine r_aload_n (pc := 40) dX0_take_40 rfl <| r_iload_n (pc := 41) dX0_take_41 rfl <| cVi [_] (pc := 42) dX0_take_42 k_X0_63 ⟨⟨Nat.le_of_ble_eq_true rfl, Nat.le_of_ble_eq_true rfl⟩, ⟨Nat.le_of_ble_eq_true rfl, Nat.le_of_ble_eq_true rfl⟩, Nat.le_of_ble_eq_true rfl⟩ ⟨rfl, rfl⟩ hB ?_
    subst hs_1
    refine sp_tS hB h3 h4 h5 hk (by omega) (fun q1 h' g35 hF => ?_) (fun q1 q2 h' g3 g5 hF => ?_) (fun q1 q2 h' g3 g4 g5 hF => ?_) (fun q1 q2 h' g0 g3 g5 hF => ?_)
    · skip
      refine ⟨_, rfl, ?_⟩
      refine r_iret (pc := 45) dX0_take_45 rfl ⟨Nat.le_of_ble_eq_true rfl, Nat.le_of_ble_eq_true rfl⟩ <| ?_
      first
        | (refine h0 ?_ h' ?_ (hF.wk (fun j => by omega))
           · unfold pstep stepA
             rw [if_pos rfl]
             split
             · rfl
             · rw [if_neg (by omega), if_neg (by omega), if_neg (by omega)]; rfl
           · rcases g35 with ⟨g3, g5⟩ | ⟨g3, g5⟩
             · exact ⟨ro, co, le, ab, hF.keep hB (by omega), g3, hF.keep h4 (by omega), g5, ⟨bd1, bd2, bd3⟩, hlen, hlt⟩
             · exact ⟨_, co, _, ab, hF.keep hB (by omega), g3, hF.keep h4 (by omega), g5, ⟨bd1.iu (by omega), bd2, bd3.iu (by omega)⟩, hlen, hlt⟩)
        | (refine h1 1 its (1, 0, 0, 1) ?_ (by omega) h' ⟨_, co, _, ab, hF.keep hB (by omega), g3, hF.keep h4 (by omega), g5, ⟨bd1.iu (by omega), bd2, bd3.iu (by omega)⟩, hlen, hcl.r.l, fun q => absurd q (by decide), fun _ => ⟨by omega, (hag0 rfl).app0 (by decide), iu_s _ _ _, iu_s _ _ _, fun q => absurd q (by decide)⟩⟩ (hF.wk (fun j => by omega))
           unfold pstep
           rw [if_pos rfl, if_neg (by omega), if_pos q2])
        | (refine h1 4 its (1, 0, k, 1) ?_ (by omega) h' ⟨_, _, _, ab, hF.keep hB (by omega), g3, g4, g5, ⟨bd1.iu (by omega), bd2.iu (by omega), bd3.iu (by omega)⟩, hlen, hcl.r.c.l, fun q => absurd q (by decide), fun _ => ⟨by omega, (hag0 rfl).app0 (show ¬ (0 : Int) = 1 by decide), iu_s _ _ _, iu_s _ _ _, fun _ => iu_s _ _ _⟩⟩ (hF.wk (fun j => by omega))
           unfold pstep stepA
           rw [if_pos rfl, if_neg (by omega), if_neg (by omega), if_neg (by omega), if_pos q2]; rfl)
        | (rw [Int.toNat_natCast] at g0
           refine h1 3 its (1, 1, 0, 1) ?_ (by omega) h' ⟨_, co, _, _, g0, g3, hF.keep h4 (by omega), g5, ⟨bd1.iu (by omega), bd2, bd3.iu (by omega)⟩, hlen, hcl.r.l, fun q => absurd q (by decide), fun _ => ⟨by omega, ((hag0 rfl).app0 (cu := (1, 0, 0, 1)) (by decide)).or rfl, iu_s _ _ _, iu_s _ _ _, fun q => absurd q (by decide)⟩⟩ (hF.wk (fun j => by omega))
           unfold pstep stepA
           rw [if_pos rfl, if_neg (by omega), if_neg (by omega), if_pos q2]; rfl)
    · skip
      refine ⟨_, rfl, ?_⟩
      refine r_iret (pc := 45) dX0_take_45 rfl ⟨Nat.le_of_ble_eq_true rfl, Nat.le_of_ble_eq_true rfl⟩ <| ?_
      first
        | (refine h0 ?_ h' ?_ (hF.wk (fun j => by omega))
           · unfold pstep stepA
             rw [if_pos rfl]
             split
             · rfl
             · rw [if_neg (by omega), if_neg (by omega), if_neg (by omega)]; rfl
           · rcases g35 with ⟨g3, g5⟩ | ⟨g3, g5⟩
             · exact ⟨ro, co, le, ab, hF.keep hB (by omega), g3, hF.keep h4 (by omega), g5, ⟨bd1, bd2, bd3⟩, hlen, hlt⟩
             · exact ⟨_, co, _, ab, hF.keep hB (by omega), g3, hF.keep h4 (by omega), g5, ⟨bd1.iu (by omega), bd2, bd3.iu (by omega)⟩, hlen, hlt⟩)
        | (refine h1 1 its (1, 0, 0, 1) ?_ (by omega) h' ⟨_, co, _, ab, hF.keep hB (by omega), g3, hF.keep h4 (by omega), g5, ⟨bd1.iu (by omega), bd2, bd3.iu (by omega)⟩, hlen, hcl.r.l, fun q => absurd q (by decide), fun _ => ⟨by omega, (hag0 rfl).app0 (by decide), iu_s _ _ _, iu_s _ _ _, fun q => absurd q (by decide)⟩⟩ (hF.wk (fun j => by omega))
           unfold pstep
           rw [if_pos rfl, if_neg (by omega), if_pos q2])
        | (refine h1 4 its (1, 0, k, 1) ?_ (by omega) h' ⟨_, _, _, ab, hF.keep hB (by omega), g3, g4, g5, ⟨bd1.iu (by omega), bd2.iu (by omega), bd3.iu (by omega)⟩, hlen, hcl.r.c.l, fun q => absurd q (by decide), fun _ => ⟨by omega, (hag0 rfl).app0 (show ¬ (0 : Int) = 1 by decide), iu_s _ _ _, iu_s _ _ _, fun _ => iu_s _ _ _⟩⟩ (hF.wk (fun j => by omega))
           unfold pstep stepA
           rw [if_pos rfl, if_neg (by omega), if_neg (by omega), if_neg (by omega), if_pos q2]; rfl)
        | (rw [Int.toNat_natCast] at g0
           refine h1 3 its (1, 1, 0, 1) ?_ (by omega) h' ⟨_, co, _, _, g0, g3, hF.keep h4 (by omega), g5, ⟨bd1.iu (by omega), bd2, bd3.iu (by omega)⟩, hlen, hcl.r.l, fun q => absurd q (by decide), fun _ => ⟨by omega, ((hag0 rfl).app0 (cu := (1, 0, 0, 1)) (by decide)).or rfl, iu_s _ _ _, iu_s _ _ _, fun q => absurd q (by decide)⟩⟩ (hF.wk (fun j => by omega))
           unfold pstep stepA
           rw [if_pos rfl, if_neg (by omega), if_neg (by omega), if_pos q2]; rfl)
    · skip
      refine ⟨_, rfl, ?_⟩
      refine r_iret (pc := 45) dX0_take_45 rfl ⟨Nat.le_of_ble_eq_true rfl, Nat.le_of_ble_eq_true rfl⟩ <| ?_
      first
        | (refine h0 ?_ h' ?_ (hF.wk (fun j => by omega))
           · unfold pstep stepA
             rw [if_pos rfl]
             split
             · rfl
             · rw [if_neg (by omega), if_neg (by omega), if_neg (by omega)]; rfl
           · rcases g35 with ⟨g3, g5⟩ | ⟨g3, g5⟩
             · exact ⟨ro, co, le, ab, hF.keep hB (by omega), g3, hF.keep h4 (by omega), g5, ⟨bd1, bd2, bd3⟩, hlen, hlt⟩
             · exact ⟨_, co, _, ab, hF.keep hB (by omega), g3, hF.keep h4 (by omega), g5, ⟨bd1.iu (by omega), bd2, bd3.iu (by omega)⟩, hlen, hlt⟩)
        | (refine h1 1 its (1, 0, 0, 1) ?_ (by omega) h' ⟨_, co, _, ab, hF.keep hB (by omega), g3, hF.keep h4 (by omega), g5, ⟨bd1.iu (by omega), bd2, bd3.iu (by omega)⟩, hlen, hcl.r.l, fun q => absurd q (by decide), fun _ => ⟨by omega, (hag0 rfl).app0 (by decide), iu_s _ _ _, iu_s _ _ _, fun q => absurd q (by decide)⟩⟩ (hF.wk (fun j => by omega))
           unfold pstep
           rw [if_pos rfl, if_neg (by omega), if_pos q2])
        | (refine h1 4 its (1, 0, k, 1) ?_ (by omega) h' ⟨_, _, _, ab, hF.keep hB (by omega), g3, g4, g5, ⟨bd1.iu (by omega), bd2.iu (by omega), bd3.iu (by omega)⟩, hlen, hcl.r.c.l, fun q => absurd q (by decide), fun _ => ⟨by omega, (hag0 rfl).app0 (show ¬ (0 : Int) = 1 by decide), iu_s _ _ _, iu_s _ _ _, fun _ => iu_s _ _ _⟩⟩ (hF.wk (fun j => by omega))
           unfold pstep stepA
           rw [if_pos rfl, if_neg (by omega), if_neg (by omega), if_neg (by omega), if_pos q2]; rfl)
        | (rw [Int.toNat_natCast] at g0
           refine h1 3 its (1, 1, 0, 1) ?_ (by omega) h' ⟨_, co, _, _, g0, g3, hF.keep h4 (by omega), g5, ⟨bd1.iu (by omega), bd2, bd3.iu (by omega)⟩, hlen, hcl.r.l, fun q => absurd q (by decide), fun _ => ⟨by omega, ((hag0 rfl).app0 (cu := (1, 0, 0, 1)) (by decide)).or rfl, iu_s _ _ _, iu_s _ _ _, fun q => absurd q (by decide)⟩⟩ (hF.wk (fun j => by omega))
           unfold pstep stepA
           rw [if_pos rfl, if_neg (by omega), if_neg (by omega), if_pos q2]; rfl)
    · skip
      refine ⟨_, rfl, ?_⟩
      refine r_iret (pc := 45) dX0_take_45 rfl ⟨Nat.le_of_ble_eq_true rfl, Nat.le_of_ble_eq_true rfl⟩ <| ?_
      first
        | (refine h0 ?_ h' ?_ (hF.wk (fun j => by omega))
           · unfold pstep stepA
             rw [if_pos rfl]
             split
             · rfl
             · rw [if_neg (by omega), if_neg (by omega), if_neg (by omega)]; rfl
           · rcases g35 with ⟨g3, g5⟩ | ⟨g3, g5⟩
             · exact ⟨ro, co, le, ab, hF.keep hB (by omega), g3, hF.keep h4 (by omega), g5, ⟨bd1, bd2, bd3⟩, hlen, hlt⟩
             · exact ⟨_, co, _, ab, hF.keep hB (by omega), g3, hF.keep h4 (by omega), g5, ⟨bd1.iu (by omega), bd2, bd3.iu (by omega)⟩, hlen, hlt⟩)
        | (refine h1 1 its (1, 0, 0, 1) ?_ (by omega) h' ⟨_, co, _, ab, hF.keep hB (by omega), g3, hF.keep h4 (by omega), g5, ⟨bd1.iu (by omega), bd2, bd3.iu (by omega)⟩, hlen, hcl.r.l, fun q => absurd q (by decide), fun _ => ⟨by omega, (hag0 rfl).app0 (by decide), iu_s _ _ _, iu_s _ _ _, fun q => absurd q (by decide)⟩⟩ (hF.wk (fun j => by omega))
           unfold pstep
           rw [if_pos rfl, if_neg (by omega), if_pos q2])
        | (refine h1 4 its (1, 0, k, 1) ?_ (by omega) h' ⟨_, _, _, ab, hF.keep hB (by omega), g3, g4, g5, ⟨bd1.iu (by omega), bd2.iu (by omega), bd3.iu (by omega)⟩, hlen, hcl.r.c.l, fun q => absurd q (by decide), fun _ => ⟨by omega, (hag0 rfl).app0 (show ¬ (0 : Int) = 1 by decide), iu_s _ _ _, iu_s _ _ _, fun _ => iu_s _ _ _⟩⟩ (hF.wk (fun j => by omega))
           unfold pstep stepA
           rw [if_pos rfl, if_neg (by omega), if_neg (by omega), if_neg (by omega), if_pos q2]; rfl)
        | (rw [Int.toNat_natCast] at g0
           refine h1 3 its (1, 1, 0, 1) ?_ (by omega) h' ⟨_, co, _, _, g0, g3, hF.keep h4 (by omega), g5, ⟨bd1.iu (by omega), bd2, bd3.iu (by omega)⟩, hlen, hcl.r.l, fun q => absurd q (by decide), fun _ => ⟨by omega, ((hag0 rfl).app0 (cu := (1, 0, 0, 1)) (by decide)).or rfl, iu_s _ _ _, iu_s _ _ _, fun q => absurd q (by decide)⟩⟩ (hF.wk (fun j => by omega))
           unfold pstep stepA
           rw [if_pos rfl, if_neg (by omega), if_neg (by omega), if_pos q2]; rfl)
  · skip
    refine r_tableIn (pc := 1) 46 dX0_take_1 (by omega) (by omega) (by rw [hs_1]; rfl) (by decide) ?_
    refine r_aload_n (pc := 46) dX0_take_46 rfl <| r_iload_n (pc := 47) dX0_take_47 rfl <| cVi [_] (pc := 48) dX0_take_48 k_X0_67 ⟨⟨Nat.le_of_ble_eq_true rfl, Nat.le_of_ble_eq_true rfl⟩, ⟨Nat.le_of_ble_eq_true rfl, Nat.le_of_ble_eq_true rfl⟩, Nat.le_of_ble_eq_true rfl⟩ ⟨rfl, rfl⟩ hB ?_
    subst hs_1
    obtain ⟨hl9, hag2, hr, hl, -⟩ := hag (by decide)
    refine sp_tR hB hT h3 hk (by omega) hv (fun q1 => ?_) (fun q1 q2 h' g3 hF => ?_)
    · skip
      refine ⟨_, rfl, ?_⟩
      refine r_iret (pc := 51) dX0_take_51 rfl ⟨Nat.le_of_ble_eq_true rfl, Nat.le_of_ble_eq_true rfl⟩ <| ?_
      first
        | (refine h0 ?_ h hw Fr.rf
           unfold pstep
           rw [if_neg (by decide), if_pos rfl, if_neg q1])
        | (refine h1 2 its (va, cu.2.1, cu.2.2.1, cu.2.2.2) ?_ (by omega) h' ⟨_, co, le, ab, hF.keep hB (by omega), g3, hF.keep h4 (by omega), hF.keep h5 (by omega), ⟨bd1.iu (by omega), bd2, bd3⟩, hlen, hcl.r, fun q => absurd q (by decide), fun _ => ⟨hl9, hag2.app rfl, iu_s _ _ _, hl, fun q => absurd q (by decide)⟩⟩ (hF.wk (fun j => by omega))
           unfold pstep
           rw [if_neg (by decide), if_pos rfl, if_pos ⟨q1, q2⟩])
    · skip
      refine ⟨_, rfl, ?_⟩
      refine r_iret (pc := 51) dX0_take_51 rfl ⟨Nat.le_of_ble_eq_true rfl, Nat.le_of_ble_eq_true rfl⟩ <| ?_
      first
        | (refine h0 ?_ h hw Fr.rf
           unfold pstep
           rw [if_neg (by decide), if_pos rfl, if_neg q1])
        | (refine h1 2 its (va, cu.2.1, cu.2.2.1, cu.2.2.2) ?_ (by omega) h' ⟨_, co, le, ab, hF.keep hB (by omega), g3, hF.keep h4 (by omega), hF.keep h5 (by omega), ⟨bd1.iu (by omega), bd2, bd3⟩, hlen, hcl.r, fun q => absurd q (by decide), fun _ => ⟨hl9, hag2.app rfl, iu_s _ _ _, hl, fun q => absurd q (by decide)⟩⟩ (hF.wk (fun j => by omega))
           unfold pstep
           rw [if_neg (by decide), if_pos rfl, if_pos ⟨q1, q2⟩])
  · skip
    refine r_tableIn (pc := 1) 52 dX0_take_1 (by omega) (by omega) (by rw [hs_1]; rfl) (by decide) ?_
    refine r_aload_n (pc := 52) dX0_take_52 rfl <| r_iload_n (pc := 53) dX0_take_53 rfl <| cVi [_] (pc := 54) dX0_take_54 k_X0_70 ⟨⟨Nat.le_of_ble_eq_true rfl, Nat.le_of_ble_eq_true rfl⟩, ⟨Nat.le_of_ble_eq_true rfl, Nat.le_of_ble_eq_true rfl⟩, Nat.le_of_ble_eq_true rfl⟩ ⟨rfl, rfl⟩ hB ?_
    subst hs_1
    obtain ⟨hl9, hag2, hr, hl, -⟩ := hag (by decide)
    refine sp_tA hB h4 hk (by omega) (fun q1 q2 => ?_) (fun q1 h' g4 hF => ?_) (fun q1 h' g0 hF => ?_)
    · skip
      refine ⟨_, rfl, ?_⟩
      refine r_iret (pc := 57) dX0_take_57 rfl ⟨Nat.le_of_ble_eq_true rfl, Nat.le_of_ble_eq_true rfl⟩ <| ?_
      first
        | (refine h0 ?_ h hw Fr.rf
           unfold pstep stepA
           rw [if_neg (by decide), if_neg (by decide), if_pos rfl, if_neg q2, if_neg (by omega)]; rfl)
        | (refine h1 4 its (cu.1, cu.2.1, k, cu.2.2.2) ?_ (by omega) h' ⟨ro, _, le, ab, hF.keep hB (by omega), hF.keep h3 (by omega), g4, hF.keep h5 (by omega), ⟨bd1, bd2.iu (by omega), bd3⟩, hlen, hcl.c, fun q => absurd q (by decide), fun _ => ⟨hl9, hag2.app rfl, hr, hl, fun _ => iu_s _ _ _⟩⟩ (hF.wk (fun j => by omega))
           unfold pstep stepA
           rw [if_neg (by decide), if_neg (by decide), if_pos rfl, if_neg (by omega), if_pos q1]; rfl)
        | (rw [Int.toNat_natCast] at g0
           refine h1 3 its (cu.1, 1, cu.2.2.1, cu.2.2.2) ?_ (by omega) h' ⟨ro, co, le, _, g0, hF.keep h3 (by omega), hF.keep h4 (by omega), hF.keep h5 (by omega), ⟨bd1, bd2, bd3⟩, hlen, hcl, fun q => absurd q (by decide), fun _ => ⟨hl9, hag2.or rfl, hr, hl, fun q => absurd q (by decide)⟩⟩ (hF.wk (fun j => by omega))
           unfold pstep stepA
           rw [if_neg (by decide), if_neg (by decide), if_pos rfl, if_pos q1]; rfl)
    · skip
      refine ⟨_, rfl, ?_⟩
      refine r_iret (pc := 57) dX0_take_57 rfl ⟨Nat.le_of_ble_eq_true rfl, Nat.le_of_ble_eq_true rfl⟩ <| ?_
      first
        | (refine h0 ?_ h hw Fr.rf
           unfold pstep stepA
           rw [if_neg (by decide), if_neg (by decide), if_pos rfl, if_neg q2, if_neg (by omega)]; rfl)
        | (refine h1 4 its (cu.1, cu.2.1, k, cu.2.2.2) ?_ (by omega) h' ⟨ro, _, le, ab, hF.keep hB (by omega), hF.keep h3 (by omega), g4, hF.keep h5 (by omega), ⟨bd1, bd2.iu (by omega), bd3⟩, hlen, hcl.c, fun q => absurd q (by decide), fun _ => ⟨hl9, hag2.app rfl, hr, hl, fun _ => iu_s _ _ _⟩⟩ (hF.wk (fun j => by omega))
           unfold pstep stepA
           rw [if_neg (by decide), if_neg (by decide), if_pos rfl, if_neg (by omega), if_pos q1]; rfl)
        | (rw [Int.toNat_natCast] at g0
           refine h1 3 its (cu.1, 1, cu.2.2.1, cu.2.2.2) ?_ (by omega) h' ⟨ro, co, le, _, g0, hF.keep h3 (by omega), hF.keep h4 (by omega), hF.keep h5 (by omega), ⟨bd1, bd2, bd3⟩, hlen, hcl, fun q => absurd q (by decide), fun _ => ⟨hl9, hag2.or rfl, hr, hl, fun q => absurd q (by decide)⟩⟩ (hF.wk (fun j => by omega))
           unfold pstep stepA
           rw [if_neg (by decide), if_neg (by decide), if_pos rfl, if_pos q1]; rfl)
    · skip
      refine ⟨_, rfl, ?_⟩
      refine r_iret (pc := 57) dX0_take_57 rfl ⟨Nat.le_of_ble_eq_true rfl, Nat.le_of_ble_eq_true rfl⟩ <| ?_
      first
        | (refine h0 ?_ h hw Fr.rf
           unfold pstep stepA
           rw [if_neg (by decide), if_neg (by decide), if_pos rfl, if_neg q2, if_neg (by omega)]; rfl)
        | (refine h1 4 its (cu.1, cu.2.1, k, cu.2.2.2) ?_ (by omega) h' ⟨ro, _, le, ab, hF.keep hB (by omega), hF.keep h3 (by omega), g4, hF.keep h5 (by omega), ⟨bd1, bd2.iu (by omega), bd3⟩, hlen, hcl.c, fun q => absurd q (by decide), fun _ => ⟨hl9, hag2.app rfl, hr, hl, fun _ => iu_s _ _ _⟩⟩ (hF.wk (fun j => by omega))
           unfold pstep stepA
           rw [if_neg (by decide), if_neg (by decide), if_pos rfl, if_neg (by omega), if_pos q1]; rfl)
        | (rw [Int.toNat_natCast] at g0
           refine h1 3 its (cu.1, 1, cu.2.2.1, cu.2.2.2) ?_ (by omega) h' ⟨ro, co, le, _, g0, hF.keep h3 (by omega), hF.keep h4 (by omega), hF.keep h5 (by omega), ⟨bd1, bd2, bd3⟩, hlen, hcl, fun q => absurd q (by decide), fun _ => ⟨hl9, hag2.or rfl, hr, hl, fun q => absurd q (by decide)⟩⟩ (hF.wk (fun j => by omega))
           unfold pstep stepA
           rw [if_neg (by decide), if_neg (by decide), if_pos rfl, if_pos q1]; rfl)
  · skip
    refine r_tableIn (pc := 1) 58 dX0_take_1 (by omega) (by omega) (by rw [hs_1]; rfl) (by decide) ?_
    refine r_aload_n (pc := 58) dX0_take_58 rfl <| r_iload_n (pc := 59) dX0_take_59 rfl <| cVi [_] (pc := 60) dX0_take_60 k_X0_73 ⟨⟨Nat.le_of_ble_eq_true rfl, Nat.le_of_ble_eq_true rfl⟩, ⟨Nat.le_of_ble_eq_true rfl, Nat.le_of_ble_eq_true rfl⟩, Nat.le_of_ble_eq_true rfl⟩ ⟨rfl, rfl⟩ hB ?_
    subst hs_1
    obtain ⟨hl9, hag2, hr, hl, -⟩ := hag (by decide)
    refine sp_tC hB h4 hk (by omega) (by omega) (fun q1 => ?_) (fun q1 h' g4 hF => ?_)
    · skip
      refine ⟨_, rfl, ?_⟩
      refine r_iret (pc := 63) dX0_take_63 rfl ⟨Nat.le_of_ble_eq_true rfl, Nat.le_of_ble_eq_true rfl⟩ <| ?_
      first
        | (refine h0 ?_ h hw Fr.rf
           unfold pstep stepC
           rw [if_neg (by decide), if_neg (by decide), if_neg (by decide), if_pos rfl, if_neg (by omega)]; rfl)
        | (refine h1 4 its (cu.1, cu.2.1, k, cu.2.2.2) ?_ (by omega) h' ⟨ro, _, le, ab, hF.keep hB (by omega), hF.keep h3 (by omega), g4, hF.keep h5 (by omega), ⟨bd1, bd2.iu (by omega), bd3⟩, hlen, hcl.c, fun q => absurd q (by decide), fun _ => ⟨hl9, hag2.app rfl, hr, hl, fun _ => iu_s _ _ _⟩⟩ (hF.wk (fun j => by omega))
           unfold pstep stepC
           rw [if_neg (by decide), if_neg (by decide), if_neg (by decide), if_pos rfl, if_pos q1]; rfl)
    · skip
      refine ⟨_, rfl, ?_⟩
      refine r_iret (pc := 63) dX0_take_63 rfl ⟨Nat.le_of_ble_eq_true rfl, Nat.le_of_ble_eq_true rfl⟩ <| ?_
      first
        | (refine h0 ?_ h hw Fr.rf
           unfold pstep stepC
           rw [if_neg (by decide), if_neg (by decide), if_neg (by decide), if_pos rfl, if_neg (by omega)]; rfl)
        | (refine h1 4 its (cu.1, cu.2.1, k, cu.2.2.2) ?_ (by omega) h' ⟨ro, _, le, ab, hF.keep hB (by omega), hF.keep h3 (by omega), g4, hF.keep h5 (by omega), ⟨bd1, bd2.iu (by omega), bd3⟩, hlen, hcl.c, fun q => absurd q (by decide), fun _ => ⟨hl9, hag2.app rfl, hr, hl, fun _ => iu_s _ _ _⟩⟩ (hF.wk (fun j => by omega))
           unfold pstep stepC
           rw [if_neg (by decide), if_neg (by decide), if_neg (by decide), if_pos rfl, if_pos q1]; rfl)
  · skip
    refine r_tableIn (pc := 1) 64 dX0_take_1 (by omega) (by omega) (by rw [hs_1]; rfl) (by decide) ?_
    refine r_iload_n (pc := 64) dX0_take_64 rfl <| r_bipush (pc := 65) dX0_take_65 (by decide) <| r_icmp_ne (pc := 67) 77 dX0_take_67 (by decide) (by omega) (by omega) (fun hc_67 => ?_) (fun hc_67 => ?_)
    · skip
      refine r_aload_n (pc := 77) dX0_take_77 rfl <| r_iload_n (pc := 78) dX0_take_78 rfl <| cVi [_] (pc := 79) dX0_take_79 k_X0_79 ⟨⟨Nat.le_of_ble_eq_true rfl, Nat.le_of_ble_eq_true rfl⟩, ⟨Nat.le_of_ble_eq_true rfl, Nat.le_of_ble_eq_true rfl⟩, Nat.le_of_ble_eq_true rfl⟩ ⟨rfl, rfl⟩ hB ?_
      obtain ⟨hl9, hag2, hr, hl, hc⟩ := hag (by omega)
      refine sp_tE hB hk (fun q1 => ?_) (fun q1 h' g0 hF => ?_)
      · skip
        refine ⟨_, rfl, ?_⟩
        refine r_iret (pc := 82) dX0_take_82 rfl ⟨Nat.le_of_ble_eq_true rfl, Nat.le_of_ble_eq_true rfl⟩ <| ?_
        first
          | (refine h0 ?_ h hw Fr.rf
             unfold pstep
             rw [if_neg (by decide), if_neg (by decide), if_neg (by decide), if_neg (by decide), if_pos ⟨rfl, hc_67⟩, if_neg q1])
          | (refine h1 5 its (cu.1, cu.2.1, cu.2.2.1, va) ?_ (by omega) h' ⟨ro, co, _, ab, hF.keep hB (by omega), hF.keep h3 (by omega), hF.keep h4 (by omega), g5, ⟨bd1, bd2, bd3.iu (by omega)⟩, hlen, hcl.l, fun q => absurd q (by decide), fun _ => ⟨hl9, hag2.app rfl, hr, iu_s _ _ _, fun _ => hc (by decide)⟩⟩ (hF.wk (fun j => by omega))
             unfold pstep
             rw [if_neg (by decide), if_neg (by decide), if_neg (by decide), if_neg (by decide), if_pos ⟨rfl, hc_67⟩, if_pos q1])
          | (refine h0 ?_ h hw Fr.rf
             unfold pstep
             rw [if_neg (by omega), if_neg (by omega), if_neg (by omega), if_neg (by omega), if_neg (by omega), if_neg q1])
          | (refine h1 0 (its ++ [cu]) cu ?_ (by omega) h' ⟨ro, co, le, ab, by rw [g0]; simp, hF.keep h3 (by omega), hF.keep h4 (by omega), hF.keep h5 (by omega), ⟨bd1, bd2, bd3⟩, by simp; omega, hcl.push hr (hc (by omega)) hl, fun _ => hag2, fun q => absurd rfl q⟩ (hF.wk (fun j => by omega))
             unfold pstep
             rw [if_neg (by omega), if_neg (by omega), if_neg (by omega), if_neg (by omega), if_neg (by omega), if_pos q1])
      · skip
        refine ⟨_, rfl, ?_⟩
        refine r_iret (pc := 82) dX0_take_82 rfl ⟨Nat.le_of_ble_eq_true rfl, Nat.le_of_ble_eq_true rfl⟩ <| ?_
        first
          | (refine h0 ?_ h hw Fr.rf
             unfold pstep
             rw [if_neg (by decide), if_neg (by decide), if_neg (by decide), if_neg (by decide), if_pos ⟨rfl, hc_67⟩, if_neg q1])
          | (refine h1 5 its (cu.1, cu.2.1, cu.2.2.1, va) ?_ (by omega) h' ⟨ro, co, _, ab, hF.keep hB (by omega), hF.keep h3 (by omega), hF.keep h4 (by omega), g5, ⟨bd1, bd2, bd3.iu (by omega)⟩, hlen, hcl.l, fun q => absurd q (by decide), fun _ => ⟨hl9, hag2.app rfl, hr, iu_s _ _ _, fun _ => hc (by decide)⟩⟩ (hF.wk (fun j => by omega))
             unfold pstep
             rw [if_neg (by decide), if_neg (by decide), if_neg (by decide), if_neg (by decide), if_pos ⟨rfl, hc_67⟩, if_pos q1])
          | (refine h0 ?_ h hw Fr.rf
             unfold pstep
             rw [if_neg (by omega), if_neg (by omega), if_neg (by omega), if_neg (by omega), if_neg (by omega), if_neg q1])
          | (refine h1 0 (its ++ [cu]) cu ?_ (by omega) h' ⟨ro, co, le, ab, by rw [g0]; simp, hF.keep h3 (by omega), hF.keep h4 (by omega), hF.keep h5 (by omega), ⟨bd1, bd2, bd3⟩, by simp; omega, hcl.push hr (hc (by omega)) hl, fun _ => hag2, fun q => absurd rfl q⟩ (hF.wk (fun j => by omega))
             unfold pstep
             rw [if_neg (by omega), if_neg (by omega), if_neg (by omega), if_neg (by omega), if_neg (by omega), if_pos q1])
    · skip
      refine r_aload_n (pc := 70) dX0_take_70 rfl <| cVi [] (pc := 71) dX0_take_71 k_X0_76 ⟨⟨Nat.le_of_ble_eq_true rfl, Nat.le_of_ble_eq_true rfl⟩, ⟨Nat.le_of_ble_eq_true rfl, Nat.le_of_ble_eq_true rfl⟩, Nat.le_of_ble_eq_true rfl⟩ ⟨rfl, rfl⟩ hB ?_
      subst hs_1
      obtain ⟨hl9, hag2, hr, hl, hc⟩ := hag (by decide)
      refine sp_tL hB hT h5 (by omega) (hv (by omega)) (fun q1 => ?_) (fun q1 h' g5 hF => ?_)
      · skip
        refine ⟨_, rfl, ?_⟩
        refine r_goto (pc := 74) 82 dX0_take_74 (by decide) <| r_iret (pc := 82) dX0_take_82 rfl ⟨Nat.le_of_ble_eq_true rfl, Nat.le_of_ble_eq_true rfl⟩ <| ?_
        first
          | (refine h0 ?_ h hw Fr.rf
             unfold pstep
             rw [if_neg (by decide), if_neg (by decide), if_neg (by decide), if_neg (by decide), if_pos ⟨rfl, hc_67⟩, if_neg q1])
          | (refine h1 5 its (cu.1, cu.2.1, cu.2.2.1, va) ?_ (by omega) h' ⟨ro, co, _, ab, hF.keep hB (by omega), hF.keep h3 (by omega), hF.keep h4 (by omega), g5, ⟨bd1, bd2, bd3.iu (by omega)⟩, hlen, hcl.l, fun q => absurd q (by decide), fun _ => ⟨hl9, hag2.app rfl, hr, iu_s _ _ _, fun _ => hc (by decide)⟩⟩ (hF.wk (fun j => by omega))
             unfold pstep
             rw [if_neg (by decide), if_neg (by decide), if_neg (by decide), if_neg (by decide), if_pos ⟨rfl, hc_67⟩, if_pos q1])
          | (refine h0 ?_ h hw Fr.rf
             unfold pstep
             rw [if_neg (by omega), if_neg (by omega), if_neg (by omega), if_neg (by omega), if_neg (by omega), if_neg q1])
          | (refine h1 0 (its ++ [cu]) cu ?_ (by omega) h' ⟨ro, co, le, ab, by rw [g0]; simp, hF.keep h3 (by omega), hF.keep h4 (by omega), hF.keep h5 (by omega), ⟨bd1, bd2, bd3⟩, by simp; omega, hcl.push hr (hc (by omega)) hl, fun _ => hag2, fun q => absurd rfl q⟩ (hF.wk (fun j => by omega))
             unfold pstep
             rw [if_neg (by omega), if_neg (by omega), if_neg (by omega), if_neg (by omega), if_neg (by omega), if_pos q1])
      · skip
        refine ⟨_, rfl, ?_⟩
        refine r_goto (pc := 74) 82 dX0_take_74 (by decide) <| r_iret (pc := 82) dX0_take_82 rfl ⟨Nat.le_of_ble_eq_true rfl, Nat.le_of_ble_eq_true rfl⟩ <| ?_
        first
          | (refine h0 ?_ h hw Fr.rf
             unfold pstep
             rw [if_neg (by decide), if_neg (by decide), if_neg (by decide), if_neg (by decide), if_pos ⟨rfl, hc_67⟩, if_neg q1])
          | (refine h1 5 its (cu.1, cu.2.1, cu.2.2.1, va) ?_ (by omega) h' ⟨ro, co, _, ab, hF.keep hB (by omega), hF.keep h3 (by omega), hF.keep h4 (by omega), g5, ⟨bd1, bd2, bd3.iu (by omega)⟩, hlen, hcl.l, fun q => absurd q (by decide), fun _ => ⟨hl9, hag2.app rfl, hr, iu_s _ _ _, fun _ => hc (by decide)⟩⟩ (hF.wk (fun j => by omega))
             unfold pstep
             rw [if_neg (by decide), if_neg (by decide), if_neg (by decide), if_neg (by decide), if_pos ⟨rfl, hc_67⟩, if_pos q1])
          | (refine h0 ?_ h hw Fr.rf
             unfold pstep
             rw [if_neg (by omega), if_neg (by omega), if_neg (by omega), if_neg (by omega), if_neg (by omega), if_neg q1])
          | (refine h1 0 (its ++ [cu]) cu ?_ (by omega) h' ⟨ro, co, le, ab, by rw [g0]; simp, hF.keep h3 (by omega), hF.keep h4 (by omega), hF.keep h5 (by omega), ⟨bd1, bd2, bd3⟩, by simp; omega, hcl.push hr (hc (by omega)) hl, fun _ => hag2, fun q => absurd rfl q⟩ (hF.wk (fun j => by omega))
             unfold pstep
             rw [if_neg (by omega), if_neg (by omega), if_neg (by omega), if_neg (by omega), if_neg (by omega), if_pos q1])
  · skip
    refine r_tableIn (pc := 1) 83 dX0_take_1 (by omega) (by omega) (by rw [hs_1]; rfl) (by decide) ?_
    refine r_aload_n (pc := 83) dX0_take_83 rfl <| r_iload_n (pc := 84) dX0_take_84 rfl <| cVi [_] (pc := 85) dX0_take_85 k_X0_79 ⟨⟨Nat.le_of_ble_eq_true rfl, Nat.le_of_ble_eq_true rfl⟩, ⟨Nat.le_of_ble_eq_true rfl, Nat.le_of_ble_eq_true rfl⟩, Nat.le_of_ble_eq_true rfl⟩ ⟨rfl, rfl⟩ hB ?_
    obtain ⟨hl9, hag2, hr, hl, hc⟩ := hag (by omega)
    refine sp_tE hB hk (fun q1 => ?_) (fun q1 h' g0 hF => ?_)
    · skip
      refine ⟨_, rfl, ?_⟩
      refine r_iret (pc := 88) dX0_take_88 rfl ⟨Nat.le_of_ble_eq_true rfl, Nat.le_of_ble_eq_true rfl⟩ <| ?_
      first
        | (refine h0 ?_ h hw Fr.rf
           unfold pstep
           rw [if_neg (by omega), if_neg (by omega), if_neg (by omega), if_neg (by omega), if_neg (by omega), if_neg q1])
        | (refine h1 0 (its ++ [cu]) cu ?_ (by omega) h' ⟨ro, co, le, ab, by rw [g0]; simp, hF.keep h3 (by omega), hF.keep h4 (by omega), hF.keep h5 (by omega), ⟨bd1, bd2, bd3⟩, by simp; omega, hcl.push hr (hc (by omega)) hl, fun _ => hag2, fun q => absurd rfl q⟩ (hF.wk (fun j => by omega))
           unfold pstep
           rw [if_neg (by omega), if_neg (by omega), if_neg (by omega), if_neg (by omega), if_neg (by omega), if_pos q1])
    · skip
      refine ⟨_, rfl, ?_⟩
      refine r_iret (pc := 88) dX0_take_88 rfl ⟨Nat.le_of_ble_eq_true rfl, Nat.le_of_ble_eq_true rfl⟩ <| ?_
      first
        | (refine h0 ?_ h hw Fr.rf
           unfold pstep
           rw [if_neg (by omega), if_neg (by omega), if_neg (by omega), if_neg (by omega), if_neg (by omega), if_neg q1])
        | (refine h1 0 (its ++ [cu]) cu ?_ (by omega) h' ⟨ro, co, le, ab, by rw [g0]; simp, hF.keep h3 (by omega), hF.keep h4 (by omega), hF.keep h5 (by omega), ⟨bd1, bd2, bd3⟩, by simp; omega, hcl.push hr (hc (by omega)) hl, fun _ => hag2, fun q => absurd rfl q⟩ (hF.wk (fun j => by omega))
           unfold pstep
           rw [if_neg (by omega), if_neg (by omega), if_neg (by omega), if_neg (by omega), if_neg (by omega), if_pos q1])
  · skip
    exfalso; omega
end BK2

