/-! ===== the model: through, avoid ===== -/
section MTh
variable {G : GT} {n : Nat} {h : Hp} {Q : PT} {s : SS} {e : Nat → Int} {it : Int → Int}
theorem isM.e45 (hM : isM h s) (h0 : h 45 = some (aO 9 (mF e))) : (e 4 = s.up ∧ e 5 = s.dn) ∧ -10000 ≤ e 9 ∧ e 9 ≤ 10000 := by
  obtain ⟨e0, it, im, kp, rf, hd, ln, gs, bs, cs, fr, lf, g45, ge, g9, -⟩ := hM
  rw [h0] at g45
  have hfs : mF e = mF e0 := by
    have := Option.some.inj g45
    simp only [aO, Sum.inr.injEq, Sum.inl.injEq, Prod.mk.injEq, true_and] at this
    exact this
  have h4 : e 4 = e0 4 := by
    have := congrArg (fun l : List AV => l[4]?) hfs
    simpa [mF, vI] using this
  have h5 : e 5 = e0 5 := by
    have := congrArg (fun l : List AV => l[5]?) hfs
    simpa [mF, vI] using this
  have h9 : e 9 = e0 9 := by
    have := congrArg (fun l : List AV => l[9]?) hfs
    simpa [mF, vI] using this
  rw [h4, h5, h9]
  exact ⟨ge, g9⟩
def szM (j : Nat) : Nat := if j = 51 then 128 else if j = 55 ∨ j = 56 then 6 else if j = 57 then 64 else 8
theorem isM.sc (hM : isM h s) : ∀ j, 51 ≤ j → j < 58 → ∃ f, h j = some (aA (szM j) f) := by
  obtain ⟨e, it, im, kp, rf, hd, ln, gs, bs, cs, fr, lf, g45, ge, g9, g46, g47, g48, g49, g50, gi, g51, g52, g53, g54, g55, g56, g57, gr⟩ := hM
  intro j h1 h2
  rcases (show j = 51 ∨ j = 52 ∨ j = 53 ∨ j = 54 ∨ j = 55 ∨ j = 56 ∨ j = 57 by omega) with rfl | rfl | rfl | rfl | rfl | rfl | rfl
  · exact ⟨_, g51⟩
  · exact ⟨_, g52⟩
  · exact ⟨_, g53⟩
  · exact ⟨_, g54⟩
  · exact ⟨_, g55⟩
  · exact ⟨_, g56⟩
  · exact ⟨_, g57⟩
theorem isM.gen2 {h' : Hp} {e' : Nat → Int} {it' bk' : Int → Int} (hM : isM h s) (k45 : h' 45 = some (aO 9 (mF e'))) (he : e' 4 = s.up ∧ e' 5 = s.dn) (h9 : -10000 ≤ e' 9 ∧ e' 9 ≤ 10000) (k46 : h' 46 = some (aA 480 bk')) (k50 : h' 50 = some (aA 40 it')) (ki : itOk it') (ks : ∀ j, 51 ≤ j → j < 58 → h' j = h j ∨ ∃ f, h' j = some (aA (szM j) f)) (hF : Fr (fun q => q = 45 ∨ q = 46 ∨ (50 ≤ q ∧ q < 58)) h h') : isM h' (s.sbk bk') := by
  have hs := hM.sc
  have key : ∀ j, 51 ≤ j → j < 58 → ∃ f, h' j = some (aA (szM j) f) := by
    intro j h1 h2
    rcases ks j h1 h2 with e1 | e1
    · rw [e1]; exact hs j h1 h2
    · exact e1
  exact hM.gen k45 he h9 k46 k50 ki (key 51 (by omega) (by omega)) (key 52 (by omega) (by omega)) (key 53 (by omega) (by omega)) (key 54 (by omega) (by omega)) (key 55 (by omega) (by omega)) (key 56 (by omega) (by omega)) (key 57 (by omega) (by omega)) hF
/-- the model at work: its own fields and items are known -/
def wM (h : Hp) (s : SS) (e : Nat → Int) (it : Int → Int) : Prop := isM h s ∧ h 45 = some (aO 9 (mF e)) ∧ h 46 = some (aA 480 s.bk) ∧ h 50 = some (aA 40 it) ∧ itOk it ∧ (0 ≤ e 11 ∧ e 11 ≤ 9) ∧ (0 ≤ e 12 ∧ e 12 < 512)
theorem wM.up {h' : Hp} {e' : Nat → Int} {it' : Int → Int} (hW : wM h s e it) (k45 : h' 45 = some (aO 9 (mF e'))) (he : e' 4 = e 4 ∧ e' 5 = e 5 ∧ e' 9 = e 9) (k46 : h' 46 = some (aA 480 s.bk)) (k50 : h' 50 = some (aA 40 it')) (ki : itOk it') (h11 : 0 ≤ e' 11 ∧ e' 11 ≤ 9) (h12 : 0 ≤ e' 12 ∧ e' 12 < 512) (ks : ∀ j, 51 ≤ j → j < 58 → h' j = h j ∨ ∃ f, h' j = some (aA (szM j) f)) (hF : Fr (fun q => q = 45 ∨ q = 46 ∨ (50 ≤ q ∧ q < 58)) h h') : wM h' s e' it' := by
  obtain ⟨hM, w45, w46, w50, wi, w11, w12⟩ := hW
  obtain ⟨⟨x4, x5⟩, x9⟩ := hM.e45 w45
  exact ⟨hM.gen2 k45 (by omega) (by omega) k46 k50 ki ks hF, k45, k46, k50, ki, h11, h12⟩
theorem wm_reads (hM : isM h s) (hI : Inv s.bk)
    (h1 : okB s.bk → ∀ h' e it, wM h' s e it → itRel it (itB s.bk) → e 11 = (itB s.bk).length → (itB s.bk).length ≤ 9 → e 12 = 0 → Fr MR h h' → Q (some (vI 1)) n h')
    (h0 : ¬ okB s.bk → ∀ h', isM h' s → Fr MR h h' → Q (some (vI 0)) n h') : Cl G mX9_reads [vR 45] n h Q := by
  refine ms_reads hM hI (fun q3 h1' e1 it1 m1 m2 m3 m4 m5 m6 m7 m8 m9 m10 => ?_) (fun q3 h1' e1 m1 m2 m3 m10 => ?_)
  · exact h1 q3 h1' e1 it1 ⟨m1, m2, m3, m4, m5, by omega, by omega⟩ m6 m7.1 m7.2 m8 m10
  · exact h0 q3 h1' m1 m10
theorem wm_lines {w : Int} (hW : wM h s e it) (hI : Inv s.bk) (hw : inI w) (hQ : ∀ h' ln, wM h' s (nu e 17 ((qL s.bk w).length : Nat)) it → h' 52 = some (aA 8 ln) → arL ln 0 (qL s.bk w) → Fr (fun j => j = 45 ∨ j = 52) h h' → Q none n h') : Cl G mX9_lines [vR 45, vI w] n h Q := by
  obtain ⟨ln, k52⟩ := hW.1.sc 52 (by omega) (by omega)
  refine sp_lines hI hw hW.2.1 hW.2.2.1 k52 (fun h2 ln2 a1 a2 a3 a4 => hQ h2 ln2 ?_ a2 a3 a4)
  exact hW.up a1 ⟨rfl, rfl, rfl⟩ (a4.keep hW.2.2.1 (by omega)) (a4.keep hW.2.2.2.1 (by omega)) hW.2.2.2.2.1 hW.2.2.2.2.2.1 hW.2.2.2.2.2.2 (fun j j1 j2 => by
    by_cases e1 : j = 52
    · subst e1; exact Or.inr ⟨_, a2⟩
    · exact Or.inl (a4 j (by omega))) (a4.wk (fun j => by omega))
theorem wm_lets {L : List Int} {ln : Int → Int} (hW : wM h s e it) (hI : Inv s.bk) (g52 : h 52 = some (aA 8 ln)) (h17 : e 17 = L.length) (hlen : L.length ≤ 8) (hln : arL ln 0 L) (hL : ∀ y ∈ L, 0 ≤ y ∧ y < 8) (hnd : L.Nodup)
    (hQ : ∀ h' e' gs', wM h' s e' it → (∀ j, j ≠ 13 → j ≠ 14 → e' j = e j) → h' 53 = some (aA 8 gs') → (∀ q, passL (talkF (nmB s.bk) it (e 11) (e 12)) L = some q → arL gs' 0 q.2) → Fr (fun j => j = 45 ∨ j = 46 ∨ j = 51 ∨ j = 53) h h' → Q (some (vI (minL (passL (talkF (nmB s.bk) it (e 11) (e 12)) L)))) n h') : Cl G mX9_lets [vR 45] n h Q := by
  obtain ⟨hd, k51⟩ := hW.1.sc 51 (by omega) (by omega)
  obtain ⟨gs, k53⟩ := hW.1.sc 53 (by omega) (by omega)
  refine sp_lets hI hW.2.2.2.2.1 hW.2.2.2.2.2.1 hW.2.2.2.2.2.2 hW.2.1 hW.2.2.1 hW.2.2.2.1 k51 g52 k53 h17 hlen hln hL hnd (fun h3 e3 hd3 gs3 b1 b2 b3 b4 b5 b6 b7 => hQ h3 e3 gs3 ?_ b2 b5 b6 b7)
  exact hW.up b1 ⟨b2 4 (by decide) (by decide), b2 5 (by decide) (by decide), b2 9 (by decide) (by decide)⟩ b3 (b7.keep hW.2.2.2.1 (by omega)) hW.2.2.2.2.1 (by rw [b2 11 (by decide) (by decide)]; exact hW.2.2.2.2.2.1) (by rw [b2 12 (by decide) (by decide)]; exact hW.2.2.2.2.2.2) (fun j j1 j2 => by
    by_cases e1 : j = 51
    · subst e1; exact Or.inr ⟨_, b4⟩
    · by_cases e2 : j = 53
      · subst e2; exact Or.inr ⟨_, b5⟩
      · exact Or.inl (b7 j (by omega))) (b7.wk (fun j => by omega))
theorem minL_in {bk : Int → Int} {L : List Int} (hl : L.length ≤ 8) : -1 ≤ minL (passL (TB bk) L) ∧ minL (passL (TB bk) L) ≤ 90 ∧ (minL (passL (TB bk) L) = -1 ↔ passL (TB bk) L = none) := by
  rcases hp : passL (TB bk) L with _ | q
  · exact ⟨by decide, by decide, ⟨fun _ => rfl, fun _ => rfl⟩⟩
  · have := passL_in (TB_r bk) hl hp
    refine ⟨?_, ?_, ⟨fun h => ?_, fun h => by cases h⟩⟩
    · show -1 ≤ q.1; omega
    · show q.1 ≤ 90; omega
    · exfalso
      have : q.1 = -1 := h
      omega
theorem qL_all {bk : Int → Int} (hI : Inv bk) : (((qL bk (-1)).length : Nat) : Int) = bk 2 := by
  have i2 := hI.1.2.2.1
  have := @qF_all bk (-1) (bk 2).toNat 0 (fun j j1 j2 => by have := hI.2.2.2.2.2.2.1.1 j j1 (by omega); omega)
  show (((qF bk (-1) (bk 2).toNat 0).length : Nat) : Int) = bk 2
  omega
theorem ms_through {i : Int} (hM : isM h s) (hI : Inv s.bk) (hi : inI i) (hQ : ∀ h', isM h' (fThrough s i).2 → Fr MR h h' → Q (some (vI (fThrough s i).1)) n h') : Cl G mX9_through [vR 45, vI i] n h Q := by
  obtain ⟨e, it, g45, ge, g9, g46, -⟩ := id hM.raw
  have hM' := g45
  unfold mF at hM'
  have i0 := hI.1.1
  have i2 := hI.1.2.2.1
  have hq3 := qL_all hI
  have hmi := @minL_in s.bk (qL s.bk (-1)) (by omega)
  obtain ⟨qa, qb, qc⟩ := qL_ok hI (-1)
  unfold fThrough at hQ
  refine cl_of (by decide) (Nat.le_of_ble_eq_true rfl) rfl ?_
  refine r_iload_n (pc := 0) dX9_through_0 rfl <| r_iconst (pc := 1) dX9_through_1 <| r_icmp_ge (pc := 2) 13 dX9_through_2 (by decide) (by omega) (by omega) (fun hc_2 => ?_) (fun hc_2 => ?_)
  · skip
    refine r_aload_n (pc := 13) dX9_through_13 rfl <| cVi [] (pc := 14) dX9_through_14 k_X9_145 ⟨⟨Nat.le_of_ble_eq_true rfl, Nat.le_of_ble_eq_true rfl⟩, ⟨Nat.le_of_ble_eq_true rfl, Nat.le_of_ble_eq_true rfl⟩, Nat.le_of_ble_eq_true rfl⟩ ⟨rfl, rfl⟩ hM' ?_
    refine wm_reads hM hI (fun q3 h1 e1 it1 m1 m6 m7 m7' m8 m10 => ?_) (fun q3 h1 m1 m10 => ?_)
    · skip
      refine ⟨_, rfl, ?_⟩
      clear hM' g45
      first
        | (have g45 := m1.2.1; have hM' := g45; unfold mF at hM')
        | (obtain ⟨e1, it1, g45, -⟩ := id m1.raw; have hM' := g45; unfold mF at hM')
      refine r_if_ne (pc := 17) 28 dX9_through_17 (by decide) (by decide) (fun _ => ?_) (fun q => absurd q (by decide))
      rw [if_neg (by omega), if_neg (fun q => q q3)] at hQ
      refine r_aload_n (pc := 28) dX9_through_28 rfl <| r_iconst (pc := 29) dX9_through_29 <| cVv [_] (pc := 30) dX9_through_30 k_X9_187 ⟨⟨Nat.le_of_ble_eq_true rfl, Nat.le_of_ble_eq_true rfl⟩, ⟨Nat.le_of_ble_eq_true rfl, Nat.le_of_ble_eq_true rfl⟩, Nat.le_of_ble_eq_true rfl⟩ ⟨rfl, rfl⟩ hM' ?_
      refine wm_lines m1 hI (by omega) (fun h2 ln2 a1 a2 a3 a4 => ?_)
      refine ⟨rfl, ?_⟩
      clear hM'
      have hM' : h2 45 = some (aO 9 [vR 46, vR 47, vR 48, vR 49, vI (e1 4), vI (e1 5), vI (e1 6), vI (e1 7), vI (e1 8), vI (e1 9), vR 50, vI (e1 11), vI (e1 12), vI (e1 13), vI (e1 14), vR 51, vR 52, vI (((qL s.bk (-1)).length : Nat)), vR 53, vR 54, vR 55, vR 56, vR 57]) := a1.2.1
      refine r_aload_n (pc := 33) dX9_through_33 rfl <| cVi [] (pc := 34) dX9_through_34 k_X9_191 ⟨⟨Nat.le_of_ble_eq_true rfl, Nat.le_of_ble_eq_true rfl⟩, ⟨Nat.le_of_ble_eq_true rfl, Nat.le_of_ble_eq_true rfl⟩, Nat.le_of_ble_eq_true rfl⟩ ⟨rfl, rfl⟩ hM' ?_
      refine wm_lets a1 hI a2 rfl (by omega) a3 (fun y hy => by have := (qb y hy).1; omega) qa (fun h3 e3 gs3 b1 b2 b5 b6 b7 => ?_)
      have eT : talkF (nmB s.bk) it1 ((nu e1 17 ((qL s.bk (-1)).length : Nat)) 11) ((nu e1 17 ((qL s.bk (-1)).length : Nat)) 12) = TB s.bk := TB_fun m6 m7 m8
      rw [eT] at b6 ⊢
      refine ⟨_, rfl, ?_⟩
      clear hM'
      have hM' := b1.2.1
      unfold mF at hM'
      have h17 : e3 17 = s.bk 2 := (b2 17 (by decide) (by decide)).trans hq3
      have hF : Fr MR h h3 := fun j hj => (b7 j (by omega)).trans ((a4 j (by omega)).trans (m10 j hj))
      refine r_istoren_2 (pc := 37) dX9_through_37 rfl <| r_iload_n (pc := 38) dX9_through_38 rfl <| r_iconst (pc := 39) dX9_through_39 <| r_icmp_eq (pc := 40) 48 dX9_through_40 (by decide) (by omega) (by omega) (fun hc_40 => ?_) (fun hc_40 => ?_)
      · skip
        refine r_iload_n (pc := 48) dX9_through_48 rfl <| r_goto (pc := 49) 71 dX9_through_49 (by decide) <| r_iret (pc := 71) dX9_through_71 rfl ⟨Nat.le_of_ble_eq_true rfl, Nat.le_of_ble_eq_true rfl⟩ <| ?_
        rcases hp : passL (TB s.bk) (qL s.bk (-1)) with _ | q
        · rw [hp] at hQ hmi
          have e1 : minL (none : Option (Int × List Int)) = -1 := rfl
          first
            | (exfalso; rw [hp] at hc_40; omega)
            | exact hQ _ b1.1 hF
        · rw [hp] at hQ hmi
          have e1 : minL (some q) = q.1 := rfl
          have hne : ¬ q.1 = -1 := fun h => by have := hmi.2.2.mp h; cases this
          have hl := passL_len hp
          rw [hp] at hc_40
          first
            | (refine qI ?_ (hQ _ b1.1 hF)
               dsimp only
               first
                 | (rw [if_pos (by omega)]; first | done | rfl)
                 | (rw [if_neg (by omega), if_pos (by omega)]; exact getL (b6 q hp) (by omega) (by omega))
                 | (rw [if_neg (by omega), if_neg (by omega)]))
            | (exfalso; omega)
      · skip
        refine r_iload_n (pc := 43) dX9_through_43 rfl <| r_iconst (pc := 44) dX9_through_44 <| r_icmp_ne (pc := 45) 52 dX9_through_45 (by decide) (by omega) (by omega) (fun hc_45 => ?_) (fun hc_45 => ?_)
        · skip
          refine r_iload_n (pc := 52) dX9_through_52 rfl <| r_aload_n (pc := 53) dX9_through_53 rfl <| r_getf (pc := 54) dX9_through_54 fA_X9_178 hM' rfl <| r_icmp_ge (pc := 57) 69 dX9_through_57 (by decide) (by omega) (by omega) (fun hc_57 => ?_) (fun hc_57 => ?_)
          · skip
            refine r_bipush (pc := 69) dX9_through_69 (by decide) <| r_iret (pc := 71) dX9_through_71 rfl ⟨Nat.le_of_ble_eq_true rfl, Nat.le_of_ble_eq_true rfl⟩ <| ?_
            rcases hp : passL (TB s.bk) (qL s.bk (-1)) with _ | q
            · rw [hp] at hQ hmi
              have e1 : minL (none : Option (Int × List Int)) = -1 := rfl
              first
                | (exfalso; rw [hp] at hc_40; omega)
                | exact hQ _ b1.1 hF
            · rw [hp] at hQ hmi
              have e1 : minL (some q) = q.1 := rfl
              have hne : ¬ q.1 = -1 := fun h => by have := hmi.2.2.mp h; cases this
              have hl := passL_len hp
              rw [hp] at hc_40
              first
                | (refine qI ?_ (hQ _ b1.1 hF)
                   dsimp only
                   first
                     | (rw [if_pos (by omega)]; first | done | rfl)
                     | (rw [if_neg (by omega), if_pos (by omega)]; exact getL (b6 q hp) (by omega) (by omega))
                     | (rw [if_neg (by omega), if_neg (by omega)]))
                | (exfalso; omega)
          · skip
            refine r_aload_n (pc := 60) dX9_through_60 rfl <| r_getf (pc := 61) dX9_through_61 fA_X9_32 hM' rfl <| r_iload_n (pc := 64) dX9_through_64 rfl <| r_iald (pc := 65) dX9_through_65 b5 (by omega) (by decide) <| r_goto (pc := 66) 71 dX9_through_66 (by decide) <| r_iret (pc := 71) dX9_through_71 rfl ⟨Nat.le_of_ble_eq_true rfl, Nat.le_of_ble_eq_true rfl⟩ <| ?_
            rcases hp : passL (TB s.bk) (qL s.bk (-1)) with _ | q
            · rw [hp] at hQ hmi
              have e1 : minL (none : Option (Int × List Int)) = -1 := rfl
              first
                | (exfalso; rw [hp] at hc_40; omega)
                | exact hQ _ b1.1 hF
            · rw [hp] at hQ hmi
              have e1 : minL (some q) = q.1 := rfl
              have hne : ¬ q.1 = -1 := fun h => by have := hmi.2.2.mp h; cases this
              have hl := passL_len hp
              rw [hp] at hc_40
              first
                | (refine qI ?_ (hQ _ b1.1 hF)
                   dsimp only
                   first
                     | (rw [if_pos (by omega)]; first | done | rfl)
                     | (rw [if_neg (by omega), if_pos (by omega)]; exact getL (b6 q hp) (by omega) (by omega))
                     | (rw [if_neg (by omega), if_neg (by omega)]))
                | (exfalso; omega)
        · skip
          refine r_iload_n (pc := 48) dX9_through_48 rfl <| r_goto (pc := 49) 71 dX9_through_49 (by decide) <| r_iret (pc := 71) dX9_through_71 rfl ⟨Nat.le_of_ble_eq_true rfl, Nat.le_of_ble_eq_true rfl⟩ <| ?_
          rcases hp : passL (TB s.bk) (qL s.bk (-1)) with _ | q
          · rw [hp] at hQ hmi
            have e1 : minL (none : Option (Int × List Int)) = -1 := rfl
            first
              | (exfalso; rw [hp] at hc_40; omega)
              | exact hQ _ b1.1 hF
          · rw [hp] at hQ hmi
            have e1 : minL (some q) = q.1 := rfl
            have hne : ¬ q.1 = -1 := fun h => by have := hmi.2.2.mp h; cases this
            have hl := passL_len hp
            rw [hp] at hc_40
            first
              | (refine qI ?_ (hQ _ b1.1 hF)
                 dsimp only
                 first
                   | (rw [if_pos (by omega)]; first | done | rfl)
                   | (rw [if_neg (by omega), if_pos (by omega)]; exact getL (b6 q hp) (by omega) (by omega))
                   | (rw [if_neg (by omega), if_neg (by omega)]))
              | (exfalso; omega)
    · skip
      refine ⟨_, rfl, ?_⟩
      clear hM' g45
      first
        | (have g45 := m1.2.1; have hM' := g45; unfold mF at hM')
        | (obtain ⟨e1, it1, g45, -⟩ := id m1.raw; have hM' := g45; unfold mF at hM')
      refine r_if_ne (pc := 17) 28 dX9_through_17 (by decide) (by decide) (fun q => absurd q (by decide)) (fun _ => ?_)
      refine r_aload_n (pc := 20) dX9_through_20 rfl <| r_iconst (pc := 21) dX9_through_21 <| r_bipush (pc := 22) dX9_through_22 (by decide) <| cVi [_, _] (pc := 24) dX9_through_24 k_X9_51 ⟨⟨Nat.le_of_ble_eq_true rfl, Nat.le_of_ble_eq_true rfl⟩, ⟨Nat.le_of_ble_eq_true rfl, Nat.le_of_ble_eq_true rfl⟩, Nat.le_of_ble_eq_true rfl⟩ ⟨rfl, rfl⟩ hM' ?_
      refine ms_refuse m1 1 (by omega) (fun h2 g1 g2 => ?_)
      refine ⟨_, rfl, ?_⟩
      refine r_iret (pc := 27) dX9_through_27 rfl ⟨Nat.le_of_ble_eq_true rfl, Nat.le_of_ble_eq_true rfl⟩ <| ?_
      rw [if_neg (by omega), if_pos q3] at hQ; exact hQ _ g1 (fun j hj => (g2 j hj).trans (m10 j hj))
  · skip
    refine r_aload_n (pc := 5) dX9_through_5 rfl <| r_iconst (pc := 6) dX9_through_6 <| r_bipush (pc := 7) dX9_through_7 (by decide) <| cVi [_, _] (pc := 9) dX9_through_9 k_X9_51 ⟨⟨Nat.le_of_ble_eq_true rfl, Nat.le_of_ble_eq_true rfl⟩, ⟨Nat.le_of_ble_eq_true rfl, Nat.le_of_ble_eq_true rfl⟩, Nat.le_of_ble_eq_true rfl⟩ ⟨rfl, rfl⟩ hM' ?_
    refine ms_refuse hM 0 (by omega) (fun h1 g1 g2 => ?_)
    refine ⟨_, rfl, ?_⟩
    refine r_iret (pc := 12) dX9_through_12 rfl ⟨Nat.le_of_ble_eq_true rfl, Nat.le_of_ble_eq_true rfl⟩ <| ?_
    rw [if_pos (by omega)] at hQ; exact hQ _ g1 g2
/-- whom to avoid -/
def avG (T : Int → Int → Int × Int × Int) (bk : Int → Int) : Nat → Int → Int → Int → Int
  | 0, _, f, _ => f
  | q + 1, k, f, l => if f = -1 ∨ (if minL (passL T (qL bk (bk (164 + k)))) = -1 then 999 else minL (passL T (qL bk (bk (164 + k))))) < l then avG T bk q (k + 1) (bk (164 + k)) (if minL (passL T (qL bk (bk (164 + k)))) = -1 then 999 else minL (passL T (qL bk (bk (164 + k))))) else avG T bk q (k + 1) f l
def fAvoid (s : SS) : Int × SS := if ¬ okB s.bk then (-3, s.no) else (avG (TB s.bk) s.bk (s.bk 2).toNat 0 (-1) 0, s)
theorem lp_avoid {m : Int} (hI : Inv s.bk) (hT : talkF (nmB s.bk) it m 0 = TB s.bk) : ∀ (q : Nat) (k f l : Int) (h : Hp) (e : Nat → Int) (l4 : AV), 0 ≤ k → k + q = s.bk 2 → wM h s e it → e 11 = m → e 12 = 0 → (-1 ≤ f ∧ f < 8) → (0 ≤ l ∧ l ≤ 999) →
    (∀ h', isM h' s → Fr MR h h' → Q (some (vI (avG (TB s.bk) s.bk q k f l))) n h') → At G mX9_avoid 18 [vR 45, vI f, vI l, vI k, l4] [] (0, 0, n) h Q := by
  have i0 := hI.1.1
  have i2 := hI.1.2.2.1
  intro q
  induction q with
  | zero =>
    intro k f l h e l4 hk hq hW h11 h12 hf hl hQ
    have hM' := hW.2.1
    unfold mF at hM'
    have g46 := hW.2.2.1
    refine r_iload_n (pc := 18) dX9_avoid_18 rfl <| r_aload_n (pc := 19) dX9_avoid_19 rfl <| r_getf (pc := 20) dX9_avoid_20 fA_X9_7 hM' rfl <| r_iconst (pc := 23) dX9_avoid_23 <| r_iald (pc := 24) dX9_avoid_24 g46 (by omega) (by decide) <| r_icmp_ge (pc := 25) 95 dX9_avoid_25 (by decide) (by omega) (by omega) (fun hc_25 => ?_) (fun hc_25 => ?_)
    · skip
      refine r_iload_n (pc := 95) dX9_avoid_95 rfl <| r_iret (pc := 96) dX9_avoid_96 rfl ⟨Nat.le_of_ble_eq_true rfl, Nat.le_of_ble_eq_true rfl⟩ <| ?_
      exact hQ _ hW.1 Fr.rf
    · skip
      exfalso; omega
  | succ q ih =>
    intro k f l h e l4 hk hq hW h11 h12 hf hl hQ
    have hM' := hW.2.1
    unfold mF at hM'
    have g46 := hW.2.2.1
    have bq := hI.2.2.2.2.2.2.1.1 k hk (by omega)
    obtain ⟨qa, qb, qc⟩ := qL_ok hI (s.bk (164 + k))
    have hmi := @minL_in s.bk (qL s.bk (s.bk (164 + k))) (by omega)
    simp only [avG] at hQ
    refine r_iload_n (pc := 18) dX9_avoid_18 rfl <| r_aload_n (pc := 19) dX9_avoid_19 rfl <| r_getf (pc := 20) dX9_avoid_20 fA_X9_7 hM' rfl <| r_iconst (pc := 23) dX9_avoid_23 <| r_iald (pc := 24) dX9_avoid_24 g46 (by omega) (by decide) <| r_icmp_ge (pc := 25) 95 dX9_avoid_25 (by decide) (by omega) (by omega) (fun hc_25 => ?_) (fun hc_25 => ?_)
    · skip
      exfalso; omega
    · skip
      refine r_aload_n (pc := 28) dX9_avoid_28 rfl <| r_aload_n (pc := 29) dX9_avoid_29 rfl <| r_getf (pc := 30) dX9_avoid_30 fA_X9_7 hM' rfl <| r_sipush (pc := 33) dX9_avoid_33 (by decide) <| r_iload_n (pc := 36) dX9_avoid_36 rfl <| r_iadd (pc := 37) dX9_avoid_37 <| r_iald (pc := 38) dX9_avoid_38 g46 (by omega) (by decide) <| cVv [_] (pc := 39) dX9_avoid_39 k_X9_187 ⟨⟨Nat.le_of_ble_eq_true rfl, Nat.le_of_ble_eq_true rfl⟩, ⟨Nat.le_of_ble_eq_true rfl, Nat.le_of_ble_eq_true rfl⟩, Nat.le_of_ble_eq_true rfl⟩ ⟨rfl, rfl⟩ hM' ?_
      refine wm_lines hW hI (by omega) (fun h2 ln2 a1 a2 a3 a4 => ?_)
      refine ⟨rfl, ?_⟩
      clear hM'
      have hM' : h2 45 = some (aO 9 [vR 46, vR 47, vR 48, vR 49, vI (e 4), vI (e 5), vI (e 6), vI (e 7), vI (e 8), vI (e 9), vR 50, vI (e 11), vI (e 12), vI (e 13), vI (e 14), vR 51, vR 52, vI (((qL s.bk (s.bk (164 + k))).length : Nat)), vR 53, vR 54, vR 55, vR 56, vR 57]) := a1.2.1
      refine r_aload_n (pc := 42) dX9_avoid_42 rfl <| cVi [] (pc := 43) dX9_avoid_43 k_X9_191 ⟨⟨Nat.le_of_ble_eq_true rfl, Nat.le_of_ble_eq_true rfl⟩, ⟨Nat.le_of_ble_eq_true rfl, Nat.le_of_ble_eq_true rfl⟩, Nat.le_of_ble_eq_true rfl⟩ ⟨rfl, rfl⟩ hM' ?_
      refine wm_lets a1 hI a2 rfl (by omega) a3 (fun y hy => by have := (qb y hy).1; omega) qa (fun h3 e3 gs3 b1 b2 b5 b6 b7 => ?_)
      have eT : talkF (nmB s.bk) it ((nu e 17 ((qL s.bk (s.bk (164 + k))).length : Nat)) 11) ((nu e 17 ((qL s.bk (s.bk (164 + k))).length : Nat)) 12) = TB s.bk := by rw [← hT, ← h11, ← h12]; rfl
      rw [eT] at b6 ⊢
      refine ⟨_, rfl, ?_⟩
      clear hM' g46
      have hM' := b1.2.1
      unfold mF at hM'
      have g46 := b1.2.2.1
      have hF : Fr MR h h3 := fun j hj => (b7 j (by omega)).trans (a4 j (by omega))
      have k11 : e3 11 = m := (b2 11 (by decide) (by decide)).trans h11
      have k12 : e3 12 = 0 := (b2 12 (by decide) (by decide)).trans h12
      refine r_istore_4 (pc := 46) dX9_avoid_46 rfl <| r_iload (pc := 48) dX9_avoid_48 rfl <| r_iconst (pc := 50) dX9_avoid_50 <| r_icmp_ne (pc := 51) 60 dX9_avoid_51 (by decide) (by omega) (by omega) (fun hc_51 => ?_) (fun hc_51 => ?_)
      · skip
        refine r_iload (pc := 60) dX9_avoid_60 rfl <| r_istore_4 (pc := 62) dX9_avoid_62 rfl <| r_iload_n (pc := 64) dX9_avoid_64 rfl <| r_iconst (pc := 65) dX9_avoid_65 <| r_icmp_eq (pc := 66) 75 dX9_avoid_66 (by decide) (by omega) (by omega) (fun hc_66 => ?_) (fun hc_66 => ?_)
        · skip
          refine r_aload_n (pc := 75) dX9_avoid_75 rfl <| r_getf (pc := 76) dX9_avoid_76 fA_X9_7 hM' rfl <| r_sipush (pc := 79) dX9_avoid_79 (by decide) <| r_iload_n (pc := 82) dX9_avoid_82 rfl <| r_iadd (pc := 83) dX9_avoid_83 <| r_iald (pc := 84) dX9_avoid_84 g46 (by omega) (by decide) <| r_istoren_1 (pc := 85) dX9_avoid_85 rfl <| r_iload (pc := 86) dX9_avoid_86 rfl <| r_istoren_2 (pc := 88) dX9_avoid_88 rfl <| r_iinc_3 (pc := 89) dX9_avoid_89 rfl rfl <| r_goto (pc := 92) 18 dX9_avoid_92 (by decide) <| ?_
          first
            | (rw [if_pos hc_51] at hQ
               first
                 | (rw [if_pos (by omega)] at hQ
                    exact ih (k + 1) _ _ h3 e3 _ (by omega) (by omega) b1 k11 k12 (by omega) (by omega) (fun h' c1 c2 => hQ h' c1 (fun j hj => (c2 j hj).trans (hF j hj))))
                 | (rw [if_neg (by omega)] at hQ
                    exact ih (k + 1) _ _ h3 e3 _ (by omega) (by omega) b1 k11 k12 (by omega) (by omega) (fun h' c1 c2 => hQ h' c1 (fun j hj => (c2 j hj).trans (hF j hj)))))
            | (rw [if_neg hc_51] at hQ
               first
                 | (rw [if_pos (by omega)] at hQ
                    exact ih (k + 1) _ _ h3 e3 _ (by omega) (by omega) b1 k11 k12 (by omega) (by omega) (fun h' c1 c2 => hQ h' c1 (fun j hj => (c2 j hj).trans (hF j hj))))
                 | (rw [if_neg (by omega)] at hQ
                    exact ih (k + 1) _ _ h3 e3 _ (by omega) (by omega) b1 k11 k12 (by omega) (by omega) (fun h' c1 c2 => hQ h' c1 (fun j hj => (c2 j hj).trans (hF j hj)))))
        · skip
          refine r_iload (pc := 69) dX9_avoid_69 rfl <| r_iload_n (pc := 71) dX9_avoid_71 rfl <| r_icmp_ge (pc := 72) 89 dX9_avoid_72 (by decide) (by omega) (by omega) (fun hc_72 => ?_) (fun hc_72 => ?_)
          · skip
            refine r_iinc_3 (pc := 89) dX9_avoid_89 rfl rfl <| r_goto (pc := 92) 18 dX9_avoid_92 (by decide) <| ?_
            first
              | (rw [if_pos hc_51] at hQ
                 first
                   | (rw [if_pos (by omega)] at hQ
                      exact ih (k + 1) _ _ h3 e3 _ (by omega) (by omega) b1 k11 k12 (by omega) (by omega) (fun h' c1 c2 => hQ h' c1 (fun j hj => (c2 j hj).trans (hF j hj))))
                   | (rw [if_neg (by omega)] at hQ
                      exact ih (k + 1) _ _ h3 e3 _ (by omega) (by omega) b1 k11 k12 (by omega) (by omega) (fun h' c1 c2 => hQ h' c1 (fun j hj => (c2 j hj).trans (hF j hj)))))
              | (rw [if_neg hc_51] at hQ
                 first
                   | (rw [if_pos (by omega)] at hQ
                      exact ih (k + 1) _ _ h3 e3 _ (by omega) (by omega) b1 k11 k12 (by omega) (by omega) (fun h' c1 c2 => hQ h' c1 (fun j hj => (c2 j hj).trans (hF j hj))))
                   | (rw [if_neg (by omega)] at hQ
                      exact ih (k + 1) _ _ h3 e3 _ (by omega) (by omega) b1 k11 k12 (by omega) (by omega) (fun h' c1 c2 => hQ h' c1 (fun j hj => (c2 j hj).trans (hF j hj)))))
          · skip
            refine r_aload_n (pc := 75) dX9_avoid_75 rfl <| r_getf (pc := 76) dX9_avoid_76 fA_X9_7 hM' rfl <| r_sipush (pc := 79) dX9_avoid_79 (by decide) <| r_iload_n (pc := 82) dX9_avoid_82 rfl <| r_iadd (pc := 83) dX9_avoid_83 <| r_iald (pc := 84) dX9_avoid_84 g46 (by omega) (by decide) <| r_istoren_1 (pc := 85) dX9_avoid_85 rfl <| r_iload (pc := 86) dX9_avoid_86 rfl <| r_istoren_2 (pc := 88) dX9_avoid_88 rfl <| r_iinc_3 (pc := 89) dX9_avoid_89 rfl rfl <| r_goto (pc := 92) 18 dX9_avoid_92 (by decide) <| ?_
            first
              | (rw [if_pos hc_51] at hQ
                 first
                   | (rw [if_pos (by omega)] at hQ
                      exact ih (k + 1) _ _ h3 e3 _ (by omega) (by omega) b1 k11 k12 (by omega) (by omega) (fun h' c1 c2 => hQ h' c1 (fun j hj => (c2 j hj).trans (hF j hj))))
                   | (rw [if_neg (by omega)] at hQ
                      exact ih (k + 1) _ _ h3 e3 _ (by omega) (by omega) b1 k11 k12 (by omega) (by omega) (fun h' c1 c2 => hQ h' c1 (fun j hj => (c2 j hj).trans (hF j hj)))))
              | (rw [if_neg hc_51] at hQ
                 first
                   | (rw [if_pos (by omega)] at hQ
                      exact ih (k + 1) _ _ h3 e3 _ (by omega) (by omega) b1 k11 k12 (by omega) (by omega) (fun h' c1 c2 => hQ h' c1 (fun j hj => (c2 j hj).trans (hF j hj))))
                   | (rw [if_neg (by omega)] at hQ
                      exact ih (k + 1) _ _ h3 e3 _ (by omega) (by omega) b1 k11 k12 (by omega) (by omega) (fun h' c1 c2 => hQ h' c1 (fun j hj => (c2 j hj).trans (hF j hj)))))
      · skip
        refine r_sipush (pc := 54) dX9_avoid_54 (by decide) <| r_goto (pc := 57) 62 dX9_avoid_57 (by decide) <| r_istore_4 (pc := 62) dX9_avoid_62 rfl <| r_iload_n (pc := 64) dX9_avoid_64 rfl <| r_iconst (pc := 65) dX9_avoid_65 <| r_icmp_eq (pc := 66) 75 dX9_avoid_66 (by decide) (by omega) (by omega) (fun hc_66 => ?_) (fun hc_66 => ?_)
        · skip
          refine r_aload_n (pc := 75) dX9_avoid_75 rfl <| r_getf (pc := 76) dX9_avoid_76 fA_X9_7 hM' rfl <| r_sipush (pc := 79) dX9_avoid_79 (by decide) <| r_iload_n (pc := 82) dX9_avoid_82 rfl <| r_iadd (pc := 83) dX9_avoid_83 <| r_iald (pc := 84) dX9_avoid_84 g46 (by omega) (by decide) <| r_istoren_1 (pc := 85) dX9_avoid_85 rfl <| r_iload (pc := 86) dX9_avoid_86 rfl <| r_istoren_2 (pc := 88) dX9_avoid_88 rfl <| r_iinc_3 (pc := 89) dX9_avoid_89 rfl rfl <| r_goto (pc := 92) 18 dX9_avoid_92 (by decide) <| ?_
          first
            | (rw [if_pos hc_51] at hQ
               first
                 | (rw [if_pos (by omega)] at hQ
                    exact ih (k + 1) _ _ h3 e3 _ (by omega) (by omega) b1 k11 k12 (by omega) (by omega) (fun h' c1 c2 => hQ h' c1 (fun j hj => (c2 j hj).trans (hF j hj))))
                 | (rw [if_neg (by omega)] at hQ
                    exact ih (k + 1) _ _ h3 e3 _ (by omega) (by omega) b1 k11 k12 (by omega) (by omega) (fun h' c1 c2 => hQ h' c1 (fun j hj => (c2 j hj).trans (hF j hj)))))
            | (rw [if_neg hc_51] at hQ
               first
                 | (rw [if_pos (by omega)] at hQ
                    exact ih (k + 1) _ _ h3 e3 _ (by omega) (by omega) b1 k11 k12 (by omega) (by omega) (fun h' c1 c2 => hQ h' c1 (fun j hj => (c2 j hj).trans (hF j hj))))
                 | (rw [if_neg (by omega)] at hQ
                    exact ih (k + 1) _ _ h3 e3 _ (by omega) (by omega) b1 k11 k12 (by omega) (by omega) (fun h' c1 c2 => hQ h' c1 (fun j hj => (c2 j hj).trans (hF j hj)))))
        · skip
          refine r_iload (pc := 69) dX9_avoid_69 rfl <| r_iload_n (pc := 71) dX9_avoid_71 rfl <| r_icmp_ge (pc := 72) 89 dX9_avoid_72 (by decide) (by omega) (by omega) (fun hc_72 => ?_) (fun hc_72 => ?_)
          · skip
            refine r_iinc_3 (pc := 89) dX9_avoid_89 rfl rfl <| r_goto (pc := 92) 18 dX9_avoid_92 (by decide) <| ?_
            first
              | (rw [if_pos hc_51] at hQ
                 first
                   | (rw [if_pos (by omega)] at hQ
                      exact ih (k + 1) _ _ h3 e3 _ (by omega) (by omega) b1 k11 k12 (by omega) (by omega) (fun h' c1 c2 => hQ h' c1 (fun j hj => (c2 j hj).trans (hF j hj))))
                   | (rw [if_neg (by omega)] at hQ
                      exact ih (k + 1) _ _ h3 e3 _ (by omega) (by omega) b1 k11 k12 (by omega) (by omega) (fun h' c1 c2 => hQ h' c1 (fun j hj => (c2 j hj).trans (hF j hj)))))
              | (rw [if_neg hc_51] at hQ
                 first
                   | (rw [if_pos (by omega)] at hQ
                      exact ih (k + 1) _ _ h3 e3 _ (by omega) (by omega) b1 k11 k12 (by omega) (by omega) (fun h' c1 c2 => hQ h' c1 (fun j hj => (c2 j hj).trans (hF j hj))))
                   | (rw [if_neg (by omega)] at hQ
                      exact ih (k + 1) _ _ h3 e3 _ (by omega) (by omega) b1 k11 k12 (by omega) (by omega) (fun h' c1 c2 => hQ h' c1 (fun j hj => (c2 j hj).trans (hF j hj)))))
          · skip
            refine r_aload_n (pc := 75) dX9_avoid_75 rfl <| r_getf (pc := 76) dX9_avoid_76 fA_X9_7 hM' rfl <| r_sipush (pc := 79) dX9_avoid_79 (by decide) <| r_iload_n (pc := 82) dX9_avoid_82 rfl <| r_iadd (pc := 83) dX9_avoid_83 <| r_iald (pc := 84) dX9_avoid_84 g46 (by omega) (by decide) <| r_istoren_1 (pc := 85) dX9_avoid_85 rfl <| r_iload (pc := 86) dX9_avoid_86 rfl <| r_istoren_2 (pc := 88) dX9_avoid_88 rfl <| r_iinc_3 (pc := 89) dX9_avoid_89 rfl rfl <| r_goto (pc := 92) 18 dX9_avoid_92 (by decide) <| ?_
            first
              | (rw [if_pos hc_51] at hQ
                 first
                   | (rw [if_pos (by omega)] at hQ
                      exact ih (k + 1) _ _ h3 e3 _ (by omega) (by omega) b1 k11 k12 (by omega) (by omega) (fun h' c1 c2 => hQ h' c1 (fun j hj => (c2 j hj).trans (hF j hj))))
                   | (rw [if_neg (by omega)] at hQ
                      exact ih (k + 1) _ _ h3 e3 _ (by omega) (by omega) b1 k11 k12 (by omega) (by omega) (fun h' c1 c2 => hQ h' c1 (fun j hj => (c2 j hj).trans (hF j hj)))))
              | (rw [if_neg hc_51] at hQ
                 first
                   | (rw [if_pos (by omega)] at hQ
                      exact ih (k + 1) _ _ h3 e3 _ (by omega) (by omega) b1 k11 k12 (by omega) (by omega) (fun h' c1 c2 => hQ h' c1 (fun j hj => (c2 j hj).trans (hF j hj))))
                   | (rw [if_neg (by omega)] at hQ
                      exact ih (k + 1) _ _ h3 e3 _ (by omega) (by omega) b1 k11 k12 (by omega) (by omega) (fun h' c1 c2 => hQ h' c1 (fun j hj => (c2 j hj).trans (hF j hj)))))
theorem ms_avoid (hM : isM h s) (hI : Inv s.bk) (hQ : ∀ h', isM h' (fAvoid s).2 → Fr MR h h' → Q (some (vI (fAvoid s).1)) n h') : Cl G mX9_avoid [vR 45] n h Q := by
  obtain ⟨e, it, g45, ge, g9, g46, -⟩ := id hM.raw
  have hM' := g45
  unfold mF at hM'
  have i2 := hI.1.2.2.1
  unfold fAvoid at hQ
  refine cl_of (by decide) (Nat.le_of_ble_eq_true rfl) rfl ?_
  refine r_aload_n (pc := 0) dX9_avoid_0 rfl <| cVi [] (pc := 1) dX9_avoid_1 k_X9_145 ⟨⟨Nat.le_of_ble_eq_true rfl, Nat.le_of_ble_eq_true rfl⟩, ⟨Nat.le_of_ble_eq_true rfl, Nat.le_of_ble_eq_true rfl⟩, Nat.le_of_ble_eq_true rfl⟩ ⟨rfl, rfl⟩ hM' ?_
  refine wm_reads hM hI (fun q3 h1 e1 it1 m1 m6 m7 m7' m8 m10 => ?_) (fun q3 h1 m1 m10 => ?_)
  · skip
    refine ⟨_, rfl, ?_⟩
    clear hM' g45
    first
      | (have g45 := m1.2.1; have hM' := g45; unfold mF at hM')
      | (obtain ⟨e1, it1, g45, -⟩ := id m1.raw; have hM' := g45; unfold mF at hM')
    refine r_if_ne (pc := 4) 12 dX9_avoid_4 (by decide) (by decide) (fun _ => ?_) (fun q => absurd q (by decide))
    refine r_iconst (pc := 12) dX9_avoid_12 <| r_istoren_1 (pc := 13) dX9_avoid_13 rfl <| r_iconst (pc := 14) dX9_avoid_14 <| r_istoren_2 (pc := 15) dX9_avoid_15 rfl <| r_iconst (pc := 16) dX9_avoid_16 <| r_istoren_3 (pc := 17) dX9_avoid_17 rfl <| ?_
    rw [if_neg (fun q => q q3)] at hQ
    exact lp_avoid hI (TB_fun m6 rfl rfl) (s.bk 2).toNat 0 (-1) 0 h1 e1 _ (by omega) (by omega) m1 m7 m8 (by omega) (by omega) (fun h' c1 c2 => hQ h' c1 (fun j hj => (c2 j hj).trans (m10 j hj)))
  · skip
    refine ⟨_, rfl, ?_⟩
    clear hM' g45
    first
      | (have g45 := m1.2.1; have hM' := g45; unfold mF at hM')
      | (obtain ⟨e1, it1, g45, -⟩ := id m1.raw; have hM' := g45; unfold mF at hM')
    refine r_if_ne (pc := 4) 12 dX9_avoid_4 (by decide) (by decide) (fun q => absurd q (by decide)) (fun _ => ?_)
    refine r_aload_n (pc := 7) dX9_avoid_7 rfl <| cVi [] (pc := 8) dX9_avoid_8 k_X9_151 ⟨⟨Nat.le_of_ble_eq_true rfl, Nat.le_of_ble_eq_true rfl⟩, ⟨Nat.le_of_ble_eq_true rfl, Nat.le_of_ble_eq_true rfl⟩, Nat.le_of_ble_eq_true rfl⟩ ⟨rfl, rfl⟩ hM' ?_
    refine ms_no m1 (fun h2 g1 g2 => ?_)
    refine ⟨_, rfl, ?_⟩
    refine r_iret (pc := 11) dX9_avoid_11 rfl ⟨Nat.le_of_ble_eq_true rfl, Nat.le_of_ble_eq_true rfl⟩ <| ?_
    rw [if_pos q3] at hQ; exact hQ _ g1 (fun j hj => (g2 j hj).trans (m10 j hj))
end MTh


