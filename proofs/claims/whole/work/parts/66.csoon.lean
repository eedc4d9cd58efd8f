/-! ===== the class: soonest ===== -/
section CSo
variable {G : GT} {n : Nat} {h h' : Hp} {Q : PT} {s : SS}
abbrev o31 : AE := aO 3 [vR 32, vR 33, vR 34, vR 35, vR 36]
theorem sp_swap {od : Int → Int} {i j : Int} (c31 : h 31 = some o31) (c35 : h 35 = some (aA 8 od)) (hi : 0 ≤ i ∧ i < 8) (hj : 0 ≤ j ∧ j < 8) (hQ : ∀ h', h' 35 = some (aA 8 (swp od i j)) → Fr (fun q => q = 35) h h' → Q none n h') : Cl G mX3_swap [vR 31, vI i, vI j] n h Q := by
  refine cl_of (by decide) (Nat.le_of_ble_eq_true rfl) rfl ?_
  refine r_aload_n (pc := 0) dX3_swap_0 rfl <| r_getf (pc := 1) dX3_swap_1 fA_X3_21 c31 rfl <| r_iload_n (pc := 4) dX3_swap_4 rfl <| r_iald (pc := 5) dX3_swap_5 c35 (by omega) (by decide) <| r_istoren_3 (pc := 6) dX3_swap_6 rfl <| r_aload_n (pc := 7) dX3_swap_7 rfl <| r_getf (pc := 8) dX3_swap_8 fA_X3_21 c31 rfl <| r_iload_n (pc := 11) dX3_swap_11 rfl <| r_aload_n (pc := 12) dX3_swap_12 rfl <| r_getf (pc := 13) dX3_swap_13 fA_X3_21 c31 rfl <| r_iload_n (pc := 16) dX3_swap_16 rfl <| r_iald (pc := 17) dX3_swap_17 c35 (by omega) (by decide) <| r_iast (pc := 18) dX3_swap_18 c35 (by omega) (by decide) (fun h_18 c35 hF_18 => ?_)
  replace c31 := hF_18.keep c31 (by omega)
  refine r_aload_n (pc := 19) dX3_swap_19 rfl <| r_getf (pc := 20) dX3_swap_20 fA_X3_21 c31 rfl <| r_iload_n (pc := 23) dX3_swap_23 rfl <| r_iload_n (pc := 24) dX3_swap_24 rfl <| r_iast (pc := 25) dX3_swap_25 c35 (by omega) (by decide) (fun h_25 c35 hF_25 => ?_)
  replace c31 := hF_25.keep c31 (by omega)
  refine r_vret (pc := 26) dX3_swap_26 rfl ⟨Nat.le_of_ble_eq_true rfl, Nat.le_of_ble_eq_true rfl⟩ <| ?_
  exact hQ _ c35 (fun q hq => ((hF_25 q (by omega)).trans (hF_18 q (by omega))))
theorem lp_cnk {od : Int → Int} {m : Int} {l3 l4 l5 : AV} (c31 : h 31 = some o31) (c35 : h 35 = some (aA 8 od)) (hm : 0 ≤ m ∧ m ≤ 8) (hr : ∀ i, 0 ≤ i → i < m → 0 ≤ od i ∧ od i < 8) : ∀ (q : Nat) (k : Int), k + 1 = q → k + 1 < m → At G mX3_nextOrder 31 [vR 31, vI m, vI (kF od q k), l3, l4, l5] [] (0, 0, n) h Q → At G mX3_nextOrder 4 [vR 31, vI m, vI k, l3, l4, l5] [] (0, 0, n) h Q := by
  intro q
  induction q with
  | zero =>
    intro k hk hkm hQ
    refine r_iload_n (pc := 4) dX3_nextOrder_4 rfl <| r_if_lt (pc := 5) 31 dX3_nextOrder_5 (by decide) (by omega) (fun hc_5 => ?_) (fun hc_5 => ?_)
    · skip
      exact hQ
    · skip
      exfalso; omega
  | succ q ih =>
    intro k hk hkm hQ
    have b1 := hr k (by omega) (by omega)
    have b2 := hr (k + 1) (by omega) (by omega)
    simp only [kF] at hQ
    refine r_iload_n (pc := 4) dX3_nextOrder_4 rfl <| r_if_lt (pc := 5) 31 dX3_nextOrder_5 (by decide) (by omega) (fun hc_5 => ?_) (fun hc_5 => ?_)
    · skip
      exfalso; omega
    · skip
      refine r_aload_n (pc := 8) dX3_nextOrder_8 rfl <| r_getf (pc := 9) dX3_nextOrder_9 fA_X3_21 c31 rfl <| r_iload_n (pc := 12) dX3_nextOrder_12 rfl <| r_iald (pc := 13) dX3_nextOrder_13 c35 (by omega) (by decide) <| r_aload_n (pc := 14) dX3_nextOrder_14 rfl <| r_getf (pc := 15) dX3_nextOrder_15 fA_X3_21 c31 rfl <| r_iload_n (pc := 18) dX3_nextOrder_18 rfl <| r_iconst (pc := 19) dX3_nextOrder_19 <| r_iadd (pc := 20) dX3_nextOrder_20 <| r_iald (pc := 21) dX3_nextOrder_21 c35 (by omega) (by decide) <| r_icmp_le (pc := 22) 31 dX3_nextOrder_22 (by decide) (by omega) (by omega) (fun hc_22 => ?_) (fun hc_22 => ?_)
      · skip
        rw [if_neg (by omega)] at hQ; exact hQ
      · skip
        refine r_iinc_2 (pc := 25) dX3_nextOrder_25 rfl rfl <| r_goto (pc := 28) 4 dX3_nextOrder_28 (by decide) <| ?_
        rw [if_pos (by omega)] at hQ
        exact ih (k - 1) (by omega) (by omega) hQ
theorem lp_cnj {od : Int → Int} {m k : Int} {l4 l5 : AV} (c31 : h 31 = some o31) (c35 : h 35 = some (aA 8 od)) (hm : 0 ≤ m ∧ m ≤ 8) (hk : 0 ≤ k ∧ k + 1 < m) (hr : ∀ i, 0 ≤ i → i < m → 0 ≤ od i ∧ od i < 8) (hst : ¬ od (k + 1) < od k) : ∀ (q : Nat) (j : Int), j + 1 = q → k + 1 ≤ j → j < m → At G mX3_nextOrder 69 [vR 31, vI m, vI k, vI (jF od (od k) q j), l4, l5] [] (0, 0, n) h Q → At G mX3_nextOrder 41 [vR 31, vI m, vI k, vI j, l4, l5] [] (0, 0, n) h Q := by
  have b1 := hr k hk.1 (by omega)
  intro q
  induction q with
  | zero =>
    intro j hj hkj hjm hQ
    exfalso; omega
  | succ q ih =>
    intro j hj hkj hjm hQ
    have b2 := hr j (by omega) (by omega)
    have hne : j = k + 1 → od j = od (k + 1) := fun e => by rw [e]
    simp only [jF] at hQ
    refine r_iload_n (pc := 41) dX3_nextOrder_41 rfl <| r_iload_n (pc := 42) dX3_nextOrder_42 rfl <| r_iconst (pc := 43) dX3_nextOrder_43 <| r_iadd (pc := 44) dX3_nextOrder_44 <| r_icmp_le (pc := 45) 69 dX3_nextOrder_45 (by decide) (by omega) (by omega) (fun hc_45 => ?_) (fun hc_45 => ?_)
    · skip
      rw [if_neg (by omega)] at hQ; exact hQ
    · skip
      refine r_aload_n (pc := 48) dX3_nextOrder_48 rfl <| r_getf (pc := 49) dX3_nextOrder_49 fA_X3_21 c31 rfl <| r_iload_n (pc := 52) dX3_nextOrder_52 rfl <| r_iald (pc := 53) dX3_nextOrder_53 c35 (by omega) (by decide) <| r_aload_n (pc := 54) dX3_nextOrder_54 rfl <| r_getf (pc := 55) dX3_nextOrder_55 fA_X3_21 c31 rfl <| r_iload_n (pc := 58) dX3_nextOrder_58 rfl <| r_iald (pc := 59) dX3_nextOrder_59 c35 (by omega) (by decide) <| r_icmp_ge (pc := 60) 69 dX3_nextOrder_60 (by decide) (by omega) (by omega) (fun hc_60 => ?_) (fun hc_60 => ?_)
      · skip
        rw [if_neg (by omega)] at hQ; exact hQ
      · skip
        refine r_iinc_3 (pc := 63) dX3_nextOrder_63 rfl rfl <| r_goto (pc := 66) 41 dX3_nextOrder_66 (by decide) <| ?_
        rw [if_pos (by omega)] at hQ
        exact ih (j - 1) (by omega) (by omega) (by omega) hQ
theorem lp_cnr {m k1 k2 : Int} (hm : 0 ≤ m ∧ m ≤ 8) : ∀ (q : Nat) (lo hi : Int) (h : Hp) (od : Int → Int), 0 ≤ lo → hi < m → hi ≤ lo + q → h 31 = some o31 → h 35 = some (aA 8 od) → (lo ≤ 10 ∧ -10 ≤ hi) →
    (∀ h', h' 35 = some (aA 8 (rvF q lo hi od)) → Fr (fun j => j = 35) h h' → Q (some (vI 1)) n h') → At G mX3_nextOrder 85 [vR 31, vI m, vI k1, vI k2, vI lo, vI hi] [] (0, 0, n) h Q := by
  intro q
  induction q with
  | zero =>
    intro lo hi h od h0 h1 h2 c31 c35 hb hQ
    refine r_iload (pc := 85) dX3_nextOrder_85 rfl <| r_iload (pc := 87) dX3_nextOrder_87 rfl <| r_icmp_ge (pc := 89) 109 dX3_nextOrder_89 (by decide) (by omega) (by omega) (fun hc_89 => ?_) (fun hc_89 => ?_)
    · skip
      refine r_iconst (pc := 109) dX3_nextOrder_109 <| r_zret (pc := 110) dX3_nextOrder_110 rfl (by omega) ⟨Nat.le_of_ble_eq_true rfl, Nat.le_of_ble_eq_true rfl⟩ <| ?_
      exact hQ h c35 Fr.rf
    · skip
      exfalso; omega
  | succ q ih =>
    intro lo hi h od h0 h1 h2 c31 c35 hb hQ
    simp only [rvF] at hQ
    refine r_iload (pc := 85) dX3_nextOrder_85 rfl <| r_iload (pc := 87) dX3_nextOrder_87 rfl <| r_icmp_ge (pc := 89) 109 dX3_nextOrder_89 (by decide) (by omega) (by omega) (fun hc_89 => ?_) (fun hc_89 => ?_)
    · skip
      refine r_iconst (pc := 109) dX3_nextOrder_109 <| r_zret (pc := 110) dX3_nextOrder_110 rfl (by omega) ⟨Nat.le_of_ble_eq_true rfl, Nat.le_of_ble_eq_true rfl⟩ <| ?_
      rw [if_neg (by omega)] at hQ
      exact hQ h c35 Fr.rf
    · skip
      refine r_aload_n (pc := 92) dX3_nextOrder_92 rfl <| r_iload (pc := 93) dX3_nextOrder_93 rfl <| r_iload (pc := 95) dX3_nextOrder_95 rfl <| cVv [_, _] (pc := 97) dX3_nextOrder_97 k_X3_75 ⟨⟨Nat.le_of_ble_eq_true rfl, Nat.le_of_ble_eq_true rfl⟩, ⟨Nat.le_of_ble_eq_true rfl, Nat.le_of_ble_eq_true rfl⟩, Nat.le_of_ble_eq_true rfl⟩ ⟨rfl, rfl⟩ c31 ?_
      refine sp_swap c31 c35 (by omega) (by omega) (fun h1 k1 hF1 => ?_)
      refine ⟨rfl, ?_⟩
      refine r_iinc_4 (pc := 100) dX3_nextOrder_100 rfl rfl <| r_iinc_5 (pc := 103) dX3_nextOrder_103 rfl rfl <| r_goto (pc := 106) 85 dX3_nextOrder_106 (by decide) <| ?_
      rw [if_pos (by omega)] at hQ
      exact ih (lo + 1) (hi - 1) h1 _ (by omega) (by omega) (by omega) (hF1.keep c31 (by omega)) k1 (by omega) (fun h' a1 a2 => hQ h' a1 (fun j hj => (a2 j hj).trans (hF1 j hj)))
theorem sp_cnext {od : Int → Int} {m : Int} (c31 : h 31 = some o31) (c35 : h 35 = some (aA 8 od)) (hm : 0 ≤ m ∧ m ≤ 8) (hr : ∀ i, 0 ≤ i → i < m → 0 ≤ od i ∧ od i < 8)
    (h0 : nxF m od = none → Q (some (vI 0)) n h) (h1 : ∀ f' h', nxF m od = some f' → h' 35 = some (aA 8 f') → Fr (fun j => j = 35) h h' → Q (some (vI 1)) n h') : Cl G mX3_nextOrder [vR 31, vI m] n h Q := by
  refine cl_of (by decide) (Nat.le_of_ble_eq_true rfl) rfl ?_
  by_cases m2 : 2 ≤ m
  · skip
    refine r_iload_n (pc := 0) dX3_nextOrder_0 rfl <| r_iconst (pc := 1) dX3_nextOrder_1 <| r_isub (pc := 2) dX3_nextOrder_2 <| r_istoren_2 (pc := 3) dX3_nextOrder_3 rfl <| ?_
    refine lp_cnk c31 c35 hm hr (m - 1).toNat (m - 2) (by omega) (by omega) ?_
    have ik := @kF_in od (m - 1).toNat (m - 2) (by omega)
    have hst := @kF_stop od (m - 1).toNat (m - 2) (by omega)
    unfold nxF at h0 h1
    generalize hkd : kF od (m - 1).toNat (m - 2) = k at *
    refine r_iload_n (pc := 31) dX3_nextOrder_31 rfl <| r_if_ge (pc := 32) 37 dX3_nextOrder_32 (by decide) (by omega) (fun hc_32 => ?_) (fun hc_32 => ?_)
    · skip
      refine r_iload_n (pc := 37) dX3_nextOrder_37 rfl <| r_iconst (pc := 38) dX3_nextOrder_38 <| r_isub (pc := 39) dX3_nextOrder_39 <| r_istoren_3 (pc := 40) dX3_nextOrder_40 rfl <| ?_
      have ij := @jF_in od (od k) k (by omega) m.toNat (m - 1) (by omega) (by omega)
      refine lp_cnj c31 c35 hm (by omega) hr (hst (by omega)) m.toNat (m - 1) (by omega) (by omega) (by omega) ?_
      generalize hjd : jF od (od k) m.toNat (m - 1) = j at *
      refine r_aload_n (pc := 69) dX3_nextOrder_69 rfl <| r_iload_n (pc := 70) dX3_nextOrder_70 rfl <| r_iload_n (pc := 71) dX3_nextOrder_71 rfl <| cVv [_, _] (pc := 72) dX3_nextOrder_72 k_X3_75 ⟨⟨Nat.le_of_ble_eq_true rfl, Nat.le_of_ble_eq_true rfl⟩, ⟨Nat.le_of_ble_eq_true rfl, Nat.le_of_ble_eq_true rfl⟩, Nat.le_of_ble_eq_true rfl⟩ ⟨rfl, rfl⟩ c31 ?_
      refine sp_swap c31 c35 (by omega) (by omega) (fun h2 k1 hF1 => ?_)
      refine ⟨rfl, ?_⟩
      refine r_iload_n (pc := 75) dX3_nextOrder_75 rfl <| r_iconst (pc := 76) dX3_nextOrder_76 <| r_iadd (pc := 77) dX3_nextOrder_77 <| r_istore_4 (pc := 78) dX3_nextOrder_78 rfl <| r_iload_n (pc := 80) dX3_nextOrder_80 rfl <| r_iconst (pc := 81) dX3_nextOrder_81 <| r_isub (pc := 82) dX3_nextOrder_82 <| r_istore_5 (pc := 83) dX3_nextOrder_83 rfl <| ?_
      exact lp_cnr hm m.toNat (k + 1) (m - 1) h2 _ (by omega) (by omega) (by omega) (hF1.keep c31 (by omega)) k1 (by omega) (fun h' a1 a2 => h1 _ h' (if_neg (by omega)) a1 (fun j hj => (a2 j hj).trans (hF1 j hj)))
    · skip
      refine r_iconst (pc := 35) dX3_nextOrder_35 <| r_zret (pc := 36) dX3_nextOrder_36 rfl (by omega) ⟨Nat.le_of_ble_eq_true rfl, Nat.le_of_ble_eq_true rfl⟩ <| ?_
      exact h0 (if_pos (by omega))
  · skip
    refine r_iload_n (pc := 0) dX3_nextOrder_0 rfl <| r_iconst (pc := 1) dX3_nextOrder_1 <| r_isub (pc := 2) dX3_nextOrder_2 <| r_istoren_2 (pc := 3) dX3_nextOrder_3 rfl <| r_iload_n (pc := 4) dX3_nextOrder_4 rfl <| r_if_lt (pc := 5) 31 dX3_nextOrder_5 (by decide) (by omega) (fun hc_5 => ?_) (fun hc_5 => ?_)
    · skip
      refine r_iload_n (pc := 31) dX3_nextOrder_31 rfl <| r_if_ge (pc := 32) 37 dX3_nextOrder_32 (by decide) (by omega) (fun hc_32 => ?_) (fun hc_32 => ?_)
      · skip
        exfalso; omega
      · skip
        refine r_iconst (pc := 35) dX3_nextOrder_35 <| r_zret (pc := 36) dX3_nextOrder_36 rfl (by omega) ⟨Nat.le_of_ble_eq_true rfl, Nat.le_of_ble_eq_true rfl⟩ <| ?_
        refine h0 ?_
        unfold nxF
        have e1 : (m - 1).toNat = 0 := by omega
        rw [e1]
        exact if_pos (by show m - 2 < 0; omega)
    · skip
      exfalso; omega
theorem lp_cs1 {qu : Int → Int} (hI : Inv s.bk) (rq : REq qu s.bk 164 8) (dq : Bd qu 0 7) : ∀ (q : Nat) (p : Int) (h : Hp) (od : Int → Int) (A : List Int) (l4 l5 l6 : AV), 0 ≤ p → p + q = 8 → isC h n s → h 11 = some (aA 8 qu) → h 35 = some (aA 8 od) → arL od 0 A → A.length ≤ p →
    (∀ h' od' p', isC h' n s → h' 35 = some (aA 8 od') → arL od' 0 (A ++ srt s.bk q p) → Fr (fun j => j = 35) h h' → At G mX3_sort 34 [vR 31, vR 1, vI ((A ++ srt s.bk q p).length : Nat), vI p', l4, l5, l6] [] (0, 0, n) h' Q) → At G mX3_sort 4 [vR 31, vR 1, vI (A.length : Nat), vI p, l4, l5, l6] [] (0, 0, n) h Q := by
  intro q
  induction q with
  | zero =>
    intro p h od A l4 l5 l6 hp hq hC c11 c35 hA hl hQ
    refine r_iload_n (pc := 4) dX3_sort_4 rfl <| r_bipush (pc := 5) dX3_sort_5 (by decide) <| r_icmp_ge (pc := 7) 34 dX3_sort_7 (by decide) (by omega) (by omega) (fun hc_7 => ?_) (fun hc_7 => ?_)
    · skip
      have := hQ h od p hC c35 (by simpa [srt] using hA) Fr.rf
      simpa [srt] using this
    · skip
      exfalso; omega
  | succ q ih =>
    intro p h od A l4 l5 l6 hp hq hC c11 c35 hA hl hQ
    obtain ⟨x1, ⟨c31, -⟩, -⟩ := isX_iff.mp hC.2.2.2.1
    obtain ⟨kd, ag, ld, rk, ow, la, tx, qu', wa, lg, ev, c0, c1, -⟩ := hC.opn
    refine r_iload_n (pc := 4) dX3_sort_4 rfl <| r_bipush (pc := 5) dX3_sort_5 (by decide) <| r_icmp_ge (pc := 7) 34 dX3_sort_7 (by decide) (by omega) (by omega) (fun hc_7 => ?_) (fun hc_7 => ?_)
    · skip
      exfalso; omega
    · skip
      refine r_aload_n (pc := 10) dX3_sort_10 rfl <| r_iload_n (pc := 11) dX3_sort_11 rfl <| cVi [_] (pc := 12) dX3_sort_12 k_X3_58 ⟨⟨Nat.le_of_ble_eq_true rfl, Nat.le_of_ble_eq_true rfl⟩, ⟨Nat.le_of_ble_eq_true rfl, Nat.le_of_ble_eq_true rfl⟩, Nat.le_of_ble_eq_true rfl⟩ ⟨rfl, rfl⟩ c1 ?_
      refine sp_isq c1 c11 rq dq hI (by omega) (fun q1 => ?_) (fun q1 => ?_)
      · skip
        refine ⟨_, rfl, ?_⟩
        refine r_if_eq (pc := 15) 28 dX3_sort_15 (by decide) (by decide) (fun q => absurd q (by decide)) (fun _ => ?_)
        refine r_aload_n (pc := 18) dX3_sort_18 rfl <| r_getf (pc := 19) dX3_sort_19 fA_X3_21 c31 rfl <| r_iload_n (pc := 22) dX3_sort_22 rfl <| r_iload_n (pc := 23) dX3_sort_23 rfl <| r_iast (pc := 24) dX3_sort_24 c35 (by omega) (by decide) (fun h_24 c35 hF_24 => ?_)
        replace c31 := hF_24.keep c31 (by omega)
        replace c1 := hF_24.keep c1 (by omega)
        refine r_iinc_2 (pc := 25) dX3_sort_25 rfl rfl <| r_iinc_3 (pc := 28) dX3_sort_28 rfl rfl <| r_goto (pc := 31) 4 dX3_sort_31 (by decide) <| ?_
        first
          | (rw [srt_n q1] at hQ
             exact ih (p + 1) h od A _ _ _ (by omega) (by omega) hC c11 c35 hA (by omega) hQ)
          | (rw [srt_y q1] at hQ
             have hl' : (A ++ [p]).length = A.length + 1 := by simp
             have e1 : A ++ p :: srt s.bk q (p + 1) = (A ++ [p]) ++ srt s.bk q (p + 1) := by simp
             rw [e1] at hQ
             have hih := ih (p + 1) h_24 _ (A ++ [p]) l4 l5 l6 (by omega) (by omega) (hC.pcell (c := 35) (by omega) c35 hF_24) (hF_24.keep c11 (by omega)) c35 (hA.snoc rfl) (by omega) (fun h' od' p' d1 d2 d3 d4 => hQ h' od' p' d1 d2 d3 (fun j hj => (d4 j hj).trans (hF_24 j hj)))
             rw [hl', show ((A.length + 1 : Nat) : Int) = (A.length : Nat) + 1 by omega] at hih
             exact hih)
      · skip
        refine ⟨_, rfl, ?_⟩
        refine r_if_eq (pc := 15) 28 dX3_sort_15 (by decide) (by decide) (fun _ => ?_) (fun q => absurd q (by decide))
        refine r_iinc_3 (pc := 28) dX3_sort_28 rfl rfl <| r_goto (pc := 31) 4 dX3_sort_31 (by decide) <| ?_
        first
          | (rw [srt_n q1] at hQ
             exact ih (p + 1) h od A _ _ _ (by omega) (by omega) hC c11 c35 hA (by omega) hQ)
          | (rw [srt_y q1] at hQ
             have hl' : (A ++ [p]).length = A.length + 1 := by simp
             have e1 : A ++ p :: srt s.bk q (p + 1) = (A ++ [p]) ++ srt s.bk q (p + 1) := by simp
             rw [e1] at hQ
             have hih := ih (p + 1) h_24 _ (A ++ [p]) l4 l5 l6 (by omega) (by omega) (hC.pcell (c := 35) (by omega) c35 hF_24) (hF_24.keep c11 (by omega)) c35 (hA.snoc rfl) (by omega) (fun h' od' p' d1 d2 d3 d4 => hQ h' od' p' d1 d2 d3 (fun j hj => (d4 j hj).trans (hF_24 j hj)))
             rw [hl', show ((A.length + 1 : Nat) : Int) = (A.length : Nat) + 1 by omega] at hih
             exact hih)
theorem sort_end {N l k : Int} {l6 : AV} (hk : 0 ≤ k ∧ k ≤ 1000) (hQ : Q (some (vI l)) n h) : At G mX3_sort 42 [vR 31, vR 1, vI N, vI l, vI 0, vI k, l6] [] (0, 0, n) h Q := by
  refine r_iload (pc := 42) dX3_sort_42 rfl <| r_sipush (pc := 44) dX3_sort_44 (by decide) <| r_icmp_ge (pc := 47) 114 dX3_sort_47 (by decide) (by omega) (by omega) (fun hc_47 => ?_) (fun hc_47 => ?_)
  · skip
    refine r_iload_n (pc := 114) dX3_sort_114 rfl <| r_iret (pc := 115) dX3_sort_115 rfl ⟨Nat.le_of_ble_eq_true rfl, Nat.le_of_ble_eq_true rfl⟩ <| ?_
    exact hQ
  · skip
    refine r_iload (pc := 50) dX3_sort_50 rfl <| r_if_eq (pc := 52) 114 dX3_sort_52 (by decide) (by decide) (fun _ => ?_) (fun q => absurd q (by decide))
    refine r_iload_n (pc := 114) dX3_sort_114 rfl <| r_iret (pc := 115) dX3_sort_115 rfl ⟨Nat.le_of_ble_eq_true rfl, Nat.le_of_ble_eq_true rfl⟩ <| ?_
    exact hQ
theorem lp_cs2 {N : Nat} {gf rf σ : Int → Int} (hI : Inv s.bk) (kg : gfP s.bk gf rf) (hN : N ≤ 6) (hm : ∀ i j, 0 ≤ i → i < j → j < (N : Int) → σ i < σ j) (hs : ∀ i, 0 ≤ i → i < (N : Int) → 0 ≤ σ i ∧ σ i < 8) (hsq : ∀ i, 0 ≤ i → i < (N : Int) → inQ s.bk (σ i)) :
    ∀ (q : Nat) (π : Int → Int) (l : Int) (b : List Int) (k : Int) (h : Hp) (gs od bs : Int → Int) (l6 : AV), 0 ≤ k → k + q = 720 → isC h n s → h 32 = some (aA 64 gf) → h 33 = some (aA 64 rf) → h 34 = some (aA 8 gs) → h 35 = some (aA 8 od) → rl N σ π od → h 36 = some (aA 8 bs) → (l ≠ -1 → arL bs 0 b ∧ b.length = N) → (-1 ≤ l ∧ l ≤ 90) →
    (∀ h' bs', isC h' n s → h' 36 = some (aA 8 bs') → ((soG (TB s.bk) σ N q π l b).1 ≠ -1 → arL bs' 0 (soG (TB s.bk) σ N q π l b).2) → Fr (fun j => 34 ≤ j ∧ j ≤ 36) h h' → Q (some (vI (soG (TB s.bk) σ N q π l b).1)) n h') → At G mX3_sort 42 [vR 31, vR 1, vI (N : Int), vI l, vI 1, vI k, l6] [] (0, 0, n) h Q := by
  have i0 := hI.1.1
  intro q
  induction q with
  | zero =>
    intro π l b k h gs od bs l6 hk hq hC c32 c33 c34 c35 hrl c36 hb hl hQ
    refine r_iload (pc := 42) dX3_sort_42 rfl <| r_sipush (pc := 44) dX3_sort_44 (by decide) <| r_icmp_ge (pc := 47) 114 dX3_sort_47 (by decide) (by omega) (by omega) (fun hc_47 => ?_) (fun hc_47 => ?_)
    · skip
      refine r_iload_n (pc := 114) dX3_sort_114 rfl <| r_iret (pc := 115) dX3_sort_115 rfl ⟨Nat.le_of_ble_eq_true rfl, Nat.le_of_ble_eq_true rfl⟩ <| ?_
      exact hQ h bs hC c36 (fun hne => (hb hne).1) Fr.rf
    · skip
      exfalso; omega
  | succ q ih =>
    intro π l b k h gs od bs l6 hk hq hC c32 c33 c34 c35 hrl c36 hb hl hQ
    obtain ⟨x1, ⟨c31, -⟩, -⟩ := isX_iff.mp hC.2.2.2.1
    have hmi := @minL_in s.bk (rowL σ π N) (by rw [rowL_len]; omega)
    have key : ∀ (l' : Int) (b' : List Int) (h1 : Hp) (gs1 bs1 : Int → Int) (l6' : AV), isC h1 n s → h1 32 = some (aA 64 gf) → h1 33 = some (aA 64 rf) → h1 34 = some (aA 8 gs1) → h1 35 = some (aA 8 od) → h1 36 = some (aA 8 bs1) → (l' ≠ -1 → arL bs1 0 b' ∧ b'.length = N) → (-1 ≤ l' ∧ l' ≤ 90) → Fr (fun j => 34 ≤ j ∧ j ≤ 36) h h1 →
        (soG (TB s.bk) σ N (q + 1) π l b = match nxF N π with | none => (l', b') | some π' => soG (TB s.bk) σ N q π' l' b') → At G mX3_sort 101 [vR 31, vR 1, vI (N : Int), vI l', vI 1, vI k, l6'] [] (0, 0, n) h1 Q := by
      intro l' b' h1 gs1 bs1 l6' kC k32 k33 k34 k35 k36 kb kl kF ke
      have k31 := kF.keep c31 (by omega)
      refine r_aload_n (pc := 101) dX3_sort_101 rfl <| r_iload_n (pc := 102) dX3_sort_102 rfl <| cVi [_] (pc := 103) dX3_sort_103 k_X3_72 ⟨⟨Nat.le_of_ble_eq_true rfl, Nat.le_of_ble_eq_true rfl⟩, ⟨Nat.le_of_ble_eq_true rfl, Nat.le_of_ble_eq_true rfl⟩, Nat.le_of_ble_eq_true rfl⟩ ⟨rfl, rfl⟩ k31 ?_
      refine sp_cnext k31 k35 (by omega) (fun i i0 i1 => ?_) (fun hx => ?_) (fun f' h2 hx a1 a2 => ?_)
      · rw [(hrl.1 i i0 i1).1]; exact hs _ (hrl.1 i i0 i1).2.1 (hrl.1 i i0 i1).2.2
      · skip
        refine ⟨_, rfl, ?_⟩
        refine r_istore_4 (pc := 106) dX3_sort_106 rfl <| r_iinc_5 (pc := 108) dX3_sort_108 rfl rfl <| r_goto (pc := 111) 42 dX3_sort_111 (by decide) <| ?_
        rcases nxF_rl hm hrl (by omega) with ⟨e2, e3⟩ | ⟨π', f2, e2, e3, e4⟩
        · rw [e2] at ke
          rw [ke] at hQ
          first
            | exact sort_end (by omega) (hQ h1 bs1 kC k36 (fun hne => (kb hne).1) kF)
            | (rw [e3] at hx; cases hx)
        · rw [e3] at hx
          first
            | (cases hx
               rw [e2] at ke
               rw [ke] at hQ
               exact ih π' l' b' (k + 1) h2 gs1 _ bs1 _ (by omega) (by omega) (kC.pcell (c := 35) (by omega) a1 a2) (a2.keep k32 (by omega)) (a2.keep k33 (by omega)) (a2.keep k34 (by omega)) a1 e4 (a2.keep k36 (by omega)) kb kl (fun h' bs' d1 d2 d3 d4 => hQ h' bs' d1 d2 d3 (fun j hj => (d4 j hj).trans ((a2 j (by omega)).trans (kF j hj)))))
            | cases hx
      · skip
        refine ⟨_, rfl, ?_⟩
        refine r_istore_4 (pc := 106) dX3_sort_106 rfl <| r_iinc_5 (pc := 108) dX3_sort_108 rfl rfl <| r_goto (pc := 111) 42 dX3_sort_111 (by decide) <| ?_
        rcases nxF_rl hm hrl (by omega) with ⟨e2, e3⟩ | ⟨π', f2, e2, e3, e4⟩
        · rw [e2] at ke
          rw [ke] at hQ
          first
            | exact sort_end (by omega) (hQ h1 bs1 kC k36 (fun hne => (kb hne).1) kF)
            | (rw [e3] at hx; cases hx)
        · rw [e3] at hx
          first
            | (cases hx
               rw [e2] at ke
               rw [ke] at hQ
               exact ih π' l' b' (k + 1) h2 gs1 _ bs1 _ (by omega) (by omega) (kC.pcell (c := 35) (by omega) a1 a2) (a2.keep k32 (by omega)) (a2.keep k33 (by omega)) (a2.keep k34 (by omega)) a1 e4 (a2.keep k36 (by omega)) kb kl (fun h' bs' d1 d2 d3 d4 => hQ h' bs' d1 d2 d3 (fun j hj => (d4 j hj).trans ((a2 j (by omega)).trans (kF j hj)))))
            | cases hx
    have hflt : flt (-1) (rowL σ π N) = rowL σ π N := flt_id (fun v hv => by have := rowL_mem hrl hs v hv; omega)
    have hrq : ∀ y ∈ rowL σ π N, inQ s.bk y := by
      intro y hy
      obtain ⟨i, hi, rfl⟩ := List.mem_map.mp hy
      have := hrl.1 i (by omega) (by have := List.mem_range.mp hi; omega)
      exact hsq _ this.2.1 this.2.2
    refine r_iload (pc := 42) dX3_sort_42 rfl <| r_sipush (pc := 44) dX3_sort_44 (by decide) <| r_icmp_ge (pc := 47) 114 dX3_sort_47 (by decide) (by omega) (by omega) (fun hc_47 => ?_) (fun hc_47 => ?_)
    · skip
      exfalso; omega
    · skip
      refine r_iload (pc := 50) dX3_sort_50 rfl <| r_if_eq (pc := 52) 114 dX3_sort_52 (by decide) (by decide) (fun q => absurd q (by decide)) (fun _ => ?_)
      refine r_aload_n (pc := 55) dX3_sort_55 rfl <| r_aload_n (pc := 56) dX3_sort_56 rfl <| r_getf (pc := 57) dX3_sort_57 fA_X3_21 c31 rfl <| r_iload_n (pc := 60) dX3_sort_60 rfl <| r_iconst (pc := 61) dX3_sort_61 <| cVi [_, _, _] (pc := 62) dX3_sort_62 k_X3_62 ⟨⟨Nat.le_of_ble_eq_true rfl, Nat.le_of_ble_eq_true rfl⟩, ⟨Nat.le_of_ble_eq_true rfl, Nat.le_of_ble_eq_true rfl⟩, Nat.le_of_ble_eq_true rfl⟩ ⟨rfl, rfl⟩ c31 ?_
      refine sp_pass hI (Or.inr rfl) (L := rowL σ π N) (by rw [rowL_len]; omega) (by omega) kg c31 c32 c33 c34 c35 (rowL_ar hrl) hrq (rowL_nodup hrl hm) (fun h2 gs2 m34 mg hF2 => ?_)
      rw [hflt]
      refine ⟨_, rfl, ?_⟩
      have k2 := hC.pcell (c := 34) (by omega) m34 hF2
      replace c31 := hF2.keep c31 (by omega)
      have k32 := hF2.keep c32 (by omega)
      have k33 := hF2.keep c33 (by omega)
      have k35 := hF2.keep c35 (by omega)
      have k36 := hF2.keep c36 (by omega)
      refine r_istore_6 (pc := 65) dX3_sort_65 rfl <| r_iload (pc := 67) dX3_sort_67 rfl <| r_iconst (pc := 69) dX3_sort_69 <| r_icmp_eq (pc := 70) 101 dX3_sort_70 (by decide) (by omega) (by omega) (fun hc_70 => ?_) (fun hc_70 => ?_)
      · skip
        first
          | (have hno : ¬ (¬ minL (passL (TB s.bk) (rowL σ π N)) = -1 ∧ (l = -1 ∨ minL (passL (TB s.bk) (rowL σ π N)) < l)) := by omega
             refine key l b h2 gs2 bs _ k2 k32 k33 m34 k35 k36 hb hl (hF2.wk (fun q => by omega)) ?_
             simp only [soG]
             rw [if_neg hno]
             cases nxF N π with
             | none => rfl
             | some π' => dsimp only; rw [if_neg hno])
          | (have hyes : ¬ minL (passL (TB s.bk) (rowL σ π N)) = -1 ∧ (l = -1 ∨ minL (passL (TB s.bk) (rowL σ π N)) < l) := by omega
             refine key (minL (passL (TB s.bk) (rowL σ π N))) (rowL σ π N) h_98 gs2 _ _ (k2.pcell (c := 36) (by omega) k36 hF_98) (hF_98.keep k32 (by omega)) (hF_98.keep k33 (by omega)) (hF_98.keep m34 (by omega)) k35 k36 (fun _ => ⟨arL_of (rowL_ar hrl) (fun j j0 j1 => ?_), rowL_len⟩) ⟨hmi.1, hmi.2.1⟩ (fun q hq => ((hF_98 q (by omega)).trans (hF2 q (by omega)))) ?_
             · rw [rowL_len] at j1
               exact icpy_in j0 j1
             · simp only [soG]
               rw [if_pos hyes]
               cases nxF N π with
               | none => rfl
               | some π' => dsimp only; rw [if_pos hyes])
      · skip
        refine r_iload_n (pc := 73) dX3_sort_73 rfl <| r_iconst (pc := 74) dX3_sort_74 <| r_icmp_eq (pc := 75) 84 dX3_sort_75 (by decide) (by omega) (by omega) (fun hc_75 => ?_) (fun hc_75 => ?_)
        · skip
          refine r_iload (pc := 84) dX3_sort_84 rfl <| r_istoren_3 (pc := 86) dX3_sort_86 rfl <| r_aload_n (pc := 87) dX3_sort_87 rfl <| r_getf (pc := 88) dX3_sort_88 fA_X3_21 c31 rfl <| r_iconst (pc := 91) dX3_sort_91 <| r_aload_n (pc := 92) dX3_sort_92 rfl <| r_getf (pc := 93) dX3_sort_93 fA_X3_24 c31 rfl <| r_iconst (pc := 96) dX3_sort_96 <| r_iload_n (pc := 97) dX3_sort_97 rfl <| r_acopy (pc := 98) dX3_sort_98 kL_X3_66 k35 k36 (by decide) (by omega) (by omega) ⟨Nat.le_of_ble_eq_true rfl, Nat.le_of_ble_eq_true rfl⟩ (fun h_98 k36 hF_98 => ?_)
          replace c31 := hF_98.keep c31 (by omega)
          replace k35 := hF_98.keep k35 (by omega)
          first
            | (have hno : ¬ (¬ minL (passL (TB s.bk) (rowL σ π N)) = -1 ∧ (l = -1 ∨ minL (passL (TB s.bk) (rowL σ π N)) < l)) := by omega
               refine key l b h2 gs2 bs _ k2 k32 k33 m34 k35 k36 hb hl (hF2.wk (fun q => by omega)) ?_
               simp only [soG]
               rw [if_neg hno]
               cases nxF N π with
               | none => rfl
               | some π' => dsimp only; rw [if_neg hno])
            | (have hyes : ¬ minL (passL (TB s.bk) (rowL σ π N)) = -1 ∧ (l = -1 ∨ minL (passL (TB s.bk) (rowL σ π N)) < l) := by omega
               refine key (minL (passL (TB s.bk) (rowL σ π N))) (rowL σ π N) h_98 gs2 _ _ (k2.pcell (c := 36) (by omega) k36 hF_98) (hF_98.keep k32 (by omega)) (hF_98.keep k33 (by omega)) (hF_98.keep m34 (by omega)) k35 k36 (fun _ => ⟨arL_of (rowL_ar hrl) (fun j j0 j1 => ?_), rowL_len⟩) ⟨hmi.1, hmi.2.1⟩ (fun q hq => ((hF_98 q (by omega)).trans (hF2 q (by omega)))) ?_
               · rw [rowL_len] at j1
                 exact icpy_in j0 j1
               · simp only [soG]
                 rw [if_pos hyes]
                 cases nxF N π with
                 | none => rfl
                 | some π' => dsimp only; rw [if_pos hyes])
        · skip
          refine r_iload (pc := 78) dX3_sort_78 rfl <| r_iload_n (pc := 80) dX3_sort_80 rfl <| r_icmp_ge (pc := 81) 101 dX3_sort_81 (by decide) (by omega) (by omega) (fun hc_81 => ?_) (fun hc_81 => ?_)
          · skip
            first
              | (have hno : ¬ (¬ minL (passL (TB s.bk) (rowL σ π N)) = -1 ∧ (l = -1 ∨ minL (passL (TB s.bk) (rowL σ π N)) < l)) := by omega
                 refine key l b h2 gs2 bs _ k2 k32 k33 m34 k35 k36 hb hl (hF2.wk (fun q => by omega)) ?_
                 simp only [soG]
                 rw [if_neg hno]
                 cases nxF N π with
                 | none => rfl
                 | some π' => dsimp only; rw [if_neg hno])
              | (have hyes : ¬ minL (passL (TB s.bk) (rowL σ π N)) = -1 ∧ (l = -1 ∨ minL (passL (TB s.bk) (rowL σ π N)) < l) := by omega
                 refine key (minL (passL (TB s.bk) (rowL σ π N))) (rowL σ π N) h_98 gs2 _ _ (k2.pcell (c := 36) (by omega) k36 hF_98) (hF_98.keep k32 (by omega)) (hF_98.keep k33 (by omega)) (hF_98.keep m34 (by omega)) k35 k36 (fun _ => ⟨arL_of (rowL_ar hrl) (fun j j0 j1 => ?_), rowL_len⟩) ⟨hmi.1, hmi.2.1⟩ (fun q hq => ((hF_98 q (by omega)).trans (hF2 q (by omega)))) ?_
                 · rw [rowL_len] at j1
                   exact icpy_in j0 j1
                 · simp only [soG]
                   rw [if_pos hyes]
                   cases nxF N π with
                   | none => rfl
                   | some π' => dsimp only; rw [if_pos hyes])
          · skip
            refine r_iload (pc := 84) dX3_sort_84 rfl <| r_istoren_3 (pc := 86) dX3_sort_86 rfl <| r_aload_n (pc := 87) dX3_sort_87 rfl <| r_getf (pc := 88) dX3_sort_88 fA_X3_21 c31 rfl <| r_iconst (pc := 91) dX3_sort_91 <| r_aload_n (pc := 92) dX3_sort_92 rfl <| r_getf (pc := 93) dX3_sort_93 fA_X3_24 c31 rfl <| r_iconst (pc := 96) dX3_sort_96 <| r_iload_n (pc := 97) dX3_sort_97 rfl <| r_acopy (pc := 98) dX3_sort_98 kL_X3_66 k35 k36 (by decide) (by omega) (by omega) ⟨Nat.le_of_ble_eq_true rfl, Nat.le_of_ble_eq_true rfl⟩ (fun h_98 k36 hF_98 => ?_)
            replace c31 := hF_98.keep c31 (by omega)
            replace k35 := hF_98.keep k35 (by omega)
            first
              | (have hno : ¬ (¬ minL (passL (TB s.bk) (rowL σ π N)) = -1 ∧ (l = -1 ∨ minL (passL (TB s.bk) (rowL σ π N)) < l)) := by omega
                 refine key l b h2 gs2 bs _ k2 k32 k33 m34 k35 k36 hb hl (hF2.wk (fun q => by omega)) ?_
                 simp only [soG]
                 rw [if_neg hno]
                 cases nxF N π with
                 | none => rfl
                 | some π' => dsimp only; rw [if_neg hno])
              | (have hyes : ¬ minL (passL (TB s.bk) (rowL σ π N)) = -1 ∧ (l = -1 ∨ minL (passL (TB s.bk) (rowL σ π N)) < l) := by omega
                 refine key (minL (passL (TB s.bk) (rowL σ π N))) (rowL σ π N) h_98 gs2 _ _ (k2.pcell (c := 36) (by omega) k36 hF_98) (hF_98.keep k32 (by omega)) (hF_98.keep k33 (by omega)) (hF_98.keep m34 (by omega)) k35 k36 (fun _ => ⟨arL_of (rowL_ar hrl) (fun j j0 j1 => ?_), rowL_len⟩) ⟨hmi.1, hmi.2.1⟩ (fun q hq => ((hF_98 q (by omega)).trans (hF2 q (by omega)))) ?_
                 · rw [rowL_len] at j1
                   exact icpy_in j0 j1
                 · simp only [soG]
                   rw [if_pos hyes]
                   cases nxF N π with
                   | none => rfl
                   | some π' => dsimp only; rw [if_pos hyes])
theorem sp_sort2 {gf rf qu : Int → Int} (hC : isC h n s) (hI : Inv s.bk) (kg : gfP s.bk gf rf) (rq : REq qu s.bk 164 8) (dq : Bd qu 0 7) (h6 : s.bk 2 ≤ 6) (c11 : h 11 = some (aA 8 qu)) (c32 : h 32 = some (aA 64 gf)) (c33 : h 33 = some (aA 64 rf)) (hQ : ∀ h' bs', isC h' n s → h' 36 = some (aA 8 bs') → ((soR s.bk).1 ≠ -1 → arL bs' 0 (soR s.bk).2) → Fr (fun j => 34 ≤ j ∧ j ≤ 36) h h' → Q (some (vI (soR s.bk).1)) n h') : Cl G mX3_sort [vR 31, vR 1] n h Q := by
  have i0 := hI.1.1
  have i2 := hI.1.2.2.1
  have hN : (((s.bk 2).toNat : Nat) : Int) = s.bk 2 := by omega
  have hsl := srt_len hI
  obtain ⟨x1, ⟨c31, f1, f2, f3, f4, f5, y1, y2, y3, y4, y5⟩, -⟩ := isX_iff.mp hC.2.2.2.1
  refine cl_of (by decide) (Nat.le_of_ble_eq_true rfl) rfl ?_
  refine r_iconst (pc := 0) dX3_sort_0 <| r_istoren_2 (pc := 1) dX3_sort_1 rfl <| r_iconst (pc := 2) dX3_sort_2 <| r_istoren_3 (pc := 3) dX3_sort_3 rfl <| ?_
  refine lp_cs1 hI rq dq 8 0 h f4 [] _ _ _ (by omega) (by omega) hC c11 y4 (fun i v hv => by cases hv) (by simp) (fun h1 od p' k1 k2 k3 k4 => ?_)
  rw [List.nil_append] at k3 ⊢
  rw [show (((srt s.bk 8 0).length : Nat) : Int) = (((s.bk 2).toNat : Nat) : Int) by omega]
  have hrl := sgm_ar hI k3 h6
  refine r_iconst (pc := 34) dX3_sort_34 <| r_istoren_3 (pc := 35) dX3_sort_35 rfl <| r_iconst (pc := 36) dX3_sort_36 <| r_istore_4 (pc := 37) dX3_sort_37 rfl <| r_iconst (pc := 39) dX3_sort_39 <| r_istore_5 (pc := 40) dX3_sort_40 rfl <| ?_
  refine lp_cs2 (N := (s.bk 2).toNat) (σ := sgm s.bk) hI kg (by omega) (fun i j a b c => sgm_mono hI i j a b (by omega)) (fun i a b => by have := sgm_in hI a (show i < s.bk 2 by omega); omega) (fun i a b => ?_) 720 (dec8 181896) (-1) [] 0 h1 f3 od f5 _ (by omega) (by omega) k1 (k4.keep c32 (by omega)) (k4.keep c33 (by omega)) (k4.keep y3 (by omega)) k2 hrl (k4.keep y5 (by omega)) (fun q => absurd rfl q) (by omega) (fun h2 bs2 m1 m2 m3 m4 => hQ h2 bs2 m1 m2 m3 (fun q hq => ((m4 q (by omega)).trans (k4 q (by omega)))))
  obtain ⟨hh, e⟩ := sgm_at (bk := s.bk) a (by omega)
  rw [e]
  exact ((srt_mem 8 0 _).mp (List.getElem_mem hh)).2
theorem cs_soonest {i : Int} (hC : isC h n s) (hI : Inv s.bk) (hi : inI i) (hQ : ∀ h', isC h' n (fSoonest s i).2 → Fr CR h h' → Q (some (vI (fSoonest s i).1)) n h') : Cl G mX8_soonest [vR 0, vI i] n h Q := by
  obtain ⟨kd, ag, ld, rk, ow, la, tx, qu, wa, lg, ev, c0, c1, c2, c3, c4, c5, c6, c7, c8, c9, c10, c11, c12, c13, c14, ⟨-, -, -, dq, -⟩, -, -, -, rq, -⟩ := hC.opn
  obtain ⟨x1, ⟨c31, -⟩, -⟩ := isX_iff.mp hC.2.2.2.1
  have i0 := hI.1.1
  have i2 := hI.1.2.2.1
  unfold fSoonest at hQ
  refine cl_of (by decide) (Nat.le_of_ble_eq_true rfl) rfl ?_
  refine r_iload_n (pc := 0) dX8_soonest_0 rfl <| r_iconst (pc := 1) dX8_soonest_1 <| r_icmp_ge (pc := 2) 12 dX8_soonest_2 (by decide) (by omega) (by omega) (fun hc_2 => ?_) (fun hc_2 => ?_)
  · skip
    refine r_aload_n (pc := 12) dX8_soonest_12 rfl <| cVi [] (pc := 13) dX8_soonest_13 k_X8_143 ⟨⟨Nat.le_of_ble_eq_true rfl, Nat.le_of_ble_eq_true rfl⟩, ⟨Nat.le_of_ble_eq_true rfl, Nat.le_of_ble_eq_true rfl⟩, Nat.le_of_ble_eq_true rfl⟩ ⟨rfl, rfl⟩ c0 ?_
    refine cs_faulty hC hI (fun q3 => ?_) (fun q3 => ?_)
    · skip
      refine ⟨_, rfl, ?_⟩
      refine r_if_ne (pc := 16) 31 dX8_soonest_16 (by decide) (by decide) (fun _ => ?_) (fun q => absurd q (by decide))
      refine r_aload_n (pc := 31) dX8_soonest_31 rfl <| r_bipush (pc := 32) dX8_soonest_32 (by decide) <| cVi [_] (pc := 34) dX8_soonest_34 k_X8_147 ⟨⟨Nat.le_of_ble_eq_true rfl, Nat.le_of_ble_eq_true rfl⟩, ⟨Nat.le_of_ble_eq_true rfl, Nat.le_of_ble_eq_true rfl⟩, Nat.le_of_ble_eq_true rfl⟩ ⟨rfl, rfl⟩ c0 ?_
      refine cs_no hC (fun h1 g1 g2 => ?_)
      refine ⟨_, rfl, ?_⟩
      refine r_iret (pc := 37) dX8_soonest_37 rfl ⟨Nat.le_of_ble_eq_true rfl, Nat.le_of_ble_eq_true rfl⟩ <| ?_
      first
        | (rw [if_neg (by omega), if_pos (Or.inl q3)] at hQ; exact hQ _ g1 g2)
        | (rw [if_neg (by omega), if_pos (Or.inr (by omega))] at hQ; exact hQ _ g1 g2)
    · skip
      refine ⟨_, rfl, ?_⟩
      refine r_if_ne (pc := 16) 31 dX8_soonest_16 (by decide) (by decide) (fun q => absurd q (by decide)) (fun _ => ?_)
      refine r_aload_n (pc := 19) dX8_soonest_19 rfl <| r_getf (pc := 20) dX8_soonest_20 fA_X8_12 c0 rfl <| r_getf (pc := 23) dX8_soonest_23 fA_X8_186 c1 rfl <| r_bipush (pc := 26) dX8_soonest_26 (by decide) <| r_icmp_le (pc := 28) 38 dX8_soonest_28 (by decide) (by omega) (by omega) (fun hc_28 => ?_) (fun hc_28 => ?_)
      · skip
        refine r_aload_n (pc := 38) dX8_soonest_38 rfl <| r_getf (pc := 39) dX8_soonest_39 fA_X8_40 c0 rfl <| r_aload_n (pc := 42) dX8_soonest_42 rfl <| r_getf (pc := 43) dX8_soonest_43 fA_X8_23 c0 rfl <| r_aload_n (pc := 46) dX8_soonest_46 rfl <| r_getf (pc := 47) dX8_soonest_47 fA_X8_12 c0 rfl <| r_aload_n (pc := 50) dX8_soonest_50 rfl <| r_getf (pc := 51) dX8_soonest_51 fA_X8_33 c0 rfl <| cVv [_, _, _] (pc := 54) dX8_soonest_54 k_X8_189 ⟨⟨Nat.le_of_ble_eq_true rfl, Nat.le_of_ble_eq_true rfl⟩, ⟨Nat.le_of_ble_eq_true rfl, Nat.le_of_ble_eq_true rfl⟩, Nat.le_of_ble_eq_true rfl⟩ ⟨rfl, rfl⟩ c31 ?_
        refine sp_ask hC hI q3 (fun h1 gf rf k1 k32 k33 kg hF1 => ?_)
        refine ⟨rfl, ?_⟩
        replace c0 := hF1.keep c0 (by omega)
        replace c1 := hF1.keep c1 (by omega)
        replace c31 := hF1.keep c31 (by omega)
        replace c11 := hF1.keep c11 (by omega)
        refine r_aload_n (pc := 57) dX8_soonest_57 rfl <| r_getf (pc := 58) dX8_soonest_58 fA_X8_40 c0 rfl <| r_aload_n (pc := 61) dX8_soonest_61 rfl <| r_getf (pc := 62) dX8_soonest_62 fA_X8_12 c0 rfl <| cVi [_] (pc := 65) dX8_soonest_65 k_X8_200 ⟨⟨Nat.le_of_ble_eq_true rfl, Nat.le_of_ble_eq_true rfl⟩, ⟨Nat.le_of_ble_eq_true rfl, Nat.le_of_ble_eq_true rfl⟩, Nat.le_of_ble_eq_true rfl⟩ ⟨rfl, rfl⟩ c31 ?_
        have hc6 : s.bk 2 ≤ 6 := by omega
        have hN : (((s.bk 2).toNat : Nat) : Int) = s.bk 2 := by omega
        rw [if_neg (by omega), if_neg (fun q => q.elim (fun q => q q3) (by omega))] at hQ
        refine sp_sort2 k1 hI kg rq dq hc6 c11 k32 k33 (fun h2 bs2 m1 m2 m3 hF2 => ?_)
        have hin := @soG_in s.bk (sgm s.bk) (s.bk 2).toNat (by omega) 720 (dec8 181896) (-1) [] (by omega) (fun q => absurd rfl q)
        change (-1 ≤ (soR s.bk).1 ∧ (soR s.bk).1 ≤ 90) ∧ ((soR s.bk).1 ≠ -1 → (soR s.bk).2.length = (s.bk 2).toNat) at hin
        obtain ⟨hin1, hin2⟩ := hin
        generalize hR : soR s.bk = R at *
        refine ⟨_, rfl, ?_⟩
        replace c0 := hF2.keep c0 (by omega)
        replace c1 := hF2.keep c1 (by omega)
        replace c31 := hF2.keep c31 (by omega)
        have hF : Fr CR h h2 := fun q hq => ((hF2 q (by omega)).trans (hF1 q (by omega)))
        refine r_istoren_2 (pc := 68) dX8_soonest_68 rfl <| r_iload_n (pc := 69) dX8_soonest_69 rfl <| r_iconst (pc := 70) dX8_soonest_70 <| r_icmp_ne (pc := 71) 81 dX8_soonest_71 (by decide) (by omega) (by omega) (fun hc_71 => ?_) (fun hc_71 => ?_)
        · skip
          refine r_iload_n (pc := 81) dX8_soonest_81 rfl <| r_iconst (pc := 82) dX8_soonest_82 <| r_icmp_ne (pc := 83) 88 dX8_soonest_83 (by decide) (by omega) (by omega) (fun hc_83 => ?_) (fun hc_83 => ?_)
          · skip
            refine r_iload_n (pc := 88) dX8_soonest_88 rfl <| r_aload_n (pc := 89) dX8_soonest_89 rfl <| r_getf (pc := 90) dX8_soonest_90 fA_X8_12 c0 rfl <| r_getf (pc := 93) dX8_soonest_93 fA_X8_186 c1 rfl <| r_icmp_ge (pc := 96) 111 dX8_soonest_96 (by decide) (by omega) (by omega) (fun hc_96 => ?_) (fun hc_96 => ?_)
            · skip
              refine r_bipush (pc := 111) dX8_soonest_111 (by decide) <| r_iret (pc := 113) dX8_soonest_113 rfl ⟨Nat.le_of_ble_eq_true rfl, Nat.le_of_ble_eq_true rfl⟩ <| ?_
              rw [if_neg (by omega), if_neg (by omega)] at hQ
              first
                | (rw [if_pos (by omega)] at hQ
                   have hl := hin2 (by omega)
                   exact qI (getL (m3 (by omega)) (by omega) (by omega)) (hQ _ m1 hF))
                | (rw [if_neg (by omega)] at hQ; exact hQ _ m1 hF)
            · skip
              refine r_aload_n (pc := 99) dX8_soonest_99 rfl <| r_getf (pc := 100) dX8_soonest_100 fA_X8_40 c0 rfl <| r_getf (pc := 103) dX8_soonest_103 fA_X8_204 c31 rfl <| r_iload_n (pc := 106) dX8_soonest_106 rfl <| r_iald (pc := 107) dX8_soonest_107 m2 (by omega) (by decide) <| r_goto (pc := 108) 113 dX8_soonest_108 (by decide) <| r_iret (pc := 113) dX8_soonest_113 rfl ⟨Nat.le_of_ble_eq_true rfl, Nat.le_of_ble_eq_true rfl⟩ <| ?_
              rw [if_neg (by omega), if_neg (by omega)] at hQ
              first
                | (rw [if_pos (by omega)] at hQ
                   have hl := hin2 (by omega)
                   exact qI (getL (m3 (by omega)) (by omega) (by omega)) (hQ _ m1 hF))
                | (rw [if_neg (by omega)] at hQ; exact hQ _ m1 hF)
          · skip
            refine r_iload_n (pc := 86) dX8_soonest_86 rfl <| r_iret (pc := 87) dX8_soonest_87 rfl ⟨Nat.le_of_ble_eq_true rfl, Nat.le_of_ble_eq_true rfl⟩ <| ?_
            rw [if_neg (by omega), if_pos (by omega)] at hQ; exact hQ _ m1 hF
        · skip
          refine r_aload_n (pc := 74) dX8_soonest_74 rfl <| r_bipush (pc := 75) dX8_soonest_75 (by decide) <| cVi [_] (pc := 77) dX8_soonest_77 k_X8_147 ⟨⟨Nat.le_of_ble_eq_true rfl, Nat.le_of_ble_eq_true rfl⟩, ⟨Nat.le_of_ble_eq_true rfl, Nat.le_of_ble_eq_true rfl⟩, Nat.le_of_ble_eq_true rfl⟩ ⟨rfl, rfl⟩ c0 ?_
          refine cs_no m1 (fun h3 g1 g2 => ?_)
          refine ⟨_, rfl, ?_⟩
          refine r_iret (pc := 80) dX8_soonest_80 rfl ⟨Nat.le_of_ble_eq_true rfl, Nat.le_of_ble_eq_true rfl⟩ <| ?_
          rw [if_pos (by omega)] at hQ; exact hQ _ g1 (fun q hq => (g2 q hq).trans (hF q hq))
      · skip
        refine r_aload_n (pc := 31) dX8_soonest_31 rfl <| r_bipush (pc := 32) dX8_soonest_32 (by decide) <| cVi [_] (pc := 34) dX8_soonest_34 k_X8_147 ⟨⟨Nat.le_of_ble_eq_true rfl, Nat.le_of_ble_eq_true rfl⟩, ⟨Nat.le_of_ble_eq_true rfl, Nat.le_of_ble_eq_true rfl⟩, Nat.le_of_ble_eq_true rfl⟩ ⟨rfl, rfl⟩ c0 ?_
        refine cs_no hC (fun h1 g1 g2 => ?_)
        refine ⟨_, rfl, ?_⟩
        refine r_iret (pc := 37) dX8_soonest_37 rfl ⟨Nat.le_of_ble_eq_true rfl, Nat.le_of_ble_eq_true rfl⟩ <| ?_
        first
          | (rw [if_neg (by omega), if_pos (Or.inl q3)] at hQ; exact hQ _ g1 g2)
          | (rw [if_neg (by omega), if_pos (Or.inr (by omega))] at hQ; exact hQ _ g1 g2)
  · skip
    refine r_aload_n (pc := 5) dX8_soonest_5 rfl <| r_bipush (pc := 6) dX8_soonest_6 (by decide) <| cVi [_] (pc := 8) dX8_soonest_8 k_X8_82 ⟨⟨Nat.le_of_ble_eq_true rfl, Nat.le_of_ble_eq_true rfl⟩, ⟨Nat.le_of_ble_eq_true rfl, Nat.le_of_ble_eq_true rfl⟩, Nat.le_of_ble_eq_true rfl⟩ ⟨rfl, rfl⟩ c0 ?_
    refine cs_bad hC (fun h1 g1 g2 => ?_)
    refine ⟨_, rfl, ?_⟩
    refine r_iret (pc := 11) dX8_soonest_11 rfl ⟨Nat.le_of_ble_eq_true rfl, Nat.le_of_ble_eq_true rfl⟩ <| ?_
    rw [if_pos (by omega)] at hQ; exact hQ _ g1 g2
end CSo



