/-! ===== the law's loop ===== -/
section LLp
variable {G : GT} {Q : PT} {nm : String} {b Ln : Nat}
set_option maxRecDepth 100000 in
theorem lw_loop (hG1 : G.2.2.2.2 25 = some b) (hG2 : G.2.2.2.2 26 = some Ln) (hGL : Ln ≤ 2560) (hQ : ∀ n h, Q (some (vI 1)) n h) : ∀ (q : Nat) (i : Int) (h : Hp) (n : Nat) (s : SS) (c0 s0 : Nat), 0 ≤ i ∧ i ≤ 3000 → (Ln : Int) < i + 5 * q + 5 → c0 + 20 * q ≤ 600000 → s0 + 1000 * q ≤ 7302250 → isC h n s → isM h s → gd s → At G (mLw nm) 18 [vO 25, vR 0, vR 45, vI i] [] (c0, s0, n) h Q := by
  intro q
  induction q with
  | zero =>
    intro i h n s c0 s0 hi hL hA hB hC hM hg
    have hA0 : c0 ≤ 600000 := by omega
    have hB0 : s0 ≤ 7302250 := by omega
    refine r_iload_n (pc := 18) dL_law_18 rfl <| r_aload_nO (pc := 19) dL_law_19 rfl <| r_slen (pc := 20) dL_law_20 hG1 hG2 <| r_iconst (pc := 21) dL_law_21 <| r_isub (pc := 22) dL_law_22 <| r_icmp_gt (pc := 23) 1105 dL_law_23 (by decide) (by omega) (by omega) (fun hc_23 => ?_) (fun hc_23 => ?_)
    · skip
      refine r_iconst (pc := 1105) dL_law_1105 <| r_zret (pc := 1106) dL_law_1106 rfl (by omega) ⟨hA0, hB0⟩ <| ?_
      exact hQ _ _
    · skip
      exfalso; omega
  | succ q ih =>
    intro i h n s c0 s0 hi hL hA hB hC hM hg
    have hG3 : Ln < 2147483648 := by omega
    have hsi := scI_in G i.toNat
    have nx : ∀ c1 s1, c1 + 20 * q ≤ 600000 → s1 + 1000 * q ≤ 7302250 → i + 5 ≤ 3000 → nxt G nm i c1 s1 Q := by
      intro c1 s1 e1 e2 e3 h' n' s' k1 k2 k3
      refine r_iinc_3 (pc := 1099) dL_law_1099 rfl rfl <| r_goto (pc := 1102) 18 dL_law_1102 (by decide) <| ?_
      exact ih (i + 5) h' n' s' c1 s1 (by omega) (by omega) e1 e2 k1 k2 k3
    by_cases hx : i + 5 ≤ Ln
    · have n0 := nx c0 s0 (by omega) (by omega) (by omega)
      have n1 := nx (c0 + mX8_image.mc) (s0 + mX8_image.ms) (by show c0 + 14 + 20 * q ≤ 600000; omega) (by show s0 + 435 + 1000 * q ≤ 7302250; omega) (by omega)
      have hA0 : c0 ≤ 600000 := by omega
      have hB0 : s0 ≤ 7302250 := by omega
      have hA1 : c0 + 14 ≤ 600000 := by omega
      have hB1 : s0 + 435 ≤ 7302250 := by omega
      refine r_iload_n (pc := 18) dL_law_18 rfl <| r_aload_nO (pc := 19) dL_law_19 rfl <| r_slen (pc := 20) dL_law_20 hG1 hG2 <| r_iconst (pc := 21) dL_law_21 <| r_isub (pc := 22) dL_law_22 <| r_icmp_gt (pc := 23) 1105 dL_law_23 (by decide) (by omega) (by omega) (fun hc_23 => ?_) (fun hc_23 => ?_)
      · skip
        exfalso; omega
      · skip
        refine r_aload_nO (pc := 26) dL_law_26 rfl <| r_iload_n (pc := 27) dL_law_27 rfl <| r_sld (pc := 28) dL_law_28 hG1 hG2 hG3 (by omega) <| r_bipush (pc := 29) dL_law_29 (by decide) <| r_iand (pc := 31) (scI G i.toNat % 32) dL_law_31 (i_and31 hsi) <| ?_
        rcases (show (scI G i.toNat % 32) = 0 ∨ (scI G i.toNat % 32) = 1 ∨ (scI G i.toNat % 32) = 2 ∨ (scI G i.toNat % 32) = 3 ∨ (scI G i.toNat % 32) = 4 ∨ (scI G i.toNat % 32) = 5 ∨ (scI G i.toNat % 32) = 6 ∨ (scI G i.toNat % 32) = 7 ∨ (scI G i.toNat % 32) = 8 ∨ (scI G i.toNat % 32) = 9 ∨ (scI G i.toNat % 32) = 10 ∨ (scI G i.toNat % 32) = 11 ∨ (scI G i.toNat % 32) = 12 ∨ (scI G i.toNat % 32) = 13 ∨ (scI G i.toNat % 32) = 14 ∨ (scI G i.toNat % 32) = 15 ∨ (scI G i.toNat % 32) = 16 ∨ (scI G i.toNat % 32) = 17 ∨ (scI G i.toNat % 32) = 18 ∨ (scI G i.toNat % 32) = 19 ∨ (scI G i.toNat % 32) = 20 ∨ (scI G i.toNat % 32) = 21 ∨ (scI G i.toNat % 32) = 22 ∨ (scI G i.toNat % 32) = 23 ∨ (scI G i.toNat % 32) = 24 ∨ (scI G i.toNat % 32) = 25 ∨ (scI G i.toNat % 32) = 26 ∨ (scI G i.toNat % 32) = 27 ∨ (scI G i.toNat % 32) = 28 ∨ (scI G i.toNat % 32) = 29 ∨ (scI G i.toNat % 32) = 30 ∨ (scI G i.toNat % 32) = 31 ∨ ((scI G i.toNat % 32) < 0 ∨ 31 < (scI G i.toNat % 32)) by omega) with hs_32 | hs_32 | hs_32 | hs_32 | hs_32 | hs_32 | hs_32 | hs_32 | hs_32 | hs_32 | hs_32 | hs_32 | hs_32 | hs_32 | hs_32 | hs_32 | hs_32 | hs_32 | hs_32 | hs_32 | hs_32 | hs_32 | hs_32 | hs_32 | hs_32 | hs_32 | hs_32 | hs_32 | hs_32 | hs_32 | hs_32 | hs_32 | hs_32
        · skip
          refine r_tableIn (pc := 32) 176 dL_law_32 (by omega) (by omega) (by rw [hs_32]; rfl) (by decide) ?_
          exact law_person hG1 hG2 hG3 (by omega) hA0 hB0 hC hM hg n0
        · skip
          refine r_tableIn (pc := 32) 229 dL_law_32 (by omega) (by omega) (by rw [hs_32]; rfl) (by decide) ?_
          exact law_counts hG1 hG2 hG3 (by omega) hA0 hB0 hC hM hg n0
        · skip
          refine r_tableIn (pc := 32) 262 dL_law_32 (by omega) (by omega) (by rw [hs_32]; rfl) (by decide) ?_
          exact law_owe hG1 hG2 hG3 (by omega) hA0 hB0 hC hM hg n0
        · skip
          refine r_tableIn (pc := 32) 305 dL_law_32 (by omega) (by omega) (by rw [hs_32]; rfl) (by decide) ?_
          exact law_owes hG1 hG2 hG3 (by omega) hA0 hB0 hC hM hg n0
        · skip
          refine r_tableIn (pc := 32) 338 dL_law_32 (by omega) (by omega) (by rw [hs_32]; rfl) (by decide) ?_
          exact law_type hG1 hG2 hG3 (by omega) hA0 hB0 hC hM hg n0
        · skip
          refine r_tableIn (pc := 32) 401 dL_law_32 (by omega) (by omega) (by rw [hs_32]; rfl) (by decide) ?_
          exact law_clear hG1 hG2 hG3 (by omega) hA0 hB0 hC hM hg n0
        · skip
          refine r_tableIn (pc := 32) 414 dL_law_32 (by omega) (by omega) (by rw [hs_32]; rfl) (by decide) ?_
          exact law_fault hG1 hG2 hG3 (by omega) hA0 hB0 hC hM hg n0
        · skip
          refine r_tableIn (pc := 32) 427 dL_law_32 (by omega) (by omega) (by rw [hs_32]; rfl) (by decide) ?_
          exact law_item hG1 hG2 hG3 (by omega) hA0 hB0 hC hM hg n0
        · skip
          refine r_tableIn (pc := 32) 460 dL_law_32 (by omega) (by omega) (by rw [hs_32]; rfl) (by decide) ?_
          exact law_talk hG1 hG2 hG3 (by omega) hA0 hB0 hC hM hg n0
        · skip
          refine r_tableIn (pc := 32) 503 dL_law_32 (by omega) (by omega) (by rw [hs_32]; rfl) (by decide) ?_
          exact law_meet hG1 hG2 hG3 (by omega) hA0 hB0 hC hM hg n0
        · skip
          refine r_tableIn (pc := 32) 536 dL_law_32 (by omega) (by omega) (by rw [hs_32]; rfl) (by decide) ?_
          exact law_come hG1 hG2 hG3 (by omega) hA0 hB0 hC hM hg n0
        · skip
          refine r_tableIn (pc := 32) 559 dL_law_32 (by omega) (by omega) (by rw [hs_32]; rfl) (by decide) ?_
          exact law_disperse hG1 hG2 hG3 (by omega) hA0 hB0 hC hM hg n0
        · skip
          refine r_tableIn (pc := 32) 572 dL_law_32 (by omega) (by omega) (by rw [hs_32]; rfl) (by decide) ?_
          exact law_through hG1 hG2 hG3 (by omega) hA0 hB0 hC hM hg n0
        · skip
          refine r_tableIn (pc := 32) 595 dL_law_32 (by omega) (by omega) (by rw [hs_32]; rfl) (by decide) ?_
          exact law_soonest hG1 hG2 hG3 (by omega) hA0 hB0 hC hM hg n0
        · skip
          refine r_tableIn (pc := 32) 618 dL_law_32 (by omega) (by omega) (by rw [hs_32]; rfl) (by decide) ?_
          exact law_avoid hG1 hG2 hG3 (by omega) hA0 hB0 hC hM hg n0
        · skip
          refine r_tableIn (pc := 32) 631 dL_law_32 (by omega) (by omega) (by rw [hs_32]; rfl) (by decide) ?_
          exact law_waits hG1 hG2 hG3 (by omega) hA0 hB0 hC hM hg n0
        · skip
          refine r_tableIn (pc := 32) 664 dL_law_32 (by omega) (by omega) (by rw [hs_32]; rfl) (by decide) ?_
          exact law_leg hG1 hG2 hG3 (by omega) hA0 hB0 hC hM hg n0
        · skip
          refine r_tableIn (pc := 32) 707 dL_law_32 (by omega) (by omega) (by rw [hs_32]; rfl) (by decide) ?_
          exact law_way hG1 hG2 hG3 (by omega) hA0 hB0 hC hM hg n0
        · skip
          refine r_tableIn (pc := 32) 760 dL_law_32 (by omega) (by omega) (by rw [hs_32]; rfl) (by decide) ?_
          exact law_tell hG1 hG2 hG3 (by omega) hA0 hB0 hC hM hg n0
        · skip
          refine r_tableIn (pc := 32) 803 dL_law_32 (by omega) (by omega) (by rw [hs_32]; rfl) (by decide) ?_
          exact law_forget hG1 hG2 hG3 (by omega) hA0 hB0 hC hM hg n0
        · skip
          refine r_tableIn (pc := 32) 816 dL_law_32 (by omega) (by omega) (by rw [hs_32]; rfl) (by decide) ?_
          exact law_judge hG1 hG2 hG3 (by omega) hA0 hB0 hC hM hg n0
        · skip
          refine r_tableIn (pc := 32) 829 dL_law_32 (by omega) (by omega) (by rw [hs_32]; rfl) (by decide) ?_
          exact law_learns hG1 hG2 hG3 (by omega) hA0 hB0 hC hM hg n0
        · skip
          refine r_tableIn (pc := 32) 842 dL_law_32 (by omega) (by omega) (by rw [hs_32]; rfl) (by decide) ?_
          exact law_struck hG1 hG2 hG3 (by omega) hA0 hB0 hC hM hg n0
        · skip
          refine r_tableIn (pc := 32) 875 dL_law_32 (by omega) (by omega) (by rw [hs_32]; rfl) (by decide) ?_
          exact law_have hG1 hG2 hG3 (by omega) hA0 hB0 hC hM hg n0
        · skip
          refine r_tableIn (pc := 32) 934 dL_law_32 (by omega) (by omega) (by rw [hs_32]; rfl) (by decide) ?_
          exact law_firsts hG1 hG2 hG3 (by omega) hA0 hB0 hC hM hg n0
        · skip
          refine r_tableIn (pc := 32) 957 dL_law_32 (by omega) (by omega) (by rw [hs_32]; rfl) (by decide) ?_
          exact law_strikes hG1 hG2 hG3 (by omega) hA0 hB0 hC hM hg n0
        · skip
          refine r_tableIn (pc := 32) 970 dL_law_32 (by omega) (by omega) (by rw [hs_32]; rfl) (by decide) ?_
          exact law_part hG1 hG2 hG3 (by omega) hA0 hB0 hC hM hg n0
        · skip
          refine r_tableIn (pc := 32) 993 dL_law_32 (by omega) (by omega) (by rw [hs_32]; rfl) (by decide) ?_
          exact law_image hG1 hG2 hG3 (by omega) hA1 hB1 hC hM hg n1
        · skip
          refine r_tableIn (pc := 32) 1016 dL_law_32 (by omega) (by omega) (by rw [hs_32]; rfl) (by decide) ?_
          exact law_from hG1 hG2 hG3 (by omega) hA0 hB0 hC hM hg n0
        · skip
          refine r_tableIn (pc := 32) 1039 dL_law_32 (by omega) (by omega) (by rw [hs_32]; rfl) (by decide) ?_
          exact law_status hG1 hG2 hG3 (by omega) hA0 hB0 hC hM hg n0
        · skip
          refine r_tableIn (pc := 32) 1062 dL_law_32 (by omega) (by omega) (by rw [hs_32]; rfl) (by decide) ?_
          exact law_count hG1 hG2 hG3 (by omega) hA0 hB0 hC hM hg n0
        · skip
          refine r_tableIn (pc := 32) 1085 dL_law_32 (by omega) (by omega) (by rw [hs_32]; rfl) (by decide) ?_
          exact law_digest hG1 hG2 hG3 (by omega) hA0 hB0 hC hM hg n0
        · skip
          exfalso; omega
    · have hA0 : c0 ≤ 600000 := by omega
      have hB0 : s0 ≤ 7302250 := by omega
      refine r_iload_n (pc := 18) dL_law_18 rfl <| r_aload_nO (pc := 19) dL_law_19 rfl <| r_slen (pc := 20) dL_law_20 hG1 hG2 <| r_iconst (pc := 21) dL_law_21 <| r_isub (pc := 22) dL_law_22 <| r_icmp_gt (pc := 23) 1105 dL_law_23 (by decide) (by omega) (by omega) (fun hc_23 => ?_) (fun hc_23 => ?_)
      · skip
        refine r_iconst (pc := 1105) dL_law_1105 <| r_zret (pc := 1106) dL_law_1106 rfl (by omega) ⟨hA0, hB0⟩ <| ?_
        exact hQ _ _
      · skip
        exfalso; omega
set_option maxRecDepth 100000 in
theorem lw_body (hG1 : G.2.2.2.2 25 = some b) (hG2 : G.2.2.2.2 26 = some Ln) (hGL : Ln ≤ 2560) (hQ : ∀ n h, Q (some (vI 1)) n h) : At G (mLw nm) 0 [vO 25, vU, vU, vU] [] (0, 0, 0) (fun _ => none) Q := by
  refine w_new (pc := 0) dL_law_0 fN_L_7 ⟨Nat.le_of_ble_eq_true rfl, Nat.le_of_ble_eq_true rfl⟩ (fun h_0 hn_0 hF_0 => ?_)
  refine r_dup (pc := 3) dL_law_3 rfl <| cIa [] (pc := 4) dL_law_4 k_L_9 ⟨⟨Nat.le_of_ble_eq_true rfl, Nat.le_of_ble_eq_true rfl⟩, ⟨Nat.le_of_ble_eq_true rfl, Nat.le_of_ble_eq_true rfl⟩, Nat.le_of_ble_eq_true rfl⟩ ?_
  refine sp_cinit hn_0 (fun h1 k1 hF1 => ?_)
  refine ⟨rfl, ?_⟩
  replace hn_0 := k1.1
  refine r_astoren_1 (pc := 7) dL_law_7 rfl <| w_new (pc := 8) dL_law_8 fN_L_10 ⟨Nat.le_of_ble_eq_true rfl, Nat.le_of_ble_eq_true rfl⟩ (fun h_8 hn_8 hF_8 => ?_)
  replace hn_0 := hF_8.keep hn_0 (by omega)
  refine r_dup (pc := 11) dL_law_11 rfl <| cIa [] (pc := 12) dL_law_12 k_L_12 ⟨⟨Nat.le_of_ble_eq_true rfl, Nat.le_of_ble_eq_true rfl⟩, ⟨Nat.le_of_ble_eq_true rfl, Nat.le_of_ble_eq_true rfl⟩, Nat.le_of_ble_eq_true rfl⟩ ?_
  refine sp_minit hn_8 (fun h2 m1 hF2 => ?_)
  refine ⟨rfl, ?_⟩
  skip
  refine r_astoren_2 (pc := 15) dL_law_15 rfl <| r_iconst (pc := 16) dL_law_16 <| r_istoren_3 (pc := 17) dL_law_17 rfl <| ?_
  have hF : Fr MR h1 h2 := fun q hq => (hF2 q hq).trans (hF_8 q (by omega))
  exact lw_loop hG1 hG2 hGL hQ 512 0 h2 58 s00 _ _ (by omega) (by omega) (by decide) (by decide) (k1.mr hF) m1 gd_0
end LLp

