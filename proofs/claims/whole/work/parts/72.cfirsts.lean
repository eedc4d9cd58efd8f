/-! ===== the class: firsts ===== -/
def frN : Nat → Nat → Nat → Nat × Nat
  | 0, u, w => (u, w)
  | 1, u, w => (u, w)
  | d + 2, u, w => if u % (d + 2) = 0 ∧ w % (d + 2) = 0 then frN (d + 1) (u / (d + 2)) (w / (d + 2)) else frN (d + 1) u w
theorem frN_gcd : ∀ u, u < 15 → ∀ w, w < 15 → 0 < w → frN w u w = (u / Nat.gcd u w, w / Nat.gcd u w) := by decide +kernel
section CFi
variable {G : GT} {n : Nat} {h h' : Hp} {Q : PT} {s : SS}
theorem lp_frac {p q0 : Int} : ∀ (d : Nat) (h : Hp) (s : SS) (u w : Nat), d < 100 → u < 100 → w < 100 → h 0 = some (oC s) → s.up = (u : Int) → s.dn = (w : Int) →
    (∀ h', h' 0 = some (oC (s.fr ((frN d u w).1 : Nat) ((frN d u w).2 : Nat))) → Fr (fun q => q = 0) h h' → Q none n h') → At G mX8_setFraction 12 [vR 0, vI p, vI q0, vI (d : Int)] [] (0, 0, n) h Q := by
  intro d
  induction d with
  | zero =>
    intro h s u w hd hu hw c0 eu ew hQ
    refine r_iload_n (pc := 12) dX8_setFraction_12 rfl <| r_iconst (pc := 13) dX8_setFraction_13 <| r_icmp_le (pc := 14) 61 dX8_setFraction_14 (by decide) (by omega) (by omega) (fun hc_14 => ?_) (fun hc_14 => ?_)
    · skip
      refine r_vret (pc := 61) dX8_setFraction_61 rfl ⟨Nat.le_of_ble_eq_true rfl, Nat.le_of_ble_eq_true rfl⟩ <| ?_
      refine hQ h ?_ Fr.rf
      rw [c0]
      show some (oC s) = some (oC (s.fr (u : Nat) (w : Nat)))
      unfold SS.fr oC
      rw [eu, ew]
    · skip
      exfalso; omega
  | succ d ih =>
    intro h s u w hd hu hw c0 eu ew hQ
    match d, ih, hd, hQ with
    | 0, ih, hd, hQ =>
      refine r_iload_n (pc := 12) dX8_setFraction_12 rfl <| r_iconst (pc := 13) dX8_setFraction_13 <| r_icmp_le (pc := 14) 61 dX8_setFraction_14 (by decide) (by omega) (by omega) (fun hc_14 => ?_) (fun hc_14 => ?_)
      · skip
        refine r_vret (pc := 61) dX8_setFraction_61 rfl ⟨Nat.le_of_ble_eq_true rfl, Nat.le_of_ble_eq_true rfl⟩ <| ?_
        refine hQ h ?_ Fr.rf
        rw [c0]
        show some (oC s) = some (oC (s.fr (u : Nat) (w : Nat)))
        unfold SS.fr oC
        rw [eu, ew]
      · skip
        exfalso; omega
    | d + 1, ih, hd, hQ =>
      have m1 : ((u % (d + 2) : Nat) : Int) = (u : Int) % ((d + 1 + 1 : Nat) : Int) := by first | rfl | exact Int.natCast_emod _ _
      have m2 : ((w % (d + 2) : Nat) : Int) = (w : Int) % ((d + 1 + 1 : Nat) : Int) := by first | rfl | exact Int.natCast_emod _ _
      have q1 : ((u / (d + 2) : Nat) : Int) = (u : Int) / ((d + 1 + 1 : Nat) : Int) := by first | rfl | exact Int.natCast_ediv _ _
      have q2 : ((w / (d + 2) : Nat) : Int) = (w : Int) / ((d + 1 + 1 : Nat) : Int) := by first | rfl | exact Int.natCast_ediv _ _
      have l1 := Nat.div_le_self u (d + 2)
      have l2 := Nat.div_le_self w (d + 2)
      have mb1 := Nat.mod_lt u (show d + 2 > 0 by omega)
      have mb2 := Nat.mod_lt w (show d + 2 > 0 by omega)
      unfold oC at c0
      rw [eu, ew] at c0
      simp only [frN] at hQ
      refine r_iload_n (pc := 12) dX8_setFraction_12 rfl <| r_iconst (pc := 13) dX8_setFraction_13 <| r_icmp_le (pc := 14) 61 dX8_setFraction_14 (by decide) (by omega) (by omega) (fun hc_14 => ?_) (fun hc_14 => ?_)
      · skip
        exfalso; omega
      · skip
        refine r_aload_n (pc := 17) dX8_setFraction_17 rfl <| r_getf (pc := 18) dX8_setFraction_18 fA_X8_62 c0 rfl <| r_iload_n (pc := 21) dX8_setFraction_21 rfl <| r_irem (pc := 22) dX8_setFraction_22 (by omega) (by omega) <| r_if_ne (pc := 23) 55 dX8_setFraction_23 (by decide) (by omega) (fun hc_23 => ?_) (fun hc_23 => ?_)
        · skip
          refine r_iinc_3 (pc := 55) dX8_setFraction_55 rfl rfl <| r_goto (pc := 58) 12 dX8_setFraction_58 (by decide) <| ?_
          first
            | (rw [if_neg (by omega)] at hQ
               have := ih h s u w (by omega) hu hw (by unfold oC; rw [eu, ew]; exact c0) eu ew hQ
               rw [show (((d + 1 : Nat)) : Int) = ((d + 1 + 1 : Nat) : Int) + -1 by omega] at this
               exact this)
            | (rw [if_pos (by omega)] at hQ
               rw [← q1, ← q2] at c0
               have := ih h_52 (s.fr (u / (d + 2) : Nat) (w / (d + 2) : Nat)) (u / (d + 2)) (w / (d + 2)) (by omega) (by omega) (by omega) c0 rfl rfl (fun h' a1 a2 => hQ h' a1 (fun j hj => ((a2 j (by omega)).trans ((hF_52 j (by omega)).trans (hF_42 j (by omega))))))
               rw [show (((d + 1 : Nat)) : Int) = ((d + 1 + 1 : Nat) : Int) + -1 by omega] at this
               exact this)
        · skip
          refine r_aload_n (pc := 26) dX8_setFraction_26 rfl <| r_getf (pc := 27) dX8_setFraction_27 fA_X8_66 c0 rfl <| r_iload_n (pc := 30) dX8_setFraction_30 rfl <| r_irem (pc := 31) dX8_setFraction_31 (by omega) (by omega) <| r_if_ne (pc := 32) 55 dX8_setFraction_32 (by decide) (by omega) (fun hc_32 => ?_) (fun hc_32 => ?_)
          · skip
            refine r_iinc_3 (pc := 55) dX8_setFraction_55 rfl rfl <| r_goto (pc := 58) 12 dX8_setFraction_58 (by decide) <| ?_
            first
              | (rw [if_neg (by omega)] at hQ
                 have := ih h s u w (by omega) hu hw (by unfold oC; rw [eu, ew]; exact c0) eu ew hQ
                 rw [show (((d + 1 : Nat)) : Int) = ((d + 1 + 1 : Nat) : Int) + -1 by omega] at this
                 exact this)
              | (rw [if_pos (by omega)] at hQ
                 rw [← q1, ← q2] at c0
                 have := ih h_52 (s.fr (u / (d + 2) : Nat) (w / (d + 2) : Nat)) (u / (d + 2)) (w / (d + 2)) (by omega) (by omega) (by omega) c0 rfl rfl (fun h' a1 a2 => hQ h' a1 (fun j hj => ((a2 j (by omega)).trans ((hF_52 j (by omega)).trans (hF_42 j (by omega))))))
                 rw [show (((d + 1 : Nat)) : Int) = ((d + 1 + 1 : Nat) : Int) + -1 by omega] at this
                 exact this)
          · skip
            refine r_aload_n (pc := 35) dX8_setFraction_35 rfl <| r_dup (pc := 36) dX8_setFraction_36 rfl <| r_getf (pc := 37) dX8_setFraction_37 fA_X8_62 c0 rfl <| r_iload_n (pc := 40) dX8_setFraction_40 rfl <| r_idiv (pc := 41) dX8_setFraction_41 (by omega) (by omega) <| r_putf (pc := 42) dX8_setFraction_42 fP_X8_62 rfl rfl c0 rfl (fun h_42 c0 hF_42 => ?_)
            simp only [List.set_cons_zero, List.set_cons_succ] at c0
            refine r_aload_n (pc := 45) dX8_setFraction_45 rfl <| r_dup (pc := 46) dX8_setFraction_46 rfl <| r_getf (pc := 47) dX8_setFraction_47 fA_X8_66 c0 rfl <| r_iload_n (pc := 50) dX8_setFraction_50 rfl <| r_idiv (pc := 51) dX8_setFraction_51 (by omega) (by omega) <| r_putf (pc := 52) dX8_setFraction_52 fP_X8_66 rfl rfl c0 rfl (fun h_52 c0 hF_52 => ?_)
            simp only [List.set_cons_zero, List.set_cons_succ] at c0
            refine r_iinc_3 (pc := 55) dX8_setFraction_55 rfl rfl <| r_goto (pc := 58) 12 dX8_setFraction_58 (by decide) <| ?_
            first
              | (rw [if_neg (by omega)] at hQ
                 have := ih h s u w (by omega) hu hw (by unfold oC; rw [eu, ew]; exact c0) eu ew hQ
                 rw [show (((d + 1 : Nat)) : Int) = ((d + 1 + 1 : Nat) : Int) + -1 by omega] at this
                 exact this)
              | (rw [if_pos (by omega)] at hQ
                 rw [← q1, ← q2] at c0
                 have := ih h_52 (s.fr (u / (d + 2) : Nat) (w / (d + 2) : Nat)) (u / (d + 2)) (w / (d + 2)) (by omega) (by omega) (by omega) c0 rfl rfl (fun h' a1 a2 => hQ h' a1 (fun j hj => ((a2 j (by omega)).trans ((hF_52 j (by omega)).trans (hF_42 j (by omega))))))
                 rw [show (((d + 1 : Nat)) : Int) = ((d + 1 + 1 : Nat) : Int) + -1 by omega] at this
                 exact this)
theorem sp_frac {u w : Int} (hC : isC h n s) (hu : 0 ≤ u ∧ u < 15) (hw : 0 < w ∧ w < 15) (hQ : ∀ h', isC h' n (s.fr (u / gdF u w) (w / gdF u w)) → Fr (fun q => q = 0) h h' → Q none n h') : Cl G mX8_setFraction [vR 0, vI u, vI w] n h Q := by
  have c0 := hC.1
  have eu : ((u.toNat : Nat) : Int) = u := by omega
  have ew : ((w.toNat : Nat) : Int) = w := by omega
  refine cl_of (by decide) (Nat.le_of_ble_eq_true rfl) rfl ?_
  refine r_aload_n (pc := 0) dX8_setFraction_0 rfl <| r_iload_n (pc := 1) dX8_setFraction_1 rfl <| r_putf (pc := 2) dX8_setFraction_2 fP_X8_62 rfl rfl c0 rfl (fun h_2 c0 hF_2 => ?_)
  simp only [List.set_cons_zero, List.set_cons_succ] at c0
  refine r_aload_n (pc := 5) dX8_setFraction_5 rfl <| r_iload_n (pc := 6) dX8_setFraction_6 rfl <| r_putf (pc := 7) dX8_setFraction_7 fP_X8_66 rfl rfl c0 rfl (fun h_7 c0 hF_7 => ?_)
  simp only [List.set_cons_zero, List.set_cons_succ] at c0
  refine r_iload_n (pc := 10) dX8_setFraction_10 rfl <| r_istoren_3 (pc := 11) dX8_setFraction_11 rfl <| ?_
  have := lp_frac (G := G) (n := n) (Q := Q) (p := u) (q0 := w) w.toNat h_7 (s.fr u w) u.toNat w.toNat (by omega) (by omega) (by omega) c0 eu.symm ew.symm (fun h' a1 a2 => ?_)
  · rw [ew] at this
    exact this
  · have hF : Fr (fun q => q = 0) h h' := fun j hj => ((a2 j (by omega)).trans ((hF_7 j (by omega)).trans (hF_2 j (by omega))))
    have hg := frN_gcd u.toNat (by omega) w.toNat (by omega) (by omega)
    rw [hg] at a1
    refine hQ h' (hC.k0 rfl ⟨rfl, rfl⟩ ?_ hF) hF
    have e1 : ((u.toNat / Nat.gcd u.toNat w.toNat : Nat) : Int) = u / gdF u w := by
      unfold gdF
      rw [Int.natCast_ediv, eu]
    have e2 : ((w.toNat / Nat.gcd u.toNat w.toNat : Nat) : Int) = w / gdF u w := by
      unfold gdF
      rw [Int.natCast_ediv, ew]
    rw [a1, e1, e2]
    rfl
theorem lp_cfirsts {p : Int} (hI : Inv s.bk) (hok : okB s.bk) (hp : 0 ≤ p ∧ p < s.bk 0) : ∀ (q : Nat) (o x : Int) (h : Hp), 0 ≤ o → o + q = s.bk 0 → (0 ≤ x ∧ x ≤ 2 * (if p < o then o - 1 else o)) → isC h n s →
    (∀ h' o', isC h' n s → (0 ≤ lpI (upS (TB s.bk) p) q o x ∧ lpI (upS (TB s.bk) p) q o x ≤ 2 * (s.bk 0 - 1)) → Fr (fun q => q = 30) h h' → At G mX8_firsts 114 [vR 0, vI p, vI (lpI (upS (TB s.bk) p) q o x), vI o'] [] (0, 0, n) h' Q) → At G mX8_firsts 53 [vR 0, vI p, vI x, vI o] [] (0, 0, n) h Q := by
  have i0 := hI.1.1
  intro q
  induction q with
  | zero =>
    intro o x h ho hq hx hC hQ
    obtain ⟨kd, ag, ld, rk, ow, la, tx, qu, wa, lg, ev, c0, c1, c2, c3, c4, c5, c6, c7, -⟩ := hC.opn
    rw [if_pos (by omega)] at hx
    refine r_iload_n (pc := 53) dX8_firsts_53 rfl <| r_aload_n (pc := 54) dX8_firsts_54 rfl <| r_getf (pc := 55) dX8_firsts_55 fA_X8_12 c0 rfl <| r_getf (pc := 58) dX8_firsts_58 fA_X8_86 c1 rfl <| r_getf (pc := 61) dX8_firsts_61 fA_X8_90 c2 rfl <| r_icmp_ge (pc := 64) 114 dX8_firsts_64 (by decide) (by omega) (by omega) (fun hc_64 => ?_) (fun hc_64 => ?_)
    · skip
      exact hQ h o hC (by simp only [lpI]; omega) Fr.rf
    · skip
      exfalso; omega
  | succ q ih =>
    intro o x h ho hq hx hC hQ
    obtain ⟨kd, ag, ld, rk, ow, la, tx, qu, wa, lg, ev, c0, c1, c2, c3, c4, c5, c6, c7, -⟩ := hC.opn
    have hu := @upS_in (TB s.bk) p o x
    have hx2 : 0 ≤ upS (TB s.bk) p o x ∧ upS (TB s.bk) p o x ≤ 2 * (if p < o + 1 then o + 1 - 1 else o + 1) := by
      by_cases c : p < o
      · rw [if_pos c] at hx; rw [if_pos (by omega)]; omega
      · rw [if_neg c] at hx
        by_cases c2 : o = p
        · rw [if_pos (by omega)]; omega
        · rw [if_neg (by omega)]; omega
    have hx3 : x ≤ 20 := by
      by_cases c : p < o
      · rw [if_pos c] at hx; omega
      · rw [if_neg c] at hx; omega
    clear hx
    have hu2 : upS (TB s.bk) p o x = if o = p then x else x + ((if (TB s.bk p o).1 = p then 1 else 0) + (if (TB s.bk o p).1 = p then 1 else 0)) := rfl
    by_cases c : o = p
    · rw [if_pos c] at hu2
      refine r_iload_n (pc := 53) dX8_firsts_53 rfl <| r_aload_n (pc := 54) dX8_firsts_54 rfl <| r_getf (pc := 55) dX8_firsts_55 fA_X8_12 c0 rfl <| r_getf (pc := 58) dX8_firsts_58 fA_X8_86 c1 rfl <| r_getf (pc := 61) dX8_firsts_61 fA_X8_90 c2 rfl <| r_icmp_ge (pc := 64) 114 dX8_firsts_64 (by decide) (by omega) (by omega) (fun hc_64 => ?_) (fun hc_64 => ?_)
      · skip
        exfalso; omega
      · skip
        refine r_iload_n (pc := 67) dX8_firsts_67 rfl <| r_iload_n (pc := 68) dX8_firsts_68 rfl <| r_icmp_eq (pc := 69) 108 dX8_firsts_69 (by decide) (by omega) (by omega) (fun hc_69 => ?_) (fun hc_69 => ?_)
        · skip
          refine r_iinc_3 (pc := 108) dX8_firsts_108 rfl rfl <| r_goto (pc := 111) 53 dX8_firsts_111 (by decide) <| ?_
          have hs := ih (o + 1) (upS (TB s.bk) p o x) h (by omega) (by omega) hx2 hC hQ
          rw [hu2] at hs
          exact hs
        · skip
          exfalso; omega
    · rw [if_neg c] at hu2
      refine r_iload_n (pc := 53) dX8_firsts_53 rfl <| r_aload_n (pc := 54) dX8_firsts_54 rfl <| r_getf (pc := 55) dX8_firsts_55 fA_X8_12 c0 rfl <| r_getf (pc := 58) dX8_firsts_58 fA_X8_86 c1 rfl <| r_getf (pc := 61) dX8_firsts_61 fA_X8_90 c2 rfl <| r_icmp_ge (pc := 64) 114 dX8_firsts_64 (by decide) (by omega) (by omega) (fun hc_64 => ?_) (fun hc_64 => ?_)
      · skip
        exfalso; omega
      · skip
        refine r_iload_n (pc := 67) dX8_firsts_67 rfl <| r_iload_n (pc := 68) dX8_firsts_68 rfl <| r_icmp_eq (pc := 69) 108 dX8_firsts_69 (by decide) (by omega) (by omega) (fun hc_69 => ?_) (fun hc_69 => ?_)
        · skip
          exfalso; omega
        · skip
          refine r_iload_n (pc := 72) dX8_firsts_72 rfl <| r_aload_n (pc := 73) dX8_firsts_73 rfl <| r_iload_n (pc := 74) dX8_firsts_74 rfl <| r_iload_n (pc := 75) dX8_firsts_75 rfl <| r_iconst (pc := 76) dX8_firsts_76 <| cVi [_, _, _] (pc := 77) dX8_firsts_77 k_X8_258 ⟨⟨Nat.le_of_ble_eq_true rfl, Nat.le_of_ble_eq_true rfl⟩, ⟨Nat.le_of_ble_eq_true rfl, Nat.le_of_ble_eq_true rfl⟩, Nat.le_of_ble_eq_true rfl⟩ ⟨rfl, rfl⟩ c0 ?_
          refine cs_goes hC hI hok (by omega) (by omega) (by omega) (Or.inr ⟨rfl, rfl, rfl⟩) (fun q1 h1 k1 hF1 => ?_) (fun q1 h1 k1 hF1 => ?_)
          · skip
            refine ⟨_, rfl, ?_⟩
            replace c0 := hF1.keep c0 (by omega)
            refine r_if_eq (pc := 80) 87 dX8_firsts_80 (by decide) (by decide) (fun q => absurd q (by decide)) (fun _ => ?_)
            refine r_iconst (pc := 83) dX8_firsts_83 <| r_goto (pc := 84) 88 dX8_firsts_84 (by decide) <| r_iadd (pc := 88) dX8_firsts_88 <| r_istoren_2 (pc := 89) dX8_firsts_89 rfl <| r_iload_n (pc := 90) dX8_firsts_90 rfl <| r_aload_n (pc := 91) dX8_firsts_91 rfl <| r_iload_n (pc := 92) dX8_firsts_92 rfl <| r_iload_n (pc := 93) dX8_firsts_93 rfl <| r_iconst (pc := 94) dX8_firsts_94 <| cVi [_, _, _] (pc := 95) dX8_firsts_95 k_X8_258 ⟨⟨Nat.le_of_ble_eq_true rfl, Nat.le_of_ble_eq_true rfl⟩, ⟨Nat.le_of_ble_eq_true rfl, Nat.le_of_ble_eq_true rfl⟩, Nat.le_of_ble_eq_true rfl⟩ ⟨rfl, rfl⟩ c0 ?_
            refine cs_goes k1 hI hok (by omega) (by omega) (by omega) (Or.inl ⟨rfl, rfl, rfl⟩) (fun q2 h2 k2 hF2 => ?_) (fun q2 h2 k2 hF2 => ?_)
            · skip
              refine ⟨_, rfl, ?_⟩
              refine r_if_eq (pc := 98) 105 dX8_firsts_98 (by decide) (by decide) (fun q => absurd q (by decide)) (fun _ => ?_)
              refine r_iconst (pc := 101) dX8_firsts_101 <| r_goto (pc := 102) 106 dX8_firsts_102 (by decide) <| r_iadd (pc := 106) dX8_firsts_106 <| r_istoren_2 (pc := 107) dX8_firsts_107 rfl <| r_iinc_3 (pc := 108) dX8_firsts_108 rfl rfl <| r_goto (pc := 111) 53 dX8_firsts_111 (by decide) <| ?_
              have hs := ih (o + 1) (upS (TB s.bk) p o x) h2 (by omega) (by omega) hx2 k2 (fun h' o' d1 d2 d3 => hQ h' o' d1 d2 (fun j hj => ((d3 j (by omega)).trans ((hF2 j (by omega)).trans (hF1 j (by omega))))))
              rw [hu2] at hs
              first
                | (rw [if_pos q1, if_pos q2, show x + (1 + 1) = x + 1 + 1 by omega] at hs; exact hs)
                | (rw [if_pos q1, if_neg q2, show x + (1 + 0) = x + 1 + 0 by omega] at hs; exact hs)
                | (rw [if_neg q1, if_pos q2, show x + (0 + 1) = x + 0 + 1 by omega] at hs; exact hs)
                | (rw [if_neg q1, if_neg q2, show x + (0 + 0) = x + 0 + 0 by omega] at hs; exact hs)
            · skip
              refine ⟨_, rfl, ?_⟩
              refine r_if_eq (pc := 98) 105 dX8_firsts_98 (by decide) (by decide) (fun _ => ?_) (fun q => absurd q (by decide))
              refine r_iconst (pc := 105) dX8_firsts_105 <| r_iadd (pc := 106) dX8_firsts_106 <| r_istoren_2 (pc := 107) dX8_firsts_107 rfl <| r_iinc_3 (pc := 108) dX8_firsts_108 rfl rfl <| r_goto (pc := 111) 53 dX8_firsts_111 (by decide) <| ?_
              have hs := ih (o + 1) (upS (TB s.bk) p o x) h2 (by omega) (by omega) hx2 k2 (fun h' o' d1 d2 d3 => hQ h' o' d1 d2 (fun j hj => ((d3 j (by omega)).trans ((hF2 j (by omega)).trans (hF1 j (by omega))))))
              rw [hu2] at hs
              first
                | (rw [if_pos q1, if_pos q2, show x + (1 + 1) = x + 1 + 1 by omega] at hs; exact hs)
                | (rw [if_pos q1, if_neg q2, show x + (1 + 0) = x + 1 + 0 by omega] at hs; exact hs)
                | (rw [if_neg q1, if_pos q2, show x + (0 + 1) = x + 0 + 1 by omega] at hs; exact hs)
                | (rw [if_neg q1, if_neg q2, show x + (0 + 0) = x + 0 + 0 by omega] at hs; exact hs)
          · skip
            refine ⟨_, rfl, ?_⟩
            replace c0 := hF1.keep c0 (by omega)
            refine r_if_eq (pc := 80) 87 dX8_firsts_80 (by decide) (by decide) (fun _ => ?_) (fun q => absurd q (by decide))
            refine r_iconst (pc := 87) dX8_firsts_87 <| r_iadd (pc := 88) dX8_firsts_88 <| r_istoren_2 (pc := 89) dX8_firsts_89 rfl <| r_iload_n (pc := 90) dX8_firsts_90 rfl <| r_aload_n (pc := 91) dX8_firsts_91 rfl <| r_iload_n (pc := 92) dX8_firsts_92 rfl <| r_iload_n (pc := 93) dX8_firsts_93 rfl <| r_iconst (pc := 94) dX8_firsts_94 <| cVi [_, _, _] (pc := 95) dX8_firsts_95 k_X8_258 ⟨⟨Nat.le_of_ble_eq_true rfl, Nat.le_of_ble_eq_true rfl⟩, ⟨Nat.le_of_ble_eq_true rfl, Nat.le_of_ble_eq_true rfl⟩, Nat.le_of_ble_eq_true rfl⟩ ⟨rfl, rfl⟩ c0 ?_
            refine cs_goes k1 hI hok (by omega) (by omega) (by omega) (Or.inl ⟨rfl, rfl, rfl⟩) (fun q2 h2 k2 hF2 => ?_) (fun q2 h2 k2 hF2 => ?_)
            · skip
              refine ⟨_, rfl, ?_⟩
              refine r_if_eq (pc := 98) 105 dX8_firsts_98 (by decide) (by decide) (fun q => absurd q (by decide)) (fun _ => ?_)
              refine r_iconst (pc := 101) dX8_firsts_101 <| r_goto (pc := 102) 106 dX8_firsts_102 (by decide) <| r_iadd (pc := 106) dX8_firsts_106 <| r_istoren_2 (pc := 107) dX8_firsts_107 rfl <| r_iinc_3 (pc := 108) dX8_firsts_108 rfl rfl <| r_goto (pc := 111) 53 dX8_firsts_111 (by decide) <| ?_
              have hs := ih (o + 1) (upS (TB s.bk) p o x) h2 (by omega) (by omega) hx2 k2 (fun h' o' d1 d2 d3 => hQ h' o' d1 d2 (fun j hj => ((d3 j (by omega)).trans ((hF2 j (by omega)).trans (hF1 j (by omega))))))
              rw [hu2] at hs
              first
                | (rw [if_pos q1, if_pos q2, show x + (1 + 1) = x + 1 + 1 by omega] at hs; exact hs)
                | (rw [if_pos q1, if_neg q2, show x + (1 + 0) = x + 1 + 0 by omega] at hs; exact hs)
                | (rw [if_neg q1, if_pos q2, show x + (0 + 1) = x + 0 + 1 by omega] at hs; exact hs)
                | (rw [if_neg q1, if_neg q2, show x + (0 + 0) = x + 0 + 0 by omega] at hs; exact hs)
            · skip
              refine ⟨_, rfl, ?_⟩
              refine r_if_eq (pc := 98) 105 dX8_firsts_98 (by decide) (by decide) (fun _ => ?_) (fun q => absurd q (by decide))
              refine r_iconst (pc := 105) dX8_firsts_105 <| r_iadd (pc := 106) dX8_firsts_106 <| r_istoren_2 (pc := 107) dX8_firsts_107 rfl <| r_iinc_3 (pc := 108) dX8_firsts_108 rfl rfl <| r_goto (pc := 111) 53 dX8_firsts_111 (by decide) <| ?_
              have hs := ih (o + 1) (upS (TB s.bk) p o x) h2 (by omega) (by omega) hx2 k2 (fun h' o' d1 d2 d3 => hQ h' o' d1 d2 (fun j hj => ((d3 j (by omega)).trans ((hF2 j (by omega)).trans (hF1 j (by omega))))))
              rw [hu2] at hs
              first
                | (rw [if_pos q1, if_pos q2, show x + (1 + 1) = x + 1 + 1 by omega] at hs; exact hs)
                | (rw [if_pos q1, if_neg q2, show x + (1 + 0) = x + 1 + 0 by omega] at hs; exact hs)
                | (rw [if_neg q1, if_pos q2, show x + (0 + 1) = x + 0 + 1 by omega] at hs; exact hs)
                | (rw [if_neg q1, if_neg q2, show x + (0 + 0) = x + 0 + 0 by omega] at hs; exact hs)
theorem cs_firsts {p : Int} (hC : isC h n s) (hI : Inv s.bk) (hp : inI p) (hQ : ∀ h', isC h' n (fFirsts s p).2 → Fr CR h h' → Q (some (vI (fFirsts s p).1)) n h') : Cl G mX8_firsts [vR 0, vI p] n h Q := by
  obtain ⟨kd, ag, ld, rk, ow, la, tx, qu, wa, lg, ev, c0, c1, c2, c3, c4, c5, c6, c7, -⟩ := hC.opn
  have i0 := hI.1.1
  unfold fFirsts at hQ
  refine cl_of (by decide) (Nat.le_of_ble_eq_true rfl) rfl ?_
  refine r_aload_n (pc := 0) dX8_firsts_0 rfl <| r_getf (pc := 1) dX8_firsts_1 fA_X8_12 c0 rfl <| r_getf (pc := 4) dX8_firsts_4 fA_X8_86 c1 rfl <| r_iload_n (pc := 7) dX8_firsts_7 rfl <| cVi [_] (pc := 8) dX8_firsts_8 k_X8_103 ⟨⟨Nat.le_of_ble_eq_true rfl, Nat.le_of_ble_eq_true rfl⟩, ⟨Nat.le_of_ble_eq_true rfl, Nat.le_of_ble_eq_true rfl⟩, Nat.le_of_ble_eq_true rfl⟩ ⟨rfl, rfl⟩ c2 ?_
  refine sp_has c2 (by omega) hp (fun q1 => ?_) (fun q1 => ?_)
  · skip
    refine ⟨_, rfl, ?_⟩
    refine r_if_ne (pc := 11) 21 dX8_firsts_11 (by decide) (by decide) (fun _ => ?_) (fun q => absurd q (by decide))
    refine r_aload_n (pc := 21) dX8_firsts_21 rfl <| cVi [] (pc := 22) dX8_firsts_22 k_X8_143 ⟨⟨Nat.le_of_ble_eq_true rfl, Nat.le_of_ble_eq_true rfl⟩, ⟨Nat.le_of_ble_eq_true rfl, Nat.le_of_ble_eq_true rfl⟩, Nat.le_of_ble_eq_true rfl⟩ ⟨rfl, rfl⟩ c0 ?_
    refine cs_faulty hC hI (fun q3 => ?_) (fun q3 => ?_)
    · skip
      refine ⟨_, rfl, ?_⟩
      refine r_if_ne (pc := 25) 42 dX8_firsts_25 (by decide) (by decide) (fun _ => ?_) (fun q => absurd q (by decide))
      refine r_aload_n (pc := 42) dX8_firsts_42 rfl <| r_bipush (pc := 43) dX8_firsts_43 (by decide) <| cVi [_] (pc := 45) dX8_firsts_45 k_X8_147 ⟨⟨Nat.le_of_ble_eq_true rfl, Nat.le_of_ble_eq_true rfl⟩, ⟨Nat.le_of_ble_eq_true rfl, Nat.le_of_ble_eq_true rfl⟩, Nat.le_of_ble_eq_true rfl⟩ ⟨rfl, rfl⟩ c0 ?_
      refine cs_no hC (fun h1 g1 g2 => ?_)
      refine ⟨_, rfl, ?_⟩
      refine r_iret (pc := 48) dX8_firsts_48 rfl ⟨Nat.le_of_ble_eq_true rfl, Nat.le_of_ble_eq_true rfl⟩ <| ?_
      first
        | (rw [if_neg (by omega), if_pos (Or.inl q3)] at hQ; exact hQ _ g1 g2)
        | (rw [if_neg (by omega), if_pos (Or.inr (by omega))] at hQ; exact hQ _ g1 g2)
    · skip
      refine ⟨_, rfl, ?_⟩
      refine r_if_ne (pc := 25) 42 dX8_firsts_25 (by decide) (by decide) (fun q => absurd q (by decide)) (fun _ => ?_)
      refine r_aload_n (pc := 28) dX8_firsts_28 rfl <| r_getf (pc := 29) dX8_firsts_29 fA_X8_12 c0 rfl <| r_getf (pc := 32) dX8_firsts_32 fA_X8_86 c1 rfl <| r_getf (pc := 35) dX8_firsts_35 fA_X8_90 c2 rfl <| r_iconst (pc := 38) dX8_firsts_38 <| r_icmp_ge (pc := 39) 49 dX8_firsts_39 (by decide) (by omega) (by omega) (fun hc_39 => ?_) (fun hc_39 => ?_)
      · skip
        refine r_iconst (pc := 49) dX8_firsts_49 <| r_istoren_2 (pc := 50) dX8_firsts_50 rfl <| r_iconst (pc := 51) dX8_firsts_51 <| r_istoren_3 (pc := 52) dX8_firsts_52 rfl <| ?_
        rw [if_neg (by omega), if_neg (fun q => q.elim (fun q => q q3) (by omega))] at hQ
        refine lp_cfirsts hI q3 (by omega) (s.bk 0).toNat 0 0 h (by omega) (by omega) ⟨by omega, by split <;> omega⟩ hC (fun h2 o' a1 a2 a3 => ?_)
        change At G mX8_firsts 114 [vR 0, vI p, vI (upF s.bk p), vI o'] [] (0, 0, n) h2 Q
        change 0 ≤ upF s.bk p ∧ upF s.bk p ≤ 2 * (s.bk 0 - 1) at a2
        generalize hU : upF s.bk p = U at *
        replace c0 := a3.keep c0 (by omega)
        replace c1 := a3.keep c1 (by omega)
        replace c2 := a3.keep c2 (by omega)
        refine r_aload_n (pc := 114) dX8_firsts_114 rfl <| r_iload_n (pc := 115) dX8_firsts_115 rfl <| r_iconst (pc := 116) dX8_firsts_116 <| r_aload_n (pc := 117) dX8_firsts_117 rfl <| r_getf (pc := 118) dX8_firsts_118 fA_X8_12 c0 rfl <| r_getf (pc := 121) dX8_firsts_121 fA_X8_86 c1 rfl <| r_getf (pc := 124) dX8_firsts_124 fA_X8_90 c2 rfl <| r_iconst (pc := 127) dX8_firsts_127 <| r_isub (pc := 128) dX8_firsts_128 <| r_imul (pc := 129) dX8_firsts_129 <| cVv [_, _] (pc := 130) dX8_firsts_130 k_X8_262 ⟨⟨Nat.le_of_ble_eq_true rfl, Nat.le_of_ble_eq_true rfl⟩, ⟨Nat.le_of_ble_eq_true rfl, Nat.le_of_ble_eq_true rfl⟩, Nat.le_of_ble_eq_true rfl⟩ ⟨rfl, rfl⟩ c0 ?_
        refine sp_frac a1 (by omega) (by omega) (fun h3 k3 hF3 => ?_)
        refine ⟨rfl, ?_⟩
        refine r_iconst (pc := 133) dX8_firsts_133 <| r_iret (pc := 134) dX8_firsts_134 rfl ⟨Nat.le_of_ble_eq_true rfl, Nat.le_of_ble_eq_true rfl⟩ <| ?_
        exact hQ _ k3 (fun j hj => ((hF3 j (by omega)).trans (a3 j (by omega))))
      · skip
        refine r_aload_n (pc := 42) dX8_firsts_42 rfl <| r_bipush (pc := 43) dX8_firsts_43 (by decide) <| cVi [_] (pc := 45) dX8_firsts_45 k_X8_147 ⟨⟨Nat.le_of_ble_eq_true rfl, Nat.le_of_ble_eq_true rfl⟩, ⟨Nat.le_of_ble_eq_true rfl, Nat.le_of_ble_eq_true rfl⟩, Nat.le_of_ble_eq_true rfl⟩ ⟨rfl, rfl⟩ c0 ?_
        refine cs_no hC (fun h1 g1 g2 => ?_)
        refine ⟨_, rfl, ?_⟩
        refine r_iret (pc := 48) dX8_firsts_48 rfl ⟨Nat.le_of_ble_eq_true rfl, Nat.le_of_ble_eq_true rfl⟩ <| ?_
        first
          | (rw [if_neg (by omega), if_pos (Or.inl q3)] at hQ; exact hQ _ g1 g2)
          | (rw [if_neg (by omega), if_pos (Or.inr (by omega))] at hQ; exact hQ _ g1 g2)
  · skip
    refine ⟨_, rfl, ?_⟩
    refine r_if_ne (pc := 11) 21 dX8_firsts_11 (by decide) (by decide) (fun q => absurd q (by decide)) (fun _ => ?_)
    refine r_aload_n (pc := 14) dX8_firsts_14 rfl <| r_bipush (pc := 15) dX8_firsts_15 (by decide) <| cVi [_] (pc := 17) dX8_firsts_17 k_X8_82 ⟨⟨Nat.le_of_ble_eq_true rfl, Nat.le_of_ble_eq_true rfl⟩, ⟨Nat.le_of_ble_eq_true rfl, Nat.le_of_ble_eq_true rfl⟩, Nat.le_of_ble_eq_true rfl⟩ ⟨rfl, rfl⟩ c0 ?_
    refine cs_bad hC (fun h1 g1 g2 => ?_)
    refine ⟨_, rfl, ?_⟩
    refine r_iret (pc := 20) dX8_firsts_20 rfl ⟨Nat.le_of_ble_eq_true rfl, Nat.le_of_ble_eq_true rfl⟩ <| ?_
    rw [if_pos (by omega)] at hQ; exact hQ _ g1 g2
end CFi


