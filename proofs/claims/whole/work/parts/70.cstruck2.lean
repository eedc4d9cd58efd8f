/-! ===== the class: struck, on ===== -/
section CSk2
variable {G : GT} {n : Nat} {h h' : Hp} {Q : PT} {s : SS}
def o64 (f g : Int → Int) : Prop := ∀ j : Int, ¬ (0 ≤ j ∧ j < 64) → g j = f j
theorem o64.sb {f g : Int → Int} {i x : Int} (h : o64 f g) (hi : 0 ≤ i ∧ i < 64) : o64 f (sbF g i x) := fun j hj => by rw [sbF_n (by omega)]; exact h j hj
theorem skF_out {f : Int → Int} : o64 f (skF f) := by
  unfold skF
  refine lpI_ind (P := o64 f) 8 0 _ (fun a g a0 a1 hg => ?_) (lpI_ind (P := o64 f) 8 0 _ (fun a g a0 a1 hg => ?_) (fun _ _ => rfl))
  · refine lpI_ind (P := o64 f) _ _ _ (fun b g b0 b1 hg => ?_) hg
    refine lpI_ind (P := o64 f) _ _ _ (fun c g c0 c1 hg => ?_) hg
    exact (((((hg.sb (by omega)).sb (by omega)).sb (by omega)).sb (by omega)).sb (by omega)).sb (by omega)
  · refine lpI_ind (P := o64 f) _ _ _ (fun b g b0 b1 hg => ?_) hg
    exact (hg.sb (by omega)).sb (by omega)
theorem skF_bd {f : Int → Int} (hf : Bd f 0 99) : Bd (skF f) 0 99 := by
  intro j
  by_cases c : 0 ≤ j ∧ j < 64
  · exact skF_B (fun i _ _ => hf i) j c.1 c.2
  · rw [skF_out j c]; exact hf j
theorem cs_struck {a b : Int} (hC : isC h n s) (hI : Inv s.bk) (ha : inI a) (hb : inI b) (hQ : ∀ h', isC h' n (fStruck s a b).2 → Fr CR h h' → Q (some (vI (fStruck s a b).1)) n h') : Cl G mX8_struck [vR 0, vI a, vI b] n h Q := by
  obtain ⟨kd, ag, ld, rk, ow, la, tx, qu, wa, lg, ev, c0, c1, c2, c3, c4, c5, c6, c7, c8, c9, c10, c11, c12, c13, c14, ⟨-, ⟨d5, d6⟩, -⟩, -, ro, -⟩ := hC.opn
  obtain ⟨-, -, -, ⟨f1, f2, kB, e1, e2⟩, -⟩ := isX_iff.mp hC.2.2.2.1
  have c41 := kB.1
  have i0 := hI.1.1
  have hd5 : Bd (icpy ow f1 0 0 64) 0 99 := icpy_bd (N := 64) d5 e1
  have hd6 : Bd (icpy la f2 0 0 64) (-1) 7 := icpy_bd (N := 64) d6 e2
  have hag : ag64 (icpy ow f1 0 0 64) (owB s.bk) := fun i i0 i1 => by rw [icpy_in i0 i1]; exact ro.1 i i0 i1
  have hsum : ∀ _ : Unit, sum64 (skF (icpy ow f1 0 0 64)) = sum64 (skF (owB s.bk)) := fun _ => sum64_ag (skF_ag hag)
  have hat : ∀ i, 0 ≤ i → i < 64 → skF (icpy ow f1 0 0 64) i = skF (owB s.bk) i := fun i a b => skF_ag hag i a b
  have hsb := skF_bd hd5
  unfold fStruck at hQ
  obtain ⟨K, hK⟩ : ∃ K, skF (icpy ow f1 0 0 64) = K := ⟨_, rfl⟩
  obtain ⟨S, hS⟩ : ∃ S, sum64 (skF (owB s.bk)) = S := ⟨_, rfl⟩
  obtain ⟨V, hV⟩ : ∃ V, skF (owB s.bk) = V := ⟨_, rfl⟩
  rw [hS, hV] at hQ
  rw [hS, hK] at hsum
  rw [hV, hK] at hat
  rw [hK] at hsb
  clear hS hV
  refine cl_of (by decide) (Nat.le_of_ble_eq_true rfl) rfl ?_
  refine r_iload_n (pc := 0) dX8_struck_0 rfl <| r_iconst (pc := 1) dX8_struck_1 <| r_icmp_ne (pc := 2) 14 dX8_struck_2 (by decide) (by omega) (by omega) (fun hc_2 => ?_) (fun hc_2 => ?_)
  · skip
    refine r_iconst (pc := 14) dX8_struck_14 <| r_istoren_3 (pc := 15) dX8_struck_15 rfl <| r_iload_n (pc := 16) dX8_struck_16 rfl <| r_if_ne (pc := 17) 42 dX8_struck_17 (by decide) (by decide) (fun q => absurd q (by decide)) (fun _ => ?_)
    refine r_aload_n (pc := 20) dX8_struck_20 rfl <| r_getf (pc := 21) dX8_struck_21 fA_X8_12 c0 rfl <| r_getf (pc := 24) dX8_struck_24 fA_X8_86 c1 rfl <| r_iload_n (pc := 27) dX8_struck_27 rfl <| r_iload_n (pc := 28) dX8_struck_28 rfl <| cVi [_, _] (pc := 29) dX8_struck_29 k_X8_116 ⟨⟨Nat.le_of_ble_eq_true rfl, Nat.le_of_ble_eq_true rfl⟩, ⟨Nat.le_of_ble_eq_true rfl, Nat.le_of_ble_eq_true rfl⟩, Nat.le_of_ble_eq_true rfl⟩ ⟨rfl, rfl⟩ c2 ?_
    refine sp_hasTwo c2 (by omega) ha hb (fun q1 => ?_) (fun q1 => ?_)
    · skip
      refine ⟨_, rfl, ?_⟩
      refine r_if_ne (pc := 32) 42 dX8_struck_32 (by decide) (by decide) (fun _ => ?_) (fun q => absurd q (by decide))
      refine r_aload_n (pc := 42) dX8_struck_42 rfl <| r_getf (pc := 43) dX8_struck_43 fA_X8_54 c0 rfl <| r_aload_n (pc := 46) dX8_struck_46 rfl <| r_getf (pc := 47) dX8_struck_47 fA_X8_12 c0 rfl <| r_getf (pc := 50) dX8_struck_50 fA_X8_120 c1 rfl <| cVv [_] (pc := 53) dX8_struck_53 k_X8_245 ⟨⟨Nat.le_of_ble_eq_true rfl, Nat.le_of_ble_eq_true rfl⟩, ⟨Nat.le_of_ble_eq_true rfl, Nat.le_of_ble_eq_true rfl⟩, Nat.le_of_ble_eq_true rfl⟩ ⟨rfl, rfl⟩ c41 ?_
      refine sp_bcopy kB ⟨c7, c8, c9⟩ (by omega) (fun h1 kB1 hF1 => ?_)
      refine ⟨rfl, ?_⟩
      replace c0 := hF1.keep c0 (by omega)
      replace c41 := hF1.keep c41 (by omega)
      refine r_aload_n (pc := 56) dX8_struck_56 rfl <| r_getf (pc := 57) dX8_struck_57 fA_X8_54 c0 rfl <| cVv [] (pc := 60) dX8_struck_60 k_X8_249 ⟨⟨Nat.le_of_ble_eq_true rfl, Nat.le_of_ble_eq_true rfl⟩, ⟨Nat.le_of_ble_eq_true rfl, Nat.le_of_ble_eq_true rfl⟩, Nat.le_of_ble_eq_true rfl⟩ ⟨rfl, rfl⟩ c41 ?_
      refine sp_strikeOut c41 kB1.2.1 (fun i _ _ => hd5 i) (fun h2 k42 kb hF2 => ?_)
      rw [hK] at k42 kb
      refine ⟨rfl, ?_⟩
      replace c0 := hF2.keep c0 (by omega)
      replace c41 := hF2.keep c41 (by omega)
      have k2 : isC h2 n s := hC.bw ⟨K, _, ⟨c41, k42, hF2.keep kB1.2.2 (by omega)⟩, hsb, hd6⟩ (fun q hq => ((hF2 q (by omega)).trans (hF1 q (by omega))))
      have hF : Fr CR h h2 := fun q hq => ((hF2 q (by omega)).trans (hF1 q (by omega)))
      refine r_iload_n (pc := 63) dX8_struck_63 rfl <| r_if_eq (pc := 64) 77 dX8_struck_64 (by decide) (by decide) (fun _ => ?_) (fun q => absurd q (by decide))
      refine r_aload_n (pc := 77) dX8_struck_77 rfl <| r_getf (pc := 78) dX8_struck_78 fA_X8_54 c0 rfl <| r_getf (pc := 81) dX8_struck_81 fA_X8_123 c41 rfl <| r_iload_n (pc := 84) dX8_struck_84 rfl <| r_iload_n (pc := 85) dX8_struck_85 rfl <| cSi [_, _] (pc := 86) dX8_struck_86 k_X8_126 ⟨⟨Nat.le_of_ble_eq_true rfl, Nat.le_of_ble_eq_true rfl⟩, ⟨Nat.le_of_ble_eq_true rfl, Nat.le_of_ble_eq_true rfl⟩, Nat.le_of_ble_eq_true rfl⟩ ⟨rfl, rfl⟩ ?_
      refine sp_pair8 ?_
      refine ⟨_, rfl, ?_⟩
      refine r_iald (pc := 89) dX8_struck_89 k42 (by omega) (by decide) <| r_iret (pc := 90) dX8_struck_90 rfl ⟨Nat.le_of_ble_eq_true rfl, Nat.le_of_ble_eq_true rfl⟩ <| ?_
      first
        | (rw [if_pos (by omega)] at hQ
           exact qI (hsum ()) (hQ _ k2 hF))
        | (rw [if_neg (by omega), if_pos (by omega)] at hQ
           exact qI (hat _ (by omega) (by omega)) (hQ _ k2 hF))
    · skip
      refine ⟨_, rfl, ?_⟩
      refine r_if_ne (pc := 32) 42 dX8_struck_32 (by decide) (by decide) (fun q => absurd q (by decide)) (fun _ => ?_)
      refine r_aload_n (pc := 35) dX8_struck_35 rfl <| r_bipush (pc := 36) dX8_struck_36 (by decide) <| cVi [_] (pc := 38) dX8_struck_38 k_X8_82 ⟨⟨Nat.le_of_ble_eq_true rfl, Nat.le_of_ble_eq_true rfl⟩, ⟨Nat.le_of_ble_eq_true rfl, Nat.le_of_ble_eq_true rfl⟩, Nat.le_of_ble_eq_true rfl⟩ ⟨rfl, rfl⟩ c0 ?_
      refine cs_bad hC (fun h1 g1 g2 => ?_)
      refine ⟨_, rfl, ?_⟩
      refine r_iret (pc := 41) dX8_struck_41 rfl ⟨Nat.le_of_ble_eq_true rfl, Nat.le_of_ble_eq_true rfl⟩ <| ?_
      rw [if_neg (by omega), if_neg (by omega)] at hQ; exact hQ _ g1 g2
  · skip
    refine r_iload_n (pc := 5) dX8_struck_5 rfl <| r_iconst (pc := 6) dX8_struck_6 <| r_icmp_ne (pc := 7) 14 dX8_struck_7 (by decide) (by omega) (by omega) (fun hc_7 => ?_) (fun hc_7 => ?_)
    · skip
      refine r_iconst (pc := 14) dX8_struck_14 <| r_istoren_3 (pc := 15) dX8_struck_15 rfl <| r_iload_n (pc := 16) dX8_struck_16 rfl <| r_if_ne (pc := 17) 42 dX8_struck_17 (by decide) (by decide) (fun q => absurd q (by decide)) (fun _ => ?_)
      refine r_aload_n (pc := 20) dX8_struck_20 rfl <| r_getf (pc := 21) dX8_struck_21 fA_X8_12 c0 rfl <| r_getf (pc := 24) dX8_struck_24 fA_X8_86 c1 rfl <| r_iload_n (pc := 27) dX8_struck_27 rfl <| r_iload_n (pc := 28) dX8_struck_28 rfl <| cVi [_, _] (pc := 29) dX8_struck_29 k_X8_116 ⟨⟨Nat.le_of_ble_eq_true rfl, Nat.le_of_ble_eq_true rfl⟩, ⟨Nat.le_of_ble_eq_true rfl, Nat.le_of_ble_eq_true rfl⟩, Nat.le_of_ble_eq_true rfl⟩ ⟨rfl, rfl⟩ c2 ?_
      refine sp_hasTwo c2 (by omega) ha hb (fun q1 => ?_) (fun q1 => ?_)
      · skip
        refine ⟨_, rfl, ?_⟩
        refine r_if_ne (pc := 32) 42 dX8_struck_32 (by decide) (by decide) (fun _ => ?_) (fun q => absurd q (by decide))
        refine r_aload_n (pc := 42) dX8_struck_42 rfl <| r_getf (pc := 43) dX8_struck_43 fA_X8_54 c0 rfl <| r_aload_n (pc := 46) dX8_struck_46 rfl <| r_getf (pc := 47) dX8_struck_47 fA_X8_12 c0 rfl <| r_getf (pc := 50) dX8_struck_50 fA_X8_120 c1 rfl <| cVv [_] (pc := 53) dX8_struck_53 k_X8_245 ⟨⟨Nat.le_of_ble_eq_true rfl, Nat.le_of_ble_eq_true rfl⟩, ⟨Nat.le_of_ble_eq_true rfl, Nat.le_of_ble_eq_true rfl⟩, Nat.le_of_ble_eq_true rfl⟩ ⟨rfl, rfl⟩ c41 ?_
        refine sp_bcopy kB ⟨c7, c8, c9⟩ (by omega) (fun h1 kB1 hF1 => ?_)
        refine ⟨rfl, ?_⟩
        replace c0 := hF1.keep c0 (by omega)
        replace c41 := hF1.keep c41 (by omega)
        refine r_aload_n (pc := 56) dX8_struck_56 rfl <| r_getf (pc := 57) dX8_struck_57 fA_X8_54 c0 rfl <| cVv [] (pc := 60) dX8_struck_60 k_X8_249 ⟨⟨Nat.le_of_ble_eq_true rfl, Nat.le_of_ble_eq_true rfl⟩, ⟨Nat.le_of_ble_eq_true rfl, Nat.le_of_ble_eq_true rfl⟩, Nat.le_of_ble_eq_true rfl⟩ ⟨rfl, rfl⟩ c41 ?_
        refine sp_strikeOut c41 kB1.2.1 (fun i _ _ => hd5 i) (fun h2 k42 kb hF2 => ?_)
        rw [hK] at k42 kb
        refine ⟨rfl, ?_⟩
        replace c0 := hF2.keep c0 (by omega)
        replace c41 := hF2.keep c41 (by omega)
        have k2 : isC h2 n s := hC.bw ⟨K, _, ⟨c41, k42, hF2.keep kB1.2.2 (by omega)⟩, hsb, hd6⟩ (fun q hq => ((hF2 q (by omega)).trans (hF1 q (by omega))))
        have hF : Fr CR h h2 := fun q hq => ((hF2 q (by omega)).trans (hF1 q (by omega)))
        refine r_iload_n (pc := 63) dX8_struck_63 rfl <| r_if_eq (pc := 64) 77 dX8_struck_64 (by decide) (by decide) (fun _ => ?_) (fun q => absurd q (by decide))
        refine r_aload_n (pc := 77) dX8_struck_77 rfl <| r_getf (pc := 78) dX8_struck_78 fA_X8_54 c0 rfl <| r_getf (pc := 81) dX8_struck_81 fA_X8_123 c41 rfl <| r_iload_n (pc := 84) dX8_struck_84 rfl <| r_iload_n (pc := 85) dX8_struck_85 rfl <| cSi [_, _] (pc := 86) dX8_struck_86 k_X8_126 ⟨⟨Nat.le_of_ble_eq_true rfl, Nat.le_of_ble_eq_true rfl⟩, ⟨Nat.le_of_ble_eq_true rfl, Nat.le_of_ble_eq_true rfl⟩, Nat.le_of_ble_eq_true rfl⟩ ⟨rfl, rfl⟩ ?_
        refine sp_pair8 ?_
        refine ⟨_, rfl, ?_⟩
        refine r_iald (pc := 89) dX8_struck_89 k42 (by omega) (by decide) <| r_iret (pc := 90) dX8_struck_90 rfl ⟨Nat.le_of_ble_eq_true rfl, Nat.le_of_ble_eq_true rfl⟩ <| ?_
        first
          | (rw [if_pos (by omega)] at hQ
             exact qI (hsum ()) (hQ _ k2 hF))
          | (rw [if_neg (by omega), if_pos (by omega)] at hQ
             exact qI (hat _ (by omega) (by omega)) (hQ _ k2 hF))
      · skip
        refine ⟨_, rfl, ?_⟩
        refine r_if_ne (pc := 32) 42 dX8_struck_32 (by decide) (by decide) (fun q => absurd q (by decide)) (fun _ => ?_)
        refine r_aload_n (pc := 35) dX8_struck_35 rfl <| r_bipush (pc := 36) dX8_struck_36 (by decide) <| cVi [_] (pc := 38) dX8_struck_38 k_X8_82 ⟨⟨Nat.le_of_ble_eq_true rfl, Nat.le_of_ble_eq_true rfl⟩, ⟨Nat.le_of_ble_eq_true rfl, Nat.le_of_ble_eq_true rfl⟩, Nat.le_of_ble_eq_true rfl⟩ ⟨rfl, rfl⟩ c0 ?_
        refine cs_bad hC (fun h1 g1 g2 => ?_)
        refine ⟨_, rfl, ?_⟩
        refine r_iret (pc := 41) dX8_struck_41 rfl ⟨Nat.le_of_ble_eq_true rfl, Nat.le_of_ble_eq_true rfl⟩ <| ?_
        rw [if_neg (by omega), if_neg (by omega)] at hQ; exact hQ _ g1 g2
    · skip
      refine r_iconst (pc := 10) dX8_struck_10 <| r_goto (pc := 11) 15 dX8_struck_11 (by decide) <| r_istoren_3 (pc := 15) dX8_struck_15 rfl <| r_iload_n (pc := 16) dX8_struck_16 rfl <| r_if_ne (pc := 17) 42 dX8_struck_17 (by decide) (by decide) (fun _ => ?_) (fun q => absurd q (by decide))
      refine r_aload_n (pc := 42) dX8_struck_42 rfl <| r_getf (pc := 43) dX8_struck_43 fA_X8_54 c0 rfl <| r_aload_n (pc := 46) dX8_struck_46 rfl <| r_getf (pc := 47) dX8_struck_47 fA_X8_12 c0 rfl <| r_getf (pc := 50) dX8_struck_50 fA_X8_120 c1 rfl <| cVv [_] (pc := 53) dX8_struck_53 k_X8_245 ⟨⟨Nat.le_of_ble_eq_true rfl, Nat.le_of_ble_eq_true rfl⟩, ⟨Nat.le_of_ble_eq_true rfl, Nat.le_of_ble_eq_true rfl⟩, Nat.le_of_ble_eq_true rfl⟩ ⟨rfl, rfl⟩ c41 ?_
      refine sp_bcopy kB ⟨c7, c8, c9⟩ (by omega) (fun h1 kB1 hF1 => ?_)
      refine ⟨rfl, ?_⟩
      replace c0 := hF1.keep c0 (by omega)
      replace c41 := hF1.keep c41 (by omega)
      refine r_aload_n (pc := 56) dX8_struck_56 rfl <| r_getf (pc := 57) dX8_struck_57 fA_X8_54 c0 rfl <| cVv [] (pc := 60) dX8_struck_60 k_X8_249 ⟨⟨Nat.le_of_ble_eq_true rfl, Nat.le_of_ble_eq_true rfl⟩, ⟨Nat.le_of_ble_eq_true rfl, Nat.le_of_ble_eq_true rfl⟩, Nat.le_of_ble_eq_true rfl⟩ ⟨rfl, rfl⟩ c41 ?_
      refine sp_strikeOut c41 kB1.2.1 (fun i _ _ => hd5 i) (fun h2 k42 kb hF2 => ?_)
      rw [hK] at k42 kb
      refine ⟨rfl, ?_⟩
      replace c0 := hF2.keep c0 (by omega)
      replace c41 := hF2.keep c41 (by omega)
      have k2 : isC h2 n s := hC.bw ⟨K, _, ⟨c41, k42, hF2.keep kB1.2.2 (by omega)⟩, hsb, hd6⟩ (fun q hq => ((hF2 q (by omega)).trans (hF1 q (by omega))))
      have hF : Fr CR h h2 := fun q hq => ((hF2 q (by omega)).trans (hF1 q (by omega)))
      refine r_iload_n (pc := 63) dX8_struck_63 rfl <| r_if_eq (pc := 64) 77 dX8_struck_64 (by decide) (by decide) (fun q => absurd q (by decide)) (fun _ => ?_)
      refine r_aload_n (pc := 67) dX8_struck_67 rfl <| r_getf (pc := 68) dX8_struck_68 fA_X8_54 c0 rfl <| cVi [] (pc := 71) dX8_struck_71 k_X8_252 ⟨⟨Nat.le_of_ble_eq_true rfl, Nat.le_of_ble_eq_true rfl⟩, ⟨Nat.le_of_ble_eq_true rfl, Nat.le_of_ble_eq_true rfl⟩, Nat.le_of_ble_eq_true rfl⟩ ⟨rfl, rfl⟩ c41 ?_
      refine sp_sum c41 k42 ?_
      refine ⟨_, rfl, ?_⟩
      refine r_goto (pc := 74) 90 dX8_struck_74 (by decide) <| r_iret (pc := 90) dX8_struck_90 rfl ⟨Nat.le_of_ble_eq_true rfl, Nat.le_of_ble_eq_true rfl⟩ <| ?_
      first
        | (rw [if_pos (by omega)] at hQ
           exact qI (hsum ()) (hQ _ k2 hF))
        | (rw [if_neg (by omega), if_pos (by omega)] at hQ
           exact qI (hat _ (by omega) (by omega)) (hQ _ k2 hF))
end CSk2

