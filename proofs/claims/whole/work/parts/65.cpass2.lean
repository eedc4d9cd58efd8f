/-! ===== the class: through, avoid ===== -/
section CPt
variable {G : GT} {n : Nat} {h h' : Hp} {Q : PT} {s : SS}
def gfP (bk gf rf : Int → Int) : Prop := ∀ x y, inQ bk x → inQ bk y → x ≠ y → gf (x * 8 + y) = (TB bk x y).1 ∧ rf (x * 8 + y) = (TB bk x y).2.1
theorem lp_passB {bk f gf rf : Int → Int} {c : Nat} {sz w : Int} (hI : Inv bk) (hcc : c = 11 ∨ c = 35) (hsz : 0 ≤ sz ∧ sz ≤ 8) (hw : inI w) (hg : gfP bk gf rf) :
    ∀ (R : List Int) (k left m : Int) (g : List Int) (h : Hp) (gs : Int → Int) (l8 l9 : AV), isJ l8 = false → 0 ≤ k → k + R.length = sz → (g.length : Int) + 1 ≤ k → (1 ≤ m ∧ m ≤ 1 + 10 * k) → h 31 = some (aO 3 [vR 32, vR 33, vR 34, vR 35, vR 36]) → h 32 = some (aA 64 gf) → h 33 = some (aA 64 rf) → h 34 = some (aA 8 gs) → h c = some (aA 8 f) → arL f k R → arL gs 0 g → inQ bk left → (∀ y ∈ R, inQ bk y) → R.Nodup → left ∉ R →
    (∀ h' gs', h' 34 = some (aA 8 gs') → (∀ q, psL (TB bk) (flt w R) left m g = some q → arL gs' 0 q.2) → Fr (fun j => j = 34) h h' → Q (some (vI (minL (psL (TB bk) (flt w R) left m g)))) n h') → At G mX3_pass 12 [vR 31, vR c, vI sz, vI w, vI left, vI (g.length : Nat), vI (m - 1), vI k, l8, l9] [] (0, 0, n) h Q := by
  have i0 := hI.1.1
  intro R
  induction R with
  | nil =>
    intro k left m g h gs l8 l9 hl8 hk hkm hgl hm c31 c32 c33 c34 hc hf hgs hlf hR hnd hlR hQ
    have bl := inQ_lt hI hlf
    simp only [List.length_nil] at hkm
    refine r_iload (pc := 12) dX3_pass_12 rfl <| r_iload_n (pc := 14) dX3_pass_14 rfl <| r_icmp_ge (pc := 15) 126 dX3_pass_15 (by decide) (by omega) (by omega) (fun hc_15 => ?_) (fun hc_15 => ?_)
    · skip
      refine r_iload (pc := 126) dX3_pass_126 rfl <| r_iconst (pc := 128) dX3_pass_128 <| r_icmp_eq (pc := 129) 144 dX3_pass_129 (by decide) (by omega) (by omega) (fun hc_129 => ?_) (fun hc_129 => ?_)
      · skip
        exfalso; omega
      · skip
        refine r_aload_n (pc := 132) dX3_pass_132 rfl <| r_getf (pc := 133) dX3_pass_133 fA_X3_18 c31 rfl <| r_iload (pc := 136) dX3_pass_136 rfl <| r_iload (pc := 138) dX3_pass_138 rfl <| r_iast (pc := 140) dX3_pass_140 c34 (by omega) (by decide) (fun h_140 c34 hF_140 => ?_)
        replace c31 := hF_140.keep c31 (by omega)
        refine r_iinc_6 (pc := 141) dX3_pass_141 rfl rfl <| r_iload (pc := 144) dX3_pass_144 rfl <| r_iret (pc := 146) dX3_pass_146 rfl ⟨Nat.le_of_ble_eq_true rfl, Nat.le_of_ble_eq_true rfl⟩ <| ?_
        refine qI ?_ (hQ _ _ c34 (fun q hq => ?_) hF_140)
        · show m - 1 + 1 = m
          omega
        · cases hq
          exact hgs.snoc rfl
    · skip
      exfalso; omega
  | cons y R ih =>
    intro k left m g h gs l8 l9 hl8 hk hkm hgl hm c31 c32 c33 c34 hc hf hgs hlf hR hnd hlR hQ
    have bl := inQ_lt hI hlf
    simp only [List.length_cons] at hkm
    obtain ⟨hy0, hf'⟩ := hf.cons
    have hyq := hR y List.mem_cons_self
    have by' := inQ_lt hI hyq
    have hne : left ≠ y := fun e => hlR (by rw [e]; exact List.mem_cons_self)
    obtain ⟨hyR, hndR⟩ := List.nodup_cons.mp hnd
    have hlR' : left ∉ R := fun hm => hlR (List.mem_cons_of_mem _ hm)
    obtain ⟨e1, e2⟩ := hg left y hlf hyq hne
    have hb3 := TB_3 hI (x := left) (y := y) (by omega) (by omega) hne
    have hr := TB_r bk left y
    by_cases cw : y = w
    · rw [flt_y cw] at hQ
      refine r_iload (pc := 12) dX3_pass_12 rfl <| r_iload_n (pc := 14) dX3_pass_14 rfl <| r_icmp_ge (pc := 15) 126 dX3_pass_15 (by decide) (by omega) (by omega) (fun hc_15 => ?_) (fun hc_15 => ?_)
      · skip
        exfalso; omega
      · skip
        refine r_aload_n (pc := 18) dX3_pass_18 rfl <| r_iload (pc := 19) dX3_pass_19 rfl <| r_iald (pc := 21) dX3_pass_21 hc (by omega) (by decide) <| r_istore_8 (pc := 22) dX3_pass_22 rfl <| r_iload (pc := 24) dX3_pass_24 rfl <| r_iload_n (pc := 26) dX3_pass_26 rfl <| r_icmp_ne (pc := 27) 33 dX3_pass_27 (by decide) (by omega) (by omega) (fun hc_27 => ?_) (fun hc_27 => ?_)
        · skip
          exfalso; omega
        · skip
          refine r_goto (pc := 30) 120 dX3_pass_30 (by decide) <| r_iinc_7 (pc := 120) dX3_pass_120 rfl rfl <| r_goto (pc := 123) 12 dX3_pass_123 (by decide) <| ?_
          exact ih (k + 1) left m g h gs _ _ rfl (by omega) (by omega) (by omega) (by omega) c31 c32 c33 c34 hc hf' hgs hlf (fun z hz => hR z (List.mem_cons_of_mem _ hz)) hndR hlR' hQ
    · rw [flt_n cw] at hQ
      refine r_iload (pc := 12) dX3_pass_12 rfl <| r_iload_n (pc := 14) dX3_pass_14 rfl <| r_icmp_ge (pc := 15) 126 dX3_pass_15 (by decide) (by omega) (by omega) (fun hc_15 => ?_) (fun hc_15 => ?_)
      · skip
        exfalso; omega
      · skip
        refine r_aload_n (pc := 18) dX3_pass_18 rfl <| r_iload (pc := 19) dX3_pass_19 rfl <| r_iald (pc := 21) dX3_pass_21 hc (by omega) (by decide) <| ?_
        rw [hy0]
        refine r_istore_8 (pc := 22) dX3_pass_22 rfl <| r_iload (pc := 24) dX3_pass_24 rfl <| r_iload_n (pc := 26) dX3_pass_26 rfl <| r_icmp_ne (pc := 27) 33 dX3_pass_27 (by decide) (by omega) (by omega) (fun hc_27 => ?_) (fun hc_27 => ?_)
        · skip
          refine r_iload (pc := 33) dX3_pass_33 rfl <| r_iconst (pc := 35) dX3_pass_35 <| r_icmp_ne (pc := 36) 46 dX3_pass_36 (by decide) (by omega) (by omega) (fun hc_36 => ?_) (fun hc_36 => ?_)
          · skip
            refine r_iload (pc := 46) dX3_pass_46 rfl <| r_iload (pc := 48) dX3_pass_48 rfl <| cSNi [_, _] (pc := 50) dX3_pass_50 k_X3_36 ⟨⟨Nat.le_of_ble_eq_true rfl, Nat.le_of_ble_eq_true rfl⟩, ⟨Nat.le_of_ble_eq_true rfl, Nat.le_of_ble_eq_true rfl⟩, Nat.le_of_ble_eq_true rfl⟩ ⟨rfl, rfl⟩ ?_
            refine sp_pair ?_
            refine ⟨_, rfl, ?_⟩
            refine r_istore_9 (pc := 53) dX3_pass_53 rfl <| r_aload_n (pc := 55) dX3_pass_55 rfl <| r_getf (pc := 56) dX3_pass_56 fA_X3_9 c31 rfl <| r_iload (pc := 59) dX3_pass_59 rfl <| r_iald (pc := 61) dX3_pass_61 c32 (by omega) (by decide) <| r_iconst (pc := 62) dX3_pass_62 <| r_icmp_ne (pc := 63) 68 dX3_pass_63 (by decide) (by omega) (by omega) (fun hc_63 => ?_) (fun hc_63 => ?_)
            · skip
              refine r_iload (pc := 68) dX3_pass_68 rfl <| r_aload_n (pc := 70) dX3_pass_70 rfl <| r_getf (pc := 71) dX3_pass_71 fA_X3_15 c31 rfl <| r_iload (pc := 74) dX3_pass_74 rfl <| r_iald (pc := 76) dX3_pass_76 c33 (by omega) (by decide) <| r_iconst (pc := 77) dX3_pass_77 <| r_iadd (pc := 78) dX3_pass_78 <| r_iadd (pc := 79) dX3_pass_79 <| r_istore_6 (pc := 80) dX3_pass_80 rfl <| r_aload_n (pc := 82) dX3_pass_82 rfl <| r_getf (pc := 83) dX3_pass_83 fA_X3_18 c31 rfl <| r_iload (pc := 86) dX3_pass_86 rfl <| r_aload_n (pc := 88) dX3_pass_88 rfl <| r_getf (pc := 89) dX3_pass_89 fA_X3_9 c31 rfl <| r_iload (pc := 92) dX3_pass_92 rfl <| r_iald (pc := 94) dX3_pass_94 c32 (by omega) (by decide) <| r_iast (pc := 95) dX3_pass_95 c34 (by omega) (by decide) (fun h_95 c34 hF_95 => ?_)
              replace c31 := hF_95.keep c31 (by omega)
              replace hc := hF_95.keep hc (by omega)
              replace c32 := hF_95.keep c32 (by omega)
              replace c33 := hF_95.keep c33 (by omega)
              refine r_iinc_5 (pc := 96) dX3_pass_96 rfl rfl <| r_aload_n (pc := 99) dX3_pass_99 rfl <| r_getf (pc := 100) dX3_pass_100 fA_X3_9 c31 rfl <| r_iload (pc := 103) dX3_pass_103 rfl <| r_iald (pc := 105) dX3_pass_105 c32 (by omega) (by decide) <| r_iload (pc := 106) dX3_pass_106 rfl <| r_icmp_ne (pc := 108) 116 dX3_pass_108 (by decide) (by omega) (by omega) (fun hc_108 => ?_) (fun hc_108 => ?_)
              · skip
                refine r_iload (pc := 116) dX3_pass_116 rfl <| r_istore_4 (pc := 118) dX3_pass_118 rfl <| r_iinc_7 (pc := 120) dX3_pass_120 rfl rfl <| r_goto (pc := 123) 12 dX3_pass_123 (by decide) <| ?_
                have hps : psL (TB bk) (y :: flt w R) left m g = psL (TB bk) (flt w R) (left + y - (TB bk left y).1) (m + (TB bk left y).2.1 + 1) (g ++ [(TB bk left y).1]) := by simp only [psL]; rw [if_neg (by omega)]
                rw [hps] at hQ
                have hgl' : (g ++ [(TB bk left y).1]).length = g.length + 1 := by simp
                have hgs' : arL (iu gs (g.length : Nat) (gf (left * 8 + y))) 0 (g ++ [(TB bk left y).1]) := by rw [e1]; exact hgs.snoc rfl
                have hih := fun l9 => ih (k + 1) (left + y - (TB bk left y).1) (m + (TB bk left y).2.1 + 1) (g ++ [(TB bk left y).1]) h_95 _ (vI y) l9 rfl (by omega) (by omega) (by rw [hgl']; omega) (by omega) c31 c32 c33 c34 hc hf' hgs' ?_ (fun z hz => hR z (List.mem_cons_of_mem _ hz)) hndR ?_ (fun h' gs' a1 a2 a3 => hQ h' gs' a1 a2 (fun j hj => (a3 j hj).trans (hF_95 j hj)))
                · rw [hgl'] at hih
                  rw [show ((g.length + 1 : Nat) : Int) = (g.length : Nat) + 1 by omega] at hih
                  rw [show m + (TB bk left y).2.1 + 1 - 1 = m - 1 + (rf (left * 8 + y) + 1) by omega] at hih
                  first
                    | (rw [show left + y - (TB bk left y).1 = y by omega] at hih; exact hih _)
                    | (rw [show left + y - (TB bk left y).1 = left by omega] at hih; exact hih _)
                · first
                    | (rw [show left + y - (TB bk left y).1 = y by omega]; exact hyq)
                    | (rw [show left + y - (TB bk left y).1 = left by omega]; exact hlf)
                · first
                    | (rw [show left + y - (TB bk left y).1 = y by omega]; exact hyR)
                    | (rw [show left + y - (TB bk left y).1 = left by omega]; exact hlR')
              · skip
                refine r_iload (pc := 111) dX3_pass_111 rfl <| r_goto (pc := 113) 118 dX3_pass_113 (by decide) <| r_istore_4 (pc := 118) dX3_pass_118 rfl <| r_iinc_7 (pc := 120) dX3_pass_120 rfl rfl <| r_goto (pc := 123) 12 dX3_pass_123 (by decide) <| ?_
                have hps : psL (TB bk) (y :: flt w R) left m g = psL (TB bk) (flt w R) (left + y - (TB bk left y).1) (m + (TB bk left y).2.1 + 1) (g ++ [(TB bk left y).1]) := by simp only [psL]; rw [if_neg (by omega)]
                rw [hps] at hQ
                have hgl' : (g ++ [(TB bk left y).1]).length = g.length + 1 := by simp
                have hgs' : arL (iu gs (g.length : Nat) (gf (left * 8 + y))) 0 (g ++ [(TB bk left y).1]) := by rw [e1]; exact hgs.snoc rfl
                have hih := fun l9 => ih (k + 1) (left + y - (TB bk left y).1) (m + (TB bk left y).2.1 + 1) (g ++ [(TB bk left y).1]) h_95 _ (vI y) l9 rfl (by omega) (by omega) (by rw [hgl']; omega) (by omega) c31 c32 c33 c34 hc hf' hgs' ?_ (fun z hz => hR z (List.mem_cons_of_mem _ hz)) hndR ?_ (fun h' gs' a1 a2 a3 => hQ h' gs' a1 a2 (fun j hj => (a3 j hj).trans (hF_95 j hj)))
                · rw [hgl'] at hih
                  rw [show ((g.length + 1 : Nat) : Int) = (g.length : Nat) + 1 by omega] at hih
                  rw [show m + (TB bk left y).2.1 + 1 - 1 = m - 1 + (rf (left * 8 + y) + 1) by omega] at hih
                  first
                    | (rw [show left + y - (TB bk left y).1 = y by omega] at hih; exact hih _)
                    | (rw [show left + y - (TB bk left y).1 = left by omega] at hih; exact hih _)
                · first
                    | (rw [show left + y - (TB bk left y).1 = y by omega]; exact hyq)
                    | (rw [show left + y - (TB bk left y).1 = left by omega]; exact hlf)
                · first
                    | (rw [show left + y - (TB bk left y).1 = y by omega]; exact hyR)
                    | (rw [show left + y - (TB bk left y).1 = left by omega]; exact hlR')
            · skip
              refine r_iconst (pc := 66) dX3_pass_66 <| r_iret (pc := 67) dX3_pass_67 rfl ⟨Nat.le_of_ble_eq_true rfl, Nat.le_of_ble_eq_true rfl⟩ <| ?_
              have hsh : psL (TB bk) (y :: flt w R) left m g = none := by simp only [psL]; rw [if_pos (by omega)]
              rw [hsh] at hQ
              exact hQ h gs c34 (fun q hq => by cases hq) Fr.rf
          · skip
            exfalso; omega
        · skip
          exfalso; omega
theorem lp_passA {bk f gf rf : Int → Int} {c : Nat} {sz w : Int} (hI : Inv bk) (hcc : c = 11 ∨ c = 35) (hsz : 0 ≤ sz ∧ sz ≤ 8) (hw : inI w) (hg : gfP bk gf rf) :
    ∀ (R : List Int) (k : Int) (h : Hp) (gs : Int → Int) (l8 l9 : AV), isJ l8 = false → 0 ≤ k → k + R.length = sz → h 31 = some (aO 3 [vR 32, vR 33, vR 34, vR 35, vR 36]) → h 32 = some (aA 64 gf) → h 33 = some (aA 64 rf) → h 34 = some (aA 8 gs) → h c = some (aA 8 f) → arL f k R → (∀ y ∈ R, inQ bk y) → R.Nodup →
    (∀ h' gs', h' 34 = some (aA 8 gs') → (∀ q, passL (TB bk) (flt w R) = some q → arL gs' 0 q.2) → Fr (fun j => j = 34) h h' → Q (some (vI (minL (passL (TB bk) (flt w R))))) n h') → At G mX3_pass 12 [vR 31, vR c, vI sz, vI w, vI (-1), vI 0, vI 0, vI k, l8, l9] [] (0, 0, n) h Q := by
  have i0 := hI.1.1
  intro R
  induction R with
  | nil =>
    intro k h gs l8 l9 hl8 hk hkm c31 c32 c33 c34 hc hf hR hnd hQ
    simp only [List.length_nil] at hkm
    refine r_iload (pc := 12) dX3_pass_12 rfl <| r_iload_n (pc := 14) dX3_pass_14 rfl <| r_icmp_ge (pc := 15) 126 dX3_pass_15 (by decide) (by omega) (by omega) (fun hc_15 => ?_) (fun hc_15 => ?_)
    · skip
      refine r_iload (pc := 126) dX3_pass_126 rfl <| r_iconst (pc := 128) dX3_pass_128 <| r_icmp_eq (pc := 129) 144 dX3_pass_129 (by decide) (by decide) (by decide) (fun _ => ?_) (fun q => absurd q (by decide))
      refine r_iload (pc := 144) dX3_pass_144 rfl <| r_iret (pc := 146) dX3_pass_146 rfl ⟨Nat.le_of_ble_eq_true rfl, Nat.le_of_ble_eq_true rfl⟩ <| ?_
      exact hQ h gs c34 (fun q hq => by cases hq; exact fun i v hv => by cases hv) Fr.rf
    · skip
      exfalso; omega
  | cons y R ih =>
    intro k h gs l8 l9 hl8 hk hkm c31 c32 c33 c34 hc hf hR hnd hQ
    simp only [List.length_cons] at hkm
    obtain ⟨hy0, hf'⟩ := hf.cons
    have hyq := hR y List.mem_cons_self
    have by' := inQ_lt hI hyq
    obtain ⟨hyR, hndR⟩ := List.nodup_cons.mp hnd
    by_cases cw : y = w
    · rw [flt_y cw] at hQ
      refine r_iload (pc := 12) dX3_pass_12 rfl <| r_iload_n (pc := 14) dX3_pass_14 rfl <| r_icmp_ge (pc := 15) 126 dX3_pass_15 (by decide) (by omega) (by omega) (fun hc_15 => ?_) (fun hc_15 => ?_)
      · skip
        exfalso; omega
      · skip
        refine r_aload_n (pc := 18) dX3_pass_18 rfl <| r_iload (pc := 19) dX3_pass_19 rfl <| r_iald (pc := 21) dX3_pass_21 hc (by omega) (by decide) <| r_istore_8 (pc := 22) dX3_pass_22 rfl <| r_iload (pc := 24) dX3_pass_24 rfl <| r_iload_n (pc := 26) dX3_pass_26 rfl <| r_icmp_ne (pc := 27) 33 dX3_pass_27 (by decide) (by omega) (by omega) (fun hc_27 => ?_) (fun hc_27 => ?_)
        · skip
          exfalso; omega
        · skip
          refine r_goto (pc := 30) 120 dX3_pass_30 (by decide) <| r_iinc_7 (pc := 120) dX3_pass_120 rfl rfl <| r_goto (pc := 123) 12 dX3_pass_123 (by decide) <| ?_
          exact ih (k + 1) h gs _ _ rfl (by omega) (by omega) c31 c32 c33 c34 hc hf' (fun z hz => hR z (List.mem_cons_of_mem _ hz)) hndR hQ
    · rw [flt_n cw] at hQ
      refine r_iload (pc := 12) dX3_pass_12 rfl <| r_iload_n (pc := 14) dX3_pass_14 rfl <| r_icmp_ge (pc := 15) 126 dX3_pass_15 (by decide) (by omega) (by omega) (fun hc_15 => ?_) (fun hc_15 => ?_)
      · skip
        exfalso; omega
      · skip
        refine r_aload_n (pc := 18) dX3_pass_18 rfl <| r_iload (pc := 19) dX3_pass_19 rfl <| r_iald (pc := 21) dX3_pass_21 hc (by omega) (by decide) <| ?_
        rw [hy0]
        refine r_istore_8 (pc := 22) dX3_pass_22 rfl <| r_iload (pc := 24) dX3_pass_24 rfl <| r_iload_n (pc := 26) dX3_pass_26 rfl <| r_icmp_ne (pc := 27) 33 dX3_pass_27 (by decide) (by omega) (by omega) (fun hc_27 => ?_) (fun hc_27 => ?_)
        · skip
          refine r_iload (pc := 33) dX3_pass_33 rfl <| r_iconst (pc := 35) dX3_pass_35 <| r_icmp_ne (pc := 36) 46 dX3_pass_36 (by decide) (by decide) (by decide) (fun q => absurd q (by decide)) (fun _ => ?_)
          refine r_iload (pc := 39) dX3_pass_39 rfl <| r_istore_4 (pc := 41) dX3_pass_41 rfl <| r_goto (pc := 43) 120 dX3_pass_43 (by decide) <| r_iinc_7 (pc := 120) dX3_pass_120 rfl rfl <| r_goto (pc := 123) 12 dX3_pass_123 (by decide) <| ?_
          exact lp_passB hI hcc hsz hw hg R (k + 1) y 1 [] h gs _ _ rfl (by omega) (by omega) (by simp; omega) (by omega) c31 c32 c33 c34 hc hf' (fun i v hv => by cases hv) hyq (fun z hz => hR z (List.mem_cons_of_mem _ hz)) hndR hyR hQ
        · skip
          exfalso; omega
theorem sp_pass {bk f gf rf gs : Int → Int} {c : Nat} {sz w : Int} {L : List Int} (hI : Inv bk) (hcc : c = 11 ∨ c = 35) (hsz : sz = L.length ∧ L.length ≤ 8) (hw : inI w) (hg : gfP bk gf rf) (c31 : h 31 = some (aO 3 [vR 32, vR 33, vR 34, vR 35, vR 36])) (c32 : h 32 = some (aA 64 gf)) (c33 : h 33 = some (aA 64 rf)) (c34 : h 34 = some (aA 8 gs)) (hc : h c = some (aA 8 f)) (hf : arL f 0 L) (hR : ∀ y ∈ L, inQ bk y) (hnd : L.Nodup)
    (hQ : ∀ h' gs', h' 34 = some (aA 8 gs') → (∀ q, passL (TB bk) (flt w L) = some q → arL gs' 0 q.2) → Fr (fun j => j = 34) h h' → Q (some (vI (minL (passL (TB bk) (flt w L))))) n h') : Cl G mX3_pass [vR 31, vR c, vI sz, vI w] n h Q := by
  refine cl_of (by decide) (Nat.le_of_ble_eq_true rfl) rfl ?_
  refine r_iconst (pc := 0) dX3_pass_0 <| r_istore_4 (pc := 1) dX3_pass_1 rfl <| r_iconst (pc := 3) dX3_pass_3 <| r_istore_5 (pc := 4) dX3_pass_4 rfl <| r_iconst (pc := 6) dX3_pass_6 <| r_istore_6 (pc := 7) dX3_pass_7 rfl <| r_iconst (pc := 9) dX3_pass_9 <| r_istore_7 (pc := 10) dX3_pass_10 rfl <| ?_
  exact lp_passA hI hcc (by omega) hw hg L 0 h gs _ _ rfl (by omega) (by omega) c31 c32 c33 c34 hc hf hR hnd hQ
theorem cs_through {i : Int} (hC : isC h n s) (hI : Inv s.bk) (hi : inI i) (hQ : ∀ h', isC h' n (fThrough s i).2 → Fr CR h h' → Q (some (vI (fThrough s i).1)) n h') : Cl G mX8_through [vR 0, vI i] n h Q := by
  obtain ⟨kd, ag, ld, rk, ow, la, tx, qu, wa, lg, ev, c0, c1, c2, c3, c4, c5, c6, c7, c8, c9, c10, c11, c12, c13, c14, ⟨-, -, -, dq, -⟩, -, -, -, rq, -⟩ := hC.opn
  obtain ⟨bsz, bab, bro, bco, ble, bak, c16, -⟩ := hC.bkf
  obtain ⟨x1, ⟨c31, -⟩, -⟩ := isX_iff.mp hC.2.2.2.1
  have i0 := hI.1.1
  have i2 := hI.1.2.2.1
  have hq3 := qL_all hI
  have hmi := @minL_in s.bk (qL s.bk (-1)) (by omega)
  obtain ⟨qa, qb, qc⟩ := qL_ok hI (-1)
  have hfl : flt (-1) (qL s.bk (-1)) = qL s.bk (-1) := flt_id (fun v hv => (qb v hv).2)
  have har : arL qu 0 (qL s.bk (-1)) := qF_ar (s.bk 2).toNat 0 (by omega) (fun j a b => ⟨(hI.2.2.2.2.2.2.1.1 j a (by omega)).1, rq j a (by omega)⟩)
  unfold fThrough at hQ
  refine cl_of (by decide) (Nat.le_of_ble_eq_true rfl) rfl ?_
  refine r_iload_n (pc := 0) dX8_through_0 rfl <| r_iconst (pc := 1) dX8_through_1 <| r_icmp_ge (pc := 2) 12 dX8_through_2 (by decide) (by omega) (by omega) (fun hc_2 => ?_) (fun hc_2 => ?_)
  · skip
    refine r_aload_n (pc := 12) dX8_through_12 rfl <| cVi [] (pc := 13) dX8_through_13 k_X8_143 ⟨⟨Nat.le_of_ble_eq_true rfl, Nat.le_of_ble_eq_true rfl⟩, ⟨Nat.le_of_ble_eq_true rfl, Nat.le_of_ble_eq_true rfl⟩, Nat.le_of_ble_eq_true rfl⟩ ⟨rfl, rfl⟩ c0 ?_
    refine cs_faulty hC hI (fun q3 => ?_) (fun q3 => ?_)
    · skip
      refine ⟨_, rfl, ?_⟩
      refine r_if_eq (pc := 16) 26 dX8_through_16 (by decide) (by decide) (fun q => absurd q (by decide)) (fun _ => ?_)
      refine r_aload_n (pc := 19) dX8_through_19 rfl <| r_bipush (pc := 20) dX8_through_20 (by decide) <| cVi [_] (pc := 22) dX8_through_22 k_X8_147 ⟨⟨Nat.le_of_ble_eq_true rfl, Nat.le_of_ble_eq_true rfl⟩, ⟨Nat.le_of_ble_eq_true rfl, Nat.le_of_ble_eq_true rfl⟩, Nat.le_of_ble_eq_true rfl⟩ ⟨rfl, rfl⟩ c0 ?_
      refine cs_no hC (fun h1 g1 g2 => ?_)
      refine ⟨_, rfl, ?_⟩
      refine r_iret (pc := 25) dX8_through_25 rfl ⟨Nat.le_of_ble_eq_true rfl, Nat.le_of_ble_eq_true rfl⟩ <| ?_
      rw [if_neg (by omega), if_pos q3] at hQ; exact hQ _ g1 g2
    · skip
      refine ⟨_, rfl, ?_⟩
      refine r_if_eq (pc := 16) 26 dX8_through_16 (by decide) (by decide) (fun _ => ?_) (fun q => absurd q (by decide))
      refine r_aload_n (pc := 26) dX8_through_26 rfl <| r_getf (pc := 27) dX8_through_27 fA_X8_40 c0 rfl <| r_aload_n (pc := 30) dX8_through_30 rfl <| r_getf (pc := 31) dX8_through_31 fA_X8_23 c0 rfl <| r_aload_n (pc := 34) dX8_through_34 rfl <| r_getf (pc := 35) dX8_through_35 fA_X8_12 c0 rfl <| r_aload_n (pc := 38) dX8_through_38 rfl <| r_getf (pc := 39) dX8_through_39 fA_X8_33 c0 rfl <| cVv [_, _, _] (pc := 42) dX8_through_42 k_X8_189 ⟨⟨Nat.le_of_ble_eq_true rfl, Nat.le_of_ble_eq_true rfl⟩, ⟨Nat.le_of_ble_eq_true rfl, Nat.le_of_ble_eq_true rfl⟩, Nat.le_of_ble_eq_true rfl⟩ ⟨rfl, rfl⟩ c31 ?_
      refine sp_ask hC hI q3 (fun h1 gf rf k1 k32 k33 kg hF1 => ?_)
      refine ⟨rfl, ?_⟩
      obtain ⟨-, ⟨-, f1, f2, gs, f4, f5, -, -, k34, -⟩, -⟩ := isX_iff.mp k1.2.2.2.1
      replace c0 := hF1.keep c0 (by omega)
      replace c1 := hF1.keep c1 (by omega)
      replace c31 := hF1.keep c31 (by omega)
      replace c11 := hF1.keep c11 (by omega)
      refine r_aload_n (pc := 45) dX8_through_45 rfl <| r_getf (pc := 46) dX8_through_46 fA_X8_40 c0 rfl <| r_aload_n (pc := 49) dX8_through_49 rfl <| r_getf (pc := 50) dX8_through_50 fA_X8_12 c0 rfl <| r_getf (pc := 53) dX8_through_53 fA_X8_183 c1 rfl <| r_aload_n (pc := 56) dX8_through_56 rfl <| r_getf (pc := 57) dX8_through_57 fA_X8_12 c0 rfl <| r_getf (pc := 60) dX8_through_60 fA_X8_186 c1 rfl <| r_iconst (pc := 63) dX8_through_63 <| cVi [_, _, _] (pc := 64) dX8_through_64 k_X8_193 ⟨⟨Nat.le_of_ble_eq_true rfl, Nat.le_of_ble_eq_true rfl⟩, ⟨Nat.le_of_ble_eq_true rfl, Nat.le_of_ble_eq_true rfl⟩, Nat.le_of_ble_eq_true rfl⟩ ⟨rfl, rfl⟩ c31 ?_
      refine sp_pass hI (Or.inl rfl) (L := qL s.bk (-1)) (by omega) (by omega) kg c31 k32 k33 k34 c11 har (fun y hy => (qL_mem hI y).mp hy) qa (fun h2 gs2 m34 mg hF2 => ?_)
      rw [hfl] at mg ⊢
      refine ⟨_, rfl, ?_⟩
      replace c0 := hF2.keep c0 (by omega)
      replace c1 := hF2.keep c1 (by omega)
      replace c31 := hF2.keep c31 (by omega)
      have k2 := k1.pcell (c := 34) (by omega) m34 hF2
      have hF : Fr CR h h2 := fun q hq => ((hF2 q (by omega)).trans (hF1 q (by omega)))
      refine r_istoren_2 (pc := 67) dX8_through_67 rfl <| r_iload_n (pc := 68) dX8_through_68 rfl <| r_iconst (pc := 69) dX8_through_69 <| r_icmp_eq (pc := 70) 78 dX8_through_70 (by decide) (by omega) (by omega) (fun hc_70 => ?_) (fun hc_70 => ?_)
      · skip
        refine r_iload_n (pc := 78) dX8_through_78 rfl <| r_iret (pc := 79) dX8_through_79 rfl ⟨Nat.le_of_ble_eq_true rfl, Nat.le_of_ble_eq_true rfl⟩ <| ?_
        rw [if_neg (by omega), if_neg (fun q => q q3)] at hQ
        rcases hp : passL (TB s.bk) (qL s.bk (-1)) with _ | q
        · rw [hp] at hQ
          exact hQ _ k2 hF
        · rw [hp] at hQ hmi
          have e1 : minL (some q) = q.1 := rfl
          have hne : ¬ q.1 = -1 := fun h => by have := hmi.2.2.mp h; cases this
          rw [hp] at hc_70
          first
            | (refine qI ?_ (hQ _ k2 hF)
               dsimp only
               rw [if_pos (by omega)]; done)
            | (refine qI ?_ (hQ _ k2 hF)
               dsimp only
               rw [if_pos (by omega)]; rfl)
            | (exfalso; omega)
      · skip
        refine r_iload_n (pc := 73) dX8_through_73 rfl <| r_iconst (pc := 74) dX8_through_74 <| r_icmp_ne (pc := 75) 80 dX8_through_75 (by decide) (by omega) (by omega) (fun hc_75 => ?_) (fun hc_75 => ?_)
        · skip
          refine r_iload_n (pc := 80) dX8_through_80 rfl <| r_aload_n (pc := 81) dX8_through_81 rfl <| r_getf (pc := 82) dX8_through_82 fA_X8_12 c0 rfl <| r_getf (pc := 85) dX8_through_85 fA_X8_186 c1 rfl <| r_icmp_ge (pc := 88) 103 dX8_through_88 (by decide) (by omega) (by omega) (fun hc_88 => ?_) (fun hc_88 => ?_)
          · skip
            refine r_bipush (pc := 103) dX8_through_103 (by decide) <| r_iret (pc := 105) dX8_through_105 rfl ⟨Nat.le_of_ble_eq_true rfl, Nat.le_of_ble_eq_true rfl⟩ <| ?_
            rw [if_neg (by omega), if_neg (fun q => q q3)] at hQ
            rcases hp : passL (TB s.bk) (qL s.bk (-1)) with _ | q
            · exfalso
              rw [hp] at hc_70
              exact hc_70 rfl
            · rw [hp] at hQ
              have hl := passL_len hp
              first
                | (refine qI ?_ (hQ _ k2 hF)
                   dsimp only
                   rw [if_neg (by omega), if_pos (by omega)]
                   exact getL (mg q hp) (by omega) (by omega))
                | (refine qI ?_ (hQ _ k2 hF)
                   dsimp only
                   rw [if_neg (by omega), if_neg (by omega)])
          · skip
            refine r_aload_n (pc := 91) dX8_through_91 rfl <| r_getf (pc := 92) dX8_through_92 fA_X8_40 c0 rfl <| r_getf (pc := 95) dX8_through_95 fA_X8_197 c31 rfl <| r_iload_n (pc := 98) dX8_through_98 rfl <| r_iald (pc := 99) dX8_through_99 m34 (by omega) (by decide) <| r_goto (pc := 100) 105 dX8_through_100 (by decide) <| r_iret (pc := 105) dX8_through_105 rfl ⟨Nat.le_of_ble_eq_true rfl, Nat.le_of_ble_eq_true rfl⟩ <| ?_
            rw [if_neg (by omega), if_neg (fun q => q q3)] at hQ
            rcases hp : passL (TB s.bk) (qL s.bk (-1)) with _ | q
            · exfalso
              rw [hp] at hc_70
              exact hc_70 rfl
            · rw [hp] at hQ
              have hl := passL_len hp
              first
                | (refine qI ?_ (hQ _ k2 hF)
                   dsimp only
                   rw [if_neg (by omega), if_pos (by omega)]
                   exact getL (mg q hp) (by omega) (by omega))
                | (refine qI ?_ (hQ _ k2 hF)
                   dsimp only
                   rw [if_neg (by omega), if_neg (by omega)])
        · skip
          refine r_iload_n (pc := 78) dX8_through_78 rfl <| r_iret (pc := 79) dX8_through_79 rfl ⟨Nat.le_of_ble_eq_true rfl, Nat.le_of_ble_eq_true rfl⟩ <| ?_
          rw [if_neg (by omega), if_neg (fun q => q q3)] at hQ
          rcases hp : passL (TB s.bk) (qL s.bk (-1)) with _ | q
          · rw [hp] at hQ
            exact hQ _ k2 hF
          · rw [hp] at hQ hmi
            have e1 : minL (some q) = q.1 := rfl
            have hne : ¬ q.1 = -1 := fun h => by have := hmi.2.2.mp h; cases this
            rw [hp] at hc_70
            first
              | (refine qI ?_ (hQ _ k2 hF)
                 dsimp only
                 rw [if_pos (by omega)]; done)
              | (refine qI ?_ (hQ _ k2 hF)
                 dsimp only
                 rw [if_pos (by omega)]; rfl)
              | (exfalso; omega)
  · skip
    refine r_aload_n (pc := 5) dX8_through_5 rfl <| r_bipush (pc := 6) dX8_through_6 (by decide) <| cVi [_] (pc := 8) dX8_through_8 k_X8_82 ⟨⟨Nat.le_of_ble_eq_true rfl, Nat.le_of_ble_eq_true rfl⟩, ⟨Nat.le_of_ble_eq_true rfl, Nat.le_of_ble_eq_true rfl⟩, Nat.le_of_ble_eq_true rfl⟩ ⟨rfl, rfl⟩ c0 ?_
    refine cs_bad hC (fun h1 g1 g2 => ?_)
    refine ⟨_, rfl, ?_⟩
    refine r_iret (pc := 11) dX8_through_11 rfl ⟨Nat.le_of_ble_eq_true rfl, Nat.le_of_ble_eq_true rfl⟩ <| ?_
    rw [if_pos (by omega)] at hQ; exact hQ _ g1 g2
theorem lp_cavoid {gf rf qu : Int → Int} (hI : Inv s.bk) (kg : gfP s.bk gf rf) (rq : REq qu s.bk 164 8) (har : arL qu 0 (qL s.bk (-1))) : ∀ (q : Nat) (k f l : Int) (h : Hp) (gs : Int → Int) (l4 : AV), 0 ≤ k → k + q = s.bk 2 → isC h n s → h 11 = some (aA 8 qu) → h 32 = some (aA 64 gf) → h 33 = some (aA 64 rf) → h 34 = some (aA 8 gs) → (-1 ≤ f ∧ f < 8) → (0 ≤ l ∧ l ≤ 999) →
    (∀ h', isC h' n s → Fr (fun q => q = 34) h h' → Q (some (vI (avG (TB s.bk) s.bk q k f l))) n h') → At G mX8_avoid 39 [vR 0, vI f, vI l, vI k, l4] [] (0, 0, n) h Q := by
  have i0 := hI.1.1
  have i2 := hI.1.2.2.1
  have hq3 := qL_all hI
  obtain ⟨qa, qb, qc⟩ := qL_ok hI (-1)
  intro q
  induction q with
  | zero =>
    intro k f l h gs l4 hk hq hC c11 c32 c33 c34 hf hl hQ
    obtain ⟨kd, ag, ld, rk, ow, la, tx, qu', wa, lg, ev, c0, c1, -⟩ := hC.opn
    refine r_iload_n (pc := 39) dX8_avoid_39 rfl <| r_aload_n (pc := 40) dX8_avoid_40 rfl <| r_getf (pc := 41) dX8_avoid_41 fA_X8_12 c0 rfl <| r_getf (pc := 44) dX8_avoid_44 fA_X8_186 c1 rfl <| r_icmp_ge (pc := 47) 123 dX8_avoid_47 (by decide) (by omega) (by omega) (fun hc_47 => ?_) (fun hc_47 => ?_)
    · skip
      refine r_iload_n (pc := 123) dX8_avoid_123 rfl <| r_iret (pc := 124) dX8_avoid_124 rfl ⟨Nat.le_of_ble_eq_true rfl, Nat.le_of_ble_eq_true rfl⟩ <| ?_
      exact hQ _ hC Fr.rf
    · skip
      exfalso; omega
  | succ q ih =>
    intro k f l h gs l4 hk hq hC c11 c32 c33 c34 hf hl hQ
    obtain ⟨kd, ag, ld, rk, ow, la, tx, qu', wa, lg, ev, c0, c1, -⟩ := hC.opn
    obtain ⟨x1, ⟨c31, -⟩, -⟩ := isX_iff.mp hC.2.2.2.1
    have ek := rq k (by omega) (by omega)
    have bq := hI.2.2.2.2.2.2.1.1 k hk (by omega)
    obtain ⟨qa', qb', qc'⟩ := qL_ok hI (s.bk (164 + k))
    have hmi := @minL_in s.bk (qL s.bk (s.bk (164 + k))) (by omega)
    have hfl : flt (s.bk (164 + k)) (qL s.bk (-1)) = qL s.bk (s.bk (164 + k)) := qF_flt (s.bk 2).toNat 0 (fun j a b => (hI.2.2.2.2.2.2.1.1 j a (by omega)).1)
    simp only [avG] at hQ
    refine r_iload_n (pc := 39) dX8_avoid_39 rfl <| r_aload_n (pc := 40) dX8_avoid_40 rfl <| r_getf (pc := 41) dX8_avoid_41 fA_X8_12 c0 rfl <| r_getf (pc := 44) dX8_avoid_44 fA_X8_186 c1 rfl <| r_icmp_ge (pc := 47) 123 dX8_avoid_47 (by decide) (by omega) (by omega) (fun hc_47 => ?_) (fun hc_47 => ?_)
    · skip
      exfalso; omega
    · skip
      refine r_aload_n (pc := 50) dX8_avoid_50 rfl <| r_getf (pc := 51) dX8_avoid_51 fA_X8_40 c0 rfl <| r_aload_n (pc := 54) dX8_avoid_54 rfl <| r_getf (pc := 55) dX8_avoid_55 fA_X8_12 c0 rfl <| r_getf (pc := 58) dX8_avoid_58 fA_X8_183 c1 rfl <| r_aload_n (pc := 61) dX8_avoid_61 rfl <| r_getf (pc := 62) dX8_avoid_62 fA_X8_12 c0 rfl <| r_getf (pc := 65) dX8_avoid_65 fA_X8_186 c1 rfl <| r_aload_n (pc := 68) dX8_avoid_68 rfl <| r_getf (pc := 69) dX8_avoid_69 fA_X8_12 c0 rfl <| r_getf (pc := 72) dX8_avoid_72 fA_X8_183 c1 rfl <| r_iload_n (pc := 75) dX8_avoid_75 rfl <| r_iald (pc := 76) dX8_avoid_76 c11 (by omega) (by decide) <| cVi [_, _, _] (pc := 77) dX8_avoid_77 k_X8_193 ⟨⟨Nat.le_of_ble_eq_true rfl, Nat.le_of_ble_eq_true rfl⟩, ⟨Nat.le_of_ble_eq_true rfl, Nat.le_of_ble_eq_true rfl⟩, Nat.le_of_ble_eq_true rfl⟩ ⟨rfl, rfl⟩ c31 ?_
      rw [ek]
      refine sp_pass hI (Or.inl rfl) (L := qL s.bk (-1)) (by omega) (by omega) kg c31 c32 c33 c34 c11 har (fun y hy => (qL_mem hI y).mp hy) qa (fun h2 gs2 m34 mg hF2 => ?_)
      rw [hfl] at mg ⊢
      refine ⟨_, rfl, ?_⟩
      replace c0 := hF2.keep c0 (by omega)
      replace c1 := hF2.keep c1 (by omega)
      replace c31 := hF2.keep c31 (by omega)
      replace c11 := hF2.keep c11 (by omega)
      have k2 := hC.pcell (c := 34) (by omega) m34 hF2
      refine r_istore_4 (pc := 80) dX8_avoid_80 rfl <| r_iload (pc := 82) dX8_avoid_82 rfl <| r_iconst (pc := 84) dX8_avoid_84 <| r_icmp_ne (pc := 85) 93 dX8_avoid_85 (by decide) (by omega) (by omega) (fun hc_85 => ?_) (fun hc_85 => ?_)
      · skip
        refine r_iload_n (pc := 93) dX8_avoid_93 rfl <| r_iconst (pc := 94) dX8_avoid_94 <| r_icmp_eq (pc := 95) 104 dX8_avoid_95 (by decide) (by omega) (by omega) (fun hc_95 => ?_) (fun hc_95 => ?_)
        · skip
          refine r_aload_n (pc := 104) dX8_avoid_104 rfl <| r_getf (pc := 105) dX8_avoid_105 fA_X8_12 c0 rfl <| r_getf (pc := 108) dX8_avoid_108 fA_X8_183 c1 rfl <| r_iload_n (pc := 111) dX8_avoid_111 rfl <| r_iald (pc := 112) dX8_avoid_112 c11 (by omega) (by decide) <| r_istoren_1 (pc := 113) dX8_avoid_113 rfl <| r_iload (pc := 114) dX8_avoid_114 rfl <| r_istoren_2 (pc := 116) dX8_avoid_116 rfl <| r_iinc_3 (pc := 117) dX8_avoid_117 rfl rfl <| r_goto (pc := 120) 39 dX8_avoid_120 (by decide) <| ?_
          have hih := fun f l l4 hf hl hQ => ih (k + 1) f l h2 gs2 l4 (by omega) (by omega) k2 c11 (hF2.keep c32 (by omega)) (hF2.keep c33 (by omega)) m34 hf hl hQ
          first
            | (rw [if_pos (show minL (passL (TB s.bk) (qL s.bk (s.bk (164 + k)))) = -1 by omega)] at hQ
               first
                 | (rw [if_pos (by omega)] at hQ
                    rw [ek]
                    exact hih _ _ _ (by omega) (by omega) (fun h' c1 c2 => hQ h' c1 (fun j hj => (c2 j hj).trans (hF2 j hj))))
                 | (rw [if_neg (by omega)] at hQ
                    exact hih _ _ _ (by omega) (by omega) (fun h' c1 c2 => hQ h' c1 (fun j hj => (c2 j hj).trans (hF2 j hj)))))
            | (rw [if_neg (show ¬ minL (passL (TB s.bk) (qL s.bk (s.bk (164 + k)))) = -1 by omega)] at hQ
               first
                 | (rw [if_pos (by omega)] at hQ
                    rw [ek]
                    exact hih _ _ _ (by omega) (by omega) (fun h' c1 c2 => hQ h' c1 (fun j hj => (c2 j hj).trans (hF2 j hj))))
                 | (rw [if_neg (by omega)] at hQ
                    exact hih _ _ _ (by omega) (by omega) (fun h' c1 c2 => hQ h' c1 (fun j hj => (c2 j hj).trans (hF2 j hj)))))
        · skip
          refine r_iload (pc := 98) dX8_avoid_98 rfl <| r_iload_n (pc := 100) dX8_avoid_100 rfl <| r_icmp_ge (pc := 101) 117 dX8_avoid_101 (by decide) (by omega) (by omega) (fun hc_101 => ?_) (fun hc_101 => ?_)
          · skip
            refine r_iinc_3 (pc := 117) dX8_avoid_117 rfl rfl <| r_goto (pc := 120) 39 dX8_avoid_120 (by decide) <| ?_
            have hih := fun f l l4 hf hl hQ => ih (k + 1) f l h2 gs2 l4 (by omega) (by omega) k2 c11 (hF2.keep c32 (by omega)) (hF2.keep c33 (by omega)) m34 hf hl hQ
            first
              | (rw [if_pos (show minL (passL (TB s.bk) (qL s.bk (s.bk (164 + k)))) = -1 by omega)] at hQ
                 first
                   | (rw [if_pos (by omega)] at hQ
                      rw [ek]
                      exact hih _ _ _ (by omega) (by omega) (fun h' c1 c2 => hQ h' c1 (fun j hj => (c2 j hj).trans (hF2 j hj))))
                   | (rw [if_neg (by omega)] at hQ
                      exact hih _ _ _ (by omega) (by omega) (fun h' c1 c2 => hQ h' c1 (fun j hj => (c2 j hj).trans (hF2 j hj)))))
              | (rw [if_neg (show ¬ minL (passL (TB s.bk) (qL s.bk (s.bk (164 + k)))) = -1 by omega)] at hQ
                 first
                   | (rw [if_pos (by omega)] at hQ
                      rw [ek]
                      exact hih _ _ _ (by omega) (by omega) (fun h' c1 c2 => hQ h' c1 (fun j hj => (c2 j hj).trans (hF2 j hj))))
                   | (rw [if_neg (by omega)] at hQ
                      exact hih _ _ _ (by omega) (by omega) (fun h' c1 c2 => hQ h' c1 (fun j hj => (c2 j hj).trans (hF2 j hj)))))
          · skip
            refine r_aload_n (pc := 104) dX8_avoid_104 rfl <| r_getf (pc := 105) dX8_avoid_105 fA_X8_12 c0 rfl <| r_getf (pc := 108) dX8_avoid_108 fA_X8_183 c1 rfl <| r_iload_n (pc := 111) dX8_avoid_111 rfl <| r_iald (pc := 112) dX8_avoid_112 c11 (by omega) (by decide) <| r_istoren_1 (pc := 113) dX8_avoid_113 rfl <| r_iload (pc := 114) dX8_avoid_114 rfl <| r_istoren_2 (pc := 116) dX8_avoid_116 rfl <| r_iinc_3 (pc := 117) dX8_avoid_117 rfl rfl <| r_goto (pc := 120) 39 dX8_avoid_120 (by decide) <| ?_
            have hih := fun f l l4 hf hl hQ => ih (k + 1) f l h2 gs2 l4 (by omega) (by omega) k2 c11 (hF2.keep c32 (by omega)) (hF2.keep c33 (by omega)) m34 hf hl hQ
            first
              | (rw [if_pos (show minL (passL (TB s.bk) (qL s.bk (s.bk (164 + k)))) = -1 by omega)] at hQ
                 first
                   | (rw [if_pos (by omega)] at hQ
                      rw [ek]
                      exact hih _ _ _ (by omega) (by omega) (fun h' c1 c2 => hQ h' c1 (fun j hj => (c2 j hj).trans (hF2 j hj))))
                   | (rw [if_neg (by omega)] at hQ
                      exact hih _ _ _ (by omega) (by omega) (fun h' c1 c2 => hQ h' c1 (fun j hj => (c2 j hj).trans (hF2 j hj)))))
              | (rw [if_neg (show ¬ minL (passL (TB s.bk) (qL s.bk (s.bk (164 + k)))) = -1 by omega)] at hQ
                 first
                   | (rw [if_pos (by omega)] at hQ
                      rw [ek]
                      exact hih _ _ _ (by omega) (by omega) (fun h' c1 c2 => hQ h' c1 (fun j hj => (c2 j hj).trans (hF2 j hj))))
                   | (rw [if_neg (by omega)] at hQ
                      exact hih _ _ _ (by omega) (by omega) (fun h' c1 c2 => hQ h' c1 (fun j hj => (c2 j hj).trans (hF2 j hj)))))
      · skip
        refine r_sipush (pc := 88) dX8_avoid_88 (by decide) <| r_istore_4 (pc := 91) dX8_avoid_91 rfl <| r_iload_n (pc := 93) dX8_avoid_93 rfl <| r_iconst (pc := 94) dX8_avoid_94 <| r_icmp_eq (pc := 95) 104 dX8_avoid_95 (by decide) (by omega) (by omega) (fun hc_95 => ?_) (fun hc_95 => ?_)
        · skip
          refine r_aload_n (pc := 104) dX8_avoid_104 rfl <| r_getf (pc := 105) dX8_avoid_105 fA_X8_12 c0 rfl <| r_getf (pc := 108) dX8_avoid_108 fA_X8_183 c1 rfl <| r_iload_n (pc := 111) dX8_avoid_111 rfl <| r_iald (pc := 112) dX8_avoid_112 c11 (by omega) (by decide) <| r_istoren_1 (pc := 113) dX8_avoid_113 rfl <| r_iload (pc := 114) dX8_avoid_114 rfl <| r_istoren_2 (pc := 116) dX8_avoid_116 rfl <| r_iinc_3 (pc := 117) dX8_avoid_117 rfl rfl <| r_goto (pc := 120) 39 dX8_avoid_120 (by decide) <| ?_
          have hih := fun f l l4 hf hl hQ => ih (k + 1) f l h2 gs2 l4 (by omega) (by omega) k2 c11 (hF2.keep c32 (by omega)) (hF2.keep c33 (by omega)) m34 hf hl hQ
          first
            | (rw [if_pos (show minL (passL (TB s.bk) (qL s.bk (s.bk (164 + k)))) = -1 by omega)] at hQ
               first
                 | (rw [if_pos (by omega)] at hQ
                    rw [ek]
                    exact hih _ _ _ (by omega) (by omega) (fun h' c1 c2 => hQ h' c1 (fun j hj => (c2 j hj).trans (hF2 j hj))))
                 | (rw [if_neg (by omega)] at hQ
                    exact hih _ _ _ (by omega) (by omega) (fun h' c1 c2 => hQ h' c1 (fun j hj => (c2 j hj).trans (hF2 j hj)))))
            | (rw [if_neg (show ¬ minL (passL (TB s.bk) (qL s.bk (s.bk (164 + k)))) = -1 by omega)] at hQ
               first
                 | (rw [if_pos (by omega)] at hQ
                    rw [ek]
                    exact hih _ _ _ (by omega) (by omega) (fun h' c1 c2 => hQ h' c1 (fun j hj => (c2 j hj).trans (hF2 j hj))))
                 | (rw [if_neg (by omega)] at hQ
                    exact hih _ _ _ (by omega) (by omega) (fun h' c1 c2 => hQ h' c1 (fun j hj => (c2 j hj).trans (hF2 j hj)))))
        · skip
          refine r_iload (pc := 98) dX8_avoid_98 rfl <| r_iload_n (pc := 100) dX8_avoid_100 rfl <| r_icmp_ge (pc := 101) 117 dX8_avoid_101 (by decide) (by omega) (by omega) (fun hc_101 => ?_) (fun hc_101 => ?_)
          · skip
            refine r_iinc_3 (pc := 117) dX8_avoid_117 rfl rfl <| r_goto (pc := 120) 39 dX8_avoid_120 (by decide) <| ?_
            have hih := fun f l l4 hf hl hQ => ih (k + 1) f l h2 gs2 l4 (by omega) (by omega) k2 c11 (hF2.keep c32 (by omega)) (hF2.keep c33 (by omega)) m34 hf hl hQ
            first
              | (rw [if_pos (show minL (passL (TB s.bk) (qL s.bk (s.bk (164 + k)))) = -1 by omega)] at hQ
                 first
                   | (rw [if_pos (by omega)] at hQ
                      rw [ek]
                      exact hih _ _ _ (by omega) (by omega) (fun h' c1 c2 => hQ h' c1 (fun j hj => (c2 j hj).trans (hF2 j hj))))
                   | (rw [if_neg (by omega)] at hQ
                      exact hih _ _ _ (by omega) (by omega) (fun h' c1 c2 => hQ h' c1 (fun j hj => (c2 j hj).trans (hF2 j hj)))))
              | (rw [if_neg (show ¬ minL (passL (TB s.bk) (qL s.bk (s.bk (164 + k)))) = -1 by omega)] at hQ
                 first
                   | (rw [if_pos (by omega)] at hQ
                      rw [ek]
                      exact hih _ _ _ (by omega) (by omega) (fun h' c1 c2 => hQ h' c1 (fun j hj => (c2 j hj).trans (hF2 j hj))))
                   | (rw [if_neg (by omega)] at hQ
                      exact hih _ _ _ (by omega) (by omega) (fun h' c1 c2 => hQ h' c1 (fun j hj => (c2 j hj).trans (hF2 j hj)))))
          · skip
            refine r_aload_n (pc := 104) dX8_avoid_104 rfl <| r_getf (pc := 105) dX8_avoid_105 fA_X8_12 c0 rfl <| r_getf (pc := 108) dX8_avoid_108 fA_X8_183 c1 rfl <| r_iload_n (pc := 111) dX8_avoid_111 rfl <| r_iald (pc := 112) dX8_avoid_112 c11 (by omega) (by decide) <| r_istoren_1 (pc := 113) dX8_avoid_113 rfl <| r_iload (pc := 114) dX8_avoid_114 rfl <| r_istoren_2 (pc := 116) dX8_avoid_116 rfl <| r_iinc_3 (pc := 117) dX8_avoid_117 rfl rfl <| r_goto (pc := 120) 39 dX8_avoid_120 (by decide) <| ?_
            have hih := fun f l l4 hf hl hQ => ih (k + 1) f l h2 gs2 l4 (by omega) (by omega) k2 c11 (hF2.keep c32 (by omega)) (hF2.keep c33 (by omega)) m34 hf hl hQ
            first
              | (rw [if_pos (show minL (passL (TB s.bk) (qL s.bk (s.bk (164 + k)))) = -1 by omega)] at hQ
                 first
                   | (rw [if_pos (by omega)] at hQ
                      rw [ek]
                      exact hih _ _ _ (by omega) (by omega) (fun h' c1 c2 => hQ h' c1 (fun j hj => (c2 j hj).trans (hF2 j hj))))
                   | (rw [if_neg (by omega)] at hQ
                      exact hih _ _ _ (by omega) (by omega) (fun h' c1 c2 => hQ h' c1 (fun j hj => (c2 j hj).trans (hF2 j hj)))))
              | (rw [if_neg (show ¬ minL (passL (TB s.bk) (qL s.bk (s.bk (164 + k)))) = -1 by omega)] at hQ
                 first
                   | (rw [if_pos (by omega)] at hQ
                      rw [ek]
                      exact hih _ _ _ (by omega) (by omega) (fun h' c1 c2 => hQ h' c1 (fun j hj => (c2 j hj).trans (hF2 j hj))))
                   | (rw [if_neg (by omega)] at hQ
                      exact hih _ _ _ (by omega) (by omega) (fun h' c1 c2 => hQ h' c1 (fun j hj => (c2 j hj).trans (hF2 j hj)))))
theorem cs_avoid (hC : isC h n s) (hI : Inv s.bk) (hQ : ∀ h', isC h' n (fAvoid s).2 → Fr CR h h' → Q (some (vI (fAvoid s).1)) n h') : Cl G mX8_avoid [vR 0] n h Q := by
  obtain ⟨kd, ag, ld, rk, ow, la, tx, qu, wa, lg, ev, c0, c1, c2, c3, c4, c5, c6, c7, c8, c9, c10, c11, c12, c13, c14, ⟨-, -, -, dq, -⟩, -, -, -, rq, -⟩ := hC.opn
  obtain ⟨x1, ⟨c31, -⟩, -⟩ := isX_iff.mp hC.2.2.2.1
  have i0 := hI.1.1
  have i2 := hI.1.2.2.1
  have har : arL qu 0 (qL s.bk (-1)) := qF_ar (s.bk 2).toNat 0 (by omega) (fun j a b => ⟨(hI.2.2.2.2.2.2.1.1 j a (by omega)).1, rq j a (by omega)⟩)
  unfold fAvoid at hQ
  refine cl_of (by decide) (Nat.le_of_ble_eq_true rfl) rfl ?_
  refine r_aload_n (pc := 0) dX8_avoid_0 rfl <| cVi [] (pc := 1) dX8_avoid_1 k_X8_143 ⟨⟨Nat.le_of_ble_eq_true rfl, Nat.le_of_ble_eq_true rfl⟩, ⟨Nat.le_of_ble_eq_true rfl, Nat.le_of_ble_eq_true rfl⟩, Nat.le_of_ble_eq_true rfl⟩ ⟨rfl, rfl⟩ c0 ?_
  refine cs_faulty hC hI (fun q3 => ?_) (fun q3 => ?_)
  · skip
    refine ⟨_, rfl, ?_⟩
    refine r_if_eq (pc := 4) 14 dX8_avoid_4 (by decide) (by decide) (fun q => absurd q (by decide)) (fun _ => ?_)
    refine r_aload_n (pc := 7) dX8_avoid_7 rfl <| r_bipush (pc := 8) dX8_avoid_8 (by decide) <| cVi [_] (pc := 10) dX8_avoid_10 k_X8_147 ⟨⟨Nat.le_of_ble_eq_true rfl, Nat.le_of_ble_eq_true rfl⟩, ⟨Nat.le_of_ble_eq_true rfl, Nat.le_of_ble_eq_true rfl⟩, Nat.le_of_ble_eq_true rfl⟩ ⟨rfl, rfl⟩ c0 ?_
    refine cs_no hC (fun h1 g1 g2 => ?_)
    refine ⟨_, rfl, ?_⟩
    refine r_iret (pc := 13) dX8_avoid_13 rfl ⟨Nat.le_of_ble_eq_true rfl, Nat.le_of_ble_eq_true rfl⟩ <| ?_
    rw [if_pos q3] at hQ; exact hQ _ g1 g2
  · skip
    refine ⟨_, rfl, ?_⟩
    refine r_if_eq (pc := 4) 14 dX8_avoid_4 (by decide) (by decide) (fun _ => ?_) (fun q => absurd q (by decide))
    refine r_aload_n (pc := 14) dX8_avoid_14 rfl <| r_getf (pc := 15) dX8_avoid_15 fA_X8_40 c0 rfl <| r_aload_n (pc := 18) dX8_avoid_18 rfl <| r_getf (pc := 19) dX8_avoid_19 fA_X8_23 c0 rfl <| r_aload_n (pc := 22) dX8_avoid_22 rfl <| r_getf (pc := 23) dX8_avoid_23 fA_X8_12 c0 rfl <| r_aload_n (pc := 26) dX8_avoid_26 rfl <| r_getf (pc := 27) dX8_avoid_27 fA_X8_33 c0 rfl <| cVv [_, _, _] (pc := 30) dX8_avoid_30 k_X8_189 ⟨⟨Nat.le_of_ble_eq_true rfl, Nat.le_of_ble_eq_true rfl⟩, ⟨Nat.le_of_ble_eq_true rfl, Nat.le_of_ble_eq_true rfl⟩, Nat.le_of_ble_eq_true rfl⟩ ⟨rfl, rfl⟩ c31 ?_
    refine sp_ask hC hI q3 (fun h1 gf rf k1 k32 k33 kg hF1 => ?_)
    refine ⟨rfl, ?_⟩
    refine r_iconst (pc := 33) dX8_avoid_33 <| r_istoren_1 (pc := 34) dX8_avoid_34 rfl <| r_iconst (pc := 35) dX8_avoid_35 <| r_istoren_2 (pc := 36) dX8_avoid_36 rfl <| r_iconst (pc := 37) dX8_avoid_37 <| r_istoren_3 (pc := 38) dX8_avoid_38 rfl <| ?_
    rw [if_neg (fun q => q q3)] at hQ
    obtain ⟨-, ⟨-, f1, f2, gs, f4, f5, -, -, k34, -⟩, -⟩ := isX_iff.mp k1.2.2.2.1
    exact lp_cavoid hI kg rq har (s.bk 2).toNat 0 (-1) 0 h1 gs _ (by omega) (by omega) k1 (hF1.keep c11 (by omega)) k32 k33 k34 (by omega) (by omega) (fun h' c1 c2 => hQ h' c1 (fun q hq => ((c2 q (by omega)).trans (hF1 q (by omega)))))
end CPt

