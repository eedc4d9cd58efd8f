/-! ===== the model: a token ===== -/
abbrev txB (bk : Int → Int) : Int → Int := fun i => bk (264 + i)
def mtok (k : Int) : Int := if k < 10 then 10 + k else if k = 10 then 4 else if k = 11 then 5 else if k = 12 then 2 else if k = 13 then 3 else if k = 14 then 1 else 0
section MS
variable {G : GT} {n : Nat} {h : Hp} {Q : PT}
theorem sp_isAt {e : Nat → Int} {bk : Int → Int} {lo hi : Int} (hM : h 45 = some (aO 9 (mF e))) (hB : h 46 = some (aA 480 bk)) (hb : Bd bk (-1) 255) (ht : bk 1 ≤ 160) (ha : 0 ≤ e 6 ∧ e 6 ≤ 160) (hl : 0 ≤ lo ∧ lo ≤ 255) (hh : 0 ≤ hi ∧ hi ≤ 255) (h1 : e 6 < bk 1 ∧ lo ≤ txB bk (e 6) ∧ txB bk (e 6) ≤ hi → Q (some (vI 1)) n h) (h0 : ¬ (e 6 < bk 1 ∧ lo ≤ txB bk (e 6) ∧ txB bk (e 6) ≤ hi) → Q (some (vI 0)) n h) : Cl G mX9_isAt [vR 45, vI lo, vI hi] n h Q := by
  have hM' := hM
  unfold mF at hM'
  have b1 := hb 1
  have b2 := hb (264 + e 6)
  refine cl_of (by decide) (Nat.le_of_ble_eq_true rfl) rfl ?_
  refine r_aload_n (pc := 0) dX9_isAt_0 rfl <| r_getf (pc := 1) dX9_isAt_1 fA_X9_89 hM' rfl <| r_aload_n (pc := 4) dX9_isAt_4 rfl <| r_getf (pc := 5) dX9_isAt_5 fA_X9_7 hM' rfl <| r_iconst (pc := 8) dX9_isAt_8 <| r_iald (pc := 9) dX9_isAt_9 hB (by omega) (by decide) <| r_icmp_ge (pc := 10) 41 dX9_isAt_10 (by decide) (by omega) (by omega) (fun hc_10 => ?_) (fun hc_10 => ?_)
  · skip
    refine r_iconst (pc := 41) dX9_isAt_41 <| r_zret (pc := 42) dX9_isAt_42 rfl (by omega) ⟨Nat.le_of_ble_eq_true rfl, Nat.le_of_ble_eq_true rfl⟩ <| ?_
    first | exact h1 (by simp only [txB]; omega) | exact h0 (by simp only [txB]; omega)
  · skip
    refine r_aload_n (pc := 13) dX9_isAt_13 rfl <| r_getf (pc := 14) dX9_isAt_14 fA_X9_7 hM' rfl <| r_sipush (pc := 17) dX9_isAt_17 (by decide) <| r_aload_n (pc := 20) dX9_isAt_20 rfl <| r_getf (pc := 21) dX9_isAt_21 fA_X9_89 hM' rfl <| r_iadd (pc := 24) dX9_isAt_24 <| r_iald (pc := 25) dX9_isAt_25 hB (by omega) (by decide) <| r_i2l (pc := 26) dX9_isAt_26 (by omega) <| r_iload_n (pc := 27) dX9_isAt_27 rfl <| r_i2l (pc := 28) dX9_isAt_28 (by omega) <| r_iload_n (pc := 29) dX9_isAt_29 rfl <| r_i2l (pc := 30) dX9_isAt_30 (by omega) <| cSi [_, _, _] (pc := 31) dX9_isAt_31 k_X9_55 ⟨⟨Nat.le_of_ble_eq_true rfl, Nat.le_of_ble_eq_true rfl⟩, ⟨Nat.le_of_ble_eq_true rfl, Nat.le_of_ble_eq_true rfl⟩, Nat.le_of_ble_eq_true rfl⟩ ⟨rfl, rfl⟩ ?_
    refine sp_in (by omega) (by omega) (by omega) (fun q => ?_) (fun q => ?_)
    · skip
      refine ⟨_, rfl, ?_⟩
      refine r_if_eq (pc := 34) 41 dX9_isAt_34 (by decide) (by decide) (fun q => absurd q (by decide)) (fun _ => ?_)
      refine r_iconst (pc := 37) dX9_isAt_37 <| r_goto (pc := 38) 42 dX9_isAt_38 (by decide) <| r_zret (pc := 42) dX9_isAt_42 rfl (by omega) ⟨Nat.le_of_ble_eq_true rfl, Nat.le_of_ble_eq_true rfl⟩ <| ?_
      first | exact h1 (by simp only [txB]; omega) | exact h0 (by simp only [txB]; omega)
    · skip
      refine ⟨_, rfl, ?_⟩
      refine r_if_eq (pc := 34) 41 dX9_isAt_34 (by decide) (by decide) (fun _ => ?_) (fun q => absurd q (by decide))
      refine r_iconst (pc := 41) dX9_isAt_41 <| r_zret (pc := 42) dX9_isAt_42 rfl (by omega) ⟨Nat.le_of_ble_eq_true rfl, Nat.le_of_ble_eq_true rfl⟩ <| ?_
      first | exact h1 (by simp only [txB]; omega) | exact h0 (by simp only [txB]; omega)
theorem sp_wordOf {v : Int} (hv : 0 ≤ v ∧ v < 1152921504606846976) (hQ : Q (some (vI (mtok (kindV v)))) n h) : Cl G mX9_wordOf [vJ v] n h Q := by
  refine cl_of (by decide) (Nat.le_of_ble_eq_true rfl) rfl ?_
  refine r_lload_n (pc := 0) dX9_wordOf_0 rfl <| r_ldc2 (pc := 1) dX9_wordOf_1 cT_X9_92 <| r_lc_ne (pc := 4) 12 dX9_wordOf_4 dX9_wordOf_5 (by decide) (by omega) (by omega) (fun hc_4 => ?_) (fun hc_4 => ?_)
  · skip
    refine r_lload_n (pc := 12) dX9_wordOf_12 rfl <| r_ldc2 (pc := 13) dX9_wordOf_13 cT_X9_94 <| r_lc_ne (pc := 16) 24 dX9_wordOf_16 dX9_wordOf_17 (by decide) (by omega) (by omega) (fun hc_16 => ?_) (fun hc_16 => ?_)
    · skip
      refine r_lload_n (pc := 24) dX9_wordOf_24 rfl <| r_ldc2 (pc := 25) dX9_wordOf_25 cT_X9_96 <| r_lc_ne (pc := 28) 36 dX9_wordOf_28 dX9_wordOf_29 (by decide) (by omega) (by omega) (fun hc_28 => ?_) (fun hc_28 => ?_)
      · skip
        refine r_lload_n (pc := 36) dX9_wordOf_36 rfl <| r_ldc2 (pc := 37) dX9_wordOf_37 cT_X9_98 <| r_lc_ne (pc := 40) 48 dX9_wordOf_40 dX9_wordOf_41 (by decide) (by omega) (by omega) (fun hc_40 => ?_) (fun hc_40 => ?_)
        · skip
          refine r_lload_n (pc := 48) dX9_wordOf_48 rfl <| r_ldc2 (pc := 49) dX9_wordOf_49 cT_X9_100 <| r_lc_ne (pc := 52) 60 dX9_wordOf_52 dX9_wordOf_53 (by decide) (by omega) (by omega) (fun hc_52 => ?_) (fun hc_52 => ?_)
          · skip
            refine r_iconst (pc := 60) dX9_wordOf_60 <| r_istoren_2 (pc := 61) dX9_wordOf_61 rfl <| r_lload_n (pc := 62) dX9_wordOf_62 rfl <| r_ldc2 (pc := 63) dX9_wordOf_63 cT_X9_102 <| r_lc_ne (pc := 66) 74 dX9_wordOf_66 dX9_wordOf_67 (by decide) (by omega) (by omega) (fun hc_66 => ?_) (fun hc_66 => ?_)
            · skip
              refine r_lload_n (pc := 74) dX9_wordOf_74 rfl <| r_ldc2 (pc := 75) dX9_wordOf_75 cT_X9_104 <| r_lc_ne (pc := 78) 87 dX9_wordOf_78 dX9_wordOf_79 (by decide) (by omega) (by omega) (fun hc_78 => ?_) (fun hc_78 => ?_)
              · skip
                refine r_lload_n (pc := 87) dX9_wordOf_87 rfl <| r_ldc2 (pc := 88) dX9_wordOf_88 cT_X9_106 <| r_lc_ne (pc := 91) 100 dX9_wordOf_91 dX9_wordOf_92 (by decide) (by omega) (by omega) (fun hc_91 => ?_) (fun hc_91 => ?_)
                · skip
                  refine r_lload_n (pc := 100) dX9_wordOf_100 rfl <| r_ldc2 (pc := 101) dX9_wordOf_101 cT_X9_108 <| r_lc_ne (pc := 104) 113 dX9_wordOf_104 dX9_wordOf_105 (by decide) (by omega) (by omega) (fun hc_104 => ?_) (fun hc_104 => ?_)
                  · skip
                    refine r_lload_n (pc := 113) dX9_wordOf_113 rfl <| r_ldc2 (pc := 114) dX9_wordOf_114 cT_X9_110 <| r_lc_ne (pc := 117) 126 dX9_wordOf_117 dX9_wordOf_118 (by decide) (by omega) (by omega) (fun hc_117 => ?_) (fun hc_117 => ?_)
                    · skip
                      refine r_iconst (pc := 126) dX9_wordOf_126 <| r_istoren_3 (pc := 127) dX9_wordOf_127 rfl <| r_iload_n (pc := 128) dX9_wordOf_128 rfl <| r_iconst (pc := 129) dX9_wordOf_129 <| r_icmp_eq (pc := 130) 140 dX9_wordOf_130 (by decide) (by decide) (by decide) (fun _ => ?_) (fun q => absurd q (by decide))
                      refine r_iload_n (pc := 140) dX9_wordOf_140 rfl <| r_iconst (pc := 141) dX9_wordOf_141 <| r_icmp_eq (pc := 142) 152 dX9_wordOf_142 (by decide) (by decide) (by decide) (fun _ => ?_) (fun q => absurd q (by decide))
                      refine r_lload_n (pc := 152) dX9_wordOf_152 rfl <| r_ldc2 (pc := 153) dX9_wordOf_153 cT_X9_112 <| r_lc_ne (pc := 156) 164 dX9_wordOf_156 dX9_wordOf_157 (by decide) (by omega) (by omega) (fun hc_156 => ?_) (fun hc_156 => ?_)
                      · skip
                        refine r_lload_n (pc := 164) dX9_wordOf_164 rfl <| r_ldc2 (pc := 165) dX9_wordOf_165 cT_X9_114 <| r_lc_ne (pc := 168) 176 dX9_wordOf_168 dX9_wordOf_169 (by decide) (by omega) (by omega) (fun hc_168 => ?_) (fun hc_168 => ?_)
                        · skip
                          refine r_iconst (pc := 176) dX9_wordOf_176 <| r_iret (pc := 177) dX9_wordOf_177 rfl ⟨Nat.le_of_ble_eq_true rfl, Nat.le_of_ble_eq_true rfl⟩ <| ?_
                          first | (exfalso; omega) | (subst_vars; exact hQ) | (have hk : kindV v = 14 := (by simp only [kindV, *, if_false]); rw [hk] at hQ; exact hQ)
                        · skip
                          refine r_iconst (pc := 172) dX9_wordOf_172 <| r_goto (pc := 173) 177 dX9_wordOf_173 (by decide) <| r_iret (pc := 177) dX9_wordOf_177 rfl ⟨Nat.le_of_ble_eq_true rfl, Nat.le_of_ble_eq_true rfl⟩ <| ?_
                          first | (exfalso; omega) | (subst_vars; exact hQ) | (have hk : kindV v = 14 := (by simp only [kindV, *, if_false]); rw [hk] at hQ; exact hQ)
                      · skip
                        refine r_iconst (pc := 160) dX9_wordOf_160 <| r_goto (pc := 161) 177 dX9_wordOf_161 (by decide) <| r_iret (pc := 177) dX9_wordOf_177 rfl ⟨Nat.le_of_ble_eq_true rfl, Nat.le_of_ble_eq_true rfl⟩ <| ?_
                        first | (exfalso; omega) | (subst_vars; exact hQ) | (have hk : kindV v = 14 := (by simp only [kindV, *, if_false]); rw [hk] at hQ; exact hQ)
                    · skip
                      refine r_bipush (pc := 121) dX9_wordOf_121 (by decide) <| r_goto (pc := 123) 127 dX9_wordOf_123 (by decide) <| r_istoren_3 (pc := 127) dX9_wordOf_127 rfl <| r_iload_n (pc := 128) dX9_wordOf_128 rfl <| r_iconst (pc := 129) dX9_wordOf_129 <| r_icmp_eq (pc := 130) 140 dX9_wordOf_130 (by decide) (by decide) (by decide) (fun _ => ?_) (fun q => absurd q (by decide))
                      refine r_iload_n (pc := 140) dX9_wordOf_140 rfl <| r_iconst (pc := 141) dX9_wordOf_141 <| r_icmp_eq (pc := 142) 152 dX9_wordOf_142 (by decide) (by decide) (by decide) (fun q => absurd q (by decide)) (fun _ => ?_)
                      refine r_bipush (pc := 145) dX9_wordOf_145 (by decide) <| r_iload_n (pc := 147) dX9_wordOf_147 rfl <| r_iadd (pc := 148) dX9_wordOf_148 <| r_goto (pc := 149) 177 dX9_wordOf_149 (by decide) <| r_iret (pc := 177) dX9_wordOf_177 rfl ⟨Nat.le_of_ble_eq_true rfl, Nat.le_of_ble_eq_true rfl⟩ <| ?_
                      first | (exfalso; omega) | (subst_vars; exact hQ) | (have hk : kindV v = 14 := (by simp only [kindV, *, if_false]); rw [hk] at hQ; exact hQ)
                  · skip
                    refine r_bipush (pc := 108) dX9_wordOf_108 (by decide) <| r_goto (pc := 110) 127 dX9_wordOf_110 (by decide) <| r_istoren_3 (pc := 127) dX9_wordOf_127 rfl <| r_iload_n (pc := 128) dX9_wordOf_128 rfl <| r_iconst (pc := 129) dX9_wordOf_129 <| r_icmp_eq (pc := 130) 140 dX9_wordOf_130 (by decide) (by decide) (by decide) (fun _ => ?_) (fun q => absurd q (by decide))
                    refine r_iload_n (pc := 140) dX9_wordOf_140 rfl <| r_iconst (pc := 141) dX9_wordOf_141 <| r_icmp_eq (pc := 142) 152 dX9_wordOf_142 (by decide) (by decide) (by decide) (fun q => absurd q (by decide)) (fun _ => ?_)
                    refine r_bipush (pc := 145) dX9_wordOf_145 (by decide) <| r_iload_n (pc := 147) dX9_wordOf_147 rfl <| r_iadd (pc := 148) dX9_wordOf_148 <| r_goto (pc := 149) 177 dX9_wordOf_149 (by decide) <| r_iret (pc := 177) dX9_wordOf_177 rfl ⟨Nat.le_of_ble_eq_true rfl, Nat.le_of_ble_eq_true rfl⟩ <| ?_
                    first | (exfalso; omega) | (subst_vars; exact hQ) | (have hk : kindV v = 14 := (by simp only [kindV, *, if_false]); rw [hk] at hQ; exact hQ)
                · skip
                  refine r_bipush (pc := 95) dX9_wordOf_95 (by decide) <| r_goto (pc := 97) 127 dX9_wordOf_97 (by decide) <| r_istoren_3 (pc := 127) dX9_wordOf_127 rfl <| r_iload_n (pc := 128) dX9_wordOf_128 rfl <| r_iconst (pc := 129) dX9_wordOf_129 <| r_icmp_eq (pc := 130) 140 dX9_wordOf_130 (by decide) (by decide) (by decide) (fun _ => ?_) (fun q => absurd q (by decide))
                  refine r_iload_n (pc := 140) dX9_wordOf_140 rfl <| r_iconst (pc := 141) dX9_wordOf_141 <| r_icmp_eq (pc := 142) 152 dX9_wordOf_142 (by decide) (by decide) (by decide) (fun q => absurd q (by decide)) (fun _ => ?_)
                  refine r_bipush (pc := 145) dX9_wordOf_145 (by decide) <| r_iload_n (pc := 147) dX9_wordOf_147 rfl <| r_iadd (pc := 148) dX9_wordOf_148 <| r_goto (pc := 149) 177 dX9_wordOf_149 (by decide) <| r_iret (pc := 177) dX9_wordOf_177 rfl ⟨Nat.le_of_ble_eq_true rfl, Nat.le_of_ble_eq_true rfl⟩ <| ?_
                  first | (exfalso; omega) | (subst_vars; exact hQ) | (have hk : kindV v = 14 := (by simp only [kindV, *, if_false]); rw [hk] at hQ; exact hQ)
              · skip
                refine r_bipush (pc := 82) dX9_wordOf_82 (by decide) <| r_goto (pc := 84) 127 dX9_wordOf_84 (by decide) <| r_istoren_3 (pc := 127) dX9_wordOf_127 rfl <| r_iload_n (pc := 128) dX9_wordOf_128 rfl <| r_iconst (pc := 129) dX9_wordOf_129 <| r_icmp_eq (pc := 130) 140 dX9_wordOf_130 (by decide) (by decide) (by decide) (fun _ => ?_) (fun q => absurd q (by decide))
                refine r_iload_n (pc := 140) dX9_wordOf_140 rfl <| r_iconst (pc := 141) dX9_wordOf_141 <| r_icmp_eq (pc := 142) 152 dX9_wordOf_142 (by decide) (by decide) (by decide) (fun q => absurd q (by decide)) (fun _ => ?_)
                refine r_bipush (pc := 145) dX9_wordOf_145 (by decide) <| r_iload_n (pc := 147) dX9_wordOf_147 rfl <| r_iadd (pc := 148) dX9_wordOf_148 <| r_goto (pc := 149) 177 dX9_wordOf_149 (by decide) <| r_iret (pc := 177) dX9_wordOf_177 rfl ⟨Nat.le_of_ble_eq_true rfl, Nat.le_of_ble_eq_true rfl⟩ <| ?_
                first | (exfalso; omega) | (subst_vars; exact hQ) | (have hk : kindV v = 14 := (by simp only [kindV, *, if_false]); rw [hk] at hQ; exact hQ)
            · skip
              refine r_iconst (pc := 70) dX9_wordOf_70 <| r_goto (pc := 71) 127 dX9_wordOf_71 (by decide) <| r_istoren_3 (pc := 127) dX9_wordOf_127 rfl <| r_iload_n (pc := 128) dX9_wordOf_128 rfl <| r_iconst (pc := 129) dX9_wordOf_129 <| r_icmp_eq (pc := 130) 140 dX9_wordOf_130 (by decide) (by decide) (by decide) (fun _ => ?_) (fun q => absurd q (by decide))
              refine r_iload_n (pc := 140) dX9_wordOf_140 rfl <| r_iconst (pc := 141) dX9_wordOf_141 <| r_icmp_eq (pc := 142) 152 dX9_wordOf_142 (by decide) (by decide) (by decide) (fun q => absurd q (by decide)) (fun _ => ?_)
              refine r_bipush (pc := 145) dX9_wordOf_145 (by decide) <| r_iload_n (pc := 147) dX9_wordOf_147 rfl <| r_iadd (pc := 148) dX9_wordOf_148 <| r_goto (pc := 149) 177 dX9_wordOf_149 (by decide) <| r_iret (pc := 177) dX9_wordOf_177 rfl ⟨Nat.le_of_ble_eq_true rfl, Nat.le_of_ble_eq_true rfl⟩ <| ?_
              first | (exfalso; omega) | (subst_vars; exact hQ) | (have hk : kindV v = 14 := (by simp only [kindV, *, if_false]); rw [hk] at hQ; exact hQ)
          · skip
            refine r_iconst (pc := 56) dX9_wordOf_56 <| r_goto (pc := 57) 61 dX9_wordOf_57 (by decide) <| r_istoren_2 (pc := 61) dX9_wordOf_61 rfl <| r_lload_n (pc := 62) dX9_wordOf_62 rfl <| r_ldc2 (pc := 63) dX9_wordOf_63 cT_X9_102 <| r_lc_ne (pc := 66) 74 dX9_wordOf_66 dX9_wordOf_67 (by decide) (by omega) (by omega) (fun hc_66 => ?_) (fun hc_66 => ?_)
            · skip
              refine r_lload_n (pc := 74) dX9_wordOf_74 rfl <| r_ldc2 (pc := 75) dX9_wordOf_75 cT_X9_104 <| r_lc_ne (pc := 78) 87 dX9_wordOf_78 dX9_wordOf_79 (by decide) (by omega) (by omega) (fun hc_78 => ?_) (fun hc_78 => ?_)
              · skip
                refine r_lload_n (pc := 87) dX9_wordOf_87 rfl <| r_ldc2 (pc := 88) dX9_wordOf_88 cT_X9_106 <| r_lc_ne (pc := 91) 100 dX9_wordOf_91 dX9_wordOf_92 (by decide) (by omega) (by omega) (fun hc_91 => ?_) (fun hc_91 => ?_)
                · skip
                  refine r_lload_n (pc := 100) dX9_wordOf_100 rfl <| r_ldc2 (pc := 101) dX9_wordOf_101 cT_X9_108 <| r_lc_ne (pc := 104) 113 dX9_wordOf_104 dX9_wordOf_105 (by decide) (by omega) (by omega) (fun hc_104 => ?_) (fun hc_104 => ?_)
                  · skip
                    refine r_lload_n (pc := 113) dX9_wordOf_113 rfl <| r_ldc2 (pc := 114) dX9_wordOf_114 cT_X9_110 <| r_lc_ne (pc := 117) 126 dX9_wordOf_117 dX9_wordOf_118 (by decide) (by omega) (by omega) (fun hc_117 => ?_) (fun hc_117 => ?_)
                    · skip
                      refine r_iconst (pc := 126) dX9_wordOf_126 <| r_istoren_3 (pc := 127) dX9_wordOf_127 rfl <| r_iload_n (pc := 128) dX9_wordOf_128 rfl <| r_iconst (pc := 129) dX9_wordOf_129 <| r_icmp_eq (pc := 130) 140 dX9_wordOf_130 (by decide) (by decide) (by decide) (fun q => absurd q (by decide)) (fun _ => ?_)
                      refine r_bipush (pc := 133) dX9_wordOf_133 (by decide) <| r_iload_n (pc := 135) dX9_wordOf_135 rfl <| r_iadd (pc := 136) dX9_wordOf_136 <| r_goto (pc := 137) 177 dX9_wordOf_137 (by decide) <| r_iret (pc := 177) dX9_wordOf_177 rfl ⟨Nat.le_of_ble_eq_true rfl, Nat.le_of_ble_eq_true rfl⟩ <| ?_
                      first | (exfalso; omega) | (subst_vars; exact hQ) | (have hk : kindV v = 14 := (by simp only [kindV, *, if_false]); rw [hk] at hQ; exact hQ)
                    · skip
                      refine r_bipush (pc := 121) dX9_wordOf_121 (by decide) <| r_goto (pc := 123) 127 dX9_wordOf_123 (by decide) <| r_istoren_3 (pc := 127) dX9_wordOf_127 rfl <| r_iload_n (pc := 128) dX9_wordOf_128 rfl <| r_iconst (pc := 129) dX9_wordOf_129 <| r_icmp_eq (pc := 130) 140 dX9_wordOf_130 (by decide) (by decide) (by decide) (fun q => absurd q (by decide)) (fun _ => ?_)
                      refine r_bipush (pc := 133) dX9_wordOf_133 (by decide) <| r_iload_n (pc := 135) dX9_wordOf_135 rfl <| r_iadd (pc := 136) dX9_wordOf_136 <| r_goto (pc := 137) 177 dX9_wordOf_137 (by decide) <| r_iret (pc := 177) dX9_wordOf_177 rfl ⟨Nat.le_of_ble_eq_true rfl, Nat.le_of_ble_eq_true rfl⟩ <| ?_
                      first | (exfalso; omega) | (subst_vars; exact hQ) | (have hk : kindV v = 14 := (by simp only [kindV, *, if_false]); rw [hk] at hQ; exact hQ)
                  · skip
                    refine r_bipush (pc := 108) dX9_wordOf_108 (by decide) <| r_goto (pc := 110) 127 dX9_wordOf_110 (by decide) <| r_istoren_3 (pc := 127) dX9_wordOf_127 rfl <| r_iload_n (pc := 128) dX9_wordOf_128 rfl <| r_iconst (pc := 129) dX9_wordOf_129 <| r_icmp_eq (pc := 130) 140 dX9_wordOf_130 (by decide) (by decide) (by decide) (fun q => absurd q (by decide)) (fun _ => ?_)
                    refine r_bipush (pc := 133) dX9_wordOf_133 (by decide) <| r_iload_n (pc := 135) dX9_wordOf_135 rfl <| r_iadd (pc := 136) dX9_wordOf_136 <| r_goto (pc := 137) 177 dX9_wordOf_137 (by decide) <| r_iret (pc := 177) dX9_wordOf_177 rfl ⟨Nat.le_of_ble_eq_true rfl, Nat.le_of_ble_eq_true rfl⟩ <| ?_
                    first | (exfalso; omega) | (subst_vars; exact hQ) | (have hk : kindV v = 14 := (by simp only [kindV, *, if_false]); rw [hk] at hQ; exact hQ)
                · skip
                  refine r_bipush (pc := 95) dX9_wordOf_95 (by decide) <| r_goto (pc := 97) 127 dX9_wordOf_97 (by decide) <| r_istoren_3 (pc := 127) dX9_wordOf_127 rfl <| r_iload_n (pc := 128) dX9_wordOf_128 rfl <| r_iconst (pc := 129) dX9_wordOf_129 <| r_icmp_eq (pc := 130) 140 dX9_wordOf_130 (by decide) (by decide) (by decide) (fun q => absurd q (by decide)) (fun _ => ?_)
                  refine r_bipush (pc := 133) dX9_wordOf_133 (by decide) <| r_iload_n (pc := 135) dX9_wordOf_135 rfl <| r_iadd (pc := 136) dX9_wordOf_136 <| r_goto (pc := 137) 177 dX9_wordOf_137 (by decide) <| r_iret (pc := 177) dX9_wordOf_177 rfl ⟨Nat.le_of_ble_eq_true rfl, Nat.le_of_ble_eq_true rfl⟩ <| ?_
                  first | (exfalso; omega) | (subst_vars; exact hQ) | (have hk : kindV v = 14 := (by simp only [kindV, *, if_false]); rw [hk] at hQ; exact hQ)
              · skip
                refine r_bipush (pc := 82) dX9_wordOf_82 (by decide) <| r_goto (pc := 84) 127 dX9_wordOf_84 (by decide) <| r_istoren_3 (pc := 127) dX9_wordOf_127 rfl <| r_iload_n (pc := 128) dX9_wordOf_128 rfl <| r_iconst (pc := 129) dX9_wordOf_129 <| r_icmp_eq (pc := 130) 140 dX9_wordOf_130 (by decide) (by decide) (by decide) (fun q => absurd q (by decide)) (fun _ => ?_)
                refine r_bipush (pc := 133) dX9_wordOf_133 (by decide) <| r_iload_n (pc := 135) dX9_wordOf_135 rfl <| r_iadd (pc := 136) dX9_wordOf_136 <| r_goto (pc := 137) 177 dX9_wordOf_137 (by decide) <| r_iret (pc := 177) dX9_wordOf_177 rfl ⟨Nat.le_of_ble_eq_true rfl, Nat.le_of_ble_eq_true rfl⟩ <| ?_
                first | (exfalso; omega) | (subst_vars; exact hQ) | (have hk : kindV v = 14 := (by simp only [kindV, *, if_false]); rw [hk] at hQ; exact hQ)
            · skip
              refine r_iconst (pc := 70) dX9_wordOf_70 <| r_goto (pc := 71) 127 dX9_wordOf_71 (by decide) <| r_istoren_3 (pc := 127) dX9_wordOf_127 rfl <| r_iload_n (pc := 128) dX9_wordOf_128 rfl <| r_iconst (pc := 129) dX9_wordOf_129 <| r_icmp_eq (pc := 130) 140 dX9_wordOf_130 (by decide) (by decide) (by decide) (fun q => absurd q (by decide)) (fun _ => ?_)
              refine r_bipush (pc := 133) dX9_wordOf_133 (by decide) <| r_iload_n (pc := 135) dX9_wordOf_135 rfl <| r_iadd (pc := 136) dX9_wordOf_136 <| r_goto (pc := 137) 177 dX9_wordOf_137 (by decide) <| r_iret (pc := 177) dX9_wordOf_177 rfl ⟨Nat.le_of_ble_eq_true rfl, Nat.le_of_ble_eq_true rfl⟩ <| ?_
              first | (exfalso; omega) | (subst_vars; exact hQ) | (have hk : kindV v = 14 := (by simp only [kindV, *, if_false]); rw [hk] at hQ; exact hQ)
        · skip
          refine r_iconst (pc := 44) dX9_wordOf_44 <| r_goto (pc := 45) 61 dX9_wordOf_45 (by decide) <| r_istoren_2 (pc := 61) dX9_wordOf_61 rfl <| r_lload_n (pc := 62) dX9_wordOf_62 rfl <| r_ldc2 (pc := 63) dX9_wordOf_63 cT_X9_102 <| r_lc_ne (pc := 66) 74 dX9_wordOf_66 dX9_wordOf_67 (by decide) (by omega) (by omega) (fun hc_66 => ?_) (fun hc_66 => ?_)
          · skip
            refine r_lload_n (pc := 74) dX9_wordOf_74 rfl <| r_ldc2 (pc := 75) dX9_wordOf_75 cT_X9_104 <| r_lc_ne (pc := 78) 87 dX9_wordOf_78 dX9_wordOf_79 (by decide) (by omega) (by omega) (fun hc_78 => ?_) (fun hc_78 => ?_)
            · skip
              refine r_lload_n (pc := 87) dX9_wordOf_87 rfl <| r_ldc2 (pc := 88) dX9_wordOf_88 cT_X9_106 <| r_lc_ne (pc := 91) 100 dX9_wordOf_91 dX9_wordOf_92 (by decide) (by omega) (by omega) (fun hc_91 => ?_) (fun hc_91 => ?_)
              · skip
                refine r_lload_n (pc := 100) dX9_wordOf_100 rfl <| r_ldc2 (pc := 101) dX9_wordOf_101 cT_X9_108 <| r_lc_ne (pc := 104) 113 dX9_wordOf_104 dX9_wordOf_105 (by decide) (by omega) (by omega) (fun hc_104 => ?_) (fun hc_104 => ?_)
                · skip
                  refine r_lload_n (pc := 113) dX9_wordOf_113 rfl <| r_ldc2 (pc := 114) dX9_wordOf_114 cT_X9_110 <| r_lc_ne (pc := 117) 126 dX9_wordOf_117 dX9_wordOf_118 (by decide) (by omega) (by omega) (fun hc_117 => ?_) (fun hc_117 => ?_)
                  · skip
                    refine r_iconst (pc := 126) dX9_wordOf_126 <| r_istoren_3 (pc := 127) dX9_wordOf_127 rfl <| r_iload_n (pc := 128) dX9_wordOf_128 rfl <| r_iconst (pc := 129) dX9_wordOf_129 <| r_icmp_eq (pc := 130) 140 dX9_wordOf_130 (by decide) (by decide) (by decide) (fun q => absurd q (by decide)) (fun _ => ?_)
                    refine r_bipush (pc := 133) dX9_wordOf_133 (by decide) <| r_iload_n (pc := 135) dX9_wordOf_135 rfl <| r_iadd (pc := 136) dX9_wordOf_136 <| r_goto (pc := 137) 177 dX9_wordOf_137 (by decide) <| r_iret (pc := 177) dX9_wordOf_177 rfl ⟨Nat.le_of_ble_eq_true rfl, Nat.le_of_ble_eq_true rfl⟩ <| ?_
                    first | (exfalso; omega) | (subst_vars; exact hQ) | (have hk : kindV v = 14 := (by simp only [kindV, *, if_false]); rw [hk] at hQ; exact hQ)
                  · skip
                    refine r_bipush (pc := 121) dX9_wordOf_121 (by decide) <| r_goto (pc := 123) 127 dX9_wordOf_123 (by decide) <| r_istoren_3 (pc := 127) dX9_wordOf_127 rfl <| r_iload_n (pc := 128) dX9_wordOf_128 rfl <| r_iconst (pc := 129) dX9_wordOf_129 <| r_icmp_eq (pc := 130) 140 dX9_wordOf_130 (by decide) (by decide) (by decide) (fun q => absurd q (by decide)) (fun _ => ?_)
                    refine r_bipush (pc := 133) dX9_wordOf_133 (by decide) <| r_iload_n (pc := 135) dX9_wordOf_135 rfl <| r_iadd (pc := 136) dX9_wordOf_136 <| r_goto (pc := 137) 177 dX9_wordOf_137 (by decide) <| r_iret (pc := 177) dX9_wordOf_177 rfl ⟨Nat.le_of_ble_eq_true rfl, Nat.le_of_ble_eq_true rfl⟩ <| ?_
                    first | (exfalso; omega) | (subst_vars; exact hQ) | (have hk : kindV v = 14 := (by simp only [kindV, *, if_false]); rw [hk] at hQ; exact hQ)
                · skip
                  refine r_bipush (pc := 108) dX9_wordOf_108 (by decide) <| r_goto (pc := 110) 127 dX9_wordOf_110 (by decide) <| r_istoren_3 (pc := 127) dX9_wordOf_127 rfl <| r_iload_n (pc := 128) dX9_wordOf_128 rfl <| r_iconst (pc := 129) dX9_wordOf_129 <| r_icmp_eq (pc := 130) 140 dX9_wordOf_130 (by decide) (by decide) (by decide) (fun q => absurd q (by decide)) (fun _ => ?_)
                  refine r_bipush (pc := 133) dX9_wordOf_133 (by decide) <| r_iload_n (pc := 135) dX9_wordOf_135 rfl <| r_iadd (pc := 136) dX9_wordOf_136 <| r_goto (pc := 137) 177 dX9_wordOf_137 (by decide) <| r_iret (pc := 177) dX9_wordOf_177 rfl ⟨Nat.le_of_ble_eq_true rfl, Nat.le_of_ble_eq_true rfl⟩ <| ?_
                  first | (exfalso; omega) | (subst_vars; exact hQ) | (have hk : kindV v = 14 := (by simp only [kindV, *, if_false]); rw [hk] at hQ; exact hQ)
              · skip
                refine r_bipush (pc := 95) dX9_wordOf_95 (by decide) <| r_goto (pc := 97) 127 dX9_wordOf_97 (by decide) <| r_istoren_3 (pc := 127) dX9_wordOf_127 rfl <| r_iload_n (pc := 128) dX9_wordOf_128 rfl <| r_iconst (pc := 129) dX9_wordOf_129 <| r_icmp_eq (pc := 130) 140 dX9_wordOf_130 (by decide) (by decide) (by decide) (fun q => absurd q (by decide)) (fun _ => ?_)
                refine r_bipush (pc := 133) dX9_wordOf_133 (by decide) <| r_iload_n (pc := 135) dX9_wordOf_135 rfl <| r_iadd (pc := 136) dX9_wordOf_136 <| r_goto (pc := 137) 177 dX9_wordOf_137 (by decide) <| r_iret (pc := 177) dX9_wordOf_177 rfl ⟨Nat.le_of_ble_eq_true rfl, Nat.le_of_ble_eq_true rfl⟩ <| ?_
                first | (exfalso; omega) | (subst_vars; exact hQ) | (have hk : kindV v = 14 := (by simp only [kindV, *, if_false]); rw [hk] at hQ; exact hQ)
            · skip
              refine r_bipush (pc := 82) dX9_wordOf_82 (by decide) <| r_goto (pc := 84) 127 dX9_wordOf_84 (by decide) <| r_istoren_3 (pc := 127) dX9_wordOf_127 rfl <| r_iload_n (pc := 128) dX9_wordOf_128 rfl <| r_iconst (pc := 129) dX9_wordOf_129 <| r_icmp_eq (pc := 130) 140 dX9_wordOf_130 (by decide) (by decide) (by decide) (fun q => absurd q (by decide)) (fun _ => ?_)
              refine r_bipush (pc := 133) dX9_wordOf_133 (by decide) <| r_iload_n (pc := 135) dX9_wordOf_135 rfl <| r_iadd (pc := 136) dX9_wordOf_136 <| r_goto (pc := 137) 177 dX9_wordOf_137 (by decide) <| r_iret (pc := 177) dX9_wordOf_177 rfl ⟨Nat.le_of_ble_eq_true rfl, Nat.le_of_ble_eq_true rfl⟩ <| ?_
              first | (exfalso; omega) | (subst_vars; exact hQ) | (have hk : kindV v = 14 := (by simp only [kindV, *, if_false]); rw [hk] at hQ; exact hQ)
          · skip
            refine r_iconst (pc := 70) dX9_wordOf_70 <| r_goto (pc := 71) 127 dX9_wordOf_71 (by decide) <| r_istoren_3 (pc := 127) dX9_wordOf_127 rfl <| r_iload_n (pc := 128) dX9_wordOf_128 rfl <| r_iconst (pc := 129) dX9_wordOf_129 <| r_icmp_eq (pc := 130) 140 dX9_wordOf_130 (by decide) (by decide) (by decide) (fun q => absurd q (by decide)) (fun _ => ?_)
            refine r_bipush (pc := 133) dX9_wordOf_133 (by decide) <| r_iload_n (pc := 135) dX9_wordOf_135 rfl <| r_iadd (pc := 136) dX9_wordOf_136 <| r_goto (pc := 137) 177 dX9_wordOf_137 (by decide) <| r_iret (pc := 177) dX9_wordOf_177 rfl ⟨Nat.le_of_ble_eq_true rfl, Nat.le_of_ble_eq_true rfl⟩ <| ?_
            first | (exfalso; omega) | (subst_vars; exact hQ) | (have hk : kindV v = 14 := (by simp only [kindV, *, if_false]); rw [hk] at hQ; exact hQ)
      · skip
        refine r_iconst (pc := 32) dX9_wordOf_32 <| r_goto (pc := 33) 61 dX9_wordOf_33 (by decide) <| r_istoren_2 (pc := 61) dX9_wordOf_61 rfl <| r_lload_n (pc := 62) dX9_wordOf_62 rfl <| r_ldc2 (pc := 63) dX9_wordOf_63 cT_X9_102 <| r_lc_ne (pc := 66) 74 dX9_wordOf_66 dX9_wordOf_67 (by decide) (by omega) (by omega) (fun hc_66 => ?_) (fun hc_66 => ?_)
        · skip
          refine r_lload_n (pc := 74) dX9_wordOf_74 rfl <| r_ldc2 (pc := 75) dX9_wordOf_75 cT_X9_104 <| r_lc_ne (pc := 78) 87 dX9_wordOf_78 dX9_wordOf_79 (by decide) (by omega) (by omega) (fun hc_78 => ?_) (fun hc_78 => ?_)
          · skip
            refine r_lload_n (pc := 87) dX9_wordOf_87 rfl <| r_ldc2 (pc := 88) dX9_wordOf_88 cT_X9_106 <| r_lc_ne (pc := 91) 100 dX9_wordOf_91 dX9_wordOf_92 (by decide) (by omega) (by omega) (fun hc_91 => ?_) (fun hc_91 => ?_)
            · skip
              refine r_lload_n (pc := 100) dX9_wordOf_100 rfl <| r_ldc2 (pc := 101) dX9_wordOf_101 cT_X9_108 <| r_lc_ne (pc := 104) 113 dX9_wordOf_104 dX9_wordOf_105 (by decide) (by omega) (by omega) (fun hc_104 => ?_) (fun hc_104 => ?_)
              · skip
                refine r_lload_n (pc := 113) dX9_wordOf_113 rfl <| r_ldc2 (pc := 114) dX9_wordOf_114 cT_X9_110 <| r_lc_ne (pc := 117) 126 dX9_wordOf_117 dX9_wordOf_118 (by decide) (by omega) (by omega) (fun hc_117 => ?_) (fun hc_117 => ?_)
                · skip
                  refine r_iconst (pc := 126) dX9_wordOf_126 <| r_istoren_3 (pc := 127) dX9_wordOf_127 rfl <| r_iload_n (pc := 128) dX9_wordOf_128 rfl <| r_iconst (pc := 129) dX9_wordOf_129 <| r_icmp_eq (pc := 130) 140 dX9_wordOf_130 (by decide) (by decide) (by decide) (fun q => absurd q (by decide)) (fun _ => ?_)
                  refine r_bipush (pc := 133) dX9_wordOf_133 (by decide) <| r_iload_n (pc := 135) dX9_wordOf_135 rfl <| r_iadd (pc := 136) dX9_wordOf_136 <| r_goto (pc := 137) 177 dX9_wordOf_137 (by decide) <| r_iret (pc := 177) dX9_wordOf_177 rfl ⟨Nat.le_of_ble_eq_true rfl, Nat.le_of_ble_eq_true rfl⟩ <| ?_
                  first | (exfalso; omega) | (subst_vars; exact hQ) | (have hk : kindV v = 14 := (by simp only [kindV, *, if_false]); rw [hk] at hQ; exact hQ)
                · skip
                  refine r_bipush (pc := 121) dX9_wordOf_121 (by decide) <| r_goto (pc := 123) 127 dX9_wordOf_123 (by decide) <| r_istoren_3 (pc := 127) dX9_wordOf_127 rfl <| r_iload_n (pc := 128) dX9_wordOf_128 rfl <| r_iconst (pc := 129) dX9_wordOf_129 <| r_icmp_eq (pc := 130) 140 dX9_wordOf_130 (by decide) (by decide) (by decide) (fun q => absurd q (by decide)) (fun _ => ?_)
                  refine r_bipush (pc := 133) dX9_wordOf_133 (by decide) <| r_iload_n (pc := 135) dX9_wordOf_135 rfl <| r_iadd (pc := 136) dX9_wordOf_136 <| r_goto (pc := 137) 177 dX9_wordOf_137 (by decide) <| r_iret (pc := 177) dX9_wordOf_177 rfl ⟨Nat.le_of_ble_eq_true rfl, Nat.le_of_ble_eq_true rfl⟩ <| ?_
                  first | (exfalso; omega) | (subst_vars; exact hQ) | (have hk : kindV v = 14 := (by simp only [kindV, *, if_false]); rw [hk] at hQ; exact hQ)
              · skip
                refine r_bipush (pc := 108) dX9_wordOf_108 (by decide) <| r_goto (pc := 110) 127 dX9_wordOf_110 (by decide) <| r_istoren_3 (pc := 127) dX9_wordOf_127 rfl <| r_iload_n (pc := 128) dX9_wordOf_128 rfl <| r_iconst (pc := 129) dX9_wordOf_129 <| r_icmp_eq (pc := 130) 140 dX9_wordOf_130 (by decide) (by decide) (by decide) (fun q => absurd q (by decide)) (fun _ => ?_)
                refine r_bipush (pc := 133) dX9_wordOf_133 (by decide) <| r_iload_n (pc := 135) dX9_wordOf_135 rfl <| r_iadd (pc := 136) dX9_wordOf_136 <| r_goto (pc := 137) 177 dX9_wordOf_137 (by decide) <| r_iret (pc := 177) dX9_wordOf_177 rfl ⟨Nat.le_of_ble_eq_true rfl, Nat.le_of_ble_eq_true rfl⟩ <| ?_
                first | (exfalso; omega) | (subst_vars; exact hQ) | (have hk : kindV v = 14 := (by simp only [kindV, *, if_false]); rw [hk] at hQ; exact hQ)
            · skip
              refine r_bipush (pc := 95) dX9_wordOf_95 (by decide) <| r_goto (pc := 97) 127 dX9_wordOf_97 (by decide) <| r_istoren_3 (pc := 127) dX9_wordOf_127 rfl <| r_iload_n (pc := 128) dX9_wordOf_128 rfl <| r_iconst (pc := 129) dX9_wordOf_129 <| r_icmp_eq (pc := 130) 140 dX9_wordOf_130 (by decide) (by decide) (by decide) (fun q => absurd q (by decide)) (fun _ => ?_)
              refine r_bipush (pc := 133) dX9_wordOf_133 (by decide) <| r_iload_n (pc := 135) dX9_wordOf_135 rfl <| r_iadd (pc := 136) dX9_wordOf_136 <| r_goto (pc := 137) 177 dX9_wordOf_137 (by decide) <| r_iret (pc := 177) dX9_wordOf_177 rfl ⟨Nat.le_of_ble_eq_true rfl, Nat.le_of_ble_eq_true rfl⟩ <| ?_
              first | (exfalso; omega) | (subst_vars; exact hQ) | (have hk : kindV v = 14 := (by simp only [kindV, *, if_false]); rw [hk] at hQ; exact hQ)
          · skip
            refine r_bipush (pc := 82) dX9_wordOf_82 (by decide) <| r_goto (pc := 84) 127 dX9_wordOf_84 (by decide) <| r_istoren_3 (pc := 127) dX9_wordOf_127 rfl <| r_iload_n (pc := 128) dX9_wordOf_128 rfl <| r_iconst (pc := 129) dX9_wordOf_129 <| r_icmp_eq (pc := 130) 140 dX9_wordOf_130 (by decide) (by decide) (by decide) (fun q => absurd q (by decide)) (fun _ => ?_)
            refine r_bipush (pc := 133) dX9_wordOf_133 (by decide) <| r_iload_n (pc := 135) dX9_wordOf_135 rfl <| r_iadd (pc := 136) dX9_wordOf_136 <| r_goto (pc := 137) 177 dX9_wordOf_137 (by decide) <| r_iret (pc := 177) dX9_wordOf_177 rfl ⟨Nat.le_of_ble_eq_true rfl, Nat.le_of_ble_eq_true rfl⟩ <| ?_
            first | (exfalso; omega) | (subst_vars; exact hQ) | (have hk : kindV v = 14 := (by simp only [kindV, *, if_false]); rw [hk] at hQ; exact hQ)
        · skip
          refine r_iconst (pc := 70) dX9_wordOf_70 <| r_goto (pc := 71) 127 dX9_wordOf_71 (by decide) <| r_istoren_3 (pc := 127) dX9_wordOf_127 rfl <| r_iload_n (pc := 128) dX9_wordOf_128 rfl <| r_iconst (pc := 129) dX9_wordOf_129 <| r_icmp_eq (pc := 130) 140 dX9_wordOf_130 (by decide) (by decide) (by decide) (fun q => absurd q (by decide)) (fun _ => ?_)
          refine r_bipush (pc := 133) dX9_wordOf_133 (by decide) <| r_iload_n (pc := 135) dX9_wordOf_135 rfl <| r_iadd (pc := 136) dX9_wordOf_136 <| r_goto (pc := 137) 177 dX9_wordOf_137 (by decide) <| r_iret (pc := 177) dX9_wordOf_177 rfl ⟨Nat.le_of_ble_eq_true rfl, Nat.le_of_ble_eq_true rfl⟩ <| ?_
          first | (exfalso; omega) | (subst_vars; exact hQ) | (have hk : kindV v = 14 := (by simp only [kindV, *, if_false]); rw [hk] at hQ; exact hQ)
    · skip
      refine r_iconst (pc := 20) dX9_wordOf_20 <| r_goto (pc := 21) 61 dX9_wordOf_21 (by decide) <| r_istoren_2 (pc := 61) dX9_wordOf_61 rfl <| r_lload_n (pc := 62) dX9_wordOf_62 rfl <| r_ldc2 (pc := 63) dX9_wordOf_63 cT_X9_102 <| r_lc_ne (pc := 66) 74 dX9_wordOf_66 dX9_wordOf_67 (by decide) (by omega) (by omega) (fun hc_66 => ?_) (fun hc_66 => ?_)
      · skip
        refine r_lload_n (pc := 74) dX9_wordOf_74 rfl <| r_ldc2 (pc := 75) dX9_wordOf_75 cT_X9_104 <| r_lc_ne (pc := 78) 87 dX9_wordOf_78 dX9_wordOf_79 (by decide) (by omega) (by omega) (fun hc_78 => ?_) (fun hc_78 => ?_)
        · skip
          refine r_lload_n (pc := 87) dX9_wordOf_87 rfl <| r_ldc2 (pc := 88) dX9_wordOf_88 cT_X9_106 <| r_lc_ne (pc := 91) 100 dX9_wordOf_91 dX9_wordOf_92 (by decide) (by omega) (by omega) (fun hc_91 => ?_) (fun hc_91 => ?_)
          · skip
            refine r_lload_n (pc := 100) dX9_wordOf_100 rfl <| r_ldc2 (pc := 101) dX9_wordOf_101 cT_X9_108 <| r_lc_ne (pc := 104) 113 dX9_wordOf_104 dX9_wordOf_105 (by decide) (by omega) (by omega) (fun hc_104 => ?_) (fun hc_104 => ?_)
            · skip
              refine r_lload_n (pc := 113) dX9_wordOf_113 rfl <| r_ldc2 (pc := 114) dX9_wordOf_114 cT_X9_110 <| r_lc_ne (pc := 117) 126 dX9_wordOf_117 dX9_wordOf_118 (by decide) (by omega) (by omega) (fun hc_117 => ?_) (fun hc_117 => ?_)
              · skip
                refine r_iconst (pc := 126) dX9_wordOf_126 <| r_istoren_3 (pc := 127) dX9_wordOf_127 rfl <| r_iload_n (pc := 128) dX9_wordOf_128 rfl <| r_iconst (pc := 129) dX9_wordOf_129 <| r_icmp_eq (pc := 130) 140 dX9_wordOf_130 (by decide) (by decide) (by decide) (fun q => absurd q (by decide)) (fun _ => ?_)
                refine r_bipush (pc := 133) dX9_wordOf_133 (by decide) <| r_iload_n (pc := 135) dX9_wordOf_135 rfl <| r_iadd (pc := 136) dX9_wordOf_136 <| r_goto (pc := 137) 177 dX9_wordOf_137 (by decide) <| r_iret (pc := 177) dX9_wordOf_177 rfl ⟨Nat.le_of_ble_eq_true rfl, Nat.le_of_ble_eq_true rfl⟩ <| ?_
                first | (exfalso; omega) | (subst_vars; exact hQ) | (have hk : kindV v = 14 := (by simp only [kindV, *, if_false]); rw [hk] at hQ; exact hQ)
              · skip
                refine r_bipush (pc := 121) dX9_wordOf_121 (by decide) <| r_goto (pc := 123) 127 dX9_wordOf_123 (by decide) <| r_istoren_3 (pc := 127) dX9_wordOf_127 rfl <| r_iload_n (pc := 128) dX9_wordOf_128 rfl <| r_iconst (pc := 129) dX9_wordOf_129 <| r_icmp_eq (pc := 130) 140 dX9_wordOf_130 (by decide) (by decide) (by decide) (fun q => absurd q (by decide)) (fun _ => ?_)
                refine r_bipush (pc := 133) dX9_wordOf_133 (by decide) <| r_iload_n (pc := 135) dX9_wordOf_135 rfl <| r_iadd (pc := 136) dX9_wordOf_136 <| r_goto (pc := 137) 177 dX9_wordOf_137 (by decide) <| r_iret (pc := 177) dX9_wordOf_177 rfl ⟨Nat.le_of_ble_eq_true rfl, Nat.le_of_ble_eq_true rfl⟩ <| ?_
                first | (exfalso; omega) | (subst_vars; exact hQ) | (have hk : kindV v = 14 := (by simp only [kindV, *, if_false]); rw [hk] at hQ; exact hQ)
            · skip
              refine r_bipush (pc := 108) dX9_wordOf_108 (by decide) <| r_goto (pc := 110) 127 dX9_wordOf_110 (by decide) <| r_istoren_3 (pc := 127) dX9_wordOf_127 rfl <| r_iload_n (pc := 128) dX9_wordOf_128 rfl <| r_iconst (pc := 129) dX9_wordOf_129 <| r_icmp_eq (pc := 130) 140 dX9_wordOf_130 (by decide) (by decide) (by decide) (fun q => absurd q (by decide)) (fun _ => ?_)
              refine r_bipush (pc := 133) dX9_wordOf_133 (by decide) <| r_iload_n (pc := 135) dX9_wordOf_135 rfl <| r_iadd (pc := 136) dX9_wordOf_136 <| r_goto (pc := 137) 177 dX9_wordOf_137 (by decide) <| r_iret (pc := 177) dX9_wordOf_177 rfl ⟨Nat.le_of_ble_eq_true rfl, Nat.le_of_ble_eq_true rfl⟩ <| ?_
              first | (exfalso; omega) | (subst_vars; exact hQ) | (have hk : kindV v = 14 := (by simp only [kindV, *, if_false]); rw [hk] at hQ; exact hQ)
          · skip
            refine r_bipush (pc := 95) dX9_wordOf_95 (by decide) <| r_goto (pc := 97) 127 dX9_wordOf_97 (by decide) <| r_istoren_3 (pc := 127) dX9_wordOf_127 rfl <| r_iload_n (pc := 128) dX9_wordOf_128 rfl <| r_iconst (pc := 129) dX9_wordOf_129 <| r_icmp_eq (pc := 130) 140 dX9_wordOf_130 (by decide) (by decide) (by decide) (fun q => absurd q (by decide)) (fun _ => ?_)
            refine r_bipush (pc := 133) dX9_wordOf_133 (by decide) <| r_iload_n (pc := 135) dX9_wordOf_135 rfl <| r_iadd (pc := 136) dX9_wordOf_136 <| r_goto (pc := 137) 177 dX9_wordOf_137 (by decide) <| r_iret (pc := 177) dX9_wordOf_177 rfl ⟨Nat.le_of_ble_eq_true rfl, Nat.le_of_ble_eq_true rfl⟩ <| ?_
            first | (exfalso; omega) | (subst_vars; exact hQ) | (have hk : kindV v = 14 := (by simp only [kindV, *, if_false]); rw [hk] at hQ; exact hQ)
        · skip
          refine r_bipush (pc := 82) dX9_wordOf_82 (by decide) <| r_goto (pc := 84) 127 dX9_wordOf_84 (by decide) <| r_istoren_3 (pc := 127) dX9_wordOf_127 rfl <| r_iload_n (pc := 128) dX9_wordOf_128 rfl <| r_iconst (pc := 129) dX9_wordOf_129 <| r_icmp_eq (pc := 130) 140 dX9_wordOf_130 (by decide) (by decide) (by decide) (fun q => absurd q (by decide)) (fun _ => ?_)
          refine r_bipush (pc := 133) dX9_wordOf_133 (by decide) <| r_iload_n (pc := 135) dX9_wordOf_135 rfl <| r_iadd (pc := 136) dX9_wordOf_136 <| r_goto (pc := 137) 177 dX9_wordOf_137 (by decide) <| r_iret (pc := 177) dX9_wordOf_177 rfl ⟨Nat.le_of_ble_eq_true rfl, Nat.le_of_ble_eq_true rfl⟩ <| ?_
          first | (exfalso; omega) | (subst_vars; exact hQ) | (have hk : kindV v = 14 := (by simp only [kindV, *, if_false]); rw [hk] at hQ; exact hQ)
      · skip
        refine r_iconst (pc := 70) dX9_wordOf_70 <| r_goto (pc := 71) 127 dX9_wordOf_71 (by decide) <| r_istoren_3 (pc := 127) dX9_wordOf_127 rfl <| r_iload_n (pc := 128) dX9_wordOf_128 rfl <| r_iconst (pc := 129) dX9_wordOf_129 <| r_icmp_eq (pc := 130) 140 dX9_wordOf_130 (by decide) (by decide) (by decide) (fun q => absurd q (by decide)) (fun _ => ?_)
        refine r_bipush (pc := 133) dX9_wordOf_133 (by decide) <| r_iload_n (pc := 135) dX9_wordOf_135 rfl <| r_iadd (pc := 136) dX9_wordOf_136 <| r_goto (pc := 137) 177 dX9_wordOf_137 (by decide) <| r_iret (pc := 177) dX9_wordOf_177 rfl ⟨Nat.le_of_ble_eq_true rfl, Nat.le_of_ble_eq_true rfl⟩ <| ?_
        first | (exfalso; omega) | (subst_vars; exact hQ) | (have hk : kindV v = 14 := (by simp only [kindV, *, if_false]); rw [hk] at hQ; exact hQ)
  · skip
    refine r_iconst (pc := 8) dX9_wordOf_8 <| r_goto (pc := 9) 61 dX9_wordOf_9 (by decide) <| r_istoren_2 (pc := 61) dX9_wordOf_61 rfl <| r_lload_n (pc := 62) dX9_wordOf_62 rfl <| r_ldc2 (pc := 63) dX9_wordOf_63 cT_X9_102 <| r_lc_ne (pc := 66) 74 dX9_wordOf_66 dX9_wordOf_67 (by decide) (by omega) (by omega) (fun hc_66 => ?_) (fun hc_66 => ?_)
    · skip
      refine r_lload_n (pc := 74) dX9_wordOf_74 rfl <| r_ldc2 (pc := 75) dX9_wordOf_75 cT_X9_104 <| r_lc_ne (pc := 78) 87 dX9_wordOf_78 dX9_wordOf_79 (by decide) (by omega) (by omega) (fun hc_78 => ?_) (fun hc_78 => ?_)
      · skip
        refine r_lload_n (pc := 87) dX9_wordOf_87 rfl <| r_ldc2 (pc := 88) dX9_wordOf_88 cT_X9_106 <| r_lc_ne (pc := 91) 100 dX9_wordOf_91 dX9_wordOf_92 (by decide) (by omega) (by omega) (fun hc_91 => ?_) (fun hc_91 => ?_)
        · skip
          refine r_lload_n (pc := 100) dX9_wordOf_100 rfl <| r_ldc2 (pc := 101) dX9_wordOf_101 cT_X9_108 <| r_lc_ne (pc := 104) 113 dX9_wordOf_104 dX9_wordOf_105 (by decide) (by omega) (by omega) (fun hc_104 => ?_) (fun hc_104 => ?_)
          · skip
            refine r_lload_n (pc := 113) dX9_wordOf_113 rfl <| r_ldc2 (pc := 114) dX9_wordOf_114 cT_X9_110 <| r_lc_ne (pc := 117) 126 dX9_wordOf_117 dX9_wordOf_118 (by decide) (by omega) (by omega) (fun hc_117 => ?_) (fun hc_117 => ?_)
            · skip
              refine r_iconst (pc := 126) dX9_wordOf_126 <| r_istoren_3 (pc := 127) dX9_wordOf_127 rfl <| r_iload_n (pc := 128) dX9_wordOf_128 rfl <| r_iconst (pc := 129) dX9_wordOf_129 <| r_icmp_eq (pc := 130) 140 dX9_wordOf_130 (by decide) (by decide) (by decide) (fun q => absurd q (by decide)) (fun _ => ?_)
              refine r_bipush (pc := 133) dX9_wordOf_133 (by decide) <| r_iload_n (pc := 135) dX9_wordOf_135 rfl <| r_iadd (pc := 136) dX9_wordOf_136 <| r_goto (pc := 137) 177 dX9_wordOf_137 (by decide) <| r_iret (pc := 177) dX9_wordOf_177 rfl ⟨Nat.le_of_ble_eq_true rfl, Nat.le_of_ble_eq_true rfl⟩ <| ?_
              first | (exfalso; omega) | (subst_vars; exact hQ) | (have hk : kindV v = 14 := (by simp only [kindV, *, if_false]); rw [hk] at hQ; exact hQ)
            · skip
              refine r_bipush (pc := 121) dX9_wordOf_121 (by decide) <| r_goto (pc := 123) 127 dX9_wordOf_123 (by decide) <| r_istoren_3 (pc := 127) dX9_wordOf_127 rfl <| r_iload_n (pc := 128) dX9_wordOf_128 rfl <| r_iconst (pc := 129) dX9_wordOf_129 <| r_icmp_eq (pc := 130) 140 dX9_wordOf_130 (by decide) (by decide) (by decide) (fun q => absurd q (by decide)) (fun _ => ?_)
              refine r_bipush (pc := 133) dX9_wordOf_133 (by decide) <| r_iload_n (pc := 135) dX9_wordOf_135 rfl <| r_iadd (pc := 136) dX9_wordOf_136 <| r_goto (pc := 137) 177 dX9_wordOf_137 (by decide) <| r_iret (pc := 177) dX9_wordOf_177 rfl ⟨Nat.le_of_ble_eq_true rfl, Nat.le_of_ble_eq_true rfl⟩ <| ?_
              first | (exfalso; omega) | (subst_vars; exact hQ) | (have hk : kindV v = 14 := (by simp only [kindV, *, if_false]); rw [hk] at hQ; exact hQ)
          · skip
            refine r_bipush (pc := 108) dX9_wordOf_108 (by decide) <| r_goto (pc := 110) 127 dX9_wordOf_110 (by decide) <| r_istoren_3 (pc := 127) dX9_wordOf_127 rfl <| r_iload_n (pc := 128) dX9_wordOf_128 rfl <| r_iconst (pc := 129) dX9_wordOf_129 <| r_icmp_eq (pc := 130) 140 dX9_wordOf_130 (by decide) (by decide) (by decide) (fun q => absurd q (by decide)) (fun _ => ?_)
            refine r_bipush (pc := 133) dX9_wordOf_133 (by decide) <| r_iload_n (pc := 135) dX9_wordOf_135 rfl <| r_iadd (pc := 136) dX9_wordOf_136 <| r_goto (pc := 137) 177 dX9_wordOf_137 (by decide) <| r_iret (pc := 177) dX9_wordOf_177 rfl ⟨Nat.le_of_ble_eq_true rfl, Nat.le_of_ble_eq_true rfl⟩ <| ?_
            first | (exfalso; omega) | (subst_vars; exact hQ) | (have hk : kindV v = 14 := (by simp only [kindV, *, if_false]); rw [hk] at hQ; exact hQ)
        · skip
          refine r_bipush (pc := 95) dX9_wordOf_95 (by decide) <| r_goto (pc := 97) 127 dX9_wordOf_97 (by decide) <| r_istoren_3 (pc := 127) dX9_wordOf_127 rfl <| r_iload_n (pc := 128) dX9_wordOf_128 rfl <| r_iconst (pc := 129) dX9_wordOf_129 <| r_icmp_eq (pc := 130) 140 dX9_wordOf_130 (by decide) (by decide) (by decide) (fun q => absurd q (by decide)) (fun _ => ?_)
          refine r_bipush (pc := 133) dX9_wordOf_133 (by decide) <| r_iload_n (pc := 135) dX9_wordOf_135 rfl <| r_iadd (pc := 136) dX9_wordOf_136 <| r_goto (pc := 137) 177 dX9_wordOf_137 (by decide) <| r_iret (pc := 177) dX9_wordOf_177 rfl ⟨Nat.le_of_ble_eq_true rfl, Nat.le_of_ble_eq_true rfl⟩ <| ?_
          first | (exfalso; omega) | (subst_vars; exact hQ) | (have hk : kindV v = 14 := (by simp only [kindV, *, if_false]); rw [hk] at hQ; exact hQ)
      · skip
        refine r_bipush (pc := 82) dX9_wordOf_82 (by decide) <| r_goto (pc := 84) 127 dX9_wordOf_84 (by decide) <| r_istoren_3 (pc := 127) dX9_wordOf_127 rfl <| r_iload_n (pc := 128) dX9_wordOf_128 rfl <| r_iconst (pc := 129) dX9_wordOf_129 <| r_icmp_eq (pc := 130) 140 dX9_wordOf_130 (by decide) (by decide) (by decide) (fun q => absurd q (by decide)) (fun _ => ?_)
        refine r_bipush (pc := 133) dX9_wordOf_133 (by decide) <| r_iload_n (pc := 135) dX9_wordOf_135 rfl <| r_iadd (pc := 136) dX9_wordOf_136 <| r_goto (pc := 137) 177 dX9_wordOf_137 (by decide) <| r_iret (pc := 177) dX9_wordOf_177 rfl ⟨Nat.le_of_ble_eq_true rfl, Nat.le_of_ble_eq_true rfl⟩ <| ?_
        first | (exfalso; omega) | (subst_vars; exact hQ) | (have hk : kindV v = 14 := (by simp only [kindV, *, if_false]); rw [hk] at hQ; exact hQ)
    · skip
      refine r_iconst (pc := 70) dX9_wordOf_70 <| r_goto (pc := 71) 127 dX9_wordOf_71 (by decide) <| r_istoren_3 (pc := 127) dX9_wordOf_127 rfl <| r_iload_n (pc := 128) dX9_wordOf_128 rfl <| r_iconst (pc := 129) dX9_wordOf_129 <| r_icmp_eq (pc := 130) 140 dX9_wordOf_130 (by decide) (by decide) (by decide) (fun q => absurd q (by decide)) (fun _ => ?_)
      refine r_bipush (pc := 133) dX9_wordOf_133 (by decide) <| r_iload_n (pc := 135) dX9_wordOf_135 rfl <| r_iadd (pc := 136) dX9_wordOf_136 <| r_goto (pc := 137) 177 dX9_wordOf_137 (by decide) <| r_iret (pc := 177) dX9_wordOf_177 rfl ⟨Nat.le_of_ble_eq_true rfl, Nat.le_of_ble_eq_true rfl⟩ <| ?_
      first | (exfalso; omega) | (subst_vars; exact hQ) | (have hk : kindV v = 14 := (by simp only [kindV, *, if_false]); rw [hk] at hQ; exact hQ)
theorem lp_s0 {bk : Int → Int} {l1 l2 : AV} (hb : Bd bk (-1) 255) (ht : bk 1 ≤ 160) : ∀ (q : Nat) (p : Int) (h : Hp) (e : Nat → Int), h 45 = some (aO 9 (mF e)) → e 6 = p → h 46 = some (aA 480 bk) → 0 ≤ p ∧ p ≤ bk 1 → (bk 1 - p).toNat = q →
    (∀ h', h' 45 = some (aO 9 (mF (nu e 6 (advF pB (txB bk) (bk 1) p)))) → Fr (fun q => q = 45) h h' → At G mX9_scans 24 [vR 45, l1, l2] [] (0, 0, n) h' Q) → At G mX9_scans 0 [vR 45, l1, l2] [] (0, 0, n) h Q := by
  intro q
  induction q using Nat.strongRecOn with
  | ind q ih =>
    rintro p h e hM rfl hB hp hq hQ
    have hM' := hM
    unfold mF at hM'
    refine r_aload_n (pc := 0) dX9_scans_0 rfl <| r_bipush (pc := 1) dX9_scans_1 (by decide) <| r_bipush (pc := 3) dX9_scans_3 (by decide) <| cVi [_, _] (pc := 5) dX9_scans_5 k_X9_116 ⟨⟨Nat.le_of_ble_eq_true rfl, Nat.le_of_ble_eq_true rfl⟩, ⟨Nat.le_of_ble_eq_true rfl, Nat.le_of_ble_eq_true rfl⟩, Nat.le_of_ble_eq_true rfl⟩ ⟨rfl, rfl⟩ hM' ?_
    refine sp_isAt hM hB hb ht (by omega) (by omega) (by omega) (fun q1 => ?_) (fun q1 => ?_)
    · skip
      refine ⟨_, rfl, ?_⟩
      refine r_if_eq (pc := 8) 24 dX9_scans_8 (by decide) (by decide) (fun q => absurd q (by decide)) (fun _ => ?_)
      refine r_aload_n (pc := 11) dX9_scans_11 rfl <| r_dup (pc := 12) dX9_scans_12 rfl <| r_getf (pc := 13) dX9_scans_13 fA_X9_89 hM' rfl <| r_iconst (pc := 16) dX9_scans_16 <| r_iadd (pc := 17) dX9_scans_17 <| r_putf (pc := 18) dX9_scans_18 fP_X9_89 rfl rfl hM' rfl (fun h_18 hM' hF_18 => ?_)
      simp only [List.set_cons_zero, List.set_cons_succ] at hM'
      replace hB := hF_18.keep hB (by omega)
      refine r_goto (pc := 21) 0 dX9_scans_21 (by decide) <| ?_
      have hg : advF pB (txB bk) (bk 1) (e 6) = advF pB (txB bk) (bk 1) (e 6 + 1) := advF_go q1.1 (by simp only [pB, decide_eq_true_eq]; omega)
      rw [hg] at hQ
      exact ih _ (by omega) (e 6 + 1) _ (nu e 6 (e 6 + 1)) hM' rfl hB (by omega) rfl (fun h2 h3 h4 => hQ h2 h3 (fun p hp => (h4 p hp).trans (hF_18 p hp)))
    · skip
      refine ⟨_, rfl, ?_⟩
      refine r_if_eq (pc := 8) 24 dX9_scans_8 (by decide) (by decide) (fun _ => ?_) (fun q => absurd q (by decide))
      have hg : advF pB (txB bk) (bk 1) (e 6) = e 6 := advF_end (by simp only [pB, decide_eq_true_eq]; omega)
      rw [hg] at hQ
      exact hQ h hM' Fr.rf
end MS

