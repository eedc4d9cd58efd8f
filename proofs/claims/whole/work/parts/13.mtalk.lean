/-! ===== the model: whom a courtesy names, a talk ===== -/
theorem i_bit {x j : Int} (hx : 0 ≤ x ∧ x < 2147483648) : Int32.ofInt (x / (2 ^ j.toNat : Nat)) &&& Int32.ofInt 1 = Int32.ofInt (bitI x j) := by
  have h1 : 0 ≤ x / ((2 ^ j.toNat : Nat) : Int) := Int.ediv_nonneg hx.1 (Int.natCast_nonneg _)
  have h2 : x / ((2 ^ j.toNat : Nat) : Int) ≤ x := Int.ediv_le_self _ hx.1
  exact i_and1 ⟨h1, by omega⟩
theorem scanI_skip {many i : Int} {f : Int → Int} {q : Nat} (hi : i < many) (hf : f i = -1) : scanI many f (q + 1) i = scanI many f q (i + 1) := by
  simp only [scanI, if_pos hi, if_pos hf]
theorem scanI_hit {many i : Int} {f : Int → Int} {q : Nat} (hi : i < many) (hf : f i ≠ -1) : scanI many f (q + 1) i = some i := by
  simp only [scanI, if_pos hi, if_neg hf]
def wentB (bk : Int → Int) (w o : Int) : Int → Int := iu (iu bk (36 + 8 * w + o) (if 99 < bk (36 + 8 * w + o) + 1 then 99 else bk (36 + 8 * w + o) + 1)) (100 + (if w < o then 8 * w + o else 8 * o + w)) w
section MT
variable {G : GT} {n : Nat} {h : Hp} {Q : PT}
theorem sp_mwent {e : Nat → Int} {bk : Int → Int} {w o : Int} (hM : h 45 = some (aO 9 (mF e))) (hB : h 46 = some (aA 480 bk)) (hb : Bd bk (-1) 255) (hw : 0 ≤ w ∧ w < 8) (ho : 0 ≤ o ∧ o < 8) (hQ : ∀ h', h' 46 = some (aA 480 (wentB bk w o)) → Fr (fun q => q = 46) h h' → Q none n h') : Cl G mX9_went [vR 45, vI w, vI o] n h Q := by
  unfold mF at hM
  have b0 := hb (36 + 8 * w + o)
  refine cl_of (by decide) (Nat.le_of_ble_eq_true rfl) rfl ?_
  refine r_aload_n (pc := 0) dX9_went_0 rfl <| r_getf (pc := 1) dX9_went_1 fA_X9_7 hM rfl <| r_bipush (pc := 4) dX9_went_4 (by decide) <| r_bipush (pc := 6) dX9_went_6 (by decide) <| r_iload_n (pc := 8) dX9_went_8 rfl <| r_imul (pc := 9) dX9_went_9 <| r_iadd (pc := 10) dX9_went_10 <| r_iload_n (pc := 11) dX9_went_11 rfl <| r_iadd (pc := 12) dX9_went_12 <| r_iald (pc := 13) dX9_went_13 hB (by omega) (by decide) <| r_iconst (pc := 14) dX9_went_14 <| r_iadd (pc := 15) dX9_went_15 <| r_istoren_3 (pc := 16) dX9_went_16 rfl <| r_aload_n (pc := 17) dX9_went_17 rfl <| r_getf (pc := 18) dX9_went_18 fA_X9_7 hM rfl <| r_bipush (pc := 21) dX9_went_21 (by decide) <| r_bipush (pc := 23) dX9_went_23 (by decide) <| r_iload_n (pc := 25) dX9_went_25 rfl <| r_imul (pc := 26) dX9_went_26 <| r_iadd (pc := 27) dX9_went_27 <| r_iload_n (pc := 28) dX9_went_28 rfl <| r_iadd (pc := 29) dX9_went_29 <| r_iload_n (pc := 30) dX9_went_30 rfl <| r_bipush (pc := 31) dX9_went_31 (by decide) <| r_icmp_le (pc := 33) 41 dX9_went_33 (by decide) (by omega) (by omega) (fun hc_33 => ?_) (fun hc_33 => ?_)
  · skip
    refine r_iload_n (pc := 41) dX9_went_41 rfl <| r_iast (pc := 42) dX9_went_42 hB (by omega) (by decide) (fun h_42 hB hF_42 => ?_)
    replace hM := hF_42.keep hM (by omega)
    refine r_aload_n (pc := 43) dX9_went_43 rfl <| r_getf (pc := 44) dX9_went_44 fA_X9_7 hM rfl <| r_bipush (pc := 47) dX9_went_47 (by decide) <| r_iload_n (pc := 49) dX9_went_49 rfl <| r_iload_n (pc := 50) dX9_went_50 rfl <| r_icmp_ge (pc := 51) 63 dX9_went_51 (by decide) (by omega) (by omega) (fun hc_51 => ?_) (fun hc_51 => ?_)
    · skip
      refine r_bipush (pc := 63) dX9_went_63 (by decide) <| r_iload_n (pc := 65) dX9_went_65 rfl <| r_imul (pc := 66) dX9_went_66 <| r_iload_n (pc := 67) dX9_went_67 rfl <| r_iadd (pc := 68) dX9_went_68 <| r_iadd (pc := 69) dX9_went_69 <| r_iload_n (pc := 70) dX9_went_70 rfl <| r_iast (pc := 71) dX9_went_71 hB (by omega) (by decide) (fun h_71 hB hF_71 => ?_)
      replace hM := hF_71.keep hM (by omega)
      refine r_vret (pc := 72) dX9_went_72 rfl ⟨Nat.le_of_ble_eq_true rfl, Nat.le_of_ble_eq_true rfl⟩ <| ?_
      refine hQ _ ?_ (fun q hq => (hF_71 q hq).trans (hF_42 q hq))
      rw [hB]; unfold wentB; (repeat' split) <;> first | rfl | (exfalso; omega)
    · skip
      refine r_bipush (pc := 54) dX9_went_54 (by decide) <| r_iload_n (pc := 56) dX9_went_56 rfl <| r_imul (pc := 57) dX9_went_57 <| r_iload_n (pc := 58) dX9_went_58 rfl <| r_iadd (pc := 59) dX9_went_59 <| r_goto (pc := 60) 69 dX9_went_60 (by decide) <| r_iadd (pc := 69) dX9_went_69 <| r_iload_n (pc := 70) dX9_went_70 rfl <| r_iast (pc := 71) dX9_went_71 hB (by omega) (by decide) (fun h_71 hB hF_71 => ?_)
      replace hM := hF_71.keep hM (by omega)
      refine r_vret (pc := 72) dX9_went_72 rfl ⟨Nat.le_of_ble_eq_true rfl, Nat.le_of_ble_eq_true rfl⟩ <| ?_
      refine hQ _ ?_ (fun q hq => (hF_71 q hq).trans (hF_42 q hq))
      rw [hB]; unfold wentB; (repeat' split) <;> first | rfl | (exfalso; omega)
  · skip
    refine r_bipush (pc := 36) dX9_went_36 (by decide) <| r_goto (pc := 38) 42 dX9_went_38 (by decide) <| r_iast (pc := 42) dX9_went_42 hB (by omega) (by decide) (fun h_42 hB hF_42 => ?_)
    replace hM := hF_42.keep hM (by omega)
    refine r_aload_n (pc := 43) dX9_went_43 rfl <| r_getf (pc := 44) dX9_went_44 fA_X9_7 hM rfl <| r_bipush (pc := 47) dX9_went_47 (by decide) <| r_iload_n (pc := 49) dX9_went_49 rfl <| r_iload_n (pc := 50) dX9_went_50 rfl <| r_icmp_ge (pc := 51) 63 dX9_went_51 (by decide) (by omega) (by omega) (fun hc_51 => ?_) (fun hc_51 => ?_)
    · skip
      refine r_bipush (pc := 63) dX9_went_63 (by decide) <| r_iload_n (pc := 65) dX9_went_65 rfl <| r_imul (pc := 66) dX9_went_66 <| r_iload_n (pc := 67) dX9_went_67 rfl <| r_iadd (pc := 68) dX9_went_68 <| r_iadd (pc := 69) dX9_went_69 <| r_iload_n (pc := 70) dX9_went_70 rfl <| r_iast (pc := 71) dX9_went_71 hB (by omega) (by decide) (fun h_71 hB hF_71 => ?_)
      replace hM := hF_71.keep hM (by omega)
      refine r_vret (pc := 72) dX9_went_72 rfl ⟨Nat.le_of_ble_eq_true rfl, Nat.le_of_ble_eq_true rfl⟩ <| ?_
      refine hQ _ ?_ (fun q hq => (hF_71 q hq).trans (hF_42 q hq))
      rw [hB]; unfold wentB; (repeat' split) <;> first | rfl | (exfalso; omega)
    · skip
      refine r_bipush (pc := 54) dX9_went_54 (by decide) <| r_iload_n (pc := 56) dX9_went_56 rfl <| r_imul (pc := 57) dX9_went_57 <| r_iload_n (pc := 58) dX9_went_58 rfl <| r_iadd (pc := 59) dX9_went_59 <| r_goto (pc := 60) 69 dX9_went_60 (by decide) <| r_iadd (pc := 69) dX9_went_69 <| r_iload_n (pc := 70) dX9_went_70 rfl <| r_iast (pc := 71) dX9_went_71 hB (by omega) (by decide) (fun h_71 hB hF_71 => ?_)
      replace hM := hF_71.keep hM (by omega)
      refine r_vret (pc := 72) dX9_went_72 rfl ⟨Nat.le_of_ble_eq_true rfl, Nat.le_of_ble_eq_true rfl⟩ <| ?_
      refine hQ _ ?_ (fun q hq => (hF_71 q hq).trans (hF_42 q hq))
      rw [hB]; unfold wentB; (repeat' split) <;> first | rfl | (exfalso; omega)
theorem sp_names {e : Nat → Int} {bk : Int → Int} {w k x z : Int} (hM : h 45 = some (aO 9 (mF e))) (hB : h 46 = some (aA 480 bk)) (hb : Bd bk (-1) 255) (hw : 0 ≤ w ∧ w < 10) (hk : 0 ≤ k ∧ k < 100) (hx : 0 ≤ x ∧ x < 8) (hz : 0 ≤ z ∧ z < 8) (hQ : Q (some (vI (nameV (Ab bk) (Ob bk) (Lb bk) w k x z))) n h) : Cl G mX9_names [vR 45, vI w, vI k, vI x, vI z] n h Q := by
  have c0 := cnt_in hb x (w / 2)
  have c1 := cnt_in hb z (w / 2)
  have c2 := hb (36 + 8 * x + z)
  have c3 := hb (36 + 8 * z + x)
  have c4 : -1 ≤ lastB bk x z ∧ lastB bk x z ≤ 255 := hb _
  have m0 := @moreF_in x z (cnt bk x (w / 2)) (cnt bk z (w / 2)) k
  have hM' := hM
  unfold mF at hM'
  refine cl_of (by decide) (Nat.le_of_ble_eq_true rfl) rfl ?_
  refine r_iload_n (pc := 0) dX9_names_0 rfl <| r_bipush (pc := 1) dX9_names_1 (by decide) <| r_icmp_ge (pc := 3) 57 dX9_names_3 (by decide) (by omega) (by omega) (fun hc_3 => ?_) (fun hc_3 => ?_)
  · skip
    refine r_iload_n (pc := 57) dX9_names_57 rfl <| r_bipush (pc := 58) dX9_names_58 (by decide) <| r_icmp_ne (pc := 60) 101 dX9_names_60 (by decide) (by omega) (by omega) (fun hc_60 => ?_) (fun hc_60 => ?_)
    · skip
      refine r_aload_n (pc := 101) dX9_names_101 rfl <| r_iload_n (pc := 102) dX9_names_102 rfl <| r_iload (pc := 103) dX9_names_103 rfl <| cVi [_, _] (pc := 105) dX9_names_105 k_X9_158 ⟨⟨Nat.le_of_ble_eq_true rfl, Nat.le_of_ble_eq_true rfl⟩, ⟨Nat.le_of_ble_eq_true rfl, Nat.le_of_ble_eq_true rfl⟩, Nat.le_of_ble_eq_true rfl⟩ ⟨rfl, rfl⟩ hM' ?_
      refine sp_lastOf hM hB (by omega) (by omega) ?_
      refine ⟨_, rfl, ?_⟩
      refine r_istore_5 (pc := 108) dX9_names_108 rfl <| r_iload_n (pc := 110) dX9_names_110 rfl <| r_bipush (pc := 111) dX9_names_111 (by decide) <| r_icmp_ne (pc := 113) 136 dX9_names_113 (by decide) (by omega) (by omega) (fun hc_113 => ?_) (fun hc_113 => ?_)
      · skip
        refine r_iload_n (pc := 136) dX9_names_136 rfl <| r_bipush (pc := 137) dX9_names_137 (by decide) <| r_icmp_ne (pc := 139) 146 dX9_names_139 (by decide) (by omega) (by omega) (fun hc_139 => ?_) (fun hc_139 => ?_)
        · skip
          refine r_iload (pc := 146) dX9_names_146 rfl <| r_iret (pc := 148) dX9_names_148 rfl ⟨Nat.le_of_ble_eq_true rfl, Nat.le_of_ble_eq_true rfl⟩ <| ?_
          exact qI (by simp only [nameV, Ab, Ob, Lb]; (repeat' split) <;> first | rfl | omega) hQ
        · skip
          refine r_iload_n (pc := 142) dX9_names_142 rfl <| r_goto (pc := 143) 148 dX9_names_143 (by decide) <| r_iret (pc := 148) dX9_names_148 rfl ⟨Nat.le_of_ble_eq_true rfl, Nat.le_of_ble_eq_true rfl⟩ <| ?_
          exact qI (by simp only [nameV, Ab, Ob, Lb]; (repeat' split) <;> first | rfl | omega) hQ
      · skip
        refine r_iload (pc := 116) dX9_names_116 rfl <| r_iconst (pc := 118) dX9_names_118 <| r_icmp_ne (pc := 119) 126 dX9_names_119 (by decide) (by omega) (by omega) (fun hc_119 => ?_) (fun hc_119 => ?_)
        · skip
          refine r_iload_n (pc := 126) dX9_names_126 rfl <| r_iload (pc := 127) dX9_names_127 rfl <| r_iadd (pc := 129) dX9_names_129 <| r_iload (pc := 130) dX9_names_130 rfl <| r_isub (pc := 132) dX9_names_132 <| r_goto (pc := 133) 148 dX9_names_133 (by decide) <| r_iret (pc := 148) dX9_names_148 rfl ⟨Nat.le_of_ble_eq_true rfl, Nat.le_of_ble_eq_true rfl⟩ <| ?_
          exact qI (by simp only [nameV, Ab, Ob, Lb]; (repeat' split) <;> first | rfl | omega) hQ
        · skip
          refine r_iconst (pc := 122) dX9_names_122 <| r_goto (pc := 123) 148 dX9_names_123 (by decide) <| r_iret (pc := 148) dX9_names_148 rfl ⟨Nat.le_of_ble_eq_true rfl, Nat.le_of_ble_eq_true rfl⟩ <| ?_
          exact qI (by simp only [nameV, Ab, Ob, Lb]; (repeat' split) <;> first | rfl | omega) hQ
    · skip
      refine r_iload_n (pc := 63) dX9_names_63 rfl <| r_iload (pc := 64) dX9_names_64 rfl <| r_aload_n (pc := 66) dX9_names_66 rfl <| r_getf (pc := 67) dX9_names_67 fA_X9_7 hM' rfl <| r_bipush (pc := 70) dX9_names_70 (by decide) <| r_bipush (pc := 72) dX9_names_72 (by decide) <| r_iload (pc := 74) dX9_names_74 rfl <| r_imul (pc := 76) dX9_names_76 <| r_iadd (pc := 77) dX9_names_77 <| r_iload_n (pc := 78) dX9_names_78 rfl <| r_iadd (pc := 79) dX9_names_79 <| r_iald (pc := 80) dX9_names_80 hB (by omega) (by decide) <| r_aload_n (pc := 81) dX9_names_81 rfl <| r_getf (pc := 82) dX9_names_82 fA_X9_7 hM' rfl <| r_bipush (pc := 85) dX9_names_85 (by decide) <| r_bipush (pc := 87) dX9_names_87 (by decide) <| r_iload_n (pc := 89) dX9_names_89 rfl <| r_imul (pc := 90) dX9_names_90 <| r_iadd (pc := 91) dX9_names_91 <| r_iload (pc := 92) dX9_names_92 rfl <| r_iadd (pc := 94) dX9_names_94 <| r_iald (pc := 95) dX9_names_95 hB (by omega) (by decide) <| r_iload_n (pc := 96) dX9_names_96 rfl <| cSi [_, _, _, _, _] (pc := 97) dX9_names_97 k_X9_154 ⟨⟨Nat.le_of_ble_eq_true rfl, Nat.le_of_ble_eq_true rfl⟩, ⟨Nat.le_of_ble_eq_true rfl, Nat.le_of_ble_eq_true rfl⟩, Nat.le_of_ble_eq_true rfl⟩ ⟨rfl, rfl⟩ ?_
      refine sp_more (by omega) (by omega) (by omega) (by omega) ?_
      refine ⟨_, rfl, ?_⟩
      refine r_iret (pc := 100) dX9_names_100 rfl ⟨Nat.le_of_ble_eq_true rfl, Nat.le_of_ble_eq_true rfl⟩ <| ?_
      exact qI (by simp only [nameV, Ab, Ob, Lb]; (repeat' split) <;> first | rfl | omega) hQ
  · skip
    refine r_iload_n (pc := 6) dX9_names_6 rfl <| r_iload (pc := 7) dX9_names_7 rfl <| r_aload_n (pc := 9) dX9_names_9 rfl <| r_iload_n (pc := 10) dX9_names_10 rfl <| r_iload_n (pc := 11) dX9_names_11 rfl <| r_iconst (pc := 12) dX9_names_12 <| r_idiv (pc := 13) dX9_names_13 (by omega) (by omega) <| cVi [_, _] (pc := 14) dX9_names_14 k_X9_78 ⟨⟨Nat.le_of_ble_eq_true rfl, Nat.le_of_ble_eq_true rfl⟩, ⟨Nat.le_of_ble_eq_true rfl, Nat.le_of_ble_eq_true rfl⟩, Nat.le_of_ble_eq_true rfl⟩ ⟨rfl, rfl⟩ hM' ?_
    refine sp_countsOf hM hB hb (by omega) (by omega) ?_
    refine ⟨_, rfl, ?_⟩
    refine r_aload_n (pc := 17) dX9_names_17 rfl <| r_iload (pc := 18) dX9_names_18 rfl <| r_iload_n (pc := 20) dX9_names_20 rfl <| r_iconst (pc := 21) dX9_names_21 <| r_idiv (pc := 22) dX9_names_22 (by omega) (by omega) <| cVi [_, _] (pc := 23) dX9_names_23 k_X9_78 ⟨⟨Nat.le_of_ble_eq_true rfl, Nat.le_of_ble_eq_true rfl⟩, ⟨Nat.le_of_ble_eq_true rfl, Nat.le_of_ble_eq_true rfl⟩, Nat.le_of_ble_eq_true rfl⟩ ⟨rfl, rfl⟩ hM' ?_
    refine sp_countsOf hM hB hb (by omega) (by omega) ?_
    refine ⟨_, rfl, ?_⟩
    refine r_iload_n (pc := 26) dX9_names_26 rfl <| cSi [_, _, _, _, _] (pc := 27) dX9_names_27 k_X9_154 ⟨⟨Nat.le_of_ble_eq_true rfl, Nat.le_of_ble_eq_true rfl⟩, ⟨Nat.le_of_ble_eq_true rfl, Nat.le_of_ble_eq_true rfl⟩, Nat.le_of_ble_eq_true rfl⟩ ⟨rfl, rfl⟩ ?_
    refine sp_more (by omega) (by omega) (by omega) (by omega) ?_
    refine ⟨_, rfl, ?_⟩
    refine r_istore_5 (pc := 30) dX9_names_30 rfl <| r_iload_n (pc := 32) dX9_names_32 rfl <| r_iconst (pc := 33) dX9_names_33 <| r_irem (pc := 34) dX9_names_34 (by omega) (by omega) <| r_if_eq (pc := 35) 44 dX9_names_35 (by decide) (by omega) (fun hc_35 => ?_) (fun hc_35 => ?_)
    · skip
      refine r_iload (pc := 44) dX9_names_44 rfl <| r_goto (pc := 46) 56 dX9_names_46 (by decide) <| r_iret (pc := 56) dX9_names_56 rfl ⟨Nat.le_of_ble_eq_true rfl, Nat.le_of_ble_eq_true rfl⟩ <| ?_
      exact qI (by simp only [nameV, Ab, Ob, Lb]; (repeat' split) <;> first | rfl | omega) hQ
    · skip
      refine r_iload (pc := 38) dX9_names_38 rfl <| r_iconst (pc := 40) dX9_names_40 <| r_icmp_ne (pc := 41) 49 dX9_names_41 (by decide) (by omega) (by omega) (fun hc_41 => ?_) (fun hc_41 => ?_)
      · skip
        refine r_iload_n (pc := 49) dX9_names_49 rfl <| r_iload (pc := 50) dX9_names_50 rfl <| r_iadd (pc := 52) dX9_names_52 <| r_iload (pc := 53) dX9_names_53 rfl <| r_isub (pc := 55) dX9_names_55 <| r_iret (pc := 56) dX9_names_56 rfl ⟨Nat.le_of_ble_eq_true rfl, Nat.le_of_ble_eq_true rfl⟩ <| ?_
        exact qI (by simp only [nameV, Ab, Ob, Lb]; (repeat' split) <;> first | rfl | omega) hQ
      · skip
        refine r_iload (pc := 44) dX9_names_44 rfl <| r_goto (pc := 46) 56 dX9_names_46 (by decide) <| r_iret (pc := 56) dX9_names_56 rfl ⟨Nat.le_of_ble_eq_true rfl, Nat.le_of_ble_eq_true rfl⟩ <| ?_
        exact qI (by simp only [nameV, Ab, Ob, Lb]; (repeat' split) <;> first | rfl | omega) hQ
theorem nameV_in {A O Ls : Int → Int → Int} {w k x z : Int} (hL : -1 ≤ Ls x z ∧ Ls x z ≤ 255) (hx : 0 ≤ x ∧ x < 8) (hz : 0 ≤ z ∧ z < 8) : -300 ≤ nameV A O Ls w k x z ∧ nameV A O Ls w k x z ≤ 300 := by
  have m0 := @moreF_in x z (A (w / 2) x) (A (w / 2) z) k
  have m1 := @moreF_in x z (O z x) (O x z) k
  unfold nameV
  (repeat' split) <;> omega
theorem lp_toff {a b x n5 : Int} {k i : Int} {l5 l6 : AV} {e : Nat → Int} (hM : h 45 = some (aO 9 (mF e))) (hi : 0 ≤ e 14 ∧ e 14 < 9) (hm : 0 ≤ e 11 ∧ e 11 ≤ 9)
    (hQ : ∀ h' v, h' 45 = some (aO 9 (mF (nu e 14 v))) → Fr (fun q => q = 45) h h' → At G mX9_talks 181 [vR 45, vI a, vI b, vI x, vI 0, l5, l6] [] (0, 0, n) h' Q) : At G mX9_talks 168 [vR 45, vI a, vI b, vI x, vI 0, l5, l6] [] (0, 0, n) h Q := by
  unfold mF at hM
  refine r_aload_n (pc := 168) dX9_talks_168 rfl <| r_dup (pc := 169) dX9_talks_169 rfl <| r_getf (pc := 170) dX9_talks_170 fA_X9_164 hM rfl <| r_iconst (pc := 173) dX9_talks_173 <| r_iadd (pc := 174) dX9_talks_174 <| r_putf (pc := 175) dX9_talks_175 fP_X9_164 rfl rfl hM rfl (fun h_175 hM hF_175 => ?_)
  simp only [List.set_cons_zero, List.set_cons_succ] at hM
  refine r_goto (pc := 178) 38 dX9_talks_178 (by decide) <| r_aload_n (pc := 38) dX9_talks_38 rfl <| r_getf (pc := 39) dX9_talks_39 fA_X9_164 hM rfl <| r_aload_n (pc := 42) dX9_talks_42 rfl <| r_getf (pc := 43) dX9_talks_43 fA_X9_136 hM rfl <| r_icmp_ge (pc := 46) 181 dX9_talks_46 (by decide) (by omega) (by omega) (fun hc_46 => ?_) (fun hc_46 => ?_)
  · skip
    exact hQ _ (e 14 + 1) hM hF_175
  · skip
    refine r_iload (pc := 49) dX9_talks_49 rfl <| r_if_eq (pc := 51) 181 dX9_talks_51 (by decide) (by decide) (fun _ => ?_) (fun q => absurd q (by decide))
    exact hQ _ (e 14 + 1) hM hF_175
theorem lp_tin {bk it : Int → Int} {a b x k many sk : Int} (hb : Bd bk (-1) 255) (hit : ∀ j, 0 ≤ j ∧ j < 9 → (0 ≤ it (4 * j) ∧ it (4 * j) ≤ 99) ∧ (0 ≤ it (4 * j + 1) ∧ it (4 * j + 1) ≤ 1) ∧ (0 ≤ it (4 * j + 2) ∧ it (4 * j + 2) < 10) ∧ (0 ≤ it (4 * j + 3) ∧ it (4 * j + 3) < 100)) (hm : 0 ≤ many ∧ many ≤ 9) (hsk : 0 ≤ sk ∧ sk < 512) (hk : 1 ≤ k ∧ k ≤ 9) (hx : 0 ≤ x ∧ x < 8) (hz : 0 ≤ a + b - x ∧ a + b - x < 8) :
    ∀ (q : Nat) (i : Int) (h : Hp) (e : Nat → Int) (l5 l6 : AV), h 45 = some (aO 9 (mF e)) → e 13 = k → e 14 = i → e 11 = many → e 12 = sk → h 46 = some (aA 480 bk) → h 50 = some (aA 40 it) → 0 ≤ i ∧ i ≤ 9 → many - i ≤ q →
    (∀ j h', scanI many (itemF (nameV (Ab bk) (Ob bk) (Lb bk)) it sk k x (a + b - x)) q i = some j → it (4 * j + 1) = 0 → h' 45 = some (aO 9 (mF (nu e 14 j))) → Fr (fun q => q = 45) h h' → Q (some (vI (itemF (nameV (Ab bk) (Ob bk) (Lb bk)) it sk k x (a + b - x) j))) n h') →
    (∀ h' l4 l5 l6 v, (∀ j, scanI many (itemF (nameV (Ab bk) (Ob bk) (Lb bk)) it sk k x (a + b - x)) q i = some j → ¬ it (4 * j + 1) = 0) → h' 45 = some (aO 9 (mF (nu e 14 v))) → Fr (fun q => q = 45) h h' → At G mX9_talks 181 [vR 45, vI a, vI b, vI x, vI l4, l5, l6] [] (0, 0, n) h' Q) →
    At G mX9_talks 38 [vR 45, vI a, vI b, vI x, vI 1, l5, l6] [] (0, 0, n) h Q := by
  intro q
  induction q with
  | zero =>
    rintro i h e l5 l6 hM rfl rfl rfl rfl hB hI hi hq hfound hnext
    have hM' := hM
    unfold mF at hM'
    refine r_aload_n (pc := 38) dX9_talks_38 rfl <| r_getf (pc := 39) dX9_talks_39 fA_X9_164 hM' rfl <| r_aload_n (pc := 42) dX9_talks_42 rfl <| r_getf (pc := 43) dX9_talks_43 fA_X9_136 hM' rfl <| r_icmp_ge (pc := 46) 181 dX9_talks_46 (by decide) (by omega) (by omega) (fun hc_46 => ?_) (fun hc_46 => ?_)
    · skip
      exact hnext h 1 l5 l6 (e 14) (fun j hj => by simp [scanI] at hj) hM' Fr.rf
    · skip
      exfalso; omega
  | succ q ih =>
    rintro i h e l5 l6 hM rfl rfl rfl rfl hB hI hi hq hfound hnext
    have hM' := hM
    unfold mF at hM'
    refine r_aload_n (pc := 38) dX9_talks_38 rfl <| r_getf (pc := 39) dX9_talks_39 fA_X9_164 hM' rfl <| r_aload_n (pc := 42) dX9_talks_42 rfl <| r_getf (pc := 43) dX9_talks_43 fA_X9_136 hM' rfl <| r_icmp_ge (pc := 46) 181 dX9_talks_46 (by decide) (by omega) (by omega) (fun hc_46 => ?_) (fun hc_46 => ?_)
    · skip
      exact hnext h 1 l5 l6 (e 14) (fun j hj => by simp [scanI, show ¬ e 14 < e 11 by omega] at hj) hM' Fr.rf
    · skip
      refine r_iload (pc := 49) dX9_talks_49 rfl <| r_if_eq (pc := 51) 181 dX9_talks_51 (by decide) (by decide) (fun q => absurd q (by decide)) (fun _ => ?_)
      have hij := hit (e 14) (by omega)
      refine r_aload_n (pc := 54) dX9_talks_54 rfl <| r_getf (pc := 55) dX9_talks_55 fA_X9_23 hM' rfl <| r_iconst (pc := 58) dX9_talks_58 <| r_aload_n (pc := 59) dX9_talks_59 rfl <| r_getf (pc := 60) dX9_talks_60 fA_X9_164 hM' rfl <| r_imul (pc := 63) dX9_talks_63 <| r_iald (pc := 64) dX9_talks_64 hI (by omega) (by decide) <| r_aload_n (pc := 65) dX9_talks_65 rfl <| r_getf (pc := 66) dX9_talks_66 fA_X9_161 hM' rfl <| r_icmp_gt (pc := 69) 90 dX9_talks_69 (by decide) (by omega) (by omega) (fun hc_69 => ?_) (fun hc_69 => ?_)
      · skip
        refine r_iconst (pc := 90) dX9_talks_90 <| r_istore_5 (pc := 91) dX9_talks_91 rfl <| r_iload (pc := 93) dX9_talks_93 rfl <| r_if_eq (pc := 95) 137 dX9_talks_95 (by decide) (by decide) (fun _ => ?_) (fun q => absurd q (by decide))
        refine r_iconst (pc := 137) dX9_talks_137 <| r_istore_6 (pc := 138) dX9_talks_138 rfl <| r_iload (pc := 140) dX9_talks_140 rfl <| r_iconst (pc := 142) dX9_talks_142 <| r_icmp_eq (pc := 143) 168 dX9_talks_143 (by decide) (by decide) (by decide) (fun _ => ?_) (fun q => absurd q (by decide))
        refine r_aload_n (pc := 168) dX9_talks_168 rfl <| r_dup (pc := 169) dX9_talks_169 rfl <| r_getf (pc := 170) dX9_talks_170 fA_X9_164 hM' rfl <| r_iconst (pc := 173) dX9_talks_173 <| r_iadd (pc := 174) dX9_talks_174 <| r_putf (pc := 175) dX9_talks_175 fP_X9_164 rfl rfl hM' rfl (fun h_175 hM' hF_175 => ?_)
        simp only [List.set_cons_zero, List.set_cons_succ] at hM'
        replace hB := hF_175.keep hB (by omega)
        replace hI := hF_175.keep hI (by omega)
        refine r_goto (pc := 178) 38 dX9_talks_178 (by decide) <| ?_
        have hf : itemF (nameV (Ab bk) (Ob bk) (Lb bk)) it (e 12) (e 13) x (a + b - x) (e 14) = -1 := by unfold itemF; split <;> omega
        rw [scanI_skip (by omega) hf] at hfound hnext
        exact ih (e 14 + 1) _ (nu e 14 (e 14 + 1)) _ _ hM' rfl rfl rfl rfl hB hI (by omega) (by omega) (fun j h' hj ha h1 h2 => hfound j h' hj ha h1 (fun p hp => (h2 p hp).trans (hF_175 p hp))) (fun h' l4 l5 l6 v hj h1 h2 => hnext h' l4 l5 l6 v hj h1 (fun p hp => (h2 p hp).trans (hF_175 p hp)))
      · skip
        refine r_aload_n (pc := 72) dX9_talks_72 rfl <| r_getf (pc := 73) dX9_talks_73 fA_X9_139 hM' rfl <| r_aload_n (pc := 76) dX9_talks_76 rfl <| r_getf (pc := 77) dX9_talks_77 fA_X9_164 hM' rfl <| r_ishr (pc := 80) (e 12 / (2 ^ (e 14).toNat : Nat)) dX9_talks_80 (i_shr (by omega) (by omega)) <| r_iconst (pc := 81) dX9_talks_81 <| r_iand (pc := 82) (bitI (e 12) (e 14)) dX9_talks_82 (i_bit (by omega)) <| r_if_ne (pc := 83) 90 dX9_talks_83 (by decide) (by have := bitI_01 (e 12) (e 14); omega) (fun hc_83 => ?_) (fun hc_83 => ?_)
        · skip
          refine r_iconst (pc := 90) dX9_talks_90 <| r_istore_5 (pc := 91) dX9_talks_91 rfl <| r_iload (pc := 93) dX9_talks_93 rfl <| r_if_eq (pc := 95) 137 dX9_talks_95 (by decide) (by decide) (fun _ => ?_) (fun q => absurd q (by decide))
          refine r_iconst (pc := 137) dX9_talks_137 <| r_istore_6 (pc := 138) dX9_talks_138 rfl <| r_iload (pc := 140) dX9_talks_140 rfl <| r_iconst (pc := 142) dX9_talks_142 <| r_icmp_eq (pc := 143) 168 dX9_talks_143 (by decide) (by decide) (by decide) (fun _ => ?_) (fun q => absurd q (by decide))
          refine r_aload_n (pc := 168) dX9_talks_168 rfl <| r_dup (pc := 169) dX9_talks_169 rfl <| r_getf (pc := 170) dX9_talks_170 fA_X9_164 hM' rfl <| r_iconst (pc := 173) dX9_talks_173 <| r_iadd (pc := 174) dX9_talks_174 <| r_putf (pc := 175) dX9_talks_175 fP_X9_164 rfl rfl hM' rfl (fun h_175 hM' hF_175 => ?_)
          simp only [List.set_cons_zero, List.set_cons_succ] at hM'
          replace hB := hF_175.keep hB (by omega)
          replace hI := hF_175.keep hI (by omega)
          refine r_goto (pc := 178) 38 dX9_talks_178 (by decide) <| ?_
          have hf : itemF (nameV (Ab bk) (Ob bk) (Lb bk)) it (e 12) (e 13) x (a + b - x) (e 14) = -1 := by unfold itemF; split <;> omega
          rw [scanI_skip (by omega) hf] at hfound hnext
          exact ih (e 14 + 1) _ (nu e 14 (e 14 + 1)) _ _ hM' rfl rfl rfl rfl hB hI (by omega) (by omega) (fun j h' hj ha h1 h2 => hfound j h' hj ha h1 (fun p hp => (h2 p hp).trans (hF_175 p hp))) (fun h' l4 l5 l6 v hj h1 h2 => hnext h' l4 l5 l6 v hj h1 (fun p hp => (h2 p hp).trans (hF_175 p hp)))
        · skip
          refine r_iconst (pc := 86) dX9_talks_86 <| r_goto (pc := 87) 91 dX9_talks_87 (by decide) <| r_istore_5 (pc := 91) dX9_talks_91 rfl <| r_iload (pc := 93) dX9_talks_93 rfl <| r_if_eq (pc := 95) 137 dX9_talks_95 (by decide) (by decide) (fun q => absurd q (by decide)) (fun _ => ?_)
          refine r_aload_n (pc := 98) dX9_talks_98 rfl <| r_aload_n (pc := 99) dX9_talks_99 rfl <| r_getf (pc := 100) dX9_talks_100 fA_X9_23 hM' rfl <| r_iconst (pc := 103) dX9_talks_103 <| r_aload_n (pc := 104) dX9_talks_104 rfl <| r_getf (pc := 105) dX9_talks_105 fA_X9_164 hM' rfl <| r_imul (pc := 108) dX9_talks_108 <| r_iconst (pc := 109) dX9_talks_109 <| r_iadd (pc := 110) dX9_talks_110 <| r_iald (pc := 111) dX9_talks_111 hI (by omega) (by decide) <| r_aload_n (pc := 112) dX9_talks_112 rfl <| r_getf (pc := 113) dX9_talks_113 fA_X9_23 hM' rfl <| r_iconst (pc := 116) dX9_talks_116 <| r_aload_n (pc := 117) dX9_talks_117 rfl <| r_getf (pc := 118) dX9_talks_118 fA_X9_164 hM' rfl <| r_imul (pc := 121) dX9_talks_121 <| r_iconst (pc := 122) dX9_talks_122 <| r_iadd (pc := 123) dX9_talks_123 <| r_iald (pc := 124) dX9_talks_124 hI (by omega) (by decide) <| r_iload_n (pc := 125) dX9_talks_125 rfl <| r_iload_n (pc := 126) dX9_talks_126 rfl <| r_iload_n (pc := 127) dX9_talks_127 rfl <| r_iadd (pc := 128) dX9_talks_128 <| r_iload_n (pc := 129) dX9_talks_129 rfl <| r_isub (pc := 130) dX9_talks_130 <| cVi [_, _, _, _] (pc := 131) dX9_talks_131 k_X9_167 ⟨⟨Nat.le_of_ble_eq_true rfl, Nat.le_of_ble_eq_true rfl⟩, ⟨Nat.le_of_ble_eq_true rfl, Nat.le_of_ble_eq_true rfl⟩, Nat.le_of_ble_eq_true rfl⟩ ⟨rfl, rfl⟩ hM' ?_
          refine sp_names hM hB hb (by omega) (by omega) hx hz ?_
          refine ⟨_, rfl, ?_⟩
          have nb := @nameV_in (Ab bk) (Ob bk) (Lb bk) (it (4 * e 14 + 2)) (it (4 * e 14 + 3)) x (a + b - x) (hb _) hx hz
          refine r_goto (pc := 134) 138 dX9_talks_134 (by decide) <| r_istore_6 (pc := 138) dX9_talks_138 rfl <| r_iload (pc := 140) dX9_talks_140 rfl <| r_iconst (pc := 142) dX9_talks_142 <| r_icmp_eq (pc := 143) 168 dX9_talks_143 (by decide) (by omega) (by omega) (fun hc_143 => ?_) (fun hc_143 => ?_)
          · skip
            refine r_aload_n (pc := 168) dX9_talks_168 rfl <| r_dup (pc := 169) dX9_talks_169 rfl <| r_getf (pc := 170) dX9_talks_170 fA_X9_164 hM' rfl <| r_iconst (pc := 173) dX9_talks_173 <| r_iadd (pc := 174) dX9_talks_174 <| r_putf (pc := 175) dX9_talks_175 fP_X9_164 rfl rfl hM' rfl (fun h_175 hM' hF_175 => ?_)
            simp only [List.set_cons_zero, List.set_cons_succ] at hM'
            replace hB := hF_175.keep hB (by omega)
            replace hI := hF_175.keep hI (by omega)
            refine r_goto (pc := 178) 38 dX9_talks_178 (by decide) <| ?_
            have hf : itemF (nameV (Ab bk) (Ob bk) (Lb bk)) it (e 12) (e 13) x (a + b - x) (e 14) = -1 := by unfold itemF; split <;> omega
            rw [scanI_skip (by omega) hf] at hfound hnext
            exact ih (e 14 + 1) _ (nu e 14 (e 14 + 1)) _ _ hM' rfl rfl rfl rfl hB hI (by omega) (by omega) (fun j h' hj ha h1 h2 => hfound j h' hj ha h1 (fun p hp => (h2 p hp).trans (hF_175 p hp))) (fun h' l4 l5 l6 v hj h1 h2 => hnext h' l4 l5 l6 v hj h1 (fun p hp => (h2 p hp).trans (hF_175 p hp)))
          · skip
            refine r_iconst (pc := 146) dX9_talks_146 <| r_istore_4 (pc := 147) dX9_talks_147 rfl <| r_aload_n (pc := 149) dX9_talks_149 rfl <| r_getf (pc := 150) dX9_talks_150 fA_X9_23 hM' rfl <| r_iconst (pc := 153) dX9_talks_153 <| r_aload_n (pc := 154) dX9_talks_154 rfl <| r_getf (pc := 155) dX9_talks_155 fA_X9_164 hM' rfl <| r_imul (pc := 158) dX9_talks_158 <| r_iconst (pc := 159) dX9_talks_159 <| r_iadd (pc := 160) dX9_talks_160 <| r_iald (pc := 161) dX9_talks_161 hI (by omega) (by decide) <| r_if_ne (pc := 162) 168 dX9_talks_162 (by decide) (by omega) (fun hc_162 => ?_) (fun hc_162 => ?_)
            · skip
              have hf : itemF (nameV (Ab bk) (Ob bk) (Lb bk)) it (e 12) (e 13) x (a + b - x) (e 14) ≠ -1 := by unfold itemF; split <;> omega
              have hs : scanI (e 11) (itemF (nameV (Ab bk) (Ob bk) (Lb bk)) it (e 12) (e 13) x (a + b - x)) (q + 1) (e 14) = some (e 14) := scanI_hit (by omega) hf
              refine lp_toff (k := 0) (i := 0) (n5 := 0) hM (by omega) (by omega) (fun h' v h1 h2 => hnext h' 0 _ _ v (fun j hj => ?_) h1 h2)
              rw [hs] at hj; cases hj; exact hc_162
            · skip
              refine r_iload (pc := 165) dX9_talks_165 rfl <| r_iret (pc := 167) dX9_talks_167 rfl ⟨Nat.le_of_ble_eq_true rfl, Nat.le_of_ble_eq_true rfl⟩ <| ?_
              have hf : itemF (nameV (Ab bk) (Ob bk) (Lb bk)) it (e 12) (e 13) x (a + b - x) (e 14) = nameV (Ab bk) (Ob bk) (Lb bk) (it (4 * e 14 + 2)) (it (4 * e 14 + 3)) x (a + b - x) := by unfold itemF; rw [if_pos (by omega)]
              refine qI hf.symm (hfound (e 14) _ ?_ hc_162 hM' Fr.rf)
              exact scanI_hit (by omega) (by rw [hf]; exact hc_143)
end MT

