/-! ===== the model: digest ===== -/
def lpI {α : Type} (f : Int → α → α) : Nat → Int → α → α
  | 0, _, x => x
  | q + 1, i, x => lpI f q (i + 1) (f i x)
def mixS (g : Int → Int) : Int → Int → Int := fun i x => 31 * x + g i
def dgB (bk : Int → Int) (a : Int) : Int → Int → Int := fun b x => if a < b then 31 * (31 * x + bk (36 + 8 * a + b)) + bk (100 + 8 * a + b) else 31 * x + bk (36 + 8 * a + b)
def dgR (bk : Int → Int) : Int → Int → Int := fun a x => lpI (dgB bk a) 8 0 x
def dgL (bk : Int → Int) : Int → Int → Int := fun a x => lpI (mixS (fun b => bk (180 + 6 * a + b))) (5 - a).toNat (a + 1) x
def dgM (bk : Int → Int) (off m x : Int) : Int := lpI (mixS (fun i => bk (off + i))) m.toNat 0 x
def fDig (s : SS) : Int := 31 * (31 * dgM s.bk 216 (3 * s.bk 3) (lpI (dgL s.bk) 6 0 (dgM s.bk 172 6 (dgM s.bk 164 (s.bk 2) (dgM s.bk 264 (s.bk 1) (lpI (dgR s.bk) 8 0 (dgM s.bk 4 (4 * s.bk 0) (dgM s.bk 0 4 647))))))) + s.up) + s.dn
section MD
variable {G : GT} {n : Nat} {h : Hp} {Q : PT} {s : SS}
theorem qJ {a b : Int} (e : a = b) (hQ : Q (some (vJ b)) n h) : Q (some (vJ a)) n h := e ▸ hQ
theorem lp_mixed {e : Nat → Int} {bk : Int → Int} {x0 off m : Int} (g45 : h 45 = some (aO 9 (mF e))) (g46 : h 46 = some (aA 480 bk)) (hb : Bd bk (-1) 255) (ho : 0 ≤ off ∧ off ≤ 480) (hm : 0 ≤ m ∧ off + m ≤ 480) : ∀ (q : Nat) (k x : Int), 0 ≤ k → k + q = m → Q (some (vJ (lpI (mixS (fun i => bk (off + i))) q k x))) n h → At G mX9_mixed 6 [vR 45, vJ x0, vU, vI off, vI m, vJ x, vU, vI k] [] (0, 0, n) h Q := by
  unfold mF at g45
  intro q
  induction q with
  | zero =>
    intro k x hk hq hQ
    refine r_iload (pc := 6) dX9_mixed_6 rfl <| r_iload (pc := 8) dX9_mixed_8 rfl <| r_icmp_ge (pc := 10) 38 dX9_mixed_10 (by decide) (by omega) (by omega) (fun hc_10 => ?_) (fun hc_10 => ?_)
    · skip
      refine r_lload (pc := 38) dX9_mixed_38 rfl <| r_lret (pc := 40) dX9_mixed_40 rfl ⟨Nat.le_of_ble_eq_true rfl, Nat.le_of_ble_eq_true rfl⟩ <| ?_
      exact hQ
    · skip
      exfalso; omega
  | succ q ih =>
    intro k x hk hq hQ
    have b1 := hb (off + k)
    refine r_iload (pc := 6) dX9_mixed_6 rfl <| r_iload (pc := 8) dX9_mixed_8 rfl <| r_icmp_ge (pc := 10) 38 dX9_mixed_10 (by decide) (by omega) (by omega) (fun hc_10 => ?_) (fun hc_10 => ?_)
    · skip
      exfalso; omega
    · skip
      refine r_ldc2 (pc := 13) dX9_mixed_13 cT_X9_227 <| r_lload (pc := 16) dX9_mixed_16 rfl <| r_lmul (pc := 18) dX9_mixed_18 <| r_aload_n (pc := 19) dX9_mixed_19 rfl <| r_getf (pc := 20) dX9_mixed_20 fA_X9_7 g45 rfl <| r_iload_n (pc := 23) dX9_mixed_23 rfl <| r_iload (pc := 24) dX9_mixed_24 rfl <| r_iadd (pc := 26) dX9_mixed_26 <| r_iald (pc := 27) dX9_mixed_27 g46 (by omega) (by decide) <| r_i2l (pc := 28) dX9_mixed_28 (by omega) <| r_ladd (pc := 29) dX9_mixed_29 <| r_lstore_5 (pc := 30) dX9_mixed_30 rfl <| r_iinc_7 (pc := 32) dX9_mixed_32 rfl rfl <| r_goto (pc := 35) 6 dX9_mixed_35 (by decide) <| ?_
      exact ih (k + 1) _ (by omega) (by omega) hQ
theorem sp_mixed {e : Nat → Int} {bk : Int → Int} {x off m : Int} (g45 : h 45 = some (aO 9 (mF e))) (g46 : h 46 = some (aA 480 bk)) (hb : Bd bk (-1) 255) (ho : 0 ≤ off ∧ off ≤ 480) (hm : 0 ≤ m ∧ off + m ≤ 480) (hQ : Q (some (vJ (dgM bk off m x))) n h) : Cl G mX9_mixed [vR 45, vJ x, vI off, vI m] n h Q := by
  refine cl_of (by decide) (Nat.le_of_ble_eq_true rfl) rfl ?_
  refine r_lload_n (pc := 0) dX9_mixed_0 rfl <| r_lstore_5 (pc := 1) dX9_mixed_1 rfl <| r_iconst (pc := 3) dX9_mixed_3 <| r_istore_7 (pc := 4) dX9_mixed_4 rfl <| ?_
  exact lp_mixed g45 g46 hb ho hm m.toNat 0 _ (by omega) (by omega) hQ
theorem lp_dgB {e : Nat → Int} {bk : Int → Int} {a : Int} (g45 : h 45 = some (aO 9 (mF e))) (g46 : h 46 = some (aA 480 bk)) (hb : Bd bk (-1) 255) (ha : 0 ≤ a ∧ a < 8) : ∀ (q : Nat) (k x : Int), 0 ≤ k → k + q = 8 → (∀ k', At G mX9_digest 105 [vR 45, vJ (lpI (dgB bk a) q k x), vU, vI a, vI k'] [] (0, 0, n) h Q) → At G mX9_digest 36 [vR 45, vJ x, vU, vI a, vI k] [] (0, 0, n) h Q := by
  unfold mF at g45
  intro q
  induction q with
  | zero =>
    intro k x hk hq hQ
    refine r_iload (pc := 36) dX9_digest_36 rfl <| r_bipush (pc := 38) dX9_digest_38 (by decide) <| r_icmp_ge (pc := 40) 105 dX9_digest_40 (by decide) (by omega) (by omega) (fun hc_40 => ?_) (fun hc_40 => ?_)
    · skip
      exact hQ _
    · skip
      exfalso; omega
  | succ q ih =>
    intro k x hk hq hQ
    have b1 := hb (36 + 8 * a + k)
    have b2 := hb (100 + 8 * a + k)
    refine r_iload (pc := 36) dX9_digest_36 rfl <| r_bipush (pc := 38) dX9_digest_38 (by decide) <| r_icmp_ge (pc := 40) 105 dX9_digest_40 (by decide) (by omega) (by omega) (fun hc_40 => ?_) (fun hc_40 => ?_)
    · skip
      exfalso; omega
    · skip
      refine r_ldc2 (pc := 43) dX9_digest_43 cT_X9_227 <| r_lload_n (pc := 46) dX9_digest_46 rfl <| r_lmul (pc := 47) dX9_digest_47 <| r_aload_n (pc := 48) dX9_digest_48 rfl <| r_getf (pc := 49) dX9_digest_49 fA_X9_7 g45 rfl <| r_bipush (pc := 52) dX9_digest_52 (by decide) <| r_bipush (pc := 54) dX9_digest_54 (by decide) <| r_iload_n (pc := 56) dX9_digest_56 rfl <| r_imul (pc := 57) dX9_digest_57 <| r_iadd (pc := 58) dX9_digest_58 <| r_iload (pc := 59) dX9_digest_59 rfl <| r_iadd (pc := 61) dX9_digest_61 <| r_iald (pc := 62) dX9_digest_62 g46 (by omega) (by decide) <| r_i2l (pc := 63) dX9_digest_63 (by omega) <| r_ladd (pc := 64) dX9_digest_64 <| r_lstoren_1 (pc := 65) dX9_digest_65 rfl <| r_iload_n (pc := 66) dX9_digest_66 rfl <| r_iload (pc := 67) dX9_digest_67 rfl <| r_icmp_ge (pc := 69) 97 dX9_digest_69 (by decide) (by omega) (by omega) (fun hc_69 => ?_) (fun hc_69 => ?_)
      · skip
        refine r_lload_n (pc := 97) dX9_digest_97 rfl <| r_lstoren_1 (pc := 98) dX9_digest_98 rfl <| r_iinc_4 (pc := 99) dX9_digest_99 rfl rfl <| r_goto (pc := 102) 36 dX9_digest_102 (by decide) <| ?_
        refine ih (k + 1) _ (by omega) (by omega) (fun k' => ?_)
        have hs := hQ k'
        rw [lpI] at hs
        first
          | (rw [show dgB bk a k x = 31 * (31 * x + bk (36 + 8 * a + k)) + bk (100 + 8 * a + k) from if_pos (by omega)] at hs; exact hs)
          | (rw [show dgB bk a k x = 31 * x + bk (36 + 8 * a + k) from if_neg (by omega)] at hs; exact hs)
      · skip
        refine r_ldc2 (pc := 72) dX9_digest_72 cT_X9_227 <| r_lload_n (pc := 75) dX9_digest_75 rfl <| r_lmul (pc := 76) dX9_digest_76 <| r_aload_n (pc := 77) dX9_digest_77 rfl <| r_getf (pc := 78) dX9_digest_78 fA_X9_7 g45 rfl <| r_bipush (pc := 81) dX9_digest_81 (by decide) <| r_bipush (pc := 83) dX9_digest_83 (by decide) <| r_iload_n (pc := 85) dX9_digest_85 rfl <| r_imul (pc := 86) dX9_digest_86 <| r_iadd (pc := 87) dX9_digest_87 <| r_iload (pc := 88) dX9_digest_88 rfl <| r_iadd (pc := 90) dX9_digest_90 <| r_iald (pc := 91) dX9_digest_91 g46 (by omega) (by decide) <| r_i2l (pc := 92) dX9_digest_92 (by omega) <| r_ladd (pc := 93) dX9_digest_93 <| r_goto (pc := 94) 98 dX9_digest_94 (by decide) <| r_lstoren_1 (pc := 98) dX9_digest_98 rfl <| r_iinc_4 (pc := 99) dX9_digest_99 rfl rfl <| r_goto (pc := 102) 36 dX9_digest_102 (by decide) <| ?_
        refine ih (k + 1) _ (by omega) (by omega) (fun k' => ?_)
        have hs := hQ k'
        rw [lpI] at hs
        first
          | (rw [show dgB bk a k x = 31 * (31 * x + bk (36 + 8 * a + k)) + bk (100 + 8 * a + k) from if_pos (by omega)] at hs; exact hs)
          | (rw [show dgB bk a k x = 31 * x + bk (36 + 8 * a + k) from if_neg (by omega)] at hs; exact hs)
theorem lp_dgR {e : Nat → Int} {bk : Int → Int} {l4 : AV} (g45 : h 45 = some (aO 9 (mF e))) (g46 : h 46 = some (aA 480 bk)) (hb : Bd bk (-1) 255) : ∀ (q : Nat) (k x : Int) (l4 : AV), 0 ≤ k → k + q = 8 → (∀ k' l4, At G mX9_digest 111 [vR 45, vJ (lpI (dgR bk) q k x), vU, vI k', l4] [] (0, 0, n) h Q) → At G mX9_digest 27 [vR 45, vJ x, vU, vI k, l4] [] (0, 0, n) h Q := by
  intro q
  induction q with
  | zero =>
    intro k x l4 hk hq hQ
    refine r_iload_n (pc := 27) dX9_digest_27 rfl <| r_bipush (pc := 28) dX9_digest_28 (by decide) <| r_icmp_ge (pc := 30) 111 dX9_digest_30 (by decide) (by omega) (by omega) (fun hc_30 => ?_) (fun hc_30 => ?_)
    · skip
      exact hQ _ _
    · skip
      exfalso; omega
  | succ q ih =>
    intro k x l4 hk hq hQ
    refine r_iload_n (pc := 27) dX9_digest_27 rfl <| r_bipush (pc := 28) dX9_digest_28 (by decide) <| r_icmp_ge (pc := 30) 111 dX9_digest_30 (by decide) (by omega) (by omega) (fun hc_30 => ?_) (fun hc_30 => ?_)
    · skip
      exfalso; omega
    · skip
      refine r_iconst (pc := 33) dX9_digest_33 <| r_istore_4 (pc := 34) dX9_digest_34 rfl <| ?_
      refine lp_dgB g45 g46 hb (by omega) 8 0 _ (by omega) (by omega) (fun k' => ?_)
      refine r_iinc_3 (pc := 105) dX9_digest_105 rfl rfl <| r_goto (pc := 108) 27 dX9_digest_108 (by decide) <| ?_
      exact ih (k + 1) _ _ (by omega) (by omega) hQ
theorem lp_dgl {e : Nat → Int} {bk : Int → Int} {a : Int} (g45 : h 45 = some (aO 9 (mF e))) (g46 : h 46 = some (aA 480 bk)) (hb : Bd bk (-1) 255) (ha : 0 ≤ a ∧ a < 6) : ∀ (q : Nat) (k x : Int), 0 ≤ k → k + q = 6 → (∀ k', At G mX9_digest 200 [vR 45, vJ (lpI (mixS (fun b => bk (180 + 6 * a + b))) q k x), vU, vI a, vI k'] [] (0, 0, n) h Q) → At G mX9_digest 163 [vR 45, vJ x, vU, vI a, vI k] [] (0, 0, n) h Q := by
  unfold mF at g45
  intro q
  induction q with
  | zero =>
    intro k x hk hq hQ
    refine r_iload (pc := 163) dX9_digest_163 rfl <| r_bipush (pc := 165) dX9_digest_165 (by decide) <| r_icmp_ge (pc := 167) 200 dX9_digest_167 (by decide) (by omega) (by omega) (fun hc_167 => ?_) (fun hc_167 => ?_)
    · skip
      exact hQ _
    · skip
      exfalso; omega
  | succ q ih =>
    intro k x hk hq hQ
    have b1 := hb (180 + 6 * a + k)
    refine r_iload (pc := 163) dX9_digest_163 rfl <| r_bipush (pc := 165) dX9_digest_165 (by decide) <| r_icmp_ge (pc := 167) 200 dX9_digest_167 (by decide) (by omega) (by omega) (fun hc_167 => ?_) (fun hc_167 => ?_)
    · skip
      exfalso; omega
    · skip
      refine r_ldc2 (pc := 170) dX9_digest_170 cT_X9_227 <| r_lload_n (pc := 173) dX9_digest_173 rfl <| r_lmul (pc := 174) dX9_digest_174 <| r_aload_n (pc := 175) dX9_digest_175 rfl <| r_getf (pc := 176) dX9_digest_176 fA_X9_7 g45 rfl <| r_sipush (pc := 179) dX9_digest_179 (by decide) <| r_bipush (pc := 182) dX9_digest_182 (by decide) <| r_iload_n (pc := 184) dX9_digest_184 rfl <| r_imul (pc := 185) dX9_digest_185 <| r_iadd (pc := 186) dX9_digest_186 <| r_iload (pc := 187) dX9_digest_187 rfl <| r_iadd (pc := 189) dX9_digest_189 <| r_iald (pc := 190) dX9_digest_190 g46 (by omega) (by decide) <| r_i2l (pc := 191) dX9_digest_191 (by omega) <| r_ladd (pc := 192) dX9_digest_192 <| r_lstoren_1 (pc := 193) dX9_digest_193 rfl <| r_iinc_4 (pc := 194) dX9_digest_194 rfl rfl <| r_goto (pc := 197) 163 dX9_digest_197 (by decide) <| ?_
      exact ih (k + 1) _ (by omega) (by omega) hQ
theorem lp_dgL {e : Nat → Int} {bk : Int → Int} {l4 : AV} (g45 : h 45 = some (aO 9 (mF e))) (g46 : h 46 = some (aA 480 bk)) (hb : Bd bk (-1) 255) : ∀ (q : Nat) (k x : Int) (l4 : AV), 0 ≤ k → k + q = 6 → (∀ k' l4, At G mX9_digest 206 [vR 45, vJ (lpI (dgL bk) q k x), vU, vI k', l4] [] (0, 0, n) h Q) → At G mX9_digest 152 [vR 45, vJ x, vU, vI k, l4] [] (0, 0, n) h Q := by
  intro q
  induction q with
  | zero =>
    intro k x l4 hk hq hQ
    refine r_iload_n (pc := 152) dX9_digest_152 rfl <| r_bipush (pc := 153) dX9_digest_153 (by decide) <| r_icmp_ge (pc := 155) 206 dX9_digest_155 (by decide) (by omega) (by omega) (fun hc_155 => ?_) (fun hc_155 => ?_)
    · skip
      exact hQ _ _
    · skip
      exfalso; omega
  | succ q ih =>
    intro k x l4 hk hq hQ
    refine r_iload_n (pc := 152) dX9_digest_152 rfl <| r_bipush (pc := 153) dX9_digest_153 (by decide) <| r_icmp_ge (pc := 155) 206 dX9_digest_155 (by decide) (by omega) (by omega) (fun hc_155 => ?_) (fun hc_155 => ?_)
    · skip
      exfalso; omega
    · skip
      refine r_iload_n (pc := 158) dX9_digest_158 rfl <| r_iconst (pc := 159) dX9_digest_159 <| r_iadd (pc := 160) dX9_digest_160 <| r_istore_4 (pc := 161) dX9_digest_161 rfl <| ?_
      refine lp_dgl g45 g46 hb (by omega) (5 - k).toNat (k + 1) _ (by omega) (by omega) (fun k' => ?_)
      refine r_iinc_3 (pc := 200) dX9_digest_200 rfl rfl <| r_goto (pc := 203) 152 dX9_digest_203 (by decide) <| ?_
      exact ih (k + 1) _ _ (by omega) (by omega) hQ
theorem ms_digest (hM : isM h s) (hI : Inv s.bk) (hu : inI s.up) (hd : inI s.dn) (hQ : Q (some (vJ (fDig s))) n h) : Cl G mX9_digest [vR 45] n h Q := by
  obtain ⟨e, it, g45, ge, g9, g46, -⟩ := id hM.raw
  have hM' := g45
  unfold mF at hM'
  have i0 := hI.1.1
  have i1 := hI.1.2.1
  have i2 := hI.1.2.2.1
  have i3 := hI.1.2.2.2
  have hb := hI.2.1
  unfold fDig at hQ
  refine cl_of (by decide) (Nat.le_of_ble_eq_true rfl) rfl ?_
  refine r_aload_n (pc := 0) dX9_digest_0 rfl <| r_ldc2 (pc := 1) dX9_digest_1 cT_X9_229 <| r_iconst (pc := 4) dX9_digest_4 <| r_iconst (pc := 5) dX9_digest_5 <| cVi [_, _, _] (pc := 6) dX9_digest_6 k_X9_231 ⟨⟨Nat.le_of_ble_eq_true rfl, Nat.le_of_ble_eq_true rfl⟩, ⟨Nat.le_of_ble_eq_true rfl, Nat.le_of_ble_eq_true rfl⟩, Nat.le_of_ble_eq_true rfl⟩ ⟨rfl, rfl⟩ hM' ?_
  refine sp_mixed g45 g46 hb (by omega) (by omega) ?_
  refine ⟨_, rfl, ?_⟩
  refine r_lstoren_1 (pc := 9) dX9_digest_9 rfl <| r_aload_n (pc := 10) dX9_digest_10 rfl <| r_lload_n (pc := 11) dX9_digest_11 rfl <| r_iconst (pc := 12) dX9_digest_12 <| r_iconst (pc := 13) dX9_digest_13 <| r_aload_n (pc := 14) dX9_digest_14 rfl <| r_getf (pc := 15) dX9_digest_15 fA_X9_7 hM' rfl <| r_iconst (pc := 18) dX9_digest_18 <| r_iald (pc := 19) dX9_digest_19 g46 (by omega) (by decide) <| r_imul (pc := 20) dX9_digest_20 <| cVi [_, _, _] (pc := 21) dX9_digest_21 k_X9_231 ⟨⟨Nat.le_of_ble_eq_true rfl, Nat.le_of_ble_eq_true rfl⟩, ⟨Nat.le_of_ble_eq_true rfl, Nat.le_of_ble_eq_true rfl⟩, Nat.le_of_ble_eq_true rfl⟩ ⟨rfl, rfl⟩ hM' ?_
  refine sp_mixed g45 g46 hb (by omega) (by omega) ?_
  refine ⟨_, rfl, ?_⟩
  refine r_lstoren_1 (pc := 24) dX9_digest_24 rfl <| r_iconst (pc := 25) dX9_digest_25 <| r_istoren_3 (pc := 26) dX9_digest_26 rfl <| ?_
  refine lp_dgR (l4 := vU) g45 g46 hb 8 0 _ _ (by omega) (by omega) (fun k' l4 => ?_)
  refine r_aload_n (pc := 111) dX9_digest_111 rfl <| r_aload_n (pc := 112) dX9_digest_112 rfl <| r_lload_n (pc := 113) dX9_digest_113 rfl <| r_sipush (pc := 114) dX9_digest_114 (by decide) <| r_aload_n (pc := 117) dX9_digest_117 rfl <| r_getf (pc := 118) dX9_digest_118 fA_X9_7 hM' rfl <| r_iconst (pc := 121) dX9_digest_121 <| r_iald (pc := 122) dX9_digest_122 g46 (by omega) (by decide) <| cVi [_, _, _] (pc := 123) dX9_digest_123 k_X9_231 ⟨⟨Nat.le_of_ble_eq_true rfl, Nat.le_of_ble_eq_true rfl⟩, ⟨Nat.le_of_ble_eq_true rfl, Nat.le_of_ble_eq_true rfl⟩, Nat.le_of_ble_eq_true rfl⟩ ⟨rfl, rfl⟩ hM' ?_
  refine sp_mixed g45 g46 hb (by omega) (by omega) ?_
  refine ⟨_, rfl, ?_⟩
  refine r_sipush (pc := 126) dX9_digest_126 (by decide) <| r_aload_n (pc := 129) dX9_digest_129 rfl <| r_getf (pc := 130) dX9_digest_130 fA_X9_7 hM' rfl <| r_iconst (pc := 133) dX9_digest_133 <| r_iald (pc := 134) dX9_digest_134 g46 (by omega) (by decide) <| cVi [_, _, _] (pc := 135) dX9_digest_135 k_X9_231 ⟨⟨Nat.le_of_ble_eq_true rfl, Nat.le_of_ble_eq_true rfl⟩, ⟨Nat.le_of_ble_eq_true rfl, Nat.le_of_ble_eq_true rfl⟩, Nat.le_of_ble_eq_true rfl⟩ ⟨rfl, rfl⟩ hM' ?_
  refine sp_mixed g45 g46 hb (by omega) (by omega) ?_
  refine ⟨_, rfl, ?_⟩
  refine r_lstoren_1 (pc := 138) dX9_digest_138 rfl <| r_aload_n (pc := 139) dX9_digest_139 rfl <| r_lload_n (pc := 140) dX9_digest_140 rfl <| r_sipush (pc := 141) dX9_digest_141 (by decide) <| r_bipush (pc := 144) dX9_digest_144 (by decide) <| cVi [_, _, _] (pc := 146) dX9_digest_146 k_X9_231 ⟨⟨Nat.le_of_ble_eq_true rfl, Nat.le_of_ble_eq_true rfl⟩, ⟨Nat.le_of_ble_eq_true rfl, Nat.le_of_ble_eq_true rfl⟩, Nat.le_of_ble_eq_true rfl⟩ ⟨rfl, rfl⟩ hM' ?_
  refine sp_mixed g45 g46 hb (by omega) (by omega) ?_
  refine ⟨_, rfl, ?_⟩
  refine r_lstoren_1 (pc := 149) dX9_digest_149 rfl <| r_iconst (pc := 150) dX9_digest_150 <| r_istoren_3 (pc := 151) dX9_digest_151 rfl <| ?_
  refine lp_dgL (l4 := vU) g45 g46 hb 6 0 _ _ (by omega) (by omega) (fun k' l4 => ?_)
  refine r_aload_n (pc := 206) dX9_digest_206 rfl <| r_lload_n (pc := 207) dX9_digest_207 rfl <| r_sipush (pc := 208) dX9_digest_208 (by decide) <| r_iconst (pc := 211) dX9_digest_211 <| r_aload_n (pc := 212) dX9_digest_212 rfl <| r_getf (pc := 213) dX9_digest_213 fA_X9_7 hM' rfl <| r_iconst (pc := 216) dX9_digest_216 <| r_iald (pc := 217) dX9_digest_217 g46 (by omega) (by decide) <| r_imul (pc := 218) dX9_digest_218 <| cVi [_, _, _] (pc := 219) dX9_digest_219 k_X9_231 ⟨⟨Nat.le_of_ble_eq_true rfl, Nat.le_of_ble_eq_true rfl⟩, ⟨Nat.le_of_ble_eq_true rfl, Nat.le_of_ble_eq_true rfl⟩, Nat.le_of_ble_eq_true rfl⟩ ⟨rfl, rfl⟩ hM' ?_
  refine sp_mixed g45 g46 hb (by omega) (by omega) ?_
  refine ⟨_, rfl, ?_⟩
  refine r_lstoren_1 (pc := 222) dX9_digest_222 rfl <| r_ldc2 (pc := 223) dX9_digest_223 cT_X9_227 <| r_ldc2 (pc := 226) dX9_digest_226 cT_X9_227 <| r_lload_n (pc := 229) dX9_digest_229 rfl <| r_lmul (pc := 230) dX9_digest_230 <| r_aload_n (pc := 231) dX9_digest_231 rfl <| r_getf (pc := 232) dX9_digest_232 fA_X9_217 hM' rfl <| r_i2l (pc := 235) dX9_digest_235 (by omega) <| r_ladd (pc := 236) dX9_digest_236 <| r_lmul (pc := 237) dX9_digest_237 <| r_aload_n (pc := 238) dX9_digest_238 rfl <| r_getf (pc := 239) dX9_digest_239 fA_X9_47 hM' rfl <| r_i2l (pc := 242) dX9_digest_242 (by omega) <| r_ladd (pc := 243) dX9_digest_243 <| r_lret (pc := 244) dX9_digest_244 rfl ⟨Nat.le_of_ble_eq_true rfl, Nat.le_of_ble_eq_true rfl⟩ <| ?_
  rw [← ge.1, ← ge.2] at hQ
  exact hQ
end MD



