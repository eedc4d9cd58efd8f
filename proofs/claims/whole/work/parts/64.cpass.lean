/-! ===== the class: a queue at a door ===== -/
def flt (w : Int) (L : List Int) : List Int := L.filter (fun v => decide (¬ v = w))
theorem flt_y {w c : Int} {L : List Int} (h : c = w) : flt w (c :: L) = flt w L := by unfold flt; rw [List.filter_cons_of_neg (by simp [h])]
theorem flt_n {w c : Int} {L : List Int} (h : ¬ c = w) : flt w (c :: L) = c :: flt w L := by unfold flt; rw [List.filter_cons_of_pos (by simp [h])]
theorem flt_id {w : Int} : ∀ {L : List Int}, (∀ v ∈ L, ¬ v = w) → flt w L = L := by
  intro L h
  unfold flt
  exact List.filter_eq_self.mpr (fun v hv => by simp [h v hv])
theorem qF_flt {bk : Int → Int} {w : Int} : ∀ (q : Nat) (k : Int), (∀ j, k ≤ j → j < k + q → 0 ≤ bk (164 + j)) → flt w (qF bk (-1) q k) = qF bk w q k := by
  intro q
  induction q with
  | zero => intro k _; rfl
  | succ q ih =>
    intro k h
    have h0 := h k (by omega) (by omega)
    have h1 := ih (k + 1) (fun j a b => h j (by omega) (by omega))
    simp only [qF]
    rw [if_neg (by omega)]
    by_cases c : bk (164 + k) = w
    · rw [if_pos c, flt_y c, h1]
    · rw [if_neg c, flt_n c, h1]
theorem qF_ar {bk qu : Int → Int} : ∀ (q : Nat) (k : Int), 0 ≤ k → (∀ j, k ≤ j → j < k + q → 0 ≤ bk (164 + j) ∧ qu j = bk (164 + j)) → arL qu k (qF bk (-1) q k) := by
  intro q
  induction q with
  | zero => intro k _ _ i v hv; cases hv
  | succ q ih =>
    intro k hk h
    have h0 := h k (by omega) (by omega)
    have h1 := ih (k + 1) (by omega) (fun j a b => h j (by omega) (by omega))
    simp only [qF]
    rw [if_neg (by omega)]
    intro i v hv
    cases i with
    | zero =>
      simp at hv
      rw [← hv, ← h0.2]; congr 1; omega
    | succ i =>
      have := h1 i v (by simpa using hv)
      rw [← this]; congr 1; omega
section CPs
variable {G : GT} {n : Nat} {h h' : Hp} {Q : PT} {s : SS}
theorem isC.pcell {c : Nat} {f : Int → Int} (hC : isC h n s) (hc : 32 ≤ c ∧ c ≤ 36) (k : h' c = some (aA (if c ≤ 33 then 64 else 8) f)) (hF : Fr (fun q => q = c) h h') : isC h' n s := by
  obtain ⟨x1, ⟨y0, f1, f2, f3, f4, f5, y1, y2, y3, y4, y5⟩, x3, x4, x5, x6⟩ := isX_iff.mp hC.2.2.2.1
  refine hC.kx (isX_iff.mpr ⟨x1.fr (hF 30 (by omega)), ⟨hF.keep y0 (by omega), ?_⟩, x3.fr (fun q a b => hF q (by omega)), x4.fr (fun q a b => hF q (by omega)), x5.fr (hF 44 (by omega)), x6.fr (fun q a b => hF q (by omega))⟩) (hF.wk (fun q => by omega))
  rcases (show c = 32 ∨ c = 33 ∨ c = 34 ∨ c = 35 ∨ c = 36 by omega) with rfl | rfl | rfl | rfl | rfl
  · exact ⟨f, f2, f3, f4, f5, k, hF.keep y2 (by omega), hF.keep y3 (by omega), hF.keep y4 (by omega), hF.keep y5 (by omega)⟩
  · exact ⟨f1, f, f3, f4, f5, hF.keep y1 (by omega), k, hF.keep y3 (by omega), hF.keep y4 (by omega), hF.keep y5 (by omega)⟩
  · exact ⟨f1, f2, f, f4, f5, hF.keep y1 (by omega), hF.keep y2 (by omega), k, hF.keep y4 (by omega), hF.keep y5 (by omega)⟩
  · exact ⟨f1, f2, f3, f, f5, hF.keep y1 (by omega), hF.keep y2 (by omega), hF.keep y3 (by omega), k, hF.keep y5 (by omega)⟩
  · exact ⟨f1, f2, f3, f4, f, hF.keep y1 (by omega), hF.keep y2 (by omega), hF.keep y3 (by omega), hF.keep y4 (by omega), k⟩
theorem TB_3 {bk : Int → Int} {x y : Int} (hI : Inv bk) (hx : 0 ≤ x ∧ x < 8) (hy : 0 ≤ y ∧ y < 8) (hxy : x ≠ y) : (TB bk x y).1 = -1 ∨ (TB bk x y).1 = x ∨ (TB bk x y).1 = y := TI_in (its := itB bk) hI hx hy hxy
def askP (bk gf rf : Int → Int) (i j : Int) : Prop := ∀ a b, 0 ≤ a → a < bk 2 → 0 ≤ b → b < bk 2 → a ≠ b → (a < i ∨ a = i ∧ b < j) → gf (bk (164 + a) * 8 + bk (164 + b)) = (TB bk (bk (164 + a)) (bk (164 + b))).1 ∧ rf (bk (164 + a) * 8 + bk (164 + b)) = (TB bk (bk (164 + a)) (bk (164 + b))).2.1
theorem lp_askj {i : Int} (hI : Inv s.bk) (hok : okB s.bk) (hi : 0 ≤ i ∧ i < s.bk 2) : ∀ (q : Nat) (j : Int) (h : Hp) (gf rf : Int → Int) (l6 : AV), 0 ≤ j → j + q = s.bk 2 → isC h n s → h 32 = some (aA 64 gf) → h 33 = some (aA 64 rf) → askP s.bk gf rf i j →
    (∀ h' gf' rf' j' l6', isC h' n s → h' 32 = some (aA 64 gf') → h' 33 = some (aA 64 rf') → askP s.bk gf' rf' (i + 1) 0 → Fr (fun q => q = 30 ∨ q = 32 ∨ q = 33) h h' → At G mX3_ask 105 [vR 31, vR 16, vR 1, vR 30, vI i, vI j', l6'] [] (0, 0, n) h' Q) → At G mX3_ask 15 [vR 31, vR 16, vR 1, vR 30, vI i, vI j, l6] [] (0, 0, n) h Q := by
  have i0 := hI.1.1
  have i2 := hI.1.2.2.1
  obtain ⟨q1, q2⟩ := hI.2.2.2.2.2.2.1
  intro q
  induction q with
  | zero =>
    intro j h gf rf l6 hj hq hC g32 g33 hA hQ
    obtain ⟨kd, ag, ld, rk, ow, la, tx, qu, wa, lg, ev, c0, c1, -⟩ := hC.opn
    refine r_iload (pc := 15) dX3_ask_15 rfl <| r_aload_n (pc := 17) dX3_ask_17 rfl <| r_getf (pc := 18) dX3_ask_18 fA_X3_27 c1 rfl <| r_icmp_ge (pc := 21) 105 dX3_ask_21 (by decide) (by omega) (by omega) (fun hc_21 => ?_) (fun hc_21 => ?_)
    · skip
      refine hQ h gf rf j _ hC g32 g33 (fun a b a0 a1 b0 b1 ab hh => ?_) Fr.rf
      exact hA a b a0 a1 b0 b1 ab (by omega)
    · skip
      exfalso; omega
  | succ q ih =>
    intro j h gf rf l6 hj hq hC g32 g33 hA hQ
    obtain ⟨kd, ag, ld, rk, ow, la, tx, qu, wa, lg, ev, c0, c1, c2, c3, c4, c5, c6, c7, c8, c9, c10, c11, c12, c13, c14, ⟨-, -, -, dq, -⟩, -, -, -, rq, -⟩ := hC.opn
    obtain ⟨x1, ⟨c31, -⟩, -⟩ := isX_iff.mp hC.2.2.2.1
    obtain ⟨ga, gb, gc, c30⟩ := x1
    have ei := rq i (by omega) (by omega)
    have ej := rq j (by omega) (by omega)
    have bi := q1 i (by omega) (by omega)
    have bj := q1 j (by omega) (by omega)
    by_cases cij : i = j
    · skip
      refine r_iload (pc := 15) dX3_ask_15 rfl <| r_aload_n (pc := 17) dX3_ask_17 rfl <| r_getf (pc := 18) dX3_ask_18 fA_X3_27 c1 rfl <| r_icmp_ge (pc := 21) 105 dX3_ask_21 (by decide) (by omega) (by omega) (fun hc_21 => ?_) (fun hc_21 => ?_)
      · skip
        exfalso; omega
      · skip
        refine r_iload (pc := 24) dX3_ask_24 rfl <| r_iload (pc := 26) dX3_ask_26 rfl <| r_icmp_eq (pc := 28) 99 dX3_ask_28 (by decide) (by omega) (by omega) (fun hc_28 => ?_) (fun hc_28 => ?_)
        · skip
          refine r_iinc_5 (pc := 99) dX3_ask_99 rfl rfl <| r_goto (pc := 102) 15 dX3_ask_102 (by decide) <| ?_
          exact ih (j + 1) h gf rf _ (by omega) (by omega) hC g32 g33 (fun a b a0 a1 b0 b1 ab hh => hA a b a0 a1 b0 b1 ab (by omega)) hQ
        · skip
          exfalso; omega
    · have hne : s.bk (164 + i) ≠ s.bk (164 + j) := by
        rcases (show i < j ∨ j < i by omega) with c | c
        · exact q2 i j (by omega) c (by omega)
        · exact Ne.symm (q2 j i (by omega) c (by omega))
      refine r_iload (pc := 15) dX3_ask_15 rfl <| r_aload_n (pc := 17) dX3_ask_17 rfl <| r_getf (pc := 18) dX3_ask_18 fA_X3_27 c1 rfl <| r_icmp_ge (pc := 21) 105 dX3_ask_21 (by decide) (by omega) (by omega) (fun hc_21 => ?_) (fun hc_21 => ?_)
      · skip
        exfalso; omega
      · skip
        refine r_iload (pc := 24) dX3_ask_24 rfl <| r_iload (pc := 26) dX3_ask_26 rfl <| r_icmp_eq (pc := 28) 99 dX3_ask_28 (by decide) (by omega) (by omega) (fun hc_28 => ?_) (fun hc_28 => ?_)
        · skip
          exfalso; omega
        · skip
          refine r_aload_n (pc := 31) dX3_ask_31 rfl <| r_getf (pc := 32) dX3_ask_32 fA_X3_33 c1 rfl <| r_iload (pc := 35) dX3_ask_35 rfl <| r_iald (pc := 37) dX3_ask_37 c11 (by omega) (by decide) <| r_aload_n (pc := 38) dX3_ask_38 rfl <| r_getf (pc := 39) dX3_ask_39 fA_X3_33 c1 rfl <| r_iload (pc := 42) dX3_ask_42 rfl <| r_iald (pc := 44) dX3_ask_44 c11 (by omega) (by decide) <| cSNi [_, _] (pc := 45) dX3_ask_45 k_X3_36 ⟨⟨Nat.le_of_ble_eq_true rfl, Nat.le_of_ble_eq_true rfl⟩, ⟨Nat.le_of_ble_eq_true rfl, Nat.le_of_ble_eq_true rfl⟩, Nat.le_of_ble_eq_true rfl⟩ ⟨rfl, rfl⟩ ?_
          refine sp_pair ?_
          refine ⟨_, rfl, ?_⟩
          refine r_istore_6 (pc := 48) dX3_ask_48 rfl <| r_aload_n (pc := 50) dX3_ask_50 rfl <| r_aload_n (pc := 51) dX3_ask_51 rfl <| r_aload_n (pc := 52) dX3_ask_52 rfl <| r_getf (pc := 53) dX3_ask_53 fA_X3_40 c1 rfl <| r_aload_n (pc := 56) dX3_ask_56 rfl <| r_getf (pc := 57) dX3_ask_57 fA_X3_44 c1 rfl <| r_aload_n (pc := 60) dX3_ask_60 rfl <| r_getf (pc := 61) dX3_ask_61 fA_X3_33 c1 rfl <| r_iload (pc := 64) dX3_ask_64 rfl <| r_iald (pc := 66) dX3_ask_66 c11 (by omega) (by decide) <| r_aload_n (pc := 67) dX3_ask_67 rfl <| r_getf (pc := 68) dX3_ask_68 fA_X3_33 c1 rfl <| r_iload (pc := 71) dX3_ask_71 rfl <| r_iald (pc := 73) dX3_ask_73 c11 (by omega) (by decide) <| cVv [_, _, _, _, _] (pc := 74) dX3_ask_74 k_X3_48 ⟨⟨Nat.le_of_ble_eq_true rfl, Nat.le_of_ble_eq_true rfl⟩, ⟨Nat.le_of_ble_eq_true rfl, Nat.le_of_ble_eq_true rfl⟩, Nat.le_of_ble_eq_true rfl⟩ ⟨rfl, rfl⟩ c30 ?_
          rw [ei, ej]
          refine cs_hold hC hI hok (by omega) (by omega) hne (fun h1 k1 k30 hF1 => ?_)
          refine ⟨rfl, ?_⟩
          replace c1 := hF1.keep c1 (by omega)
          replace c31 := hF1.keep c31 (by omega)
          replace c11 := hF1.keep c11 (by omega)
          replace g32 := hF1.keep g32 (by omega)
          replace g33 := hF1.keep g33 (by omega)
          clear c30
          have c30 := k30
          refine r_aload_n (pc := 77) dX3_ask_77 rfl <| r_getf (pc := 78) dX3_ask_78 fA_X3_9 c31 rfl <| r_iload (pc := 81) dX3_ask_81 rfl <| r_aload_n (pc := 83) dX3_ask_83 rfl <| r_getf (pc := 84) dX3_ask_84 fA_X3_54 c30 rfl <| r_iast (pc := 87) dX3_ask_87 g32 (by omega) (by decide) (fun h_87 g32 hF_87 => ?_)
          replace c1 := hF_87.keep c1 (by omega)
          replace c31 := hF_87.keep c31 (by omega)
          replace c30 := hF_87.keep c30 (by omega)
          replace c11 := hF_87.keep c11 (by omega)
          replace g33 := hF_87.keep g33 (by omega)
          refine r_aload_n (pc := 88) dX3_ask_88 rfl <| r_getf (pc := 89) dX3_ask_89 fA_X3_15 c31 rfl <| r_iload (pc := 92) dX3_ask_92 rfl <| r_aload_n (pc := 94) dX3_ask_94 rfl <| r_getf (pc := 95) dX3_ask_95 fA_X3_56 c30 rfl <| r_iast (pc := 98) dX3_ask_98 g33 (by omega) (by decide) (fun h_98 g33 hF_98 => ?_)
          replace c1 := hF_98.keep c1 (by omega)
          replace c31 := hF_98.keep c31 (by omega)
          replace c30 := hF_98.keep c30 (by omega)
          replace c11 := hF_98.keep c11 (by omega)
          replace g32 := hF_98.keep g32 (by omega)
          refine r_iinc_5 (pc := 99) dX3_ask_99 rfl rfl <| r_goto (pc := 102) 15 dX3_ask_102 (by decide) <| ?_
          have k2 := (k1.pcell (c := 32) (by omega) ((hF_98 32 (by omega)).symm.trans g32) hF_87).pcell (c := 33) (by omega) g33 hF_98
          have hF : Fr (fun q => q = 30 ∨ q = 32 ∨ q = 33) h h_98 := fun q hq => ((hF_98 q (by omega)).trans ((hF_87 q (by omega)).trans (hF1 q (by omega))))
          refine ih (j + 1) h_98 _ _ _ (by omega) (by omega) k2 g32 g33 (fun a b a0 a1 b0 b1 ab hh => ?_) (fun h' gf' rf' j' l6' e1 e2 e3 e4 e5 => hQ h' gf' rf' j' l6' e1 e2 e3 e4 (fun q hq => (e5 q hq).trans (hF q hq)))
          have ba := q1 a a0 a1
          have bb := q1 b b0 b1
          by_cases hij : a = i ∧ b = j
          · obtain ⟨rfl, rfl⟩ := hij
            rw [iu_s, iu_s]; exact ⟨rfl, rfl⟩
          · have hx : s.bk (164 + a) * 8 + s.bk (164 + b) ≠ s.bk (164 + i) * 8 + s.bk (164 + j) := by
              intro e
              have e1 : s.bk (164 + a) = s.bk (164 + i) := by omega
              have e2 : s.bk (164 + b) = s.bk (164 + j) := by omega
              have e3 : a = i := by
                rcases (show a < i ∨ a = i ∨ i < a by omega) with c | c | c
                · exact absurd e1 (q2 a i a0 c (by omega))
                · exact c
                · exact absurd e1.symm (q2 i a (by omega) c (by omega))
              have e4 : b = j := by
                rcases (show b < j ∨ b = j ∨ j < b by omega) with c | c | c
                · exact absurd e2 (q2 b j b0 c (by omega))
                · exact c
                · exact absurd e2.symm (q2 j b (by omega) c (by omega))
              exact hij ⟨e3, e4⟩
            rw [iu_n hx, iu_n hx]
            exact hA a b a0 a1 b0 b1 ab (by omega)
theorem lp_aski (hI : Inv s.bk) (hok : okB s.bk) : ∀ (q : Nat) (i : Int) (h : Hp) (gf rf : Int → Int) (l5 l6 : AV), 0 ≤ i → i + q = s.bk 2 → isC h n s → h 32 = some (aA 64 gf) → h 33 = some (aA 64 rf) → askP s.bk gf rf i 0 →
    (∀ h' gf' rf', isC h' n s → h' 32 = some (aA 64 gf') → h' 33 = some (aA 64 rf') → askP s.bk gf' rf' (s.bk 2) 0 → Fr (fun q => q = 30 ∨ q = 32 ∨ q = 33) h h' → Q none n h') → At G mX3_ask 3 [vR 31, vR 16, vR 1, vR 30, vI i, l5, l6] [] (0, 0, n) h Q := by
  have i2 := hI.1.2.2.1
  intro q
  induction q with
  | zero =>
    intro i h gf rf l5 l6 hi hq hC g32 g33 hA hQ
    obtain ⟨kd, ag, ld, rk, ow, la, tx, qu, wa, lg, ev, c0, c1, -⟩ := hC.opn
    refine r_iload (pc := 3) dX3_ask_3 rfl <| r_aload_n (pc := 5) dX3_ask_5 rfl <| r_getf (pc := 6) dX3_ask_6 fA_X3_27 c1 rfl <| r_icmp_ge (pc := 9) 111 dX3_ask_9 (by decide) (by omega) (by omega) (fun hc_9 => ?_) (fun hc_9 => ?_)
    · skip
      refine r_vret (pc := 111) dX3_ask_111 rfl ⟨Nat.le_of_ble_eq_true rfl, Nat.le_of_ble_eq_true rfl⟩ <| ?_
      exact hQ h gf rf hC g32 g33 (by rw [show s.bk 2 = i by omega]; exact hA) Fr.rf
    · skip
      exfalso; omega
  | succ q ih =>
    intro i h gf rf l5 l6 hi hq hC g32 g33 hA hQ
    obtain ⟨kd, ag, ld, rk, ow, la, tx, qu, wa, lg, ev, c0, c1, -⟩ := hC.opn
    refine r_iload (pc := 3) dX3_ask_3 rfl <| r_aload_n (pc := 5) dX3_ask_5 rfl <| r_getf (pc := 6) dX3_ask_6 fA_X3_27 c1 rfl <| r_icmp_ge (pc := 9) 111 dX3_ask_9 (by decide) (by omega) (by omega) (fun hc_9 => ?_) (fun hc_9 => ?_)
    · skip
      exfalso; omega
    · skip
      refine r_iconst (pc := 12) dX3_ask_12 <| r_istore_5 (pc := 13) dX3_ask_13 rfl <| ?_
      refine lp_askj hI hok (by omega) (s.bk 2).toNat 0 h gf rf _ (by omega) (by omega) hC g32 g33 hA (fun h1 gf1 rf1 j' l6' e1 e2 e3 e4 e5 => ?_)
      refine r_iinc_4 (pc := 105) dX3_ask_105 rfl rfl <| r_goto (pc := 108) 3 dX3_ask_108 (by decide) <| ?_
      exact ih (i + 1) h1 gf1 rf1 _ _ (by omega) (by omega) e1 e2 e3 e4 (fun h' gf' rf' d1 d2 d3 d4 d5 => hQ h' gf' rf' d1 d2 d3 d4 (fun q hq => (d5 q hq).trans (e5 q hq)))
theorem sp_ask (hC : isC h n s) (hI : Inv s.bk) (hok : okB s.bk) (hQ : ∀ h' gf rf, isC h' n s → h' 32 = some (aA 64 gf) → h' 33 = some (aA 64 rf) → (∀ x y, inQ s.bk x → inQ s.bk y → x ≠ y → gf (x * 8 + y) = (TB s.bk x y).1 ∧ rf (x * 8 + y) = (TB s.bk x y).2.1) → Fr (fun q => q = 30 ∨ q = 32 ∨ q = 33) h h' → Q none n h') : Cl G mX3_ask [vR 31, vR 16, vR 1, vR 30] n h Q := by
  have i2 := hI.1.2.2.1
  obtain ⟨x1, ⟨c31, f1, f2, f3, f4, f5, y1, y2, -⟩, -⟩ := isX_iff.mp hC.2.2.2.1
  refine cl_of (by decide) (Nat.le_of_ble_eq_true rfl) rfl ?_
  refine r_iconst (pc := 0) dX3_ask_0 <| r_istore_4 (pc := 1) dX3_ask_1 rfl <| ?_
  refine lp_aski hI hok (s.bk 2).toNat 0 h f1 f2 _ _ (by omega) (by omega) hC y1 y2 (fun a b a0 a1 b0 b1 ab hh => by omega) (fun h1 gf rf e1 e2 e3 e4 e5 => hQ h1 gf rf e1 e2 e3 (fun x y hx hy hxy => ?_) e5)
  obtain ⟨a, a0, a1, rfl⟩ := hx
  obtain ⟨b, b0, b1, rfl⟩ := hy
  exact e4 a b a0 a1 b0 b1 (fun e => hxy (by rw [e])) (by omega)
end CPs


