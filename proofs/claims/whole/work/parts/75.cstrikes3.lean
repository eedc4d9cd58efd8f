/-! ===== the class: strikes, on ===== -/
theorem bitsN_ext {p q : Nat → Bool} : ∀ m : Nat, (∀ j, j < m → p j = q j) → bitsN p m = bitsN q m := by
  intro m
  induction m with
  | zero => intro _; rfl
  | succ m ih =>
    intro hh
    have h1 := ih (fun j hj => hh j (by omega))
    have h2 := hh m (by omega)
    simp only [bitsN, h1, h2]
def pbN (bk : Int → Int) (its : List IT) (a b : Int) : Nat := bitsN (fun j => decide (¬ nmB bk (itOf its (4 * (j : Int) + 2)) (itOf its (4 * (j : Int) + 3)) a b = -1)) its.length
def pbB (bk : Int → Int) (its : List IT) (a : Int) : Nat → Int → List Int
  | 0, _ => []
  | q + 1, b => ((pbN bk its a b : Nat) : Int) :: pbB bk its a q (b + 1)
def pbA (bk : Int → Int) (its : List IT) (m : Int) : Nat → Int → List Int
  | 0, _ => []
  | q + 1, a => pbB bk its a (m - (a + 1)).toNat (a + 1) ++ pbA bk its m q (a + 1)
theorem pbB_mem {bk : Int → Int} {its : List IT} {a v : Int} : ∀ (q : Nat) (b : Int), v ∈ pbB bk its a q b ↔ ∃ b', b ≤ b' ∧ b' < b + q ∧ v = ((pbN bk its a b' : Nat) : Int) := by
  intro q
  induction q with
  | zero => intro b; simp only [pbB, List.not_mem_nil, false_iff]; rintro ⟨b', h1, h2, -⟩; omega
  | succ q ih =>
    intro b
    simp only [pbB, List.mem_cons, ih]
    constructor
    · rintro (h | ⟨b', h1, h2, h3⟩)
      · exact ⟨b, by omega, by omega, h⟩
      · exact ⟨b', by omega, by omega, h3⟩
    · rintro ⟨b', h1, h2, h3⟩
      by_cases e : b' = b
      · subst e; exact Or.inl h3
      · exact Or.inr ⟨b', by omega, by omega, h3⟩
theorem pbA_mem {bk : Int → Int} {its : List IT} {m v : Int} : ∀ (q : Nat) (a : Int), a + q = m → (v ∈ pbA bk its m q a ↔ ∃ a' b', a ≤ a' ∧ a' < b' ∧ b' < m ∧ v = ((pbN bk its a' b' : Nat) : Int)) := by
  intro q
  induction q with
  | zero => intro a ha; simp only [pbA, List.not_mem_nil, false_iff]; rintro ⟨a', b', h1, h2, h3, -⟩; omega
  | succ q ih =>
    intro a ha
    simp only [pbA, List.mem_append, ih (a + 1) (by omega), pbB_mem]
    constructor
    · rintro (⟨b', h1, h2, h3⟩ | ⟨a', b', h1, h2, h3, h4⟩)
      · exact ⟨a, b', by omega, by omega, by omega, h3⟩
      · exact ⟨a', b', by omega, h2, h3, h4⟩
    · rintro ⟨a', b', h1, h2, h3, h4⟩
      by_cases e : a' = a
      · subst e; exact Or.inl ⟨b', by omega, by omega, h4⟩
      · exact Or.inr ⟨a', b', by omega, h2, h3, h4⟩
theorem pbB_len {bk : Int → Int} {its : List IT} {a : Int} : ∀ (q : Nat) (b : Int), (pbB bk its a q b).length = q := by
  intro q
  induction q with
  | zero => intro b; rfl
  | succ q ih => intro b; simp [pbB, ih]
/-- a number without the bits of another -/
def anN (a b : Nat) : Nat := bitsN (fun j => a.testBit j && !b.testBit j) 9
theorem i_anN {a b : Nat} (ha : a < 512) : Int32.ofInt (a : Int) &&& (Int32.ofInt (b : Int) ^^^ Int32.ofInt (-1)) = Int32.ofInt ((anN a b : Nat) : Int) := by
  show Int32.ofNat a &&& (Int32.ofNat b ^^^ Int32.ofInt (-1)) = Int32.ofNat (anN a b)
  apply Int32.toBitVec_inj.mp
  rw [Int32.toBitVec_and, Int32.toBitVec_xor]
  show BitVec.ofNat 32 a &&& (BitVec.ofNat 32 b ^^^ (Int32.ofInt (-1)).toBitVec) = BitVec.ofNat 32 (anN a b)
  apply BitVec.eq_of_getLsbD_eq
  intro i hi
  have h1 : (Int32.ofInt (-1)).toBitVec.getLsbD i = true := by
    have : ∀ i, i < 32 → (Int32.ofInt (-1)).toBitVec.getLsbD i = true := by decide
    exact this i hi
  rw [BitVec.getLsbD_and, BitVec.getLsbD_xor, h1]
  simp only [BitVec.getLsbD_ofNat, hi, decide_true, Bool.true_and]
  unfold anN
  rw [bitsN_bit]
  by_cases h9 : i < 9
  · simp [h9]
  · have : a.testBit i = false := Nat.testBit_lt_two_pow (Nat.lt_of_lt_of_le ha (by
      have : 2 ^ 9 ≤ 2 ^ i := Nat.pow_le_pow_right (by decide) (by omega)
      exact this))
    simp [h9, this]
section CS3
variable {G : GT} {n : Nat} {h h' : Hp} {Q : PT} {s : SS}
theorem isC.nm {f : Int → Int} (hC : isC h n s) (k : h' 44 = some (aA 64 f)) (hF : Fr (fun q => q = 44) h h') : isC h' n s := by
  obtain ⟨x1, x2, x3, x4, x5, x6⟩ := isX_iff.mp hC.2.2.2.1
  exact hC.kx (isX_iff.mpr ⟨x1.fr (hF 30 (by omega)), x2.fr (fun q a b => hF q (by omega)), x3.fr (fun q a b => hF q (by omega)), x4.fr (fun q a b => hF q (by omega)), ⟨f, k⟩, x6.fr (fun q a b => hF q (by omega))⟩) (hF.wk (fun q => by omega))
/-- bits of the items that name one of two -/
theorem cs_naming {a b : Int} (hC : isC h n s) (hI : Inv s.bk) (hok : okB s.bk) (ha : 0 ≤ a ∧ a < 8) (hb : 0 ≤ b ∧ b < 8) (hab : a ≠ b) (hQ : Q (some (vI ((pbN s.bk (itB s.bk) a b : Nat) : Int))) n h) : Cl G mX0_naming [vR 16, vR 2, vR 7, vI a, vI b] n h Q := by
  obtain ⟨kd, ag, ld, rk, ow, la, tx, qu, wa, lg, ev, c0, c1, c2, c3, c4, c5, c6, c7, c8, c9, c10, c11, c12, c13, c14, ⟨⟨d1, d2, d3, d4⟩, ⟨d5, d6⟩, -⟩, rp, ro, -⟩ := hC.opn
  obtain ⟨ro', co, le, ak, ab, c16, c19, c20, c21, c22, ⟨b1, b2, b3⟩, hm, hcl, hag, hak⟩ := hC.2.2.1.good hok
  have hits := (parse_ok (tx := txB s.bk) hI.1.2.1.1).1
  have hla := (laOk_of hI ro) a b ha.1 ha.2 hb.1 hb.2 hab
  have hi : ∀ j : Nat, j < (itB s.bk).length → (0 ≤ co j ∧ co j ≤ 9) ∧ (1 ≤ le j ∧ le j ≤ 99) := by
    intro j hj
    obtain ⟨q, hq⟩ : ∃ q, (itB s.bk)[j]? = some q := ⟨(itB s.bk)[j], List.getElem?_eq_getElem hj⟩
    obtain ⟨-, e2, e3⟩ := hcl j q hq
    have := hits q (List.mem_of_getElem? hq)
    rw [e2, e3]; exact ⟨this.2.2.1, this.2.2.2⟩
  have e : pbN s.bk (itB s.bk) a b = bitsN (fun j => decide (¬ nmC kd ag ld rk ow la (co j) (le j) a b = -1)) (itB s.bk).length := by
    unfold pbN
    refine bitsN_ext _ (fun j hj => ?_)
    obtain ⟨q, hq⟩ : ∃ q, (itB s.bk)[j]? = some q := ⟨(itB s.bk)[j], List.getElem?_eq_getElem hj⟩
    obtain ⟨-, e2, e3⟩ := hcl j q hq
    obtain ⟨-, -, f2, f3⟩ := itOf_at hq
    have := hits q (List.mem_of_getElem? hq)
    rw [f2, f3, e2, e3, nmCB rp ro (by omega) ha hb hab]
  rw [e] at hQ
  exact sp_naming (pb := 2) (bb := 7) (np := s.bk 0) (b := 16) ⟨⟨c2, c3, c4, c5, c6⟩, ⟨c7, c8, c9⟩, ⟨d1, d2, d3, d4⟩, d5, d6⟩ c16 c20 c21 hm hi ha hb hab hla.2 hQ
theorem lp_nB {a : Int} (hI : Inv s.bk) (hok : okB s.bk) (ha : 0 ≤ a ∧ a < s.bk 0) : ∀ (q : Nat) (b : Int) (h : Hp) (nf : Int → Int) (A : List Int), a < b → b + q = s.bk 0 → isC h n s → h 44 = some (aA 64 nf) → arL nf 0 A → (A.length : Int) + a + 1 ≤ 8 * a + b →
    (∀ h' nf' b', isC h' n s → h' 44 = some (aA 64 nf') → arL nf' 0 (A ++ pbB s.bk (itB s.bk) a q b) → Fr (fun q => q = 44) h h' → At G mX8_nameAllTwo 74 [vR 0, vI ((A ++ pbB s.bk (itB s.bk) a q b).length : Nat), vI a, vI b'] [] (0, 0, n) h' Q) → At G mX8_nameAllTwo 22 [vR 0, vI (A.length : Nat), vI a, vI b] [] (0, 0, n) h Q := by
  have i0 := hI.1.1
  intro q
  induction q with
  | zero =>
    intro b h nf A hb hq hC c44 hA hl hQ
    obtain ⟨kd, ag, ld, rk, ow, la, tx, qu, wa, lg, ev, c0, c1, c2, c3, c4, c5, c6, c7, -⟩ := hC.opn
    refine r_iload_n (pc := 22) dX8_nameAllTwo_22 rfl <| r_aload_n (pc := 23) dX8_nameAllTwo_23 rfl <| r_getf (pc := 24) dX8_nameAllTwo_24 fA_X8_12 c0 rfl <| r_getf (pc := 27) dX8_nameAllTwo_27 fA_X8_86 c1 rfl <| r_getf (pc := 30) dX8_nameAllTwo_30 fA_X8_90 c2 rfl <| r_icmp_ge (pc := 33) 74 dX8_nameAllTwo_33 (by decide) (by omega) (by omega) (fun hc_33 => ?_) (fun hc_33 => ?_)
    · skip
      have := hQ h nf b hC c44 (by simpa [pbB] using hA) Fr.rf
      simpa [pbB] using this
    · skip
      exfalso; omega
  | succ q ih =>
    intro b h nf A hb hq hC c44 hA hl hQ
    obtain ⟨kd, ag, ld, rk, ow, la, tx, qu, wa, lg, ev, c0, c1, c2, c3, c4, c5, c6, c7, -⟩ := hC.opn
    obtain ⟨bsz, bab, bro, bco, ble, bak, c16, -⟩ := hC.bkf
    refine r_iload_n (pc := 22) dX8_nameAllTwo_22 rfl <| r_aload_n (pc := 23) dX8_nameAllTwo_23 rfl <| r_getf (pc := 24) dX8_nameAllTwo_24 fA_X8_12 c0 rfl <| r_getf (pc := 27) dX8_nameAllTwo_27 fA_X8_86 c1 rfl <| r_getf (pc := 30) dX8_nameAllTwo_30 fA_X8_90 c2 rfl <| r_icmp_ge (pc := 33) 74 dX8_nameAllTwo_33 (by decide) (by omega) (by omega) (fun hc_33 => ?_) (fun hc_33 => ?_)
    · skip
      exfalso; omega
    · skip
      refine r_aload_n (pc := 36) dX8_nameAllTwo_36 rfl <| r_getf (pc := 37) dX8_nameAllTwo_37 fA_X8_58 c0 rfl <| r_iload_n (pc := 40) dX8_nameAllTwo_40 rfl <| r_aload_n (pc := 41) dX8_nameAllTwo_41 rfl <| r_getf (pc := 42) dX8_nameAllTwo_42 fA_X8_23 c0 rfl <| r_aload_n (pc := 45) dX8_nameAllTwo_45 rfl <| r_getf (pc := 46) dX8_nameAllTwo_46 fA_X8_12 c0 rfl <| r_getf (pc := 49) dX8_nameAllTwo_49 fA_X8_86 c1 rfl <| r_aload_n (pc := 52) dX8_nameAllTwo_52 rfl <| r_getf (pc := 53) dX8_nameAllTwo_53 fA_X8_12 c0 rfl <| r_getf (pc := 56) dX8_nameAllTwo_56 fA_X8_120 c1 rfl <| r_iload_n (pc := 59) dX8_nameAllTwo_59 rfl <| r_iload_n (pc := 60) dX8_nameAllTwo_60 rfl <| cVi [_, _, _, _] (pc := 61) dX8_nameAllTwo_61 k_X8_295 ⟨⟨Nat.le_of_ble_eq_true rfl, Nat.le_of_ble_eq_true rfl⟩, ⟨Nat.le_of_ble_eq_true rfl, Nat.le_of_ble_eq_true rfl⟩, Nat.le_of_ble_eq_true rfl⟩ ⟨rfl, rfl⟩ c16 ?_
      refine cs_naming hC hI hok (by omega) (by omega) (by omega) ?_
      refine ⟨_, rfl, ?_⟩
      refine r_iast (pc := 64) dX8_nameAllTwo_64 c44 (by omega) (by decide) (fun h_64 c44 hF_64 => ?_)
      replace c0 := hF_64.keep c0 (by omega)
      replace c1 := hF_64.keep c1 (by omega)
      replace c2 := hF_64.keep c2 (by omega)
      replace c7 := hF_64.keep c7 (by omega)
      replace c16 := hF_64.keep c16 (by omega)
      refine r_iinc_1 (pc := 65) dX8_nameAllTwo_65 rfl rfl <| r_iinc_3 (pc := 68) dX8_nameAllTwo_68 rfl rfl <| r_goto (pc := 71) 22 dX8_nameAllTwo_71 (by decide) <| ?_
      have e1 : A ++ pbB s.bk (itB s.bk) a (q + 1) b = (A ++ [((pbN s.bk (itB s.bk) a b : Nat) : Int)]) ++ pbB s.bk (itB s.bk) a q (b + 1) := by simp [pbB]
      rw [e1] at hQ
      have hl' : (A ++ [((pbN s.bk (itB s.bk) a b : Nat) : Int)]).length = A.length + 1 := by simp
      have hih := ih (b + 1) h_64 _ (A ++ [((pbN s.bk (itB s.bk) a b : Nat) : Int)]) (by omega) (by omega) (hC.nm c44 hF_64) c44 (hA.snoc rfl) (by rw [hl']; omega) (fun h' nf' b' d1 d2 d3 d4 => hQ h' nf' b' d1 d2 d3 (fun j hj => (d4 j hj).trans (hF_64 j hj)))
      rw [hl', show ((A.length + 1 : Nat) : Int) = (A.length : Nat) + 1 by omega] at hih
      exact hih
theorem lp_nA (hI : Inv s.bk) (hok : okB s.bk) : ∀ (q : Nat) (a : Int) (h : Hp) (nf : Int → Int) (A : List Int) (l3 : AV), 0 ≤ a → a + q = s.bk 0 → isC h n s → h 44 = some (aA 64 nf) → arL nf 0 A → (A.length : Int) ≤ 8 * a →
    (∀ h' nf', isC h' n s → h' 44 = some (aA 64 nf') → arL nf' 0 (A ++ pbA s.bk (itB s.bk) (s.bk 0) q a) → ((A ++ pbA s.bk (itB s.bk) (s.bk 0) q a).length : Int) ≤ 64 → Fr (fun q => q = 44) h h' → Q (some (vI ((A ++ pbA s.bk (itB s.bk) (s.bk 0) q a).length : Nat))) n h') → At G mX8_nameAllTwo 4 [vR 0, vI (A.length : Nat), vI a, l3] [] (0, 0, n) h Q := by
  have i0 := hI.1.1
  intro q
  induction q with
  | zero =>
    intro a h nf A l3 ha hq hC c44 hA hl hQ
    obtain ⟨kd, ag, ld, rk, ow, la, tx, qu, wa, lg, ev, c0, c1, c2, c3, c4, c5, c6, c7, -⟩ := hC.opn
    refine r_iload_n (pc := 4) dX8_nameAllTwo_4 rfl <| r_aload_n (pc := 5) dX8_nameAllTwo_5 rfl <| r_getf (pc := 6) dX8_nameAllTwo_6 fA_X8_12 c0 rfl <| r_getf (pc := 9) dX8_nameAllTwo_9 fA_X8_86 c1 rfl <| r_getf (pc := 12) dX8_nameAllTwo_12 fA_X8_90 c2 rfl <| r_icmp_ge (pc := 15) 80 dX8_nameAllTwo_15 (by decide) (by omega) (by omega) (fun hc_15 => ?_) (fun hc_15 => ?_)
    · skip
      refine r_iload_n (pc := 80) dX8_nameAllTwo_80 rfl <| r_iret (pc := 81) dX8_nameAllTwo_81 rfl ⟨Nat.le_of_ble_eq_true rfl, Nat.le_of_ble_eq_true rfl⟩ <| ?_
      have := hQ h nf hC c44 (by simpa [pbA] using hA) (by simp [pbA]; omega) Fr.rf
      simpa [pbA] using this
    · skip
      exfalso; omega
  | succ q ih =>
    intro a h nf A l3 ha hq hC c44 hA hl hQ
    obtain ⟨kd, ag, ld, rk, ow, la, tx, qu, wa, lg, ev, c0, c1, c2, c3, c4, c5, c6, c7, -⟩ := hC.opn
    refine r_iload_n (pc := 4) dX8_nameAllTwo_4 rfl <| r_aload_n (pc := 5) dX8_nameAllTwo_5 rfl <| r_getf (pc := 6) dX8_nameAllTwo_6 fA_X8_12 c0 rfl <| r_getf (pc := 9) dX8_nameAllTwo_9 fA_X8_86 c1 rfl <| r_getf (pc := 12) dX8_nameAllTwo_12 fA_X8_90 c2 rfl <| r_icmp_ge (pc := 15) 80 dX8_nameAllTwo_15 (by decide) (by omega) (by omega) (fun hc_15 => ?_) (fun hc_15 => ?_)
    · skip
      exfalso; omega
    · skip
      refine r_iload_n (pc := 18) dX8_nameAllTwo_18 rfl <| r_iconst (pc := 19) dX8_nameAllTwo_19 <| r_iadd (pc := 20) dX8_nameAllTwo_20 <| r_istoren_3 (pc := 21) dX8_nameAllTwo_21 rfl <| ?_
      refine lp_nB hI hok (by omega) (s.bk 0 - (a + 1)).toNat (a + 1) h nf A (by omega) (by omega) hC c44 hA (by omega) (fun h1 nf1 b' d1 d2 d3 d4 => ?_)
      have e1 : A ++ pbA s.bk (itB s.bk) (s.bk 0) (q + 1) a = (A ++ pbB s.bk (itB s.bk) a (s.bk 0 - (a + 1)).toNat (a + 1)) ++ pbA s.bk (itB s.bk) (s.bk 0) q (a + 1) := by simp [pbA]
      rw [e1] at hQ
      have hl2 : (A ++ pbB s.bk (itB s.bk) a (s.bk 0 - (a + 1)).toNat (a + 1)).length = A.length + (s.bk 0 - (a + 1)).toNat := by rw [List.length_append, pbB_len]
      refine r_iinc_2 (pc := 74) dX8_nameAllTwo_74 rfl rfl <| r_goto (pc := 77) 4 dX8_nameAllTwo_77 (by decide) <| ?_
      exact ih (a + 1) h1 nf1 _ _ (by omega) (by omega) d1 d2 d3 (by rw [hl2]; omega) (fun h' nf' e1 e2 e3 e4 e5 => hQ h' nf' e1 e2 e3 e4 (fun j hj => (e5 j hj).trans (d4 j hj)))
end CS3


