/-! ===== the class: strikes, its end ===== -/
abbrev stl (ro : Int → Int) (ab m : Nat) (v : Nat) : Int := setG (fun k => lowJ (v &&& askN ro k m)) (fun j => ab.testBit j) 9 1
theorem bitI_tb (x j : Nat) : bitI (x : Int) (j : Int) = 0 ↔ x.testBit j = false := by
  have h3 : bitI (x : Int) (j : Int) = ((x / 2 ^ j % 2 : Nat) : Int) := by unfold bitI; simp
  rw [h3, Nat.testBit_eq_decide_div_mod_eq]
  have := Nat.mod_lt (x / 2 ^ j) (show 2 > 0 by decide)
  generalize x / 2 ^ j % 2 = t at *
  simp only [decide_eq_false_iff_not]
  omega
theorem anN_tb {bk : Int → Int} {its : List IT} {a b : Int} (hl : its.length ≤ 9) {x j : Nat} (hj : j < 9) : (anN (pbN bk its a b) x).testBit j = true ↔ (∃ q, its[j]? = some q ∧ ¬ nmB bk q.2.2.1 q.2.2.2 a b = -1) ∧ bitI (x : Int) (j : Int) = 0 := by
  unfold anN pbN
  rw [bitsN_bit, bitsN_bit, bitI_tb]
  simp only [hj, decide_true, Bool.true_and, Bool.and_eq_true, decide_eq_true_eq, Bool.not_eq_true']
  constructor
  · rintro ⟨⟨h1, h2⟩, h3⟩
    obtain ⟨q, hq⟩ : ∃ q, its[j]? = some q := ⟨its[j], List.getElem?_eq_getElem h1⟩
    obtain ⟨-, -, f2, f3⟩ := itOf_at hq
    rw [f2, f3] at h2
    exact ⟨⟨q, hq, h2⟩, h3⟩
  · rintro ⟨⟨q, hq, h2⟩, h3⟩
    obtain ⟨-, -, f2, f3⟩ := itOf_at hq
    refine ⟨⟨(List.getElem?_eq_some_iff.mp hq).1, ?_⟩, h3⟩
    rw [f2, f3]; exact h2
theorem lastB_sym {bk : Int → Int} {x y : Int} (hxy : x ≠ y) : lastB bk y x = lastB bk x y := by
  unfold lastB
  by_cases e : x < y
  · rw [if_neg (by omega), if_pos e]
  · rw [if_pos (by omega), if_neg e]
/-- all two settle: by bits, and by talks -/
theorem okS_iff {bk : Int → Int} {its : List IT} {ro : Int → Int} {ab x : Nat} (hI : Inv bk) (hl : its.length ≤ 9) (hr : ∀ (j : Nat) (q : IT), its[j]? = some q → ro j = q.1) (hag : agRel ab its) (hok : itsOk its) : okS bk its (x : Int) ↔ ∀ v ∈ pbA bk its (bk 0) (bk 0).toNat 0, ¬ stl ro ab its.length (anN v.toNat x) = -1 := by
  have i0 := hI.1.1
  have hs : ∀ a b, (0 ≤ a ∧ a < 8) → (0 ≤ b ∧ b < 8) → a ≠ b → ∀ q ∈ its, nmB bk q.2.2.1 q.2.2.2 a b = -1 ↔ nmB bk q.2.2.1 q.2.2.2 b a = -1 := by
    intro a b ha hb hab q hq
    have := hok q hq
    exact name_none (A := Ab bk) (O := Ob bk) (Ls := Lb bk) (by omega) (by omega) (lastB_two hI ha hb hab) (lastB_sym hab) (by omega)
  have key : ∀ a b, (0 ≤ a ∧ a < 8) → (0 ≤ b ∧ b < 8) → a ≠ b → ((talkF (nmB bk) (itOf its) its.length (x : Int) a b).1 = -1 ↔ stl ro ab its.length (anN (pbN bk its a b) x) = -1) ∧ ((talkF (nmB bk) (itOf its) its.length (x : Int) b a).1 = -1 ↔ stl ro ab its.length (anN (pbN bk its a b) x) = -1) := by
    intro a b ha hb hab
    refine ⟨settle_iff hI ha hb hab hl hr hag hok (fun j hj => anN_tb hl hj) (hs a b ha hb hab), settle_iff hI hb ha (Ne.symm hab) hl hr hag hok (fun j hj => ?_) (hs b a hb ha (Ne.symm hab))⟩
    rw [anN_tb hl hj]
    constructor
    · rintro ⟨⟨q, hq, h2⟩, h3⟩
      exact ⟨⟨q, hq, fun e => h2 ((hs a b ha hb hab q (List.mem_of_getElem? hq)).mpr e)⟩, h3⟩
    · rintro ⟨⟨q, hq, h2⟩, h3⟩
      exact ⟨⟨q, hq, fun e => h2 ((hs a b ha hb hab q (List.mem_of_getElem? hq)).mp e)⟩, h3⟩
  constructor
  · intro h v hv
    obtain ⟨a, b, h1, h2, h3, rfl⟩ := (pbA_mem (bk 0).toNat 0 (by omega)).mp hv
    have := h a b (by omega) (by omega) (by omega)
    rw [Int.toNat_natCast]
    exact fun e => this ((key a b (by omega) (by omega) (by omega)).1.mpr e)
  · intro h a b ha hb hab e
    rcases (show a < b ∨ b < a by omega) with c | c
    · have := h _ ((pbA_mem (bk 0).toNat 0 (by omega)).mpr ⟨a, b, ha.1, c, hb.2, rfl⟩)
      rw [Int.toNat_natCast] at this
      exact this ((key a b (by omega) (by omega) (by omega)).1.mp e)
    · have := h _ ((pbA_mem (bk 0).toNat 0 (by omega)).mpr ⟨b, a, hb.1, c, ha.2, rfl⟩)
      rw [Int.toNat_natCast] at this
      exact this ((key b a (by omega) (by omega) (by omega)).2.mp e)
section CS4
variable {G : GT} {n : Nat} {h h' : Hp} {Q : PT} {s : SS}
theorem lp_allS {pr : Int} {x m ab : Nat} {nf ro ak : Int → Int} {L : List Int} (c0 : h 0 = some (oC s)) (c16 : h 16 = some (aO 0 [vR 17, vI (-1), vI (m : Int), vI (ab : Nat), vR 19, vR 20, vR 21, vR 22])) (c22 : h 22 = some (aA 10 ak)) (hm : m ≤ 9) (hak : ∀ i, 1 ≤ i → i < 10 → ak i = (askN ro i m : Nat)) (hab : ab < 1024) (c44 : h 44 = some (aA 64 nf)) (hpr : 0 ≤ pr ∧ pr ≤ 64) :
    ∀ (R : List Int) (k : Int), 0 ≤ k → k + R.length = pr → arL nf k R → (∀ v ∈ R, 0 ≤ v ∧ v < 512) → ((∀ v ∈ R, ¬ stl ro ab m (anN v.toNat x) = -1) → Q (some (vI 1)) n h) → ((∃ v ∈ R, stl ro ab m (anN v.toNat x) = -1) → Q (some (vI 0)) n h) → At G mX8_allSettle 2 [vR 0, vI pr, vI (x : Int), vI k] [] (0, 0, n) h Q := by
  intro R
  induction R with
  | nil =>
    intro k hk hkm hf hR h1 h0
    simp only [List.length_nil] at hkm
    refine r_iload_n (pc := 2) dX8_allSettle_2 rfl <| r_iload_n (pc := 3) dX8_allSettle_3 rfl <| r_icmp_ge (pc := 4) 36 dX8_allSettle_4 (by decide) (by omega) (by omega) (fun hc_4 => ?_) (fun hc_4 => ?_)
    · skip
      refine r_iconst (pc := 36) dX8_allSettle_36 <| r_zret (pc := 37) dX8_allSettle_37 rfl (by omega) ⟨Nat.le_of_ble_eq_true rfl, Nat.le_of_ble_eq_true rfl⟩ <| ?_
      exact h1 (fun v hv => by cases hv)
    · skip
      exfalso; omega
  | cons v R ih =>
    intro k hk hkm hf hR h1 h0
    simp only [List.length_cons] at hkm
    obtain ⟨hv0, hf'⟩ := hf.cons
    have hvr := hR v List.mem_cons_self
    have ev : ((v.toNat : Nat) : Int) = v := by omega
    have hset := setG_in (fun k => lowJ (anN v.toNat x &&& askN ro k m)) (fun j => ab.testBit j) 9 1
    have hset2 : -1 ≤ setG (fun k => lowJ (anN v.toNat x &&& askN ro k m)) (fun j => ab.testBit j) 9 1 ∧ setG (fun k => lowJ (anN v.toNat x &&& askN ro k m)) (fun j => ab.testBit j) 9 1 ≤ 10 := by
      rcases hset with e | ⟨e1, e2, -⟩
      · omega
      · omega
    clear hset
    refine r_iload_n (pc := 2) dX8_allSettle_2 rfl <| r_iload_n (pc := 3) dX8_allSettle_3 rfl <| r_icmp_ge (pc := 4) 36 dX8_allSettle_4 (by decide) (by omega) (by omega) (fun hc_4 => ?_) (fun hc_4 => ?_)
    · skip
      exfalso; omega
    · skip
      refine r_aload_n (pc := 7) dX8_allSettle_7 rfl <| r_getf (pc := 8) dX8_allSettle_8 fA_X8_23 c0 rfl <| r_aload_n (pc := 11) dX8_allSettle_11 rfl <| r_getf (pc := 12) dX8_allSettle_12 fA_X8_58 c0 rfl <| r_iload_n (pc := 15) dX8_allSettle_15 rfl <| r_iald (pc := 16) dX8_allSettle_16 c44 (by omega) (by decide) <| ?_
      rw [hv0, ← ev]
      refine r_iload_n (pc := 17) dX8_allSettle_17 rfl <| r_iconst (pc := 18) dX8_allSettle_18 <| r_ixor (pc := 19) (Int32.ofInt (x : Int) ^^^ Int32.ofInt (-1)).toInt dX8_allSettle_19 (Int32.ofInt_toInt _).symm <| r_iand (pc := 20) ((anN v.toNat x : Nat) : Int) dX8_allSettle_20 (by rw [Int32.ofInt_toInt]; exact i_anN (by omega)) <| cVi [_] (pc := 21) dX8_allSettle_21 k_X8_298 ⟨⟨Nat.le_of_ble_eq_true rfl, Nat.le_of_ble_eq_true rfl⟩, ⟨Nat.le_of_ble_eq_true rfl, Nat.le_of_ble_eq_true rfl⟩, Nat.le_of_ble_eq_true rfl⟩ ⟨rfl, rfl⟩ c16 ?_
      refine sp_settledIn (b := 16) (ro := ro) c16 c22 hm hak hab ?_
      refine ⟨_, rfl, ?_⟩
      refine r_iconst (pc := 24) dX8_allSettle_24 <| r_icmp_ne (pc := 25) 30 dX8_allSettle_25 (by decide) (by omega) (by omega) (fun hc_25 => ?_) (fun hc_25 => ?_)
      · skip
        refine r_iinc_3 (pc := 30) dX8_allSettle_30 rfl rfl <| r_goto (pc := 33) 2 dX8_allSettle_33 (by decide) <| ?_
        exact ih (k + 1) (by omega) (by omega) hf' (fun z hz => hR z (List.mem_cons_of_mem _ hz)) (fun hh => h1 (fun z hz => by
          rcases List.mem_cons.mp hz with rfl | hz
          · assumption
          · exact hh z hz)) (fun ⟨z, hz, e⟩ => h0 ⟨z, List.mem_cons_of_mem _ hz, e⟩)
      · skip
        refine r_iconst (pc := 28) dX8_allSettle_28 <| r_zret (pc := 29) dX8_allSettle_29 rfl (by omega) ⟨Nat.le_of_ble_eq_true rfl, Nat.le_of_ble_eq_true rfl⟩ <| ?_
        exact h0 ⟨v, List.mem_cons_self, by assumption⟩
theorem sp_allS {x m ab : Nat} {nf ro ak : Int → Int} {L : List Int} (c0 : h 0 = some (oC s)) (c16 : h 16 = some (aO 0 [vR 17, vI (-1), vI (m : Int), vI (ab : Nat), vR 19, vR 20, vR 21, vR 22])) (c22 : h 22 = some (aA 10 ak)) (hm : m ≤ 9) (hak : ∀ i, 1 ≤ i → i < 10 → ak i = (askN ro i m : Nat)) (hab : ab < 1024) (c44 : h 44 = some (aA 64 nf)) (hpl : (L.length : Int) ≤ 64) (hf : arL nf 0 L) (hR : ∀ v ∈ L, 0 ≤ v ∧ v < 512) (h1 : (∀ v ∈ L, ¬ stl ro ab m (anN v.toNat x) = -1) → Q (some (vI 1)) n h) (h0 : (∃ v ∈ L, stl ro ab m (anN v.toNat x) = -1) → Q (some (vI 0)) n h) : Cl G mX8_allSettle [vR 0, vI (L.length : Nat), vI (x : Int)] n h Q := by
  refine cl_of (by decide) (Nat.le_of_ble_eq_true rfl) rfl ?_
  refine r_iconst (pc := 0) dX8_allSettle_0 <| r_istoren_3 (pc := 1) dX8_allSettle_1 rfl <| ?_
  exact lp_allS (L := L) c0 c16 c22 hm hak hab c44 (by omega) L 0 (by omega) (by omega) hf hR h1 h0
theorem popF_in {x : Int} : 0 ≤ popF x ∧ popF x ≤ 9 := by
  have key : ∀ (q : Nat) (k y : Int), 0 ≤ y → y ≤ lpI (pcS x) q k y ∧ lpI (pcS x) q k y ≤ y + q := by
    intro q
    induction q with
    | zero => intro k y _; simp only [lpI]; omega
    | succ q ih =>
      intro k y hy
      have hb := bitI_01 x k
      have := ih (k + 1) (y + bitI x k) (by omega)
      show y ≤ lpI (pcS x) q (k + 1) (y + bitI x k) ∧ lpI (pcS x) q (k + 1) (y + bitI x k) ≤ y + (q + 1 : Nat)
      omega
  have := key 9 0 0 (by omega)
  unfold popF
  omega
theorem pbN_lt {bk : Int → Int} {its : List IT} {a b : Int} (hl : its.length ≤ 9) : pbN bk its a b < 512 := by
  have h1 := bitsN_lt (fun j => decide (¬ nmB bk (itOf its (4 * (j : Int) + 2)) (itOf its (4 * (j : Int) + 3)) a b = -1)) its.length
  have h2 : 2 ^ its.length ≤ 2 ^ 9 := Nat.pow_le_pow_right (by decide) hl
  unfold pbN
  omega
theorem lp_cstrikes {nf : Int → Int} (hI : Inv s.bk) (hok : okB s.bk) (hC : isC h n s) (c44 : h 44 = some (aA 64 nf)) (hnf : arL nf 0 (pbA s.bk (itB s.bk) (s.bk 0) (s.bk 0).toNat 0)) (hpl : ((pbA s.bk (itB s.bk) (s.bk 0) (s.bk 0).toNat 0).length : Int) ≤ 64) : ∀ (q : Nat) (x : Nat) (f : Int) (l4 : AV), x + q = 2 ^ (itB s.bk).length → (-1 ≤ f ∧ f < x) →
    Q (some (vI (stG (okS s.bk (itB s.bk)) q x f))) n h → At G mX8_strikes 23 [vR 0, vI ((pbA s.bk (itB s.bk) (s.bk 0) (s.bk 0).toNat 0).length : Nat), vI f, vI (x : Int), l4] [] (0, 0, n) h Q := by
  have c0 := hC.1
  have i0 := hI.1.1
  obtain ⟨ro, co, le, ak, ab, c16, c19, c20, c21, c22, ⟨b1, b2, b3⟩, hm, hcl, hag, hak⟩ := hC.2.2.1.good hok
  have hits := (parse_ok (tx := txB s.bk) hI.1.2.1.1).1
  have hab : ab < 1024 := hag.lt (by omega)
  change h 16 = some (aO 0 [vR 17, vI (-1), vI ((itB s.bk).length : Int), vI (ab : Nat), vR 19, vR 20, vR 21, vR 22]) at c16
  change (itB s.bk).length ≤ 9 at hm
  have hp : 2 ^ (itB s.bk).length ≤ 2 ^ 9 := Nat.pow_le_pow_right (by decide) hm
  have hrg : ∀ v ∈ pbA s.bk (itB s.bk) (s.bk 0) (s.bk 0).toNat 0, 0 ≤ v ∧ v < 512 := by
    intro v hv
    obtain ⟨a, b, -, -, -, rfl⟩ := (pbA_mem (s.bk 0).toNat 0 (by omega)).mp hv
    have := pbN_lt (bk := s.bk) (a := a) (b := b) hm
    omega
  intro q
  induction q with
  | zero =>
    intro x f l4 hx hf hQ
    refine r_iload_n (pc := 23) dX8_strikes_23 rfl <| r_iconst (pc := 24) dX8_strikes_24 <| r_aload_n (pc := 25) dX8_strikes_25 rfl <| r_getf (pc := 26) dX8_strikes_26 fA_X8_23 c0 rfl <| r_getf (pc := 29) dX8_strikes_29 fA_X8_150 c16 rfl <| r_ishl (pc := 32) ((2 ^ (itB s.bk).length : Nat) : Int) dX8_strikes_32 (shl10 (by omega)) <| r_icmp_ge (pc := 33) 81 dX8_strikes_33 (by decide) (by omega) (by omega) (fun hc_33 => ?_) (fun hc_33 => ?_)
    · skip
      refine r_iload_n (pc := 81) dX8_strikes_81 rfl <| r_iret (pc := 82) dX8_strikes_82 rfl ⟨Nat.le_of_ble_eq_true rfl, Nat.le_of_ble_eq_true rfl⟩ <| ?_
      exact hQ
    · skip
      exfalso; omega
  | succ q ih =>
    intro x f l4 hx hf hQ
    have hiff := okS_iff (x := x) hI hm (fun j q hq => (hcl j q hq).1) hag hits
    simp only [stG] at hQ
    have fin : ∀ (f' : Int) (l4' : AV), (-1 ≤ f' ∧ f' < (x : Int) + 1) → f' = @ite Int ((f = -1 ∨ popF (x : Int) < popF f) ∧ okS s.bk (itB s.bk) (x : Int)) (Classical.propDecidable _) (x : Int) f → At G mX8_strikes 23 [vR 0, vI ((pbA s.bk (itB s.bk) (s.bk 0) (s.bk 0).toNat 0).length : Nat), vI f', vI ((x : Int) + 1), l4'] [] (0, 0, n) h Q := by
      intro f' l4' hf' ef
      subst ef
      have := ih (x + 1) _ l4' (by omega) (by omega) hQ
      rw [show (((x + 1 : Nat)) : Int) = (x : Int) + 1 by omega] at this
      exact this
    refine r_iload_n (pc := 23) dX8_strikes_23 rfl <| r_iconst (pc := 24) dX8_strikes_24 <| r_aload_n (pc := 25) dX8_strikes_25 rfl <| r_getf (pc := 26) dX8_strikes_26 fA_X8_23 c0 rfl <| r_getf (pc := 29) dX8_strikes_29 fA_X8_150 c16 rfl <| r_ishl (pc := 32) ((2 ^ (itB s.bk).length : Nat) : Int) dX8_strikes_32 (shl10 (by omega)) <| r_icmp_ge (pc := 33) 81 dX8_strikes_33 (by decide) (by omega) (by omega) (fun hc_33 => ?_) (fun hc_33 => ?_)
    · skip
      exfalso; omega
    · skip
      refine r_iload_n (pc := 36) dX8_strikes_36 rfl <| r_iconst (pc := 37) dX8_strikes_37 <| r_icmp_eq (pc := 38) 52 dX8_strikes_38 (by decide) (by omega) (by omega) (fun hc_38 => ?_) (fun hc_38 => ?_)
      · skip
        refine r_iconst (pc := 52) dX8_strikes_52 <| r_goto (pc := 53) 57 dX8_strikes_53 (by decide) <| r_istore_4 (pc := 57) dX8_strikes_57 rfl <| r_iload (pc := 59) dX8_strikes_59 rfl <| r_if_eq (pc := 61) 75 dX8_strikes_61 (by decide) (by decide) (fun q => absurd q (by decide)) (fun _ => ?_)
        refine r_aload_n (pc := 64) dX8_strikes_64 rfl <| r_iload_n (pc := 65) dX8_strikes_65 rfl <| r_iload_n (pc := 66) dX8_strikes_66 rfl <| cVi [_, _] (pc := 67) dX8_strikes_67 k_X8_273 ⟨⟨Nat.le_of_ble_eq_true rfl, Nat.le_of_ble_eq_true rfl⟩, ⟨Nat.le_of_ble_eq_true rfl, Nat.le_of_ble_eq_true rfl⟩, Nat.le_of_ble_eq_true rfl⟩ ⟨rfl, rfl⟩ c0 ?_
        refine sp_allS (s := s) (nf := nf) c0 c16 c22 hm hak hab c44 hpl hnf hrg (fun q1 => ?_) (fun q1 => ?_)
        · skip
          refine ⟨_, rfl, ?_⟩
          refine r_if_eq (pc := 70) 75 dX8_strikes_70 (by decide) (by decide) (fun q => absurd q (by decide)) (fun _ => ?_)
          refine r_iload_n (pc := 73) dX8_strikes_73 rfl <| r_istoren_2 (pc := 74) dX8_strikes_74 rfl <| r_iinc_3 (pc := 75) dX8_strikes_75 rfl rfl <| r_goto (pc := 78) 23 dX8_strikes_78 (by decide) <| ?_
          first
            | (refine fin x _ (by omega) ?_
               rw [if_pos ⟨by omega, hiff.mpr q1⟩])
            | (refine fin f _ (by omega) ?_
               rw [if_neg (fun q => by
                 obtain ⟨v, hv, e⟩ := q1
                 exact (hiff.mp q.2) v hv e)])
            | (refine fin f _ (by omega) ?_
               rw [if_neg (fun q => by have := q.1; omega)])
        · skip
          refine ⟨_, rfl, ?_⟩
          refine r_if_eq (pc := 70) 75 dX8_strikes_70 (by decide) (by decide) (fun _ => ?_) (fun q => absurd q (by decide))
          refine r_iinc_3 (pc := 75) dX8_strikes_75 rfl rfl <| r_goto (pc := 78) 23 dX8_strikes_78 (by decide) <| ?_
          first
            | (refine fin x _ (by omega) ?_
               rw [if_pos ⟨by omega, hiff.mpr q1⟩])
            | (refine fin f _ (by omega) ?_
               rw [if_neg (fun q => by
                 obtain ⟨v, hv, e⟩ := q1
                 exact (hiff.mp q.2) v hv e)])
            | (refine fin f _ (by omega) ?_
               rw [if_neg (fun q => by have := q.1; omega)])
      · skip
        refine r_iload_n (pc := 41) dX8_strikes_41 rfl <| cSi [_] (pc := 42) dX8_strikes_42 k_X8_268 ⟨⟨Nat.le_of_ble_eq_true rfl, Nat.le_of_ble_eq_true rfl⟩, ⟨Nat.le_of_ble_eq_true rfl, Nat.le_of_ble_eq_true rfl⟩, Nat.le_of_ble_eq_true rfl⟩ ⟨rfl, rfl⟩ ?_
        have pb1 := popF_in (x := (x : Int))
        have pb2 := popF_in (x := f)
        refine sp_bitCount (by omega) ?_
        refine ⟨_, rfl, ?_⟩
        refine r_iload_n (pc := 45) dX8_strikes_45 rfl <| cSi [_] (pc := 46) dX8_strikes_46 k_X8_268 ⟨⟨Nat.le_of_ble_eq_true rfl, Nat.le_of_ble_eq_true rfl⟩, ⟨Nat.le_of_ble_eq_true rfl, Nat.le_of_ble_eq_true rfl⟩, Nat.le_of_ble_eq_true rfl⟩ ⟨rfl, rfl⟩ ?_
        refine sp_bitCount (by omega) ?_
        refine ⟨_, rfl, ?_⟩
        refine r_icmp_ge (pc := 49) 56 dX8_strikes_49 (by decide) (by omega) (by omega) (fun hc_49 => ?_) (fun hc_49 => ?_)
        · skip
          refine r_iconst (pc := 56) dX8_strikes_56 <| r_istore_4 (pc := 57) dX8_strikes_57 rfl <| r_iload (pc := 59) dX8_strikes_59 rfl <| r_if_eq (pc := 61) 75 dX8_strikes_61 (by decide) (by decide) (fun _ => ?_) (fun q => absurd q (by decide))
          refine r_iinc_3 (pc := 75) dX8_strikes_75 rfl rfl <| r_goto (pc := 78) 23 dX8_strikes_78 (by decide) <| ?_
          first
            | (refine fin x _ (by omega) ?_
               rw [if_pos ⟨by omega, hiff.mpr q1⟩])
            | (refine fin f _ (by omega) ?_
               rw [if_neg (fun q => by
                 obtain ⟨v, hv, e⟩ := q1
                 exact (hiff.mp q.2) v hv e)])
            | (refine fin f _ (by omega) ?_
               rw [if_neg (fun q => by have := q.1; omega)])
        · skip
          refine r_iconst (pc := 52) dX8_strikes_52 <| r_goto (pc := 53) 57 dX8_strikes_53 (by decide) <| r_istore_4 (pc := 57) dX8_strikes_57 rfl <| r_iload (pc := 59) dX8_strikes_59 rfl <| r_if_eq (pc := 61) 75 dX8_strikes_61 (by decide) (by decide) (fun q => absurd q (by decide)) (fun _ => ?_)
          refine r_aload_n (pc := 64) dX8_strikes_64 rfl <| r_iload_n (pc := 65) dX8_strikes_65 rfl <| r_iload_n (pc := 66) dX8_strikes_66 rfl <| cVi [_, _] (pc := 67) dX8_strikes_67 k_X8_273 ⟨⟨Nat.le_of_ble_eq_true rfl, Nat.le_of_ble_eq_true rfl⟩, ⟨Nat.le_of_ble_eq_true rfl, Nat.le_of_ble_eq_true rfl⟩, Nat.le_of_ble_eq_true rfl⟩ ⟨rfl, rfl⟩ c0 ?_
          refine sp_allS (s := s) (nf := nf) c0 c16 c22 hm hak hab c44 hpl hnf hrg (fun q1 => ?_) (fun q1 => ?_)
          · skip
            refine ⟨_, rfl, ?_⟩
            refine r_if_eq (pc := 70) 75 dX8_strikes_70 (by decide) (by decide) (fun q => absurd q (by decide)) (fun _ => ?_)
            refine r_iload_n (pc := 73) dX8_strikes_73 rfl <| r_istoren_2 (pc := 74) dX8_strikes_74 rfl <| r_iinc_3 (pc := 75) dX8_strikes_75 rfl rfl <| r_goto (pc := 78) 23 dX8_strikes_78 (by decide) <| ?_
            first
              | (refine fin x _ (by omega) ?_
                 rw [if_pos ⟨by omega, hiff.mpr q1⟩])
              | (refine fin f _ (by omega) ?_
                 rw [if_neg (fun q => by
                   obtain ⟨v, hv, e⟩ := q1
                   exact (hiff.mp q.2) v hv e)])
              | (refine fin f _ (by omega) ?_
                 rw [if_neg (fun q => by have := q.1; omega)])
          · skip
            refine ⟨_, rfl, ?_⟩
            refine r_if_eq (pc := 70) 75 dX8_strikes_70 (by decide) (by decide) (fun _ => ?_) (fun q => absurd q (by decide))
            refine r_iinc_3 (pc := 75) dX8_strikes_75 rfl rfl <| r_goto (pc := 78) 23 dX8_strikes_78 (by decide) <| ?_
            first
              | (refine fin x _ (by omega) ?_
                 rw [if_pos ⟨by omega, hiff.mpr q1⟩])
              | (refine fin f _ (by omega) ?_
                 rw [if_neg (fun q => by
                   obtain ⟨v, hv, e⟩ := q1
                   exact (hiff.mp q.2) v hv e)])
              | (refine fin f _ (by omega) ?_
                 rw [if_neg (fun q => by have := q.1; omega)])
end CS4

