/-! ===== the class: come, clear, type, digest ===== -/
section CP3
variable {G : GT} {n : Nat} {h h' : Hp} {Q : PT} {s : SS}
theorem lp_isq {bk qu : Int → Int} {w p : Int} (c1 : h 1 = some (aO 7 [vR 2, vR 7, vR 10, vI (bk 1), vR 11, vI (bk 2), vR 12, vR 13, vR 14, vI (bk 3)])) (c11 : h 11 = some (aA 8 qu)) (rq : REq qu bk 164 8) (dq : Bd qu 0 7) (hI : Inv bk) (hp : inI p) (h1 : inQ bk p → Q (some (vI 1)) n h) (h0 : ¬ inQ bk p → Q (some (vI 0)) n h) :
    ∀ (q : Nat) (k : Int), 0 ≤ k → k + q = bk 2 → (∀ j, 0 ≤ j → j < k → bk (164 + j) ≠ p) → At G mX7_isQueued 2 [vR 1, vI p, vI k] [] (0, 0, n) h Q := by
  have i2 := hI.1.2.2.1
  intro q
  induction q with
  | zero =>
    intro k hk hq hj
    refine r_iload_n (pc := 2) dX7_isQueued_2 rfl <| r_aload_n (pc := 3) dX7_isQueued_3 rfl <| r_getf (pc := 4) dX7_isQueued_4 fA_X7_36 c1 rfl <| r_icmp_ge (pc := 7) 28 dX7_isQueued_7 (by decide) (by omega) (by omega) (fun hc_7 => ?_) (fun hc_7 => ?_)
    · skip
      refine r_iconst (pc := 28) dX7_isQueued_28 <| r_zret (pc := 29) dX7_isQueued_29 rfl (by omega) ⟨Nat.le_of_ble_eq_true rfl, Nat.le_of_ble_eq_true rfl⟩ <| ?_
      exact h0 (fun ⟨j, a, b, c⟩ => hj j a (by omega) c)
    · skip
      exfalso; omega
  | succ q ih =>
    intro k hk hq hj
    have e1 := rq k hk (by omega)
    have b1 := dq k
    refine r_iload_n (pc := 2) dX7_isQueued_2 rfl <| r_aload_n (pc := 3) dX7_isQueued_3 rfl <| r_getf (pc := 4) dX7_isQueued_4 fA_X7_36 c1 rfl <| r_icmp_ge (pc := 7) 28 dX7_isQueued_7 (by decide) (by omega) (by omega) (fun hc_7 => ?_) (fun hc_7 => ?_)
    · skip
      exfalso; omega
    · skip
      refine r_aload_n (pc := 10) dX7_isQueued_10 rfl <| r_getf (pc := 11) dX7_isQueued_11 fA_X7_33 c1 rfl <| r_iload_n (pc := 14) dX7_isQueued_14 rfl <| r_iald (pc := 15) dX7_isQueued_15 c11 (by omega) (by decide) <| r_iload_n (pc := 16) dX7_isQueued_16 rfl <| r_icmp_ne (pc := 17) 22 dX7_isQueued_17 (by decide) (by omega) (by omega) (fun hc_17 => ?_) (fun hc_17 => ?_)
      · skip
        refine r_iinc_2 (pc := 22) dX7_isQueued_22 rfl rfl <| r_goto (pc := 25) 2 dX7_isQueued_25 (by decide) <| ?_
        refine ih (k + 1) (by omega) (by omega) (fun j a b => ?_)
        by_cases ej : j = k
        · subst ej; omega
        · exact hj j a (by omega)
      · skip
        refine r_iconst (pc := 20) dX7_isQueued_20 <| r_zret (pc := 21) dX7_isQueued_21 rfl (by omega) ⟨Nat.le_of_ble_eq_true rfl, Nat.le_of_ble_eq_true rfl⟩ <| ?_
        exact h1 ⟨k, hk, by omega, by omega⟩
theorem sp_isq {bk qu : Int → Int} {p : Int} (c1 : h 1 = some (aO 7 [vR 2, vR 7, vR 10, vI (bk 1), vR 11, vI (bk 2), vR 12, vR 13, vR 14, vI (bk 3)])) (c11 : h 11 = some (aA 8 qu)) (rq : REq qu bk 164 8) (dq : Bd qu 0 7) (hI : Inv bk) (hp : inI p) (h1 : inQ bk p → Q (some (vI 1)) n h) (h0 : ¬ inQ bk p → Q (some (vI 0)) n h) : Cl G mX7_isQueued [vR 1, vI p] n h Q := by
  have i2 := hI.1.2.2.1
  refine cl_of (by decide) (Nat.le_of_ble_eq_true rfl) rfl ?_
  refine r_iconst (pc := 0) dX7_isQueued_0 <| r_istoren_2 (pc := 1) dX7_isQueued_1 rfl <| ?_
  exact lp_isq (w := 0) c1 c11 rq dq hI hp h1 h0 (bk 2).toNat 0 (by omega) (by omega) (fun j a b => by omega)
theorem cs_come {p : Int} (hC : isC h n s) (hI : Inv s.bk) (hp : inI p) (hQ : ∀ h', isC h' n (fCome s p).2 → Fr CR h h' → Q (some (vI (fCome s p).1)) n h') : Cl G mX8_come [vR 0, vI p] n h Q := by
  obtain ⟨kd, ag, ld, rk, ow, la, tx, qu, wa, lg, ev, c0, c1, c2, c3, c4, c5, c6, c7, c8, c9, c10, c11, c12, c13, c14, ⟨-, -, -, dq, -⟩, -, -, -, rq, -⟩ := hC.opn
  obtain ⟨u0, u1, u2, u3, u4, u5, u6, u7⟩ := isW_iff.mp hC.2.1
  have i0 := hI.1.1
  have i2 := hI.1.2.2.1
  unfold fCome at hQ
  have hroom := @q_room s.bk p hI
  refine cl_of (by decide) (Nat.le_of_ble_eq_true rfl) rfl ?_
  refine r_aload_n (pc := 0) dX8_come_0 rfl <| r_getf (pc := 1) dX8_come_1 fA_X8_12 c0 rfl <| r_getf (pc := 4) dX8_come_4 fA_X8_86 c1 rfl <| r_iload_n (pc := 7) dX8_come_7 rfl <| cVi [_] (pc := 8) dX8_come_8 k_X8_103 ⟨⟨Nat.le_of_ble_eq_true rfl, Nat.le_of_ble_eq_true rfl⟩, ⟨Nat.le_of_ble_eq_true rfl, Nat.le_of_ble_eq_true rfl⟩, Nat.le_of_ble_eq_true rfl⟩ ⟨rfl, rfl⟩ c2 ?_
  refine sp_has c2 (by omega) hp (fun q1 => ?_) (fun q1 => ?_)
  · skip
    refine ⟨_, rfl, ?_⟩
    refine r_if_eq (pc := 11) 25 dX8_come_11 (by decide) (by decide) (fun q => absurd q (by decide)) (fun _ => ?_)
    refine r_aload_n (pc := 14) dX8_come_14 rfl <| r_getf (pc := 15) dX8_come_15 fA_X8_12 c0 rfl <| r_iload_n (pc := 18) dX8_come_18 rfl <| cVi [_] (pc := 19) dX8_come_19 k_X8_180 ⟨⟨Nat.le_of_ble_eq_true rfl, Nat.le_of_ble_eq_true rfl⟩, ⟨Nat.le_of_ble_eq_true rfl, Nat.le_of_ble_eq_true rfl⟩, Nat.le_of_ble_eq_true rfl⟩ ⟨rfl, rfl⟩ c1 ?_
    refine sp_isq c1 c11 rq dq hI hp (fun q2 => ?_) (fun q2 => ?_)
    · skip
      refine ⟨_, rfl, ?_⟩
      first | (have hr := hroom q1 q2) | skip
      refine r_if_eq (pc := 22) 32 dX8_come_22 (by decide) (by decide) (fun q => absurd q (by decide)) (fun _ => ?_)
      refine r_aload_n (pc := 25) dX8_come_25 rfl <| r_bipush (pc := 26) dX8_come_26 (by decide) <| cVi [_] (pc := 28) dX8_come_28 k_X8_82 ⟨⟨Nat.le_of_ble_eq_true rfl, Nat.le_of_ble_eq_true rfl⟩, ⟨Nat.le_of_ble_eq_true rfl, Nat.le_of_ble_eq_true rfl⟩, Nat.le_of_ble_eq_true rfl⟩ ⟨rfl, rfl⟩ c0 ?_
      refine cs_bad hC (fun h1 g1 g2 => ?_)
      refine ⟨_, rfl, ?_⟩
      refine r_iret (pc := 31) dX8_come_31 rfl ⟨Nat.le_of_ble_eq_true rfl, Nat.le_of_ble_eq_true rfl⟩ <| ?_
      first
        | (rw [if_neg (fun q => q1 q.1)] at hQ; exact hQ _ g1 g2)
        | (rw [if_neg (fun q => q.2 q2)] at hQ; exact hQ _ g1 g2)
    · skip
      refine ⟨_, rfl, ?_⟩
      first | (have hr := hroom q1 q2) | skip
      refine r_if_eq (pc := 22) 32 dX8_come_22 (by decide) (by decide) (fun _ => ?_) (fun q => absurd q (by decide))
      refine r_aload_n (pc := 32) dX8_come_32 rfl <| r_getf (pc := 33) dX8_come_33 fA_X8_12 c0 rfl <| r_getf (pc := 36) dX8_come_36 fA_X8_183 c1 rfl <| r_aload_n (pc := 39) dX8_come_39 rfl <| r_getf (pc := 40) dX8_come_40 fA_X8_12 c0 rfl <| r_getf (pc := 43) dX8_come_43 fA_X8_186 c1 rfl <| r_iload_n (pc := 46) dX8_come_46 rfl <| r_iast (pc := 47) dX8_come_47 c11 (by omega) (by decide) (fun h_47 c11 hF_47 => ?_)
      replace c0 := hF_47.keep c0 (by omega)
      replace c1 := hF_47.keep c1 (by omega)
      replace c2 := hF_47.keep c2 (by omega)
      replace c7 := hF_47.keep c7 (by omega)
      refine r_aload_n (pc := 48) dX8_come_48 rfl <| r_getf (pc := 49) dX8_come_49 fA_X8_12 c0 rfl <| r_dup (pc := 52) dX8_come_52 rfl <| r_getf (pc := 53) dX8_come_53 fA_X8_186 c1 rfl <| r_iconst (pc := 56) dX8_come_56 <| r_iadd (pc := 57) dX8_come_57 <| r_putf (pc := 58) dX8_come_58 fP_X8_186 rfl rfl c1 rfl (fun h_58 c1 hF_58 => ?_)
      simp only [List.set_cons_zero, List.set_cons_succ] at c1
      replace c0 := hF_58.keep c0 (by omega)
      replace c2 := hF_58.keep c2 (by omega)
      replace c7 := hF_58.keep c7 (by omega)
      replace c11 := hF_58.keep c11 (by omega)
      refine r_aload_n (pc := 61) dX8_come_61 rfl <| r_getf (pc := 62) dX8_come_62 fA_X8_12 c0 rfl <| r_getf (pc := 65) dX8_come_65 fA_X8_186 c1 rfl <| r_iret (pc := 68) dX8_come_68 rfl ⟨Nat.le_of_ble_eq_true rfl, Nat.le_of_ble_eq_true rfl⟩ <| ?_
      rw [if_pos ⟨q1, q2⟩] at hQ
      have hF : Fr (fun q => q = 1 ∨ q = 11) h h_58 := fun q hq => (hF_58 q (by omega)).trans (hF_47 q (by omega))
      have eo : ∀ j, ¬ (j = 2 ∨ j = 164 + s.bk 2) → iu (iu s.bk (164 + s.bk 2) p) 2 (s.bk 2 + 1) j = s.bk j := fun j hj => by rw [iu_n (by omega), iu_n (by omega)]
      refine hQ _ (hC.qwle hI ?_ ⟨iu qu (s.bk 2) p, c11, dq.iu (by omega), fun i a b => ?_⟩ (u5.fr (hF 12 (by omega)) (fun j a b => eo j (by omega))) (u6.fr (hF 13 (by omega)) (fun j a b => eo j (by omega))) (u7.fr (hF 14 (by omega)) (fun j a b => eo j (by omega))) (fun j hj => eo j (by omega)) (hF.wk (fun q => by omega))) (hF.wk (fun q => by omega))
      · unfold oW
        rw [eo 1 (by omega), eo 3 (by omega), iu_s]
        exact c1
      · by_cases e : i = s.bk 2
        · rw [e, iu_s, iu_n (by omega), iu_s]
        · rw [iu_n e, eo _ (by omega)]; exact rq i a b
  · skip
    refine ⟨_, rfl, ?_⟩
    refine r_if_eq (pc := 11) 25 dX8_come_11 (by decide) (by decide) (fun _ => ?_) (fun q => absurd q (by decide))
    refine r_aload_n (pc := 25) dX8_come_25 rfl <| r_bipush (pc := 26) dX8_come_26 (by decide) <| cVi [_] (pc := 28) dX8_come_28 k_X8_82 ⟨⟨Nat.le_of_ble_eq_true rfl, Nat.le_of_ble_eq_true rfl⟩, ⟨Nat.le_of_ble_eq_true rfl, Nat.le_of_ble_eq_true rfl⟩, Nat.le_of_ble_eq_true rfl⟩ ⟨rfl, rfl⟩ c0 ?_
    refine cs_bad hC (fun h1 g1 g2 => ?_)
    refine ⟨_, rfl, ?_⟩
    refine r_iret (pc := 31) dX8_come_31 rfl ⟨Nat.le_of_ble_eq_true rfl, Nat.le_of_ble_eq_true rfl⟩ <| ?_
    first
      | (rw [if_neg (fun q => q1 q.1)] at hQ; exact hQ _ g1 g2)
      | (rw [if_neg (fun q => q.2 q2)] at hQ; exact hQ _ g1 g2)
theorem isC.txt {bk' : Int → Int} (hC : isC h n s) (w1 : h' 1 = some (oW 1 bk')) (ht : wA h' 10 160 0 255 264 bk') (hB : isBk h' 16 (parse (txB bk') (bk' 1))) (eo : ∀ j, ¬ (j = 1 ∨ 264 ≤ j ∧ j < 424) → bk' j = s.bk j) (hF : Fr (fun q => q = 1 ∨ q = 10 ∨ 16 ≤ q ∧ q < 23) h h') : isC h' n (s.sbk bk') := by
  obtain ⟨u0, u1, u2, u3, u4, u5, u6, u7⟩ := isW_iff.mp hC.2.1
  exact hC.upd (s' := s.sbk bk') ⟨rfl, rfl⟩ (hF.keep hC.1 (by omega)) (isW_iff.mpr ⟨w1, u1.fr (fun q a b => hF q (by omega)) (fun j a => eo j (by omega)), u2.fr (fun q a b => hF q (by omega)) (fun j a b => eo j (by omega)), ht, u4.fr (hF 11 (by omega)) (fun j a b => eo j (by omega)), u5.fr (hF 12 (by omega)) (fun j a b => eo j (by omega)), u6.fr (hF 13 (by omega)) (fun j a b => eo j (by omega)), u7.fr (hF 14 (by omega)) (fun j a b => eo j (by omega))⟩) hB (hC.2.2.2.1.fr (fun q a b => hF q (by omega))) (hF.wk (fun q => by omega))
theorem cs_read {r0 : Int × List IT} {tx bk' : Int → Int} {len : Int} (hk : isBk h 16 r0) (c10 : h 10 = some (aA 160 tx)) (dt : Bd tx 0 255) (rt : REq tx bk' 264 160) (hl : 0 ≤ bk' 1 ∧ bk' 1 ≤ 160) (el : len = bk' 1) (hQ : ∀ h', isBk h' 16 (parse (txB bk') (bk' 1)) → Fr (fun q => 16 ≤ q ∧ q < 23) h h' → Q none n h') : Cl G mX0_read [vR 16, vR 10, vI len] n h Q := by
  subst el
  refine sp_bread hk c10 dt hl (by omega) (fun h1 k hF => hQ h1 ?_ (hF.wk (fun q => by omega)))
  rw [parse_congr (tx := txB bk') (tx' := tx) (fun k a b => (rt k a (by omega)).symm) hl.1]
  exact k
theorem cs_clear (hC : isC h n s) (hQ : ∀ h', isC h' n (fClear s).2 → Fr CR h h' → Q (some (vI (fClear s).1)) n h') : Cl G mX8_clear [vR 0] n h Q := by
  obtain ⟨kd, ag, ld, rk, ow, la, tx, qu, wa, lg, ev, c0, c1, c2, c3, c4, c5, c6, c7, c8, c9, c10, c11, c12, c13, c14, ⟨-, -, dt, -⟩, -, -, rt, -⟩ := hC.opn
  have eo : ∀ j, ¬ j = 1 → iu s.bk 1 0 j = s.bk j := fun j hj => iu_n hj
  have rt' : REq tx (iu s.bk 1 0) 264 160 := fun i a b => by rw [eo _ (by omega)]; exact rt i a b
  unfold fClear at hQ
  obtain ⟨bsz, bab, bro, bco, ble, bak, c16, -⟩ := hC.bkf
  refine cl_of (by decide) (Nat.le_of_ble_eq_true rfl) rfl ?_
  refine r_aload_n (pc := 0) dX8_clear_0 rfl <| r_getf (pc := 1) dX8_clear_1 fA_X8_12 c0 rfl <| r_getf (pc := 4) dX8_clear_4 fA_X8_130 c1 rfl <| r_istoren_1 (pc := 7) dX8_clear_7 rfl <| r_aload_n (pc := 8) dX8_clear_8 rfl <| r_getf (pc := 9) dX8_clear_9 fA_X8_12 c0 rfl <| r_iconst (pc := 12) dX8_clear_12 <| r_putf (pc := 13) dX8_clear_13 fP_X8_130 rfl rfl c1 rfl (fun h_13 c1 hF_13 => ?_)
  simp only [List.set_cons_zero, List.set_cons_succ] at c1
  replace c0 := hF_13.keep c0 (by omega)
  replace c2 := hF_13.keep c2 (by omega)
  replace c7 := hF_13.keep c7 (by omega)
  replace c16 := hF_13.keep c16 (by omega)
  refine r_aload_n (pc := 16) dX8_clear_16 rfl <| r_getf (pc := 17) dX8_clear_17 fA_X8_23 c0 rfl <| r_aload_n (pc := 20) dX8_clear_20 rfl <| r_getf (pc := 21) dX8_clear_21 fA_X8_12 c0 rfl <| r_getf (pc := 24) dX8_clear_24 fA_X8_133 c1 rfl <| r_aload_n (pc := 27) dX8_clear_27 rfl <| r_getf (pc := 28) dX8_clear_28 fA_X8_12 c0 rfl <| r_getf (pc := 31) dX8_clear_31 fA_X8_130 c1 rfl <| cVv [_, _] (pc := 34) dX8_clear_34 k_X8_136 ⟨⟨Nat.le_of_ble_eq_true rfl, Nat.le_of_ble_eq_true rfl⟩, ⟨Nat.le_of_ble_eq_true rfl, Nat.le_of_ble_eq_true rfl⟩, Nat.le_of_ble_eq_true rfl⟩ ⟨rfl, rfl⟩ c16 ?_
  refine cs_read (bk' := iu s.bk 1 0) (hC.2.2.1.fr (fun q a b => hF_13 q (by omega))) (hF_13.keep c10 (by omega)) dt rt' (by rw [iu_s]; omega) (iu_s _ _ _).symm (fun h1 kB hF1 => ?_)
  refine ⟨rfl, ?_⟩
  refine r_iload_n (pc := 37) dX8_clear_37 rfl <| r_iret (pc := 38) dX8_clear_38 rfl ⟨Nat.le_of_ble_eq_true rfl, Nat.le_of_ble_eq_true rfl⟩ <| ?_
  have hF : Fr (fun q => q = 1 ∨ q = 10 ∨ 16 ≤ q ∧ q < 23) h h1 := fun q hq => (hF1 q (by omega)).trans (hF_13 q (by omega))
  refine hQ _ (hC.txt ?_ ⟨tx, hF1.keep (hF_13.keep c10 (by omega)) (by omega), dt, rt'⟩ kB (fun j hj => eo j (by omega)) hF) (hF.wk (fun q => by omega))
  unfold oW
  rw [eo 2 (by omega), eo 3 (by omega), iu_s]
  exact hF1.keep c1 (by omega)
theorem lp_ctype {v m : Int} {s0 : SS} {bk0 : Int → Int} (hI : Inv bk0) : ∀ (q : Nat) (k : Int) (h : Hp) (b tx : Int → Int), k + 1 = q → q ≤ 8 → h 0 = some (oC s0) → h 1 = some (oW 1 b) → h 10 = some (aA 160 tx) → Bd tx 0 255 → REq tx b 264 160 → 0 ≤ b 1 ∧ b 1 + q ≤ 160 →
    (∀ h' tx' k', h' 1 = some (oW 1 (tyB v q b)) → h' 10 = some (aA 160 tx') → Bd tx' 0 255 → REq tx' (tyB v q b) 264 160 → Fr (fun j => j = 1 ∨ j = 10) h h' → At G mX8_type 93 [vR 0, vJ v, vU, vI m, vI k'] [] (0, 0, n) h' Q) → At G mX8_type 42 [vR 0, vJ v, vU, vI m, vI k] [] (0, 0, n) h Q := by
  intro q
  induction q with
  | zero =>
    intro k h b tx hk h8 c0 c1 c10 dt rt hb hQ
    refine r_iload (pc := 42) dX8_type_42 rfl <| r_if_lt (pc := 44) 93 dX8_type_44 (by decide) (by omega) (fun hc_44 => ?_) (fun hc_44 => ?_)
    · skip
      exact hQ h tx k c1 c10 dt rt Fr.rf
    · skip
      exfalso; omega
  | succ q ih =>
    intro k h b tx hk h8 c0 c1 c10 dt rt hb hQ
    obtain rfl : k = (q : Int) := by omega
    have hby := byt_in v q
    have e8 : (8 * (q : Int)) = ((8 * q : Nat) : Int) := by omega
    have eb1 : iu (iu b (264 + b 1) (byt v q)) 1 (b 1 + 1) 1 = b 1 + 1 := iu_s _ _ _
    have eo : ∀ j, ¬ (j = 1 ∨ j = 264 + b 1) → iu (iu b (264 + b 1) (byt v q)) 1 (b 1 + 1) j = b j := fun j hj => by rw [iu_n (by omega), iu_n (by omega)]
    refine r_iload (pc := 42) dX8_type_42 rfl <| r_if_lt (pc := 44) 93 dX8_type_44 (by decide) (by omega) (fun hc_44 => ?_) (fun hc_44 => ?_)
    · skip
      exfalso; omega
    · skip
      refine r_aload_n (pc := 47) dX8_type_47 rfl <| r_getf (pc := 48) dX8_type_48 fA_X8_12 c0 rfl <| r_getf (pc := 51) dX8_type_51 fA_X8_133 c1 rfl <| r_aload_n (pc := 54) dX8_type_54 rfl <| r_getf (pc := 55) dX8_type_55 fA_X8_12 c0 rfl <| r_getf (pc := 58) dX8_type_58 fA_X8_130 c1 rfl <| r_lload_n (pc := 61) dX8_type_61 rfl <| r_bipush (pc := 62) dX8_type_62 (by decide) <| r_iload (pc := 64) dX8_type_64 rfl <| r_imul (pc := 66) dX8_type_66 <| r_lushr (pc := 67) ((Int64.ofInt v).toUInt64 >>> ((Int32.ofInt (8 * (q : Int))).toInt64.toUInt64 &&& Int64.toUInt64 63)).toInt64.toInt dX8_type_67 (Int64.ofInt_toInt _).symm <| r_l2i (pc := 68) ((((Int64.ofInt v).toUInt64 >>> ((Int32.ofInt (8 * (q : Int))).toInt64.toUInt64 &&& Int64.toUInt64 63)).toInt64).toInt32).toInt dX8_type_68 (by rw [Int64.ofInt_toInt, Int32.ofInt_toInt]) <| r_sipush (pc := 69) dX8_type_69 (by decide) <| r_iand (pc := 72) (byt v q) dX8_type_72 (by rw [Int32.ofInt_toInt, e8]; exact byt_c v q (by omega)) <| r_iast (pc := 73) dX8_type_73 c10 (by omega) (by decide) (fun h_73 c10 hF_73 => ?_)
      replace c0 := hF_73.keep c0 (by omega)
      replace c1 := hF_73.keep c1 (by omega)
      refine r_aload_n (pc := 74) dX8_type_74 rfl <| r_getf (pc := 75) dX8_type_75 fA_X8_12 c0 rfl <| r_dup (pc := 78) dX8_type_78 rfl <| r_getf (pc := 79) dX8_type_79 fA_X8_130 c1 rfl <| r_iconst (pc := 82) dX8_type_82 <| r_iadd (pc := 83) dX8_type_83 <| r_putf (pc := 84) dX8_type_84 fP_X8_130 rfl rfl c1 rfl (fun h_84 c1 hF_84 => ?_)
      simp only [List.set_cons_zero, List.set_cons_succ] at c1
      replace c0 := hF_84.keep c0 (by omega)
      replace c10 := hF_84.keep c10 (by omega)
      refine r_iinc_4 (pc := 87) dX8_type_87 rfl rfl <| r_goto (pc := 90) 42 dX8_type_90 (by decide) <| ?_
      have hF : Fr (fun j => j = 1 ∨ j = 10) h h_84 := fun j hj => (hF_84 j (by omega)).trans (hF_73 j (by omega))
      have c1' : h_84 1 = some (oW 1 (iu (iu b (264 + b 1) (byt v q)) 1 (b 1 + 1))) := by
        unfold oW
        rw [eb1, eo 2 (by omega), eo 3 (by omega)]
        exact c1
      refine ih _ h_84 _ _ (by omega) (by omega) c0 c1' c10 (dt.iu (by omega)) (fun i a b' => ?_) (by rw [eb1]; omega) (fun h' tx' k' a1 a2 a3 a4 a5 => hQ h' tx' k' a1 a2 a3 a4 (fun j hj => (a5 j hj).trans (hF j hj)))
      by_cases e : i = b 1
      · rw [e, iu_s, iu_n (by omega), iu_s]
      · rw [iu_n e, eo _ (by omega)]; exact rt i a b'
theorem tyB_out {v : Int} : ∀ (k : Nat) (b : Int → Int) (j : Int), 0 ≤ b 1 → b 1 + k ≤ 160 → ¬ (j = 1 ∨ 264 ≤ j ∧ j < 424) → tyB v k b j = b j := by
  intro k
  induction k with
  | zero => intro b j _ _ _; rfl
  | succ k ih =>
    intro b j h0 h1 hj
    rw [tyB, ih _ _ (by rw [iu_s]; omega) (by rw [iu_s]; omega) hj, iu_n (by omega), iu_n (by omega)]
theorem cs_type {v k : Int} (hC : isC h n s) (hI : Inv s.bk) (hk : inI k) (hQ : ∀ h', isC h' n (fType s v k).2 → Fr CR h h' → Q (some (vI (fType s v k).1)) n h') : Cl G mX8_type [vR 0, vJ v, vI k] n h Q := by
  obtain ⟨kd, ag, ld, rk, ow, la, tx, qu, wa, lg, ev, c0, c1, c2, c3, c4, c5, c6, c7, c8, c9, c10, c11, c12, c13, c14, ⟨-, -, dt, -⟩, -, -, rt, -⟩ := hC.opn
  have i1 := hI.1.2.1
  unfold fType at hQ
  refine cl_of (by decide) (Nat.le_of_ble_eq_true rfl) rfl ?_
  refine r_iload_n (pc := 0) dX8_type_0 rfl <| r_iconst (pc := 1) dX8_type_1 <| r_bipush (pc := 2) dX8_type_2 (by decide) <| cSi [_, _, _] (pc := 4) dX8_type_4 k_X8_78 ⟨⟨Nat.le_of_ble_eq_true rfl, Nat.le_of_ble_eq_true rfl⟩, ⟨Nat.le_of_ble_eq_true rfl, Nat.le_of_ble_eq_true rfl⟩, Nat.le_of_ble_eq_true rfl⟩ ⟨rfl, rfl⟩ ?_
  refine sp_within (by omega) (by omega) (by omega) (fun q1 => ?_) (fun q1 => ?_)
  · skip
    refine ⟨_, rfl, ?_⟩
    refine r_if_ne (pc := 7) 17 dX8_type_7 (by decide) (by decide) (fun _ => ?_) (fun q => absurd q (by decide))
    refine r_aload_n (pc := 17) dX8_type_17 rfl <| r_getf (pc := 18) dX8_type_18 fA_X8_12 c0 rfl <| r_getf (pc := 21) dX8_type_21 fA_X8_130 c1 rfl <| r_iload_n (pc := 24) dX8_type_24 rfl <| r_iadd (pc := 25) dX8_type_25 <| r_sipush (pc := 26) dX8_type_26 (by decide) <| r_icmp_le (pc := 29) 37 dX8_type_29 (by decide) (by omega) (by omega) (fun hc_29 => ?_) (fun hc_29 => ?_)
    · skip
      refine r_iload_n (pc := 37) dX8_type_37 rfl <| r_iconst (pc := 38) dX8_type_38 <| r_isub (pc := 39) dX8_type_39 <| r_istore_4 (pc := 40) dX8_type_40 rfl <| ?_
      rw [if_neg (by omega), if_neg (by omega)] at hQ
      have hty := tyB_1 v k.toNat s.bk
      refine lp_ctype hI k.toNat _ h s.bk tx (by omega) (by omega) c0 c1 c10 dt rt (by omega) (fun h1 tx1 k' a1 a2 a3 a4 a5 => ?_)
      clear c1 c10
      have c1 := a1
      replace c0 := a5.keep c0 (by omega)
      obtain ⟨bsz, bab, bro, bco, ble, bak, c16, -⟩ := hC.bkf
      replace c16 := a5.keep c16 (by omega)
      refine r_aload_n (pc := 93) dX8_type_93 rfl <| r_getf (pc := 94) dX8_type_94 fA_X8_23 c0 rfl <| r_aload_n (pc := 97) dX8_type_97 rfl <| r_getf (pc := 98) dX8_type_98 fA_X8_12 c0 rfl <| r_getf (pc := 101) dX8_type_101 fA_X8_133 c1 rfl <| r_aload_n (pc := 104) dX8_type_104 rfl <| r_getf (pc := 105) dX8_type_105 fA_X8_12 c0 rfl <| r_getf (pc := 108) dX8_type_108 fA_X8_130 c1 rfl <| cVv [_, _] (pc := 111) dX8_type_111 k_X8_136 ⟨⟨Nat.le_of_ble_eq_true rfl, Nat.le_of_ble_eq_true rfl⟩, ⟨Nat.le_of_ble_eq_true rfl, Nat.le_of_ble_eq_true rfl⟩, Nat.le_of_ble_eq_true rfl⟩ ⟨rfl, rfl⟩ c16 ?_
      refine cs_read (bk' := tyB v k.toNat s.bk) (hC.2.2.1.fr (fun q a b => a5 q (by omega))) a2 a3 a4 (by omega) rfl (fun h2 kB hF1 => ?_)
      refine ⟨rfl, ?_⟩
      replace c0 := hF1.keep c0 (by omega)
      replace c1 := hF1.keep c1 (by omega)
      refine r_aload_n (pc := 114) dX8_type_114 rfl <| r_getf (pc := 115) dX8_type_115 fA_X8_12 c0 rfl <| r_getf (pc := 118) dX8_type_118 fA_X8_130 c1 rfl <| r_iret (pc := 121) dX8_type_121 rfl ⟨Nat.le_of_ble_eq_true rfl, Nat.le_of_ble_eq_true rfl⟩ <| ?_
      have hF : Fr (fun q => q = 1 ∨ q = 10 ∨ 16 ≤ q ∧ q < 23) h h2 := fun q hq => (hF1 q (by omega)).trans (a5 q (by omega))
      refine qI (by omega) (hQ _ (hC.txt c1 ⟨tx1, hF1.keep a2 (by omega), a3, a4⟩ kB (fun j hj => tyB_out k.toNat s.bk j (by omega) (by omega) hj) hF) (hF.wk (fun q => by omega)))
    · skip
      refine r_aload_n (pc := 32) dX8_type_32 rfl <| cVi [] (pc := 33) dX8_type_33 k_X8_95 ⟨⟨Nat.le_of_ble_eq_true rfl, Nat.le_of_ble_eq_true rfl⟩, ⟨Nat.le_of_ble_eq_true rfl, Nat.le_of_ble_eq_true rfl⟩, Nat.le_of_ble_eq_true rfl⟩ ⟨rfl, rfl⟩ c0 ?_
      refine cs_full hC (fun h1 g1 g2 => ?_)
      refine ⟨_, rfl, ?_⟩
      refine r_iret (pc := 36) dX8_type_36 rfl ⟨Nat.le_of_ble_eq_true rfl, Nat.le_of_ble_eq_true rfl⟩ <| ?_
      rw [if_neg (by omega), if_pos (by omega)] at hQ; exact hQ _ g1 g2
  · skip
    refine ⟨_, rfl, ?_⟩
    refine r_if_ne (pc := 7) 17 dX8_type_7 (by decide) (by decide) (fun q => absurd q (by decide)) (fun _ => ?_)
    refine r_aload_n (pc := 10) dX8_type_10 rfl <| r_bipush (pc := 11) dX8_type_11 (by decide) <| cVi [_] (pc := 13) dX8_type_13 k_X8_82 ⟨⟨Nat.le_of_ble_eq_true rfl, Nat.le_of_ble_eq_true rfl⟩, ⟨Nat.le_of_ble_eq_true rfl, Nat.le_of_ble_eq_true rfl⟩, Nat.le_of_ble_eq_true rfl⟩ ⟨rfl, rfl⟩ c0 ?_
    refine cs_bad hC (fun h1 g1 g2 => ?_)
    refine ⟨_, rfl, ?_⟩
    refine r_iret (pc := 16) dX8_type_16 rfl ⟨Nat.le_of_ble_eq_true rfl, Nat.le_of_ble_eq_true rfl⟩ <| ?_
    rw [if_pos (by omega)] at hQ; exact hQ _ g1 g2
end CP3


