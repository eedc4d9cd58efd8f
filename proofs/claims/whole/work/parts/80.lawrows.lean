/-! ===== rows of the law ===== -/
/-- the law's method: its room is the claim's -/
def mLw (nm : String) : MT := (⟨RL, nm, "([I)Z"⟩, cL_law, 4, some .boolean, 9, 354, 600000, 7302250)
/-- a number of the script -/
def scI (G : GT) (j : Nat) : Int := (scX G j).toInt
theorem scI_in (G : GT) (j : Nat) : inI (scI G j) := ⟨Int32.le_toInt _, Int32.toInt_lt _⟩
section LR
variable {G : GT} {y : MT} {pc : Nat} {L st : List AV} {a : AL} {h : Hp} {Q : PT} {c0 s0 n0 : Nat}
theorem r_slen {b Ln : Nat} (hd : decode y.cd pc = .ok (.arraylength, 1)) (hb : G.2.2.2.2 25 = some b) (hL : G.2.2.2.2 26 = some Ln) (k : At G y (pc + 1) L (vI (Ln : Int) :: st) a h Q) : At G y pc L (vO 25 :: st) a h Q := by
  intro p e R s m args below meth c H locs LS F w1 w2 w3
  have ⟨f1, f2, f3, f4, f5, f6, f7, f8, f9, f10, f11, f12⟩ := F
  obtain ⟨k1, k2, k3⟩ := f11.2.2.2.2 b Ln hb hL
  have kk := k p e R s m args below meth c H locs LS F w1 w2 w3
  rw [List.map_cons] at kk ⊢
  rw [show cv G (vO 25) = .ref b by show va_rf (G.2.2.2.2 25) = _; rw [hb]; rfl]
  exact va_slen f1 f2 k1 k2 k3 w2 hd kk
theorem r_sld {b Ln : Nat} {x : Int} (hd : decode y.cd pc = .ok (.iaload, 1)) (hb : G.2.2.2.2 25 = some b) (hL : G.2.2.2.2 26 = some Ln) (hn : Ln < 2147483648) (hx : 0 ≤ x ∧ x < Ln) (k : At G y (pc + 1) L (vI (scI G x.toNat) :: st) a h Q) : At G y pc L (vI x :: vO 25 :: st) a h Q := by
  intro p e R s m args below meth c H locs LS F w1 w2 w3
  have ⟨f1, f2, f3, f4, f5, f6, f7, f8, f9, f10, f11, f12⟩ := F
  obtain ⟨k1, k2, k3⟩ := f11.2.2.2.2 b Ln hb hL
  have kk := k p e R s m args below meth c H locs LS F w1 w2 w3
  rw [List.map_cons] at kk
  rw [List.map_cons, List.map_cons]
  rw [show cv G (vO 25) = .ref b by show va_rf (G.2.2.2.2 25) = _; rw [hb]; rfl]
  have hcl : (Int32.ofInt x).toNatClampNeg = x.toNat := by
    have := i_clamp (a := x) (n := Ln) hx hn
    omega
  have e1 : cv G (vI (scI G x.toNat)) = .int (scX G (Int32.ofInt x).toNatClampNeg) := by
    rw [hcl]
    show Value.int (Int32.ofInt (scX G x.toNat).toInt) = _
    rw [Int32.ofInt_toInt]
  rw [e1] at kk
  exact va_sld f1 f2 k1 k2 k3 w2 (i_vin hx hn) hd kk
theorem r_eqS {x : Int} {off : Int} (t : Nat) (hd : decode y.cd pc = .ok (.if_icmp .eq off, 3)) (ht : (pc : Int) + off = (t : Int)) (k : At G y t L st a h Q) : At G y pc L (vI x :: vI x :: st) a h Q := by
  intro p e R s m args below meth c H locs LS F w1 w2 w3
  refine lv_icmp_eq F.1 F.2.1 hd ht (fun q => ?_) (fun q => ?_)
  · exact k p e R s m args below meth c H locs LS F w1 w2 w3
  · exact absurd rfl q
theorem r_lcS {x : Int} {off : Int} (t : Nat) (hd : decode y.cd pc = .ok (.lcmp, 1)) (hd2 : decode y.cd (pc + 1) = .ok (.ifCond .eq off, 3)) (ht : ((pc + 1 : Nat) : Int) + off = (t : Int)) (k : At G y t L st a h Q) : At G y pc L (vJ x :: vJ x :: st) a h Q := by
  intro p e R s m args below meth c H locs LS F w1 w2 w3
  have e0 : lg_cmp (Int64.ofInt x) (Int64.ofInt x) = 0 := by
    unfold lg_cmp
    rw [if_neg (by exact Int64.lt_irrefl), if_pos rfl]
  refine W.lcmp F.1 F.2.1 hd ?_
  rw [e0]
  refine lv_if_eq F.1 F.2.1 hd2 ht (fun q => ?_) (fun q => ?_)
  · exact k p e R s m args below meth c H locs LS F w1 w2 w3
  · exact absurd rfl q
theorem cVa {i j ci : Nat} {fs : List AV} {y1 : MT} (as : List AV) (hd : decode y.cd pc = .ok (.invokevirtual i, 3)) (hl : LkV y.nm.cls i y1 as.length ci) (hf : Fit y y1 (c0, s0, n0) st) (ho : h j = some (aO ci fs)) (kk : Cl G y1 (vR j :: as) n0 h (fun r n' h' => ∃ v, r = some v ∧ At G y (pc + 3) L (v :: st) (c0 + y1.mc, s0 + y1.ms, n') h' Q)) : At G y pc L (as.reverse ++ vR j :: st) (c0, s0, n0) h Q := by
  refine r_invV (a := (c0, s0, n0)) (as := as) hd hl hf ho (kk.mono ?_)
  rintro r n' h' ⟨v, rfl, q⟩
  exact q
end LR
theorem i_and31 {x : Int} (hx : inI x) : Int32.ofInt x &&& Int32.ofInt 31 = Int32.ofInt (x % 32) := by
  apply Int32.toBitVec_inj.mp
  rw [Int32.toBitVec_and]
  show BitVec.ofInt 32 x &&& BitVec.ofInt 32 31 = BitVec.ofInt 32 (x % 32)
  apply BitVec.eq_of_toNat_eq
  rw [BitVec.toNat_and]
  simp only [BitVec.toNat_ofInt]
  rw [show ((31 : Int) % ((2 ^ 32 : Nat) : Int)).toNat = 2 ^ 5 - 1 by decide, Nat.and_two_pow_sub_one_eq_mod]
  omega
section LW
variable {h h' : Hp} {n : Nat} {s : SS}
theorem isM.cr (hM : isM h s) (hF : Fr CR h h') : isM h' s := by
  obtain ⟨e, it, im, kp, rf, hd, ln, gs, bs, cs, fr, lf, g45, ge, g9, g46, g47, g48, g49, g50, gi, g51, g52, g53, g54, g55, g56, g57, gr⟩ := hM
  exact ⟨e, it, im, kp, rf, hd, ln, gs, bs, cs, fr, lf, hF.keep g45 (by omega), ge, g9, hF.keep g46 (by omega), hF.keep g47 (by omega), hF.keep g48 (by omega), hF.keep g49 (by omega), hF.keep g50 (by omega), gi, hF.keep g51 (by omega), hF.keep g52 (by omega), hF.keep g53 (by omega), hF.keep g54 (by omega), hF.keep g55 (by omega), hF.keep g56 (by omega), hF.keep g57 (by omega), gr⟩
theorem isC.mr (hC : isC h n s) (hF : Fr MR h h') : isC h' n s := by
  obtain ⟨c0, c1, c2, c3, g, c15, ci⟩ := hC
  exact ⟨hF.keep c0 (by omega), c1.fr (fun q a b => hF q (by omega)), c2.fr (fun q a b => hF q (by omega)), c3.fr (fun q a b => hF q (by omega)), g, hF.keep c15 (by omega), ci.fr (fun q a => hF q (by omega))⟩
end LW

