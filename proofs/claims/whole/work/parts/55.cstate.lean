/-! ===== the class: its state in pieces ===== -/
def wP (h : Hp) (w : Nat) (bk : Int → Int) : Prop := ∃ kd ag ld rk : Int → Int, isP h (w + 1) (bk 0) kd ag ld rk ∧ (Bd kd 0 5 ∧ Bd ag 0 99 ∧ Bd ld 0 9 ∧ Bd rk 0 9) ∧ RP bk kd ag ld rk
def wB (h : Hp) (w : Nat) (bk : Int → Int) : Prop := ∃ ow la : Int → Int, isB h (w + 6) ow la ∧ (Bd ow 0 99 ∧ Bd la (-1) 7) ∧ RO bk ow la
def wA (h : Hp) (c N : Nat) (lo hi off : Int) (bk : Int → Int) : Prop := ∃ f : Int → Int, h c = some (aA N f) ∧ Bd f lo hi ∧ REq f bk off N
abbrev oW (w : Nat) (bk : Int → Int) : AE := aO 7 [vR (w + 1), vR (w + 6), vR (w + 9), vI (bk 1), vR (w + 10), vI (bk 2), vR (w + 11), vR (w + 12), vR (w + 13), vI (bk 3)]
theorem isW_iff {h : Hp} {w : Nat} {bk : Int → Int} : isW h w bk ↔ h w = some (oW w bk) ∧ wP h w bk ∧ wB h w bk ∧ wA h (w + 9) 160 0 255 264 bk ∧ wA h (w + 10) 8 0 7 164 bk ∧ wA h (w + 11) 6 (-1) 7 172 bk ∧ wA h (w + 12) 36 0 99 180 bk ∧ wA h (w + 13) 48 0 7 216 bk := by
  constructor
  · rintro ⟨kd, ag, ld, rk, ow, la, tx, qu, wa, lg, ev, w1, p, b, wt, wq, ww, wl, we, ⟨dp, db, dt, dq, dw, dl, de⟩, rp, ro, rt, rq, rw, rl, re⟩
    exact ⟨w1, ⟨kd, ag, ld, rk, p, dp, rp⟩, ⟨ow, la, b, db, ro⟩, ⟨tx, wt, dt, rt⟩, ⟨qu, wq, dq, rq⟩, ⟨wa, ww, dw, rw⟩, ⟨lg, wl, dl, rl⟩, ⟨ev, we, de, re⟩⟩
  · rintro ⟨w1, ⟨kd, ag, ld, rk, p, dp, rp⟩, ⟨ow, la, b, db, ro⟩, ⟨tx, wt, dt, rt⟩, ⟨qu, wq, dq, rq⟩, ⟨wa, ww, dw, rw⟩, ⟨lg, wl, dl, rl⟩, ⟨ev, we, de, re⟩⟩
    exact ⟨kd, ag, ld, rk, ow, la, tx, qu, wa, lg, ev, w1, p, b, wt, wq, ww, wl, we, ⟨dp, db, dt, dq, dw, dl, de⟩, rp, ro, rt, rq, rw, rl, re⟩
section WF
variable {h h' : Hp} {w c N b : Nat} {bk bk' : Int → Int}
theorem wP.fr (hp : wP h w bk) (hc : ∀ q, w + 1 ≤ q → q ≤ w + 5 → h' q = h q) (hb : ∀ j, (j = 0 ∨ 4 ≤ j ∧ j < 36) → bk' j = bk j) : wP h' w bk' := by
  obtain ⟨kd, ag, ld, rk, ⟨p0, p1, p2, p3, p4⟩, dp, rp⟩ := hp
  refine ⟨kd, ag, ld, rk, ⟨?_, (hc _ (by omega) (by omega)).trans p1, (hc _ (by omega) (by omega)).trans p2, (hc _ (by omega) (by omega)).trans p3, (hc _ (by omega) (by omega)).trans p4⟩, dp, fun i a b => ?_⟩
  · rw [hb 0 (by omega)]; exact (hc _ (by omega) (by omega)).trans p0
  · rw [hb (4 + 4 * i) (by omega), hb (4 + 4 * i + 1) (by omega), hb (4 + 4 * i + 2) (by omega), hb (4 + 4 * i + 3) (by omega)]; exact rp i a b
theorem RO.out {ow la : Int → Int} (hr : RO bk ow la) (hb : ∀ j, 36 ≤ j → j < 164 → bk' j = bk j) : RO bk' ow la := by
  refine ⟨fun i a b => ?_, fun x y a b c => ?_⟩
  · rw [hb _ (by omega) (by omega)]; exact hr.1 i a b
  · rw [hb _ (by omega) (by omega)]; exact hr.2 x y a b c
theorem wB.fr (hp : wB h w bk) (hc : ∀ q, w + 6 ≤ q → q ≤ w + 8 → h' q = h q) (hb : ∀ j, 36 ≤ j → j < 164 → bk' j = bk j) : wB h' w bk' := by
  obtain ⟨ow, la, ⟨p0, p1, p2⟩, dp, rp⟩ := hp
  exact ⟨ow, la, ⟨(hc _ (by omega) (by omega)).trans p0, (hc _ (by omega) (by omega)).trans p1, (hc _ (by omega) (by omega)).trans p2⟩, dp, rp.out hb⟩
theorem wA.fr {lo hi off : Int} (hp : wA h c N lo hi off bk) (hc : h' c = h c) (hb : ∀ j, off ≤ j → j < off + N → bk' j = bk j) : wA h' c N lo hi off bk' := by
  obtain ⟨f, p0, dp, rp⟩ := hp
  exact ⟨f, hc.trans p0, dp, fun i a b => by rw [hb _ (by omega) (by omega)]; exact rp i a b⟩
theorem isW.fr (hW : isW h w bk) (hc : ∀ q, w ≤ q → q < w + 14 → h' q = h q) : isW h' w bk := by
  obtain ⟨h0, h1, h2, h3, h4, h5, h6, h7⟩ := isW_iff.mp hW
  exact isW_iff.mpr ⟨(hc _ (by omega) (by omega)).trans h0, h1.fr (fun q a b => hc q (by omega) (by omega)) (fun _ _ => rfl), h2.fr (fun q a b => hc q (by omega) (by omega)) (fun _ _ _ => rfl), h3.fr (hc _ (by omega) (by omega)) (fun _ _ _ => rfl), h4.fr (hc _ (by omega) (by omega)) (fun _ _ _ => rfl), h5.fr (hc _ (by omega) (by omega)) (fun _ _ _ => rfl), h6.fr (hc _ (by omega) (by omega)) (fun _ _ _ => rfl), h7.fr (hc _ (by omega) (by omega)) (fun _ _ _ => rfl)⟩
theorem isBk.fr {r : Int × List IT} (hk : isBk h b r) (hc : ∀ q, b ≤ q → q < b + 7 → h' q = h q) : isBk h' b r := by
  obtain ⟨⟨tt, len, nx, pl, va, hT⟩, hk2⟩ := hk
  refine ⟨⟨tt, len, nx, pl, va, (hc _ (by omega) (by omega)).trans hT⟩, ?_⟩
  rcases hk2 with ⟨e, ro, co, le, ak, ab, g1, g2, g3, g4, g5, g6⟩ | ⟨e, ro, co, le, ak, ab, m, g1, g2, g3, g4, g5, g6⟩
  · exact Or.inl ⟨e, ro, co, le, ak, ab, (hc _ (by omega) (by omega)).trans g1, (hc _ (by omega) (by omega)).trans g2, (hc _ (by omega) (by omega)).trans g3, (hc _ (by omega) (by omega)).trans g4, (hc _ (by omega) (by omega)).trans g5, g6⟩
  · exact Or.inr ⟨e, ro, co, le, ak, ab, m, (hc _ (by omega) (by omega)).trans g1, (hc _ (by omega) (by omega)).trans g2, (hc _ (by omega) (by omega)).trans g3, (hc _ (by omega) (by omega)).trans g4, (hc _ (by omega) (by omega)).trans g5, g6⟩
theorem isTk.fr (hk : isTk h b) (hc : ∀ q, b ≤ q → q < b + 7 → h' q = h q) : isTk h' b := by
  obtain ⟨ro, co, le, ak, fa, sz, ab, len, nx, pl, va, tt, g0, g1, g2, g3, g4, g5, g6⟩ := hk
  exact ⟨ro, co, le, ak, fa, sz, ab, len, nx, pl, va, tt, (hc _ (by omega) (by omega)).trans g0, (hc _ (by omega) (by omega)).trans g1, (hc _ (by omega) (by omega)).trans g2, (hc _ (by omega) (by omega)).trans g3, (hc _ (by omega) (by omega)).trans g4, (hc _ (by omega) (by omega)).trans g5, g6⟩
def xT (h : Hp) : Prop := ∃ a b c : Int, h 30 = some (aO 5 [vI a, vI b, vI c])
def xP (h : Hp) : Prop := h 31 = some (aO 3 [vR 32, vR 33, vR 34, vR 35, vR 36]) ∧ ∃ f1 f2 f3 f4 f5 : Int → Int, h 32 = some (aA 64 f1) ∧ h 33 = some (aA 64 f2) ∧ h 34 = some (aA 8 f3) ∧ h 35 = some (aA 8 f4) ∧ h 36 = some (aA 8 f5)
def xJ (h : Hp) : Prop := ∃ (st : Int) (f1 f2 f3 : Int → Int), h 37 = some (aO 2 [vR 38, vR 39, vR 40, vI st]) ∧ h 38 = some (aA 6 f1) ∧ h 39 = some (aA 6 f2) ∧ h 40 = some (aA 6 f3)
def xB (h : Hp) : Prop := ∃ f1 f2 : Int → Int, isB h 41 f1 f2 ∧ Bd f1 0 99 ∧ Bd f2 (-1) 7
def xN (h : Hp) : Prop := ∃ f : Int → Int, h 44 = some (aA 64 f)
theorem isX_iff : isX h ↔ xT h ∧ xP h ∧ xJ h ∧ xB h ∧ xN h ∧ isTk h 23 := Iff.rfl
theorem xT.fr (k : xT h) (e : h' 30 = h 30) : xT h' := by
  obtain ⟨a, b, c, k⟩ := k; exact ⟨a, b, c, e.trans k⟩
theorem xP.fr (k : xP h) (hc : ∀ q, 31 ≤ q → q ≤ 36 → h' q = h q) : xP h' := by
  obtain ⟨k0, f1, f2, f3, f4, f5, k1, k2, k3, k4, k5⟩ := k
  exact ⟨(hc _ (by omega) (by omega)).trans k0, f1, f2, f3, f4, f5, (hc _ (by omega) (by omega)).trans k1, (hc _ (by omega) (by omega)).trans k2, (hc _ (by omega) (by omega)).trans k3, (hc _ (by omega) (by omega)).trans k4, (hc _ (by omega) (by omega)).trans k5⟩
theorem xJ.fr (k : xJ h) (hc : ∀ q, 37 ≤ q → q ≤ 40 → h' q = h q) : xJ h' := by
  obtain ⟨st, f1, f2, f3, k0, k1, k2, k3⟩ := k
  exact ⟨st, f1, f2, f3, (hc _ (by omega) (by omega)).trans k0, (hc _ (by omega) (by omega)).trans k1, (hc _ (by omega) (by omega)).trans k2, (hc _ (by omega) (by omega)).trans k3⟩
theorem xB.fr (k : xB h) (hc : ∀ q, 41 ≤ q → q ≤ 43 → h' q = h q) : xB h' := by
  obtain ⟨f1, f2, ⟨k0, k1, k2⟩, k3⟩ := k
  exact ⟨f1, f2, ⟨(hc _ (by omega) (by omega)).trans k0, (hc _ (by omega) (by omega)).trans k1, (hc _ (by omega) (by omega)).trans k2⟩, k3⟩
theorem xN.fr (k : xN h) (e : h' 44 = h 44) : xN h' := by
  obtain ⟨a, k⟩ := k; exact ⟨a, e.trans k⟩
theorem isX.fr (k : isX h) (hc : ∀ q, 23 ≤ q → q ≤ 44 → h' q = h q) : isX h' := by
  obtain ⟨k1, k2, k3, k4, k5, k6⟩ := isX_iff.mp k
  exact isX_iff.mpr ⟨k1.fr (hc _ (by omega) (by omega)), k2.fr (fun q a b => hc q (by omega) (by omega)), k3.fr (fun q a b => hc q (by omega) (by omega)), k4.fr (fun q a b => hc q (by omega) (by omega)), k5.fr (hc _ (by omega) (by omega)), k6.fr (fun q a b => hc q (by omega) (by omega))⟩
theorem cI2.fr {g : Int → Option Nat} {n : Nat} {o0 o1 : Option (Int → Int)} (k : cI2 h g n o0 o1) (hc : ∀ q, 58 ≤ q → h' q = h q) : cI2 h' g n o0 o1 := by
  rcases k with k | ⟨b, k1, k2, k3, k4, k5, k6, k7⟩ | ⟨b, k1, k2, k3, k4, k5, k6, k7⟩ | ⟨b0, b1, w0, w1, k1, k2, k3, k4, k5, k6, k7, k8, k9⟩
  · exact Or.inl k
  · exact Or.inr (Or.inl ⟨b, k1, k2, k3, k4, k5, k6.fr (fun q a b => hc q (by omega)), k7⟩)
  · exact Or.inr (Or.inr (Or.inl ⟨b, k1, k2, k3, k4, k5, k6.fr (fun q a b => hc q (by omega)), k7⟩))
  · exact Or.inr (Or.inr (Or.inr ⟨b0, b1, w0, w1, k1, k2, k3, k4, k5, k6, k7.fr (fun q a b => hc q (by omega)), k8.fr (fun q a b => hc q (by omega)), k9⟩))
theorem prs_eq (hI : Inv bk) (h1 : bk' 1 = bk 1) (h2 : ∀ j, 264 ≤ j → j < 424 → bk' j = bk j) : parse (txB bk') (bk' 1) = parse (txB bk) (bk 1) := by
  have i1 := hI.1.2.1
  rw [h1]
  exact parse_congr (fun k a b => h2 _ (by omega) (by omega)) (by omega)
end WF
abbrev CR : Nat → Prop := fun q => q < 45 ∨ 58 ≤ q
abbrev oC (s : SS) : AE := aO 8 [vR 1, vR 15, vR 16, vR 23, vR 30, vR 31, vR 37, vR 41, vR 44, vI s.up, vI s.dn, vI s.c0, vI s.c1, vI s.c2]
section CS
variable {G : GT} {n : Nat} {h h' : Hp} {Q : PT} {s s' : SS}
theorem isC.upd (hC : isC h n s) (hi : s'.i0 = s.i0 ∧ s'.i1 = s.i1) (k0 : h' 0 = some (oC s')) (hW : isW h' 1 s'.bk) (hB : isBk h' 16 (parse (txB s'.bk) (s'.bk 1))) (hX : isX h') (hF : Fr (fun q => q < 45 ∧ q ≠ 15) h h') : isC h' n s' := by
  obtain ⟨-, -, -, -, g, h15, hI⟩ := hC
  rw [← hi.1, ← hi.2] at hI
  exact ⟨k0, hW, hB, hX, g, hF.keep h15 (by omega), hI.fr (fun q a => hF q (by omega))⟩
/-- only numbers of the object itself have changed -/
theorem isC.k0 (hC : isC h n s) (hb : s'.bk = s.bk) (hi : s'.i0 = s.i0 ∧ s'.i1 = s.i1) (k0 : h' 0 = some (oC s')) (hF : Fr (fun q => q = 0) h h') : isC h' n s' := by
  have hC' := hC
  obtain ⟨-, c1, c2, c3, -⟩ := hC'
  rw [← hb] at c1 c2
  exact hC.upd hi k0 (c1.fr (fun q a b => hF q (by omega))) (c2.fr (fun q a b => hF q (by omega))) (c3.fr (fun q a b => hF q (by omega))) (hF.wk (fun q => by omega))
/-- only scratch has changed -/
theorem isC.kx (hC : isC h n s) (hX : isX h') (hF : Fr (fun q => 23 ≤ q ∧ q < 45) h h') : isC h' n s := by
  have hC' := hC
  obtain ⟨c0, c1, c2, c3, -⟩ := hC'
  exact hC.upd ⟨rfl, rfl⟩ (hF.keep c0 (by omega)) (c1.fr (fun q a b => hF q (by omega))) (c2.fr (fun q a b => hF q (by omega))) hX (hF.wk (fun q => by omega))
theorem isC.opn (hC : isC h n s) : ∃ kd ag ld rk ow la tx qu wa lg ev : Int → Int, h 0 = some (oC s) ∧ h 1 = some (aO 7 [vR 2, vR 7, vR 10, vI (s.bk 1), vR 11, vI (s.bk 2), vR 12, vR 13, vR 14, vI (s.bk 3)]) ∧ h 2 = some (aO 4 [vI (s.bk 0), vR 3, vR 4, vR 5, vR 6]) ∧ h 3 = some (aA 8 kd) ∧ h 4 = some (aA 8 ag) ∧ h 5 = some (aA 8 ld) ∧ h 6 = some (aA 8 rk) ∧ h 7 = some (aO 1 [vR 8, vR 9]) ∧ h 8 = some (aA 64 ow) ∧ h 9 = some (aA 64 la) ∧ h 10 = some (aA 160 tx) ∧ h 11 = some (aA 8 qu) ∧ h 12 = some (aA 6 wa) ∧ h 13 = some (aA 36 lg) ∧ h 14 = some (aA 48 ev) ∧
    ((Bd kd 0 5 ∧ Bd ag 0 99 ∧ Bd ld 0 9 ∧ Bd rk 0 9) ∧ (Bd ow 0 99 ∧ Bd la (-1) 7) ∧ Bd tx 0 255 ∧ Bd qu 0 7 ∧ Bd wa (-1) 7 ∧ Bd lg 0 99 ∧ Bd ev 0 7) ∧ RP s.bk kd ag ld rk ∧ RO s.bk ow la ∧ REq tx s.bk 264 160 ∧ REq qu s.bk 164 8 ∧ REq wa s.bk 172 6 ∧ REq lg s.bk 180 36 ∧ REq ev s.bk 216 48 := by
  obtain ⟨c0, ⟨kd, ag, ld, rk, ow, la, tx, qu, wa, lg, ev, w1, ⟨p0, p1, p2, p3, p4⟩, ⟨b0, b1, b2⟩, wt, wq, ww, wl, we, d, r⟩, -⟩ := hC
  exact ⟨kd, ag, ld, rk, ow, la, tx, qu, wa, lg, ev, c0, w1, p0, p1, p2, p3, p4, b0, b1, b2, wt, wq, ww, wl, we, d, r⟩
theorem isC.bkf (hC : isC h n s) : ∃ (sz ab : Int) (ro co le ak : Int → Int), h 16 = some (aO 0 [vR 17, vI (parse (txB s.bk) (s.bk 1)).1, vI sz, vI ab, vR 19, vR 20, vR 21, vR 22]) ∧ h 19 = some (aA 9 ro) ∧ h 20 = some (aA 9 co) ∧ h 21 = some (aA 9 le) ∧ h 22 = some (aA 10 ak) := by
  obtain ⟨-, -, ⟨-, c2⟩, -⟩ := hC
  rcases c2 with ⟨e, ro, co, le, ak, ab, g1, g2, g3, g4, g5, -⟩ | ⟨e, ro, co, le, ak, ab, m, g1, g2, g3, g4, g5, -⟩
  · rw [e]; exact ⟨_, _, ro, co, le, ak, g1, g2, g3, g4, g5⟩
  · exact ⟨_, _, ro, co, le, ak, g1, g2, g3, g4, g5⟩
theorem cs_bad {v : Int} (hC : isC h n s) (hQ : ∀ h', isC h' n s.bad → Fr CR h h' → Q (some (vI v)) n h') : Cl G mX8_bad [vR 0, vI v] n h Q := by
  have c0 := hC.1
  refine cl_of (by decide) (Nat.le_of_ble_eq_true rfl) rfl ?_
  refine r_aload_n (pc := 0) dX8_bad_0 rfl <| r_dup (pc := 1) dX8_bad_1 rfl <| r_getf (pc := 2) dX8_bad_2 fA_X8_69 c0 rfl <| r_iconst (pc := 5) dX8_bad_5 <| r_iadd (pc := 6) dX8_bad_6 <| r_putf (pc := 7) dX8_bad_7 fP_X8_69 rfl rfl c0 rfl (fun h_7 c0 hF_7 => ?_)
  simp only [List.set_cons_zero, List.set_cons_succ] at c0
  refine r_iload_n (pc := 10) dX8_bad_10 rfl <| r_iret (pc := 11) dX8_bad_11 rfl ⟨Nat.le_of_ble_eq_true rfl, Nat.le_of_ble_eq_true rfl⟩ <| ?_
  exact hQ _ (hC.k0 (s' := s.bad) rfl ⟨rfl, rfl⟩ c0 hF_7) (hF_7.wk (fun q => by omega))
theorem cs_no {v : Int} (hC : isC h n s) (hQ : ∀ h', isC h' n s.no → Fr CR h h' → Q (some (vI v)) n h') : Cl G mX8_no [vR 0, vI v] n h Q := by
  have c0 := hC.1
  refine cl_of (by decide) (Nat.le_of_ble_eq_true rfl) rfl ?_
  refine r_aload_n (pc := 0) dX8_no_0 rfl <| r_dup (pc := 1) dX8_no_1 rfl <| r_getf (pc := 2) dX8_no_2 fA_X8_72 c0 rfl <| r_iconst (pc := 5) dX8_no_5 <| r_iadd (pc := 6) dX8_no_6 <| r_putf (pc := 7) dX8_no_7 fP_X8_72 rfl rfl c0 rfl (fun h_7 c0 hF_7 => ?_)
  simp only [List.set_cons_zero, List.set_cons_succ] at c0
  refine r_iload_n (pc := 10) dX8_no_10 rfl <| r_iret (pc := 11) dX8_no_11 rfl ⟨Nat.le_of_ble_eq_true rfl, Nat.le_of_ble_eq_true rfl⟩ <| ?_
  exact hQ _ (hC.k0 (s' := s.no) rfl ⟨rfl, rfl⟩ c0 hF_7) (hF_7.wk (fun q => by omega))
theorem cs_full (hC : isC h n s) (hQ : ∀ h', isC h' n s.full → Fr CR h h' → Q (some (vI (-4))) n h') : Cl G mX8_full [vR 0] n h Q := by
  have c0 := hC.1
  refine cl_of (by decide) (Nat.le_of_ble_eq_true rfl) rfl ?_
  refine r_aload_n (pc := 0) dX8_full_0 rfl <| r_dup (pc := 1) dX8_full_1 rfl <| r_getf (pc := 2) dX8_full_2 fA_X8_75 c0 rfl <| r_iconst (pc := 5) dX8_full_5 <| r_iadd (pc := 6) dX8_full_6 <| r_putf (pc := 7) dX8_full_7 fP_X8_75 rfl rfl c0 rfl (fun h_7 c0 hF_7 => ?_)
  simp only [List.set_cons_zero, List.set_cons_succ] at c0
  refine r_bipush (pc := 10) dX8_full_10 (by decide) <| r_iret (pc := 12) dX8_full_12 rfl ⟨Nat.le_of_ble_eq_true rfl, Nat.le_of_ble_eq_true rfl⟩ <| ?_
  exact hQ _ (hC.k0 (s' := s.full) rfl ⟨rfl, rfl⟩ c0 hF_7) (hF_7.wk (fun q => by omega))
theorem cs_faulty (hC : isC h n s) (hI : Inv s.bk) (h1 : ¬ okB s.bk → Q (some (vI 1)) n h) (h0 : okB s.bk → Q (some (vI 0)) n h) : Cl G mX8_faulty [vR 0] n h Q := by
  have c0 := hC.1
  obtain ⟨sz, ab, ro, co, le, ak, c16, -⟩ := hC.bkf
  have i1 := hI.1.2.1
  have hp := (parse_ok (tx := txB s.bk) i1.1).2.2
  refine cl_of (by decide) (Nat.le_of_ble_eq_true rfl) rfl ?_
  refine r_aload_n (pc := 0) dX8_faulty_0 rfl <| r_getf (pc := 1) dX8_faulty_1 fA_X8_23 c0 rfl <| r_getf (pc := 4) dX8_faulty_4 fA_X8_140 c16 rfl <| r_iconst (pc := 7) dX8_faulty_7 <| r_icmp_eq (pc := 8) 15 dX8_faulty_8 (by decide) (by omega) (by omega) (fun hc_8 => ?_) (fun hc_8 => ?_)
  · skip
    refine r_iconst (pc := 15) dX8_faulty_15 <| r_zret (pc := 16) dX8_faulty_16 rfl (by omega) ⟨Nat.le_of_ble_eq_true rfl, Nat.le_of_ble_eq_true rfl⟩ <| ?_
    first | exact h1 (by assumption) | exact h0 (by assumption)
  · skip
    refine r_iconst (pc := 11) dX8_faulty_11 <| r_goto (pc := 12) 16 dX8_faulty_12 (by decide) <| r_zret (pc := 16) dX8_faulty_16 rfl (by omega) ⟨Nat.le_of_ble_eq_true rfl, Nat.le_of_ble_eq_true rfl⟩ <| ?_
    first | exact h1 (by assumption) | exact h0 (by assumption)
theorem sp_hasTwo {b : Nat} {np p o : Int} (hP : h b = some (aO 4 [vI np, vR (b + 1), vR (b + 2), vR (b + 3), vR (b + 4)])) (hn : 0 ≤ np ∧ np ≤ 8) (hp : inI p) (ho : inI o) (h1 : (0 ≤ p ∧ p < np) ∧ (0 ≤ o ∧ o < np) ∧ p ≠ o → Q (some (vI 1)) n h) (h0 : ¬ ((0 ≤ p ∧ p < np) ∧ (0 ≤ o ∧ o < np) ∧ p ≠ o) → Q (some (vI 0)) n h) : Cl G mX4_hasTwo [vR b, vI p, vI o] n h Q := by
  refine cl_of (by decide) (Nat.le_of_ble_eq_true rfl) rfl ?_
  refine r_aload_n (pc := 0) dX4_hasTwo_0 rfl <| r_iload_n (pc := 1) dX4_hasTwo_1 rfl <| cVi [_] (pc := 2) dX4_hasTwo_2 k_X4_28 ⟨⟨Nat.le_of_ble_eq_true rfl, Nat.le_of_ble_eq_true rfl⟩, ⟨Nat.le_of_ble_eq_true rfl, Nat.le_of_ble_eq_true rfl⟩, Nat.le_of_ble_eq_true rfl⟩ ⟨rfl, rfl⟩ hP ?_
  refine sp_has hP hn hp (fun q1 => ?_) (fun q1 => ?_)
  · skip
    refine ⟨_, rfl, ?_⟩
    refine r_if_eq (pc := 5) 25 dX4_hasTwo_5 (by decide) (by decide) (fun q => absurd q (by decide)) (fun _ => ?_)
    refine r_aload_n (pc := 8) dX4_hasTwo_8 rfl <| r_iload_n (pc := 9) dX4_hasTwo_9 rfl <| cVi [_] (pc := 10) dX4_hasTwo_10 k_X4_28 ⟨⟨Nat.le_of_ble_eq_true rfl, Nat.le_of_ble_eq_true rfl⟩, ⟨Nat.le_of_ble_eq_true rfl, Nat.le_of_ble_eq_true rfl⟩, Nat.le_of_ble_eq_true rfl⟩ ⟨rfl, rfl⟩ hP ?_
    refine sp_has hP hn ho (fun q2 => ?_) (fun q2 => ?_)
    · skip
      refine ⟨_, rfl, ?_⟩
      refine r_if_eq (pc := 13) 25 dX4_hasTwo_13 (by decide) (by decide) (fun q => absurd q (by decide)) (fun _ => ?_)
      refine r_iload_n (pc := 16) dX4_hasTwo_16 rfl <| r_iload_n (pc := 17) dX4_hasTwo_17 rfl <| r_icmp_eq (pc := 18) 25 dX4_hasTwo_18 (by decide) (by omega) (by omega) (fun hc_18 => ?_) (fun hc_18 => ?_)
      · skip
        refine r_iconst (pc := 25) dX4_hasTwo_25 <| r_zret (pc := 26) dX4_hasTwo_26 rfl (by omega) ⟨Nat.le_of_ble_eq_true rfl, Nat.le_of_ble_eq_true rfl⟩ <| ?_
        first | exact h1 (by omega) | exact h0 (by omega)
      · skip
        refine r_iconst (pc := 21) dX4_hasTwo_21 <| r_goto (pc := 22) 26 dX4_hasTwo_22 (by decide) <| r_zret (pc := 26) dX4_hasTwo_26 rfl (by omega) ⟨Nat.le_of_ble_eq_true rfl, Nat.le_of_ble_eq_true rfl⟩ <| ?_
        first | exact h1 (by omega) | exact h0 (by omega)
    · skip
      refine ⟨_, rfl, ?_⟩
      refine r_if_eq (pc := 13) 25 dX4_hasTwo_13 (by decide) (by decide) (fun _ => ?_) (fun q => absurd q (by decide))
      refine r_iconst (pc := 25) dX4_hasTwo_25 <| r_zret (pc := 26) dX4_hasTwo_26 rfl (by omega) ⟨Nat.le_of_ble_eq_true rfl, Nat.le_of_ble_eq_true rfl⟩ <| ?_
      first | exact h1 (by omega) | exact h0 (by omega)
  · skip
    refine ⟨_, rfl, ?_⟩
    refine r_if_eq (pc := 5) 25 dX4_hasTwo_5 (by decide) (by decide) (fun _ => ?_) (fun q => absurd q (by decide))
    refine r_iconst (pc := 25) dX4_hasTwo_25 <| r_zret (pc := 26) dX4_hasTwo_26 rfl (by omega) ⟨Nat.le_of_ble_eq_true rfl, Nat.le_of_ble_eq_true rfl⟩ <| ?_
    first | exact h1 (by omega) | exact h0 (by omega)
end CS

