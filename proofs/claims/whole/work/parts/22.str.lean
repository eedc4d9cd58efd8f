/-! ===== the class's row of letters ===== -/
theorem lt_in (j : Nat) : 0 ≤ ltW.getD j 0 ∧ ltW.getD j 0 < 128 := by
  by_cases hj : j < 96
  · have : ∀ j, j < 96 → 0 ≤ ltW.getD j 0 ∧ ltW.getD j 0 < 128 := by decide +kernel
    exact this j hj
  · rw [List.getD_eq_getElem?_getD, List.getElem?_eq_none (show ltW.length ≤ j by show 96 ≤ j; omega)]
    decide
/-- a word's letters stand first, blanks behind them -/
theorem lt_wd : ∀ k, k < 12 → (wL.getD k []).length < 8 ∧ ∀ j, j < 8 → (j < (wL.getD k []).length → ltW.getD (k * 8 + j) 0 = (wL.getD k []).getD j 0 ∧ 97 ≤ ltW.getD (k * 8 + j) 0) ∧ ((wL.getD k []).length ≤ j → ltW.getD (k * 8 + j) 0 = 32) := by decide +kernel
section ST
variable {G : GT} {y : MT} {pc : Nat} {L st : List AV} {a : AL} {h : Hp} {Q : PT} {c0 s0 n0 : Nat}
theorem od_eq {s : State} (hO : Olds G s) : cv G (vO 24) = .ref (sAd G 24) := by
  show va_rf (G.2.2.2.2 24) = _
  rw [hO.1]
  rfl
theorem r_getLT {i : Nat} (hd : decode y.cd pc = .ok (.getstatic i, 3)) (hl : inT (.fieldLink y.nm.cls i "AfterYou$Tokens" "LETTERS" "[C")) (kk : At G y (pc + 3) L (vO 24 :: st) a h Q) : At G y pc L st a h Q := by
  intro p e R s m args below meth c H locs LS F w1 w2 w3
  have ⟨f1, f2, f3, f4, f5, f6, f7, f8, f9, f10, f11, f12⟩ := F
  have k2 := kk p e R s m args below meth c H locs LS F w1 w2 w3
  rw [List.map_cons, od_eq f11] at k2
  exact va_gets f1 f2 f11.2.2.1 w2 f6 (f9.get hl) (fun _ q => q) hd k2
theorem r_caldO {x : Int} (hd : decode y.cd pc = .ok (.caload, 1)) (hx : 0 ≤ x ∧ x < 96) (kk : At G y (pc + 1) L (vI (ltW.getD x.toNat 0) :: st) a h Q) : At G y pc L (vI x :: vO 24 :: st) a h Q := by
  intro p e R s m args below meth c H locs LS F w1 w2 w3
  have ⟨f1, f2, f3, f4, f5, f6, f7, f8, f9, f10, f11, f12⟩ := F
  rw [List.map_cons, List.map_cons, od_eq f11]
  refine va_tc f1 f2 f11.2.1 w2 (i_vin (n := 96) hx (by omega)) (v := .int (Int32.ofInt (ltW.getD x.toNat 0))) ?_ hd (kk p e R s m args below meth c H locs LS F w1 w2 w3)
  have hc := i_clamp (n := 96) hx (by omega)
  show ltV _ = Value.int _
  rw [show (Int32.ofInt x).toNatClampNeg = x.toNat by omega]
  rfl
end ST

