/-! ===== calls, as the walks use them ===== -/
theorem Fr.keep {S : Nat → Prop} {h h1 : Hp} {j : Nat} {c : Option AE} (hF : Fr S h h1) (hX : h j = c) (hn : ¬ S j) : h1 j = c := (hF j hn).trans hX
theorem Fr.rf {S : Nat → Prop} {h : Hp} : Fr S h h := fun _ _ => rfl
theorem Fr.tr {S T U : Nat → Prop} {h h1 h2 : Hp} (a : Fr S h h1) (b : Fr T h1 h2) (hs : ∀ j, S j ∨ T j → U j) : Fr U h h2 := fun j hj => (b j (fun q => hj (hs j (Or.inr q)))).trans (a j (fun q => hj (hs j (Or.inl q))))
theorem Fr.wk {S T : Nat → Prop} {h h1 : Hp} (a : Fr S h h1) (hs : ∀ j, S j → T j) : Fr T h h1 := fun j hj => a j (fun q => hj (hs j q))
section CW
variable {G : GT} {y : MT} {pc : Nat} {L st : List AV} {c0 s0 n0 : Nat} {h : Hp} {Q : PT}
theorem cSv {i : Nat} {y1 : MT} (as : List AV) (hd : decode y.cd pc = .ok (.invokestatic i, 3)) (hl : LkS y.nm.cls i y1 as.length) (hf : Fit y y1 (c0, s0, n0) st) (hm : y1.mc = 0 ∧ y1.ms = 0) (kk : Cl G y1 as n0 h (fun r n' h' => r = none ∧ At G y (pc + 3) L st (c0, s0, n') h' Q)) : At G y pc L (as.reverse ++ st) (c0, s0, n0) h Q := by
  refine r_invS (a := (c0, s0, n0)) (as := as) hd hl hf (kk.mono ?_)
  rintro r n' h' ⟨rfl, q⟩
  rw [hm.1, hm.2]
  exact q
theorem cSi {i : Nat} {y1 : MT} (as : List AV) (hd : decode y.cd pc = .ok (.invokestatic i, 3)) (hl : LkS y.nm.cls i y1 as.length) (hf : Fit y y1 (c0, s0, n0) st) (hm : y1.mc = 0 ∧ y1.ms = 0) (kk : Cl G y1 as n0 h (fun r n' h' => ∃ v, r = some v ∧ At G y (pc + 3) L (v :: st) (c0, s0, n') h' Q)) : At G y pc L (as.reverse ++ st) (c0, s0, n0) h Q := by
  refine r_invS (a := (c0, s0, n0)) (as := as) hd hl hf (kk.mono ?_)
  rintro r n' h' ⟨v, rfl, q⟩
  rw [hm.1, hm.2]
  exact q
theorem cSNv {i : Nat} {y1 : MT} (as : List AV) (hd : decode y.cd pc = .ok (.invokestatic i, 3)) (hl : LkSN y.nm.cls i y1 as.length) (hf : Fit y y1 (c0, s0, n0) st) (hm : y1.mc = 0 ∧ y1.ms = 0) (kk : Cl G y1 as n0 h (fun r n' h' => r = none ∧ At G y (pc + 3) L st (c0, s0, n') h' Q)) : At G y pc L (as.reverse ++ st) (c0, s0, n0) h Q := by
  refine r_invSN (a := (c0, s0, n0)) (as := as) hd hl hf (kk.mono ?_)
  rintro r n' h' ⟨rfl, q⟩
  rw [hm.1, hm.2]
  exact q
theorem cSNi {i : Nat} {y1 : MT} (as : List AV) (hd : decode y.cd pc = .ok (.invokestatic i, 3)) (hl : LkSN y.nm.cls i y1 as.length) (hf : Fit y y1 (c0, s0, n0) st) (hm : y1.mc = 0 ∧ y1.ms = 0) (kk : Cl G y1 as n0 h (fun r n' h' => ∃ v, r = some v ∧ At G y (pc + 3) L (v :: st) (c0, s0, n') h' Q)) : At G y pc L (as.reverse ++ st) (c0, s0, n0) h Q := by
  refine r_invSN (a := (c0, s0, n0)) (as := as) hd hl hf (kk.mono ?_)
  rintro r n' h' ⟨v, rfl, q⟩
  rw [hm.1, hm.2]
  exact q
theorem cVv {i j ci : Nat} {fs : List AV} {y1 : MT} (as : List AV) (hd : decode y.cd pc = .ok (.invokevirtual i, 3)) (hl : LkV y.nm.cls i y1 as.length ci) (hf : Fit y y1 (c0, s0, n0) st) (hm : y1.mc = 0 ∧ y1.ms = 0) (ho : h j = some (aO ci fs)) (kk : Cl G y1 (vR j :: as) n0 h (fun r n' h' => r = none ∧ At G y (pc + 3) L st (c0, s0, n') h' Q)) : At G y pc L (as.reverse ++ vR j :: st) (c0, s0, n0) h Q := by
  refine r_invV (a := (c0, s0, n0)) (as := as) hd hl hf ho (kk.mono ?_)
  rintro r n' h' ⟨rfl, q⟩
  rw [hm.1, hm.2]
  exact q
theorem cVi {i j ci : Nat} {fs : List AV} {y1 : MT} (as : List AV) (hd : decode y.cd pc = .ok (.invokevirtual i, 3)) (hl : LkV y.nm.cls i y1 as.length ci) (hf : Fit y y1 (c0, s0, n0) st) (hm : y1.mc = 0 ∧ y1.ms = 0) (ho : h j = some (aO ci fs)) (kk : Cl G y1 (vR j :: as) n0 h (fun r n' h' => ∃ v, r = some v ∧ At G y (pc + 3) L (v :: st) (c0, s0, n') h' Q)) : At G y pc L (as.reverse ++ vR j :: st) (c0, s0, n0) h Q := by
  refine r_invV (a := (c0, s0, n0)) (as := as) hd hl hf ho (kk.mono ?_)
  rintro r n' h' ⟨v, rfl, q⟩
  rw [hm.1, hm.2]
  exact q
theorem cIv {i j : Nat} {y1 : MT} (as : List AV) (hd : decode y.cd pc = .ok (.invokespecial i, 3)) (hl : LkI y.nm.cls i y1 as.length) (hf : Fit y y1 (c0, s0, n0) st) (hm : y1.mc = 0 ∧ y1.ms = 0) (kk : Cl G y1 (vR j :: as) n0 h (fun r n' h' => r = none ∧ At G y (pc + 3) L st (c0, s0, n') h' Q)) : At G y pc L (as.reverse ++ vR j :: st) (c0, s0, n0) h Q := by
  refine r_invI (a := (c0, s0, n0)) (as := as) hd hl hf (kk.mono ?_)
  rintro r n' h' ⟨rfl, q⟩
  rw [hm.1, hm.2]
  exact q
theorem cINv {i j : Nat} {y1 : MT} (as : List AV) (hd : decode y.cd pc = .ok (.invokespecial i, 3)) (hl : LkIN y.nm.cls i y1 as.length) (hf : Fit y y1 (c0, s0, n0) st) (hm : y1.mc = 0 ∧ y1.ms = 0) (kk : Cl G y1 (vR j :: as) n0 h (fun r n' h' => r = none ∧ At G y (pc + 3) L st (c0, s0, n') h' Q)) : At G y pc L (as.reverse ++ vR j :: st) (c0, s0, n0) h Q := by
  refine r_invIN (a := (c0, s0, n0)) (as := as) hd hl hf (kk.mono ?_)
  rintro r n' h' ⟨rfl, q⟩
  rw [hm.1, hm.2]
  exact q
theorem cIa {i j : Nat} {y1 : MT} (as : List AV) (hd : decode y.cd pc = .ok (.invokespecial i, 3)) (hl : LkI y.nm.cls i y1 as.length) (hf : Fit y y1 (c0, s0, n0) st) (kk : Cl G y1 (vR j :: as) n0 h (fun r n' h' => r = none ∧ At G y (pc + 3) L st (c0 + y1.mc, s0 + y1.ms, n') h' Q)) : At G y pc L (as.reverse ++ vR j :: st) (c0, s0, n0) h Q := by
  refine r_invI (a := (c0, s0, n0)) (as := as) hd hl hf (kk.mono ?_)
  rintro r n' h' ⟨rfl, q⟩
  exact q
theorem cINa {i j : Nat} {y1 : MT} (as : List AV) (hd : decode y.cd pc = .ok (.invokespecial i, 3)) (hl : LkIN y.nm.cls i y1 as.length) (hf : Fit y y1 (c0, s0, n0) st) (kk : Cl G y1 (vR j :: as) n0 h (fun r n' h' => r = none ∧ At G y (pc + 3) L st (c0 + y1.mc, s0 + y1.ms, n') h' Q)) : At G y pc L (as.reverse ++ vR j :: st) (c0, s0, n0) h Q := by
  refine r_invIN (a := (c0, s0, n0)) (as := as) hd hl hf (kk.mono ?_)
  rintro r n' h' ⟨rfl, q⟩
  exact q
/-- System.arraycopy of whole numbers -/
def icpy (f g : Int → Int) (sp dp n : Int) : Int → Int := fun k => if dp ≤ k ∧ k < dp + n then f (sp + (k - dp)) else g k
set_option maxHeartbeats 4000000 in
theorem r_acopy {i j0 j1 n0' n1 : Nat} {f g : Int → Int} {sp dp n : Int} {a : AL} (hd : decode y.cd pc = .ok (.invokestatic i, 3)) (hl : inT (.methodLink y.nm.cls i arraycopyName)) (ho0 : h j0 = some (aA n0' f)) (ho1 : h j1 = some (aA n1 g)) (hb : n0' < 2147483648 ∧ n1 < 2147483648) (h1 : 0 ≤ sp ∧ 0 ≤ n ∧ sp + n ≤ n0') (h2 : 0 ≤ dp ∧ dp + n ≤ n1)
    (hf : 1 ≤ y.fr ∧ (st.map (fun v => if isJ v then 2 else 1)).sum + 18 ≤ y.lo)
    (kk : ∀ hh : Hp, hh j1 = some (aA n1 (icpy f g sp dp n)) → Fr (fun q => q = j1) h hh → At G y (pc + 3) L st a hh Q) : At G y pc L (vI n :: vI dp :: vR j1 :: vI sp :: vR j0 :: st) a h Q := by
  intro p e R s m args below meth c H locs LS F w1 w2 w3
  have ⟨f1, f2, f3, f4, f5, f6, f7, f8, f9, f10, f11, f12⟩ := F
  have nn : ∀ z : Int, 0 ≤ z ∧ z < 2147483648 → ((Int32.ofInt z).toNatClampNeg : Int) = z := fun z hz => by
    show (((Int32.ofInt z).toInt.toNat : Nat) : Int) = z
    rw [i_toInt (by omega)]; omega
  have ng : ∀ z : Int, 0 ≤ z ∧ z < 2147483648 → ¬ Int32.ofInt z < 0 := fun z hz q => by
    rw [← i_0, i_lt (by omega) (by omega)] at q; omega
  have b1 : 0 ≤ sp ∧ sp < 2147483648 := by omega
  have b2 : 0 ≤ dp ∧ dp < 2147483648 := by omega
  have b3 : 0 ≤ n ∧ n < 2147483648 := by omega
  have c1 := nn sp b1
  have c2 := nn dp b2
  have c3 := nn n b3
  have hc0 : H[G.2.1 + j0]? = some (vp_cell (G.2.2.2.1 0) (n0', .inl (fun k : Nat => Int32.ofInt (f (k : Int))))) := w1.2.2 j0 _ (cW_get (w1.lt ho0) ho0)
  have hc1 : H[G.2.1 + j1]? = some (vp_cell (G.2.2.2.1 0) (n1, .inl (fun k : Nat => Int32.ofInt (g (k : Int))))) := w1.2.2 j1 _ (cW_get (w1.lt ho1) ho1)
  intro T hT X
  obtain ⟨-, k0, hk0, cm0, hkk0⟩ := (f10.2 0 _ rfl).1 n0' (fun j : Nat => .int (Int32.ofInt (f (j : Int))))
  obtain ⟨-, k1, hk1, cm1, hkk1⟩ := (f10.2 0 _ rfl).1 n1 (fun j : Nat => .int (Int32.ofInt (g (j : Int))))
  obtain ⟨vm', X', step⟩ := X.arraycopy f1 f6 (f9.get hl) (f9.get aI3) (f9.get aI1) (f9.get aI2) (src := G.2.1 + j0) (dst := G.2.1 + j1) (cs := vp_cell (G.2.2.2.1 0) (n0', .inl (fun k : Nat => Int32.ofInt (f (k : Int))))) (cd := vp_cell (G.2.2.2.1 0) (n1, .inl (fun k : Nat => Int32.ofInt (g (k : Int))))) (srcPos := Int32.ofInt sp) (destPos := Int32.ofInt dp) (n := Int32.ofInt n) (by rw [hT]; exact hc0) (by rw [hT]; exact hc1)
    (fun _ h => by cases h) (fun _ h => by cases h) (fun h => by cases h) (fun h => by cases h) hk0 hk1 hkk0 hkk1 (by simp [refKind]) (ng sp b1) (ng dp b2) (ng n b3)
    (by rw [i_toInt (by omega), i_toInt (by omega)]; show ¬ _ > ((arrV _ n0' _).slots.size : Int); rw [arrV_size]; omega)
    (by rw [i_toInt (by omega), i_toInt (by omega)]; show ¬ _ > ((arrV _ n1 _).slots.size : Int); rw [arrV_size]; omega)
    (fun vm₁ _ i hi => by
      have e : (vp_cell (G.2.2.2.1 0) (n0', .inl (fun k : Nat => Int32.ofInt (f (k : Int))))).slots.getD ((Int32.ofInt sp).toNatClampNeg + i) .null = .int (Int32.ofInt (f (((Int32.ofInt sp).toNatClampNeg + i : Nat) : Int))) := by
        show (arrV _ n0' (fun j : Nat => .int (Int32.ofInt (f (j : Int))))).slots.getD _ _ = _
        rw [Array.getD_eq_getD_getElem?, arrV_read _ _ (by omega)]
        rfl
      refine ⟨?_, ?_⟩
      · rw [e]
        rfl
      · rw [e]
        exact trivial)
    (g := F0 m pc LS (.int (Int32.ofInt n) :: .int (Int32.ofInt dp) :: .ref (G.2.1 + j1) :: .int (Int32.ofInt sp) :: .ref (G.2.1 + j0) :: st.map (cv G))) rfl (by rw [f3]; exact w3.1.1) (rest := st.map (cv G)) rfl (by rw [f2]; exact hd) (by rw [f8]; exact hf.1) (by rw [st_cat, f8]; show 2 * 0 + _ + (5 + 2 + 11) ≤ y.lo; omega)
  have e1 := va_copied (fun z => Value.int z) (G.2.2.2.1 0) (G.2.2.2.1 0) (fun k : Nat => Int32.ofInt (f (k : Int))) (fun k : Nat => Int32.ofInt (g (k : Int))) (n0 := n0') (n1 := n1) (sp := (Int32.ofInt sp).toNatClampNeg) (dp := (Int32.ofInt dp).toNatClampNeg) (n := (Int32.ofInt n).toNatClampNeg) (by omega)
  have e2 : copied (vp_cell (G.2.2.2.1 0) (n0', .inl (fun k : Nat => Int32.ofInt (f (k : Int))))) (vp_cell (G.2.2.2.1 0) (n1, .inl (fun k : Nat => Int32.ofInt (g (k : Int))))) (Int32.ofInt sp) (Int32.ofInt dp) (Int32.ofInt n) = vp_cell (G.2.2.2.1 0) (n1, .inl (fun k : Nat => Int32.ofInt (icpy f g sp dp n (k : Int)))) := by
    refine Eq.trans e1 ?_
    show vp_cell _ (n1, .inl _) = vp_cell _ (n1, .inl _)
    congr 3
    funext k
    simp only [va_cpy, icpy]
    by_cases hk : (Int32.ofInt dp).toNatClampNeg ≤ k ∧ k < (Int32.ofInt dp).toNatClampNeg + (Int32.ofInt n).toNatClampNeg
    · rw [if_pos hk, if_pos (by omega)]
      congr 2
      omega
    · rw [if_neg hk, if_neg (by omega)]
  rw [e2] at X' step
  have hlz : G.2.1 + j1 < H.size := (Array.getElem?_eq_some_iff.mp hc1).1
  generalize hcc : vp_cell (G.2.2.2.1 0) (n1, .inl (fun k : Nat => Int32.ofInt (icpy f g sp dp n (k : Int)))) = cc at X' step
  have hheap : ((T.setVm vm').setCell (G.2.1 + j1) cc).heap = H.setIfInBounds (G.2.1 + j1) cc := by rw [← hT]; rfl
  have oq : ∀ q : Nat, q ≠ G.2.1 + j1 → (H.setIfInBounds (G.2.1 + j1) cc)[q]? = H[q]? := fun q hq => by simp [Array.getElem?_setIfInBounds, Ne.symm hq]
  have w1' : Wd G a.2.2 (va_up h j1 (some (aA n1 (icpy f g sp dp n)))) (H.setIfInBounds (G.2.1 + j1) cc) := w1.put ho1 (by simp) oq (by
    show (H.setIfInBounds (G.2.1 + j1) cc)[G.2.1 + j1]? = some (vp_cell _ (n1, .inl _))
    rw [← hcc]
    simp [Array.getElem?_setIfInBounds, hlz])
  obtain ⟨t, a1, b1⟩ := kk _ (va_up_s _ _ _) (Fr.up _ _ _) p e R s m args below meth c _ _ LS F w1' ⟨by simp; exact w2.1, fun q g1 g2 => by
      rw [oq q (fun e => g2 (by rw [e]; show G.2.1 ≤ _; omega))]
      exact w2.2.1 q g1 g2, fun q hq => by
      rcases List.mem_append.mp hq with h | h
      · exact w2.2.2 q h
      · obtain ⟨z, -, hz⟩ := List.mem_map.mp h
        rw [← hz]
        show G.2.1 ≤ G.2.1 + j1
        omega⟩ w3 _ hheap X'
  exact ⟨t, step t a1, b1⟩
end CW
