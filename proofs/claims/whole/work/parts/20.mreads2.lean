/-! ===== the model: reads, item by item ===== -/
/-- a token has been scanned that stood at p -/
def TkAt (bk : Int → Int) (e : Nat → Int) (p : Int) : Prop := e 6 = (tkB bk p).2.2.2 ∧ e 7 = (tkB bk p).1 ∧ e 8 = mtok (tkB bk p).2.1 ∧ ((tkB bk p).2.1 = 12 → e 9 = (tkB bk p).2.2.1) ∧ (-10000 ≤ e 9 ∧ e 9 ≤ 10000)
/-- what reads leaves -/
def RdQ (G : GT) (bk : Int → Int) (r : Int × List IT) (n : Nat) (e : Nat → Int) (h : Hp) (Q : PT) : Prop :=
  ∀ (h' : Hp) (e' : Nat → Int) (it' : Int → Int) (b : Int), h' 45 = some (aO 9 (mF e')) → e' 4 = e 4 ∧ e' 5 = e 5 → -10000 ≤ e' 9 ∧ e' 9 ≤ 10000 → h' 50 = some (aA 40 it') → itOk it' → Fr (fun q => q = 45 ∨ q = 50) h h' →
    (r.1 = -1 ∧ b = 1 ∧ e' 11 = r.2.length ∧ r.2.length ≤ 9 ∧ e' 12 = 0 ∧ itRel it' r.2 ∨ ¬ r.1 = -1 ∧ b = 0 ∧ e' 7 = r.1) → Q (some (vI b)) n h'
section RD
variable {G : GT} {n : Nat} {h : Hp} {Q : PT} {bk it : Int → Int} {e : Nat → Int} {r : Int × List IT} {f : Nat} {p : Int} {its : List IT} {cu : IT} {l1 : AV}
theorem tkB_in (hp : 0 ≤ p ∧ p ≤ bk 1) : (0 ≤ (tkB bk p).2.1 ∧ (tkB bk p).2.1 ≤ 15) ∧ (p ≤ (tkB bk p).1 ∧ (tkB bk p).1 ≤ bk 1) ∧ (p ≤ (tkB bk p).2.2.2 ∧ (tkB bk p).2.2.2 ≤ bk 1) ∧ ((tkB bk p).2.1 = 15 → (tkB bk p).1 = bk 1) ∧ (¬ (tkB bk p).2.1 = 15 → p < (tkB bk p).2.2.2) := tok_in hp
theorem RdQ.go {h1 : Hp} {e1 : Nat → Int} (hQ : RdQ G bk r n e h Q) (he : e1 4 = e 4 ∧ e1 5 = e 5) (hF : Fr (fun q => q = 45 ∨ q = 50) h h1) : RdQ G bk r n e1 h1 Q := by
  intro h' e' it' b g1 g2 g3 g4 g5 g6 g7
  exact hQ h' e' it' b g1 (by omega) g3 g4 g5 (fun q hq => (g6 q hq).trans (hF q hq)) g7
theorem mtok_k {k : Int} (h : 0 ≤ k ∧ k ≤ 15) : (mtok k = 0 ↔ k = 15) ∧ (mtok k < 4 ↔ 12 ≤ k) ∧ (mtok k = 4 ↔ k = 10) ∧ (mtok k = 5 ↔ k = 11) ∧ (mtok k = 2 ↔ k = 12) ∧ (mtok k = 3 ↔ k = 13) ∧ (10 ≤ mtok k ↔ k < 10) ∧ (k < 10 → mtok k = 10 + k) ∧ (0 ≤ mtok k ∧ mtok k ≤ 19) := by
  unfold mtok
  refine ⟨?_, ?_, ?_, ?_, ?_, ?_, ?_, ?_, ?_⟩ <;> (repeat' split) <;> omega
theorem a220 (hM : h 45 = some (aO 9 (mF e))) (hB : h 46 = some (aA 480 bk)) (hI : h 50 = some (aA 40 it)) (hb : Bd bk (-1) 255) (ht : 0 ≤ bk 1 ∧ bk 1 ≤ 160) (hp : 0 ≤ p ∧ p ≤ bk 1) (hT : TkAt bk e p) (hm : e 11 = its.length ∧ its.length < 9) (h12 : e 12 = 0) (hr : itRel it its) (hk : itOk it)
    (hcu : it (4 * its.length) = cu.1 ∧ it (4 * its.length + 1) = cu.2.1 ∧ it (4 * its.length + 2) = cu.2.2.1 ∧ it (4 * its.length + 3) = cu.2.2.2) (hpm : pm (txB bk) (bk 1) (f + 1) p 5 its cu = r) (hQ : RdQ G bk r n e h Q)
    (next : ∀ (h' : Hp) (e' : Nat → Int) (l1 : AV), h' 45 = some (aO 9 (mF e')) → h' 46 = some (aA 480 bk) → h' 50 = some (aA 40 it) → TkAt bk e' (tkB bk p).2.2.2 → p < (tkB bk p).2.2.2 ∧ (tkB bk p).2.2.2 ≤ bk 1 → e' 11 = ((its ++ [cu]).length : Nat) → e' 12 = 0 → itRel it (its ++ [cu]) → pm (txB bk) (bk 1) f (tkB bk p).2.2.2 0 (its ++ [cu]) cu = r → RdQ G bk r n e' h' Q → At G mX9_reads 19 [vR 45, l1] [] (0, 0, n) h' Q) : At G mX9_reads 220 [vR 45, vI (4 * e 11)] [] (0, 0, n) h Q := by
  have hM' := hM
  unfold mF at hM'
  obtain ⟨t6, t7, t8, t9, t10⟩ := hT
  obtain ⟨w1, w2, w3, w4, w5⟩ := tkB_in hp
  obtain ⟨m1, m2, m3, m4, m5, m6, m7, m8, m9⟩ := mtok_k w1
  refine r_aload_n (pc := 220) dX9_reads_220 rfl <| r_getf (pc := 221) dX9_reads_221 fA_X9_122 hM' rfl <| r_iconst (pc := 224) dX9_reads_224 <| r_icmp_eq (pc := 225) 230 dX9_reads_225 (by decide) (by omega) (by omega) (fun hc_225 => ?_) (fun hc_225 => ?_)
  · skip
    refine r_aload_n (pc := 230) dX9_reads_230 rfl <| r_dup (pc := 231) dX9_reads_231 rfl <| r_getf (pc := 232) dX9_reads_232 fA_X9_136 hM' rfl <| r_iconst (pc := 235) dX9_reads_235 <| r_iadd (pc := 236) dX9_reads_236 <| r_putf (pc := 237) dX9_reads_237 fP_X9_136 rfl rfl hM' rfl (fun h_237 hM' hF_237 => ?_)
    simp only [List.set_cons_zero, List.set_cons_succ] at hM'
    replace hB := hF_237.keep hB (by omega)
    replace hI := hF_237.keep hI (by omega)
    refine r_aload_n (pc := 240) dX9_reads_240 rfl <| cVv [] (pc := 241) dX9_reads_241 k_X9_142 ⟨⟨Nat.le_of_ble_eq_true rfl, Nat.le_of_ble_eq_true rfl⟩, ⟨Nat.le_of_ble_eq_true rfl, Nat.le_of_ble_eq_true rfl⟩, Nat.le_of_ble_eq_true rfl⟩ ⟨rfl, rfl⟩ hM' ?_
    refine sp_scans (e := nu e 11 (e 11 + 1)) hM' hB hb ht (by show 0 ≤ e 6 ∧ e 6 ≤ bk 1; omega) t10 (fun h2 v g1 g2 g3 g4 => ?_)
    refine ⟨rfl, ?_⟩
    refine r_goto (pc := 244) 19 dX9_reads_244 (by decide) <| ?_
    have hk13 : (tkB bk p).2.1 = 13 := m6.mp (by rw [← t8]; exact hc_225)
    have hps : pstep 5 (tkB bk p).2.1 (tkB bk p).2.2.1 its cu = some (0, its ++ [cu], cu) := by rw [hk13]; rfl
    rw [pm_some (by show ¬ (tkB bk p).2.1 = 15; omega) hps] at hpm
    have e6 : (nu e 11 (e 11 + 1)) 6 = (tkB bk p).2.2.2 := t6
    rw [e6] at g1 g3
    refine next h2 _ _ g3 (g4.keep hB (by omega)) (g4.keep hI (by omega)) ⟨rfl, rfl, rfl, g1, g2⟩ ⟨w5 (by show ¬ (tkB bk p).2.1 = 15; omega), w3.2⟩ (by show e 11 + 1 = _; rw [hm.1]; simp) h12 (hr.push hcu.1 hcu.2.1 hcu.2.2.1 hcu.2.2.2) hpm (hQ.go ⟨rfl, rfl⟩ (fun q hq => (g4 q (by omega)).trans (hF_237 q (by omega))))
  · skip
    refine r_iconst (pc := 228) dX9_reads_228 <| r_zret (pc := 229) dX9_reads_229 rfl (by omega) ⟨Nat.le_of_ble_eq_true rfl, Nat.le_of_ble_eq_true rfl⟩ <| ?_
    have hk13 : ¬ (tkB bk p).2.1 = 13 := fun q => hc_225 (by rw [t8]; exact m6.mpr q)
    refine hQ h e it 0 hM' ⟨rfl, rfl⟩ t10 hI hk Fr.rf (Or.inr ?_)
    by_cases h15 : (tkB bk p).2.1 = 15
    · rw [pm_over h15] at hpm
      have := w4 h15
      subst hpm
      exact ⟨by show ¬ bk 1 = -1; omega, rfl, by rw [t7]; exact this⟩
    · have hps : pstep 5 (tkB bk p).2.1 (tkB bk p).2.2.1 its cu = none := by
        unfold pstep
        rw [if_neg (by decide), if_neg (by decide), if_neg (by decide), if_neg (by decide), if_neg (by omega), if_neg hk13]
      rw [pm_none h15 hps] at hpm
      subst hpm
      exact ⟨by show ¬ (tkB bk p).1 = -1; omega, rfl, t7⟩
end RD

