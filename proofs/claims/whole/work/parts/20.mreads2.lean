/-! ===== the model: reads, item by item ===== -/
/-- a token has been scanned that stood at p -/
def TkAt (bk : Int → Int) (e : Nat → Int) (p : Int) : Prop := e 6 = (tkB bk p).2.2.2 ∧ e 7 = (tkB bk p).1 ∧ e 8 = mtok (tkB bk p).2.1 ∧ ((tkB bk p).2.1 = 12 → e 9 = (tkB bk p).2.2.1) ∧ (-10000 ≤ e 9 ∧ e 9 ≤ 10000)
/-- what reads leaves -/
def RdQ (G : GT) (bk : Int → Int) (r : Int × List IT) (n : Nat) (e : Nat → Int) (h : Hp) (Q : PT) : Prop :=
  ∀ (h' : Hp) (e' : Nat → Int) (it' : Int → Int) (b : Int), h' 45 = some (aO 9 (mF e')) → e' 4 = e 4 ∧ e' 5 = e 5 → -10000 ≤ e' 9 ∧ e' 9 ≤ 10000 → h' 50 = some (aA 40 it') → itOk it' → Fr (fun q => q = 45 ∨ q = 50) h h' →
    (r.1 = -1 ∧ b = 1 ∧ e' 11 = r.2.length ∧ r.2.length ≤ 9 ∧ e' 12 = 0 ∧ itRel it' r.2 ∨ ¬ r.1 = -1 ∧ b = 0 ∧ e' 7 = r.1) → Q (some (vI b)) n h'
section RD
variable {G : GT} {n : Nat} {h : Hp} {Q : PT} {bk it : Int → Int} {e : Nat → Int} {r : Int × List IT} {f : Nat} {p : Int} {its : List IT} {cu : IT} {l1 : AV}
theorem tkB_in (hp : 0 ≤ p ∧ p ≤ bk 1) : (0 ≤ (tkB bk p).2.1 ∧ (tkB bk p).2.1 ≤ 15) ∧ (p ≤ (tkB bk p).1 ∧ (tkB bk p).1 ≤ bk 1) ∧ (p ≤ (tkB bk p).2.2.2 ∧ (tkB bk p).2.2.2 ≤ bk 1) ∧ ((tkB bk p).2.1 = 15 → (tkB bk p).1 = bk 1) ∧ (¬ (tkB bk p).2.1 = 15 → p < (tkB bk p).2.2.2) := tok_in hp
theorem RdQ.go {h1 : Hp} {e1 : Nat → Int} (hQ : RdQ G bk r n e h Q) (he : e1 4 = e 4 ∧ e1 5 = e 5) (hF : Fr (fun q => q = 45 ∨ q = 50) h h1) : RdQ G bk r n e1 h1 Q := by
  intro h' e' it' b g1 g2 g3 g4 g5 g6 g7
  exact hQ h' e' it' b g1 (by omega) g3 g4 g5 (fun q hq => (g6 q hq).trans (hF q hq)) g7
theorem mtok_k {k : Int} (h : 0 ≤ k ∧ k ≤ 15) : (mtok k = 0 ↔ k = 15) ∧ (mtok k < 4 ↔ 12 ≤ k) ∧ (mtok k = 4 ↔ k = 10) ∧ (mtok k = 5 ↔ k = 11) ∧ (mtok k = 2 ↔ k = 12) ∧ (mtok k = 3 ↔ k = 13) ∧ (10 ≤ mtok k ↔ k < 10) ∧ (k < 10 → mtok k = 10 + k) ∧ (0 ≤ mtok k ∧ mtok k ≤ 19) := by
  unfold mtok
  refine ⟨?_, ?_, ?_, ?_, ?_, ?_, ?_, ?_, ?_⟩ <;> (repeat' split) <;> omega
theorem pstep_45 {k v : Int} (h : ¬ k = 12) : pstep 5 k v its cu = pstep 4 k v its cu := by
  unfold pstep; simp [h]
theorem pstep_23 {k v : Int} (h : ¬ k = 11) : pstep 3 k v its cu = pstep 2 k v its cu := by
  unfold pstep stepA stepC; simp [h]
theorem pstep_02 {k v : Int} (h : ¬ k = 10) (hl : its.length < 9) : pstep 2 k v its (1, 0, 0, 1) = pstep 0 k v its cu := by
  unfold pstep; simp [h, Nat.not_le.mpr hl]
def Nx (G : GT) (bk : Int → Int) (r : Int × List IT) (n : Nat) (Q : PT) (F : Nat) : Prop := ∀ (h : Hp) (e : Nat → Int) (it : Int → Int) (its : List IT) (cu : IT) (p : Int) (l1 : AV) (f : Nat), f < F → h 45 = some (aO 9 (mF e)) → h 46 = some (aA 480 bk) → h 50 = some (aA 40 it) → 0 ≤ p ∧ p ≤ bk 1 → bk 1 - p ≤ f → TkAt bk e p → e 11 = its.length ∧ its.length ≤ 9 → e 12 = 0 → itRel it its → itOk it → pm (txB bk) (bk 1) (f + 1) p 0 its cu = r → RdQ G bk r n e h Q → At G mX9_reads 19 [vR 45, l1] [] (0, 0, n) h Q
theorem Nx.mono {F F' : Nat} (hn : Nx G bk r n Q F) (h : F' ≤ F) : Nx G bk r n Q F' := fun h1 e it its cu p l1 f hf => hn h1 e it its cu p l1 f (by omega)
theorem a220 (hM : h 45 = some (aO 9 (mF e))) (hB : h 46 = some (aA 480 bk)) (hI : h 50 = some (aA 40 it)) (hb : Bd bk (-1) 255) (ht : 0 ≤ bk 1 ∧ bk 1 ≤ 160) (hp : 0 ≤ p ∧ p ≤ bk 1) (hf : bk 1 - p ≤ f) (hT : TkAt bk e p) (hm : e 11 = its.length ∧ its.length < 9) (h12 : e 12 = 0) (hr : itRel it its) (hk : itOk it)
    (hcu : it (4 * its.length) = cu.1 ∧ it (4 * its.length + 1) = cu.2.1 ∧ it (4 * its.length + 2) = cu.2.2.1 ∧ it (4 * its.length + 3) = cu.2.2.2) (hpm : pm (txB bk) (bk 1) (f + 1) p 5 its cu = r) (hQ : RdQ G bk r n e h Q) (next : Nx G bk r n Q f) : At G mX9_reads 220 [vR 45, l1] [] (0, 0, n) h Q := by
  have hM' := hM
  unfold mF at hM'
  have hT' := hT
  obtain ⟨t6, t7, t8, t9, t10⟩ := hT
  obtain ⟨w1, w2, w3, w4, w5⟩ := tkB_in hp
  obtain ⟨m1, m2, m3, m4, m5, m6, m7, m8, m9⟩ := mtok_k w1
  refine r_aload_n (pc := 220) dX9_reads_220 rfl <| r_getf (pc := 221) dX9_reads_221 fA_X9_122 hM' rfl <| r_iconst (pc := 224) dX9_reads_224 <| r_icmp_eq (pc := 225) 230 dX9_reads_225 (by decide) (by omega) (by omega) (fun hc_225 => ?_) (fun hc_225 => ?_)
  · skip
    refine r_aload_n (pc := 230) dX9_reads_230 rfl <| r_dup (pc := 231) dX9_reads_231 rfl <| r_getf (pc := 232) dX9_reads_232 fA_X9_136 hM' rfl <| r_iconst (pc := 235) dX9_reads_235 <| r_iadd (pc := 236) dX9_reads_236 <| r_putf (pc := 237) dX9_reads_237 fP_X9_136 rfl rfl hM' rfl (fun h_237 hM' hF_237 => ?_)
    simp only [List.set_cons_zero, List.set_cons_succ] at hM'
    replace hB := hF_237.keep hB (by omega)
    replace hI := hF_237.keep hI (by omega)
    refine r_aload_n (pc := 240) dX9_reads_240 rfl <| cVv [] (pc := 241) dX9_reads_241 k_X9_142 ⟨⟨Nat.le_of_ble_eq_true rfl, Nat.le_of_ble_eq_true rfl⟩, ⟨Nat.le_of_ble_eq_true rfl, Nat.le_of_ble_eq_true rfl⟩, Nat.le_of_ble_eq_true rfl⟩ ⟨rfl, rfl⟩ hM' ?_
    refine sp_scans (e := nu e 11 (e 11 + 1)) hM' hB hb ht (by show 0 ≤ e 6 ∧ e 6 ≤ bk 1; omega) t10 (fun h2 v g1 g2 g3 g4 => ?_)
    refine ⟨rfl, ?_⟩
    refine r_goto (pc := 244) 19 dX9_reads_244 (by decide) <| ?_
    have hk13 : (tkB bk p).2.1 = 13 := m6.mp (by rw [← t8]; exact hc_225)
    have hps : pstep 5 (tkB bk p).2.1 (tkB bk p).2.2.1 its cu = some (0, its ++ [cu], cu) := by rw [hk13]; rfl
    rw [pm_some (by show ¬ (tkB bk p).2.1 = 15; omega) hps] at hpm
    have e6 : (nu e 11 (e 11 + 1)) 6 = (tkB bk p).2.2.2 := t6
    rw [e6] at g1 g3
    have w5 := w5 (by omega)
    obtain ⟨f', rfl⟩ : ∃ f', f = f' + 1 := ⟨f - 1, by omega⟩
    refine next h2 _ it (its ++ [cu]) cu (tkB bk p).2.2.2 _ f' (by omega) g3 (g4.keep hB (by omega)) (g4.keep hI (by omega)) (by omega) (by omega) ⟨rfl, rfl, rfl, g1, g2⟩ ⟨by show e 11 + 1 = _; rw [hm.1]; simp, by simp; omega⟩ h12 (hr.push hcu.1 hcu.2.1 hcu.2.2.1 hcu.2.2.2) hk hpm (hQ.go ⟨rfl, rfl⟩ (fun q hq => (g4 q (by omega)).trans (hF_237 q (by omega))))
  · skip
    refine r_iconst (pc := 228) dX9_reads_228 <| r_zret (pc := 229) dX9_reads_229 rfl (by omega) ⟨Nat.le_of_ble_eq_true rfl, Nat.le_of_ble_eq_true rfl⟩ <| ?_
    have hk13 : ¬ (tkB bk p).2.1 = 13 := fun q => hc_225 (by rw [t8]; exact m6.mpr q)
    refine hQ _ e _ 0 hM' ⟨rfl, rfl⟩ t10 hI hk Fr.rf (Or.inr ?_)
    by_cases h15 : (tkB bk p).2.1 = 15
    · rw [pm_over h15] at hpm
      have := w4 h15
      subst hpm
      exact ⟨by show ¬ bk 1 = -1; omega, rfl, by rw [t7]; exact this⟩
    · have hps : pstep 5 (tkB bk p).2.1 (tkB bk p).2.2.1 its cu = none := by
        unfold pstep
        rw [if_neg (by decide), if_neg (by decide), if_neg (by decide), if_neg (by decide), if_neg (by omega), if_neg hk13]
      rw [pm_none h15 hps] at hpm
      subst hpm
      exact ⟨by show ¬ (tkB bk p).1 = -1; omega, rfl, t7⟩
theorem a179 (hM : h 45 = some (aO 9 (mF e))) (hB : h 46 = some (aA 480 bk)) (hI : h 50 = some (aA 40 it)) (hb : Bd bk (-1) 255) (ht : 0 ≤ bk 1 ∧ bk 1 ≤ 160) (hp : 0 ≤ p ∧ p ≤ bk 1) (hf : bk 1 - p ≤ f) (hT : TkAt bk e p) (hm : e 11 = its.length ∧ its.length < 9) (h12 : e 12 = 0) (hr : itRel it its) (hk : itOk it)
    (hcu : it (4 * its.length) = cu.1 ∧ it (4 * its.length + 1) = cu.2.1 ∧ it (4 * its.length + 2) = cu.2.2.1 ∧ it (4 * its.length + 3) = cu.2.2.2) (hpm : pm (txB bk) (bk 1) (f + 1) p 4 its cu = r) (hQ : RdQ G bk r n e h Q) (next : Nx G bk r n Q f) : At G mX9_reads 179 [vR 45, vI (4 * (its.length : Int))] [] (0, 0, n) h Q := by
  have hM' := hM
  unfold mF at hM'
  have hT' := hT
  obtain ⟨t6, t7, t8, t9, t10⟩ := hT
  obtain ⟨w1, w2, w3, w4, w5⟩ := tkB_in hp
  obtain ⟨m1, m2, m3, m4, m5, m6, m7, m8, m9⟩ := mtok_k w1
  refine r_aload_n (pc := 179) dX9_reads_179 rfl <| r_getf (pc := 180) dX9_reads_180 fA_X9_122 hM' rfl <| r_iconst (pc := 183) dX9_reads_183 <| r_icmp_ne (pc := 184) 220 dX9_reads_184 (by decide) (by omega) (by omega) (fun hc_184 => ?_) (fun hc_184 => ?_)
  · skip
    first
      | (have hk12 : (tkB bk p).2.1 = 12 := m5.mp (by rw [← t8]; exact hc_184)
         have hps : pstep 4 (tkB bk p).2.1 (tkB bk p).2.2.1 its cu = some (5, its, (cu.1, cu.2.1, cu.2.2.1, e 9)) := by
           unfold pstep
           rw [if_neg (by decide), if_neg (by decide), if_neg (by decide), if_neg (by decide), if_pos ⟨rfl, hk12⟩, if_pos (by rw [← t9 hk12]; exact q1), ← t9 hk12]
         rw [pm_some (by show ¬ (tkB bk p).2.1 = 15; omega) hps] at hpm
         have w5 := w5 (by omega)
         obtain ⟨f', rfl⟩ : ∃ f', f = f' + 1 := ⟨f - 1, by omega⟩
         rw [t6] at g1 g3
         refine a220 (it := iu it (4 * (its.length : Int) + 3) (e 9)) (cu := (cu.1, cu.2.1, cu.2.2.1, e 9)) (p := (tkB bk p).2.2.2) (f := f') g3 (g4.keep hB (by omega)) (g4.keep hI (by omega)) hb ht (by omega) (by omega) ⟨rfl, rfl, rfl, g1, g2⟩ hm h12 (hr.iu (by omega)) (hk.iu3 (by omega)) ⟨?_, ?_, ?_, ?_⟩ hpm (hQ.go ⟨rfl, rfl⟩ (fun q hq => (g4 q (by omega)).trans (hF_215 q (by omega)))) (next.mono (by omega))
         · rw [iu_n (by omega)]; exact hcu.1
         · rw [iu_n (by omega)]; exact hcu.2.1
         · rw [iu_n (by omega)]; exact hcu.2.2.1
         · rw [iu_s])
      | (have hk12 : ¬ (tkB bk p).2.1 = 12 := fun q => hc_184 (by rw [t8]; exact m5.mpr q)
         refine a220 hM' hB hI hb ht hp hf hT' hm h12 hr hk hcu ?_ hQ next
         rw [← hpm]
         refine (pm_same (Or.inl ⟨by decide, by decide⟩) (fun _ => ?_))
         exact pstep_45 hk12)
  · skip
    refine r_aload_n (pc := 187) dX9_reads_187 rfl <| r_getf (pc := 188) dX9_reads_188 fA_X9_133 hM' rfl <| r_i2l (pc := 191) dX9_reads_191 (by omega) <| r_lconst (pc := 192) (v := 1) dX9_reads_192 rfl <| r_ldc2 (pc := 193) dX9_reads_193 cT_X9_65 <| cSi [_, _, _] (pc := 196) dX9_reads_196 k_X9_55 ⟨⟨Nat.le_of_ble_eq_true rfl, Nat.le_of_ble_eq_true rfl⟩, ⟨Nat.le_of_ble_eq_true rfl, Nat.le_of_ble_eq_true rfl⟩, Nat.le_of_ble_eq_true rfl⟩ ⟨rfl, rfl⟩ ?_
    refine sp_in (by omega) (by omega) (by omega) (fun q1 => ?_) (fun q1 => ?_)
    · skip
      refine ⟨_, rfl, ?_⟩
      refine r_if_ne (pc := 199) 204 dX9_reads_199 (by decide) (by decide) (fun _ => ?_) (fun q => absurd q (by decide))
      refine r_aload_n (pc := 204) dX9_reads_204 rfl <| r_getf (pc := 205) dX9_reads_205 fA_X9_23 hM' rfl <| r_iload_n (pc := 208) dX9_reads_208 rfl <| r_iconst (pc := 209) dX9_reads_209 <| r_iadd (pc := 210) dX9_reads_210 <| r_aload_n (pc := 211) dX9_reads_211 rfl <| r_getf (pc := 212) dX9_reads_212 fA_X9_133 hM' rfl <| r_iast (pc := 215) dX9_reads_215 hI (by omega) (by decide) (fun h_215 hI hF_215 => ?_)
      replace hM' := hF_215.keep hM' (by omega)
      replace hB := hF_215.keep hB (by omega)
      refine r_aload_n (pc := 216) dX9_reads_216 rfl <| cVv [] (pc := 217) dX9_reads_217 k_X9_142 ⟨⟨Nat.le_of_ble_eq_true rfl, Nat.le_of_ble_eq_true rfl⟩, ⟨Nat.le_of_ble_eq_true rfl, Nat.le_of_ble_eq_true rfl⟩, Nat.le_of_ble_eq_true rfl⟩ ⟨rfl, rfl⟩ hM' ?_
      refine sp_scans hM' hB hb ht (by omega) t10 (fun h2 v g1 g2 g3 g4 => ?_)
      refine ⟨rfl, ?_⟩
      first
        | (have hk12 : (tkB bk p).2.1 = 12 := m5.mp (by rw [← t8]; exact hc_184)
           have hps : pstep 4 (tkB bk p).2.1 (tkB bk p).2.2.1 its cu = some (5, its, (cu.1, cu.2.1, cu.2.2.1, e 9)) := by
             unfold pstep
             rw [if_neg (by decide), if_neg (by decide), if_neg (by decide), if_neg (by decide), if_pos ⟨rfl, hk12⟩, if_pos (by rw [← t9 hk12]; exact q1), ← t9 hk12]
           rw [pm_some (by show ¬ (tkB bk p).2.1 = 15; omega) hps] at hpm
           have w5 := w5 (by omega)
           obtain ⟨f', rfl⟩ : ∃ f', f = f' + 1 := ⟨f - 1, by omega⟩
           rw [t6] at g1 g3
           refine a220 (it := iu it (4 * (its.length : Int) + 3) (e 9)) (cu := (cu.1, cu.2.1, cu.2.2.1, e 9)) (p := (tkB bk p).2.2.2) (f := f') g3 (g4.keep hB (by omega)) (g4.keep hI (by omega)) hb ht (by omega) (by omega) ⟨rfl, rfl, rfl, g1, g2⟩ hm h12 (hr.iu (by omega)) (hk.iu3 (by omega)) ⟨?_, ?_, ?_, ?_⟩ hpm (hQ.go ⟨rfl, rfl⟩ (fun q hq => (g4 q (by omega)).trans (hF_215 q (by omega)))) (next.mono (by omega))
           · rw [iu_n (by omega)]; exact hcu.1
           · rw [iu_n (by omega)]; exact hcu.2.1
           · rw [iu_n (by omega)]; exact hcu.2.2.1
           · rw [iu_s])
        | (have hk12 : ¬ (tkB bk p).2.1 = 12 := fun q => hc_184 (by rw [t8]; exact m5.mpr q)
           refine a220 hM' hB hI hb ht hp hf hT' hm h12 hr hk hcu ?_ hQ next
           rw [← hpm]
           refine (pm_same (Or.inl ⟨by decide, by decide⟩) (fun _ => ?_))
           exact pstep_45 hk12)
    · skip
      refine ⟨_, rfl, ?_⟩
      refine r_if_ne (pc := 199) 204 dX9_reads_199 (by decide) (by decide) (fun q => absurd q (by decide)) (fun _ => ?_)
      refine r_iconst (pc := 202) dX9_reads_202 <| r_zret (pc := 203) dX9_reads_203 rfl (by omega) ⟨Nat.le_of_ble_eq_true rfl, Nat.le_of_ble_eq_true rfl⟩ <| ?_
      have hk12 : (tkB bk p).2.1 = 12 := m5.mp (by rw [← t8]; exact hc_184)
      refine hQ _ e _ 0 hM' ⟨rfl, rfl⟩ t10 hI hk Fr.rf (Or.inr ?_)
      by_cases h15 : (tkB bk p).2.1 = 15
      · rw [pm_over h15] at hpm
        have := w4 h15
        subst hpm
        exact ⟨by show ¬ bk 1 = -1; omega, rfl, by rw [t7]; exact this⟩
      · have hps : pstep 4 (tkB bk p).2.1 (tkB bk p).2.2.1 its cu = none := by
          unfold pstep
          rw [if_neg (by decide), if_neg (by decide), if_neg (by decide), if_neg (by decide), if_pos ⟨rfl, hk12⟩, if_neg (by rw [← t9 hk12]; exact q1)]
        rw [pm_none h15 hps] at hpm
        subst hpm
        exact ⟨by show ¬ (tkB bk p).1 = -1; omega, rfl, t7⟩
theorem a149 (hM : h 45 = some (aO 9 (mF e))) (hB : h 46 = some (aA 480 bk)) (hI : h 50 = some (aA 40 it)) (hb : Bd bk (-1) 255) (ht : 0 ≤ bk 1 ∧ bk 1 ≤ 160) (hp : 0 ≤ p ∧ p ≤ bk 1) (hf : bk 1 - p ≤ f) (hT : TkAt bk e p) (hm : e 11 = its.length ∧ its.length < 9) (h12 : e 12 = 0) (hr : itRel it its) (hk : itOk it)
    (hcu : it (4 * its.length) = cu.1 ∧ it (4 * its.length + 1) = cu.2.1 ∧ it (4 * its.length + 3) = cu.2.2.2) (hpm : pm (txB bk) (bk 1) (f + 1) p 3 its cu = r) (hQ : RdQ G bk r n e h Q) (next : Nx G bk r n Q f) : At G mX9_reads 149 [vR 45, vI (4 * (its.length : Int))] [] (0, 0, n) h Q := by
  have hM' := hM
  unfold mF at hM'
  have hT' := hT
  obtain ⟨t6, t7, t8, t9, t10⟩ := hT
  obtain ⟨w1, w2, w3, w4, w5⟩ := tkB_in hp
  obtain ⟨m1, m2, m3, m4, m5, m6, m7, m8, m9⟩ := mtok_k w1
  refine r_aload_n (pc := 149) dX9_reads_149 rfl <| r_getf (pc := 150) dX9_reads_150 fA_X9_122 hM' rfl <| r_bipush (pc := 153) dX9_reads_153 (by decide) <| r_icmp_ge (pc := 155) 160 dX9_reads_155 (by decide) (by omega) (by omega) (fun hc_155 => ?_) (fun hc_155 => ?_)
  · skip
    refine r_aload_n (pc := 160) dX9_reads_160 rfl <| r_getf (pc := 161) dX9_reads_161 fA_X9_23 hM' rfl <| r_iload_n (pc := 164) dX9_reads_164 rfl <| r_iconst (pc := 165) dX9_reads_165 <| r_iadd (pc := 166) dX9_reads_166 <| r_aload_n (pc := 167) dX9_reads_167 rfl <| r_getf (pc := 168) dX9_reads_168 fA_X9_122 hM' rfl <| r_bipush (pc := 171) dX9_reads_171 (by decide) <| r_isub (pc := 173) dX9_reads_173 <| r_iast (pc := 174) dX9_reads_174 hI (by omega) (by decide) (fun h_174 hI hF_174 => ?_)
    replace hM' := hF_174.keep hM' (by omega)
    replace hB := hF_174.keep hB (by omega)
    refine r_aload_n (pc := 175) dX9_reads_175 rfl <| cVv [] (pc := 176) dX9_reads_176 k_X9_142 ⟨⟨Nat.le_of_ble_eq_true rfl, Nat.le_of_ble_eq_true rfl⟩, ⟨Nat.le_of_ble_eq_true rfl, Nat.le_of_ble_eq_true rfl⟩, Nat.le_of_ble_eq_true rfl⟩ ⟨rfl, rfl⟩ hM' ?_
    refine sp_scans hM' hB hb ht (by omega) t10 (fun h2 v g1 g2 g3 g4 => ?_)
    refine ⟨rfl, ?_⟩
    have hk10 : (tkB bk p).2.1 < 10 := m7.mp (by rw [← t8]; exact hc_155)
    have e8 := m8 hk10
    have hps : pstep 3 (tkB bk p).2.1 (tkB bk p).2.2.1 its cu = some (4, its, (cu.1, cu.2.1, (tkB bk p).2.1, cu.2.2.2)) := by
      unfold pstep stepC; simp [hk10]
    rw [pm_some (by show ¬ (tkB bk p).2.1 = 15; omega) hps] at hpm
    have w5 := w5 (by omega)
    obtain ⟨f', rfl⟩ : ∃ f', f = f' + 1 := ⟨f - 1, by omega⟩
    rw [t6] at g1 g3
    have e10 : e 8 - 10 = (tkB bk p).2.1 := by omega
    refine a179 (it := iu it (4 * (its.length : Int) + 2) (e 8 - 10)) (cu := (cu.1, cu.2.1, (tkB bk p).2.1, cu.2.2.2)) (p := (tkB bk p).2.2.2) (f := f') g3 (g4.keep hB (by omega)) (g4.keep hI (by omega)) hb ht (by omega) (by omega) ⟨rfl, rfl, rfl, g1, g2⟩ hm h12 (hr.iu (by omega)) (hk.iu2 (by omega)) ⟨?_, ?_, ?_, ?_⟩ hpm (hQ.go ⟨rfl, rfl⟩ (fun q hq => (g4 q (by omega)).trans (hF_174 q (by omega)))) (next.mono (by omega))
    · rw [iu_n (by omega)]; exact hcu.1
    · rw [iu_n (by omega)]; exact hcu.2.1
    · rw [iu_s]; exact e10
    · rw [iu_n (by omega)]; exact hcu.2.2
  · skip
    refine r_iconst (pc := 158) dX9_reads_158 <| r_zret (pc := 159) dX9_reads_159 rfl (by omega) ⟨Nat.le_of_ble_eq_true rfl, Nat.le_of_ble_eq_true rfl⟩ <| ?_
    have hk10 : ¬ (tkB bk p).2.1 < 10 := fun q => hc_155 (by rw [t8]; exact m7.mpr q)
    refine hQ _ e _ 0 hM' ⟨rfl, rfl⟩ t10 hI hk Fr.rf (Or.inr ?_)
    by_cases h15 : (tkB bk p).2.1 = 15
    · rw [pm_over h15] at hpm
      have := w4 h15
      subst hpm
      exact ⟨by show ¬ bk 1 = -1; omega, rfl, by rw [t7]; exact this⟩
    · have hps : pstep 3 (tkB bk p).2.1 (tkB bk p).2.2.1 its cu = none := by
        unfold pstep stepC; simp [hk10]
      rw [pm_none h15 hps] at hpm
      subst hpm
      exact ⟨by show ¬ (tkB bk p).1 = -1; omega, rfl, t7⟩
theorem a128 (hM : h 45 = some (aO 9 (mF e))) (hB : h 46 = some (aA 480 bk)) (hI : h 50 = some (aA 40 it)) (hb : Bd bk (-1) 255) (ht : 0 ≤ bk 1 ∧ bk 1 ≤ 160) (hp : 0 ≤ p ∧ p ≤ bk 1) (hf : bk 1 - p ≤ f) (hT : TkAt bk e p) (hm : e 11 = its.length ∧ its.length < 9) (h12 : e 12 = 0) (hr : itRel it its) (hk : itOk it)
    (hcu : it (4 * its.length) = cu.1 ∧ it (4 * its.length + 1) = cu.2.1 ∧ it (4 * its.length + 3) = cu.2.2.2) (hpm : pm (txB bk) (bk 1) (f + 1) p 2 its cu = r) (hQ : RdQ G bk r n e h Q) (next : Nx G bk r n Q f) : At G mX9_reads 128 [vR 45, vI (4 * (its.length : Int))] [] (0, 0, n) h Q := by
  have hM' := hM
  unfold mF at hM'
  have hT' := hT
  obtain ⟨t6, t7, t8, t9, t10⟩ := hT
  obtain ⟨w1, w2, w3, w4, w5⟩ := tkB_in hp
  obtain ⟨m1, m2, m3, m4, m5, m6, m7, m8, m9⟩ := mtok_k w1
  refine r_aload_n (pc := 128) dX9_reads_128 rfl <| r_getf (pc := 129) dX9_reads_129 fA_X9_122 hM' rfl <| r_iconst (pc := 132) dX9_reads_132 <| r_icmp_ne (pc := 133) 149 dX9_reads_133 (by decide) (by omega) (by omega) (fun hc_133 => ?_) (fun hc_133 => ?_)
  · skip
    first
      | (have hk11 : (tkB bk p).2.1 = 11 := m4.mp (by rw [← t8]; exact hc_133)
         have hps : pstep 2 (tkB bk p).2.1 (tkB bk p).2.2.1 its cu = some (3, its, (cu.1, 1, cu.2.2.1, cu.2.2.2)) := by
           unfold pstep stepA; simp [hk11]
         rw [pm_some (by show ¬ (tkB bk p).2.1 = 15; omega) hps] at hpm
         have w5 := w5 (by omega)
         obtain ⟨f', rfl⟩ : ∃ f', f = f' + 1 := ⟨f - 1, by omega⟩
         rw [t6] at g1 g3
         refine a149 (it := iu it (4 * (its.length : Int) + 1) 1) (cu := (cu.1, 1, cu.2.2.1, cu.2.2.2)) (p := (tkB bk p).2.2.2) (f := f') g3 (g4.keep hB (by omega)) (g4.keep hI (by omega)) hb ht (by omega) (by omega) ⟨rfl, rfl, rfl, g1, g2⟩ hm h12 (hr.iu (by omega)) (hk.iu1 (by omega)) ⟨?_, ?_, ?_⟩ hpm (hQ.go ⟨rfl, rfl⟩ (fun q hq => (g4 q (by omega)).trans (hF_144 q (by omega)))) (next.mono (by omega))
         · rw [iu_n (by omega)]; exact hcu.1
         · rw [iu_s]
         · rw [iu_n (by omega)]; exact hcu.2.2)
      | (have hk11 : ¬ (tkB bk p).2.1 = 11 := fun q => hc_133 (by rw [t8]; exact m4.mpr q)
         refine a149 hM' hB hI hb ht hp hf hT' hm h12 hr hk hcu ?_ hQ next
         rw [← hpm]
         exact (pm_same (Or.inl ⟨by decide, by decide⟩) (fun _ => pstep_23 hk11)))
  · skip
    refine r_aload_n (pc := 136) dX9_reads_136 rfl <| r_getf (pc := 137) dX9_reads_137 fA_X9_23 hM' rfl <| r_iload_n (pc := 140) dX9_reads_140 rfl <| r_iconst (pc := 141) dX9_reads_141 <| r_iadd (pc := 142) dX9_reads_142 <| r_iconst (pc := 143) dX9_reads_143 <| r_iast (pc := 144) dX9_reads_144 hI (by omega) (by decide) (fun h_144 hI hF_144 => ?_)
    replace hM' := hF_144.keep hM' (by omega)
    replace hB := hF_144.keep hB (by omega)
    refine r_aload_n (pc := 145) dX9_reads_145 rfl <| cVv [] (pc := 146) dX9_reads_146 k_X9_142 ⟨⟨Nat.le_of_ble_eq_true rfl, Nat.le_of_ble_eq_true rfl⟩, ⟨Nat.le_of_ble_eq_true rfl, Nat.le_of_ble_eq_true rfl⟩, Nat.le_of_ble_eq_true rfl⟩ ⟨rfl, rfl⟩ hM' ?_
    refine sp_scans hM' hB hb ht (by omega) t10 (fun h2 v g1 g2 g3 g4 => ?_)
    refine ⟨rfl, ?_⟩
    first
      | (have hk11 : (tkB bk p).2.1 = 11 := m4.mp (by rw [← t8]; exact hc_133)
         have hps : pstep 2 (tkB bk p).2.1 (tkB bk p).2.2.1 its cu = some (3, its, (cu.1, 1, cu.2.2.1, cu.2.2.2)) := by
           unfold pstep stepA; simp [hk11]
         rw [pm_some (by show ¬ (tkB bk p).2.1 = 15; omega) hps] at hpm
         have w5 := w5 (by omega)
         obtain ⟨f', rfl⟩ : ∃ f', f = f' + 1 := ⟨f - 1, by omega⟩
         rw [t6] at g1 g3
         refine a149 (it := iu it (4 * (its.length : Int) + 1) 1) (cu := (cu.1, 1, cu.2.2.1, cu.2.2.2)) (p := (tkB bk p).2.2.2) (f := f') g3 (g4.keep hB (by omega)) (g4.keep hI (by omega)) hb ht (by omega) (by omega) ⟨rfl, rfl, rfl, g1, g2⟩ hm h12 (hr.iu (by omega)) (hk.iu1 (by omega)) ⟨?_, ?_, ?_⟩ hpm (hQ.go ⟨rfl, rfl⟩ (fun q hq => (g4 q (by omega)).trans (hF_144 q (by omega)))) (next.mono (by omega))
         · rw [iu_n (by omega)]; exact hcu.1
         · rw [iu_s]
         · rw [iu_n (by omega)]; exact hcu.2.2)
      | (have hk11 : ¬ (tkB bk p).2.1 = 11 := fun q => hc_133 (by rw [t8]; exact m4.mpr q)
         refine a149 hM' hB hI hb ht hp hf hT' hm h12 hr hk hcu ?_ hQ next
         rw [← hpm]
         exact (pm_same (Or.inl ⟨by decide, by decide⟩) (fun _ => pstep_23 hk11)))
theorem a89 (hM : h 45 = some (aO 9 (mF e))) (hB : h 46 = some (aA 480 bk)) (hI : h 50 = some (aA 40 it)) (hb : Bd bk (-1) 255) (ht : 0 ≤ bk 1 ∧ bk 1 ≤ 160) (hp : 0 ≤ p ∧ p ≤ bk 1) (hf : bk 1 - p ≤ f) (hT : TkAt bk e p) (hm : e 11 = its.length ∧ its.length < 9) (h12 : e 12 = 0) (hr : itRel it its) (hk : itOk it)
    (hcu : it (4 * its.length) = cu.1 ∧ it (4 * its.length + 1) = cu.2.1 ∧ it (4 * its.length + 3) = cu.2.2.2) (hpm : pm (txB bk) (bk 1) (f + 1) p 1 its cu = r) (hQ : RdQ G bk r n e h Q) (next : Nx G bk r n Q f) : At G mX9_reads 89 [vR 45, vI (4 * (its.length : Int))] [] (0, 0, n) h Q := by
  have hM' := hM
  unfold mF at hM'
  have hT' := hT
  obtain ⟨t6, t7, t8, t9, t10⟩ := hT
  obtain ⟨w1, w2, w3, w4, w5⟩ := tkB_in hp
  obtain ⟨m1, m2, m3, m4, m5, m6, m7, m8, m9⟩ := mtok_k w1
  refine r_aload_n (pc := 89) dX9_reads_89 rfl <| r_getf (pc := 90) dX9_reads_90 fA_X9_122 hM' rfl <| r_iconst (pc := 93) dX9_reads_93 <| r_icmp_ne (pc := 94) 112 dX9_reads_94 (by decide) (by omega) (by omega) (fun hc_94 => ?_) (fun hc_94 => ?_)
  · skip
    refine r_iconst (pc := 112) dX9_reads_112 <| r_zret (pc := 113) dX9_reads_113 rfl (by omega) ⟨Nat.le_of_ble_eq_true rfl, Nat.le_of_ble_eq_true rfl⟩ <| ?_
    refine hQ _ e _ 0 hM' ⟨rfl, rfl⟩ t10 hI hk Fr.rf (Or.inr ?_)
    by_cases h15 : (tkB bk p).2.1 = 15
    · rw [pm_over h15] at hpm
      have := w4 h15
      subst hpm
      exact ⟨by show ¬ bk 1 = -1; omega, rfl, by rw [t7]; exact this⟩
    · have hps : pstep 1 (tkB bk p).2.1 (tkB bk p).2.2.1 its cu = none := by
        unfold pstep
        rw [if_neg (by decide), if_pos rfl, if_neg ?_]
        rintro ⟨k12, q2⟩
        first
          | exact hc_94 (by rw [t8]; exact m5.mpr k12)
          | exact q1 (by rw [t9 k12]; exact q2)
      rw [pm_none h15 hps] at hpm
      subst hpm
      exact ⟨by show ¬ (tkB bk p).1 = -1; omega, rfl, t7⟩
  · skip
    refine r_aload_n (pc := 97) dX9_reads_97 rfl <| r_getf (pc := 98) dX9_reads_98 fA_X9_133 hM' rfl <| r_i2l (pc := 101) dX9_reads_101 (by omega) <| r_lconst (pc := 102) (v := 1) dX9_reads_102 rfl <| r_ldc2 (pc := 103) dX9_reads_103 cT_X9_67 <| cSi [_, _, _] (pc := 106) dX9_reads_106 k_X9_55 ⟨⟨Nat.le_of_ble_eq_true rfl, Nat.le_of_ble_eq_true rfl⟩, ⟨Nat.le_of_ble_eq_true rfl, Nat.le_of_ble_eq_true rfl⟩, Nat.le_of_ble_eq_true rfl⟩ ⟨rfl, rfl⟩ ?_
    refine sp_in (by omega) (by omega) (by omega) (fun q1 => ?_) (fun q1 => ?_)
    · skip
      refine ⟨_, rfl, ?_⟩
      refine r_if_ne (pc := 109) 114 dX9_reads_109 (by decide) (by decide) (fun _ => ?_) (fun q => absurd q (by decide))
      refine r_aload_n (pc := 114) dX9_reads_114 rfl <| r_getf (pc := 115) dX9_reads_115 fA_X9_23 hM' rfl <| r_iload_n (pc := 118) dX9_reads_118 rfl <| r_aload_n (pc := 119) dX9_reads_119 rfl <| r_getf (pc := 120) dX9_reads_120 fA_X9_133 hM' rfl <| r_iast (pc := 123) dX9_reads_123 hI (by omega) (by decide) (fun h_123 hI hF_123 => ?_)
      replace hM' := hF_123.keep hM' (by omega)
      replace hB := hF_123.keep hB (by omega)
      refine r_aload_n (pc := 124) dX9_reads_124 rfl <| cVv [] (pc := 125) dX9_reads_125 k_X9_142 ⟨⟨Nat.le_of_ble_eq_true rfl, Nat.le_of_ble_eq_true rfl⟩, ⟨Nat.le_of_ble_eq_true rfl, Nat.le_of_ble_eq_true rfl⟩, Nat.le_of_ble_eq_true rfl⟩ ⟨rfl, rfl⟩ hM' ?_
      refine sp_scans hM' hB hb ht (by omega) t10 (fun h2 v g1 g2 g3 g4 => ?_)
      refine ⟨rfl, ?_⟩
      have hk12 : (tkB bk p).2.1 = 12 := m5.mp (by rw [← t8]; exact hc_94)
      have hps : pstep 1 (tkB bk p).2.1 (tkB bk p).2.2.1 its cu = some (2, its, (e 9, cu.2.1, cu.2.2.1, cu.2.2.2)) := by
        unfold pstep
        rw [if_neg (by decide), if_pos rfl, if_pos (by rw [← t9 hk12]; exact ⟨hk12, q1⟩), ← t9 hk12]
      rw [pm_some (by show ¬ (tkB bk p).2.1 = 15; omega) hps] at hpm
      have w5 := w5 (by omega)
      obtain ⟨f', rfl⟩ : ∃ f', f = f' + 1 := ⟨f - 1, by omega⟩
      rw [t6] at g1 g3
      refine a128 (it := iu it (4 * (its.length : Int)) (e 9)) (cu := (e 9, cu.2.1, cu.2.2.1, cu.2.2.2)) (p := (tkB bk p).2.2.2) (f := f') g3 (g4.keep hB (by omega)) (g4.keep hI (by omega)) hb ht (by omega) (by omega) ⟨rfl, rfl, rfl, g1, g2⟩ hm h12 (hr.iu (by omega)) (hk.iu0 (by omega)) ⟨?_, ?_, ?_⟩ hpm (hQ.go ⟨rfl, rfl⟩ (fun q hq => (g4 q (by omega)).trans (hF_123 q (by omega)))) (next.mono (by omega))
      · rw [iu_s]
      · rw [iu_n (by omega)]; exact hcu.2.1
      · rw [iu_n (by omega)]; exact hcu.2.2
    · skip
      refine ⟨_, rfl, ?_⟩
      refine r_if_ne (pc := 109) 114 dX9_reads_109 (by decide) (by decide) (fun q => absurd q (by decide)) (fun _ => ?_)
      refine r_iconst (pc := 112) dX9_reads_112 <| r_zret (pc := 113) dX9_reads_113 rfl (by omega) ⟨Nat.le_of_ble_eq_true rfl, Nat.le_of_ble_eq_true rfl⟩ <| ?_
      refine hQ _ e _ 0 hM' ⟨rfl, rfl⟩ t10 hI hk Fr.rf (Or.inr ?_)
      by_cases h15 : (tkB bk p).2.1 = 15
      · rw [pm_over h15] at hpm
        have := w4 h15
        subst hpm
        exact ⟨by show ¬ bk 1 = -1; omega, rfl, by rw [t7]; exact this⟩
      · have hps : pstep 1 (tkB bk p).2.1 (tkB bk p).2.2.1 its cu = none := by
          unfold pstep
          rw [if_neg (by decide), if_pos rfl, if_neg ?_]
          rintro ⟨k12, q2⟩
          first
            | exact hc_94 (by rw [t8]; exact m5.mpr k12)
            | exact q1 (by rw [t9 k12]; exact q2)
        rw [pm_none h15 hps] at hpm
        subst hpm
        exact ⟨by show ¬ (tkB bk p).1 = -1; omega, rfl, t7⟩
end RD

