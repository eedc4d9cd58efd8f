/-! ===== the model: a talk ===== -/
def itOk (it : Int → Int) : Prop := ∀ j, 0 ≤ j ∧ j < 9 → (0 ≤ it (4 * j) ∧ it (4 * j) ≤ 99) ∧ (0 ≤ it (4 * j + 1) ∧ it (4 * j + 1) ≤ 1) ∧ (0 ≤ it (4 * j + 2) ∧ it (4 * j + 2) < 10) ∧ (0 ≤ it (4 * j + 3) ∧ it (4 * j + 3) < 100)
abbrev nmB (bk : Int → Int) : Int → Int → Int → Int → Int := nameV (Ab bk) (Ob bk) (Lb bk)
section MT2
variable {G : GT} {n : Nat} {h : Hp} {Q : PT}
theorem lp_t181 {a b x l4 : Int} {l5 l6 : AV} {e : Nat → Int} (hM : h 45 = some (aO 9 (mF e)))
    (hQ : ∀ h', h' 45 = some (aO 9 (mF (nu e 13 (e 13 + 1)))) → Fr (fun q => q = 45) h h' → At G mX9_talks 5 [vR 45, vI a, vI b, vI x, vI l4, l5, l6] [] (0, 0, n) h' Q) : At G mX9_talks 181 [vR 45, vI a, vI b, vI x, vI l4, l5, l6] [] (0, 0, n) h Q := by
  unfold mF at hM
  refine r_aload_n (pc := 181) dX9_talks_181 rfl <| r_dup (pc := 182) dX9_talks_182 rfl <| r_getf (pc := 183) dX9_talks_183 fA_X9_161 hM rfl <| r_iconst (pc := 186) dX9_talks_186 <| r_iadd (pc := 187) dX9_talks_187 <| r_putf (pc := 188) dX9_talks_188 fP_X9_161 rfl rfl hM rfl (fun h_188 hM hF_188 => ?_)
  simp only [List.set_cons_zero, List.set_cons_succ] at hM
  refine r_goto (pc := 191) 5 dX9_talks_191 (by decide) <| ?_
  exact hQ _ hM hF_188
theorem lp_tout {bk it : Int → Int} {a b many sk : Int} (hb : Bd bk (-1) 255) (hit : itOk it) (hm : 0 ≤ many ∧ many ≤ 9) (hsk : 0 ≤ sk ∧ sk < 512) (ha : 0 ≤ a ∧ a < 8) (hbb : 0 ≤ b ∧ b < 8) :
    ∀ (q : Nat) (k : Int) (h : Hp) (e : Nat → Int) (l3 l4 l5 l6 : AV), isJ l3 = false → isJ l4 = false → h 45 = some (aO 9 (mF e)) → e 13 = k → e 11 = many → e 12 = sk → h 46 = some (aA 480 bk) → h 50 = some (aA 40 it) → 1 ≤ k → k + q = 10 →
    (∀ h', h' 45 = some (aO 9 (mF (nu (nu e 13 (talkG (roundF (nmB bk) it many sk a b) q k).2.1) 14 (talkG (roundF (nmB bk) it many sk a b) q k).2.2))) → Fr (fun q => q = 45) h h' → Q (some (vI (talkG (roundF (nmB bk) it many sk a b) q k).1)) n h') →
    At G mX9_talks 5 [vR 45, vI a, vI b, l3, l4, l5, l6] [] (0, 0, n) h Q := by
  intro q
  induction q with
  | zero =>
    rintro k h e l3 l4 l5 l6 j3 j4 hM rfl rfl rfl hB hI hk hq hQ
    unfold mF at hM
    refine r_aload_n (pc := 5) dX9_talks_5 rfl <| r_getf (pc := 6) dX9_talks_6 fA_X9_161 hM rfl <| r_bipush (pc := 9) dX9_talks_9 (by decide) <| r_icmp_ge (pc := 11) 194 dX9_talks_11 (by decide) (by omega) (by omega) (fun hc_11 => ?_) (fun hc_11 => ?_)
    · skip
      refine r_aload_n (pc := 194) dX9_talks_194 rfl <| r_bipush (pc := 195) dX9_talks_195 (by decide) <| r_putf (pc := 197) dX9_talks_197 fP_X9_161 rfl rfl hM rfl (fun h_197 hM hF_197 => ?_)
      simp only [List.set_cons_zero, List.set_cons_succ] at hM
      refine r_aload_n (pc := 200) dX9_talks_200 rfl <| r_iconst (pc := 201) dX9_talks_201 <| r_putf (pc := 202) dX9_talks_202 fP_X9_164 rfl rfl hM rfl (fun h_202 hM hF_202 => ?_)
      simp only [List.set_cons_zero, List.set_cons_succ] at hM
      refine r_iconst (pc := 205) dX9_talks_205 <| r_iret (pc := 206) dX9_talks_206 rfl ⟨Nat.le_of_ble_eq_true rfl, Nat.le_of_ble_eq_true rfl⟩ <| ?_
      exact hQ _ hM (fun p hp => (hF_202 p hp).trans (hF_197 p hp))
    · skip
      exfalso; omega
  | succ q ih =>
    rintro k h e l3 l4 l5 l6 j3 j4 hM rfl rfl rfl hB hI hk hq hQ
    have hM' := hM
    unfold mF at hM'
    refine r_aload_n (pc := 5) dX9_talks_5 rfl <| r_getf (pc := 6) dX9_talks_6 fA_X9_161 hM' rfl <| r_bipush (pc := 9) dX9_talks_9 (by decide) <| r_icmp_ge (pc := 11) 194 dX9_talks_11 (by decide) (by omega) (by omega) (fun hc_11 => ?_) (fun hc_11 => ?_)
    · skip
      exfalso; omega
    · skip
      refine r_aload_n (pc := 14) dX9_talks_14 rfl <| r_getf (pc := 15) dX9_talks_15 fA_X9_161 hM' rfl <| r_iconst (pc := 18) dX9_talks_18 <| r_irem (pc := 19) dX9_talks_19 (by omega) (by omega) <| r_iconst (pc := 20) dX9_talks_20 <| r_icmp_ne (pc := 21) 28 dX9_talks_21 (by decide) (by omega) (by omega) (fun hc_21 => ?_) (fun hc_21 => ?_)
      · skip
        refine r_iload_n (pc := 28) dX9_talks_28 rfl <| r_istoren_3 (pc := 29) dX9_talks_29 rfl <| r_iconst (pc := 30) dX9_talks_30 <| r_istore_4 (pc := 31) dX9_talks_31 rfl <| r_aload_n (pc := 33) dX9_talks_33 rfl <| r_iconst (pc := 34) dX9_talks_34 <| r_putf (pc := 35) dX9_talks_35 fP_X9_164 rfl rfl hM' rfl (fun h_35 hM' hF_35 => ?_)
        simp only [List.set_cons_zero, List.set_cons_succ] at hM'
        replace hB := hF_35.keep hB (by omega)
        replace hI := hF_35.keep hI (by omega)
        have key : ∀ x, (if e 13 % 2 = 1 then a else b) = x → (0 ≤ x ∧ x < 8) → (0 ≤ a + b - x ∧ a + b - x < 8) → At G mX9_talks 38 [vR 45, vI a, vI b, vI x, vI 1, l5, l6] [] (0, 0, n) h_35 Q := by
          intro x hx hx1 hx2
          refine lp_tin (k := e 13) hb hit hm hsk (by omega) hx1 hx2 9 0 _ (nu e 14 0) _ _ hM' rfl rfl rfl rfl hB hI (by omega) (by omega) (fun j h' hj hz h1 h2 => ?_) (fun h' l4 l5 l6 v hj h1 h2 => ?_)
          · have hS : roundF (nmB bk) it (e 11) (e 12) a b (e 13) = some (j, itemF (nmB bk) it (e 12) (e 13) x (a + b - x) j, false) := by
              unfold roundF
              rw [hx, hj]
              simp [hz]
            have hT : talkG (roundF (nmB bk) it (e 11) (e 12) a b) (q + 1) (e 13) = (itemF (nmB bk) it (e 12) (e 13) x (a + b - x) j, e 13, j) := by simp only [talkG, hS]
            rw [hT] at hQ
            exact hQ h' h1 (fun p hp => (h2 p hp).trans (hF_35 p hp))
          · have hT : talkG (roundF (nmB bk) it (e 11) (e 12) a b) (q + 1) (e 13) = talkG (roundF (nmB bk) it (e 11) (e 12) a b) q (e 13 + 1) := by
              have hS : ∀ j g, roundF (nmB bk) it (e 11) (e 12) a b (e 13) ≠ some (j, g, false) := by
                intro j g hc
                unfold roundF at hc
                rw [hx] at hc
                obtain ⟨j', e1, e2⟩ := Option.map_eq_some_iff.mp hc
                have := hj j' e1
                simp only [Prod.mk.injEq] at e2
                obtain ⟨rfl, -, e3⟩ := e2
                simp [this] at e3
              simp only [talkG]
            rw [hT] at hQ
            refine lp_t181 h1 (fun h3 h4 h5 => ?_)
            exact ih (e 13 + 1) h3 _ _ _ _ _ rfl rfl h4 rfl rfl rfl ((h5.keep ((h2.keep hB (by omega))) (by omega))) ((h5.keep ((h2.keep hI (by omega))) (by omega))) (by omega) (by omega) (fun h6 h7 h8 => hQ h6 h7 (fun p hp => (h8 p hp).trans ((h5 p hp).trans ((h2 p hp).trans (hF_35 p hp)))))
        exact key _ (by first | exact if_pos (by omega) | exact if_neg (by omega)) (by omega) (by omega)
      · skip
        refine r_iload_n (pc := 24) dX9_talks_24 rfl <| r_goto (pc := 25) 29 dX9_talks_25 (by decide) <| r_istoren_3 (pc := 29) dX9_talks_29 rfl <| r_iconst (pc := 30) dX9_talks_30 <| r_istore_4 (pc := 31) dX9_talks_31 rfl <| r_aload_n (pc := 33) dX9_talks_33 rfl <| r_iconst (pc := 34) dX9_talks_34 <| r_putf (pc := 35) dX9_talks_35 fP_X9_164 rfl rfl hM' rfl (fun h_35 hM' hF_35 => ?_)
        simp only [List.set_cons_zero, List.set_cons_succ] at hM'
        replace hB := hF_35.keep hB (by omega)
        replace hI := hF_35.keep hI (by omega)
        have key : ∀ x, (if e 13 % 2 = 1 then a else b) = x → (0 ≤ x ∧ x < 8) → (0 ≤ a + b - x ∧ a + b - x < 8) → At G mX9_talks 38 [vR 45, vI a, vI b, vI x, vI 1, l5, l6] [] (0, 0, n) h_35 Q := by
          intro x hx hx1 hx2
          refine lp_tin (k := e 13) hb hit hm hsk (by omega) hx1 hx2 9 0 _ (nu e 14 0) _ _ hM' rfl rfl rfl rfl hB hI (by omega) (by omega) (fun j h' hj hz h1 h2 => ?_) (fun h' l4 l5 l6 v hj h1 h2 => ?_)
          · have hS : roundF (nmB bk) it (e 11) (e 12) a b (e 13) = some (j, itemF (nmB bk) it (e 12) (e 13) x (a + b - x) j, false) := by
              unfold roundF
              rw [hx, hj]
              simp [hz]
            have hT : talkG (roundF (nmB bk) it (e 11) (e 12) a b) (q + 1) (e 13) = (itemF (nmB bk) it (e 12) (e 13) x (a + b - x) j, e 13, j) := by simp only [talkG, hS]
            rw [hT] at hQ
            exact hQ h' h1 (fun p hp => (h2 p hp).trans (hF_35 p hp))
          · have hT : talkG (roundF (nmB bk) it (e 11) (e 12) a b) (q + 1) (e 13) = talkG (roundF (nmB bk) it (e 11) (e 12) a b) q (e 13 + 1) := by
              have hS : ∀ j g, roundF (nmB bk) it (e 11) (e 12) a b (e 13) ≠ some (j, g, false) := by
                intro j g hc
                unfold roundF at hc
                rw [hx] at hc
                obtain ⟨j', e1, e2⟩ := Option.map_eq_some_iff.mp hc
                have := hj j' e1
                simp only [Prod.mk.injEq] at e2
                obtain ⟨rfl, -, e3⟩ := e2
                simp [this] at e3
              simp only [talkG]
            rw [hT] at hQ
            refine lp_t181 h1 (fun h3 h4 h5 => ?_)
            exact ih (e 13 + 1) h3 _ _ _ _ _ rfl rfl h4 rfl rfl rfl ((h5.keep ((h2.keep hB (by omega))) (by omega))) ((h5.keep ((h2.keep hI (by omega))) (by omega))) (by omega) (by omega) (fun h6 h7 h8 => hQ h6 h7 (fun p hp => (h8 p hp).trans ((h5 p hp).trans ((h2 p hp).trans (hF_35 p hp)))))
        exact key _ (by first | exact if_pos (by omega) | exact if_neg (by omega)) (by omega) (by omega)
/-- talks(a, b): who goes; rounds and by hold the rest of it -/
theorem sp_talks {bk it : Int → Int} {a b : Int} {e : Nat → Int} (hM : h 45 = some (aO 9 (mF e))) (hB : h 46 = some (aA 480 bk)) (hI : h 50 = some (aA 40 it)) (hb : Bd bk (-1) 255) (hit : itOk it) (hm : 0 ≤ e 11 ∧ e 11 ≤ 9) (hsk : 0 ≤ e 12 ∧ e 12 < 512) (ha : 0 ≤ a ∧ a < 8) (hbb : 0 ≤ b ∧ b < 8)
    (hQ : ∀ h', h' 45 = some (aO 9 (mF (nu (nu e 13 (talkF (nmB bk) it (e 11) (e 12) a b).2.1) 14 (talkF (nmB bk) it (e 11) (e 12) a b).2.2))) → Fr (fun q => q = 45) h h' → Q (some (vI (talkF (nmB bk) it (e 11) (e 12) a b).1)) n h') : Cl G mX9_talks [vR 45, vI a, vI b] n h Q := by
  unfold mF at hM
  refine cl_of (by decide) (Nat.le_of_ble_eq_true rfl) rfl ?_
  refine r_aload_n (pc := 0) dX9_talks_0 rfl <| r_iconst (pc := 1) dX9_talks_1 <| r_putf (pc := 2) dX9_talks_2 fP_X9_161 rfl rfl hM rfl (fun h_2 hM hF_2 => ?_)
  simp only [List.set_cons_zero, List.set_cons_succ] at hM
  replace hB := hF_2.keep hB (by omega)
  replace hI := hF_2.keep hI (by omega)
  exact lp_tout hb hit hm hsk ha hbb 9 1 _ (nu e 13 1) _ _ _ _ rfl rfl hM rfl rfl rfl hB hI (by omega) (by omega) (fun h6 h7 h8 => hQ h6 h7 (fun p hp => (h8 p hp).trans (hF_2 p hp)))
end MT2

