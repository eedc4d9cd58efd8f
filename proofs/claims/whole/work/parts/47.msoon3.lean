/-! ===== the model: soonest ===== -/
section MSo
variable {G : GT} {n : Nat} {h : Hp} {Q : PT} {s : SS}
theorem lp_sk {i p : Int} {l4 l5 : AV} {bk : Int → Int} (hI : Inv bk) (hp : 0 ≤ p ∧ p < bk 0) : ∀ (q : Nat) (k : Int) (h : Hp) (e : Nat → Int) (ln : Int → Int) (A : List Int), 0 ≤ k → k + q = bk 2 → h 45 = some (aO 9 (mF e)) → h 46 = some (aA 480 bk) → h 52 = some (aA 8 ln) → arL ln 0 A → e 17 = A.length → (A.length ≤ p ∨ A.length ≤ p + 1 ∧ ∀ j, k ≤ j → j < bk 2 → bk (164 + j) ≠ p) →
    (∀ h' ln' B k', h' 45 = some (aO 9 (mF (nu e 17 ((B : List Int).length : Nat)))) → h' 52 = some (aA 8 ln') → arL ln' 0 B → B.length ≤ p + 1 → ((∃ j, k ≤ j ∧ j < bk 2 ∧ bk (164 + j) = p) ∧ B = A ++ [p] ∨ (∀ j, k ≤ j → j < bk 2 → bk (164 + j) ≠ p) ∧ B = A) → Fr (fun j => j = 45 ∨ j = 52) h h' → At G mX9_soonest 108 [vR 45, vI i, vI p, vI k', l4, l5] [] (0, 0, n) h' Q) → At G mX9_soonest 58 [vR 45, vI i, vI p, vI k, l4, l5] [] (0, 0, n) h Q := by
  have i0 := hI.1.1
  have i2 := hI.1.2.2.1
  obtain ⟨q1, q2⟩ := hI.2.2.2.2.2.2.1
  intro q
  induction q with
  | zero =>
    intro k h e ln A hk hq g45 g46 g52 hA he hl hQ
    have hM' := g45
    unfold mF at hM'
    have hl1 : (A.length : Int) ≤ p + 1 := by
      rcases hl with hl | hl
      · omega
      · exact hl.1
    refine r_iload_n (pc := 58) dX9_soonest_58 rfl <| r_aload_n (pc := 59) dX9_soonest_59 rfl <| r_getf (pc := 60) dX9_soonest_60 fA_X9_7 hM' rfl <| r_iconst (pc := 63) dX9_soonest_63 <| r_iald (pc := 64) dX9_soonest_64 g46 (by omega) (by decide) <| r_icmp_ge (pc := 65) 108 dX9_soonest_65 (by decide) (by omega) (by omega) (fun hc_65 => ?_) (fun hc_65 => ?_)
    · skip
      have ee : nu e 17 ((A.length : Nat) : Int) = e := by
        funext j
        unfold nu
        split
        · rename_i hj; rw [hj, he]
        · rfl
      refine hQ h ln A k (by rw [ee]; exact g45) g52 hA hl1 (Or.inr ⟨fun j a b => by omega, rfl⟩) Fr.rf
    · skip
      exfalso; omega
  | succ q ih =>
    intro k h e ln A hk hq g45 g46 g52 hA he hl hQ
    have hM' := g45
    unfold mF at hM'
    have bq := q1 k hk (by omega)
    by_cases ck : bk (164 + k) = p
    · have hl0 : (A.length : Int) ≤ p := by
        rcases hl with hl | hl
        · exact hl
        · exact absurd ck (hl.2 k (by omega) (by omega))
      clear hl
      refine r_iload_n (pc := 58) dX9_soonest_58 rfl <| r_aload_n (pc := 59) dX9_soonest_59 rfl <| r_getf (pc := 60) dX9_soonest_60 fA_X9_7 hM' rfl <| r_iconst (pc := 63) dX9_soonest_63 <| r_iald (pc := 64) dX9_soonest_64 g46 (by omega) (by decide) <| r_icmp_ge (pc := 65) 108 dX9_soonest_65 (by decide) (by omega) (by omega) (fun hc_65 => ?_) (fun hc_65 => ?_)
      · skip
        exfalso; omega
      · skip
        refine r_aload_n (pc := 68) dX9_soonest_68 rfl <| r_getf (pc := 69) dX9_soonest_69 fA_X9_7 hM' rfl <| r_sipush (pc := 72) dX9_soonest_72 (by decide) <| r_iload_n (pc := 75) dX9_soonest_75 rfl <| r_iadd (pc := 76) dX9_soonest_76 <| r_iald (pc := 77) dX9_soonest_77 g46 (by omega) (by decide) <| r_iload_n (pc := 78) dX9_soonest_78 rfl <| r_icmp_ne (pc := 79) 102 dX9_soonest_79 (by decide) (by omega) (by omega) (fun hc_79 => ?_) (fun hc_79 => ?_)
        · skip
          exfalso; omega
        · skip
          refine r_aload_n (pc := 82) dX9_soonest_82 rfl <| r_getf (pc := 83) dX9_soonest_83 fA_X9_29 hM' rfl <| r_aload_n (pc := 86) dX9_soonest_86 rfl <| r_getf (pc := 87) dX9_soonest_87 fA_X9_178 hM' rfl <| r_iload_n (pc := 90) dX9_soonest_90 rfl <| r_iast (pc := 91) dX9_soonest_91 g52 (by omega) (by decide) (fun h_91 g52 hF_91 => ?_)
          replace hM' := hF_91.keep hM' (by omega)
          replace g46 := hF_91.keep g46 (by omega)
          refine r_aload_n (pc := 92) dX9_soonest_92 rfl <| r_dup (pc := 93) dX9_soonest_93 rfl <| r_getf (pc := 94) dX9_soonest_94 fA_X9_178 hM' rfl <| r_iconst (pc := 97) dX9_soonest_97 <| r_iadd (pc := 98) dX9_soonest_98 <| r_putf (pc := 99) dX9_soonest_99 fP_X9_178 rfl rfl hM' rfl (fun h_99 hM' hF_99 => ?_)
          simp only [List.set_cons_zero, List.set_cons_succ] at hM'
          replace g46 := hF_99.keep g46 (by omega)
          replace g52 := hF_99.keep g52 (by omega)
          refine r_iinc_3 (pc := 102) dX9_soonest_102 rfl rfl <| r_goto (pc := 105) 58 dX9_soonest_105 (by decide) <| ?_
          have hF : Fr (fun j => j = 45 ∨ j = 52) h h_99 := fun j hj => (hF_99 j (by omega)).trans (hF_91 j (by omega))
          have k45 : h_99 45 = some (aO 9 (mF (nu e 17 (e 17 + 1)))) := hM'
          have hl' : (A ++ [p]).length = A.length + 1 := by simp
          have h2 : ∀ j, k + 1 ≤ j → j < bk 2 → bk (164 + j) ≠ p := fun j a b ep => q2 k j hk (by omega) b (by omega)
          refine ih (k + 1) _ _ _ (A ++ [p]) (by omega) (by omega) k45 g46 g52 (hA.snoc he) ?_ (Or.inr ⟨by omega, h2⟩) (fun h' ln' B k' a1 a2 a3 a4 a5 a6 => hQ h' ln' B k' ?_ a2 a3 a4 ?_ (fun j hj => (a6 j hj).trans (hF j hj)))
          · show e 17 + 1 = _
            rw [hl', he]; simp
          · rw [a1]
            congr 3
            funext j
            unfold nu
            split <;> rfl
          · rcases a5 with ⟨⟨j, j1, j2, j3⟩, -⟩ | ⟨-, rfl⟩
            · exact absurd j3 (h2 j j1 j2)
            · exact Or.inl ⟨⟨k, by omega, by omega, ck⟩, rfl⟩
    · skip
      refine r_iload_n (pc := 58) dX9_soonest_58 rfl <| r_aload_n (pc := 59) dX9_soonest_59 rfl <| r_getf (pc := 60) dX9_soonest_60 fA_X9_7 hM' rfl <| r_iconst (pc := 63) dX9_soonest_63 <| r_iald (pc := 64) dX9_soonest_64 g46 (by omega) (by decide) <| r_icmp_ge (pc := 65) 108 dX9_soonest_65 (by decide) (by omega) (by omega) (fun hc_65 => ?_) (fun hc_65 => ?_)
      · skip
        exfalso; omega
      · skip
        refine r_aload_n (pc := 68) dX9_soonest_68 rfl <| r_getf (pc := 69) dX9_soonest_69 fA_X9_7 hM' rfl <| r_sipush (pc := 72) dX9_soonest_72 (by decide) <| r_iload_n (pc := 75) dX9_soonest_75 rfl <| r_iadd (pc := 76) dX9_soonest_76 <| r_iald (pc := 77) dX9_soonest_77 g46 (by omega) (by decide) <| r_iload_n (pc := 78) dX9_soonest_78 rfl <| r_icmp_ne (pc := 79) 102 dX9_soonest_79 (by decide) (by omega) (by omega) (fun hc_79 => ?_) (fun hc_79 => ?_)
        · skip
          refine r_iinc_3 (pc := 102) dX9_soonest_102 rfl rfl <| r_goto (pc := 105) 58 dX9_soonest_105 (by decide) <| ?_
          refine ih (k + 1) _ _ _ A (by omega) (by omega) g45 g46 g52 hA he (hl.imp id (fun a => ⟨a.1, fun j j1 j2 => a.2 j (by omega) j2⟩)) (fun h' ln' B k' a1 a2 a3 a4 a5 a6 => hQ h' ln' B k' a1 a2 a3 a4 ?_ a6)
          rcases a5 with ⟨⟨j, j1, j2, j3⟩, e1⟩ | ⟨a5, e1⟩
          · exact Or.inl ⟨⟨j, by omega, j2, j3⟩, e1⟩
          · refine Or.inr ⟨fun j j1 j2 => ?_, e1⟩
            by_cases ej : j = k
            · rw [ej]; exact ck
            · exact a5 j (by omega) j2
        · skip
          exfalso; omega
theorem lp_sp {i : Int} {l4 l5 : AV} {bk : Int → Int} (hI : Inv bk) : ∀ (q : Nat) (p : Int) (h : Hp) (e : Nat → Int) (ln : Int → Int) (A : List Int) (l3 : AV), 0 ≤ p → p + q = bk 0 → h 45 = some (aO 9 (mF e)) → h 46 = some (aA 480 bk) → h 52 = some (aA 8 ln) → arL ln 0 A → e 17 = A.length → A.length ≤ p →
    (∀ h' ln' p' l3', h' 45 = some (aO 9 (mF (nu e 17 ((A ++ srt bk q p).length : Nat)))) → h' 52 = some (aA 8 ln') → arL ln' 0 (A ++ srt bk q p) → Fr (fun j => j = 45 ∨ j = 52) h h' → At G mX9_soonest 114 [vR 45, vI i, vI p', l3', l4, l5] [] (0, 0, n) h' Q) → At G mX9_soonest 46 [vR 45, vI i, vI p, l3, l4, l5] [] (0, 0, n) h Q := by
  have i0 := hI.1.1
  have i2 := hI.1.2.2.1
  intro q
  induction q with
  | zero =>
    intro p h e ln A l3 hp hq g45 g46 g52 hA he hl hQ
    have hM' := g45
    unfold mF at hM'
    refine r_iload_n (pc := 46) dX9_soonest_46 rfl <| r_aload_n (pc := 47) dX9_soonest_47 rfl <| r_getf (pc := 48) dX9_soonest_48 fA_X9_7 hM' rfl <| r_iconst (pc := 51) dX9_soonest_51 <| r_iald (pc := 52) dX9_soonest_52 g46 (by omega) (by decide) <| r_icmp_ge (pc := 53) 114 dX9_soonest_53 (by decide) (by omega) (by omega) (fun hc_53 => ?_) (fun hc_53 => ?_)
    · skip
      have ee : nu e 17 (((A ++ srt bk 0 p).length : Nat) : Int) = e := by
        funext j
        unfold nu
        split
        · rename_i hj; rw [hj, he]; simp [srt]
        · rfl
      refine hQ h ln p _ (by rw [ee]; exact g45) g52 (by simpa [srt] using hA) Fr.rf
    · skip
      exfalso; omega
  | succ q ih =>
    intro p h e ln A l3 hp hq g45 g46 g52 hA he hl hQ
    have hM' := g45
    unfold mF at hM'
    refine r_iload_n (pc := 46) dX9_soonest_46 rfl <| r_aload_n (pc := 47) dX9_soonest_47 rfl <| r_getf (pc := 48) dX9_soonest_48 fA_X9_7 hM' rfl <| r_iconst (pc := 51) dX9_soonest_51 <| r_iald (pc := 52) dX9_soonest_52 g46 (by omega) (by decide) <| r_icmp_ge (pc := 53) 114 dX9_soonest_53 (by decide) (by omega) (by omega) (fun hc_53 => ?_) (fun hc_53 => ?_)
    · skip
      exfalso; omega
    · skip
      refine r_iconst (pc := 56) dX9_soonest_56 <| r_istoren_3 (pc := 57) dX9_soonest_57 rfl <| ?_
      refine lp_sk hI (by omega) (bk 2).toNat 0 h e ln A (by omega) (by omega) g45 g46 g52 hA he (Or.inl hl) (fun h1 ln1 B k' a1 a2 a3 a4 a5 a6 => ?_)
      have e1 : A ++ srt bk (q + 1) p = B ++ srt bk q (p + 1) := by
        rcases a5 with ⟨⟨j, j1, j2, j3⟩, rfl⟩ | ⟨a5, rfl⟩
        · rw [srt_y ⟨j, j1, j2, j3⟩]; simp
        · rw [srt_n (fun ⟨j, j1, j2, j3⟩ => a5 j j1 j2 j3)]
      rw [e1] at hQ
      refine r_iinc_2 (pc := 108) dX9_soonest_108 rfl rfl <| r_goto (pc := 111) 46 dX9_soonest_111 (by decide) <| ?_
      refine ih (p + 1) h1 _ ln1 B _ (by omega) (by omega) a1 (a6.keep g46 (by omega)) a2 a3 rfl (by omega) (fun h' ln' p' l3' b1 b2 b3 b4 => hQ h' ln' p' l3' ?_ b2 b3 (fun j hj => (b4 j hj).trans (a6 j hj)))
      rw [b1]
      congr 3
      funext j
      unfold nu
      split <;> rfl
theorem lp_best {i l : Int} {N : Nat} {ln : Int → Int} {e : Nat → Int} {l3 : AV} {k4 : Int} (hN : N ≤ 8) (h17 : e 17 = N) : ∀ (q : Nat) (k : Int) (h : Hp) (bs : Int → Int), 0 ≤ k → k + q = N → h 45 = some (aO 9 (mF e)) → h 52 = some (aA 8 ln) → h 54 = some (aA 8 bs) →
    (∀ h' bs' k', h' 54 = some (aA 8 bs') → (∀ j, j < k → bs' j = bs j) → (∀ j, k ≤ j → j < N → bs' j = ln j) → Fr (fun j => j = 54) h h' → At G mX9_soonest 180 [vR 45, vI i, vI l, l3, vI k4, vI k'] [] (0, 0, n) h' Q) → At G mX9_soonest 151 [vR 45, vI i, vI l, l3, vI k4, vI k] [] (0, 0, n) h Q := by
  intro q
  induction q with
  | zero =>
    intro k h bs hk hq g45 g52 g54 hQ
    have hM' := g45
    unfold mF at hM'
    refine r_iload (pc := 151) dX9_soonest_151 rfl <| r_aload_n (pc := 153) dX9_soonest_153 rfl <| r_getf (pc := 154) dX9_soonest_154 fA_X9_178 hM' rfl <| r_icmp_ge (pc := 157) 180 dX9_soonest_157 (by decide) (by omega) (by omega) (fun hc_157 => ?_) (fun hc_157 => ?_)
    · skip
      exact hQ h bs k g54 (fun j _ => rfl) (fun j a b => by omega) Fr.rf
    · skip
      exfalso; omega
  | succ q ih =>
    intro k h bs hk hq g45 g52 g54 hQ
    have hM' := g45
    unfold mF at hM'
    refine r_iload (pc := 151) dX9_soonest_151 rfl <| r_aload_n (pc := 153) dX9_soonest_153 rfl <| r_getf (pc := 154) dX9_soonest_154 fA_X9_178 hM' rfl <| r_icmp_ge (pc := 157) 180 dX9_soonest_157 (by decide) (by omega) (by omega) (fun hc_157 => ?_) (fun hc_157 => ?_)
    · skip
      exfalso; omega
    · skip
      refine r_aload_n (pc := 160) dX9_soonest_160 rfl <| r_getf (pc := 161) dX9_soonest_161 fA_X9_35 hM' rfl <| r_iload (pc := 164) dX9_soonest_164 rfl <| r_aload_n (pc := 166) dX9_soonest_166 rfl <| r_getf (pc := 167) dX9_soonest_167 fA_X9_29 hM' rfl <| r_iload (pc := 170) dX9_soonest_170 rfl <| r_iald (pc := 172) dX9_soonest_172 g52 (by omega) (by decide) <| r_iast (pc := 173) dX9_soonest_173 g54 (by omega) (by decide) (fun h_173 g54 hF_173 => ?_)
      replace hM' := hF_173.keep hM' (by omega)
      replace g52 := hF_173.keep g52 (by omega)
      refine r_iinc_5 (pc := 174) dX9_soonest_174 rfl rfl <| r_goto (pc := 177) 151 dX9_soonest_177 (by decide) <| ?_
      refine ih (k + 1) h_173 _ (by omega) (by omega) (hF_173.keep g45 (by omega)) g52 g54 (fun h' bs' k' a1 a2 a3 a4 => hQ h' bs' k' a1 (fun j hj => ?_) (fun j j1 j2 => ?_) (fun j hj => (a4 j hj).trans (hF_173 j hj)))
      · rw [a2 j (by omega), iu_n (by omega)]
      · by_cases ej : j = k
        · rw [a2 j (by omega), ej, iu_s]
        · exact a3 j (by omega) j2
theorem arL_of {f g : Int → Int} {L : List Int} (h : arL f 0 L) (hg : ∀ j : Int, 0 ≤ j → j < (L.length : Int) → g j = f j) : arL g 0 L := by
  intro i v hv
  have hi : i < L.length := by
    rcases Nat.lt_or_ge i L.length with c | c
    · exact c
    · rw [List.getElem?_eq_none c] at hv; cases hv
  rw [hg _ (by omega) (by omega)]
  exact h i v hv
theorem lp_so {i m : Int} {N : Nat} {σ it : Int → Int} (hI : Inv s.bk) (hT : talkF (nmB s.bk) it m 0 = TB s.bk) (hN : N ≤ 6) (hm : ∀ i j, 0 ≤ i → i < j → j < (N : Int) → σ i < σ j) (hs : ∀ i, 0 ≤ i → i < (N : Int) → 0 ≤ σ i ∧ σ i < 8) :
    ∀ (q : Nat) (π : Int → Int) (l : Int) (b : List Int) (h : Hp) (e : Nat → Int) (ln bs : Int → Int) (l4 l5 : AV), endsN N q π → wM h s e it → e 11 = m → e 12 = 0 → e 17 = N → h 52 = some (aA 8 ln) → rl N σ π ln → h 54 = some (aA 8 bs) → (l ≠ -1 → arL bs 0 b ∧ b.length = N) → (-1 ≤ l ∧ l ≤ 90) →
    (∀ h' e' bs' l4' l5', wM h' s e' it → e' 17 = N → h' 54 = some (aA 8 bs') → ((soG (TB s.bk) σ N q π l b).1 ≠ -1 → arL bs' 0 (soG (TB s.bk) σ N q π l b).2) → Fr MR h h' → At G mX9_soonest 188 [vR 45, vI i, vI (soG (TB s.bk) σ N q π l b).1, vI 0, l4', l5'] [] (0, 0, n) h' Q) → At G mX9_soonest 122 [vR 45, vI i, vI l, vI 1, l4, l5] [] (0, 0, n) h Q := by
  intro q
  induction q with
  | zero => intro π l b h e ln bs l4 l5 he; exact absurd he (fun q => q)
  | succ q ih =>
    intro π l b h e ln bs l4 l5 hends hW h11 h12 h17 g52 hrl g54 hb hl hQ
    have hmi := @minL_in s.bk (rowL σ π N) (by rw [rowL_len]; omega)
    have key : ∀ (l' : Int) (b' : List Int) (h1 : Hp) (e1 : Nat → Int) (bs1 : Int → Int) (l4' l5' : AV), wM h1 s e1 it → e1 11 = m → e1 12 = 0 → e1 17 = N → h1 52 = some (aA 8 ln) → h1 54 = some (aA 8 bs1) → (l' ≠ -1 → arL bs1 0 b' ∧ b'.length = N) → (-1 ≤ l' ∧ l' ≤ 90) → Fr MR h h1 →
        (soG (TB s.bk) σ N (q + 1) π l b = match nxF N π with | none => (l', b') | some π' => soG (TB s.bk) σ N q π' l' b') → At G mX9_soonest 180 [vR 45, vI i, vI l', vI 1, l4', l5'] [] (0, 0, n) h1 Q := by
      intro l' b' h1 e1 bs1 l4' l5' kW k11 k12 k17 k52 k54 kb kl kF ke
      have hM' := kW.2.1
      unfold mF at hM'
      refine r_aload_n (pc := 180) dX9_soonest_180 rfl <| cVi [] (pc := 181) dX9_soonest_181 k_X9_194 ⟨⟨Nat.le_of_ble_eq_true rfl, Nat.le_of_ble_eq_true rfl⟩, ⟨Nat.le_of_ble_eq_true rfl, Nat.le_of_ble_eq_true rfl⟩, Nat.le_of_ble_eq_true rfl⟩ ⟨rfl, rfl⟩ hM' ?_
      refine sp_next kW.2.1 k17 (by omega) k52 (fun i i0 i1 => ?_) (fun hx => ?_) (fun f' h2 hx a1 a2 => ?_)
      · rw [(hrl.1 i i0 i1).1]; exact hs _ (hrl.1 i i0 i1).2.1 (hrl.1 i i0 i1).2.2
      · skip
        refine ⟨_, rfl, ?_⟩
        refine r_istoren_3 (pc := 184) dX9_soonest_184 rfl <| r_goto (pc := 185) 118 dX9_soonest_185 (by decide) <| r_iload_n (pc := 118) dX9_soonest_118 rfl <| r_if_eq (pc := 119) 188 dX9_soonest_119 (by decide) (by decide) (fun _ => ?_) (fun q => absurd q (by decide))
        rcases nxF_rl hm hrl (by omega) with ⟨e2, e3⟩ | ⟨π', f2, e2, e3, e4⟩
        · rw [e2] at ke
          rw [ke] at hQ
          exact hQ h1 e1 bs1 _ _ kW k17 k54 (fun hne => (kb hne).1) kF
        · rw [e3] at hx; cases hx
      · skip
        refine ⟨_, rfl, ?_⟩
        refine r_istoren_3 (pc := 184) dX9_soonest_184 rfl <| r_goto (pc := 185) 118 dX9_soonest_185 (by decide) <| r_iload_n (pc := 118) dX9_soonest_118 rfl <| r_if_eq (pc := 119) 188 dX9_soonest_119 (by decide) (by decide) (fun q => absurd q (by decide)) (fun _ => ?_)
        rcases nxF_rl hm hrl (by omega) with ⟨e2, e3⟩ | ⟨π', f2, e2, e3, e4⟩
        · rw [e3] at hx; cases hx
        · rw [e3] at hx
          cases hx
          rw [e2] at ke
          rw [ke] at hQ
          refine ih π' l' b' h2 e1 _ bs1 _ _ (hends π' e2) ?_ k11 k12 k17 a1 e4 (a2.keep k54 (by omega)) kb kl (fun h' e' bs' l4' l5' c1 c2 c3 c4 c5 => hQ h' e' bs' l4' l5' c1 c2 c3 c4 (fun j hj => (c5 j hj).trans ((a2 j (by omega)).trans (kF j hj))))
          exact kW.up (a2.keep kW.2.1 (by omega)) ⟨rfl, rfl, rfl⟩ (a2.keep kW.2.2.1 (by omega)) (a2.keep kW.2.2.2.1 (by omega)) kW.2.2.2.2.1 kW.2.2.2.2.2.1 kW.2.2.2.2.2.2 (fun j j1 j2 => by
            by_cases ej : j = 52
            · subst ej; exact Or.inr ⟨_, a1⟩
            · exact Or.inl (a2 j ej)) (a2.wk (fun j => by omega))
    have hM' := hW.2.1
    unfold mF at hM'
    refine r_aload_n (pc := 122) dX9_soonest_122 rfl <| cVi [] (pc := 123) dX9_soonest_123 k_X9_191 ⟨⟨Nat.le_of_ble_eq_true rfl, Nat.le_of_ble_eq_true rfl⟩, ⟨Nat.le_of_ble_eq_true rfl, Nat.le_of_ble_eq_true rfl⟩, Nat.le_of_ble_eq_true rfl⟩ ⟨rfl, rfl⟩ hM' ?_
    refine wm_lets hW hI g52 (by rw [h17, rowL_len]) (by rw [rowL_len]; omega) (rowL_ar hrl) (rowL_mem hrl hs) (rowL_nodup hrl hm) (fun h3 e3 gs3 b1 b2 b5 b6 b7 => ?_)
    rw [h11, h12, hT]
    refine ⟨_, rfl, ?_⟩
    have hF3 : Fr MR h h3 := fun j hj => b7 j (by omega)
    have k11 : e3 11 = m := (b2 11 (by decide) (by decide)).trans h11
    have k12 : e3 12 = 0 := (b2 12 (by decide) (by decide)).trans h12
    have k17 : e3 17 = N := (b2 17 (by decide) (by decide)).trans h17
    have k52 := b7.keep g52 (by omega)
    have k54 := b7.keep g54 (by omega)
    refine r_istore_4 (pc := 126) dX9_soonest_126 rfl <| r_iload (pc := 128) dX9_soonest_128 rfl <| r_iconst (pc := 130) dX9_soonest_130 <| r_icmp_eq (pc := 131) 180 dX9_soonest_131 (by decide) (by omega) (by omega) (fun hc_131 => ?_) (fun hc_131 => ?_)
    · skip
      refine key l b h3 e3 bs _ _ b1 k11 k12 k17 k52 k54 hb hl hF3 ?_
      have hno : ¬ (¬ minL (passL (TB s.bk) (rowL σ π N)) = -1 ∧ (l = -1 ∨ minL (passL (TB s.bk) (rowL σ π N)) < l)) := by omega
      simp only [soG]
      rw [if_neg hno]
      cases nxF N π with
      | none => rfl
      | some π' => dsimp only; rw [if_neg hno]
    · skip
      refine r_iload_n (pc := 134) dX9_soonest_134 rfl <| r_iconst (pc := 135) dX9_soonest_135 <| r_icmp_eq (pc := 136) 145 dX9_soonest_136 (by decide) (by omega) (by omega) (fun hc_136 => ?_) (fun hc_136 => ?_)
      · skip
        refine r_iload (pc := 145) dX9_soonest_145 rfl <| r_istoren_2 (pc := 147) dX9_soonest_147 rfl <| r_iconst (pc := 148) dX9_soonest_148 <| r_istore_5 (pc := 149) dX9_soonest_149 rfl <| ?_
        refine lp_best (by omega) k17 N 0 h3 bs (by omega) (by omega) b1.2.1 k52 k54 (fun h4 bs4 k' c1 c2 c3 c4 => ?_)
        have hyes : ¬ minL (passL (TB s.bk) (rowL σ π N)) = -1 ∧ (l = -1 ∨ minL (passL (TB s.bk) (rowL σ π N)) < l) := by omega
        refine key (minL (passL (TB s.bk) (rowL σ π N))) (rowL σ π N) h4 e3 bs4 _ _ ?_ k11 k12 k17 (c4.keep k52 (by omega)) c1 (fun _ => ⟨arL_of (rowL_ar hrl) (fun j j0 j1 => c3 j j0 (by rw [rowL_len] at j1; omega)), rowL_len⟩) ⟨hmi.1, hmi.2.1⟩ (fun j hj => (c4 j (by omega)).trans (hF3 j hj)) ?_
        · exact b1.up (c4.keep b1.2.1 (by omega)) ⟨rfl, rfl, rfl⟩ (c4.keep b1.2.2.1 (by omega)) (c4.keep b1.2.2.2.1 (by omega)) b1.2.2.2.2.1 b1.2.2.2.2.2.1 b1.2.2.2.2.2.2 (fun j j1 j2 => by
              by_cases ej : j = 54
              · subst ej; exact Or.inr ⟨_, c1⟩
              · exact Or.inl (c4 j ej)) (c4.wk (fun j => by omega))
        · simp only [soG]
          rw [if_pos hyes]
          cases nxF N π with
          | none => rfl
          | some π' => dsimp only; rw [if_pos hyes]
      · skip
        refine r_iload (pc := 139) dX9_soonest_139 rfl <| r_iload_n (pc := 141) dX9_soonest_141 rfl <| r_icmp_ge (pc := 142) 180 dX9_soonest_142 (by decide) (by omega) (by omega) (fun hc_142 => ?_) (fun hc_142 => ?_)
        · skip
          refine key l b h3 e3 bs _ _ b1 k11 k12 k17 k52 k54 hb hl hF3 ?_
          have hno : ¬ (¬ minL (passL (TB s.bk) (rowL σ π N)) = -1 ∧ (l = -1 ∨ minL (passL (TB s.bk) (rowL σ π N)) < l)) := by omega
          simp only [soG]
          rw [if_neg hno]
          cases nxF N π with
          | none => rfl
          | some π' => dsimp only; rw [if_neg hno]
        · skip
          refine r_iload (pc := 145) dX9_soonest_145 rfl <| r_istoren_2 (pc := 147) dX9_soonest_147 rfl <| r_iconst (pc := 148) dX9_soonest_148 <| r_istore_5 (pc := 149) dX9_soonest_149 rfl <| ?_
          refine lp_best (by omega) k17 N 0 h3 bs (by omega) (by omega) b1.2.1 k52 k54 (fun h4 bs4 k' c1 c2 c3 c4 => ?_)
          have hyes : ¬ minL (passL (TB s.bk) (rowL σ π N)) = -1 ∧ (l = -1 ∨ minL (passL (TB s.bk) (rowL σ π N)) < l) := by omega
          refine key (minL (passL (TB s.bk) (rowL σ π N))) (rowL σ π N) h4 e3 bs4 _ _ ?_ k11 k12 k17 (c4.keep k52 (by omega)) c1 (fun _ => ⟨arL_of (rowL_ar hrl) (fun j j0 j1 => c3 j j0 (by rw [rowL_len] at j1; omega)), rowL_len⟩) ⟨hmi.1, hmi.2.1⟩ (fun j hj => (c4 j (by omega)).trans (hF3 j hj)) ?_
          · exact b1.up (c4.keep b1.2.1 (by omega)) ⟨rfl, rfl, rfl⟩ (c4.keep b1.2.2.1 (by omega)) (c4.keep b1.2.2.2.1 (by omega)) b1.2.2.2.2.1 b1.2.2.2.2.2.1 b1.2.2.2.2.2.2 (fun j j1 j2 => by
                by_cases ej : j = 54
                · subst ej; exact Or.inr ⟨_, c1⟩
                · exact Or.inl (c4 j ej)) (c4.wk (fun j => by omega))
          · simp only [soG]
            rw [if_pos hyes]
            cases nxF N π with
            | none => rfl
            | some π' => dsimp only; rw [if_pos hyes]
theorem ms_soonest {i : Int} (hM : isM h s) (hI : Inv s.bk) (hi : inI i) (hQ : ∀ h', isM h' (fSoonest s i).2 → Fr MR h h' → Q (some (vI (fSoonest s i).1)) n h') : Cl G mX9_soonest [vR 45, vI i] n h Q := by
  obtain ⟨e, it, g45, ge, g9, g46, -⟩ := id hM.raw
  have hM' := g45
  unfold mF at hM'
  have i0 := hI.1.1
  have i2 := hI.1.2.2.1
  unfold fSoonest at hQ
  refine cl_of (by decide) (Nat.le_of_ble_eq_true rfl) rfl ?_
  refine r_iload_n (pc := 0) dX9_soonest_0 rfl <| r_iconst (pc := 1) dX9_soonest_1 <| r_icmp_ge (pc := 2) 13 dX9_soonest_2 (by decide) (by omega) (by omega) (fun hc_2 => ?_) (fun hc_2 => ?_)
  · skip
    refine r_aload_n (pc := 13) dX9_soonest_13 rfl <| cVi [] (pc := 14) dX9_soonest_14 k_X9_145 ⟨⟨Nat.le_of_ble_eq_true rfl, Nat.le_of_ble_eq_true rfl⟩, ⟨Nat.le_of_ble_eq_true rfl, Nat.le_of_ble_eq_true rfl⟩, Nat.le_of_ble_eq_true rfl⟩ ⟨rfl, rfl⟩ hM' ?_
    refine wm_reads hM hI (fun q3 h1 e1 it1 m1 m6 m7 m7' m8 m10 => ?_) (fun q3 h1 m1 m10 => ?_)
    · skip
      refine ⟨_, rfl, ?_⟩
      clear hM' g45 g46
      first
        | (have g45 := m1.2.1; have g46 := m1.2.2.1; have hM' := g45; unfold mF at hM')
        | (obtain ⟨e1, it1, g45, -, -, g46, -⟩ := id m1.raw; have hM' := g45; unfold mF at hM')
      refine r_if_eq (pc := 17) 31 dX9_soonest_17 (by decide) (by decide) (fun q => absurd q (by decide)) (fun _ => ?_)
      refine r_aload_n (pc := 20) dX9_soonest_20 rfl <| r_getf (pc := 21) dX9_soonest_21 fA_X9_7 hM' rfl <| r_iconst (pc := 24) dX9_soonest_24 <| r_iald (pc := 25) dX9_soonest_25 g46 (by omega) (by decide) <| r_bipush (pc := 26) dX9_soonest_26 (by decide) <| r_icmp_le (pc := 28) 39 dX9_soonest_28 (by decide) (by omega) (by omega) (fun hc_28 => ?_) (fun hc_28 => ?_)
      · skip
        refine r_aload_n (pc := 39) dX9_soonest_39 rfl <| r_iconst (pc := 40) dX9_soonest_40 <| r_putf (pc := 41) dX9_soonest_41 fP_X9_178 rfl rfl hM' rfl (fun h_41 hM' hF_41 => ?_)
        simp only [List.set_cons_zero, List.set_cons_succ] at hM'
        replace g46 := hF_41.keep g46 (by omega)
        refine r_iconst (pc := 44) dX9_soonest_44 <| r_istoren_2 (pc := 45) dX9_soonest_45 rfl <| ?_
        have hc6 : s.bk 2 ≤ 6 := by omega
        rw [if_neg (by omega), if_neg (fun q => q.elim (fun q => q q3) (by omega))] at hQ
        obtain ⟨ln, k52⟩ := m1.1.sc 52 (by omega) (by omega)
        have k45 : h_41 45 = some (aO 9 (mF (nu e1 17 0))) := hM'
        refine lp_sp hI (s.bk 0).toNat 0 h_41 _ ln [] _ (by omega) (by omega) k45 g46 (hF_41.keep k52 (by omega)) (fun i v hv => by cases hv) rfl (by simp) (fun h2 ln2 p' l3' a1 a2 a3 a4 => ?_)
        have ee : nu (nu e1 17 0) 17 ((([] : List Int) ++ srt s.bk (s.bk 0).toNat 0).length : Nat) = nu e1 17 (s.bk 2) := by
          funext j
          unfold nu
          split
          · rw [← srt_len hI, srt_8 hI]; simp
          · rfl
        rw [ee] at a1
        have a3' : arL ln2 0 (srt s.bk 8 0) := by rw [srt_8 hI]; simpa using a3
        have hF2 : Fr (fun j => j = 45 ∨ j = 52) h1 h2 := fun j hj => (a4 j hj).trans (hF_41 j (by omega))
        have w2 : wM h2 s (nu e1 17 (s.bk 2)) it1 := m1.up a1 ⟨rfl, rfl, rfl⟩ (hF2.keep m1.2.2.1 (by omega)) (hF2.keep m1.2.2.2.1 (by omega)) m1.2.2.2.2.1 m1.2.2.2.2.2.1 m1.2.2.2.2.2.2 (fun j j1 j2 => by
          by_cases ej : j = 52
          · subst ej; exact Or.inr ⟨_, a2⟩
          · exact Or.inl (hF2 j (by omega))) (hF2.wk (fun j => by omega))
        obtain ⟨bs, k54⟩ := w2.1.sc 54 (by omega) (by omega)
        have hrl := sgm_ar hI a3' hc6
        have hN : (((s.bk 2).toNat : Nat) : Int) = s.bk 2 := by omega
        refine r_iconst (pc := 114) dX9_soonest_114 <| r_istoren_2 (pc := 115) dX9_soonest_115 rfl <| r_iconst (pc := 116) dX9_soonest_116 <| r_istoren_3 (pc := 117) dX9_soonest_117 rfl <| r_iload_n (pc := 118) dX9_soonest_118 rfl <| r_if_eq (pc := 119) 188 dX9_soonest_119 (by decide) (by decide) (fun q => absurd q (by decide)) (fun _ => ?_)
        refine lp_so (m := e1 11) (N := (s.bk 2).toNat) (σ := sgm s.bk) hI (TB_fun m6 m7 rfl) (by omega) (fun i j a b c => sgm_mono hI i j a b (by omega)) (fun i a b => by have := sgm_in hI a (show i < s.bk 2 by omega); omega) 720 (dec8 181896) (-1) [] h2 _ ln2 bs _ _ ?_ w2 rfl m8 (by rw [hN]; rfl) a2 hrl k54 (fun q => absurd rfl q) (by omega) (fun h3 e3 bs3 l4' l5' c1 c2 c3 c4 c5 => ?_)
        · refine ends720 (by omega) ⟨fun i a b => ⟨rfl, ?_⟩, hrl.2⟩
          have := hrl.1 i a b
          exact this.2
        · have hin := @soG_in s.bk (sgm s.bk) (s.bk 2).toNat (by omega) 720 (dec8 181896) (-1) [] (by omega) (fun q => absurd rfl q)
          change (-1 ≤ (soR s.bk).1 ∧ (soR s.bk).1 ≤ 90) ∧ ((soR s.bk).1 ≠ -1 → (soR s.bk).2.length = (s.bk 2).toNat) at hin
          change (soR s.bk).1 ≠ -1 → arL bs3 0 (soR s.bk).2 at c4
          show At G mX9_soonest 188 [vR 45, vI i, vI (soR s.bk).1, vI 0, l4', l5'] [] (0, 0, n) h3 Q
          have hF : Fr MR h h3 := fun j hj => (c5 j hj).trans ((hF2 j (by omega)).trans (m10 j hj))
          clear hM'
          have hM' := c1.2.1
          unfold mF at hM'
          obtain ⟨hin1, hin2⟩ := hin
          generalize hR : soR s.bk = R at *
          refine r_iload_n (pc := 188) dX9_soonest_188 rfl <| r_iconst (pc := 189) dX9_soonest_189 <| r_icmp_ne (pc := 190) 203 dX9_soonest_190 (by decide) (by omega) (by omega) (fun hc_190 => ?_) (fun hc_190 => ?_)
          · skip
            refine r_iload_n (pc := 203) dX9_soonest_203 rfl <| r_iconst (pc := 204) dX9_soonest_204 <| r_icmp_ne (pc := 205) 212 dX9_soonest_205 (by decide) (by omega) (by omega) (fun hc_205 => ?_) (fun hc_205 => ?_)
            · skip
              refine r_iload_n (pc := 212) dX9_soonest_212 rfl <| r_aload_n (pc := 213) dX9_soonest_213 rfl <| r_getf (pc := 214) dX9_soonest_214 fA_X9_178 hM' rfl <| r_icmp_ge (pc := 217) 229 dX9_soonest_217 (by decide) (by omega) (by omega) (fun hc_217 => ?_) (fun hc_217 => ?_)
              · skip
                refine r_bipush (pc := 229) dX9_soonest_229 (by decide) <| r_iret (pc := 231) dX9_soonest_231 rfl ⟨Nat.le_of_ble_eq_true rfl, Nat.le_of_ble_eq_true rfl⟩ <| ?_
                first
                  | (rw [if_pos (by omega)] at hQ; exact hQ _ g1 (fun j hj => (g2 j hj).trans (hF j hj)))
                  | (rw [if_neg (by omega), if_pos (by omega)] at hQ; exact hQ _ c1.1 hF)
                  | (rw [if_neg (by omega), if_neg (by omega), if_pos (by omega)] at hQ
                     have hl := hin2 (by omega)
                     exact qI (getL (c4 (by omega)) (by omega) (by omega)) (hQ _ c1.1 hF))
                  | (rw [if_neg (by omega), if_neg (by omega), if_neg (by omega)] at hQ; exact hQ _ c1.1 hF)
              · skip
                refine r_aload_n (pc := 220) dX9_soonest_220 rfl <| r_getf (pc := 221) dX9_soonest_221 fA_X9_35 hM' rfl <| r_iload_n (pc := 224) dX9_soonest_224 rfl <| r_iald (pc := 225) dX9_soonest_225 c3 (by omega) (by decide) <| r_goto (pc := 226) 231 dX9_soonest_226 (by decide) <| r_iret (pc := 231) dX9_soonest_231 rfl ⟨Nat.le_of_ble_eq_true rfl, Nat.le_of_ble_eq_true rfl⟩ <| ?_
                first
                  | (rw [if_pos (by omega)] at hQ; exact hQ _ g1 (fun j hj => (g2 j hj).trans (hF j hj)))
                  | (rw [if_neg (by omega), if_pos (by omega)] at hQ; exact hQ _ c1.1 hF)
                  | (rw [if_neg (by omega), if_neg (by omega), if_pos (by omega)] at hQ
                     have hl := hin2 (by omega)
                     exact qI (getL (c4 (by omega)) (by omega) (by omega)) (hQ _ c1.1 hF))
                  | (rw [if_neg (by omega), if_neg (by omega), if_neg (by omega)] at hQ; exact hQ _ c1.1 hF)
            · skip
              refine r_iload_n (pc := 208) dX9_soonest_208 rfl <| r_goto (pc := 209) 231 dX9_soonest_209 (by decide) <| r_iret (pc := 231) dX9_soonest_231 rfl ⟨Nat.le_of_ble_eq_true rfl, Nat.le_of_ble_eq_true rfl⟩ <| ?_
              first
                | (rw [if_pos (by omega)] at hQ; exact hQ _ g1 (fun j hj => (g2 j hj).trans (hF j hj)))
                | (rw [if_neg (by omega), if_pos (by omega)] at hQ; exact hQ _ c1.1 hF)
                | (rw [if_neg (by omega), if_neg (by omega), if_pos (by omega)] at hQ
                   have hl := hin2 (by omega)
                   exact qI (getL (c4 (by omega)) (by omega) (by omega)) (hQ _ c1.1 hF))
                | (rw [if_neg (by omega), if_neg (by omega), if_neg (by omega)] at hQ; exact hQ _ c1.1 hF)
          · skip
            refine r_aload_n (pc := 193) dX9_soonest_193 rfl <| r_iconst (pc := 194) dX9_soonest_194 <| r_bipush (pc := 195) dX9_soonest_195 (by decide) <| cVi [_, _] (pc := 197) dX9_soonest_197 k_X9_51 ⟨⟨Nat.le_of_ble_eq_true rfl, Nat.le_of_ble_eq_true rfl⟩, ⟨Nat.le_of_ble_eq_true rfl, Nat.le_of_ble_eq_true rfl⟩, Nat.le_of_ble_eq_true rfl⟩ ⟨rfl, rfl⟩ hM' ?_
            refine ms_refuse c1.1 1 (by omega) (fun h4 g1 g2 => ?_)
            refine ⟨_, rfl, ?_⟩
            refine r_goto (pc := 200) 231 dX9_soonest_200 (by decide) <| r_iret (pc := 231) dX9_soonest_231 rfl ⟨Nat.le_of_ble_eq_true rfl, Nat.le_of_ble_eq_true rfl⟩ <| ?_
            first
              | (rw [if_pos (by omega)] at hQ; exact hQ _ g1 (fun j hj => (g2 j hj).trans (hF j hj)))
              | (rw [if_neg (by omega), if_pos (by omega)] at hQ; exact hQ _ c1.1 hF)
              | (rw [if_neg (by omega), if_neg (by omega), if_pos (by omega)] at hQ
                 have hl := hin2 (by omega)
                 exact qI (getL (c4 (by omega)) (by omega) (by omega)) (hQ _ c1.1 hF))
              | (rw [if_neg (by omega), if_neg (by omega), if_neg (by omega)] at hQ; exact hQ _ c1.1 hF)
      · skip
        refine r_aload_n (pc := 31) dX9_soonest_31 rfl <| r_iconst (pc := 32) dX9_soonest_32 <| r_bipush (pc := 33) dX9_soonest_33 (by decide) <| cVi [_, _] (pc := 35) dX9_soonest_35 k_X9_51 ⟨⟨Nat.le_of_ble_eq_true rfl, Nat.le_of_ble_eq_true rfl⟩, ⟨Nat.le_of_ble_eq_true rfl, Nat.le_of_ble_eq_true rfl⟩, Nat.le_of_ble_eq_true rfl⟩ ⟨rfl, rfl⟩ hM' ?_
        first | refine ms_refuse m1.1 1 (by omega) (fun h2 g1 g2 => ?_) | refine ms_refuse m1 1 (by omega) (fun h2 g1 g2 => ?_)
        refine ⟨_, rfl, ?_⟩
        refine r_iret (pc := 38) dX9_soonest_38 rfl ⟨Nat.le_of_ble_eq_true rfl, Nat.le_of_ble_eq_true rfl⟩ <| ?_
        first
          | (rw [if_neg (by omega), if_pos (Or.inl q3)] at hQ; exact hQ _ g1 (fun j hj => (g2 j hj).trans (m10 j hj)))
          | (rw [if_neg (by omega), if_pos (Or.inr (by omega))] at hQ; exact hQ _ g1 (fun j hj => (g2 j hj).trans (m10 j hj)))
    · skip
      refine ⟨_, rfl, ?_⟩
      clear hM' g45 g46
      first
        | (have g45 := m1.2.1; have g46 := m1.2.2.1; have hM' := g45; unfold mF at hM')
        | (obtain ⟨e1, it1, g45, -, -, g46, -⟩ := id m1.raw; have hM' := g45; unfold mF at hM')
      refine r_if_eq (pc := 17) 31 dX9_soonest_17 (by decide) (by decide) (fun _ => ?_) (fun q => absurd q (by decide))
      refine r_aload_n (pc := 31) dX9_soonest_31 rfl <| r_iconst (pc := 32) dX9_soonest_32 <| r_bipush (pc := 33) dX9_soonest_33 (by decide) <| cVi [_, _] (pc := 35) dX9_soonest_35 k_X9_51 ⟨⟨Nat.le_of_ble_eq_true rfl, Nat.le_of_ble_eq_true rfl⟩, ⟨Nat.le_of_ble_eq_true rfl, Nat.le_of_ble_eq_true rfl⟩, Nat.le_of_ble_eq_true rfl⟩ ⟨rfl, rfl⟩ hM' ?_
      first | refine ms_refuse m1.1 1 (by omega) (fun h2 g1 g2 => ?_) | refine ms_refuse m1 1 (by omega) (fun h2 g1 g2 => ?_)
      refine ⟨_, rfl, ?_⟩
      refine r_iret (pc := 38) dX9_soonest_38 rfl ⟨Nat.le_of_ble_eq_true rfl, Nat.le_of_ble_eq_true rfl⟩ <| ?_
      first
        | (rw [if_neg (by omega), if_pos (Or.inl q3)] at hQ; exact hQ _ g1 (fun j hj => (g2 j hj).trans (m10 j hj)))
        | (rw [if_neg (by omega), if_pos (Or.inr (by omega))] at hQ; exact hQ _ g1 (fun j hj => (g2 j hj).trans (m10 j hj)))
  · skip
    refine r_aload_n (pc := 5) dX9_soonest_5 rfl <| r_iconst (pc := 6) dX9_soonest_6 <| r_bipush (pc := 7) dX9_soonest_7 (by decide) <| cVi [_, _] (pc := 9) dX9_soonest_9 k_X9_51 ⟨⟨Nat.le_of_ble_eq_true rfl, Nat.le_of_ble_eq_true rfl⟩, ⟨Nat.le_of_ble_eq_true rfl, Nat.le_of_ble_eq_true rfl⟩, Nat.le_of_ble_eq_true rfl⟩ ⟨rfl, rfl⟩ hM' ?_
    refine ms_refuse hM 0 (by omega) (fun h1 g1 g2 => ?_)
    refine ⟨_, rfl, ?_⟩
    refine r_iret (pc := 12) dX9_soonest_12 rfl ⟨Nat.le_of_ble_eq_true rfl, Nat.le_of_ble_eq_true rfl⟩ <| ?_
    rw [if_pos (by omega)] at hQ; exact hQ _ g1 g2
end MSo



