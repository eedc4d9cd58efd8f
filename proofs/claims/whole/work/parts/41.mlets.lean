/-! ===== a queue goes through a door ===== -/
def arL (f : Int → Int) (off : Int) (L : List Int) : Prop := ∀ (i : Nat) (v : Int), L[i]? = some v → f (off + i) = v
theorem arL.cons {f : Int → Int} {o c : Int} {L : List Int} (h : arL f o (c :: L)) : f o = c ∧ arL f (o + 1) L := by
  refine ⟨by simpa using h 0 c rfl, fun i v hv => ?_⟩
  have := h (i + 1) v (by simpa using hv)
  rw [← this]; congr 1; omega
theorem arL.snoc {f : Int → Int} {L : List Int} {c k : Int} (h : arL f 0 L) (hk : k = L.length) : arL (iu f k c) 0 (L ++ [c]) := by
  intro i v hv
  rw [Int.zero_add]
  by_cases e : i < L.length
  · rw [List.getElem?_append_left e] at hv
    rw [iu_n (by omega)]
    have := h i v hv
    rwa [Int.zero_add] at this
  · have e2 : i = L.length := by
      by_cases e3 : i = L.length
      · exact e3
      · rw [List.getElem?_append_right (by omega)] at hv
        have : (1 : Nat) ≤ i - L.length := by omega
        rw [List.getElem?_eq_none (by simp; omega)] at hv
        cases hv
    subst e2
    simp at hv
    rw [hk, iu_s, hv]
def psL (T : Int → Int → Int × Int × Int) : List Int → Int → Int → List Int → Option (Int × List Int)
  | [], left, m, g => some (m, g ++ [left])
  | c :: L, left, m, g => if (T left c).1 = -1 then none else psL T L (left + c - (T left c).1) (m + (T left c).2.1 + 1) (g ++ [(T left c).1])
def passL (T : Int → Int → Int × Int × Int) : List Int → Option (Int × List Int)
  | [] => some (0, [])
  | p :: L => psL T L p 1 []
def minL (o : Option (Int × List Int)) : Int := match o with | none => -1 | some q => q.1
theorem psL_len {T : Int → Int → Int × Int × Int} : ∀ (L : List Int) (l m : Int) (g : List Int) (q : Int × List Int), psL T L l m g = some q → q.2.length = g.length + L.length + 1 := by
  intro L
  induction L with
  | nil => intro l m g q h; cases h; simp
  | cons c L ih =>
    intro l m g q h
    simp only [psL] at h
    split at h
    · cases h
    · have := ih _ _ _ _ h
      simp at this ⊢; omega
theorem passL_len {T : Int → Int → Int × Int × Int} {L : List Int} {q : Int × List Int} (h : passL T L = some q) : q.2.length = L.length := by
  cases L with
  | nil => cases h; rfl
  | cons p L => have := psL_len L p 1 [] q h; simpa using this
/-- the queue without one -/
def qF (bk : Int → Int) (w : Int) : Nat → Int → List Int
  | 0, _ => []
  | q + 1, k => if bk (164 + k) = w then qF bk w q (k + 1) else bk (164 + k) :: qF bk w q (k + 1)
theorem qF_mem {bk : Int → Int} {w : Int} : ∀ (q : Nat) (k v : Int), v ∈ qF bk w q k → ∃ j, k ≤ j ∧ j < k + q ∧ bk (164 + j) = v ∧ v ≠ w := by
  intro q
  induction q with
  | zero => intro k v h; cases h
  | succ q ih =>
    intro k v h
    simp only [qF] at h
    split at h
    · obtain ⟨j, a, b, c⟩ := ih _ _ h
      exact ⟨j, by omega, by omega, c⟩
    · rename_i hne
      rcases List.mem_cons.mp h with rfl | h
      · exact ⟨k, by omega, by omega, rfl, hne⟩
      · obtain ⟨j, a, b, c⟩ := ih _ _ h
        exact ⟨j, by omega, by omega, c⟩
theorem qF_nodup {bk : Int → Int} {w : Int} : ∀ (q : Nat) (k : Int), (∀ i j, k ≤ i → i < j → j < k + q → bk (164 + i) ≠ bk (164 + j)) → (qF bk w q k).Nodup := by
  intro q
  induction q with
  | zero => intro k _; exact List.nodup_nil
  | succ q ih =>
    intro k h
    have h2 := ih (k + 1) (fun i j a b c => h i j (by omega) b (by omega))
    simp only [qF]
    split
    · exact h2
    · refine List.nodup_cons.mpr ⟨fun hm => ?_, h2⟩
      obtain ⟨j, a, b, c, -⟩ := qF_mem _ _ _ hm
      exact h k j (by omega) (by omega) (by omega) c.symm
theorem qF_len {bk : Int → Int} {w : Int} : ∀ (q : Nat) (k : Int), (qF bk w q k).length ≤ q := by
  intro q
  induction q with
  | zero => intro k; exact Nat.le_refl 0
  | succ q ih =>
    intro k
    have := ih (k + 1)
    simp only [qF]
    split
    · omega
    · simp; omega
theorem qF_all {bk : Int → Int} {w : Int} : ∀ (q : Nat) (k : Int), (∀ j, k ≤ j → j < k + q → bk (164 + j) ≠ w) → (qF bk w q k).length = q := by
  intro q
  induction q with
  | zero => intro k _; rfl
  | succ q ih =>
    intro k h
    simp only [qF]
    rw [if_neg (h k (by omega) (by omega))]
    simp [ih (k + 1) (fun j a b => h j (by omega) (by omega))]
abbrev qL (bk : Int → Int) (w : Int) : List Int := qF bk w (bk 2).toNat 0
theorem qL_ok {bk : Int → Int} (hI : Inv bk) (w : Int) : (qL bk w).Nodup ∧ (∀ v ∈ qL bk w, (0 ≤ v ∧ v < bk 0) ∧ v ≠ w) ∧ (qL bk w).length ≤ bk 2 := by
  have i2 := hI.1.2.2.1
  obtain ⟨a, b⟩ := hI.2.2.2.2.2.2.1
  refine ⟨qF_nodup _ _ (fun i j h1 h2 h3 => b i j h1 h2 (by omega)), fun v hv => ?_, by have := @qF_len bk w (bk 2).toNat 0; show ((qF bk w (bk 2).toNat 0).length : Int) ≤ bk 2; omega⟩
  obtain ⟨j, h1, h2, h3, h4⟩ := qF_mem _ _ _ hv
  have := a j h1 (by omega)
  rw [h3] at this
  exact ⟨this, h4⟩
/-- the bows of two are as they were -/
def kpB (b0 bk : Int → Int) (x y : Int) : Prop := bk (36 + 8 * x + y) = b0 (36 + 8 * x + y) ∧ bk (36 + 8 * y + x) = b0 (36 + 8 * y + x) ∧ lastB bk x y = lastB b0 x y ∧ lastB bk y x = lastB b0 y x
theorem wentB_kp {bk : Int → Int} {w o x y : Int} (hw : 0 ≤ w ∧ w < 8) (ho : 0 ≤ o ∧ o < 8) (hx : 0 ≤ x ∧ x < 8) (hy : 0 ≤ y ∧ y < 8) (hxy : x ≠ y) (h : ¬ (y = w ∨ y = o)) : kpB bk (wentB bk w o) x y := by
  unfold kpB wentB lastB
  refine ⟨?_, ?_, ?_, ?_⟩
  · rw [iu_n (by split <;> omega), iu_n (by omega)]
  · rw [iu_n (by split <;> omega), iu_n (by omega)]
  · rw [iu_n (by split <;> split <;> omega), iu_n (by split <;> omega)]
  · rw [iu_n (by split <;> split <;> omega), iu_n (by split <;> omega)]
theorem kpB.tr {a b c : Int → Int} {x y : Int} (h1 : kpB a b x y) (h2 : kpB b c x y) : kpB a c x y := ⟨h2.1.trans h1.1, h2.2.1.trans h1.2.1, h2.2.2.1.trans h1.2.2.1, h2.2.2.2.trans h1.2.2.2⟩
theorem wentB_out {bk : Int → Int} {w o : Int} (hw : 0 ≤ w ∧ w < 8) (ho : 0 ≤ o ∧ o < 8) {j : Int} (hj : ¬ (36 ≤ j ∧ j < 164)) : wentB bk w o j = bk j := by
  unfold wentB
  rw [iu_n (by split <;> omega), iu_n (by omega)]
theorem wentB_bd {bk : Int → Int} {w o : Int} (hb : Bd bk (-1) 255) (hw : 0 ≤ w ∧ w < 8) : Bd (wentB bk w o) (-1) 255 := by
  unfold wentB
  refine (hb.iu ?_).iu (by omega)
  have := hb (36 + 8 * w + o)
  split <;> omega
theorem talk_kp {b0 bk it : Int → Int} {many sk x y : Int} (hit : itOk it) (hm : many ≤ 9) (hp : ∀ j, j < 36 → bk j = b0 j) (hx : 0 ≤ x ∧ x < 8) (hy : 0 ≤ y ∧ y < 8) (h : kpB b0 bk x y) : talkF (nmB bk) it many sk x y = talkF (nmB b0) it many sk x y := by
  have hc : ∀ w p, 0 ≤ w → w < 3 → 0 ≤ p → p < 8 → cnt bk p w = cnt b0 p w := by
    intro w p w0 w3 p0 p8
    unfold cnt
    rw [hp _ (by omega), hp _ (by omega)]
  refine talkF_congr (fun j j0 j1 => ⟨rfl, rfl, ?_, ?_⟩)
  · exact nameV_congr (hit j (by omega)).2.2.1.1 (fun w w0 w3 => ⟨hc w x w0 w3 hx.1 hx.2, hc w y w0 w3 hy.1 hy.2⟩) h.1 h.2.1 h.2.2.1
  · exact nameV_congr (hit j (by omega)).2.2.1.1 (fun w w0 w3 => ⟨hc w y w0 w3 hy.1 hy.2, hc w x w0 w3 hx.1 hx.2⟩) h.2.1 h.1 h.2.2.2
section ML2
variable {G : GT} {n : Nat} {h : Hp} {Q : PT} {s : SS}
theorem isM.gen {h' : Hp} {e' : Nat → Int} {it' bk' : Int → Int} (hM : isM h s) (k45 : h' 45 = some (aO 9 (mF e'))) (he : e' 4 = s.up ∧ e' 5 = s.dn) (h9 : -10000 ≤ e' 9 ∧ e' 9 ≤ 10000) (k46 : h' 46 = some (aA 480 bk')) (k50 : h' 50 = some (aA 40 it')) (ki : itOk it') (k51 : ∃ f, h' 51 = some (aA 128 f)) (k52 : ∃ f, h' 52 = some (aA 8 f)) (k53 : ∃ f, h' 53 = some (aA 8 f)) (k54 : ∃ f, h' 54 = some (aA 8 f)) (k55 : ∃ f, h' 55 = some (aA 6 f)) (k56 : ∃ f, h' 56 = some (aA 6 f)) (k57 : ∃ f, h' 57 = some (aA 64 f)) (hF : Fr (fun q => q = 45 ∨ q = 46 ∨ (50 ≤ q ∧ q < 58)) h h') : isM h' (s.sbk bk') := by
  obtain ⟨e, it, im, kp, rf, hd, ln, gs, bs, cs, fr, lf, g45, ge, g9, g46, g47, g48, g49, g50, gi, g51, g52, g53, g54, g55, g56, g57, gr⟩ := hM
  obtain ⟨f51, k51⟩ := k51
  obtain ⟨f52, k52⟩ := k52
  obtain ⟨f53, k53⟩ := k53
  obtain ⟨f54, k54⟩ := k54
  obtain ⟨f55, k55⟩ := k55
  obtain ⟨f56, k56⟩ := k56
  obtain ⟨f57, k57⟩ := k57
  exact ⟨e', it', im, kp, rf, f51, f52, f53, f54, f55, f56, f57, k45, he, h9, k46, hF.keep g47 (by omega), hF.keep g48 (by omega), hF.keep g49 (by omega), k50, ki, k51, k52, k53, k54, k55, k56, k57, gr⟩
theorem lp_holds {e : Nat → Int} {bk : Int → Int} : ∀ (q : Nat) (k : Int) (h : Hp) (hd : Int → Int), 0 ≤ k → k + q = 128 → h 45 = some (aO 9 (mF e)) → h 46 = some (aA 480 bk) → h 51 = some (aA 128 hd) →
    (∀ h' hd', h' 51 = some (aA 128 hd') → (∀ j, k ≤ j → j < 128 → hd' j = bk (36 + j)) → (∀ j, j < k → hd' j = hd j) → Fr (fun j => j = 51) h h' → Q none n h') → At G mX9_holds 2 [vR 45, vI k] [] (0, 0, n) h Q := by
  intro q
  induction q with
  | zero =>
    intro k h hd hk hq g45 g46 g51 hQ
    refine r_iload_n (pc := 2) dX9_holds_2 rfl <| r_sipush (pc := 3) dX9_holds_3 (by decide) <| r_icmp_ge (pc := 6) 30 dX9_holds_6 (by decide) (by omega) (by omega) (fun hc_6 => ?_) (fun hc_6 => ?_)
    · skip
      refine r_vret (pc := 30) dX9_holds_30 rfl ⟨Nat.le_of_ble_eq_true rfl, Nat.le_of_ble_eq_true rfl⟩ <| ?_
      exact hQ _ hd g51 (fun j a b => by omega) (fun j a => rfl) Fr.rf
    · skip
      exfalso; omega
  | succ q ih =>
    intro k h hd hk hq g45 g46 g51 hQ
    have hM' := g45
    unfold mF at hM'
    refine r_iload_n (pc := 2) dX9_holds_2 rfl <| r_sipush (pc := 3) dX9_holds_3 (by decide) <| r_icmp_ge (pc := 6) 30 dX9_holds_6 (by decide) (by omega) (by omega) (fun hc_6 => ?_) (fun hc_6 => ?_)
    · skip
      exfalso; omega
    · skip
      refine r_aload_n (pc := 9) dX9_holds_9 rfl <| r_getf (pc := 10) dX9_holds_10 fA_X9_26 hM' rfl <| r_iload_n (pc := 13) dX9_holds_13 rfl <| r_aload_n (pc := 14) dX9_holds_14 rfl <| r_getf (pc := 15) dX9_holds_15 fA_X9_7 hM' rfl <| r_bipush (pc := 18) dX9_holds_18 (by decide) <| r_iload_n (pc := 20) dX9_holds_20 rfl <| r_iadd (pc := 21) dX9_holds_21 <| r_iald (pc := 22) dX9_holds_22 g46 (by omega) (by decide) <| r_iast (pc := 23) dX9_holds_23 g51 (by omega) (by decide) (fun h_23 g51 hF_23 => ?_)
      replace hM' := hF_23.keep hM' (by omega)
      replace g46 := hF_23.keep g46 (by omega)
      refine r_iinc_1 (pc := 24) dX9_holds_24 rfl rfl <| r_goto (pc := 27) 2 dX9_holds_27 (by decide) <| ?_
      refine ih (k + 1) _ _ (by omega) (by omega) (hF_23.keep g45 (by omega)) g46 g51 (fun h' hd' a1 a2 a3 a4 => hQ h' hd' a1 (fun j j1 j2 => ?_) (fun j j1 => ?_) (fun j hj => (a4 j hj).trans (hF_23 j hj)))
      · by_cases e1 : j = k
        · rw [a3 j (by omega), e1, iu_s]
        · exact a2 j (by omega) j2
      · rw [a3 j (by omega), iu_n (by omega)]
theorem sp_holds {e : Nat → Int} {bk hd : Int → Int} (g45 : h 45 = some (aO 9 (mF e))) (g46 : h 46 = some (aA 480 bk)) (g51 : h 51 = some (aA 128 hd)) (hQ : ∀ h' hd', h' 51 = some (aA 128 hd') → (∀ j, 0 ≤ j → j < 128 → hd' j = bk (36 + j)) → Fr (fun j => j = 51) h h' → Q none n h') : Cl G mX9_holds [vR 45] n h Q := by
  refine cl_of (by decide) (Nat.le_of_ble_eq_true rfl) rfl ?_
  refine r_iconst (pc := 0) dX9_holds_0 <| r_istoren_1 (pc := 1) dX9_holds_1 rfl <| ?_
  exact lp_holds 128 0 h hd (by omega) (by omega) g45 g46 g51 (fun h' hd' a1 a2 a3 a4 => hQ h' hd' a1 a2 a4)
theorem lp_undoes {e : Nat → Int} {hd b0 : Int → Int} (hh : ∀ j, 0 ≤ j → j < 128 → hd j = b0 (36 + j)) : ∀ (q : Nat) (k : Int) (h : Hp) (bk : Int → Int), 0 ≤ k → k + q = 128 → h 45 = some (aO 9 (mF e)) → h 46 = some (aA 480 bk) → h 51 = some (aA 128 hd) → (∀ j, ¬ (36 + k ≤ j ∧ j < 164) → bk j = b0 j) →
    (∀ h', h' 46 = some (aA 480 b0) → Fr (fun j => j = 46) h h' → Q none n h') → At G mX9_undoes 2 [vR 45, vI k] [] (0, 0, n) h Q := by
  intro q
  induction q with
  | zero =>
    intro k h bk hk hq g45 g46 g51 hb hQ
    refine r_iload_n (pc := 2) dX9_undoes_2 rfl <| r_sipush (pc := 3) dX9_undoes_3 (by decide) <| r_icmp_ge (pc := 6) 30 dX9_undoes_6 (by decide) (by omega) (by omega) (fun hc_6 => ?_) (fun hc_6 => ?_)
    · skip
      refine r_vret (pc := 30) dX9_undoes_30 rfl ⟨Nat.le_of_ble_eq_true rfl, Nat.le_of_ble_eq_true rfl⟩ <| ?_
      have eb : bk = b0 := funext (fun j => hb j (by omega))
      rw [eb] at g46
      exact hQ _ g46 Fr.rf
    · skip
      exfalso; omega
  | succ q ih =>
    intro k h bk hk hq g45 g46 g51 hb hQ
    have hM' := g45
    unfold mF at hM'
    refine r_iload_n (pc := 2) dX9_undoes_2 rfl <| r_sipush (pc := 3) dX9_undoes_3 (by decide) <| r_icmp_ge (pc := 6) 30 dX9_undoes_6 (by decide) (by omega) (by omega) (fun hc_6 => ?_) (fun hc_6 => ?_)
    · skip
      exfalso; omega
    · skip
      refine r_aload_n (pc := 9) dX9_undoes_9 rfl <| r_getf (pc := 10) dX9_undoes_10 fA_X9_7 hM' rfl <| r_bipush (pc := 13) dX9_undoes_13 (by decide) <| r_iload_n (pc := 15) dX9_undoes_15 rfl <| r_iadd (pc := 16) dX9_undoes_16 <| r_aload_n (pc := 17) dX9_undoes_17 rfl <| r_getf (pc := 18) dX9_undoes_18 fA_X9_26 hM' rfl <| r_iload_n (pc := 21) dX9_undoes_21 rfl <| r_iald (pc := 22) dX9_undoes_22 g51 (by omega) (by decide) <| r_iast (pc := 23) dX9_undoes_23 g46 (by omega) (by decide) (fun h_23 g46 hF_23 => ?_)
      replace hM' := hF_23.keep hM' (by omega)
      replace g51 := hF_23.keep g51 (by omega)
      refine r_iinc_1 (pc := 24) dX9_undoes_24 rfl rfl <| r_goto (pc := 27) 2 dX9_undoes_27 (by decide) <| ?_
      refine ih (k + 1) _ _ (by omega) (by omega) (hF_23.keep g45 (by omega)) g46 g51 (fun j hj => ?_) (fun h' a1 a2 => hQ h' a1 (fun j hj => (a2 j hj).trans (hF_23 j hj)))
      by_cases e1 : j = 36 + k
      · rw [e1, iu_s, hh k (by omega) (by omega)]
      · rw [iu_n e1, hb j (by omega)]
theorem sp_undoes {e : Nat → Int} {bk hd b0 : Int → Int} (g45 : h 45 = some (aO 9 (mF e))) (g46 : h 46 = some (aA 480 bk)) (g51 : h 51 = some (aA 128 hd)) (hh : ∀ j, 0 ≤ j → j < 128 → hd j = b0 (36 + j)) (hb : ∀ j, ¬ (36 ≤ j ∧ j < 164) → bk j = b0 j) (hQ : ∀ h', h' 46 = some (aA 480 b0) → Fr (fun j => j = 46) h h' → Q none n h') : Cl G mX9_undoes [vR 45] n h Q := by
  refine cl_of (by decide) (Nat.le_of_ble_eq_true rfl) rfl ?_
  refine r_iconst (pc := 0) dX9_undoes_0 <| r_istoren_1 (pc := 1) dX9_undoes_1 rfl <| ?_
  exact lp_undoes hh 128 0 h bk (by omega) (by omega) g45 g46 g51 (fun j hj => hb j (by omega)) hQ
theorem lp_lines {w : Int} {bk : Int → Int} (hI : Inv bk) (hw : inI w) : ∀ (q : Nat) (k : Int) (h : Hp) (e : Nat → Int) (ln : Int → Int) (A : List Int), 0 ≤ k → k + q = bk 2 → h 45 = some (aO 9 (mF e)) → h 46 = some (aA 480 bk) → h 52 = some (aA 8 ln) → arL ln 0 A → e 17 = A.length → A.length ≤ k →
    (∀ h' ln', h' 45 = some (aO 9 (mF (nu e 17 ((A ++ qF bk w q k).length : Nat)))) → h' 52 = some (aA 8 ln') → arL ln' 0 (A ++ qF bk w q k) → Fr (fun j => j = 45 ∨ j = 52) h h' → Q none n h') → At G mX9_lines 7 [vR 45, vI w, vI k] [] (0, 0, n) h Q := by
  have i2 := hI.1.2.2.1
  intro q
  induction q with
  | zero =>
    intro k h e ln A hk hq g45 g46 g52 hA he hl hQ
    have hM' := g45
    unfold mF at hM'
    refine r_iload_n (pc := 7) dX9_lines_7 rfl <| r_aload_n (pc := 8) dX9_lines_8 rfl <| r_getf (pc := 9) dX9_lines_9 fA_X9_7 hM' rfl <| r_iconst (pc := 12) dX9_lines_12 <| r_iald (pc := 13) dX9_lines_13 g46 (by omega) (by decide) <| r_icmp_ge (pc := 14) 66 dX9_lines_14 (by decide) (by omega) (by omega) (fun hc_14 => ?_) (fun hc_14 => ?_)
    · skip
      refine r_vret (pc := 66) dX9_lines_66 rfl ⟨Nat.le_of_ble_eq_true rfl, Nat.le_of_ble_eq_true rfl⟩ <| ?_
      have ee : nu e 17 ((A ++ qF bk w 0 k).length : Nat) = e := by
        funext j
        unfold nu
        split
        · rename_i hj; rw [hj, he]; simp [qF]
        · rfl
      refine hQ _ ln (by rw [ee]; exact g45) g52 (by simpa [qF] using hA) Fr.rf
    · skip
      exfalso; omega
  | succ q ih =>
    intro k h e ln A hk hq g45 g46 g52 hA he hl hQ
    have hM' := g45
    unfold mF at hM'
    have bq := hI.2.1 (164 + k)
    refine r_iload_n (pc := 7) dX9_lines_7 rfl <| r_aload_n (pc := 8) dX9_lines_8 rfl <| r_getf (pc := 9) dX9_lines_9 fA_X9_7 hM' rfl <| r_iconst (pc := 12) dX9_lines_12 <| r_iald (pc := 13) dX9_lines_13 g46 (by omega) (by decide) <| r_icmp_ge (pc := 14) 66 dX9_lines_14 (by decide) (by omega) (by omega) (fun hc_14 => ?_) (fun hc_14 => ?_)
    · skip
      exfalso; omega
    · skip
      refine r_aload_n (pc := 17) dX9_lines_17 rfl <| r_getf (pc := 18) dX9_lines_18 fA_X9_7 hM' rfl <| r_sipush (pc := 21) dX9_lines_21 (by decide) <| r_iload_n (pc := 24) dX9_lines_24 rfl <| r_iadd (pc := 25) dX9_lines_25 <| r_iald (pc := 26) dX9_lines_26 g46 (by omega) (by decide) <| r_iload_n (pc := 27) dX9_lines_27 rfl <| r_icmp_eq (pc := 28) 60 dX9_lines_28 (by decide) (by omega) (by omega) (fun hc_28 => ?_) (fun hc_28 => ?_)
      · skip
        refine r_iinc_2 (pc := 60) dX9_lines_60 rfl rfl <| r_goto (pc := 63) 7 dX9_lines_63 (by decide) <| ?_
        first
          | (have eq : qF bk w (q + 1) k = qF bk w q (k + 1) := by simp only [qF, hc_28, if_true]
             rw [eq] at hQ
             exact ih (k + 1) _ _ _ _ (by omega) (by omega) g45 g46 g52 hA he (by omega) hQ)
          | (have eq : qF bk w (q + 1) k = bk (164 + k) :: qF bk w q (k + 1) := by simp only [qF]; rw [if_neg hc_28]
             rw [eq] at hQ
             have hF : Fr (fun j => j = 45 ∨ j = 52) h h_57 := fun j hj => (hF_57 j (by omega)).trans (hF_49 j (by omega))
             have k45 : h_57 45 = some (aO 9 (mF (nu e 17 (e 17 + 1)))) := hM'
             have hl' : (A ++ [bk (164 + k)]).length = A.length + 1 := by simp
             refine ih (k + 1) _ _ _ (A ++ [bk (164 + k)]) (by omega) (by omega) k45 g46 g52 (hA.snoc he) ?_ (by omega) (fun h' ln' a1 a2 a3 a4 => hQ h' ln' ?_ a2 ?_ (fun j hj => (a4 j hj).trans (hF j hj)))
             · show e 17 + 1 = _
               rw [hl', he]; simp
             · rw [a1, show A ++ [bk (164 + k)] ++ qF bk w q (k + 1) = A ++ bk (164 + k) :: qF bk w q (k + 1) by simp]
               congr 3
               funext j
               unfold nu
               split <;> rfl
             · rw [show A ++ [bk (164 + k)] ++ qF bk w q (k + 1) = A ++ bk (164 + k) :: qF bk w q (k + 1) by simp] at a3
               exact a3)
      · skip
        refine r_aload_n (pc := 31) dX9_lines_31 rfl <| r_getf (pc := 32) dX9_lines_32 fA_X9_29 hM' rfl <| r_aload_n (pc := 35) dX9_lines_35 rfl <| r_getf (pc := 36) dX9_lines_36 fA_X9_178 hM' rfl <| r_aload_n (pc := 39) dX9_lines_39 rfl <| r_getf (pc := 40) dX9_lines_40 fA_X9_7 hM' rfl <| r_sipush (pc := 43) dX9_lines_43 (by decide) <| r_iload_n (pc := 46) dX9_lines_46 rfl <| r_iadd (pc := 47) dX9_lines_47 <| r_iald (pc := 48) dX9_lines_48 g46 (by omega) (by decide) <| r_iast (pc := 49) dX9_lines_49 g52 (by omega) (by decide) (fun h_49 g52 hF_49 => ?_)
        replace hM' := hF_49.keep hM' (by omega)
        replace g46 := hF_49.keep g46 (by omega)
        refine r_aload_n (pc := 50) dX9_lines_50 rfl <| r_dup (pc := 51) dX9_lines_51 rfl <| r_getf (pc := 52) dX9_lines_52 fA_X9_178 hM' rfl <| r_iconst (pc := 55) dX9_lines_55 <| r_iadd (pc := 56) dX9_lines_56 <| r_putf (pc := 57) dX9_lines_57 fP_X9_178 rfl rfl hM' rfl (fun h_57 hM' hF_57 => ?_)
        simp only [List.set_cons_zero, List.set_cons_succ] at hM'
        replace g46 := hF_57.keep g46 (by omega)
        replace g52 := hF_57.keep g52 (by omega)
        refine r_iinc_2 (pc := 60) dX9_lines_60 rfl rfl <| r_goto (pc := 63) 7 dX9_lines_63 (by decide) <| ?_
        first
          | (have eq : qF bk w (q + 1) k = qF bk w q (k + 1) := by simp only [qF, hc_28, if_true]
             rw [eq] at hQ
             exact ih (k + 1) _ _ _ _ (by omega) (by omega) g45 g46 g52 hA he (by omega) hQ)
          | (have eq : qF bk w (q + 1) k = bk (164 + k) :: qF bk w q (k + 1) := by simp only [qF]; rw [if_neg hc_28]
             rw [eq] at hQ
             have hF : Fr (fun j => j = 45 ∨ j = 52) h h_57 := fun j hj => (hF_57 j (by omega)).trans (hF_49 j (by omega))
             have k45 : h_57 45 = some (aO 9 (mF (nu e 17 (e 17 + 1)))) := hM'
             have hl' : (A ++ [bk (164 + k)]).length = A.length + 1 := by simp
             refine ih (k + 1) _ _ _ (A ++ [bk (164 + k)]) (by omega) (by omega) k45 g46 g52 (hA.snoc he) ?_ (by omega) (fun h' ln' a1 a2 a3 a4 => hQ h' ln' ?_ a2 ?_ (fun j hj => (a4 j hj).trans (hF j hj)))
             · show e 17 + 1 = _
               rw [hl', he]; simp
             · rw [a1, show A ++ [bk (164 + k)] ++ qF bk w q (k + 1) = A ++ bk (164 + k) :: qF bk w q (k + 1) by simp]
               congr 3
               funext j
               unfold nu
               split <;> rfl
             · rw [show A ++ [bk (164 + k)] ++ qF bk w q (k + 1) = A ++ bk (164 + k) :: qF bk w q (k + 1) by simp] at a3
               exact a3)
theorem sp_lines {w : Int} {bk ln : Int → Int} {e : Nat → Int} (hI : Inv bk) (hw : inI w) (g45 : h 45 = some (aO 9 (mF e))) (g46 : h 46 = some (aA 480 bk)) (g52 : h 52 = some (aA 8 ln))
    (hQ : ∀ h' ln', h' 45 = some (aO 9 (mF (nu e 17 ((qL bk w).length : Nat)))) → h' 52 = some (aA 8 ln') → arL ln' 0 (qL bk w) → Fr (fun j => j = 45 ∨ j = 52) h h' → Q none n h') : Cl G mX9_lines [vR 45, vI w] n h Q := by
  have i2 := hI.1.2.2.1
  have hM' := g45
  unfold mF at hM'
  refine cl_of (by decide) (Nat.le_of_ble_eq_true rfl) rfl ?_
  refine r_aload_n (pc := 0) dX9_lines_0 rfl <| r_iconst (pc := 1) dX9_lines_1 <| r_putf (pc := 2) dX9_lines_2 fP_X9_178 rfl rfl hM' rfl (fun h_2 hM' hF_2 => ?_)
  simp only [List.set_cons_zero, List.set_cons_succ] at hM'
  refine r_iconst (pc := 5) dX9_lines_5 <| r_istoren_2 (pc := 6) dX9_lines_6 rfl <| ?_
  have k45 : h_2 45 = some (aO 9 (mF (nu e 17 0))) := hM'
  refine lp_lines hI hw (bk 2).toNat 0 h_2 (nu e 17 0) ln [] (by omega) (by omega) k45 (hF_2.keep g46 (by omega)) (hF_2.keep g52 (by omega)) (fun i v hv => by cases hv) rfl (by simp) (fun h' ln' a1 a2 a3 a4 => hQ h' ln' ?_ a2 a3 (fun j hj => (a4 j hj).trans (hF_2 j (by omega))))
  rw [a1]
  congr 3
  funext j
  unfold nu
  split <;> rfl
end ML2

