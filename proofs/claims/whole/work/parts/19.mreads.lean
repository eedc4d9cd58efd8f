/-! ===== the model: reads ===== -/
section PMS
variable {tx : Int → Int} {nt : Int} {f : Nat} {p st : Int} {its : List IT} {cu : IT}
theorem pm_over (h : (tok tx nt p).2.1 = 15) : pm tx nt (f + 1) p st its cu = (if st = 0 then -1 else nt, its) := by
  simp only [pm, h, if_true]
theorem pm_none (h : ¬ (tok tx nt p).2.1 = 15) (h2 : pstep st (tok tx nt p).2.1 (tok tx nt p).2.2.1 its cu = none) : pm tx nt (f + 1) p st its cu = ((tok tx nt p).1, its) := by
  simp only [pm, h, if_false, h2]
theorem pm_some (h : ¬ (tok tx nt p).2.1 = 15) {st' : Int} {its' : List IT} {cu' : IT} (h2 : pstep st (tok tx nt p).2.1 (tok tx nt p).2.2.1 its cu = some (st', its', cu')) : pm tx nt (f + 1) p st its cu = pm tx nt f (tok tx nt p).2.2.2 st' its' cu' := by
  simp only [pm, h, if_false, h2]
theorem pm_same {st2 : Int} {cu2 : IT} (h0 : ¬ st = 0 ∧ ¬ st2 = 0 ∨ ¬ (tok tx nt p).2.1 = 15) (h : ¬ (tok tx nt p).2.1 = 15 → pstep st (tok tx nt p).2.1 (tok tx nt p).2.2.1 its cu = pstep st2 (tok tx nt p).2.1 (tok tx nt p).2.2.1 its cu2) : pm tx nt (f + 1) p st its cu = pm tx nt (f + 1) p st2 its cu2 := by
  by_cases hk : (tok tx nt p).2.1 = 15
  · rw [pm_over hk, pm_over hk]
    rcases h0 with h0 | h0
    · rw [if_neg h0.1, if_neg h0.2]
    · exact absurd hk h0
  · simp only [pm, hk, if_false, h hk]
theorem kindW_in (l : List Int) : (0 ≤ kindW l ∧ kindW l < 12) ∨ kindW l = 14 := by
  unfold kindW; split <;> omega
theorem tok_in (hp : 0 ≤ p ∧ p ≤ nt) : (0 ≤ (tok tx nt p).2.1 ∧ (tok tx nt p).2.1 ≤ 15) ∧ (p ≤ (tok tx nt p).1 ∧ (tok tx nt p).1 ≤ nt) ∧ (p ≤ (tok tx nt p).2.2.2 ∧ (tok tx nt p).2.2.2 ≤ nt) ∧ ((tok tx nt p).2.1 = 15 → (tok tx nt p).1 = nt) ∧ (¬ (tok tx nt p).2.1 = 15 → p < (tok tx nt p).2.2.2) := by
  have hs := advF_in (P := pB) (tx := tx) hp.2
  by_cases h1 : advF pB tx nt p < nt
  · have hL := advF_in (P := pL) (tx := tx) hs.2
    have hD := advF_in (P := pD) (tx := tx) hs.2
    by_cases h2 : 97 ≤ tx (advF pB tx nt p) ∧ tx (advF pB tx nt p) ≤ 122
    · have hL1 : advF pB tx nt p + 1 ≤ advF pL tx nt (advF pB tx nt p) := by
        rw [advF_go h1 (by simp only [pL, decide_eq_true_eq]; exact h2)]
        exact (advF_in (by omega)).1
      rw [tok_word h1 h2]
      have hk := kindW_in (seg tx (advF pB tx nt p) (advF pL tx nt (advF pB tx nt p) - advF pB tx nt p).toNat)
      refine ⟨?_, ?_, ?_, ?_, ?_⟩ <;> simp only <;> omega
    · by_cases h3 : 48 ≤ tx (advF pB tx nt p) ∧ tx (advF pB tx nt p) ≤ 57
      · have hD1 : advF pB tx nt p + 1 ≤ advF pD tx nt (advF pB tx nt p) := by
          rw [advF_go h1 (by simp only [pD, decide_eq_true_eq]; exact h3)]
          exact (advF_in (by omega)).1
        rw [tok_num h1 h3]
        refine ⟨?_, ?_, ?_, ?_, ?_⟩ <;> simp only <;> (try split) <;> omega
      · rw [tok_else h1 h2 h3]
        refine ⟨?_, ?_, ?_, ?_, ?_⟩ <;> simp only <;> (try split) <;> omega
  · rw [tok_over h1]
    refine ⟨⟨show (0 : Int) ≤ 15 by decide, show (15 : Int) ≤ 15 by decide⟩, ⟨hs.1, hs.2⟩, ⟨hs.1, hs.2⟩, fun _ => ?_, fun q => absurd rfl q⟩
    show advF pB tx nt p = nt
    omega
end PMS
def itRel (it : Int → Int) (its : List IT) : Prop := ∀ (j : Nat) (q : IT), its[j]? = some q → it (4 * j) = q.1 ∧ it (4 * j + 1) = q.2.1 ∧ it (4 * j + 2) = q.2.2.1 ∧ it (4 * j + 3) = q.2.2.2
theorem itRel.iu {it : Int → Int} {its : List IT} {x v : Int} (h : itRel it its) (hx : 4 * its.length ≤ x) : itRel (iu it x v) its := by
  intro j q hq
  have hj : j < its.length := (List.getElem?_eq_some_iff.mp hq).1
  obtain ⟨a, b, c, d⟩ := h j q hq
  refine ⟨?_, ?_, ?_, ?_⟩ <;> (show (if _ = x then v else _) = _; rw [if_neg (by omega)]; assumption)
theorem itRel.push {it : Int → Int} {its : List IT} {cu : IT} (h : itRel it its) (h0 : it (4 * its.length) = cu.1) (h1 : it (4 * its.length + 1) = cu.2.1) (h2 : it (4 * its.length + 2) = cu.2.2.1) (h3 : it (4 * its.length + 3) = cu.2.2.2) : itRel it (its ++ [cu]) := by
  intro j q hq
  by_cases hj : j < its.length
  · rw [List.getElem?_append_left hj] at hq
    exact h j q hq
  · rw [List.getElem?_append_right (by omega)] at hq
    have hz : j - its.length < 1 := (List.getElem?_eq_some_iff.mp hq).1
    rw [show j - its.length = 0 by omega] at hq
    cases hq
    rw [show j = its.length by omega]
    exact ⟨h0, h1, h2, h3⟩
theorem iu_s (f : Int → Int) (x v : Int) : iu f x v x = v := by simp [iu]
theorem iu_n {f : Int → Int} {x v y : Int} (h : y ≠ x) : iu f x v y = f y := by simp [iu, h]
theorem itOk.iu0 {it : Int → Int} {j v : Int} (h : itOk it) (hv : 0 ≤ v ∧ v ≤ 99) : itOk (iu it (4 * j) v) := by
  intro i hi
  have := h i hi
  rw [iu_n (x := 4 * j) (y := 4 * i + 1) (by omega), iu_n (x := 4 * j) (y := 4 * i + 2) (by omega), iu_n (x := 4 * j) (y := 4 * i + 3) (by omega)]
  by_cases e : i = j
  · subst e; rw [iu_s]; exact ⟨hv, this.2⟩
  · rw [iu_n (by omega)]; exact this
theorem itOk.iu1 {it : Int → Int} {j v : Int} (h : itOk it) (hv : 0 ≤ v ∧ v ≤ 1) : itOk (iu it (4 * j + 1) v) := by
  intro i hi
  have := h i hi
  rw [iu_n (x := 4 * j + 1) (y := 4 * i) (by omega), iu_n (x := 4 * j + 1) (y := 4 * i + 2) (by omega), iu_n (x := 4 * j + 1) (y := 4 * i + 3) (by omega)]
  by_cases e : i = j
  · subst e; rw [iu_s]; exact ⟨this.1, hv, this.2.2⟩
  · rw [iu_n (by omega)]; exact this
theorem itOk.iu2 {it : Int → Int} {j v : Int} (h : itOk it) (hv : 0 ≤ v ∧ v < 10) : itOk (iu it (4 * j + 2) v) := by
  intro i hi
  have := h i hi
  rw [iu_n (x := 4 * j + 2) (y := 4 * i) (by omega), iu_n (x := 4 * j + 2) (y := 4 * i + 1) (by omega), iu_n (x := 4 * j + 2) (y := 4 * i + 3) (by omega)]
  by_cases e : i = j
  · subst e; rw [iu_s]; exact ⟨this.1, this.2.1, hv, this.2.2.2⟩
  · rw [iu_n (by omega)]; exact this
theorem itOk.iu3 {it : Int → Int} {j v : Int} (h : itOk it) (hv : 0 ≤ v ∧ v < 100) : itOk (iu it (4 * j + 3) v) := by
  intro i hi
  have := h i hi
  rw [iu_n (x := 4 * j + 3) (y := 4 * i) (by omega), iu_n (x := 4 * j + 3) (y := 4 * i + 1) (by omega), iu_n (x := 4 * j + 3) (y := 4 * i + 2) (by omega)]
  by_cases e : i = j
  · subst e; rw [iu_s]; exact ⟨this.1, this.2.1, this.2.2.1, hv⟩
  · rw [iu_n (by omega)]; exact this

