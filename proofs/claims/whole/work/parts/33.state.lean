/-! ===== one state for both: the reference's book bk ===== -/
section CG
variable {tx tx' : Int → Int} {nt : Int}
theorem adv_congr {P : Int → Bool} (h : ∀ k, 0 ≤ k → k < nt → tx k = tx' k) : ∀ (q : Nat) (p : Int), 0 ≤ p → adv P tx nt q p = adv P tx' nt q p := by
  intro q
  induction q with
  | zero => intro p _; rfl
  | succ q ih =>
    intro p hp
    simp only [adv]
    by_cases hlt : p < nt
    · rw [h p hp hlt, ih (p + 1) (by omega)]
    · simp [hlt]
theorem advF_congr {P : Int → Bool} (h : ∀ k, 0 ≤ k → k < nt → tx k = tx' k) {p : Int} (hp : 0 ≤ p) : advF P tx nt p = advF P tx' nt p := adv_congr h _ p hp
theorem seg_congr {s : Int} {m : Nat} (h : ∀ k, 0 ≤ k → k < nt → tx k = tx' k) (hs : 0 ≤ s) (hm : s + m ≤ nt) : seg tx s m = seg tx' s m := by
  unfold seg
  apply List.map_congr_left
  intro i hi
  have := List.mem_range.mp hi
  exact h _ (by omega) (by omega)
theorem tok_congr (h : ∀ k, 0 ≤ k → k < nt → tx k = tx' k) {p : Int} (hp : 0 ≤ p ∧ p ≤ nt) : tok tx nt p = tok tx' nt p := by
  have hs := advF_in (P := pB) (tx := tx) hp.2
  have e0 := advF_congr (P := pB) h hp.1
  by_cases h1 : advF pB tx nt p < nt
  · have e1 := h (advF pB tx nt p) (by omega) h1
    have e2 := advF_congr (P := pL) h (p := advF pB tx nt p) (by omega)
    have e3 := advF_congr (P := pD) h (p := advF pB tx nt p) (by omega)
    have hL := advF_in (P := pL) (tx := tx) hs.2
    have hD := advF_in (P := pD) (tx := tx) hs.2
    by_cases h2 : 97 ≤ tx (advF pB tx nt p) ∧ tx (advF pB tx nt p) ≤ 122
    · rw [tok_word h1 h2, tok_word (by rw [← e0]; exact h1) (by rw [← e0, ← e1]; exact h2), ← e0, ← e2, seg_congr h (by omega) (by omega)]
    · by_cases h3 : 48 ≤ tx (advF pB tx nt p) ∧ tx (advF pB tx nt p) ≤ 57
      · rw [tok_num h1 h3, tok_num (by rw [← e0]; exact h1) (by rw [← e0, ← e1]; exact h3), ← e0, ← e3, ← e1]
        have hD1 : advF pB tx nt p + 1 ≤ advF pD tx nt (advF pB tx nt p) := by
          rw [advF_go h1 (by simp only [pD, decide_eq_true_eq]; exact h3)]
          exact (advF_in (by omega)).1
        by_cases e : advF pD tx nt (advF pB tx nt p) - advF pB tx nt p = 1
        · rw [if_pos e, if_pos e]
        · rw [if_neg e, if_neg e, h (advF pB tx nt p + 1) (by omega) (by omega)]
      · rw [tok_else h1 h2 h3, tok_else (by rw [← e0]; exact h1) (by rw [← e0, ← e1]; exact h2) (by rw [← e0, ← e1]; exact h3), ← e0, ← e1]
  · rw [tok_over h1, tok_over (by rw [← e0]; exact h1), ← e0]
theorem pm_congr (h : ∀ k, 0 ≤ k → k < nt → tx k = tx' k) : ∀ (f : Nat) (p st : Int) (its : List IT) (cu : IT), 0 ≤ p ∧ p ≤ nt → pm tx nt f p st its cu = pm tx' nt f p st its cu := by
  intro f
  induction f with
  | zero => intro p st its cu _; rfl
  | succ f ih =>
    intro p st its cu hp
    have e := tok_congr h hp
    obtain ⟨w1, w2, w3, w4, w5⟩ := tok_in (tx := tx) hp
    by_cases hk : (tok tx nt p).2.1 = 15
    · rw [pm_over hk, pm_over (by rw [← e]; exact hk)]
    · cases hps : pstep st (tok tx nt p).2.1 (tok tx nt p).2.2.1 its cu with
      | none => rw [pm_none hk hps, pm_none (by rw [← e]; exact hk) (by rw [← e]; exact hps), e]
      | some q =>
        obtain ⟨a, b, c⟩ := q
        rw [pm_some hk hps, pm_some (by rw [← e]; exact hk) (by rw [← e]; exact hps), ← e]
        exact ih _ _ _ _ (by omega)
theorem parse_congr (h : ∀ k, 0 ≤ k → k < nt → tx k = tx' k) (hn : 0 ≤ nt) : parse tx nt = parse tx' nt := pm_congr h _ 0 0 [] _ (by omega)
/-- the items that are read are as they should be -/
def cuOk (st : Int) (cu : IT) : Prop := ¬ st = 0 → (1 ≤ cu.1 ∧ cu.1 ≤ 9) ∧ (cu.2.1 = 0 ∨ cu.2.1 = 1) ∧ (4 ≤ st → 0 ≤ cu.2.2.1 ∧ cu.2.2.1 ≤ 9) ∧ (1 ≤ cu.2.2.2 ∧ cu.2.2.2 ≤ 99)
theorem pm_ok : ∀ (f : Nat) (p st : Int) (its : List IT) (cu : IT), (0 ≤ p ∧ p ≤ nt) → (0 ≤ st ∧ st ≤ 5) → itsOk its → its.length ≤ 9 → (¬ st = 0 → its.length < 9) → cuOk st cu → itsOk (pm tx nt f p st its cu).2 ∧ (pm tx nt f p st its cu).2.length ≤ 9 ∧ ((pm tx nt f p st its cu).1 = -1 ∨ 0 ≤ (pm tx nt f p st its cu).1 ∧ (pm tx nt f p st its cu).1 ≤ nt) := by
  intro f
  induction f with
  | zero => intro p st its cu hp hst h1 h2 h3 h4; exact ⟨h1, h2, Or.inl rfl⟩
  | succ f ih =>
    intro p st its cu hp hst h1 h2 h3 h4
    obtain ⟨w1, w2, w3, w4, w5⟩ := tok_in (tx := tx) hp
    by_cases hk : (tok tx nt p).2.1 = 15
    · rw [pm_over hk]
      refine ⟨h1, h2, ?_⟩
      show (if st = 0 then (-1 : Int) else nt) = -1 ∨ _
      split
      · exact Or.inl rfl
      · exact Or.inr ⟨by show 0 ≤ nt; omega, by show nt ≤ nt; omega⟩
    · cases hps : pstep st (tok tx nt p).2.1 (tok tx nt p).2.2.1 its cu with
      | none =>
        rw [pm_none hk hps]
        exact ⟨h1, h2, Or.inr ⟨by show 0 ≤ (tok tx nt p).1; omega, w2.2⟩⟩
      | some q =>
        obtain ⟨a, b, c⟩ := q
        rw [pm_some hk hps]
        have hw : (0 ≤ a ∧ a ≤ 5) ∧ itsOk b ∧ b.length ≤ 9 ∧ (¬ a = 0 → b.length < 9) ∧ cuOk a c := by
          generalize (tok tx nt p).2.1 = k at *
          generalize (tok tx nt p).2.2.1 = v at *
          rcases (show st = 0 ∨ st = 1 ∨ st = 2 ∨ st = 3 ∨ st = 4 ∨ st = 5 by omega) with rfl | rfl | rfl | rfl | rfl | rfl
          · unfold pstep stepA at hps
            rw [if_pos rfl] at hps
            by_cases c1 : 9 ≤ its.length
            · rw [if_pos c1] at hps; cases hps
            · rw [if_neg c1] at hps
              by_cases c2 : k = 10
              · rw [if_pos c2] at hps; cases hps
                exact ⟨by omega, h1, h2, fun _ => by omega, fun _ => ⟨by decide, by decide, fun q => absurd q (by decide), by decide⟩⟩
              · rw [if_neg c2] at hps
                by_cases c3 : k = 11
                · rw [if_pos c3] at hps; cases hps
                  exact ⟨by omega, h1, h2, fun _ => by omega, fun _ => ⟨by decide, by decide, fun q => absurd q (by decide), by decide⟩⟩
                · rw [if_neg c3] at hps
                  by_cases c4 : k < 10
                  · rw [if_pos c4] at hps; cases hps
                    exact ⟨by omega, h1, h2, fun _ => by omega, fun _ => ⟨⟨show (1 : Int) ≤ 1 by decide, show (1 : Int) ≤ 9 by decide⟩, Or.inl rfl, fun _ => ⟨by show 0 ≤ k; omega, by show k ≤ 9; omega⟩, ⟨show (1 : Int) ≤ 1 by decide, show (1 : Int) ≤ 99 by decide⟩⟩⟩
                  · rw [if_neg c4] at hps; cases hps
          · have g := h4 (by decide)
            have g2 := h3 (by decide)
            unfold pstep at hps
            rw [if_neg (by decide), if_pos rfl] at hps
            by_cases c1 : k = 12 ∧ 1 ≤ v ∧ v ≤ 9
            · rw [if_pos c1] at hps; cases hps
              exact ⟨by omega, h1, h2, fun _ => g2, fun _ => ⟨c1.2, g.2.1, fun q => absurd q (by decide), g.2.2.2⟩⟩
            · rw [if_neg c1] at hps; cases hps
          · have g := h4 (by decide)
            have g2 := h3 (by decide)
            unfold pstep stepA at hps
            rw [if_neg (by decide), if_neg (by decide), if_pos rfl] at hps
            by_cases c3 : k = 11
            · rw [if_pos c3] at hps; cases hps
              exact ⟨⟨show (0 : Int) ≤ 3 by decide, show (3 : Int) ≤ 5 by decide⟩, h1, h2, fun _ => g2, fun _ => ⟨g.1, Or.inr rfl, fun q => absurd (show (4 : Int) ≤ 3 from q) (by decide), g.2.2.2⟩⟩
            · rw [if_neg c3] at hps
              by_cases c4 : k < 10
              · rw [if_pos c4] at hps; cases hps
                exact ⟨by omega, h1, h2, fun _ => g2, fun _ => ⟨g.1, g.2.1, fun _ => ⟨by show 0 ≤ k; omega, by show k ≤ 9; omega⟩, g.2.2.2⟩⟩
              · rw [if_neg c4] at hps; cases hps
          · have g := h4 (by decide)
            have g2 := h3 (by decide)
            unfold pstep stepC at hps
            rw [if_neg (by decide), if_neg (by decide), if_neg (by decide), if_pos rfl] at hps
            by_cases c4 : k < 10
            · rw [if_pos c4] at hps; cases hps
              exact ⟨by omega, h1, h2, fun _ => g2, fun _ => ⟨g.1, g.2.1, fun _ => ⟨by show 0 ≤ k; omega, by show k ≤ 9; omega⟩, g.2.2.2⟩⟩
            · rw [if_neg c4] at hps; cases hps
          · have g := h4 (by decide)
            have g2 := h3 (by decide)
            unfold pstep at hps
            rw [if_neg (by decide), if_neg (by decide), if_neg (by decide), if_neg (by decide)] at hps
            by_cases c1 : k = 12
            · rw [if_pos ⟨rfl, c1⟩] at hps
              by_cases c2 : 1 ≤ v ∧ v ≤ 99
              · rw [if_pos c2] at hps; cases hps
                exact ⟨by omega, h1, h2, fun _ => g2, fun _ => ⟨g.1, g.2.1, fun _ => g.2.2.1 (by decide), c2⟩⟩
              · rw [if_neg c2] at hps; cases hps
            · rw [if_neg (fun q => c1 q.2)] at hps
              by_cases c3 : k = 13
              · rw [if_pos c3] at hps; cases hps
                refine ⟨by omega, ?_, by simp; omega, fun q => absurd rfl q, fun q => absurd rfl q⟩
                intro q hq
                rcases List.mem_append.mp hq with hq | hq
                · exact h1 q hq
                · rw [List.mem_singleton.mp hq]; exact ⟨g.1, g.2.1, g.2.2.1 (by decide), g.2.2.2⟩
              · rw [if_neg c3] at hps; cases hps
          · have g := h4 (by decide)
            have g2 := h3 (by decide)
            unfold pstep at hps
            rw [if_neg (by decide), if_neg (by decide), if_neg (by decide), if_neg (by decide), if_neg (fun q => absurd q.1 (by decide))] at hps
            by_cases c3 : k = 13
            · rw [if_pos c3] at hps; cases hps
              refine ⟨by omega, ?_, by simp; omega, fun q => absurd rfl q, fun q => absurd rfl q⟩
              intro q hq
              rcases List.mem_append.mp hq with hq | hq
              · exact h1 q hq
              · rw [List.mem_singleton.mp hq]; exact ⟨g.1, g.2.1, g.2.2.1 (by decide), g.2.2.2⟩
            · rw [if_neg c3] at hps; cases hps
        exact ih _ _ _ _ (by omega) hw.1 hw.2.1 hw.2.2.1 hw.2.2.2.1 hw.2.2.2.2
theorem parse_ok (hn : 0 ≤ nt) : itsOk (parse tx nt).2 ∧ (parse tx nt).2.length ≤ 9 ∧ ((parse tx nt).1 = -1 ∨ 0 ≤ (parse tx nt).1 ∧ (parse tx nt).1 ≤ nt) :=
  pm_ok _ 0 0 [] _ (by omega) (by omega) (fun q hq => by cases hq) (by simp) (fun q => absurd rfl q) (fun q => absurd rfl q)
end CG

