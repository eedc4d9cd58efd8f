/-! ===== the class: tokens; what was read on the way is all of a kind ===== -/
theorem adv_all {P : Int → Bool} {tx : Int → Int} {nt : Int} : ∀ (k : Nat) (p j : Int), p ≤ j → j < adv P tx nt k p → P (tx j) = true := by
  intro k
  induction k with
  | zero => intro p j h1 h2; simp only [adv] at h2; omega
  | succ k ih =>
    intro p j h1 h2
    simp only [adv] at h2
    split at h2
    · rename_i hc
      by_cases e : j = p
      · rw [e]; exact hc.2
      · exact ih (p + 1) j (by omega) h2
    · omega
theorem advL_all {tx : Int → Int} {nt p j : Int} (h : p ≤ j ∧ j < advF pL tx nt p) : 97 ≤ tx j ∧ tx j ≤ 122 := by
  have := adv_all (P := pL) _ p j h.1 h.2
  simpa only [pL, decide_eq_true_eq] using this

