/-! ===== states stay good ===== -/
def gd (s : SS) : Prop := Inv s.bk ∧ (∀ b, s.i0 = some b → Inv b) ∧ (∀ b, s.i1 = some b → Inv b) ∧ (0 ≤ s.up ∧ s.up ≤ 100) ∧ (0 ≤ s.dn ∧ s.dn ≤ 100)
theorem gd_0 : gd s00 := ⟨Inv_0, fun b h => (by cases h), fun b h => (by cases h), ⟨by decide, by decide⟩, ⟨by decide, by decide⟩⟩
section GD
variable {s : SS}
theorem gd.sbk {bk' : Int → Int} (g : gd s) (h : Inv bk') : gd (s.sbk bk') := ⟨h, g.2.1, g.2.2.1, g.2.2.2.1, g.2.2.2.2⟩
theorem gd.bad (g : gd s) : gd s.bad := g
theorem gd.no (g : gd s) : gd s.no := g
theorem gd.full (g : gd s) : gd s.full := g
theorem gd_person {k a l r : Int} (g : gd s) : gd (fPerson s k a l r).2 := by
  have i0 := g.1.1.1
  by_cases c1 : (0 ≤ k ∧ k ≤ 5) ∧ (0 ≤ a ∧ a ≤ 99) ∧ (0 ≤ l ∧ l ≤ 9) ∧ (0 ≤ r ∧ r ≤ 9)
  · by_cases c2 : s.bk 0 = 8
    · rw [show fPerson s k a l r = (-4, s.full) by unfold fPerson; rw [if_neg (fun q => q c1), if_pos c2]]; exact g.full
    · unfold fPerson; rw [if_neg (fun q => q c1), if_neg c2]
      exact g.sbk (inv_person g.1 (by omega) c1.1 c1.2.1 c1.2.2.1 c1.2.2.2)
  · unfold fPerson; rw [if_pos c1]; exact g.bad
theorem gd_counts {p w : Int} (g : gd s) : gd (fCounts s p w).2 := by
  unfold fCounts; split
  · exact g
  · exact g.bad
theorem gd_owe {a b w : Int} (g : gd s) : gd (fOwe s a b w).2 := by
  have i0 := g.1.1.1
  unfold fOwe; split
  · rename_i c
    exact g.sbk (inv_owe g.1 (by omega) (by omega) c.2)
  · exact g.bad
theorem gd_owes {a b : Int} (g : gd s) : gd (fOwes s a b).2 := by
  unfold fOwes; split
  · exact g
  · exact g.bad
theorem gd_type {v k : Int} (g : gd s) : gd (fType s v k).2 := by
  unfold fType; split
  · exact g.bad
  · split
    · exact g.full
    · exact g.sbk (inv_type _ _ g.1 (by omega))
theorem gd_clear (g : gd s) : gd (fClear s).2 := g.sbk (inv_cnt g.1 (Or.inl rfl))
theorem gd_fault (g : gd s) : gd (fFault s).2 := g
theorem gd_item {i w : Int} (g : gd s) : gd (fItem s i w).2 := by
  unfold fItem; split
  · exact g.bad
  · split
    · exact g.no
    · split
      · exact g
      · exact g.bad
theorem gd_talk {a b w : Int} (g : gd s) : gd (fTalk s a b w).2 := by
  unfold fTalk; split
  · exact g.bad
  · split
    · exact g.no
    · exact g
theorem gd_meet {a b : Int} (g : gd s) : gd (fMeet s a b).2 := by
  have i0 := g.1.1.1
  unfold fMeet; split
  · exact g.bad
  · rename_i c1
    split
    · exact g.no
    · split
      · exact g
      · rename_i c3
        have c := Classical.not_not.mp c1
        have hb3 := TB_3 g.1 (x := a) (y := b) (by omega) (by omega) c.2.2
        exact g.sbk (wentB_Inv g.1 (by omega) (by omega) (by omega))
theorem gd_come {p : Int} (g : gd s) : gd (fCome s p).2 := by
  by_cases c : (0 ≤ p ∧ p < s.bk 0) ∧ ¬ inQ s.bk p
  · unfold fCome; rw [if_pos c]
    exact g.sbk (inv_come g.1 c.1 c.2)
  · unfold fCome; rw [if_neg c]; exact g.bad
theorem gd_disperse (g : gd s) : gd (fDisperse s).2 := g.sbk (inv_cnt g.1 (Or.inr (Or.inl rfl)))
theorem gd_through {i : Int} (g : gd s) : gd (fThrough s i).2 := by
  unfold fThrough; split
  · exact g.bad
  · split
    · exact g.no
    · split
      · exact g
      · exact g
theorem gd_soonest {i : Int} (g : gd s) : gd (fSoonest s i).2 := by
  unfold fSoonest; split
  · exact g.bad
  · split
    · exact g.no
    · split
      · exact g.no
      · exact g
theorem gd_avoid (g : gd s) : gd (fAvoid s).2 := by
  unfold fAvoid; split
  · exact g.no
  · exact g
theorem gd_waits {d p : Int} (g : gd s) : gd (fWaits s d p).2 := by
  unfold fWaits; split
  · rename_i c
    exact g.sbk (inv_waits g.1 c.1 c.2)
  · exact g.bad
theorem gd_leg {a b m : Int} (g : gd s) : gd (fLeg s a b m).2 := by
  unfold fLeg; split
  · rename_i c
    exact g.sbk (inv_leg g.1 c.1 c.2.1 c.2.2.1 c.2.2.2)
  · exact g.bad
theorem gd_way {p a t i : Int} (g : gd s) : gd (fWay s p a t i).2 := by
  unfold fWay; split
  · exact g.bad
  · split
    · exact g.no
    · split
      · exact g
      · split
        · exact g
        · exact g
theorem gd_tell {a b w : Int} (g : gd s) : gd (fTell s a b w).2 := by
  have i3 := g.1.1.2.2.2
  unfold fTell; split
  · exact g.bad
  · rename_i c1
    split
    · exact g.full
    · have c := Classical.not_not.mp c1
      exact g.sbk (inv_tell g.1 (by omega) c.1.1 c.1.2.1 c.1.2.2 c.2)
theorem gd_forget (g : gd s) : gd (fForget s).2 := g.sbk (inv_cnt g.1 (Or.inr (Or.inr rfl)))
theorem gd_judge (g : gd s) : gd (fJudge s).2 := by
  unfold fJudge; split
  · exact g.no
  · exact g
theorem gd_learns (g : gd s) : gd (fLearns s).2 := g
theorem gd_struck {a b : Int} (g : gd s) : gd (fStruck s a b).2 := by
  unfold fStruck; split
  · exact g
  · split
    · exact g
    · exact g.bad
theorem gd_have {p o f : Int} (g : gd s) : gd (fHave s p o f).2 := by
  unfold fHave; split
  · exact g.bad
  · split
    · exact g.no
    · exact g
theorem upG {T : Int → Int → Int × Int × Int} {p : Int} : ∀ (q : Nat) (o x : Int), 0 ≤ x → 0 ≤ lpI (upS T p) q o x ∧ lpI (upS T p) q o x ≤ x + 2 * q := by
  intro q
  induction q with
  | zero => intro o x hx; simp only [lpI]; omega
  | succ q ih =>
    intro o x hx
    have hu := @upS_in T p o x
    have := ih (o + 1) (upS T p o x) (by omega)
    show 0 ≤ lpI (upS T p) q (o + 1) (upS T p o x) ∧ lpI (upS T p) q (o + 1) (upS T p o x) ≤ x + 2 * (q + 1 : Nat)
    omega
theorem gd_firsts {p : Int} (g : gd s) : gd (fFirsts s p).2 := by
  have i0 := g.1.1.1
  unfold fFirsts; split
  · exact g.bad
  · split
    · exact g.no
    · rename_i c1 c2
      have h2 : ¬ s.bk 0 < 2 := fun q => c2 (Or.inr q)
      have hu := @upG (TB s.bk) p (s.bk 0).toNat 0 0 (by omega)
      change 0 ≤ upF s.bk p ∧ upF s.bk p ≤ 0 + 2 * ((s.bk 0).toNat : Int) at hu
      have hg := gdF_pos (u := upF s.bk p) (a := 2 * (s.bk 0 - 1)) hu.1 (by omega)
      refine ⟨g.1, g.2.1, g.2.2.1, ⟨?_, ?_⟩, ⟨?_, ?_⟩⟩
      · exact Int.ediv_nonneg hu.1 (by omega)
      · have := Int.ediv_le_self (gdF (upF s.bk p) (2 * (s.bk 0 - 1))) hu.1
        show upF s.bk p / gdF (upF s.bk p) (2 * (s.bk 0 - 1)) ≤ 100
        omega
      · exact Int.ediv_nonneg (by omega) (by omega)
      · have := Int.ediv_le_self (gdF (upF s.bk p) (2 * (s.bk 0 - 1))) (show 0 ≤ 2 * (s.bk 0 - 1) by omega)
        show 2 * (s.bk 0 - 1) / gdF (upF s.bk p) (2 * (s.bk 0 - 1)) ≤ 100
        omega
theorem gd_strikes (g : gd s) : gd (fStrikes s).2 := by
  unfold fStrikes; split
  · exact g.no
  · exact g
theorem gd_part {w : Int} (g : gd s) : gd (fPart s w).2 := by
  unfold fPart; split
  · exact g
  · split
    · exact g
    · exact g.bad
theorem gd_image {i : Int} (g : gd s) : gd (fImage s i).2 := by
  unfold fImage; split
  · exact g.bad
  · unfold SS.simg
    dsimp only
    split
    · exact ⟨g.1, fun b h => by cases h; exact g.1, g.2.2.1, g.2.2.2.1, g.2.2.2.2⟩
    · exact ⟨g.1, g.2.1, fun b h => by cases h; exact g.1, g.2.2.2.1, g.2.2.2.2⟩
theorem gd_from {i : Int} (g : gd s) : gd (fFrom s i).2 := by
  unfold fFrom; split
  · exact g.bad
  · split
    · exact g.no
    · rename_i b hb
      have hI : Inv b := by
        unfold SS.img at hb
        split at hb
        · exact g.2.1 b hb
        · exact g.2.2.1 b hb
      refine g.sbk (hI.cg (fun j => ?_) (fun j a c => if_pos ⟨a, c⟩))
      unfold cp480
      split
      · exact hI.2.1 j
      · exact g.1.2.1 j
theorem gd_status {w : Int} (g : gd s) : gd (fStatus s w).2 := by
  unfold fStatus; split
  · exact g
  · split
    · exact g
    · split
      · exact g
      · exact g.bad
theorem gd_count {w : Int} (g : gd s) : gd (fCount s w).2 := by
  unfold fCount; split
  · exact g
  · exact g.bad
end GD

