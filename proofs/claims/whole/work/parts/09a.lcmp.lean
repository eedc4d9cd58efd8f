/-! ===== longs compared, and the branch behind it ===== -/
def cI (x z : Int) : Int := if z < x then 1 else if x = z then 0 else -1
theorem cI_in (x z : Int) : -2147483648 ≤ cI x z ∧ cI x z < 2147483648 := by unfold cI; split <;> (try split) <;> omega
theorem lg_cI {x z : Int} (hx : -9223372036854775808 ≤ x ∧ x < 9223372036854775808) (hz : -9223372036854775808 ≤ z ∧ z < 9223372036854775808) : lg_cmp (Int64.ofInt x) (Int64.ofInt z) = Int32.ofInt (cI x z) := by
  unfold lg_cmp cI
  have e1 : (Int64.ofInt x > Int64.ofInt z) = (z < x) := propext (j_lt hz hx)
  have e2 : (Int64.ofInt x = Int64.ofInt z) = (x = z) := propext (j_eq hx hz)
  by_cases q : z < x
  · rw [if_pos q, if_pos (by rw [e1]; exact q)]; rfl
  · rw [if_neg q, if_neg (by rw [e1]; exact q)]
    by_cases r : x = z
    · rw [if_pos r, if_pos (by rw [e2]; exact r)]; rfl
    · rw [if_neg r, if_neg (by rw [e2]; exact r)]; rfl
section LC
variable {G : GT} {y : MT} {pc : Nat} {L st : List AV} {a : AL} {h : Hp} {Q : PT}
theorem r_lc_eq {x z : Int} {off : Int} (t : Nat) (hd : decode y.cd pc = .ok (.lcmp, 1)) (hd2 : decode y.cd (pc + 1) = .ok (.ifCond .eq off, 3)) (ht : ((pc + 1 : Nat) : Int) + off = (t : Int)) (hx : -9223372036854775808 ≤ x ∧ x < 9223372036854775808) (hz : -9223372036854775808 ≤ z ∧ z < 9223372036854775808) (kt : x = z → At G y t L st a h Q) (kf : ¬ x = z → At G y (pc + 1 + 3) L st a h Q) : At G y pc L (vJ z :: vJ x :: st) a h Q := by
  intro p e R s m args below meth c H locs LS F w1 w2 w3
  have h0 : -2147483648 ≤ (0 : Int) ∧ (0 : Int) < 2147483648 := by decide
  refine W.lcmp F.1 F.2.1 hd ?_
  rw [lg_cI hx hz]
  refine lv_if_eq F.1 F.2.1 hd2 ht (fun q => ?_) (fun q => ?_)
  · refine kt ?_ p e R s m args below meth c H locs LS F w1 w2 w3
    rw [← i_0] at q
    simp only [i_eq (cI_in x z) h0] at q
    simp only [cI] at q
    split at q <;> (try split at q) <;> omega
  · refine kf ?_ p e R s m args below meth c H locs LS F w1 w2 w3
    rw [← i_0] at q
    simp only [i_eq (cI_in x z) h0, Decidable.not_not] at q
    simp only [cI] at q
    split at q <;> (try split at q) <;> omega
theorem r_lc_ne {x z : Int} {off : Int} (t : Nat) (hd : decode y.cd pc = .ok (.lcmp, 1)) (hd2 : decode y.cd (pc + 1) = .ok (.ifCond .ne off, 3)) (ht : ((pc + 1 : Nat) : Int) + off = (t : Int)) (hx : -9223372036854775808 ≤ x ∧ x < 9223372036854775808) (hz : -9223372036854775808 ≤ z ∧ z < 9223372036854775808) (kt : ¬ x = z → At G y t L st a h Q) (kf : x = z → At G y (pc + 1 + 3) L st a h Q) : At G y pc L (vJ z :: vJ x :: st) a h Q := by
  intro p e R s m args below meth c H locs LS F w1 w2 w3
  have h0 : -2147483648 ≤ (0 : Int) ∧ (0 : Int) < 2147483648 := by decide
  refine W.lcmp F.1 F.2.1 hd ?_
  rw [lg_cI hx hz]
  refine lv_if_ne F.1 F.2.1 hd2 ht (fun q => ?_) (fun q => ?_)
  · refine kt ?_ p e R s m args below meth c H locs LS F w1 w2 w3
    rw [← i_0] at q
    simp only [i_eq (cI_in x z) h0] at q
    simp only [cI] at q
    split at q <;> (try split at q) <;> omega
  · refine kf ?_ p e R s m args below meth c H locs LS F w1 w2 w3
    rw [← i_0] at q
    simp only [i_eq (cI_in x z) h0, Decidable.not_not] at q
    simp only [cI] at q
    split at q <;> (try split at q) <;> omega
theorem r_lc_lt {x z : Int} {off : Int} (t : Nat) (hd : decode y.cd pc = .ok (.lcmp, 1)) (hd2 : decode y.cd (pc + 1) = .ok (.ifCond .lt off, 3)) (ht : ((pc + 1 : Nat) : Int) + off = (t : Int)) (hx : -9223372036854775808 ≤ x ∧ x < 9223372036854775808) (hz : -9223372036854775808 ≤ z ∧ z < 9223372036854775808) (kt : x < z → At G y t L st a h Q) (kf : ¬ x < z → At G y (pc + 1 + 3) L st a h Q) : At G y pc L (vJ z :: vJ x :: st) a h Q := by
  intro p e R s m args below meth c H locs LS F w1 w2 w3
  have h0 : -2147483648 ≤ (0 : Int) ∧ (0 : Int) < 2147483648 := by decide
  refine W.lcmp F.1 F.2.1 hd ?_
  rw [lg_cI hx hz]
  refine lv_if_lt F.1 F.2.1 hd2 ht (fun q => ?_) (fun q => ?_)
  · refine kt ?_ p e R s m args below meth c H locs LS F w1 w2 w3
    rw [← i_0] at q
    simp only [i_lt (cI_in x z) h0] at q
    simp only [cI] at q
    split at q <;> (try split at q) <;> omega
  · refine kf ?_ p e R s m args below meth c H locs LS F w1 w2 w3
    rw [← i_0] at q
    simp only [i_lt (cI_in x z) h0, Decidable.not_not] at q
    simp only [cI] at q
    split at q <;> (try split at q) <;> omega
theorem r_lc_ge {x z : Int} {off : Int} (t : Nat) (hd : decode y.cd pc = .ok (.lcmp, 1)) (hd2 : decode y.cd (pc + 1) = .ok (.ifCond .ge off, 3)) (ht : ((pc + 1 : Nat) : Int) + off = (t : Int)) (hx : -9223372036854775808 ≤ x ∧ x < 9223372036854775808) (hz : -9223372036854775808 ≤ z ∧ z < 9223372036854775808) (kt : z ≤ x → At G y t L st a h Q) (kf : ¬ z ≤ x → At G y (pc + 1 + 3) L st a h Q) : At G y pc L (vJ z :: vJ x :: st) a h Q := by
  intro p e R s m args below meth c H locs LS F w1 w2 w3
  have h0 : -2147483648 ≤ (0 : Int) ∧ (0 : Int) < 2147483648 := by decide
  refine W.lcmp F.1 F.2.1 hd ?_
  rw [lg_cI hx hz]
  refine lv_if_ge F.1 F.2.1 hd2 ht (fun q => ?_) (fun q => ?_)
  · refine kt ?_ p e R s m args below meth c H locs LS F w1 w2 w3
    rw [← i_0] at q
    simp only [i_le h0 (cI_in x z)] at q
    simp only [cI] at q
    split at q <;> (try split at q) <;> omega
  · refine kf ?_ p e R s m args below meth c H locs LS F w1 w2 w3
    rw [← i_0] at q
    simp only [i_le h0 (cI_in x z), Decidable.not_not] at q
    simp only [cI] at q
    split at q <;> (try split at q) <;> omega
theorem r_lc_gt {x z : Int} {off : Int} (t : Nat) (hd : decode y.cd pc = .ok (.lcmp, 1)) (hd2 : decode y.cd (pc + 1) = .ok (.ifCond .gt off, 3)) (ht : ((pc + 1 : Nat) : Int) + off = (t : Int)) (hx : -9223372036854775808 ≤ x ∧ x < 9223372036854775808) (hz : -9223372036854775808 ≤ z ∧ z < 9223372036854775808) (kt : z < x → At G y t L st a h Q) (kf : ¬ z < x → At G y (pc + 1 + 3) L st a h Q) : At G y pc L (vJ z :: vJ x :: st) a h Q := by
  intro p e R s m args below meth c H locs LS F w1 w2 w3
  have h0 : -2147483648 ≤ (0 : Int) ∧ (0 : Int) < 2147483648 := by decide
  refine W.lcmp F.1 F.2.1 hd ?_
  rw [lg_cI hx hz]
  refine lv_if_gt F.1 F.2.1 hd2 ht (fun q => ?_) (fun q => ?_)
  · refine kt ?_ p e R s m args below meth c H locs LS F w1 w2 w3
    rw [← i_0] at q
    simp only [i_lt h0 (cI_in x z)] at q
    simp only [cI] at q
    split at q <;> (try split at q) <;> omega
  · refine kf ?_ p e R s m args below meth c H locs LS F w1 w2 w3
    rw [← i_0] at q
    simp only [i_lt h0 (cI_in x z), Decidable.not_not] at q
    simp only [cI] at q
    split at q <;> (try split at q) <;> omega
theorem r_lc_le {x z : Int} {off : Int} (t : Nat) (hd : decode y.cd pc = .ok (.lcmp, 1)) (hd2 : decode y.cd (pc + 1) = .ok (.ifCond .le off, 3)) (ht : ((pc + 1 : Nat) : Int) + off = (t : Int)) (hx : -9223372036854775808 ≤ x ∧ x < 9223372036854775808) (hz : -9223372036854775808 ≤ z ∧ z < 9223372036854775808) (kt : x ≤ z → At G y t L st a h Q) (kf : ¬ x ≤ z → At G y (pc + 1 + 3) L st a h Q) : At G y pc L (vJ z :: vJ x :: st) a h Q := by
  intro p e R s m args below meth c H locs LS F w1 w2 w3
  have h0 : -2147483648 ≤ (0 : Int) ∧ (0 : Int) < 2147483648 := by decide
  refine W.lcmp F.1 F.2.1 hd ?_
  rw [lg_cI hx hz]
  refine lv_if_le F.1 F.2.1 hd2 ht (fun q => ?_) (fun q => ?_)
  · refine kt ?_ p e R s m args below meth c H locs LS F w1 w2 w3
    rw [← i_0] at q
    simp only [i_le (cI_in x z) h0] at q
    simp only [cI] at q
    split at q <;> (try split at q) <;> omega
  · refine kf ?_ p e R s m args below meth c H locs LS F w1 w2 w3
    rw [← i_0] at q
    simp only [i_le (cI_in x z) h0, Decidable.not_not] at q
    simp only [cI] at q
    split at q <;> (try split at q) <;> omega
end LC
