/-! ===== every call keeps what always holds ===== -/
section KP
variable {bk b' : Int → Int}
theorem Inv.P (hI : Inv bk) (e : ∀ j, 4 ≤ j → j < 36 → b' j = bk j) : ∀ i, 0 ≤ i → i < 8 → (0 ≤ b' (4 + 4 * i) ∧ b' (4 + 4 * i) ≤ 5) ∧ (0 ≤ b' (4 + 4 * i + 1) ∧ b' (4 + 4 * i + 1) ≤ 99) ∧ (0 ≤ b' (4 + 4 * i + 2) ∧ b' (4 + 4 * i + 2) ≤ 9) ∧ (0 ≤ b' (4 + 4 * i + 3) ∧ b' (4 + 4 * i + 3) ≤ 9) := fun i a b => by
  rw [e _ (by omega) (by omega), e (4 + 4 * i + 1) (by omega) (by omega), e (4 + 4 * i + 2) (by omega) (by omega), e (4 + 4 * i + 3) (by omega) (by omega)]; exact hI.2.2.1 i a b
theorem Inv.O (hI : Inv bk) (e : ∀ j, 36 ≤ j → j < 100 → b' j = bk j) : ∀ i, 0 ≤ i → i < 64 → 0 ≤ b' (36 + i) ∧ b' (36 + i) ≤ 99 := fun i a b => by
  rw [e _ (by omega) (by omega)]; exact hI.2.2.2.1 i a b
theorem Inv.L (hI : Inv bk) (e : ∀ j, 100 ≤ j → j < 164 → b' j = bk j) : ∀ a b, 0 ≤ a → a < b → b < 8 → b' (100 + (8 * a + b)) = -1 ∨ b' (100 + (8 * a + b)) = a ∨ b' (100 + (8 * a + b)) = b := fun a b x y z => by
  rw [e _ (by omega) (by omega)]; exact hI.2.2.2.2.1 a b x y z
theorem Inv.T (hI : Inv bk) (e : ∀ j, 264 ≤ j → j < 424 → b' j = bk j) : ∀ i, 0 ≤ i → i < 160 → 0 ≤ b' (264 + i) := fun i a b => by
  rw [e _ (by omega) (by omega)]; exact hI.2.2.2.2.2.1 i a b
theorem Inv.Q (hI : Inv bk) (e0 : bk 0 ≤ b' 0) (e2 : b' 2 ≤ bk 2) (e : ∀ j, 164 ≤ j → j < 172 → b' j = bk j) : (∀ i, 0 ≤ i → i < b' 2 → 0 ≤ b' (164 + i) ∧ b' (164 + i) < b' 0) ∧ (∀ i j, 0 ≤ i → i < j → j < b' 2 → b' (164 + i) ≠ b' (164 + j)) := by
  have i2 := hI.1.2.2.1
  obtain ⟨q1, q2⟩ := hI.2.2.2.2.2.2.1
  refine ⟨fun i a b => ?_, fun i j a b c => ?_⟩
  · rw [e _ (by omega) (by omega)]; have := q1 i a (by omega); omega
  · rw [e _ (by omega) (by omega), e _ (by omega) (by omega)]; exact q2 i j a b (by omega)
theorem Inv.W (hI : Inv bk) (e0 : bk 0 ≤ b' 0) (e : ∀ j, 172 ≤ j → j < 178 → b' j = bk j) : ∀ d, 0 ≤ d → d < 6 → b' (172 + d) = -1 ∨ (0 ≤ b' (172 + d) ∧ b' (172 + d) < b' 0) := fun d a b => by
  rw [e _ (by omega) (by omega)]; have := hI.2.2.2.2.2.2.2.1 d a b; omega
theorem Inv.G (hI : Inv bk) (e : ∀ j, 180 ≤ j → j < 216 → b' j = bk j) : ∀ a b, 0 ≤ a → a < 6 → 0 ≤ b → b < 6 → (0 ≤ b' (180 + 6 * a + b) ∧ b' (180 + 6 * a + b) ≤ 99) ∧ b' (180 + 6 * a + b) = b' (180 + 6 * b + a) ∧ (a = b → b' (180 + 6 * a + b) = 0) := fun a b x y z w => by
  rw [e _ (by omega) (by omega), e (180 + 6 * b + a) (by omega) (by omega)]; exact hI.2.2.2.2.2.2.2.2.1 a b x y z w
theorem Inv.E (hI : Inv bk) (e0 : bk 0 ≤ b' 0) (e3 : b' 3 ≤ bk 3) (e : ∀ j, 216 ≤ j → j < 264 → b' j = bk j) : ∀ k, 0 ≤ k → k < b' 3 → (0 ≤ b' (216 + 3 * k) ∧ b' (216 + 3 * k) < b' 0) ∧ (0 ≤ b' (216 + 3 * k + 1) ∧ b' (216 + 3 * k + 1) < b' 0) ∧ b' (216 + 3 * k) ≠ b' (216 + 3 * k + 1) ∧ (b' (216 + 3 * k + 2) = b' (216 + 3 * k) ∨ b' (216 + 3 * k + 2) = b' (216 + 3 * k + 1)) := fun k a b => by
  have i3 := hI.1.2.2.2
  rw [e _ (by omega) (by omega), e (216 + 3 * k + 1) (by omega) (by omega), e (216 + 3 * k + 2) (by omega) (by omega)]
  have := hI.2.2.2.2.2.2.2.2.2 k a (by omega)
  exact ⟨by omega, by omega, this.2.2.1, this.2.2.2⟩
theorem Inv.cg (hI : Inv bk) (hb : Bd b' (-1) 255) (e : ∀ j, 0 ≤ j → j < 480 → b' j = bk j) : Inv b' := by
  have e0 := e 0 (by omega) (by omega)
  have e1 := e 1 (by omega) (by omega)
  have e2 := e 2 (by omega) (by omega)
  have e3 := e 3 (by omega) (by omega)
  have h := hI.1
  exact ⟨⟨by omega, by omega, by omega, by omega⟩, hb, hI.P (fun j a b => e j (by omega) (by omega)), hI.O (fun j a b => e j (by omega) (by omega)), hI.L (fun j a b => e j (by omega) (by omega)), hI.T (fun j a b => e j (by omega) (by omega)), hI.Q (by omega) (by omega) (fun j a b => e j (by omega) (by omega)), hI.W (by omega) (fun j a b => e j (by omega) (by omega)), hI.G (fun j a b => e j (by omega) (by omega)), hI.E (by omega) (by omega) (fun j a b => e j (by omega) (by omega))⟩
theorem inv_person {k a l r : Int} (hI : Inv bk) (h8 : bk 0 < 8) (hk : 0 ≤ k ∧ k ≤ 5) (ha : 0 ≤ a ∧ a ≤ 99) (hl : 0 ≤ l ∧ l ≤ 9) (hr : 0 ≤ r ∧ r ≤ 9) : Inv (iu (iu (iu (iu (iu bk (4 + 4 * bk 0) k) (4 + 4 * bk 0 + 1) a) (4 + 4 * bk 0 + 2) l) (4 + 4 * bk 0 + 3) r) 0 (bk 0 + 1)) := by
  have h := hI.1
  have eo : ∀ j, ¬ (j = 0 ∨ j = 4 + 4 * bk 0 ∨ j = 4 + 4 * bk 0 + 1 ∨ j = 4 + 4 * bk 0 + 2 ∨ j = 4 + 4 * bk 0 + 3) → (iu (iu (iu (iu (iu bk (4 + 4 * bk 0) k) (4 + 4 * bk 0 + 1) a) (4 + 4 * bk 0 + 2) l) (4 + 4 * bk 0 + 3) r) 0 (bk 0 + 1)) j = bk j := by
    intro j hj
    rw [iu_n (by omega), iu_n (by omega), iu_n (by omega), iu_n (by omega), iu_n (by omega)]
  have e0 : (iu (iu (iu (iu (iu bk (4 + 4 * bk 0) k) (4 + 4 * bk 0 + 1) a) (4 + 4 * bk 0 + 2) l) (4 + 4 * bk 0 + 3) r) 0 (bk 0 + 1)) 0 = bk 0 + 1 := iu_s _ _ _
  have e1 := eo 1 (by omega)
  have e2 := eo 2 (by omega)
  have e3 := eo 3 (by omega)
  refine ⟨⟨by omega, by omega, by omega, by omega⟩, ((((hI.2.1.iu (by omega)).iu (by omega)).iu (by omega)).iu (by omega)).iu (by omega), fun i i0 i1 => ?_, hI.O (fun j x y => eo j (by omega)), hI.L (fun j x y => eo j (by omega)), hI.T (fun j x y => eo j (by omega)), hI.Q (by omega) (by omega) (fun j x y => eo j (by omega)), hI.W (by omega) (fun j x y => eo j (by omega)), hI.G (fun j x y => eo j (by omega)), hI.E (by omega) (by omega) (fun j x y => eo j (by omega))⟩
  by_cases e : i = bk 0
  · have f1 : (iu (iu (iu (iu (iu bk (4 + 4 * bk 0) k) (4 + 4 * bk 0 + 1) a) (4 + 4 * bk 0 + 2) l) (4 + 4 * bk 0 + 3) r) 0 (bk 0 + 1)) (4 + 4 * bk 0) = k := by rw [iu_n (by omega), iu_n (by omega), iu_n (by omega), iu_n (by omega), iu_s]
    have f2 : (iu (iu (iu (iu (iu bk (4 + 4 * bk 0) k) (4 + 4 * bk 0 + 1) a) (4 + 4 * bk 0 + 2) l) (4 + 4 * bk 0 + 3) r) 0 (bk 0 + 1)) (4 + 4 * bk 0 + 1) = a := by rw [iu_n (by omega), iu_n (by omega), iu_n (by omega), iu_s]
    have f3 : (iu (iu (iu (iu (iu bk (4 + 4 * bk 0) k) (4 + 4 * bk 0 + 1) a) (4 + 4 * bk 0 + 2) l) (4 + 4 * bk 0 + 3) r) 0 (bk 0 + 1)) (4 + 4 * bk 0 + 2) = l := by rw [iu_n (by omega), iu_n (by omega), iu_s]
    have f4 : (iu (iu (iu (iu (iu bk (4 + 4 * bk 0) k) (4 + 4 * bk 0 + 1) a) (4 + 4 * bk 0 + 2) l) (4 + 4 * bk 0 + 3) r) 0 (bk 0 + 1)) (4 + 4 * bk 0 + 3) = r := by rw [iu_n (by omega), iu_s]
    rw [e, f1, f2, f3, f4]
    exact ⟨hk, ha, hl, hr⟩
  · rw [eo (4 + 4 * i) (by omega), eo (4 + 4 * i + 1) (by omega), eo (4 + 4 * i + 2) (by omega), eo (4 + 4 * i + 3) (by omega)]
    exact hI.2.2.1 i i0 i1
theorem inv_owe {a b w : Int} (hI : Inv bk) (ha : 0 ≤ a ∧ a < 8) (hb : 0 ≤ b ∧ b < 8) (hw : 0 ≤ w ∧ w ≤ 99) : Inv (iu bk (36 + 8 * a + b) w) := by
  have h := hI.1
  have eo : ∀ j, ¬ (j = 36 + 8 * a + b) → iu bk (36 + 8 * a + b) w j = bk j := fun j hj => iu_n hj
  have e0 := eo 0 (by omega)
  have e1 := eo 1 (by omega)
  have e2 := eo 2 (by omega)
  have e3 := eo 3 (by omega)
  refine ⟨⟨by omega, by omega, by omega, by omega⟩, hI.2.1.iu (by omega), hI.P (fun j x y => eo j (by omega)), fun i i0 i1 => ?_, hI.L (fun j x y => eo j (by omega)), hI.T (fun j x y => eo j (by omega)), hI.Q (by omega) (by omega) (fun j x y => eo j (by omega)), hI.W (by omega) (fun j x y => eo j (by omega)), hI.G (fun j x y => eo j (by omega)), hI.E (by omega) (by omega) (fun j x y => eo j (by omega))⟩
  by_cases e : 36 + i = 36 + 8 * a + b
  · rw [e, iu_s]; exact hw
  · rw [eo _ e]; exact hI.2.2.2.1 i i0 i1
theorem inv_come {p : Int} (hI : Inv bk) (hp : 0 ≤ p ∧ p < bk 0) (hq : ¬ inQ bk p) : Inv (iu (iu bk (164 + bk 2) p) 2 (bk 2 + 1)) := by
  have h := hI.1
  have hroom := q_room hI hp hq
  obtain ⟨q1, q2⟩ := hI.2.2.2.2.2.2.1
  have eo : ∀ j, ¬ (j = 2 ∨ j = 164 + bk 2) → iu (iu bk (164 + bk 2) p) 2 (bk 2 + 1) j = bk j := fun j hj => by rw [iu_n (by omega), iu_n (by omega)]
  have e0 := eo 0 (by omega)
  have e1 := eo 1 (by omega)
  have e2 : iu (iu bk (164 + bk 2) p) 2 (bk 2 + 1) 2 = bk 2 + 1 := iu_s _ _ _
  have e3 := eo 3 (by omega)
  have ep : iu (iu bk (164 + bk 2) p) 2 (bk 2 + 1) (164 + bk 2) = p := by rw [iu_n (by omega), iu_s]
  refine ⟨⟨by omega, by omega, by omega, by omega⟩, (hI.2.1.iu (by omega)).iu (by omega), hI.P (fun j x y => eo j (by omega)), hI.O (fun j x y => eo j (by omega)), hI.L (fun j x y => eo j (by omega)), hI.T (fun j x y => eo j (by omega)), ⟨fun i a b => ?_, fun i j a b c => ?_⟩, hI.W (by omega) (fun j x y => eo j (by omega)), hI.G (fun j x y => eo j (by omega)), hI.E (by omega) (by omega) (fun j x y => eo j (by omega))⟩
  · by_cases e : i = bk 2
    · rw [e, ep]; omega
    · rw [eo _ (by omega)]; have := q1 i a (by omega); omega
  · rw [eo (164 + i) (by omega)]
    by_cases e : j = bk 2
    · rw [e, ep]
      exact fun e2 => hq ⟨i, a, by omega, e2⟩
    · rw [eo _ (by omega)]; exact q2 i j a b (by omega)
theorem inv_cnt {k : Int} (hI : Inv bk) (hk : k = 1 ∨ k = 2 ∨ k = 3) : Inv (iu bk k 0) := by
  have h := hI.1
  have eo : ∀ j, ¬ j = k → iu bk k 0 j = bk j := fun j hj => iu_n hj
  have ek : iu bk k 0 k = 0 := iu_s _ _ _
  have e0 := eo 0 (by omega)
  have e1 : iu bk k 0 1 = bk 1 ∨ iu bk k 0 1 = 0 := by
    by_cases e : (1 : Int) = k
    · rw [e]; exact Or.inr ek
    · exact Or.inl (eo 1 e)
  have e2 : iu bk k 0 2 = bk 2 ∨ iu bk k 0 2 = 0 := by
    by_cases e : (2 : Int) = k
    · rw [e]; exact Or.inr ek
    · exact Or.inl (eo 2 e)
  have e3 : iu bk k 0 3 = bk 3 ∨ iu bk k 0 3 = 0 := by
    by_cases e : (3 : Int) = k
    · rw [e]; exact Or.inr ek
    · exact Or.inl (eo 3 e)
  exact ⟨⟨by omega, by omega, by omega, by omega⟩, hI.2.1.iu (by omega), hI.P (fun j x y => eo j (by omega)), hI.O (fun j x y => eo j (by omega)), hI.L (fun j x y => eo j (by omega)), hI.T (fun j x y => eo j (by omega)), hI.Q (by omega) (by omega) (fun j x y => eo j (by omega)), hI.W (by omega) (fun j x y => eo j (by omega)), hI.G (fun j x y => eo j (by omega)), hI.E (by omega) (by omega) (fun j x y => eo j (by omega))⟩
theorem inv_waits {d p : Int} (hI : Inv bk) (hd : 0 ≤ d ∧ d ≤ 5) (hp : p = -1 ∨ (0 ≤ p ∧ p < bk 0)) : Inv (iu bk (172 + d) p) := by
  have h := hI.1
  have eo : ∀ j, ¬ (j = 172 + d) → iu bk (172 + d) p j = bk j := fun j hj => iu_n hj
  have e0 := eo 0 (by omega)
  have e1 := eo 1 (by omega)
  have e2 := eo 2 (by omega)
  have e3 := eo 3 (by omega)
  refine ⟨⟨by omega, by omega, by omega, by omega⟩, hI.2.1.iu (by omega), hI.P (fun j x y => eo j (by omega)), hI.O (fun j x y => eo j (by omega)), hI.L (fun j x y => eo j (by omega)), hI.T (fun j x y => eo j (by omega)), hI.Q (by omega) (by omega) (fun j x y => eo j (by omega)), fun i a b => ?_, hI.G (fun j x y => eo j (by omega)), hI.E (by omega) (by omega) (fun j x y => eo j (by omega))⟩
  by_cases e : i = d
  · rw [e, iu_s]; omega
  · rw [eo _ (by omega)]; have := hI.2.2.2.2.2.2.2.1 i a b; omega
theorem inv_leg {a b m : Int} (hI : Inv bk) (ha : 0 ≤ a ∧ a ≤ 5) (hb : 0 ≤ b ∧ b ≤ 5) (hab : a ≠ b) (hm : 0 ≤ m ∧ m ≤ 99) : Inv (iu (iu bk (180 + 6 * a + b) m) (180 + 6 * b + a) m) := by
  have h := hI.1
  have eo : ∀ j, ¬ (j = 180 + 6 * a + b ∨ j = 180 + 6 * b + a) → iu (iu bk (180 + 6 * a + b) m) (180 + 6 * b + a) m j = bk j := fun j hj => by rw [iu_n (by omega), iu_n (by omega)]
  have ea : iu (iu bk (180 + 6 * a + b) m) (180 + 6 * b + a) m (180 + 6 * a + b) = m := by rw [iu_n (by omega), iu_s]
  have eb : iu (iu bk (180 + 6 * a + b) m) (180 + 6 * b + a) m (180 + 6 * b + a) = m := iu_s _ _ _
  have e0 := eo 0 (by omega)
  have e1 := eo 1 (by omega)
  have e2 := eo 2 (by omega)
  have e3 := eo 3 (by omega)
  refine ⟨⟨by omega, by omega, by omega, by omega⟩, (hI.2.1.iu (by omega)).iu (by omega), hI.P (fun j x y => eo j (by omega)), hI.O (fun j x y => eo j (by omega)), hI.L (fun j x y => eo j (by omega)), hI.T (fun j x y => eo j (by omega)), hI.Q (by omega) (by omega) (fun j x y => eo j (by omega)), hI.W (by omega) (fun j x y => eo j (by omega)), fun x y x0 x6 y0 y6 => ?_, hI.E (by omega) (by omega) (fun j x y => eo j (by omega))⟩
  by_cases c1 : x = a ∧ y = b
  · obtain ⟨rfl, rfl⟩ := c1
    rw [ea, eb]; exact ⟨hm, rfl, fun e => absurd e hab⟩
  · by_cases c2 : x = b ∧ y = a
    · obtain ⟨rfl, rfl⟩ := c2
      rw [ea, eb]; exact ⟨hm, rfl, fun e => absurd e.symm hab⟩
    · rw [eo (180 + 6 * x + y) (by omega), eo (180 + 6 * y + x) (by omega)]
      exact hI.2.2.2.2.2.2.2.2.1 x y x0 x6 y0 y6
theorem inv_tell {a b w : Int} (hI : Inv bk) (h16 : bk 3 < 16) (ha : 0 ≤ a ∧ a < bk 0) (hb : 0 ≤ b ∧ b < bk 0) (hab : a ≠ b) (hw : w = a ∨ w = b) : Inv (iu (iu (iu (iu bk (216 + 3 * bk 3) a) (216 + 3 * bk 3 + 1) b) (216 + 3 * bk 3 + 2) w) 3 (bk 3 + 1)) := by
  have h := hI.1
  have eo : ∀ j, ¬ (j = 3 ∨ j = 216 + 3 * bk 3 ∨ j = 216 + 3 * bk 3 + 1 ∨ j = 216 + 3 * bk 3 + 2) → iu (iu (iu (iu bk (216 + 3 * bk 3) a) (216 + 3 * bk 3 + 1) b) (216 + 3 * bk 3 + 2) w) 3 (bk 3 + 1) j = bk j := fun j hj => by rw [iu_n (by omega), iu_n (by omega), iu_n (by omega), iu_n (by omega)]
  have f1 : iu (iu (iu (iu bk (216 + 3 * bk 3) a) (216 + 3 * bk 3 + 1) b) (216 + 3 * bk 3 + 2) w) 3 (bk 3 + 1) (216 + 3 * bk 3) = a := by rw [iu_n (by omega), iu_n (by omega), iu_n (by omega), iu_s]
  have f2 : iu (iu (iu (iu bk (216 + 3 * bk 3) a) (216 + 3 * bk 3 + 1) b) (216 + 3 * bk 3 + 2) w) 3 (bk 3 + 1) (216 + 3 * bk 3 + 1) = b := by rw [iu_n (by omega), iu_n (by omega), iu_s]
  have f3 : iu (iu (iu (iu bk (216 + 3 * bk 3) a) (216 + 3 * bk 3 + 1) b) (216 + 3 * bk 3 + 2) w) 3 (bk 3 + 1) (216 + 3 * bk 3 + 2) = w := by rw [iu_n (by omega), iu_s]
  have e0 := eo 0 (by omega)
  have e1 := eo 1 (by omega)
  have e2 := eo 2 (by omega)
  have e3 : iu (iu (iu (iu bk (216 + 3 * bk 3) a) (216 + 3 * bk 3 + 1) b) (216 + 3 * bk 3 + 2) w) 3 (bk 3 + 1) 3 = bk 3 + 1 := iu_s _ _ _
  refine ⟨⟨by omega, by omega, by omega, by omega⟩, (((hI.2.1.iu (by omega)).iu (by omega)).iu (by omega)).iu (by omega), hI.P (fun j x y => eo j (by omega)), hI.O (fun j x y => eo j (by omega)), hI.L (fun j x y => eo j (by omega)), hI.T (fun j x y => eo j (by omega)), hI.Q (by omega) (by omega) (fun j x y => eo j (by omega)), hI.W (by omega) (fun j x y => eo j (by omega)), hI.G (fun j x y => eo j (by omega)), fun k k0 k1 => ?_⟩
  by_cases e : k = bk 3
  · rw [e, f1, f2, f3, e0]; exact ⟨ha, hb, hab, hw⟩
  · rw [eo (216 + 3 * k) (by omega), eo (216 + 3 * k + 1) (by omega), eo (216 + 3 * k + 2) (by omega), e0]
    exact hI.2.2.2.2.2.2.2.2.2 k k0 (by omega)
theorem inv_ty1 {v : Int} (hI : Inv bk) (h1 : bk 1 < 160) (hv : 0 ≤ v ∧ v ≤ 255) : Inv (iu (iu bk (264 + bk 1) v) 1 (bk 1 + 1)) := by
  have h := hI.1
  have eo : ∀ j, ¬ (j = 1 ∨ j = 264 + bk 1) → iu (iu bk (264 + bk 1) v) 1 (bk 1 + 1) j = bk j := fun j hj => by rw [iu_n (by omega), iu_n (by omega)]
  have ev : iu (iu bk (264 + bk 1) v) 1 (bk 1 + 1) (264 + bk 1) = v := by rw [iu_n (by omega), iu_s]
  have e0 := eo 0 (by omega)
  have e1 : iu (iu bk (264 + bk 1) v) 1 (bk 1 + 1) 1 = bk 1 + 1 := iu_s _ _ _
  have e2 := eo 2 (by omega)
  have e3 := eo 3 (by omega)
  refine ⟨⟨by omega, by omega, by omega, by omega⟩, (hI.2.1.iu (by omega)).iu (by omega), hI.P (fun j x y => eo j (by omega)), hI.O (fun j x y => eo j (by omega)), hI.L (fun j x y => eo j (by omega)), fun i a b => ?_, hI.Q (by omega) (by omega) (fun j x y => eo j (by omega)), hI.W (by omega) (fun j x y => eo j (by omega)), hI.G (fun j x y => eo j (by omega)), hI.E (by omega) (by omega) (fun j x y => eo j (by omega))⟩
  by_cases e : i = bk 1
  · rw [e, ev]; omega
  · rw [eo _ (by omega)]; exact hI.2.2.2.2.2.1 i a b
theorem inv_type {v : Int} : ∀ (k : Nat) (bk : Int → Int), Inv bk → bk 1 + k ≤ 160 → Inv (tyB v k bk) := by
  intro k
  induction k with
  | zero => intro bk hI _; exact hI
  | succ k ih =>
    intro bk hI h1
    have hb := byt_in v k
    rw [tyB]
    exact ih _ (inv_ty1 hI (by omega) (by omega)) (by rw [iu_s]; omega)
end KP

