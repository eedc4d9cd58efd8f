/-! ===== ways ===== -/
abbrev dR (a : Int) : Prop := 0 ≤ a ∧ a < 6
def ag6 (f g : Int → Int) : Prop := ∀ j, dR j → f j = g j
section WY
variable {lg : Int → Int → Int} {c : Int → Int} {t : Int}
def lk (lg : Int → Int → Int) (c : Int → Int) (a b : Int) : Prop := ¬ a = b ∧ 0 < lg a b ∧ ¬ c b = -1
def rx (lg : Int → Int → Int) (c : Int → Int) (t : Int) (f : Int → Int) (a b : Int) : Int → Int := if (¬ a = t ∧ ¬ a = b ∧ 0 < lg a b ∧ ¬ c b = -1) ∧ lg a b + c b + f b < f a then iu f a (lg a b + c b + f b) else f
def rB (lg : Int → Int → Int) (c : Int → Int) (t a : Int) : Nat → Int → (Int → Int) → (Int → Int)
  | 0, _, f => f
  | q + 1, b, f => rB lg c t a q (b + 1) (rx lg c t f a b)
def rA (lg : Int → Int → Int) (c : Int → Int) (t : Int) : Nat → Int → (Int → Int) → (Int → Int)
  | 0, _, f => f
  | q + 1, a, f => rA lg c t q (a + 1) (rB lg c t a 6 0 f)
def rT (lg : Int → Int → Int) (c : Int → Int) (t : Int) : Nat → (Int → Int) → (Int → Int)
  | 0, f => f
  | q + 1, f => rT lg c t q (rA lg c t 6 0 f)
def f0 (t : Int) (d : Int) : Int := if d = t then 0 else 1000000
/-- what holds of the row of minutes -/
def wJ (lg : Int → Int → Int) (c : Int → Int) (t : Int) (f : Int → Int) : Prop := (∀ a, dR a → 0 ≤ f a ∧ f a ≤ 1000000) ∧ f t = 0 ∧ ∀ a, dR a → ¬ a = t → f a = 1000000 ∨ ∃ b, dR b ∧ lk lg c a b ∧ lg a b + c b + f b ≤ f a
def lgOk (lg : Int → Int → Int) (c : Int → Int) : Prop := (∀ a b, dR a → dR b → 0 ≤ lg a b ∧ lg a b ≤ 99) ∧ ∀ b, dR b → -1 ≤ c b ∧ c b ≤ 10
theorem rx_le {f : Int → Int} {a b x : Int} : rx lg c t f a b x ≤ f x := by
  unfold rx
  split
  · by_cases e : x = a
    · rw [e, iu_s]; omega
    · rw [iu_n e]; omega
  · omega
theorem rx_J {f : Int → Int} {a b : Int} (hL : lgOk lg c) (ha : dR a) (hb : dR b) (h : wJ lg c t f) : wJ lg c t (rx lg c t f a b) := by
  obtain ⟨h1, h2, h3⟩ := h
  by_cases hc : (¬ a = t ∧ ¬ a = b ∧ 0 < lg a b ∧ ¬ c b = -1) ∧ lg a b + c b + f b < f a
  · have er : rx lg c t f a b = iu f a (lg a b + c b + f b) := by unfold rx; rw [if_pos hc]
    rw [er]
    have b1 := h1 b hb
    have a1 := h1 a ha
    have l1 := hL.2 b hb
    refine ⟨fun x hx => ?_, ?_, fun x hx hxt => ?_⟩
    · by_cases e : x = a
      · rw [e, iu_s]; omega
      · rw [iu_n e]; exact h1 x hx
    · rw [iu_n (fun e => hc.1.1 e.symm)]; exact h2
    · by_cases e : x = a
      · subst e
        rw [iu_s]
        exact Or.inr ⟨b, hb, ⟨hc.1.2.1, hc.1.2.2⟩, by rw [iu_n (fun e => hc.1.2.1 e.symm)]; omega⟩
      · rw [iu_n e]
        rcases h3 x hx hxt with h | ⟨y, hy, hl, hle⟩
        · exact Or.inl h
        · refine Or.inr ⟨y, hy, hl, ?_⟩
          by_cases ey : y = a
          · subst ey; rw [iu_s]; omega
          · rw [iu_n ey]; exact hle
  · have er : rx lg c t f a b = f := by unfold rx; rw [if_neg hc]
    rw [er]; exact ⟨h1, h2, h3⟩
theorem rx_lo {f D : Int → Int} {a b : Int} (hb : dR b) (ha : dR a) (hD : ∀ a b, dR a → dR b → ¬ a = t → lk lg c a b → D a ≤ lg a b + c b + D b) (h : ∀ x, dR x → D x ≤ f x) : ∀ x, dR x → D x ≤ rx lg c t f a b x := by
  intro x hx
  unfold rx
  split
  · rename_i hc
    by_cases e : x = a
    · rw [e, iu_s]
      have := hD a b ha hb hc.1.1 ⟨hc.1.2.1, hc.1.2.2⟩
      have := h b hb
      omega
    · rw [iu_n e]; exact h x hx
  · exact h x hx
theorem rx_hi {f : Int → Int} {a b : Int} (hat : ¬ a = t) (hl : lk lg c a b) : rx lg c t f a b a ≤ lg a b + c b + f b := by
  unfold rx
  split
  · rw [iu_s]; omega
  · rename_i hc
    have : ¬ (lg a b + c b + f b < f a) := fun e => hc ⟨⟨hat, hl.1, hl.2⟩, e⟩
    omega
theorem rx_ag {f g : Int → Int} {a b : Int} (ha : dR a) (hb : dR b) (h : ag6 f g) : ag6 (rx lg c t f a b) (rx lg c t g a b) := by
  intro x hx
  unfold rx
  rw [h a ha, h b hb]
  split
  · by_cases e : x = a
    · rw [e, iu_s, iu_s]
    · rw [iu_n e, iu_n e]; exact h x hx
  · exact h x hx
theorem rB_le {a : Int} : ∀ (q : Nat) (b : Int) (f : Int → Int) (x : Int), rB lg c t a q b f x ≤ f x := by
  intro q
  induction q with
  | zero => intro b f x; exact Int.le_refl _
  | succ q ih => intro b f x; exact Int.le_trans (ih (b + 1) _ x) rx_le
theorem rB_J {a : Int} (hL : lgOk lg c) (ha : dR a) : ∀ (q : Nat) (b : Int) (f : Int → Int), 0 ≤ b → b + q = 6 → wJ lg c t f → wJ lg c t (rB lg c t a q b f) := by
  intro q
  induction q with
  | zero => intro b f _ _ h; exact h
  | succ q ih => intro b f h0 h1 h; exact ih (b + 1) _ (by omega) (by omega) (rx_J hL ha (by omega) h)
theorem rB_lo {a : Int} {D : Int → Int} (ha : dR a) (hD : ∀ a b, dR a → dR b → ¬ a = t → lk lg c a b → D a ≤ lg a b + c b + D b) : ∀ (q : Nat) (b : Int) (f : Int → Int), 0 ≤ b → b + q = 6 → (∀ x, dR x → D x ≤ f x) → ∀ x, dR x → D x ≤ rB lg c t a q b f x := by
  intro q
  induction q with
  | zero => intro b f _ _ h; exact h
  | succ q ih => intro b f h0 h1 h; exact ih (b + 1) _ (by omega) (by omega) (rx_lo (by omega) ha hD h)
theorem rB_hi {a b' : Int} (hat : ¬ a = t) (hl : lk lg c a b') : ∀ (q : Nat) (b : Int) (f : Int → Int), b ≤ b' → b' < b + q → rB lg c t a q b f a ≤ lg a b' + c b' + f b' := by
  intro q
  induction q with
  | zero => intro b f h0 h1; exfalso; omega
  | succ q ih =>
    intro b f h0 h1
    by_cases e : b = b'
    · subst e
      exact Int.le_trans (rB_le q (b + 1) _ a) (rx_hi hat hl)
    · have := ih (b + 1) (rx lg c t f a b) (by omega) (by omega)
      have := @rx_le lg c t f a b b'
      show rB lg c t a q (b + 1) (rx lg c t f a b) a ≤ _
      omega
theorem rB_ag {a : Int} (ha : dR a) : ∀ (q : Nat) (b : Int) (f g : Int → Int), 0 ≤ b → b + q = 6 → ag6 f g → ag6 (rB lg c t a q b f) (rB lg c t a q b g) := by
  intro q
  induction q with
  | zero => intro b f g _ _ h; exact h
  | succ q ih => intro b f g h0 h1 h; exact ih (b + 1) _ _ (by omega) (by omega) (rx_ag ha (by omega) h)
theorem rA_le : ∀ (q : Nat) (a : Int) (f : Int → Int) (x : Int), rA lg c t q a f x ≤ f x := by
  intro q
  induction q with
  | zero => intro b f x; exact Int.le_refl _
  | succ q ih => intro b f x; exact Int.le_trans (ih (b + 1) _ x) (rB_le 6 0 f x)
theorem rA_J (hL : lgOk lg c) : ∀ (q : Nat) (a : Int) (f : Int → Int), 0 ≤ a → a + q = 6 → wJ lg c t f → wJ lg c t (rA lg c t q a f) := by
  intro q
  induction q with
  | zero => intro b f _ _ h; exact h
  | succ q ih => intro b f h0 h1 h; exact ih (b + 1) _ (by omega) (by omega) (rB_J hL (by omega) 6 0 f (by omega) (by omega) h)
theorem rA_lo {D : Int → Int} (hD : ∀ a b, dR a → dR b → ¬ a = t → lk lg c a b → D a ≤ lg a b + c b + D b) : ∀ (q : Nat) (a : Int) (f : Int → Int), 0 ≤ a → a + q = 6 → (∀ x, dR x → D x ≤ f x) → ∀ x, dR x → D x ≤ rA lg c t q a f x := by
  intro q
  induction q with
  | zero => intro b f _ _ h; exact h
  | succ q ih => intro b f h0 h1 h; exact ih (b + 1) _ (by omega) (by omega) (rB_lo (by omega) hD 6 0 f (by omega) (by omega) h)
theorem rA_hi {a' b' : Int} (hb : dR b') (hat : ¬ a' = t) (hl : lk lg c a' b') : ∀ (q : Nat) (a : Int) (f : Int → Int), a ≤ a' → a' < a + q → rA lg c t q a f a' ≤ lg a' b' + c b' + f b' := by
  intro q
  induction q with
  | zero => intro b f h0 h1; exfalso; omega
  | succ q ih =>
    intro a f h0 h1
    by_cases e : a = a'
    · subst e
      exact Int.le_trans (rA_le q (a + 1) _ a) (rB_hi hat hl 6 0 f (by omega) (by omega))
    · have := ih (a + 1) (rB lg c t a 6 0 f) (by omega) (by omega)
      have := @rB_le lg c t a 6 0 f b'
      show rA lg c t q (a + 1) (rB lg c t a 6 0 f) a' ≤ _
      omega
theorem rA_ag : ∀ (q : Nat) (a : Int) (f g : Int → Int), 0 ≤ a → a + q = 6 → ag6 f g → ag6 (rA lg c t q a f) (rA lg c t q a g) := by
  intro q
  induction q with
  | zero => intro b f g _ _ h; exact h
  | succ q ih => intro b f g h0 h1 h; exact ih (b + 1) _ _ (by omega) (by omega) (rB_ag (by omega) 6 0 f g (by omega) (by omega) h)
theorem rT_s : ∀ (q : Nat) (f : Int → Int), rT lg c t (q + 1) f = rA lg c t 6 0 (rT lg c t q f) := by
  intro q
  induction q with
  | zero => intro f; rfl
  | succ q ih => intro f; exact ih (rA lg c t 6 0 f)
theorem rT_J (hL : lgOk lg c) : ∀ (q : Nat) (f : Int → Int), wJ lg c t f → wJ lg c t (rT lg c t q f) := by
  intro q
  induction q with
  | zero => intro f h; exact h
  | succ q ih => intro f h; exact ih _ (rA_J hL 6 0 f (by omega) (by omega) h)
theorem f0_J : wJ lg c t (f0 t) := by
  refine ⟨fun a ha => ?_, ?_, fun a ha hat => ?_⟩
  · unfold f0; split <;> omega
  · unfold f0; rw [if_pos rfl]
  · unfold f0; rw [if_neg hat]; exact Or.inl rfl
def s6 (f : Int → Int) : Int := f 0 + f 1 + f 2 + f 3 + f 4 + f 5
theorem dR_c {a : Int} (h : dR a) : a = 0 ∨ a = 1 ∨ a = 2 ∨ a = 3 ∨ a = 4 ∨ a = 5 := by omega
theorem fix_ex (hL : lgOk lg c) : ∀ (m : Nat) (f : Int → Int), wJ lg c t f → s6 f ≤ m → ∃ N, ag6 (rA lg c t 6 0 (rT lg c t N f)) (rT lg c t N f) := by
  intro m
  induction m with
  | zero =>
    intro f hJ hs
    refine ⟨0, fun x hx => ?_⟩
    have a1 := (rA_J (t := t) hL 6 0 f (by omega) (by omega) hJ).1
    have key : ∀ y, dR y → f y ≤ 0 := by
      intro y hy
      have q0 := (hJ.1 0 (by omega)).1
      have q1 := (hJ.1 1 (by omega)).1
      have q2 := (hJ.1 2 (by omega)).1
      have q3 := (hJ.1 3 (by omega)).1
      have q4 := (hJ.1 4 (by omega)).1
      have q5 := (hJ.1 5 (by omega)).1
      unfold s6 at hs
      rcases dR_c hy with rfl | rfl | rfl | rfl | rfl | rfl <;> omega
    have a2 := a1 x hx
    have a3 := @rA_le lg c t 6 0 f x
    have a4 := key x hx
    have a5 := hJ.1 x hx
    show rA lg c t 6 0 f x = f x
    omega
  | succ m ih =>
    intro f hJ hs
    by_cases hc : ag6 (rA lg c t 6 0 f) f
    · exact ⟨0, hc⟩
    · have hlt : s6 (rA lg c t 6 0 f) < s6 f := by
        have l0 := @rA_le lg c t 6 0 f 0
        have l1 := @rA_le lg c t 6 0 f 1
        have l2 := @rA_le lg c t 6 0 f 2
        have l3 := @rA_le lg c t 6 0 f 3
        have l4 := @rA_le lg c t 6 0 f 4
        have l5 := @rA_le lg c t 6 0 f 5
        refine Classical.byContradiction (fun hn => hc (fun x hx => ?_))
        unfold s6 at hn
        rcases dR_c hx with rfl | rfl | rfl | rfl | rfl | rfl <;> omega
      obtain ⟨N, hN⟩ := ih (rA lg c t 6 0 f) (rA_J hL 6 0 f (by omega) (by omega) hJ) (by omega)
      exact ⟨N + 1, hN⟩
def rk6 (D : Int → Int) (a : Int) : Nat := (if D 0 < D a then 1 else 0) + (if D 1 < D a then 1 else 0) + (if D 2 < D a then 1 else 0) + (if D 3 < D a then 1 else 0) + (if D 4 < D a then 1 else 0) + (if D 5 < D a then 1 else 0)
theorem b01 {p : Prop} [Decidable p] : (if p then 1 else 0 : Nat) ≤ 1 := by split <;> omega
theorem rk_5 {D : Int → Int} {a : Int} (ha : dR a) : rk6 D a ≤ 5 := by
  have h0 := @b01 (D 0 < D a) _
  have h1 := @b01 (D 1 < D a) _
  have h2 := @b01 (D 2 < D a) _
  have h3 := @b01 (D 3 < D a) _
  have h4 := @b01 (D 4 < D a) _
  have h5 := @b01 (D 5 < D a) _
  have z : ∀ x, x = a → (if D x < D a then 1 else 0 : Nat) = 0 := fun x e => by rw [e, if_neg (by omega)]
  unfold rk6
  rcases dR_c ha with e | e | e | e | e | e
  · rw [z 0 e.symm]; omega
  · rw [z 1 e.symm]; omega
  · rw [z 2 e.symm]; omega
  · rw [z 3 e.symm]; omega
  · rw [z 4 e.symm]; omega
  · rw [z 5 e.symm]; omega
theorem rk_lt {D : Int → Int} {a b : Int} (hb : dR b) (h : D b < D a) : rk6 D b < rk6 D a := by
  have m : ∀ x, (if D x < D b then 1 else 0 : Nat) ≤ (if D x < D a then 1 else 0 : Nat) := by
    intro x
    by_cases e : D x < D b
    · rw [if_pos e, if_pos (by omega)]; exact Nat.le_refl _
    · rw [if_neg e]; exact Nat.zero_le _
  have m0 := m 0
  have m1 := m 1
  have m2 := m 2
  have m3 := m 3
  have m4 := m 4
  have m5 := m 5
  have z : ∀ x, x = b → (if D x < D b then 1 else 0 : Nat) < (if D x < D a then 1 else 0 : Nat) := fun x e => by rw [e, if_neg (by omega), if_pos h]; decide
  unfold rk6
  rcases dR_c hb with e | e | e | e | e | e
  · have := z 0 e.symm; omega
  · have := z 1 e.symm; omega
  · have := z 2 e.symm; omega
  · have := z 3 e.symm; omega
  · have := z 4 e.symm; omega
  · have := z 5 e.symm; omega
/-- five rounds are enough -/
theorem five (hL : lgOk lg c) (ht : dR t) : ag6 (rT lg c t 6 (f0 t)) (rT lg c t 5 (f0 t)) ∧ ∀ a b, dR a → dR b → ¬ a = t → lk lg c a b → rT lg c t 5 (f0 t) a ≤ lg a b + c b + rT lg c t 5 (f0 t) b := by
  obtain ⟨N, hN⟩ := fix_ex (t := t) hL (s6 (f0 t)).toNat (f0 t) f0_J (by
    have : 0 ≤ s6 (f0 t) := by
      unfold s6
      have q := (f0_J (lg := lg) (c := c) (t := t)).1
      have q0 := (q 0 (by omega)).1
      have q1 := (q 1 (by omega)).1
      have q2 := (q 2 (by omega)).1
      have q3 := (q 3 (by omega)).1
      have q4 := (q 4 (by omega)).1
      have q5 := (q 5 (by omega)).1
      omega
    omega)
  have hJ := rT_J (t := t) hL N (f0 t) f0_J
  generalize hD : rT lg c t N (f0 t) = D at *
  have hfe : ∀ a b, dR a → dR b → ¬ a = t → lk lg c a b → D a ≤ lg a b + c b + D b := by
    intro a b ha hb hat hl
    rw [← hN a ha]
    exact rA_hi hb hat hl 6 0 D (by omega) (by omega)
  have hlo : ∀ (q : Nat), ∀ x, dR x → D x ≤ rT lg c t q (f0 t) x := by
    intro q
    induction q with
    | zero =>
      intro x hx
      show D x ≤ f0 t x
      have := hJ.1 x hx
      unfold f0
      split
      · rename_i e; rw [e]; rw [hJ.2.1]; omega
      · omega
    | succ q ih => rw [rT_s]; exact rA_lo hfe 6 0 _ (by omega) (by omega) ih
  have key : ∀ (q : Nat) (a : Int), dR a → rk6 D a ≤ q → rT lg c t q (f0 t) a = D a := by
    intro q
    induction q with
    | zero =>
      intro a ha hr
      have l := hlo 0 a ha
      have j := hJ.1 a ha
      have j0 := ((f0_J (lg := lg) (c := c) (t := t)).1 a ha).2
      show f0 t a = D a
      by_cases hat : a = t
      · rw [hat, hJ.2.1]; unfold f0; rw [if_pos rfl]
      · rcases hJ.2.2 a ha hat with h | ⟨b, hb, hl, hle⟩
        · have : D a ≤ f0 t a := l
          omega
        · have w := hL.2 b hb
          have : D b < D a := by have := hl.2.1; have := hl.2.2; omega
          have := rk_lt hb this
          omega
    | succ q ih =>
      intro a ha hr
      have l := hlo (q + 1) a ha
      have hq := rT_J (t := t) hL (q + 1) (f0 t) f0_J
      by_cases hat : a = t
      · rw [hat, hJ.2.1]; exact hq.2.1
      · rcases hJ.2.2 a ha hat with h | ⟨b, hb, hl, hle⟩
        · have := hq.1 a ha
          omega
        · have w := hL.2 b hb
          have hlt : D b < D a := by have := hl.2.1; have := hl.2.2; omega
          have := rk_lt hb hlt
          have hb2 := ih b hb (by omega)
          rw [rT_s]
          rw [rT_s] at l
          have := rA_hi hb hat hl 6 0 (rT lg c t q (f0 t)) (by omega) (by omega)
          omega
  have e5 : ∀ a, dR a → rT lg c t 5 (f0 t) a = D a := fun a ha => key 5 a ha (rk_5 ha)
  have e6 : ∀ a, dR a → rT lg c t 6 (f0 t) a = D a := fun a ha => key 6 a ha (Nat.le_succ_of_le (rk_5 ha))
  refine ⟨fun x hx => ?_, fun a b ha hb hat hl => ?_⟩
  · rw [e5 x hx, e6 x hx]
  · rw [e5 a ha, e5 b hb]; exact hfe a b ha hb hat hl
/-- the door that is next -/
def ldP (lg : Int → Int → Int) (c F : Int → Int) (a b : Int) : Prop := ¬ a = b ∧ 0 < lg a b ∧ ¬ c b = -1 ∧ F b < 1000000 ∧ F a = lg a b + c b + F b
noncomputable def fst6 (P : Int → Prop) : Nat → Int → Int
  | 0, b => b
  | q + 1, b => @ite Int (P b) (Classical.propDecidable _) b (fst6 P q (b + 1))
theorem fst6_y {P : Int → Prop} {q : Nat} {b : Int} (h : P b) : fst6 P (q + 1) b = b := by simp only [fst6]; rw [if_pos h]
theorem fst6_n {P : Int → Prop} {q : Nat} {b : Int} (h : ¬ P b) : fst6 P (q + 1) b = fst6 P q (b + 1) := by simp only [fst6]; rw [if_neg h]
theorem fst6_P {P : Int → Prop} : ∀ (q : Nat) (b : Int), (∃ x, b ≤ x ∧ x < b + q ∧ P x) → P (fst6 P q b) ∧ b ≤ fst6 P q b ∧ fst6 P q b < b + q := by
  intro q
  induction q with
  | zero => rintro b ⟨x, h1, h2, h3⟩; exfalso; omega
  | succ q ih =>
    rintro b ⟨x, h1, h2, h3⟩
    by_cases c : P b
    · rw [fst6_y c]; exact ⟨c, by omega, by omega⟩
    · rw [fst6_n c]
      have := ih (b + 1) ⟨x, by
        have : x ≠ b := fun e => c (e ▸ h3)
        omega, by omega, h3⟩
      exact ⟨this.1, by omega, by omega⟩
noncomputable def nxD (lg : Int → Int → Int) (c F : Int → Int) (a : Int) : Int := fst6 (ldP lg c F a) 6 0
theorem nx_ex (hL : lgOk lg c) (ht : dR t) {a : Int} (ha : dR a) (hat : ¬ a = t) (hF : rT lg c t 5 (f0 t) a < 1000000) : ∃ b, dR b ∧ ldP lg c (rT lg c t 5 (f0 t)) a b := by
  obtain ⟨-, h2⟩ := five hL ht
  have hJ := rT_J (t := t) hL 5 (f0 t) f0_J
  rcases hJ.2.2 a ha hat with h | ⟨b, hb, hl, hle⟩
  · omega
  · have w := hL.2 b hb
    have := h2 a b ha hb hat hl
    exact ⟨b, hb, hl.1, hl.2.1, hl.2.2, by have := hl.2.1; have := hl.2.2; omega, by omega⟩
theorem nx_in (hL : lgOk lg c) (ht : dR t) {a : Int} (ha : dR a) (hat : ¬ a = t) (hF : rT lg c t 5 (f0 t) a < 1000000) : dR (nxD lg c (rT lg c t 5 (f0 t)) a) ∧ ldP lg c (rT lg c t 5 (f0 t)) a (nxD lg c (rT lg c t 5 (f0 t)) a) ∧ rk6 (rT lg c t 5 (f0 t)) (nxD lg c (rT lg c t 5 (f0 t)) a) < rk6 (rT lg c t 5 (f0 t)) a := by
  obtain ⟨b, hb, h⟩ := nx_ex hL ht ha hat hF
  obtain ⟨h1, h2, h3⟩ := fst6_P (P := ldP lg c (rT lg c t 5 (f0 t)) a) 6 0 ⟨b, by omega, by omega, h⟩
  have hd : dR (nxD lg c (rT lg c t 5 (f0 t)) a) := ⟨h2, by have : nxD lg c (rT lg c t 5 (f0 t)) a < 0 + 6 := h3; omega⟩
  refine ⟨hd, h1, rk_lt hd ?_⟩
  obtain ⟨-, w1, w2, w3, w4⟩ : ldP lg c (rT lg c t 5 (f0 t)) a (nxD lg c (rT lg c t 5 (f0 t)) a) := h1
  have := hL.2 _ hd
  omega
noncomputable def pth (lg : Int → Int → Int) (c F : Int → Int) (t : Int) : Nat → Int → List Int
  | 0, d => [d]
  | q + 1, d => if d = t then [d] else d :: pth lg c F t q (nxD lg c F d)
end WY

