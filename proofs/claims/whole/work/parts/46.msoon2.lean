/-! ===== the sorted queue ===== -/
noncomputable def srt (bk : Int → Int) : Nat → Int → List Int
  | 0, _ => []
  | q + 1, p => @ite (List Int) (inQ bk p) (Classical.propDecidable _) (p :: srt bk q (p + 1)) (srt bk q (p + 1))
section SRT
variable {bk : Int → Int}
theorem srt_y {q : Nat} {p : Int} (h : inQ bk p) : srt bk (q + 1) p = p :: srt bk q (p + 1) := by simp only [srt]; rw [if_pos h]
theorem srt_n {q : Nat} {p : Int} (h : ¬ inQ bk p) : srt bk (q + 1) p = srt bk q (p + 1) := by simp only [srt]; rw [if_neg h]
theorem srt_mem : ∀ (q : Nat) (p v : Int), v ∈ srt bk q p ↔ (p ≤ v ∧ v < p + q) ∧ inQ bk v := by
  intro q
  induction q with
  | zero => intro p v; constructor
            · intro h; cases h
            · intro h; exfalso; omega
  | succ q ih =>
    intro p v
    have h2 := ih (p + 1) v
    by_cases c : inQ bk p
    · rw [srt_y c, List.mem_cons, h2]
      constructor
      · rintro (rfl | h)
        · exact ⟨by omega, c⟩
        · exact ⟨by omega, h.2⟩
      · intro h
        by_cases e : v = p
        · exact Or.inl e
        · exact Or.inr ⟨by omega, h.2⟩
    · rw [srt_n c, h2]
      constructor
      · intro h; exact ⟨by omega, h.2⟩
      · intro h
        have : v ≠ p := fun e => c (e ▸ h.2)
        exact ⟨by omega, h.2⟩
theorem srt_lt : ∀ (q : Nat) (p : Int), List.Pairwise (· < ·) (srt bk q p) := by
  intro q
  induction q with
  | zero => intro p; exact List.Pairwise.nil
  | succ q ih =>
    intro p
    by_cases c : inQ bk p
    · rw [srt_y c]
      refine List.pairwise_cons.mpr ⟨fun v hv => ?_, ih (p + 1)⟩
      have := ((srt_mem q (p + 1) v).mp hv).1
      omega
    · rw [srt_n c]; exact ih (p + 1)
theorem srt_nil : ∀ (q : Nat) (p : Int), (∀ v, p ≤ v → ¬ inQ bk v) → srt bk q p = [] := by
  intro q
  induction q with
  | zero => intro p _; rfl
  | succ q ih =>
    intro p h
    rw [srt_n (h p (by omega))]
    exact ih (p + 1) (fun v hv => h v (by omega))
theorem srt_cut {m : Int} (hm : ∀ v, m ≤ v → ¬ inQ bk v) : ∀ (q : Nat) (p : Int) (r : Nat), p + q = m → srt bk (q + r) p = srt bk q p := by
  intro q
  induction q with
  | zero => intro p r hp; rw [Nat.zero_add]; exact srt_nil r p (fun v hv => hm v (by omega))
  | succ q ih =>
    intro p r hp
    rw [show q + 1 + r = (q + r) + 1 by omega]
    by_cases c : inQ bk p
    · rw [srt_y c, srt_y c, ih (p + 1) r (by omega)]
    · rw [srt_n c, srt_n c, ih (p + 1) r (by omega)]
theorem nodup_sub : ∀ (A B : List Int), A.Nodup → (∀ v ∈ A, v ∈ B) → A.length ≤ B.length := by
  intro A
  induction A with
  | nil => intro B _ _; exact Nat.zero_le _
  | cons a A ih =>
    intro B hn hs
    obtain ⟨h1, h2⟩ := List.nodup_cons.mp hn
    have hb := hs a List.mem_cons_self
    have := ih (B.erase a) h2 (fun v hv => by
      have hne : v ≠ a := fun e => h1 (e ▸ hv)
      exact (List.mem_erase_of_ne hne).mpr (hs v (List.mem_cons_of_mem _ hv)))
    have hl := List.length_erase_of_mem hb
    have hpos : 0 < B.length := List.length_pos_of_mem hb
    simp only [List.length_cons]
    omega
theorem qL_mem (hI : Inv bk) (v : Int) : v ∈ qL bk (-1) ↔ inQ bk v := by
  have i2 := hI.1.2.2.1
  obtain ⟨q1, -⟩ := hI.2.2.2.2.2.2.1
  constructor
  · intro h
    obtain ⟨j, h1, h2, h3, -⟩ := qF_mem _ _ _ h
    exact ⟨j, h1, by omega, h3⟩
  · rintro ⟨j, h1, h2, h3⟩
    have key : ∀ (q : Nat) (k : Int), 0 ≤ k → k ≤ j → j < k + q → k + q ≤ bk 2 → v ∈ qF bk (-1) q k := by
      intro q
      induction q with
      | zero => intro k _ _ _ _; exfalso; omega
      | succ q ih =>
        intro k k0 k1 k2 k3
        have := q1 k k0 (by omega)
        simp only [qF]
        rw [if_neg (by omega)]
        by_cases e : k = j
        · rw [e, h3]; exact List.mem_cons_self
        · exact List.mem_cons_of_mem _ (ih (k + 1) (by omega) (by omega) (by omega) (by omega))
    exact key _ 0 (by omega) h1 (by omega) (by omega)
theorem inQ_lt (hI : Inv bk) {v : Int} (h : inQ bk v) : 0 ≤ v ∧ v < bk 0 := by
  obtain ⟨j, h1, h2, h3⟩ := h
  have := hI.2.2.2.2.2.2.1.1 j h1 h2
  omega
theorem srt_len (hI : Inv bk) : ((srt bk 8 0).length : Int) = bk 2 := by
  have i0 := hI.1.1
  have hq := qL_all hI
  have a := nodup_sub (srt bk 8 0) (qL bk (-1)) ((srt_lt 8 0).imp (fun h => by omega)) (fun v hv => (qL_mem hI v).mpr ((srt_mem 8 0 v).mp hv).2)
  have b := nodup_sub (qL bk (-1)) (srt bk 8 0) (qL_ok hI (-1)).1 (fun v hv => (srt_mem 8 0 v).mpr ⟨by have := inQ_lt hI ((qL_mem hI v).mp hv); omega, (qL_mem hI v).mp hv⟩)
  omega
theorem srt_8 (hI : Inv bk) : srt bk 8 0 = srt bk (bk 0).toNat 0 := by
  have i0 := hI.1.1
  have := srt_cut (bk := bk) (m := bk 0) (fun v hv hq => by have := inQ_lt hI hq; omega) (bk 0).toNat 0 (8 - (bk 0).toNat) (by omega)
  rw [← this]; congr 1; omega
noncomputable def sgm (bk : Int → Int) (i : Int) : Int := ((srt bk 8 0)[i.toNat]?).getD 0
theorem sgm_at {i : Int} (h0 : 0 ≤ i) (h1 : i < (srt bk 8 0).length) : ∃ hh : i.toNat < (srt bk 8 0).length, sgm bk i = (srt bk 8 0)[i.toNat] := by
  refine ⟨by omega, ?_⟩
  unfold sgm
  rw [List.getElem?_eq_getElem (by omega)]; rfl
theorem sgm_in (hI : Inv bk) {i : Int} (h0 : 0 ≤ i) (h1 : i < bk 2) : 0 ≤ sgm bk i ∧ sgm bk i < bk 0 := by
  have hl := srt_len hI
  obtain ⟨hh, e⟩ := sgm_at (bk := bk) h0 (by omega)
  have := (srt_mem 8 0 _).mp (List.getElem_mem hh)
  rw [e]
  exact inQ_lt hI this.2
theorem sgm_mono (hI : Inv bk) : ∀ i j, 0 ≤ i → i < j → j < bk 2 → sgm bk i < sgm bk j := by
  intro i j h0 h1 h2
  have hl := srt_len hI
  obtain ⟨ha, ea⟩ := sgm_at (bk := bk) h0 (by omega)
  obtain ⟨hb, eb⟩ := sgm_at (bk := bk) (i := j) (by omega) (by omega)
  rw [ea, eb]
  exact List.pairwise_iff_getElem.mp (srt_lt 8 0) _ _ ha hb (by omega)
theorem sgm_ar {f : Int → Int} (hI : Inv bk) (h : arL f 0 (srt bk 8 0)) (h6 : bk 2 ≤ 6) : rl (bk 2).toNat (sgm bk) (dec8 181896) f := by
  have hl := srt_len hI
  have i2 := hI.1.2.2.1
  refine ⟨fun i i0 i1 => ?_, fun i j i0 ij j1 => ?_⟩
  · rw [dec8_id i0 (by omega)]
    refine ⟨getL h i0 (by omega), by omega, by omega⟩
  · rw [dec8_id i0 (by omega), dec8_id (by omega) (by omega)]; omega
end SRT
theorem rowL_ar {σ π f : Int → Int} {N : Nat} (h : rl N σ π f) : arL f 0 (rowL σ π N) := by
  intro i v hv
  unfold rowL at hv
  rw [List.getElem?_map] at hv
  by_cases c : i < N
  · rw [List.getElem?_range c] at hv
    simp only [Option.map_some, Option.some.injEq] at hv
    rw [← hv, Int.zero_add]
    exact (h.1 i (by omega) (by omega)).1
  · rw [List.getElem?_eq_none (by simp; omega)] at hv
    cases hv
theorem rowL_len {σ π : Int → Int} {N : Nat} : (rowL σ π N).length = N := by unfold rowL; simp
theorem rowL_mem {σ π f : Int → Int} {N : Nat} (h : rl N σ π f) {a b : Int} (hs : ∀ i : Int, 0 ≤ i → i < (N : Int) → a ≤ σ i ∧ σ i < b) : ∀ y ∈ rowL σ π N, a ≤ y ∧ y < b := by
  intro y hy
  obtain ⟨i, hi, rfl⟩ := List.mem_map.mp hy
  have := h.1 i (by omega) (by have := List.mem_range.mp hi; omega)
  exact hs _ this.2.1 this.2.2
theorem rowL_nodup {σ π f : Int → Int} {N : Nat} (h : rl N σ π f) (hm : ∀ i j, 0 ≤ i → i < j → j < (N : Int) → σ i < σ j) : (rowL σ π N).Nodup := by
  unfold rowL List.Nodup
  rw [List.pairwise_map]
  refine List.Pairwise.imp_of_mem (fun {a b} ha hb hab => ?_) (List.pairwise_lt_range (n := N))
  have a1 := h.1 a (by omega) (by have := List.mem_range.mp ha; omega)
  have b1 := h.1 b (by omega) (by have := List.mem_range.mp hb; omega)
  have c := h.2 a b (by omega) (by omega) (by have := List.mem_range.mp hb; omega)
  have d := mono_lt hm a1.2 b1.2
  have d' := mono_lt hm b1.2 a1.2
  intro e
  rw [e] at d d'
  omega
noncomputable def soR (bk : Int → Int) : Int × List Int := soG (TB bk) (sgm bk) (bk 2).toNat 720 (dec8 181896) (-1) []
noncomputable def fSoonest (s : SS) (i : Int) : Int × SS := if i < -1 then (-10, s.bad) else if ¬ okB s.bk ∨ 6 < s.bk 2 then (-20, s.no) else if (soR s.bk).1 = -1 then (-20, s.no) else (if i = -1 then (soR s.bk).1 else if i < s.bk 2 then ((soR s.bk).2[i.toNat]?).getD 0 else -5, s)
theorem soG_in {bk σ : Int → Int} {N : Nat} (hN : N ≤ 8) : ∀ (q : Nat) (π : Int → Int) (l : Int) (b : List Int), (-1 ≤ l ∧ l ≤ 90) → (l ≠ -1 → b.length = N) → (-1 ≤ (soG (TB bk) σ N q π l b).1 ∧ (soG (TB bk) σ N q π l b).1 ≤ 90) ∧ ((soG (TB bk) σ N q π l b).1 ≠ -1 → (soG (TB bk) σ N q π l b).2.length = N) := by
  intro q
  induction q with
  | zero => intro π l b h1 h2; exact ⟨h1, h2⟩
  | succ q ih =>
    intro π l b h1 h2
    have hm := @minL_in bk (rowL σ π N) (by rw [rowL_len]; exact hN)
    simp only [soG]
    cases nxF N π with
    | none =>
      dsimp only
      split
      · exact ⟨⟨hm.1, hm.2.1⟩, fun _ => rowL_len⟩
      · exact ⟨h1, h2⟩
    | some π' =>
      dsimp only
      split
      · exact ih _ _ _ ⟨hm.1, hm.2.1⟩ (fun _ => rowL_len)
      · exact ih _ _ _ h1 h2

