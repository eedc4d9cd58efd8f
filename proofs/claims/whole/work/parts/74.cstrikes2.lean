/-! ===== the class: strikes ===== -/
theorem talk_bits2 {nm : Int → Int → Int → Int → Int} {its : List IT} {a b sk : Int} {bits ab : Nat} {ro : Int → Int} (hl : its.length ≤ 9) (hr : ∀ (j : Nat) (q : IT), its[j]? = some q → ro j = q.1) (hag : agRel ab its) (hok : itsOk its)
    (hb : ∀ j : Nat, j < 9 → (bits.testBit j = true ↔ (∃ q, its[j]? = some q ∧ ¬ nm q.2.2.1 q.2.2.2 a b = -1) ∧ bitI sk (j : Int) = 0)) (hsym : ∀ q ∈ its, nm q.2.2.1 q.2.2.2 a b = -1 ↔ nm q.2.2.1 q.2.2.2 b a = -1) :
    talkF nm (itOf its) its.length sk a b = if setG (fun k => lowJ (bits &&& askN ro k its.length)) (fun j => ab.testBit j) 9 1 = -1 then (-1, 9, -1) else
      (let k := setG (fun k => lowJ (bits &&& askN ro k its.length)) (fun j => ab.testBit j) 9 1
       let j := (lowJ (bits &&& askN ro k its.length)).getD 0
       (nm (itOf its (4 * (j : Int) + 2)) (itOf its (4 * (j : Int) + 3)) (if k % 2 = 1 then a else b) (if k % 2 = 1 then b else a), k, (j : Int))) := by
  unfold talkF
  refine talkG_set (g := fun k => lowJ (bits &&& askN ro k its.length)) (ag := fun j => ab.testBit j) (nm := fun k j => nm (itOf its (4 * (j : Int) + 2)) (itOf its (4 * (j : Int) + 3)) (if k % 2 = 1 then a else b) (if k % 2 = 1 then b else a)) ?_ 9 1 (by omega) (by omega)
  intro k hk1 hk9
  have hz : a + b - (if k % 2 = 1 then a else b) = (if k % 2 = 1 then b else a) := by split <;> omega
  unfold roundF
  rw [hz]
  have key : ∀ j : Nat, j < 9 → ((bits &&& askN ro k its.length).testBit j = true ↔ (j : Int) < its.length ∧ ¬ itemF nm (itOf its) sk k (if k % 2 = 1 then a else b) (if k % 2 = 1 then b else a) j = -1) := by
    intro j hj9
    rw [Nat.testBit_and, askN_bits, bitsN_bit]
    simp only [Bool.and_eq_true, decide_eq_true_eq]
    rw [hb j hj9]
    constructor
    · rintro ⟨⟨⟨q, hq, hn⟩, hz0⟩, hlt, hrk⟩
      refine ⟨by omega, ?_⟩
      obtain ⟨e0, e1, e2, e3⟩ := itOf_at hq
      unfold itemF
      rw [e0, e2, e3, if_pos ⟨by rw [← hr j q hq]; exact hrk, hz0⟩]
      split
      · exact hn
      · exact fun c => hn ((hsym q (List.mem_of_getElem? hq)).mpr c)
    · rintro ⟨hlt, hn⟩
      have hlt2 : j < its.length := by omega
      obtain ⟨q, hq⟩ : ∃ q, its[j]? = some q := ⟨its[j], List.getElem?_eq_getElem hlt2⟩
      obtain ⟨e0, e1, e2, e3⟩ := itOf_at hq
      unfold itemF at hn
      rw [e0, e2, e3] at hn
      by_cases hc : q.1 ≤ k ∧ bitI sk (j : Int) = 0
      · rw [if_pos hc] at hn
        refine ⟨⟨⟨q, hq, ?_⟩, hc.2⟩, hlt2, by rw [hr j q hq]; exact hc.1⟩
        split at hn
        · exact hn
        · exact fun c => hn ((hsym q (List.mem_of_getElem? hq)).mp c)
      · rw [if_neg hc] at hn
        exact absurd rfl hn
  have hsc := scanI_low key 9 0 (by omega) (fun j hj => by omega)
  rw [show ((0 : Nat) : Int) = 0 from rfl] at hsc
  rw [hsc, Option.map_map]
  cases hlo : lowJ (bits &&& askN ro k its.length) with
  | none => rfl
  | some j =>
    obtain ⟨s1, s2, s3⟩ := lowJ_spec hlo
    obtain ⟨klt, -⟩ := (key j s3).mp s1
    have hlt2 : j < its.length := by omega
    obtain ⟨q, hq⟩ : ∃ q, its[j]? = some q := ⟨its[j], List.getElem?_eq_getElem hlt2⟩
    obtain ⟨e0, e1, e2, e3⟩ := itOf_at hq
    rw [Nat.testBit_and, askN_bits, bitsN_bit] at s1
    simp only [Bool.and_eq_true, decide_eq_true_eq] at s1
    have hrk : q.1 ≤ k := by rw [← hr j q hq]; exact s1.2.2
    have hz0 := ((hb j s3).mp s1.1).2
    have hqk := hok q (List.mem_of_getElem? hq)
    simp only [Option.map_some, Function.comp, Option.some.injEq, Prod.mk.injEq]
    refine ⟨trivial, ?_, ?_⟩
    · unfold itemF
      rw [e0, if_pos ⟨hrk, hz0⟩]
    · rw [hag j, hq, e1]
      simp only [Option.map_some, Option.getD_some]
      rcases hqk.2.1 with e | e <;> rw [e] <;> decide
/-- whether two settle, by bits -/
theorem settle_iff {bk : Int → Int} {its : List IT} {a b sk : Int} {bits ab : Nat} {ro : Int → Int} (hI : Inv bk) (ha : 0 ≤ a ∧ a < 8) (hb8 : 0 ≤ b ∧ b < 8) (hab : a ≠ b) (hl : its.length ≤ 9) (hr : ∀ (j : Nat) (q : IT), its[j]? = some q → ro j = q.1) (hag : agRel ab its) (hok : itsOk its)
    (hb : ∀ j : Nat, j < 9 → (bits.testBit j = true ↔ (∃ q, its[j]? = some q ∧ ¬ nmB bk q.2.2.1 q.2.2.2 a b = -1) ∧ bitI sk (j : Int) = 0)) (hsym : ∀ q ∈ its, nmB bk q.2.2.1 q.2.2.2 a b = -1 ↔ nmB bk q.2.2.1 q.2.2.2 b a = -1) :
    (talkF (nmB bk) (itOf its) its.length sk a b).1 = -1 ↔ setG (fun k => lowJ (bits &&& askN ro k its.length)) (fun j => ab.testBit j) 9 1 = -1 := by
  have h1 := talk_bits2 (nm := nmB bk) (a := a) (b := b) (sk := sk) hl hr hag hok hb hsym
  have h2 := @TB_in bk (itOf its) its.length sk a b hI ha hb8 hab
  by_cases c : setG (fun k => lowJ (bits &&& askN ro k its.length)) (fun j => ab.testBit j) 9 1 = -1
  · rw [if_pos c] at h1
    rw [h1]
    exact ⟨fun _ => c, fun _ => rfl⟩
  · rw [if_neg c] at h1
    refine ⟨fun e => ?_, fun e => absurd e c⟩
    rcases h2 with h2 | h2
    · rw [h2] at h1
      have := congrArg (fun p : Int × Int × Int => p.2.2) h1
      simp at this
    · omega

