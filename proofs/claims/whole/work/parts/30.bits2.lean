/-! ===== a talk by bits is a talk ===== -/
theorem lowJ_some {v j : Nat} (h1 : v.testBit j = true) (h2 : ∀ i, i < j → v.testBit i = false) (hj : j < 9) : lowJ v = some j := by
  unfold lowJ
  rw [List.find?_range_eq_some]
  exact ⟨h1, List.mem_range.mpr hj, fun i hi => by simp [h2 i hi]⟩
theorem lowJ_none {v : Nat} (h : ∀ i, i < 9 → v.testBit i = false) : lowJ v = none := by
  unfold lowJ
  rw [List.find?_eq_none]
  intro x hx
  simp [h x (List.mem_range.mp hx)]
theorem lowJ_spec {v j : Nat} (h : lowJ v = some j) : v.testBit j = true ∧ (∀ i, i < j → v.testBit i = false) ∧ j < 9 := by
  unfold lowJ at h
  rw [List.find?_range_eq_some] at h
  refine ⟨h.1, fun i hi => by simpa using h.2.2 i hi, List.mem_range.mp h.2.1⟩
theorem lowJ_nspec {v : Nat} (h : lowJ v = none) : ∀ i, i < 9 → v.testBit i = false := by
  unfold lowJ at h
  rw [List.find?_eq_none] at h
  intro i hi
  simpa using h i (List.mem_range.mpr hi)
theorem scanI_low {many : Int} {f : Int → Int} {v : Nat} (h : ∀ j : Nat, j < 9 → (v.testBit j = true ↔ (j : Int) < many ∧ ¬ f j = -1)) : ∀ (q : Nat) (i : Nat), i + q = 9 → (∀ j, j < i → v.testBit j = false) → scanI many f q i = (lowJ v).map (fun j : Nat => (j : Int)) := by
  intro q
  induction q with
  | zero =>
    intro i hi hj
    rw [lowJ_none (fun j h9 => hj j (by omega))]
    rfl
  | succ q ih =>
    intro i hi hj
    have h1 := h i (by omega)
    by_cases hb : v.testBit i = true
    · obtain ⟨a, b⟩ := h1.mp hb
      rw [scanI_hit a b, lowJ_some hb hj (by omega)]
      rfl
    · have hbf : v.testBit i = false := by simpa using hb
      have hext : ∀ j, j < i + 1 → v.testBit j = false := by
        intro j hj2
        by_cases e : j = i
        · rw [e]; exact hbf
        · exact hj j (by omega)
      by_cases hm : (i : Int) < many
      · have hf : f i = -1 := by
          by_cases e : f i = -1
          · exact e
          · exact absurd (h1.mpr ⟨hm, e⟩) hb
        rw [scanI_skip hm hf]
        have := ih (i + 1) (by omega) hext
        rw [← this]
        congr 1
      · have : lowJ v = none := lowJ_none (fun j h9 => by
          by_cases hji : j < i
          · exact hj j hji
          · have h2 := h j h9
            by_cases e : v.testBit j = true
            · have := h2.mp e; omega
            · simpa using e)
        rw [this]
        simp only [scanI, if_neg hm, Option.map_none]
/-- the round in which one goes -/
def setG (g : Int → Option Nat) (ag : Nat → Bool) : Nat → Int → Int
  | 0, _ => -1
  | q + 1, k => match g k with
    | some j => if ag j = true then setG g ag q (k + 1) else k
    | none => setG g ag q (k + 1)
theorem setG_in (g : Int → Option Nat) (ag : Nat → Bool) : ∀ (q : Nat) (k : Int), setG g ag q k = -1 ∨ (k ≤ setG g ag q k ∧ setG g ag q k < k + q ∧ ∃ j, g (setG g ag q k) = some j ∧ ag j = false) := by
  intro q
  induction q with
  | zero => intro k; exact Or.inl rfl
  | succ q ih =>
    intro k
    have h1 := ih (k + 1)
    simp only [setG]
    split
    · rename_i j hj
      split
      · rcases h1 with h1 | ⟨a, b, c⟩
        · exact Or.inl h1
        · exact Or.inr ⟨by omega, by omega, c⟩
      · rename_i hag
        exact Or.inr ⟨by omega, by omega, j, hj, by simpa using hag⟩
    · rcases h1 with h1 | ⟨a, b, c⟩
      · exact Or.inl h1
      · exact Or.inr ⟨by omega, by omega, c⟩
theorem setG_n {g : Int → Option Nat} {ag : Nat → Bool} {q : Nat} {k : Int} (h : g k = none) : setG g ag (q + 1) k = setG g ag q (k + 1) := by
  simp only [setG, h]
theorem setG_t {g : Int → Option Nat} {ag : Nat → Bool} {q j : Nat} {k : Int} (h : g k = some j) (ha : ag j = true) : setG g ag (q + 1) k = setG g ag q (k + 1) := by
  simp only [setG, h, ha, if_true]
theorem setG_f {g : Int → Option Nat} {ag : Nat → Bool} {q j : Nat} {k : Int} (h : g k = some j) (ha : ag j = false) : setG g ag (q + 1) k = k := by
  simp only [setG, h, ha, Bool.false_eq_true, if_false]
theorem talkG_set {S : Int → Option (Int × Int × Bool)} {g : Int → Option Nat} {ag : Nat → Bool} {nm : Int → Nat → Int} (hS : ∀ k, 1 ≤ k → k ≤ 9 → S k = (g k).map (fun j : Nat => ((j : Int), nm k j, ag j))) : ∀ (q : Nat) (k : Int), 1 ≤ k → k + q = 10 →
    talkG S q k = if setG g ag q k = -1 then (-1, 9, -1) else (nm (setG g ag q k) ((g (setG g ag q k)).getD 0), setG g ag q k, (((g (setG g ag q k)).getD 0 : Nat) : Int)) := by
  intro q
  induction q with
  | zero => intro k _ _; rfl
  | succ q ih =>
    intro k hk hq
    have h1 := hS k hk (by omega)
    have h2 := ih (k + 1) (by omega) (by omega)
    rcases hg : g k with _ | j
    · rw [hg] at h1
      rw [setG_n hg, ← h2]
      simp only [talkG, h1, Option.map_none]
    · rw [hg] at h1
      cases ha : ag j with
      | true =>
        rw [setG_t hg ha, ← h2]
        simp only [talkG, h1, Option.map_some, ha]
      | false =>
        rw [setG_f hg ha, if_neg (by omega), hg]
        simp only [talkG, h1, Option.map_some, ha]
        rfl
/-- items as a row of numbers -/
def itOf (its : List IT) (i : Int) : Int := if i % 4 = 0 then (its.getD (i / 4).toNat (0, 0, 0, 0)).1 else if i % 4 = 1 then (its.getD (i / 4).toNat (0, 0, 0, 0)).2.1 else if i % 4 = 2 then (its.getD (i / 4).toNat (0, 0, 0, 0)).2.2.1 else (its.getD (i / 4).toNat (0, 0, 0, 0)).2.2.2
theorem itOf_at {its : List IT} {j : Nat} {q : IT} (h : its[j]? = some q) : itOf its (4 * (j : Int)) = q.1 ∧ itOf its (4 * (j : Int) + 1) = q.2.1 ∧ itOf its (4 * (j : Int) + 2) = q.2.2.1 ∧ itOf its (4 * (j : Int) + 3) = q.2.2.2 := by
  have hg : its.getD j (0, 0, 0, 0) = q := by rw [List.getD_eq_getElem?_getD, h]; rfl
  refine ⟨?_, ?_, ?_, ?_⟩
  · unfold itOf; rw [if_pos (by omega), show (4 * (j : Int) / 4).toNat = j by omega, hg]
  · unfold itOf; rw [if_neg (by omega), if_pos (by omega), show ((4 * (j : Int) + 1) / 4).toNat = j by omega, hg]
  · unfold itOf; rw [if_neg (by omega), if_neg (by omega), if_pos (by omega), show ((4 * (j : Int) + 2) / 4).toNat = j by omega, hg]
  · unfold itOf; rw [if_neg (by omega), if_neg (by omega), if_neg (by omega), show ((4 * (j : Int) + 3) / 4).toNat = j by omega, hg]
def itsOk (its : List IT) : Prop := ∀ q ∈ its, (1 ≤ q.1 ∧ q.1 ≤ 9) ∧ (q.2.1 = 0 ∨ q.2.1 = 1) ∧ (0 ≤ q.2.2.1 ∧ q.2.2.1 ≤ 9) ∧ (1 ≤ q.2.2.2 ∧ q.2.2.2 ≤ 99)
theorem bitI_0 (j : Int) : bitI 0 j = 0 := by unfold bitI; simp
/-- the class's way to hold a talk, over items: bits that name, the first of those asked -/
theorem talk_bits {nm : Int → Int → Int → Int → Int} {its : List IT} {a b : Int} {bits ab : Nat} {ro : Int → Int} (hl : its.length ≤ 9) (hr : ∀ (j : Nat) (q : IT), its[j]? = some q → ro j = q.1) (hag : agRel ab its) (hok : itsOk its)
    (hb : ∀ j : Nat, bits.testBit j = true ↔ ∃ q, its[j]? = some q ∧ ¬ nm q.2.2.1 q.2.2.2 a b = -1) (hsym : ∀ q ∈ its, nm q.2.2.1 q.2.2.2 a b = -1 ↔ nm q.2.2.1 q.2.2.2 b a = -1) :
    talkF nm (itOf its) its.length 0 a b = if setG (fun k => lowJ (bits &&& askN ro k its.length)) (fun j => ab.testBit j) 9 1 = -1 then (-1, 9, -1) else
      (let k := setG (fun k => lowJ (bits &&& askN ro k its.length)) (fun j => ab.testBit j) 9 1
       let j := (lowJ (bits &&& askN ro k its.length)).getD 0
       (nm (itOf its (4 * (j : Int) + 2)) (itOf its (4 * (j : Int) + 3)) (if k % 2 = 1 then a else b) (if k % 2 = 1 then b else a), k, (j : Int))) := by
  unfold talkF
  refine talkG_set (g := fun k => lowJ (bits &&& askN ro k its.length)) (ag := fun j => ab.testBit j) (nm := fun k j => nm (itOf its (4 * (j : Int) + 2)) (itOf its (4 * (j : Int) + 3)) (if k % 2 = 1 then a else b) (if k % 2 = 1 then b else a)) ?_ 9 1 (by omega) (by omega)
  intro k hk1 hk9
  have hz : a + b - (if k % 2 = 1 then a else b) = (if k % 2 = 1 then b else a) := by split <;> omega
  unfold roundF
  rw [hz]
  have key : ∀ j : Nat, j < 9 → ((bits &&& askN ro k its.length).testBit j = true ↔ (j : Int) < its.length ∧ ¬ itemF nm (itOf its) 0 k (if k % 2 = 1 then a else b) (if k % 2 = 1 then b else a) j = -1) := by
    intro j hj9
    rw [Nat.testBit_and, askN_bits, bitsN_bit]
    simp only [Bool.and_eq_true, decide_eq_true_eq]
    rw [hb j]
    constructor
    · rintro ⟨⟨q, hq, hn⟩, hlt, hrk⟩
      refine ⟨by omega, ?_⟩
      obtain ⟨e0, e1, e2, e3⟩ := itOf_at hq
      unfold itemF
      rw [e0, e2, e3, if_pos ⟨by rw [← hr j q hq]; exact hrk, bitI_0 _⟩]
      split
      · exact hn
      · exact fun c => hn ((hsym q (List.mem_of_getElem? hq)).mpr c)
    · rintro ⟨hlt, hn⟩
      have hlt2 : j < its.length := by omega
      obtain ⟨q, hq⟩ : ∃ q, its[j]? = some q := ⟨its[j], List.getElem?_eq_getElem hlt2⟩
      obtain ⟨e0, e1, e2, e3⟩ := itOf_at hq
      unfold itemF at hn
      rw [e0, e2, e3] at hn
      by_cases hc : q.1 ≤ k ∧ bitI 0 (j : Int) = 0
      · rw [if_pos hc] at hn
        refine ⟨⟨q, hq, ?_⟩, hlt2, by rw [hr j q hq]; exact hc.1⟩
        split at hn
        · exact hn
        · exact fun c => hn ((hsym q (List.mem_of_getElem? hq)).mp c)
      · rw [if_neg hc] at hn
        exact absurd rfl hn
  have hsc := scanI_low key 9 0 (by omega) (fun j hj => by omega)
  rw [show ((0 : Nat) : Int) = 0 from rfl] at hsc
  rw [hsc, Option.map_map]
  cases hlo : lowJ (bits &&& askN ro k its.length) with
  | none => rfl
  | some j =>
    obtain ⟨s1, s2, s3⟩ := lowJ_spec hlo
    obtain ⟨klt, -⟩ := (key j s3).mp s1
    have hlt2 : j < its.length := by omega
    obtain ⟨q, hq⟩ : ∃ q, its[j]? = some q := ⟨its[j], List.getElem?_eq_getElem hlt2⟩
    obtain ⟨e0, e1, e2, e3⟩ := itOf_at hq
    have hrk : q.1 ≤ k := by
      rw [Nat.testBit_and, askN_bits, bitsN_bit] at s1
      simp only [Bool.and_eq_true, decide_eq_true_eq] at s1
      rw [← hr j q hq]; exact s1.2.2
    have hqk := hok q (List.mem_of_getElem? hq)
    simp only [Option.map_some, Function.comp, Option.some.injEq, Prod.mk.injEq]
    refine ⟨trivial, ?_, ?_⟩
    · unfold itemF
      rw [e0, if_pos ⟨hrk, bitI_0 _⟩]
    · rw [hag j, hq, e1]
      simp only [Option.map_some, Option.getD_some]
      rcases hqk.2.1 with e | e <;> rw [e] <;> decide

