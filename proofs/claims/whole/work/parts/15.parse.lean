/-! ===== the book's text: tokens, items ===== -/
def adv (P : Int → Bool) (tx : Int → Int) (nt : Int) : Nat → Int → Int
  | 0, p => p
  | k + 1, p => if p < nt ∧ P (tx p) = true then adv P tx nt k (p + 1) else p
def advF (P : Int → Bool) (tx : Int → Int) (nt p : Int) : Int := adv P tx nt (nt - p).toNat p
theorem advF_go {P : Int → Bool} {tx : Int → Int} {nt p : Int} (h : p < nt) (hP : P (tx p) = true) : advF P tx nt p = advF P tx nt (p + 1) := by
  unfold advF
  rw [show (nt - p).toNat = (nt - (p + 1)).toNat + 1 by omega]
  simp only [adv]
  rw [if_pos ⟨h, hP⟩]
theorem advF_end {P : Int → Bool} {tx : Int → Int} {nt p : Int} (h : ¬ (p < nt ∧ P (tx p) = true)) : advF P tx nt p = p := by
  unfold advF
  cases hk : (nt - p).toNat with
  | zero => rfl
  | succ k => simp only [adv]; rw [if_neg h]
theorem adv_ge (P : Int → Bool) (tx : Int → Int) (nt : Int) : ∀ (k : Nat) (p : Int), p ≤ adv P tx nt k p ∧ adv P tx nt k p ≤ p + k := by
  intro k
  induction k with
  | zero => intro p; simp [adv]
  | succ k ih =>
    intro p
    simp only [adv]
    split
    · have := ih (p + 1); omega
    · omega
theorem advF_in {P : Int → Bool} {tx : Int → Int} {nt p : Int} (h : p ≤ nt) : p ≤ advF P tx nt p ∧ advF P tx nt p ≤ nt := by
  have := adv_ge P tx nt (nt - p).toNat p
  unfold advF
  omega
def pB : Int → Bool := fun c => decide (c = 32)
def pL : Int → Bool := fun c => decide (97 ≤ c ∧ c ≤ 122)
def pD : Int → Bool := fun c => decide (48 ≤ c ∧ c ≤ 57)
def seg (tx : Int → Int) (s : Int) (k : Nat) : List Int := (List.range k).map (fun i : Nat => tx (s + (i : Int)))
theorem seg_succ (tx : Int → Int) (s : Int) (k : Nat) : seg tx s (k + 1) = seg tx s k ++ [tx (s + (k : Int))] := by
  simp [seg, List.range_succ]
theorem seg_len (tx : Int → Int) (s : Int) (k : Nat) : (seg tx s k).length = k := by simp [seg]
def wL : List (List Int) := sWd.map (fun t => t.toList.map (fun c => (c.toNat : Int)))
def kindW (l : List Int) : Int := if wL.idxOf l < 12 then (wL.idxOf l : Nat) else 14
/-- where it begins, its kind (0 .. 9 courtesies, 10 from, 11 again, 12 a number, 13 ; 14 wrong 15 over), its worth, where the next one may begin -/
def tok (tx : Int → Int) (nt p : Int) : Int × Int × Int × Int :=
  let s := advF pB tx nt p
  if ¬ s < nt then (s, 15, 0, s)
  else if pL (tx s) = true then (s, kindW (seg tx s (advF pL tx nt s - s).toNat), 0, advF pL tx nt s)
  else if pD (tx s) = true then (s, if advF pD tx nt s - s ≤ 2 then 12 else 14, if advF pD tx nt s - s = 1 then tx s - 48 else 10 * (tx s - 48) + (tx (s + 1) - 48), advF pD tx nt s)
  else (s, if tx s = 59 then 13 else 14, 0, s + 1)
abbrev IT : Type := Int × Int × Int × Int
def stepA (k : Int) (cur : IT) : Option (Int × IT) :=
  if k = 11 then some (3, (cur.1, 1, cur.2.2.1, cur.2.2.2)) else if k < 10 then some (4, (cur.1, cur.2.1, k, cur.2.2.2)) else none
def stepC (k : Int) (cur : IT) : Option (Int × IT) := if k < 10 then some (4, (cur.1, cur.2.1, k, cur.2.2.2)) else none
/-- a token behind a stage -/
def pstep (stage k v : Int) (items : List IT) (cur : IT) : Option (Int × List IT × IT) :=
  if stage = 0 then
    (if 9 ≤ items.length then none else if k = 10 then some (1, items, (1, 0, 0, 1)) else (stepA k (1, 0, 0, 1)).map (fun q => (q.1, items, q.2)))
  else if stage = 1 then (if k = 12 ∧ 1 ≤ v ∧ v ≤ 9 then some (2, items, (v, cur.2.1, cur.2.2.1, cur.2.2.2)) else none)
  else if stage = 2 then (stepA k cur).map (fun q => (q.1, items, q.2))
  else if stage = 3 then (stepC k cur).map (fun q => (q.1, items, q.2))
  else if stage = 4 ∧ k = 12 then (if 1 ≤ v ∧ v ≤ 99 then some (5, items, (cur.1, cur.2.1, cur.2.2.1, v)) else none)
  else (if k = 13 then some (0, items ++ [cur], cur) else none)
def pm (tx : Int → Int) (nt : Int) : Nat → Int → Int → List IT → IT → Int × List IT
  | 0, _, _, items, _ => (-1, items)
  | f + 1, p, stage, items, cur =>
    if (tok tx nt p).2.1 = 15 then (if stage = 0 then -1 else nt, items)
    else match pstep stage (tok tx nt p).2.1 (tok tx nt p).2.2.1 items cur with
      | none => ((tok tx nt p).1, items)
      | some (st, its, cu) => pm tx nt f (tok tx nt p).2.2.2 st its cu
def parse (tx : Int → Int) (nt : Int) : Int × List IT := pm tx nt (nt.toNat + 1) 0 0 [] (1, 0, 0, 1)
/-- a word as one number -/
def enc (l : List Int) : Int := l.foldl (fun v c => 32 * v + c - 97 + 1) 0
theorem enc_app (l : List Int) (c : Int) : enc (l ++ [c]) = 32 * enc l + c - 97 + 1 := by simp [enc]
theorem rev_ind {P : List Int → Prop} (h0 : P []) (h1 : ∀ l c, P l → P (l ++ [c])) : ∀ l, P l := by
  have key : ∀ (k : Nat) (l : List Int), l.length = k → P l := by
    intro k
    induction k with
    | zero => intro l hl; rw [List.length_eq_zero_iff.mp hl]; exact h0
    | succ k ih =>
      intro l hl
      rcases List.eq_nil_or_concat l with rfl | ⟨l', a, rfl⟩
      · exact h0
      · rw [List.concat_eq_append] at hl ⊢
        refine h1 l' a (ih l' ?_)
        simp at hl
        omega
  exact fun l => key _ l rfl
theorem enc_in : ∀ l : List Int, (∀ c ∈ l, 97 ≤ c ∧ c ≤ 122) → 0 ≤ enc l ∧ enc l < (32 : Int) ^ l.length := by
  apply rev_ind
  · intro _; simp [enc]
  · intro l c ih h
    have h1 := ih (fun x hx => h x (List.mem_append_left _ hx))
    have h2 := h c (by simp)
    rw [enc_app, List.length_append, List.length_singleton, Int.pow_succ]
    omega
theorem enc_inj : ∀ l : List Int, ∀ m : List Int, (∀ c ∈ l, 97 ≤ c ∧ c ≤ 122) → (∀ c ∈ m, 97 ≤ c ∧ c ≤ 122) → enc l = enc m → l = m := by
  apply rev_ind
  · intro m _ hm he
    rcases List.eq_nil_or_concat m with rfl | ⟨m', c, rfl⟩
    · rfl
    · rw [List.concat_eq_append] at hm he ⊢
      have h1 := enc_in m' (fun x hx => hm x (by simp [hx]))
      have h2 := hm c (by simp)
      rw [enc_app] at he
      have : enc [] = 0 := rfl
      omega
  · intro l d ih m hl hm he
    rcases List.eq_nil_or_concat m with rfl | ⟨m', c, rfl⟩
    · have h1 := enc_in l (fun x hx => hl x (List.mem_append_left _ hx))
      have h2 := hl d (by simp)
      rw [enc_app] at he
      have : enc [] = 0 := rfl
      omega
    · rw [List.concat_eq_append] at hm he ⊢
      have h1 := enc_in m' (fun x hx => hm x (by simp [hx]))
      have h2 := hm c (by simp)
      have h3 := enc_in l (fun x hx => hl x (List.mem_append_left _ hx))
      have h4 := hl d (by simp)
      rw [enc_app, enc_app] at he
      have e1 : enc l = enc m' := by omega
      have e2 : d = c := by omega
      rw [ih m' (fun x hx => hl x (List.mem_append_left _ hx)) (fun x hx => hm x (by simp [hx])) e1, e2]
/-- the model's word numbers -/
def kindV (v : Int) : Int := if v = 16126130 then 0 else if v = 27369348274 then 1 else if v = 12619950 then 2 else if v = 23030960302 then 3 else if v = 278110386 then 4 else if v = 13098162 then 5 else if v = 515236 then 6 else if v = 677454 then 7 else if v = 6605428 then 8 else if v = 642891204 then 9 else if v = 215533 then 10 else if v = 1279278 then 11 else 14
theorem wL_enc : wL.map enc = [16126130, 27369348274, 12619950, 23030960302, 278110386, 13098162, 515236, 677454, 6605428, 642891204, 215533, 1279278] := by decide +kernel
theorem wL_ok : ∀ l ∈ wL, ∀ c ∈ l, 97 ≤ c ∧ c ≤ 122 := by decide +kernel
theorem idx_enc {l : List Int} (hl : ∀ c ∈ l, 97 ≤ c ∧ c ≤ 122) : ∀ ws : List (List Int), (∀ w ∈ ws, ∀ c ∈ w, 97 ≤ c ∧ c ≤ 122) → ws.idxOf l = (ws.map enc).idxOf (enc l) := by
  intro ws
  induction ws with
  | nil => intro _; rfl
  | cons w ws ih =>
    intro hw
    have h1 := ih (fun x hx => hw x (List.mem_cons_of_mem _ hx))
    rw [List.map_cons, List.idxOf_cons, List.idxOf_cons, h1]
    by_cases e : w = l
    · subst e; simp
    · have : enc w ≠ enc l := fun q => e (enc_inj w l (hw w List.mem_cons_self) hl q)
      have e1 : (w == l) = false := by simpa using e
      have e2 : (enc w == enc l) = false := by simpa using this
      rw [e1, e2]
theorem kindV_enc {l : List Int} (hl : ∀ c ∈ l, 97 ≤ c ∧ c ≤ 122) : kindV (enc l) = kindW l := by
  unfold kindW
  rw [idx_enc hl wL wL_ok, wL_enc]
  generalize enc l = v
  by_cases h0 : v = 16126130
  · subst h0; decide +kernel
  by_cases h1 : v = 27369348274
  · subst h1; decide +kernel
  by_cases h2 : v = 12619950
  · subst h2; decide +kernel
  by_cases h3 : v = 23030960302
  · subst h3; decide +kernel
  by_cases h4 : v = 278110386
  · subst h4; decide +kernel
  by_cases h5 : v = 13098162
  · subst h5; decide +kernel
  by_cases h6 : v = 515236
  · subst h6; decide +kernel
  by_cases h7 : v = 677454
  · subst h7; decide +kernel
  by_cases h8 : v = 6605428
  · subst h8; decide +kernel
  by_cases h9 : v = 642891204
  · subst h9; decide +kernel
  by_cases h10 : v = 215533
  · subst h10; decide +kernel
  by_cases h11 : v = 1279278
  · subst h11; decide +kernel
  rw [List.idxOf_eq_length (by simp only [List.mem_cons, List.not_mem_nil, or_false, not_or]; omega)]
  unfold kindV
  simp only [h0, h1, h2, h3, h4, h5, h6, h7, h8, h9, h10, h11, if_false]
  rfl

