/-! ===== an abstract machine over the kit's rows: values are Ints, cells stand at a0 + k, a method is a row of a table ===== -/
abbrev AV : Type := Int ⊕ Int ⊕ Option Nat ⊕ Option Nat
def vI (i : Int) : AV := .inl i
def vJ (i : Int) : AV := .inr (.inl i)
def vR (k : Nat) : AV := .inr (.inr (.inl (some k)))
def vN : AV := .inr (.inr (.inl none))
def vO (k : Nat) : AV := .inr (.inr (.inr (some k)))
def vU : AV := .inr (.inr (.inr none))
/-- launch, the world's first address, the classes' numbers and slots, the array classes, the old cells -/
abbrev GT : Type := Launch × Nat × va_G × (Nat → ClassId) × (Nat → Option Nat)
def cv (G : GT) : AV → Value
  | .inl i => .int (Int32.ofInt i)
  | .inr (.inl i) => .long (Int64.ofInt i)
  | .inr (.inr (.inl (some k))) => .ref (G.2.1 + k)
  | .inr (.inr (.inl none)) => .null
  | .inr (.inr (.inr (some k))) => va_rf (G.2.2.2.2 k)
  | .inr (.inr (.inr none)) => .null
abbrev AE : Type := (Nat × Nat × (Int → Int)) ⊕ (Nat × List AV) ⊕ (Nat × (Int → Option Nat))
def aA (n : Nat) (f : Int → Int) : AE := .inl (0, n, f)
def aZ (n : Nat) (f : Int → Int) : AE := .inl (1, n, f)
def aO (ci : Nat) (fs : List AV) : AE := .inr (.inl (ci, fs))
def aW (n : Nat) (g : Int → Option Nat) : AE := .inr (.inr (n, g))
def cE (G : GT) : AE → va_E
  | .inl (t, n, f) => .inl (G.2.2.2.1 t, n, .inl (fun k => Int32.ofInt (f (k : Int))))
  | .inr (.inl (ci, fs)) => .inr (ci, fs.map (cv G))
  | .inr (.inr (n, g)) => .inl (G.2.2.2.1 2, n, .inr (.inr (.inr (.inr (fun k => (g (k : Int)).map (fun j => G.2.1 + j))))))
abbrev Hp : Type := Nat → Option AE
def cW (G : GT) (n : Nat) (h : Hp) : va_W := (List.range n).map (fun k => (G.2.1 + k, cE G ((h k).getD (aA 0 (fun _ => 0)))))
theorem cW_len (G : GT) (n : Nat) (h : Hp) : (cW G n h).length = n := by simp [cW]
theorem cW_get {G : GT} {n : Nat} {h : Hp} {k : Nat} {e : AE} (hk : k < n) (he : h k = some e) : (cW G n h)[k]? = some (G.2.1 + k, cE G e) := by
  simp [cW, hk, he]
theorem cW_inv {G : GT} {n : Nat} {h : Hp} {k : Nat} {q : Nat × va_E} (hq : (cW G n h)[k]? = some q) : k < n ∧ q.1 = G.2.1 + k := by
  have hk : k < n := by
    have := (List.getElem?_eq_some_iff.mp hq).1
    rwa [cW_len] at this
  refine ⟨hk, ?_⟩
  simp only [cW, List.getElem?_map, List.getElem?_range hk, Option.map_some, Option.some.injEq] at hq
  rw [← hq]
theorem cW_set {G : GT} {n : Nat} {h : Hp} {k : Nat} (e : AE) (hk : k < n) : (cW G n h).set k (G.2.1 + k, cE G e) = cW G n (va_up h k (some e)) := by
  apply List.ext_getElem?
  intro i
  by_cases hi : i = k
  · subst hi
    rw [cW_get (e := e) hk (by simp [va_up]), List.getElem?_set_self (by rw [cW_len]; exact hk)]
  · rw [List.getElem?_set_ne (fun q => hi q.symm)]
    by_cases hn : i < n
    · simp [cW, va_up, hi, hn]
    · simp [cW, hn]
theorem cW_push {G : GT} {n : Nat} {h : Hp} (e : AE) : cW G n h ++ [(G.2.1 + n, cE G e)] = cW G (n + 1) (va_up h n (some e)) := by
  simp only [cW, List.range_succ, List.map_append, List.map_cons, List.map_nil]
  congr 1
  · apply List.map_congr_left
    intro a ha
    have : a ≠ n := Nat.ne_of_lt (List.mem_range.mp ha)
    simp [va_up, this]
  · simp [va_up]
abbrev aAd (G : GT) : Nat → Prop := fun q => G.2.1 ≤ q
theorem cW_D (G : GT) (n : Nat) (h : Hp) : va_D (aAd G) (cW G n h) := by
  refine ⟨fun i j p q hi hj e => ?_, fun k q hk => ?_⟩
  · have := (cW_inv hi).2; have := (cW_inv hj).2; omega
  · have := (cW_inv hk).2; show G.2.1 ≤ q.1; omega
/-- a method: name, bytes, locals, what it gives back, frames, words, cells, slots -/
abbrev MT : Type := MethodName × ByteArray × Nat × Option FieldType × Nat × Nat × Nat × Nat
abbrev MT.nm (y : MT) : MethodName := y.1
abbrev MT.cd (y : MT) : ByteArray := y.2.1
abbrev MT.mL (y : MT) : Nat := y.2.2.1
abbrev MT.rt (y : MT) : Option FieldType := y.2.2.2.1
abbrev MT.fr (y : MT) : Nat := y.2.2.2.2.1
abbrev MT.lo (y : MT) : Nat := y.2.2.2.2.2.1
abbrev MT.mc (y : MT) : Nat := y.2.2.2.2.2.2.1
abbrev MT.ms (y : MT) : Nat := y.2.2.2.2.2.2.2
def rmOf (y : MT) : Room := { frames := y.fr, cells := y.mc, slots := y.ms, locals := y.lo }
abbrev tyL (G : GT) : List (ClassId × FieldType) := [(G.2.2.2.1 0, .int), (G.2.2.2.1 1, .boolean), (G.2.2.2.1 2, .object RX7)]
def okW : Cond → Bool
  | .methodLinkNest _ _ _ _ => true
  | w => goodWord w
def Tab (U : State) : Prop := ∀ w ∈ lw_tbl, okW w = true → w.before #[] U = true
theorem okW_cases {w : Cond} (h : okW w = true) : (∃ a i x n, w = .methodLinkNest a i x n) ∨ ((w.onTables && w.keeps) = true ∨ ∃ ty, w = .arrayClass ty) := by
  unfold okW at h
  split at h
  · exact Or.inl ⟨_, _, _, _, rfl⟩
  · exact Or.inr (good_of_word h)
theorem Tab.warm {s U : State} (hW : s.WarmedH U.vm) (h : Tab s) : Tab U := by
  intro w hw ho
  rcases okW_cases ho with ⟨a, i, x, n, rfl⟩ | hc
  · exact va_Nw.warmM hW (h _ hw ho)
  · exact word_at hW hc (h w hw ho)
theorem Tab.use {s : State} (h : Tab s) {w : Cond} (hw : w ∈ lw_tbl) (ho : okW w = true) (args : Array Value) : w.before args s = true := by
  rcases okW_cases ho with ⟨a, i, x, n, rfl⟩ | hc
  · exact va_Nw.use rfl (h _ hw ho)
  · exact word_at (State.WarmedH.refl s) hc (h w hw ho)
/-- a word of the tables that stays -/
def inT (w : Cond) : Prop := w ∈ lw_tbl ∧ okW w = true
theorem inT.at {w : Cond} (i : Nat) (h : (lw_tbl[i]? = some w ∧ okW w = true)) : inT w := ⟨List.mem_of_getElem? h.1, h.2⟩
theorem Tab.get {s : State} (h : Tab s) {w : Cond} (hw : inT w) {args : Array Value} : w.before args s = true := h.use hw.1 hw.2 args
def inTs (ws : List Cond) : Prop := ∀ w ∈ ws, inT w
theorem inTs.of {ws : List Cond} (h : ws.all (fun w => decide (w ∈ lw_tbl) && okW w) = true) : inTs ws := by
  intro w hw
  have h1 := List.all_eq_true.mp h w hw
  simp only [Bool.and_eq_true, decide_eq_true_eq] at h1
  exact h1
theorem Tab.gets {s : State} (h : Tab s) {ws : List Cond} (hw : inTs ws) {args : Array Value} : ∀ w ∈ ws, w.before args s = true := fun w hm => h.get (hw w hm)
/-- the old cells: the row of letters (24), the law's script (25, 26, 27 ..) -/
def ltV (j : Nat) : Value := .int (Int32.ofInt (ltW.getD j 0))
abbrev sAd (G : GT) (k : Nat) : Nat := (G.2.2.2.2 k).getD 0
/-- the law's script, if there is one: its cell, its length, its numbers -/
def scX (G : GT) (j : Nat) : Int32 := Int32.ofNat ((G.2.2.2.2 (27 + j)).getD 0)
def Scr (G : GT) (s : State) : Prop := ∀ b L : Nat, G.2.2.2.2 25 = some b → G.2.2.2.2 26 = some L → va_X b L (scX G) s s.heap ∧ b < s.heap.size ∧ ¬ aAd G b
def Olds (G : GT) (s : State) : Prop :=
  G.2.2.2.2 24 = some (sAd G 24) ∧ va_T .char (sAd G 24) 96 ltV (aAd G) s s.heap ∧ va_Z "AfterYou$Tokens" "LETTERS" "[C" (.ref (sAd G 24)) (aAd G) s s.heap ∧ va_AO RX7 s ∧ Scr G s
theorem Olds.go {G : GT} {s U : State} (hW : s.WarmedH U.vm) (hq : ∀ a : Nat, a < s.heap.size → ¬ aAd G a → U.heap[a]? = s.heap[a]?) (h : Olds G s) : Olds G U := by
  obtain ⟨h0, h1, h3, h5, h6⟩ := h
  refine ⟨h0, (h1.kept hq).moved hW.alike, (h3.kept hq).moved hW.alike, h5.moved hW.alike, fun b L e1 e2 => ?_⟩
  obtain ⟨k1, k2, k3⟩ := h6 b L e1 e2
  have e := hq b k2 k3
  obtain ⟨scr, m1, m2⟩ := id (va_X.kept (H1 := U.heap) k1 e)
  exact ⟨va_X.moved hW.alike ⟨scr, m1, m2⟩, (Array.getElem?_eq_some_iff.mp m1).1, k3⟩
/-- the locals by their places -/
def isU : AV → Bool
  | .inr (.inr (.inr none)) => true
  | _ => false
def isJ : AV → Bool
  | .inr (.inl _) => true
  | _ => false
def lvZ (G : GT) : Nat → List AV → List (Nat × Value)
  | _, [] => []
  | i, v :: L => if isU v then lvZ G (i + 1) L else (i, cv G v) :: lvZ G (i + 1) L
theorem lvZ_mem {G : GT} : ∀ (L : List AV) (k : Nat) (q : Nat × Value), q ∈ lvZ G k L ↔ ∃ i v, L[i]? = some v ∧ isU v = false ∧ q = (k + i, cv G v) := by
  intro L
  induction L with
  | nil => intro k q; simp [lvZ]
  | cons a L ih =>
    intro k q
    unfold lvZ
    constructor
    · intro h
      split at h
      · obtain ⟨i, v, h1, h2, h3⟩ := (ih (k + 1) q).mp h
        exact ⟨i + 1, v, by simpa using h1, h2, by rw [h3]; congr 1; omega⟩
      · rcases List.mem_cons.mp h with h | h
        · exact ⟨0, a, rfl, by simpa using ‹¬ isU a = true›, h⟩
        · obtain ⟨i, v, h1, h2, h3⟩ := (ih (k + 1) q).mp h
          exact ⟨i + 1, v, by simpa using h1, h2, by rw [h3]; congr 1; omega⟩
    · rintro ⟨i, v, h1, h2, h3⟩
      cases i with
      | zero =>
        simp only [List.getElem?_cons_zero, Option.some.injEq] at h1
        subst h1
        rw [if_neg (by rw [h2]; decide), h3]
        exact List.mem_cons_self
      | succ i =>
        have : q ∈ lvZ G (k + 1) L := (ih (k + 1) q).mpr ⟨i, v, by simpa using h1, h2, by rw [h3]; congr 1; omega⟩
        split
        · exact this
        · exact List.mem_cons_of_mem _ this
def lvc (G : GT) (LS : Array Slot) (n : Nat) (L : List AV) : Prop := lv_has LS n (lvZ G 0 L) ∧ L.length = n
theorem lvc.at {G : GT} {LS : Array Slot} {n : Nat} {L : List AV} (h : lvc G LS n L) {i : Nat} {v : AV} (hv : L[i]? = some v) (hu : isU v = false) : LS[i]? = some (.val (cv G v)) :=
  h.1.2.2 (i, cv G v) ((lvZ_mem L 0 _).mpr ⟨i, v, hv, hu, by simp⟩)
theorem cv_cat (G : GT) (v : AV) : (cv G v).category = if isJ v then 2 else 1 := by
  match v with
  | .inl i => rfl
  | .inr (.inl i) => rfl
  | .inr (.inr (.inl (some k))) => rfl
  | .inr (.inr (.inl none)) => rfl
  | .inr (.inr (.inr (some k))) =>
    show (va_rf (G.2.2.2.2 k)).category = 1
    cases G.2.2.2.2 k <;> rfl
  | .inr (.inr (.inr none)) => rfl
/-- a store into a place: what stands ahead of it isn't a long that goes on there -/
theorem lvc.st1 {G : GT} {LS LS' : Array Slot} {n : Nat} {pre post : List AV} {a v : AV} (h : lvc G LS n (pre ++ a :: post)) (hu : isU v = false) (hp : ∀ w, pre.getLast? = some w → isJ w = false)
    (h' : lv_has LS' n ((pre.length, cv G v) :: (lvZ G 0 (pre ++ a :: post)).filter (fun q => !(q.1 == pre.length) && !(q.1 + 1 == pre.length && q.2.category == 2)))) : lvc G LS' n (pre ++ v :: post) := by
  refine ⟨⟨h'.1, h'.2.1, fun q hq => h'.2.2 q ?_⟩, by rw [← h.2]; simp⟩
  obtain ⟨i, w, h1, h2, h3⟩ := (lvZ_mem _ 0 _).mp hq
  by_cases hi : i = pre.length
  · subst hi
    simp at h1
    subst h1
    rw [h3, Nat.zero_add]
    exact List.mem_cons_self
  · refine List.mem_cons_of_mem _ (List.mem_filter.mpr ⟨(lvZ_mem _ 0 _).mpr ⟨i, w, ?_, h2, h3⟩, ?_⟩)
    · rw [← h1]
      by_cases hl : i < pre.length
      · rw [List.getElem?_append_left hl, List.getElem?_append_left hl]
      · rw [List.getElem?_append_right (by omega), List.getElem?_append_right (by omega)]
        obtain ⟨j, hj⟩ : ∃ j, i - pre.length = j + 1 := ⟨i - pre.length - 1, by omega⟩
        rw [hj]
        simp
    · rw [h3]
      simp only [Nat.zero_add, Bool.and_eq_true, Bool.not_eq_true', Bool.and_eq_false_imp, beq_eq_false_iff_ne, beq_iff_eq, cv_cat]
      refine ⟨hi, fun e => ?_⟩
      have : isJ w = false := by
        apply hp
        rw [List.getLast?_eq_getElem?]
        rw [List.getElem?_append_left (by omega)] at h1
        rw [show pre.length - 1 = i by omega]
        exact h1
      rw [this]
      decide
theorem lvc.st2 {G : GT} {LS LS' : Array Slot} {n : Nat} {pre post : List AV} {a b v : AV} (h : lvc G LS n (pre ++ a :: b :: post)) (hu : isU v = false) (hp : ∀ w, pre.getLast? = some w → isJ w = false)
    (h' : lv_has LS' n ((pre.length, cv G v) :: (lvZ G 0 (pre ++ a :: b :: post)).filter (fun q => !(q.1 == pre.length) && (!(q.1 == pre.length + 1) && !(q.1 + 1 == pre.length && q.2.category == 2))))) : lvc G LS' n (pre ++ v :: vU :: post) := by
  refine ⟨⟨h'.1, h'.2.1, fun q hq => h'.2.2 q ?_⟩, by rw [← h.2]; simp⟩
  obtain ⟨i, w, h1, h2, h3⟩ := (lvZ_mem _ 0 _).mp hq
  by_cases hi : i = pre.length
  · subst hi
    simp at h1
    subst h1
    rw [h3, Nat.zero_add]
    exact List.mem_cons_self
  by_cases hi2 : i = pre.length + 1
  · subst hi2
    rw [List.getElem?_append_right (by omega)] at h1
    simp at h1
    subst h1
    cases h2
  · refine List.mem_cons_of_mem _ (List.mem_filter.mpr ⟨(lvZ_mem _ 0 _).mpr ⟨i, w, ?_, h2, h3⟩, ?_⟩)
    · rw [← h1]
      by_cases hl : i < pre.length
      · rw [List.getElem?_append_left hl, List.getElem?_append_left hl]
      · rw [List.getElem?_append_right (by omega), List.getElem?_append_right (by omega)]
        obtain ⟨j, hj⟩ : ∃ j, i - pre.length = j + 2 := ⟨i - pre.length - 2, by omega⟩
        rw [hj]
        simp
    · rw [h3]
      simp only [Nat.zero_add, Bool.and_eq_true, Bool.not_eq_true', Bool.and_eq_false_imp, beq_eq_false_iff_ne, beq_iff_eq, cv_cat]
      refine ⟨hi, hi2, fun e => ?_⟩
      have : isJ w = false := by
        apply hp
        rw [List.getLast?_eq_getElem?]
        rw [List.getElem?_append_left (by omega)] at h1
        rw [show pre.length - 1 = i by omega]
        exact h1
      rw [this]
      decide
/-- the arguments as locals -/
def ent : List AV → List AV
  | [] => []
  | v :: L => if isJ v then v :: vU :: ent L else v :: ent L
theorem ent_sl (G : GT) : ∀ L : List AV, (lg_sl (L.map (cv G))).length = (ent L).length := by
  intro L
  induction L with
  | nil => rfl
  | cons v L ih =>
    simp only [lg_sl, List.map_cons, List.flatMap_cons, List.length_append] at ih ⊢
    unfold ent
    rw [ih, cv_cat]
    cases isJ v <;> simp <;> omega
theorem ent_mem (G : GT) : ∀ (L : List AV) (k : Nat) (q : Nat × Value), q ∈ lvZ G k (ent L) → q ∈ lv_args k (L.map (cv G)) := by
  intro L
  induction L with
  | nil => intro k q h; cases h
  | cons v L ih =>
    intro k q h
    unfold ent at h
    simp only [List.map_cons, lv_args, cv_cat]
    cases hj : isJ v with
    | true =>
      rw [hj] at h
      simp only [if_true] at h ⊢
      have hu : isU v = false := by
        match v, hj with
        | .inr (.inl i), _ => rfl
      have e : lvZ G k (v :: vU :: ent L) = (k, cv G v) :: lvZ G (k + 1 + 1) (ent L) := by
        rw [lvZ, hu, lvZ, show isU vU = true from rfl]; simp
      rw [e] at h
      rcases List.mem_cons.mp h with h | h
      · rw [h]; exact List.mem_cons_self
      · exact List.mem_cons_of_mem _ (ih _ _ h)
    | false =>
      rw [hj] at h
      simp only [Bool.false_eq_true, if_false] at h ⊢
      rw [lvZ] at h
      split at h
      · exact List.mem_cons_of_mem _ (ih _ _ h)
      · rcases List.mem_cons.mp h with h | h
        · rw [h]; exact List.mem_cons_self
        · exact List.mem_cons_of_mem _ (ih _ _ h)
theorem lvZ_app_U (G : GT) (j : Nat) : ∀ (L : List AV) (k : Nat), lvZ G k (L ++ List.replicate j vU) = lvZ G k L := by
  intro L
  induction L with
  | nil =>
    induction j with
    | zero => intro k; rfl
    | succ j ih =>
      intro k
      have h := ih (k + 1)
      rw [List.nil_append] at h ⊢
      rw [List.replicate_succ]
      unfold lvZ
      rw [show isU vU = true from rfl]
      simpa [lvZ] using h
  | cons a L ih => intro k; simp only [List.cons_append, lvZ, ih]
theorem lvc_entry (G : GT) (L : List AV) (n : Nat) (h : (ent L).length ≤ n) : lvc G ((lg_sl (L.map (cv G)) ++ List.replicate (n - (lg_sl (L.map (cv G))).length) Slot.unset).toArray) n (ent L ++ List.replicate (n - (ent L).length) vU) := by
  refine ⟨?_, by simp; omega⟩
  have h1 := lv_entry (L.map (cv G)) (n := n) (by rw [ent_sl]; exact h)
  refine ⟨h1.1, h1.2.1, fun q hq => h1.2.2 q ?_⟩
  rw [lvZ_app_U] at hq
  exact ent_mem G L 0 q hq
