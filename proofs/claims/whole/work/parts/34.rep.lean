/-! ===== the class's world beside the reference's book ===== -/
/-- what always holds of the book -/
def Inv (bk : Int → Int) : Prop := ((0 ≤ bk 0 ∧ bk 0 ≤ 8) ∧ (0 ≤ bk 1 ∧ bk 1 ≤ 160) ∧ (0 ≤ bk 2 ∧ bk 2 ≤ 8) ∧ (0 ≤ bk 3 ∧ bk 3 ≤ 16)) ∧ Bd bk (-1) 255 ∧
  (∀ i, 0 ≤ i → i < 8 → (0 ≤ bk (4 + 4 * i) ∧ bk (4 + 4 * i) ≤ 5) ∧ (0 ≤ bk (4 + 4 * i + 1) ∧ bk (4 + 4 * i + 1) ≤ 99) ∧ (0 ≤ bk (4 + 4 * i + 2) ∧ bk (4 + 4 * i + 2) ≤ 9) ∧ (0 ≤ bk (4 + 4 * i + 3) ∧ bk (4 + 4 * i + 3) ≤ 9)) ∧
  (∀ i, 0 ≤ i → i < 64 → 0 ≤ bk (36 + i) ∧ bk (36 + i) ≤ 99) ∧
  (∀ a b, 0 ≤ a → a < b → b < 8 → bk (100 + (8 * a + b)) = -1 ∨ bk (100 + (8 * a + b)) = a ∨ bk (100 + (8 * a + b)) = b) ∧
  (∀ i, 0 ≤ i → i < 160 → 0 ≤ bk (264 + i)) ∧
  ((∀ i, 0 ≤ i → i < bk 2 → 0 ≤ bk (164 + i) ∧ bk (164 + i) < bk 0) ∧ (∀ i j, 0 ≤ i → i < j → j < bk 2 → bk (164 + i) ≠ bk (164 + j))) ∧
  (∀ d, 0 ≤ d → d < 6 → bk (172 + d) = -1 ∨ (0 ≤ bk (172 + d) ∧ bk (172 + d) < bk 0)) ∧
  (∀ a b, 0 ≤ a → a < 6 → 0 ≤ b → b < 6 → (0 ≤ bk (180 + 6 * a + b) ∧ bk (180 + 6 * a + b) ≤ 99) ∧ bk (180 + 6 * a + b) = bk (180 + 6 * b + a) ∧ (a = b → bk (180 + 6 * a + b) = 0)) ∧
  (∀ k, 0 ≤ k → k < bk 3 → (0 ≤ bk (216 + 3 * k) ∧ bk (216 + 3 * k) < bk 0) ∧ (0 ≤ bk (216 + 3 * k + 1) ∧ bk (216 + 3 * k + 1) < bk 0) ∧ bk (216 + 3 * k) ≠ bk (216 + 3 * k + 1) ∧ (bk (216 + 3 * k + 2) = bk (216 + 3 * k) ∨ bk (216 + 3 * k + 2) = bk (216 + 3 * k + 1)))
def RP (bk kd ag ld rk : Int → Int) : Prop := ∀ i, 0 ≤ i → i < 8 → kd i = bk (4 + 4 * i) ∧ ag i = bk (4 + 4 * i + 1) ∧ ld i = bk (4 + 4 * i + 2) ∧ rk i = bk (4 + 4 * i + 3)
def RO (bk ow la : Int → Int) : Prop := (∀ i, 0 ≤ i → i < 64 → ow i = bk (36 + i)) ∧ ∀ a b, 0 ≤ a → a < b → b < 8 → la (a * 8 + b) = bk (100 + (8 * a + b)) ∧ la (b * 8 + a) = bk (100 + (8 * a + b))
def REq (f bk : Int → Int) (off len : Int) : Prop := ∀ i, 0 ≤ i → i < len → f i = bk (off + i)
def isW (h : Hp) (w : Nat) (bk : Int → Int) : Prop := ∃ kd ag ld rk ow la tx qu wa lg ev : Int → Int,
  h w = some (aO 7 [vR (w + 1), vR (w + 6), vR (w + 9), vI (bk 1), vR (w + 10), vI (bk 2), vR (w + 11), vR (w + 12), vR (w + 13), vI (bk 3)]) ∧ isP h (w + 1) (bk 0) kd ag ld rk ∧ isB h (w + 6) ow la ∧
  h (w + 9) = some (aA 160 tx) ∧ h (w + 10) = some (aA 8 qu) ∧ h (w + 11) = some (aA 6 wa) ∧ h (w + 12) = some (aA 36 lg) ∧ h (w + 13) = some (aA 48 ev) ∧
  ((Bd kd 0 5 ∧ Bd ag 0 99 ∧ Bd ld 0 9 ∧ Bd rk 0 9) ∧ (Bd ow 0 99 ∧ Bd la (-1) 7) ∧ Bd tx 0 255 ∧ Bd qu 0 7 ∧ Bd wa (-1) 7 ∧ Bd lg 0 99 ∧ Bd ev 0 7) ∧
  RP bk kd ag ld rk ∧ RO bk ow la ∧ REq tx bk 264 160 ∧ REq qu bk 164 8 ∧ REq wa bk 172 6 ∧ REq lg bk 180 36 ∧ REq ev bk 216 48
theorem talkG_congr {S S' : Int → Option (Int × Int × Bool)} (h : ∀ k, 1 ≤ k → k ≤ 9 → S k = S' k) : ∀ (q : Nat) (k : Int), 1 ≤ k → k + q = 10 → talkG S q k = talkG S' q k := by
  intro q
  induction q with
  | zero => intro k _ _; rfl
  | succ q ih =>
    intro k hk hq
    have h1 := h k hk (by omega)
    have h2 := ih (k + 1) (by omega) (by omega)
    simp only [talkG]
    rw [h1, h2]
theorem scanI_congr {many : Int} {f f' : Int → Int} (h : ∀ i, 0 ≤ i → i < many → f i = f' i) : ∀ (q : Nat) (i : Int), 0 ≤ i → scanI many f q i = scanI many f' q i := by
  intro q
  induction q with
  | zero => intro i _; rfl
  | succ q ih =>
    intro i hi
    simp only [scanI]
    by_cases c : i < many
    · rw [if_pos c, if_pos c, h i hi c, ih (i + 1) (by omega)]
    · rw [if_neg c, if_neg c]
theorem scanI_in {many : Int} {f : Int → Int} : ∀ (q : Nat) (i j : Int), scanI many f q i = some j → i ≤ j ∧ j < many := by
  intro q
  induction q with
  | zero => intro i j h; cases h
  | succ q ih =>
    intro i j h
    simp only [scanI] at h
    by_cases c : i < many
    · rw [if_pos c] at h
      by_cases c2 : f i = -1
      · rw [if_pos c2] at h
        have := ih _ _ h
        omega
      · rw [if_neg c2] at h
        cases h
        omega
    · rw [if_neg c] at h; cases h
theorem talkF_congr {nm nm' : Int → Int → Int → Int → Int} {it it' : Int → Int} {many sk a b : Int} (h : ∀ j, 0 ≤ j → j < many → it (4 * j) = it' (4 * j) ∧ it (4 * j + 1) = it' (4 * j + 1) ∧ nm (it (4 * j + 2)) (it (4 * j + 3)) a b = nm' (it' (4 * j + 2)) (it' (4 * j + 3)) a b ∧ nm (it (4 * j + 2)) (it (4 * j + 3)) b a = nm' (it' (4 * j + 2)) (it' (4 * j + 3)) b a) : talkF nm it many sk a b = talkF nm' it' many sk a b := by
  unfold talkF
  refine talkG_congr (fun k hk1 hk9 => ?_) 9 1 (by omega) (by omega)
  have hz : a + b - (if k % 2 = 1 then a else b) = (if k % 2 = 1 then b else a) := by split <;> omega
  have hf : ∀ j, 0 ≤ j → j < many → itemF nm it sk k (if k % 2 = 1 then a else b) (if k % 2 = 1 then b else a) j = itemF nm' it' sk k (if k % 2 = 1 then a else b) (if k % 2 = 1 then b else a) j := by
    intro j h0 h1
    obtain ⟨e0, e1, e2, e3⟩ := h j h0 h1
    unfold itemF
    rw [e0]
    split
    · split
      · exact e2
      · exact e3
    · rfl
  unfold roundF
  rw [hz, scanI_congr hf 9 0 (by omega)]
  cases hsc : scanI many (itemF nm' it' sk k (if k % 2 = 1 then a else b) (if k % 2 = 1 then b else a)) 9 0 with
  | none => rfl
  | some j =>
    obtain ⟨i1, i2⟩ := scanI_in 9 0 j hsc
    simp only [Option.map_some]
    rw [hf j i1 i2, (h j i1 i2).2.1]
theorem nameV_congr {A A' O O' Ls Ls' : Int → Int → Int} {c k x y : Int} (hc : 0 ≤ c) (hA : ∀ w, 0 ≤ w → w < 3 → A w x = A' w x ∧ A w y = A' w y) (h1 : O x y = O' x y) (h2 : O y x = O' y x) (h3 : Ls x y = Ls' x y) : nameV A O Ls c k x y = nameV A' O' Ls' c k x y := by
  unfold nameV
  rw [h1, h2, h3]
  by_cases e : c < 6
  · obtain ⟨a1, a2⟩ := hA (c / 2) (by omega) (by omega)
    rw [a1, a2]
  · rw [if_neg e, if_neg e]
theorem nmCB {bk kd ag ld rk ow la : Int → Int} (hp : RP bk kd ag ld rk) (ho : RO bk ow la) {c k x y : Int} (hc : 0 ≤ c) (hx : 0 ≤ x ∧ x < 8) (hy : 0 ≤ y ∧ y < 8) (hxy : x ≠ y) : nmC kd ag ld rk ow la c k x y = nmB bk c k x y := by
  refine nameV_congr hc (fun w h0 h3 => ?_) ?_ ?_ ?_
  · have key : ∀ p, 0 ≤ p → p < 8 → AC kd ag ld rk w p = cnt bk p w := by
      intro p p0 p8
      obtain ⟨e1, e2, e3, e4⟩ := hp p p0 p8
      rcases (show w = 0 ∨ w = 1 ∨ w = 2 by omega) with rfl | rfl | rfl
      · show ageF kd ag p = _
        unfold ageF cnt
        rw [e1, e2]
        simp
      · show loadF kd ld p = _
        unfold loadF cnt
        rw [e1, e3]
        simp [Int.add_assoc]
      · show rankF kd rk p = _
        unfold rankF cnt
        rw [e1, e4]
        simp [Int.add_assoc]
    exact ⟨key x hx.1 hx.2, key y hy.1 hy.2⟩
  · show ow (x * 8 + y) = bk (36 + 8 * x + y)
    rw [ho.1 _ (by omega) (by omega)]; congr 1; omega
  · show ow (y * 8 + x) = bk (36 + 8 * y + x)
    rw [ho.1 _ (by omega) (by omega)]; congr 1; omega
  · show la (x * 8 + y) = lastB bk x y
    unfold lastB
    by_cases e : x < y
    · rw [if_pos e, (ho.2 x y hx.1 e hy.2).1]
    · rw [if_neg e, (ho.2 y x hy.1 (by omega) hx.2).2]
abbrev itB (bk : Int → Int) : List IT := (parse (txB bk) (bk 1)).2
/-- a talk by the book as it stands -/
def TB (bk : Int → Int) (a b : Int) : Int × Int × Int := talkF (nmB bk) (itOf (itB bk)) (itB bk).length 0 a b
theorem talk_cls {bk kd ag ld rk ow la : Int → Int} {its : List IT} (hp : RP bk kd ag ld rk) (ho : RO bk ow la) (hok : itsOk its) {x y : Int} (hx : 0 ≤ x ∧ x < 8) (hy : 0 ≤ y ∧ y < 8) (hxy : x ≠ y) : talkF (nmC kd ag ld rk ow la) (itOf its) its.length 0 x y = talkF (nmB bk) (itOf its) its.length 0 x y := by
  refine talkF_congr (fun j h0 h1 => ?_)
  obtain ⟨q, hq⟩ : ∃ q, its[j.toNat]? = some q := ⟨its[j.toNat]'(by omega), List.getElem?_eq_getElem (by omega)⟩
  obtain ⟨-, -, e2, -⟩ := itOf_at hq
  have hj : ((j.toNat : Nat) : Int) = j := by omega
  rw [hj] at e2
  have := hok q (List.mem_of_getElem? hq)
  exact ⟨rfl, rfl, nmCB hp ho (by omega) hx hy hxy, nmCB hp ho (by omega) hy hx (Ne.symm hxy)⟩
theorem talk_mod {bk it : Int → Int} {its : List IT} (hr : itRel it its) {sk x y : Int} {nm : Int → Int → Int → Int → Int} : talkF nm it its.length sk x y = talkF nm (itOf its) its.length sk x y := by
  refine talkF_congr (fun j h0 h1 => ?_)
  obtain ⟨q, hq⟩ : ∃ q, its[j.toNat]? = some q := ⟨its[j.toNat]'(by omega), List.getElem?_eq_getElem (by omega)⟩
  obtain ⟨e0, e1, e2, e3⟩ := itOf_at hq
  obtain ⟨f0, f1, f2, f3⟩ := hr _ _ hq
  have hj : ((j.toNat : Nat) : Int) = j := by omega
  rw [hj] at e0 e1 e2 e3 f0 f1 f2 f3
  rw [e0, e1, e2, e3, f0, f1, f2, f3]
  exact ⟨rfl, rfl, rfl, rfl⟩
theorem laOk_of {bk ow la : Int → Int} (hI : Inv bk) (ho : RO bk ow la) : laOk la := by
  intro x y x0 x8 y0 y8 hxy
  show la (y * 8 + x) = la (x * 8 + y) ∧ (la (x * 8 + y) = -1 ∨ la (x * 8 + y) = x ∨ la (x * 8 + y) = y)
  by_cases e : x < y
  · obtain ⟨a, b⟩ := ho.2 x y x0 e y8
    have := hI.2.2.2.2.1 x y x0 e y8
    rw [a, b]; exact ⟨rfl, this⟩
  · obtain ⟨a, b⟩ := ho.2 y x y0 (by omega) x8
    have := hI.2.2.2.2.1 y x y0 (by omega) x8
    rw [a, b]
    exact ⟨rfl, by omega⟩
theorem nameV_two {A O Ls : Int → Int → Int} {c k x y : Int} (hL : Ls x y = -1 ∨ Ls x y = x ∨ Ls x y = y) : nameV A O Ls c k x y = -1 ∨ nameV A O Ls c k x y = x ∨ nameV A O Ls c k x y = y := by
  have m0 := @moreF_in x y (A (c / 2) x) (A (c / 2) y) k
  have m1 := @moreF_in x y (O y x) (O x y) k
  unfold nameV
  (repeat' split) <;> omega
theorem scanI_f {many : Int} {f : Int → Int} : ∀ (q : Nat) (i j : Int), scanI many f q i = some j → ¬ f j = -1 := by
  intro q
  induction q with
  | zero => intro i j h; cases h
  | succ q ih =>
    intro i j h
    simp only [scanI] at h
    by_cases c : i < many
    · rw [if_pos c] at h
      by_cases c2 : f i = -1
      · rw [if_pos c2] at h
        exact ih _ _ h
      · rw [if_neg c2] at h
        cases h
        exact c2
    · rw [if_neg c] at h; cases h
theorem talkG_in {S : Int → Option (Int × Int × Bool)} : ∀ (q : Nat) (k : Int), talkG S q k = (-1, 9, -1) ∨ ∃ k' j g, k ≤ k' ∧ k' < k + q ∧ S k' = some (j, g, false) ∧ talkG S q k = (g, k', j) := by
  intro q
  induction q with
  | zero => intro k; exact Or.inl rfl
  | succ q ih =>
    intro k
    have h2 := ih (k + 1)
    by_cases hs : ∃ j g, S k = some (j, g, false)
    · obtain ⟨j, g, hs⟩ := hs
      exact Or.inr ⟨k, j, g, by omega, by omega, hs, by simp only [talkG, hs]⟩
    · have e : talkG S (q + 1) k = talkG S q (k + 1) := by
        simp only [talkG]
        split
        · rename_i j g hh
          exact absurd ⟨j, g, hh⟩ hs
        · rfl
      rw [e]
      rcases h2 with h2 | ⟨k', j, g, a, b, c, d⟩
      · exact Or.inl h2
      · exact Or.inr ⟨k', j, g, by omega, by omega, c, d⟩
/-- who goes by a talk: one of the two, or nobody -/
theorem talkF_in {nm : Int → Int → Int → Int → Int} {it : Int → Int} {many sk a b : Int} (h : ∀ c k, (nm c k a b = -1 ∨ nm c k a b = a ∨ nm c k a b = b) ∧ (nm c k b a = -1 ∨ nm c k b a = a ∨ nm c k b a = b)) (hab : ¬ a = -1 ∧ ¬ b = -1) :
    talkF nm it many sk a b = (-1, 9, -1) ∨ (((talkF nm it many sk a b).1 = a ∨ (talkF nm it many sk a b).1 = b) ∧ (1 ≤ (talkF nm it many sk a b).2.1 ∧ (talkF nm it many sk a b).2.1 ≤ 9) ∧ (0 ≤ (talkF nm it many sk a b).2.2 ∧ (talkF nm it many sk a b).2.2 < many)) := by
  rcases talkG_in (S := roundF nm it many sk a b) 9 1 with h1 | ⟨k, j, g, k1, k9, hs, ht⟩
  · exact Or.inl h1
  · right
    unfold talkF
    rw [ht]
    unfold roundF at hs
    have hz : a + b - (if k % 2 = 1 then a else b) = (if k % 2 = 1 then b else a) := by split <;> omega
    rw [hz] at hs
    obtain ⟨j', e1, e2⟩ := Option.map_eq_some_iff.mp hs
    have hf := scanI_f 9 0 j' e1
    have hin := scanI_in 9 0 j' e1
    simp only [Prod.mk.injEq] at e2
    obtain ⟨rfl, rfl, -⟩ := e2
    refine ⟨?_, ⟨show 1 ≤ k by omega, show k ≤ 9 by omega⟩, ⟨show 0 ≤ j' by omega, show j' < many by omega⟩⟩
    show itemF nm it sk k _ _ j' = a ∨ itemF nm it sk k _ _ j' = b
    unfold itemF at hf ⊢
    by_cases c : it (4 * j') ≤ k ∧ bitI sk j' = 0
    · rw [if_pos c] at hf ⊢
      obtain ⟨g1, g2⟩ := h (it (4 * j' + 2)) (it (4 * j' + 3))
      by_cases e : k % 2 = 1
      · rw [if_pos e, if_pos e] at hf ⊢; omega
      · rw [if_neg e, if_neg e] at hf ⊢; omega
    · rw [if_neg c] at hf
      exact absurd rfl hf
theorem lastB_two {bk : Int → Int} (hI : Inv bk) {x y : Int} (hx : 0 ≤ x ∧ x < 8) (hy : 0 ≤ y ∧ y < 8) (hxy : x ≠ y) : lastB bk x y = -1 ∨ lastB bk x y = x ∨ lastB bk x y = y := by
  unfold lastB
  by_cases e : x < y
  · rw [if_pos e]; exact hI.2.2.2.2.1 x y hx.1 e hy.2
  · rw [if_neg e]
    have := hI.2.2.2.2.1 y x hy.1 (by omega) hx.2
    omega
theorem TB_in {bk it : Int → Int} {many sk x y : Int} (hI : Inv bk) (hx : 0 ≤ x ∧ x < 8) (hy : 0 ≤ y ∧ y < 8) (hxy : x ≠ y) : talkF (nmB bk) it many sk x y = (-1, 9, -1) ∨ (((talkF (nmB bk) it many sk x y).1 = x ∨ (talkF (nmB bk) it many sk x y).1 = y) ∧ (1 ≤ (talkF (nmB bk) it many sk x y).2.1 ∧ (talkF (nmB bk) it many sk x y).2.1 ≤ 9) ∧ (0 ≤ (talkF (nmB bk) it many sk x y).2.2 ∧ (talkF (nmB bk) it many sk x y).2.2 < many)) := by
  refine talkF_in (fun c k => ⟨nameV_two (lastB_two hI hx hy hxy), ?_⟩) (by omega)
  have h3 : nmB bk c k y x = -1 ∨ nmB bk c k y x = y ∨ nmB bk c k y x = x := @nameV_two (Ab bk) (Ob bk) (Lb bk) c k y x (lastB_two hI hy hx (Ne.symm hxy))
  rcases h3 with h3 | h3 | h3
  · exact Or.inl h3
  · exact Or.inr (Or.inr h3)
  · exact Or.inr (Or.inl h3)
/-- the state: book, images, fraction, refusals -/
abbrev SS : Type := (Int → Int) × Option (Int → Int) × Option (Int → Int) × Int × Int × Int × Int × Int
abbrev SS.bk (s : SS) : Int → Int := s.1
abbrev SS.i0 (s : SS) : Option (Int → Int) := s.2.1
abbrev SS.i1 (s : SS) : Option (Int → Int) := s.2.2.1
abbrev SS.up (s : SS) : Int := s.2.2.2.1
abbrev SS.dn (s : SS) : Int := s.2.2.2.2.1
abbrev SS.c0 (s : SS) : Int := s.2.2.2.2.2.1
abbrev SS.c1 (s : SS) : Int := s.2.2.2.2.2.2.1
abbrev SS.c2 (s : SS) : Int := s.2.2.2.2.2.2.2
def mI (im kp : Int → Int) (i : Int) (o : Option (Int → Int)) : Prop := match o with
  | none => kp i = 0
  | some b => kp i = 1 ∧ ∀ k, 0 ≤ k → k < 480 → im (480 * i + k) = b k
/-- the model holds the state -/
def isM (h : Hp) (s : SS) : Prop := ∃ (e : Nat → Int) (it im kp rf hd ln gs bs cs fr lf : Int → Int),
  h 45 = some (aO 9 (mF e)) ∧ (e 4 = s.up ∧ e 5 = s.dn) ∧ (-10000 ≤ e 9 ∧ e 9 ≤ 10000) ∧ h 46 = some (aA 480 s.bk) ∧ h 47 = some (aA 960 im) ∧ h 48 = some (aZ 2 kp) ∧ h 49 = some (aA 3 rf) ∧ h 50 = some (aA 40 it) ∧ itOk it ∧ h 51 = some (aA 128 hd) ∧ h 52 = some (aA 8 ln) ∧ h 53 = some (aA 8 gs) ∧ h 54 = some (aA 8 bs) ∧ h 55 = some (aA 6 cs) ∧ h 56 = some (aA 6 fr) ∧ h 57 = some (aA 64 lf) ∧
  (rf 0 = s.c0 ∧ rf 1 = s.c1 ∧ rf 2 = s.c2) ∧ (mI im kp 0 s.i0 ∧ mI im kp 1 s.i1) ∧ Bd im (-1) 255
def isTk (h : Hp) (b : Nat) : Prop := ∃ (ro co le ak : Int → Int) (fa sz ab len nx pl va : Int) (tt : Nat), h b = some (aO 0 [vR (b + 1), vI fa, vI sz, vI ab, vR (b + 3), vR (b + 4), vR (b + 5), vR (b + 6)]) ∧ h (b + 1) = some (aO 6 [vR tt, vI len, vI nx, vI pl, vI va]) ∧ h (b + 3) = some (aA 9 ro) ∧ h (b + 4) = some (aA 9 co) ∧ h (b + 5) = some (aA 9 le) ∧ h (b + 6) = some (aA 10 ak) ∧ Bd ro 0 9 ∧ Bd co 0 9 ∧ Bd le 0 99
/-- the class's images -/
def cI2 (h : Hp) (g : Int → Option Nat) (n : Nat) (o0 o1 : Option (Int → Int)) : Prop :=
  (o0 = none ∧ o1 = none ∧ g 0 = none ∧ g 1 = none ∧ n = 58) ∨ (∃ b, o0 = some b ∧ o1 = none ∧ g 0 = some 58 ∧ g 1 = none ∧ n = 72 ∧ isW h 58 b ∧ Inv b) ∨ (∃ b, o0 = none ∧ o1 = some b ∧ g 0 = none ∧ g 1 = some 58 ∧ n = 72 ∧ isW h 58 b ∧ Inv b) ∨
  (∃ b0 b1 w0 w1, o0 = some b0 ∧ o1 = some b1 ∧ g 0 = some w0 ∧ g 1 = some w1 ∧ (w0 = 58 ∧ w1 = 72 ∨ w0 = 72 ∧ w1 = 58) ∧ n = 86 ∧ isW h w0 b0 ∧ isW h w1 b1 ∧ Inv b0 ∧ Inv b1)
/-- the class's scratch cells -/
def isX (h : Hp) : Prop := (∃ a b c : Int, h 30 = some (aO 5 [vI a, vI b, vI c])) ∧ (h 31 = some (aO 3 [vR 32, vR 33, vR 34, vR 35, vR 36]) ∧ ∃ f1 f2 f3 f4 f5 : Int → Int, h 32 = some (aA 64 f1) ∧ h 33 = some (aA 64 f2) ∧ h 34 = some (aA 8 f3) ∧ h 35 = some (aA 8 f4) ∧ h 36 = some (aA 8 f5)) ∧
  (∃ (st : Int) (f1 f2 f3 : Int → Int), h 37 = some (aO 2 [vR 38, vR 39, vR 40, vI st]) ∧ h 38 = some (aA 6 f1) ∧ h 39 = some (aA 6 f2) ∧ h 40 = some (aA 6 f3)) ∧ (∃ f1 f2 : Int → Int, isB h 41 f1 f2 ∧ Bd f1 0 99 ∧ Bd f2 (-1) 7) ∧ (∃ f : Int → Int, h 44 = some (aA 64 f)) ∧ isTk h 23
/-- the class holds the state -/
def isC (h : Hp) (n : Nat) (s : SS) : Prop := h 0 = some (aO 8 [vR 1, vR 15, vR 16, vR 23, vR 30, vR 31, vR 37, vR 41, vR 44, vI s.up, vI s.dn, vI s.c0, vI s.c1, vI s.c2]) ∧ isW h 1 s.bk ∧ isBk h 16 (parse (txB s.bk) (s.bk 1)) ∧ isX h ∧ ∃ g, h 15 = some (aW 2 g) ∧ cI2 h g n s.i0 s.i1

