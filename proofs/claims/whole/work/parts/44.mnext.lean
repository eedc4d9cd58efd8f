/-! ===== orders ===== -/
def swp (f : Int → Int) (i j : Int) : Int → Int := iu (iu f i (f j)) j (f i)
def kF (f : Int → Int) : Nat → Int → Int
  | 0, k => k
  | q + 1, k => if f (k + 1) < f k then kF f q (k - 1) else k
def jF (f : Int → Int) (v : Int) : Nat → Int → Int
  | 0, j => j
  | q + 1, j => if f j < v then jF f v q (j - 1) else j
def rvF : Nat → Int → Int → (Int → Int) → (Int → Int)
  | 0, _, _, f => f
  | q + 1, lo, hi, f => if lo < hi then rvF q (lo + 1) (hi - 1) (swp f lo hi) else f
def nxF (n : Int) (f : Int → Int) : Option (Int → Int) :=
  if kF f (n - 1).toNat (n - 2) < 0 then none else some (rvF n.toNat (kF f (n - 1).toNat (n - 2) + 1) (n - 1) (swp f (kF f (n - 1).toNat (n - 2)) (jF f (f (kF f (n - 1).toNat (n - 2))) n.toNat (n - 1))))
def rl (n : Int) (σ π f : Int → Int) : Prop := (∀ i, 0 ≤ i → i < n → f i = σ (π i) ∧ 0 ≤ π i ∧ π i < n) ∧ ∀ i j, 0 ≤ i → i < j → j < n → π i ≠ π j
section NX
variable {n : Int} {σ π f : Int → Int}
theorem swp_at {i j k : Int} : swp f i j k = if k = j then f i else if k = i then f j else f k := by
  unfold swp iu
  rfl
theorem rl.swp {i j : Int} (h : rl n σ π f) (hi : 0 ≤ i ∧ i < n) (hj : 0 ≤ j ∧ j < n) : rl n σ (swp π i j) (swp f i j) := by
  refine ⟨fun k k0 kn => ?_, fun a b a0 ab bn => ?_⟩
  · rw [swp_at, swp_at]
    have := h.1 i hi.1 hi.2
    have := h.1 j hj.1 hj.2
    have := h.1 k k0 kn
    split
    · assumption
    · split <;> assumption
  · rw [swp_at, swp_at]
    have key : ∀ x y, 0 ≤ x → x < n → 0 ≤ y → y < n → x ≠ y → π x ≠ π y := by
      intro x y x0 x1 y0 y1 hxy
      by_cases c : x < y
      · exact h.2 x y x0 c y1
      · exact Ne.symm (h.2 y x y0 (by omega) x1)
    by_cases c1 : a = j
    · rw [if_pos c1, if_neg (by omega)]
      by_cases c2 : b = i
      · rw [if_pos c2]; exact key i j hi.1 hi.2 hj.1 hj.2 (by omega)
      · rw [if_neg c2]; exact key i b hi.1 hi.2 (by omega) bn (by omega)
    · rw [if_neg c1]
      by_cases c2 : a = i
      · rw [if_pos c2]
        by_cases c3 : b = j
        · rw [if_pos c3]; exact key j i hj.1 hj.2 hi.1 hi.2 (by omega)
        · rw [if_neg c3, if_neg (by omega)]; exact key j b hj.1 hj.2 (by omega) bn (by omega)
      · rw [if_neg c2]
        by_cases c3 : b = j
        · rw [if_pos c3]; exact key a i a0 (by omega) hi.1 hi.2 c2
        · rw [if_neg c3]
          by_cases c4 : b = i
          · rw [if_pos c4]; exact key a j a0 (by omega) hj.1 hj.2 c1
          · rw [if_neg c4]; exact key a b a0 (by omega) (by omega) bn (by omega)
theorem kF_in : ∀ (q : Nat) (k : Int), k + 1 = q → -1 ≤ kF f q k ∧ kF f q k ≤ k := by
  intro q
  induction q with
  | zero => intro k h; simp only [kF]; omega
  | succ q ih =>
    intro k h
    simp only [kF]
    split
    · have := ih (k - 1) (by omega); omega
    · omega
theorem kF_stop : ∀ (q : Nat) (k : Int), k + 1 = q → 0 ≤ kF f q k → ¬ f (kF f q k + 1) < f (kF f q k) := by
  intro q
  induction q with
  | zero => intro k h h0; simp only [kF] at h0; omega
  | succ q ih =>
    intro k h h0
    simp only [kF] at h0 ⊢
    split
    · rename_i c
      rw [if_pos c] at h0
      exact ih (k - 1) (by omega) h0
    · assumption
theorem jF_in {v k : Int} (hv : ¬ f k < v) : ∀ (q : Nat) (j : Int), k ≤ j → j < k + q → k ≤ jF f v q j ∧ jF f v q j ≤ j := by
  intro q
  induction q with
  | zero => intro j h h1; omega
  | succ q ih =>
    intro j h h1
    simp only [jF]
    split
    · have hne : j ≠ k := fun e => hv (by rw [← e]; assumption)
      have := ih (j - 1) (by omega) (by omega); omega
    · omega
theorem mono_lt (hm : ∀ i j, 0 ≤ i → i < j → j < n → σ i < σ j) {a b : Int} (ha : 0 ≤ a ∧ a < n) (hb : 0 ≤ b ∧ b < n) : σ a < σ b ↔ a < b := by
  rcases (show a < b ∨ a = b ∨ b < a by omega) with c | c | c
  · have := hm a b ha.1 c hb.2; omega
  · rw [c]; omega
  · have := hm b a hb.1 c ha.2; omega
theorem kF_rl (hm : ∀ i j, 0 ≤ i → i < j → j < n → σ i < σ j) (h : rl n σ π f) : ∀ (q : Nat) (k : Int), k + 1 = q → k + 1 < n → kF f q k = kF π q k := by
  intro q
  induction q with
  | zero => intro k _ _; rfl
  | succ q ih =>
    intro k hk hn
    have a := h.1 k (by omega) (by omega)
    have b := h.1 (k + 1) (by omega) (by omega)
    have c := mono_lt hm b.2 a.2
    have d := ih (k - 1) (by omega) (by omega)
    simp only [kF]
    rw [a.1, b.1, d]
    by_cases c1 : π (k + 1) < π k
    · rw [if_pos (c.mpr c1), if_pos c1]
    · rw [if_neg (fun q => c1 (c.mp q)), if_neg c1]
theorem jF_rl (hm : ∀ i j, 0 ≤ i → i < j → j < n → σ i < σ j) (h : rl n σ π f) {w : Int} (hw : 0 ≤ w ∧ w < n) : ∀ (q : Nat) (j : Int), j + 1 = q → j < n → jF f (σ w) q j = jF π w q j := by
  intro q
  induction q with
  | zero => intro j _ _; rfl
  | succ q ih =>
    intro j hj hn
    have a := h.1 j (by omega) (by omega)
    have c := mono_lt hm a.2 hw
    have d := ih (j - 1) (by omega) (by omega)
    simp only [jF]
    rw [a.1, d]
    by_cases c1 : π j < w
    · rw [if_pos (c.mpr c1), if_pos c1]
    · rw [if_neg (fun q => c1 (c.mp q)), if_neg c1]
theorem rvF_rl : ∀ (q : Nat) (lo hi : Int) (π f : Int → Int), 0 ≤ lo → hi < n → rl n σ π f → rl n σ (rvF q lo hi π) (rvF q lo hi f) := by
  intro q
  induction q with
  | zero => intro lo hi π f _ _ h; exact h
  | succ q ih =>
    intro lo hi π f h0 h1 h
    simp only [rvF]
    split
    · exact ih _ _ _ _ (by omega) (by omega) (h.swp (by omega) (by omega))
    · exact h
/-- orders go on alike, whatever the numbers are, if they are sorted alike -/
theorem nxF_rl (hm : ∀ i j, 0 ≤ i → i < j → j < n → σ i < σ j) (h : rl n σ π f) (hn : 0 ≤ n) : (nxF n π = none ∧ nxF n f = none) ∨ ∃ π' f', nxF n π = some π' ∧ nxF n f = some f' ∧ rl n σ π' f' := by
  by_cases n2 : 2 ≤ n
  · have ek := kF_rl hm h (n - 1).toNat (n - 2) (by omega) (by omega)
    have ik := @kF_in π (n - 1).toNat (n - 2) (by omega)
    unfold nxF
    rw [ek]
    by_cases c : kF π (n - 1).toNat (n - 2) < 0
    · rw [if_pos c, if_pos c]; exact Or.inl ⟨rfl, rfl⟩
    · rw [if_neg c, if_neg c]
      have a := h.1 (kF π (n - 1).toNat (n - 2)) (by omega) (by omega)
      have ej := jF_rl hm h a.2 n.toNat (n - 1) (by omega) (by omega)
      have ij := @jF_in π (π (kF π (n - 1).toNat (n - 2))) (kF π (n - 1).toNat (n - 2)) (by omega) n.toNat (n - 1) (by omega) (by omega)
      rw [a.1, ej]
      exact Or.inr ⟨_, _, rfl, rfl, rvF_rl _ _ _ _ _ (by omega) (by omega) (h.swp (by omega) (by omega))⟩
  · have e1 : (n - 1).toNat = 0 := by omega
    unfold nxF
    rw [e1]
    simp only [kF]
    exact Or.inl ⟨if_pos (by omega), if_pos (by omega)⟩
end NX
def rowL (σ π : Int → Int) (n : Nat) : List Int := (List.range n).map (fun i : Nat => σ (π (i : Int)))
def soG (T : Int → Int → Int × Int × Int) (σ : Int → Int) (n : Nat) : Nat → (Int → Int) → Int → List Int → Int × List Int
  | 0, _, l, b => (l, b)
  | q + 1, π, l, b => match nxF n π with
    | none => if ¬ minL (passL T (rowL σ π n)) = -1 ∧ (l = -1 ∨ minL (passL T (rowL σ π n)) < l) then (minL (passL T (rowL σ π n)), rowL σ π n) else (l, b)
    | some π' => if ¬ minL (passL T (rowL σ π n)) = -1 ∧ (l = -1 ∨ minL (passL T (rowL σ π n)) < l) then soG T σ n q π' (minL (passL T (rowL σ π n))) (rowL σ π n) else soG T σ n q π' l b
def endsN (n : Nat) : Nat → (Int → Int) → Prop
  | 0, _ => False
  | q + 1, π => ∀ π', nxF n π = some π' → endsN n q π'
def dec8 (c : Nat) (i : Int) : Int := ((c / 8 ^ i.toNat % 8 : Nat) : Int)
def chOk (n : Nat) : List Nat → Bool
  | [] => false
  | [c] => (nxF n (dec8 c)).isNone
  | c :: c' :: L => (match nxF n (dec8 c) with
    | none => false
    | some f => (List.range n).all (fun i => decide (f i = dec8 c' i))) && chOk n (c' :: L)
def tb0 : List Nat := []
def tb1 : List Nat := []
def tb2 : List Nat := [181889]
def tb3 : List Nat := [181840, 181889, 181777, 181826, 181770]
def tb4 : List Nat := [181448, 181840, 180944, 181336, 180888, 181889, 181441, 181777, 180433, 181273, 180377, 181826, 180930, 181770, 180426, 180762, 180314, 181315, 180867, 181259, 180363, 180755, 180307]
def tb5 : List Nat := [178312, 181448, 174280, 177416, 173832, 181840, 178256, 180944, 170192, 176912, 169744, 181336, 174168, 180888, 170136, 172824, 169240, 177248, 173664, 176800, 169632, 172768, 169184, 181889, 178305, 181441, 174273, 177409, 173825, 181777, 178193, 180433, 166097, 176401, 165649, 181273, 174105, 180377, 166041, 172313, 165145, 177185, 173601, 176289, 165537, 172257, 165089, 181826, 178242, 180930, 170178, 176898, 169730, 181770, 178186, 180426, 166090, 176394, 165642, 180762, 170010, 180314, 165978, 168218, 164634, 176674, 169506, 176226, 165474, 168162, 164578, 181315, 174147, 180867, 170115, 172803, 169219, 181259, 174091, 180363, 166027, 172299, 165131, 180755, 170003, 180307, 165971, 168211, 164627, 172579, 168995, 172131, 164963, 168099, 164515, 177220, 173636, 176772, 169604, 172740, 169156, 177164, 173580, 176268, 165516, 172236, 165068, 176660, 169492, 176212, 165460, 168148, 164564, 172572, 168988, 172124, 164956, 168092, 164508]
def tb6 : List Nat := [153224, 178312, 120968, 146056, 117384, 181448, 152776, 174280, 88264, 142024, 84680, 177416, 120072, 173832, 87816, 109320, 80648, 144712, 116040, 141128, 83784, 108872, 80200, 181840, 153168, 178256, 120912, 146000, 117328, 180944, 152272, 170192, 55504, 137936, 51920, 176912, 119568, 169744, 55056, 105232, 47888, 144208, 115536, 137040, 51024, 104784, 47440, 181336, 152664, 174168, 88152, 141912, 84568, 180888, 152216, 170136, 55448, 137880, 51864, 172824, 86808, 169240, 54552, 72472, 43800, 140120, 82776, 136536, 50520, 72024, 43352, 177248, 119904, 173664, 87648, 109152, 80480, 176800, 119456, 169632, 54944, 105120, 47776, 172768, 86752, 169184, 54496, 72416, 43744, 107360, 78688, 103776, 46432, 71520, 42848, 144488, 115816, 140904, 83560, 108648, 79976, 144040, 115368, 136872, 50856, 104616, 47272, 140008, 82664, 136424, 50408, 71912, 43240, 107304, 78632, 103720, 46376, 71464, 42792, 181889, 153217, 178305, 120961, 146049, 117377, 181441, 152769, 174273, 88257, 142017, 84673, 177409, 120065, 173825, 87809, 109313, 80641, 144705, 116033, 141121, 83777, 108865, 80193, 181777, 153105, 178193, 120849, 145937, 117265, 180433, 151761, 166097, 22737, 133841, 19153, 176401, 119057, 165649, 22289, 101137, 15121, 143697, 115025, 132945, 18257, 100689, 14673, 181273, 152601, 174105, 88089, 141849, 84505, 180377, 151705, 166041, 22681, 133785, 19097, 172313, 86297, 165145, 21785, 68377, 11033, 139609, 82265, 132441, 17753, 67929, 10585, 177185, 119841, 173601, 87585, 109089, 80417, 176289, 118945, 165537, 22177, 101025, 15009, 172257, 86241, 165089, 21729, 68321, 10977, 106849, 78177, 99681, 13665, 67425, 10081, 144425, 115753, 140841, 83497, 108585, 79913, 143529, 114857, 132777, 18089, 100521, 14505, 139497, 82153, 132329, 17641, 67817, 10473, 106793, 78121, 99625, 13609, 67369, 10025, 181826, 153154, 178242, 120898, 145986, 117314, 180930, 152258, 170178, 55490, 137922, 51906, 176898, 119554, 169730, 55042, 105218, 47874, 144194, 115522, 137026, 51010, 104770, 47426, 181770, 153098, 178186, 120842, 145930, 117258, 180426, 151754, 166090, 22730, 133834, 19146, 176394, 119050, 165642, 22282, 101130, 15114, 143690, 115018, 132938, 18250, 100682, 14666, 180762, 152090, 170010, 55322, 137754, 51738, 180314, 151642, 165978, 22618, 133722, 19034, 168218, 53530, 164634, 21274, 35610, 6938, 135514, 49498, 131930, 17242, 35162, 6490, 176674, 119330, 169506, 54818, 104994, 47650, 176226, 118882, 165474, 22114, 100962, 14946, 168162, 53474, 164578, 21218, 35554, 6882, 102754, 45410, 99170, 13154, 34658, 5986, 143914, 115242, 136746, 50730, 104490, 47146, 143466, 114794, 132714, 18026, 100458, 14442, 135402, 49386, 131818, 17130, 35050, 6378, 102698, 45354, 99114, 13098, 34602, 5930, 181315, 152643, 174147, 88131, 141891, 84547, 180867, 152195, 170115, 55427, 137859, 51843, 172803, 86787, 169219, 54531, 72451, 43779, 140099, 82755, 136515, 50499, 72003, 43331, 181259, 152587, 174091, 88075, 141835, 84491, 180363, 151691, 166027, 22667, 133771, 19083, 172299, 86283, 165131, 21771, 68363, 11019, 139595, 82251, 132427, 17739, 67915, 10571, 180755, 152083, 170003, 55315, 137747, 51731, 180307, 151635, 165971, 22611, 133715, 19027, 168211, 53523, 164627, 21267, 35603, 6931, 135507, 49491, 131923, 17235, 35155, 6483, 172579, 86563, 168995, 54307, 72227, 43555, 172131, 86115, 164963, 21603, 68195, 10851, 168099, 53411, 164515, 21155, 35491, 6819, 69987, 41315, 66403, 9059, 34147, 5475, 139819, 82475, 136235, 50219, 71723, 43051, 139371, 82027, 132203, 17515, 67691, 10347, 135339, 49323, 131755, 17067, 34987, 6315, 69931, 41259, 66347, 9003, 34091, 5419, 177220, 119876, 173636, 87620, 109124, 80452, 176772, 119428, 169604, 54916, 105092, 47748, 172740, 86724, 169156, 54468, 72388, 43716, 107332, 78660, 103748, 46404, 71492, 42820, 177164, 119820, 173580, 87564, 109068, 80396, 176268, 118924, 165516, 22156, 101004, 14988, 172236, 86220, 165068, 21708, 68300, 10956, 106828, 78156, 99660, 13644, 67404, 10060, 176660, 119316, 169492, 54804, 104980, 47636, 176212, 118868, 165460, 22100, 100948, 14932, 168148, 53460, 164564, 21204, 35540, 6868, 102740, 45396, 99156, 13140, 34644, 5972, 172572, 86556, 168988, 54300, 72220, 43548, 172124, 86108, 164956, 21596, 68188, 10844, 168092, 53404, 164508, 21148, 35484, 6812, 69980, 41308, 66396, 9052, 34140, 5468, 107052, 78380, 103468, 46124, 71212, 42540, 106604, 77932, 99436, 13420, 67180, 9836, 102572, 45228, 98988, 12972, 34476, 5804, 69868, 41196, 66284, 8940, 34028, 5356, 144453, 115781, 140869, 83525, 108613, 79941, 144005, 115333, 136837, 50821, 104581, 47237, 139973, 82629, 136389, 50373, 71877, 43205, 107269, 78597, 103685, 46341, 71429, 42757, 144397, 115725, 140813, 83469, 108557, 79885, 143501, 114829, 132749, 18061, 100493, 14477, 139469, 82125, 132301, 17613, 67789, 10445, 106765, 78093, 99597, 13581, 67341, 9997, 143893, 115221, 136725, 50709, 104469, 47125, 143445, 114773, 132693, 18005, 100437, 14421, 135381, 49365, 131797, 17109, 35029, 6357, 102677, 45333, 99093, 13077, 34581, 5909, 139805, 82461, 136221, 50205, 71709, 43037, 139357, 82013, 132189, 17501, 67677, 10333, 135325, 49309, 131741, 17053, 34973, 6301, 69917, 41245, 66333, 8989, 34077, 5405, 107045, 78373, 103461, 46117, 71205, 42533, 106597, 77925, 99429, 13413, 67173, 9829, 102565, 45221, 98981, 12965, 34469, 5797, 69861, 41189, 66277, 8933, 34021, 5349]
theorem ch0 : chOk 0 (181896 :: tb0) = true := by decide +kernel
theorem ch1 : chOk 1 (181896 :: tb1) = true := by decide +kernel
theorem ch2 : chOk 2 (181896 :: tb2) = true := by decide +kernel
theorem ch3 : chOk 3 (181896 :: tb3) = true := by decide +kernel
theorem ch4 : chOk 4 (181896 :: tb4) = true := by decide +kernel
theorem ch5 : chOk 5 (181896 :: tb5) = true := by decide +kernel
theorem ch6 : chOk 6 (181896 :: tb6) = true := by decide +kernel
theorem ch_ends {n : Nat} : ∀ (L : List Nat) (c : Nat) (π : Int → Int), chOk n (c :: L) = true → rl n (fun i => i) (dec8 c) π → endsN n (L.length + 1) π := by
  have hm : ∀ i j : Int, 0 ≤ i → i < j → j < (n : Int) → (fun i : Int => i) i < (fun i : Int => i) j := fun i j _ h _ => h
  intro L
  induction L with
  | nil =>
    intro c π h hr π' hp
    rcases nxF_rl hm hr (by omega) with ⟨e1, e2⟩ | ⟨a, b, e1, e2, -⟩
    · rw [e2] at hp; cases hp
    · simp only [chOk, e1] at h; cases h
  | cons c' L ih =>
    intro c π h hr π' hp
    rcases nxF_rl hm hr (by omega) with ⟨e1, e2⟩ | ⟨a, b, e1, e2, e3⟩
    · rw [e2] at hp; cases hp
    · rw [e2] at hp
      cases hp
      simp only [chOk, e1, Bool.and_eq_true, List.all_eq_true, decide_eq_true_eq] at h
      obtain ⟨h1, h2⟩ := h
      refine ih c' π' h2 ⟨fun i i0 i1 => ?_, fun i j i0 ij j1 => ?_⟩
      · have := h1 i.toNat (List.mem_range.mpr (by omega))
        rw [show ((i.toNat : Nat) : Int) = i by omega] at this
        rw [← this]
        exact e3.1 i i0 i1
      · have a1 := h1 i.toNat (List.mem_range.mpr (by omega))
        have a2 := h1 j.toNat (List.mem_range.mpr (by omega))
        rw [show ((i.toNat : Nat) : Int) = i by omega] at a1
        rw [show ((j.toNat : Nat) : Int) = j by omega] at a2
        rw [← a1, ← a2]
        exact e3.2 i j i0 ij j1
theorem endsN_le {n : Nat} : ∀ (q q' : Nat) (π : Int → Int), q ≤ q' → endsN n q π → endsN n q' π := by
  intro q
  induction q with
  | zero => intro q' π _ h; exact absurd h (fun q => q)
  | succ q ih =>
    intro q' π hq h
    obtain ⟨r, rfl⟩ : ∃ r, q' = r + 1 := ⟨q' - 1, by omega⟩
    exact fun π' hp => ih r π' (by omega) (h π' hp)
set_option maxRecDepth 100000 in
/-- all orders of at most six are told in 720 -/
theorem ends720 {n : Nat} (hn : n ≤ 6) {π : Int → Int} (hr : rl n (fun i => i) (dec8 181896) π) : endsN n 720 π := by
  rcases (show n = 0 ∨ n = 1 ∨ n = 2 ∨ n = 3 ∨ n = 4 ∨ n = 5 ∨ n = 6 by omega) with rfl | rfl | rfl | rfl | rfl | rfl | rfl
  · exact endsN_le (tb0.length + 1) 720 π (by decide +kernel) (ch_ends tb0 181896 π ch0 hr)
  · exact endsN_le (tb1.length + 1) 720 π (by decide +kernel) (ch_ends tb1 181896 π ch1 hr)
  · exact endsN_le (tb2.length + 1) 720 π (by decide +kernel) (ch_ends tb2 181896 π ch2 hr)
  · exact endsN_le (tb3.length + 1) 720 π (by decide +kernel) (ch_ends tb3 181896 π ch3 hr)
  · exact endsN_le (tb4.length + 1) 720 π (by decide +kernel) (ch_ends tb4 181896 π ch4 hr)
  · exact endsN_le (tb5.length + 1) 720 π (by decide +kernel) (ch_ends tb5 181896 π ch5 hr)
  · exact endsN_le (tb6.length + 1) 720 π (by decide +kernel) (ch_ends tb6 181896 π ch6 hr)
theorem dec8_id {i : Int} (h0 : 0 ≤ i) (h6 : i < 6) : dec8 181896 i = i := by
  rcases (show i = 0 ∨ i = 1 ∨ i = 2 ∨ i = 3 ∨ i = 4 ∨ i = 5 by omega) with rfl | rfl | rfl | rfl | rfl | rfl <;> decide

