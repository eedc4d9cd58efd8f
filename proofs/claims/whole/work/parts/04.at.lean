/-! ===== the judgements: At (a frame of a method), Cl (a call) ===== -/
/-- what is fixed in a frame -/
def Fx (G : GT) (y : MT) (p : Program) (s : State) (m : MethodId) (meth : Method) (c : Code) (R : Room) : Prop :=
  p.tables.exec = Jvm.exec ∧ c.code = y.cd ∧ c.maxLocals = y.mL ∧ meth.sig.returnType = y.rt ∧ meth.locks = false ∧ s.vm.findClass y.nm.cls = some m.cls ∧ meth.name = y.nm.name ∧ R = rmOf y ∧
  Tab s ∧ va_K G.2.2.1 vwCl (tyL G) s ∧ Olds G s ∧ G.2.1 ≤ s.heap.size
/-- the world in a heap -/
def Wd (G : GT) (n : Nat) (h : Hp) (H : Heap) : Prop := H.size = G.2.1 + n ∧ (∀ k, n ≤ k → h k = none) ∧ va_P G.2.2.1 vwCl (cW G n h) H
abbrev PT : Type := Option AV → Nat → Hp → Prop
def QC (G : GT) (Q : PT) : Array Value → State → Outcome → State → Prop := fun _ st oc t => (∃ r n h, oc = .returned (Option.map (cv G) r) ∧ Q r n h ∧ Wd G n h t.heap) ∧ va_F (aAd G) st t
abbrev AL : Type := Nat × Nat × Nat
def At (G : GT) (y : MT) (pc : Nat) (L st : List AV) (a : AL) (h : Hp) (Q : PT) : Prop :=
  ∀ (p : Program) (e : Env) (R : Room) (s : State) (m : MethodId) (args : Array Value) (below : List Frame) (meth : Method) (c : Code) (H : Heap) (locs : List Loc) (LS : Array Slot),
    Fx G y p s m meth c R → Wd G a.2.2 h H → va_S (aAd G) s.heap H locs → lvc G LS y.mL L →
    W p G.1 e R s m args below meth c H locs a.1 a.2.1 (MQ below (QC G Q) args s y.mc y.ms (aAd G)) (F0 m pc LS (st.map (cv G)))
def PC (G : GT) (as : List AV) (n : Nat) (h : Hp) : Array Value → State → Prop := fun v U => v = (as.map (cv G)).toArray ∧ Tab U ∧ va_K G.2.2.1 vwCl (tyL G) U ∧ Olds G U ∧ Wd G n h U.heap
def Cl (G : GT) (y : MT) (as : List AV) (n : Nat) (h : Hp) (Q : PT) : Prop :=
  Met G.1 y.nm [.code y.nm y.cd y.mL y.rt] (rmOf y) (PC G as n h) (QC G Q) y.mc y.ms (aAd G)
theorem PC.blind (G : GT) (as : List AV) (n : Nat) (h : Hp) : FrameBlind (PC G as n h) := by
  intro a U g mk ⟨h1, h2, h3, h4, h5⟩
  exact ⟨h1, h2.warm (State.WarmedH.refl U), va_K.moved (u := U) (U := U.calling g mk a) (Vm.Alike.refl U.vm) h3, Olds.go (U := U.calling g mk a) (State.WarmedH.refl U) (fun _ _ _ => rfl) h4, h5⟩
theorem cl_of {G : GT} {y : MT} {as : List AV} {n : Nat} {h : Hp} {Q : PT} (hy : plainName y.nm.cls = true) (hl : (ent as).length ≤ y.mL) {L : List AV} (hL : ent as ++ List.replicate (y.mL - (ent as).length) vU = L)
    (k : At G y 0 L [] (0, 0, n) h Q) : Cl G y as n h Q := by
  refine Met.ofW (cc := y.cd) (maxL := y.mL) (ret := y.rt) hy rfl ?_
  intro p e s m args below meth c s₁ B hml hv
  obtain ⟨rfl, hT, hK, hO, hW⟩ := hv
  have hown : s.vm.findClass y.nm.cls = some m.cls := findClass_of_methodNamed B.named
  have hn : meth.name = y.nm.name := (name_of_methodNamed B.named B.method).1
  rw [lg_entry_eq]
  subst hL
  exact k p e _ s m _ below meth c s.heap [] _ ⟨B.exec, B.bytes, hml, B.returns, B.notSynchronized, hown, hn, rfl, hT, hK, hO, by rw [hW.1]; omega⟩ hW va_S.rf (lvc_entry G as y.mL hl)
theorem Cl.mono {G : GT} {y : MT} {as : List AV} {n : Nat} {h : Hp} {Q Q' : PT} (hQ : ∀ r n' h', Q r n' h' → Q' r n' h') (k : Cl G y as n h Q) : Cl G y as n h Q' := by
  unfold Cl Met at k ⊢
  intro p e ha hc hk s m args below hf hap hP hK
  obtain ⟨k0, o, h1, h2, h3, ⟨⟨r, n', h', q1, q2, q3⟩, hF⟩, q5⟩ := k p e ha hc hk s m args below hf hap hP hK
  exact ⟨k0, o, h1, h2, h3, ⟨⟨r, n', h', q1, hQ _ _ _ q2, q3⟩, hF⟩, q5⟩
theorem i_add (a b : Int) : Int32.ofInt a + Int32.ofInt b = Int32.ofInt (a + b) := (Int32.ofInt_add ..).symm
theorem i_sub (a b : Int) : Int32.ofInt a - Int32.ofInt b = Int32.ofInt (a - b) := (Int32.ofInt_sub ..).symm
theorem i_mul (a b : Int) : Int32.ofInt a * Int32.ofInt b = Int32.ofInt (a * b) := (Int32.ofInt_mul ..).symm
theorem i_neg (a : Int) : - Int32.ofInt a = Int32.ofInt (- a) := (Int32.ofInt_neg ..).symm
theorem i_toInt {a : Int} (h : -2147483648 ≤ a ∧ a < 2147483648) : (Int32.ofInt a).toInt = a := Int32.toInt_ofInt_of_le h.1 (by have := h.2; simpa using this)
theorem i_lt {a b : Int} (ha : -2147483648 ≤ a ∧ a < 2147483648) (hb : -2147483648 ≤ b ∧ b < 2147483648) : Int32.ofInt a < Int32.ofInt b ↔ a < b := by
  rw [Int32.lt_iff_toInt_lt, i_toInt ha, i_toInt hb]
theorem i_le {a b : Int} (ha : -2147483648 ≤ a ∧ a < 2147483648) (hb : -2147483648 ≤ b ∧ b < 2147483648) : Int32.ofInt a ≤ Int32.ofInt b ↔ a ≤ b := by
  rw [Int32.le_iff_toInt_le, i_toInt ha, i_toInt hb]
theorem i_eq {a b : Int} (ha : -2147483648 ≤ a ∧ a < 2147483648) (hb : -2147483648 ≤ b ∧ b < 2147483648) : Int32.ofInt a = Int32.ofInt b ↔ a = b := by
  constructor
  · intro h
    have := congrArg Int32.toInt h
    rwa [i_toInt ha, i_toInt hb] at this
  · intro h; rw [h]
theorem i_of (x : Int32) : Int32.ofInt x.toInt = x := Int32.ofInt_toInt x
theorem i_in (x : Int32) : -2147483648 ≤ x.toInt ∧ x.toInt < 2147483648 := ⟨Int32.le_toInt x, Int32.toInt_lt x⟩
theorem j_add (a b : Int) : Int64.ofInt a + Int64.ofInt b = Int64.ofInt (a + b) := (Int64.ofInt_add ..).symm
theorem j_sub (a b : Int) : Int64.ofInt a - Int64.ofInt b = Int64.ofInt (a - b) := (Int64.ofInt_sub ..).symm
theorem j_mul (a b : Int) : Int64.ofInt a * Int64.ofInt b = Int64.ofInt (a * b) := (Int64.ofInt_mul ..).symm
theorem j_toInt {a : Int} (h : -9223372036854775808 ≤ a ∧ a < 9223372036854775808) : (Int64.ofInt a).toInt = a := Int64.toInt_ofInt_of_le h.1 (by have := h.2; simpa using this)
theorem j_lt {a b : Int} (ha : -9223372036854775808 ≤ a ∧ a < 9223372036854775808) (hb : -9223372036854775808 ≤ b ∧ b < 9223372036854775808) : Int64.ofInt a < Int64.ofInt b ↔ a < b := by
  rw [Int64.lt_iff_toInt_lt, j_toInt ha, j_toInt hb]
theorem j_eq {a b : Int} (ha : -9223372036854775808 ≤ a ∧ a < 9223372036854775808) (hb : -9223372036854775808 ≤ b ∧ b < 9223372036854775808) : Int64.ofInt a = Int64.ofInt b ↔ a = b := by
  constructor
  · intro h
    have := congrArg Int64.toInt h
    rwa [j_toInt ha, j_toInt hb] at this
  · intro h; rw [h]
theorem i_clamp {a : Int} {n : Nat} (h : 0 ≤ a ∧ a < n) (hn : n < 2147483648) : ((Int32.ofInt a).toNatClampNeg : Int) = a := by
  show (((Int32.ofInt a).toInt.toNat : Nat) : Int) = a
  rw [i_toInt (by omega)]
  omega
theorem i_vin {a : Int} {n : Nat} (h : 0 ≤ a ∧ a < n) (hn : n < 2147483648) : vp_in (Int32.ofInt a) n := by
  rw [vp_in_iff, i_toInt (by omega)]
  exact h
theorem i_0 : Int32.ofInt 0 = 0 := rfl
