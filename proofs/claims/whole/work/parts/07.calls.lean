/-! ===== rows: what is made, calls ===== -/
theorem Wd.push {G : GT} {n : Nat} {h : Hp} {H H1 : Heap} {e1 : AE} (w : Wd G n h H) (z : H1.size = H.size + 1) (o1 : ∀ q : Nat, q < H.size → H1[q]? = H[q]?) (he : va_at G.2.2.1 vwCl (G.2.1 + n, cE G e1) H1) : Wd G (n + 1) (va_up h n (some e1)) H1 := by
  refine ⟨by rw [z, w.1]; omega, fun k hk => ?_, ?_⟩
  · have : k ≠ n := by omega
    simp only [va_up, this, if_false]
    exact w.2.1 k (by omega)
  · rw [← cW_push e1]
    refine (w.2.2.kept (fun k q hk => o1 q.1 ?_)).app (fun k q hk => ?_)
    · have := cW_inv hk
      rw [w.1]; omega
    · have hz : k < 1 := (List.getElem?_eq_some_iff.mp hk).1
      rw [show k = 0 by omega] at hk
      cases hk
      exact he
theorem va_S.push {G : GT} {n : Nat} {h : Hp} {s : State} {H H1 : Heap} {locs : List Loc} (w : Wd G n h H) (hS : va_S (aAd G) s.heap H locs) (z : H1.size = H.size + 1) (o1 : ∀ q : Nat, q < H.size → H1[q]? = H[q]?) : va_S (aAd G) s.heap H1 locs :=
  ⟨Nat.le_trans hS.1 (by omega), fun x h1 h2 => (o1 x (Nat.lt_of_lt_of_le h1 hS.1)).trans (hS.2.1 x h1 h2), hS.2.2⟩
/-- a class that is made: its link, its words, the fields at first -/
def FN (own : String) (i ci N : Nat) (fs : List AV) : Prop := ∃ (C : String) (T : u_T) (ty0 : Nat → FieldType), vwCl[ci]? = some (C, T, N) ∧ inTs (u_ws C T N) ∧ (∀ k, k < N → parseFieldDescriptor (T k).2.2.1 = some (ty0 k)) ∧
  inT (.classLink own i C) ∧ inT (.instantiable C N) ∧ inT (.initialized C) ∧ ∀ (G : GT) (j : Nat), j < N → defaultValue (ty0 j) = vp_V (fs.map (cv G)) j
/-- a callee: words of the tables, its room in the caller's -/
def LkB (own : String) (i : Nat) (y1 : MT) (n : Nat) : Prop := inT (.code y1.nm y1.cd y1.mL y1.rt) ∧ inT (.initialized y1.nm.cls) ∧ (y1.nm.cls ≠ "java/lang/invoke/MethodHandle" ∧ y1.nm.cls ≠ "java/lang/invoke/VarHandle" ∧ (parseMethodDescriptor y1.nm.desc).map (fun d => d.parameters.length) = some n)
def LkS (own : String) (i : Nat) (y1 : MT) (n : Nat) : Prop := LkB own i y1 n ∧ inT (.methodLink own i y1.nm) ∧ inT (.static y1.nm)
def LkSN (own : String) (i : Nat) (y1 : MT) (n : Nat) : Prop := LkB own i y1 n ∧ (∃ host, inT (.methodLinkNest own i y1.nm host)) ∧ inT (.static y1.nm)
def LkV (own : String) (i : Nat) (y1 : MT) (n ci : Nat) : Prop := LkB own i y1 n ∧ inT (.methodLink own i y1.nm) ∧ inT (.instanceMethod y1.nm) ∧ ∃ q : vw_C, vwCl[ci]? = some q ∧ inT (.selects q.1 y1.nm y1.nm)
def LkI (own : String) (i : Nat) (y1 : MT) (n : Nat) : Prop := LkB own i y1 n ∧ inT (.methodLink own i y1.nm) ∧ inT (.instanceMethod y1.nm) ∧ y1.nm.name = "<init>" ∧ y1.rt = none
def LkIN (own : String) (i : Nat) (y1 : MT) (n : Nat) : Prop := LkB own i y1 n ∧ (∃ host, inT (.methodLinkNest own i y1.nm host)) ∧ inT (.instanceMethod y1.nm) ∧ y1.nm.name = "<init>" ∧ y1.rt = none
def Fit (y y1 : MT) (a : AL) (st : List AV) : Prop := (y1.fr + 1 ≤ y.fr ∧ 8 + (y1.mL + 11) + y1.lo ≤ y.lo) ∧ (a.1 + y1.mc ≤ y.mc ∧ a.2.1 + y1.ms ≤ y.ms) ∧ (st.map (fun v => if isJ v then 2 else 1)).sum ≤ 8
theorem st_cat (G : GT) (st : List AV) : ((st.map (cv G)).map (fun v => v.category)).sum = (st.map (fun v => if isJ v then 2 else 1)).sum := by
  rw [List.map_map]
  congr 2
  funext v
  exact cv_cat G v
section KR
variable {G : GT} {y : MT} {pc : Nat} {L st : List AV} {a : AL} {h : Hp} {Q : PT}
theorem r_new {i ci N : Nat} {fs : List AV} (hd : decode y.cd pc = .ok (.new i, 3)) (hf : FN y.nm.cls i ci N fs) (hc : a.1 + 1 ≤ y.mc ∧ a.2.1 + N ≤ y.ms)
    (kk : ∀ h1 : Hp, h1 a.2.2 = some (aO ci fs) → Fr (fun q => q = a.2.2) h h1 → At G y (pc + 3) L (vR a.2.2 :: st) (a.1 + 1, a.2.1 + N, a.2.2 + 1) h1 Q) : At G y pc L st a h Q := by
  intro p e R s m args below meth c H locs LS F w1 w2 w3
  have ⟨f1, f2, f3, f4, f5, f6, f7, f8, f9, f10, f11, f12⟩ := F
  obtain ⟨C, T, ty0, h1, h2, h3, h4, h5, h6, h7⟩ := hf
  have hKn := f10.1 ci _ h1
  refine W.newcK f1 f2 f6 (f9.get h4) (f9.get h5) (f9.get h6) rfl hd (by rw [f8]; exact hc.1) (by rw [f8]; exact hc.2) hKn.2.1 (h := G.2.1 + a.2.2) w1.1 fun H1 kC hkC e1 z1 o1 => ?_
  have w1' : Wd G (a.2.2 + 1) (va_up h a.2.2 (some (aO ci fs))) H1 := w1.push (by rw [z1, w1.1]) (fun q hq => o1 q (by rw [w1.1] at hq; exact hq)) ⟨_, h1, (u_born ty0 (f9.gets h2 (args := args)) (fun _ q => q) hKn hkC e1 h3).to (h7 G)⟩
  exact kk _ (va_up_s _ _ _) (Fr.up _ _ _) p e R s m args below meth c H1 _ LS F w1' (va_S.push w1 w2 (by rw [z1, w1.1]) (fun q hq => o1 q (by rw [w1.1] at hq; exact hq))) w3
theorem r_newa {n : Int} {N : Nat} (hd : decode y.cd pc = .ok (.newarray .int, 2)) (hw : inT (.arrayClass .int)) (hn : n = N) (hN : N ≤ 100000) (hc : a.1 + 1 ≤ y.mc ∧ a.2.1 + N ≤ y.ms)
    (kk : ∀ h1 : Hp, h1 a.2.2 = some (aA N (fun _ => 0)) → Fr (fun q => q = a.2.2) h h1 → At G y (pc + 2) L (vR a.2.2 :: st) (a.1 + 1, a.2.1 + N, a.2.2 + 1) h1 Q) : At G y pc L (vI n :: st) a h Q := by
  intro p e R s m args below meth c H locs LS F w1 w2 w3
  have ⟨f1, f2, f3, f4, f5, f6, f7, f8, f9, f10, f11, f12⟩ := F
  subst hn
  have hcl : (Int32.ofInt (N : Int)).toNatClampNeg = N := by
    have := i_clamp (a := (N : Int)) (n := N + 1) (by omega) (by omega)
    omega
  refine va_newaK (atype := .int) f1 f2 (f9.get hw) (g := F0 m pc LS _) rfl hd rfl (N := N) (fun q => by rw [← i_0, i_lt (by omega) (by omega)] at q; omega) hcl (show N * 4 ≤ 536870912 by omega) (by rw [f8]; exact hc.1) (by rw [f8]; exact hc.2) (h := G.2.1 + a.2.2) w1.1 fun H1 cA e1 z1 o1 hAr hNm => ?_
  have hR : s.vm.findClass ("[" ++ FieldType.int.toString) = some (G.2.2.2.1 0) := (f10.2 0 _ rfl).2
  have hN2 : s.vm.findClass ("[" ++ FieldType.int.toString) = some cA := hNm
  rw [hR] at hN2
  have hcA : G.2.2.2.1 0 = cA := Option.some.inj hN2
  subst hcA
  have w1' : Wd G (a.2.2 + 1) (va_up h a.2.2 (some (aA N (fun _ => 0)))) H1 := w1.push (by rw [z1, w1.1]) (fun q hq => o1 q (by rw [w1.1] at hq; exact hq)) (by
    show H1[G.2.1 + a.2.2]? = some (vp_cell _ (N, .inl _))
    rw [vp_cell_i, e1]
    rfl)
  exact kk _ (va_up_s _ _ _) (Fr.up _ _ _) p e R s m args below meth c H1 _ LS F w1' (va_S.push w1 w2 (by rw [z1, w1.1]) (fun q hq => o1 q (by rw [w1.1] at hq; exact hq))) w3
theorem r_newz {n : Int} {N : Nat} (hd : decode y.cd pc = .ok (.newarray .boolean, 2)) (hw : inT (.arrayClass .boolean)) (hn : n = N) (hN : N ≤ 100000) (hc : a.1 + 1 ≤ y.mc ∧ a.2.1 + N ≤ y.ms)
    (kk : ∀ h1 : Hp, h1 a.2.2 = some (aZ N (fun _ => 0)) → Fr (fun q => q = a.2.2) h h1 → At G y (pc + 2) L (vR a.2.2 :: st) (a.1 + 1, a.2.1 + N, a.2.2 + 1) h1 Q) : At G y pc L (vI n :: st) a h Q := by
  intro p e R s m args below meth c H locs LS F w1 w2 w3
  have ⟨f1, f2, f3, f4, f5, f6, f7, f8, f9, f10, f11, f12⟩ := F
  subst hn
  have hcl : (Int32.ofInt (N : Int)).toNatClampNeg = N := by
    have := i_clamp (a := (N : Int)) (n := N + 1) (by omega) (by omega)
    omega
  refine va_newaK (atype := .boolean) f1 f2 (f9.get hw) (g := F0 m pc LS _) rfl hd rfl (N := N) (fun q => by rw [← i_0, i_lt (by omega) (by omega)] at q; omega) hcl (show N * 1 ≤ 536870912 by omega) (by rw [f8]; exact hc.1) (by rw [f8]; exact hc.2) (h := G.2.1 + a.2.2) w1.1 fun H1 cA e1 z1 o1 hAr hNm => ?_
  have hR : s.vm.findClass ("[" ++ FieldType.boolean.toString) = some (G.2.2.2.1 1) := (f10.2 1 _ rfl).2
  have hN2 : s.vm.findClass ("[" ++ FieldType.boolean.toString) = some cA := hNm
  rw [hR] at hN2
  have hcA : G.2.2.2.1 1 = cA := Option.some.inj hN2
  subst hcA
  have w1' : Wd G (a.2.2 + 1) (va_up h a.2.2 (some (aZ N (fun _ => 0)))) H1 := w1.push (by rw [z1, w1.1]) (fun q hq => o1 q (by rw [w1.1] at hq; exact hq)) (by
    show H1[G.2.1 + a.2.2]? = some (vp_cell _ (N, .inl _))
    rw [vp_cell_i, e1]
    rfl)
  exact kk _ (va_up_s _ _ _) (Fr.up _ _ _) p e R s m args below meth c H1 _ LS F w1' (va_S.push w1 w2 (by rw [z1, w1.1]) (fun q hq => o1 q (by rw [w1.1] at hq; exact hq))) w3
theorem r_anew {i : Nat} {n : Int} {N : Nat} (hd : decode y.cd pc = .ok (.anewarray i, 3)) (hw : inT (.classLink y.nm.cls i RX7)) (hn : n = N) (hN : N ≤ 100000) (hc : a.1 + 1 ≤ y.mc ∧ a.2.1 + N ≤ y.ms)
    (kk : ∀ h1 : Hp, h1 a.2.2 = some (aW N (fun _ => none)) → Fr (fun q => q = a.2.2) h h1 → At G y (pc + 3) L (vR a.2.2 :: st) (a.1 + 1, a.2.1 + N, a.2.2 + 1) h1 Q) : At G y pc L (vI n :: st) a h Q := by
  intro p e R s m args below meth c H locs LS F w1 w2 w3
  have ⟨f1, f2, f3, f4, f5, f6, f7, f8, f9, f10, f11, f12⟩ := F
  subst hn
  have hcl : (Int32.ofInt (N : Int)).toNatClampNeg = N := by
    have := i_clamp (a := (N : Int)) (n := N + 1) (by omega) (by omega)
    omega
  refine W.anew f1 f2 f6 (f9.get hw) (va_AO.use f11.2.2.2.1) (g := F0 m pc LS _) rfl hd rfl (fun q => by rw [← i_0, i_lt (by omega) (by omega)] at q; omega) (by rw [hcl]; omega) (by rw [f8]; exact hc.1) (by rw [f8, hcl]; exact hc.2) fun cA kA comp g1 g2 g3 g4 => ?_
  rw [hcl]
  generalize hH1 : H.push ({ cls := cA, slots := Array.replicate N .null, vm := .none } : Cell) = H1
  have z1 : H1.size = H.size + 1 := by rw [← hH1, Array.size_push]
  have e1 : H1[H.size]? = some (arrV cA N (fun _ => .null)) := by rw [← hH1, Array.getElem?_push_size, ← arrV_new]
  have o1 : ∀ q : Nat, q < H.size → H1[q]? = H[q]? := fun q hq => by rw [← hH1, Array.getElem?_push, if_neg (Nat.ne_of_lt hq)]
  obtain ⟨kB, cB, b1, b2, b3, b4⟩ := (f10.2 2 _ rfl).2
  have hcA : cA = G.2.2.2.1 2 := Option.some.inj (g1.symm.trans b4)
  subst hcA
  rw [w1.1] at e1
  have w1' : Wd G (a.2.2 + 1) (va_up h a.2.2 (some (aW N (fun _ => none)))) H1 := w1.push z1 o1 (by
    show H1[G.2.1 + a.2.2]? = some (vp_cell _ _)
    rw [vp_cell_q]
    exact e1)
  rw [w1.1]
  exact kk _ (va_up_s _ _ _) (Fr.up _ _ _) p e R s m args below meth c H1 _ LS F w1' (va_S.push w1 w2 z1 o1) w3
theorem r_aast {j n v : Nat} {f : Int → Option Nat} {x : Int} {vs : List AV} (hd : decode y.cd pc = .ok (.aastore, 1)) (ho : h j = some (aW n f)) (hv : h v = some (aO 7 vs)) (hx : 0 ≤ x ∧ x < n) (hn : n < 2147483648)
    (kk : ∀ h1 : Hp, h1 j = some (aW n (fun q => if q = x then some v else f q)) → Fr (fun q => q = j) h h1 → At G y (pc + 1) L st a h1 Q) : At G y pc L (vR v :: vI x :: vR j :: st) a h Q := by
  intro p e R s m args below meth c H locs LS F w1 w2 w3
  have ⟨f1, f2, f3, f4, f5, f6, f7, f8, f9, f10, f11, f12⟩ := F
  have hi := i_vin hx hn
  have hlt : (Int32.ofInt x).toNatClampNeg < n := Nat.not_le.mp fun q => hi (Or.inr q)
  have h0 : ¬ Int32.ofInt x < 0 := fun q => hi (Or.inl q)
  obtain ⟨r', hr', cellV, g1, g2, g3, -⟩ := w1.2.2 v _ (cW_get (w1.lt hv) hv)
  have hcls := (f10.1 7 _ rfl).2
  obtain ⟨kA, comp, k1, k2, k3, -⟩ := (f10.2 2 _ rfl).2
  have hcomp : comp = G.2.2.1.1 7 := Option.some.inj (k3.symm.trans hcls.1)
  subst hcomp
  obtain ⟨kC, hkC, -⟩ := hcls.2
  refine W.aast f1 f2 (w1.2.2 j _ (cW_get (w1.lt ho) ho)) (fun q h => by cases h) (fun h => by cases h) k1 k2 rfl hkC ⟨h0, by show _ < (arrV _ _ _).slots.size; rw [arrV_size]; exact hlt⟩ g1 (fun q h => by rw [g3] at h; cases h) (by rw [g2]; exact hkC) (by rw [g2]; exact va_assign hcls) rfl rfl hd fun H1 e1 z1 oq => ?_
  have w1' : Wd G a.2.2 (va_up h j (some (aW n (fun q => if q = x then some v else f q)))) H1 := w1.put ho z1 oq (by
    show H1[G.2.1 + j]? = some (vp_cell _ (n, .inr (.inr (.inr (.inr _)))))
    rw [e1]
    show some ((vp_cell _ (n, .inr (.inr (.inr (.inr _))))).setSlot _ _) = _
    rw [vp_cell_q, vp_cell_q, arrV_store]
    congr 2
    funext q
    have hc := i_clamp hx hn
    by_cases hq : q = (Int32.ofInt x).toNatClampNeg
    · subst hq
      simp only [updV, hc, if_true]
      rfl
    · have : ¬ (q : Int) = x := by omega
      simp only [updV, if_neg this, if_neg hq])
  exact kk _ (va_up_s _ _ _) (Fr.up _ _ _) p e R s m args below meth c H1 _ LS F w1' (w2.put z1 oq (show G.2.1 ≤ G.2.1 + j by omega)) w3
theorem r_oinit {i j : Nat} (hd : decode y.cd pc = .ok (.invokespecial i, 3)) (hl : inT (.methodLink y.nm.cls i objectInit)) (hl2 : inT (.instanceMethod objectInit)) (hl3 : inT (.code objectInit ⟨#[0xb1]⟩ 1 none)) (hf : 1 ≤ y.fr ∧ (st.map (fun v => if isJ v then 2 else 1)).sum + 12 ≤ y.lo) (kk : At G y (pc + 3) L st a h Q) : At G y pc L (vR j :: st) a h Q := by
  intro p e R s m args below meth c H locs LS F w1 w2 w3
  have ⟨f1, f2, f3, f4, f5, f6, f7, f8, f9, f10, f11, f12⟩ := F
  refine W.objInit f1 f2 f6 (f9.get hl) (f9.get hl2) (f9.get hl3) rfl (by rw [f3]; exact w3.1.1) rfl hd (by rw [f8]; exact hf.1) ?_ (kk p e R s m args below meth c H locs LS F w1 w2 w3)
  rw [st_cat, f8]
  show 2 * 0 + _ + _ ≤ y.lo
  omega
theorem r_min {i : Nat} {x z : Int} (hd : decode y.cd pc = .ok (.invokestatic i, 3)) (hl : inT (.methodLink y.nm.cls i Lib.Math.min.name)) (hl2 : inT (.static Lib.Math.min.name)) (hl3 : inT (.initialized "java/lang/Math")) (hl4 : inT (.code Lib.Math.min.name Lib.Math.min.code 2 (some .int))) (hf : 1 ≤ y.fr ∧ (st.map (fun v => if isJ v then 2 else 1)).sum + 13 ≤ y.lo) (hc : a.1 ≤ y.mc ∧ a.2.1 ≤ y.ms)
    (hx : -2147483648 ≤ x ∧ x < 2147483648) (hz : -2147483648 ≤ z ∧ z < 2147483648) (kk : At G y (pc + 3) L (vI (if z < x then z else x) :: st) a h Q) : At G y pc L (vI z :: vI x :: st) a h Q := by
  intro p e R s m args below meth c H locs LS F w1 w2 w3
  have ⟨f1, f2, f3, f4, f5, f6, f7, f8, f9, f10, f11, f12⟩ := F
  refine va_mmin f1 f2 (by rw [f3]; exact w3.1.1.symm) f6 (f9.get hl) (f9.get hl2) (f9.get hl3) (f9.get hl4) (by rw [f8]; exact hf.1) (by rw [st_cat, f8]; exact hf.2) (by rw [f8]; exact hc.1) (by rw [f8]; exact hc.2) hd ?_
  have ee : (if Int32.ofInt z < Int32.ofInt x then Int32.ofInt z else Int32.ofInt x) = Int32.ofInt (if z < x then z else x) := by
    by_cases hq : z < x
    · rw [if_pos hq, if_pos ((i_lt hz hx).mpr hq)]
    · rw [if_neg hq, if_neg (fun q => hq ((i_lt hz hx).mp q))]
  rw [ee]
  exact kk p e R s m args below meth c H locs LS F w1 w2 w3
/-- behind a call -/
theorem r_back {y1 : MT} {rest : List AV} {p : Program} {e : Env} {R : Room} {s : State} {m : MethodId} {args : Array Value} {below : List Frame} {meth : Method} {c : Code} {H : Heap} {locs : List Loc} {LS : Array Slot} {st0 : List Value} {Q1 : PT} {aa : Array Value}
    (F : Fx G y p s m meth c R) (w2 : va_S (aAd G) s.heap H locs) (w3 : lvc G LS y.mL L)
    (hr : va_Run p G.1 e R s m args below meth c H locs a.1 a.2.1 y1.mc y1.ms (F0 m pc LS st0) (rest.map (cv G)) (QC G Q1 aa) (aAd G))
    (kk : ∀ r n' h', Q1 r n' h' → At G y (pc + 3) L (r.toList ++ rest) (a.1 + y1.mc, a.2.1 + y1.ms, n') h' Q) :
    W p G.1 e R s m args below meth c H locs a.1 a.2.1 (MQ below (QC G Q) args s y.mc y.ms (aAd G)) (F0 m pc LS st0) := by
  intro T hT X
  obtain ⟨v, st₀, t, T', L', h0, X', hL, e1, e2, ⟨⟨r, n', h', hv, hq, hw⟩, hz, hk⟩, stp⟩ := hr T hT X
  cases hv
  rw [h0] at hz hk
  have w2' : va_S (aAd G) s.heap T'.heap (locs ++ L') := ⟨Nat.le_trans w2.1 (by rw [e1]; exact hz), fun q h1 h2 => by rw [e1, hk q (Nat.lt_of_lt_of_le h1 w2.1) h2]; exact w2.2.1 q h1 h2, fun q hq => by
      rcases List.mem_append.mp hq with h | h
      · exact w2.2.2 q h
      · exact hL q h⟩
  obtain ⟨t2, a1, b1⟩ := kk r n' h' hq p e R s m args below meth c T'.heap (locs ++ L') LS F (by rw [e1]; exact hw) w2' w3 T' rfl X'
  refine ⟨t2, stp t2 ?_, b1⟩
  have ee : (r.toList ++ rest).map (cv G) = (Option.map (cv G) r).toList ++ rest.map (cv G) := by
    cases r <;> simp
  rw [ee] at a1
  exact a1
theorem r_pre {p : Program} {R : Room} {s : State} {m : MethodId} {meth : Method} {c : Code} {H : Heap} {locs : List Loc} {as : List AV} (F : Fx G y p s m meth c R) (w1 : Wd G a.2.2 h H) (w2 : va_S (aAd G) s.heap H locs) : ∀ U : State, U.heap = H → s.WarmedH U.vm → PC G as a.2.2 h (as.map (cv G)).toArray U := by
  intro U hU hW
  have ⟨f1, f2, f3, f4, f5, f6, f7, f8, f9, f10, f11, f12⟩ := F
  exact ⟨rfl, f9.warm hW, va_K.moved hW.alike f10, f11.go hW (by rw [hU]; exact w2.2.1), by rw [hU]; exact w1⟩
theorem lk_B {p : Program} {R : Room} {s : State} {m : MethodId} {args : Array Value} {meth : Method} {c : Code} {own : String} {i n : Nat} {y1 : MT} {st : List AV} (F : Fx G y p s m meth c R) (hb : LkB own i y1 n) (hf : Fit y y1 a st) (hl : inT (.methodLink own i y1.nm)) :
    CallB R s args own i y1.nm y1.cd y1.mL y1.rt [.code y1.nm y1.cd y1.mL y1.rt] (rmOf y1) y1.mc y1.ms n := by
  have ⟨f1, f2, f3, f4, f5, f6, f7, f8, f9, f10, f11, f12⟩ := F
  refine ⟨rfl, rfl, by rw [f8]; exact hf.1.1, by rw [f8]; exact hf.1.2, fun w hw a' U hW => ?_, List.mem_singleton.mpr rfl, f9.get hb.1, f9.get hb.2.1, ⟨hb.2.2.1, hb.2.2.2.1⟩, fun sig h => ?_, f9.get hl⟩
  · rw [List.mem_singleton.mp hw]
    exact (f9.warm hW).get hb.1
  · have h2 := hb.2.2.2.2
    rw [h] at h2
    exact (Option.some.inj h2).symm
theorem lk_N {p : Program} {R : Room} {s : State} {m : MethodId} {args : Array Value} {meth : Method} {c : Code} {own host : String} {i n : Nat} {y1 : MT} {st : List AV} (F : Fx G y p s m meth c R) (hb : LkB own i y1 n) (hf : Fit y y1 a st) (hl : inT (.methodLinkNest own i y1.nm host)) :
    va_CN R s args own i y1.nm host y1.cd y1.mL y1.rt [.code y1.nm y1.cd y1.mL y1.rt] (rmOf y1) y1.mc y1.ms n := by
  have ⟨f1, f2, f3, f4, f5, f6, f7, f8, f9, f10, f11, f12⟩ := F
  refine ⟨⟨rfl, rfl, by rw [f8]; exact hf.1.1, by rw [f8]; exact hf.1.2, fun w hw a' U hW => ?_, List.mem_singleton.mpr rfl⟩, f9.get hb.1, f9.get hb.2.1, ⟨hb.2.2.1, hb.2.2.2.1⟩, fun sig h => ?_, f9.get hl⟩
  · rw [List.mem_singleton.mp hw]
    exact (f9.warm hW).get hb.1
  · have h2 := hb.2.2.2.2
    rw [h] at h2
    exact (Option.some.inj h2).symm
theorem r_invS {i : Nat} {y1 : MT} {as : List AV} (hd : decode y.cd pc = .ok (.invokestatic i, 3)) (hl : LkS y.nm.cls i y1 as.length) (hf : Fit y y1 a st)
    (kk : Cl G y1 as a.2.2 h (fun r n' h' => At G y (pc + 3) L (r.toList ++ st) (a.1 + y1.mc, a.2.1 + y1.ms, n') h' Q)) : At G y pc L (as.reverse ++ st) a h Q := by
  intro p e R s m args below meth c H locs LS F w1 w2 w3
  have ⟨f1, f2, f3, f4, f5, f6, f7, f8, f9, f10, f11, f12⟩ := F
  rw [List.map_append, List.map_reverse]
  refine r_back (a := a) F w2 w3 (va_runS (As := as.map (cv G)) (nL := y.mL) (Ts := []) ⟨f1, f2, f3, f6, fun w hw => by cases hw⟩ kk ⟨lk_B F hl.1 hf hl.2.1, f9.get hl.2.2⟩ ⟨PC.blind _ _ _ _, r_pre F w1 w2⟩ rfl (by simp) w3.1.1 rfl (lv_room (by rw [st_cat]; exact hf.2.2)) hd ⟨by rw [f8]; exact hf.2.1.1, by rw [f8]; exact hf.2.1.2⟩) (fun r n' h' q => q)
theorem r_invSN {i : Nat} {y1 : MT} {as : List AV} (hd : decode y.cd pc = .ok (.invokestatic i, 3)) (hl : LkSN y.nm.cls i y1 as.length) (hf : Fit y y1 a st)
    (kk : Cl G y1 as a.2.2 h (fun r n' h' => At G y (pc + 3) L (r.toList ++ st) (a.1 + y1.mc, a.2.1 + y1.ms, n') h' Q)) : At G y pc L (as.reverse ++ st) a h Q := by
  intro p e R s m args below meth c H locs LS F w1 w2 w3
  have ⟨f1, f2, f3, f4, f5, f6, f7, f8, f9, f10, f11, f12⟩ := F
  obtain ⟨hb, ⟨host, hn⟩, hs⟩ := hl
  rw [List.map_append, List.map_reverse]
  refine r_back (a := a) F w2 w3 (va_runSN (As := as.map (cv G)) (nL := y.mL) (Ts := []) ⟨f1, f2, f3, f6, fun w hw => by cases hw⟩ kk ⟨lk_N F hb hf hn, f9.get hs, trivial⟩ ⟨PC.blind _ _ _ _, r_pre F w1 w2⟩ rfl (by simp) w3.1.1 rfl (lv_room (by rw [st_cat]; exact hf.2.2)) hd ⟨by rw [f8]; exact hf.2.1.1, by rw [f8]; exact hf.2.1.2⟩) (fun r n' h' q => q)
theorem r_invV {i j ci : Nat} {y1 : MT} {fs : List AV} {as : List AV} (hd : decode y.cd pc = .ok (.invokevirtual i, 3)) (hl : LkV y.nm.cls i y1 as.length ci) (hf : Fit y y1 a st) (ho : h j = some (aO ci fs))
    (kk : Cl G y1 (vR j :: as) a.2.2 h (fun r n' h' => At G y (pc + 3) L (r.toList ++ st) (a.1 + y1.mc, a.2.1 + y1.ms, n') h' Q)) : At G y pc L (as.reverse ++ vR j :: st) a h Q := by
  intro p e R s m args below meth c H locs LS F w1 w2 w3
  have ⟨f1, f2, f3, f4, f5, f6, f7, f8, f9, f10, f11, f12⟩ := F
  obtain ⟨hb, h1, h2, q, h3, h4⟩ := hl
  rw [List.map_append, List.map_reverse]
  refine r_back (a := a) F w2 w3 (va_runV (C := q.1) (As := as.map (cv G)) (nL := y.mL) (Ts := []) ⟨f1, f2, f3, f6, fun w hw => by cases hw⟩ kk ⟨lk_B F hb hf h1, f9.get h2, f9.get h4⟩ ⟨PC.blind _ _ _ _, va_recv f10 w1.2.2 h3 (cW_get (w1.lt ho) ho), r_pre (as := vR j :: as) F w1 w2⟩ rfl (by simp) w3.1.1 rfl (lv_room (by rw [st_cat]; exact hf.2.2)) hd ⟨by rw [f8]; exact hf.2.1.1, by rw [f8]; exact hf.2.1.2⟩) (fun r n' h' q => q)
theorem r_invI {i j : Nat} {y1 : MT} {as : List AV} (hd : decode y.cd pc = .ok (.invokespecial i, 3)) (hl : LkI y.nm.cls i y1 as.length) (hf : Fit y y1 a st)
    (kk : Cl G y1 (vR j :: as) a.2.2 h (fun r n' h' => At G y (pc + 3) L (r.toList ++ st) (a.1 + y1.mc, a.2.1 + y1.ms, n') h' Q)) : At G y pc L (as.reverse ++ vR j :: st) a h Q := by
  intro p e R s m args below meth c H locs LS F w1 w2 w3
  have ⟨f1, f2, f3, f4, f5, f6, f7, f8, f9, f10, f11, f12⟩ := F
  obtain ⟨hb, h1, h2, h3, h4⟩ := hl
  have cb := lk_B (args := args) F hb hf h1
  rw [List.map_append, List.map_reverse]
  refine r_back (a := a) F w2 w3 (va_runI (As := as.map (cv G)) (nL := y.mL) (Ts := []) ⟨f1, f2, f3, f6, fun w hw => by cases hw⟩ kk ⟨by rw [h4] at cb ⊢; exact cb, h3, f9.get h2⟩ ⟨PC.blind _ _ _ _, r_pre (as := vR j :: as) F w1 w2⟩ rfl (by simp) w3.1.1 rfl (lv_room (by rw [st_cat]; exact hf.2.2)) hd ⟨by rw [f8]; exact hf.2.1.1, by rw [f8]; exact hf.2.1.2⟩) (fun r n' h' q => q)
theorem r_invIN {i j : Nat} {y1 : MT} {as : List AV} (hd : decode y.cd pc = .ok (.invokespecial i, 3)) (hl : LkIN y.nm.cls i y1 as.length) (hf : Fit y y1 a st)
    (kk : Cl G y1 (vR j :: as) a.2.2 h (fun r n' h' => At G y (pc + 3) L (r.toList ++ st) (a.1 + y1.mc, a.2.1 + y1.ms, n') h' Q)) : At G y pc L (as.reverse ++ vR j :: st) a h Q := by
  intro p e R s m args below meth c H locs LS F w1 w2 w3
  have ⟨f1, f2, f3, f4, f5, f6, f7, f8, f9, f10, f11, f12⟩ := F
  obtain ⟨hb, ⟨host, h1⟩, h2, h3, h4⟩ := hl
  have cb := lk_N (args := args) F hb hf h1
  rw [List.map_append, List.map_reverse]
  refine r_back (a := a) F w2 w3 (va_runIN (As := as.map (cv G)) (nL := y.mL) (Ts := []) ⟨f1, f2, f3, f6, fun w hw => by cases hw⟩ kk ⟨by rw [h4] at cb ⊢; exact cb, h3, f9.get h2⟩ ⟨PC.blind _ _ _ _, r_pre (as := vR j :: as) F w1 w2⟩ rfl (by simp) w3.1.1 rfl (lv_room (by rw [st_cat]; exact hf.2.2)) hd ⟨by rw [f8]; exact hf.2.1.1, by rw [f8]; exact hf.2.1.2⟩) (fun r n' h' q => q)
end KR
