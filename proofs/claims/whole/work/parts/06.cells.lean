/-! ===== rows: fields, arrays, returns, switches ===== -/
def iu (f : Int → Int) (i v : Int) : Int → Int := fun j => if j = i then v else f j
/-- outside of S the heap is as it was -/
def Fr (S : Nat → Prop) (h h1 : Hp) : Prop := ∀ j, ¬ S j → h1 j = h j
theorem Wd.lt {G : GT} {n : Nat} {h : Hp} {H : Heap} (w : Wd G n h H) {j : Nat} {e : AE} (hj : h j = some e) : j < n := by
  refine Nat.not_le.mp fun q => ?_
  rw [w.2.1 j q] at hj
  cases hj
/-- a cell is written: the world behind it -/
theorem Wd.put {G : GT} {n : Nat} {h : Hp} {H H1 : Heap} {j : Nat} {e e1 : AE} (w : Wd G n h H) (hj : h j = some e) (z : H1.size = H.size) (oq : ∀ q : Nat, q ≠ G.2.1 + j → H1[q]? = H[q]?) (he : va_at G.2.2.1 vwCl (G.2.1 + j, cE G e1) H1) : Wd G n (va_up h j (some e1)) H1 := by
  have hl := w.lt hj
  refine ⟨by rw [z]; exact w.1, fun k hk => ?_, ?_⟩
  · have : k ≠ j := by omega
    simp only [va_up, this, if_false]
    exact w.2.1 k hk
  · rw [← cW_set e1 hl]
    exact w.2.2.set (cW_D G n h) (cW_get hl hj) he oq
theorem Fr.up (h : Hp) (j : Nat) (c : Option AE) : Fr (fun q => q = j) h (va_up h j c) := fun q hq => by simp only [va_up, if_neg hq]
theorem va_up_s (h : Hp) (j : Nat) (c : Option AE) : va_up h j c j = c := by simp [va_up]
def FA (own : String) (i ci k : Nat) : Prop := ∃ C T N, vwCl[ci]? = some (C, T, N) ∧ k < N ∧ inTs (u_ws C T N) ∧ inT (.fieldLink own i (T k).1 (T k).2.1 (T k).2.2.1)
def FP (own : String) (i ci k : Nat) (ty : FieldType) (fin : Bool) : Prop := ∃ (C : String) (T : u_T) (N : Nat) (ty0 : Nat → FieldType), vwCl[ci]? = some (C, T, N) ∧ k < N ∧ inTs (u_ws C T N) ∧ inT (.fieldLink own i (T k).1 (T k).2.1 (T k).2.2.1) ∧
  (∀ k, k < N → parseFieldDescriptor (T k).2.2.1 = some (ty0 k)) ∧ (∀ a, a < N → ∀ b, b < N → a ≠ b → (T a).2.1 ≠ (T b).2.1) ∧ parseFieldDescriptor (T k).2.2.1 = some ty ∧ (T k).2.2.2 = fin ∧ (fin = true → (T k).1 = own)
section CR
variable {G : GT} {y : MT} {pc : Nat} {L st : List AV} {a : AL} {h : Hp} {Q : PT}
theorem r_getf {i j ci k : Nat} {fs : List AV} {v : AV} (hd : decode y.cd pc = .ok (.getfield i, 3)) (hf : FA y.nm.cls i ci k) (ho : h j = some (aO ci fs)) (hv : fs[k]? = some v) (kk : At G y (pc + 3) L (v :: st) a h Q) : At G y pc L (vR j :: st) a h Q := by
  intro p e R s m args below meth c H locs LS F w1 w2 w3
  obtain ⟨C, T, N, h1, h2, h3, h4⟩ := hf
  have ⟨f1, f2, f3, f4, f5, f6, f7, f8, f9, f10, f11, f12⟩ := F
  exact va_get f1 f2 (Ts := u_ws C T N) (f9.gets h3) (fun _ q => q) f6 f10 w1.2.2 j (cW_get (w1.lt ho) ho) h1 k h2 (f9.get h4) (fun _ q => q) (v := cv G v) (by simp [hv]) hd (kk p e R s m args below meth c H locs LS F w1 w2 w3)
theorem r_putf {i j ci k : Nat} {ty : FieldType} {fs : List AV} {v v0 : AV} (hd : decode y.cd pc = .ok (.putfield i, 3)) (hf : FP y.nm.cls i ci k ty false) (hn : narrow ty (cv G v) = cv G v) (hft : fits ty (cv G v) = true) (ho : h j = some (aO ci fs)) (hv : fs[k]? = some v0)
    (kk : ∀ h1 : Hp, h1 j = some (aO ci (fs.set k v)) → Fr (fun q => q = j) h h1 → At G y (pc + 3) L st a h1 Q) : At G y pc L (v :: vR j :: st) a h Q := by
  intro p e R s m args below meth c H locs LS F w1 w2 w3
  obtain ⟨C, T, N, ty0, hc, hk, h3, hl, hty, hnm, hd0, hfin, -⟩ := hf
  have ⟨f1, f2, f3, f4, f5, f6, f7, f8, f9, f10, f11, f12⟩ := F
  have hts := f9.gets h3 (args := args)
  have hap := va_apart (own := y.nm.cls) hts (fun _ q => q) ty0 hty hnm f10 hc
  obtain ⟨r, e1, cell, q1, q2, q3, q4⟩ := w1.2.2 j _ (cW_get (w1.lt ho) ho)
  have hr : r = (C, T, N) := Option.some.inj (e1.symm.trans hc)
  subst hr
  obtain ⟨hS, hfc, kC, hkC, hkind⟩ := f10.1 ci _ hc
  obtain ⟨cf, kf, fi, f, hi, hsl⟩ := hS k hk
  have hlay := hts _ (u_in_lay hk)
  unfold u_lay at hlay
  rw [if_neg (by rw [hfin]; decide)] at hlay
  have hst := (u_facts hfc hkC (u_lays hts (fun _ q => q) hk) hi).1
  have h6 := u_store hfc hkC hkind hlay hi hd0 hn hft
  refine W.putK f1 f2 (f := f) ⟨f6, f9.get hl, ⟨_, _, _, hi⟩, hst⟩ (by rw [q2]; exact h6) q1 q3 (by rw [hsl]; exact k2_hasslot (q4 k hk)) rfl rfl hd fun H' e1 e2 e3 => ?_
  rw [hsl] at e1 ⊢
  have hlen : k < (fs.map (cv G)).length := by simpa using (List.getElem?_eq_some_iff.mp hv).1
  have w1' : Wd G a.2.2 (va_up h j (some (aO ci (fs.set k v)))) H' := w1.put ho e2 e3 (by
    refine ⟨_, hc, t_OB.to (V := updV (vp_V (fs.map (cv G))) k (cv G v)) ⟨_, e1, q2, q3, t_set q4 hap hk _⟩ (fun j _ => ?_)⟩
    rw [vp_updV_set hlen, ← List.map_set])
  exact kk _ (va_up_s _ _ _) (Fr.up _ _ _) p e R s m args below meth c H' _ LS F w1' (w2.put e2 e3 (show G.2.1 ≤ G.2.1 + j by omega)) w3
theorem r_putF {i j ci k : Nat} {ty : FieldType} {fs : List AV} {v v0 : AV} (hd : decode y.cd pc = .ok (.putfield i, 3)) (hin : y.nm.name = "<init>") (hf : FP y.nm.cls i ci k ty true) (hn : narrow ty (cv G v) = cv G v) (hft : fits ty (cv G v) = true) (ho : h j = some (aO ci fs)) (hv : fs[k]? = some v0)
    (kk : ∀ h1 : Hp, h1 j = some (aO ci (fs.set k v)) → Fr (fun q => q = j) h h1 → At G y (pc + 3) L st a h1 Q) : At G y pc L (v :: vR j :: st) a h Q := by
  intro p e R s m args below meth c H locs LS F w1 w2 w3
  obtain ⟨C, T, N, ty0, hc, hk, h3, hl, hty, hnm, hd0, hfin, hdecl⟩ := hf
  have ⟨f1, f2, f3, f4, f5, f6, f7, f8, f9, f10, f11, f12⟩ := F
  have hts := f9.gets h3 (args := args)
  have hap := va_apart (own := y.nm.cls) hts (fun _ q => q) ty0 hty hnm f10 hc
  obtain ⟨r, e1, cell, q1, q2, q3, q4⟩ := w1.2.2 j _ (cW_get (w1.lt ho) ho)
  have hr : r = (C, T, N) := Option.some.inj (e1.symm.trans hc)
  subst hr
  obtain ⟨hS, hfc, kC, hkC, hkind⟩ := f10.1 ci _ hc
  obtain ⟨cf, kf, fi, f, hi, hsl⟩ := hS k hk
  have hlay := hts _ (u_in_lay hk)
  unfold u_lay at hlay
  rw [if_pos hfin] at hlay
  have hst := (u_facts hfc hkC (u_lays hts (fun _ q => q) hk) hi).1
  have hcf : m.cls = cf := by
    obtain ⟨_, _, c', _, _, _, -, -, hf', -, -, -, hown2, -⟩ := Cond.laysFinal_spec hlay
    have e1 : c' = cf := by have := hi.symm.trans hf'; simp at this; exact this.1.symm
    rw [hdecl rfl] at hown2
    rw [← e1]; exact Option.some.inj (f6.symm.trans hown2)
  have h6 := u_fits hfc hkC hkind (Or.inr hlay) hi hd0 hn hft
  refine W.putFinK f1 f2 f6 (f9.get hl) hi hst hcf (by rw [f7]; exact hin) (by rw [q2]; exact h6) q1 q3 (by rw [hsl]; exact k2_hasslot (q4 k hk)) rfl rfl hd fun H' e1 e2 e3 => ?_
  rw [hsl] at e1 ⊢
  have hlen : k < (fs.map (cv G)).length := by simpa using (List.getElem?_eq_some_iff.mp hv).1
  have w1' : Wd G a.2.2 (va_up h j (some (aO ci (fs.set k v)))) H' := w1.put ho e2 e3 (by
    refine ⟨_, hc, t_OB.to (V := updV (vp_V (fs.map (cv G))) k (cv G v)) ⟨_, e1, q2, q3, t_set q4 hap hk _⟩ (fun j _ => ?_)⟩
    rw [vp_updV_set hlen, ← List.map_set])
  exact kk _ (va_up_s _ _ _) (Fr.up _ _ _) p e R s m args below meth c H' _ LS F w1' (w2.put e2 e3 (show G.2.1 ≤ G.2.1 + j by omega)) w3
theorem r_iald {j n : Nat} {f : Int → Int} {x : Int} (hd : decode y.cd pc = .ok (.iaload, 1)) (ho : h j = some (aA n f)) (hx : 0 ≤ x ∧ x < n) (hn : n < 2147483648) (kk : At G y (pc + 1) L (vI (f x) :: st) a h Q) : At G y pc L (vI x :: vR j :: st) a h Q := by
  intro p e R s m args below meth c H locs LS F w1 w2 w3
  have ⟨f1, f2, f3, f4, f5, f6, f7, f8, f9, f10, f11, f12⟩ := F
  refine va_iald f1 f2 f10 w1.2.2 j 0 (cW_get (w1.lt ho) ho) rfl (i_vin hx hn) hd ?_
  rw [i_clamp hx hn]
  exact kk p e R s m args below meth c H locs LS F w1 w2 w3
theorem r_zald {j n : Nat} {f : Int → Int} {x : Int} (hd : decode y.cd pc = .ok (.baload, 1)) (ho : h j = some (aZ n f)) (hx : 0 ≤ x ∧ x < n) (hn : n < 2147483648) (kk : At G y (pc + 1) L (vI (f x) :: st) a h Q) : At G y pc L (vI x :: vR j :: st) a h Q := by
  intro p e R s m args below meth c H locs LS F w1 w2 w3
  have ⟨f1, f2, f3, f4, f5, f6, f7, f8, f9, f10, f11, f12⟩ := F
  refine va_zald f1 f2 f10 w1.2.2 j 1 (cW_get (w1.lt ho) ho) rfl (i_vin hx hn) hd ?_
  rw [i_clamp hx hn]
  exact kk p e R s m args below meth c H locs LS F w1 w2 w3
theorem r_aald {j n : Nat} {f : Int → Option Nat} {x : Int} {k : Nat} (hd : decode y.cd pc = .ok (.aaload, 1)) (ho : h j = some (aW n f)) (hx : 0 ≤ x ∧ x < n) (hn : n < 2147483648) (hk : f x = some k) (kk : At G y (pc + 1) L (vR k :: st) a h Q) : At G y pc L (vI x :: vR j :: st) a h Q := by
  intro p e R s m args below meth c H locs LS F w1 w2 w3
  have ⟨f1, f2, f3, f4, f5, f6, f7, f8, f9, f10, f11, f12⟩ := F
  refine va_aldq f1 f2 f10 w1.2.2 j 2 (cW_get (w1.lt ho) ho) rfl (i_vin hx hn) hd ?_
  rw [i_clamp hx hn, hk]
  exact kk p e R s m args below meth c H locs LS F w1 w2 w3
theorem r_aaldN {j n : Nat} {f : Int → Option Nat} {x : Int} (hd : decode y.cd pc = .ok (.aaload, 1)) (ho : h j = some (aW n f)) (hx : 0 ≤ x ∧ x < n) (hn : n < 2147483648) (hk : f x = none) (kk : At G y (pc + 1) L (vN :: st) a h Q) : At G y pc L (vI x :: vR j :: st) a h Q := by
  intro p e R s m args below meth c H locs LS F w1 w2 w3
  have ⟨f1, f2, f3, f4, f5, f6, f7, f8, f9, f10, f11, f12⟩ := F
  refine va_aldq f1 f2 f10 w1.2.2 j 2 (cW_get (w1.lt ho) ho) rfl (i_vin hx hn) hd ?_
  rw [i_clamp hx hn, hk]
  exact kk p e R s m args below meth c H locs LS F w1 w2 w3
theorem cE_iu {f : Int → Int} {x z : Int} {n : Nat} (hx : 0 ≤ x ∧ x < n) (hn : n < 2147483648) : (fun k : Nat => Value.int (Int32.ofInt (iu f x z (k : Int)))) = updV (fun k : Nat => Value.int (Int32.ofInt (f (k : Int)))) (Int32.ofInt x).toNatClampNeg (.int (Int32.ofInt z)) := by
  funext q
  have hc := i_clamp hx hn
  by_cases hq : q = (Int32.ofInt x).toNatClampNeg
  · subst hq
    simp only [updV, iu, hc, if_true]
  · have : ¬ (q : Int) = x := by omega
    simp only [updV, iu, if_neg this, if_neg hq]
theorem r_iast {j n : Nat} {f : Int → Int} {x z : Int} (hd : decode y.cd pc = .ok (.iastore, 1)) (ho : h j = some (aA n f)) (hx : 0 ≤ x ∧ x < n) (hn : n < 2147483648)
    (kk : ∀ h1 : Hp, h1 j = some (aA n (iu f x z)) → Fr (fun q => q = j) h h1 → At G y (pc + 1) L st a h1 Q) : At G y pc L (vI z :: vI x :: vR j :: st) a h Q := by
  intro p e R s m args below meth c H locs LS F w1 w2 w3
  have ⟨f1, f2, f3, f4, f5, f6, f7, f8, f9, f10, f11, f12⟩ := F
  refine W.iast f1 f2 (w1.2.2 j _ (cW_get (w1.lt ho) ho)) ((f10.2 0 _ rfl).1 n (fun j => .int (Int32.ofInt (f (j : Int))))) (fun q => by cases q) (by show ¬ (_ ∨ (arrV _ _ _).slots.size ≤ _); rw [arrV_size]; exact i_vin hx hn) rfl rfl hd fun H1 e1 z1 oq => ?_
  have w1' : Wd G a.2.2 (va_up h j (some (aA n (iu f x z)))) H1 := w1.put ho z1 oq (by
    show H1[G.2.1 + j]? = some (vp_cell _ (n, .inl _))
    rw [e1]
    show some ((vp_cell _ (n, .inl _)).setSlot _ _) = _
    rw [vp_cell_i, vp_cell_i, arrV_store, cE_iu hx hn])
  exact kk _ (va_up_s _ _ _) (Fr.up _ _ _) p e R s m args below meth c H1 _ LS F w1' (w2.put z1 oq (show G.2.1 ≤ G.2.1 + j by omega)) w3
theorem r_zast {j n : Nat} {f : Int → Int} {x z : Int} (hd : decode y.cd pc = .ok (.bastore, 1)) (ho : h j = some (aZ n f)) (hx : 0 ≤ x ∧ x < n) (hn : n < 2147483648) (hz : z = 0 ∨ z = 1)
    (kk : ∀ h1 : Hp, h1 j = some (aZ n (iu f x z)) → Fr (fun q => q = j) h h1 → At G y (pc + 1) L st a h1 Q) : At G y pc L (vI z :: vI x :: vR j :: st) a h Q := by
  intro p e R s m args below meth c H locs LS F w1 w2 w3
  have ⟨f1, f2, f3, f4, f5, f6, f7, f8, f9, f10, f11, f12⟩ := F
  refine W.zast f1 f2 (w1.2.2 j _ (cW_get (w1.lt ho) ho)) ((f10.2 1 _ rfl).1 n (fun j => .int (Int32.ofInt (f (j : Int))))) (fun q => by cases q) (by show ¬ (_ ∨ (arrV _ _ _).slots.size ≤ _); rw [arrV_size]; exact i_vin hx hn) rfl rfl hd fun H1 e1 z1 oq => ?_
  have hnar : narrow .boolean (.int (Int32.ofInt z)) = .int (Int32.ofInt z) := by rcases hz with rfl | rfl <;> rfl
  have w1' : Wd G a.2.2 (va_up h j (some (aZ n (iu f x z)))) H1 := w1.put ho z1 oq (by
    show H1[G.2.1 + j]? = some (vp_cell _ (n, .inl _))
    rw [e1]
    show some ((vp_cell _ (n, .inl _)).setSlot _ _) = _
    rw [hnar, vp_cell_i, vp_cell_i, arrV_store, cE_iu hx hn])
  exact kk _ (va_up_s _ _ _) (Fr.up _ _ _) p e R s m args below meth c H1 _ LS F w1' (w2.put z1 oq (show G.2.1 ≤ G.2.1 + j by omega)) w3
theorem r_alen {j n : Nat} {f : Int → Int} (hd : decode y.cd pc = .ok (.arraylength, 1)) (ho : h j = some (aA n f)) (kk : At G y (pc + 1) L (vI n :: st) a h Q) : At G y pc L (vR j :: st) a h Q := by
  intro p e R s m args below meth c H locs LS F w1 w2 w3
  have ⟨f1, f2, f3, f4, f5, f6, f7, f8, f9, f10, f11, f12⟩ := F
  exact va_alen f1 f2 f10 w1.2.2 j 0 (cW_get (w1.lt ho) ho) rfl (v := Int32.ofInt n) (by rfl) hd (kk p e R s m args below meth c H locs LS F w1 w2 w3)
theorem r_ifnonnull {j t : Nat} {off : Int} (hd : decode y.cd pc = .ok (.ifnonnull off, 3)) (ht : (pc : Int) + off = (t : Int)) (kk : At G y t L st a h Q) : At G y pc L (vR j :: st) a h Q := by
  intro p e R s m args below meth c H locs LS F w1 w2 w3
  exact lv_ifnonnull F.1 F.2.1 hd ht (kk p e R s m args below meth c H locs LS F w1 w2 w3)
theorem r_ifnonnullN {off : Int} (hd : decode y.cd pc = .ok (.ifnonnull off, 3)) (kk : At G y (pc + 3) L st a h Q) : At G y pc L (vN :: st) a h Q := by
  intro p e R s m args below meth c H locs LS F w1 w2 w3
  exact lv_ifnonnullN F.1 F.2.1 hd (kk p e R s m args below meth c H locs LS F w1 w2 w3)
theorem r_tableIn {dflt lo hi : Int} {offs : Array Int} {len : Nat} {x off : Int} (t : Nat) (hd : decode y.cd pc = .ok (.tableswitch dflt lo hi offs, len)) (hx : -2147483648 ≤ x ∧ x < 2147483648) (h1 : lo ≤ x ∧ x ≤ hi) (ho : offs[(x - lo).toNat]? = some off) (ht : (pc : Int) + off = (t : Int)) (kk : At G y t L st a h Q) : At G y pc L (vI x :: st) a h Q := by
  intro p e R s m args below meth c H locs LS F w1 w2 w3
  exact lv_tableIn F.1 F.2.1 hd (by rw [i_toInt hx]; omega) (by rw [i_toInt hx]; omega) (by rw [i_toInt hx]; exact ho) ht (kk p e R s m args below meth c H locs LS F w1 w2 w3)
theorem r_tableOut {dflt lo hi : Int} {offs : Array Int} {len : Nat} {x : Int} (t : Nat) (hd : decode y.cd pc = .ok (.tableswitch dflt lo hi offs, len)) (hx : -2147483648 ≤ x ∧ x < 2147483648) (h1 : x < lo ∨ hi < x) (ht : (pc : Int) + dflt = (t : Int)) (kk : At G y t L st a h Q) : At G y pc L (vI x :: st) a h Q := by
  intro p e R s m args below meth c H locs LS F w1 w2 w3
  exact lv_tableOut F.1 F.2.1 hd (by rw [i_toInt hx]; exact h1) ht (kk p e R s m args below meth c H locs LS F w1 w2 w3)
/-! returns -/
theorem r_iret {x : Int} (hd : decode y.cd pc = .ok (.ireturn, 1)) (hr : y.rt = some .int) (hc : a.1 ≤ y.mc ∧ a.2.1 ≤ y.ms) (hq : Q (some (vI x)) a.2.2 h) : At G y pc L [vI x] a h Q := by
  intro p e R s m args below meth c H locs LS F w1 w2 w3
  have ⟨f1, f2, f3, f4, f5, f6, f7, f8, f9, f10, f11, f12⟩ := F
  refine W.widen hc.1 hc.2 (W.iret f1 f2 (f4.trans hr) (fun t ht _ => ⟨⟨some (vI x), a.2.2, h, rfl, hq, by rw [ht]; exact w1⟩, w2.F ht⟩) w2.2.2 hd f5)
theorem r_zret {x : Int} (hd : decode y.cd pc = .ok (.ireturn, 1)) (hr : y.rt = some .boolean) (hx : x = 0 ∨ x = 1) (hc : a.1 ≤ y.mc ∧ a.2.1 ≤ y.ms) (hq : Q (some (vI x)) a.2.2 h) : At G y pc L [vI x] a h Q := by
  intro p e R s m args below meth c H locs LS F w1 w2 w3
  have ⟨f1, f2, f3, f4, f5, f6, f7, f8, f9, f10, f11, f12⟩ := F
  refine W.widen hc.1 hc.2 (W.zret f1 f2 (f4.trans hr) (by rcases hx with rfl | rfl <;> rfl) (fun t ht _ => ⟨⟨some (vI x), a.2.2, h, rfl, hq, by rw [ht]; exact w1⟩, w2.F ht⟩) w2.2.2 hd f5)
theorem r_vret (hd : decode y.cd pc = .ok (.return_, 1)) (hr : y.rt = none) (hc : a.1 ≤ y.mc ∧ a.2.1 ≤ y.ms) (hq : Q none a.2.2 h) : At G y pc L [] a h Q := by
  intro p e R s m args below meth c H locs LS F w1 w2 w3
  have ⟨f1, f2, f3, f4, f5, f6, f7, f8, f9, f10, f11, f12⟩ := F
  refine W.widen hc.1 hc.2 (W.vret f1 f2 (f4.trans hr) (fun t ht _ => ⟨⟨none, a.2.2, h, rfl, hq, by rw [ht]; exact w1⟩, w2.F ht⟩) w2.2.2 hd f5)
theorem r_lret {x : Int} (hd : decode y.cd pc = .ok (.lreturn, 1)) (hr : y.rt = some .long) (hc : a.1 ≤ y.mc ∧ a.2.1 ≤ y.ms) (hq : Q (some (vJ x)) a.2.2 h) : At G y pc L [vJ x] a h Q := by
  intro p e R s m args below meth c H locs LS F w1 w2 w3
  have ⟨f1, f2, f3, f4, f5, f6, f7, f8, f9, f10, f11, f12⟩ := F
  refine W.widen hc.1 hc.2 (W.lret f1 f2 (f4.trans hr) (fun t ht _ => ⟨⟨some (vJ x), a.2.2, h, rfl, hq, by rw [ht]; exact w1⟩, w2.F ht⟩) w2.2.2 hd f5)
end CR
