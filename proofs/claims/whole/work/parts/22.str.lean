/-! ===== the String constants ===== -/
theorem kO_value : inT (.fieldLink RJ0 9 "java/lang/String" "value" "[B") := inT.at 1178 (by decide +kernel)
theorem kO_coder : inT (.fieldLink RJ0 15 "java/lang/String" "coder" "B") := inT.at 1179 (by decide +kernel)
theorem kO_cs_J0 : inT (.fieldLink RJ0 38 "java/lang/String" "COMPACT_STRINGS" "Z") := inT.at 463 (by decide +kernel)
theorem kO_sf : inT (.fieldLink RJ0 1053 "jdk/internal/util/Preconditions" "SIOOBE_FORMATTER" "Ljava/util/function/BiFunction;") := inT.at 479 (by decide +kernel)
def sB (k j : Nat) : Int := ((sByt.getD k []).getD j 0).toInt
section ST
variable {G : GT} {y : MT} {pc : Nat} {L st : List AV} {a : AL} {h : Hp} {Q : PT} {c0 s0 n0 : Nat}
theorem od_eq {s : State} (hO : Olds G s) {k : Nat} (hk : k < 24) : cv G (vO k) = .ref (sAd G k) := by
  show va_rf (G.2.2.2.2 k) = _
  rw [hO.1 k hk]
  rfl
theorem r_ldcS {k i : Nat} {tx : String} (hd : decode y.cd pc = .ok (.ldc i, 2)) (hc : y.nm.cls = RX6) (hk : sPool[k]? = some (i, tx)) (kk : At G y (pc + 2) L (vO (2 * k) :: st) a h Q) : At G y pc L st a h Q := by
  intro p e R s m args below meth c H locs LS F w1 w2 w3
  have ⟨f1, f2, f3, f4, f5, f6, f7, f8, f9, f10, f11, f12⟩ := F
  have hl : k < 12 := (List.getElem?_eq_some_iff.mp hk).1
  have k2 := kk p e R s m args below meth c H locs LS F w1 w2 w3
  rw [List.map_cons, od_eq f11 (by omega)] at k2
  exact va_ldcS f1 f2 (by rw [← hc]; exact f6) (f11.2.2.1 k _ hk) hd k2
theorem r_aretO {x : Nat} {nm : String} (hd : decode y.cd pc = .ok (.areturn, 1)) (hr : y.rt = some (.object nm)) (hc : a.1 ≤ y.mc ∧ a.2.1 ≤ y.ms) (hq : Q (some (vO x)) a.2.2 h) : At G y pc L [vO x] a h Q := by
  intro p e R s m args below meth c H locs LS F w1 w2 w3
  have ⟨f1, f2, f3, f4, f5, f6, f7, f8, f9, f10, f11, f12⟩ := F
  refine W.widen hc.1 hc.2 (W.aret f1 f2 (f4.trans hr) (Or.inl ⟨_, rfl⟩) ?_ (fun t ht _ => ⟨⟨some (vO x), a.2.2, h, rfl, hq, by rw [ht]; exact w1⟩, w2.F ht⟩) w2.2.2 hd f5)
  show va_rf (G.2.2.2.2 x) = .null ∨ ∃ a, va_rf (G.2.2.2.2 x) = .ref a
  cases G.2.2.2.2 x
  · exact Or.inl rfl
  · exact Or.inr ⟨_, rfl⟩
theorem r_nret {x : Int} {ty : FieldType} (hd : decode y.cd pc = .ok (.ireturn, 1)) (hr : y.rt = some ty) (hx : narrow ty (.int (Int32.ofInt x)) = .int (Int32.ofInt x)) (hc : a.1 ≤ y.mc ∧ a.2.1 ≤ y.ms) (hq : Q (some (vI x)) a.2.2 h) : At G y pc L [vI x] a h Q := by
  intro p e R s m args below meth c H locs LS F w1 w2 w3
  have ⟨f1, f2, f3, f4, f5, f6, f7, f8, f9, f10, f11, f12⟩ := F
  refine W.widen hc.1 hc.2 (W.zret f1 f2 (f4.trans hr) hx (fun t ht _ => ⟨⟨some (vI x), a.2.2, h, rfl, hq, by rw [ht]; exact w1⟩, w2.F ht⟩) w2.2.2 hd f5)
theorem r_getOv {k i : Nat} (hd : decode y.cd pc = .ok (.getfield i, 3)) (hl : inT (.fieldLink y.nm.cls i "java/lang/String" "value" "[B")) (hk : k < 12) (kk : At G y (pc + 3) L (vO (2 * k + 1) :: st) a h Q) : At G y pc L (vO (2 * k) :: st) a h Q := by
  intro p e R s m args below meth c H locs LS F w1 w2 w3
  have ⟨f1, f2, f3, f4, f5, f6, f7, f8, f9, f10, f11, f12⟩ := F
  have k2 := kk p e R s m args below meth c H locs LS F w1 w2 w3
  rw [List.map_cons, od_eq f11 (by omega)] at k2 ⊢
  exact vk_getf f1 f2 (f11.2.1.1 k hk).2.2.1 w2 f6 (f9.get hl) (fun _ q => q) hd k2
theorem r_getOc {k i : Nat} (hd : decode y.cd pc = .ok (.getfield i, 3)) (hl : inT (.fieldLink y.nm.cls i "java/lang/String" "coder" "B")) (hk : k < 12) (kk : At G y (pc + 3) L (vI 0 :: st) a h Q) : At G y pc L (vO (2 * k) :: st) a h Q := by
  intro p e R s m args below meth c H locs LS F w1 w2 w3
  have ⟨f1, f2, f3, f4, f5, f6, f7, f8, f9, f10, f11, f12⟩ := F
  rw [List.map_cons, od_eq f11 (by omega)]
  exact vk_getf f1 f2 (f11.2.1.1 k hk).2.1 w2 f6 (f9.get hl) (fun _ q => q) hd (kk p e R s m args below meth c H locs LS F w1 w2 w3)
theorem r_alenO {k : Nat} (hd : decode y.cd pc = .ok (.arraylength, 1)) (hk : k < 12) (kk : At G y (pc + 1) L (vI (sLen.getD k 0 : Nat) :: st) a h Q) : At G y pc L (vO (2 * k + 1) :: st) a h Q := by
  intro p e R s m args below meth c H locs LS F w1 w2 w3
  have ⟨f1, f2, f3, f4, f5, f6, f7, f8, f9, f10, f11, f12⟩ := F
  rw [List.map_cons, od_eq f11 (by omega)]
  exact va_tlen f1 f2 (f11.2.1.1 k hk).2.2.2 w2 (v := Int32.ofInt (sLen.getD k 0 : Nat)) rfl hd (kk p e R s m args below meth c H locs LS F w1 w2 w3)
theorem r_baldO {k : Nat} {x : Int} (hd : decode y.cd pc = .ok (.baload, 1)) (hk : k < 12) (hx : 0 ≤ x ∧ x < (sLen.getD k 0 : Nat)) (hn : sLen.getD k 0 < 100) (kk : At G y (pc + 1) L (vI (sB k x.toNat) :: st) a h Q) : At G y pc L (vI x :: vO (2 * k + 1) :: st) a h Q := by
  intro p e R s m args below meth c H locs LS F w1 w2 w3
  have ⟨f1, f2, f3, f4, f5, f6, f7, f8, f9, f10, f11, f12⟩ := F
  rw [List.map_cons, List.map_cons, od_eq f11 (by omega)]
  refine va_tb f1 f2 (f11.2.1.1 k hk).2.2.2 w2 (i_vin hx (by omega)) (v := .int (Int32.ofInt (sB k x.toNat))) ?_ hd (kk p e R s m args below meth c H locs LS F w1 w2 w3)
  have hc := i_clamp hx (by omega)
  show Value.int _ = Value.int _
  rw [show (Int32.ofInt x).toNatClampNeg = x.toNat by omega]
  unfold sB
  rw [i_of]
theorem r_getCS {i : Nat} (hd : decode y.cd pc = .ok (.getstatic i, 3)) (hl : inT (.fieldLink y.nm.cls i "java/lang/String" "COMPACT_STRINGS" "Z")) (kk : At G y (pc + 3) L (vI 1 :: st) a h Q) : At G y pc L st a h Q := by
  intro p e R s m args below meth c H locs LS F w1 w2 w3
  have ⟨f1, f2, f3, f4, f5, f6, f7, f8, f9, f10, f11, f12⟩ := F
  exact va_gets f1 f2 f11.2.2.2.1 w2 f6 (f9.get hl) (fun _ q => q) hd (kk p e R s m args below meth c H locs LS F w1 w2 w3)
theorem r_getSF {i : Nat} (hd : decode y.cd pc = .ok (.getstatic i, 3)) (hl : inT (.fieldLink y.nm.cls i "jdk/internal/util/Preconditions" "SIOOBE_FORMATTER" "Ljava/util/function/BiFunction;")) (kk : At G y (pc + 3) L (vO 24 :: st) a h Q) : At G y pc L st a h Q := by
  intro p e R s m args below meth c H locs LS F w1 w2 w3
  have ⟨f1, f2, f3, f4, f5, f6, f7, f8, f9, f10, f11, f12⟩ := F
  exact va_gets f1 f2 f11.2.2.2.2.1 w2 f6 (f9.get hl) (fun _ q => q) hd (kk p e R s m args below meth c H locs LS F w1 w2 w3)
theorem cOi {i k : Nat} {y1 : MT} (as : List AV) (hd : decode y.cd pc = .ok (.invokevirtual i, 3)) (hl : LkB y.nm.cls i y1 as.length ∧ inT (.methodLink y.nm.cls i y1.nm) ∧ inT (.instanceMethod y1.nm) ∧ inT (.selects RJ0 y1.nm y1.nm)) (hf : Fit y y1 (c0, s0, n0) st) (hm : y1.mc = 0 ∧ y1.ms = 0) (hk : k < 12)
    (kk : Cl G y1 (vO (2 * k) :: as) n0 h (fun r n' h' => ∃ v, r = some v ∧ At G y (pc + 3) L (v :: st) (c0, s0, n') h' Q)) : At G y pc L (as.reverse ++ vO (2 * k) :: st) (c0, s0, n0) h Q := by
  intro p e R s m args below meth c H locs LS F w1 w2 w3
  have ⟨f1, f2, f3, f4, f5, f6, f7, f8, f9, f10, f11, f12⟩ := F
  obtain ⟨hb, h1, h2, h3⟩ := hl
  rw [List.map_append, List.map_reverse, List.map_cons, od_eq f11 (by omega)]
  have hp := r_pre (a := (c0, s0, n0)) (as := vO (2 * k) :: as) F w1 w2
  rw [List.map_cons, od_eq f11 (by omega)] at hp
  refine r_back (a := (c0, s0, n0)) F w2 w3 (va_runV (C := RJ0) (b := sAd G (2 * k)) (As := as.map (cv G)) (nL := y.mL) (Ts := []) ⟨f1, f2, f3, f6, fun w hw => by cases hw⟩ kk ⟨lk_B F hb hf h1, f9.get h2, f9.get h3⟩ ⟨PC.blind _ _ _ _, vk_recv (adK := fun k => sAd G (2 * k)) (i := k) f11.2.1 hk w2, hp⟩ rfl (by simp) w3.1.1 rfl (lv_room (by rw [st_cat]; exact hf.2.2)) hd ⟨by rw [f8]; exact hf.2.1.1, by rw [f8]; exact hf.2.1.2⟩) ?_
  rintro r n' h' ⟨v, rfl, q⟩
  rw [hm.1, hm.2]
  exact q
end ST

