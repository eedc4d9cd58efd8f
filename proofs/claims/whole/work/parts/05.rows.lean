/-! ===== rows: an instruction each ===== -/
section RW
variable {G : GT} {y : MT} {pc : Nat} {L st : List AV} {a : AL} {h : Hp} {Q : PT}
theorem r_iadd {x z : Int} (hd : decode y.cd pc = .ok (.iadd, 1)) (k : At G y (pc + 1) L (vI (x + z) :: st) a h Q) : At G y pc L (vI z :: vI x :: st) a h Q := by
  intro p e R s m args below meth c H locs LS F w1 w2 w3
  refine lv_iadd F.1 F.2.1 hd ?_
  rw [i_add]
  exact k p e R s m args below meth c H locs LS F w1 w2 w3
theorem r_isub {x z : Int} (hd : decode y.cd pc = .ok (.isub, 1)) (k : At G y (pc + 1) L (vI (x - z) :: st) a h Q) : At G y pc L (vI z :: vI x :: st) a h Q := by
  intro p e R s m args below meth c H locs LS F w1 w2 w3
  refine lv_isub F.1 F.2.1 hd ?_
  rw [i_sub]
  exact k p e R s m args below meth c H locs LS F w1 w2 w3
theorem r_imul {x z : Int} (hd : decode y.cd pc = .ok (.imul, 1)) (k : At G y (pc + 1) L (vI (x * z) :: st) a h Q) : At G y pc L (vI z :: vI x :: st) a h Q := by
  intro p e R s m args below meth c H locs LS F w1 w2 w3
  refine lv_imul F.1 F.2.1 hd ?_
  rw [i_mul]
  exact k p e R s m args below meth c H locs LS F w1 w2 w3
theorem r_ineg {x : Int} (hd : decode y.cd pc = .ok (.ineg, 1)) (k : At G y (pc + 1) L (vI (- x) :: st) a h Q) : At G y pc L (vI x :: st) a h Q := by
  intro p e R s m args below meth c H locs LS F w1 w2 w3
  refine lv_ineg F.1 F.2.1 hd ?_
  rw [i_neg]
  exact k p e R s m args below meth c H locs LS F w1 w2 w3
theorem r_ladd {x z : Int} (hd : decode y.cd pc = .ok (.ladd, 1)) (k : At G y (pc + 1) L (vJ (x + z) :: st) a h Q) : At G y pc L (vJ z :: vJ x :: st) a h Q := by
  intro p e R s m args below meth c H locs LS F w1 w2 w3
  refine lv_ladd F.1 F.2.1 hd ?_
  rw [j_add]
  exact k p e R s m args below meth c H locs LS F w1 w2 w3
theorem r_lsub {x z : Int} (hd : decode y.cd pc = .ok (.lsub, 1)) (k : At G y (pc + 1) L (vJ (x - z) :: st) a h Q) : At G y pc L (vJ z :: vJ x :: st) a h Q := by
  intro p e R s m args below meth c H locs LS F w1 w2 w3
  refine lv_lsub F.1 F.2.1 hd ?_
  rw [j_sub]
  exact k p e R s m args below meth c H locs LS F w1 w2 w3
theorem r_lmul {x z : Int} (hd : decode y.cd pc = .ok (.lmul, 1)) (k : At G y (pc + 1) L (vJ (x * z) :: st) a h Q) : At G y pc L (vJ z :: vJ x :: st) a h Q := by
  intro p e R s m args below meth c H locs LS F w1 w2 w3
  refine lv_lmul F.1 F.2.1 hd ?_
  rw [j_mul]
  exact k p e R s m args below meth c H locs LS F w1 w2 w3
theorem r_iand {x z : Int} (v : Int) (hd : decode y.cd pc = .ok (.iand, 1)) (hv : Int32.ofInt x &&& Int32.ofInt z = Int32.ofInt v) (k : At G y (pc + 1) L (vI v :: st) a h Q) : At G y pc L (vI z :: vI x :: st) a h Q := by
  intro p e R s m args below meth c H locs LS F w1 w2 w3
  refine lv_iand F.1 F.2.1 hd ?_
  rw [hv]
  exact k p e R s m args below meth c H locs LS F w1 w2 w3
theorem r_ior {x z : Int} (v : Int) (hd : decode y.cd pc = .ok (.ior, 1)) (hv : Int32.ofInt x ||| Int32.ofInt z = Int32.ofInt v) (k : At G y (pc + 1) L (vI v :: st) a h Q) : At G y pc L (vI z :: vI x :: st) a h Q := by
  intro p e R s m args below meth c H locs LS F w1 w2 w3
  refine lv_ior F.1 F.2.1 hd ?_
  rw [hv]
  exact k p e R s m args below meth c H locs LS F w1 w2 w3
theorem r_ixor {x z : Int} (v : Int) (hd : decode y.cd pc = .ok (.ixor, 1)) (hv : Int32.ofInt x ^^^ Int32.ofInt z = Int32.ofInt v) (k : At G y (pc + 1) L (vI v :: st) a h Q) : At G y pc L (vI z :: vI x :: st) a h Q := by
  intro p e R s m args below meth c H locs LS F w1 w2 w3
  refine lv_ixor F.1 F.2.1 hd ?_
  rw [hv]
  exact k p e R s m args below meth c H locs LS F w1 w2 w3
theorem r_ishl {x z : Int} (v : Int) (hd : decode y.cd pc = .ok (.ishl, 1)) (hv : Int32.ofInt x <<< (Int32.ofInt z &&& 31) = Int32.ofInt v) (k : At G y (pc + 1) L (vI v :: st) a h Q) : At G y pc L (vI z :: vI x :: st) a h Q := by
  intro p e R s m args below meth c H locs LS F w1 w2 w3
  refine lv_ishl F.1 F.2.1 hd ?_
  rw [hv]
  exact k p e R s m args below meth c H locs LS F w1 w2 w3
theorem r_ishr {x z : Int} (v : Int) (hd : decode y.cd pc = .ok (.ishr, 1)) (hv : Int32.ofInt x >>> (Int32.ofInt z &&& 31) = Int32.ofInt v) (k : At G y (pc + 1) L (vI v :: st) a h Q) : At G y pc L (vI z :: vI x :: st) a h Q := by
  intro p e R s m args below meth c H locs LS F w1 w2 w3
  refine lv_ishr F.1 F.2.1 hd ?_
  rw [hv]
  exact k p e R s m args below meth c H locs LS F w1 w2 w3
theorem r_iushr {x z : Int} (v : Int) (hd : decode y.cd pc = .ok (.iushr, 1)) (hv : ((Int32.ofInt x).toUInt32 >>> ((Int32.ofInt z).toUInt32 &&& Int32.toUInt32 31)).toInt32 = Int32.ofInt v) (k : At G y (pc + 1) L (vI v :: st) a h Q) : At G y pc L (vI z :: vI x :: st) a h Q := by
  intro p e R s m args below meth c H locs LS F w1 w2 w3
  refine lv_iushr F.1 F.2.1 hd hv ?_
  exact k p e R s m args below meth c H locs LS F w1 w2 w3
theorem r_land {x z : Int} (v : Int) (hd : decode y.cd pc = .ok (.land, 1)) (hv : Int64.ofInt x &&& Int64.ofInt z = Int64.ofInt v) (k : At G y (pc + 1) L (vJ v :: st) a h Q) : At G y pc L (vJ z :: vJ x :: st) a h Q := by
  intro p e R s m args below meth c H locs LS F w1 w2 w3
  refine lv_land F.1 F.2.1 hd ?_
  rw [hv]
  exact k p e R s m args below meth c H locs LS F w1 w2 w3
theorem r_lor {x z : Int} (v : Int) (hd : decode y.cd pc = .ok (.lor, 1)) (hv : Int64.ofInt x ||| Int64.ofInt z = Int64.ofInt v) (k : At G y (pc + 1) L (vJ v :: st) a h Q) : At G y pc L (vJ z :: vJ x :: st) a h Q := by
  intro p e R s m args below meth c H locs LS F w1 w2 w3
  refine lv_lor F.1 F.2.1 hd ?_
  rw [hv]
  exact k p e R s m args below meth c H locs LS F w1 w2 w3
theorem r_lshl {x z : Int} (v : Int) (hd : decode y.cd pc = .ok (.lshl, 1)) (hv : Int64.ofInt x <<< ((Int32.ofInt z).toInt64 &&& 63) = Int64.ofInt v) (k : At G y (pc + 1) L (vJ v :: st) a h Q) : At G y pc L (vI z :: vJ x :: st) a h Q := by
  intro p e R s m args below meth c H locs LS F w1 w2 w3
  refine lv_lshl F.1 F.2.1 hd hv ?_
  exact k p e R s m args below meth c H locs LS F w1 w2 w3
theorem r_lshr {x z : Int} (v : Int) (hd : decode y.cd pc = .ok (.lshr, 1)) (hv : Int64.ofInt x >>> ((Int32.ofInt z).toInt64 &&& 63) = Int64.ofInt v) (k : At G y (pc + 1) L (vJ v :: st) a h Q) : At G y pc L (vI z :: vJ x :: st) a h Q := by
  intro p e R s m args below meth c H locs LS F w1 w2 w3
  refine lv_lshr F.1 F.2.1 hd hv ?_
  exact k p e R s m args below meth c H locs LS F w1 w2 w3
theorem r_lushr {x z : Int} (v : Int) (hd : decode y.cd pc = .ok (.lushr, 1)) (hv : ((Int64.ofInt x).toUInt64 >>> ((Int32.ofInt z).toInt64.toUInt64 &&& Int64.toUInt64 63)).toInt64 = Int64.ofInt v) (k : At G y (pc + 1) L (vJ v :: st) a h Q) : At G y pc L (vI z :: vJ x :: st) a h Q := by
  intro p e R s m args below meth c H locs LS F w1 w2 w3
  refine lv_lushr F.1 F.2.1 hd hv ?_
  exact k p e R s m args below meth c H locs LS F w1 w2 w3
theorem i_div {x z : Int} (hx : 0 ≤ x ∧ x < 2147483648) (hz : 0 < z ∧ z < 2147483648) : Int32.ofInt x / Int32.ofInt z = Int32.ofInt (x / z) := by
  obtain ⟨m, rfl⟩ := Int.eq_ofNat_of_zero_le hx.1
  obtain ⟨n, rfl⟩ := Int.eq_ofNat_of_zero_le (Int.le_of_lt hz.1)
  exact pk_div (a := m) (d := n) (by omega) (by omega) (by omega)
theorem i_rem {x z : Int} (hx : 0 ≤ x ∧ x < 2147483648) (hz : 0 < z ∧ z < 2147483648) : Int32.ofInt x - Int32.ofInt x / Int32.ofInt z * Int32.ofInt z = Int32.ofInt (x % z) := by
  obtain ⟨m, rfl⟩ := Int.eq_ofNat_of_zero_le hx.1
  obtain ⟨n, rfl⟩ := Int.eq_ofNat_of_zero_le (Int.le_of_lt hz.1)
  exact pk_rem (a := m) (d := n) (by omega) (by omega) (by omega)
theorem i_ne0 {z : Int} (hz : 0 < z ∧ z < 2147483648) : ¬ Int32.ofInt z = 0 := by
  rw [← i_0, i_eq (by omega) (by omega)]; omega
theorem r_idiv {x z : Int} (hd : decode y.cd pc = .ok (.idiv, 1)) (hx : 0 ≤ x ∧ x < 2147483648) (hz : 0 < z ∧ z < 2147483648) (k : At G y (pc + 1) L (vI (x / z) :: st) a h Q) : At G y pc L (vI z :: vI x :: st) a h Q := by
  intro p e R s m args below meth c H locs LS F w1 w2 w3
  refine lv_idiv F.1 F.2.1 hd (i_ne0 hz) ?_
  rw [i_div hx hz]
  exact k p e R s m args below meth c H locs LS F w1 w2 w3
theorem r_irem {x z : Int} (hd : decode y.cd pc = .ok (.irem, 1)) (hx : 0 ≤ x ∧ x < 2147483648) (hz : 0 < z ∧ z < 2147483648) (k : At G y (pc + 1) L (vI (x % z) :: st) a h Q) : At G y pc L (vI z :: vI x :: st) a h Q := by
  intro p e R s m args below meth c H locs LS F w1 w2 w3
  refine lv_irem F.1 F.2.1 hd (i_ne0 hz) ?_
  rw [i_rem hx hz]
  exact k p e R s m args below meth c H locs LS F w1 w2 w3
theorem r_i2l {x : Int} (hd : decode y.cd pc = .ok (.i2l, 1)) (hx : -2147483648 ≤ x ∧ x < 2147483648) (k : At G y (pc + 1) L (vJ x :: st) a h Q) : At G y pc L (vI x :: st) a h Q := by
  intro p e R s m args below meth c H locs LS F w1 w2 w3
  refine lv_i2l F.1 F.2.1 hd (v := Int64.ofInt x) ?_ ?_
  · apply Int64.toInt_inj.mp
    rw [Int32.toInt_toInt64, i_toInt hx, j_toInt (by omega)]
  · exact k p e R s m args below meth c H locs LS F w1 w2 w3
theorem r_l2i {x : Int} (v : Int) (hd : decode y.cd pc = .ok (.l2i, 1)) (hv : (Int64.ofInt x).toInt32 = Int32.ofInt v) (k : At G y (pc + 1) L (vI v :: st) a h Q) : At G y pc L (vJ x :: st) a h Q := by
  intro p e R s m args below meth c H locs LS F w1 w2 w3
  refine lv_l2i F.1 F.2.1 hd hv ?_
  exact k p e R s m args below meth c H locs LS F w1 w2 w3
theorem r_i2c {x : Int} (v : Int) (hd : decode y.cd pc = .ok (.i2c, 1)) (hv : ((Int32.ofInt x).toUInt32 % 65536).toInt32 = Int32.ofInt v) (k : At G y (pc + 1) L (vI v :: st) a h Q) : At G y pc L (vI x :: st) a h Q := by
  intro p e R s m args below meth c H locs LS F w1 w2 w3
  refine lv_i2c F.1 F.2.1 hd hv ?_
  exact k p e R s m args below meth c H locs LS F w1 w2 w3
theorem r_iconst {n : Int} (hd : decode y.cd pc = .ok (.iconst n, 1)) (k : At G y (pc + 1) L (vI n :: st) a h Q) : At G y pc L st a h Q := by
  intro p e R s m args below meth c H locs LS F w1 w2 w3
  refine lv_iconst F.1 F.2.1 hd rfl ?_
  exact k p e R s m args below meth c H locs LS F w1 w2 w3
theorem r_bipush {n : Int} (hd : decode y.cd pc = .ok (.bipush n, 2)) (hn : -128 ≤ n ∧ n < 128) (k : At G y (pc + 2) L (vI n :: st) a h Q) : At G y pc L st a h Q := by
  intro p e R s m args below meth c H locs LS F w1 w2 w3
  refine lv_bipush F.1 F.2.1 hd (v := Int32.ofInt n) ?_ ?_
  · apply Int32.toInt_inj.mp
    rw [Int8.toInt_toInt32, i_toInt (by omega), Int8.toInt_ofInt_of_le hn.1 (by have := hn.2; simpa using this)]
  · exact k p e R s m args below meth c H locs LS F w1 w2 w3
theorem r_sipush {n : Int} (hd : decode y.cd pc = .ok (.sipush n, 3)) (hn : -32768 ≤ n ∧ n < 32768) (k : At G y (pc + 3) L (vI n :: st) a h Q) : At G y pc L st a h Q := by
  intro p e R s m args below meth c H locs LS F w1 w2 w3
  refine lv_sipush F.1 F.2.1 hd (v := Int32.ofInt n) ?_ ?_
  · apply Int32.toInt_inj.mp
    rw [Int16.toInt_toInt32, i_toInt (by omega), Int16.toInt_ofInt_of_le hn.1 (by have := hn.2; simpa using this)]
  · exact k p e R s m args below meth c H locs LS F w1 w2 w3
theorem r_lconst {n : Fin 2} {v : Int} (hd : decode y.cd pc = .ok (.lconst n, 1)) (hv : Int64.ofNat (n : Nat) = Int64.ofInt v) (k : At G y (pc + 1) L (vJ v :: st) a h Q) : At G y pc L st a h Q := by
  intro p e R s m args below meth c H locs LS F w1 w2 w3
  refine lv_lconst F.1 F.2.1 hd hv ?_
  exact k p e R s m args below meth c H locs LS F w1 w2 w3
theorem r_ldc {i : Nat} {v : Int} (hd : decode y.cd pc = .ok (.ldc i, 2)) (hc : inT (.constant y.nm.cls i (Int32.ofInt v))) (k : At G y (pc + 2) L (vI v :: st) a h Q) : At G y pc L st a h Q := by
  intro p e R s m args below meth c H locs LS F w1 w2 w3
  refine lv_ldc F.1 F.2.1 F.2.2.2.2.2.1 (F.2.2.2.2.2.2.2.2.1.get hc) hd ?_
  exact k p e R s m args below meth c H locs LS F w1 w2 w3
theorem r_ldc_w {i : Nat} {v : Int} (hd : decode y.cd pc = .ok (.ldc_w i, 3)) (hc : inT (.constant y.nm.cls i (Int32.ofInt v))) (k : At G y (pc + 3) L (vI v :: st) a h Q) : At G y pc L st a h Q := by
  intro p e R s m args below meth c H locs LS F w1 w2 w3
  refine lv_ldcw F.1 F.2.1 F.2.2.2.2.2.1 (F.2.2.2.2.2.2.2.2.1.get hc) hd ?_
  exact k p e R s m args below meth c H locs LS F w1 w2 w3
theorem r_ldc2 {i : Nat} {v : Int} (hd : decode y.cd pc = .ok (.ldc2_w i, 3)) (hc : inT (.constantLong y.nm.cls i (Int64.ofInt v))) (k : At G y (pc + 3) L (vJ v :: st) a h Q) : At G y pc L st a h Q := by
  intro p e R s m args below meth c H locs LS F w1 w2 w3
  refine lv_ldc2 F.1 F.2.1 F.2.2.2.2.2.1 (F.2.2.2.2.2.2.2.2.1.get hc) hd ?_
  exact k p e R s m args below meth c H locs LS F w1 w2 w3
theorem r_dup {v : AV} (hd : decode y.cd pc = .ok (.dup, 1)) (hv : isJ v = false) (k : At G y (pc + 1) L (v :: v :: st) a h Q) : At G y pc L (v :: st) a h Q := by
  intro p e R s m args below meth c H locs LS F w1 w2 w3
  refine lv_dup F.1 F.2.1 hd (by rw [cv_cat, hv]; rfl) ?_
  exact k p e R s m args below meth c H locs LS F w1 w2 w3
theorem r_dup2 {v w : AV} (hd : decode y.cd pc = .ok (.dup2, 1)) (hv : isJ v = false ∧ isJ w = false) (k : At G y (pc + 1) L (w :: v :: w :: v :: st) a h Q) : At G y pc L (w :: v :: st) a h Q := by
  intro p e R s m args below meth c H locs LS F w1 w2 w3
  refine lv_dup2_11 F.1 F.2.1 hd (by rw [cv_cat]; simp [hv.1, hv.2]) (by rw [cv_cat]; simp [hv.1, hv.2]) ?_
  exact k p e R s m args below meth c H locs LS F w1 w2 w3
theorem r_pop {v : AV} (hd : decode y.cd pc = .ok (.pop, 1)) (hv : isJ v = false) (k : At G y (pc + 1) L st a h Q) : At G y pc L (v :: st) a h Q := by
  intro p e R s m args below meth c H locs LS F w1 w2 w3
  refine lv_pop F.1 F.2.1 hd (by rw [cv_cat, hv]; rfl) ?_
  exact k p e R s m args below meth c H locs LS F w1 w2 w3
theorem r_goto {off : Int} (t : Nat) (hd : decode y.cd pc = .ok (.goto off, 3)) (ht : (pc : Int) + off = (t : Int)) (k : At G y t L st a h Q) : At G y pc L st a h Q := by
  intro p e R s m args below meth c H locs LS F w1 w2 w3
  refine lv_goto F.1 F.2.1 hd ht ?_
  exact k p e R s m args below meth c H locs LS F w1 w2 w3
theorem r_iload_n {i : Fin 4} {x : Int} (hd : decode y.cd pc = .ok (.iload_n i, 1)) (hl : L[(i : Nat)]? = some (vI x)) (k : At G y (pc + 1) L (vI x :: st) a h Q) : At G y pc L st a h Q := by
  intro p e R s m args below meth c H locs LS F w1 w2 w3
  refine lv_iload_n F.1 F.2.1 hd rfl (w3.at hl rfl) ?_
  exact k p e R s m args below meth c H locs LS F w1 w2 w3
theorem r_iload {i : Nat} {x : Int} (hd : decode y.cd pc = .ok (.iload i, 2)) (hl : L[i]? = some (vI x)) (k : At G y (pc + 2) L (vI x :: st) a h Q) : At G y pc L st a h Q := by
  intro p e R s m args below meth c H locs LS F w1 w2 w3
  refine lv_iload F.1 F.2.1 hd (w3.at hl rfl) ?_
  exact k p e R s m args below meth c H locs LS F w1 w2 w3
theorem r_lload_n {i : Fin 4} {x : Int} (hd : decode y.cd pc = .ok (.lload_n i, 1)) (hl : L[(i : Nat)]? = some (vJ x)) (k : At G y (pc + 1) L (vJ x :: st) a h Q) : At G y pc L st a h Q := by
  intro p e R s m args below meth c H locs LS F w1 w2 w3
  refine lv_lload_n F.1 F.2.1 hd rfl (w3.at hl rfl) ?_
  exact k p e R s m args below meth c H locs LS F w1 w2 w3
theorem r_lload {i : Nat} {x : Int} (hd : decode y.cd pc = .ok (.lload i, 2)) (hl : L[i]? = some (vJ x)) (k : At G y (pc + 2) L (vJ x :: st) a h Q) : At G y pc L st a h Q := by
  intro p e R s m args below meth c H locs LS F w1 w2 w3
  refine lv_lload F.1 F.2.1 hd (w3.at hl rfl) ?_
  exact k p e R s m args below meth c H locs LS F w1 w2 w3
theorem r_aload_n {i : Fin 4} {x : Nat} (hd : decode y.cd pc = .ok (.aload_n i, 1)) (hl : L[(i : Nat)]? = some (vR x)) (k : At G y (pc + 1) L (vR x :: st) a h Q) : At G y pc L st a h Q := by
  intro p e R s m args below meth c H locs LS F w1 w2 w3
  refine lv_aload_n F.1 F.2.1 hd rfl (w3.at hl rfl) ?_
  exact k p e R s m args below meth c H locs LS F w1 w2 w3
theorem r_aload {i : Nat} {x : Nat} (hd : decode y.cd pc = .ok (.aload i, 2)) (hl : L[i]? = some (vR x)) (k : At G y (pc + 2) L (vR x :: st) a h Q) : At G y pc L st a h Q := by
  intro p e R s m args below meth c H locs LS F w1 w2 w3
  refine lv_aload F.1 F.2.1 hd (w3.at hl rfl) ?_
  exact k p e R s m args below meth c H locs LS F w1 w2 w3
theorem r_aload_nO {i : Fin 4} {x : Nat} (hd : decode y.cd pc = .ok (.aload_n i, 1)) (hl : L[(i : Nat)]? = some (vO x)) (k : At G y (pc + 1) L (vO x :: st) a h Q) : At G y pc L st a h Q := by
  intro p e R s m args below meth c H locs LS F w1 w2 w3
  have hv : LS[(i : Nat)]? = some (.val (va_rf (G.2.2.2.2 x))) := w3.at hl rfl
  have k := k p e R s m args below meth c H locs LS F w1 w2 w3
  simp only [List.map_cons, show cv G (vO x) = va_rf (G.2.2.2.2 x) from rfl] at k
  cases hx : G.2.2.2.2 x with
  | none => rw [hx] at hv k; exact lv_aload_nN F.1 F.2.1 hd rfl hv k
  | some q => rw [hx] at hv k; exact lv_aload_n F.1 F.2.1 hd rfl hv k
theorem r_aload_nN {i : Fin 4} (hd : decode y.cd pc = .ok (.aload_n i, 1)) (hl : L[(i : Nat)]? = some vN) (k : At G y (pc + 1) L (vN :: st) a h Q) : At G y pc L st a h Q := by
  intro p e R s m args below meth c H locs LS F w1 w2 w3
  refine lv_aload_nN F.1 F.2.1 hd rfl (w3.at hl rfl) ?_
  exact k p e R s m args below meth c H locs LS F w1 w2 w3
theorem r_istoren_0 {b0 : AV} {x : Int} (hd : decode y.cd pc = .ok (.istore_n 0, 1)) (k : At G y (pc + 1) (vI x :: L) st a h Q) : At G y pc (b0 :: L) (vI x :: st) a h Q := by
  intro p e R s m args below meth c H locs LS F w1 w2 w3
  refine lv_istore_n F.1 F.2.1 hd rfl w3.1 (by have := w3.2; simp at this; omega) rfl (fun LS' h' => ?_)
  exact k p e R s m args below meth c H locs LS' F w1 w2 (lvc.st1 (pre := []) (post := L) w3 rfl (fun w hw => by cases hw) h')
theorem r_istore_0 {b0 : AV} {x : Int} (hd : decode y.cd pc = .ok (.istore 0, 2)) (k : At G y (pc + 2) (vI x :: L) st a h Q) : At G y pc (b0 :: L) (vI x :: st) a h Q := by
  intro p e R s m args below meth c H locs LS F w1 w2 w3
  refine lv_istore F.1 F.2.1 hd w3.1 (by have := w3.2; simp at this; omega) rfl (fun LS' h' => ?_)
  exact k p e R s m args below meth c H locs LS' F w1 w2 (lvc.st1 (pre := []) (post := L) w3 rfl (fun w hw => by cases hw) h')
theorem r_astoren_0 {b0 : AV} {x : Nat} (hd : decode y.cd pc = .ok (.astore_n 0, 1)) (k : At G y (pc + 1) (vR x :: L) st a h Q) : At G y pc (b0 :: L) (vR x :: st) a h Q := by
  intro p e R s m args below meth c H locs LS F w1 w2 w3
  refine lv_astore_n F.1 F.2.1 hd rfl w3.1 (by have := w3.2; simp at this; omega) rfl (fun LS' h' => ?_)
  exact k p e R s m args below meth c H locs LS' F w1 w2 (lvc.st1 (pre := []) (post := L) w3 rfl (fun w hw => by cases hw) h')
theorem r_astore_0 {b0 : AV} {x : Nat} (hd : decode y.cd pc = .ok (.astore 0, 2)) (k : At G y (pc + 2) (vR x :: L) st a h Q) : At G y pc (b0 :: L) (vR x :: st) a h Q := by
  intro p e R s m args below meth c H locs LS F w1 w2 w3
  refine lv_astore F.1 F.2.1 hd w3.1 (by have := w3.2; simp at this; omega) rfl (fun LS' h' => ?_)
  exact k p e R s m args below meth c H locs LS' F w1 w2 (lvc.st1 (pre := []) (post := L) w3 rfl (fun w hw => by cases hw) h')
theorem r_lstoren_0 {b0 c : AV} {x : Int} (hd : decode y.cd pc = .ok (.lstore_n 0, 1)) (k : At G y (pc + 1) (vJ x :: vU :: L) st a h Q) : At G y pc (b0 :: c :: L) (vJ x :: st) a h Q := by
  intro p e R s m args below meth c H locs LS F w1 w2 w3
  refine lv_lstore_n F.1 F.2.1 hd rfl w3.1 (by have := w3.2; simp at this; omega) rfl (fun LS' h' => ?_)
  exact k p e R s m args below meth c H locs LS' F w1 w2 (lvc.st2 (pre := []) (post := L) w3 rfl (fun w hw => by cases hw) h')
theorem r_lstore_0 {b0 c : AV} {x : Int} (hd : decode y.cd pc = .ok (.lstore 0, 2)) (k : At G y (pc + 2) (vJ x :: vU :: L) st a h Q) : At G y pc (b0 :: c :: L) (vJ x :: st) a h Q := by
  intro p e R s m args below meth c H locs LS F w1 w2 w3
  refine lv_lstore F.1 F.2.1 hd w3.1 (by have := w3.2; simp at this; omega) rfl (fun LS' h' => ?_)
  exact k p e R s m args below meth c H locs LS' F w1 w2 (lvc.st2 (pre := []) (post := L) w3 rfl (fun w hw => by cases hw) h')
theorem r_iinc_0 {b0 : AV} {x n : Int} (hd : decode y.cd pc = .ok (.iinc 0 n, 3)) (hb : b0 = vI x) (k : At G y (pc + 3) (vI (x + n) :: L) st a h Q) : At G y pc (b0 :: L) st a h Q := by
  intro p e R s m args below meth c H locs LS F w1 w2 w3
  subst hb
  have hx : ((0 : Nat), Value.int (Int32.ofInt x)) ∈ lvZ G 0 (vI x :: L) := (lvZ_mem _ 0 _).mpr ⟨0, vI x, rfl, rfl, rfl⟩
  obtain ⟨j, hj2⟩ := List.getElem?_of_mem hx
  refine lv_iinc F.1 F.2.1 hd w3.1 (k := j) hj2 (v := Int32.ofInt (x + n)) (i_add _ _) (by have := w3.2; simp at this; omega) rfl (fun LS' h' => ?_)
  exact k p e R s m args below meth c H locs LS' F w1 w2 (lvc.st1 (pre := []) (post := L) w3 rfl (fun w hw => by cases hw) h')
theorem r_istoren_1 {b0 b1 : AV} {x : Int} (hd : decode y.cd pc = .ok (.istore_n 1, 1)) (hj : isJ b0 = false) (k : At G y (pc + 1) (b0 :: vI x :: L) st a h Q) : At G y pc (b0 :: b1 :: L) (vI x :: st) a h Q := by
  intro p e R s m args below meth c H locs LS F w1 w2 w3
  refine lv_istore_n F.1 F.2.1 hd rfl w3.1 (by have := w3.2; simp at this; omega) rfl (fun LS' h' => ?_)
  exact k p e R s m args below meth c H locs LS' F w1 w2 (lvc.st1 (pre := [b0]) (post := L) w3 rfl (fun w hw => by have e : some b0 = some w := hw; cases e; exact hj) h')
theorem r_istore_1 {b0 b1 : AV} {x : Int} (hd : decode y.cd pc = .ok (.istore 1, 2)) (hj : isJ b0 = false) (k : At G y (pc + 2) (b0 :: vI x :: L) st a h Q) : At G y pc (b0 :: b1 :: L) (vI x :: st) a h Q := by
  intro p e R s m args below meth c H locs LS F w1 w2 w3
  refine lv_istore F.1 F.2.1 hd w3.1 (by have := w3.2; simp at this; omega) rfl (fun LS' h' => ?_)
  exact k p e R s m args below meth c H locs LS' F w1 w2 (lvc.st1 (pre := [b0]) (post := L) w3 rfl (fun w hw => by have e : some b0 = some w := hw; cases e; exact hj) h')
theorem r_astoren_1 {b0 b1 : AV} {x : Nat} (hd : decode y.cd pc = .ok (.astore_n 1, 1)) (hj : isJ b0 = false) (k : At G y (pc + 1) (b0 :: vR x :: L) st a h Q) : At G y pc (b0 :: b1 :: L) (vR x :: st) a h Q := by
  intro p e R s m args below meth c H locs LS F w1 w2 w3
  refine lv_astore_n F.1 F.2.1 hd rfl w3.1 (by have := w3.2; simp at this; omega) rfl (fun LS' h' => ?_)
  exact k p e R s m args below meth c H locs LS' F w1 w2 (lvc.st1 (pre := [b0]) (post := L) w3 rfl (fun w hw => by have e : some b0 = some w := hw; cases e; exact hj) h')
theorem r_astore_1 {b0 b1 : AV} {x : Nat} (hd : decode y.cd pc = .ok (.astore 1, 2)) (hj : isJ b0 = false) (k : At G y (pc + 2) (b0 :: vR x :: L) st a h Q) : At G y pc (b0 :: b1 :: L) (vR x :: st) a h Q := by
  intro p e R s m args below meth c H locs LS F w1 w2 w3
  refine lv_astore F.1 F.2.1 hd w3.1 (by have := w3.2; simp at this; omega) rfl (fun LS' h' => ?_)
  exact k p e R s m args below meth c H locs LS' F w1 w2 (lvc.st1 (pre := [b0]) (post := L) w3 rfl (fun w hw => by have e : some b0 = some w := hw; cases e; exact hj) h')
theorem r_lstoren_1 {b0 b1 c : AV} {x : Int} (hd : decode y.cd pc = .ok (.lstore_n 1, 1)) (hj : isJ b0 = false) (k : At G y (pc + 1) (b0 :: vJ x :: vU :: L) st a h Q) : At G y pc (b0 :: b1 :: c :: L) (vJ x :: st) a h Q := by
  intro p e R s m args below meth c H locs LS F w1 w2 w3
  refine lv_lstore_n F.1 F.2.1 hd rfl w3.1 (by have := w3.2; simp at this; omega) rfl (fun LS' h' => ?_)
  exact k p e R s m args below meth c H locs LS' F w1 w2 (lvc.st2 (pre := [b0]) (post := L) w3 rfl (fun w hw => by have e : some b0 = some w := hw; cases e; exact hj) h')
theorem r_lstore_1 {b0 b1 c : AV} {x : Int} (hd : decode y.cd pc = .ok (.lstore 1, 2)) (hj : isJ b0 = false) (k : At G y (pc + 2) (b0 :: vJ x :: vU :: L) st a h Q) : At G y pc (b0 :: b1 :: c :: L) (vJ x :: st) a h Q := by
  intro p e R s m args below meth c H locs LS F w1 w2 w3
  refine lv_lstore F.1 F.2.1 hd w3.1 (by have := w3.2; simp at this; omega) rfl (fun LS' h' => ?_)
  exact k p e R s m args below meth c H locs LS' F w1 w2 (lvc.st2 (pre := [b0]) (post := L) w3 rfl (fun w hw => by have e : some b0 = some w := hw; cases e; exact hj) h')
theorem r_iinc_1 {b0 b1 : AV} {x n : Int} (hd : decode y.cd pc = .ok (.iinc 1 n, 3)) (hj : isJ b0 = false) (hb : b1 = vI x) (k : At G y (pc + 3) (b0 :: vI (x + n) :: L) st a h Q) : At G y pc (b0 :: b1 :: L) st a h Q := by
  intro p e R s m args below meth c H locs LS F w1 w2 w3
  subst hb
  have hx : ((1 : Nat), Value.int (Int32.ofInt x)) ∈ lvZ G 0 (b0 :: vI x :: L) := (lvZ_mem _ 0 _).mpr ⟨1, vI x, rfl, rfl, rfl⟩
  obtain ⟨j, hj2⟩ := List.getElem?_of_mem hx
  refine lv_iinc F.1 F.2.1 hd w3.1 (k := j) hj2 (v := Int32.ofInt (x + n)) (i_add _ _) (by have := w3.2; simp at this; omega) rfl (fun LS' h' => ?_)
  exact k p e R s m args below meth c H locs LS' F w1 w2 (lvc.st1 (pre := [b0]) (post := L) w3 rfl (fun w hw => by have e : some b0 = some w := hw; cases e; exact hj) h')
theorem r_istoren_2 {b0 b1 b2 : AV} {x : Int} (hd : decode y.cd pc = .ok (.istore_n 2, 1)) (hj : isJ b1 = false) (k : At G y (pc + 1) (b0 :: b1 :: vI x :: L) st a h Q) : At G y pc (b0 :: b1 :: b2 :: L) (vI x :: st) a h Q := by
  intro p e R s m args below meth c H locs LS F w1 w2 w3
  refine lv_istore_n F.1 F.2.1 hd rfl w3.1 (by have := w3.2; simp at this; omega) rfl (fun LS' h' => ?_)
  exact k p e R s m args below meth c H locs LS' F w1 w2 (lvc.st1 (pre := [b0, b1]) (post := L) w3 rfl (fun w hw => by have e : some b1 = some w := hw; cases e; exact hj) h')
theorem r_istore_2 {b0 b1 b2 : AV} {x : Int} (hd : decode y.cd pc = .ok (.istore 2, 2)) (hj : isJ b1 = false) (k : At G y (pc + 2) (b0 :: b1 :: vI x :: L) st a h Q) : At G y pc (b0 :: b1 :: b2 :: L) (vI x :: st) a h Q := by
  intro p e R s m args below meth c H locs LS F w1 w2 w3
  refine lv_istore F.1 F.2.1 hd w3.1 (by have := w3.2; simp at this; omega) rfl (fun LS' h' => ?_)
  exact k p e R s m args below meth c H locs LS' F w1 w2 (lvc.st1 (pre := [b0, b1]) (post := L) w3 rfl (fun w hw => by have e : some b1 = some w := hw; cases e; exact hj) h')
theorem r_astoren_2 {b0 b1 b2 : AV} {x : Nat} (hd : decode y.cd pc = .ok (.astore_n 2, 1)) (hj : isJ b1 = false) (k : At G y (pc + 1) (b0 :: b1 :: vR x :: L) st a h Q) : At G y pc (b0 :: b1 :: b2 :: L) (vR x :: st) a h Q := by
  intro p e R s m args below meth c H locs LS F w1 w2 w3
  refine lv_astore_n F.1 F.2.1 hd rfl w3.1 (by have := w3.2; simp at this; omega) rfl (fun LS' h' => ?_)
  exact k p e R s m args below meth c H locs LS' F w1 w2 (lvc.st1 (pre := [b0, b1]) (post := L) w3 rfl (fun w hw => by have e : some b1 = some w := hw; cases e; exact hj) h')
theorem r_astore_2 {b0 b1 b2 : AV} {x : Nat} (hd : decode y.cd pc = .ok (.astore 2, 2)) (hj : isJ b1 = false) (k : At G y (pc + 2) (b0 :: b1 :: vR x :: L) st a h Q) : At G y pc (b0 :: b1 :: b2 :: L) (vR x :: st) a h Q := by
  intro p e R s m args below meth c H locs LS F w1 w2 w3
  refine lv_astore F.1 F.2.1 hd w3.1 (by have := w3.2; simp at this; omega) rfl (fun LS' h' => ?_)
  exact k p e R s m args below meth c H locs LS' F w1 w2 (lvc.st1 (pre := [b0, b1]) (post := L) w3 rfl (fun w hw => by have e : some b1 = some w := hw; cases e; exact hj) h')
theorem r_lstoren_2 {b0 b1 b2 c : AV} {x : Int} (hd : decode y.cd pc = .ok (.lstore_n 2, 1)) (hj : isJ b1 = false) (k : At G y (pc + 1) (b0 :: b1 :: vJ x :: vU :: L) st a h Q) : At G y pc (b0 :: b1 :: b2 :: c :: L) (vJ x :: st) a h Q := by
  intro p e R s m args below meth c H locs LS F w1 w2 w3
  refine lv_lstore_n F.1 F.2.1 hd rfl w3.1 (by have := w3.2; simp at this; omega) rfl (fun LS' h' => ?_)
  exact k p e R s m args below meth c H locs LS' F w1 w2 (lvc.st2 (pre := [b0, b1]) (post := L) w3 rfl (fun w hw => by have e : some b1 = some w := hw; cases e; exact hj) h')
theorem r_lstore_2 {b0 b1 b2 c : AV} {x : Int} (hd : decode y.cd pc = .ok (.lstore 2, 2)) (hj : isJ b1 = false) (k : At G y (pc + 2) (b0 :: b1 :: vJ x :: vU :: L) st a h Q) : At G y pc (b0 :: b1 :: b2 :: c :: L) (vJ x :: st) a h Q := by
  intro p e R s m args below meth c H locs LS F w1 w2 w3
  refine lv_lstore F.1 F.2.1 hd w3.1 (by have := w3.2; simp at this; omega) rfl (fun LS' h' => ?_)
  exact k p e R s m args below meth c H locs LS' F w1 w2 (lvc.st2 (pre := [b0, b1]) (post := L) w3 rfl (fun w hw => by have e : some b1 = some w := hw; cases e; exact hj) h')
theorem r_iinc_2 {b0 b1 b2 : AV} {x n : Int} (hd : decode y.cd pc = .ok (.iinc 2 n, 3)) (hj : isJ b1 = false) (hb : b2 = vI x) (k : At G y (pc + 3) (b0 :: b1 :: vI (x + n) :: L) st a h Q) : At G y pc (b0 :: b1 :: b2 :: L) st a h Q := by
  intro p e R s m args below meth c H locs LS F w1 w2 w3
  subst hb
  have hx : ((2 : Nat), Value.int (Int32.ofInt x)) ∈ lvZ G 0 (b0 :: b1 :: vI x :: L) := (lvZ_mem _ 0 _).mpr ⟨2, vI x, rfl, rfl, rfl⟩
  obtain ⟨j, hj2⟩ := List.getElem?_of_mem hx
  refine lv_iinc F.1 F.2.1 hd w3.1 (k := j) hj2 (v := Int32.ofInt (x + n)) (i_add _ _) (by have := w3.2; simp at this; omega) rfl (fun LS' h' => ?_)
  exact k p e R s m args below meth c H locs LS' F w1 w2 (lvc.st1 (pre := [b0, b1]) (post := L) w3 rfl (fun w hw => by have e : some b1 = some w := hw; cases e; exact hj) h')
theorem r_istoren_3 {b0 b1 b2 b3 : AV} {x : Int} (hd : decode y.cd pc = .ok (.istore_n 3, 1)) (hj : isJ b2 = false) (k : At G y (pc + 1) (b0 :: b1 :: b2 :: vI x :: L) st a h Q) : At G y pc (b0 :: b1 :: b2 :: b3 :: L) (vI x :: st) a h Q := by
  intro p e R s m args below meth c H locs LS F w1 w2 w3
  refine lv_istore_n F.1 F.2.1 hd rfl w3.1 (by have := w3.2; simp at this; omega) rfl (fun LS' h' => ?_)
  exact k p e R s m args below meth c H locs LS' F w1 w2 (lvc.st1 (pre := [b0, b1, b2]) (post := L) w3 rfl (fun w hw => by have e : some b2 = some w := hw; cases e; exact hj) h')
theorem r_istore_3 {b0 b1 b2 b3 : AV} {x : Int} (hd : decode y.cd pc = .ok (.istore 3, 2)) (hj : isJ b2 = false) (k : At G y (pc + 2) (b0 :: b1 :: b2 :: vI x :: L) st a h Q) : At G y pc (b0 :: b1 :: b2 :: b3 :: L) (vI x :: st) a h Q := by
  intro p e R s m args below meth c H locs LS F w1 w2 w3
  refine lv_istore F.1 F.2.1 hd w3.1 (by have := w3.2; simp at this; omega) rfl (fun LS' h' => ?_)
  exact k p e R s m args below meth c H locs LS' F w1 w2 (lvc.st1 (pre := [b0, b1, b2]) (post := L) w3 rfl (fun w hw => by have e : some b2 = some w := hw; cases e; exact hj) h')
theorem r_astoren_3 {b0 b1 b2 b3 : AV} {x : Nat} (hd : decode y.cd pc = .ok (.astore_n 3, 1)) (hj : isJ b2 = false) (k : At G y (pc + 1) (b0 :: b1 :: b2 :: vR x :: L) st a h Q) : At G y pc (b0 :: b1 :: b2 :: b3 :: L) (vR x :: st) a h Q := by
  intro p e R s m args below meth c H locs LS F w1 w2 w3
  refine lv_astore_n F.1 F.2.1 hd rfl w3.1 (by have := w3.2; simp at this; omega) rfl (fun LS' h' => ?_)
  exact k p e R s m args below meth c H locs LS' F w1 w2 (lvc.st1 (pre := [b0, b1, b2]) (post := L) w3 rfl (fun w hw => by have e : some b2 = some w := hw; cases e; exact hj) h')
theorem r_astore_3 {b0 b1 b2 b3 : AV} {x : Nat} (hd : decode y.cd pc = .ok (.astore 3, 2)) (hj : isJ b2 = false) (k : At G y (pc + 2) (b0 :: b1 :: b2 :: vR x :: L) st a h Q) : At G y pc (b0 :: b1 :: b2 :: b3 :: L) (vR x :: st) a h Q := by
  intro p e R s m args below meth c H locs LS F w1 w2 w3
  refine lv_astore F.1 F.2.1 hd w3.1 (by have := w3.2; simp at this; omega) rfl (fun LS' h' => ?_)
  exact k p e R s m args below meth c H locs LS' F w1 w2 (lvc.st1 (pre := [b0, b1, b2]) (post := L) w3 rfl (fun w hw => by have e : some b2 = some w := hw; cases e; exact hj) h')
theorem r_lstoren_3 {b0 b1 b2 b3 c : AV} {x : Int} (hd : decode y.cd pc = .ok (.lstore_n 3, 1)) (hj : isJ b2 = false) (k : At G y (pc + 1) (b0 :: b1 :: b2 :: vJ x :: vU :: L) st a h Q) : At G y pc (b0 :: b1 :: b2 :: b3 :: c :: L) (vJ x :: st) a h Q := by
  intro p e R s m args below meth c H locs LS F w1 w2 w3
  refine lv_lstore_n F.1 F.2.1 hd rfl w3.1 (by have := w3.2; simp at this; omega) rfl (fun LS' h' => ?_)
  exact k p e R s m args below meth c H locs LS' F w1 w2 (lvc.st2 (pre := [b0, b1, b2]) (post := L) w3 rfl (fun w hw => by have e : some b2 = some w := hw; cases e; exact hj) h')
theorem r_lstore_3 {b0 b1 b2 b3 c : AV} {x : Int} (hd : decode y.cd pc = .ok (.lstore 3, 2)) (hj : isJ b2 = false) (k : At G y (pc + 2) (b0 :: b1 :: b2 :: vJ x :: vU :: L) st a h Q) : At G y pc (b0 :: b1 :: b2 :: b3 :: c :: L) (vJ x :: st) a h Q := by
  intro p e R s m args below meth c H locs LS F w1 w2 w3
  refine lv_lstore F.1 F.2.1 hd w3.1 (by have := w3.2; simp at this; omega) rfl (fun LS' h' => ?_)
  exact k p e R s m args below meth c H locs LS' F w1 w2 (lvc.st2 (pre := [b0, b1, b2]) (post := L) w3 rfl (fun w hw => by have e : some b2 = some w := hw; cases e; exact hj) h')
theorem r_iinc_3 {b0 b1 b2 b3 : AV} {x n : Int} (hd : decode y.cd pc = .ok (.iinc 3 n, 3)) (hj : isJ b2 = false) (hb : b3 = vI x) (k : At G y (pc + 3) (b0 :: b1 :: b2 :: vI (x + n) :: L) st a h Q) : At G y pc (b0 :: b1 :: b2 :: b3 :: L) st a h Q := by
  intro p e R s m args below meth c H locs LS F w1 w2 w3
  subst hb
  have hx : ((3 : Nat), Value.int (Int32.ofInt x)) ∈ lvZ G 0 (b0 :: b1 :: b2 :: vI x :: L) := (lvZ_mem _ 0 _).mpr ⟨3, vI x, rfl, rfl, rfl⟩
  obtain ⟨j, hj2⟩ := List.getElem?_of_mem hx
  refine lv_iinc F.1 F.2.1 hd w3.1 (k := j) hj2 (v := Int32.ofInt (x + n)) (i_add _ _) (by have := w3.2; simp at this; omega) rfl (fun LS' h' => ?_)
  exact k p e R s m args below meth c H locs LS' F w1 w2 (lvc.st1 (pre := [b0, b1, b2]) (post := L) w3 rfl (fun w hw => by have e : some b2 = some w := hw; cases e; exact hj) h')
theorem r_istore_4 {b0 b1 b2 b3 b4 : AV} {x : Int} (hd : decode y.cd pc = .ok (.istore 4, 2)) (hj : isJ b3 = false) (k : At G y (pc + 2) (b0 :: b1 :: b2 :: b3 :: vI x :: L) st a h Q) : At G y pc (b0 :: b1 :: b2 :: b3 :: b4 :: L) (vI x :: st) a h Q := by
  intro p e R s m args below meth c H locs LS F w1 w2 w3
  refine lv_istore F.1 F.2.1 hd w3.1 (by have := w3.2; simp at this; omega) rfl (fun LS' h' => ?_)
  exact k p e R s m args below meth c H locs LS' F w1 w2 (lvc.st1 (pre := [b0, b1, b2, b3]) (post := L) w3 rfl (fun w hw => by have e : some b3 = some w := hw; cases e; exact hj) h')
theorem r_astore_4 {b0 b1 b2 b3 b4 : AV} {x : Nat} (hd : decode y.cd pc = .ok (.astore 4, 2)) (hj : isJ b3 = false) (k : At G y (pc + 2) (b0 :: b1 :: b2 :: b3 :: vR x :: L) st a h Q) : At G y pc (b0 :: b1 :: b2 :: b3 :: b4 :: L) (vR x :: st) a h Q := by
  intro p e R s m args below meth c H locs LS F w1 w2 w3
  refine lv_astore F.1 F.2.1 hd w3.1 (by have := w3.2; simp at this; omega) rfl (fun LS' h' => ?_)
  exact k p e R s m args below meth c H locs LS' F w1 w2 (lvc.st1 (pre := [b0, b1, b2, b3]) (post := L) w3 rfl (fun w hw => by have e : some b3 = some w := hw; cases e; exact hj) h')
theorem r_lstore_4 {b0 b1 b2 b3 b4 c : AV} {x : Int} (hd : decode y.cd pc = .ok (.lstore 4, 2)) (hj : isJ b3 = false) (k : At G y (pc + 2) (b0 :: b1 :: b2 :: b3 :: vJ x :: vU :: L) st a h Q) : At G y pc (b0 :: b1 :: b2 :: b3 :: b4 :: c :: L) (vJ x :: st) a h Q := by
  intro p e R s m args below meth c H locs LS F w1 w2 w3
  refine lv_lstore F.1 F.2.1 hd w3.1 (by have := w3.2; simp at this; omega) rfl (fun LS' h' => ?_)
  exact k p e R s m args below meth c H locs LS' F w1 w2 (lvc.st2 (pre := [b0, b1, b2, b3]) (post := L) w3 rfl (fun w hw => by have e : some b3 = some w := hw; cases e; exact hj) h')
theorem r_iinc_4 {b0 b1 b2 b3 b4 : AV} {x n : Int} (hd : decode y.cd pc = .ok (.iinc 4 n, 3)) (hj : isJ b3 = false) (hb : b4 = vI x) (k : At G y (pc + 3) (b0 :: b1 :: b2 :: b3 :: vI (x + n) :: L) st a h Q) : At G y pc (b0 :: b1 :: b2 :: b3 :: b4 :: L) st a h Q := by
  intro p e R s m args below meth c H locs LS F w1 w2 w3
  subst hb
  have hx : ((4 : Nat), Value.int (Int32.ofInt x)) ∈ lvZ G 0 (b0 :: b1 :: b2 :: b3 :: vI x :: L) := (lvZ_mem _ 0 _).mpr ⟨4, vI x, rfl, rfl, rfl⟩
  obtain ⟨j, hj2⟩ := List.getElem?_of_mem hx
  refine lv_iinc F.1 F.2.1 hd w3.1 (k := j) hj2 (v := Int32.ofInt (x + n)) (i_add _ _) (by have := w3.2; simp at this; omega) rfl (fun LS' h' => ?_)
  exact k p e R s m args below meth c H locs LS' F w1 w2 (lvc.st1 (pre := [b0, b1, b2, b3]) (post := L) w3 rfl (fun w hw => by have e : some b3 = some w := hw; cases e; exact hj) h')
theorem r_istore_5 {b0 b1 b2 b3 b4 b5 : AV} {x : Int} (hd : decode y.cd pc = .ok (.istore 5, 2)) (hj : isJ b4 = false) (k : At G y (pc + 2) (b0 :: b1 :: b2 :: b3 :: b4 :: vI x :: L) st a h Q) : At G y pc (b0 :: b1 :: b2 :: b3 :: b4 :: b5 :: L) (vI x :: st) a h Q := by
  intro p e R s m args below meth c H locs LS F w1 w2 w3
  refine lv_istore F.1 F.2.1 hd w3.1 (by have := w3.2; simp at this; omega) rfl (fun LS' h' => ?_)
  exact k p e R s m args below meth c H locs LS' F w1 w2 (lvc.st1 (pre := [b0, b1, b2, b3, b4]) (post := L) w3 rfl (fun w hw => by have e : some b4 = some w := hw; cases e; exact hj) h')
theorem r_astore_5 {b0 b1 b2 b3 b4 b5 : AV} {x : Nat} (hd : decode y.cd pc = .ok (.astore 5, 2)) (hj : isJ b4 = false) (k : At G y (pc + 2) (b0 :: b1 :: b2 :: b3 :: b4 :: vR x :: L) st a h Q) : At G y pc (b0 :: b1 :: b2 :: b3 :: b4 :: b5 :: L) (vR x :: st) a h Q := by
  intro p e R s m args below meth c H locs LS F w1 w2 w3
  refine lv_astore F.1 F.2.1 hd w3.1 (by have := w3.2; simp at this; omega) rfl (fun LS' h' => ?_)
  exact k p e R s m args below meth c H locs LS' F w1 w2 (lvc.st1 (pre := [b0, b1, b2, b3, b4]) (post := L) w3 rfl (fun w hw => by have e : some b4 = some w := hw; cases e; exact hj) h')
theorem r_lstore_5 {b0 b1 b2 b3 b4 b5 c : AV} {x : Int} (hd : decode y.cd pc = .ok (.lstore 5, 2)) (hj : isJ b4 = false) (k : At G y (pc + 2) (b0 :: b1 :: b2 :: b3 :: b4 :: vJ x :: vU :: L) st a h Q) : At G y pc (b0 :: b1 :: b2 :: b3 :: b4 :: b5 :: c :: L) (vJ x :: st) a h Q := by
  intro p e R s m args below meth c H locs LS F w1 w2 w3
  refine lv_lstore F.1 F.2.1 hd w3.1 (by have := w3.2; simp at this; omega) rfl (fun LS' h' => ?_)
  exact k p e R s m args below meth c H locs LS' F w1 w2 (lvc.st2 (pre := [b0, b1, b2, b3, b4]) (post := L) w3 rfl (fun w hw => by have e : some b4 = some w := hw; cases e; exact hj) h')
theorem r_iinc_5 {b0 b1 b2 b3 b4 b5 : AV} {x n : Int} (hd : decode y.cd pc = .ok (.iinc 5 n, 3)) (hj : isJ b4 = false) (hb : b5 = vI x) (k : At G y (pc + 3) (b0 :: b1 :: b2 :: b3 :: b4 :: vI (x + n) :: L) st a h Q) : At G y pc (b0 :: b1 :: b2 :: b3 :: b4 :: b5 :: L) st a h Q := by
  intro p e R s m args below meth c H locs LS F w1 w2 w3
  subst hb
  have hx : ((5 : Nat), Value.int (Int32.ofInt x)) ∈ lvZ G 0 (b0 :: b1 :: b2 :: b3 :: b4 :: vI x :: L) := (lvZ_mem _ 0 _).mpr ⟨5, vI x, rfl, rfl, rfl⟩
  obtain ⟨j, hj2⟩ := List.getElem?_of_mem hx
  refine lv_iinc F.1 F.2.1 hd w3.1 (k := j) hj2 (v := Int32.ofInt (x + n)) (i_add _ _) (by have := w3.2; simp at this; omega) rfl (fun LS' h' => ?_)
  exact k p e R s m args below meth c H locs LS' F w1 w2 (lvc.st1 (pre := [b0, b1, b2, b3, b4]) (post := L) w3 rfl (fun w hw => by have e : some b4 = some w := hw; cases e; exact hj) h')
theorem r_istore_6 {b0 b1 b2 b3 b4 b5 b6 : AV} {x : Int} (hd : decode y.cd pc = .ok (.istore 6, 2)) (hj : isJ b5 = false) (k : At G y (pc + 2) (b0 :: b1 :: b2 :: b3 :: b4 :: b5 :: vI x :: L) st a h Q) : At G y pc (b0 :: b1 :: b2 :: b3 :: b4 :: b5 :: b6 :: L) (vI x :: st) a h Q := by
  intro p e R s m args below meth c H locs LS F w1 w2 w3
  refine lv_istore F.1 F.2.1 hd w3.1 (by have := w3.2; simp at this; omega) rfl (fun LS' h' => ?_)
  exact k p e R s m args below meth c H locs LS' F w1 w2 (lvc.st1 (pre := [b0, b1, b2, b3, b4, b5]) (post := L) w3 rfl (fun w hw => by have e : some b5 = some w := hw; cases e; exact hj) h')
theorem r_astore_6 {b0 b1 b2 b3 b4 b5 b6 : AV} {x : Nat} (hd : decode y.cd pc = .ok (.astore 6, 2)) (hj : isJ b5 = false) (k : At G y (pc + 2) (b0 :: b1 :: b2 :: b3 :: b4 :: b5 :: vR x :: L) st a h Q) : At G y pc (b0 :: b1 :: b2 :: b3 :: b4 :: b5 :: b6 :: L) (vR x :: st) a h Q := by
  intro p e R s m args below meth c H locs LS F w1 w2 w3
  refine lv_astore F.1 F.2.1 hd w3.1 (by have := w3.2; simp at this; omega) rfl (fun LS' h' => ?_)
  exact k p e R s m args below meth c H locs LS' F w1 w2 (lvc.st1 (pre := [b0, b1, b2, b3, b4, b5]) (post := L) w3 rfl (fun w hw => by have e : some b5 = some w := hw; cases e; exact hj) h')
theorem r_lstore_6 {b0 b1 b2 b3 b4 b5 b6 c : AV} {x : Int} (hd : decode y.cd pc = .ok (.lstore 6, 2)) (hj : isJ b5 = false) (k : At G y (pc + 2) (b0 :: b1 :: b2 :: b3 :: b4 :: b5 :: vJ x :: vU :: L) st a h Q) : At G y pc (b0 :: b1 :: b2 :: b3 :: b4 :: b5 :: b6 :: c :: L) (vJ x :: st) a h Q := by
  intro p e R s m args below meth c H locs LS F w1 w2 w3
  refine lv_lstore F.1 F.2.1 hd w3.1 (by have := w3.2; simp at this; omega) rfl (fun LS' h' => ?_)
  exact k p e R s m args below meth c H locs LS' F w1 w2 (lvc.st2 (pre := [b0, b1, b2, b3, b4, b5]) (post := L) w3 rfl (fun w hw => by have e : some b5 = some w := hw; cases e; exact hj) h')
theorem r_iinc_6 {b0 b1 b2 b3 b4 b5 b6 : AV} {x n : Int} (hd : decode y.cd pc = .ok (.iinc 6 n, 3)) (hj : isJ b5 = false) (hb : b6 = vI x) (k : At G y (pc + 3) (b0 :: b1 :: b2 :: b3 :: b4 :: b5 :: vI (x + n) :: L) st a h Q) : At G y pc (b0 :: b1 :: b2 :: b3 :: b4 :: b5 :: b6 :: L) st a h Q := by
  intro p e R s m args below meth c H locs LS F w1 w2 w3
  subst hb
  have hx : ((6 : Nat), Value.int (Int32.ofInt x)) ∈ lvZ G 0 (b0 :: b1 :: b2 :: b3 :: b4 :: b5 :: vI x :: L) := (lvZ_mem _ 0 _).mpr ⟨6, vI x, rfl, rfl, rfl⟩
  obtain ⟨j, hj2⟩ := List.getElem?_of_mem hx
  refine lv_iinc F.1 F.2.1 hd w3.1 (k := j) hj2 (v := Int32.ofInt (x + n)) (i_add _ _) (by have := w3.2; simp at this; omega) rfl (fun LS' h' => ?_)
  exact k p e R s m args below meth c H locs LS' F w1 w2 (lvc.st1 (pre := [b0, b1, b2, b3, b4, b5]) (post := L) w3 rfl (fun w hw => by have e : some b5 = some w := hw; cases e; exact hj) h')
theorem r_istore_7 {b0 b1 b2 b3 b4 b5 b6 b7 : AV} {x : Int} (hd : decode y.cd pc = .ok (.istore 7, 2)) (hj : isJ b6 = false) (k : At G y (pc + 2) (b0 :: b1 :: b2 :: b3 :: b4 :: b5 :: b6 :: vI x :: L) st a h Q) : At G y pc (b0 :: b1 :: b2 :: b3 :: b4 :: b5 :: b6 :: b7 :: L) (vI x :: st) a h Q := by
  intro p e R s m args below meth c H locs LS F w1 w2 w3
  refine lv_istore F.1 F.2.1 hd w3.1 (by have := w3.2; simp at this; omega) rfl (fun LS' h' => ?_)
  exact k p e R s m args below meth c H locs LS' F w1 w2 (lvc.st1 (pre := [b0, b1, b2, b3, b4, b5, b6]) (post := L) w3 rfl (fun w hw => by have e : some b6 = some w := hw; cases e; exact hj) h')
theorem r_astore_7 {b0 b1 b2 b3 b4 b5 b6 b7 : AV} {x : Nat} (hd : decode y.cd pc = .ok (.astore 7, 2)) (hj : isJ b6 = false) (k : At G y (pc + 2) (b0 :: b1 :: b2 :: b3 :: b4 :: b5 :: b6 :: vR x :: L) st a h Q) : At G y pc (b0 :: b1 :: b2 :: b3 :: b4 :: b5 :: b6 :: b7 :: L) (vR x :: st) a h Q := by
  intro p e R s m args below meth c H locs LS F w1 w2 w3
  refine lv_astore F.1 F.2.1 hd w3.1 (by have := w3.2; simp at this; omega) rfl (fun LS' h' => ?_)
  exact k p e R s m args below meth c H locs LS' F w1 w2 (lvc.st1 (pre := [b0, b1, b2, b3, b4, b5, b6]) (post := L) w3 rfl (fun w hw => by have e : some b6 = some w := hw; cases e; exact hj) h')
theorem r_lstore_7 {b0 b1 b2 b3 b4 b5 b6 b7 c : AV} {x : Int} (hd : decode y.cd pc = .ok (.lstore 7, 2)) (hj : isJ b6 = false) (k : At G y (pc + 2) (b0 :: b1 :: b2 :: b3 :: b4 :: b5 :: b6 :: vJ x :: vU :: L) st a h Q) : At G y pc (b0 :: b1 :: b2 :: b3 :: b4 :: b5 :: b6 :: b7 :: c :: L) (vJ x :: st) a h Q := by
  intro p e R s m args below meth c H locs LS F w1 w2 w3
  refine lv_lstore F.1 F.2.1 hd w3.1 (by have := w3.2; simp at this; omega) rfl (fun LS' h' => ?_)
  exact k p e R s m args below meth c H locs LS' F w1 w2 (lvc.st2 (pre := [b0, b1, b2, b3, b4, b5, b6]) (post := L) w3 rfl (fun w hw => by have e : some b6 = some w := hw; cases e; exact hj) h')
theorem r_iinc_7 {b0 b1 b2 b3 b4 b5 b6 b7 : AV} {x n : Int} (hd : decode y.cd pc = .ok (.iinc 7 n, 3)) (hj : isJ b6 = false) (hb : b7 = vI x) (k : At G y (pc + 3) (b0 :: b1 :: b2 :: b3 :: b4 :: b5 :: b6 :: vI (x + n) :: L) st a h Q) : At G y pc (b0 :: b1 :: b2 :: b3 :: b4 :: b5 :: b6 :: b7 :: L) st a h Q := by
  intro p e R s m args below meth c H locs LS F w1 w2 w3
  subst hb
  have hx : ((7 : Nat), Value.int (Int32.ofInt x)) ∈ lvZ G 0 (b0 :: b1 :: b2 :: b3 :: b4 :: b5 :: b6 :: vI x :: L) := (lvZ_mem _ 0 _).mpr ⟨7, vI x, rfl, rfl, rfl⟩
  obtain ⟨j, hj2⟩ := List.getElem?_of_mem hx
  refine lv_iinc F.1 F.2.1 hd w3.1 (k := j) hj2 (v := Int32.ofInt (x + n)) (i_add _ _) (by have := w3.2; simp at this; omega) rfl (fun LS' h' => ?_)
  exact k p e R s m args below meth c H locs LS' F w1 w2 (lvc.st1 (pre := [b0, b1, b2, b3, b4, b5, b6]) (post := L) w3 rfl (fun w hw => by have e : some b6 = some w := hw; cases e; exact hj) h')
theorem r_istore_8 {b0 b1 b2 b3 b4 b5 b6 b7 b8 : AV} {x : Int} (hd : decode y.cd pc = .ok (.istore 8, 2)) (hj : isJ b7 = false) (k : At G y (pc + 2) (b0 :: b1 :: b2 :: b3 :: b4 :: b5 :: b6 :: b7 :: vI x :: L) st a h Q) : At G y pc (b0 :: b1 :: b2 :: b3 :: b4 :: b5 :: b6 :: b7 :: b8 :: L) (vI x :: st) a h Q := by
  intro p e R s m args below meth c H locs LS F w1 w2 w3
  refine lv_istore F.1 F.2.1 hd w3.1 (by have := w3.2; simp at this; omega) rfl (fun LS' h' => ?_)
  exact k p e R s m args below meth c H locs LS' F w1 w2 (lvc.st1 (pre := [b0, b1, b2, b3, b4, b5, b6, b7]) (post := L) w3 rfl (fun w hw => by have e : some b7 = some w := hw; cases e; exact hj) h')
theorem r_astore_8 {b0 b1 b2 b3 b4 b5 b6 b7 b8 : AV} {x : Nat} (hd : decode y.cd pc = .ok (.astore 8, 2)) (hj : isJ b7 = false) (k : At G y (pc + 2) (b0 :: b1 :: b2 :: b3 :: b4 :: b5 :: b6 :: b7 :: vR x :: L) st a h Q) : At G y pc (b0 :: b1 :: b2 :: b3 :: b4 :: b5 :: b6 :: b7 :: b8 :: L) (vR x :: st) a h Q := by
  intro p e R s m args below meth c H locs LS F w1 w2 w3
  refine lv_astore F.1 F.2.1 hd w3.1 (by have := w3.2; simp at this; omega) rfl (fun LS' h' => ?_)
  exact k p e R s m args below meth c H locs LS' F w1 w2 (lvc.st1 (pre := [b0, b1, b2, b3, b4, b5, b6, b7]) (post := L) w3 rfl (fun w hw => by have e : some b7 = some w := hw; cases e; exact hj) h')
theorem r_lstore_8 {b0 b1 b2 b3 b4 b5 b6 b7 b8 c : AV} {x : Int} (hd : decode y.cd pc = .ok (.lstore 8, 2)) (hj : isJ b7 = false) (k : At G y (pc + 2) (b0 :: b1 :: b2 :: b3 :: b4 :: b5 :: b6 :: b7 :: vJ x :: vU :: L) st a h Q) : At G y pc (b0 :: b1 :: b2 :: b3 :: b4 :: b5 :: b6 :: b7 :: b8 :: c :: L) (vJ x :: st) a h Q := by
  intro p e R s m args below meth c H locs LS F w1 w2 w3
  refine lv_lstore F.1 F.2.1 hd w3.1 (by have := w3.2; simp at this; omega) rfl (fun LS' h' => ?_)
  exact k p e R s m args below meth c H locs LS' F w1 w2 (lvc.st2 (pre := [b0, b1, b2, b3, b4, b5, b6, b7]) (post := L) w3 rfl (fun w hw => by have e : some b7 = some w := hw; cases e; exact hj) h')
theorem r_iinc_8 {b0 b1 b2 b3 b4 b5 b6 b7 b8 : AV} {x n : Int} (hd : decode y.cd pc = .ok (.iinc 8 n, 3)) (hj : isJ b7 = false) (hb : b8 = vI x) (k : At G y (pc + 3) (b0 :: b1 :: b2 :: b3 :: b4 :: b5 :: b6 :: b7 :: vI (x + n) :: L) st a h Q) : At G y pc (b0 :: b1 :: b2 :: b3 :: b4 :: b5 :: b6 :: b7 :: b8 :: L) st a h Q := by
  intro p e R s m args below meth c H locs LS F w1 w2 w3
  subst hb
  have hx : ((8 : Nat), Value.int (Int32.ofInt x)) ∈ lvZ G 0 (b0 :: b1 :: b2 :: b3 :: b4 :: b5 :: b6 :: b7 :: vI x :: L) := (lvZ_mem _ 0 _).mpr ⟨8, vI x, rfl, rfl, rfl⟩
  obtain ⟨j, hj2⟩ := List.getElem?_of_mem hx
  refine lv_iinc F.1 F.2.1 hd w3.1 (k := j) hj2 (v := Int32.ofInt (x + n)) (i_add _ _) (by have := w3.2; simp at this; omega) rfl (fun LS' h' => ?_)
  exact k p e R s m args below meth c H locs LS' F w1 w2 (lvc.st1 (pre := [b0, b1, b2, b3, b4, b5, b6, b7]) (post := L) w3 rfl (fun w hw => by have e : some b7 = some w := hw; cases e; exact hj) h')
theorem r_istore_9 {b0 b1 b2 b3 b4 b5 b6 b7 b8 b9 : AV} {x : Int} (hd : decode y.cd pc = .ok (.istore 9, 2)) (hj : isJ b8 = false) (k : At G y (pc + 2) (b0 :: b1 :: b2 :: b3 :: b4 :: b5 :: b6 :: b7 :: b8 :: vI x :: L) st a h Q) : At G y pc (b0 :: b1 :: b2 :: b3 :: b4 :: b5 :: b6 :: b7 :: b8 :: b9 :: L) (vI x :: st) a h Q := by
  intro p e R s m args below meth c H locs LS F w1 w2 w3
  refine lv_istore F.1 F.2.1 hd w3.1 (by have := w3.2; simp at this; omega) rfl (fun LS' h' => ?_)
  exact k p e R s m args below meth c H locs LS' F w1 w2 (lvc.st1 (pre := [b0, b1, b2, b3, b4, b5, b6, b7, b8]) (post := L) w3 rfl (fun w hw => by have e : some b8 = some w := hw; cases e; exact hj) h')
theorem r_astore_9 {b0 b1 b2 b3 b4 b5 b6 b7 b8 b9 : AV} {x : Nat} (hd : decode y.cd pc = .ok (.astore 9, 2)) (hj : isJ b8 = false) (k : At G y (pc + 2) (b0 :: b1 :: b2 :: b3 :: b4 :: b5 :: b6 :: b7 :: b8 :: vR x :: L) st a h Q) : At G y pc (b0 :: b1 :: b2 :: b3 :: b4 :: b5 :: b6 :: b7 :: b8 :: b9 :: L) (vR x :: st) a h Q := by
  intro p e R s m args below meth c H locs LS F w1 w2 w3
  refine lv_astore F.1 F.2.1 hd w3.1 (by have := w3.2; simp at this; omega) rfl (fun LS' h' => ?_)
  exact k p e R s m args below meth c H locs LS' F w1 w2 (lvc.st1 (pre := [b0, b1, b2, b3, b4, b5, b6, b7, b8]) (post := L) w3 rfl (fun w hw => by have e : some b8 = some w := hw; cases e; exact hj) h')
theorem r_lstore_9 {b0 b1 b2 b3 b4 b5 b6 b7 b8 b9 c : AV} {x : Int} (hd : decode y.cd pc = .ok (.lstore 9, 2)) (hj : isJ b8 = false) (k : At G y (pc + 2) (b0 :: b1 :: b2 :: b3 :: b4 :: b5 :: b6 :: b7 :: b8 :: vJ x :: vU :: L) st a h Q) : At G y pc (b0 :: b1 :: b2 :: b3 :: b4 :: b5 :: b6 :: b7 :: b8 :: b9 :: c :: L) (vJ x :: st) a h Q := by
  intro p e R s m args below meth c H locs LS F w1 w2 w3
  refine lv_lstore F.1 F.2.1 hd w3.1 (by have := w3.2; simp at this; omega) rfl (fun LS' h' => ?_)
  exact k p e R s m args below meth c H locs LS' F w1 w2 (lvc.st2 (pre := [b0, b1, b2, b3, b4, b5, b6, b7, b8]) (post := L) w3 rfl (fun w hw => by have e : some b8 = some w := hw; cases e; exact hj) h')
theorem r_iinc_9 {b0 b1 b2 b3 b4 b5 b6 b7 b8 b9 : AV} {x n : Int} (hd : decode y.cd pc = .ok (.iinc 9 n, 3)) (hj : isJ b8 = false) (hb : b9 = vI x) (k : At G y (pc + 3) (b0 :: b1 :: b2 :: b3 :: b4 :: b5 :: b6 :: b7 :: b8 :: vI (x + n) :: L) st a h Q) : At G y pc (b0 :: b1 :: b2 :: b3 :: b4 :: b5 :: b6 :: b7 :: b8 :: b9 :: L) st a h Q := by
  intro p e R s m args below meth c H locs LS F w1 w2 w3
  subst hb
  have hx : ((9 : Nat), Value.int (Int32.ofInt x)) ∈ lvZ G 0 (b0 :: b1 :: b2 :: b3 :: b4 :: b5 :: b6 :: b7 :: b8 :: vI x :: L) := (lvZ_mem _ 0 _).mpr ⟨9, vI x, rfl, rfl, rfl⟩
  obtain ⟨j, hj2⟩ := List.getElem?_of_mem hx
  refine lv_iinc F.1 F.2.1 hd w3.1 (k := j) hj2 (v := Int32.ofInt (x + n)) (i_add _ _) (by have := w3.2; simp at this; omega) rfl (fun LS' h' => ?_)
  exact k p e R s m args below meth c H locs LS' F w1 w2 (lvc.st1 (pre := [b0, b1, b2, b3, b4, b5, b6, b7, b8]) (post := L) w3 rfl (fun w hw => by have e : some b8 = some w := hw; cases e; exact hj) h')
theorem r_istore_10 {b0 b1 b2 b3 b4 b5 b6 b7 b8 b9 b10 : AV} {x : Int} (hd : decode y.cd pc = .ok (.istore 10, 2)) (hj : isJ b9 = false) (k : At G y (pc + 2) (b0 :: b1 :: b2 :: b3 :: b4 :: b5 :: b6 :: b7 :: b8 :: b9 :: vI x :: L) st a h Q) : At G y pc (b0 :: b1 :: b2 :: b3 :: b4 :: b5 :: b6 :: b7 :: b8 :: b9 :: b10 :: L) (vI x :: st) a h Q := by
  intro p e R s m args below meth c H locs LS F w1 w2 w3
  refine lv_istore F.1 F.2.1 hd w3.1 (by have := w3.2; simp at this; omega) rfl (fun LS' h' => ?_)
  exact k p e R s m args below meth c H locs LS' F w1 w2 (lvc.st1 (pre := [b0, b1, b2, b3, b4, b5, b6, b7, b8, b9]) (post := L) w3 rfl (fun w hw => by have e : some b9 = some w := hw; cases e; exact hj) h')
theorem r_astore_10 {b0 b1 b2 b3 b4 b5 b6 b7 b8 b9 b10 : AV} {x : Nat} (hd : decode y.cd pc = .ok (.astore 10, 2)) (hj : isJ b9 = false) (k : At G y (pc + 2) (b0 :: b1 :: b2 :: b3 :: b4 :: b5 :: b6 :: b7 :: b8 :: b9 :: vR x :: L) st a h Q) : At G y pc (b0 :: b1 :: b2 :: b3 :: b4 :: b5 :: b6 :: b7 :: b8 :: b9 :: b10 :: L) (vR x :: st) a h Q := by
  intro p e R s m args below meth c H locs LS F w1 w2 w3
  refine lv_astore F.1 F.2.1 hd w3.1 (by have := w3.2; simp at this; omega) rfl (fun LS' h' => ?_)
  exact k p e R s m args below meth c H locs LS' F w1 w2 (lvc.st1 (pre := [b0, b1, b2, b3, b4, b5, b6, b7, b8, b9]) (post := L) w3 rfl (fun w hw => by have e : some b9 = some w := hw; cases e; exact hj) h')
theorem r_lstore_10 {b0 b1 b2 b3 b4 b5 b6 b7 b8 b9 b10 c : AV} {x : Int} (hd : decode y.cd pc = .ok (.lstore 10, 2)) (hj : isJ b9 = false) (k : At G y (pc + 2) (b0 :: b1 :: b2 :: b3 :: b4 :: b5 :: b6 :: b7 :: b8 :: b9 :: vJ x :: vU :: L) st a h Q) : At G y pc (b0 :: b1 :: b2 :: b3 :: b4 :: b5 :: b6 :: b7 :: b8 :: b9 :: b10 :: c :: L) (vJ x :: st) a h Q := by
  intro p e R s m args below meth c H locs LS F w1 w2 w3
  refine lv_lstore F.1 F.2.1 hd w3.1 (by have := w3.2; simp at this; omega) rfl (fun LS' h' => ?_)
  exact k p e R s m args below meth c H locs LS' F w1 w2 (lvc.st2 (pre := [b0, b1, b2, b3, b4, b5, b6, b7, b8, b9]) (post := L) w3 rfl (fun w hw => by have e : some b9 = some w := hw; cases e; exact hj) h')
theorem r_iinc_10 {b0 b1 b2 b3 b4 b5 b6 b7 b8 b9 b10 : AV} {x n : Int} (hd : decode y.cd pc = .ok (.iinc 10 n, 3)) (hj : isJ b9 = false) (hb : b10 = vI x) (k : At G y (pc + 3) (b0 :: b1 :: b2 :: b3 :: b4 :: b5 :: b6 :: b7 :: b8 :: b9 :: vI (x + n) :: L) st a h Q) : At G y pc (b0 :: b1 :: b2 :: b3 :: b4 :: b5 :: b6 :: b7 :: b8 :: b9 :: b10 :: L) st a h Q := by
  intro p e R s m args below meth c H locs LS F w1 w2 w3
  subst hb
  have hx : ((10 : Nat), Value.int (Int32.ofInt x)) ∈ lvZ G 0 (b0 :: b1 :: b2 :: b3 :: b4 :: b5 :: b6 :: b7 :: b8 :: b9 :: vI x :: L) := (lvZ_mem _ 0 _).mpr ⟨10, vI x, rfl, rfl, rfl⟩
  obtain ⟨j, hj2⟩ := List.getElem?_of_mem hx
  refine lv_iinc F.1 F.2.1 hd w3.1 (k := j) hj2 (v := Int32.ofInt (x + n)) (i_add _ _) (by have := w3.2; simp at this; omega) rfl (fun LS' h' => ?_)
  exact k p e R s m args below meth c H locs LS' F w1 w2 (lvc.st1 (pre := [b0, b1, b2, b3, b4, b5, b6, b7, b8, b9]) (post := L) w3 rfl (fun w hw => by have e : some b9 = some w := hw; cases e; exact hj) h')
theorem r_istore_11 {b0 b1 b2 b3 b4 b5 b6 b7 b8 b9 b10 b11 : AV} {x : Int} (hd : decode y.cd pc = .ok (.istore 11, 2)) (hj : isJ b10 = false) (k : At G y (pc + 2) (b0 :: b1 :: b2 :: b3 :: b4 :: b5 :: b6 :: b7 :: b8 :: b9 :: b10 :: vI x :: L) st a h Q) : At G y pc (b0 :: b1 :: b2 :: b3 :: b4 :: b5 :: b6 :: b7 :: b8 :: b9 :: b10 :: b11 :: L) (vI x :: st) a h Q := by
  intro p e R s m args below meth c H locs LS F w1 w2 w3
  refine lv_istore F.1 F.2.1 hd w3.1 (by have := w3.2; simp at this; omega) rfl (fun LS' h' => ?_)
  exact k p e R s m args below meth c H locs LS' F w1 w2 (lvc.st1 (pre := [b0, b1, b2, b3, b4, b5, b6, b7, b8, b9, b10]) (post := L) w3 rfl (fun w hw => by have e : some b10 = some w := hw; cases e; exact hj) h')
theorem r_astore_11 {b0 b1 b2 b3 b4 b5 b6 b7 b8 b9 b10 b11 : AV} {x : Nat} (hd : decode y.cd pc = .ok (.astore 11, 2)) (hj : isJ b10 = false) (k : At G y (pc + 2) (b0 :: b1 :: b2 :: b3 :: b4 :: b5 :: b6 :: b7 :: b8 :: b9 :: b10 :: vR x :: L) st a h Q) : At G y pc (b0 :: b1 :: b2 :: b3 :: b4 :: b5 :: b6 :: b7 :: b8 :: b9 :: b10 :: b11 :: L) (vR x :: st) a h Q := by
  intro p e R s m args below meth c H locs LS F w1 w2 w3
  refine lv_astore F.1 F.2.1 hd w3.1 (by have := w3.2; simp at this; omega) rfl (fun LS' h' => ?_)
  exact k p e R s m args below meth c H locs LS' F w1 w2 (lvc.st1 (pre := [b0, b1, b2, b3, b4, b5, b6, b7, b8, b9, b10]) (post := L) w3 rfl (fun w hw => by have e : some b10 = some w := hw; cases e; exact hj) h')
theorem r_lstore_11 {b0 b1 b2 b3 b4 b5 b6 b7 b8 b9 b10 b11 c : AV} {x : Int} (hd : decode y.cd pc = .ok (.lstore 11, 2)) (hj : isJ b10 = false) (k : At G y (pc + 2) (b0 :: b1 :: b2 :: b3 :: b4 :: b5 :: b6 :: b7 :: b8 :: b9 :: b10 :: vJ x :: vU :: L) st a h Q) : At G y pc (b0 :: b1 :: b2 :: b3 :: b4 :: b5 :: b6 :: b7 :: b8 :: b9 :: b10 :: b11 :: c :: L) (vJ x :: st) a h Q := by
  intro p e R s m args below meth c H locs LS F w1 w2 w3
  refine lv_lstore F.1 F.2.1 hd w3.1 (by have := w3.2; simp at this; omega) rfl (fun LS' h' => ?_)
  exact k p e R s m args below meth c H locs LS' F w1 w2 (lvc.st2 (pre := [b0, b1, b2, b3, b4, b5, b6, b7, b8, b9, b10]) (post := L) w3 rfl (fun w hw => by have e : some b10 = some w := hw; cases e; exact hj) h')
theorem r_iinc_11 {b0 b1 b2 b3 b4 b5 b6 b7 b8 b9 b10 b11 : AV} {x n : Int} (hd : decode y.cd pc = .ok (.iinc 11 n, 3)) (hj : isJ b10 = false) (hb : b11 = vI x) (k : At G y (pc + 3) (b0 :: b1 :: b2 :: b3 :: b4 :: b5 :: b6 :: b7 :: b8 :: b9 :: b10 :: vI (x + n) :: L) st a h Q) : At G y pc (b0 :: b1 :: b2 :: b3 :: b4 :: b5 :: b6 :: b7 :: b8 :: b9 :: b10 :: b11 :: L) st a h Q := by
  intro p e R s m args below meth c H locs LS F w1 w2 w3
  subst hb
  have hx : ((11 : Nat), Value.int (Int32.ofInt x)) ∈ lvZ G 0 (b0 :: b1 :: b2 :: b3 :: b4 :: b5 :: b6 :: b7 :: b8 :: b9 :: b10 :: vI x :: L) := (lvZ_mem _ 0 _).mpr ⟨11, vI x, rfl, rfl, rfl⟩
  obtain ⟨j, hj2⟩ := List.getElem?_of_mem hx
  refine lv_iinc F.1 F.2.1 hd w3.1 (k := j) hj2 (v := Int32.ofInt (x + n)) (i_add _ _) (by have := w3.2; simp at this; omega) rfl (fun LS' h' => ?_)
  exact k p e R s m args below meth c H locs LS' F w1 w2 (lvc.st1 (pre := [b0, b1, b2, b3, b4, b5, b6, b7, b8, b9, b10]) (post := L) w3 rfl (fun w hw => by have e : some b10 = some w := hw; cases e; exact hj) h')
theorem r_istore_12 {b0 b1 b2 b3 b4 b5 b6 b7 b8 b9 b10 b11 b12 : AV} {x : Int} (hd : decode y.cd pc = .ok (.istore 12, 2)) (hj : isJ b11 = false) (k : At G y (pc + 2) (b0 :: b1 :: b2 :: b3 :: b4 :: b5 :: b6 :: b7 :: b8 :: b9 :: b10 :: b11 :: vI x :: L) st a h Q) : At G y pc (b0 :: b1 :: b2 :: b3 :: b4 :: b5 :: b6 :: b7 :: b8 :: b9 :: b10 :: b11 :: b12 :: L) (vI x :: st) a h Q := by
  intro p e R s m args below meth c H locs LS F w1 w2 w3
  refine lv_istore F.1 F.2.1 hd w3.1 (by have := w3.2; simp at this; omega) rfl (fun LS' h' => ?_)
  exact k p e R s m args below meth c H locs LS' F w1 w2 (lvc.st1 (pre := [b0, b1, b2, b3, b4, b5, b6, b7, b8, b9, b10, b11]) (post := L) w3 rfl (fun w hw => by have e : some b11 = some w := hw; cases e; exact hj) h')
theorem r_astore_12 {b0 b1 b2 b3 b4 b5 b6 b7 b8 b9 b10 b11 b12 : AV} {x : Nat} (hd : decode y.cd pc = .ok (.astore 12, 2)) (hj : isJ b11 = false) (k : At G y (pc + 2) (b0 :: b1 :: b2 :: b3 :: b4 :: b5 :: b6 :: b7 :: b8 :: b9 :: b10 :: b11 :: vR x :: L) st a h Q) : At G y pc (b0 :: b1 :: b2 :: b3 :: b4 :: b5 :: b6 :: b7 :: b8 :: b9 :: b10 :: b11 :: b12 :: L) (vR x :: st) a h Q := by
  intro p e R s m args below meth c H locs LS F w1 w2 w3
  refine lv_astore F.1 F.2.1 hd w3.1 (by have := w3.2; simp at this; omega) rfl (fun LS' h' => ?_)
  exact k p e R s m args below meth c H locs LS' F w1 w2 (lvc.st1 (pre := [b0, b1, b2, b3, b4, b5, b6, b7, b8, b9, b10, b11]) (post := L) w3 rfl (fun w hw => by have e : some b11 = some w := hw; cases e; exact hj) h')
theorem r_lstore_12 {b0 b1 b2 b3 b4 b5 b6 b7 b8 b9 b10 b11 b12 c : AV} {x : Int} (hd : decode y.cd pc = .ok (.lstore 12, 2)) (hj : isJ b11 = false) (k : At G y (pc + 2) (b0 :: b1 :: b2 :: b3 :: b4 :: b5 :: b6 :: b7 :: b8 :: b9 :: b10 :: b11 :: vJ x :: vU :: L) st a h Q) : At G y pc (b0 :: b1 :: b2 :: b3 :: b4 :: b5 :: b6 :: b7 :: b8 :: b9 :: b10 :: b11 :: b12 :: c :: L) (vJ x :: st) a h Q := by
  intro p e R s m args below meth c H locs LS F w1 w2 w3
  refine lv_lstore F.1 F.2.1 hd w3.1 (by have := w3.2; simp at this; omega) rfl (fun LS' h' => ?_)
  exact k p e R s m args below meth c H locs LS' F w1 w2 (lvc.st2 (pre := [b0, b1, b2, b3, b4, b5, b6, b7, b8, b9, b10, b11]) (post := L) w3 rfl (fun w hw => by have e : some b11 = some w := hw; cases e; exact hj) h')
theorem r_iinc_12 {b0 b1 b2 b3 b4 b5 b6 b7 b8 b9 b10 b11 b12 : AV} {x n : Int} (hd : decode y.cd pc = .ok (.iinc 12 n, 3)) (hj : isJ b11 = false) (hb : b12 = vI x) (k : At G y (pc + 3) (b0 :: b1 :: b2 :: b3 :: b4 :: b5 :: b6 :: b7 :: b8 :: b9 :: b10 :: b11 :: vI (x + n) :: L) st a h Q) : At G y pc (b0 :: b1 :: b2 :: b3 :: b4 :: b5 :: b6 :: b7 :: b8 :: b9 :: b10 :: b11 :: b12 :: L) st a h Q := by
  intro p e R s m args below meth c H locs LS F w1 w2 w3
  subst hb
  have hx : ((12 : Nat), Value.int (Int32.ofInt x)) ∈ lvZ G 0 (b0 :: b1 :: b2 :: b3 :: b4 :: b5 :: b6 :: b7 :: b8 :: b9 :: b10 :: b11 :: vI x :: L) := (lvZ_mem _ 0 _).mpr ⟨12, vI x, rfl, rfl, rfl⟩
  obtain ⟨j, hj2⟩ := List.getElem?_of_mem hx
  refine lv_iinc F.1 F.2.1 hd w3.1 (k := j) hj2 (v := Int32.ofInt (x + n)) (i_add _ _) (by have := w3.2; simp at this; omega) rfl (fun LS' h' => ?_)
  exact k p e R s m args below meth c H locs LS' F w1 w2 (lvc.st1 (pre := [b0, b1, b2, b3, b4, b5, b6, b7, b8, b9, b10, b11]) (post := L) w3 rfl (fun w hw => by have e : some b11 = some w := hw; cases e; exact hj) h')
theorem r_istore_13 {b0 b1 b2 b3 b4 b5 b6 b7 b8 b9 b10 b11 b12 b13 : AV} {x : Int} (hd : decode y.cd pc = .ok (.istore 13, 2)) (hj : isJ b12 = false) (k : At G y (pc + 2) (b0 :: b1 :: b2 :: b3 :: b4 :: b5 :: b6 :: b7 :: b8 :: b9 :: b10 :: b11 :: b12 :: vI x :: L) st a h Q) : At G y pc (b0 :: b1 :: b2 :: b3 :: b4 :: b5 :: b6 :: b7 :: b8 :: b9 :: b10 :: b11 :: b12 :: b13 :: L) (vI x :: st) a h Q := by
  intro p e R s m args below meth c H locs LS F w1 w2 w3
  refine lv_istore F.1 F.2.1 hd w3.1 (by have := w3.2; simp at this; omega) rfl (fun LS' h' => ?_)
  exact k p e R s m args below meth c H locs LS' F w1 w2 (lvc.st1 (pre := [b0, b1, b2, b3, b4, b5, b6, b7, b8, b9, b10, b11, b12]) (post := L) w3 rfl (fun w hw => by have e : some b12 = some w := hw; cases e; exact hj) h')
theorem r_astore_13 {b0 b1 b2 b3 b4 b5 b6 b7 b8 b9 b10 b11 b12 b13 : AV} {x : Nat} (hd : decode y.cd pc = .ok (.astore 13, 2)) (hj : isJ b12 = false) (k : At G y (pc + 2) (b0 :: b1 :: b2 :: b3 :: b4 :: b5 :: b6 :: b7 :: b8 :: b9 :: b10 :: b11 :: b12 :: vR x :: L) st a h Q) : At G y pc (b0 :: b1 :: b2 :: b3 :: b4 :: b5 :: b6 :: b7 :: b8 :: b9 :: b10 :: b11 :: b12 :: b13 :: L) (vR x :: st) a h Q := by
  intro p e R s m args below meth c H locs LS F w1 w2 w3
  refine lv_astore F.1 F.2.1 hd w3.1 (by have := w3.2; simp at this; omega) rfl (fun LS' h' => ?_)
  exact k p e R s m args below meth c H locs LS' F w1 w2 (lvc.st1 (pre := [b0, b1, b2, b3, b4, b5, b6, b7, b8, b9, b10, b11, b12]) (post := L) w3 rfl (fun w hw => by have e : some b12 = some w := hw; cases e; exact hj) h')
theorem r_lstore_13 {b0 b1 b2 b3 b4 b5 b6 b7 b8 b9 b10 b11 b12 b13 c : AV} {x : Int} (hd : decode y.cd pc = .ok (.lstore 13, 2)) (hj : isJ b12 = false) (k : At G y (pc + 2) (b0 :: b1 :: b2 :: b3 :: b4 :: b5 :: b6 :: b7 :: b8 :: b9 :: b10 :: b11 :: b12 :: vJ x :: vU :: L) st a h Q) : At G y pc (b0 :: b1 :: b2 :: b3 :: b4 :: b5 :: b6 :: b7 :: b8 :: b9 :: b10 :: b11 :: b12 :: b13 :: c :: L) (vJ x :: st) a h Q := by
  intro p e R s m args below meth c H locs LS F w1 w2 w3
  refine lv_lstore F.1 F.2.1 hd w3.1 (by have := w3.2; simp at this; omega) rfl (fun LS' h' => ?_)
  exact k p e R s m args below meth c H locs LS' F w1 w2 (lvc.st2 (pre := [b0, b1, b2, b3, b4, b5, b6, b7, b8, b9, b10, b11, b12]) (post := L) w3 rfl (fun w hw => by have e : some b12 = some w := hw; cases e; exact hj) h')
theorem r_iinc_13 {b0 b1 b2 b3 b4 b5 b6 b7 b8 b9 b10 b11 b12 b13 : AV} {x n : Int} (hd : decode y.cd pc = .ok (.iinc 13 n, 3)) (hj : isJ b12 = false) (hb : b13 = vI x) (k : At G y (pc + 3) (b0 :: b1 :: b2 :: b3 :: b4 :: b5 :: b6 :: b7 :: b8 :: b9 :: b10 :: b11 :: b12 :: vI (x + n) :: L) st a h Q) : At G y pc (b0 :: b1 :: b2 :: b3 :: b4 :: b5 :: b6 :: b7 :: b8 :: b9 :: b10 :: b11 :: b12 :: b13 :: L) st a h Q := by
  intro p e R s m args below meth c H locs LS F w1 w2 w3
  subst hb
  have hx : ((13 : Nat), Value.int (Int32.ofInt x)) ∈ lvZ G 0 (b0 :: b1 :: b2 :: b3 :: b4 :: b5 :: b6 :: b7 :: b8 :: b9 :: b10 :: b11 :: b12 :: vI x :: L) := (lvZ_mem _ 0 _).mpr ⟨13, vI x, rfl, rfl, rfl⟩
  obtain ⟨j, hj2⟩ := List.getElem?_of_mem hx
  refine lv_iinc F.1 F.2.1 hd w3.1 (k := j) hj2 (v := Int32.ofInt (x + n)) (i_add _ _) (by have := w3.2; simp at this; omega) rfl (fun LS' h' => ?_)
  exact k p e R s m args below meth c H locs LS' F w1 w2 (lvc.st1 (pre := [b0, b1, b2, b3, b4, b5, b6, b7, b8, b9, b10, b11, b12]) (post := L) w3 rfl (fun w hw => by have e : some b12 = some w := hw; cases e; exact hj) h')
theorem r_istore_14 {b0 b1 b2 b3 b4 b5 b6 b7 b8 b9 b10 b11 b12 b13 b14 : AV} {x : Int} (hd : decode y.cd pc = .ok (.istore 14, 2)) (hj : isJ b13 = false) (k : At G y (pc + 2) (b0 :: b1 :: b2 :: b3 :: b4 :: b5 :: b6 :: b7 :: b8 :: b9 :: b10 :: b11 :: b12 :: b13 :: vI x :: L) st a h Q) : At G y pc (b0 :: b1 :: b2 :: b3 :: b4 :: b5 :: b6 :: b7 :: b8 :: b9 :: b10 :: b11 :: b12 :: b13 :: b14 :: L) (vI x :: st) a h Q := by
  intro p e R s m args below meth c H locs LS F w1 w2 w3
  refine lv_istore F.1 F.2.1 hd w3.1 (by have := w3.2; simp at this; omega) rfl (fun LS' h' => ?_)
  exact k p e R s m args below meth c H locs LS' F w1 w2 (lvc.st1 (pre := [b0, b1, b2, b3, b4, b5, b6, b7, b8, b9, b10, b11, b12, b13]) (post := L) w3 rfl (fun w hw => by have e : some b13 = some w := hw; cases e; exact hj) h')
theorem r_astore_14 {b0 b1 b2 b3 b4 b5 b6 b7 b8 b9 b10 b11 b12 b13 b14 : AV} {x : Nat} (hd : decode y.cd pc = .ok (.astore 14, 2)) (hj : isJ b13 = false) (k : At G y (pc + 2) (b0 :: b1 :: b2 :: b3 :: b4 :: b5 :: b6 :: b7 :: b8 :: b9 :: b10 :: b11 :: b12 :: b13 :: vR x :: L) st a h Q) : At G y pc (b0 :: b1 :: b2 :: b3 :: b4 :: b5 :: b6 :: b7 :: b8 :: b9 :: b10 :: b11 :: b12 :: b13 :: b14 :: L) (vR x :: st) a h Q := by
  intro p e R s m args below meth c H locs LS F w1 w2 w3
  refine lv_astore F.1 F.2.1 hd w3.1 (by have := w3.2; simp at this; omega) rfl (fun LS' h' => ?_)
  exact k p e R s m args below meth c H locs LS' F w1 w2 (lvc.st1 (pre := [b0, b1, b2, b3, b4, b5, b6, b7, b8, b9, b10, b11, b12, b13]) (post := L) w3 rfl (fun w hw => by have e : some b13 = some w := hw; cases e; exact hj) h')
theorem r_lstore_14 {b0 b1 b2 b3 b4 b5 b6 b7 b8 b9 b10 b11 b12 b13 b14 c : AV} {x : Int} (hd : decode y.cd pc = .ok (.lstore 14, 2)) (hj : isJ b13 = false) (k : At G y (pc + 2) (b0 :: b1 :: b2 :: b3 :: b4 :: b5 :: b6 :: b7 :: b8 :: b9 :: b10 :: b11 :: b12 :: b13 :: vJ x :: vU :: L) st a h Q) : At G y pc (b0 :: b1 :: b2 :: b3 :: b4 :: b5 :: b6 :: b7 :: b8 :: b9 :: b10 :: b11 :: b12 :: b13 :: b14 :: c :: L) (vJ x :: st) a h Q := by
  intro p e R s m args below meth c H locs LS F w1 w2 w3
  refine lv_lstore F.1 F.2.1 hd w3.1 (by have := w3.2; simp at this; omega) rfl (fun LS' h' => ?_)
  exact k p e R s m args below meth c H locs LS' F w1 w2 (lvc.st2 (pre := [b0, b1, b2, b3, b4, b5, b6, b7, b8, b9, b10, b11, b12, b13]) (post := L) w3 rfl (fun w hw => by have e : some b13 = some w := hw; cases e; exact hj) h')
theorem r_iinc_14 {b0 b1 b2 b3 b4 b5 b6 b7 b8 b9 b10 b11 b12 b13 b14 : AV} {x n : Int} (hd : decode y.cd pc = .ok (.iinc 14 n, 3)) (hj : isJ b13 = false) (hb : b14 = vI x) (k : At G y (pc + 3) (b0 :: b1 :: b2 :: b3 :: b4 :: b5 :: b6 :: b7 :: b8 :: b9 :: b10 :: b11 :: b12 :: b13 :: vI (x + n) :: L) st a h Q) : At G y pc (b0 :: b1 :: b2 :: b3 :: b4 :: b5 :: b6 :: b7 :: b8 :: b9 :: b10 :: b11 :: b12 :: b13 :: b14 :: L) st a h Q := by
  intro p e R s m args below meth c H locs LS F w1 w2 w3
  subst hb
  have hx : ((14 : Nat), Value.int (Int32.ofInt x)) ∈ lvZ G 0 (b0 :: b1 :: b2 :: b3 :: b4 :: b5 :: b6 :: b7 :: b8 :: b9 :: b10 :: b11 :: b12 :: b13 :: vI x :: L) := (lvZ_mem _ 0 _).mpr ⟨14, vI x, rfl, rfl, rfl⟩
  obtain ⟨j, hj2⟩ := List.getElem?_of_mem hx
  refine lv_iinc F.1 F.2.1 hd w3.1 (k := j) hj2 (v := Int32.ofInt (x + n)) (i_add _ _) (by have := w3.2; simp at this; omega) rfl (fun LS' h' => ?_)
  exact k p e R s m args below meth c H locs LS' F w1 w2 (lvc.st1 (pre := [b0, b1, b2, b3, b4, b5, b6, b7, b8, b9, b10, b11, b12, b13]) (post := L) w3 rfl (fun w hw => by have e : some b13 = some w := hw; cases e; exact hj) h')
theorem r_istore_15 {b0 b1 b2 b3 b4 b5 b6 b7 b8 b9 b10 b11 b12 b13 b14 b15 : AV} {x : Int} (hd : decode y.cd pc = .ok (.istore 15, 2)) (hj : isJ b14 = false) (k : At G y (pc + 2) (b0 :: b1 :: b2 :: b3 :: b4 :: b5 :: b6 :: b7 :: b8 :: b9 :: b10 :: b11 :: b12 :: b13 :: b14 :: vI x :: L) st a h Q) : At G y pc (b0 :: b1 :: b2 :: b3 :: b4 :: b5 :: b6 :: b7 :: b8 :: b9 :: b10 :: b11 :: b12 :: b13 :: b14 :: b15 :: L) (vI x :: st) a h Q := by
  intro p e R s m args below meth c H locs LS F w1 w2 w3
  refine lv_istore F.1 F.2.1 hd w3.1 (by have := w3.2; simp at this; omega) rfl (fun LS' h' => ?_)
  exact k p e R s m args below meth c H locs LS' F w1 w2 (lvc.st1 (pre := [b0, b1, b2, b3, b4, b5, b6, b7, b8, b9, b10, b11, b12, b13, b14]) (post := L) w3 rfl (fun w hw => by have e : some b14 = some w := hw; cases e; exact hj) h')
theorem r_astore_15 {b0 b1 b2 b3 b4 b5 b6 b7 b8 b9 b10 b11 b12 b13 b14 b15 : AV} {x : Nat} (hd : decode y.cd pc = .ok (.astore 15, 2)) (hj : isJ b14 = false) (k : At G y (pc + 2) (b0 :: b1 :: b2 :: b3 :: b4 :: b5 :: b6 :: b7 :: b8 :: b9 :: b10 :: b11 :: b12 :: b13 :: b14 :: vR x :: L) st a h Q) : At G y pc (b0 :: b1 :: b2 :: b3 :: b4 :: b5 :: b6 :: b7 :: b8 :: b9 :: b10 :: b11 :: b12 :: b13 :: b14 :: b15 :: L) (vR x :: st) a h Q := by
  intro p e R s m args below meth c H locs LS F w1 w2 w3
  refine lv_astore F.1 F.2.1 hd w3.1 (by have := w3.2; simp at this; omega) rfl (fun LS' h' => ?_)
  exact k p e R s m args below meth c H locs LS' F w1 w2 (lvc.st1 (pre := [b0, b1, b2, b3, b4, b5, b6, b7, b8, b9, b10, b11, b12, b13, b14]) (post := L) w3 rfl (fun w hw => by have e : some b14 = some w := hw; cases e; exact hj) h')
theorem r_iinc_15 {b0 b1 b2 b3 b4 b5 b6 b7 b8 b9 b10 b11 b12 b13 b14 b15 : AV} {x n : Int} (hd : decode y.cd pc = .ok (.iinc 15 n, 3)) (hj : isJ b14 = false) (hb : b15 = vI x) (k : At G y (pc + 3) (b0 :: b1 :: b2 :: b3 :: b4 :: b5 :: b6 :: b7 :: b8 :: b9 :: b10 :: b11 :: b12 :: b13 :: b14 :: vI (x + n) :: L) st a h Q) : At G y pc (b0 :: b1 :: b2 :: b3 :: b4 :: b5 :: b6 :: b7 :: b8 :: b9 :: b10 :: b11 :: b12 :: b13 :: b14 :: b15 :: L) st a h Q := by
  intro p e R s m args below meth c H locs LS F w1 w2 w3
  subst hb
  have hx : ((15 : Nat), Value.int (Int32.ofInt x)) ∈ lvZ G 0 (b0 :: b1 :: b2 :: b3 :: b4 :: b5 :: b6 :: b7 :: b8 :: b9 :: b10 :: b11 :: b12 :: b13 :: b14 :: vI x :: L) := (lvZ_mem _ 0 _).mpr ⟨15, vI x, rfl, rfl, rfl⟩
  obtain ⟨j, hj2⟩ := List.getElem?_of_mem hx
  refine lv_iinc F.1 F.2.1 hd w3.1 (k := j) hj2 (v := Int32.ofInt (x + n)) (i_add _ _) (by have := w3.2; simp at this; omega) rfl (fun LS' h' => ?_)
  exact k p e R s m args below meth c H locs LS' F w1 w2 (lvc.st1 (pre := [b0, b1, b2, b3, b4, b5, b6, b7, b8, b9, b10, b11, b12, b13, b14]) (post := L) w3 rfl (fun w hw => by have e : some b14 = some w := hw; cases e; exact hj) h')
theorem r_icmp_eq {x z : Int} {off : Int} (t : Nat) (hd : decode y.cd pc = .ok (.if_icmp .eq off, 3)) (ht : (pc : Int) + off = (t : Int)) (hx : -2147483648 ≤ x ∧ x < 2147483648) (hz : -2147483648 ≤ z ∧ z < 2147483648) (kt : x = z → At G y t L st a h Q) (kf : ¬ (x = z) → At G y (pc + 3) L st a h Q) : At G y pc L (vI z :: vI x :: st) a h Q := by
  intro p e R s m args below meth c H locs LS F w1 w2 w3
  refine lv_icmp_eq F.1 F.2.1 hd ht (fun q => ?_) (fun q => ?_)
  · exact kt (by simpa only [i_eq hx hz] using q) p e R s m args below meth c H locs LS F w1 w2 w3
  · exact kf (by simpa only [i_eq hx hz, Decidable.not_not] using q) p e R s m args below meth c H locs LS F w1 w2 w3
theorem r_if_eq {x : Int} {off : Int} (t : Nat) (hd : decode y.cd pc = .ok (.ifCond .eq off, 3)) (ht : (pc : Int) + off = (t : Int)) (hx : -2147483648 ≤ x ∧ x < 2147483648) (kt : x = 0 → At G y t L st a h Q) (kf : ¬ (x = 0) → At G y (pc + 3) L st a h Q) : At G y pc L (vI x :: st) a h Q := by
  intro p e R s m args below meth c H locs LS F w1 w2 w3
  have hz : -2147483648 ≤ (0 : Int) ∧ (0 : Int) < 2147483648 := by decide
  refine lv_if_eq F.1 F.2.1 hd ht (fun q => ?_) (fun q => ?_)
  · exact kt (by rw [← i_0] at q; simpa only [i_eq hx hz] using q) p e R s m args below meth c H locs LS F w1 w2 w3
  · exact kf (by rw [← i_0] at q; simpa only [i_eq hx hz, Decidable.not_not] using q) p e R s m args below meth c H locs LS F w1 w2 w3
theorem r_icmp_ne {x z : Int} {off : Int} (t : Nat) (hd : decode y.cd pc = .ok (.if_icmp .ne off, 3)) (ht : (pc : Int) + off = (t : Int)) (hx : -2147483648 ≤ x ∧ x < 2147483648) (hz : -2147483648 ≤ z ∧ z < 2147483648) (kt : ¬ x = z → At G y t L st a h Q) (kf : x = z → At G y (pc + 3) L st a h Q) : At G y pc L (vI z :: vI x :: st) a h Q := by
  intro p e R s m args below meth c H locs LS F w1 w2 w3
  refine lv_icmp_ne F.1 F.2.1 hd ht (fun q => ?_) (fun q => ?_)
  · exact kt (by simpa only [i_eq hx hz] using q) p e R s m args below meth c H locs LS F w1 w2 w3
  · exact kf (by simpa only [i_eq hx hz, Decidable.not_not] using q) p e R s m args below meth c H locs LS F w1 w2 w3
theorem r_if_ne {x : Int} {off : Int} (t : Nat) (hd : decode y.cd pc = .ok (.ifCond .ne off, 3)) (ht : (pc : Int) + off = (t : Int)) (hx : -2147483648 ≤ x ∧ x < 2147483648) (kt : ¬ x = 0 → At G y t L st a h Q) (kf : x = 0 → At G y (pc + 3) L st a h Q) : At G y pc L (vI x :: st) a h Q := by
  intro p e R s m args below meth c H locs LS F w1 w2 w3
  have hz : -2147483648 ≤ (0 : Int) ∧ (0 : Int) < 2147483648 := by decide
  refine lv_if_ne F.1 F.2.1 hd ht (fun q => ?_) (fun q => ?_)
  · exact kt (by rw [← i_0] at q; simpa only [i_eq hx hz] using q) p e R s m args below meth c H locs LS F w1 w2 w3
  · exact kf (by rw [← i_0] at q; simpa only [i_eq hx hz, Decidable.not_not] using q) p e R s m args below meth c H locs LS F w1 w2 w3
theorem r_icmp_lt {x z : Int} {off : Int} (t : Nat) (hd : decode y.cd pc = .ok (.if_icmp .lt off, 3)) (ht : (pc : Int) + off = (t : Int)) (hx : -2147483648 ≤ x ∧ x < 2147483648) (hz : -2147483648 ≤ z ∧ z < 2147483648) (kt : x < z → At G y t L st a h Q) (kf : ¬ (x < z) → At G y (pc + 3) L st a h Q) : At G y pc L (vI z :: vI x :: st) a h Q := by
  intro p e R s m args below meth c H locs LS F w1 w2 w3
  refine lv_icmp_lt F.1 F.2.1 hd ht (fun q => ?_) (fun q => ?_)
  · exact kt (by simpa only [i_lt hx hz] using q) p e R s m args below meth c H locs LS F w1 w2 w3
  · exact kf (by simpa only [i_lt hx hz, Decidable.not_not] using q) p e R s m args below meth c H locs LS F w1 w2 w3
theorem r_if_lt {x : Int} {off : Int} (t : Nat) (hd : decode y.cd pc = .ok (.ifCond .lt off, 3)) (ht : (pc : Int) + off = (t : Int)) (hx : -2147483648 ≤ x ∧ x < 2147483648) (kt : x < 0 → At G y t L st a h Q) (kf : ¬ (x < 0) → At G y (pc + 3) L st a h Q) : At G y pc L (vI x :: st) a h Q := by
  intro p e R s m args below meth c H locs LS F w1 w2 w3
  have hz : -2147483648 ≤ (0 : Int) ∧ (0 : Int) < 2147483648 := by decide
  refine lv_if_lt F.1 F.2.1 hd ht (fun q => ?_) (fun q => ?_)
  · exact kt (by rw [← i_0] at q; simpa only [i_lt hx hz] using q) p e R s m args below meth c H locs LS F w1 w2 w3
  · exact kf (by rw [← i_0] at q; simpa only [i_lt hx hz, Decidable.not_not] using q) p e R s m args below meth c H locs LS F w1 w2 w3
theorem r_icmp_ge {x z : Int} {off : Int} (t : Nat) (hd : decode y.cd pc = .ok (.if_icmp .ge off, 3)) (ht : (pc : Int) + off = (t : Int)) (hx : -2147483648 ≤ x ∧ x < 2147483648) (hz : -2147483648 ≤ z ∧ z < 2147483648) (kt : z ≤ x → At G y t L st a h Q) (kf : ¬ (z ≤ x) → At G y (pc + 3) L st a h Q) : At G y pc L (vI z :: vI x :: st) a h Q := by
  intro p e R s m args below meth c H locs LS F w1 w2 w3
  refine lv_icmp_ge F.1 F.2.1 hd ht (fun q => ?_) (fun q => ?_)
  · exact kt (by simpa only [i_le hz hx] using q) p e R s m args below meth c H locs LS F w1 w2 w3
  · exact kf (by simpa only [i_le hz hx, Decidable.not_not] using q) p e R s m args below meth c H locs LS F w1 w2 w3
theorem r_if_ge {x : Int} {off : Int} (t : Nat) (hd : decode y.cd pc = .ok (.ifCond .ge off, 3)) (ht : (pc : Int) + off = (t : Int)) (hx : -2147483648 ≤ x ∧ x < 2147483648) (kt : 0 ≤ x → At G y t L st a h Q) (kf : ¬ (0 ≤ x) → At G y (pc + 3) L st a h Q) : At G y pc L (vI x :: st) a h Q := by
  intro p e R s m args below meth c H locs LS F w1 w2 w3
  have hz : -2147483648 ≤ (0 : Int) ∧ (0 : Int) < 2147483648 := by decide
  refine lv_if_ge F.1 F.2.1 hd ht (fun q => ?_) (fun q => ?_)
  · exact kt (by rw [← i_0] at q; simpa only [i_le hz hx] using q) p e R s m args below meth c H locs LS F w1 w2 w3
  · exact kf (by rw [← i_0] at q; simpa only [i_le hz hx, Decidable.not_not] using q) p e R s m args below meth c H locs LS F w1 w2 w3
theorem r_icmp_gt {x z : Int} {off : Int} (t : Nat) (hd : decode y.cd pc = .ok (.if_icmp .gt off, 3)) (ht : (pc : Int) + off = (t : Int)) (hx : -2147483648 ≤ x ∧ x < 2147483648) (hz : -2147483648 ≤ z ∧ z < 2147483648) (kt : z < x → At G y t L st a h Q) (kf : ¬ (z < x) → At G y (pc + 3) L st a h Q) : At G y pc L (vI z :: vI x :: st) a h Q := by
  intro p e R s m args below meth c H locs LS F w1 w2 w3
  refine lv_icmp_gt F.1 F.2.1 hd ht (fun q => ?_) (fun q => ?_)
  · exact kt (by simpa only [i_lt hz hx] using q) p e R s m args below meth c H locs LS F w1 w2 w3
  · exact kf (by simpa only [i_lt hz hx, Decidable.not_not] using q) p e R s m args below meth c H locs LS F w1 w2 w3
theorem r_if_gt {x : Int} {off : Int} (t : Nat) (hd : decode y.cd pc = .ok (.ifCond .gt off, 3)) (ht : (pc : Int) + off = (t : Int)) (hx : -2147483648 ≤ x ∧ x < 2147483648) (kt : 0 < x → At G y t L st a h Q) (kf : ¬ (0 < x) → At G y (pc + 3) L st a h Q) : At G y pc L (vI x :: st) a h Q := by
  intro p e R s m args below meth c H locs LS F w1 w2 w3
  have hz : -2147483648 ≤ (0 : Int) ∧ (0 : Int) < 2147483648 := by decide
  refine lv_if_gt F.1 F.2.1 hd ht (fun q => ?_) (fun q => ?_)
  · exact kt (by rw [← i_0] at q; simpa only [i_lt hz hx] using q) p e R s m args below meth c H locs LS F w1 w2 w3
  · exact kf (by rw [← i_0] at q; simpa only [i_lt hz hx, Decidable.not_not] using q) p e R s m args below meth c H locs LS F w1 w2 w3
theorem r_icmp_le {x z : Int} {off : Int} (t : Nat) (hd : decode y.cd pc = .ok (.if_icmp .le off, 3)) (ht : (pc : Int) + off = (t : Int)) (hx : -2147483648 ≤ x ∧ x < 2147483648) (hz : -2147483648 ≤ z ∧ z < 2147483648) (kt : x ≤ z → At G y t L st a h Q) (kf : ¬ (x ≤ z) → At G y (pc + 3) L st a h Q) : At G y pc L (vI z :: vI x :: st) a h Q := by
  intro p e R s m args below meth c H locs LS F w1 w2 w3
  refine lv_icmp_le F.1 F.2.1 hd ht (fun q => ?_) (fun q => ?_)
  · exact kt (by simpa only [i_le hx hz] using q) p e R s m args below meth c H locs LS F w1 w2 w3
  · exact kf (by simpa only [i_le hx hz, Decidable.not_not] using q) p e R s m args below meth c H locs LS F w1 w2 w3
theorem r_if_le {x : Int} {off : Int} (t : Nat) (hd : decode y.cd pc = .ok (.ifCond .le off, 3)) (ht : (pc : Int) + off = (t : Int)) (hx : -2147483648 ≤ x ∧ x < 2147483648) (kt : x ≤ 0 → At G y t L st a h Q) (kf : ¬ (x ≤ 0) → At G y (pc + 3) L st a h Q) : At G y pc L (vI x :: st) a h Q := by
  intro p e R s m args below meth c H locs LS F w1 w2 w3
  have hz : -2147483648 ≤ (0 : Int) ∧ (0 : Int) < 2147483648 := by decide
  refine lv_if_le F.1 F.2.1 hd ht (fun q => ?_) (fun q => ?_)
  · exact kt (by rw [← i_0] at q; simpa only [i_le hx hz] using q) p e R s m args below meth c H locs LS F w1 w2 w3
  · exact kf (by rw [← i_0] at q; simpa only [i_le hx hz, Decidable.not_not] using q) p e R s m args below meth c H locs LS F w1 w2 w3
end RW
