/-! ===== the law's start: what the tables and the Statement give ===== -/
section ST
variable {s : State} {A : Array Value}
theorem tab_of (hts : ∀ w ∈ lw_tbl, w.before A s = true) : Tab s := by
  intro w hw ho
  rcases okW_cases ho with ⟨a, i, x, n, rfl⟩ | hc
  · exact va_tabs rfl rfl (hts _ hw)
  · exact word_at (State.WarmedH.refl s) hc (hts w hw)
theorem kn_of {own : String} {i ci N : Nat} {fs : List AV} (f : FN own i ci N fs) (hT : Tab s) : ∃ p : ClassId × (Nat → Nat), ∀ q : vw_C, vwCl[ci]? = some q → u_Kn s q.1 q.2.1 q.2.2 p.1 p.2 := by
  obtain ⟨C, T, ty0, h1, h2, h3, h4, h5, h6, h7⟩ := f
  obtain ⟨cC, iS, k⟩ := u_known (ws := u_ws C T N) (n := N) (hT.gets h2 (args := #[])) (fun _ q => q) (hT.get h5)
  refine ⟨(cC, iS), fun q hq => ?_⟩
  rw [h1] at hq
  cases hq
  exact k
theorem kn_all (hT : Tab s) : ∃ D : Nat → ClassId × (Nat → Nat), ∀ (k : Nat) (q : vw_C), vwCl[k]? = some q → u_Kn s q.1 q.2.1 q.2.2 (D k).1 (D k).2 := by
  have key : ∀ k : Nat, ∃ p : ClassId × (Nat → Nat), ∀ q : vw_C, vwCl[k]? = some q → u_Kn s q.1 q.2.1 q.2.2 p.1 p.2 := by
    intro k
    match k with
    | 0 => exact kn_of fN_X8_20 hT
    | 1 => exact kn_of fN_X8_51 hT
    | 2 => exact kn_of fN_X8_44 hT
    | 3 => exact kn_of fN_X8_37 hT
    | 4 => exact kn_of fN_X7_9 hT
    | 5 => exact kn_of fN_X8_30 hT
    | 6 => exact kn_of fN_X0_9 hT
    | 7 => exact kn_of fN_X8_9 hT
    | 8 => exact kn_of fN_L_7 hT
    | 9 => exact kn_of fN_L_10 hT
    | k + 10 => exact ⟨(0, fun _ => 0), fun q hq => by cases hq⟩
  exact Classical.axiomOfChoice key
theorem ar_of {ty : FieldType} (hno : ∀ C, ty ≠ .object C) (h : (Cond.arrayClass ty).before A s = true) : ∃ cA : ClassId, ArrOfT s cA ty ∧ va_RA s cA ty := by
  obtain ⟨c, k, comp, h1, h2, h3⟩ := Cond.arrayClass_spec h
  refine ⟨c, fun n z => ⟨fun k h => (by cases h), k, h2, comp, h3⟩, ?_⟩
  cases ty with
  | object C => exact absurd rfl (hno C)
  | _ => exact h1
theorem ao_of {C : String} (h : va_AO C s) : ∃ cA : ClassId, ArrOfT s cA (.object C) ∧ va_RA s cA (.object C) := by
  obtain ⟨comp, c, k, h1, h2, h3, h4, h5⟩ := Cond.arrayOver_spec h
  exact ⟨c, fun n z => ⟨fun k h => (by cases h), k, h3, comp, h4⟩, k, comp, h3, h4, h1, h5⟩
end ST
/-- the String constants' terms -/
def sTm (i : Nat) : Term := .string RX6 ((sPool[i]?).map Prod.fst |>.getD 0)
abbrev gv1 : Cond := Jvm.Cond.and given_1 narrow_1
theorem fl_ex : ∀ i, i < 12 → Cond.exactly (sTm i) "java/lang/String" ∈ flatC gv1 := by decide +kernel
theorem fl_co : ∀ i, i < 12 → Cond.eq (.field (sTm i) "java/lang/String" "coder" "B") (.int 0) ∈ flatC gv1 := by decide +kernel
theorem fl_ar : ∀ i, i < 12 → Cond.arrayOf (.field (sTm i) "java/lang/String" "value" "[B") .byte ∈ flatC gv1 := by decide +kernel
theorem fl_le : ∀ i, i < 12 → Cond.eq (.length (.field (sTm i) "java/lang/String" "value" "[B")) (.int (Int32.ofNat (sLen.getD i 0))) ∈ flatC gv1 := by decide +kernel
theorem fl_el : ∀ i, i < 12 → ∀ j, j < sLen.getD i 0 → Cond.eq (.elem (.field (sTm i) "java/lang/String" "value" "[B") (.int (Int32.ofNat j))) (.int ((sByt.getD i []).getD j 0)) ∈ flatC gv1 := by decide +kernel
theorem fl_ne : ∀ i, i < 12 → ∀ j, j < 12 → i ≠ j → Cond.not (Cond.eq (sTm i) (sTm j)) ∈ flatC gv1 ∨ Cond.not (Cond.eq (sTm j) (sTm i)) ∈ flatC gv1 := by decide +kernel
theorem fl_cs : Cond.eq (.static "java/lang/String" "COMPACT_STRINGS" "Z") (.int 1) ∈ flatC gv1 := by decide +kernel
theorem fl_sf : Cond.isRef (.static "jdk/internal/util/Preconditions" "SIOOBE_FORMATTER" "Ljava/util/function/BiFunction;") ∈ flatC gv1 := by decide +kernel
theorem sl_31 : ∀ i, i < 12 → sLen.getD i 0 < 2 ^ 31 := by decide +kernel
theorem tb_sr : ∀ i, i < 12 → Cond.stringRef RX6 (((sPool[i]?).map Prod.fst).getD 0) (((sPool[i]?).map Prod.snd).getD "") ∈ lw_tbl := by decide +kernel
theorem tb_cs1 : Cond.laysStatic "java/lang/String" "COMPACT_STRINGS" "Z" ∈ lw_tbl := by decide +kernel
theorem tb_cs2 : Cond.initialized "java/lang/String" ∈ lw_tbl := by decide +kernel
theorem tb_sf1 : Cond.laysStatic "jdk/internal/util/Preconditions" "SIOOBE_FORMATTER" "Ljava/util/function/BiFunction;" ∈ lw_tbl := by decide +kernel
theorem tb_sf2 : Cond.initialized "jdk/internal/util/Preconditions" ∈ lw_tbl := by decide +kernel
theorem tb_ao : Cond.arrayOver (.object RX7) ∈ lw_tbl := by decide +kernel
theorem tb_z : Cond.arrayClass .boolean ∈ lw_tbl := by decide +kernel
theorem tb_i : Cond.arrayClass .int ∈ lw_tbl := by decide +kernel

