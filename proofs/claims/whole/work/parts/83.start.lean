/-! ===== the law's start: what the tables and the Statement give ===== -/
section ST
variable {s : State} {A : Array Value}
theorem tab_of (hts : ∀ w ∈ lw_tbl, w.before A s = true) : Tab s := by
  intro w hw ho
  rcases okW_cases ho with ⟨a, i, x, n, rfl⟩ | hc
  · exact va_tabs rfl rfl (hts _ hw)
  · exact word_at (State.WarmedH.refl s) hc (hts w hw)
theorem kn_of {own : String} {i ci N : Nat} {fs : List AV} (f : FN own i ci N fs) (hT : Tab s) : ∃ p : ClassId × (Nat → Nat), ∀ q : vw_C, vwCl[ci]? = some q → u_Kn s q.1 q.2.1 q.2.2 p.1 p.2 := by
  obtain ⟨C, T, ty0, h1, h2, h3, h4, h5, h6, h7⟩ := f
  obtain ⟨cC, iS, k⟩ := u_known (ws := u_ws C T N) (n := N) (hT.gets h2 (args := #[])) (fun _ q => q) (hT.get h5)
  refine ⟨(cC, iS), fun q hq => ?_⟩
  rw [h1] at hq
  cases hq
  exact k
theorem kn_all (hT : Tab s) : ∃ D : Nat → ClassId × (Nat → Nat), ∀ (k : Nat) (q : vw_C), vwCl[k]? = some q → u_Kn s q.1 q.2.1 q.2.2 (D k).1 (D k).2 := by
  have key : ∀ k : Nat, ∃ p : ClassId × (Nat → Nat), ∀ q : vw_C, vwCl[k]? = some q → u_Kn s q.1 q.2.1 q.2.2 p.1 p.2 := by
    intro k
    match k with
    | 0 => exact kn_of fN_X8_20 hT
    | 1 => exact kn_of fN_X8_51 hT
    | 2 => exact kn_of fN_X8_44 hT
    | 3 => exact kn_of fN_X8_37 hT
    | 4 => exact kn_of fN_X7_9 hT
    | 5 => exact kn_of fN_X8_30 hT
    | 6 => exact kn_of fN_X0_9 hT
    | 7 => exact kn_of fN_X8_9 hT
    | 8 => exact kn_of fN_L_7 hT
    | 9 => exact kn_of fN_L_10 hT
    | k + 10 => exact ⟨(0, fun _ => 0), fun q hq => by cases hq⟩
  exact Classical.axiomOfChoice key
theorem ar_of {ty : FieldType} (hno : ∀ C, ty ≠ .object C) (h : (Cond.arrayClass ty).before A s = true) : ∃ cA : ClassId, ArrOfT s cA ty ∧ va_RA s cA ty := by
  obtain ⟨c, k, comp, h1, h2, h3⟩ := Cond.arrayClass_spec h
  refine ⟨c, fun n z => ⟨fun k h => (by cases h), k, h2, comp, h3⟩, ?_⟩
  cases ty with
  | object C => exact absurd rfl (hno C)
  | _ => exact h1
theorem ao_of {C : String} (h : va_AO C s) : ∃ cA : ClassId, ArrOfT s cA (.object C) ∧ va_RA s cA (.object C) := by
  obtain ⟨comp, c, k, h1, h2, h3, h4, h5⟩ := Cond.arrayOver_spec h
  exact ⟨c, fun n z => ⟨fun k h => (by cases h), k, h3, comp, h4⟩, k, comp, h3, h4, h1, h5⟩
end ST
abbrev gv1 : Cond := Jvm.Cond.and given_1 narrow_1
/-- the row of letters' term -/
def ltT : Term := .static "AfterYou$Tokens" "LETTERS" "[C"
theorem fl_ar : Cond.arrayOf ltT .char ∈ flatC gv1 := by decide +kernel
theorem fl_le : Cond.eq (.length ltT) (.int 96) ∈ flatC gv1 := by decide +kernel
theorem fl_el : ∀ j, j < 96 → Cond.eq (.elem ltT (.int (Int32.ofNat j))) (.int (Int32.ofInt (ltW.getD j 0))) ∈ flatC gv1 := by decide +kernel
theorem tb_lt1 : Cond.laysStatic "AfterYou$Tokens" "LETTERS" "[C" ∈ lw_tbl := by decide +kernel
theorem tb_lt2 : Cond.initialized "AfterYou$Tokens" ∈ lw_tbl := by decide +kernel
theorem tb_ao : Cond.arrayOver (.object RX7) ∈ lw_tbl := by decide +kernel
theorem tb_z : Cond.arrayClass .boolean ∈ lw_tbl := by decide +kernel
theorem tb_i : Cond.arrayClass .int ∈ lw_tbl := by decide +kernel

