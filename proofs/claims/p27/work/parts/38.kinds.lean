/-! the kinds of arrays at the law's entry -/
theorem xka_c {args : Array Value} {s : State} {ty : FieldType} (hn : ∀ C, ty ≠ .object C) (h : (Cond.arrayClass ty).before args s = true) : ∃ cA, ArrOfT s cA ty ∧ va_RA s cA ty := by
  obtain ⟨c, k, comp, h1, h2, h3⟩ := Cond.arrayClass_spec h
  refine ⟨c, fun n z => ⟨(fun _ h => by cases h), k, h2, comp, h3⟩, ?_⟩
  cases ty <;> first | exact h1 | exact absurd rfl (hn _)
theorem xka_o {args : Array Value} {s : State} {C : String} (h : (Cond.arrayOver (.object C)).before args s = true) : ∃ cA, ArrOfT s cA (.object C) ∧ va_RA s cA (.object C) := by
  obtain ⟨comp, c, k, h1, -, h2, h3, h4⟩ := Cond.arrayOver_spec h
  exact ⟨c, fun n z => ⟨(fun _ h => by cases h), k, h2, comp, h3⟩, k, comp, h2, h3, h1, h4⟩
theorem xka_at {args : Array Value} {s : State} (hts : ∀ w ∈ lw_tbl, w.before args s = true) : ∀ t, t < 8 → ∃ cA, ArrOfT s cA (xTy t) ∧ va_RA s cA (xTy t)
  | 0, _ => xka_c (ty := .int) (fun _ h => by cases h) (hts _ (by decide +kernel))
  | 1, _ => xka_c (ty := .char) (fun _ h => by cases h) (hts _ (by decide +kernel))
  | 2, _ => xka_c (ty := .byte) (fun _ h => by cases h) (hts _ (by decide +kernel))
  | 3, _ => xka_c (ty := .boolean) (fun _ h => by cases h) (hts _ (by decide +kernel))
  | 4, _ => xka_o (C := "Levelhouse$Session") (hts _ (by decide +kernel))
  | 5, _ => xka_o (C := "Levelhouse$Word") (hts _ (by decide +kernel))
  | 6, _ => xka_o (C := "Levelhouse$Table") (hts _ (by decide +kernel))
  | 7, _ => xka_o (C := "java/lang/Object") (hts _ (by decide +kernel))
  | k + 8, h => absurd h (by omega)
