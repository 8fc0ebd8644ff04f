/-! the kinds of arrays at the law's entry (written by wip/p27/emit.py) -/
theorem xka_c {args : Array Value} {s : State} {ty : FieldType} (hn : ∀ C, ty ≠ .object C) (h : (Cond.arrayClass ty).before args s = true) : ∃ cA, ArrOfT s cA ty ∧ va_RA s cA ty := by
  obtain ⟨c, k, comp, h1, h2, h3⟩ := Cond.arrayClass_spec h
  refine ⟨c, fun n z => ⟨(fun _ h => by cases h), k, h2, comp, h3⟩, ?_⟩
  cases ty <;> first | exact h1 | exact absurd rfl (hn _)
theorem xka_o {args : Array Value} {s : State} {C : String} (h : (Cond.arrayOver (.object C)).before args s = true) : ∃ cA, ArrOfT s cA (.object C) ∧ va_RA s cA (.object C) := by
  obtain ⟨comp, c, k, h1, -, h2, h3, h4⟩ := Cond.arrayOver_spec h
  exact ⟨c, fun n z => ⟨(fun _ h => by cases h), k, h2, comp, h3⟩, k, comp, h2, h3, h1, h4⟩
def xnt9 : Nat := 30
theorem xka_at {args : Array Value} {s : State} (hts : ∀ w ∈ lw_tbl, w.before args s = true) : ∀ t, t < 30 → ∃ cA, ArrOfT s cA (xTy t) ∧ va_RA s cA (xTy t)
  | 0, _ => xka_c (ty := .int) (fun _ h => by cases h) (hts _ (by decide +kernel))
  | 1, _ => xka_c (ty := .char) (fun _ h => by cases h) (hts _ (by decide +kernel))
  | 2, _ => xka_c (ty := .byte) (fun _ h => by cases h) (hts _ (by decide +kernel))
  | 3, _ => xka_c (ty := .boolean) (fun _ h => by cases h) (hts _ (by decide +kernel))
  | 4, _ => xka_o (C := "Levelhouse$Session") (hts _ (by decide +kernel))
  | 5, _ => xka_o (C := "Levelhouse$Word") (hts _ (by decide +kernel))
  | 6, _ => xka_o (C := "Levelhouse$Table") (hts _ (by decide +kernel))
  | 7, _ => xka_o (C := "java/lang/Object") (hts _ (by decide +kernel))
  | 8, _ => xka_c (ty := .int) (fun _ h => by cases h) (hts _ (by decide +kernel))
  | 9, _ => xka_c (ty := .int) (fun _ h => by cases h) (hts _ (by decide +kernel))
  | 10, _ => xka_c (ty := .int) (fun _ h => by cases h) (hts _ (by decide +kernel))
  | 11, _ => xka_c (ty := .int) (fun _ h => by cases h) (hts _ (by decide +kernel))
  | 12, _ => xka_c (ty := .int) (fun _ h => by cases h) (hts _ (by decide +kernel))
  | 13, _ => xka_c (ty := .int) (fun _ h => by cases h) (hts _ (by decide +kernel))
  | 14, _ => xka_c (ty := .int) (fun _ h => by cases h) (hts _ (by decide +kernel))
  | 15, _ => xka_c (ty := .int) (fun _ h => by cases h) (hts _ (by decide +kernel))
  | 16, _ => xka_c (ty := .int) (fun _ h => by cases h) (hts _ (by decide +kernel))
  | 17, _ => xka_c (ty := .int) (fun _ h => by cases h) (hts _ (by decide +kernel))
  | 18, _ => xka_c (ty := .int) (fun _ h => by cases h) (hts _ (by decide +kernel))
  | 19, _ => xka_c (ty := .int) (fun _ h => by cases h) (hts _ (by decide +kernel))
  | 20, _ => xka_c (ty := .int) (fun _ h => by cases h) (hts _ (by decide +kernel))
  | 21, _ => xka_c (ty := .int) (fun _ h => by cases h) (hts _ (by decide +kernel))
  | 22, _ => xka_c (ty := .int) (fun _ h => by cases h) (hts _ (by decide +kernel))
  | 23, _ => xka_c (ty := .int) (fun _ h => by cases h) (hts _ (by decide +kernel))
  | 24, _ => xka_c (ty := .int) (fun _ h => by cases h) (hts _ (by decide +kernel))
  | 25, _ => xka_o (C := "Levelhouse$Word") (hts _ (by decide +kernel))
  | 26, _ => xka_o (C := "Levelhouse$Word") (hts _ (by decide +kernel))
  | 27, _ => xka_o (C := "Levelhouse$Word") (hts _ (by decide +kernel))
  | 28, _ => xka_o (C := "Levelhouse$Word") (hts _ (by decide +kernel))
  | 29, _ => xka_o (C := "Levelhouse$Word") (hts _ (by decide +kernel))
  | k + 30, h => absurd h (by omega)
