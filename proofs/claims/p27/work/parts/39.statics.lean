/-! the statics at the law's entry -/
theorem xst_chk : xST.all (fun q => match q.2.2.2 with
  | .int z => xfl.any (fun c => decide (c = Cond.eq (.static q.1 q.2.1 q.2.2.1) (.int z)))
  | _ => true) = true := by decide +kernel
theorem xst_w : ∀ q ∈ xST, Cond.laysStatic q.1 q.2.1 q.2.2.1 ∈ lw_tbl ∧ Cond.initialized q.1 ∈ lw_tbl := by decide +kernel
theorem xst_int {args : Array Value} {s : State} {A : Nat → Prop} (h0 : ∀ c ∈ xfl, c.before args s = true) (hts : ∀ w ∈ lw_tbl, w.before args s = true) (hA : ∀ a : Nat, a < s.heap.size → ¬ A a) {q : String × String × String × Value} (hq : q ∈ xST) {z : Int32} (hz : q.2.2.2 = .int z) : va_Z q.1 q.2.1 q.2.2.1 (.int z) A s s.heap := by
  have h := List.all_eq_true.mp xst_chk q hq
  rw [hz] at h
  obtain ⟨c, hc, he⟩ := List.any_eq_true.mp h
  have he := of_decide_eq_true he
  subst he
  obtain ⟨w1, w2⟩ := xst_w q hq
  exact va_Zof (hts _ w1) (hts _ w2) (va_eqi (h0 _ hc)) hA
/-- a static that is a constant, by what its term is -/
theorem xst_ref {args : Array Value} {s : State} {A : Nat → Prop} (hts : ∀ w ∈ lw_tbl, w.before args s = true) (hA : ∀ a : Nat, a < s.heap.size → ¬ A a) {q : String × String × String × Value} (hq : q ∈ xST) {b : Nat} (hb : (Term.static q.1 q.2.1 q.2.2.1).eval args s none [] s = some (.ref b)) : va_Z q.1 q.2.1 q.2.2.1 (.ref b) A s s.heap := by
  obtain ⟨w1, w2⟩ := xst_w q hq
  exact va_Zof (hts _ w1) (hts _ w2) hb hA
