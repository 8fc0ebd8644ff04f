/-! what holds at the law's entry: a text constant -/
theorem xtx_at {args : Array Value} {s : State} {A : Nat → Prop} (h0 : ∀ c ∈ xfl, c.before args s = true) (hA : ∀ a : Nat, a < s.heap.size → ¬ A a) {q : String × Nat × String × Nat} (hq : q ∈ xNC.2.1) (hN : (xbytes q.2.2.2).length < 2 ^ 31) :
    ∃ a t : Nat, (Term.string q.1 q.2.1).eval args s none [] s = some (.ref a) ∧ (Term.field (.string q.1 q.2.1) "java/lang/String" "value" "[B").eval args s none [] s = some (.ref t) ∧ va_O "java/lang/String" a A s s.heap ∧ va_OF "java/lang/String" "value" "[B" (.ref t) a A s s.heap ∧ va_OF "java/lang/String" "coder" "B" (.int 0) a A s s.heap ∧ va_T .byte t (xbytes q.2.2.2).length (fun j => .int ((xbytes q.2.2.2).getD j 0)) A s s.heap := by
  have hb : ∀ c ∈ xtextC q.1 q.2.1 (xbytes q.2.2.2), c.before args s = true := fun c hc => h0 c (xtx_in hq c hc)
  have hex := hb (.exactly (.string q.1 q.2.1) "java/lang/String") (List.mem_append_left _ List.mem_cons_self)
  have hco := hb (.eq (.field (.string q.1 q.2.1) "java/lang/String" "coder" "B") (.int 0)) (List.mem_append_left _ (List.mem_cons_of_mem _ List.mem_cons_self))
  have har := hb (.arrayOf (.field (.string q.1 q.2.1) "java/lang/String" "value" "[B") .byte) (List.mem_append_left _ (List.mem_cons_of_mem _ (List.mem_cons_of_mem _ List.mem_cons_self)))
  have hle := hb (.eq (.length (.field (.string q.1 q.2.1) "java/lang/String" "value" "[B")) (.int (Int32.ofNat (xbytes q.2.2.2).length))) (List.mem_append_left _ (List.mem_cons_of_mem _ (List.mem_cons_of_mem _ (List.mem_cons_of_mem _ List.mem_cons_self))))
  have hel : ∀ j : Nat, j < (xbytes q.2.2.2).length → (Cond.eq (.elem (.field (.string q.1 q.2.1) "java/lang/String" "value" "[B") (.int (Int32.ofNat j))) (.int ((xbytes q.2.2.2).getD j 0))).before args s = true := fun j hj => hb _ (List.mem_append_right _ (List.mem_map.mpr ⟨j, List.mem_range.mpr hj, rfl⟩))
  obtain ⟨a, c, cA, kA, q1, q2, q3, q4, q5, q6, -⟩ := Cond.exactly_spec (args := args) (first := s) (o := none) (s := s) (idx := []) (t := .string q.1 q.2.1) (cls := "java/lang/String") hex
  obtain ⟨t, ht, hT⟩ := va_Tof (f := fun j => .int ((xbytes q.2.2.2).getD j 0)) (A := A) hN har (va_eqt hle) (fun j hj => va_eqt (hel j hj)) hA
  exact ⟨a, t, q1, ht, va_Oof hex q1 hA, vk_OFof q1 ht hA, vk_OFof q1 (va_eqt hco) hA, hT⟩
