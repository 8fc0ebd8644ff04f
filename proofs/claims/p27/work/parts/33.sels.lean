/-! private methods of a superclass are chosen themselves -/
theorem xsel_p {C : String} {y z2 : MethodName} {args : Array Value} {s : State} (hy : y.cls ≠ "java/lang/invoke/MethodHandle" ∧ y.cls ≠ "java/lang/invoke/VarHandle") (hz : (Cond.selects C z2 z2).before args s = true) (hcls : z2.cls = y.cls) (hpriv : (Cond.privateMethod y).before args s = true) (hinst : (Cond.instanceMethod y).before args s = true) : (Cond.selects C y y).before args s = true := by
  obtain ⟨c, r, m2, hc, -, hm2, -, mk2, hmk2, hni⟩ := Cond.selects_spec hz
  obtain ⟨mk, methM, hnamed, hmethM, -, -⟩ := Cond.instanceMethod_spec hinst
  have hfound : s.methodFound? y.cls y.name y.desc = some mk := State.methodFound?_of_named hnamed hy
  have hcl : mk.cls = m2.cls := Option.some.inj ((findClass_of_methodNamed hnamed).symm.trans (by rw [← hcls]; exact findClass_of_methodNamed hm2))
  have hsel : selectMethod {} s.vm c mk = .method mk := selectMethod_private hmethM (Cond.privateMethod_at hpriv mk methM hnamed hmethM)
  simp only [Cond.before, Cond.holds, Cond.value, hc, hfound, hnamed, hsel, hcl, hmk2]
  simp; exact hni
theorem xsbN_ok : ∀ y ∈ xsbN, (y.cls ≠ "java/lang/invoke/MethodHandle" ∧ y.cls ≠ "java/lang/invoke/VarHandle") ∧ "java/lang/AbstractStringBuilder" = y.cls ∧ Cond.privateMethod y ∈ lw_tbl ∧ Cond.instanceMethod y ∈ lw_tbl := by decide +kernel
theorem xsbZ : Cond.selects "java/lang/StringBuilder" ⟨"java/lang/AbstractStringBuilder", "isLatin1", "()Z"⟩ ⟨"java/lang/AbstractStringBuilder", "isLatin1", "()Z"⟩ ∈ lw_tbl := List.mem_of_getElem? (i := 81 + 1854) (by decide +kernel)
theorem xsb_ok {args : Array Value} {s : State} (hts : ∀ w ∈ lw_tbl, w.before args s = true) : ∀ w ∈ xsb, w.before args s = true := fun w hw => by
  obtain ⟨y, hy, rfl⟩ := List.mem_map.mp hw
  obtain ⟨h0, h1, h2, h3⟩ := xsbN_ok y hy
  exact xsel_p h0 (hts _ xsbZ) h1 (hts _ h2) (hts _ h3)
theorem xTB_ok {args : Array Value} {s : State} (hts : ∀ w ∈ lw_tbl, w.before args s = true) : ∀ w ∈ xTB, w.before args s = true := fun w hw => (List.mem_append.mp (List.mem_filter.mp hw).1).elim (xsb_ok hts w) (hts w)
/-- (A) whole: the machine goes where the abstract machine goes -/
theorem xA {l : Launch} (hlt : l.stackTraces = false) (S : List Int32) (n : Nat) : xgo (xZ S) xMT xEX xCL xTB xST xNC l n := xadeq (xtb_ok S) (xMT_ok S) xTB_w hlt n
