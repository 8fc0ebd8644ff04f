/-! the law's entry: all that the abstract machine rests on holds there -/
theorem xsc_chk : xST.all (fun q => match q.2.2.2 with
  | .int _ => true
  | .retAddr k => decide (k < 226) && decide (xtm k = .static q.1 q.2.1 q.2.2.1)
  | .float b => decide (b.toNat = 228) && decide (xtm 228 = .static q.1 q.2.1 q.2.2.1) && decide (Cond.isRef (.static q.1 q.2.1 q.2.2.1) ∈ xfl)
  | _ => false) = true := by decide +kernel
theorem xsv_at {args : Array Value} {s : State} {A : Nat → Prop} (h0 : ∀ c ∈ xfl, c.before args s = true) (hts : ∀ w ∈ lw_tbl, w.before args s = true) (hA : ∀ a : Nat, a < s.heap.size → ¬ A a) {q : String × String × String × Value} (hq : q ∈ xST) : xZv (xad args s) A s s.heap q := by
  have h := List.all_eq_true.mp xsc_chk q hq
  obtain ⟨w1, w2⟩ := xst_w q hq
  cases hv : q.2.2.2 with
  | int z => exact ⟨fun b hb => (by rw [hv] at hb; cases hb), fun _ => by rw [hv]; exact xst_int h0 hts hA hq hv⟩
  | retAddr k =>
    rw [hv] at h
    simp only [Bool.and_eq_true, decide_eq_true_eq] at h
    refine ⟨fun b hb => (by rw [hv] at hb; cases hb), fun _ => ?_⟩
    rw [hv]
    refine xst_ref hts hA hq ?_
    rw [← h.2]
    exact (xe_all (A := A) h0 hA h.1).1
  | float b =>
    rw [hv] at h
    simp only [Bool.and_eq_true, decide_eq_true_eq] at h
    obtain ⟨⟨h1, h2⟩, h3⟩ := h
    obtain ⟨v, g1, g2⟩ := Cond.isRef_spec (h0 _ h3)
    refine ⟨fun b' hb => ?_, fun hn => absurd hv (hn b)⟩
    rw [hv] at hb
    cases hb
    cases v with
    | null => exact Or.inl (va_Zof (hts _ w1) (hts _ w2) g1 hA)
    | ref a =>
      refine Or.inr ?_
      rw [h1, xad_of (k := 228) (a := a) (by rw [h2]; exact g1)]
      exact va_Zof (hts _ w1) (hts _ w2) g1 hA
    | _ => cases g2
  | _ => rw [hv] at h; cases h
def xinw (C : String) (w : Cond) : Bool := match w with
  | .instantiable D _ => decide (D = C)
  | _ => false
theorem xin_chk : (xk xCL).all (fun q => lw_tbl.any (xinw q.1)) = true := by decide +kernel
theorem xin_s {q : vw_C} (h : q ∈ xk xCL) : ∃ n, Cond.instantiable q.1 n ∈ lw_tbl := by
  obtain ⟨w, hw, h9⟩ := List.any_eq_true.mp (List.all_eq_true.mp xin_chk q h)
  unfold xinw at h9
  split at h9
  · rename_i D n
    have h9 := of_decide_eq_true h9
    subst h9
    exact ⟨n, hw⟩
  · cases h9
theorem xK_at {args : Array Value} {s : State} (hts : ∀ w ∈ lw_tbl, w.before args s = true) : ∃ (D : va_G) (da : Nat → Nat), va_K D (xk xCL) (xtys xTy da xnt9) s := by
  have htb := xTB_ok hts
  have h1 : ∀ c : Nat, ∃ d : ClassId × (Nat → Nat), ∀ q : vw_C, (xk xCL)[c]? = some q → u_Kn s q.1 q.2.1 q.2.2 d.1 d.2 := by
    intro c
    cases hq : (xk xCL)[c]? with
    | none => exact ⟨(0, fun _ => 0), fun q h => by cases h⟩
    | some q =>
      have hin := (xcl_ok c q (xk_get hq)).1
      obtain ⟨n, hn⟩ := xin_s (List.mem_of_getElem? hq)
      obtain ⟨cC, iS, hK⟩ := u_known htb hin (hts _ hn)
      exact ⟨(cC, iS), fun q' h => by cases h; exact hK⟩
  have h2 : ∀ t : Nat, ∃ cA : ClassId, t < xnt9 → ArrOfT s cA (xTy t) ∧ va_RA s cA (xTy t) := by
    intro t
    by_cases ht : t < xnt9
    · obtain ⟨cA, h⟩ := xka_at hts t ht
      exact ⟨cA, fun _ => h⟩
    · exact ⟨0, fun h => absurd h ht⟩
  obtain ⟨f, hf⟩ := Classical.axiomOfChoice h1
  obtain ⟨da, hda⟩ := Classical.axiomOfChoice h2
  refine ⟨(fun c => (f c).1, fun c => (f c).2), da, fun c q h => hf c q h, fun k q h => ?_⟩
  have hk : k < xnt9 := by
    have h3 := (List.getElem?_eq_some_iff.mp h).1
    rw [xtys_len] at h3
    exact h3
  rw [xtys_get hk] at h
  cases h
  exact hda k hk
theorem xcs_at {b L : Nat} {xs : Nat → Int32} {s : State} {A : Nat → Prop} {S : List Int32} (hS : S.length = L) (hS2 : ∀ j, j < L → S.getD j 0 = xs j) (hX : va_X b L xs s s.heap) (hb : b < s.heap.size) (h0 : ∀ c ∈ xfl, c.before #[Value.ref b] s = true) (hts : ∀ w ∈ lw_tbl, w.before #[Value.ref b] s = true) (hA : ∀ a : Nat, a < s.heap.size → ¬ A a) : xcs (xZ S) xCL xST (xad #[Value.ref b] s) A s s.heap := by
  have eb : xad #[Value.ref b] s xKC.length = b := by
    rw [xkA_ok.2.2.2.2.2]
    exact xad_of (k := 226) rfl
  refine ⟨xkc_at h0 hA, xkA_at h0 hA, fun q hq => xsv_at h0 hts hA hq, vx_Zqof (hts _ (by decide +kernel)) (hts _ (by decide +kernel)) (h0 _ (List.mem_of_getElem? (i := 12) (by decide +kernel))) hA, vx_Zqof (hts _ (by decide +kernel)) (hts _ (by decide +kernel)) (h0 _ (List.mem_of_getElem? (i := 13) (by decide +kernel))) hA, ?_, ?_, ?_⟩
  · show va_X (xad _ s xKC.length) S.length (fun j => S.getD j 0) s s.heap
    rw [eb, hS]
    obtain ⟨scr, a1, a2, a3, a4, a5⟩ := hX
    exact ⟨scr, a1, a2, a3, a4, fun j hj => by rw [a5 j hj]; exact congrArg (fun x => some (Value.int x)) (hS2 j hj).symm⟩
  · show xad _ s xKC.length < _
    rw [eb]
    exact hb
  · show ¬ A (xad _ s xKC.length)
    rw [eb]
    exact hA b hb
theorem xsr_chk : xNC.2.1.all (fun q => decide (Cond.stringRef q.1 q.2.1 q.2.2.1 ∈ lw_tbl)) = true := by decide +kernel
theorem xlt_len : xNC.2.1.length = 85 := by decide +kernel
theorem xnc_at {args : Array Value} {s : State} (h0 : ∀ c ∈ xfl, c.before args s = true) (hts : ∀ w ∈ lw_tbl, w.before args s = true) : xnc xNC (xad args s) s := by
  refine ⟨fun q hq => ?_, fun q hq => ?_, fun q hq => ?_⟩
  · have hq : q = ("java/lang/UnsupportedOperationException", "java/lang/IllegalStateException") := List.mem_singleton.mp hq
    subst hq
    exact va_Nc.of (h0 _ (by decide +kernel))
  · obtain ⟨j, hj⟩ := List.getElem?_of_mem hq
    have hlt := (List.getElem?_eq_some_iff.mp hj).1
    rw [xlt_len] at hlt
    obtain ⟨q', es, e1, e2, e3, e4, e5, e6, e7, e8⟩ := xkL_s hlt
    cases hj.symm.trans e1
    have g := (xe_text (A := fun a => s.heap.size ≤ a) h0 (fun a ha h => Nat.not_le.mpr ha h) hlt).1
    rw [e7] at g
    rw [e4]
    exact vk_R.of (hts _ (of_decide_eq_true (List.all_eq_true.mp xsr_chk q hq))) g
  · have hq : q = ("[Ljava/lang/Object;", 227) := List.mem_singleton.mp hq
    subst hq
    obtain ⟨v, g1, -⟩ := Cond.isRef_spec (h0 (.isRef (.mirror "[Ljava/lang/Object;")) (List.mem_of_getElem? (i := 656) (by decide +kernel)))
    obtain ⟨c, k, a, m1, m2, m3, rfl⟩ := Term.mirror_spec g1
    exact ⟨c, k, m1, m2, by rw [m3, xad_of (k := 227) g1]⟩
