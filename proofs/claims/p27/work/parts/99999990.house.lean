/-! the house: its picture in the heap (by hand) -/
/-- a session: label, reason, busy, shelf, changed, since, (rows, columns, answer), length, text -/
abbrev SM : Type := Int32 × Int32 × Bool × List En × List En × Nat × (Nat × Nat × List Int32) × Nat × List Int32
/-- a table: (object, what was given, the check's stack), serial, the table, whether it has a check, given, dropped -/
abbrev TQ : Type := (Nat × Nat × Nat) × Int32 × Tb × Bool × List Int32 × Bool
/-- a house: standing, shelf, ended, sessions, tally, made, all tables -/
abbrev HM : Type := List Nat × List En × List En × (Nat → SM) × List Int32 × Int32 × List TQ
def hSe (hp : List XC) (ow : Nat → Nat) (k : Nat) (A : Nat → Nat) (i : Nat) (s : SM) : Prop := ∃ (za : Nat) (ab : List Int32),
  hp[A (20 + i)]? = some (.inr (9, [.int s.1, .ref (A (28 + i)), .int (Int32.ofNat s.2.2.2.2.2.2.2.1), .ref za, .int (Int32.ofNat s.2.2.2.2.2.2.1.1), .int (Int32.ofNat s.2.2.2.2.2.2.1.2.1), .int s.2.1, .int (bI s.2.2.1), .ref (A (36 + i)), .ref (A (52 + i)), .int (Int32.ofNat s.2.2.2.2.2.1)])) ∧ hp[A (36 + i)]? = some (.inr (10, [.ref (A (44 + i))])) ∧ hp[A (28 + i)]? = some (.inl (1, s.2.2.2.2.2.2.2.2.map Value.int)) ∧ s.2.2.2.2.2.2.2.2.length = 120 ∧ s.2.2.2.2.2.2.2.1 ≤ 120 ∧ hp[za]? = some (.inl (21, ab.map Value.int)) ∧ ab.length ≤ 1000 ∧ ab.take (s.2.2.2.2.2.2.1.1 * s.2.2.2.2.2.2.1.2.1) = s.2.2.2.2.2.2.1.2.2 ∧ s.2.2.2.2.2.2.1.1 * s.2.2.2.2.2.2.1.2.1 ≤ ab.length ∧ s.2.2.2.2.2.2.1.1 ≤ 150 ∧ s.2.2.2.2.2.2.1.2.1 ≤ 100 ∧ ow za = k + 210 + i ∧ hSh hp (A (44 + i)) s.2.2.2.1 ∧ hSh hp (A (52 + i)) s.2.2.2.2.1
def hQu (hp : List XC) (ow : Nat → Nat) (k : Nat) (A : Nat → Nat) (np nl : Nat) : Prop := ∃ (q0 q1 : Value) (pa ln : Nat) (pn kp off so dn lc wd : Int32) (ps lb la : List Int32),
  hp[A 8]? = some (.inr (7, [q0, q1, .ref (A 17), .ref (A 18), .ref pa, .int pn, .ref (A 19), .int kp, .int off, .int so, .int dn, .ref ln, .int lc, .int wd])) ∧ hp[pa]? = some (.inl (18, ps.map Value.int)) ∧ ps.length = np ∧ np ≤ 7000 ∧ hp[A 19]? = some (.inl (19, la.map Value.int)) ∧ la.length = 120 ∧ hp[ln]? = some (.inl (20, lb.map Value.int)) ∧ lb.length = nl ∧ nl ≤ 900 ∧ ow pa = k + 200 ∧ ow ln = k + 201
def hCh (hp : List XC) (A : Nat → Nat) : Prop := (∃ lb al gi : Int32, hp[A 7]? = some (.inr (3, [.ref (A 11), .ref (A 12), .ref (A 13), .ref (A 14), .int lb, .int al, .int gi]))) ∧ hp[A 11]? = some (.inr (10, [.ref (A 15)])) ∧ ∃ lv, hp[A 14]? = some (.inr (11, [.ref (A 16), lv]))
/-- a statement and its meaning, of which nothing is known -/
def wGen : List WC := (wRd []).take 15 ++ wM0.take 2
def wIid (j : Nat) : Bool := (Nat.ble 3000 j && Nat.ble j 5999) || (Nat.ble 7000 j && Nat.ble j 8999) || (Nat.ble 10000 j && Nat.ble j 12999) || (Nat.ble 14000 j && Nat.ble j 14999)
def hSc (hp : List XC) (A : Nat → Nat) : Prop := ∃ ω : Nat → Value, (∀ j, (ω j).category = 1) ∧ (∀ j, wIid j = true → ∃ x, ω j = .int x) ∧ ∀ (h : Nat) (c : WC), wGen[h]? = some c → hp[A (60 + h)]? = some (wtc (fun h => A (60 + h)) (fun _ => 0) ω c)
/-- the check that the law's tables have: v < 9 -/
def osCK : List (Nat × Int32) := [(3, 1), (2, 9), (41, 0)]
def hTq (hp : List XC) (ow : Nat → Nat) (k : Nat) (q : TQ) : Prop := hTb hp q.1.1 q.2.1 q.2.2.1 ∧ hp[q.1.2.1]? = some (.inl (22, q.2.2.2.2.1.map Value.int)) ∧ q.2.2.2.2.1.length = 64 ∧ ow q.1.1 = k + 300 ∧ ow q.1.2.1 = k + 301 ∧ (∃ fs, hp[q.1.1]? = some (.inr (13, fs)) ∧ fs[7]? = some (.ref q.1.2.1) ∧ fs[8]? = some (bv q.2.2.2.2.2) ∧ (∃ ca ka ra : Nat, fs[3]? = some (.ref ca) ∧ fs[4]? = some (.ref ka) ∧ fs[5]? = some (.ref ra) ∧ ow ca = k + 304 ∧ ow ka = k + 304 ∧ ow ra = k + 304) ∧
  ((q.2.2.2.1 = false ∧ fs[6]? = some .null) ∨ (q.2.2.2.1 = true ∧ ∃ (cf oa aa pa wa : Nat) (ws : Value) (es : List Value) (gs vs : List Int32), fs[6]? = some (.ref cf) ∧ hFo hp cf oa aa pa q.1.2.2 wa ws es gs osCK ∧ hp[q.1.2.2]? = some (.inl (16, vs.map Value.int)) ∧ vs.length = 3 ∧ ow cf = k + 302 ∧ ow oa = k + 302 ∧ ow aa = k + 302 ∧ ow q.1.2.2 = k + 303)))
/-- the lists of a house -/
def lsI : List Nat := [2, 9, 4, 10, 15, 12, 13, 16, 17, 18, 44, 45, 46, 47, 48, 49, 50, 51, 52, 53, 54, 55, 56, 57, 58, 59]
def sumL (f : Nat → Nat) (l : List Nat) : Nat := (l.map f).sum
def capsH (hp : List XC) (A : Nat → Nat) : Nat := sumL (fun j => capL hp (A j)) lsI
def HR (hp : List XC) (ow : Nat → Nat) (k : Nat) (A : Nat → Nat) (M : HM) (rf : Int32) (np nl : Nat) : Prop :=
  Own hp ∧ (∀ j, j < 77 → ow (A j) = k + j ∧ A j < hp.length) ∧
  hp[A 0]? = some (.inr (14, [.ref (A 1), .ref (A 2), .ref (A 3), .ref (A 4), .ref (A 5), .ref (A 60), .ref (A 75), .ref (A 6), .ref (A 7), .ref (A 8), .int M.2.2.2.2.2.1, .int rf])) ∧
  hp[A 1]? = some (.inl (4, (List.range 8).map (fun i => .ref (A (20 + i))))) ∧ hp[A 3]? = some (.inr (10, [.ref (A 9)])) ∧ hLs hp (A 2) M.1 ∧ hSh hp (A 9) M.2.1 ∧ hSh hp (A 4) M.2.2.1 ∧
  (hp[A 5]? = some (.inl (8, M.2.2.2.2.1.map Value.int)) ∧ M.2.2.2.2.1.length = 256) ∧ (∃ lv, hp[A 6]? = some (.inr (11, [.ref (A 10), lv]))) ∧ hCh hp A ∧ (∀ j ∈ ([10, 15, 12, 13, 16, 17, 18] : List Nat), ∃ es, hSh hp (A j) es) ∧
  hQu hp ow k A np nl ∧ hSc hp A ∧ (∀ i, i < 8 → hSe hp ow k A i (M.2.2.2.1 i)) ∧ (∀ q ∈ M.2.2.2.2.2.2, hTq hp ow k q) ∧ (∀ p ∈ M.2.2.2.2.2.2, ∀ q ∈ M.2.2.2.2.2.2, p.1.1 = q.1.1 ∨ p.1.2.1 = q.1.2.1 → p = q) ∧ ∀ j ∈ lsI, capL hp (A j) ≤ 7000
/-! what stands still when others are written -/
section
variable {hp hp' : List XC} {ow ow' : Nat → Nat} {k : Nat} {A : Nat → Nat} {Z : Nat → Prop}
theorem nz {a n : Nat} (e : ow a = n) (h : ¬ Z n) : ¬ (fun a => Z (ow a)) a := fun hz => h (by
  have hz' : Z (ow a) := hz
  rw [e] at hz'
  exact hz')
theorem hSe.fr {i : Nat} {s : SM} (h : hSe hp ow k A i s) (f : FrX (fun a => Z (ow a)) hp hp') (hO : Own hp) (hi : i < 8) (ho : ∀ j, j < 77 → ow (A j) = k + j) (hw : ∀ a, a < hp.length → ow' a = ow a) (h1 : ¬ Z (k + (20 + i))) (h2 : ¬ Z (k + (28 + i))) (h3 : ¬ Z (k + (36 + i))) (h4 : ¬ Z (k + (44 + i))) (h5 : ¬ Z (k + (52 + i))) (h6 : ¬ Z (k + 210 + i)) : hSe hp' ow' k A i s := by
  obtain ⟨za, ab, a1, a2, a3, a4, a5, a6, a7, a8, a9, a10, a11, a12, a13, a14⟩ := h
  refine ⟨za, ab, f.ob a1 (by decide) (nz (ho _ (by omega)) (h1)), f.ob a2 (by decide) (nz (ho _ (by omega)) (h3)), f.2.2.1 _ _ a3 rfl (Or.inl (nz (ho _ (by omega)) (h2))), a4, a5, f.2.2.1 _ _ a6 rfl (Or.inl (nz (a12) (h6))), a7, a8, a9, a10, a11, ?_, a13.fr f hO (nz (ho _ (by omega)) (h4)), a14.fr f hO (nz (ho _ (by omega)) (h5))⟩
  rw [hw _ (List.getElem?_eq_some_iff.mp a6).1]
  exact a12
theorem hQu.fr {np nl : Nat} (h : hQu hp ow k A np nl) (f : FrX (fun a => Z (ow a)) hp hp') (ho : ∀ j, j < 77 → ow (A j) = k + j) (hw : ∀ a, a < hp.length → ow' a = ow a) (h1 : ¬ Z (k + 8)) (h2 : ¬ Z (k + 19)) (h3 : ¬ Z (k + 200)) (h4 : ¬ Z (k + 201)) : hQu hp' ow' k A np nl := by
  obtain ⟨q0, q1, pa, ln, pn, kp, off, so, dn, lc, wd, ps, lb, la, a1, a2, a3, a4, a5, a6, a7, a8, a9, a10, a11⟩ := h
  refine ⟨q0, q1, pa, ln, pn, kp, off, so, dn, lc, wd, ps, lb, la, f.ob a1 (by decide) (nz (ho _ (by omega)) (h1)), f.2.2.1 _ _ a2 rfl (Or.inl (nz (a10) (h3))), a3, a4, f.2.2.1 _ _ a5 rfl (Or.inl (nz (ho _ (by omega)) (h2))), a6, f.2.2.1 _ _ a7 rfl (Or.inl (nz (a11) (h4))), a8, a9, ?_, ?_⟩
  · rw [hw _ (List.getElem?_eq_some_iff.mp a2).1]; exact a10
  · rw [hw _ (List.getElem?_eq_some_iff.mp a7).1]; exact a11
theorem hCh.fr (h : hCh hp A) (f : FrX (fun a => Z (ow a)) hp hp') (ho : ∀ j, j < 77 → ow (A j) = k + j) (h1 : ¬ Z (k + 7)) (h2 : ¬ Z (k + 11)) (h3 : ¬ Z (k + 14)) : hCh hp' A := by
  obtain ⟨⟨lb, al, gi, a1⟩, a2, lv, a3⟩ := h
  exact ⟨⟨lb, al, gi, f.ob a1 (by decide) (nz (ho _ (by omega)) (h1))⟩, f.ob a2 (by decide) (nz (ho _ (by omega)) (h2)), lv, f.ob a3 (by decide) (nz (ho _ (by omega)) (h3))⟩
theorem wGen_ok : wGen.all (fun c => match c with
  | .inl q => !(decide (q.1 = 7))
  | .inr q => !(decide (q.1 = 2))) = true := by decide +kernel
theorem wGen_len : wGen.length = 17 := by decide +kernel
theorem hSc.fr (h : hSc hp A) (f : FrX (fun a => Z (ow a)) hp hp') (ho : ∀ j, j < 77 → ow (A j) = k + j) (h1 : ∀ j, 60 ≤ j → j < 77 → ¬ Z (k + j)) : hSc hp' A := by
  obtain ⟨ω, a1, a3, a2⟩ := h
  refine ⟨ω, a1, a3, fun h c hc => ?_⟩
  have hl := (List.getElem?_eq_some_iff.mp hc).1
  rw [wGen_len] at hl
  have hx := List.all_eq_true.mp wGen_ok c (List.mem_of_getElem? hc)
  refine f.2.2.1 _ _ (a2 h c hc) ?_ (Or.inl (nz (ho _ (by omega)) (h1 _ (by omega) (by omega))))
  rcases c with q | q
  · have hx' : (!decide (q.1 = 7)) = true := hx
    show decide (q.1 = 7) = false
    revert hx'
    generalize decide (q.1 = 7) = b
    intro h9
    cases b with
    | false => rfl
    | true => cases h9
  · have hx' : (!decide (q.1 = 2)) = true := hx
    show decide (q.1 = 2) = false
    revert hx'
    generalize decide (q.1 = 2) = b
    intro h9
    cases b with
    | false => rfl
    | true => cases h9
theorem hTq.fr {q : TQ} (h : hTq hp ow k q) (f : FrX (fun a => Z (ow a)) hp hp') (hw : ∀ a, a < hp.length → ow' a = ow a) (h1 : ¬ Z (k + 300)) (h2 : ¬ Z (k + 301)) (h3 : ¬ Z (k + 302)) (h4 : ¬ Z (k + 303)) : hTq hp' ow' k q := by
  obtain ⟨b1, b2, b3, b4, b5, fs, b6, b7, b8, ⟨ca, ka, ra, r1, r2, r3, r4, r5, r6⟩, b9⟩ := h
  have hr : ow' ca = k + 304 ∧ ow' ka = k + 304 ∧ ow' ra = k + 304 := by
    obtain ⟨ca', ka', ra', ga', chk', dv', u1, u2, u3, u4, -⟩ := b1
    cases u1.symm.trans b6
    cases r1
    cases r2
    cases r3
    exact ⟨(hw _ (List.getElem?_eq_some_iff.mp u2).1).trans r4, (hw _ (List.getElem?_eq_some_iff.mp u3).1).trans r5, (hw _ (List.getElem?_eq_some_iff.mp u4).1).trans r6⟩
  have w1 := hw _ (List.getElem?_eq_some_iff.mp b6).1
  have w2 := hw _ (List.getElem?_eq_some_iff.mp b2).1
  refine ⟨b1.fr f, f.2.2.1 _ _ b2 rfl (Or.inl (nz (b5) (h2))), b3, by rw [w1]; exact b4, by rw [w2]; exact b5, fs, f.ob b6 (by decide) (nz (b4) (h1)), b7, b8, ⟨ca, ka, ra, r1, r2, r3, hr.1, hr.2.1, hr.2.2⟩, ?_⟩
  rcases b9 with b9 | ⟨c1, cf, oa, aa, pa, wa, ws, es, gs, vs, c2, c3, c4, c5, c6, c7, c8, c9⟩
  · exact Or.inl b9
  · refine Or.inr ⟨c1, cf, oa, aa, pa, wa, ws, es, gs, vs, c2, c3.fr f (nz (c6) (h3)) (nz (c7) (h3)) (nz (c8) (h3)), f.2.2.1 _ _ c4 rfl (Or.inl (nz (c9) (h4))), c5, ?_, ?_, ?_, ?_⟩
    · rw [hw _ (List.getElem?_eq_some_iff.mp c3.ho).1]; exact c6
    · rw [hw _ (List.getElem?_eq_some_iff.mp c3.hoa).1]; exact c7
    · rw [hw _ (List.getElem?_eq_some_iff.mp c3.haa).1]; exact c8
    · rw [hw _ (List.getElem?_eq_some_iff.mp c4).1]; exact c9
end
