/-! families of statements: what each of the law's texts does, as a relation of models (by hand) -/
abbrev MF : Type := HM → Nat → Nat → RM → Prop
def fF (f : Nat) : MF := fun M _ ln r => r = fltR M ln f
def f1 (nm : Int32) (f : Nat) (G : TQ → HM → Nat → Nat → RM) : MF := fun M i ln r => match tnM M (M.2.2.2.1 i).1 nm with
  | none => r = fltR M ln f
  | some t => ∃ q ∈ M.2.2.2.2.2.2, q.1.1 = t ∧ r = cntR (G q M i ln) i ln
def f2 (nm nm2 : Int32) (f f9 : Nat) (G : TQ → TQ → HM → Nat → Nat → RM) : MF := fun M i ln r => match tnM M (M.2.2.2.1 i).1 nm with
  | none => r = fltR M ln f
  | some t => match tnM M (M.2.2.2.1 i).1 nm2 with
    | none => r = fltR M ln f9
    | some t2 => ∃ q ∈ M.2.2.2.2.2.2, ∃ q2 ∈ M.2.2.2.2.2.2, q.1.1 = t ∧ q2.1.1 = t2 ∧ r = cntR (G q q2 M i ln) i ln
/-- new tables -/
def nqA (n : Nat) (sr lb : Int32) : TQ := ((n + 0, n + 1, 0), sr, (14348907, lb, [157837977, 315675954], [22, 24], [none, none]), false, List.replicate 64 0, false)
def nqU (n : Nat) (sr lb : Int32) : TQ := ((n + 6, n + 7, n + 4), sr, (14348907, lb, [157837977, 315675954], [22, 25], [none, none]), true, List.replicate 64 0, false)
def nqB (n : Nat) (sr lb : Int32) (r : Nat) (rs : Int32) : TQ := ((n + 0, n + 1, 0), sr, (28697814, lb, [157837977, 258280326, 315675954], [23, 26, 24], [none, some (r, rs), none]), false, List.replicate 64 0, false)
def frs (M : HM) (n : Nat) : Prop := ∀ q ∈ M.2.2.2.2.2.2, q.1.1 < n ∧ q.1.2.1 < n
def fA : MF := fun M i ln r => ∃ n, frs M n ∧ r = cntR (mkM M i 14348907 (nqA n (M.2.2.2.2.2.1 + 1) (M.2.2.2.1 i).1)) i ln
def fU : MF := fun M i ln r => ∃ n, frs M n ∧ r = cntR (mkM M i 14348907 (nqU n (M.2.2.2.2.2.1 + 1) (M.2.2.2.1 i).1)) i ln
def fB (f : Nat) : MF := fun M i ln r => match tnM M (M.2.2.2.1 i).1 14348907 with
  | none => r = fltR M ln f
  | some t => ∃ q ∈ M.2.2.2.2.2.2, q.1.1 = t ∧ ∃ n, frs M n ∧ r = cntR (mkM M i 28697814 (nqB n (M.2.2.2.2.2.1 + 1) (M.2.2.2.1 i).1 q.1.1 q.2.1)) i ln
theorem l1_tn {M : HM} {i : Nat} {lb nm : Int32} : tnM (M1l M i) lb nm = tnM M lb nm := rfl
theorem fF_in {f : Nat} {M : HM} {i ln : Nat} {r : RM} (e : r = fltR (M1l M i) ln f) : fF f (M1l M i) i ln r := e
theorem f1_none {nm : Int32} {f : Nat} {G : TQ → HM → Nat → Nat → RM} {M : HM} {i ln : Nat} {r : RM} (h : tnM M (M.2.2.2.1 i).1 nm = none) (e : r = fltR (M1l M i) ln f) : f1 nm f G (M1l M i) i ln r := by
  unfold f1
  rw [l1_lab, l1_tn, h]
  exact e
theorem f1_some {nm : Int32} {f t : Nat} {G : TQ → HM → Nat → Nat → RM} {M : HM} {i ln : Nat} {r : RM} {q : TQ} (h : tnM M (M.2.2.2.1 i).1 nm = some t) (hq : q ∈ M.2.2.2.2.2.2) (hqt : q.1.1 = t) (e : r = cntR (G q (M1l M i) i ln) i ln) : f1 nm f G (M1l M i) i ln r := by
  unfold f1
  rw [l1_lab, l1_tn, h]
  exact ⟨q, hq, hqt, e⟩
theorem f2_none {nm nm2 : Int32} {f f9 : Nat} {G : TQ → TQ → HM → Nat → Nat → RM} {M : HM} {i ln : Nat} {r : RM} (h : tnM M (M.2.2.2.1 i).1 nm = none) (e : r = fltR (M1l M i) ln f) : f2 nm nm2 f f9 G (M1l M i) i ln r := by
  unfold f2
  rw [l1_lab, l1_tn, h]
  exact e
theorem f2_sn {nm nm2 : Int32} {f f9 t : Nat} {G : TQ → TQ → HM → Nat → Nat → RM} {M : HM} {i ln : Nat} {r : RM} (h : tnM M (M.2.2.2.1 i).1 nm = some t) (h2 : tnM M (M.2.2.2.1 i).1 nm2 = none) (e : r = fltR (M1l M i) ln f9) : f2 nm nm2 f f9 G (M1l M i) i ln r := by
  unfold f2
  rw [l1_lab, l1_tn, h]
  show (match tnM (M1l M i) (M.2.2.2.1 i).1 nm2 with | none => r = fltR (M1l M i) ln f9 | some t2 => _)
  rw [l1_tn, h2]
  exact e
theorem f2_ss {nm nm2 : Int32} {f f9 t t2 : Nat} {G : TQ → TQ → HM → Nat → Nat → RM} {M : HM} {i ln : Nat} {r : RM} {q q2 : TQ} (h : tnM M (M.2.2.2.1 i).1 nm = some t) (h2 : tnM M (M.2.2.2.1 i).1 nm2 = some t2) (hq : q ∈ M.2.2.2.2.2.2) (hq2 : q2 ∈ M.2.2.2.2.2.2) (hqt : q.1.1 = t) (hqt2 : q2.1.1 = t2) (e : r = cntR (G q q2 (M1l M i) i ln) i ln) : f2 nm nm2 f f9 G (M1l M i) i ln r := by
  unfold f2
  rw [l1_lab, l1_tn, h]
  show (match tnM (M1l M i) (M.2.2.2.1 i).1 nm2 with | none => r = fltR (M1l M i) ln f9 | some t2 => _)
  rw [l1_tn, h2]
  exact ⟨q, hq, q2, hq2, hqt, hqt2, e⟩
theorem fB_none {f : Nat} {M : HM} {i ln : Nat} {r : RM} (h : tnM M (M.2.2.2.1 i).1 14348907 = none) (e : r = fltR (M1l M i) ln f) : fB f (M1l M i) i ln r := by
  unfold fB
  rw [l1_lab, l1_tn, h]
  exact e
theorem fB_some {f t n : Nat} {M : HM} {i ln : Nat} {r : RM} {q : TQ} (h : tnM M (M.2.2.2.1 i).1 14348907 = some t) (hq : q ∈ M.2.2.2.2.2.2) (hqt : q.1.1 = t) (hn : frs (M1l M i) n) (e : r = cntR (mkM (M1l M i) i 28697814 (nqB n (M.2.2.2.2.2.1 + 1) (M.2.2.2.1 i).1 q.1.1 q.2.1)) i ln) : fB f (M1l M i) i ln r := by
  unfold fB
  rw [l1_lab, l1_tn, h]
  exact ⟨q, hq, hqt, n, hn, e⟩
theorem QR.mono {g : List XC} {ow : Nat → Nat} {k : Nat} {A : Nat → Nat} {np nl Kc Ks Kc' Ks' : Nat} {P : RM → Prop} {o : XO} (h : QR g ow k A np nl Kc Ks P o) (h1 : Kc ≤ Kc') (h2 : Ks ≤ Ks') : QR g ow k A np nl Kc' Ks' P o := by
  obtain ⟨r, hp', c, s, a, b, d⟩ := h
  exact ⟨r, hp', c, s, a, b.mono h1 h2, d⟩
/-- by the name of a table -/
def nmC {α : Type} (q : TQ) (a b : α) : α := if q.2.2.1.1 = 14348907 then a else b
theorem nmC_a {α : Type} {q : TQ} {a b : α} (h : tbA q.2.2.1) : nmC q a b = a := if_pos h.1
theorem nmC_b {α : Type} {q : TQ} {a b : α} (h : tbB q.2.2.1) : nmC q a b = b := if_neg (by rw [h.1]; decide)
theorem wgl_64 (n : Nat) : wg [0, 1, 16, 17] n < 64 := by
  unfold wg
  match n with
  | 0 => decide
  | 1 => decide
  | 2 => decide
  | 3 => decide
  | n + 4 => show 0 < 64; decide
theorem frs_of {hp : List XC} {ow : Nat → Nat} {k : Nat} {A : Nat → Nat} {M : HM} {rf : Int32} {np nl : Nat} (h : HR hp ow k A M rf np nl) : frs M hp.length := fun q hq => by
  have hTq9 : ∀ q ∈ M.2.2.2.2.2.2, hTq hp ow k q := h.2.2.2.2.2.2.2.2.2.2.2.2.2.2.2.1
  obtain ⟨⟨ca, ka, ra, ga, chk, dv, t1, -⟩, t2, -⟩ := hTq9 q hq
  exact ⟨(List.getElem?_eq_some_iff.mp t1).1, (List.getElem?_eq_some_iff.mp t2).1⟩
theorem mkL_pl {TI : Nat → Tb} {lab nm : Int32} : ∀ (as : List Nat) (i o : Nat) (b : Bool) (p : Nat), p ≤ i → (mkL TI lab nm as i o b p).2.2 ≤ i + as.length
  | [], i, o, b, p, h => h
  | a :: as, i, o, b, p, h => by
    unfold mkL
    rw [List.length_cons]
    refine Nat.le_trans (mkL_pl as (i + 1) _ _ _ ?_) (by omega)
    split
    · exact Nat.le_refl _
    · omega
theorem mkR_pl {M : HM} {i : Nat} {nm : Int32} : (mkR M i nm).2.2 ≤ M.1.length := by
  have := mkL_pl (TI := TIq M.2.2.2.2.2.2) (lab := (M.2.2.2.1 i).1) (nm := nm) M.1 0 0 false 0 (Nat.le_refl _)
  rw [Nat.zero_add] at this
  exact this
theorem wts_int {ρ σ : Nat → Nat} {ω : Nat → Value} {k : Nat} {vs : List Nat} : wt ρ σ ω (wD k vs) = .int (Int32.ofNat (wg vs (σ k))) := rfl
