/-! the law's texts, read: what is compared (written by wip/p27/c979.py) -/
def wI (n : Nat) : WV := .inl n
def wA (n : Nat) : WV := .inr (.inl n)
def wK (n : Nat) : WV := .inr (.inr (.inl n))
def wZ : WV := .inr (.inr (.inr (.inl ())))
def wD (k : Nat) (vs : List Nat) : WV := .inr (.inr (.inr (.inr (.inl (k, vs)))))
def wU (n : Nat) : WV := .inr (.inr (.inr (.inr (.inr n))))
def wO (c : Nat) (fs : List WV) : WC := .inr (c, fs)
def wX (k : Nat) (es : List WV) : WC := .inl (k, es)
def wub (b k : Nat) : List WV := (List.range' k (120 - k)).map (fun i => .inr (.inr (.inr (.inr (.inr (b + i))))))
/-- a statement's cells before it is read, and the text -/
def wRd (t : List WV) : List WC := [wO 12 [wA 1, wA 2, wU 900000, wU 900001, wU 900002, wU 900003, wU 900004, wU 900005, wU 900006, wU 900007, wU 900008, wU 900009, wU 900010, wU 900011, wU 900012, wU 900013, wA 3, wA 4, wA 5, wA 6], wO 8 [wA 7, wA 8, wA 9, wU 900014, wU 900015, wU 900016, wU 900017], wO 5 [wA 10, wA 11, wA 12, wA 13, wA 14, wU 900018, wU 900019], wX 25 (wub 2000 0), wX 9 (wub 3000 0), wX 10 (wub 4000 0), wX 11 (wub 5000 0), wX 26 (wub 6000 0), wX 12 (wub 7000 0), wX 13 (wub 8000 0), wX 27 (wub 9000 0), wX 14 (wub 10000 0), wX 15 (wub 11000 0), wX 16 (wub 12000 0), wX 28 (wub 13000 0), wX 1 (t ++ wub 0 t.length)]
def wveq (v w : WV) : Bool := match v, w with
  | .inl a, .inl b => Nat.beq a b
  | .inr (.inl a), .inr (.inl b) => Nat.beq a b
  | .inr (.inr (.inl a)), .inr (.inr (.inl b)) => Nat.beq a b
  | .inr (.inr (.inr (.inl _))), .inr (.inr (.inr (.inl _))) => true
  | .inr (.inr (.inr (.inr (.inl p)))), .inr (.inr (.inr (.inr (.inl q)))) => Nat.beq p.1 q.1 && wleq p.2 q.2
  | .inr (.inr (.inr (.inr (.inr a)))), .inr (.inr (.inr (.inr (.inr b)))) => Nat.beq a b
  | _, _ => false
theorem wveq_s {v w : WV} (h : wveq v w = true) : v = w := by
  unfold wveq at h
  split at h
  · rw [Nat.eq_of_beq_eq_true h]
  · rw [Nat.eq_of_beq_eq_true h]
  · rw [Nat.eq_of_beq_eq_true h]
  · rfl
  · rename_i p q
    rw [Bool.and_eq_true, wleq_s] at h
    rw [show p = q from Prod.ext (Nat.eq_of_beq_eq_true h.1) (of_decide_eq_true h.2)]
  · rw [Nat.eq_of_beq_eq_true h]
  · cases h
def wvseq : List WV → List WV → Bool
  | [], [] => true
  | v :: vs, w :: ws => wveq v w && wvseq vs ws
  | _, _ => false
theorem wvseq_s : ∀ {a b : List WV}, wvseq a b = true → a = b
  | [], [], _ => rfl
  | v :: vs, w :: ws, h => by
    have h := Bool.and_eq_true_iff.mp (show (wveq v w && wvseq vs ws) = true from h)
    rw [wveq_s h.1, wvseq_s h.2]
  | [], _ :: _, h => by cases h
  | _ :: _, [], h => by cases h
def wceq (c d : WC) : Bool := match c, d with
  | .inl p, .inl q => Nat.beq p.1 q.1 && wvseq p.2 q.2
  | .inr p, .inr q => Nat.beq p.1 q.1 && wvseq p.2 q.2
  | _, _ => false
theorem wceq_s {c d : WC} (h : wceq c d = true) : c = d := by
  unfold wceq at h
  split at h
  · rw [Bool.and_eq_true] at h
    exact congrArg Sum.inl (Prod.ext (Nat.eq_of_beq_eq_true h.1) (wvseq_s h.2))
  · rw [Bool.and_eq_true] at h
    exact congrArg Sum.inr (Prod.ext (Nat.eq_of_beq_eq_true h.1) (wvseq_s h.2))
  · cases h
def wWeq : List WC → List WC → Bool
  | [], [] => true
  | v :: vs, w :: ws => wceq v w && wWeq vs ws
  | _, _ => false
theorem wWeq_s : ∀ {a b : List WC}, wWeq a b = true → a = b
  | [], [], _ => rfl
  | v :: vs, w :: ws, h => by
    have h := Bool.and_eq_true_iff.mp (show (wceq v w && wWeq vs ws) = true from h)
    rw [wceq_s h.1, wWeq_s h.2]
  | [], _ :: _, h => by cases h
  | _ :: _, [], h => by cases h
/-- an end with these on the stack and this world -/
def wrd (g : Option WG) (p : Nat) (st : List WV) (W : List WC) (c s : Nat) : Bool := match g with
  | some g => Nat.beq g.1 p && (wvseq g.2.2.1 st && (wWeq g.2.2.2.1 W && (Nat.beq g.2.2.2.2.1 c && Nat.beq g.2.2.2.2.2 s)))
  | none => false
theorem wrd_s {g : Option WG} {p : Nat} {st : List WV} {W : List WC} {c s : Nat} (h : wrd g p st W c s = true) : ∃ L, g = some (p, L, st, W, c, s) := by
  unfold wrd at h
  split at h
  · rename_i g
    obtain ⟨a, L, st', W', c', s'⟩ := g
    simp only [Bool.and_eq_true] at h
    obtain ⟨h1, h2, h3, h4, h5⟩ := h
    exact ⟨L, by rw [Nat.eq_of_beq_eq_true h1, wvseq_s h2, wWeq_s h3, Nat.eq_of_beq_eq_true h4, Nat.eq_of_beq_eq_true h5]⟩
  · cases h
def wrdE (t : List WV) (W : List WC) : Bool := wrd (wrun wst 9000 9 41 300000 0 [(0, wA 0), (1, wA 15), (2, wI t.length)] [] (wRd t) 0 0) 100000 [] W 0 0
