/-! entries, their order, entries in the heap -/
/-- an entry: its table's serial, key, label, whether it is a veil, its numbers, its table -/
abbrev En : Type := Int32 × Int32 × Int32 × Bool × List Int32 × Nat
/-- a place: serial, key, label -/
abbrev Pl : Type := Int32 × Int32 × Int32
def eP (e : En) : Pl := (e.1, e.2.1, e.2.2.1)
def ltP (p q : Pl) : Prop := p.1 < q.1 ∨ (p.1 = q.1 ∧ (p.2.1 < q.2.1 ∨ (p.2.1 = q.2.1 ∧ p.2.2 < q.2.2)))
def ltB (p q : Pl) : Bool := decide (p.1 < q.1) || (decide (p.1 = q.1) && (decide (p.2.1 < q.2.1) || (decide (p.2.1 = q.2.1) && decide (p.2.2 < q.2.2))))
theorem ltB_iff {p q : Pl} : ltB p q = true ↔ ltP p q := by
  unfold ltB ltP
  simp only [Bool.or_eq_true, Bool.and_eq_true, decide_eq_true_eq]
theorem ltB_not {p q : Pl} : ltB p q = false ↔ ¬ ltP p q := by
  rw [← ltB_iff, Bool.not_eq_true]
theorem i32_tri (a b : Int32) : a < b ∨ a = b ∨ b < a := by
  rcases Int.lt_trichotomy a.toInt b.toInt with h | h | h
  · exact Or.inl (Int32.lt_iff_toInt_lt.mpr h)
  · exact Or.inr (Or.inl (Int32.toInt_inj.mp h))
  · exact Or.inr (Or.inr (Int32.lt_iff_toInt_lt.mpr h))
theorem i32_tr {a b c : Int32} (h1 : a < b) (h2 : b < c) : a < c := Int32.lt_iff_toInt_lt.mpr (Int.lt_trans (Int32.lt_iff_toInt_lt.mp h1) (Int32.lt_iff_toInt_lt.mp h2))
theorem i32_ir {a : Int32} : ¬ a < a := fun h => Int.lt_irrefl _ (Int32.lt_iff_toInt_lt.mp h)
theorem ltP_irr (p : Pl) : ¬ ltP p p := by
  rintro (h | ⟨-, h | ⟨-, h⟩⟩) <;> exact i32_ir h
theorem ltP_tr {p q r : Pl} (h1 : ltP p q) (h2 : ltP q r) : ltP p r := by
  rcases h1 with h1 | ⟨e1, h1⟩
  · rcases h2 with h2 | ⟨e2, h2⟩
    · exact Or.inl (i32_tr h1 h2)
    · exact Or.inl (by rw [← e2]; exact h1)
  · rcases h2 with h2 | ⟨e2, h2⟩
    · exact Or.inl (by rw [e1]; exact h2)
    · refine Or.inr ⟨e1.trans e2, ?_⟩
      rcases h1 with h1 | ⟨f1, h1⟩
      · rcases h2 with h2 | ⟨f2, h2⟩
        · exact Or.inl (i32_tr h1 h2)
        · exact Or.inl (by rw [← f2]; exact h1)
      · rcases h2 with h2 | ⟨f2, h2⟩
        · exact Or.inl (by rw [f1]; exact h2)
        · exact Or.inr ⟨f1.trans f2, i32_tr h1 h2⟩
theorem ltP_as {p q : Pl} (h1 : ltP p q) (h2 : ltP q p) : False := ltP_irr p (ltP_tr h1 h2)
theorem ltP_tri (p q : Pl) : ltP p q ∨ p = q ∨ ltP q p := by
  obtain ⟨a, b, c⟩ := p
  obtain ⟨x, y, z⟩ := q
  rcases i32_tri a x with h | h | h
  · exact Or.inl (Or.inl h)
  · subst h
    rcases i32_tri b y with h | h | h
    · exact Or.inl (Or.inr ⟨rfl, Or.inl h⟩)
    · subst h
      rcases i32_tri c z with h | h | h
      · exact Or.inl (Or.inr ⟨rfl, Or.inr ⟨rfl, h⟩⟩)
      · subst h; exact Or.inr (Or.inl rfl)
      · exact Or.inr (Or.inr (Or.inr ⟨rfl, Or.inr ⟨rfl, h⟩⟩))
    · exact Or.inr (Or.inr (Or.inr ⟨rfl, Or.inl h⟩))
  · exact Or.inr (Or.inr (Or.inl h))
theorem cmp_neg {p q : Pl} : cmpE p.1 p.2.1 p.2.2 q.1 q.2.1 q.2.2 < 0 ↔ ltP p q := by
  obtain ⟨a, b, c⟩ := p
  obtain ⟨x, y, z⟩ := q
  have n1 : (-1 : Int32) < 0 := by decide
  have n2 : ¬ (1 : Int32) < 0 := by decide
  have n3 : ¬ (0 : Int32) < 0 := by decide
  unfold cmpE ltP
  dsimp only
  by_cases h1 : a = x
  · subst h1
    rw [if_neg (fun h => h rfl)]
    by_cases h2 : b = y
    · subst h2
      rw [if_neg (fun h => h rfl)]
      by_cases h3 : c = z
      · subst h3
        rw [if_pos rfl]
        exact ⟨fun h => absurd h n3, by rintro (h | ⟨-, h | ⟨-, h⟩⟩) <;> exact absurd h i32_ir⟩
      · rw [if_neg h3]
        split
        · rename_i h; exact ⟨fun _ => Or.inr ⟨rfl, Or.inr ⟨rfl, h⟩⟩, fun _ => n1⟩
        · rename_i h
          refine ⟨fun q => absurd q n2, ?_⟩
          rintro (q | ⟨-, q | ⟨-, q⟩⟩)
          · exact absurd q i32_ir
          · exact absurd q i32_ir
          · exact absurd q h
    · rw [if_pos h2]
      split
      · rename_i h; exact ⟨fun _ => Or.inr ⟨rfl, Or.inl h⟩, fun _ => n1⟩
      · rename_i h
        refine ⟨fun q => absurd q n2, ?_⟩
        rintro (q | ⟨-, q | ⟨q, -⟩⟩)
        · exact absurd q i32_ir
        · exact absurd q h
        · exact absurd q h2
  · rw [if_pos h1]
    split
    · rename_i h; exact ⟨fun _ => Or.inl h, fun _ => n1⟩
    · rename_i h
      refine ⟨fun q => absurd q n2, ?_⟩
      rintro (q | ⟨q, -⟩)
      · exact absurd q h
      · exact absurd q h1
theorem cmp_zero {p q : Pl} : cmpE p.1 p.2.1 p.2.2 q.1 q.2.1 q.2.2 = 0 ↔ p = q := by
  obtain ⟨a, b, c⟩ := p
  obtain ⟨x, y, z⟩ := q
  have n1 : ¬ (-1 : Int32) = 0 := by decide
  have n2 : ¬ (1 : Int32) = 0 := by decide
  unfold cmpE
  dsimp only
  by_cases h1 : a = x
  · subst h1
    rw [if_neg (fun h => h rfl)]
    by_cases h2 : b = y
    · subst h2
      rw [if_neg (fun h => h rfl)]
      by_cases h3 : c = z
      · subst h3
        rw [if_pos rfl]
        exact ⟨fun _ => rfl, fun _ => rfl⟩
      · rw [if_neg h3]
        refine ⟨fun q => ?_, fun q => by cases q; exact absurd rfl h3⟩
        split at q
        · exact absurd q n1
        · exact absurd q n2
    · rw [if_pos h2]
      refine ⟨fun q => ?_, fun q => by cases q; exact absurd rfl h2⟩
      split at q
      · exact absurd q n1
      · exact absurd q n2
  · rw [if_pos h1]
    refine ⟨fun q => ?_, fun q => by cases q; exact absurd rfl h1⟩
    split at q
    · exact absurd q n1
    · exact absurd q n2
/-- an entry in the heap -/
def hEn (hp : List XC) (a : Nat) (e : En) : Prop := ∃ (c : Nat) (fs : List Value), hp[a]? = some (.inr (4, [.ref e.2.2.2.2.2, .int e.2.1, .int e.2.2.1, bv e.2.2.2.1, .ref c])) ∧ hp[c]? = some (.inl (24, e.2.2.2.2.1.map Value.int)) ∧ e.2.2.2.2.1.length ≤ 1000 ∧ hp[e.2.2.2.2.2]? = some (.inr (13, .int e.1 :: fs))
theorem hEn.fr {P : Nat → Prop} {hp hp' : List XC} {a : Nat} {e : En} (h : hEn hp a e) (f : FrX P hp hp') : hEn hp' a e := by
  obtain ⟨c, fs, h1, h2, h3, h4⟩ := h
  obtain ⟨v, h5⟩ := f.2.2.2.2.1 _ _ h4
  exact ⟨c, fs.set 7 v, f.2.2.1 _ _ h1 rfl (Or.inr rfl), f.2.2.1 _ _ h2 rfl (Or.inr rfl), h3, h5⟩
theorem hEn.ob {hp : List XC} {a : Nat} {e : En} (h : hEn hp a e) : hOb hp a := by
  obtain ⟨c, fs, h1, -⟩ := h
  exact ⟨4, _, h1, by decide⟩
/-- entries in the heap, one behind another -/
def hEs (hp : List XC) (as : List Nat) (es : List En) : Prop := as.length = es.length ∧ ∀ (i a : Nat) (e : En), as[i]? = some a → es[i]? = some e → hEn hp a e
theorem hEs.fr {P : Nat → Prop} {hp hp' : List XC} {as : List Nat} {es : List En} (h : hEs hp as es) (f : FrX P hp hp') : hEs hp' as es := ⟨h.1, fun i a e h1 h2 => (h.2 i a e h1 h2).fr f⟩
theorem hEs.get {hp : List XC} {as : List Nat} {es : List En} {i : Nat} {e : En} (h : hEs hp as es) (he : es[i]? = some e) : ∃ a, as[i]? = some a ∧ hEn hp a e := by
  have hi := (List.getElem?_eq_some_iff.mp he).1
  rw [← h.1] at hi
  exact ⟨_, List.getElem?_eq_getElem hi, h.2 i _ e (List.getElem?_eq_getElem hi) he⟩
/-- a list of entries -/
def hSh (hp : List XC) (l : Nat) (es : List En) : Prop := ∃ as, hLs hp l as ∧ hEs hp as es
theorem hSh.fr {P : Nat → Prop} {hp hp' : List XC} {l : Nat} {es : List En} (h : hSh hp l es) (f : FrX P hp hp') (hO : Own hp) (hl : ¬ P l) : hSh hp' l es := by
  obtain ⟨as, h1, h2⟩ := h
  exact ⟨as, f.ls hl hO h1, h2.fr f⟩
theorem hSh.len {hp : List XC} {l : Nat} {es : List En} (h : hSh hp l es) : es.length ≤ 100000 := by
  obtain ⟨as, h1, h2⟩ := h
  rw [← h2.1]
  exact h1.len
/-- entries in the order of their places, no two at one -/
def Srt (es : List En) : Prop := es.Pairwise (fun e f => ltP (eP e) (eP f))
/-- the number of entries ahead of a place -/
def plc (es : List En) (p : Pl) : Nat := (es.filter (fun e => ltB (eP e) p)).length
theorem plc_le {es : List En} {p : Pl} : plc es p ≤ es.length := List.length_filter_le _ _
theorem srt_split {es : List En} (hs : Srt es) (p : Pl) : es.filter (fun e => ltB (eP e) p) ++ es.filter (fun e => !ltB (eP e) p) = es := by
  induction es with
  | nil => rfl
  | cons e es ih =>
    have h1 := List.pairwise_cons.mp hs
    cases he : ltB (eP e) p with
    | true =>
      have a1 : (e :: es).filter (fun e => ltB (eP e) p) = e :: es.filter (fun e => ltB (eP e) p) := List.filter_cons_of_pos (p := fun e => ltB (eP e) p) he
      have a2 : (e :: es).filter (fun e => !ltB (eP e) p) = es.filter (fun e => !ltB (eP e) p) := List.filter_cons_of_neg (p := fun e => !ltB (eP e) p) (by show ¬ (!ltB (eP e) p) = true; rw [he]; decide)
      rw [a1, a2, List.cons_append, ih h1.2]
    | false =>
      have h2 : es.filter (fun e => ltB (eP e) p) = [] := by
        refine List.filter_eq_nil_iff.mpr (fun f hf q => ?_)
        exact ltB_not.mp he (ltP_tr (h1.1 f hf) (ltB_iff.mp q))
      have h3 : es.filter (fun e => !ltB (eP e) p) = es := by
        refine List.filter_eq_self.mpr (fun f hf => ?_)
        cases hq : ltB (eP f) p with
        | true => exact absurd (ltP_tr (h1.1 f hf) (ltB_iff.mp hq)) (ltB_not.mp he)
        | false => rfl
      have a1 : (e :: es).filter (fun e => ltB (eP e) p) = es.filter (fun e => ltB (eP e) p) := List.filter_cons_of_neg (p := fun e => ltB (eP e) p) (by show ¬ ltB (eP e) p = true; rw [he]; decide)
      have a2 : (e :: es).filter (fun e => !ltB (eP e) p) = e :: es.filter (fun e => !ltB (eP e) p) := List.filter_cons_of_pos (p := fun e => !ltB (eP e) p) (by show (!ltB (eP e) p) = true; rw [he]; rfl)
      rw [a1, a2, h2, h3, List.nil_append]
theorem srt_at {es : List En} (hs : Srt es) (p : Pl) {i : Nat} {e : En} (he : es[i]? = some e) : ltP (eP e) p ↔ i < plc es p := by
  have hsp := srt_split hs p
  unfold plc
  rw [← hsp] at he
  rcases Nat.lt_or_ge i (es.filter (fun e => ltB (eP e) p)).length with h | h
  · rw [List.getElem?_append_left h] at he
    exact ⟨fun _ => h, fun _ => ltB_iff.mp (List.mem_filter.mp (List.mem_of_getElem? he)).2⟩
  · rw [List.getElem?_append_right h] at he
    have h9 := (List.mem_filter.mp (List.mem_of_getElem? he)).2
    refine ⟨fun q => ?_, fun q => absurd q (Nat.not_lt.mpr h)⟩
    rw [ltB_iff.mpr q] at h9
    cases h9
