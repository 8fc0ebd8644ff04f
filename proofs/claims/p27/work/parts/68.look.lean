/-! what a label sees: the model -/
/-- whether an entry is chosen by a label among all entries -/
def chs (es : List En) (e : En) (lb : Int32) : Bool := !e.2.2.2.1 && isB e.2.2.1 lb && !es.any (fun f => sameK e f && covers9 e lb f)
def lookStep (TI : Nat → Tb) (es : List En) (lb : Int32) (acc : List En) (e : En) : List En := if (chs es e lb && metE acc (TI e.2.2.2.2.2) e) = true then acc ++ [e] else acc
/-- the rows that a label sees -/
def lookE (TI : Nat → Tb) (es : List En) (lb : Int32) : List En := es.foldl (lookStep TI es lb) []
def lookTo (TI : Nat → Tb) (es : List En) (lb : Int32) (i : Nat) : List En := (es.take i).foldl (lookStep TI es lb) []
theorem lookTo_s {TI : Nat → Tb} {es : List En} {lb : Int32} {i : Nat} {e : En} (he : es[i]? = some e) : lookTo TI es lb (i + 1) = lookStep TI es lb (lookTo TI es lb i) e := by
  unfold lookTo
  rw [List.take_succ, he, List.foldl_append]
  rfl
theorem lookTo_n {TI : Nat → Tb} {es : List En} {lb : Int32} {i : Nat} (h : es.length ≤ i) : lookTo TI es lb i = lookE TI es lb := by
  unfold lookTo lookE
  rw [List.take_of_length_le h]
theorem fold_sub {TI : Nat → Tb} {es : List En} {lb : Int32} : ∀ (xs acc : List En), ∃ ys, xs.foldl (lookStep TI es lb) acc = acc ++ ys ∧ ys.Sublist xs
  | [], acc => ⟨[], by rw [List.append_nil]; rfl, List.Sublist.refl _⟩
  | x :: xs, acc => by
    obtain ⟨ys, h1, h2⟩ := fold_sub xs (lookStep TI es lb acc x)
    show ∃ ys, xs.foldl (lookStep TI es lb) (lookStep TI es lb acc x) = acc ++ ys ∧ ys.Sublist (x :: xs)
    rw [h1]
    unfold lookStep
    split
    · exact ⟨x :: ys, by rw [List.append_assoc]; rfl, h2.cons₂ x⟩
    · exact ⟨ys, rfl, h2.cons x⟩
theorem lookTo_sub {TI : Nat → Tb} {es : List En} {lb : Int32} {i : Nat} : (lookTo TI es lb i).Sublist es := by
  obtain ⟨ys, h1, h2⟩ := fold_sub (TI := TI) (es := es) (lb := lb) (es.take i) []
  unfold lookTo
  rw [h1, List.nil_append]
  exact h2.trans (List.take_sublist i es)
theorem lookTo_len {TI : Nat → Tb} {es : List En} {lb : Int32} {i : Nat} : (lookTo TI es lb i).length ≤ es.length := lookTo_sub.length_le
/-- between two places of one key there is that key alone -/
theorem key_mid {p q r : Pl} (h1 : ltP p q) (h2 : ltP q r) (e1 : p.1 = r.1) (e2 : p.2.1 = r.2.1) : q.1 = p.1 ∧ q.2.1 = p.2.1 := by
  obtain ⟨a, b, c⟩ := p
  obtain ⟨x, y, z⟩ := q
  obtain ⟨u, v, w⟩ := r
  dsimp only at e1 e2
  subst e1
  subst e2
  unfold ltP at h1 h2
  dsimp only at h1 h2 ⊢
  rcases h1 with h1 | ⟨h1, h3⟩
  · rcases h2 with h2 | ⟨h2, -⟩
    · exact absurd (i32_tr h1 h2) i32_ir
    · rw [h2] at h1; exact absurd h1 i32_ir
  · subst h1
    rcases h2 with h2 | ⟨-, h2⟩
    · exact absurd h2 i32_ir
    · rcases h3 with h3 | ⟨h3, -⟩
      · rcases h2 with h2 | ⟨h2, -⟩
        · exact absurd (i32_tr h3 h2) i32_ir
        · rw [h2] at h3; exact absurd h3 i32_ir
      · exact ⟨rfl, h3.symm⟩
theorem sameK_iff {e f : En} : sameK e f = true ↔ f.1 = e.1 ∧ f.2.1 = e.2.1 := by
  unfold sameK
  rw [Bool.and_eq_true, decide_eq_true_eq, decide_eq_true_eq]
  exact ⟨fun h => ⟨h.2, h.1⟩, fun h => ⟨h.2, h.1⟩⟩
theorem sameK_no {e f : En} : sameK e f = false ↔ ¬ (f.1 = e.1 ∧ f.2.1 = e.2.1) := by
  rw [← sameK_iff, Bool.not_eq_true]
/-- an index at which a key begins -/
def Bnd (es : List En) (a : Nat) : Prop := ∀ (i j : Nat) (e f : En), i < a → a ≤ j → es[i]? = some e → es[j]? = some f → sameK e f = false
theorem srt_lt {es : List En} (hs : Srt es) {i j : Nat} {e f : En} (h : i < j) (he : es[i]? = some e) (hf : es[j]? = some f) : ltP (eP e) (eP f) := by
  have h1 := (List.getElem?_eq_some_iff.mp he).1
  have h2 := (List.getElem?_eq_some_iff.mp hf).1
  have h3 := List.pairwise_iff_getElem.mp hs i j h1 h2 h
  rw [List.getElem?_eq_getElem h1] at he
  rw [List.getElem?_eq_getElem h2] at hf
  cases he
  cases hf
  exact h3
theorem runK_in {es : List En} {e : En} : ∀ (n k : Nat), n < runK es e k → ∃ f, es[k + n]? = some f ∧ sameK e f = true := by
  intro n
  induction n with
  | zero =>
    intro k h
    cases hf : es[k]? with
    | none => rw [runK_e (List.getElem?_eq_none_iff.mp hf)] at h; exact absurd h (Nat.not_lt_zero 0)
    | some f =>
      cases hq : sameK e f with
      | true => exact ⟨f, rfl, hq⟩
      | false => rw [runK_f hf hq] at h; exact absurd h (Nat.not_lt_zero 0)
  | succ n ih =>
    intro k h
    cases hf : es[k]? with
    | none => rw [runK_e (List.getElem?_eq_none_iff.mp hf)] at h; exact absurd h (Nat.not_lt_zero _)
    | some f =>
      cases hq : sameK e f with
      | true =>
        rw [runK_t hf hq] at h
        obtain ⟨g, h1, h2⟩ := ih (k + 1) (by omega)
        exact ⟨g, by rw [show k + (n + 1) = k + 1 + n by omega]; exact h1, h2⟩
      | false => rw [runK_f hf hq] at h; exact absurd h (Nat.not_lt_zero _)
theorem runK_end {es : List En} {e f : En} : ∀ (n k : Nat), runK es e k = n → es[k + n]? = some f → sameK e f = false := by
  intro n
  induction n with
  | zero =>
    intro k h hf
    cases hq : sameK e f with
    | false => rfl
    | true => rw [Nat.add_zero] at hf; rw [runK_t hf hq] at h; omega
  | succ n ih =>
    intro k h hf
    cases hg : es[k]? with
    | none => rw [runK_e (List.getElem?_eq_none_iff.mp hg)] at h; omega
    | some g =>
      cases hq : sameK e g with
      | true =>
        rw [runK_t hg hq] at h
        exact ih (k + 1) (by omega) (by rw [show k + 1 + n = k + (n + 1) by omega]; exact hf)
      | false => rw [runK_f hg hq] at h; omega
theorem sameK_tr {e f g : En} (h1 : sameK e f = true) (h2 : sameK e g = true) : sameK f g = true := by
  rw [sameK_iff] at h1 h2 ⊢
  exact ⟨h2.1.trans h1.1.symm, h2.2.trans h1.2.symm⟩
theorem sameK_sy {e f : En} (h : sameK e f = true) : sameK f e = true := by
  rw [sameK_iff] at h ⊢
  exact ⟨h.1.symm, h.2.symm⟩
theorem sameK_rf (e : En) : sameK e e = true := sameK_iff.mpr ⟨rfl, rfl⟩
/-- the entries of a key that begins at a -/
theorem grp_in {es : List En} {a i : Nat} {e0 : En} (h0 : es[a]? = some e0) (h1 : a ≤ i) (h2 : i < a + 1 + runK es e0 (a + 1)) : ∃ f, es[i]? = some f ∧ sameK e0 f = true := by
  rcases Nat.eq_or_lt_of_le h1 with h | h
  · exact ⟨e0, by rw [← h]; exact h0, sameK_rf e0⟩
  · obtain ⟨f, h3, h4⟩ := runK_in (es := es) (e := e0) (i - (a + 1)) (a + 1) (by omega)
    exact ⟨f, by rw [show i = a + 1 + (i - (a + 1)) by omega]; exact h3, h4⟩
theorem grp_out {es : List En} (hs : Srt es) {a j : Nat} {e0 f : En} (h0 : es[a]? = some e0) (hj : a + 1 + runK es e0 (a + 1) ≤ j) (hf : es[j]? = some f) : sameK e0 f = false := by
  have hl := (List.getElem?_eq_some_iff.mp hf).1
  obtain ⟨g, hg⟩ : ∃ g, es[a + 1 + runK es e0 (a + 1)]? = some g := ⟨_, List.getElem?_eq_getElem (by omega)⟩
  have h1 := runK_end (es := es) (e := e0) (f := g) _ (a + 1) rfl hg
  rcases Nat.eq_or_lt_of_le hj with h | h
  · rw [← h, hg] at hf
    cases hf
    exact h1
  · cases hq : sameK e0 f with
    | false => rfl
    | true =>
      have hk := sameK_iff.mp hq
      have hm := key_mid (srt_lt hs (by omega) h0 hg) (srt_lt hs h hg hf) hk.1.symm hk.2.symm
      rw [sameK_iff.mpr ⟨hm.1, hm.2⟩] at h1
      cases h1
theorem Bnd.zero {es : List En} : Bnd es 0 := fun i j e f h => absurd h (Nat.not_lt_zero i)
theorem Bnd.next {es : List En} (hs : Srt es) {a : Nat} {e0 : En} (h : Bnd es a) (h0 : es[a]? = some e0) : Bnd es (a + 1 + runK es e0 (a + 1)) := by
  intro i j e f hi hj he hf
  rcases Nat.lt_or_ge i a with h1 | h1
  · exact h i j e f h1 (by omega) he hf
  · obtain ⟨e', h2, h3⟩ := grp_in h0 h1 hi
    rw [he] at h2
    cases h2
    have h4 := grp_out hs h0 hj hf
    cases hq : sameK e f with
    | false => rfl
    | true => rw [sameK_tr (sameK_sy h3) hq] at h4; cases h4
theorem any_q {xs : List En} {p : En → Bool} (h : ∀ (i : Nat) (f : En), xs[i]? = some f → p f = false) : xs.any p = false := by
  rw [List.any_eq_false]
  intro f hf
  obtain ⟨i, hi⟩ := List.getElem?_of_mem hf
  rw [h i f hi]
  decide
theorem any_cg {p q : En → Bool} : ∀ {xs : List En}, (∀ f ∈ xs, p f = q f) → xs.any p = xs.any q
  | [], _ => rfl
  | x :: xs, h => by
    rw [List.any_cons, List.any_cons, h x List.mem_cons_self, any_cg (fun f hf => h f (List.mem_cons_of_mem _ hf))]
/-- chosen among its key is chosen -/
theorem chs_grp {es : List En} (hs : Srt es) {a i : Nat} {e0 e : En} {lb : Int32} (hB : Bnd es a) (h0 : es[a]? = some e0) (h1 : a ≤ i) (h2 : i < a + 1 + runK es e0 (a + 1)) (he : es[i]? = some e) : chsIn es e lb a (a + 1 + runK es e0 (a + 1)) = chs es e lb := by
  obtain ⟨e', h3, h4⟩ := grp_in h0 h1 h2
  rw [he] at h3
  cases h3
  unfold chsIn chs
  refine congrArg (fun q => (!e.2.2.2.1 && isB e.2.2.1 lb && !q)) ?_
  unfold anyIn
  generalize hb : a + 1 + runK es e0 (a + 1) = b at *
  have hsp : es = es.take a ++ ((es.drop a).take (b - a) ++ es.drop b) := by
    conv => lhs; rw [← List.take_append_drop a es, ← List.take_append_drop (b - a) (es.drop a)]
    rw [List.drop_drop, show a + (b - a) = b by omega]
  have e1 : (es.take a).any (fun f => sameK e f && covers9 e lb f) = false := any_q (fun j f hf => by
    rw [List.getElem?_take] at hf
    split at hf
    · rename_i hj
      have hq := hB j i f e hj h1 hf he
      cases hs' : sameK e f with
      | false => rfl
      | true => rw [sameK_sy hs'] at hq; cases hq
    · cases hf)
  have e2 : (es.drop b).any (fun f => sameK e f && covers9 e lb f) = false := any_q (fun j f hf => by
    rw [List.getElem?_drop] at hf
    have hq := grp_out hs h0 (show a + 1 + runK es e0 (a + 1) ≤ b + j by omega) hf
    cases hs' : sameK e f with
    | false => rfl
    | true => rw [sameK_tr (sameK_sy h4) hs'] at hq; cases hq)
  have e3 : ((es.drop a).take (b - a)).any (fun f => sameK e f && covers9 e lb f) = ((es.drop a).take (b - a)).any (covers9 e lb) := by
    refine any_cg (fun f hf => ?_)
    obtain ⟨j, hj⟩ := List.getElem?_of_mem hf
    rw [List.getElem?_take] at hj
    split at hj
    · rename_i hjb
      rw [List.getElem?_drop] at hj
      obtain ⟨f', h5, h6⟩ := grp_in h0 (show a ≤ a + j by omega) (by omega)
      rw [hj] at h5
      cases h5
      rw [sameK_tr h4 h6, Bool.true_and]
    · cases hj
  conv => rhs; rw [hsp]
  rw [List.any_append, List.any_append, e1, e2, e3, Bool.false_or, Bool.or_false]
