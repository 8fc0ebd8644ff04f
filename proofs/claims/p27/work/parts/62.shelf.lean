/-! shelves as lists of entries: what find, store, take, drop make of them -/
def findE (es : List En) (p : Pl) : Option En := es.find? (fun e => decide (eP e = p))
def storeE (es : List En) (e : En) : List En := es.filter (fun f => ltB (eP f) (eP e)) ++ e :: es.filter (fun f => ltB (eP e) (eP f))
def takeE (es : List En) (p : Pl) : List En := es.filter (fun f => decide (eP f ≠ p))
theorem Srt.sub {es fs : List En} (h : Srt es) (hs : fs.Sublist es) : Srt fs := List.Pairwise.sublist hs h
theorem Srt.filter {es : List En} (h : Srt es) (f : En → Bool) : Srt (es.filter f) := h.sub List.filter_sublist
/-- a sorted list at a place: what is ahead, and the rest, which begins with the entry of the place or has none -/
theorem srt_cut {es : List En} (hs : Srt es) (p : Pl) : ∃ A B : List En, es = A ++ B ∧ A.length = plc es p ∧ A = es.filter (fun e => ltB (eP e) p) ∧ (∀ f ∈ A, ltP (eP f) p) ∧ ((∀ f ∈ B, ltP p (eP f)) ∨ ∃ b B', B = b :: B' ∧ eP b = p ∧ ∀ f ∈ B', ltP p (eP f)) := by
  refine ⟨es.filter (fun e => ltB (eP e) p), es.filter (fun e => !ltB (eP e) p), (srt_split hs p).symm, rfl, rfl, fun f hf => ltB_iff.mp (List.mem_filter.mp hf).2, ?_⟩
  have hB : Srt (es.filter (fun e => !ltB (eP e) p)) := hs.filter _
  have hn : ∀ f ∈ es.filter (fun e => !ltB (eP e) p), ¬ ltP (eP f) p := fun f hf q => by
    have h := (List.mem_filter.mp hf).2
    rw [ltB_iff.mpr q] at h
    cases h
  generalize es.filter (fun e => !ltB (eP e) p) = B at hB hn
  cases B with
  | nil => exact Or.inl (fun f hf => by cases hf)
  | cons b B =>
    have h1 := List.pairwise_cons.mp hB
    rcases ltP_tri (eP b) p with h | h | h
    · exact absurd h (hn b List.mem_cons_self)
    · exact Or.inr ⟨b, B, rfl, h, fun f hf => by rw [← h]; exact h1.1 f hf⟩
    · refine Or.inl (fun f hf => ?_)
      rcases List.mem_cons.mp hf with e | hf
      · rw [e]; exact h
      · exact ltP_tr h (h1.1 f hf)
theorem find_none {es : List En} {p : Pl} (h : ∀ f ∈ es, eP f ≠ p) : findE es p = none := List.find?_eq_none.mpr (fun f hf q => h f hf (of_decide_eq_true q))
theorem ne_lt {p q : Pl} (h : ltP p q) : p ≠ q := fun e => by
  rw [e] at h
  exact ltP_irr _ h
theorem ne_gt {p q : Pl} (h : ltP p q) : q ≠ p := fun e => by
  rw [e] at h
  exact ltP_irr _ h
theorem srt_find {es : List En} (hs : Srt es) (p : Pl) : (∃ e, es[plc es p]? = some e ∧ eP e = p ∧ findE es p = some e) ∨ (findE es p = none ∧ ∀ e, es[plc es p]? = some e → eP e ≠ p) := by
  obtain ⟨A, B, he, hl, -, hA, hB⟩ := srt_cut hs p
  generalize plc es p = n at hl ⊢
  have hq : es[n]? = B[0]? := by
    conv => lhs; rw [he]
    rw [List.getElem?_append_right (by omega), hl, Nat.sub_self]
  have hf : findE es p = findE B p := by
    unfold findE
    conv => lhs; rw [he]
    rw [List.find?_append]
    have h0 : A.find? (fun e => decide (eP e = p)) = none := find_none (fun f hf => ne_lt (hA f hf))
    rw [h0]
    rfl
  rw [hq, hf]
  rcases hB with hB | ⟨b, B', rfl, hb, hB⟩
  · exact Or.inr ⟨find_none (fun f hf => ne_gt (hB f hf)), fun e he => ne_gt (hB e (List.mem_of_getElem? he))⟩
  · refine Or.inl ⟨b, rfl, hb, ?_⟩
    unfold findE
    exact List.find?_cons_of_pos (p := fun e => decide (eP e = p)) (decide_eq_true hb)
theorem fil_all {es : List En} {f : En → Bool} (h : ∀ e ∈ es, f e = true) : es.filter f = es := List.filter_eq_self.mpr h
theorem fil_no {es : List En} {f : En → Bool} (h : ∀ e ∈ es, f e = false) : es.filter f = [] := List.filter_eq_nil_iff.mpr (fun e he q => by rw [h e he] at q; cases q)
/-- storing where one is: it is put over; else it comes between -/
theorem srt_store {es : List En} (hs : Srt es) (e : En) : (∀ b, es[plc es (eP e)]? = some b → eP b = eP e → storeE es e = es.set (plc es (eP e)) e) ∧ ((∀ b, es[plc es (eP e)]? = some b → eP b ≠ eP e) → storeE es e = es.take (plc es (eP e)) ++ e :: es.drop (plc es (eP e))) := by
  obtain ⟨A, B, he, hl, hAf, hA, hB⟩ := srt_cut hs (eP e)
  generalize plc es (eP e) = n at hl ⊢
  have hq : es[n]? = B[0]? := by
    conv => lhs; rw [he]
    rw [List.getElem?_append_right (by omega), hl, Nat.sub_self]
  have hst : storeE es e = A ++ e :: B.filter (fun f => ltB (eP e) (eP f)) := by
    unfold storeE
    rw [← hAf]
    refine congrArg (fun z => A ++ e :: z) ?_
    conv => lhs; rw [he]
    rw [List.filter_append, fil_no (es := A) (fun f hf => ltB_not.mpr (fun q => ltP_as q (hA f hf))), List.nil_append]
  refine ⟨fun b hb hbe => ?_, fun hn => ?_⟩
  · rw [hq] at hb
    rcases hB with hB | ⟨b', B', rfl, hb', hB⟩
    · exact absurd hbe (ne_gt (hB b (List.mem_of_getElem? hb)))
    · rw [hst, List.filter_cons_of_neg (p := fun f => ltB (eP e) (eP f)) (by show ¬ ltB (eP e) (eP b') = true; rw [hb', ltB_not.mpr (ltP_irr _)]; decide), fil_all (fun f hf => ltB_iff.mpr (hB f hf))]
      conv => rhs; rw [he]
      rw [List.set_append_right _ _ (by omega), hl, Nat.sub_self]
      rfl
  · rcases hB with hB | ⟨b', B', rfl, hb', hB⟩
    · rw [hst, fil_all (fun f hf => ltB_iff.mpr (hB f hf))]
      have h1 : es.take n = A := by
        conv => lhs; rw [he]
        rw [List.take_left' hl]
      have h2 : es.drop n = B := by
        conv => lhs; rw [he]
        rw [List.drop_left' hl]
      rw [h1, h2]
    · exact absurd hb' (hn b' (by rw [hq]; rfl))
theorem srt_take {es : List En} (hs : Srt es) (p : Pl) : (∀ b, es[plc es p]? = some b → eP b = p → takeE es p = es.eraseIdx (plc es p)) ∧ ((∀ b, es[plc es p]? = some b → eP b ≠ p) → takeE es p = es) := by
  obtain ⟨A, B, he, hl, hAf, hA, hB⟩ := srt_cut hs p
  generalize plc es p = n at hl ⊢
  have hq : es[n]? = B[0]? := by
    conv => lhs; rw [he]
    rw [List.getElem?_append_right (by omega), hl, Nat.sub_self]
  have hst : takeE es p = A ++ B.filter (fun f => decide (eP f ≠ p)) := by
    unfold takeE
    conv => lhs; rw [he]
    rw [List.filter_append, fil_all (es := A) (fun f hf => decide_eq_true (ne_lt (hA f hf)))]
  refine ⟨fun b hb hbe => ?_, fun hn => ?_⟩
  · rw [hq] at hb
    rcases hB with hB | ⟨b', B', rfl, hb', hB⟩
    · exact absurd hbe (ne_gt (hB b (List.mem_of_getElem? hb)))
    · rw [hst, List.filter_cons_of_neg (p := fun f => decide (eP f ≠ p)) (by show ¬ decide (eP b' ≠ p) = true; rw [decide_eq_false (fun q => q hb')]; decide), fil_all (fun f hf => decide_eq_true (ne_gt (hB f hf)))]
      conv => rhs; rw [he]
      rw [List.eraseIdx_append_of_length_le (by omega), hl, Nat.sub_self]
      rfl
  · rcases hB with hB | ⟨b', B', rfl, hb', hB⟩
    · rw [hst, fil_all (fun f hf => decide_eq_true (ne_gt (hB f hf))), ← he]
    · exact absurd hb' (hn b' (by rw [hq]; rfl))
theorem Srt.store {es : List En} (hs : Srt es) (e : En) : Srt (storeE es e) := by
  unfold storeE
  refine List.pairwise_append.mpr ⟨hs.filter _, List.pairwise_cons.mpr ⟨fun f hf => ltB_iff.mp (List.mem_filter.mp hf).2, hs.filter _⟩, fun a ha b hb => ?_⟩
  have h1 := ltB_iff.mp (List.mem_filter.mp ha).2
  rcases List.mem_cons.mp hb with rfl | hb
  · exact h1
  · exact ltP_tr h1 (ltB_iff.mp (List.mem_filter.mp hb).2)
/-- entries in the heap: one more, one put over, one less -/
theorem ins_q {α : Type} {xs : List α} {k j : Nat} {x : α} (hk : k ≤ xs.length) : (xs.take k ++ x :: xs.drop k)[j]? = if j < k then xs[j]? else if j = k then some x else xs[j - 1]? := by
  by_cases h : j < k
  · rw [if_pos h, List.getElem?_append_left (by rw [List.length_take]; omega), List.getElem?_take, if_pos h]
  · rw [if_neg h, List.getElem?_append_right (by rw [List.length_take]; omega), List.length_take, Nat.min_eq_left hk]
    by_cases h2 : j = k
    · rw [if_pos h2, h2, Nat.sub_self]; rfl
    · rw [if_neg h2, show j - k = (j - k - 1) + 1 by omega, List.getElem?_cons_succ, List.getElem?_drop]
      exact congrArg (fun i => xs[i]?) (by omega)
theorem hEs.ins {hp : List XC} {as : List Nat} {es : List En} {k a : Nat} {e : En} (h : hEs hp as es) (ha : hEn hp a e) (hk : k ≤ es.length) : hEs hp (insAt as k a) (es.take k ++ e :: es.drop k) := by
  have hl := h.1
  refine ⟨by rw [insAt_len, List.length_append, List.length_cons, List.length_take, List.length_drop]; omega, fun i x f hx hf => ?_⟩
  rw [insAt_q (by omega)] at hx
  rw [ins_q hk] at hf
  split at hx
  · rename_i h1
    rw [if_pos h1] at hf
    exact h.2 i x f hx hf
  · rename_i h1
    rw [if_neg h1] at hf
    split at hx
    · rename_i h2
      rw [if_pos h2] at hf
      cases hx
      cases hf
      exact ha
    · rename_i h2
      rw [if_neg h2] at hf
      exact h.2 _ x f hx hf
theorem hEs.set {hp : List XC} {as : List Nat} {es : List En} {k a : Nat} {e : En} (h : hEs hp as es) (ha : hEn hp a e) : hEs hp (as.set k a) (es.set k e) := by
  refine ⟨by rw [List.length_set, List.length_set]; exact h.1, fun i x f hx hf => ?_⟩
  rw [List.getElem?_set] at hx hf
  have hl := h.1
  split at hx
  · rename_i h1
    rw [if_pos h1] at hf
    split at hx
    · split at hf
      · cases hx
        cases hf
        exact ha
      · cases hf
    · cases hx
  · rename_i h1
    rw [if_neg h1] at hf
    exact h.2 i x f hx hf
theorem hEs.erase {hp : List XC} {as : List Nat} {es : List En} {k : Nat} (h : hEs hp as es) : hEs hp (as.eraseIdx k) (es.eraseIdx k) := by
  have hl := h.1
  refine ⟨by rw [List.length_eraseIdx, List.length_eraseIdx, hl], fun i x f hx hf => ?_⟩
  rw [List.getElem?_eraseIdx] at hx hf
  split at hx
  · rename_i h1
    rw [if_pos h1] at hf
    exact h.2 i x f hx hf
  · rename_i h1
    rw [if_neg h1] at hf
    exact h.2 _ x f hx hf
theorem hEs.app {hp : List XC} {as bs : List Nat} {es fs : List En} (h : hEs hp as es) (h2 : hEs hp bs fs) : hEs hp (as ++ bs) (es ++ fs) := by
  have hl := h.1
  refine ⟨by rw [List.length_append, List.length_append, h.1, h2.1], fun i x f hx hf => ?_⟩
  rcases Nat.lt_or_ge i as.length with hi | hi
  · rw [List.getElem?_append_left hi] at hx
    rw [List.getElem?_append_left (by omega)] at hf
    exact h.2 i x f hx hf
  · rw [List.getElem?_append_right hi] at hx
    rw [List.getElem?_append_right (by omega), ← hl] at hf
    exact h2.2 _ x f hx hf
