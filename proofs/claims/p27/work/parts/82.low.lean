/-! secrecy of what is seen: entries that are not below a label do not matter to it -/
theorem isB_cov {e f : En} {lb : Int32} (h : covers9 e lb f = true) : isB f.2.2.1 lb = true := by
  unfold covers9 at h
  rw [Bool.and_eq_true, Bool.and_eq_true] at h
  exact h.2.2
theorem chs_low {es : List En} {e : En} {lb : Int32} {p : En → Bool} (hp : ∀ f, isB f.2.2.1 lb = true → p f = true) : chs (es.filter p) e lb = chs es e lb := by
  have key : (es.filter p).any (fun f => sameK e f && covers9 e lb f) = es.any (fun f => sameK e f && covers9 e lb f) := by
    induction es with
    | nil => rfl
    | cons x xs ih =>
      rw [List.filter_cons]
      cases hx : p x with
      | true =>
        rw [if_pos rfl, List.any_cons, List.any_cons, ih]
      | false =>
        have hc : covers9 e lb x = false := by
          cases h9 : covers9 e lb x with
          | false => rfl
          | true => rw [hp x (isB_cov h9)] at hx; cases hx
        rw [if_neg (by decide), List.any_cons, hc, Bool.and_false, Bool.false_or]
        exact ih
  unfold chs
  rw [key]
theorem chs_below {es : List En} {e : En} {lb : Int32} (h : chs es e lb = true) : isB e.2.2.1 lb = true := by
  unfold chs at h
  rw [Bool.and_eq_true, Bool.and_eq_true] at h
  exact h.1.2
theorem look_low_fold {TI : Nat → Tb} {es : List En} {lb : Int32} {p : En → Bool} (hp : ∀ f, isB f.2.2.1 lb = true → p f = true) : ∀ (xs acc : List En), (xs.filter p).foldl (lookStep TI (es.filter p) lb) acc = xs.foldl (lookStep TI es lb) acc
  | [], _ => rfl
  | x :: xs, acc => by
    have hst : ∀ a, lookStep TI (es.filter p) lb a x = lookStep TI es lb a x := fun a => by
      unfold lookStep
      rw [chs_low hp]
    rw [List.filter_cons]
    cases hx : p x with
    | true =>
      rw [if_pos rfl, List.foldl_cons, List.foldl_cons, hst]
      exact look_low_fold hp xs _
    | false =>
      have hc : chs es x lb = false := by
        cases h9 : chs es x lb with
        | false => rfl
        | true => rw [hp x (chs_below h9)] at hx; cases hx
      have hs : lookStep TI es lb acc x = acc := by
        unfold lookStep
        rw [hc, Bool.false_and, if_neg (by decide)]
      rw [if_neg (by decide), List.foldl_cons, hs]
      exact look_low_fold hp xs acc
/-- what a label sees is told by any entries that hold all that are below it -/
theorem look_low {TI : Nat → Tb} {es : List En} {lb : Int32} {p : En → Bool} (hp : ∀ f, isB f.2.2.1 lb = true → p f = true) : lookE TI (es.filter p) lb = lookE TI es lb := look_low_fold hp es []
