/-! what changes do to the entries of some labels -/
def lowF (w : Int32 → Bool) (es : List En) : List En := es.filter (fun e => w e.2.2.1)
theorem filter_comm9 {α : Type} {p q : α → Bool} {l : List α} : (l.filter p).filter q = (l.filter q).filter p := by
  rw [List.filter_filter, List.filter_filter]
  exact filter_congr9 (fun x _ => Bool.and_comm _ _)
theorem low_srt {w : Int32 → Bool} {es : List En} (h : Srt es) : Srt (lowF w es) := h.filter _
theorem low_app {w : Int32 → Bool} {es fs : List En} : lowF w (es ++ fs) = lowF w es ++ lowF w fs := List.filter_append ..
theorem low_one {w : Int32 → Bool} {e : En} {es : List En} (h : w e.2.2.1 = true) : lowF w (e :: es) = e :: lowF w es := by
  unfold lowF
  rw [List.filter_cons, h, if_pos rfl]
theorem low_non {w : Int32 → Bool} {e : En} {es : List En} (h : w e.2.2.1 = false) : lowF w (e :: es) = lowF w es := by
  unfold lowF
  rw [List.filter_cons, h, if_neg (by decide)]
theorem store_low {w : Int32 → Bool} {es : List En} {e : En} (h : w e.2.2.1 = true) : lowF w (storeE es e) = storeE (lowF w es) e := by
  unfold storeE
  rw [low_app, low_one h]
  unfold lowF
  rw [filter_comm9, filter_comm9 (p := fun f => ltB (eP e) (eP f))]
theorem store_high {w : Int32 → Bool} {es : List En} {e : En} (hs : Srt es) (h : w e.2.2.1 = false) : lowF w (storeE es e) = lowF w es := by
  obtain ⟨q1, q2⟩ := srt_store hs e
  by_cases hb : ∃ b, es[plc es (eP e)]? = some b ∧ eP b = eP e
  · obtain ⟨b, hb, h2⟩ := hb
    obtain ⟨k1, k2⟩ := List.getElem?_eq_some_iff.mp hb
    have hbl : b.2.2.1 = e.2.2.1 := congrArg (fun p : Pl => p.2.2) h2
    have e1 : es = es.take (plc es (eP e)) ++ b :: es.drop (plc es (eP e) + 1) := by
      have := List.take_append_drop (plc es (eP e)) es
      rw [List.drop_eq_getElem_cons k1, k2] at this
      exact this.symm
    rw [q1 b hb h2, List.set_eq_take_append_cons_drop, if_pos k1, low_app, low_non h]
    conv => rhs; rw [e1, low_app, low_non (by rw [hbl]; exact h)]
  · rw [q2 (fun b h1 h2 => hb ⟨b, h1, h2⟩), low_app, low_non h, ← low_app, List.take_append_drop]
theorem take_low {w : Int32 → Bool} {es : List En} {q : Pl} : lowF w (takeE es q) = takeE (lowF w es) q := filter_comm9
theorem take_high {w : Int32 → Bool} {es : List En} {q : Pl} (h : w q.2.2 = false) : lowF w (takeE es q) = lowF w es := by
  unfold lowF takeE
  rw [List.filter_filter]
  refine filter_congr9 (fun x _ => ?_)
  by_cases hx : eP x = q
  · have : w x.2.2.1 = false := by rw [← hx] at h; exact h
    rw [this, Bool.false_and]
  · rw [decide_eq_true hx, Bool.and_true]
theorem find_low {w : Int32 → Bool} {q : Pl} (h : w q.2.2 = true) : ∀ {es : List En}, findE (lowF w es) q = findE es q
  | [] => rfl
  | x :: xs => by
    have ih := find_low (w := w) (q := q) h (es := xs)
    unfold findE at ih ⊢
    by_cases hx : eP x = q
    · have hw : w x.2.2.1 = true := by rw [← hx] at h; exact h
      rw [low_one hw, List.find?_cons, List.find?_cons, decide_eq_true hx]
    · cases hw : w x.2.2.1 with
      | true =>
        rw [low_one hw, List.find?_cons, List.find?_cons, decide_eq_false hx]
        exact ih
      | false =>
        rw [low_non hw, ih, List.find?_cons, decide_eq_false hx]
theorem cnt_low {w : Int32 → Bool} {es : List En} {sr lb : Int32} (h : w lb = true) : cntE (lowF w es) sr lb = cntE es sr lb := by
  unfold cntE lowF
  rw [List.countP_filter]
  refine List.countP_congr (fun x _ => ?_)
  rw [Bool.and_eq_true, Bool.and_eq_true, decide_eq_true_eq, decide_eq_true_eq]
  exact ⟨fun k => k.1, fun k => ⟨k, by rw [k.1]; exact h⟩⟩
theorem find_at9 {fs : List En} {q : Pl} {f : En} (h : findE fs q = some f) : eP f = q := by
  unfold findE at h
  have h2 := List.find?_some h
  exact of_decide_eq_true h2
theorem bring_low {w : Int32 → Bool} {es fs : List En} {q : Pl} (h : w q.2.2 = true) : lowF w (bringE es fs q) = bringE (lowF w es) (lowF w fs) q := by
  have h1 := find_low (w := w) h (es := fs)
  cases hf : findE fs q with
  | none => rw [bring_n hf, bring_n (h1.trans hf)]; exact take_low
  | some f =>
    have hq : eP f = q := find_at9 hf
    rw [bring_s hf, bring_s (h1.trans hf)]
    exact store_low (by rw [← hq] at h; exact h)
theorem bring_high {w : Int32 → Bool} {es fs : List En} {q : Pl} (hs : Srt es) (h : w q.2.2 = false) : lowF w (bringE es fs q) = lowF w es := by
  cases hf : findE fs q with
  | none => rw [bring_n hf]; exact take_high h
  | some f =>
    have hq : eP f = q := find_at9 hf
    rw [bring_s hf]
    exact store_high hs (by rw [← hq] at h; exact h)
theorem bringAll_low {w : Int32 → Bool} {own : List En} : ∀ (cs es : List En), (∀ e ∈ cs, w e.2.2.1 = true) → lowF w (bringAll es own cs) = bringAll (lowF w es) (lowF w own) cs
  | [], _, _ => rfl
  | e :: cs, es, h => by
    show lowF w (bringAll (bringE es own (eP e)) own cs) = bringAll (bringE (lowF w es) (lowF w own) (eP e)) (lowF w own) cs
    rw [bringAll_low cs _ (fun x hx => h x (List.mem_cons_of_mem _ hx)), bring_low (h e (List.mem_cons_self ..))]
theorem bringAll_high {w : Int32 → Bool} {own : List En} : ∀ (cs es : List En), Srt es → (∀ e ∈ cs, w e.2.2.1 = false) → lowF w (bringAll es own cs) = lowF w es
  | [], _, _, _ => rfl
  | e :: cs, es, hs, h => by
    show lowF w (bringAll (bringE es own (eP e)) own cs) = lowF w es
    rw [bringAll_high cs _ (bringE_srt hs _) (fun x hx => h x (List.mem_cons_of_mem _ hx)), bring_high hs (h e (List.mem_cons_self ..))]
theorem hasC_low {w : Int32 → Bool} {fs : List En} {e : En} (h : w e.2.2.1 = true) : hasCE (lowF w fs) e = hasCE fs e := by
  unfold hasCE
  induction fs with
  | nil => rfl
  | cons x xs ih =>
    cases hw : w x.2.2.1 with
    | true => rw [low_one hw, List.any_cons, List.any_cons, ih]
    | false =>
      have hx : ¬ eP x = eP e := fun q => by
        have : x.2.2.1 = e.2.2.1 := congrArg (fun p : Pl => p.2.2) q
        rw [this, h] at hw
        cases hw
      rw [low_non hw, List.any_cons, decide_eq_false hx, Bool.false_or, ih]
theorem drop_low {w : Int32 → Bool} {es : List En} {sr : Int32} : lowF w (dropE es sr) = dropE (lowF w es) sr := filter_comm9
theorem sum_none {es : List En} {sr : Int32} {a : Int64} (h : ∀ e ∈ es, e.1 ≠ sr) : sumE es sr a = a := by
  unfold sumE
  induction es generalizing a with
  | nil => rfl
  | cons x xs ih =>
    rw [List.foldl_cons]
    unfold sumR
    rw [if_neg (h x (List.mem_cons_self ..))]
    exact ih (fun e he => h e (List.mem_cons_of_mem _ he))
