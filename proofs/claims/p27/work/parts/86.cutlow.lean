/-! cuts, at low and at high labels -/
theorem lab0_take {es : List En} {q : Pl} (h : Lab0 es) : Lab0 (takeE es q) := fun e he => h e (List.mem_filter.mp he).1
theorem lab0_store {es : List En} {e : En} (h : Lab0 es) (he : ¬ e.2.2.1 < 0) : Lab0 (storeE es e) := fun x hx => by
  unfold storeE at hx
  rcases List.mem_append.mp hx with hx | hx
  · exact h x (List.mem_filter.mp hx).1
  · rcases List.mem_cons.mp hx with hx | hx
    · rw [hx]; exact he
    · exact h x (List.mem_filter.mp hx).1
theorem lab0_bring {es fs : List En} {q : Pl} (h : Lab0 es) (hF : Lab0 fs) : Lab0 (bringE es fs q) := by
  cases hf : findE fs q with
  | none => rw [bring_n hf]; exact lab0_take h
  | some f =>
    rw [bring_s hf]
    unfold findE at hf
    exact lab0_store h (hF f (List.mem_of_find?_eq_some hf))
theorem lab0_all {own : List En} : ∀ (cs es : List En), Lab0 es → Lab0 own → Lab0 (bringAll es own cs)
  | [], _, h, _ => h
  | _ :: cs, _, h, hF => lab0_all cs _ (lab0_bring h hF) hF
theorem tk_low {w : Int32 → Bool} {es : List En} {e : En} {lb : Int32} : tkE (lowF w es) e lb = lowF w (tkE es e lb) := take_low.symm
theorem cut_low_ch {w : Int32 → Bool} {es : List En} {e : En} {lb : Int32} (hs : Srt es) (h0 : Lab0 es) (hw : ∀ l, isB l lb = true → w l = true) : hasChE (tkE (lowF w es) e lb) e.1 e.2.1 lb = hasChE (tkE es e lb) e.1 e.2.1 lb := by
  rw [tk_low]
  exact hasCh_low (hs.filter _) (lab0_take h0) hw
theorem cut_low {w : Int32 → Bool} {es : List En} {e : En} {lb : Int32} (hs : Srt es) (h0 : Lab0 es) (hw : ∀ l, isB l lb = true → w l = true) (hl : w lb = true) : lowF w (cutE es e lb) = cutE (lowF w es) e lb := by
  have h1 := cut_low_ch (w := w) (e := e) hs h0 hw
  unfold cutE
  rw [h1]
  split
  · rw [store_low (show w (veilE e lb).2.2.1 = true from hl), tk_low]
  · exact tk_low.symm
theorem cutT_low {w : Int32 → Bool} {es : List En} {e : En} {lb : Int32} (hs : Srt es) (h0 : Lab0 es) (hw : ∀ l, isB l lb = true → w l = true) (hl : w lb = true) : cutT (lowF w es) e lb = cutT es e lb := by
  unfold cutT
  rw [cut_low_ch (w := w) (e := e) hs h0 hw, find_low (show w ((e.1, e.2.1, lb) : Pl).2.2 = true from hl)]
theorem cut_high {w : Int32 → Bool} {es : List En} {e : En} {lb : Int32} (hs : Srt es) (hl : w lb = false) : lowF w (cutE es e lb) = lowF w es := by
  have h1 : lowF w (tkE es e lb) = lowF w es := take_high (show w ((e.1, e.2.1, lb) : Pl).2.2 = false from hl)
  have h2 : Srt (tkE es e lb) := hs.filter _
  unfold cutE
  split
  · rw [store_high h2 (show w (veilE e lb).2.2.1 = false from hl), h1]
  · exact h1
theorem cut_srt {es : List En} {e : En} {lb : Int32} (hs : Srt es) : Srt (cutE es e lb) := by
  have h1 : Srt (tkE es e lb) := hs.filter _
  unfold cutE
  split
  · exact h1.store _
  · exact h1
theorem cut_lab0 {es : List En} {e : En} {lb : Int32} (h0 : Lab0 es) (hl : ¬ lb < 0) : Lab0 (cutE es e lb) := by
  unfold cutE
  split
  · exact lab0_store (lab0_take h0) hl
  · exact lab0_take h0
/-- what a cut touches is at the label -/
theorem cutT_lab {es : List En} {e : En} {lb : Int32} : ∀ x ∈ cutT es e lb, x.2.2.1 = lb := by
  intro x hx
  unfold cutT at hx
  split at hx
  · rw [List.mem_singleton.mp hx]; rfl
  · cases hf : findE es (e.1, e.2.1, lb) with
    | none => rw [hf] at hx; exact (List.not_mem_nil hx).elim
    | some f =>
      rw [hf] at hx
      rw [List.mem_singleton.mp hx]
      exact congrArg (fun p : Pl => p.2.2) (find_at9 hf)
