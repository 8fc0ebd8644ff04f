/-! twins at a label, over all entries -/
/-- no key is ahead of the least one -/
def Key0 (es : List En) : Prop := ∀ e ∈ es, ¬ e.2.1 < -1000000000
/-- whether one of some entries has a twin among those ahead of it -/
def twL (T : Tb) : List En → List En → Bool
  | _, [] => false
  | acc, x :: xs => acc.any (fun f => twinE T f x) || twL T (acc ++ [x]) xs
/-- the entries of a table at a label -/
def atSL (es : List En) (sr lb : Int32) : List En := es.filter (fun e => decide (e.1 = sr) && decide (e.2.2.1 = lb))
theorem atSL_c {x : En} {xs : List En} {sr lb : Int32} : atSL (x :: xs) sr lb = if (decide (x.1 = sr) && decide (x.2.2.1 = lb)) = true then x :: atSL xs sr lb else atSL xs sr lb := List.filter_cons ..
theorem atSL_none {es : List En} {sr lb : Int32} (h : ∀ e ∈ es, e.1 ≠ sr) : atSL es sr lb = [] := by
  refine List.filter_eq_nil_iff.mpr (fun e he => ?_)
  rw [decide_eq_false (h e he), Bool.false_and]
  decide
theorem any_lab {T : Tb} {e : En} {sr lb : Int32} (hl : e.2.2.1 = lb) : ∀ {xs : List En}, (∀ f ∈ xs, f.1 = sr) → xs.any (fun f => decide (f.2.2.1 = e.2.2.1) && twinE T f e) = (atSL xs sr lb).any (fun f => twinE T f e)
  | [], _ => rfl
  | x :: xs, h => by
    have h1 := h x (List.mem_cons_self ..)
    have ih := any_lab (T := T) hl (fun f hf => h f (List.mem_cons_of_mem _ hf))
    rw [atSL_c, decide_eq_true h1, Bool.true_and, List.any_cons, ih, hl]
    by_cases hx : x.2.2.1 = lb
    · rw [if_pos (decide_eq_true hx), List.any_cons, decide_eq_true hx, Bool.true_and]
    · rw [if_neg (by rw [decide_eq_false hx]; decide), decide_eq_false hx, Bool.false_and, Bool.false_or]
theorem seg_next {es : List En} {a i : Nat} {e : En} (h : a ≤ i) (he : es[i]? = some e) : (es.drop a).take (i + 1 - a) = (es.drop a).take (i - a) ++ [e] := by
  rw [show i + 1 - a = (i - a) + 1 by omega, List.take_succ, List.getElem?_drop, show a + (i - a) = i by omega, he]
  rfl
theorem tws_all {T : Tb} {es : List En} {sr lb : Int32} {a : Nat} (hs : Srt es) : ∀ (n i : Nat), i + n = es.length → a ≤ i → (∀ f ∈ (es.drop a).take (i - a), f.1 = sr) → (∀ f ∈ es.drop i, ¬ f.1 < sr) → twsFrom T es sr lb a n i = twL T (atSL ((es.drop a).take (i - a)) sr lb) (atSL (es.drop i) sr lb) := by
  intro n
  induction n with
  | zero =>
    intro i hi hai h1 h2
    rw [List.drop_eq_nil_of_le (show es.length ≤ i by omega)]
    rfl
  | succ n ih =>
    intro i hi hai h1 h2
    obtain ⟨e, he⟩ : ∃ e, es[i]? = some e := ⟨_, List.getElem?_eq_getElem (by omega)⟩
    have hd : es.drop i = e :: es.drop (i + 1) := by
      rw [xdrop_q (i := i), he]
      rfl
    by_cases hsr : e.1 = sr
    · have h3 : ∀ f ∈ (es.drop a).take (i + 1 - a), f.1 = sr := fun f hf => by
        rw [seg_next hai he] at hf
        rcases List.mem_append.mp hf with hf | hf
        · exact h1 f hf
        · rw [List.mem_singleton.mp hf]; exact hsr
      have h4 : ∀ f ∈ es.drop (i + 1), ¬ f.1 < sr := fun f hf => h2 f (by rw [hd]; exact List.mem_cons_of_mem _ hf)
      have ih2 := ih (i + 1) (by omega) (by omega) h3 h4
      rw [tws_s he hsr, ih2, hd, atSL_c, decide_eq_true hsr, Bool.true_and, seg_next hai he]
      have happ : atSL ((es.drop a).take (i - a) ++ [e]) sr lb = atSL ((es.drop a).take (i - a)) sr lb ++ atSL [e] sr lb := List.filter_append ..
      rw [happ, atSL_c, decide_eq_true hsr, Bool.true_and]
      by_cases hl : e.2.2.1 = lb
      · have h5 : hasTwE T es e a i = (atSL ((es.drop a).take (i - a)) sr lb).any (fun f => twinE T f e) := any_lab hl h1
        rw [if_pos (decide_eq_true hl), if_pos (decide_eq_true hl), decide_eq_true hl, Bool.true_and, h5]
        rfl
      · rw [if_neg (by rw [decide_eq_false hl]; decide), if_neg (by rw [decide_eq_false hl]; decide), decide_eq_false hl, Bool.false_and, Bool.false_or]
        have h6 : atSL ([] : List En) sr lb = [] := rfl
        rw [h6, List.append_nil]
    · rw [tws_f he hsr]
      have h3 : ∀ f ∈ es.drop i, f.1 ≠ sr := fun f hf hfs => by
        rw [hd] at hf
        rcases List.mem_cons.mp hf with hf | hf
        · rw [hf] at hfs; exact hsr hfs
        · obtain ⟨j, hj⟩ := List.getElem?_of_mem hf
          rw [List.getElem?_drop] at hj
          have h4 := srt_lt hs (show i < i + 1 + j by omega) he hj
          have h5 := h2 e (by rw [hd]; exact List.mem_cons_self ..)
          rcases h4 with h4 | ⟨h4, -⟩
          · exact h5 (by rw [← hfs]; exact h4)
          · exact hsr (by rw [← hfs]; exact h4)
      rw [atSL_none h3]
      rfl
/-- whether a table has twins at a label -/
theorem hasTws_all {T : Tb} {es : List En} {sr lb : Int32} (hs : Srt es) (h0 : Lab0 es) (hk : Key0 es) : hasTwsE T es sr lb = twL T [] (atSL es sr lb) := by
  unfold hasTwsE
  generalize ha : plc es (sr, -1000000000, 0) = a
  have hal : a ≤ es.length := by rw [← ha]; exact plc_le
  have hb : ∀ f ∈ es.take a, f.1 ≠ sr := fun f hf hfs => by
    obtain ⟨j, hj⟩ := List.getElem?_of_mem hf
    rw [List.getElem?_take] at hj
    split at hj
    · rename_i hja
      have h3 := (srt_at hs (sr, -1000000000, 0) hj).mpr (by rw [ha]; exact hja)
      rcases h3 with h3 | ⟨-, h3 | ⟨-, h3⟩⟩
      · exact absurd (hfs ▸ h3 : f.1 < f.1) i32_ir
      · exact hk f (List.mem_of_getElem? hj) h3
      · exact h0 f (List.mem_of_getElem? hj) h3
    · cases hj
  have hc : ∀ f ∈ es.drop a, ¬ f.1 < sr := fun f hf h => by
    obtain ⟨j, hj⟩ := List.getElem?_of_mem hf
    rw [List.getElem?_drop] at hj
    have h3 := (srt_at hs (sr, -1000000000, 0) hj).mp (Or.inl h)
    omega
  have h1 := tws_all (T := T) (lb := lb) hs (a := a) (sr := sr) (es.length - a) a (by omega) (Nat.le_refl _) (fun f hf => by rw [Nat.sub_self] at hf; exact (List.not_mem_nil hf).elim) hc
  rw [h1, Nat.sub_self]
  have h2 : atSL es sr lb = atSL (es.take a) sr lb ++ atSL (es.drop a) sr lb := by
    unfold atSL
    rw [← List.filter_append, List.take_append_drop]
  rw [h2, atSL_none hb]
  rfl
theorem key0_low {w : Int32 → Bool} {es : List En} (h : Key0 es) : Key0 (lowF w es) := fun e he => h e (List.mem_filter.mp he).1
/-- twins at a label are told by the entries of the label -/
theorem hasTws_low {w : Int32 → Bool} {T : Tb} {es : List En} {sr lb : Int32} (hs : Srt es) (h0 : Lab0 es) (hk : Key0 es) (hl : w lb = true) : hasTwsE T (lowF w es) sr lb = hasTwsE T es sr lb := by
  rw [hasTws_all hs h0 hk, hasTws_all (low_srt hs) (lab0_low h0) (key0_low hk)]
  refine congrArg (twL T []) ?_
  unfold atSL lowF
  rw [List.filter_filter]
  refine filter_congr9 (fun x _ => ?_)
  by_cases hx : x.2.2.1 = lb
  · rw [hx, hl, Bool.and_true]
  · rw [decide_eq_false hx, Bool.and_false, Bool.false_and]
