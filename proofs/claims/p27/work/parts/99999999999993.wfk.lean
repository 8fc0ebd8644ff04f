/-! what holds at all times is kept (by hand) -/
theorem cp2 {α : Type} {p a b : α → Bool} (hd : ∀ x, a x = true → b x = true → False) : ∀ (l : List α), (l.filter a).countP p + (l.filter b).countP p ≤ l.countP p
  | [] => Nat.le_refl _
  | x :: l => by
    have ih := cp2 (p := p) hd l
    have hc : l.countP p ≤ (x :: l).countP p := by rw [List.countP_cons]; exact Nat.le_add_right _ _
    cases ha : a x with
    | true =>
      have hb : b x = false := by
        cases hb : b x with
        | false => rfl
        | true => exact (hd x ha hb).elim
      rw [List.filter_cons_of_pos ha, List.filter_cons_of_neg (by rw [hb]; decide), List.countP_cons, List.countP_cons]
      omega
    | false =>
      rw [List.filter_cons_of_neg (by rw [ha]; decide)]
      cases hb : b x with
      | true =>
        rw [List.filter_cons_of_pos hb, List.countP_cons, List.countP_cons]
        omega
      | false =>
        rw [List.filter_cons_of_neg (by rw [hb]; decide)]
        omega
theorem cnt_store {es : List En} {e : En} {sr lb : Int32} (h : ¬ (e.1 = sr ∧ e.2.2.1 = lb)) : cntE (storeE es e) sr lb ≤ cntE es sr lb := by
  unfold cntE storeE
  rw [List.countP_append, List.countP_cons_of_neg (p := fun e : En => decide (e.2.2.1 = lb) && decide (e.1 = sr)) (fun h9 => h ⟨of_decide_eq_true (Bool.and_eq_true_iff.mp h9).2, of_decide_eq_true (Bool.and_eq_true_iff.mp h9).1⟩)]
  exact cp2 (fun x h1 h2 => ltP_as (ltB_iff.mp h1) (ltB_iff.mp h2)) es
theorem cnt_tk {es : List En} {e : En} {l sr lb : Int32} : cntE (tkE es e l) sr lb ≤ cntE es sr lb := List.Sublist.countP_le List.filter_sublist
theorem cnt_cut {es : List En} {e : En} {l sr lb : Int32} (h : ¬ (e.1 = sr ∧ l = lb)) : cntE (cutE es e l) sr lb ≤ cntE es sr lb := by
  unfold cutE
  split
  · exact Nat.le_trans (cnt_store (e := veilE e l) h) cnt_tk
  · exact cnt_tk
theorem cnt_fS {row : En → En} {sr lb s0 l0 : Int32} (hn : ¬ (s0 = sr ∧ l0 = lb)) : ∀ (al : List En) (a : A3), (∀ r ∈ al, (row r).1 = s0 ∧ (row r).2.2.1 = l0) → cntE (al.foldl (stepS row) a).1 sr lb ≤ cntE a.1 sr lb
  | [], _, _ => Nat.le_refl _
  | r :: al, a, h => by
    obtain ⟨h1, h2⟩ := h r List.mem_cons_self
    exact Nat.le_trans (cnt_fS hn al (stepS row a r) (fun x hx => h x (List.mem_cons_of_mem _ hx))) (cnt_store (e := row r) (by rw [h1, h2]; exact hn))
theorem cnt_fC {sr lb s0 l0 : Int32} (hn : ¬ (s0 = sr ∧ l0 = lb)) : ∀ (al : List En) (a : A3), (∀ r ∈ al, r.1 = s0) → cntE (al.foldl (stepC l0) a).1 sr lb ≤ cntE a.1 sr lb
  | [], _, _ => Nat.le_refl _
  | r :: al, a, h => by
    have h1 := h r List.mem_cons_self
    exact Nat.le_trans (cnt_fC hn al (stepC l0 a r) (fun x hx => h x (List.mem_cons_of_mem _ hx))) (cnt_cut (by rw [h1]; exact hn))
theorem cnt_bring {es fs : List En} {s k l sr lb : Int32} (hn : ¬ (s = sr ∧ l = lb)) : cntE (bringE es fs (s, k, l)) sr lb ≤ cntE es sr lb := by
  cases hq : findE fs (s, k, l) with
  | none => rw [bring_n hq]; exact List.Sublist.countP_le List.filter_sublist
  | some x =>
    rw [bring_s hq]
    have e := find_at9 hq
    refine cnt_store (e := x) ?_
    rw [show x.1 = s from congrArg Prod.fst e, show x.2.2.1 = l from congrArg (fun p : Pl => p.2.2) e]
    exact hn
theorem cnt_brAll {own : List En} {sr lb : Int32} : ∀ (cs es : List En), (∀ e ∈ cs, ¬ (e.1 = sr ∧ e.2.2.1 = lb)) → cntE (bringAll es own cs) sr lb ≤ cntE es sr lb
  | [], _, _ => Nat.le_refl _
  | e :: cs, es, h => Nat.le_trans (cnt_brAll cs (bringE es own (eP e)) (fun x hx => h x (List.mem_cons_of_mem _ hx))) (cnt_bring (h e List.mem_cons_self))
theorem mem_bring {es fs : List En} {p : Pl} {x : En} (h : x ∈ bringE es fs p) : x ∈ es ∨ x ∈ fs := by
  cases hq : findE fs p with
  | none => rw [bring_n hq] at h; exact Or.inl (List.mem_filter.mp h).1
  | some y =>
    rw [bring_s hq] at h
    rcases mem_store h with e | e
    · exact Or.inr (by rw [e]; exact find_mem9 hq)
    · exact Or.inl e
theorem mem_brAll {own : List En} : ∀ (cs es : List En) (x : En), x ∈ bringAll es own cs → x ∈ es ∨ x ∈ own
  | [], _, _, h => Or.inl h
  | e :: cs, es, x, h => by
    rcases mem_brAll cs (bringE es own (eP e)) x h with h9 | h9
    · exact mem_bring h9
    · exact Or.inr h9
theorem judge0_cnt {TI : Nat → Tb} {T : Tb} {es ms : List En} {sr lb : Int32} {ck : En → Bool} (h : judgeE TI T es ms sr lb ck = 0) : cntE es sr lb ≤ 12 := by
  unfold judgeE at h
  by_cases hc : 12 < cntE es sr lb
  · rw [if_pos hc] at h
    exact absurd h (by decide)
  · omega
def EP (ts : List TQ) (st : List Nat) (e : En) : Prop := (∃ q ∈ ts, q.1.1 = e.2.2.2.2.2 ∧ q.2.1 = e.1 ∧ isB q.2.2.1.2.1 e.2.2.1 = true) ∧ e.2.2.2.2.2 ∈ st ∧ isL4 e.2.2.1 = true ∧ ¬ e.2.1 < -1000000000
/-- the drafts of the statements that change rows are well -/
theorem EnOk.put {ts : List TQ} {st : List Nat} {es : List En} {e : En} (h : EnOk ts st es) (he : EP ts st e) (hc : cntE (storeE es e) e.1 e.2.2.1 ≤ 12) : EnOk ts st (storeE es e) := by
  refine ⟨h.1.store _, fun x hx => ?_, fun sr lb => ?_⟩
  · rcases mem_store hx with e9 | e9
    · rw [e9]; exact he
    · exact h.2.1 x e9
  · by_cases hn : e.1 = sr ∧ e.2.2.1 = lb
    · rw [← hn.1, ← hn.2]; exact hc
    · exact Nat.le_trans (cnt_store hn) (h.2.2 sr lb)
theorem EnOk.fS {ts : List TQ} {st : List Nat} {es al : List En} {row : En → En} {s0 l0 : Int32} (h : EnOk ts st es) (hr : ∀ r ∈ al, EP ts st (row r) ∧ (row r).1 = s0 ∧ (row r).2.2.1 = l0) (hc : cntE (al.foldl (stepS row) (es, [], [])).1 s0 l0 ≤ 12) : EnOk ts st (al.foldl (stepS row) (es, [], [])).1 := by
  obtain ⟨a1, a2, -⟩ := AI.fS (B := EP ts st) (row := row) al es.length 0 (es, [], []) ⟨h.1, fun e he => h.2.1 e he, fun e he => (List.not_mem_nil he).elim, fun e he => (List.not_mem_nil he).elim, Nat.le_refl _, Nat.le_refl _, Nat.le_refl _⟩ (fun r hr9 => (hr r hr9).1)
  refine ⟨a1, a2, fun sr lb => ?_⟩
  by_cases hn : s0 = sr ∧ l0 = lb
  · rw [← hn.1, ← hn.2]; exact hc
  · exact Nat.le_trans (cnt_fS hn al _ (fun r hr9 => (hr r hr9).2)) (h.2.2 sr lb)
theorem EnOk.fC {ts : List TQ} {st : List Nat} {es al : List En} {s0 l0 : Int32} (h : EnOk ts st es) (hr : ∀ r ∈ al, EP ts st (veilE r l0) ∧ r.1 = s0) (hc : cntE (al.foldl (stepC l0) (es, [], [])).1 s0 l0 ≤ 12) : EnOk ts st (al.foldl (stepC l0) (es, [], [])).1 := by
  obtain ⟨a1, a2, -⟩ := AI.fC (B := EP ts st) (lb := l0) al es.length 0 (es, [], []) ⟨h.1, fun e he => h.2.1 e he, fun e he => (List.not_mem_nil he).elim, fun e he => (List.not_mem_nil he).elim, Nat.le_refl _, Nat.le_refl _, Nat.le_refl _⟩ (fun r hr9 => (hr r hr9).1)
  refine ⟨a1, a2, fun sr lb => ?_⟩
  by_cases hn : s0 = sr ∧ l0 = lb
  · rw [← hn.1, ← hn.2]; exact hc
  · exact Nat.le_trans (cnt_fC hn al _ (fun r hr9 => (hr r hr9).2)) (h.2.2 sr lb)
/-- tables of which flags and given keys alone are other ones -/
theorem TIq_map {ts : List TQ} {φ : TQ → TQ} (h1 : ∀ q, (φ q).1.1 = q.1.1) (h2 : ∀ q, (φ q).2.2.1 = q.2.2.1) (a : Nat) : TIq (ts.map φ) a = TIq ts a := by
  unfold TIq
  rw [List.find?_map]
  rw [show ((fun q : TQ => decide (q.1.1 = a)) ∘ φ) = (fun q : TQ => decide (q.1.1 = a)) from funext (fun q => by show decide ((φ q).1.1 = a) = _; rw [h1 q])]
  cases ts.find? (fun q => decide (q.1.1 = a)) with
  | none => rfl
  | some q => exact h2 q
theorem SRq_map {ts : List TQ} {φ : TQ → TQ} (h1 : ∀ q, (φ q).1.1 = q.1.1) (h2 : ∀ q, (φ q).2.1 = q.2.1) (a : Nat) : SRq (ts.map φ) a = SRq ts a := by
  unfold SRq
  rw [List.find?_map]
  rw [show ((fun q : TQ => decide (q.1.1 = a)) ∘ φ) = (fun q : TQ => decide (q.1.1 = a)) from funext (fun q => by show decide ((φ q).1.1 = a) = _; rw [h1 q])]
  cases ts.find? (fun q => decide (q.1.1 = a)) with
  | none => rfl
  | some q => exact h2 q
def φok (φ : TQ → TQ) : Prop := ∀ q, (φ q).1 = q.1 ∧ (φ q).2.1 = q.2.1 ∧ (φ q).2.2.1 = q.2.2.1
theorem EnOk.map {ts : List TQ} {st : List Nat} {es : List En} {φ : TQ → TQ} (hφ : φok φ) (h : EnOk ts st es) : EnOk (ts.map φ) st es := by
  refine ⟨h.1, fun e he => ?_, h.2.2⟩
  obtain ⟨⟨q, hq, q1, q2, q3⟩, h2⟩ := h.2.1 e he
  exact ⟨⟨φ q, List.mem_map_of_mem hq, by rw [(hφ q).1]; exact q1, by rw [(hφ q).2.1]; exact q2, by rw [(hφ q).2.2]; exact q3⟩, h2⟩
theorem ChOk.map {ts : List TQ} {lb : Int32} {cs : List En} {φ : TQ → TQ} (hφ : φok φ) (h : ChOk ts lb cs) : ChOk (ts.map φ) lb cs := fun e he => by
  obtain ⟨h1, q, hq, q1, q2, q3⟩ := h e he
  exact ⟨h1, φ q, List.mem_map_of_mem hq, by rw [(hφ q).1]; exact q1, by rw [(hφ q).2.1]; exact q2, by rw [(hφ q).2.2]; exact q3⟩
theorem StT.map {ts : List TQ} {st : List Nat} {φ : TQ → TQ} (hφ : φok φ) (h : StT ts st) : StT (ts.map φ) st := fun a ha => by
  obtain ⟨q, hq, e⟩ := h a ha
  exact ⟨φ q, List.mem_map_of_mem hq, by rw [(hφ q).1]; exact e⟩
theorem EnOk.std {ts : List TQ} {st st' : List Nat} {es : List En} (h : EnOk ts st es) (hs : ∀ a ∈ st, a ∈ st') : EnOk ts st' es := ⟨h.1, fun e he => by
  obtain ⟨a, b, c⟩ := h.2.1 e he
  exact ⟨a, hs _ b, c⟩, h.2.2⟩
theorem EnOk.ts {ts ts' : List TQ} {st : List Nat} {es : List En} (h : EnOk ts st es) (hs : ∀ q ∈ ts, q ∈ ts') : EnOk ts' st es := ⟨h.1, fun e he => by
  obtain ⟨⟨q, hq, q1⟩, b⟩ := h.2.1 e he
  exact ⟨⟨q, hs q hq, q1⟩, b⟩, h.2.2⟩
theorem ChOk.ts {ts ts' : List TQ} {lb : Int32} {cs : List En} (h : ChOk ts lb cs) (hs : ∀ q ∈ ts, q ∈ ts') : ChOk ts' lb cs := fun e he => by
  obtain ⟨h1, q, hq, q1⟩ := h e he
  exact ⟨h1, q, hs q hq, q1⟩
theorem EnOk.nil {ts : List TQ} {st : List Nat} : EnOk ts st [] := ⟨List.Pairwise.nil, fun e he => (List.not_mem_nil he).elim, fun _ _ => Nat.zero_le _⟩
/-! sums over sessions -/
theorem sum8 {h h' : Nat → Nat} {i n : Nat} (hi : i < 8) (hn : ∀ j, j ≠ i → h' j = h j) (hle : h' i ≤ h i + n) : sumL h' (List.range 8) ≤ sumL h (List.range 8) + n := by
  have e : sumL h [i] + sumL h' (List.range 8) = sumL h' [i] + sumL h (List.range 8) := sumL_eq (by
    have : i ∈ List.range 8 := List.mem_range.mpr hi
    exact List.singleton_sublist.mpr this) (List.nodup_range) (fun j hj hne => hn j (fun e => hne (by rw [e]; exact List.mem_singleton.mpr rfl)))
  have e1 : sumL h [i] = h i := by show h i + 0 = _; omega
  have e2 : sumL h' [i] = h' i := by show h' i + 0 = _; omega
  omega
theorem sum8e {h h' : Nat → Nat} {i : Nat} (hi : i < 8) (hn : ∀ j, j ≠ i → h' j = h j) : sumL h' (List.range 8) + h i = sumL h (List.range 8) + h' i := by
  have e : sumL h [i] + sumL h' (List.range 8) = sumL h' [i] + sumL h (List.range 8) := sumL_eq (by
    have : i ∈ List.range 8 := List.mem_range.mpr hi
    exact List.singleton_sublist.mpr this) (List.nodup_range) (fun j hj hne => hn j (fun e => hne (by rw [e]; exact List.mem_singleton.mpr rfl)))
  have e1 : sumL h [i] = h i := by show h i + 0 = _; omega
  have e2 : sumL h' [i] = h' i := by show h' i + 0 = _; omega
  omega
theorem sum8s {h h' : Nat → Nat} (hn : ∀ j, h' j = h j) : sumL h' (List.range 8) = sumL h (List.range 8) := by
  rw [show h' = h from funext hn]
theorem ch_le {M : HM} {i : Nat} (hi : i < 8) : (M.2.2.2.1 i).2.2.2.2.1.length ≤ massM M := by
  have : ∀ (h : Nat → Nat) (l : List Nat), i ∈ l → h i ≤ sumL h l := by
    intro h l
    induction l with
    | nil => intro h9; exact (List.not_mem_nil h9).elim
    | cons x l ih =>
      intro h9
      have e9 : sumL h (x :: l) = h x + sumL h l := by unfold sumL; rw [List.map_cons, List.sum_cons]
      rw [e9]
      rcases List.mem_cons.mp h9 with e | e
      · rw [← e]; exact Nat.le_add_right _ _
      · exact Nat.le_trans (ih e) (Nat.le_add_left _ _)
  have := this (fun i => (M.2.2.2.1 i).2.2.2.2.1.length) (List.range 8) (List.mem_range.mpr hi)
  unfold massM
  exact Nat.le_trans this (Nat.le_add_left _ _)
theorem end_le {M : HM} : M.2.2.1.length ≤ massM M := Nat.le_add_right _ _
theorem addCE_len (fs : List En) : ∀ ts : List En, (addCE fs ts).length ≤ fs.length + ts.length := by
  intro ts
  induction ts generalizing fs with
  | nil => exact Nat.le_refl _
  | cons t ts ih =>
    have e : addCE fs (t :: ts) = addCE (if hasCE fs t = true then fs else fs ++ [t]) ts := rfl
    rw [e]
    refine Nat.le_trans (ih _) ?_
    split
    · rw [List.length_cons]; omega
    · rw [List.length_append, List.length_singleton, List.length_cons]; omega
theorem addCE_mem (fs : List En) : ∀ (ts : List En) (x : En), x ∈ addCE fs ts → x ∈ fs ∨ x ∈ ts := by
  intro ts
  induction ts generalizing fs with
  | nil => intro x h; exact Or.inl h
  | cons t ts ih =>
    intro x h
    have e : addCE fs (t :: ts) = addCE (if hasCE fs t = true then fs else fs ++ [t]) ts := rfl
    rw [e] at h
    rcases ih _ x h with h9 | h9
    · split at h9
      · exact Or.inl h9
      · rcases List.mem_append.mp h9 with h8 | h8
        · exact Or.inl h8
        · rw [List.mem_singleton.mp h8]; exact Or.inr List.mem_cons_self
    · exact Or.inr (List.mem_cons_of_mem _ h9)
