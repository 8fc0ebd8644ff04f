/-! whether a key has a chosen row, over all entries -/
/-- labels are no negative numbers -/
def Lab0 (es : List En) : Prop := ∀ e ∈ es, ¬ e.2.2.1 < 0
theorem key_ge {es : List En} (hs : Srt es) (h0 : Lab0 es) {sr k : Int32} {i : Nat} {e : En} (he : es[i]? = some e) (h1 : e.1 = sr) (h2 : e.2.1 = k) : plc es (sr, k, 0) ≤ i := by
  rcases Nat.lt_or_ge i (plc es (sr, k, 0)) with h | h
  · have h3 := (srt_at hs (sr, k, 0) he).mpr h
    rcases h3 with h3 | ⟨-, h3 | ⟨-, h3⟩⟩
    · exact absurd (h1 ▸ h3 : e.1 < e.1) i32_ir
    · exact absurd (h2 ▸ h3 : e.2.1 < e.2.1) i32_ir
    · exact absurd h3 (h0 e (List.mem_of_getElem? he))
  · exact h
theorem bnd_plc {es : List En} (hs : Srt es) (h0 : Lab0 es) {sr k : Int32} : Bnd es (plc es (sr, k, 0)) := by
  intro i j e f hi hj he hf
  cases hq : sameK e f with
  | false => rfl
  | true =>
    exfalso
    obtain ⟨h1, h2⟩ := sameK_iff.mp hq
    have h3 := (srt_at hs (sr, k, 0) he).mpr hi
    have h4 : ¬ ltP (eP f) (sr, k, 0) := fun h => absurd ((srt_at hs (sr, k, 0) hf).mp h) (Nat.not_lt.mpr hj)
    rcases h3 with h3 | ⟨h5, h3 | ⟨-, h3⟩⟩
    · exact h4 (Or.inl (by show f.1 < sr; rw [h1]; exact h3))
    · exact h4 (Or.inr ⟨by show f.1 = sr; rw [h1]; exact h5, Or.inl (by show f.2.1 < k; rw [h2]; exact h3)⟩)
    · exact absurd h3 (h0 e (List.mem_of_getElem? he))
theorem chs_key {sr k : Int32} {e : En} : sameK (sr, k, 0, false, [], 0) e = true ↔ e.1 = sr ∧ e.2.1 = k := sameK_iff
/-- whether a key has a chosen row -/
theorem hasChE_any {es : List En} (hs : Srt es) (h0 : Lab0 es) {sr k lb : Int32} : hasChE es sr k lb = es.any (fun e => sameK (sr, k, 0, false, [], 0) e && chs es e lb) := by
  cases hE : es[plc es (sr, k, 0)]? with
  | none =>
    rw [hasChE_n hE]
    refine (any_q (fun i f hf => ?_)).symm
    cases hq : sameK (sr, k, 0, false, [], 0) f with
    | false => rfl
    | true =>
      exfalso
      obtain ⟨h1, h2⟩ := chs_key.mp hq
      have h3 := key_ge hs h0 hf h1 h2
      have h4 := (List.getElem?_eq_some_iff.mp hf).1
      have h5 := List.getElem?_eq_none_iff.mp hE
      omega
  | some e0 =>
    rw [hasChE_s hE]
    cases hk : sameK (sr, k, 0, false, [], 0) e0 with
    | false =>
      rw [Bool.false_and]
      refine (any_q (fun j f hf => ?_)).symm
      cases hq : sameK (sr, k, 0, false, [], 0) f with
      | false => rfl
      | true =>
        exfalso
        obtain ⟨h1, h2⟩ := chs_key.mp hq
        have h3 := key_ge hs h0 hf h1 h2
        have hne : j ≠ plc es (sr, k, 0) := fun e => by
          rw [e, hE] at hf
          cases hf
          rw [hq] at hk
          cases hk
        have h6 := srt_lt hs (show plc es (sr, k, 0) < j by omega) hE hf
        have h7 : ¬ ltP (eP e0) (sr, k, 0) := fun h => absurd ((srt_at hs (sr, k, 0) hE).mp h) (Nat.lt_irrefl _)
        rcases ltP_tri (sr, k, 0) (eP e0) with h | h | h
        · have hm := key_mid h h6 h1.symm h2.symm
          rw [chs_key.mpr ⟨hm.1, hm.2⟩] at hk
          cases hk
        · have ha : e0.1 = sr := (congrArg (fun p : Pl => p.1) h).symm
          have hb : e0.2.1 = k := (congrArg (fun p : Pl => p.2.1) h).symm
          rw [chs_key.mpr ⟨ha, hb⟩] at hk
          cases hk
        · exact h7 h
    | true =>
      rw [Bool.true_and]
      unfold chsFrom
      have hB := bnd_plc hs h0 (sr := sr) (k := k)
      generalize ha : plc es (sr, k, 0) = a at *
      have hg : ∀ (i : Nat) (e : En), a ≤ i → i < a + 1 + runK es e0 (a + 1) → es[i]? = some e → chsIn es e lb a (a + 1 + runK es e0 (a + 1)) = (sameK (sr, k, 0, false, [], 0) e && chs es e lb) := fun i e h1 h2 he => by
        rw [chs_grp hs hB hE h1 h2 he]
        obtain ⟨e', h3, h4⟩ := grp_in hE h1 h2
        rw [he] at h3
        cases h3
        rw [sameK_tr (sameK_sy hk) h4, Bool.true_and]
      have hout : ∀ (j : Nat) (f : En), a + 1 + runK es e0 (a + 1) ≤ j → es[j]? = some f → sameK (sr, k, 0, false, [], 0) f = false := fun j f hj hf => by
        have h3 := grp_out hs hE hj hf
        cases hq : sameK (sr, k, 0, false, [], 0) f with
        | false => rfl
        | true => rw [sameK_tr hk hq] at h3; cases h3
      generalize hb : a + 1 + runK es e0 (a + 1) = b at *
      have hsp : es = es.take a ++ ((es.drop a).take (b - a) ++ es.drop b) := by
        conv => lhs; rw [← List.take_append_drop a es, ← List.take_append_drop (b - a) (es.drop a)]
        rw [List.drop_drop, show a + (b - a) = b by omega]
      have e1 : (es.take a).any (fun e => sameK (sr, k, 0, false, [], 0) e && chs es e lb) = false := any_q (fun j f hf => by
        rw [List.getElem?_take] at hf
        split at hf
        · rename_i hj
          cases hq : sameK (sr, k, 0, false, [], 0) f with
          | false => rfl
          | true =>
            obtain ⟨h1, h2⟩ := chs_key.mp hq
            have h3 := key_ge hs h0 hf h1 h2
            omega
        · cases hf)
      have e2 : (es.drop b).any (fun e => sameK (sr, k, 0, false, [], 0) e && chs es e lb) = false := any_q (fun j f hf => by
        rw [List.getElem?_drop] at hf
        rw [hout (b + j) f (by omega) hf, Bool.false_and])
      have e3 : ((es.drop a).take (b - a)).any (fun e => chsIn es e lb a b) = ((es.drop a).take (b - a)).any (fun e => sameK (sr, k, 0, false, [], 0) e && chs es e lb) := by
        refine any_cg (fun f hf => ?_)
        obtain ⟨j, hj⟩ := List.getElem?_of_mem hf
        rw [List.getElem?_take] at hj
        split at hj
        · rename_i hjb
          rw [List.getElem?_drop] at hj
          exact hg (a + j) f (by omega) (by omega) hj
        · cases hj
      have e4 : es.any (fun e => sameK (sr, k, 0, false, [], 0) e && chs es e lb) = (es.take a ++ ((es.drop a).take (b - a) ++ es.drop b)).any (fun e => sameK (sr, k, 0, false, [], 0) e && chs es e lb) := congrArg (fun l => List.any l (fun e => sameK (sr, k, 0, false, [], 0) e && chs es e lb)) hsp
      rw [e3, e4, List.any_append, List.any_append, e1, e2, Bool.false_or, Bool.or_false]
theorem lab0_low {w : Int32 → Bool} {es : List En} (h : Lab0 es) : Lab0 (lowF w es) := fun e he => h e (List.mem_filter.mp he).1
/-- whether a key has a chosen row is told by what is below -/
theorem hasCh_low {w : Int32 → Bool} {es : List En} {sr k lb : Int32} (hs : Srt es) (h0 : Lab0 es) (hw : ∀ l, isB l lb = true → w l = true) : hasChE (lowF w es) sr k lb = hasChE es sr k lb := by
  rw [hasChE_any hs h0, hasChE_any (low_srt hs) (lab0_low h0)]
  have hc : ∀ e, chs (lowF w es) e lb = chs es e lb := fun e => chs_low (p := fun f => w f.2.2.1) (fun f hf => hw _ hf)
  have h1 : (lowF w es).any (fun e => sameK (sr, k, 0, false, [], 0) e && chs (lowF w es) e lb) = (lowF w es).any (fun e => sameK (sr, k, 0, false, [], 0) e && chs es e lb) := any_cg (fun e _ => by rw [hc])
  rw [h1]
  generalize hq : (fun e => sameK (sr, k, 0, false, [], 0) e && chs es e lb) = q
  have hqw : ∀ e, q e = true → w e.2.2.1 = true := fun e h => by
    rw [← hq] at h
    exact hw _ (chs_below (Bool.and_eq_true _ _ ▸ h : _ ∧ _).2)
  clear h1 hc hq
  induction es with
  | nil => rfl
  | cons x xs ih =>
    have ih2 := ih (List.Pairwise.of_cons hs) (fun e he => h0 e (List.mem_cons_of_mem _ he))
    cases hx : w x.2.2.1 with
    | true => rw [low_one hx, List.any_cons, List.any_cons, ih2]
    | false =>
      have hn : q x = false := by
        cases h : q x with
        | false => rfl
        | true => rw [hqw x h] at hx; cases hx
      rw [low_non hx, List.any_cons, hn, Bool.false_or, ih2]
