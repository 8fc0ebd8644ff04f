/-! the heap's sort sorts -/
def kg (key : Int32 → Int32) (ps : List Int32) (i : Nat) : Int32 := key ((ps[i]?).getD 0)
theorem kg_sw {key : Int32 → Int32} {ps : List Int32} {a c i : Nat} {x z : Int32} (ha : a < ps.length) (hc : c < ps.length) : kg key ((ps.set a x).set c z) i = if i = c then key z else if i = a then key x else kg key ps i := by
  unfold kg
  rw [List.getElem?_set]
  by_cases h1 : c = i
  · subst h1
    rw [if_pos rfl, if_pos (by rw [List.length_set]; exact hc), if_pos rfl]
    rfl
  · rw [if_neg h1, if_neg (fun e => h1 e.symm), List.getElem?_set]
    by_cases h2 : a = i
    · subst h2
      rw [if_pos rfl, if_pos ha, if_pos rfl]
      rfl
    · rw [if_neg h2, if_neg (fun e => h2 e.symm)]
/-- a heap from a node on -/
def Hp (key : Int32 → Int32) (size a0 : Nat) (ps : List Int32) : Prop := ∀ i c, a0 ≤ i → (c = 2 * i + 1 ∨ c = 2 * i + 2) → c < size → kg key ps c ≤ kg key ps i
/-- a heap but for one node, whose children are no greater than its parent -/
def HpX (key : Int32 → Int32) (size a0 a : Nat) (ps : List Int32) : Prop := (∀ i c, a0 ≤ i → i ≠ a → (c = 2 * i + 1 ∨ c = 2 * i + 2) → c < size → kg key ps c ≤ kg key ps i) ∧ ∀ p c, a0 ≤ p → (a = 2 * p + 1 ∨ a = 2 * p + 2) → (c = 2 * a + 1 ∨ c = 2 * a + 2) → c < size → kg key ps c ≤ kg key ps p
theorem sinkC_max {key : Int32 → Int32} {size a c : Nat} {ps : List Int32} (h : c = 2 * a + 1 ∨ c = 2 * a + 2) (hc : c < size) : kg key ps c ≤ kg key ps (sinkC key size a ps) := by
  unfold sinkC
  split
  · rename_i q
    rcases h with rfl | rfl
    · exact Int32.le_of_lt q.2
    · exact Int32.le_refl _
  · rename_i q
    rcases h with rfl | rfl
    · exact Int32.le_refl _
    · exact Int32.not_lt.mp (fun h => q ⟨hc, h⟩)
theorem sinkC_or {key : Int32 → Int32} {size a : Nat} {ps : List Int32} : sinkC key size a ps = 2 * a + 1 ∨ sinkC key size a ps = 2 * a + 2 := by
  unfold sinkC
  split
  · exact Or.inr rfl
  · exact Or.inl rfl
theorem sink_heap {key : Int32 → Int32} {size a0 : Nat} : ∀ (f a : Nat) (ps : List Int32), size ≤ f + a → size ≤ ps.length → a0 ≤ a → HpX key size a0 a ps → Hp key size a0 (sinkE key size f a ps)
  | 0, a, ps, hf, hl, ha, h => fun i c hi hc hs => by
    by_cases e : i = a
    · omega
    · exact h.1 i c hi e hc hs
  | f + 1, a, ps, hf, hl, ha, h => by
    unfold sinkE
    by_cases h1 : 2 * a + 1 < size
    · rw [if_pos h1]
      obtain ⟨c1, c2⟩ := sinkC_lt (key := key) (ps := ps) h1
      have c3 := sinkC_or (key := key) (size := size) (a := a) (ps := ps)
      have c4 : ∀ c, (c = 2 * a + 1 ∨ c = 2 * a + 2) → c < size → kg key ps c ≤ kg key ps (sinkC key size a ps) := fun c hc hs => sinkC_max hc hs
      generalize sinkC key size a ps = c0 at c1 c2 c3 c4
      by_cases h2 : key ((ps[a]?).getD 0) < key ((ps[c0]?).getD 0)
      · rw [if_pos h2]
        refine sink_heap f c0 _ (by omega) (by rw [List.length_set, List.length_set]; exact hl) (by omega) ⟨fun i c hi hic hc hs => ?_, fun p c hp hpc hc hs => ?_⟩
        · rw [kg_sw (by omega) (by omega), kg_sw (by omega) (by omega), if_neg hic]
          by_cases e1 : i = a
          · subst e1
            rw [if_pos rfl]
            by_cases e2 : c = c0
            · rw [if_pos e2]; exact Int32.le_of_lt h2
            · rw [if_neg e2, if_neg (by omega)]; exact c4 c hc hs
          · rw [if_neg e1]
            by_cases e2 : c = c0
            · exfalso; omega
            · rw [if_neg e2]
              by_cases e3 : c = a
              · rw [if_pos e3]
                subst e3
                exact h.2 i c0 hi hc c3 c2
              · rw [if_neg e3]; exact h.1 i c hi e1 hc hs
        · have e1 : p = a := by omega
          subst e1
          rw [kg_sw (by omega) (by omega), kg_sw (by omega) (by omega), if_neg (by omega), if_neg (by omega), if_neg (by omega), if_pos rfl]
          exact h.1 c0 c (by omega) (by omega) hc hs
      · rw [if_neg h2]
        intro i c hi hc hs
        by_cases e : i = a
        · subst e
          exact Int32.le_trans (c4 c hc hs) (Int32.not_lt.mp h2)
        · exact h.1 i c hi e hc hs
    · rw [if_neg h1]
      intro i c hi hc hs
      by_cases e : i = a
      · omega
      · exact h.1 i c hi e hc hs
theorem sinkE_out {key : Int32 → Int32} {size i : Nat} (hi : size ≤ i) : ∀ (f a : Nat) (ps : List Int32), (sinkE key size f a ps)[i]? = ps[i]?
  | 0, _, _ => rfl
  | f + 1, a, ps => by
    unfold sinkE
    split
    · rename_i h1
      obtain ⟨c1, c2⟩ := sinkC_lt (key := key) (ps := ps) h1
      split
      · rw [sinkE_out hi f, List.getElem?_set_ne (by omega), List.getElem?_set_ne (by omega)]
      · rfl
    · rfl
theorem sw_perm {ps : List Int32} {a c : Nat} (ha : a < ps.length) (hc : c < ps.length) : ((ps.set a ((ps[c]?).getD 0)).set c ((ps[a]?).getD 0)).Perm ps := by
  rw [List.getElem?_eq_getElem ha, List.getElem?_eq_getElem hc, Option.getD_some, Option.getD_some]
  exact List.set_set_perm ha hc
theorem sinkE_perm {key : Int32 → Int32} {size : Nat} : ∀ (f a : Nat) (ps : List Int32), size ≤ ps.length → (sinkE key size f a ps).Perm ps
  | 0, _, _, _ => List.Perm.refl _
  | f + 1, a, ps, hl => by
    unfold sinkE
    split
    · rename_i h1
      obtain ⟨c1, c2⟩ := sinkC_lt (key := key) (ps := ps) h1
      split
      · exact (sinkE_perm f _ _ (by rw [List.length_set, List.length_set]; exact hl)).trans (sw_perm (by omega) (by omega))
      · exact List.Perm.refl _
    · exact List.Perm.refl _
theorem bld_heap {key : Int32 → Int32} {n : Nat} : ∀ (k : Nat) (ps : List Int32), n ≤ ps.length → Hp key n k ps → Hp key n 0 (bldE key n k ps)
  | 0, _, _, h => h
  | k + 1, ps, hn, h => bld_heap k _ (by rw [sinkE_len]; exact hn) (sink_heap n k ps (by omega) hn (Nat.le_refl _) ⟨fun i c hi he hc hs => h i c (by omega) hc hs, fun p c hp hpc hc hs => by omega⟩)
theorem bldE_perm {key : Int32 → Int32} {n : Nat} : ∀ (k : Nat) (ps : List Int32), n ≤ ps.length → (bldE key n k ps).Perm ps
  | 0, _, _ => List.Perm.refl _
  | k + 1, ps, hn => (bldE_perm k _ (by rw [sinkE_len]; exact hn)).trans (sinkE_perm _ _ _ hn)
theorem bldE_out {key : Int32 → Int32} {n i : Nat} (hi : n ≤ i) : ∀ (k : Nat) (ps : List Int32), (bldE key n k ps)[i]? = ps[i]?
  | 0, _ => rfl
  | k + 1, ps => by rw [bldE, bldE_out hi k, sinkE_out hi]
theorem root_max {key : Int32 → Int32} {size : Nat} {ps : List Int32} (h : Hp key size 0 ps) : ∀ (i : Nat), i < size → kg key ps i ≤ kg key ps 0 := by
  intro i
  induction i using Nat.strongRecOn with
  | ind i ih =>
    intro hi
    by_cases h0 : i = 0
    · rw [h0]; exact Int32.le_refl _
    · have h1 := h ((i - 1) / 2) i (Nat.zero_le _) (by omega) hi
      exact Int32.le_trans h1 (ih ((i - 1) / 2) (by omega) (by omega))
/-- sorted from a place on, and no less there than before -/
def Sfx (key : Int32 → Int32) (n i : Nat) (ps : List Int32) : Prop := ∀ k j, i ≤ j → k ≤ j → j < n → kg key ps k ≤ kg key ps j
theorem kg_V {key : Int32 → Int32} {n : Nat} {ps : List Int32} {M : Int32} (hn : n ≤ ps.length) : allV (fun v => key v ≤ M) n ps ↔ ∀ k, k < n → kg key ps k ≤ M := by
  constructor
  · intro h k hk
    exact h.get hk hn
  · intro h i v hi hv
    have := h i hi
    unfold kg at this
    rw [hv] at this
    exact this
theorem out_srt {key : Int32 → Int32} {n : Nat} : ∀ (i : Nat) (ps : List Int32), i + 1 ≤ n → n ≤ ps.length → Hp key (i + 1) 0 ps → Sfx key n (i + 1) ps → Sfx key n 0 (outE key i ps)
  | 0, ps, hi, hn, hh, hs => fun k j h0 hk hj => by
    by_cases hj0 : j = 0
    · have : k = 0 := by omega
      rw [hj0, this]
      exact Int32.le_refl _
    · exact hs k j (by omega) hk hj
  | i + 1, ps, hi, hn, hh, hs => by
    unfold outE
    have hsw : ∀ k, kg key ((ps.set 0 ((ps[i + 1]?).getD 0)).set (i + 1) ((ps[0]?).getD 0)) k = if k = i + 1 then kg key ps 0 else if k = 0 then kg key ps (i + 1) else kg key ps k := fun k => kg_sw (by omega) (by omega)
    have hl2 : ((ps.set 0 ((ps[i + 1]?).getD 0)).set (i + 1) ((ps[0]?).getD 0)).length = ps.length := by rw [List.length_set, List.length_set]
    generalize (ps.set 0 ((ps[i + 1]?).getD 0)).set (i + 1) ((ps[0]?).getD 0) = qs at hsw hl2
    have hroot := root_max hh
    refine out_srt i _ (by omega) (by rw [sinkE_len, hl2]; exact hn) ?_ ?_
    · refine sink_heap (i + 1) 0 qs (by omega) (by omega) (Nat.le_refl _) ⟨fun a c ha hne hc hcs => ?_, fun p c hp hpc hc hcs => by omega⟩
      rw [hsw, hsw, if_neg (by omega), if_neg (by omega), if_neg (by omega), if_neg hne]
      exact hh a c ha hc (by omega)
    · intro k j hj hk hjn
      have ej : kg key (sinkE key (i + 1) (i + 1) 0 qs) j = kg key qs j := by unfold kg; rw [sinkE_out hj]
      rw [ej]
      have bnd : ∀ x, x < i + 1 → kg key qs x ≤ kg key qs j := by
        intro x hx
        rw [hsw, hsw, if_neg (by omega)]
        have b1 : ∀ x, x < i + 1 + 1 → kg key ps x ≤ (if j = i + 1 then kg key ps 0 else if j = 0 then kg key ps (i + 1) else kg key ps j) := by
          intro x hx
          by_cases e : j = i + 1
          · rw [if_pos e]; exact hroot x hx
          · rw [if_neg e, if_neg (by omega)]; exact hs x j (by omega) (by omega) hjn
        by_cases e0 : x = 0
        · rw [if_pos e0]; exact b1 (i + 1) (by omega)
        · rw [if_neg e0]; exact b1 x (by omega)
      by_cases hk1 : k < i + 1
      · have := sinkE_V (key := key) (size := i + 1) (n := i + 1) (V := fun v => key v ≤ kg key qs j) (Nat.le_refl _) (i + 1) 0 qs (by omega) ((kg_V (by omega)).mpr bnd)
        exact (kg_V (by rw [sinkE_len]; omega)).mp this k hk1
      · have ek : kg key (sinkE key (i + 1) (i + 1) 0 qs) k = kg key qs k := by unfold kg; rw [sinkE_out (by omega)]
        rw [ek, hsw, hsw]
        by_cases e : j = i + 1
        · have : k = i + 1 := by omega
          rw [if_pos e, if_pos this]
          exact Int32.le_refl _
        · rw [if_neg e, if_neg (show ¬ j = 0 by omega)]
          by_cases e2 : k = i + 1
          · rw [if_pos e2]; exact hs 0 j (by omega) (by omega) hjn
          · rw [if_neg e2, if_neg (show ¬ k = 0 by omega)]; exact hs k j (by omega) hk hjn
theorem outE_len {key : Int32 → Int32} : ∀ (i : Nat) (ps : List Int32), (outE key i ps).length = ps.length
  | 0, _ => rfl
  | i + 1, ps => by rw [outE, outE_len i, sinkE_len, List.length_set, List.length_set]
theorem outE_perm {key : Int32 → Int32} : ∀ (i : Nat) (ps : List Int32), i < ps.length → (outE key i ps).Perm ps
  | 0, _, _ => List.Perm.refl _
  | i + 1, ps, h => by
    rw [outE]
    exact (outE_perm i _ (by rw [sinkE_len, List.length_set, List.length_set]; omega)).trans ((sinkE_perm _ _ _ (by rw [List.length_set, List.length_set]; omega)).trans (sw_perm (by omega) (by omega)))
theorem outE_out {key : Int32 → Int32} {j : Nat} : ∀ (i : Nat) (ps : List Int32), i < j → (outE key i ps)[j]? = ps[j]?
  | 0, _, _ => rfl
  | i + 1, ps, h => by rw [outE, outE_out i _ (by omega), sinkE_out (by omega), List.getElem?_set_ne (by omega), List.getElem?_set_ne (by omega)]
/-- the sort: the first n are the same ones, in order -/
theorem sortE_ok {key : Int32 → Int32} {n : Nat} {ps : List Int32} (hn : n ≤ ps.length) : ((sortE key n ps).take n).Perm (ps.take n) ∧ ∀ k j, k ≤ j → j < n → kg key (sortE key n ps) k ≤ kg key (sortE key n ps) j := by
  unfold sortE
  cases n with
  | zero => exact ⟨by rw [List.take_zero, List.take_zero], fun k j _ h => absurd h (Nat.not_lt_zero _)⟩
  | succ m =>
    have hb : Hp key (m + 1) 0 (bldE key (m + 1) ((m + 1) / 2) ps) := bld_heap _ ps hn (fun i c hi hc hs => by omega)
    have hl : m + 1 ≤ (bldE key (m + 1) ((m + 1) / 2) ps).length := by rw [bldE_len]; exact hn
    have hs := out_srt m _ (Nat.le_refl _) hl hb (fun k j h1 h2 h3 => by omega)
    refine ⟨?_, fun k j hk hj => hs k j (Nat.zero_le _) hk hj⟩
    have hp : (outE key m (bldE key (m + 1) ((m + 1) / 2) ps)).Perm ps := (outE_perm m _ (by omega)).trans (bldE_perm _ _ hn)
    have hd : (outE key m (bldE key (m + 1) ((m + 1) / 2) ps)).drop (m + 1) = ps.drop (m + 1) := by
      refine List.ext_getElem? (fun i => ?_)
      rw [List.getElem?_drop, List.getElem?_drop, outE_out m _ (by omega), bldE_out (by omega)]
    have h1 : ((outE key m (bldE key (m + 1) ((m + 1) / 2) ps)).take (m + 1) ++ ps.drop (m + 1)).Perm (ps.take (m + 1) ++ ps.drop (m + 1)) := by
      rw [← hd, List.take_append_drop, hd, List.take_append_drop]
      exact hp
    exact (List.perm_append_right_iff _).mp h1
