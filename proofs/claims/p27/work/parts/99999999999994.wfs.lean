/-! what holds at all times is kept by each step (by hand) -/
section
variable {M : HM} {c d i ln : Nat}
theorem SesOk.of {M' : HM} {s : SM} (h : SesOk M s) (h1 : ∀ es, EnOk M.2.2.2.2.2.2 M.1 es → EnOk M'.2.2.2.2.2.2 M'.1 es) (h2 : ∀ lb cs, ChOk M.2.2.2.2.2.2 lb cs → ChOk M'.2.2.2.2.2.2 lb cs) (h3 : M.2.2.1.length ≤ M'.2.2.1.length) : SesOk M' s := by
  obtain ⟨a, b, c, d, e⟩ := h
  exact ⟨a, h1 _ b, c, h2 _ _ d, Nat.le_trans e h3⟩
theorem WfM.mono {c' d' : Nat} (h : WfM M c d) (hc : c ≤ c') (hd : d ≤ d') : WfM M c' d' := by
  obtain ⟨h1, h2, ⟨md, m1, m2, m3, m4⟩, h4, h5, h6, h7, h8, h9⟩ := h
  refine ⟨h1, h2, ⟨md, m1, by omega, fun q hq => ?_, m4⟩, h4, h5, h6, h7, by omega, h9⟩
  obtain ⟨a1, a2, a3, a4⟩ := m3 q hq
  exact ⟨a1, a2, fun n x hx => by obtain ⟨m, e1, e2⟩ := a3 n x hx; exact ⟨m, by omega, e2⟩, a4⟩
theorem WfM.tally {t : List Int32} (h : WfM M c d) (ht : t.length = 256) : WfM (mTally M t) c d := by
  obtain ⟨h1, h2, h3, h4, h5, h6, h7, h8, h9⟩ := h
  exact ⟨h1, h2, h3, h4, h5, h6, h7, h8, ht⟩
theorem addT_len {ts : List Int32} {t : Nat} : (addT ts t).length = ts.length := List.length_set
theorem WfM.ses {s : SM} {d' : Nat} (h : WfM M c d) (hi : i < 8) (hs : SesOk M s) (hd : s.2.2.2.2.1.length + 48 * d ≤ (M.2.2.2.1 i).2.2.2.2.1.length + 48 * d') : WfM (mS M i s) c d' := by
  obtain ⟨h1, h2, h3, h4, h5, h6, h7, h8, h9⟩ := h
  refine ⟨h1, h2, h3, h4, h5, h6, fun j hj => ?_, ?_, h9⟩
  · by_cases e : j = i
    · subst e
      rw [mS_at]
      exact hs
    · rw [mS_ne e]
      exact h7 j hj
  · have e := sum8e (h := fun i => (M.2.2.2.1 i).2.2.2.2.1.length) (h' := fun j => ((mS M i s).2.2.2.1 j).2.2.2.2.1.length) hi (fun j hj => by show ((mS M i s).2.2.2.1 j).2.2.2.2.1.length = _; rw [mS_ne hj])
    have e2 : ((mS M i s).2.2.2.1 i).2.2.2.2.1.length = s.2.2.2.2.1.length := by rw [mS_at]
    have e3 : massM (mS M i s) = M.2.2.1.length + sumL (fun j => ((mS M i s).2.2.2.1 j).2.2.2.2.1.length) (List.range 8) := rfl
    have e4 : massM M = M.2.2.1.length + sumL (fun i => (M.2.2.2.1 i).2.2.2.2.1.length) (List.range 8) := rfl
    omega
theorem WfM.cnt {r : RM} (h : WfM r.2.2 c d) (hi : i < 8) : WfM (cntR r i ln).2.2 c d := by
  unfold cntR
  split
  · exact h.tally (by rw [addT_len]; exact h.2.2.2.2.2.2.2.2)
  · have hs := h.2.2.2.2.2.2.1 i hi
    exact (h.ses hi (s := sRea (r.2.2.2.2.2.1 i) r.2.1) hs (Nat.le_refl _)).tally (by rw [addT_len]; exact h.2.2.2.2.2.2.2.2)
theorem WfM.flt {f : Nat} (h : WfM M c d) : WfM (fltR M ln f).2.2 c d := h.tally (by rw [addT_len]; exact h.2.2.2.2.2.2.2.2)
theorem WfM.l1 (h : WfM M c d) (hi : i < 8) : WfM (M1l M i) c d := h.ses hi (s := sLen (M.2.2.2.1 i) 0) (h.2.2.2.2.2.2.1 i hi) (Nat.le_refl _)
theorem WfM.tabs {φ : TQ → TQ} {c' : Nat} (h : WfM M c d) (hφ : φok φ) (hc : c ≤ c') (hg : ∀ q ∈ M.2.2.2.2.2.2, (φ q).2.2.2.2.1.length = 64 ∧ ∀ (n : Nat) (x : Int32), (φ q).2.2.2.2.1[n]? = some x → ∃ m : Nat, m ≤ c' ∧ x = Int32.ofNat m) : WfM (mTabs M (M.2.2.2.2.2.2.map φ)) c' d := by
  obtain ⟨h1, h2, ⟨md, m1, m2, m3, m4⟩, h4, h5, h6, h7, h8, h9⟩ := h
  refine ⟨h1.map hφ, fun q hq => ?_, ⟨md, m1, by omega, fun q hq => ?_, fun p hp q hq e => ?_⟩, h4, fun l => ?_, h6.map hφ, fun j hj => (h7 j hj).of (fun es he => he.map hφ) (fun lb cs he => he.map hφ) (Nat.le_refl _), h8, h9⟩
  · obtain ⟨p, hp, e⟩ := List.mem_map.mp hq
    rw [← e, (hφ p).2.2]
    exact h2 p hp
  · obtain ⟨p, hp, e⟩ := List.mem_map.mp hq
    obtain ⟨a1, a2, a3, a4, a5⟩ := m3 p hp
    obtain ⟨g1, g2⟩ := hg p hp
    rw [← e, (hφ p).2.2, (hφ p).2.1]
    refine ⟨a1, g1, g2, a4, fun r hr => ?_⟩
    obtain ⟨p2, b1, b2, b3, b4, b5⟩ := a5 r hr
    exact ⟨φ p2, List.mem_map_of_mem b1, by rw [(hφ p2).1]; exact b2, by rw [(hφ p2).2.1]; exact b3, by rw [(hφ p2).2.2]; exact b4, by rw [(hφ p2).2.1]; exact b5⟩
  · obtain ⟨p0, hp0, e1⟩ := List.mem_map.mp hp
    obtain ⟨q0, hq0, e2⟩ := List.mem_map.mp hq
    rw [← e1, ← e2, (hφ p0).2.1, (hφ q0).2.1, (hφ p0).1, (hφ q0).1] at e
    rw [← e1, ← e2, m4 p0 hp0 q0 hq0 e]
  · show M.1.countP (fun a => decide ((TIq (M.2.2.2.2.2.2.map φ) a).2.1 = l)) ≤ 3
    rw [show (fun a => decide ((TIq (M.2.2.2.2.2.2.map φ) a).2.1 = l)) = (fun a => decide ((TIq M.2.2.2.2.2.2 a).2.1 = l)) from funext (fun a => by rw [TIq_map (fun q => congrArg Prod.fst (hφ q).1) (fun q => (hφ q).2.2)])]
    exact h5 l
theorem giveT_ok (t n : Nat) : φok (fun q => if q.1.1 = t then giveQ q n else q) := fun q => by
  by_cases h : q.1.1 = t
  · have e : (fun q : TQ => if q.1.1 = t then giveQ q n else q) q = giveQ q n := if_pos h
    rw [e]; exact ⟨rfl, rfl, rfl⟩
  · have e : (fun q : TQ => if q.1.1 = t then giveQ q n else q) q = q := if_neg h
    rw [e]; exact ⟨rfl, rfl, rfl⟩
theorem dropT_ok (t : Nat) : φok (fun q => if q.1.1 = t then dropQ q else q) := fun q => by
  by_cases h : q.1.1 = t
  · have e : (fun q : TQ => if q.1.1 = t then dropQ q else q) q = dropQ q := if_pos h
    rw [e]; exact ⟨rfl, rfl, rfl⟩
  · have e : (fun q : TQ => if q.1.1 = t then dropQ q else q) q = q := if_neg h
    rw [e]; exact ⟨rfl, rfl, rfl⟩
theorem WfM.give {t n : Nat} (h : WfM M c d) (hc : c + 1 ≤ 1000) : WfM (mTabs M (giveT M.2.2.2.2.2.2 t n)) (c + 1) d := by
  refine h.tabs (giveT_ok t n) (by omega) (fun q hq => ?_)
  obtain ⟨h1, h2, ⟨md, m1, m2, m3, m4⟩, -⟩ := h
  obtain ⟨a1, a2, a3, -⟩ := m3 q hq
  by_cases e : q.1.1 = t
  · rw [if_pos e]
    refine ⟨by show (q.2.2.2.2.1.set n _).length = 64; rw [List.length_set]; exact a2, fun k x hx => ?_⟩
    have hx' : (q.2.2.2.2.1.set n ((q.2.2.2.2.1[n]?).getD 0 + 1))[k]? = some x := hx
    rw [List.getElem?_set] at hx'
    split at hx'
    · split at hx'
      · cases hx'
        rename_i e1 e2
        cases hv : q.2.2.2.2.1[n]? with
        | none => exact ⟨1, by omega, rfl⟩
        | some y =>
          obtain ⟨m, em, ey⟩ := a3 n y hv
          refine ⟨m + 1, by omega, ?_⟩
          show y + 1 = _
          rw [ey, iN_s]
      · cases hx'
    · obtain ⟨m, em, ey⟩ := a3 k x hx'
      exact ⟨m, by omega, ey⟩
  · rw [if_neg e]
    exact ⟨a2, fun k x hx => by obtain ⟨m, em, ey⟩ := a3 k x hx; exact ⟨m, by omega, ey⟩⟩
theorem WfM.kM {D ts : List En} (h : WfM M c d) (hi : i < 8) (hD : EnOk M.2.2.2.2.2.2 M.1 D) (hts : ChOk M.2.2.2.2.2.2 (M.2.2.2.1 i).1 ts) (hl : ts.length ≤ 48) : WfM (keepM M i D ts) c (d + 1) := by
  unfold keepM
  by_cases hb : (M.2.2.2.1 i).2.2.1 = true
  · rw [if_pos hb]
    obtain ⟨a1, a2, a3, a4, a5⟩ := h.2.2.2.2.2.2.1 i hi
    refine h.ses hi (s := sKeep (M.2.2.2.1 i) D ts) ⟨a1, hD, fun e => ?_, fun e he => ?_, a5⟩ ?_
    · exact absurd (hb.symm.trans e) (by decide)
    · rcases addCE_mem _ _ e he with h9 | h9
      · exact a4 e h9
      · exact hts e h9
    · have := addCE_len (M.2.2.2.1 i).2.2.2.2.1 ts
      show (addCE (M.2.2.2.1 i).2.2.2.2.1 ts).length + 48 * d ≤ _
      omega
  · rw [if_neg hb]
    obtain ⟨h1, h2, h3, h4, h5, h6, h7, h8, h9⟩ := h
    refine ⟨h1, h2, h3, h4, h5, hD, fun j hj => (h7 j hj).of (fun es he => he) (fun lb cs he => he) (by show _ ≤ (M.2.2.1 ++ ts).length; rw [List.length_append]; exact Nat.le_add_right _ _), ?_, h9⟩
    have e3 : massM (mEnded (mShelf M D) (M.2.2.1 ++ ts)) = (M.2.2.1 ++ ts).length + sumL (fun i => (M.2.2.2.1 i).2.2.2.2.1.length) (List.range 8) := rfl
    have e4 : massM M = M.2.2.1.length + sumL (fun i => (M.2.2.2.1 i).2.2.2.2.1.length) (List.range 8) := rfl
    rw [List.length_append] at e3
    omega
theorem WfM.kG {D ts : List En} {gv : Bool} {t : Nat} (h : WfM M c d) (hi : i < 8) (hD : EnOk M.2.2.2.2.2.2 M.1 D) (hts : ChOk M.2.2.2.2.2.2 (M.2.2.2.1 i).1 ts) (hl : ts.length ≤ 48) (hc : c + 1 ≤ 1000) : WfM (keepG M i D ts gv t ln) (c + 1) (d + 1) := by
  unfold keepG
  have hk := h.kM hi hD hts hl
  have e : (keepM M i D ts).2.2.2.2.2.2 = M.2.2.2.2.2.2 := by
    unfold keepM
    split <;> rfl
  split
  · have := hk.give (t := t) (n := ln) hc
    rw [e] at this
    exact this
  · exact hk.mono (by omega) (Nat.le_refl _)
end
