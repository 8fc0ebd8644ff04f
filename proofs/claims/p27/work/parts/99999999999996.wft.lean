/-! what holds at all times is kept by tables and transactions (by hand) -/
section
variable {M : HM} {c d i ln : Nat} {q : TQ}
theorem insAt_perm {as : List Nat} {k a : Nat} : (insAt as k a).Perm (a :: as) := by
  unfold insAt
  have h : (as.take k ++ a :: as.drop k).Perm (a :: (as.take k ++ as.drop k)) := List.perm_middle
  rw [List.take_append_drop] at h
  exact h
theorem TIq_new {ts : List TQ} {q' : TQ} {a : Nat} (h : ∃ q ∈ ts, q.1.1 = a) : TIq (ts ++ [q']) a = TIq ts a := by
  unfold TIq
  rw [List.find?_append]
  cases hf : ts.find? (fun q => decide (q.1.1 = a)) with
  | none =>
    obtain ⟨q, hq, e⟩ := h
    exact absurd (decide_eq_true e) (List.find?_eq_none.mp hf q hq)
  | some p => rfl
theorem SRq_new {ts : List TQ} {q' : TQ} {a : Nat} (h : ∃ q ∈ ts, q.1.1 = a) : SRq (ts ++ [q']) a = SRq ts a := by
  unfold SRq
  rw [List.find?_append]
  cases hf : ts.find? (fun q => decide (q.1.1 = a)) with
  | none =>
    obtain ⟨q, hq, e⟩ := h
    exact absurd (decide_eq_true e) (List.find?_eq_none.mp hf q hq)
  | some p => rfl
theorem mkL_cnt {TI : Nat → Tb} {lab nm : Int32} : ∀ (as : List Nat) (i o : Nat) (b : Bool) (p : Nat), (mkL TI lab nm as i o b p).1 = o + as.countP (fun a => decide ((TI a).2.1 = lab))
  | [], _, _, _, _ => rfl
  | a :: as, i, o, b, p => by
    unfold mkL
    rw [mkL_cnt as]
    by_cases h : (TI a).2.1 = lab
    · rw [if_pos h, List.countP_cons_of_pos (p := fun a => decide ((TI a).2.1 = lab)) (decide_eq_true h)]
      omega
    · rw [if_neg h, List.countP_cons_of_neg (p := fun a => decide ((TI a).2.1 = lab)) (fun h9 => h (of_decide_eq_true h9))]
/-- a new table that a house can take -/
def NewOk (M : HM) (lb : Int32) (q' : TQ) : Prop := (tbA q'.2.2.1 ∨ tbB q'.2.2.1) ∧ q'.2.2.1.2.1 = lb ∧ q'.2.2.2.2.1 = List.replicate 64 0 ∧ q'.2.1 = M.2.2.2.2.2.1 + 1 ∧ (∀ q ∈ M.2.2.2.2.2.2, ¬ q.1.1 = q'.1.1) ∧ ∀ r, some r ∈ q'.2.2.1.2.2.2.2 → ∃ p ∈ M.2.2.2.2.2.2, p.1.1 = r.1 ∧ p.2.1 = r.2 ∧ isB p.2.2.1.2.1 lb = true
theorem wf_mk {nm : Int32} {q' : TQ} (h : WfM M c d) (hi : i < 8) (hn : NewOk M (M.2.2.2.1 i).1 q') (hc : c + 1 ≤ 1000) : WfM (mkM M i nm q').2.2 (c + 1) (d + 1) := by
  have hM : WfM M (c + 1) (d + 1) := h.mono (by omega) (by omega)
  unfold mkM
  split
  · exact hM
  · rename_i hno
    have hlab := h.lab hi
    obtain ⟨n1, n2, n3, n4, n5, n6⟩ := hn
    obtain ⟨h1, h2, ⟨md, m1, m2, m3, m4⟩, h4, h5, h6, h7, h8, h9⟩ := h
    have hcnt : M.1.countP (fun a => decide ((TIq M.2.2.2.2.2.2 a).2.1 = (M.2.2.2.1 i).1)) < 3 := by
      have e := mkL_cnt (TI := TIq M.2.2.2.2.2.2) (lab := (M.2.2.2.1 i).1) (nm := nm) M.1 0 0 false 0
      rw [Nat.zero_add] at e
      rw [← e]
      exact Nat.not_le.mp (fun h9 => hno (Or.inr (Or.inl h9)))
    have hsub : ∀ q ∈ M.2.2.2.2.2.2, q ∈ M.2.2.2.2.2.2 ++ [q'] := fun q hq => List.mem_append_left _ hq
    have hst : ∀ a ∈ M.1, a ∈ insAt M.1 (mkR M i nm).2.2 q'.1.1 := fun a ha => insAt_perm.mem_iff.mpr (List.mem_cons_of_mem _ ha)
    have hTn : TIq (M.2.2.2.2.2.2 ++ [q']) q'.1.1 = q'.2.2.1 := by
      unfold TIq
      rw [List.find?_append, List.find?_eq_none.mpr (fun q hq h9 => n5 q hq (of_decide_eq_true h9))]
      rw [show List.find? (fun q : TQ => decide (q.1.1 = q'.1.1)) [q'] = some q' from by simp]
      rfl
    refine WfM.mono (c := c + 1) (d := d) ⟨fun a ha => ?_, fun q hq => ?_, ⟨md + 1, ?_, by omega, fun q hq => ?_, fun p hp q hq e => ?_⟩, ?_, fun l => ?_, (h6.std hst).ts hsub, fun j hj => (h7 j hj).of (fun es he => (he.std hst).ts hsub) (fun lb cs he => he.ts hsub) (Nat.le_refl _), h8, h9⟩ (Nat.le_refl _) (by omega)
    · rcases List.mem_cons.mp (insAt_perm.mem_iff.mp ha) with e | e
      · exact ⟨q', List.mem_append_right _ (List.mem_singleton.mpr rfl), e.symm⟩
      · obtain ⟨q, hq, e9⟩ := h1 a e
        exact ⟨q, hsub q hq, e9⟩
    · rcases List.mem_append.mp hq with e | e
      · exact h2 q e
      · rw [List.mem_singleton.mp e]; exact n1
    · show M.2.2.2.2.2.1 + 1 = _
      rw [m1, iN_s]
    · rcases List.mem_append.mp hq with e | e
      · obtain ⟨a1, a2, a3, ⟨m, b1, b2, b3⟩, a5⟩ := m3 q e
        refine ⟨a1, a2, fun n x hx => by obtain ⟨m, e1, e2⟩ := a3 n x hx; exact ⟨m, by omega, e2⟩, ⟨m, b1, by omega, b3⟩, fun r hr => ?_⟩
        obtain ⟨p, hp, p1⟩ := a5 r hr
        exact ⟨p, hsub p hp, p1⟩
      · rw [List.mem_singleton.mp e]
        refine ⟨by rw [n2]; exact hlab, by rw [n3]; exact List.length_replicate, fun n x hx => ?_, ⟨md + 1, by omega, Nat.le_refl _, by rw [n4, m1, iN_s]⟩, fun r hr => ?_⟩
        · rw [n3] at hx
          exact ⟨0, Nat.zero_le _, List.eq_of_mem_replicate (List.mem_of_getElem? hx)⟩
        · obtain ⟨p, hp, p1, p2, p3⟩ := n6 r hr
          obtain ⟨a1, a2, a3, ⟨m, b1, b2, b3⟩, a5⟩ := m3 p hp
          refine ⟨p, hsub p hp, p1, p2, by rw [n2]; exact p3, ?_⟩
          rw [b3, n4, m1, iN_s]
          exact (iN_lt (by omega) (by omega)).mpr (by omega)
    · have key : ∀ p ∈ M.2.2.2.2.2.2, ¬ (p.2.1 = q'.2.1 ∨ p.1.1 = q'.1.1) := fun p hp h9 => by
        rcases h9 with h9 | h9
        · obtain ⟨a1, a2, a3, ⟨m, b1, b2, b3⟩, a5⟩ := m3 p hp
          rw [b3, n4, m1, iN_s] at h9
          have := (iN_eq (by omega) (by omega)).mp h9
          omega
        · exact n5 p hp h9
      rcases List.mem_append.mp hp with e1 | e1 <;> rcases List.mem_append.mp hq with e2 | e2
      · exact m4 p e1 q e2 e
      · rw [List.mem_singleton.mp e2] at e
        exact absurd e (key p e1)
      · rw [List.mem_singleton.mp e1] at e
        exact absurd (e.elim (fun h => Or.inl h.symm) (fun h => Or.inr h.symm)) (key q e2)
      · rw [List.mem_singleton.mp e1, List.mem_singleton.mp e2]
    · show (insAt M.1 (mkR M i nm).2.2 q'.1.1).Nodup
      refine insAt_perm.nodup_iff.mpr (List.nodup_cons.mpr ⟨fun h9 => ?_, h4⟩)
      obtain ⟨q, hq, e⟩ := h1 _ h9
      exact n5 q hq e
    · show (insAt M.1 (mkR M i nm).2.2 q'.1.1).countP (fun a => decide ((TIq (M.2.2.2.2.2.2 ++ [q']) a).2.1 = l)) ≤ 3
      rw [insAt_perm.countP_eq, List.countP_cons, List.countP_congr (q := fun a => decide ((TIq M.2.2.2.2.2.2 a).2.1 = l)) (fun a ha => by rw [TIq_new (h1 a ha)])]
      by_cases e : q'.2.2.1.2.1 = l
      · rw [n2] at e
        rw [← e]
        split <;> omega
      · rw [if_neg (fun h9 => e (by rw [hTn] at h9; exact of_decide_eq_true h9))]
        exact h5 l
theorem drF_mem {ts : List TQ} {sr : Int32} {as : List Nat} {a : Nat} (h : a ∈ as) (hn : ¬ SRq ts a = sr) : a ∈ drF ts sr as := List.mem_filter.mpr ⟨h, by rw [decide_eq_false hn]; rfl⟩
theorem SRq_at9 {ts : List TQ} (hu : ∀ p ∈ ts, ∀ q ∈ ts, p.1.1 = q.1.1 → p = q) {q : TQ} (hq : q ∈ ts) : SRq ts q.1.1 = q.2.1 := by
  unfold SRq
  cases h : ts.find? (fun p => decide (p.1.1 = q.1.1)) with
  | none => exact absurd (decide_eq_true (rfl : q.1.1 = q.1.1)) (List.find?_eq_none.mp h q hq)
  | some p =>
    have h1 := List.find?_some h
    have h2 := List.mem_of_find?_eq_some h
    rw [hu p h2 q hq (of_decide_eq_true h1)]
theorem EnOk.drp {ts : List TQ} {st : List Nat} {es : List En} {sr : Int32} (h : EnOk ts st es) (hu : ∀ p ∈ ts, ∀ q ∈ ts, p.1.1 = q.1.1 → p = q) : EnOk ts (drF ts sr st) (dropE es sr) := by
  refine ⟨h.1.filter _, fun e he => ?_, fun s lb => Nat.le_trans (List.Sublist.countP_le List.filter_sublist) (h.2.2 s lb)⟩
  obtain ⟨h1, h2⟩ := List.mem_filter.mp he
  obtain ⟨⟨q, hq, q1, q2, q3⟩, b, c⟩ := h.2.1 e h1
  refine ⟨⟨q, hq, q1, q2, q3⟩, drF_mem b (fun h9 => ?_), c⟩
  rw [← q1, SRq_at9 hu hq, q2] at h9
  rw [decide_eq_true h9] at h2
  cases h2
theorem wf_dr (h : WfM M c d) (hi : i < 8) : WfM (drM M i q).2.2 (c + 1) (d + 1) := by
  have hM : WfM M (c + 1) (d + 1) := h.mono (by omega) (by omega)
  unfold drM
  split
  · split
    · exact hM
    · have h9 : WfM (mTabs M (dropT M.2.2.2.2.2.2 q.1.1)) c d := h.tabs (dropT_ok q.1.1) (Nat.le_refl _) (fun p hp => by
        obtain ⟨h1, h2, ⟨md, m1, m2, m3, m4⟩, -⟩ := h
        obtain ⟨a1, a2, a3, -⟩ := m3 p hp
        by_cases e : p.1.1 = q.1.1
        · rw [if_pos e]; exact ⟨a2, a3⟩
        · rw [if_neg e]; exact ⟨a2, a3⟩)
      have hu := h9.uq
      have hu1 : ∀ p ∈ dropT M.2.2.2.2.2.2 q.1.1, ∀ q9 ∈ dropT M.2.2.2.2.2.2 q.1.1, p.1.1 = q9.1.1 → p = q9 := fun p hp q9 hq9 e => hu p hp q9 hq9 (Or.inr e)
      obtain ⟨h1, h2, ⟨md, m1, m2, m3, m4⟩, h4, h5, h6, h7, h8, h10⟩ := h9
      have hsb : (drF (dropT M.2.2.2.2.2.2 q.1.1) q.2.1 M.1).Sublist M.1 := List.filter_sublist
      refine WfM.mono (c := c) (d := d) ⟨fun a ha => h1 a (hsb.subset ha), h2, ⟨md, m1, m2, m3, m4⟩, h4.sublist hsb, fun l => Nat.le_trans hsb.countP_le (h5 l), h6.drp hu1, fun j hj => ?_, ?_, h10⟩ (by omega) (by omega)
      · have e : (drpM M q).2.2.2.1 j = sDrp (M.2.2.2.1 j) q.2.1 := if_pos ⟨Nat.zero_le _, hj⟩
        have e2 : SesOk (drpM M q) (sDrp (M.2.2.2.1 j) q.2.1) := by
          obtain ⟨s1, s2, s3, s4, s5⟩ := h7 j hj
          refine ⟨s1, s2.drp hu1, fun hb => ?_, s4, s5⟩
          obtain ⟨t1, t2⟩ := s3 hb
          have t1' : (M.2.2.2.1 j).2.2.2.1 = [] := t1
          exact ⟨by show dropE (M.2.2.2.1 j).2.2.2.1 q.2.1 = []; rw [t1']; rfl, t2⟩
        rw [← e] at e2
        exact e2
      · refine Nat.le_trans (Nat.le_of_eq ?_) h8
        show _ + sumL (fun j => ((drpM M q).2.2.2.1 j).2.2.2.2.1.length) (List.range 8) = _ + sumL (fun i => (M.2.2.2.1 i).2.2.2.2.1.length) (List.range 8)
        rw [sum8s (h := fun i => (M.2.2.2.1 i).2.2.2.2.1.length) (fun j => by
          show (if 0 ≤ j ∧ j < 8 then sDrp (M.2.2.2.1 j) q.2.1 else M.2.2.2.1 j).2.2.2.2.1.length = _
          split <;> rfl)]
        rfl
  · exact hM
theorem wf_beg (h : WfM M c d) (hi : i < 8) (hb : (M.2.2.2.1 i).2.2.1 = false) : WfM (mS M i (sBeg (M.2.2.2.1 i) M.2.1 M.2.2.1.length)) c d := by
  obtain ⟨a1, a2, a3, a4, a5⟩ := h.2.2.2.2.2.2.1 i hi
  exact h.ses hi (s := sBeg (M.2.2.2.1 i) M.2.1 M.2.2.1.length) ⟨a1, h.2.2.2.2.2.1, fun e => (Bool.noConfusion (show true = false from e)), a4, Nat.le_refl _⟩ (Nat.le_refl _)
theorem wf_giv (h : WfM M c d) (hi : i < 8) : WfM (mS M i (sGiv (M.2.2.2.1 i))) c d := by
  obtain ⟨a1, a2, a3, a4, a5⟩ := h.2.2.2.2.2.2.1 i hi
  exact h.ses hi (s := sGiv (M.2.2.2.1 i)) ⟨a1, EnOk.nil, fun _ => ⟨rfl, rfl⟩, fun e he => (List.not_mem_nil he).elim, a5⟩ (by show 0 + 48 * d ≤ _; omega)
theorem wf_ent {lb : Int32} (h : WfM M c d) (hi : i < 8) (hl : isL4 lb = true) : WfM (mS M i (lb, 0, false, [], [], (M.2.2.2.1 i).2.2.2.2.2.1, (0, 0, []), 0, (M.2.2.2.1 i).2.2.2.2.2.2.2.2)) c d := by
  obtain ⟨a1, a2, a3, a4, a5⟩ := h.2.2.2.2.2.2.1 i hi
  exact h.ses hi ⟨hl, EnOk.nil, fun _ => ⟨rfl, rfl⟩, fun e he => (List.not_mem_nil he).elim, a5⟩ (by show 0 + 48 * d ≤ _; omega)
theorem endR_p {M : HM} {i : Nat} (h : endR M i = 0) : mgP3 (bringAll M.2.1 (M.2.2.2.1 i).2.2.2.1 (M.2.2.2.1 i).2.2.2.2.1) (M.2.2.2.1 i).2.2.2.2.1 (M.2.2.2.1 i).1 = false := by
  unfold endR mergeC at h
  by_cases h1 : mgP1 (DRq M.2.2.2.2.2.2) (M.2.2.2.1 i).2.2.2.2.1 = true
  · rw [if_pos h1] at h
    exact absurd h (by decide)
  rw [if_neg h1] at h
  by_cases h2 : mgP2 (M.2.2.2.1 i).2.2.2.2.1 M.2.2.1 (M.2.2.2.1 i).2.2.2.2.2.1 = true
  · rw [if_pos h2] at h
    exact absurd h (by decide)
  rw [if_neg h2] at h
  by_cases h3 : mgP3 (bringAll M.2.1 (M.2.2.2.1 i).2.2.2.1 (M.2.2.2.1 i).2.2.2.2.1) (M.2.2.2.1 i).2.2.2.2.1 (M.2.2.2.1 i).1 = true
  · rw [if_pos h3] at h
    exact absurd h (by decide)
  · exact Bool.eq_false_iff.mpr h3
theorem wf_end0 {t : List Int32} (h : WfM M c d) (hi : i < 8) (he : endR M i = 0) (ht : t.length = 256) : WfM (mTally (mEnded (mShelf (mS M i (sGiv (M.2.2.2.1 i))) (bringAll M.2.1 (M.2.2.2.1 i).2.2.2.1 (M.2.2.2.1 i).2.2.2.2.1)) (M.2.2.1 ++ (M.2.2.2.1 i).2.2.2.2.1)) t) c d := by
  have hg := wf_giv h hi
  obtain ⟨a1, a2, a3, a4, a5⟩ := h.2.2.2.2.2.2.1 i hi
  have h6 := h.2.2.2.2.2.1
  have hp3 := endR_p he
  have hD : EnOk M.2.2.2.2.2.2 M.1 (bringAll M.2.1 (M.2.2.2.1 i).2.2.2.1 (M.2.2.2.1 i).2.2.2.2.1) := by
    refine ⟨bringAll_srt _ _ h6.1, fun e he => ?_, fun sr lb => ?_⟩
    · rcases mem_brAll _ _ e he with h9 | h9
      · exact h6.2.1 e h9
      · exact a2.2.1 e h9
    · by_cases hz : ∃ e ∈ (M.2.2.2.1 i).2.2.2.2.1, e.1 = sr ∧ e.2.2.1 = lb
      · obtain ⟨e, he, e1, e2⟩ := hz
        have e3 := (a4 e he).1
        unfold mgP3 at hp3
        have h9 := List.any_eq_false.mp hp3 e he
        rw [← e1, ← e2, e3]
        have h8 : ¬ 12 < cntE (bringAll M.2.1 (M.2.2.2.1 i).2.2.2.1 (M.2.2.2.1 i).2.2.2.2.1) e.1 (M.2.2.2.1 i).1 := fun h7 => h9 (decide_eq_true h7)
        omega
      · exact Nat.le_trans (cnt_brAll _ _ (fun e he h9 => hz ⟨e, he, h9⟩)) (h6.2.2 sr lb)
  obtain ⟨h1, h2, h3, h4, h5, _, h7, h8, h9⟩ := hg
  refine ⟨h1, h2, h3, h4, h5, hD, fun j hj => (h7 j hj).of (fun es he => he) (fun lb cs he => he) (by show _ ≤ (M.2.2.1 ++ (M.2.2.2.1 i).2.2.2.2.1).length; rw [List.length_append]; exact Nat.le_add_right _ _), ?_, ht⟩
  have hm := h.2.2.2.2.2.2.2.1
  have e := sum8e (h := fun i => (M.2.2.2.1 i).2.2.2.2.1.length) (h' := fun j => ((mS M i (sGiv (M.2.2.2.1 i))).2.2.2.1 j).2.2.2.2.1.length) hi (fun j hj => by show ((mS M i (sGiv (M.2.2.2.1 i))).2.2.2.1 j).2.2.2.2.1.length = _; rw [mS_ne hj])
  have e2 : ((mS M i (sGiv (M.2.2.2.1 i))).2.2.2.1 i).2.2.2.2.1.length = 0 := by rw [mS_at]; rfl
  have e3 : massM (mTally (mEnded (mShelf (mS M i (sGiv (M.2.2.2.1 i))) (bringAll M.2.1 (M.2.2.2.1 i).2.2.2.1 (M.2.2.2.1 i).2.2.2.2.1)) (M.2.2.1 ++ (M.2.2.2.1 i).2.2.2.2.1)) t) = (M.2.2.1 ++ (M.2.2.2.1 i).2.2.2.2.1).length + sumL (fun j => ((mS M i (sGiv (M.2.2.2.1 i))).2.2.2.1 j).2.2.2.2.1.length) (List.range 8) := rfl
  have e4 : massM M = M.2.2.1.length + sumL (fun i => (M.2.2.2.1 i).2.2.2.2.1.length) (List.range 8) := rfl
  rw [List.length_append] at e3
  omega
theorem wf_end1 {t : List Int32} {r : Int32} (h : WfM M c d) (hi : i < 8) (ht : t.length = 256) : WfM (mTally (mS M i (sGiv (sRea (M.2.2.2.1 i) r))) t) c d := by
  obtain ⟨a1, a2, a3, a4, a5⟩ := h.2.2.2.2.2.2.1 i hi
  exact (h.ses hi (s := sGiv (sRea (M.2.2.2.1 i) r)) (d' := d) ⟨a1, EnOk.nil, fun _ => ⟨rfl, rfl⟩, fun e he => (List.not_mem_nil he).elim, a5⟩ (by show 0 + 48 * d ≤ _; omega)).tally ht
end
