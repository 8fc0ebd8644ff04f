/-! two houses that are alike: lower, drop (by hand) -/
section
variable {w : Int32 → Bool} {f : Int32 → Int32} {g : Nat → Nat} {M N : HM} {c d c' d' i ln : Nat} {lb nm : Int32} {q q' : TQ} {SP : Int32 → Prop} {TI UI : Nat → Tb}
theorem Rel.shl {D ts D' ts' : List En} (R : Rel w f g M N) (hM : WfM M c d) (hN : WfM N c' d') (hD : D' = phi w f g D) (hts : ts' = phi w f g ts) : Rel w f g (mEnded (mShelf M D) (M.2.2.1 ++ ts)) (mEnded (mShelf N D') (N.2.2.1 ++ ts')) := by
  obtain ⟨h1, h2, h3, h4, h5, h6⟩ := R
  refine ⟨h1, h2, h3, hD, fun j hj => ?_, h6⟩
  obtain ⟨u1, u2⟩ := h5 j hj
  refine ⟨u1, fun hlj => ?_⟩
  obtain ⟨a1, a2, a3, a4, a5⟩ := u2 hlj
  refine ⟨a1, a2, a3, a4, fun hbj => ?_⟩
  have l1 := (hM.2.2.2.2.2.2.1 j hj).2.2.2.2
  have l2 := (hN.2.2.2.2.2.2.1 j hj).2.2.2.2
  have a5 := a5 hbj
  show (N.2.2.1 ++ ts').drop (N.2.2.2.1 j).2.2.2.2.2.1 = phi w f g ((M.2.2.1 ++ ts).drop (M.2.2.2.1 j).2.2.2.2.2.1)
  rw [List.drop_append_of_le_length l2, List.drop_append_of_le_length l1, phi_app, hts]
  exact congrArg (fun l => l ++ phi w f g ts) a5
theorem lowO_some {D : List En} {key other : Int32} {e : En} (h : lowO D q key other lb = some e) : lowC key other lb q.2.2.1.2.1 = 0 ∧ e.1 = q.2.1 ∧ e.2.2.1 = other ∧ e.2.2.2.2.2 = q.1.1 := by
  unfold lowO at h
  by_cases hz : lowC key other lb q.2.2.1.2.1 = 0
  · rw [if_pos hz] at h
    cases hf : findE D (q.2.1, key, lb) with
    | none => rw [hf] at h; cases h
    | some x =>
      rw [hf] at h
      have h' : (if x.2.2.2.1 = true then none else some (q.2.1, key, other, false, x.2.2.2.2.1, q.1.1)) = some e := h
      split at h'
      · cases h'
      · cases h'
        exact ⟨hz, rfl, rfl, rfl⟩
  · rw [if_neg hz] at h
    cases h
theorem lowC_0 {key other tl : Int32} (h : lowC key other lb tl = 0) : isB other lb = true ∧ isB tl other = true := by
  unfold lowC at h
  split at h
  · exact absurd h (by decide)
  · split at h
    · rename_i hb
      simp only [Bool.and_eq_true] at hb
      exact hb.2.2
    · exact absurd h (by decide)
theorem low_low (hw : ∀ l lb, w lb = true → isB l lb = true → w l = true) (R : Rel w f g M N) (hM : WfM M c d) (hN : WfM N c' d') (hi : i < 8) (hl : w (M.2.2.2.1 i).1 = true) (hq : q ∈ M.2.2.2.2.2.2) (hb : isB q.2.2.1.2.1 (M.2.2.2.1 i).1 = true) (k : TqR w f g (SPm w M) q q') {key other : Int32} : RelR w f g (lowM M i q key other) (lowM N i q' key other) := by
  have lq : w q.2.2.1.2.1 = true := hw _ _ hl hb
  have hvw := R.vw hi hl
  have hlabN := R.lab hi
  have hLS := R.ls hw hM hN (hM.vw hi).ex
  have hSq : SPm w M q.2.1 := ⟨q, hq, rfl, lq⟩
  have hO : lowO (vwE N i) q' key other (N.2.2.2.1 i).1 = (lowO (vwE M i) q key other (M.2.2.2.1 i).1).map (mapE f g) := by
    unfold lowO
    rw [hvw, hlabN, k.2.1, k.2.2.2.1, k.1]
    by_cases hz : lowC key other (M.2.2.2.1 i).1 q.2.2.1.2.1 = 0
    · rw [if_pos hz, if_pos hz, phi_find R.1 hLS hl hSq]
      cases findE (vwE M i) (q.2.1, key, (M.2.2.2.1 i).1) with
      | none => rfl
      | some x =>
        show (if x.2.2.2.1 = true then none else some (f q.2.1, key, other, false, x.2.2.2.2.1, g q.1.1)) = Option.map (mapE f g) (if x.2.2.2.1 = true then none else some (q.2.1, key, other, false, x.2.2.2.2.1, q.1.1))
        by_cases hx : x.2.2.2.1 = true
        · rw [if_pos hx, if_pos hx]; rfl
        · rw [if_neg hx, if_neg hx]; rfl
    · rw [if_neg hz, if_neg hz]
      rfl
  have hlow : ∀ e, lowO (vwE M i) q key other (M.2.2.2.1 i).1 = some e → w e.2.2.1 = true ∧ SPm w M e.1 ∧ (∃ p ∈ M.2.2.2.2.2.2, p.1.1 = e.2.2.2.2.2 ∧ p.2.1 = e.1 ∧ isB p.2.2.1.2.1 e.2.2.1 = true) ∧ e.1 = q.2.1 ∧ e.2.2.1 = other := fun e he => by
    obtain ⟨e1, e2, e3, e4⟩ := lowO_some he
    obtain ⟨b1, b2⟩ := lowC_0 e1
    exact ⟨by rw [e3]; exact hw _ _ hl b1, by rw [e2]; exact hSq, ⟨q, hq, e4.symm, e2.symm, by rw [e3]; exact b2⟩, e2, e3⟩
  have hRc : lowRc (vwE N i) q' key other (N.2.2.2.1 i).1 = lowRc (vwE M i) q key other (M.2.2.2.1 i).1 := by
    unfold lowRc
    rw [hO]
    cases ho : lowO (vwE M i) q key other (M.2.2.2.1 i).1 with
    | none =>
      show (if lowC key other (N.2.2.2.1 i).1 q'.2.2.1.2.1 = 0 then (107 : Int32) else lowC key other (N.2.2.2.1 i).1 q'.2.2.1.2.1) = (if lowC key other (M.2.2.2.1 i).1 q.2.2.1.2.1 = 0 then 107 else lowC key other (M.2.2.2.1 i).1 q.2.2.1.2.1)
      rw [hlabN, k.2.2.2.1]
    | some e =>
      obtain ⟨e1, e2, e3, e4, e5⟩ := hlow e ho
      have hLD := R.ls hw hM hN (es := storeE (vwE M i) e) (fun x hx => by
        rcases mem_store hx with h9 | h9
        · rw [h9]; exact e3
        · exact (hM.vw hi).ex x h9)
      show (if 12 < cntE (storeE (vwE N i) (mapE f g e)) q'.2.1 other then (102 : Int32) else 0) = (if 12 < cntE (storeE (vwE M i) e) q.2.1 other then 102 else 0)
      rw [hvw, phi_store R.1 hLS e1 e2, k.2.1, phi_cnt R.1 hLD (by rw [← e5]; exact e1) hSq]
  unfold lowM
  rw [hRc, R.busy hi hl]
  by_cases hz : lowRc (vwE M i) q key other (M.2.2.2.1 i).1 = 0
  · rw [if_pos hz, if_pos hz]
    by_cases hbz : (M.2.2.2.1 i).2.2.1 = true
    · rw [if_pos hbz, if_pos hbz]
      exact ⟨rfl, rfl, R⟩
    · rw [if_neg hbz, if_neg hbz]
      refine ⟨rfl, rfl, ?_⟩
      rw [hO]
      cases ho : lowO (vwE M i) q key other (M.2.2.2.1 i).1 with
      | none => exact R.shl hM hN (ts := []) (ts' := []) hvw rfl
      | some e =>
        obtain ⟨e1, e2, e3, e4, e5⟩ := hlow e ho
        exact R.shl hM hN (ts := [e]) (ts' := [mapE f g e]) (by show storeE (vwE N i) (mapE f g e) = phi w f g (storeE (vwE M i) e); rw [hvw, phi_store R.1 hLS e1 e2]) (by rw [phi_low (fun x hx => by rw [List.mem_singleton.mp hx]; exact e1)]; rfl)
  · rw [if_neg hz, if_neg hz]
    exact ⟨rfl, rfl, R⟩
theorem Rel.std9 {s s' : List Nat} (R : Rel w f g M N) (h : s' = (s.filter (fun a => w (TIq M.2.2.2.2.2.2 a).2.1)).map g) : Rel w f g (mStd M s) (mStd N s') := by
  obtain ⟨h1, h2, h3, h4, h5, h6⟩ := R
  exact ⟨h1, h2, h, h4, h5, h6⟩
theorem Rel.shf {D D' : List En} (R : Rel w f g M N) (h : D' = phi w f g D) : Rel w f g (mShelf M D) (mShelf N D') := by
  obtain ⟨h1, h2, h3, h4, h5, h6⟩ := R
  exact ⟨h1, h2, h3, h, h5, h6⟩
theorem Rel.mdr {sr sr' : Int32} (R : Rel w f g M N) (h : ∀ i, i < 8 → w (M.2.2.2.1 i).1 = true → dropE (N.2.2.2.1 i).2.2.2.1 sr' = phi w f g (dropE (M.2.2.2.1 i).2.2.2.1 sr)) : Rel w f g (mDrp M sr 0) (mDrp N sr' 0) := by
  obtain ⟨h1, h2, h3, h4, h5, h6⟩ := R
  refine ⟨h1, h2, h3, h4, fun j hj => ?_, h6⟩
  have e : (mDrp M sr 0).2.2.2.1 j = sDrp (M.2.2.2.1 j) sr := if_pos ⟨Nat.zero_le _, hj⟩
  have e' : (mDrp N sr' 0).2.2.2.1 j = sDrp (N.2.2.2.1 j) sr' := if_pos ⟨Nat.zero_le _, hj⟩
  rw [e, e']
  obtain ⟨u1, u2⟩ := h5 j hj
  refine ⟨u1, fun hlj => ?_⟩
  obtain ⟨a1, a2, a3, a4, a5⟩ := u2 hlj
  exact ⟨a1, h j hj hlj, a3, a4, a5⟩
theorem Rel.mdrH {sr : Int32} (R : Rel w f g M N) (h : ∀ i, i < 8 → w (M.2.2.2.1 i).1 = true → phi w f g (dropE (M.2.2.2.1 i).2.2.2.1 sr) = phi w f g (M.2.2.2.1 i).2.2.2.1) : Rel w f g (mDrp M sr 0) N := by
  obtain ⟨h1, h2, h3, h4, h5, h6⟩ := R
  refine ⟨h1, h2, h3, h4, fun j hj => ?_, h6⟩
  have e : (mDrp M sr 0).2.2.2.1 j = sDrp (M.2.2.2.1 j) sr := if_pos ⟨Nat.zero_le _, hj⟩
  rw [e]
  obtain ⟨u1, u2⟩ := h5 j hj
  refine ⟨u1, fun hlj => ?_⟩
  obtain ⟨a1, a2, a3, a4, a5⟩ := u2 hlj
  exact ⟨a1, a2.trans (h j hj hlj).symm, a3, a4, a5⟩
theorem drF_low {ts ts' : List TQ} {sr sr' : Int32} {as : List Nat} {p : Nat → Bool} (h : ∀ a ∈ as, p a = true → (SRq ts' (g a) = sr' ↔ SRq ts a = sr)) : drF ts' sr' ((as.filter p).map g) = ((drF ts sr as).filter p).map g := by
  unfold drF
  rw [List.filter_map, List.filter_filter, List.filter_filter]
  refine congrArg (List.map g) (filter_congr9 (fun a ha => ?_))
  show ((!decide (SRq ts' (g a) = sr')) && p a) = (p a && !decide (SRq ts a = sr))
  by_cases hp : p a = true
  · rw [decide_eq_decide.mpr (h a ha hp), Bool.and_comm]
  · rw [Bool.eq_false_iff.mpr hp, Bool.and_false, Bool.false_and]
theorem low_drp (hw : ∀ l lb, w lb = true → isB l lb = true → w l = true) (R : Rel w f g M N) (hM : WfM M c d) (hN : WfM N c' d') (hq : q ∈ M.2.2.2.2.2.2) (lq : w q.2.2.1.2.1 = true) (hq' : q' ∈ N.2.2.2.2.2.2) (k : TqR w f g (SPm w M) q q') : Rel w f g (drpM M q) (drpM N q') := by
  have hSq : SPm w M q.2.1 := ⟨q, hq, rfl, lq⟩
  have R1 : Rel w f g (mTabs M (dropT M.2.2.2.2.2.2 q.1.1)) (mTabs N (dropT N.2.2.2.2.2.2 q'.1.1)) := R.tabs (dropT_ok _) (dropT_ok _) (fun p hp lp p' hp' k9 => by
    by_cases e : p.1.1 = q.1.1
    · have e2 : p'.1.1 = q'.1.1 := by rw [k9.1, k.1, e]
      rw [if_pos e, if_pos e2]
      obtain ⟨k1, k2, k3, k4, k5, k6, k7, k8, k10⟩ := k9
      exact ⟨k1, k2, k3, k4, k5, k6, k7, k8, rfl⟩
    · have e2 : ¬ p'.1.1 = q'.1.1 := fun h9 => e (by
        rw [k9.1, k.1] at h9
        rw [R.inj hM hN hp hq lp lq h9])
      rw [if_neg e, if_neg e2]
      exact k9)
  have hu : ∀ p ∈ M.2.2.2.2.2.2, ∀ q ∈ M.2.2.2.2.2.2, p.1.1 = q.1.1 → p = q := fun p hp q hq e => hM.uq p hp q hq (Or.inr e)
  have sM : ∀ a, SRq (dropT M.2.2.2.2.2.2 q.1.1) a = SRq M.2.2.2.2.2.2 a := fun a => SRq_map (fun q9 => congrArg Prod.fst (dropT_ok q.1.1 q9).1) (fun q9 => (dropT_ok q.1.1 q9).2.1) a
  have sN : ∀ a, SRq (dropT N.2.2.2.2.2.2 q'.1.1) a = SRq N.2.2.2.2.2.2 a := fun a => SRq_map (fun q9 => congrArg Prod.fst (dropT_ok q'.1.1 q9).1) (fun q9 => (dropT_ok q'.1.1 q9).2.1) a
  have tM : ∀ a, TIq (dropT M.2.2.2.2.2.2 q.1.1) a = TIq M.2.2.2.2.2.2 a := fun a => TIq_map (fun q9 => congrArg Prod.fst (dropT_ok q.1.1 q9).1) (fun q9 => (dropT_ok q.1.1 q9).2.2) a
  have R2 : Rel w f g (mStd (mTabs M (dropT M.2.2.2.2.2.2 q.1.1)) (drF (dropT M.2.2.2.2.2.2 q.1.1) q.2.1 M.1)) (mStd (mTabs N (dropT N.2.2.2.2.2.2 q'.1.1)) (drF (dropT N.2.2.2.2.2.2 q'.1.1) q'.2.1 N.1)) := R1.std9 (by
    rw [R.2.2.1]
    show _ = ((drF (dropT M.2.2.2.2.2.2 q.1.1) q.2.1 M.1).filter (fun a => w (TIq (dropT M.2.2.2.2.2.2 q.1.1) a).2.1)).map g
    rw [show (fun a => w (TIq (dropT M.2.2.2.2.2.2 q.1.1) a).2.1) = (fun a => w (TIq M.2.2.2.2.2.2 a).2.1) from funext (fun a => by rw [tM])]
    refine drF_low (fun a ha hp => ?_)
    obtain ⟨p, hp9, e⟩ := hM.1 a ha
    have hp : w (TIq M.2.2.2.2.2.2 a).2.1 = true := hp
    rw [← e, TIq_at9 hu hp9] at hp
    obtain ⟨p', hp', k1, k2, k3⟩ := R.tb hN hp9 hp
    rw [sN, sM, ← e, k3, SRq_at9 hu hp9, k1.2.1, k.2.1]
    exact (R.1 p.2.1 q.2.1 ⟨p, hp9, rfl, hp⟩ hSq).2)
  have R3 : Rel w f g (mShelf (mStd (mTabs M (dropT M.2.2.2.2.2.2 q.1.1)) (drF (dropT M.2.2.2.2.2.2 q.1.1) q.2.1 M.1)) (dropE M.2.1 q.2.1)) (mShelf (mStd (mTabs N (dropT N.2.2.2.2.2.2 q'.1.1)) (drF (dropT N.2.2.2.2.2.2 q'.1.1) q'.2.1 N.1)) (dropE N.2.1 q'.2.1)) := R2.shf (by
    rw [R.2.2.2.1, k.2.1]
    exact phi_drop R.1 (R.ls hw hM hN hM.2.2.2.2.2.1.ex) hSq)
  refine R3.mdr (fun j hj hlj => ?_)
  show dropE (N.2.2.2.1 j).2.2.2.1 q'.2.1 = phi w f g (dropE (M.2.2.2.1 j).2.2.2.1 q.2.1)
  obtain ⟨u1, u2⟩ := R.2.2.2.2.1 j hj
  obtain ⟨a1, a2, a3, a4, a5⟩ := u2 hlj
  rw [a2, k.2.1]
  exact phi_drop R.1 (R.ls hw hM hN (hM.2.2.2.2.2.2.1 j hj).2.1.ex) hSq
theorem hi_drp (hw : ∀ l lb, w lb = true → isB l lb = true → w l = true) (R : Rel w f g M N) (hM : WfM M c d) (hq : q ∈ M.2.2.2.2.2.2) (lq : w q.2.2.1.2.1 = false) : Rel w f g (drpM M q) N := by
  have hne : ∀ p ∈ M.2.2.2.2.2.2, w p.2.2.1.2.1 = true → ¬ p.2.1 = q.2.1 := fun p hp lp e => by
    rw [hM.uq p hp q hq (Or.inl e), lq] at lp
    cases lp
  have R1 : Rel w f g (mTabs M (dropT M.2.2.2.2.2.2 q.1.1)) N := R.tabsH (dropT_ok _) (fun p hp lp p' hp' k9 => by
    have e : ¬ p.1.1 = q.1.1 := fun e9 => by
      rw [hM.uq p hp q hq (Or.inr e9), lq] at lp
      cases lp
    rw [if_neg e]
    exact k9)
  have hu : ∀ p ∈ M.2.2.2.2.2.2, ∀ q ∈ M.2.2.2.2.2.2, p.1.1 = q.1.1 → p = q := fun p hp q hq e => hM.uq p hp q hq (Or.inr e)
  have sM : ∀ a, SRq (dropT M.2.2.2.2.2.2 q.1.1) a = SRq M.2.2.2.2.2.2 a := fun a => SRq_map (fun q9 => congrArg Prod.fst (dropT_ok q.1.1 q9).1) (fun q9 => (dropT_ok q.1.1 q9).2.1) a
  have tM : ∀ a, TIq (dropT M.2.2.2.2.2.2 q.1.1) a = TIq M.2.2.2.2.2.2 a := fun a => TIq_map (fun q9 => congrArg Prod.fst (dropT_ok q.1.1 q9).1) (fun q9 => (dropT_ok q.1.1 q9).2.2) a
  have hE : ∀ {es : List En}, EnOk M.2.2.2.2.2.2 M.1 es → phi w f g (dropE es q.2.1) = phi w f g es := fun {es} he => phi_drop_hi (fun e he9 hle e9 => by
    obtain ⟨p, hp, p1, p2, p3⟩ := he.ex e he9
    exact hne p hp (hw _ _ hle p3) (p2.trans e9))
  obtain ⟨h1, h2, h3, h4, h5, h6⟩ := R1
  have R2 : Rel w f g (mShelf (mStd (mTabs M (dropT M.2.2.2.2.2.2 q.1.1)) (drF (dropT M.2.2.2.2.2.2 q.1.1) q.2.1 M.1)) (dropE M.2.1 q.2.1)) N := by
    refine ⟨h1, h2, h3.trans (congrArg (List.map g) ?_), h4.trans (hE hM.2.2.2.2.2.1).symm, h5, h6⟩
    show M.1.filter (fun a => w (TIq (dropT M.2.2.2.2.2.2 q.1.1) a).2.1) = (drF (dropT M.2.2.2.2.2.2 q.1.1) q.2.1 M.1).filter (fun a => w (TIq (dropT M.2.2.2.2.2.2 q.1.1) a).2.1)
    unfold drF
    rw [List.filter_filter]
    refine filter_congr9 (fun a ha => ?_)
    rw [tM, sM]
    obtain ⟨p, hp9, e⟩ := hM.1 a ha
    rw [← e, TIq_at9 hu hp9, SRq_at9 hu hp9]
    by_cases lp : w p.2.2.1.2.1 = true
    · rw [decide_eq_false (hne p hp9 lp), lp]
      rfl
    · rw [Bool.eq_false_iff.mpr lp, Bool.false_and]
  exact R2.mdrH (fun j hj hlj => hE (hM.2.2.2.2.2.2.1 j hj).2.1)
theorem low_dr (hw : ∀ l lb, w lb = true → isB l lb = true → w l = true) (R : Rel w f g M N) (hM : WfM M c d) (hN : WfM N c' d') (hi : i < 8) (hl : w (M.2.2.2.1 i).1 = true) (hq : q ∈ M.2.2.2.2.2.2) (hb : isB q.2.2.1.2.1 (M.2.2.2.1 i).1 = true) (hq' : q' ∈ N.2.2.2.2.2.2) (k : TqR w f g (SPm w M) q q') : RelR w f g (drM M i q) (drM N i q') := by
  unfold drM
  rw [k.2.2.2.1, R.lab hi, R.busy hi hl]
  by_cases hz : q.2.2.1.2.1 = (M.2.2.2.1 i).1
  · rw [if_pos hz, if_pos hz]
    by_cases hbz : (M.2.2.2.1 i).2.2.1 = true
    · rw [if_pos hbz, if_pos hbz]
      exact ⟨rfl, rfl, R⟩
    · rw [if_neg hbz, if_neg hbz]
      exact ⟨rfl, rfl, low_drp hw R hM hN hq (hw _ _ hl hb) hq' k⟩
  · rw [if_neg hz, if_neg hz]
    exact ⟨rfl, rfl, R⟩
theorem hi_dr (hw : ∀ l lb, w lb = true → isB l lb = true → w l = true) (R : Rel w f g M N) (hM : WfM M c d) (hl : w (M.2.2.2.1 i).1 = false) (hq : q ∈ M.2.2.2.2.2.2) : Rel w f g (drM M i q).2.2 N := by
  unfold drM
  split
  · rename_i hz
    split
    · exact R
    · exact hi_drp hw R hM hq (by rw [hz]; exact hl)
  · exact R
end
