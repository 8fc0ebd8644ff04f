/-! two houses that are alike: transactions, entering (by hand) -/
/-- what ended transactions changed is of the house's tables; the tables that stand are in order -/
def tLt (T U : Tb) : Bool := decide (T.1 < U.1) || (decide (T.1 = U.1) && decide (T.2.1 < U.2.1))
def WfE (M : HM) : Prop := ∀ e ∈ M.2.2.1, ∃ q ∈ M.2.2.2.2.2.2, q.1.1 = e.2.2.2.2.2 ∧ q.2.1 = e.1 ∧ isB q.2.2.1.2.1 e.2.2.1 = true
def WfS (M : HM) : Prop := M.1.Pairwise (fun a b => tLt (TIq M.2.2.2.2.2.2 b) (TIq M.2.2.2.2.2.2 a) = false)
section
variable {w : Int32 → Bool} {f : Int32 → Int32} {g : Nat → Nat} {M N : HM} {c d c' d' i ln : Nat} {lb nm : Int32} {SP : Int32 → Prop} {TI UI : Nat → Tb}
theorem phi_nil : phi w f g [] = [] := rfl
theorem Rel.beg (R : Rel w f g M N) (hi : i < 8) (hl : w (M.2.2.2.1 i).1 = true) : Rel w f g (mS M i (sBeg (M.2.2.2.1 i) M.2.1 M.2.2.1.length)) (mS N i (sBeg (N.2.2.2.1 i) N.2.1 N.2.2.1.length)) := by
  obtain ⟨s1, s2⟩ := R.2.2.2.2.1 i hi
  obtain ⟨b1, b2, b3, b4, b5⟩ := s2 hl
  refine R.ses ⟨s1, fun _ => ⟨rfl, R.2.2.2.1, b3, b4, fun _ => ?_⟩⟩
  show N.2.2.1.drop N.2.2.1.length = phi w f g (M.2.2.1.drop M.2.2.1.length)
  rw [List.drop_length, List.drop_length]
  rfl
theorem Rel.giv (R : Rel w f g M N) (hi : i < 8) : Rel w f g (mS M i (sGiv (M.2.2.2.1 i))) (mS N i (sGiv (N.2.2.2.1 i))) := by
  obtain ⟨s1, s2⟩ := R.2.2.2.2.1 i hi
  refine R.ses ⟨s1, fun hl => ?_⟩
  obtain ⟨b1, b2, b3, b4, b5⟩ := s2 hl
  exact ⟨rfl, rfl, rfl, b4, fun h => Bool.noConfusion (show false = true from h)⟩
theorem Rel.ent (R : Rel w f g M N) : Rel w f g (mS M i (lb, 0, false, [], [], (M.2.2.2.1 i).2.2.2.2.2.1, (0, 0, []), 0, (M.2.2.2.1 i).2.2.2.2.2.2.2.2)) (mS N i (lb, 0, false, [], [], (N.2.2.2.1 i).2.2.2.2.2.1, (0, 0, []), 0, (N.2.2.2.1 i).2.2.2.2.2.2.2.2)) :=
  R.ses ⟨rfl, fun _ => ⟨rfl, rfl, rfl, rfl, fun h => Bool.noConfusion (show false = true from h)⟩⟩
theorem phi_brAll (hf : Mono9 SP f) {own : List En} (h2 : LoS w SP f g TI UI own) : ∀ (cs es : List En), LoS w SP f g TI UI es → (∀ e ∈ cs, w e.2.2.1 = true ∧ SP e.1) → bringAll (phi w f g es) (phi w f g own) (cs.map (mapE f g)) = phi w f g (bringAll es own cs)
  | [], _, _, _ => rfl
  | e :: cs, es, h, hc => by
    obtain ⟨h3, h4⟩ := hc e List.mem_cons_self
    have e1 : bringE (phi w f g es) (phi w f g own) (eP (mapE f g e)) = phi w f g (bringE es own (eP e)) := phi_bring hf h h2 h3 h4
    show bringAll (bringE (phi w f g es) (phi w f g own) (eP (mapE f g e))) (phi w f g own) (cs.map (mapE f g)) = _
    rw [e1]
    exact phi_brAll hf h2 cs (bringE es own (eP e)) (fun x hx => by
      rcases mem_bring hx with h9 | h9
      · exact h x h9
      · exact h2 x h9) (fun x hx => hc x (List.mem_cons_of_mem _ hx))
theorem Rel.dr (R : Rel w f g M N) (hM : WfM M c d) (hN : WfM N c' d') {q : TQ} (hq : q ∈ M.2.2.2.2.2.2) (hl : w q.2.2.1.2.1 = true) : DRq N.2.2.2.2.2.2 (g q.1.1) = DRq M.2.2.2.2.2.2 q.1.1 := by
  have key : ∀ (ts : List TQ), (∀ p ∈ ts, ∀ q ∈ ts, p.1.1 = q.1.1 → p = q) → ∀ q ∈ ts, DRq ts q.1.1 = q.2.2.2.2.2 := fun ts hu q hq => by
    unfold DRq
    cases h : ts.find? (fun p => decide (p.1.1 = q.1.1)) with
    | none => exact absurd (decide_eq_true (rfl : q.1.1 = q.1.1)) (List.find?_eq_none.mp h q hq)
    | some p =>
      have h1 := List.find?_some h
      have h2 := List.mem_of_find?_eq_some h
      rw [hu p h2 q hq (of_decide_eq_true h1)]
  obtain ⟨q', hq', k, -⟩ := R.tb hN hq hl
  rw [← k.1, key _ (fun p hp q hq e => hN.uq p hp q hq (Or.inr e)) q' hq', key _ (fun p hp q hq e => hM.uq p hp q hq (Or.inr e)) q hq]
  exact k.2.2.2.2.2.2.2.2
theorem hasCE_lab {fs : List En} {e : En} (hf : ∀ x ∈ fs, w x.2.2.1 = true) (he : w e.2.2.1 = false) : hasCE fs e = false := by
  unfold hasCE
  refine List.any_eq_false.mpr (fun x hx h => ?_)
  have e9 : x.2.2.1 = e.2.2.1 := congrArg (fun p : Pl => p.2.2) (of_decide_eq_true h)
  have := hf x hx
  rw [e9, he] at this
  cases this
theorem phi_any {es fs : List En} {SP : Int32 → Prop} (hf : Mono9 SP f) (hS : ∀ x ∈ es, w x.2.2.1 = true → SP x.1) (hfs : ∀ x ∈ fs, w x.2.2.1 = true ∧ SP x.1) : (phi w f g es).any (hasCE (fs.map (mapE f g))) = es.any (hasCE fs) := by
  unfold phi lowF
  rw [List.any_map]
  induction es with
  | nil => rfl
  | cons x es ih =>
    have ih := ih (fun y hy => hS y (List.mem_cons_of_mem _ hy))
    by_cases hx : w x.2.2.1 = true
    · rw [List.filter_cons_of_pos (p := fun e : En => w e.2.2.1) hx, List.any_cons, List.any_cons, ih]
      show (hasCE (fs.map (mapE f g)) (mapE f g x) || _) = _
      rw [hasCE_map hf (fun y hy => (hfs y hy).2) (hS x List.mem_cons_self hx)]
    · rw [List.filter_cons_of_neg (p := fun e : En => w e.2.2.1) hx, List.any_cons, ih, hasCE_lab (fun y hy => (hfs y hy).1) (Bool.eq_false_iff.mpr hx)]
      rfl
/-- how a transaction ends is told alike -/
theorem Rel.endR9 (hw : ∀ l lb, w lb = true → isB l lb = true → w l = true) (R : Rel w f g M N) (hM : WfM M c d) (hN : WfM N c' d') (hE : WfE M) (hi : i < 8) (hb : (M.2.2.2.1 i).2.2.1 = true) (hl : w (M.2.2.2.1 i).1 = true) : endR N i = endR M i ∧ bringAll N.2.1 (N.2.2.2.1 i).2.2.2.1 (N.2.2.2.1 i).2.2.2.2.1 = phi w f g (bringAll M.2.1 (M.2.2.2.1 i).2.2.2.1 (M.2.2.2.1 i).2.2.2.2.1) := by
  obtain ⟨s1, s2⟩ := R.2.2.2.2.1 i hi
  obtain ⟨b1, b2, b3, b4, b5⟩ := s2 hl
  have b5 := b5 hb
  obtain ⟨t1, t2, t3, t4, t5⟩ := hM.2.2.2.2.2.2.1 i hi
  have hcs : ∀ e ∈ (M.2.2.2.1 i).2.2.2.2.1, w e.2.2.1 = true ∧ SPm w M e.1 := fun e he => ⟨by rw [(t4 e he).1]; exact hl, R.chs hw hM hi hl e he⟩
  have hL1 := R.ls hw hM hN hM.2.2.2.2.2.1.ex
  have hL2 := R.ls hw hM hN t2.ex
  have hB : bringAll N.2.1 (N.2.2.2.1 i).2.2.2.1 (N.2.2.2.1 i).2.2.2.2.1 = phi w f g (bringAll M.2.1 (M.2.2.2.1 i).2.2.2.1 (M.2.2.2.1 i).2.2.2.2.1) := by
    rw [R.2.2.2.1, b2, b3]
    exact phi_brAll R.1 hL2 (M.2.2.2.1 i).2.2.2.2.1 M.2.1 hL1 hcs
  refine ⟨?_, hB⟩
  have hDep : ∀ e ∈ bringAll M.2.1 (M.2.2.2.1 i).2.2.2.1 (M.2.2.2.1 i).2.2.2.2.1, EP M.2.2.2.2.2.2 M.1 e := fun e he => by
    rcases mem_brAll _ _ e he with h9 | h9
    · exact hM.2.2.2.2.2.1.2.1 e h9
    · exact t2.2.1 e h9
  have hDs : Srt (bringAll M.2.1 (M.2.2.2.1 i).2.2.2.1 (M.2.2.2.1 i).2.2.2.2.1) := bringAll_srt _ _ hM.2.2.2.2.2.1.1
  have hLD := R.ls hw hM hN (ep_ex hDep)
  unfold endR
  rw [hB, b3, s1]
  have p1 : mgP1 (DRq N.2.2.2.2.2.2) ((M.2.2.2.1 i).2.2.2.2.1.map (mapE f g)) = mgP1 (DRq M.2.2.2.2.2.2) (M.2.2.2.1 i).2.2.2.2.1 := by
    unfold mgP1
    rw [List.any_map]
    refine any_congr9 (fun x hx => ?_)
    obtain ⟨e1, q, hq, q1, q2, q3⟩ := t4 x hx
    show DRq N.2.2.2.2.2.2 (g x.2.2.2.2.2) = DRq M.2.2.2.2.2.2 x.2.2.2.2.2
    rw [← q1]
    exact R.dr hM hN hq (hw _ _ (hcs x hx).1 q3)
  have p2 : mgP2 ((M.2.2.2.1 i).2.2.2.2.1.map (mapE f g)) N.2.2.1 (N.2.2.2.1 i).2.2.2.2.2.1 = mgP2 (M.2.2.2.1 i).2.2.2.2.1 M.2.2.1 (M.2.2.2.1 i).2.2.2.2.2.1 := by
    unfold mgP2
    rw [b5]
    exact phi_any R.1 (fun x hx hlx => by
      obtain ⟨q, hq, q1, q2, q3⟩ := hE x (List.mem_of_mem_drop hx)
      exact ⟨q, hq, q2, hw _ _ hlx q3⟩) hcs
  have p3 : mgP3 (phi w f g (bringAll M.2.1 (M.2.2.2.1 i).2.2.2.1 (M.2.2.2.1 i).2.2.2.2.1)) ((M.2.2.2.1 i).2.2.2.2.1.map (mapE f g)) (M.2.2.2.1 i).1 = mgP3 (bringAll M.2.1 (M.2.2.2.1 i).2.2.2.1 (M.2.2.2.1 i).2.2.2.2.1) (M.2.2.2.1 i).2.2.2.2.1 (M.2.2.2.1 i).1 := by
    unfold mgP3
    rw [List.any_map]
    refine any_congr9 (fun x hx => ?_)
    show decide (12 < cntE (phi w f g (bringAll M.2.1 (M.2.2.2.1 i).2.2.2.1 (M.2.2.2.1 i).2.2.2.2.1)) (f x.1) (M.2.2.2.1 i).1) = _
    rw [phi_cnt R.1 hLD hl (hcs x hx).2]
  have p4 : mgP4 (TIq N.2.2.2.2.2.2) (phi w f g (bringAll M.2.1 (M.2.2.2.1 i).2.2.2.1 (M.2.2.2.1 i).2.2.2.2.1)) ((M.2.2.2.1 i).2.2.2.2.1.map (mapE f g)) (M.2.2.2.1 i).1 = mgP4 (TIq M.2.2.2.2.2.2) (bringAll M.2.1 (M.2.2.2.1 i).2.2.2.1 (M.2.2.2.1 i).2.2.2.2.1) (M.2.2.2.1 i).2.2.2.2.1 (M.2.2.2.1 i).1 := by
    unfold mgP4
    rw [List.any_map]
    refine any_congr9 (fun x hx => ?_)
    obtain ⟨e1, q, hq, q1, q2, q3⟩ := t4 x hx
    obtain ⟨q', hq', k1, k2, -⟩ := R.tb hN hq (hw _ _ (hcs x hx).1 q3)
    have hu : ∀ p ∈ M.2.2.2.2.2.2, ∀ q ∈ M.2.2.2.2.2.2, p.1.1 = q.1.1 → p = q := fun p hp q hq e => hM.uq p hp q hq (Or.inr e)
    show hasTwsE (TIq N.2.2.2.2.2.2 (g x.2.2.2.2.2)) (phi w f g (bringAll M.2.1 (M.2.2.2.1 i).2.2.2.1 (M.2.2.2.1 i).2.2.2.2.1)) (f x.1) (M.2.2.2.1 i).1 = hasTwsE (TIq M.2.2.2.2.2.2 x.2.2.2.2.2) _ x.1 (M.2.2.2.1 i).1
    rw [← q1, k2, TIq_at9 hu hq]
    exact phi_tws R.1 hLD hDs (ep_l0 hDep) (ep_k0 hDep) hl (hcs x hx).2 k1.2.2.2.2.2.1
  rw [p1, p2, p3, p4]
theorem Rel.fin0 (hw : ∀ l lb, w lb = true → isB l lb = true → w l = true) (R : Rel w f g M N) (hM : WfM M c d) (hN : WfM N c' d') (hE : WfE M) (hi : i < 8) (hb : (M.2.2.2.1 i).2.2.1 = true) (hl : w (M.2.2.2.1 i).1 = true) : Rel w f g (mEnded (mShelf (mS M i (sGiv (M.2.2.2.1 i))) (bringAll M.2.1 (M.2.2.2.1 i).2.2.2.1 (M.2.2.2.1 i).2.2.2.2.1)) (M.2.2.1 ++ (M.2.2.2.1 i).2.2.2.2.1)) (mEnded (mShelf (mS N i (sGiv (N.2.2.2.1 i))) (bringAll N.2.1 (N.2.2.2.1 i).2.2.2.1 (N.2.2.2.1 i).2.2.2.2.1)) (N.2.2.1 ++ (N.2.2.2.1 i).2.2.2.2.1)) := by
  have hB := (R.endR9 hw hM hN hE hi hb hl).2
  have hg := R.giv hi
  obtain ⟨s1, s2⟩ := R.2.2.2.2.1 i hi
  obtain ⟨b1, b2, b3, b4, b5⟩ := s2 hl
  obtain ⟨t1, t2, t3, t4, t5⟩ := hM.2.2.2.2.2.2.1 i hi
  have wM := wf_giv hM hi
  have wN := wf_giv hN hi
  obtain ⟨h1, h2, h3, h4, h5, h6⟩ := hg
  refine ⟨h1, h2, h3, hB, fun j hj => ?_, h6⟩
  obtain ⟨u1, u2⟩ := h5 j hj
  refine ⟨u1, fun hlj => ?_⟩
  obtain ⟨a1, a2, a3, a4, a5⟩ := u2 hlj
  refine ⟨a1, a2, a3, a4, fun hbj => ?_⟩
  have l1 := (wM.2.2.2.2.2.2.1 j hj).2.2.2.2
  have l2 := (wN.2.2.2.2.2.2.1 j hj).2.2.2.2
  have a5 := a5 hbj
  show (N.2.2.1 ++ (N.2.2.2.1 i).2.2.2.2.1).drop ((mS N i (sGiv (N.2.2.2.1 i))).2.2.2.1 j).2.2.2.2.2.1 = phi w f g ((M.2.2.1 ++ (M.2.2.2.1 i).2.2.2.2.1).drop ((mS M i (sGiv (M.2.2.2.1 i))).2.2.2.1 j).2.2.2.2.2.1)
  replace l1 : ((mS M i (sGiv (M.2.2.2.1 i))).2.2.2.1 j).2.2.2.2.2.1 ≤ M.2.2.1.length := l1
  replace l2 : ((mS N i (sGiv (N.2.2.2.1 i))).2.2.2.1 j).2.2.2.2.2.1 ≤ N.2.2.1.length := l2
  rw [List.drop_append_of_le_length l2, List.drop_append_of_le_length l1, phi_app, b3, phi_low (a := (M.2.2.2.1 i).2.2.2.2.1) (fun e he => by rw [(t4 e he).1]; exact hl)]
  exact congrArg (fun l => l ++ (M.2.2.2.1 i).2.2.2.2.1.map (mapE f g)) a5
theorem Rel.fin0H (R : Rel w f g M N) (hM : WfM M c d) (hi : i < 8) (hl : w (M.2.2.2.1 i).1 = false) : Rel w f g (mEnded (mShelf (mS M i (sGiv (M.2.2.2.1 i))) (bringAll M.2.1 (M.2.2.2.1 i).2.2.2.1 (M.2.2.2.1 i).2.2.2.2.1)) (M.2.2.1 ++ (M.2.2.2.1 i).2.2.2.2.1)) N := by
  have hg := R.sesH hi (s := sGiv (M.2.2.2.1 i)) rfl hl
  obtain ⟨t1, t2, t3, t4, t5⟩ := hM.2.2.2.2.2.2.1 i hi
  have hch : ∀ e ∈ (M.2.2.2.1 i).2.2.2.2.1, w e.2.2.1 = false := fun e he => by rw [(t4 e he).1]; exact hl
  have wM := wf_giv hM hi
  obtain ⟨h1, h2, h3, h4, h5, h6⟩ := hg
  refine ⟨h1, h2, h3, ?_, fun j hj => ?_, h6⟩
  · show N.2.1 = phi w f g (bringAll M.2.1 (M.2.2.2.1 i).2.2.2.1 (M.2.2.2.1 i).2.2.2.2.1)
    have e9 : lowF w (bringAll M.2.1 (M.2.2.2.1 i).2.2.2.1 (M.2.2.2.1 i).2.2.2.2.1) = lowF w M.2.1 := bringAll_high _ _ hM.2.2.2.2.2.1.1 hch
    rw [show N.2.1 = phi w f g M.2.1 from h4]
    unfold phi
    rw [e9]
  · obtain ⟨u1, u2⟩ := h5 j hj
    refine ⟨u1, fun hlj => ?_⟩
    obtain ⟨a1, a2, a3, a4, a5⟩ := u2 hlj
    refine ⟨a1, a2, a3, a4, fun hbj => ?_⟩
    have l1 := (wM.2.2.2.2.2.2.1 j hj).2.2.2.2
    have a5 := a5 hbj
    show N.2.2.1.drop (N.2.2.2.1 j).2.2.2.2.2.1 = phi w f g ((M.2.2.1 ++ (M.2.2.2.1 i).2.2.2.2.1).drop ((mS M i (sGiv (M.2.2.2.1 i))).2.2.2.1 j).2.2.2.2.2.1)
    replace l1 : ((mS M i (sGiv (M.2.2.2.1 i))).2.2.2.1 j).2.2.2.2.2.1 ≤ M.2.2.1.length := l1
    rw [List.drop_append_of_le_length l1, phi_app, phi_hi (a := (M.2.2.2.1 i).2.2.2.2.1) hch, List.append_nil]
    exact a5
end
