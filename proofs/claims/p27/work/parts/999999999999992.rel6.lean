/-! two houses that are alike: a new table (by hand) -/
/-- what stands before a table of this name and label -/
def lsP (TI : Nat → Tb) (nm lab : Int32) (a : Nat) : Bool := decide ((TI a).1 < nm) || (decide ((TI a).1 = nm) && decide ((TI a).2.1 < lab))
theorem lsP_iff {TI : Nat → Tb} {nm lab : Int32} {a : Nat} : lsP TI nm lab a = true ↔ ((TI a).1 < nm ∨ ((TI a).1 = nm ∧ (TI a).2.1 < lab)) := by
  unfold lsP
  simp only [Bool.or_eq_true, Bool.and_eq_true, decide_eq_true_eq]
theorem lsP_dn {TI : Nat → Tb} {nm lab : Int32} {a b : Nat} (h : tLt (TI b) (TI a) = false) (hb : lsP TI nm lab b = true) : lsP TI nm lab a = true := by
  have h := Bool.eq_false_iff.mp h
  unfold tLt at h
  unfold lsP at hb ⊢
  simp only [Bool.or_eq_true, Bool.and_eq_true, decide_eq_true_eq, Int32.lt_iff_toInt_lt, ← Int32.toInt_inj, ne_eq] at h hb ⊢
  omega
def SrtS (TI : Nat → Tb) (as : List Nat) : Prop := as.Pairwise (fun a b => tLt (TI b) (TI a) = false)
theorem mkL_p {TI : Nat → Tb} {lab nm : Int32} : ∀ (as : List Nat) (i o : Nat) (b : Bool) (p : Nat), SrtS TI as → (mkL TI lab nm as i o b p).2.2 = if as.countP (lsP TI nm lab) = 0 then p else i + as.countP (lsP TI nm lab)
  | [], _, _, _, _, _ => rfl
  | a :: as, i, o, b, p, hs => by
    obtain ⟨h1, h2⟩ := List.pairwise_cons.mp hs
    unfold mkL
    rw [mkL_p as _ _ _ _ h2]
    by_cases h : (TI a).1 < nm ∨ ((TI a).1 = nm ∧ (TI a).2.1 < lab)
    · rw [if_pos h, List.countP_cons_of_pos (p := lsP TI nm lab) (lsP_iff.mpr h), if_neg (Nat.succ_ne_zero _)]
      split <;> omega
    · have e : as.countP (lsP TI nm lab) = 0 := List.countP_eq_zero.mpr (fun b9 hb h9 => h (lsP_iff.mp (lsP_dn (h1 b9 hb) h9)))
      rw [if_neg h, List.countP_cons_of_neg (p := lsP TI nm lab) (fun h9 => h (lsP_iff.mp h9)), e, if_pos rfl, if_pos rfl]
theorem mkL_any {TI : Nat → Tb} {lab nm : Int32} : ∀ (as : List Nat) (i o : Nat) (b : Bool) (p : Nat), (mkL TI lab nm as i o b p).2.1 = (b || as.any (fun a => decide ((TI a).2.1 = lab) && decide ((TI a).1 = nm)))
  | [], _, _, b, _ => (Bool.or_false b).symm
  | a :: as, i, o, b, p => by
    unfold mkL
    rw [mkL_any as, List.any_cons]
    by_cases h : (TI a).2.1 = lab
    · rw [if_pos h, decide_eq_true h, Bool.true_and, Bool.or_assoc]
    · rw [if_neg h, decide_eq_false h, Bool.false_and, Bool.false_or]
theorem take_ls {TI : Nat → Tb} {lab nm : Int32} : ∀ (as : List Nat), SrtS TI as → as.take (as.countP (lsP TI nm lab)) = as.filter (lsP TI nm lab) ∧ as.drop (as.countP (lsP TI nm lab)) = as.filter (fun a => !lsP TI nm lab a)
  | [], _ => ⟨rfl, rfl⟩
  | a :: as, hs => by
    obtain ⟨h1, h2⟩ := List.pairwise_cons.mp hs
    obtain ⟨t1, t2⟩ := take_ls (lab := lab) (nm := nm) as h2
    by_cases h : lsP TI nm lab a = true
    · rw [List.countP_cons_of_pos (p := lsP TI nm lab) h, List.take_succ_cons, List.drop_succ_cons, List.filter_cons_of_pos (p := lsP TI nm lab) h, List.filter_cons_of_neg (p := fun a => !lsP TI nm lab a) (by rw [h]; decide), t1, t2]
      exact ⟨rfl, rfl⟩
    · have e : as.countP (lsP TI nm lab) = 0 := List.countP_eq_zero.mpr (fun b9 hb h9 => h (lsP_dn (h1 b9 hb) h9))
      rw [e] at t1 t2
      rw [List.countP_cons_of_neg (p := lsP TI nm lab) h, e, List.filter_cons_of_neg (p := lsP TI nm lab) h, List.filter_cons_of_pos (p := fun a => !lsP TI nm lab a) (by rw [Bool.eq_false_iff.mpr h]; rfl), ← t1, ← t2]
      exact ⟨rfl, rfl⟩
/-- where a new table comes to stand -/
def insL (TI : Nat → Tb) (nm lab : Int32) (as : List Nat) (a : Nat) : List Nat := as.filter (lsP TI nm lab) ++ a :: as.filter (fun a => !lsP TI nm lab a)
theorem insAt_L {M : HM} {i : Nat} {nm : Int32} {a : Nat} (h : WfS M) : insAt M.1 (mkR M i nm).2.2 a = insL (TIq M.2.2.2.2.2.2) nm (M.2.2.2.1 i).1 M.1 a := by
  have e : (mkR M i nm).2.2 = M.1.countP (lsP (TIq M.2.2.2.2.2.2) nm (M.2.2.2.1 i).1) := by
    unfold mkR
    rw [mkL_p M.1 0 0 false 0 h]
    split <;> omega
  rw [e]
  obtain ⟨t1, t2⟩ := take_ls (TI := TIq M.2.2.2.2.2.2) (lab := (M.2.2.2.1 i).1) (nm := nm) M.1 h
  unfold insAt insL
  rw [t1, t2]
def ext9 {α β : Type} [DecidableEq α] (f : α → β) (a : α) (b : β) : α → β := fun x => if x = a then b else f x
theorem ext_a {α β : Type} [DecidableEq α] {f : α → β} {a : α} {b : β} : ext9 f a b a = b := if_pos rfl
theorem ext_n {α β : Type} [DecidableEq α] {f : α → β} {a x : α} {b : β} (h : ¬ x = a) : ext9 f a b x = f x := if_neg h
section
variable {w : Int32 → Bool} {f f' : Int32 → Int32} {g g' : Nat → Nat} {M N : HM} {c d c' d' i ln : Nat} {lb nm : Int32} {q q' q1 q2 : TQ} {SP : Int32 → Prop} {TI UI : Nat → Tb}
theorem phi_cg {es : List En} (h : ∀ e ∈ es, w e.2.2.1 = true → f' e.1 = f e.1 ∧ g' e.2.2.2.2.2 = g e.2.2.2.2.2) : phi w f' g' es = phi w f g es := by
  unfold phi lowF
  refine List.map_congr_left (fun e he => ?_)
  obtain ⟨h1, h2⟩ := List.mem_filter.mp he
  obtain ⟨e1, e2⟩ := h e h1 h2
  unfold mapE
  rw [e1, e2]
theorem sr_lt (hM : WfM M c d) (hc : c ≤ 1000) (hq : q ∈ M.2.2.2.2.2.2) : q.2.1 < M.2.2.2.2.2.1 + 1 ∧ ¬ (M.2.2.2.2.2.1 + 1 < q.2.1) ∧ ¬ (q.2.1 = M.2.2.2.2.2.1 + 1) := by
  obtain ⟨h1, h2, ⟨md, m1, m2, m3, m4⟩, -⟩ := hM
  obtain ⟨a1, a2, a3, ⟨m, b1, b2, b3⟩, a5⟩ := m3 q hq
  rw [b3, m1, iN_s]
  refine ⟨(iN_lt (by omega) (by omega)).mpr (by omega), fun h => ?_, fun h => ?_⟩
  · have := (iN_lt (by omega) (by omega)).mp h
    omega
  · have := (iN_eq (by omega) (by omega)).mp h
    omega
theorem TIq_nw {ts : List TQ} (h : ∀ q ∈ ts, ¬ q.1.1 = q1.1.1) : TIq (ts ++ [q1]) q1.1.1 = q1.2.2.1 := by
  unfold TIq
  rw [List.find?_append, List.find?_eq_none.mpr (fun q hq h9 => h q hq (of_decide_eq_true h9))]
  rw [show List.find? (fun q : TQ => decide (q.1.1 = q1.1.1)) [q1] = some q1 from by simp]
  rfl
def mkH (M : HM) (i : Nat) (nm : Int32) (q1 : TQ) : HM := mStd (mTabs (mMade M (M.2.2.2.2.2.1 + 1)) (M.2.2.2.2.2.2 ++ [q1])) (insAt M.1 (mkR M i nm).2.2 q1.1.1)
/-- the order is kept -/
theorem tLt_nm {a : Nat} {T : Tb} (h : lsP TI T.1 T.2.1 a = true) : tLt T (TI a) = false := by
  refine Bool.eq_false_iff.mpr (fun h9 => ?_)
  unfold tLt at h9
  unfold lsP at h
  simp only [Bool.or_eq_true, Bool.and_eq_true, decide_eq_true_eq, Int32.lt_iff_toInt_lt, ← Int32.toInt_inj] at h h9
  omega
theorem tLt_mn {a : Nat} {T : Tb} (h : ¬ lsP TI T.1 T.2.1 a = true) : tLt (TI a) T = false := by
  refine Bool.eq_false_iff.mpr (fun h9 => h ?_)
  unfold tLt at h9
  unfold lsP
  exact h9
theorem wfs_mk (hM : WfM M c d) (hS : WfS M) (hn : NewOk M lb q1) (hl : lb = (M.2.2.2.1 i).1) (h1 : q1.2.2.1.1 = nm) : WfS (mkH M i nm q1) := by
  obtain ⟨n1, n2, n3, n4, n5, n6⟩ := hn
  have hk : ∀ a ∈ M.1, TIq (M.2.2.2.2.2.2 ++ [q1]) a = TIq M.2.2.2.2.2.2 a := fun a ha => TIq_new (hM.1 a ha)
  have hT := TIq_nw (q1 := q1) n5
  show (insAt M.1 (mkR M i nm).2.2 q1.1.1).Pairwise (fun a b => tLt (TIq (M.2.2.2.2.2.2 ++ [q1]) b) (TIq (M.2.2.2.2.2.2 ++ [q1]) a) = false)
  rw [insAt_L hS]
  unfold insL
  have hS2 : M.1.Pairwise (fun a b => tLt (TIq (M.2.2.2.2.2.2 ++ [q1]) b) (TIq (M.2.2.2.2.2.2 ++ [q1]) a) = false) := hS.imp_of_mem (fun ha hb h => by rw [hk _ ha, hk _ hb]; exact h)
  refine List.pairwise_append.mpr ⟨hS2.sublist List.filter_sublist, List.pairwise_cons.mpr ⟨fun b hb => ?_, hS2.sublist List.filter_sublist⟩, fun a ha b hb => ?_⟩
  · obtain ⟨b1, b2⟩ := List.mem_filter.mp hb
    rw [hT, hk b b1]
    refine tLt_mn (fun h9 => ?_)
    rw [h1, n2, hl] at h9
    rw [h9] at b2
    cases b2
  · obtain ⟨a1, a2⟩ := List.mem_filter.mp ha
    rcases List.mem_cons.mp hb with e | e
    · rw [e, hT, hk a a1]
      refine tLt_nm ?_
      rw [h1, n2, hl]
      exact a2
    · obtain ⟨b1, b2⟩ := List.mem_filter.mp e
      rw [hk b b1, hk a a1]
      refine Bool.eq_false_iff.mpr (fun h9 => ?_)
      have h8 : lsP (TIq M.2.2.2.2.2.2) nm (M.2.2.2.1 i).1 b = true := by
        unfold tLt at h9
        unfold lsP at a2 ⊢
        simp only [Bool.or_eq_true, Bool.and_eq_true, decide_eq_true_eq, Int32.lt_iff_toInt_lt, ← Int32.toInt_inj] at a2 h9 ⊢
        omega
      rw [h8] at b2
      cases b2
theorem TbM.ext {T U : Tb} {SP' : Int32 → Prop} (h : TbM f g SP T U) (hr : ∀ r, some r ∈ T.2.2.2.2 → g' r.1 = g r.1 ∧ f' r.2 = f r.2) (hs : ∀ s, SP s → SP' s) : TbM f' g' SP' T U := by
  obtain ⟨h1, h2, h3, h4⟩ := h
  refine ⟨h1, h2, h3.trans (List.map_congr_left (fun o ho => ?_)), fun r hr9 => hs _ (h4 r hr9)⟩
  cases o with
  | none => rfl
  | some r =>
    obtain ⟨e1, e2⟩ := hr r ho
    show some (g r.1, f r.2) = some (g' r.1, f' r.2)
    rw [e1, e2]
theorem TqR.ext {SP' : Int32 → Prop} (k : TqR w f g SP q q') (h1 : g' q.1.1 = g q.1.1) (h2 : f' q.2.1 = f q.2.1) (hr : ∀ r, some r ∈ q.2.2.1.2.2.2.2 → g' r.1 = g r.1 ∧ f' r.2 = f r.2) (hs : ∀ s, SP s → SP' s) : TqR w f' g' SP' q q' := by
  obtain ⟨k1, k2, k3, k4, k5, k6, k7, k8, k9⟩ := k
  exact ⟨k1.trans h1.symm, k2.trans h2.symm, k3, k4, k5, k6.ext hr hs, k7, k8, k9⟩
theorem low_mkH (hw : ∀ l lb, w lb = true → isB l lb = true → w l = true) (R : Rel w f g M N) (hM : WfM M c d) (hN : WfM N c' d') (hi : i < 8) (hl : w (M.2.2.2.1 i).1 = true) (hSM : WfS M) (hSN : WfS N) (hE : WfE M) (n1 : NewOk M (M.2.2.2.1 i).1 q1) (n2 : NewOk N (N.2.2.2.1 i).1 q2) (hT : TbM f g (SPm w M) q1.2.2.1 q2.2.2.1) (e1 : q1.2.2.1.1 = nm) (e2 : q2.2.2.1.1 = nm) (e3 : q2.2.2.1.2.2.1 = q1.2.2.1.2.2.1) (e4 : q2.2.2.2.1 = q1.2.2.2.1) (e5 : q2.2.2.2.2.2 = q1.2.2.2.2.2) (hc : c ≤ 1000) (hc' : c' ≤ 1000) : Rel w (ext9 f q1.2.1 q2.2.1) (ext9 g q1.1.1 q2.1.1) (mkH M i nm q1) (mkH N i nm q2) := by
  have hlabN := R.lab hi
  obtain ⟨a1, a2, a3, a4, a5, a6⟩ := n1
  obtain ⟨b1, b2, b3, b4, b5, b6⟩ := n2
  have hu : ∀ p ∈ M.2.2.2.2.2.2, ∀ q ∈ M.2.2.2.2.2.2, p.1.1 = q.1.1 → p = q := fun p hp q hq e => hM.uq p hp q hq (Or.inr e)
  have ff : ∀ q ∈ M.2.2.2.2.2.2, ext9 f q1.2.1 q2.2.1 q.2.1 = f q.2.1 := fun q hq => ext_n (by rw [a4]; exact (sr_lt hM hc hq).2.2)
  have gg : ∀ q ∈ M.2.2.2.2.2.2, ext9 g q1.1.1 q2.1.1 q.1.1 = g q.1.1 := fun q hq => ext_n (a5 q hq)
  have hsub : ∀ s, SPm w M s → SPm w (mkH M i nm q1) s := fun s ⟨q, hq, h⟩ => ⟨q, List.mem_append_left _ hq, h⟩
  have hcg : ∀ {es : List En}, (∀ e ∈ es, ∃ q ∈ M.2.2.2.2.2.2, q.1.1 = e.2.2.2.2.2 ∧ q.2.1 = e.1 ∧ isB q.2.2.1.2.1 e.2.2.1 = true) → ∀ e ∈ es, w e.2.2.1 = true → ext9 f q1.2.1 q2.2.1 e.1 = f e.1 ∧ ext9 g q1.1.1 q2.1.1 e.2.2.2.2.2 = g e.2.2.2.2.2 := fun he e h9 _ => by
    obtain ⟨q, hq, q1, q2, q3⟩ := he e h9
    rw [← q1, ← q2]
    exact ⟨ff q hq, gg q hq⟩
  obtain ⟨h1, h2, h3, h4, h5, h6⟩ := id R
  refine ⟨fun s t hs ht => ?_, fun q hq lq => ?_, ?_, ?_, fun j hj => ?_, h6⟩
  · obtain ⟨p, hp, p1, p2⟩ := hs
    obtain ⟨q, hq, q3, q4⟩ := ht
    rw [← p1, ← q3]
    rcases List.mem_append.mp hp with hp | hp <;> rcases List.mem_append.mp hq with hq | hq
    · rw [ff p hp, ff q hq]
      exact h1 p.2.1 q.2.1 ⟨p, hp, rfl, p2⟩ ⟨q, hq, rfl, q4⟩
    · rw [List.mem_singleton.mp hq, ff p hp, ext_a]
      obtain ⟨p', hp', k⟩ := h2 p hp p2
      rw [← k.2.1, b4, a4]
      obtain ⟨x1, x2, x3⟩ := sr_lt hM hc hp
      obtain ⟨y1, y2, y3⟩ := sr_lt hN hc' hp'
      exact ⟨⟨fun _ => x1, fun _ => y1⟩, ⟨fun h => absurd h y3, fun h => absurd h x3⟩⟩
    · rw [List.mem_singleton.mp hp, ff q hq, ext_a]
      obtain ⟨p', hp', k⟩ := h2 q hq q4
      rw [← k.2.1, b4, a4]
      obtain ⟨x1, x2, x3⟩ := sr_lt hM hc hq
      obtain ⟨y1, y2, y3⟩ := sr_lt hN hc' hp'
      exact ⟨⟨fun h => absurd h y2, fun h => absurd h x2⟩, ⟨fun h => absurd h.symm y3, fun h => absurd h.symm x3⟩⟩
    · rw [List.mem_singleton.mp hp, List.mem_singleton.mp hq]
      exact ⟨⟨fun h => (Int32.lt_irrefl h).elim, fun h => (Int32.lt_irrefl h).elim⟩, ⟨fun _ => rfl, fun _ => rfl⟩⟩
  · rcases List.mem_append.mp hq with hq | hq
    · obtain ⟨q', hq', k⟩ := h2 q hq lq
      refine ⟨q', List.mem_append_left _ hq', k.ext (gg q hq) (ff q hq) (fun r hr => ?_) hsub⟩
      obtain ⟨c1, c2, ⟨md, m1, m2, m3, m4⟩, -⟩ := hM
      obtain ⟨x1, x2, x3, x4, x5⟩ := m3 q hq
      obtain ⟨p, hp, p1, p2, -⟩ := x5 r hr
      rw [← p1, ← p2]
      exact ⟨gg p hp, ff p hp⟩
    · rw [List.mem_singleton.mp hq]
      refine ⟨q2, List.mem_append_right _ (List.mem_singleton.mpr rfl), ext_a.symm, ext_a.symm, by rw [e1, e2], by rw [a2, b2, hlabN], e3, hT.ext (fun r hr => ?_) hsub, e4, fun n hn hwn => by rw [a3, b3], e5⟩
      obtain ⟨p, hp, p1, p2, -⟩ := a6 r hr
      rw [← p1, ← p2]
      exact ⟨gg p hp, ff p hp⟩
  · show insAt N.1 (mkR N i nm).2.2 q2.1.1 = ((insAt M.1 (mkR M i nm).2.2 q1.1.1).filter (fun a => w (TIq (M.2.2.2.2.2.2 ++ [q1]) a).2.1)).map (ext9 g q1.1.1 q2.1.1)
    rw [insAt_L hSM, insAt_L hSN, hlabN]
    unfold insL
    rw [List.filter_append, List.map_append]
    have hT1 := TIq_nw (q1 := q1) a5
    have hlq : (fun a => w (TIq (M.2.2.2.2.2.2 ++ [q1]) a).2.1) q1.1.1 = true := by
      show w (TIq (M.2.2.2.2.2.2 ++ [q1]) q1.1.1).2.1 = true
      rw [hT1, a2]
      exact hl
    rw [List.filter_cons_of_pos (p := fun a => w (TIq (M.2.2.2.2.2.2 ++ [q1]) a).2.1) hlq, List.map_cons, ext_a, h3]
    have key : ∀ (P : Nat → Bool) (P' : Nat → Bool), (∀ a ∈ M.1, w (TIq M.2.2.2.2.2.2 a).2.1 = true → P' (g a) = P a) → ((M.1.filter (fun a => w (TIq M.2.2.2.2.2.2 a).2.1)).map g).filter P' = ((M.1.filter P).filter (fun a => w (TIq (M.2.2.2.2.2.2 ++ [q1]) a).2.1)).map (ext9 g q1.1.1 q2.1.1) := fun P P' hP => by
      rw [List.filter_map, List.filter_filter, List.filter_filter]
      have e9 : M.1.filter (fun a => (P' ∘ g) a && w (TIq M.2.2.2.2.2.2 a).2.1) = M.1.filter (fun a => w (TIq (M.2.2.2.2.2.2 ++ [q1]) a).2.1 && P a) := filter_congr9 (fun a ha => by
        rw [TIq_new (hM.1 a ha)]
        show (P' (g a) && w (TIq M.2.2.2.2.2.2 a).2.1) = (w (TIq M.2.2.2.2.2.2 a).2.1 && P a)
        by_cases hz : w (TIq M.2.2.2.2.2.2 a).2.1 = true
        · rw [hP a ha hz, Bool.and_comm]
        · rw [Bool.eq_false_iff.mpr hz, Bool.and_false, Bool.false_and])
      rw [e9]
      refine List.map_congr_left (fun a ha => ?_)
      obtain ⟨q, hq, e⟩ := hM.1 a (List.mem_filter.mp ha).1
      rw [← e]
      exact (gg q hq).symm
    have hls : ∀ a ∈ M.1, w (TIq M.2.2.2.2.2.2 a).2.1 = true → lsP (TIq N.2.2.2.2.2.2) nm (M.2.2.2.1 i).1 (g a) = lsP (TIq M.2.2.2.2.2.2) nm (M.2.2.2.1 i).1 a := fun a ha hz => by
      obtain ⟨q, hq, e⟩ := hM.1 a ha
      rw [← e, TIq_at9 hu hq] at hz
      obtain ⟨q', hq', k1, k2, k3⟩ := R.tb hN hq hz
      unfold lsP
      rw [← e, k2, TIq_at9 hu hq, k1.2.2.1, k1.2.2.2.1]
    rw [key (lsP (TIq M.2.2.2.2.2.2) nm (M.2.2.2.1 i).1) (lsP (TIq N.2.2.2.2.2.2) nm (M.2.2.2.1 i).1) hls, key (fun a => !lsP (TIq M.2.2.2.2.2.2) nm (M.2.2.2.1 i).1 a) (fun a => !lsP (TIq N.2.2.2.2.2.2) nm (M.2.2.2.1 i).1 a) (fun a ha hz => by rw [hls a ha hz])]
  · exact h4.trans (phi_cg (hcg hM.2.2.2.2.2.1.ex)).symm
  · obtain ⟨u1, u2⟩ := h5 j hj
    refine ⟨u1, fun hlj => ?_⟩
    obtain ⟨v1, v2, v3, v4, v5⟩ := u2 hlj
    obtain ⟨t1, t2, t3, t4, t5⟩ := hM.2.2.2.2.2.2.1 j hj
    refine ⟨v1, v2.trans (phi_cg (hcg t2.ex)).symm, v3.trans (List.map_congr_left (fun e he => ?_)), v4, fun hbj => (v5 hbj).trans (phi_cg (hcg (fun e he => hE e (List.mem_of_mem_drop he)))).symm⟩
    obtain ⟨x1, q, hq, q5, q6, q7⟩ := t4 e he
    unfold mapE
    rw [← q5, ← q6, ff q hq, gg q hq]
theorem hi_mkH (R : Rel w f g M N) (hM : WfM M c d) (hl : w (M.2.2.2.1 i).1 = false) (n1 : NewOk M (M.2.2.2.1 i).1 q1) : Rel w f g (mkH M i nm q1) N := by
  obtain ⟨a1, a2, a3, a4, a5, a6⟩ := n1
  have hsub : ∀ s, SPm w M s → SPm w (mkH M i nm q1) s := fun s ⟨q, hq, h⟩ => ⟨q, List.mem_append_left _ hq, h⟩
  have hrev : ∀ s, SPm w (mkH M i nm q1) s → SPm w M s := fun s ⟨q, hq, h, h9⟩ => by
    rcases List.mem_append.mp hq with hq | hq
    · exact ⟨q, hq, h, h9⟩
    · rw [List.mem_singleton.mp hq, a2, hl] at h9
      cases h9
  obtain ⟨h1, h2, h3, h4, h5, h6⟩ := R
  refine ⟨fun s t hs ht => h1 s t (hrev s hs) (hrev t ht), fun q hq lq => ?_, ?_, h4, h5, h6⟩
  · rcases List.mem_append.mp hq with hq | hq
    · obtain ⟨q', hq', k⟩ := h2 q hq lq
      exact ⟨q', hq', k.ext rfl rfl (fun r hr => ⟨rfl, rfl⟩) hsub⟩
    · rw [List.mem_singleton.mp hq, a2, hl] at lq
      cases lq
  · show N.1 = ((insAt M.1 (mkR M i nm).2.2 q1.1.1).filter (fun a => w (TIq (M.2.2.2.2.2.2 ++ [q1]) a).2.1)).map g
    refine h3.trans (congrArg (List.map g) ?_)
    have hT1 := TIq_nw (q1 := q1) a5
    unfold insAt
    have hlq : ¬ (fun a => w (TIq (M.2.2.2.2.2.2 ++ [q1]) a).2.1) q1.1.1 = true := by
      show ¬ w (TIq (M.2.2.2.2.2.2 ++ [q1]) q1.1.1).2.1 = true
      rw [hT1, a2, hl]
      decide
    rw [List.filter_append, List.filter_cons_of_neg (p := fun a => w (TIq (M.2.2.2.2.2.2 ++ [q1]) a).2.1) hlq, ← List.filter_append, List.take_append_drop]
    exact filter_congr9 (fun a ha => by rw [TIq_new (hM.1 a ha)])
theorem low_mkR (hw : ∀ l lb, w lb = true → isB l lb = true → w l = true) (R : Rel w f g M N) (hM : WfM M c d) (hN : WfM N c' d') (hi : i < 8) (hl : w (M.2.2.2.1 i).1 = true) : (mkR N i nm).1 = (mkR M i nm).1 ∧ (mkR N i nm).2.1 = (mkR M i nm).2.1 := by
  have hlabN := R.lab hi
  have hu : ∀ p ∈ M.2.2.2.2.2.2, ∀ q ∈ M.2.2.2.2.2.2, p.1.1 = q.1.1 → p = q := fun p hp q hq e => hM.uq p hp q hq (Or.inr e)
  have key : ∀ a ∈ M.1, w (TIq M.2.2.2.2.2.2 a).2.1 = true → (TIq N.2.2.2.2.2.2 (g a)).1 = (TIq M.2.2.2.2.2.2 a).1 ∧ (TIq N.2.2.2.2.2.2 (g a)).2.1 = (TIq M.2.2.2.2.2.2 a).2.1 := fun a ha hz => by
    obtain ⟨q, hq, e⟩ := hM.1 a ha
    rw [← e, TIq_at9 hu hq] at hz
    obtain ⟨q', hq', k1, k2, k3⟩ := R.tb hN hq hz
    rw [← e, k2, TIq_at9 hu hq]
    exact ⟨k1.2.2.1, k1.2.2.2.1⟩
  unfold mkR
  rw [mkL_cnt, mkL_cnt, mkL_any, mkL_any, R.2.2.1, hlabN]
  refine ⟨congrArg (fun n => 0 + n) ?_, congrArg (fun b => false || b) ?_⟩
  · rw [List.countP_map, List.countP_filter]
    refine List.countP_congr (fun a ha => ?_)
    show ((decide ((TIq N.2.2.2.2.2.2 (g a)).2.1 = (M.2.2.2.1 i).1) && w (TIq M.2.2.2.2.2.2 a).2.1) = true) ↔ _
    by_cases hz : w (TIq M.2.2.2.2.2.2 a).2.1 = true
    · rw [(key a ha hz).2, hz, Bool.and_true]
    · rw [Bool.eq_false_iff.mpr hz, Bool.and_false]
      constructor
      · intro h; cases h
      · intro h
        rw [of_decide_eq_true h] at hz
        exact absurd hl hz
  · rw [List.any_map, List.any_filter]
    refine any_congr9 (fun a ha => ?_)
    show (w (TIq M.2.2.2.2.2.2 a).2.1 && (decide ((TIq N.2.2.2.2.2.2 (g a)).2.1 = (M.2.2.2.1 i).1) && decide ((TIq N.2.2.2.2.2.2 (g a)).1 = nm))) = _
    by_cases hz : w (TIq M.2.2.2.2.2.2 a).2.1 = true
    · rw [(key a ha hz).2, (key a ha hz).1, hz, Bool.true_and]
    · rw [Bool.eq_false_iff.mpr hz, Bool.false_and]
      by_cases h : (TIq M.2.2.2.2.2.2 a).2.1 = (M.2.2.2.1 i).1
      · rw [h] at hz
        exact absurd hl hz
      · rw [decide_eq_false h, Bool.false_and]
theorem low_mk (hw : ∀ l lb, w lb = true → isB l lb = true → w l = true) (R : Rel w f g M N) (hM : WfM M c d) (hN : WfM N c' d') (hi : i < 8) (hl : w (M.2.2.2.1 i).1 = true) (hSM : WfS M) (hSN : WfS N) (hE : WfE M) (n1 : NewOk M (M.2.2.2.1 i).1 q1) (n2 : NewOk N (N.2.2.2.1 i).1 q2) (hT : TbM f g (SPm w M) q1.2.2.1 q2.2.2.1) (e1 : q1.2.2.1.1 = nm) (e2 : q2.2.2.1.1 = nm) (e3 : q2.2.2.1.2.2.1 = q1.2.2.1.2.2.1) (e4 : q2.2.2.2.1 = q1.2.2.2.1) (e5 : q2.2.2.2.2.2 = q1.2.2.2.2.2) (hc : c ≤ 1000) (hc' : c' ≤ 1000) : ∃ f' g', RelR w f' g' (mkM M i nm q1) (mkM N i nm q2) := by
  obtain ⟨m1, m2⟩ := low_mkR (nm := nm) hw R hM hN hi hl
  unfold mkM
  rw [m1, m2, R.busy hi hl]
  by_cases hz : (mkR M i nm).2.1 = true ∨ 3 ≤ (mkR M i nm).1 ∨ (M.2.2.2.1 i).2.2.1 = true
  · rw [if_pos hz, if_pos hz]
    exact ⟨f, g, rfl, rfl, R⟩
  · rw [if_neg hz, if_neg hz]
    exact ⟨_, _, rfl, rfl, low_mkH hw R hM hN hi hl hSM hSN hE n1 n2 hT e1 e2 e3 e4 e5 hc hc'⟩
theorem hi_mk (R : Rel w f g M N) (hM : WfM M c d) (hl : w (M.2.2.2.1 i).1 = false) (n1 : NewOk M (M.2.2.2.1 i).1 q1) : Rel w f g (mkM M i nm q1).2.2 N := by
  unfold mkM
  split
  · exact R
  · exact hi_mkH R hM hl n1
end
