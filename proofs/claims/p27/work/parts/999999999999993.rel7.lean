/-! two houses that are alike: answers; what holds at all times, further (by hand) -/
section
variable {w : Int32 → Bool} {f f' : Int32 → Int32} {g g' : Nat → Nat} {M N : HM} {c d c' d' i ln : Nat} {lb nm : Int32} {q q' q1 q2 : TQ} {SP : Int32 → Prop} {TI UI : Nat → Tb} {es fs : List En}
theorem rv0_m : rv0 (es.map (mapE f g)) = rv0 es := funext fun v => by
  unfold rv0
  rw [List.getElem?_map]
  cases es[v.toNatClampNeg]? with
  | none => rfl
  | some x => rfl
theorem rvJ_m : rvJ (es.map (mapE f g)) (fs.map (mapE f g)) = rvJ es fs := funext fun v => by
  unfold rvJ
  rw [List.getElem?_map, List.getElem?_map, List.length_map]
  cases es[v.toNatClampNeg / fs.length]? with
  | none =>
    cases fs[v.toNatClampNeg % fs.length]? with
    | none => rfl
    | some y => rfl
  | some x =>
    cases fs[v.toNatClampNeg % fs.length]? with
    | none => rfl
    | some y => rfl
theorem plJ_m {F F' : Nat → En → List Nat} (h : ∀ i e, F' i (mapE f g e) = F i e) : ∀ (es : List En) (i : Nat), plJ F' i (es.map (mapE f g)) = plJ F i es
  | [], _ => rfl
  | e :: es, i => by
    show F' i (mapE f g e) ++ plJ F' (i + 1) (es.map (mapE f g)) = F i e ++ plJ F (i + 1) es
    rw [h, plJ_m h es (i + 1)]
theorem prL_m {P P' : En → Bool} {b : Nat} (h : ∀ e, P' (mapE f g e) = P e) : ∀ (es : List En) (j : Nat), prL P' b j (es.map (mapE f g)) = prL P b j es
  | [], _ => rfl
  | e :: es, j => by
    show (if P' (mapE f g e) = true then (b + j) :: prL P' b (j + 1) (es.map (mapE f g)) else prL P' b (j + 1) (es.map (mapE f g))) = (if P e = true then (b + j) :: prL P b (j + 1) es else prL P b (j + 1) es)
    rw [h, prL_m h es (j + 1)]
theorem on_m {if0 if1 i : Nat} {os : List (Nat × Int32)} : plJ (onE if0 if1 os) i (es.map (mapE f g)) = plJ (onE if0 if1 os) i es := plJ_m (fun i e => rfl) es i
theorem pr_m {if0 if1 i : Nat} {os : List (Nat × Int32)} {fc sc : Int32} : plJ (prE if0 if1 os fc sc (fs.map (mapE f g))) i (es.map (mapE f g)) = plJ (prE if0 if1 os fc sc fs) i es := plJ_m (fun i e => by
  unfold prE
  rw [List.length_map]
  show (if hold e.2.2.2.2.1 fc = -1000000000 then [] else prL _ _ 0 (fs.map (mapE f g))) = _
  rw [prL_m (P := fun r => decide (hold r.2.2.2.2.1 sc = hold e.2.2.2.2.1 fc) && mntB if0 if1 (resE (joinE e.2.2.1 r.2.2.1) (fun g => cellE e.2.2.2.2.1 r.2.2.2.2.1 g.toNatClampNeg) ((os.take if1).drop if0))) (fun r => rfl)]) es i
theorem xs0_m {if0 if1 : Nat} {os : List (Nat × Int32)} : xs0 if0 if1 os (es.map (mapE f g)) = xs0 if0 if1 os es := by
  unfold xs0
  rw [on_m]
theorem xsJ_m {if0 if1 : Nat} {os : List (Nat × Int32)} {fc sc : Int32} : xsJ if0 if1 os fc sc (es.map (mapE f g)) (fs.map (mapE f g)) = xsJ if0 if1 os fc sc es fs := by
  unfold xsJ
  rw [pr_m]
section
variable {so : Option Nat} {dn : Int32} {kp w9 if0 if1 items col : Nat} {kd fr : Nat → Nat} {os : List (Nat × Int32)} {fc sc : Int32}
theorem q0A_m : q0A so dn kp w9 if0 if1 os (es.map (mapE f g)) = q0A so dn kp w9 if0 if1 os es := by
  unfold q0A
  rw [rv0_m, xs0_m, on_m]
theorem q0B_m : q0B so dn kp w9 if0 if1 items kd fr os (es.map (mapE f g)) = q0B so dn kp w9 if0 if1 items kd fr os es := by
  unfold q0B
  rw [rv0_m, xs0_m, on_m]
theorem q0G_m : q0G so dn kp w9 if0 if1 items kd fr os (es.map (mapE f g)) = q0G so dn kp w9 if0 if1 items kd fr os es := by
  unfold q0G
  rw [rv0_m, xs0_m, on_m]
theorem q0N_m : q0N so dn kp w9 if0 if1 items col kd fr os (es.map (mapE f g)) = q0N so dn kp w9 if0 if1 items col kd fr os es := by
  unfold q0N
  rw [rv0_m, xs0_m, on_m]
theorem qJB_m : qJB so dn kp w9 if0 if1 items kd fr os fc sc (es.map (mapE f g)) (fs.map (mapE f g)) = qJB so dn kp w9 if0 if1 items kd fr os fc sc es fs := by
  unfold qJB
  rw [rvJ_m, xsJ_m, pr_m]
theorem qJN_m : qJN so dn kp w9 if0 if1 items col kd fr os fc sc (es.map (mapE f g)) (fs.map (mapE f g)) = qJN so dn kp w9 if0 if1 items col kd fr os fc sc es fs := by
  unfold qJN
  rw [rvJ_m, xsJ_m, pr_m]
end
/-- an answer that reads rows by their label and their cells alone -/
def QF (Q : List En → QT) : Prop := ∀ (f : Int32 → Int32) (g : Nat → Nat) (es : List En), Q (es.map (mapE f g)) = Q es
theorem low_get {w9 : Nat} {top : Int32} {t : QT} (R : Rel w f g M N) (hi : i < 8) : RelR w f g (getM M i w9 top t) (getM N i w9 top t) := by
  unfold getM
  by_cases h : anE (Int32.ofNat t.2) top = 1
  · rw [if_pos h, if_pos h]
    obtain ⟨s1, s2⟩ := R.2.2.2.2.1 i hi
    refine ⟨rfl, rfl, R.ses ⟨s1, fun hl => ?_⟩⟩
    obtain ⟨b1, b2, b3, b4, b5⟩ := s2 hl
    exact ⟨b1, b2, b3, rfl, b5⟩
  · rw [if_neg h, if_neg h]
    exact ⟨rfl, rfl, R⟩
theorem hi_get {w9 : Nat} {top : Int32} {t : QT} (R : Rel w f g M N) (hi : i < 8) (hl : w (M.2.2.2.1 i).1 = false) : Rel w f g (getM M i w9 top t).2.2 N := by
  unfold getM
  split
  · exact R.sesH hi rfl hl
  · exact R
theorem low_gth (hw : ∀ l lb, w lb = true → isB l lb = true → w l = true) (R : Rel w f g M N) (hM : WfM M c d) (hN : WfM N c' d') (hi : i < 8) (hl : w (M.2.2.2.1 i).1 = true) (hq : q ∈ M.2.2.2.2.2.2) (hb : isB q.2.2.1.2.1 (M.2.2.2.1 i).1 = true) (k : TqR w f g (SPm w M) q q') {b : Bool} : gthE b (vwE N i) (lookE (TIq N.2.2.2.2.2.2) (vwE N i) (N.2.2.2.1 i).1) q'.2.1 (N.2.2.2.1 i).1 = (gthE b (vwE M i) (lookE (TIq M.2.2.2.2.2.2) (vwE M i) (M.2.2.2.1 i).1) q.2.1 (M.2.2.2.1 i).1).map (mapE f g) := by
  rw [R.vw hi hl, R.lab hi, k.2.1]
  exact phi_gth R.1 (R.ls hw hM hN (hM.vw hi).ex) (fun l h9 => hw l _ hl h9) ⟨q, hq, rfl, hw _ _ hl hb⟩
theorem wfe_of {M' : HM} (hE : WfE M) (hT : M'.2.2.2.2.2.2 = M.2.2.2.2.2.2) (h : ∀ e ∈ M'.2.2.1, e ∈ M.2.2.1 ∨ ∃ q ∈ M.2.2.2.2.2.2, q.1.1 = e.2.2.2.2.2 ∧ q.2.1 = e.1 ∧ isB q.2.2.1.2.1 e.2.2.1 = true) : WfE M' := fun e he => by
  rw [hT]
  rcases h e he with h9 | h9
  · exact hE e h9
  · exact h9
theorem wfe_map {φ : TQ → TQ} (hE : WfE M) (hφ : φok φ) : WfE (mTabs M (M.2.2.2.2.2.2.map φ)) := fun e he => by
  obtain ⟨q, hq, q1, q2, q3⟩ := hE e he
  exact ⟨φ q, List.mem_map_of_mem hq, by rw [(hφ q).1]; exact q1, by rw [(hφ q).2.1]; exact q2, by rw [(hφ q).2.2]; exact q3⟩
theorem wfs_map {φ : TQ → TQ} (hS : WfS M) (hφ : φok φ) : WfS (mTabs M (M.2.2.2.2.2.2.map φ)) := by
  have e : TIq (M.2.2.2.2.2.2.map φ) = TIq M.2.2.2.2.2.2 := funext (fun a => TIq_map (fun q => congrArg Prod.fst (hφ q).1) (fun q => (hφ q).2.2) a)
  show M.1.Pairwise (fun a b => tLt (TIq (M.2.2.2.2.2.2.map φ) b) (TIq (M.2.2.2.2.2.2.map φ) a) = false)
  rw [e]
  exact hS
theorem wfe_kM {D ts : List En} (hE : WfE M) (ht : ∀ e ∈ ts, ∃ q ∈ M.2.2.2.2.2.2, q.1.1 = e.2.2.2.2.2 ∧ q.2.1 = e.1 ∧ isB q.2.2.1.2.1 e.2.2.1 = true) : WfE (keepM M i D ts) := by
  unfold keepM
  split
  · exact hE
  · exact wfe_of hE rfl (fun e he => by
      rcases List.mem_append.mp he with h | h
      · exact Or.inl h
      · exact Or.inr (ht e h))
theorem wfs_kM {D ts : List En} (hS : WfS M) : WfS (keepM M i D ts) := by
  unfold keepM
  split
  · exact hS
  · exact hS
theorem wfe_kG {D ts : List En} {gv : Bool} {t : Nat} (hE : WfE M) (ht : ∀ e ∈ ts, ∃ q ∈ M.2.2.2.2.2.2, q.1.1 = e.2.2.2.2.2 ∧ q.2.1 = e.1 ∧ isB q.2.2.1.2.1 e.2.2.1 = true) : WfE (keepG M i D ts gv t ln) := by
  unfold keepG
  split
  · have h := wfe_map (wfe_kM (i := i) (D := D) hE ht) (giveT_ok t ln)
    rw [keepM_ts] at h
    exact h
  · exact wfe_kM hE ht
theorem wfs_kG {D ts : List En} {gv : Bool} {t : Nat} (hS : WfS M) : WfS (keepG M i D ts gv t ln) := by
  unfold keepG
  split
  · have h := wfs_map (wfs_kM (i := i) (D := D) (ts := ts) hS) (giveT_ok t ln)
    rw [keepM_ts] at h
    exact h
  · exact wfs_kM hS
/-- a house in order -/
def WfH (M : HM) (c d : Nat) : Prop := WfM M c d ∧ WfE M ∧ WfS M
theorem wfh_put {gv : Bool} {vl : Nat → Int32} (h : WfH M c d) (hi : i < 8) (hln : (M.2.2.2.1 i).1 = Int32.ofNat ln) (hl64 : ln < 64) (hq : q ∈ M.2.2.2.2.2.2) (hst : q.1.1 ∈ M.1) (hb : isB q.2.2.1.2.1 (M.2.2.2.1 i).1 = true) (hv : gv = true ∨ ¬ vl 0 < -1000000000) (hc : c + 1 ≤ 1000) : WfH (putM M i ln q gv vl).2.2 (c + 1) (d + 1) := by
  refine ⟨wf_put h.1 hi hln hl64 hq hst hb hv hc, ?_, ?_⟩
  · unfold putM
    split
    · split
      · exact wfe_kG h.2.1 (fun e he => by
          rw [List.mem_singleton.mp he]
          exact ⟨q, hq, rfl, rfl, by show isB q.2.2.1.2.1 (Int32.ofNat ln) = true; rw [← hln]; exact hb⟩)
      · exact h.2.1
    · exact h.2.1
  · unfold putM
    split
    · split
      · exact wfs_kG h.2.2
      · exact h.2.2
    · exact h.2.2
theorem wfs_alt {st : A3 → En → A3} {al : List En} (hS : WfS M) : WfS (altM M i ln q st al).2.2 := by
  unfold altM
  split
  · exact wfs_kG hS
  · exact hS
theorem wfe_alt {st : A3 → En → A3} {al : List En} (hE : WfE M) (ht : ∀ e ∈ (altA M i st al).2.1, EP M.2.2.2.2.2.2 M.1 e) : WfE (altM M i ln q st al).2.2 := by
  unfold altM
  split
  · exact wfe_kG hE (fun e he => (ht e he).1)
  · exact hE
theorem wfh_set {col : Nat} {fm : Int32 → List Int32 → Bool} {fv : Int32 → List Int32 → Int32} (h : WfH M c d) (hi : i < 8) (hc : c + 1 ≤ 1000) : WfH (setM M i ln q col fm fv).2.2 (c + 1) (d + 1) := by
  refine ⟨wf_set h.1 hi hc, ?_, wfs_alt h.2.2⟩
  have hr : ∀ r ∈ alP fm q.2.1 (lookE (TIq M.2.2.2.2.2.2) (vwE M i) (M.2.2.2.1 i).1), EP M.2.2.2.2.2.2 M.1 (rowS M.2.2.2.2.2.2 (M.2.2.2.1 i).1 col fv r) := fun r hr => by
    obtain ⟨h1, h2, h3⟩ := alP_look h.1 hi hr
    exact EP.at h.1 hi h1 h3 false _
  obtain ⟨a1, a2, a3, a4⟩ := set_ok (lb := (M.2.2.2.1 i).1) h.1 hi hr (fun r => rfl)
  exact wfe_alt h.2.1 (fun e he => (a3 e he).1)
theorem wfh_cut {fm : Int32 → List Int32 → Bool} (h : WfH M c d) (hi : i < 8) (hc : c + 1 ≤ 1000) : WfH (cutM M i ln q fm).2.2 (c + 1) (d + 1) := by
  refine ⟨wf_cut h.1 hi hc, ?_, wfs_alt h.2.2⟩
  have hM := h.1
  have hr : ∀ r ∈ alP fm q.2.1 (lookE (TIq M.2.2.2.2.2.2) (vwE M i) (M.2.2.2.1 i).1), EP M.2.2.2.2.2.2 M.1 (veilE r (M.2.2.2.1 i).1) := fun r hr => by
    obtain ⟨h1, h2, h3⟩ := alP_look hM hi hr
    exact EP.at hM hi h1 h3 true []
  have hA := AI.fC (B := EP M.2.2.2.2.2.2 M.1) (lb := (M.2.2.2.1 i).1) (alP fm q.2.1 (lookE (TIq M.2.2.2.2.2.2) (vwE M i) (M.2.2.2.1 i).1)) (vwE M i).length 0 (vwE M i, [], []) ⟨(hM.vw hi).1, fun e he => (hM.vw hi).2.1 e he, fun e he => (List.not_mem_nil he).elim, fun e he => (List.not_mem_nil he).elim, Nat.le_refl _, Nat.le_refl _, Nat.le_refl _⟩ hr
  obtain ⟨a1, a2, a3, a4, -⟩ := hA
  exact wfe_alt h.2.1 a3
theorem wfh_get {w9 : Nat} {top : Int32} {t : QT} (h : WfH M c d) (hi : i < 8) : WfH (getM M i w9 top t).2.2 (c + 1) (d + 1) := by
  refine ⟨wf_get h.1 hi, ?_, ?_⟩
  · unfold getM
    split
    · exact h.2.1
    · exact h.2.1
  · unfold getM
    split
    · exact h.2.2
    · exact h.2.2
theorem wfh_low {key other : Int32} (h : WfH M c d) (hi : i < 8) (hq : q ∈ M.2.2.2.2.2.2) (hst : q.1.1 ∈ M.1) : WfH (lowM M i q key other).2.2 (c + 1) (d + 1) := by
  refine ⟨wf_low h.1 hi hq hst, ?_, ?_⟩
  · unfold lowM
    split
    · split
      · exact h.2.1
      · refine wfe_of h.2.1 rfl (fun e he => ?_)
        rcases List.mem_append.mp he with h9 | h9
        · exact Or.inl h9
        · have ho : lowO (vwE M i) q key other (M.2.2.2.1 i).1 = some e := Option.mem_toList.mp h9
          obtain ⟨e1, e2, e3, e4⟩ := lowO_some ho
          exact Or.inr ⟨q, hq, e4.symm, e2.symm, by rw [e3]; exact (lowC_0 e1).2⟩
    · exact h.2.1
  · unfold lowM
    split
    · split
      · exact h.2.2
      · exact h.2.2
    · exact h.2.2
theorem wfh_dr (h : WfH M c d) (hi : i < 8) : WfH (drM M i q).2.2 (c + 1) (d + 1) := by
  refine ⟨wf_dr h.1 hi, ?_, ?_⟩
  · unfold drM
    split
    · split
      · exact h.2.1
      · exact wfe_map h.2.1 (dropT_ok q.1.1)
    · exact h.2.1
  · unfold drM
    split
    · split
      · exact h.2.2
      · have h9 := wfs_map h.2.2 (dropT_ok q.1.1)
        exact List.Pairwise.sublist List.filter_sublist h9
    · exact h.2.2
theorem wfh_mk (h : WfH M c d) (hi : i < 8) (hn : NewOk M (M.2.2.2.1 i).1 q1) (h1 : q1.2.2.1.1 = nm) (hc : c + 1 ≤ 1000) : WfH (mkM M i nm q1).2.2 (c + 1) (d + 1) := by
  refine ⟨wf_mk h.1 hi hn hc, ?_, ?_⟩
  · unfold mkM
    split
    · exact h.2.1
    · exact fun e he => by
        obtain ⟨q, hq, h9⟩ := h.2.1 e he
        exact ⟨q, List.mem_append_left _ hq, h9⟩
  · unfold mkM
    split
    · exact h.2.2
    · exact wfs_mk h.1 h.2.2 hn rfl h1
theorem WfH.cnt {r : RM} (h : WfH r.2.2 c d) (hi : i < 8) : WfH (cntR r i ln).2.2 c d := by
  refine ⟨h.1.cnt hi, ?_, ?_⟩
  · unfold cntR
    split
    · exact h.2.1
    · exact h.2.1
  · unfold cntR
    split
    · exact h.2.2
    · exact h.2.2
theorem WfH.flt {fl : Nat} (h : WfH M c d) : WfH (fltR M ln fl).2.2 c d := ⟨h.1.flt, h.2.1, h.2.2⟩
theorem WfH.l1 (h : WfH M c d) (hi : i < 8) : WfH (M1l M i) c d := ⟨h.1.l1 hi, h.2.1, h.2.2⟩
theorem WfH.mono (h : WfH M c d) (hc : c ≤ c') (hd : d ≤ d') : WfH M c' d' := ⟨h.1.mono hc hd, h.2.1, h.2.2⟩
end
