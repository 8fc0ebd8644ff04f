/-! what each text does to houses that are alike (by hand) -/
def LbK (M M' : HM) : Prop := ∀ j, (M'.2.2.2.1 j).1 = (M.2.2.2.1 j).1
abbrev GT : Type := TQ → HM → Nat → Nat → RM
abbrev GT2 : Type := TQ → TQ → HM → Nat → Nat → RM
def GWf (G : GT) : Prop := ∀ (M : HM) (i ln c d : Nat) (q : TQ), WfH M c d → i < 8 → (M.2.2.2.1 i).1 = Int32.ofNat ln → ln < 64 → q ∈ M.2.2.2.2.2.2 → q.1.1 ∈ M.1 → isB q.2.2.1.2.1 (M.2.2.2.1 i).1 = true → c + 1 ≤ 1000 → WfH (G q M i ln).2.2 (c + 1) (d + 1) ∧ LbK M (G q M i ln).2.2
def GLo (G : GT) : Prop := ∀ (w : Int32 → Bool) (f : Int32 → Int32) (g : Nat → Nat) (M N : HM) (i ln c d c' d' : Nat) (q q' : TQ), (∀ l lb, w lb = true → isB l lb = true → w l = true) → Rel w f g M N → WfH M c d → WfH N c' d' → i < 8 → (M.2.2.2.1 i).1 = Int32.ofNat ln → ln < 64 → w (M.2.2.2.1 i).1 = true → q ∈ M.2.2.2.2.2.2 → q.1.1 ∈ M.1 → isB q.2.2.1.2.1 (M.2.2.2.1 i).1 = true → q' ∈ N.2.2.2.2.2.2 → TqR w f g (SPm w M) q q' → c + 1 ≤ 1000 → c' + 1 ≤ 1000 → ∃ f' g', RelR w f' g' (G q M i ln) (G q' N i ln)
def GHi (G : GT) : Prop := ∀ (w : Int32 → Bool) (f : Int32 → Int32) (g : Nat → Nat) (M N : HM) (i ln c d : Nat) (q : TQ), (∀ l lb, w lb = true → isB l lb = true → w l = true) → Rel w f g M N → WfH M c d → i < 8 → (M.2.2.2.1 i).1 = Int32.ofNat ln → w (M.2.2.2.1 i).1 = false → q ∈ M.2.2.2.2.2.2 → Rel w f g (G q M i ln).2.2 N
def GOk (G : GT) : Prop := GWf G ∧ GLo G ∧ GHi G
def FWf (F : MF) : Prop := ∀ (M : HM) (i ln c d : Nat) (r : RM), WfH M c d → i < 8 → (M.2.2.2.1 i).1 = Int32.ofNat ln → ln < 64 → c + 1 ≤ 1000 → F M i ln r → WfH r.2.2 (c + 1) (d + 1) ∧ LbK M r.2.2
def FLo (F : MF) : Prop := ∀ (w : Int32 → Bool) (f : Int32 → Int32) (g : Nat → Nat) (M N : HM) (i ln c d c' d' : Nat) (r r' : RM), (∀ l lb, w lb = true → isB l lb = true → w l = true) → Rel w f g M N → WfH M c d → WfH N c' d' → i < 8 → (M.2.2.2.1 i).1 = Int32.ofNat ln → ln < 64 → w (M.2.2.2.1 i).1 = true → c + 1 ≤ 1000 → c' + 1 ≤ 1000 → F M i ln r → F N i ln r' → ∃ f' g', RelR w f' g' r r'
def FHi (F : MF) : Prop := ∀ (w : Int32 → Bool) (f : Int32 → Int32) (g : Nat → Nat) (M N : HM) (i ln c d : Nat) (r : RM), (∀ l lb, w lb = true → isB l lb = true → w l = true) → Rel w f g M N → WfH M c d → i < 8 → (M.2.2.2.1 i).1 = Int32.ofNat ln → ln < 64 → w (M.2.2.2.1 i).1 = false → c + 1 ≤ 1000 → F M i ln r → Rel w f g r.2.2 N
def FOk (F : MF) : Prop := FWf F ∧ FLo F ∧ FHi F
section
variable {M N : HM} {c d i ln : Nat} {q q1 q2 : TQ} {nm : Int32}
theorem LbK.rf : LbK M M := fun _ => rfl
theorem lbk_s {s : SM} (h : s.1 = (M.2.2.2.1 i).1) : LbK M (mS M i s) := fun j => by
  by_cases e : j = i
  · subst e
    rw [mS_at]
    exact h
  · rw [mS_ne e]
theorem lbk_kM {D ts : List En} : LbK M (keepM M i D ts) := by
  unfold keepM
  split
  · exact lbk_s rfl
  · exact LbK.rf
theorem lbk_kG {D ts : List En} {gv : Bool} {t : Nat} : LbK M (keepG M i D ts gv t ln) := by
  unfold keepG
  split
  · exact lbk_kM (M := M)
  · exact lbk_kM
theorem lbk_put {gv : Bool} {vl : Nat → Int32} : LbK M (putM M i ln q gv vl).2.2 := by
  unfold putM
  split
  · split
    · exact lbk_kG
    · exact LbK.rf
  · exact LbK.rf
theorem lbk_alt {st : A3 → En → A3} {al : List En} : LbK M (altM M i ln q st al).2.2 := by
  unfold altM
  split
  · exact lbk_kG
  · exact LbK.rf
theorem lbk_low {key other : Int32} : LbK M (lowM M i q key other).2.2 := by
  unfold lowM
  split
  · split
    · exact LbK.rf
    · exact LbK.rf
  · exact LbK.rf
theorem lbk_dr : LbK M (drM M i q).2.2 := by
  unfold drM
  split
  · split
    · exact LbK.rf
    · intro j
      show (if 0 ≤ j ∧ j < 8 then sDrp (M.2.2.2.1 j) q.2.1 else M.2.2.2.1 j).1 = _
      split <;> rfl
  · exact LbK.rf
theorem lbk_get {w9 : Nat} {top : Int32} {t : QT} : LbK M (getM M i w9 top t).2.2 := by
  unfold getM
  split
  · exact lbk_s rfl
  · exact LbK.rf
theorem lbk_mk : LbK M (mkM M i nm q1).2.2 := by
  unfold mkM
  split
  · exact LbK.rf
  · exact LbK.rf
theorem lbk_cnt {r : RM} (h : LbK M r.2.2) : LbK M (cntR r i ln).2.2 := by
  unfold cntR
  split
  · exact h
  · intro j
    exact (lbk_s (M := r.2.2) (i := i) (s := sRea (r.2.2.2.2.2.1 i) r.2.1) rfl j).trans (h j)
theorem lbk_flt {fl : Nat} : LbK M (fltR M ln fl).2.2 := LbK.rf
theorem gok_put {gv : Bool} {vl : Nat → Int32} (hv : gv = true ∨ ¬ vl 0 < -1000000000) : GOk (fun q M i ln => putM M i ln q gv vl) :=
  ⟨fun M i ln c d q h hi hln hl64 hq hst hb hc => ⟨wfh_put h hi hln hl64 hq hst hb hv hc, lbk_put⟩, fun w f g M N i ln c d c' d' q q' hw R hM hN hi hln hl64 hl hq hst hb hq' k hc hc' => ⟨f, g, low_put hw R hM.1 hN.1 hi hln hl64 hl hq hb hq' k hst hv (by omega)⟩, fun w f g M N i ln c d q hw R hM hi hln hl hq => hi_put R hM.1 hi hln hl⟩
theorem nmC_q {α : Type} {q q' : TQ} {a b : α} (h : q'.2.2.1.1 = q.2.2.1.1) : nmC q' a b = nmC q a b := by
  unfold nmC
  rw [h]
theorem gok_cut {fa fb : Int32 → List Int32 → Bool} : GOk (fun q M i ln => cutM M i ln q (nmC q fa fb)) :=
  ⟨fun M i ln c d q h hi hln hl64 hq hst hb hc => ⟨wfh_cut h hi hc, lbk_alt⟩, fun w f g M N i ln c d c' d' q q' hw R hM hN hi hln hl64 hl hq hst hb hq' k hc hc' => by
    refine ⟨f, g, ?_⟩
    show RelR w f g (cutM M i ln q (nmC q fa fb)) (cutM N i ln q' (nmC q' fa fb))
    rw [nmC_q k.2.2.1]
    exact low_cut hw R hM.1 hN.1 hi hln hl64 hl hq hb hq' k, fun w f g M N i ln c d q hw R hM hi hln hl hq => hi_cut R hM.1 hi hln hl⟩
theorem gok_set {ca cb : Nat} {fa fb : Int32 → List Int32 → Bool} {va vb : Int32 → List Int32 → Int32} : GOk (fun q M i ln => setM M i ln q (nmC q ca cb) (nmC q fa fb) (nmC q va vb)) :=
  ⟨fun M i ln c d q h hi hln hl64 hq hst hb hc => ⟨wfh_set h hi hc, lbk_alt⟩, fun w f g M N i ln c d c' d' q q' hw R hM hN hi hln hl64 hl hq hst hb hq' k hc hc' => by
    refine ⟨f, g, ?_⟩
    show RelR w f g (setM M i ln q (nmC q ca cb) (nmC q fa fb) (nmC q va vb)) (setM N i ln q' (nmC q' ca cb) (nmC q' fa fb) (nmC q' va vb))
    rw [nmC_q k.2.2.1, nmC_q k.2.2.1, nmC_q k.2.2.1]
    exact low_set hw R hM.1 hN.1 hi hln hl64 hl hq hb hq' k, fun w f g M N i ln c d q hw R hM hi hln hl hq => hi_set R hM.1 hi hln hl⟩
theorem gok_dr : GOk (fun q M i ln => drM M i q) :=
  ⟨fun M i ln c d q h hi hln hl64 hq hst hb hc => ⟨wfh_dr h hi, lbk_dr⟩, fun w f g M N i ln c d c' d' q q' hw R hM hN hi hln hl64 hl hq hst hb hq' k hc hc' => ⟨f, g, low_dr hw R hM.1 hN.1 hi hl hq hb hq' k⟩, fun w f g M N i ln c d q hw R hM hi hln hl hq => hi_dr hw R hM.1 hl hq⟩
theorem gok_get {wd : TQ → Nat} {top : Int32} {Q : TQ → List En → QT} {b : Bool} (h : ∀ q q' : TQ, q'.2.2.1.1 = q.2.2.1.1 → wd q' = wd q ∧ Q q' = Q q) (hQ : ∀ q, QF (Q q)) : GOk (fun q M i ln => getM M i (wd q) top (Q q (gthE b (vwE M i) (lookE (TIq M.2.2.2.2.2.2) (vwE M i) (M.2.2.2.1 i).1) q.2.1 (M.2.2.2.1 i).1))) :=
  ⟨fun M i ln c d q h hi hln hl64 hq hst hb hc => ⟨wfh_get h hi, lbk_get⟩, fun w f g M N i ln c d c' d' q q' hw R hM hN hi hln hl64 hl hq hst hb hq' k hc hc' => by
    refine ⟨f, g, ?_⟩
    show RelR w f g (getM M i (wd q) top (Q q (gthE b (vwE M i) (lookE (TIq M.2.2.2.2.2.2) (vwE M i) (M.2.2.2.1 i).1) q.2.1 (M.2.2.2.1 i).1))) (getM N i (wd q') top (Q q' (gthE b (vwE N i) (lookE (TIq N.2.2.2.2.2.2) (vwE N i) (N.2.2.2.1 i).1) q'.2.1 (N.2.2.2.1 i).1)))
    rw [(h q q' k.2.2.1).1, (h q q' k.2.2.1).2, low_gth hw R hM.1 hN.1 hi hl hq hb k, hQ]
    exact low_get R hi, fun w f g M N i ln c d q hw R hM hi hln hl hq => hi_get R hi hl⟩
theorem f1_N {fl : Nat} {G : GT} {r : RM} (e : tnM M (M.2.2.2.1 i).1 nm = none) (h : f1 nm fl G M i ln r) : r = fltR M ln fl := by
  unfold f1 at h
  rw [e] at h
  exact h
theorem f1_S {fl t : Nat} {G : GT} {r : RM} (e : tnM M (M.2.2.2.1 i).1 nm = some t) (h : f1 nm fl G M i ln r) : ∃ q ∈ M.2.2.2.2.2.2, q.1.1 = t ∧ r = cntR (G q M i ln) i ln := by
  unfold f1 at h
  rw [e] at h
  exact h
theorem tn_q (hM : WfM M c d) {t : Nat} {lb : Int32} (e : tnM M lb nm = some t) (hq : q ∈ M.2.2.2.2.2.2) (q1 : q.1.1 = t) : q.1.1 ∈ M.1 ∧ isB q.2.2.1.2.1 lb = true ∧ q.2.2.1.1 = nm := by
  obtain ⟨j, -, -, h1, h2, h3⟩ := tnM_some e
  have hu : ∀ p ∈ M.2.2.2.2.2.2, ∀ q ∈ M.2.2.2.2.2.2, p.1.1 = q.1.1 → p = q := fun p hp q hq e => hM.uq p hp q hq (Or.inr e)
  rw [← q1] at h1 h2 h3
  rw [TIq_at9 hu hq] at h2 h3
  exact ⟨h1, h3, h2⟩
end
theorem tn_lo {w : Int32 → Bool} {f : Int32 → Int32} {g : Nat → Nat} {M N : HM} {c d c' d' i t : Nat} {nm : Int32} {q q' : TQ} (hw : ∀ l lb, w lb = true → isB l lb = true → w l = true) (R : Rel w f g M N) (hM : WfM M c d) (hN : WfM N c' d') (hl : w (M.2.2.2.1 i).1 = true) (e : tnM M (M.2.2.2.1 i).1 nm = some t) (hq : q ∈ M.2.2.2.2.2.2) (q1 : q.1.1 = t) (hq' : q' ∈ N.2.2.2.2.2.2) (q1' : q'.1.1 = g t) : TqR w f g (SPm w M) q q' := by
  obtain ⟨h1, h2, h3⟩ := tn_q hM e hq q1
  obtain ⟨p, hp, k⟩ := R.2.1 q hq (hw _ _ hl h2)
  have e9 : p = q' := hN.uq p hp q' hq' (Or.inr (by rw [k.1, q1', q1]))
  rw [← e9]
  exact k
theorem fwf_f1 {nm : Int32} {fl : Nat} {G : GT} (g1 : GWf G) : FWf (f1 nm fl G) := fun M i ln c d r h hi hln hl64 hc hF => by
  cases e : tnM M (M.2.2.2.1 i).1 nm with
  | none =>
    rw [f1_N e hF]
    exact ⟨(h.mono (by omega) (by omega)).flt, lbk_flt⟩
  | some t =>
    obtain ⟨q, hq, q1, hr⟩ := f1_S e hF
    obtain ⟨t1, t2, t3⟩ := tn_q h.1 e hq q1
    obtain ⟨a1, a2⟩ := g1 M i ln c d q h hi hln hl64 hq t1 t2 hc
    rw [hr]
    exact ⟨a1.cnt hi, lbk_cnt a2⟩
theorem flo_f1 {nm : Int32} {fl : Nat} {G : GT} (g1 : GWf G) (g2 : GLo G) : FLo (f1 nm fl G) := fun w f g M N i ln c d c' d' r r' hw R hM hN hi hln hl64 hl hc hc' hF hF' => by
  have eN : tnM N (N.2.2.2.1 i).1 nm = (tnM M (M.2.2.2.1 i).1 nm).map g := by
    rw [R.lab hi]
    exact R.tn hw hM.1 hN.1 hl
  have hlo : w (Int32.ofNat ln) = true := by rw [← hln]; exact hl
  cases e : tnM M (M.2.2.2.1 i).1 nm with
  | none =>
    rw [e] at eN
    rw [f1_N e hF, f1_N eN hF']
    exact ⟨f, g, R.flt hl64 hlo hM.1.2.2.2.2.2.2.2.2 hN.1.2.2.2.2.2.2.2.2⟩
  | some t =>
    rw [e] at eN
    obtain ⟨q, hq, q1, hr⟩ := f1_S e hF
    obtain ⟨q', hq', q1', hr'⟩ := f1_S eN hF'
    obtain ⟨t1, t2, t3⟩ := tn_q hM.1 e hq q1
    have eN2 := eN
    obtain ⟨t1', t2', t3'⟩ := tn_q hN.1 eN2 hq' q1'
    have k := tn_lo hw R hM.1 hN.1 hl e hq q1 hq' q1'
    obtain ⟨f', g', k2⟩ := g2 w f g M N i ln c d c' d' q q' hw R hM hN hi hln hl64 hl hq t1 t2 hq' k hc hc'
    obtain ⟨a1, a2⟩ := g1 M i ln c d q hM hi hln hl64 hq t1 t2 hc
    obtain ⟨b1, b2⟩ := g1 N i ln c' d' q' hN hi ((R.lab hi).trans hln) hl64 hq' t1' t2' hc'
    rw [hr, hr']
    exact ⟨f', g', Rel.cnt k2 hi ((a2 i).trans hln) hl64 hlo a1.1.2.2.2.2.2.2.2.2 b1.1.2.2.2.2.2.2.2.2⟩
theorem fhi_f1 {nm : Int32} {fl : Nat} {G : GT} (g1 : GWf G) (g3 : GHi G) : FHi (f1 nm fl G) := fun w f g M N i ln c d r hw R hM hi hln hl64 hl hc hF => by
  have hlo : w (Int32.ofNat ln) = false := by rw [← hln]; exact hl
  cases e : tnM M (M.2.2.2.1 i).1 nm with
  | none =>
    rw [f1_N e hF]
    exact R.fltH hlo
  | some t =>
    obtain ⟨q, hq, q1, hr⟩ := f1_S e hF
    obtain ⟨t1, t2, t3⟩ := tn_q hM.1 e hq q1
    obtain ⟨a1, a2⟩ := g1 M i ln c d q hM hi hln hl64 hq t1 t2 hc
    rw [hr]
    exact Rel.cntH (g3 w f g M N i ln c d q hw R hM hi hln hl hq) hi ((a2 i).trans hln) hlo
theorem fok_f1 {nm : Int32} {fl : Nat} {G : GT} (hG : GOk G) : FOk (f1 nm fl G) := ⟨fwf_f1 hG.1, flo_f1 hG.1 hG.2.1, fhi_f1 hG.1 hG.2.2⟩
