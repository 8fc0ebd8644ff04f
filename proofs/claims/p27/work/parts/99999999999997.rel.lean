/-! two houses that are alike for low labels (by hand) -/
theorem isB_tr9 {a b c : Int32} (h1 : isB a b = true) (h2 : isB b c = true) : isB a c = true := by
  unfold isB at h1 h2 ⊢
  obtain ⟨a1, a2⟩ := Bool.and_eq_true_iff.mp h1
  obtain ⟨b1, b2⟩ := Bool.and_eq_true_iff.mp h2
  have a1 := of_decide_eq_true a1
  have b1 := of_decide_eq_true b1
  have a2 := of_decide_eq_true a2
  have b2 := of_decide_eq_true b2
  refine Bool.and_eq_true_iff.mpr ⟨decide_eq_true ?_, decide_eq_true ?_⟩
  · rw [Int32.le_iff_toInt_le] at a1 b1 ⊢
    omega
  · refine Int32.toBitVec.inj (BitVec.eq_of_getLsbD_eq (fun j hj => ?_))
    have e1 := congrArg (fun x : Int32 => x.toBitVec.getLsbD j) a2
    have e2 := congrArg (fun x : Int32 => x.toBitVec.getLsbD j) b2
    have k1 : ∀ x y : Int32, (x &&& y).toBitVec.getLsbD j = (x.toBitVec.getLsbD j && y.toBitVec.getLsbD j) := fun x y => BitVec.getLsbD_and
    have k2 : ∀ x y : Int32, (x ^^^ y).toBitVec.getLsbD j = (x.toBitVec.getLsbD j ^^ y.toBitVec.getLsbD j) := fun x y => BitVec.getLsbD_xor
    have k3 : (0 : Int32).toBitVec.getLsbD j = false := BitVec.getLsbD_zero
    have k4 : ∀ j, j < 32 → (-1 : Int32).toBitVec.getLsbD j = true := by decide
    have k5 := k4 j hj
    rw [k1, k1, k2, k3, k5] at e1 e2 ⊢
    revert e1 e2
    generalize a.toBitVec.getLsbD j = x1
    generalize b.toBitVec.getLsbD j = x2
    generalize c.toBitVec.getLsbD j = x3
    generalize (15 : Int32).toBitVec.getLsbD j = x4
    revert x1 x2 x3 x4
    decide
def SPm (w : Int32 → Bool) (M : HM) (s : Int32) : Prop := ∃ q ∈ M.2.2.2.2.2.2, q.2.1 = s ∧ w q.2.2.1.2.1 = true
def TqR (w : Int32 → Bool) (f : Int32 → Int32) (g : Nat → Nat) (SP : Int32 → Prop) (q q' : TQ) : Prop := q'.1.1 = g q.1.1 ∧ q'.2.1 = f q.2.1 ∧ q'.2.2.1.1 = q.2.2.1.1 ∧ q'.2.2.1.2.1 = q.2.2.1.2.1 ∧ q'.2.2.1.2.2.1 = q.2.2.1.2.2.1 ∧ TbM f g SP q.2.2.1 q'.2.2.1 ∧ q'.2.2.2.1 = q.2.2.2.1 ∧ (∀ n, n < 64 → w (Int32.ofNat n) = true → q'.2.2.2.2.1[n]? = q.2.2.2.2.1[n]?) ∧ q'.2.2.2.2.2 = q.2.2.2.2.2
def SesR (w : Int32 → Bool) (f : Int32 → Int32) (g : Nat → Nat) (ed ed' : List En) (s s' : SM) : Prop := s'.1 = s.1 ∧ (w s.1 = true → s'.2.2.1 = s.2.2.1 ∧ s'.2.2.2.1 = phi w f g s.2.2.2.1 ∧ s'.2.2.2.2.1 = s.2.2.2.2.1.map (mapE f g) ∧ s'.2.2.2.2.2.2.1 = s.2.2.2.2.2.2.1 ∧ (s.2.2.1 = true → ed'.drop s'.2.2.2.2.2.1 = phi w f g (ed.drop s.2.2.2.2.2.1)))
def Rel (w : Int32 → Bool) (f : Int32 → Int32) (g : Nat → Nat) (M N : HM) : Prop := Mono9 (SPm w M) f ∧ (∀ q ∈ M.2.2.2.2.2.2, w q.2.2.1.2.1 = true → ∃ q' ∈ N.2.2.2.2.2.2, TqR w f g (SPm w M) q q') ∧ N.1 = (M.1.filter (fun a => w (TIq M.2.2.2.2.2.2 a).2.1)).map g ∧ N.2.1 = phi w f g M.2.1 ∧ (∀ i, i < 8 → SesR w f g M.2.2.1 N.2.2.1 (M.2.2.2.1 i) (N.2.2.2.1 i)) ∧ ∀ n, n < 64 → w (Int32.ofNat n) = true → ∀ j, j < 4 → N.2.2.2.2.1[n * 4 + j]? = M.2.2.2.2.1[n * 4 + j]?
section
variable {w : Int32 → Bool} {f : Int32 → Int32} {g : Nat → Nat} {M N : HM} {c d c' d' i ln : Nat} {lb nm : Int32}
theorem Rel.tb (R : Rel w f g M N) (hN : WfM N c' d') {q : TQ} (hq : q ∈ M.2.2.2.2.2.2) (hl : w q.2.2.1.2.1 = true) : ∃ q' ∈ N.2.2.2.2.2.2, TqR w f g (SPm w M) q q' ∧ TIq N.2.2.2.2.2.2 (g q.1.1) = q'.2.2.1 ∧ SRq N.2.2.2.2.2.2 (g q.1.1) = q'.2.1 := by
  obtain ⟨q', hq', h⟩ := R.2.1 q hq hl
  have hu : ∀ p ∈ N.2.2.2.2.2.2, ∀ q ∈ N.2.2.2.2.2.2, p.1.1 = q.1.1 → p = q := fun p hp q hq e => hN.uq p hp q hq (Or.inr e)
  refine ⟨q', hq', h, ?_, ?_⟩
  · rw [← h.1]; exact TIq_at9 hu hq'
  · rw [← h.1]; exact SRq_at9 hu hq'
theorem Rel.ls (hw : ∀ l lb, w lb = true → isB l lb = true → w l = true) (R : Rel w f g M N) (hM : WfM M c d) (hN : WfM N c' d') {es : List En} (he : ∀ e ∈ es, ∃ q ∈ M.2.2.2.2.2.2, q.1.1 = e.2.2.2.2.2 ∧ q.2.1 = e.1 ∧ isB q.2.2.1.2.1 e.2.2.1 = true) : LoS w (SPm w M) f g (TIq M.2.2.2.2.2.2) (TIq N.2.2.2.2.2.2) es := fun e h9 hl => by
  obtain ⟨q, hq, q1, q2, q3⟩ := he e h9
  have hlq := hw _ _ hl q3
  obtain ⟨q', hq', h1, h2, -⟩ := R.tb hN hq hlq
  have hu : ∀ p ∈ M.2.2.2.2.2.2, ∀ q ∈ M.2.2.2.2.2.2, p.1.1 = q.1.1 → p = q := fun p hp q hq e => hM.uq p hp q hq (Or.inr e)
  refine ⟨⟨q, hq, q2, hlq⟩, ?_⟩
  rw [← q1, TIq_at9 hu hq, h2]
  exact h1.2.2.2.2.2.1
theorem EnOk.ex {ts : List TQ} {st : List Nat} {es : List En} (h : EnOk ts st es) : ∀ e ∈ es, ∃ q ∈ ts, q.1.1 = e.2.2.2.2.2 ∧ q.2.1 = e.1 ∧ isB q.2.2.1.2.1 e.2.2.1 = true := fun e he => (h.2.1 e he).1
theorem Rel.vw (R : Rel w f g M N) (hi : i < 8) (hl : w (M.2.2.2.1 i).1 = true) : vwE N i = phi w f g (vwE M i) := by
  obtain ⟨h1, h2⟩ := R.2.2.2.2.1 i hi
  obtain ⟨a1, a2, a3, a4, a5⟩ := h2 hl
  unfold vwE
  rw [a1]
  split
  · exact a2
  · exact R.2.2.2.1
theorem Rel.lab (R : Rel w f g M N) (hi : i < 8) : (N.2.2.2.1 i).1 = (M.2.2.2.1 i).1 := (R.2.2.2.2.1 i hi).1
theorem Rel.busy (R : Rel w f g M N) (hi : i < 8) (hl : w (M.2.2.2.1 i).1 = true) : (N.2.2.2.1 i).2.2.1 = (M.2.2.2.1 i).2.2.1 := ((R.2.2.2.2.1 i hi).2 hl).1
theorem getLast_map9 {α β : Type} {h : α → β} : ∀ l : List α, (l.map h).getLast? = l.getLast?.map h := fun l => List.getLast?_map
/-- tables are found alike -/
theorem Rel.tn (hw : ∀ l lb, w lb = true → isB l lb = true → w l = true) (R : Rel w f g M N) (hM : WfM M c d) (hN : WfM N c' d') (hl : w lb = true) : tnM N lb nm = (tnM M lb nm).map g := by
  rw [tnM_last, tnM_last, R.2.2.1, List.filter_map, ← getLast_map9]
  refine congrArg (fun l => (List.map g l).getLast?) ?_
  rw [List.filter_filter]
  refine filter_congr9 (fun a ha => ?_)
  obtain ⟨q, hq, e⟩ := hM.1 a ha
  have hu : ∀ p ∈ M.2.2.2.2.2.2, ∀ q ∈ M.2.2.2.2.2.2, p.1.1 = q.1.1 → p = q := fun p hp q hq e => hM.uq p hp q hq (Or.inr e)
  have hT : TIq M.2.2.2.2.2.2 a = q.2.2.1 := by rw [← e]; exact TIq_at9 hu hq
  rw [hT]
  by_cases hlq : w q.2.2.1.2.1 = true
  · obtain ⟨q', hq', h1, h2, -⟩ := R.tb hN hq hlq
    rw [hlq, Bool.and_true]
    show tnP (TIq N.2.2.2.2.2.2) lb nm (g a) = tnP (TIq M.2.2.2.2.2.2) lb nm a
    unfold tnP
    rw [← e, h2, TIq_at9 hu hq, h1.2.2.1, h1.2.2.2.1]
  · rw [Bool.eq_false_iff.mpr hlq, Bool.and_false]
    unfold tnP
    rw [hT]
    by_cases hb : isB q.2.2.1.2.1 lb = true
    · exact absurd (hw _ _ hl hb) hlq
    · rw [Bool.eq_false_iff.mpr hb, Bool.and_false]
def RelR (w : Int32 → Bool) (f : Int32 → Int32) (g : Nat → Nat) (r r' : RM) : Prop := r'.1 = r.1 ∧ r'.2.1 = r.2.1 ∧ Rel w f g r.2.2 r'.2.2
theorem Rel.tly {t t' : List Int32} (R : Rel w f g M N) (h : ∀ n, n < 64 → w (Int32.ofNat n) = true → ∀ j, j < 4 → t'[n * 4 + j]? = t[n * 4 + j]?) : Rel w f g (mTally M t) (mTally N t') := by
  obtain ⟨h1, h2, h3, h4, h5, h6⟩ := R
  exact ⟨h1, h2, h3, h4, h5, h⟩
theorem Rel.ses {s s' : SM} (R : Rel w f g M N) (hs : SesR w f g M.2.2.1 N.2.2.1 s s') : Rel w f g (mS M i s) (mS N i s') := by
  obtain ⟨h1, h2, h3, h4, h5, h6⟩ := R
  refine ⟨h1, h2, h3, h4, fun j hj => ?_, h6⟩
  by_cases e : j = i
  · subst e
    rw [mS_at, mS_at]
    exact hs
  · rw [mS_ne e, mS_ne e]
    exact h5 j hj
/-- a session that isn't low -/
theorem Rel.sesH {s : SM} (R : Rel w f g M N) (hi : i < 8) (h1 : s.1 = (M.2.2.2.1 i).1) (hl : w (M.2.2.2.1 i).1 = false) : Rel w f g (mS M i s) N := by
  obtain ⟨a1, a2, a3, a4, a5, a6⟩ := R
  refine ⟨a1, a2, a3, a4, fun j hj => ?_, a6⟩
  by_cases e : j = i
  · subst e
    rw [mS_at]
    exact ⟨(a5 j hj).1.trans h1.symm, fun h9 => by rw [h1, hl] at h9; cases h9⟩
  · rw [mS_ne e]
    exact a5 j hj
theorem addT_at {ts : List Int32} {t k : Nat} : (addT ts t)[k]? = if t = k then (if t < ts.length then some ((ts[t]?).getD 0 + 1) else none) else ts[k]? := by
  unfold addT
  rw [List.getElem?_set]
theorem Rel.aT {x : Nat} (R : Rel w f g M N) (hx : x < 4) (hn : ln < 64) (hl : w (Int32.ofNat ln) = true) (hlM : M.2.2.2.2.1.length = 256) (hlN : N.2.2.2.2.1.length = 256) : ∀ n, n < 64 → w (Int32.ofNat n) = true → ∀ j, j < 4 → (addT N.2.2.2.2.1 (ln * 4 + x))[n * 4 + j]? = (addT M.2.2.2.2.1 (ln * 4 + x))[n * 4 + j]? := fun n hn9 hl9 j hj => by
  rw [addT_at, addT_at, hlM, hlN, R.2.2.2.2.2 ln hn hl x hx, R.2.2.2.2.2 n hn9 hl9 j hj]
theorem addT_hi {ts : List Int32} {x n j : Nat} (hx : x < 4) (hj : j < 4) (hne : n ≠ ln) : (addT ts (ln * 4 + x))[n * 4 + j]? = ts[n * 4 + j]? := by
  rw [addT_at, if_neg (by omega)]
theorem Rel.cnt {r r' : RM} (h : RelR w f g r r') (hi : i < 8) (hln : (r.2.2.2.2.2.1 i).1 = Int32.ofNat ln) (hl64 : ln < 64) (hl : w (Int32.ofNat ln) = true) (hM : r.2.2.2.2.2.2.1.length = 256) (hN : r'.2.2.2.2.2.2.1.length = 256) : RelR w f g (cntR r i ln) (cntR r' i ln) := by
  obtain ⟨e1, e2, R⟩ := h
  unfold cntR
  rw [e2]
  by_cases hz : r.2.1 = 0
  · rw [if_pos hz, if_pos hz]
    exact ⟨e1, rfl, R.tly (R.aT (by decide) hl64 hl hM hN)⟩
  · rw [if_neg hz, if_neg hz]
    refine ⟨rfl, e2 ▸ rfl, ?_⟩
    obtain ⟨s1, s2⟩ := R.2.2.2.2.1 i hi
    have R2 : Rel w f g (mS r.2.2 i (sRea (r.2.2.2.2.2.1 i) r.2.1)) (mS r'.2.2 i (sRea (r'.2.2.2.2.2.1 i) r.2.1)) := R.ses ⟨s1, s2⟩
    exact R2.tly (R.aT (by decide) hl64 hl hM hN)
theorem Rel.cntH {r : RM} (R : Rel w f g r.2.2 N) (hi : i < 8) (hln : (r.2.2.2.2.2.1 i).1 = Int32.ofNat ln) (hl : w (Int32.ofNat ln) = false) : Rel w f g (cntR r i ln).2.2 N := by
  have key : ∀ x, x < 4 → ∀ M2 : HM, Rel w f g M2 N → Rel w f g (mTally M2 (addT M2.2.2.2.2.1 (ln * 4 + x))) N := fun x hx M2 R2 => by
    obtain ⟨a1, a2, a3, a4, a5, a6⟩ := R2
    refine ⟨a1, a2, a3, a4, a5, fun n hn hln9 j hj => ?_⟩
    rw [a6 n hn hln9 j hj]
    exact (addT_hi hx hj (fun e => by rw [e, hl] at hln9; cases hln9)).symm
  unfold cntR
  split
  · exact key 0 (by decide) _ R
  · exact key 1 (by decide) _ (R.sesH hi rfl (by rw [hln]; exact hl))
theorem Rel.flt {fl : Nat} (R : Rel w f g M N) (hl64 : ln < 64) (hl : w (Int32.ofNat ln) = true) (hM : M.2.2.2.2.1.length = 256) (hN : N.2.2.2.2.1.length = 256) : RelR w f g (fltR M ln fl) (fltR N ln fl) := ⟨rfl, rfl, R.tly (R.aT (by decide) hl64 hl hM hN)⟩
theorem Rel.fltH {fl : Nat} (R : Rel w f g M N) (hl : w (Int32.ofNat ln) = false) : Rel w f g (fltR M ln fl).2.2 N := by
  obtain ⟨a1, a2, a3, a4, a5, a6⟩ := R
  refine ⟨a1, a2, a3, a4, a5, fun n hn hln9 j hj => ?_⟩
  rw [a6 n hn hln9 j hj]
  exact (addT_hi (by decide) hj (fun e => by rw [e, hl] at hln9; cases hln9)).symm
theorem Rel.l1 (R : Rel w f g M N) (hi : i < 8) : Rel w f g (M1l M i) (M1l N i) := by
  obtain ⟨s1, s2⟩ := R.2.2.2.2.1 i hi
  exact R.ses ⟨s1, s2⟩
theorem Rel.l1H (R : Rel w f g M N) (hi : i < 8) (hl : w (M.2.2.2.1 i).1 = false) : Rel w f g (M1l M i) N := R.sesH hi rfl hl
end
