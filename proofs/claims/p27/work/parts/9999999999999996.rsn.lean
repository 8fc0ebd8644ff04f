/-! the reason of a refusal stands at the session (by hand) -/
def rsF (x : Int32) : Prop := xfit .char (.int x) = true
theorem rsF_h {x : Int32} (h : xfit (xFT 14 11) (.int x) = true) : rsF x := h
/-- a refusal's reason -/
def Rsn (i : Nat) (r : RM) : Prop := ¬ r.2.1 = 0 → (r.2.2.2.2.2.1 i).2.1 = r.2.1 ∧ rsF r.2.1
section
variable {M : HM} {i ln : Nat} {q : TQ} {nm nm2 : Int32} {r : RM}
theorem rsn_cnt (h : rsF r.2.1) : Rsn i (cntR r i ln) := fun hz => by
  unfold cntR at hz ⊢
  by_cases h0 : r.2.1 = 0
  · rw [if_pos h0] at hz
    exact absurd rfl hz
  · rw [if_neg h0]
    refine ⟨?_, h⟩
    show ((mS r.2.2 i (sRea (r.2.2.2.2.2.1 i) r.2.1)).2.2.2.1 i).2.1 = r.2.1
    rw [mS_at]
    rfl
theorem rs_0 : rsF 0 := by unfold rsF; decide
theorem rs_109 : rsF 109 := by unfold rsF; decide
theorem rs_116 : rsF 116 := by unfold rsF; decide
theorem rs_put {gv : Bool} {vl : Nat → Int32} : rsF (putM M i ln q gv vl).2.1 := by
  unfold putM
  split
  · split
    · exact rs_0
    · exact rsF_h judgeQ_fit
  · exact rsF_h putRc_fit
theorem rs_alt {st : A3 → En → A3} {al : List En} : rsF (altM M i ln q st al).2.1 := by
  unfold altM
  split
  · exact rs_0
  · exact rsF_h judgeQ_fit
theorem rs_low {key other : Int32} : rsF (lowM M i q key other).2.1 := by
  unfold lowM
  split
  · split
    · exact rs_116
    · exact rs_0
  · exact rsF_h lowRc_fit
theorem rs_dr : rsF (drM M i q).2.1 := by
  unfold drM
  split
  · split
    · exact rs_116
    · exact rs_0
  · exact rs_116
theorem rs_get {w9 : Nat} {top : Int32} {t : QT} : rsF (getM M i w9 top t).2.1 := by
  unfold getM
  split
  · exact rs_0
  · exact rs_109
theorem rs_mk {q1 : TQ} : rsF (mkM M i nm q1).2.1 := by
  unfold mkM
  split
  · exact rs_116
  · exact rs_0
theorem rsn_flt {fl : Nat} : Rsn i (fltR M ln fl) := fun hz => absurd rfl hz
def FRs (F : MF) : Prop := ∀ (M : HM) (i ln : Nat) (r : RM), F M i ln r → Rsn i r
theorem frs_f1 {fl : Nat} {G : GT} (h : ∀ (q : TQ) (M : HM) (i ln : Nat), rsF (G q M i ln).2.1) : FRs (f1 nm fl G) := fun M i ln r hF => by
  cases e : tnM M (M.2.2.2.1 i).1 nm with
  | none => rw [f1_N e hF]; exact rsn_flt
  | some t =>
    obtain ⟨q, hq, q1, hr⟩ := f1_S e hF
    rw [hr]
    exact rsn_cnt (h q M i ln)
theorem frs_f2 {fl f9 wd : Nat} {top : Int32} {T : TQ → TQ → HM → Nat → QT} : FRs (f2 nm nm2 fl f9 (fun q q2 M i ln => getM M i wd top (T q q2 M i))) := fun M i ln r hF => by
  rcases f2_cs hF with ⟨e, hr⟩ | ⟨t, e, e2, hr⟩ | ⟨t, t2, e, e2, q, hq, q2, hq2, e3, e4, hr⟩
  · rw [hr]; exact rsn_flt
  · rw [hr]; exact rsn_flt
  · rw [hr]; exact rsn_cnt rs_get
theorem frs_fF {fl : Nat} : FRs (fF fl) := fun M i ln r hF => by
  rw [show r = fltR M ln fl from hF]; exact rsn_flt
theorem frs_fA : FRs fA := fun M i ln r hF => by
  obtain ⟨n, hn, hr⟩ := hF
  rw [hr]; exact rsn_cnt rs_mk
theorem frs_fU : FRs fU := fun M i ln r hF => by
  obtain ⟨n, hn, hr⟩ := hF
  rw [hr]; exact rsn_cnt rs_mk
theorem frs_fB {fl : Nat} : FRs (fB fl) := fun M i ln r hF => by
  rcases fB_cs hF with ⟨e, hr⟩ | ⟨t, e, q, hq, q1, n, hn, hr⟩
  · rw [hr]; exact rsn_flt
  · rw [hr]; exact rsn_cnt rs_mk
theorem frs_pbad (σ : Nat → Nat) : FRs (F_pbad σ) := fun M i ln r hF => by
  rcases pbad_cs hF with ⟨e, hr⟩ | ⟨e, hr⟩
  · rw [hr]; exact rsn_flt
  · rw [hr]; exact rsn_flt
end
