/-! statements that change no rows: the mass does not grow (by hand) -/
section
variable {M : HM} {c d i ln : Nat} {q q1 : TQ} {nm nm2 : Int32}
theorem wf_get0 {w9 : Nat} {top : Int32} {t : QT} (h : WfM M c d) (hi : i < 8) : WfM (getM M i w9 top t).2.2 c d := by
  unfold getM
  split
  · exact h.ses hi (s := sAns (M.2.2.2.1 i) t.1.length w9 t.1.flatten) (h.2.2.2.2.2.2.1 i hi) (Nat.le_refl _)
  · exact h
theorem wfh_get0 {w9 : Nat} {top : Int32} {t : QT} (h : WfH M c d) (hi : i < 8) : WfH (getM M i w9 top t).2.2 c d := ⟨wf_get0 h.1 hi, (wfh_get (t := t) (top := top) (w9 := w9) h hi).2.1, (wfh_get (t := t) (top := top) (w9 := w9) h hi).2.2⟩
def FWf0 (F : MF) : Prop := ∀ (M : HM) (i ln c d : Nat) (r : RM), WfH M c d → i < 8 → F M i ln r → WfH r.2.2 c d
theorem f0_f1 {fl : Nat} {G : GT} (h : ∀ (q : TQ) (M : HM) (i ln c d : Nat), WfH M c d → i < 8 → WfH (G q M i ln).2.2 c d) : FWf0 (f1 nm fl G) := fun M i ln c d r hM hi hF => by
  cases e : tnM M (M.2.2.2.1 i).1 nm with
  | none => rw [f1_N e hF]; exact hM.flt
  | some t =>
    obtain ⟨q, hq, q1, hr⟩ := f1_S e hF
    rw [hr]
    exact (h q M i ln c d hM hi).cnt hi
theorem f0_f2 {fl f9 wd : Nat} {top : Int32} {T : TQ → TQ → HM → Nat → QT} : FWf0 (f2 nm nm2 fl f9 (fun q q2 M i ln => getM M i wd top (T q q2 M i))) := fun M i ln c d r hM hi hF => by
  rcases f2_cs hF with ⟨e, hr⟩ | ⟨t, e, e2, hr⟩ | ⟨t, t2, e, e2, q, hq, q2, hq2, e3, e4, hr⟩
  · rw [hr]; exact hM.flt
  · rw [hr]; exact hM.flt
  · rw [hr]; exact (wfh_get0 hM hi).cnt hi
theorem f0_m1 (σ : Nat → Nat) : FWf0 (F_m1 σ) := by
  unfold F_m1
  exact f0_f1 (fun q M i ln c d hM hi => wfh_get0 hM hi)
theorem f0_m2 (σ : Nat → Nat) : FWf0 (F_m2 σ) := by
  unfold F_m2
  exact f0_f2
theorem f0_m3 (σ : Nat → Nat) : FWf0 (F_m3 σ) := by
  unfold F_m3
  exact f0_f1 (fun q M i ln c d hM hi => wfh_get0 hM hi)
/-- a table made: the mass is the same -/
theorem wf_down {M' : HM} {c' d' : Nat} (h : WfM M' c' d') (hm : massM M' ≤ 48 * d) : WfM M' c' d := by
  obtain ⟨h1, h2, h3, h4, h5, h6, h7, h8, h9⟩ := h
  exact ⟨h1, h2, h3, h4, h5, h6, h7, hm, h9⟩
theorem mk_mass : massM (mkM M i nm q1).2.2 = massM M := by
  unfold mkM
  split
  · rfl
  · rfl
theorem cnt_mass {r : RM} : massM (cntR r i ln).2.2 = massM r.2.2 := by
  unfold cntR
  split
  · rfl
  · have e : sumL (fun j => ((mS r.2.2 i (sRea (r.2.2.2.2.2.1 i) r.2.1)).2.2.2.1 j).2.2.2.2.1.length) (List.range 8) = sumL (fun j => (r.2.2.2.2.2.1 j).2.2.2.2.1.length) (List.range 8) := sum8s (fun j => by
      by_cases e : j = i
      · subst e
        rw [mS_at]
        rfl
      · rw [mS_ne e])
    show r.2.2.2.2.1.length + sumL (fun j => ((mS r.2.2 i (sRea (r.2.2.2.2.2.1 i) r.2.1)).2.2.2.1 j).2.2.2.2.1.length) (List.range 8) = _
    rw [e]
    rfl
theorem f0_fA {r : RM} (h : WfH M c d) (hi : i < 8) (hc : c + 1 ≤ 1000) (hF : fA M i ln r) : WfH r.2.2 (c + 1) d := by
  obtain ⟨n, hn, hr⟩ := hF
  have h9 := (wfh_mk (nm := 14348907) h hi (new_A hn) rfl hc).cnt (ln := ln) hi
  rw [← hr] at h9
  refine ⟨wf_down h9.1 ?_, h9.2.1, h9.2.2⟩
  rw [hr, cnt_mass, mk_mass]
  exact h.1.2.2.2.2.2.2.2.1
end
