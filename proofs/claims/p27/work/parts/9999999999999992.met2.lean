/-! areMet's three statements over models (by hand) -/
section
variable {M M3 : HM} {c d i ln : Nat} {r1 r2 r3 : RM} {σ σ' : Nat → Nat}
theorem flt_neg {f : Nat} (hf : f < 1000) : (fltR M ln f).1 < 0 := by
  show -1 - Int32.ofNat f < 0
  have key : ∀ f, f < 1000 → -1 - Int32.ofNat f < 0 := by decide +kernel
  exact key f hf
theorem met_F (hW : WfM M c d) (hi : i < 8) (h2 : F_m2 σ M i ln r2) (h3 : F_m3 σ' M3 i ln r3) (hv : vwE M3 i = vwE M i) (hT : M3.2.2.2.2.2.2 = M.2.2.2.2.2.2) (hl : (M3.2.2.2.1 i).1 = (M.2.2.2.1 i).1) (hs : M3.1 = M.1) (hb : ¬ tnM M (M.2.2.2.1 i).1 28697814 = none) : ¬ r2.2.1 = 0 ∨ r2.1 < 0 ∨ (r3.2.1 = 0 ∧ r2.1 ≤ r3.1 ∧ ¬ r3.1 < 0) := by
  unfold F_m2 at h2
  unfold F_m3 at h3
  have e3 : tnM M3 (M3.2.2.2.1 i).1 28697814 = tnM M (M.2.2.2.1 i).1 28697814 := by
    rw [hl]
    unfold tnM tsM
    rw [hT, hs]
  rcases f2_cs h2 with ⟨e, hr⟩ | ⟨t, e, e2, hr⟩ | ⟨t, t2, e, e2, q, hq, q2, hq2, e4, e5, hr⟩
  · exact absurd e hb
  · rw [hr]
    exact Or.inr (Or.inl (flt_neg (by decide)))
  · rw [e] at e3
    obtain ⟨q', hq', e6, hr3⟩ := f1_S e3 h3
    rw [hT] at hq'
    have eq : q' = q := hW.uq q' hq' q hq (Or.inr (by rw [e6, e4]))
    rw [eq, hv, hT, hl] at hr3
    have hC := hW.cc hi
    have hce := gth48 (sr := q.2.1) (b := false) hC
    have hcf := gth48 (sr := q2.2.1) (b := false) hC
    have k := met9 (so := none) (so' := none) (dn := bI (decide ((0 : Nat) = 14))) (dn' := bI (decide ((0 : Nat) = 14))) (sc := Int32.ofNat 0) (kp := 150) (w9 := 2) (w9' := 2) (if0 := wif0 bW_m2_ba) (if1 := wif1 bW_m2_ba) (items := wits bW_m2_ba) (if0' := wif0 bW_m3_b) (if1' := wif1 bW_m3_b) (items' := wits bW_m3_b) (kd := wkd bW_m2_ba) (fr := wfr bW_m2_ba) (kd' := wkd bW_m3_b) (fr' := wfr bW_m3_b) (os := wos σ bW_m2_ba) (os' := wos σ' bW_m3_b) (es := gthE false (vwE M i) (lookE (TIq M.2.2.2.2.2.2) (vwE M i) (M.2.2.2.1 i).1) q.2.1 (M.2.2.2.1 i).1) (fs := gthE false (vwE M i) (lookE (TIq M.2.2.2.2.2.2) (vwE M i) (M.2.2.2.1 i).1) q2.2.1 (M.2.2.2.1 i).1) (by omega) (by omega) (fun e he => m3_kn he)
    revert hr hr3 k
    generalize qJN none (bI (decide ((0 : Nat) = 14))) 150 2 (wif0 bW_m2_ba) (wif1 bW_m2_ba) (wits bW_m2_ba) 1 (wkd bW_m2_ba) (wfr bW_m2_ba) (wos σ bW_m2_ba) (Int32.ofNat 1) (Int32.ofNat 0) (gthE false (vwE M i) (lookE (TIq M.2.2.2.2.2.2) (vwE M i) (M.2.2.2.1 i).1) q.2.1 (M.2.2.2.1 i).1) (gthE false (vwE M i) (lookE (TIq M.2.2.2.2.2.2) (vwE M i) (M.2.2.2.1 i).1) q2.2.1 (M.2.2.2.1 i).1) = J
    generalize q0N none (bI (decide ((0 : Nat) = 14))) 150 2 (wif0 bW_m3_b) (wif1 bW_m3_b) (wits bW_m3_b) 1 (wkd bW_m3_b) (wfr bW_m3_b) (wos σ' bW_m3_b) (gthE false (vwE M i) (lookE (TIq M.2.2.2.2.2.2) (vwE M i) (M.2.2.2.1 i).1) q.2.1 (M.2.2.2.1 i).1) = U
    intro hr hr3 k
    obtain ⟨k1, k2, k3, k4⟩ := k
    by_cases hz : anE (Int32.ofNat J.2) 999999999 = 1
    · have gU := get_good (M := M3) (i := i) (w9 := 2) (top := 999999999) (t := U) (anE_1 (by omega))
      have gJ := get_good (M := M) (i := i) (w9 := 2) (top := 999999999) (t := J) hz
      rw [gU] at hr3
      rw [gJ] at hr
      have r31 : r3.2.1 = 0 := by rw [hr3]; exact cnt_vw.2.2.2.2.1
      have r32 : r3.1 = Int32.ofNat U.1.length := by rw [hr3]; exact cnt_vw.2.2.2.2.2 rfl
      have r22 : r2.1 = Int32.ofNat J.1.length := by rw [hr]; exact cnt_vw.2.2.2.2.2 rfl
      refine Or.inr (Or.inr ⟨r31, ?_, ?_⟩)
      · rw [r22, r32]
        exact Int32.not_lt.mp (fun h9 => by
          have := (iN_lt (by omega) (by omega)).mp h9
          omega)
      · rw [r32]
        exact iN_nn (by omega)
    · refine Or.inl ?_
      rw [hr]
      have e9 : getM M i 2 999999999 J = (0, 109, M) := if_neg hz
      rw [e9]
      intro h9
      have h8 := cnt_vw (r := (0, 109, M)) (i := i) (ln := ln) |>.2.2.2.2.1
      rw [h9] at h8
      exact absurd (show (0 : Int32) = 109 from h8) (by decide)
end
