/-! the law's areMet (by gho.py) -/
def GV (M M' : HM) (i : Nat) : Prop := vwE M' i = vwE M i ∧ M'.2.2.2.2.2.2 = M.2.2.2.2.2.2 ∧ (M'.2.2.2.1 i).1 = (M.2.2.2.1 i).1 ∧ M'.1 = M.1
section
variable {M M2 M3 : HM} {i ln c d : Nat} {cs : List Nat} {r r1 r2 r3 : RM} {σ : Nat → Nat}
theorem GV.tr (h : GV M M2 i) (k : GV M2 M3 i) : GV M M3 i := ⟨k.1.trans h.1, k.2.1.trans h.2.1, k.2.2.1.trans h.2.2.1, k.2.2.2.trans h.2.2.2⟩
theorem gv_ml : GV M (ml M i cs) i := by
  refine ⟨?_, rfl, ml_lab, rfl⟩
  have e : vwE (ml M i cs) i = vwE (saidM M i cs) i := l1_vw
  rw [e]
  obtain ⟨h1, h2, h3, h4, h5, h6, h7⟩ := tyF_k cs (sLen (M.2.2.2.1 i) 0)
  show (if ((mS M i (tyF (sLen (M.2.2.2.1 i) 0) cs)).2.2.2.1 i).2.2.1 = true then ((mS M i (tyF (sLen (M.2.2.2.1 i) 0) cs)).2.2.2.1 i).2.2.2.1 else M.2.1) = (if (M.2.2.2.1 i).2.2.1 = true then (M.2.2.2.1 i).2.2.2.1 else M.2.1)
  rw [mS_at, h3, h4]
  rfl
theorem gv_flt {f : Nat} : GV M (fltR M ln f).2.2 i := ⟨rfl, rfl, rfl, rfl⟩
theorem gv_get {w9 : Nat} {top : Int32} {t : QT} : GV M (cntR (getM M i w9 top t) i ln).2.2 i := by
  obtain ⟨h1, h2, h3, h4⟩ := get_vw (M := M) (i := i) (w9 := w9) (top := top) (t := t)
  obtain ⟨k1, k2, k3, k4, -⟩ := cnt_vw (r := getM M i w9 top t) (i := i) (ln := ln)
  exact ⟨k1.trans h1, k2.trans h2, k3.trans h3, k4.trans h4⟩
theorem gm1 (hF : F_m1 σ M i ln r) : GV M r.2.2 i := by
  unfold F_m1 at hF
  cases e : tnM M (M.2.2.2.1 i).1 28697814 with
  | none => rw [f1_N e hF]; exact gv_flt
  | some t =>
    obtain ⟨q, hq, q1, hr⟩ := f1_S e hF
    rw [hr]
    exact gv_get
theorem gm2 (hF : F_m2 σ M i ln r) : GV M r.2.2 i ∧ (¬ r.2.1 = 0 → r.2.1 = 109) := by
  unfold F_m2 at hF
  rcases f2_cs hF with ⟨e, hr⟩ | ⟨t, e, e2, hr⟩ | ⟨t, t2, e, e2, q, hq, q2, hq2, e3, e4, hr⟩
  · rw [hr]; exact ⟨gv_flt, fun h => absurd rfl h⟩
  · rw [hr]; exact ⟨gv_flt, fun h => absurd rfl h⟩
  · rw [hr]
    refine ⟨gv_get, fun h => ?_⟩
    rw [cnt_vw.2.2.2.2.1] at h ⊢
    unfold getM at h ⊢
    split
    · rename_i h9
      rw [if_pos h9] at h
      exact absurd rfl h
    · rfl
theorem gm3 (hF : F_m3 σ M i ln r) : GV M r.2.2 i := by
  unfold F_m3 at hF
  cases e : tnM M (M.2.2.2.1 i).1 28697814 with
  | none => rw [f1_N e hF]; exact gv_flt
  | some t =>
    obtain ⟨q, hq, q1, hr⟩ := f1_S e hF
    rw [hr]
    exact gv_get
theorem tn_gv {nm lb : Int32} (h : GV M M2 i) : tnM M2 lb nm = tnM M lb nm := by
  unfold tnM tsM
  rw [h.2.1, h.2.2.2]
theorem mt_fin {s1 s2 s3 : Nat → Nat} {cs2 cs3 : List Nat} (hW : WfH M c d) (hi : i < 8) (h1 : F_m1 s1 M i ln r1) (h2 : F_m2 s2 (ml r1.2.2 i cs2) i ln r2) (h3 : F_m3 s3 (ml r2.2.2 i cs3) i ln r3) (k1 : xcm .ge (tdV r1) 0 = true) (k2 : xcm .lt (tdV r2) 0 = false) (k3 : xcm .gt (tdV r2) (tdV r3) = true) : False := by
  have hW1 : WfH r1.2.2 c d := f0_m1 s1 M i ln c d r1 hW hi h1
  have g1 : GV M (ml r1.2.2 i cs2) i := (gm1 h1).tr gv_ml
  obtain ⟨g2, h109⟩ := gm2 h2
  have g3 : GV (ml r1.2.2 i cs2) (ml r2.2.2 i cs3) i := g2.tr gv_ml
  have hb : ¬ tnM (ml r1.2.2 i cs2) ((ml r1.2.2 i cs2).2.2.2.1 i).1 28697814 = none := fun e => by
    rw [g1.2.2.1, tn_gv g1] at e
    rcases m1_cs h1 with ⟨-, hr⟩ | ⟨t, ht⟩
    · rw [hr] at k1
      exact absurd k1 (show ¬ xcm .ge (-1 - Int32.ofNat 11) 0 = true by decide)
    · rw [e] at ht
      cases ht
  have n2 : ¬ tdV r2 < 0 := of_decide_eq_false k2
  have z2 : r2.2.1 = 0 := Decidable.of_not_not (fun h => n2 (by
    unfold tdV
    rw [if_neg h, h109 h]
    decide))
  have e2 : tdV r2 = r2.1 := by
    unfold tdV
    rw [if_pos z2]
  rcases met_F (ml_wf hW1 hi).1 hi h2 h3 g3.1 g3.2.1 g3.2.2.1 g3.2.2.2 hb with m | m | ⟨m1, m2, m3⟩
  · exact m z2
  · rw [e2] at n2
    exact n2 m
  · have e3 : tdV r3 = r3.1 := by
      unfold tdV
      rw [if_pos m1]
    rw [e2, e3] at k3
    have k9 : r3.1 < r2.1 := of_decide_eq_true k3
    exact absurd m2 (Int32.not_le.mpr k9)
end
theorem w_donex {S : List Int32} {A B : Nat → Nat} {L la io : Nat} {hp : List XC} {ow : Nat → Nat} {M N : HM} {lbs ops : List Int32} {top : Int32} {dt pc ps i ln c d q : Nat} {F : MF} {ds : List Nat} (W : W2 A B L la io hp ow M N lbs ops top dt pc ps) (hi : i < 8) (hT : ∀ hp ow, hTn9 hp ow (.retAddr q) ds) (hcs : ∀ c ∈ ds, 32 ≤ c ∧ c ≤ 126) (hdl : ds.length < 120) (hRun : TxRun ds F) (hRs : FRs F) (hW : WfH M c d) (hd : d ≤ 30) (hc : c < 400) (hln : (M.2.2.2.1 i).1 = Int32.ofNat ln) (hl64 : ln < 64) : Me S 13 27 [.ref (A 0), .int (Int32.ofNat i), .retAddr q] hp (fun v hp' c s => ∃ M2 N2, (∃ r, F (ml M i ds) i ln r ∧ v = some (.int (tdV r)) ∧ M2 = r.2.2 ∧ N2 = N) ∧ S2 A B L la io hp hp' ow M2 N2 lbs ops top dt pc ps c s 99 50000) :=
  me_imp (W.x (P := fun v M' => ∃ r, F (ml M i ds) i ln r ∧ v = some (.int (tdV r)) ∧ M' = r.2.2) (fun rx px lx h => me_imp (m_done (ln := ln) (P := fun r => F (ml M i ds) i ln r) h hi (by decide) (hT _ _) hcs hdl (fun g ow1 np1 nl1 hg => hRun S g ow1 _ _ M rx np1 nl1 i ln c d hg hi hW hd hc hln hl64 (h.t120 hi)) (fun r hr => hRs _ i ln r hr)) (fun v hp' c s k => by
    obtain ⟨r, k1, k2, k3⟩ := k
    exact ⟨_, _, ⟨r, k1, k2, rfl⟩, k3⟩))) (fun v hp' c s k => by
    obtain ⟨M', ⟨r, k1, k2, k3⟩, k4⟩ := k
    exact ⟨_, _, ⟨r, k1, k2, k3, rfl⟩, k4⟩)
theorem w_doney {S : List Int32} {A B : Nat → Nat} {L la io : Nat} {hp : List XC} {ow : Nat → Nat} {M N : HM} {lbs ops : List Int32} {top : Int32} {dt pc ps i ln c d q : Nat} {F : MF} {ds : List Nat} (W : W2 A B L la io hp ow M N lbs ops top dt pc ps) (hi : i < 8) (hT : ∀ hp ow, hTn9 hp ow (.retAddr q) ds) (hcs : ∀ c ∈ ds, 32 ≤ c ∧ c ≤ 126) (hdl : ds.length < 120) (hRun : TxRun ds F) (hRs : FRs F) (hW : WfH N c d) (hd : d ≤ 30) (hc : c < 400) (hln : (N.2.2.2.1 i).1 = Int32.ofNat ln) (hl64 : ln < 64) : Me S 13 27 [.ref (B 0), .int (Int32.ofNat i), .retAddr q] hp (fun v hp' c s => ∃ M2 N2, (∃ r, F (ml N i ds) i ln r ∧ v = some (.int (tdV r)) ∧ N2 = r.2.2 ∧ M2 = M) ∧ S2 A B L la io hp hp' ow M2 N2 lbs ops top dt pc ps c s 99 50000) :=
  me_imp (W.y (P := fun v M' => ∃ r, F (ml N i ds) i ln r ∧ v = some (.int (tdV r)) ∧ M' = r.2.2) (fun rx px lx h => me_imp (m_done (ln := ln) (P := fun r => F (ml N i ds) i ln r) h hi (by decide) (hT _ _) hcs hdl (fun g ow1 np1 nl1 hg => hRun S g ow1 _ _ N rx np1 nl1 i ln c d hg hi hW hd hc hln hl64 (h.t120 hi)) (fun r hr => hRs _ i ln r hr)) (fun v hp' c s k => by
    obtain ⟨r, k1, k2, k3⟩ := k
    exact ⟨_, _, ⟨r, k1, k2, rfl⟩, k3⟩))) (fun v hp' c s k => by
    obtain ⟨M', ⟨r, k1, k2, k3⟩, k4⟩ := k
    exact ⟨_, _, ⟨r, k1, k2, k3, rfl⟩, k4⟩)
theorem m_met {S : List Int32} {A B : Nat → Nat} {L la io i ln c d : Nat} {hp : List XC} {ow : Nat → Nat} {M N : HM} {lbs ops : List Int32} {top : Int32} {dt pc ps : Nat} (W : W2 A B L la io hp ow M N lbs ops top dt pc ps) (hdt : dt ≤ 100000) (hW : WfH M c d) (hd : d ≤ 30) (hc : c < 400) (hi : i < 8) (hln : (M.2.2.2.1 i).1 = Int32.ofNat ln) (hl64 : ln < 64) : Me S 14 269 [.ref L, .int (Int32.ofNat i)] hp (fun v hp' c9 s9 => v = some (.int 1) ∧ ∃ M', WfH M' c d ∧ S2 A B L la io hp hp' ow M' N lbs ops top dt pc ps c9 s9 297 150000) := by
  have B0 := S2T.of W
  obtain ⟨tt0, sd0, fx0, fy0, gL0, gla0, gio0, gx0, gy0, gl8, go8⟩ := S2T.lk B0
  refine At.go (q := xm269) rfl 1 (pc' := 1) (L' := [(0, .ref L), (1, .int (Int32.ofNat i))]) (st' := [.ref L]) rfl ?_
  refine At.gf rfl (by decide) gL0 rfl ?_
  refine At.go (q := xm269) rfl 2 (pc' := 7) (L' := [(0, .ref L), (1, .int (Int32.ofNat i))]) (st' := [.retAddr 121, .int (Int32.ofNat i), .ref (A 0)]) rfl ?_
  refine At.clm (as := [.ref (A 0), .int (Int32.ofNat i), .retAddr 121]) (rest := []) rfl (by decide) rfl (Nat.le_of_ble_eq_true rfl) (Nat.le_of_ble_eq_true rfl) rfl (Nat.le_of_ble_eq_true rfl) (S2T.thn B0 (P := fun v M2 N2 => ∃ r, F_m1 (sg 0 0 0 0 0 0) (ml M i [103, 101, 116, 32, 114, 32, 102, 114, 111, 109, 32, 98, 32, 105, 102, 32, 107, 110, 111, 119, 110, 32, 114]) i ln r ∧ v = some (.int (tdV r)) ∧ M2 = r.2.2 ∧ N2 = N) (K2 := 99) (J2 := 50000) (fun ow pc ps W hT => w_donex W hi (fun _ _ => hTnK (vk := 122) rfl rfl (ds := [103, 101, 116, 32, 114, 32, 102, 114, 111, 109, 32, 98, 32, 105, 102, 32, 107, 110, 111, 119, 110, 32, 114]) (by decide) (by decide)) (eqT_lit (σ := (sg 0 0 0 0 0 0)) [103, 101, 116, 32, 114, 32, 102, 114, 111, 109, 32, 98, 32, 105, 102, 32, 107, 110, 111, 119, 110, 32, 114] (by decide)).2.1 (by decide) (tx_m1 (eqT_lit (σ := (sg 0 0 0 0 0 0)) [103, 101, 116, 32, 114, 32, 102, 114, 111, 109, 32, 98, 32, 105, 102, 32, 107, 110, 111, 119, 110, 32, 114] (by decide))) (frs_m1 (sg 0 0 0 0 0 0)) hW hd hc hln hl64)) (fun v hp1 c1 s1 hv => ?_)
  obtain ⟨M9, N9, ⟨r1, hF1, rfl, eM, eN⟩, B1⟩ := hv
  rw [eM, eN] at B1
  clear eM eN
  have hW1 : WfH r1.2.2 c d := f0_m1 (sg 0 0 0 0 0 0) _ i ln c d r1 (ml_wf hW hi) hi hF1
  have hln1 : (r1.2.2.2.2.2.1 i).1 = Int32.ofNat ln := ((gm1 hF1).2.2.1.trans ml_lab).trans hln
  obtain ⟨tt1, sd1, fx1, fy1, gL1, gla1, gio1, gx1, gy1, gl8, go8⟩ := S2T.lk B1
  refine At.go (q := xm269) rfl 2 (pc' := 12) (L' := [(2, .int (tdV r1)), (0, .ref L), (1, .int (Int32.ofNat i))]) (st' := [.int (tdV r1)]) rfl ?_
  refine At.ic1 (tgt := 17) rfl rfl (fun h12 => ?_) (fun h12 => ?_)
  · refine At.go (q := xm269) rfl 1 (pc' := 18) (L' := [(2, .int (tdV r1)), (0, .ref L), (1, .int (Int32.ofNat i))]) (st' := [.ref L]) rfl ?_
    refine At.gf rfl (by decide) gL1 rfl ?_
    refine At.go (q := xm269) rfl 2 (pc' := 25) (L' := [(2, .int (tdV r1)), (0, .ref L), (1, .int (Int32.ofNat i))]) (st' := [.retAddr 123, .int (Int32.ofNat i), .ref (A 0)]) rfl ?_
    refine At.clm (as := [.ref (A 0), .int (Int32.ofNat i), .retAddr 123]) (rest := []) rfl (by decide) rfl (Nat.le_of_ble_eq_true rfl) (Nat.le_of_ble_eq_true rfl) rfl (Nat.le_of_ble_eq_true rfl) (S2T.thn B1 (P := fun v M2 N2 => ∃ r, F_m2 (sg 0 0 0 0 0 0) (ml r1.2.2 i [103, 101, 116, 32, 114, 44, 99, 111, 117, 110, 116, 32, 102, 114, 111, 109, 32, 98, 32, 106, 111, 105, 110, 32, 97, 32, 111, 110, 32, 114, 61, 107, 32, 98, 121, 32, 114]) i ln r ∧ v = some (.int (tdV r)) ∧ M2 = r.2.2 ∧ N2 = N) (K2 := 99) (J2 := 50000) (fun ow pc ps W hT => w_donex W hi (fun _ _ => hTnK (vk := 124) rfl rfl (ds := [103, 101, 116, 32, 114, 44, 99, 111, 117, 110, 116, 32, 102, 114, 111, 109, 32, 98, 32, 106, 111, 105, 110, 32, 97, 32, 111, 110, 32, 114, 61, 107, 32, 98, 121, 32, 114]) (by decide) (by decide)) (eqT_lit (σ := (sg 0 0 0 0 0 0)) [103, 101, 116, 32, 114, 44, 99, 111, 117, 110, 116, 32, 102, 114, 111, 109, 32, 98, 32, 106, 111, 105, 110, 32, 97, 32, 111, 110, 32, 114, 61, 107, 32, 98, 121, 32, 114] (by decide)).2.1 (by decide) (tx_m2 (eqT_lit (σ := (sg 0 0 0 0 0 0)) [103, 101, 116, 32, 114, 44, 99, 111, 117, 110, 116, 32, 102, 114, 111, 109, 32, 98, 32, 106, 111, 105, 110, 32, 97, 32, 111, 110, 32, 114, 61, 107, 32, 98, 121, 32, 114] (by decide))) (frs_m2 (sg 0 0 0 0 0 0)) hW1 hd hc hln1 hl64)) (fun v hp2 c2 s2 hv => ?_)
    obtain ⟨M9, N9, ⟨r2, hF2, rfl, eM, eN⟩, B2⟩ := hv
    rw [eM, eN] at B2
    clear eM eN
    have hW2 : WfH r2.2.2 c d := f0_m2 (sg 0 0 0 0 0 0) _ i ln c d r2 (ml_wf hW1 hi) hi hF2
    have hln2 : (r2.2.2.2.2.2.1 i).1 = Int32.ofNat ln := ((gm2 hF2).1.2.2.1.trans ml_lab).trans hln1
    obtain ⟨tt2, sd2, fx2, fy2, gL2, gla2, gio2, gx2, gy2, gl8, go8⟩ := S2T.lk B2
    refine At.go (q := xm269) rfl 2 (pc' := 30) (L' := [(3, .int (tdV r2)), (2, .int (tdV r1)), (0, .ref L), (1, .int (Int32.ofNat i))]) (st' := [.ref L]) rfl ?_
    refine At.gf rfl (by decide) gL2 rfl ?_
    refine At.go (q := xm269) rfl 2 (pc' := 37) (L' := [(3, .int (tdV r2)), (2, .int (tdV r1)), (0, .ref L), (1, .int (Int32.ofNat i))]) (st' := [.retAddr 125, .int (Int32.ofNat i), .ref (A 0)]) rfl ?_
    refine At.clm (as := [.ref (A 0), .int (Int32.ofNat i), .retAddr 125]) (rest := []) rfl (by decide) rfl (Nat.le_of_ble_eq_true rfl) (Nat.le_of_ble_eq_true rfl) rfl (Nat.le_of_ble_eq_true rfl) (S2T.thn B2 (P := fun v M2 N2 => ∃ r, F_m3 (sg 0 0 0 0 0 0) (ml r2.2.2 i [103, 101, 116, 32, 114, 44, 99, 111, 117, 110, 116, 32, 102, 114, 111, 109, 32, 98, 32, 105, 102, 32, 107, 110, 111, 119, 110, 32, 114, 32, 98, 121, 32, 114]) i ln r ∧ v = some (.int (tdV r)) ∧ M2 = r.2.2 ∧ N2 = N) (K2 := 99) (J2 := 50000) (fun ow pc ps W hT => w_donex W hi (fun _ _ => hTnK (vk := 126) rfl rfl (ds := [103, 101, 116, 32, 114, 44, 99, 111, 117, 110, 116, 32, 102, 114, 111, 109, 32, 98, 32, 105, 102, 32, 107, 110, 111, 119, 110, 32, 114, 32, 98, 121, 32, 114]) (by decide) (by decide)) (eqT_lit (σ := (sg 0 0 0 0 0 0)) [103, 101, 116, 32, 114, 44, 99, 111, 117, 110, 116, 32, 102, 114, 111, 109, 32, 98, 32, 105, 102, 32, 107, 110, 111, 119, 110, 32, 114, 32, 98, 121, 32, 114] (by decide)).2.1 (by decide) (tx_m3 (eqT_lit (σ := (sg 0 0 0 0 0 0)) [103, 101, 116, 32, 114, 44, 99, 111, 117, 110, 116, 32, 102, 114, 111, 109, 32, 98, 32, 105, 102, 32, 107, 110, 111, 119, 110, 32, 114, 32, 98, 121, 32, 114] (by decide))) (frs_m3 (sg 0 0 0 0 0 0)) hW2 hd hc hln2 hl64)) (fun v hp3 c3 s3 hv => ?_)
    obtain ⟨M9, N9, ⟨r3, hF3, rfl, eM, eN⟩, B3⟩ := hv
    rw [eM, eN] at B3
    clear eM eN
    have hW3 : WfH r3.2.2 c d := f0_m3 (sg 0 0 0 0 0 0) _ i ln c d r3 (ml_wf hW2 hi) hi hF3
    have hln3 : (r3.2.2.2.2.2.1 i).1 = Int32.ofNat ln := ((gm3 hF3).2.2.1.trans ml_lab).trans hln2
    obtain ⟨tt3, sd3, fx3, fy3, gL3, gla3, gio3, gx3, gy3, gl8, go8⟩ := S2T.lk B3
    refine At.go (q := xm269) rfl 2 (pc' := 43) (L' := [(4, .int (tdV r3)), (3, .int (tdV r2)), (2, .int (tdV r1)), (0, .ref L), (1, .int (Int32.ofNat i))]) (st' := [.int (tdV r2)]) rfl ?_
    refine At.ic1 (tgt := 52) rfl rfl (fun h43 => ?_) (fun h43 => ?_)
    · refine At.go (q := xm269) rfl 2 (pc' := 57) (L' := [(4, .int (tdV r3)), (3, .int (tdV r2)), (2, .int (tdV r1)), (0, .ref L), (1, .int (Int32.ofNat i))]) (st' := [.int 1]) rfl ?_
      exact At.rt rfl rfl ⟨_, _, _, _, rfl, rfl, _, hW3, S2.dtm (S2T.to2 B3) (Nat.le_refl _) hdt (by omega) (by omega)⟩
    · refine At.go (q := xm269) rfl 2 (pc' := 49) (L' := [(4, .int (tdV r3)), (3, .int (tdV r2)), (2, .int (tdV r1)), (0, .ref L), (1, .int (Int32.ofNat i))]) (st' := [.int (tdV r3), .int (tdV r2)]) rfl ?_
      refine At.ic2 (tgt := 56) rfl rfl (fun h49 => ?_) (fun h49 => ?_)
      · refine At.go (q := xm269) rfl 1 (pc' := 57) (L' := [(4, .int (tdV r3)), (3, .int (tdV r2)), (2, .int (tdV r1)), (0, .ref L), (1, .int (Int32.ofNat i))]) (st' := [.int 0]) rfl ?_
        exact (mt_fin (ml_wf hW hi) hi hF1 hF2 hF3 h12 h43 h49).elim
      · refine At.go (q := xm269) rfl 2 (pc' := 57) (L' := [(4, .int (tdV r3)), (3, .int (tdV r2)), (2, .int (tdV r1)), (0, .ref L), (1, .int (Int32.ofNat i))]) (st' := [.int 1]) rfl ?_
        exact At.rt rfl rfl ⟨_, _, _, _, rfl, rfl, _, hW3, S2.dtm (S2T.to2 B3) (Nat.le_refl _) hdt (by omega) (by omega)⟩
  · refine At.go (q := xm269) rfl 1 (pc' := 16) (L' := [(2, .int (tdV r1)), (0, .ref L), (1, .int (Int32.ofNat i))]) (st' := [.int 1]) rfl ?_
    exact At.rt rfl rfl ⟨_, _, _, _, rfl, rfl, _, hW1, S2.dtm (S2T.to2 B1) (Nat.le_refl _) hdt (by omega) (by omega)⟩
