/-! the house: set, cut, lower, drop (by hand) -/
/-- what is altered keeps what is asked of drafts -/
theorem BsE.rf {es : List En} {e : En} (h : e ∈ es) : BsE es e := ⟨e, h, rfl, rfl⟩
theorem alt_ok {M : HM} {i n : Nat} {st : A3 → En → A3} {al : List En} (hsr : Srt (vwE M i)) (hl : (vwE M i).length ≤ n) (hf : ∀ a : A3, AI (BsE (vwE M i)) (vwE M i).length 0 a → AI (BsE (vwE M i)) ((vwE M i).length + al.length) (0 + al.length) (al.foldl st a)) : Srt (altA M i st al).1 ∧ (∀ e ∈ (altA M i st al).1, BsE (vwE M i) e) ∧ (∀ e ∈ (altA M i st al).2.1, BsE (vwE M i) e) ∧ (∀ e ∈ (altA M i st al).2.2, BsE (vwE M i) e) ∧ (altA M i st al).1.length ≤ n + al.length ∧ (altA M i st al).2.1.length ≤ al.length ∧ (altA M i st al).2.2.length ≤ al.length := by
  have h0 : AI (BsE (vwE M i)) (vwE M i).length 0 (vwE M i, [], []) := ⟨hsr, fun e he => BsE.rf he, fun e he => (List.not_mem_nil he).elim, fun e he => (List.not_mem_nil he).elim, Nat.le_refl _, Nat.le_refl _, Nat.le_refl _⟩
  obtain ⟨a1, a2, a3, a4, a5, a6, a7⟩ := hf _ h0
  unfold altA
  exact ⟨a1, a2, a3, a4, by omega, by omega, by omega⟩
theorem keep_lab {M : HM} {i : Nat} {D ts : List En} {gv : Bool} {t ln : Nat} : ((keepG M i D ts gv t ln).2.2.2.1 i).1 = (M.2.2.2.1 i).1 := by
  unfold keepG keepM
  split
  · split
    · show ((mS M i (sKeep (M.2.2.2.1 i) _ _)).2.2.2.1 i).1 = _
      rw [mS_at]; rfl
    · rfl
  · split
    · rw [mS_at]; rfl
    · rfl
theorem v_cut {S : List Int32} {g : List XC} {ow : Nat → Nat} {k : Nat} {A : Nat → Nat} {M : HM} {np nl i ln : Nat} {ρ σ : Nat → Nat} {ω : Nat → Value} {W : List WC} {q : TQ} (h : HR g ow k A M 0 np nl) (hi : i < 8) (hln : (M.2.2.2.1 i).1 = Int32.ofNat ln) (hl64 : ln < 64) (hV : WfV M i) (H : WH A ρ σ ω W g) (hb : cutB W = true) (hq : q ∈ M.2.2.2.2.2.2) (h18 : ρ 18 = q.1.1) (hal : (alP (fmW σ W) q.2.1 (lookE (TIq M.2.2.2.2.2.2) (vwE M i) (M.2.2.2.1 i).1)).length ≤ 49) : At S 12 40 66 [(3, .int (Int32.ofNat 4294967295)), (2, .ref (A (20 + i))), (0, .ref (A 0))] [] g 0 0 (QR g ow k A np nl 99 50000 (fun r => r = cntR (cutM M i ln q (fmW σ W)) i ln)) := by
  unfold cutB at hb
  obtain ⟨b0, bv⟩ := Bool.and_eq_true_iff.mp hb
  unfold altB at b0
  simp only [Bool.and_eq_true] at b0
  obtain ⟨b1, b2, b3, b4, b5⟩ := b0
  have bf := bf_120 (Bool.and_eq_true_iff.mp b1).1
  obtain ⟨sf, mf, ces, ws, es, gs, hS9, hm4, s3, m3, c3, c2⟩ := one_s H b1 h18
  obtain ⟨hsr, hEt, hlen, hSt, hst9, hend, hch, hsame, hwid⟩ := hV
  have h2v : sf[2]? = some (.retAddr 19) := by rw [s3 2 (by decide), wveq_s bv]; rfl
  have hvb : wvb W = 19 := by show wkn (wfl W 0 2) = 19; rw [wveq_s bv]; rfl
  have h2w : sf[2]? = some (.retAddr (wvb W)) := by rw [hvb]; exact h2v
  obtain ⟨al, eal⟩ : ∃ al, al = alP (fmW σ W) q.2.1 (lookE (TIq M.2.2.2.2.2.2) (vwE M i) (M.2.2.2.1 i).1) := ⟨_, rfl⟩
  have hll := look_len (TI := TIq M.2.2.2.2.2.2) (es := vwE M i) (lb := (M.2.2.2.1 i).1)
  have hEl : EnT M.2.2.2.2.2.2 (lookE (TIq M.2.2.2.2.2.2) (vwE M i) (M.2.2.2.1 i).1) := hEt.sub (fun e he => look_mem he)
  have hmok : ∀ r ∈ (lookE (TIq M.2.2.2.2.2.2) (vwE M i) (M.2.2.2.1 i).1), wif0 W < wif1 W → (resR r.2.2.1 (fun g => cellE r.2.2.2.2.1 [] g.toNatClampNeg) (((wos σ W).take (wif1 W)).drop (wif0 W)) []).isSome = true := fun r hr hlt => by
    rcases (Bool.or_eq_true _ _).mp b5 with e | e
    · have := Nat.le_of_ble_eq_true e; omega
    · exact resR_ok (wrs_ok e)
  have hop : ∀ h1 : List XC, HR h1 ow k A M 0 np nl → h1[A 6]? = some (.inr (11, [.ref (A 10), .int (M.2.2.2.1 i).1])) → hSh h1 (A 10) (lookE (TIq M.2.2.2.2.2.2) (vwE M i) (M.2.2.2.1 i).1) → ChS h1 A (M.2.2.2.1 i).1 0 0 (vwE M i) [] [] → StF h1 A (wif0 W) (wif1 W) (wits W) (wvb W) (wkd W) (wfr W) (wos σ W) sf mf ces ws es gs → Me S 9 193 [.ref (A 7), .ref (A 60), .ref (A 75), .ref (A 6)] h1 (fun v hp' c s => v = none ∧ HSu h1 hp' ow k A M 0 np nl c s (2 * al.length) (1005 * al.length) ∧ ChS hp' A (M.2.2.2.1 i).1 (Int32.ofNat (0 + al.length)) (bI false) (altA M i (stepC (M.2.2.2.1 i).1) al).1 (altA M i (stepC (M.2.2.2.1 i).1) al).2.1 (altA M i (stepC (M.2.2.2.1 i).1) al).2.2 ∧ (∃ vs : List Int32, hp'[A 73]? = some (.inl (16, vs.map Value.int)) ∧ vs.length = 120) ∧ FrX (fun x => x = A 7 ∨ x = A 15 ∨ x = A 12 ∨ x = A 13 ∨ x = A 73) h1 hp') := fun h1 r1 g6 g10 c1 f1 => by
    rw [eal]
    exact h_acut (al := 0) (lv := 0) r1 c1 f1 g6 g10 hq hm4 hsr hEl (by omega) (by show 0 + _ ≤ _; omega) (by show 0 + _ ≤ _; omega) (by omega) (by rw [wos_len]; omega) h2w (wnmb_s b2) (by rw [wos_len]; exact Nat.le_of_ble_eq_true b3) hmok (by rw [hvb]; decide)
  rw [Nat.zero_add] at hop
  have hmem : ∀ r ∈ al, r ∈ vwE M i := fun r hr => by rw [eal] at hr; exact look_mem (alP_mem hr).1
  have hal2 : al.length ≤ 49 := by rw [eal]; exact hal
  obtain ⟨a1, a2, a3, a4, a5, a6, a7⟩ := alt_ok (n := 600) (st := stepC (M.2.2.2.1 i).1) (al := al) hsr hlen (fun a h0 => AI.fC al _ _ a h0 (fun r hr => ⟨r, hmem r hr, rfl, rfl⟩))
  have hED : EnT M.2.2.2.2.2.2 (altA M i (stepC (M.2.2.2.1 i).1) al).1 := hEt.of a2
  have hEm : EnT M.2.2.2.2.2.2 (altA M i (stepC (M.2.2.2.1 i).1) al).2.2 := hEt.of a4
  have hsm : ∀ f ∈ (altA M i (stepC (M.2.2.2.1 i).1) al).1, f.1 = q.2.1 → f.2.2.2.2.2 = q.1.1 := fun f hf e => by
    obtain ⟨r, hr, e1, e2⟩ := a2 f hf
    rw [← e2]
    exact hsame q hq r hr (e1.trans e)
  by_cases hj : judgeQ M q (altA M i (stepC (M.2.2.2.1 i).1) al).1 (altA M i (stepC (M.2.2.2.1 i).1) al).2.2 (M.2.2.2.1 i).1 = 0
  · have e9 : cutM M i ln q (fmW σ W) = (Int32.ofNat al.length, 0, keepG M i (altA M i (stepC (M.2.2.2.1 i).1) al).1 (altA M i (stepC (M.2.2.2.1 i).1) al).2.1 false q.1.1 ln) := by
      unfold cutM altM
      rw [← eal, if_pos hj]
    rw [e9]
    exact run_a (vb := 19) h hi (keep_lab.trans hln) hl64 hS9.2.1 h2v (Or.inr (Or.inr rfl)) (h_alt19k (rc := 0) h hi hsr hEt (by omega) hS9 h2v hq hm4 hop (hwid q hq).1 a1 hED hEm (by omega) hsm hj (by omega) (by omega) hln hl64) (by decide) (fun e hp' c s h9 => QR.k0 rfl h9 (by omega) (by omega)) (fun e => absurd rfl e)
  · have e9 : cutM M i ln q (fmW σ W) = (0, judgeQ M q (altA M i (stepC (M.2.2.2.1 i).1) al).1 (altA M i (stepC (M.2.2.2.1 i).1) al).2.2 (M.2.2.2.1 i).1, M) := by
      unfold cutM altM
      rw [← eal, if_neg hj]
    rw [e9]
    exact run_a (vb := 19) h hi hln hl64 hS9.2.1 h2v (Or.inr (Or.inr rfl)) (h_alt19j (rc := 0) (ln := ln) h hi hsr hEt (by omega) hS9 h2v hq hm4 hop (hwid q hq).1 a1 hED hEm (by omega) hsm hj) judgeQ_fit (fun e => absurd e hj) (fun e hp' c s h9 => QR.k1 hj h9 (by omega) (by omega))
theorem v_set {S : List Int32} {g : List XC} {ow : Nat → Nat} {k : Nat} {A : Nat → Nat} {M : HM} {np nl i ln : Nat} {ρ σ : Nat → Nat} {ω : Nat → Value} {W : List WC} {q : TQ} {col : Nat} (h : HR g ow k A M 0 np nl) (hi : i < 8) (hln : (M.2.2.2.1 i).1 = Int32.ofNat ln) (hl64 : ln < 64) (hV : WfV M i) (H : WH A ρ σ ω W g) (hb : setB col W = true) (hq : q ∈ M.2.2.2.2.2.2) (h18 : ρ 18 = q.1.1) (hc0 : 0 < col) (hcw : col < q.2.2.1.2.2.1.length) (hal : (alP (fmW σ W) q.2.1 (lookE (TIq M.2.2.2.2.2.2) (vwE M i) (M.2.2.2.1 i).1)).length ≤ 49) : At S 12 40 66 [(3, .int (Int32.ofNat 4294967295)), (2, .ref (A (20 + i))), (0, .ref (A 0))] [] g 0 0 (QR g ow k A np nl 99 50000 (fun r => r = cntR (setM M i ln q col (fmW σ W) (fvW σ W)) i ln)) := by
  unfold setB at hb
  simp only [Bool.and_eq_true] at hb
  obtain ⟨b0, bv, d1, d2, d3, d4, d5, d6, d7⟩ := hb
  unfold altB at b0
  simp only [Bool.and_eq_true] at b0
  obtain ⟨b1, b2, b3, b4, b5⟩ := b0
  have bf := bf_120 (Bool.and_eq_true_iff.mp b1).1
  obtain ⟨sf, mf, ces, ws, es, gs, hS9, hm4, s3, m3, c3, c2⟩ := one_s H b1 h18
  obtain ⟨hsr, hEt, hlen, hSt, hst9, hend, hch, hsame, hwid⟩ := hV
  have h2v : sf[2]? = some (.retAddr 18) := by rw [s3 2 (by decide), wveq_s bv]; rfl
  have hvb : wvb W = 18 := by show wkn (wfl W 0 2) = 18; rw [wveq_s bv]; rfl
  have h2w : sf[2]? = some (.retAddr (wvb W)) := by rw [hvb]; exact h2v
  have hm9 : mf[9]? = some (.ref (A 76)) := by rw [m3 9 (by decide), wveq_s d1]; show some (Value.ref (ρ 16)) = _; rw [H.2.1 16 (by decide)]
  have hcv : ces[0]? = some (.int (Int32.ofNat col)) := by rw [c3 0 (by decide), wveq_s d2]; rfl
  have h15 : sf[15]? = some (.int 1) := by rw [s3 15 (by decide), wveq_s d3]; rfl
  obtain ⟨al, eal⟩ : ∃ al, al = alP (fmW σ W) q.2.1 (lookE (TIq M.2.2.2.2.2.2) (vwE M i) (M.2.2.2.1 i).1) := ⟨_, rfl⟩
  have hll := look_len (TI := TIq M.2.2.2.2.2.2) (es := vwE M i) (lb := (M.2.2.2.1 i).1)
  have hEl : EnT M.2.2.2.2.2.2 (lookE (TIq M.2.2.2.2.2.2) (vwE M i) (M.2.2.2.1 i).1) := hEt.sub (fun e he => look_mem he)
  have hmok : ∀ r ∈ (lookE (TIq M.2.2.2.2.2.2) (vwE M i) (M.2.2.2.1 i).1), wif0 W < wif1 W → (resR r.2.2.1 (fun g => cellE r.2.2.2.2.1 [] g.toNatClampNeg) (((wos σ W).take (wif1 W)).drop (wif0 W)) []).isSome = true := fun r hr hlt => by
    rcases (Bool.or_eq_true _ _).mp b5 with e | e
    · have := Nat.le_of_ble_eq_true e; omega
    · exact resR_ok (wrs_ok e)
  have htd : ∀ p ∈ M.2.2.2.2.2.2, ∀ q ∈ M.2.2.2.2.2.2, p.1.1 = q.1.1 ∨ p.1.2.1 = q.1.2.1 → p = q := h.2.2.2.2.2.2.2.2.2.2.2.2.2.2.2.2.1
  have hwq : ∀ r ∈ (lookE (TIq M.2.2.2.2.2.2) (vwE M i) (M.2.2.2.1 i).1), r.1 = q.2.1 → ((TIq M.2.2.2.2.2.2) r.2.2.2.2.2).2.2.1.length ≤ 1000 ∧ 0 < col ∧ col < ((TIq M.2.2.2.2.2.2) r.2.2.2.2.2).2.2.1.length := fun r hr e => by
    rw [hsame q hq r (look_mem hr) e, TIq_at htd hq]
    have := (hwid q hq).2
    exact ⟨by omega, hc0, hcw⟩
  have hop : ∀ h1 : List XC, HR h1 ow k A M 0 np nl → h1[A 6]? = some (.inr (11, [.ref (A 10), .int (M.2.2.2.1 i).1])) → hSh h1 (A 10) (lookE (TIq M.2.2.2.2.2.2) (vwE M i) (M.2.2.2.1 i).1) → ChS h1 A (M.2.2.2.1 i).1 0 0 (vwE M i) [] [] → StF h1 A (wif0 W) (wif1 W) (wits W) (wvb W) (wkd W) (wfr W) (wos σ W) sf mf ces ws es gs → Me S 9 193 [.ref (A 7), .ref (A 60), .ref (A 75), .ref (A 6)] h1 (fun v hp' c s => v = none ∧ HSu h1 hp' ow k A M 0 np nl c s (2 * al.length) (1005 * al.length) ∧ ChS hp' A (M.2.2.2.1 i).1 (Int32.ofNat (0 + al.length)) (bI false) (altA M i (stepS (rowS M.2.2.2.2.2.2 (M.2.2.2.1 i).1 col (fvW σ W))) al).1 (altA M i (stepS (rowS M.2.2.2.2.2.2 (M.2.2.2.1 i).1 col (fvW σ W))) al).2.1 (altA M i (stepS (rowS M.2.2.2.2.2.2 (M.2.2.2.1 i).1 col (fvW σ W))) al).2.2 ∧ (∃ vs : List Int32, hp'[A 73]? = some (.inl (16, vs.map Value.int)) ∧ vs.length = 120) ∧ FrX (fun x => x = A 7 ∨ x = A 15 ∨ x = A 12 ∨ x = A 13 ∨ x = A 73) h1 hp') := fun h1 r1 g6 g10 c1 f1 => by
    rw [eal]
    exact h_aset (al := 0) (lv := 0) (col := col) (b16 := false) (b27 := false) r1 c1 f1 g6 g10 hq hm4 hsr hEl (by omega) (by show 0 + _ ≤ _; omega) (by show 0 + _ ≤ _; omega) (by omega) (by rw [wos_len]; omega) h2w (wnmb_s b2) (by rw [wos_len]; exact Nat.le_of_ble_eq_true b3) hmok (by rw [hvb]; decide) (by rw [hvb]; decide) (by rw [hvb]; decide) hm9 hcv (by rw [c2]; decide) h15 hwq (Nat.le_of_ble_eq_true d4) rfl rfl (by rw [wos_len]; exact Nat.le_of_ble_eq_true d5) (by rw [wos_len]; exact Nat.le_of_ble_eq_true d6) (fun r hr => resR_ok (wrs_ok (by rw [wos_len]; exact d7)))
  rw [Nat.zero_add] at hop
  have hmem : ∀ r ∈ al, r ∈ vwE M i := fun r hr => by rw [eal] at hr; exact look_mem (alP_mem hr).1
  have hal2 : al.length ≤ 49 := by rw [eal]; exact hal
  obtain ⟨st, est⟩ : ∃ st, st = stepS (rowS M.2.2.2.2.2.2 (M.2.2.2.1 i).1 col (fvW σ W)) := ⟨_, rfl⟩
  rw [← est] at hop
  obtain ⟨a1, a2, a3, a4, a5, a6, a7⟩ := alt_ok (n := 600) (st := st) (al := al) hsr hlen (fun a h0 => by rw [est]; exact AI.fS al _ _ a h0 (fun r hr => ⟨r, hmem r hr, rfl, rfl⟩))
  have hED : EnT M.2.2.2.2.2.2 (altA M i st al).1 := hEt.of a2
  have hEm : EnT M.2.2.2.2.2.2 (altA M i st al).2.2 := hEt.of a4
  have hsm : ∀ f ∈ (altA M i st al).1, f.1 = q.2.1 → f.2.2.2.2.2 = q.1.1 := fun f hf e => by
    obtain ⟨r, hr, e1, e2⟩ := a2 f hf
    rw [← e2]
    exact hsame q hq r hr (e1.trans e)
  by_cases hj : judgeQ M q (altA M i st al).1 (altA M i st al).2.2 (M.2.2.2.1 i).1 = 0
  · have e9 : setM M i ln q col (fmW σ W) (fvW σ W) = (Int32.ofNat al.length, 0, keepG M i (altA M i st al).1 (altA M i st al).2.1 false q.1.1 ln) := by
      unfold setM altM
      rw [← eal, ← est, if_pos hj]
    rw [e9]
    exact run_a (vb := 18) h hi (keep_lab.trans hln) hl64 hS9.2.1 h2v (Or.inr (Or.inl rfl)) (h_alt18k (rc := 0) h hi hsr hEt (by omega) hS9 h2v hq hm4 hop (hwid q hq).1 a1 hED hEm (by omega) hsm hj (by omega) (by omega) hln hl64) (by decide) (fun e hp' c s h9 => QR.k0 rfl h9 (by omega) (by omega)) (fun e => absurd rfl e)
  · have e9 : setM M i ln q col (fmW σ W) (fvW σ W) = (0, judgeQ M q (altA M i st al).1 (altA M i st al).2.2 (M.2.2.2.1 i).1, M) := by
      unfold setM altM
      rw [← eal, ← est, if_neg hj]
    rw [e9]
    exact run_a (vb := 18) h hi hln hl64 hS9.2.1 h2v (Or.inr (Or.inl rfl)) (h_alt18j (rc := 0) (ln := ln) h hi hsr hEt (by omega) hS9 h2v hq hm4 hop (hwid q hq).1 a1 hED hEm (by omega) hsm hj) judgeQ_fit (fun e => absurd e hj) (fun e hp' c s h9 => QR.k1 hj h9 (by omega) (by omega))
/-- lower's two numbers -/
def lowV (σ : Nat → Nat) (W : List WC) (j : Nat) : Int32 := resE (-1000000000) (fun _ => -1000000000) (((wos σ W).take (itTo (wits W) (wif0 W) (wos σ W).length j true (wfr W))).drop (wfr W j))
def lowB (W : List WC) : Bool := oneB W && (wveq (wfl W 0 2) (wK 27) && (wnmB W && (List.range 2).all (fun i => Nat.ble (i + 1) (wits W) && (Nat.ble (wfr W i) (itTo (wits W) (wif0 W) (wfn W) i true (wfr W)) && (Nat.ble (itTo (wits W) (wif0 W) (wfn W) i true (wfr W)) (wfn W) && wrs W (wfr W i) (itTo (wits W) (wif0 W) (wfn W) i true (wfr W)))))))
theorem v_low {S : List Int32} {g : List XC} {ow : Nat → Nat} {k : Nat} {A : Nat → Nat} {M : HM} {np nl i ln : Nat} {ρ σ : Nat → Nat} {ω : Nat → Value} {W : List WC} {q : TQ} (h : HR g ow k A M 0 np nl) (hi : i < 8) (hln : (M.2.2.2.1 i).1 = Int32.ofNat ln) (hl64 : ln < 64) (hV : WfV M i) (H : WH A ρ σ ω W g) (hb : lowB W = true) (hq : q ∈ M.2.2.2.2.2.2) (h18 : ρ 18 = q.1.1) : At S 12 40 66 [(3, .int (Int32.ofNat 4294967295)), (2, .ref (A (20 + i))), (0, .ref (A 0))] [] g 0 0 (QR g ow k A np nl 2 11 (fun r => r = cntR (lowM M i q (lowV σ W 0) (lowV σ W 1)) i ln)) := by
  unfold lowB at hb
  simp only [Bool.and_eq_true] at hb
  obtain ⟨b1, bv, b6, b7⟩ := hb
  have bf := bf_120 (Bool.and_eq_true_iff.mp b1).1
  obtain ⟨sf, mf, ces, ws, es, gs, hS9, hm4, s3, m3, c3, c2⟩ := one_s H b1 h18
  obtain ⟨hsr, hEt, hlen, hSt, hst9, hend, hch, hsame, hwid⟩ := hV
  have h2v : sf[2]? = some (.retAddr 27) := by rw [s3 2 (by decide), wveq_s bv]; rfl
  have hvb : wvb W = 27 := by show wkn (wfl W 0 2) = 27; rw [wveq_s bv]; rfl
  obtain ⟨rc, hrc⟩ : ∃ rc, rc = lowRc (vwE M i) q (lowV σ W 0) (lowV σ W 1) (M.2.2.2.1 i).1 := ⟨_, rfl⟩
  obtain ⟨oe, hoe⟩ : ∃ oe, oe = lowO (vwE M i) q (lowV σ W 0) (lowV σ W 1) (M.2.2.2.1 i).1 := ⟨_, rfl⟩
  have hop : ∀ h1 : List XC, HR h1 ow k A M 0 np nl → ChS h1 A (M.2.2.2.1 i).1 0 0 (vwE M i) [] [] → StF h1 A (wif0 W) (wif1 W) (wits W) (wvb W) (wkd W) (wfr W) (wos σ W) sf mf ces ws es gs → Me S 8 179 [.ref (A 7), .ref (A 60), .ref (A 75)] h1 (fun v hp' c s => some (.int rc) = v ∧ HSu h1 hp' ow k A M 0 np nl c s 1 5 ∧ ChS hp' A (M.2.2.2.1 i).1 0 0 (lowD (vwE M i) oe) ([] ++ oe.toList) ([] ++ oe.toList) ∧ (∃ vs : List Int32, hp'[A 73]? = some (.inl (16, vs.map Value.int)) ∧ vs.length = 120) ∧ FrX (fun x => x = A 7 ∨ x = A 15 ∨ x = A 12 ∨ x = A 13 ∨ x = A 73) h1 hp') := fun h1 r1 c1 f1 => by
    rw [hrc, hoe]
    refine h_clower (b16 := false) (b27 := true) r1 c1 f1 hq hm4 hsr (by omega) (by show 0 ≤ 3000; omega) (by show 0 ≤ 3000; omega) (by rw [wos_len]; omega) (by rw [hvb]; decide) (by rw [hvb]; decide) (wnmb_s b6) (fun j hj => ?_) rfl rfl
    have e := List.all_eq_true.mp b7 j (List.mem_range.mpr hj)
    simp only [Bool.and_eq_true] at e
    obtain ⟨e1, e2, e3, e4⟩ := e
    have e1 := Nat.le_of_ble_eq_true e1
    rw [wos_len]
    exact ⟨by omega, Nat.le_of_ble_eq_true e2, Nat.le_of_ble_eq_true e3, resR_ok (wrs_ok e4)⟩
  have hfit0 : xfit (xFT 14 11) (.int rc) = true := by rw [hrc]; exact lowRc_fit
  have hot : oe.toList.length ≤ 1 := by cases oe with
    | none => exact Nat.zero_le _
    | some x => exact Nat.le_refl _
  have hD : (lowD (vwE M i) oe).length ≤ 601 := by
    cases oe with
    | none => show (vwE M i).length ≤ 601; omega
    | some x => have := store_len9 (vwE M i) x; show (storeE (vwE M i) x).length ≤ 601; omega
  by_cases hr : rc = 0
  · by_cases hbz : (M.2.2.2.1 i).2.2.1 = true
    · have e9 : lowM M i q (lowV σ W 0) (lowV σ W 1) = (0, 116, M) := by
        unfold lowM
        rw [← hrc, if_pos hr, if_pos hbz]
      rw [e9]
      exact run_l (vb := 27) h hi hln hl64 hS9.2.1 h2v rfl (h_lowt h hi (by omega) hS9 hop hfit0 hr hbz) (by decide) (fun e => absurd e (by decide)) (fun e hp' c s h9 => QR.k1 (by decide) h9 (by decide) (by decide))
    · have e9 : lowM M i q (lowV σ W 0) (lowV σ W 1) = (1, 0, mEnded (mShelf M (lowD (vwE M i) oe)) (M.2.2.1 ++ oe.toList)) := by
        unfold lowM
        rw [← hrc, ← hoe, if_pos hr, if_neg hbz]
      rw [e9]
      rw [List.nil_append] at hop
      exact run_l (vb := 27) h hi (M2 := mEnded (mShelf M (lowD (vwE M i) oe)) (M.2.2.1 ++ oe.toList)) hln hl64 hS9.2.1 h2v rfl (h_lowk h hi (by omega) hS9 hop hfit0 hr (Bool.eq_false_iff.mpr hbz) (by omega) (by omega) (by omega)) (by decide) (fun e hp' c s h9 => QR.k0 rfl h9 (by decide) (by decide)) (fun e => absurd rfl e)
  · have e9 : lowM M i q (lowV σ W 0) (lowV σ W 1) = (0, rc, M) := by
      unfold lowM
      rw [← hrc, if_neg hr]
    rw [e9]
    exact run_l (vb := 27) h hi hln hl64 hS9.2.1 h2v rfl (h_lowr h hi (by omega) hS9 hop hfit0 hr) hfit0 (fun e => absurd e hr) (fun e hp' c s h9 => QR.k1 hr h9 (by decide) (by decide))
def drB (W : List WC) : Bool := oneB W && wveq (wfl W 0 2) (wK 21)
theorem v_drop {S : List Int32} {g : List XC} {ow : Nat → Nat} {k : Nat} {A : Nat → Nat} {M : HM} {np nl i ln : Nat} {ρ σ : Nat → Nat} {ω : Nat → Value} {W : List WC} {q : TQ} (h : HR g ow k A M 0 np nl) (hi : i < 8) (hln : (M.2.2.2.1 i).1 = Int32.ofNat ln) (hl64 : ln < 64) (hV : WfV M i) (H : WH A ρ σ ω W g) (hb : drB W = true) (hq : q ∈ M.2.2.2.2.2.2) (h18 : ρ 18 = q.1.1) (hsl : ∀ i, i < 8 → (M.2.2.2.1 i).2.2.2.1.length ≤ 3000) (hshf : M.2.1.length ≤ 3000) : At S 12 40 66 [(3, .int (Int32.ofNat 4294967295)), (2, .ref (A (20 + i))), (0, .ref (A 0))] [] g 0 0 (QR g ow k A np nl 1 6 (fun r => r = cntR (drM M i q) i ln)) := by
  unfold drB at hb
  obtain ⟨b1, bv⟩ := Bool.and_eq_true_iff.mp hb
  obtain ⟨sf, mf, ces, ws, es, gs, hS9, hm4, s3, m3, c3, c2⟩ := one_s H b1 h18
  obtain ⟨hsr, hEt, hlen, hSt, hst9, hend, hch, hsame, hwid⟩ := hV
  have h2v : sf[2]? = some (.retAddr 21) := by rw [s3 2 (by decide), wveq_s bv]; rfl
  have hmf : g[A 75]? = some (.inr (6, mf)) := hS9.2.2.2.2.1
  by_cases hl : q.2.2.1.2.1 = (M.2.2.2.1 i).1
  · by_cases hbz : (M.2.2.2.1 i).2.2.1 = true
    · have e9 : drM M i q = (0, 116, M) := by unfold drM; rw [if_pos hl, if_pos hbz]
      rw [e9]
      exact run_d (vb := 21) h hi hln hl64 hS9.2.1 h2v rfl (h_dropb h hi hmf hm4 hq hl hbz) (by decide) (fun e => absurd e (by decide)) (fun e hp' c s h9 => QR.k1 (by decide) h9 (by decide) (by decide))
    · have e9 : drM M i q = (1, 0, drpM M q) := by unfold drM; rw [if_pos hl, if_neg hbz]
      rw [e9]
      have hlk : ((drpM M q).2.2.2.1 i).1 = Int32.ofNat ln := by
        rw [← hln]
        show (if 0 ≤ i ∧ i < 8 then sDrp (M.2.2.2.1 i) q.2.1 else (M.2.2.2.1 i)).1 = _
        split
        · rfl
        · rfl
      exact run_d (vb := 21) h hi hlk hl64 hS9.2.1 h2v rfl (h_dropc h hi hmf hm4 hq hl (Bool.eq_false_iff.mpr hbz) hSt (by omega) hshf hsl) (by decide) (fun e hp' c s h9 => QR.k0 rfl h9 (by decide) (by decide)) (fun e => absurd rfl e)
  · have e9 : drM M i q = (0, 116, M) := by unfold drM; rw [if_neg hl]
    rw [e9]
    exact run_d (vb := 21) h hi hln hl64 hS9.2.1 h2v rfl (h_dropa h hi hmf hm4 hq hl) (by decide) (fun e => absurd e (by decide)) (fun e hp' c s h9 => QR.k1 (by decide) h9 (by decide) (by decide))
theorem v_flt {S : List Int32} {g : List XC} {ow : Nat → Nat} {k : Nat} {A : Nat → Nat} {M : HM} {np nl i ln f : Nat} (h : HR g ow k A M 0 np nl) (hi : i < 8) (hln : (M.2.2.2.1 i).1 = Int32.ofNat ln) (hl64 : ln < 64) (hf0 : (0 : Int32) ≤ Int32.ofNat f) : At S 12 40 66 [(3, .int (Int32.ofNat f)), (2, .ref (A (20 + i))), (0, .ref (A 0))] [] g 0 0 (QR g ow k A np nl 0 0 (fun r => r = fltR M ln f)) := run_f h hi hln hl64 hf0 (fun hp' c s h9 => ⟨fltR M ln f, hp', c, s, rfl, h9, Or.inl ⟨rfl, rfl⟩⟩)
