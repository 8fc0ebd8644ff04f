/-! the house: a run, by the tables that its statement means (by hand) -/
theorem hso9 {h3 : List XC} {ow : Nat → Nat} {k : Nat} {M : HM} (hStd : StT M.2.2.2.2.2.2 M.1) (hTq9 : ∀ q ∈ M.2.2.2.2.2.2, hTq h3 ow k q) : ∀ a ∈ M.1, ∃ fs, h3[a]? = some (.inr (13, fs)) := fun a ha => by
  obtain ⟨q, hq, e⟩ := hStd a ha
  obtain ⟨ca, ka, ra, ga, chk, dv, t1, -⟩ := (hTq9 q hq).1
  rw [← e]
  exact ⟨_, t1⟩
theorem r_zero {S : List Int32} {hp : List XC} {ow : Nat → Nat} {k : Nat} {A : Nat → Nat} {M : HM} {rf : Int32} {np nl i rn Kc Ks : Nat} {σ : Nat → Nat} {t : List WV} {R W : List WC} {P : RM → Prop} (h : HR hp ow k A M rf np nl) (hi : i < 8) (hStd : StT M.2.2.2.2.2.2 M.1) (hlab : (M.2.2.2.1 i).1 = Int32.ofNat (wg [0, 1, 16, 17] (σ 10))) (ht : ((M.2.2.2.1 i).2.2.2.2.2.2.2.2.take t.length).map Value.int = wtT σ t) (hlen : (M.2.2.2.1 i).2.2.2.2.2.2.2.1 = t.length) (hE9 : wrdE t R = true) (hr9 : wrB t R 4294967295 = true) (hE2 : wbdE [] [] bC0 R (wI rn) W = true) (hB2 : wfrB (List.range 17) (R.take 15 ++ (wM0 ++ [])) W = true) (hsm : wsmB W = true) (hK : ∀ (h4 : List XC) (ρ : Nat → Nat) (ω' : Nat → Value), HR h4 ow k A (M1l M i) 0 np nl → (∀ j, (ω' j).category = 1) → ρ 17 = A 2 → WH A ρ σ ω' W h4 → At S 12 40 66 [(3, .int (Int32.ofNat rn)), (2, .ref (A (20 + i))), (0, .ref (A 0))] [] h4 0 0 (QR h4 ow k A np nl Kc Ks P)) : At S 12 40 0 [(0, .ref (A 0)), (1, .int (Int32.ofNat i))] [] hp 0 0 (QR hp ow k A np nl Kc Ks P) :=
  h_runP h hi (TA := fun _ => True) hE9 hr9 ht hlen hE2 hB2 hsm hStd hlab (fun h3 ω hω hD hTq9 how => by
    obtain ⟨ω', hB⟩ := BT0 (σ := σ) hD hω
    exact ⟨_, ω', hB, fun p hp => (List.not_mem_nil hp).elim, trivial⟩) (fun h4 ρ ω' ta hR hω h17 hW _ _ f hc => At.mono (hK h4 ρ ω' hR hω h17 hW) (fun o ho => QR.lift f hc ho))
theorem r_none {S : List Int32} {hp : List XC} {ow : Nat → Nat} {k : Nat} {A : Nat → Nat} {M : HM} {rf : Int32} {np nl i rn Kc Ks : Nat} {σ : Nat → Nat} {t : List WV} {R W : List WC} {P : RM → Prop} {tb : List (Nat × WV × Option Nat)} (h : HR hp ow k A M rf np nl) (hi : i < 8) (hStd : StT M.2.2.2.2.2.2 M.1) (hlab : (M.2.2.2.1 i).1 = Int32.ofNat (wg [0, 1, 16, 17] (σ 10))) (ht : ((M.2.2.2.1 i).2.2.2.2.2.2.2.2.take t.length).map Value.int = wtT σ t) (hlen : (M.2.2.2.1 i).2.2.2.2.2.2.2.1 = t.length) (hE9 : wrdE t R = true) (hr9 : wrB t R 4294967295 = true) (hE2 : wbdE tb [] bC0 R (wI rn) W = true) (hB2 : wfrB (List.range 17) (R.take 15 ++ (wM0 ++ [])) W = true) (hsm : wsmB W = true) (hn : ∀ p ∈ tb, p.2.2 = none ∧ ∃ nm, (∀ ρ ω, wt ρ σ ω p.2.1 = .int nm) ∧ tnM M (M.2.2.2.1 i).1 nm = none) (hK : ∀ (h4 : List XC) (ρ : Nat → Nat) (ω' : Nat → Value), HR h4 ow k A (M1l M i) 0 np nl → (∀ j, (ω' j).category = 1) → ρ 17 = A 2 → WH A ρ σ ω' W h4 → At S 12 40 66 [(3, .int (Int32.ofNat rn)), (2, .ref (A (20 + i))), (0, .ref (A 0))] [] h4 0 0 (QR h4 ow k A np nl Kc Ks P)) : At S 12 40 0 [(0, .ref (A 0)), (1, .int (Int32.ofNat i))] [] hp 0 0 (QR hp ow k A np nl Kc Ks P) :=
  h_runP h hi (TA := fun _ => True) hE9 hr9 ht hlen hE2 hB2 hsm hStd hlab (fun h3 ω hω hD hTq9 how => by
    obtain ⟨ω', hB⟩ := BT0 (σ := σ) hD hω
    refine ⟨_, ω', hB, fun p hp => ?_, trivial⟩
    obtain ⟨e, nm, e1, e2⟩ := hn p hp
    refine ⟨nm, e1 _ _, ?_⟩
    rw [e]
    rw [hlab] at e2
    exact tnM_none e2) (fun h4 ρ ω' ta hR hω h17 hW _ _ f hc => At.mono (hK h4 ρ ω' hR hω h17 hW) (fun o ho => QR.lift f hc ho))
theorem r_a {S : List Int32} {hp : List XC} {ow : Nat → Nat} {k : Nat} {A : Nat → Nat} {M : HM} {rf : Int32} {np nl i rn Kc Ks : Nat} {σ : Nat → Nat} {t : List WV} {R W : List WC} {P : RM → Prop} {tb : List (Nat × WV × Option Nat)} {q : TQ} (h : HR hp ow k A M rf np nl) (hi : i < 8) (hStd : StT M.2.2.2.2.2.2 M.1) (hlab : (M.2.2.2.1 i).1 = Int32.ofNat (wg [0, 1, 16, 17] (σ 10))) (ht : ((M.2.2.2.1 i).2.2.2.2.2.2.2.2.take t.length).map Value.int = wtT σ t) (hlen : (M.2.2.2.1 i).2.2.2.2.2.2.2.1 = t.length) (hE9 : wrdE t R = true) (hr9 : wrB t R 4294967295 = true) (hE2 : wbdE tb bT0 bC1 R (wI rn) W = true) (hB2 : wfrB (List.range 17) (R.take 15 ++ (wM0 ++ bT0)) W = true) (hsm : wsmB W = true) (hq : q ∈ M.2.2.2.2.2.2) (hqs : q.1.1 ∈ M.1) (hqa : tbA q.2.2.1) (hn : ∀ p ∈ tb, ∃ nm, (∀ ρ ω, wt ρ σ ω p.2.1 = .int nm) ∧ ((p.2.2 = none ∧ tnM M (M.2.2.2.1 i).1 nm = none) ∨ (p.2.2 = some 18 ∧ tnM M (M.2.2.2.1 i).1 nm = some q.1.1))) (hK : ∀ (h4 : List XC) (ρ : Nat → Nat) (ω' : Nat → Value), HR h4 ow k A (M1l M i) 0 np nl → (∀ j, (ω' j).category = 1) → ρ 17 = A 2 → WH A ρ σ ω' W h4 → ρ 18 = q.1.1 → At S 12 40 66 [(3, .int (Int32.ofNat rn)), (2, .ref (A (20 + i))), (0, .ref (A 0))] [] h4 0 0 (QR h4 ow k A np nl Kc Ks P)) : At S 12 40 0 [(0, .ref (A 0)), (1, .int (Int32.ofNat i))] [] hp 0 0 (QR hp ow k A np nl Kc Ks P) :=
  h_runP h hi (TA := fun ta => ta 0 = q.1.1) hE9 hr9 ht hlen hE2 hB2 hsm hStd hlab (fun h3 ω hω hD hTq9 how => by
    obtain ⟨ta, ω', hB, hta⟩ := BTa (σ := σ) hD hω how (hTq9 q hq) hqs (hso9 hStd hTq9) hqa
    refine ⟨ta, ω', hB, fun p hp => ?_, hta⟩
    obtain ⟨nm, e1, e | e⟩ := hn p hp
    · refine ⟨nm, e1 _ _, ?_⟩
      rw [e.1]
      rw [hlab] at e
      exact tnM_none e.2
    · refine ⟨nm, e1 _ _, ?_⟩
      rw [e.1]
      rw [hlab] at e
      obtain ⟨j, j1, j2, -⟩ := tnM_some e.2
      refine ⟨j, j1, j2.trans ?_⟩
      show some q.1.1 = some (ta 0)
      rw [hta]) (fun h4 ρ ω' ta hR hω h17 hW hta hrt f hc => At.mono (hK h4 ρ ω' hR hω h17 hW ((hrt 0 (by decide)).trans hta)) (fun o ho => QR.lift f hc ho))
theorem r_b {S : List Int32} {hp : List XC} {ow : Nat → Nat} {k : Nat} {A : Nat → Nat} {M : HM} {rf : Int32} {np nl i rn Kc Ks : Nat} {σ : Nat → Nat} {t : List WV} {R W : List WC} {P : RM → Prop} {tb : List (Nat × WV × Option Nat)} {q : TQ} (h : HR hp ow k A M rf np nl) (hi : i < 8) (hStd : StT M.2.2.2.2.2.2 M.1) (hlab : (M.2.2.2.1 i).1 = Int32.ofNat (wg [0, 1, 16, 17] (σ 10))) (ht : ((M.2.2.2.1 i).2.2.2.2.2.2.2.2.take t.length).map Value.int = wtT σ t) (hlen : (M.2.2.2.1 i).2.2.2.2.2.2.2.1 = t.length) (hE9 : wrdE t R = true) (hr9 : wrB t R 4294967295 = true) (hE2 : wbdE tb bT1 bC1 R (wI rn) W = true) (hB2 : wfrB (List.range 17) (R.take 15 ++ (wM0 ++ bT1)) W = true) (hsm : wsmB W = true) (hq : q ∈ M.2.2.2.2.2.2) (hqs : q.1.1 ∈ M.1) (hqa : tbB q.2.2.1) (hn : ∀ p ∈ tb, ∃ nm, (∀ ρ ω, wt ρ σ ω p.2.1 = .int nm) ∧ ((p.2.2 = none ∧ tnM M (M.2.2.2.1 i).1 nm = none) ∨ (p.2.2 = some 18 ∧ tnM M (M.2.2.2.1 i).1 nm = some q.1.1))) (hK : ∀ (h4 : List XC) (ρ : Nat → Nat) (ω' : Nat → Value), HR h4 ow k A (M1l M i) 0 np nl → (∀ j, (ω' j).category = 1) → ρ 17 = A 2 → WH A ρ σ ω' W h4 → ρ 18 = q.1.1 → At S 12 40 66 [(3, .int (Int32.ofNat rn)), (2, .ref (A (20 + i))), (0, .ref (A 0))] [] h4 0 0 (QR h4 ow k A np nl Kc Ks P)) : At S 12 40 0 [(0, .ref (A 0)), (1, .int (Int32.ofNat i))] [] hp 0 0 (QR hp ow k A np nl Kc Ks P) :=
  h_runP h hi (TA := fun ta => ta 0 = q.1.1) hE9 hr9 ht hlen hE2 hB2 hsm hStd hlab (fun h3 ω hω hD hTq9 how => by
    obtain ⟨ta, ω', hB, hta⟩ := BTb (σ := σ) hD hω how (hTq9 q hq) hqs (hso9 hStd hTq9) hqa
    refine ⟨ta, ω', hB, fun p hp => ?_, hta⟩
    obtain ⟨nm, e1, e | e⟩ := hn p hp
    · refine ⟨nm, e1 _ _, ?_⟩
      rw [e.1]
      rw [hlab] at e
      exact tnM_none e.2
    · refine ⟨nm, e1 _ _, ?_⟩
      rw [e.1]
      rw [hlab] at e
      obtain ⟨j, j1, j2, -⟩ := tnM_some e.2
      refine ⟨j, j1, j2.trans ?_⟩
      show some q.1.1 = some (ta 0)
      rw [hta]) (fun h4 ρ ω' ta hR hω h17 hW hta hrt f hc => At.mono (hK h4 ρ ω' hR hω h17 hW ((hrt 0 (by decide)).trans hta)) (fun o ho => QR.lift f hc ho))
theorem r_ba {S : List Int32} {hp : List XC} {ow : Nat → Nat} {k : Nat} {A : Nat → Nat} {M : HM} {rf : Int32} {np nl i rn Kc Ks : Nat} {σ : Nat → Nat} {t : List WV} {R W : List WC} {P : RM → Prop} {tb : List (Nat × WV × Option Nat)} {p9 q : TQ} (h : HR hp ow k A M rf np nl) (hi : i < 8) (hStd : StT M.2.2.2.2.2.2 M.1) (hlab : (M.2.2.2.1 i).1 = Int32.ofNat (wg [0, 1, 16, 17] (σ 10))) (ht : ((M.2.2.2.1 i).2.2.2.2.2.2.2.2.take t.length).map Value.int = wtT σ t) (hlen : (M.2.2.2.1 i).2.2.2.2.2.2.2.1 = t.length) (hE9 : wrdE t R = true) (hr9 : wrB t R 4294967295 = true) (hE2 : wbdE tb bT2 bC2 R (wI rn) W = true) (hB2 : wfrB (List.range 17) (R.take 15 ++ (wM0 ++ bT2)) W = true) (hsm : wsmB W = true) (hp9 : p9 ∈ M.2.2.2.2.2.2) (hq : q ∈ M.2.2.2.2.2.2) (hqb : tbB p9.2.2.1) (hqa : tbA q.2.2.1) (hne : p9.1.1 ≠ q.1.1) (hn : ∀ p ∈ tb, ∃ nm, (∀ ρ ω, wt ρ σ ω p.2.1 = .int nm) ∧ ((p.2.2 = some 18 ∧ tnM M (M.2.2.2.1 i).1 nm = some p9.1.1) ∨ (p.2.2 = some 22 ∧ tnM M (M.2.2.2.1 i).1 nm = some q.1.1))) (hK : ∀ (h4 : List XC) (ρ : Nat → Nat) (ω' : Nat → Value), HR h4 ow k A (M1l M i) 0 np nl → (∀ j, (ω' j).category = 1) → ρ 17 = A 2 → WH A ρ σ ω' W h4 → ρ 18 = p9.1.1 → ρ 22 = q.1.1 → At S 12 40 66 [(3, .int (Int32.ofNat rn)), (2, .ref (A (20 + i))), (0, .ref (A 0))] [] h4 0 0 (QR h4 ow k A np nl Kc Ks P)) : At S 12 40 0 [(0, .ref (A 0)), (1, .int (Int32.ofNat i))] [] hp 0 0 (QR hp ow k A np nl Kc Ks P) :=
  h_runP h hi (TA := fun ta => ta 0 = p9.1.1 ∧ ta 4 = q.1.1) hE9 hr9 ht hlen hE2 hB2 hsm hStd hlab (fun h3 ω hω hD hTq9 how => by
    obtain ⟨ta, ω', hB, hta⟩ := BTba (σ := σ) hD hω how (hTq9 p9 hp9) (hTq9 q hq) (hso9 hStd hTq9) hqb hqa hne
    refine ⟨ta, ω', hB, fun p hp => ?_, hta⟩
    obtain ⟨nm, e1, e | e⟩ := hn p hp
    · refine ⟨nm, e1 _ _, ?_⟩
      rw [e.1]
      rw [hlab] at e
      obtain ⟨j, j1, j2, -⟩ := tnM_some e.2
      refine ⟨j, j1, j2.trans ?_⟩
      show some p9.1.1 = some (ta 0)
      rw [hta.1]
    · refine ⟨nm, e1 _ _, ?_⟩
      rw [e.1]
      rw [hlab] at e
      obtain ⟨j, j1, j2, -⟩ := tnM_some e.2
      refine ⟨j, j1, j2.trans ?_⟩
      show some q.1.1 = some (ta 4)
      rw [hta.2]) (fun h4 ρ ω' ta hR hω h17 hW hta hrt f hc => At.mono (hK h4 ρ ω' hR hω h17 hW ((hrt 0 (by decide)).trans hta.1) ((hrt 4 (by decide)).trans hta.2)) (fun o ho => QR.lift f hc ho))
theorem r_read {S : List Int32} {hp : List XC} {ow : Nat → Nat} {k : Nat} {A : Nat → Nat} {M : HM} {rf : Int32} {np nl i rn Kc Ks : Nat} {σ : Nat → Nat} {t : List WV} {R W : List WC} {P : RM → Prop} {f : Nat} (h : HR hp ow k A M rf np nl) (hi : i < 8) (ht : ((M.2.2.2.1 i).2.2.2.2.2.2.2.2.take t.length).map Value.int = wtT σ t) (hlen : (M.2.2.2.1 i).2.2.2.2.2.2.2.1 = t.length) (hE9 : wrdE t R = true) (hr9 : wrB t R f = true) (hf0 : (0 : Int32) ≤ Int32.ofNat f) (hsm : wsmB (R.take 15 ++ wGen.drop 15) = true) (hK : ∀ h4 : List XC, HR h4 ow k A (M1l M i) 0 np nl → At S 12 40 66 [(3, .int (Int32.ofNat f)), (2, .ref (A (20 + i))), (0, .ref (A 0))] [] h4 0 0 (QR h4 ow k A np nl Kc Ks P)) : At S 12 40 0 [(0, .ref (A 0)), (1, .int (Int32.ofNat i))] [] hp 0 0 (QR hp ow k A np nl Kc Ks P) :=
  h_runR h hi hE9 hr9 ht hlen hf0 hsm (fun h4 hR f hc => At.mono (hK h4 hR) (fun o ho => QR.lift f hc ho))
/-! what stands of a house whose session's text is taken away -/
theorem l1_vw {M : HM} {i : Nat} : vwE (M1l M i) i = vwE M i := by
  unfold vwE M1l
  rw [mS_at]
  rfl
theorem l1_lab {M : HM} {i : Nat} : ((M1l M i).2.2.2.1 i).1 = (M.2.2.2.1 i).1 := by
  unfold M1l
  rw [mS_at]
  rfl
theorem l1_ch {M : HM} {i : Nat} : ((M1l M i).2.2.2.1 i).2.2.2.2.1 = (M.2.2.2.1 i).2.2.2.2.1 := by
  unfold M1l
  rw [mS_at]
  rfl
theorem WfV.l1 {M : HM} {i : Nat} (h : WfV M i) : WfV (M1l M i) i := by
  unfold WfV at h ⊢
  rw [l1_vw, l1_ch]
  exact h
theorem alP_cnt {fm : Int32 → List Int32 → Bool} {sr : Int32} {ls : List En} : (alP fm sr ls).length ≤ ls.countP (fun e => decide (e.1 = sr)) := by
  have key : ∀ (l : List En) (lk : Option Int32), (altP sr (fun r => fm r.2.2.1 r.2.2.2.2.1) lk l).length ≤ l.countP (fun e => decide (e.1 = sr)) := by
    intro l
    induction l with
    | nil => intro lk; exact Nat.le_refl _
    | cons r l ih =>
      intro lk
      unfold altP
      split
      · rename_i hc
        rw [List.countP_cons_of_pos (p := fun e : En => decide (e.1 = sr)) (decide_eq_true hc.1), List.length_cons]
        exact Nat.succ_le_succ (ih _)
      · rw [List.countP_cons]
        exact Nat.le_trans (ih _) (Nat.le_add_right _ _)
  have := key ls.reverse none
  rw [List.countP_reverse] at this
  exact this
theorem look_sub {TI : Nat → Tb} {es : List En} {lb : Int32} : (lookE TI es lb).Sublist es := by
  obtain ⟨ys, e, hs⟩ := fold_sub (TI := TI) (es := es) (lb := lb) es []
  have : lookE TI es lb = ys := e.trans (List.nil_append _)
  rw [this]
  exact hs
/-- at most 48 entries of a table -/
def WfC (M : HM) (i : Nat) : Prop := ∀ sr, (vwE M i).countP (fun e => decide (e.1 = sr)) ≤ 48
theorem WfC.al {M : HM} {i : Nat} (h : WfC M i) {fm : Int32 → List Int32 → Bool} {sr : Int32} : (alP fm sr (lookE (TIq M.2.2.2.2.2.2) (vwE M i) (M.2.2.2.1 i).1)).length ≤ 49 := by
  have h1 := alP_cnt (fm := fm) (sr := sr) (ls := (lookE (TIq M.2.2.2.2.2.2) (vwE M i) (M.2.2.2.1 i).1))
  have h2 := (look_sub (TI := TIq M.2.2.2.2.2.2) (es := vwE M i) (lb := (M.2.2.2.1 i).1)).countP_le (p := fun e => decide (e.1 = sr))
  have h3 := h sr
  omega
theorem gth_cnt {b : Bool} {ves ges : List En} {sr lb : Int32} : (gthE b ves ges sr lb).length ≤ (if b = true then ves else ges).countP (fun e => decide (e.1 = sr)) := by
  unfold gthE
  rw [← List.countP_eq_length_filter]
  refine List.countP_mono_left (fun e he h => ?_)
  unfold gthP at h
  exact (Bool.and_eq_true_iff.mp h).1
theorem WfC.g {M : HM} {i : Nat} (h : WfC M i) {b : Bool} {sr lb : Int32} : (gthE b (vwE M i) (lookE (TIq M.2.2.2.2.2.2) (vwE M i) (M.2.2.2.1 i).1) sr lb).length ≤ 48 := by
  have h1 := gth_cnt (b := b) (ves := vwE M i) (ges := (lookE (TIq M.2.2.2.2.2.2) (vwE M i) (M.2.2.2.1 i).1)) (sr := sr) (lb := lb)
  have h2 := (look_sub (TI := TIq M.2.2.2.2.2.2) (es := vwE M i) (lb := (M.2.2.2.1 i).1)).countP_le (p := fun e => decide (e.1 = sr))
  have h3 := h sr
  cases b with
  | true => exact Nat.le_trans h1 h3
  | false => exact Nat.le_trans h1 (Nat.le_trans h2 h3)
theorem WfC.gg {M : HM} {i : Nat} (h : WfC M i) {b : Bool} {sr sr2 lb : Int32} : (gthE b (vwE M i) (lookE (TIq M.2.2.2.2.2.2) (vwE M i) (M.2.2.2.1 i).1) sr lb).length * (gthE b (vwE M i) (lookE (TIq M.2.2.2.2.2.2) (vwE M i) (M.2.2.2.1 i).1) sr2 lb).length ≤ 3400 :=
  Nat.le_trans (Nat.mul_le_mul h.g h.g) (by decide)
theorem WfC.l1 {M : HM} {i : Nat} (h : WfC M i) : WfC (M1l M i) i := by
  unfold WfC at h ⊢
  rw [l1_vw]
  exact h
