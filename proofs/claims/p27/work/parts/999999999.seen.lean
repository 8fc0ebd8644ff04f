/-! the house: rows that are met are altered (written by wip/p27/c999999999.py) -/
/-- the rows that a statement is to alter -/
def altL (if0 if1 : Nat) (os : List (Nat × Int32)) (sr : Int32) (ls : List En) : List En := altP sr (fun r => mntB if0 if1 (resE r.2.2.1 (fun g => cellE r.2.2.2.2.1 [] g.toNatClampNeg) ((os.take if1).drop if0))) none ls.reverse
theorem altP_len {sr : Int32} {mnt : En → Bool} : ∀ {ls : List En} {lk : Option Int32}, (altP sr mnt lk ls).length ≤ ls.length
  | [], _ => Nat.le_refl _
  | r :: rs, lk => by
    unfold altP
    split
    · have u := altP_len (sr := sr) (mnt := mnt) (ls := rs) (lk := some r.2.1); simp only [List.length_cons]; omega
    · have u := altP_len (sr := sr) (mnt := mnt) (ls := rs) (lk := lk); simp only [List.length_cons]; omega
theorem h_acut {S : List Int32} {hp : List XC} {ow : Nat → Nat} {k : Nat} {A : Nat → Nat} {M : HM} {rf : Int32} {np nl : Nat} {if0 if1 items vb : Nat} {kd fr : Nat → Nat} {os : List (Nat × Int32)} {sf mf ces : List Value} {ws : Value} {es : List Value} {gs : List Int32} {lv' : Value}  {lb lv gi : Int32} {al : Nat} {D ts ms ls : List En} {q : TQ} (h : HR hp ow k A M rf np nl) (hC9 : ChS hp A lb (Int32.ofNat al) gi D ts ms) (hS9 : StF hp A if0 if1 items vb kd fr os sf mf ces ws es gs) (hg6 : hp[A 6]? = some (.inr (11, [.ref (A 10), lv']))) (hg10 : hSh hp (A 10) ls) (hq : q ∈ M.2.2.2.2.2.2) (hm4 : mf[4]? = some (.ref q.1.1)) (hsD : Srt D) (hEl : EnT M.2.2.2.2.2.2 ls) (hl1 : D.length + ls.length ≤ 1700) (hl2 : ts.length + ls.length ≤ 1700) (hl3 : ms.length + ls.length ≤ 1700) (hal : al ≤ 90000) (hN : os.length ≤ 120) (h2v : sf[2]? = some (.retAddr vb)) (hnm : ∀ (i : Nat) (q : Nat × Int32), os[i]? = some q → q.1 = 3 → ∃ j : Nat, j ≤ 100000 ∧ q.2 = Int32.ofNat j) (hif : if1 ≤ os.length) (hmok : ∀ r ∈ ls, if0 < if1 → (resR r.2.2.1 (fun g => cellE r.2.2.2.2.1 [] g.toNatClampNeg) ((os.take if1).drop if0) []).isSome = true) (e18 : xeq xKC (.retAddr vb) (.retAddr 18) = some false) : Me S 9 193 [.ref (A 7), .ref (A 60), .ref (A 75), .ref (A 6)] hp (fun v hp' c s => v = none ∧ HSu hp hp' ow k A M rf np nl c s (2 * (altL if0 if1 os q.2.1 ls).length) (1005 * (altL if0 if1 os q.2.1 ls).length) ∧ ChS hp' A lb (Int32.ofNat (al + (altL if0 if1 os q.2.1 ls).length)) gi (((altL if0 if1 os q.2.1 ls)).foldl (stepC lb) (D, ts, ms)).1 (((altL if0 if1 os q.2.1 ls)).foldl (stepC lb) (D, ts, ms)).2.1 (((altL if0 if1 os q.2.1 ls)).foldl (stepC lb) (D, ts, ms)).2.2 ∧ (∃ vs : List Int32, hp'[A 73]? = some (.inl (16, vs.map Value.int)) ∧ vs.length = 120) ∧ FrX (fun x => x = A 7 ∨ x = A 15 ∨ x = A 12 ∨ x = A 13 ∨ x = A 73) hp hp') := by
  have hTl := h.tab hEl
  obtain ⟨hO, how, h0, h1, h3, hD, hF, hE, hT, ⟨lv9, hG⟩, hC, hL9, hQ, hW, hS, hTq9, htd, hcap⟩ := id h
  have ne : ∀ a b, a < 77 → b < 77 → a ≠ b → A a ≠ A b := fun a b ha hb hab e => by have u := (how a ha).1; rw [e, (how b hb).1] at u; omega
  have hC99 := hC9
  obtain ⟨hc7, ⟨das, hd1, hd2⟩, ⟨tas, ht1, ht2⟩, ⟨mas, hm1, hm2⟩⟩ := hC99
  obtain ⟨s1, s2, s3, ⟨v0, s4, s5⟩, s6, s7⟩ := hS9
  obtain ⟨⟨clb, cal, cgi, hC1⟩, hC2, clv, hC3⟩ := hC
  obtain ⟨las, hl6, hl7⟩ := hg10
  obtain ⟨b1, b2, b3, b4, b5, fs, b6, b7, b8, b9, b10⟩ := hTq9 q hq
  have hfs : ∃ tf, fs = .int q.2.1 :: tf := by
    obtain ⟨ca, ka, ra, ga, chk, dv, u1, -⟩ := b1
    cases u1.symm.trans b6
    exact ⟨_, rfl⟩
  obtain ⟨tf, rfl⟩ := hfs
  have c15 := hcap 15 (by decide)
  have c12 := hcap 12 (by decide)
  have c13 := hcap 13 (by decide)
  have hA9 : AltS (TIq M.2.2.2.2.2.2) hp (A 11) (A 15) (A 6) (A 10) (A 75) (A 76) (A 60) (A 62) (A 63) (A 65) (A 70) (A 71) (A 72) (A 73) (A 74) q.1.1 if0 if1 items vb kd fr ws lv' es mf ces sf gs os q.2.1 las ls := ⟨hC2, hg6, hl6, hl7, s6, s7, s1, s2, s3, ⟨_, b6⟩, fun e he => (hTl e he).1⟩
  refine me_imp (m_alter_cut_2 (S := S) (TI := (TIq M.2.2.2.2.2.2)) (nb := 1700) (N := 120) (ne 15 12 (by decide) (by decide) (by decide)) (ne 15 13 (by decide) (by decide) (by decide)) (ne 12 13 (by decide) (by decide) (by decide)) (ne 10 15 (by decide) (by decide) (by decide)) (ne 10 12 (by decide) (by decide) (by decide)) (ne 10 13 (by decide) (by decide) (by decide)) hm4 h2v (by omega) (by decide) hnm hif hmok (by decide) e18 hA9 hO hc7 hd1 ht1 hm1 hd2 ht2 hm2 hsD hl1 hl2 hl3 s4 s5 (by omega)) (fun v hp' c s hv => ?_)
  obtain ⟨v1, hR⟩ := hv
  obtain ⟨f, r1, r2, r3, r4, ⟨vs, r5, r6⟩, r7, r8, r9, r10, r11, r12, r13, r14⟩ := hR
  exact ⟨v1, HSu.ch h f ⟨r1, r2, r3, r4⟩ r6 r5 (by omega) (by omega) (by omega) (by show _ ≤ _ + 2 * (altL if0 if1 os q.2.1 ls).length; unfold altL; omega) (by show _ ≤ _ + 1005 * (altL if0 if1 os q.2.1 ls).length; unfold altL; omega), ⟨r1, r2, r3, r4⟩, ⟨vs, r6, r5⟩, f⟩
theorem h_aset {S : List Int32} {hp : List XC} {ow : Nat → Nat} {k : Nat} {A : Nat → Nat} {M : HM} {rf : Int32} {np nl : Nat} {if0 if1 items vb : Nat} {kd fr : Nat → Nat} {os : List (Nat × Int32)} {sf mf ces : List Value} {ws : Value} {es : List Value} {gs : List Int32} {lv' : Value} {b16 b27 : Bool} {col f9 t9 : Nat} {lb lv gi : Int32} {al : Nat} {D ts ms ls : List En} {q : TQ} (h : HR hp ow k A M rf np nl) (hC9 : ChS hp A lb (Int32.ofNat al) gi D ts ms) (hS9 : StF hp A if0 if1 items vb kd fr os sf mf ces ws es gs) (hg6 : hp[A 6]? = some (.inr (11, [.ref (A 10), lv']))) (hg10 : hSh hp (A 10) ls) (hq : q ∈ M.2.2.2.2.2.2) (hm4 : mf[4]? = some (.ref q.1.1)) (hsD : Srt D) (hEl : EnT M.2.2.2.2.2.2 ls) (hl1 : D.length + ls.length ≤ 1700) (hl2 : ts.length + ls.length ≤ 1700) (hl3 : ms.length + ls.length ≤ 1700) (hal : al ≤ 90000) (hN : os.length ≤ 120) (h2v : sf[2]? = some (.retAddr vb)) (hnm : ∀ (i : Nat) (q : Nat × Int32), os[i]? = some q → q.1 = 3 → ∃ j : Nat, j ≤ 100000 ∧ q.2 = Int32.ofNat j) (hif : if1 ≤ os.length) (hmok : ∀ r ∈ ls, if0 < if1 → (resR r.2.2.1 (fun g => cellE r.2.2.2.2.1 [] g.toNatClampNeg) ((os.take if1).drop if0) []).isSome = true) (e18 : xeq xKC (.retAddr vb) (.retAddr 18) = some true) (e16 : xeq xKC (.retAddr vb) (.retAddr 16) = some b16) (e27 : xeq xKC (.retAddr vb) (.retAddr 27) = some b27) (hm9 : mf[9]? = some (.ref (A 76))) (hcv : ces[0]? = some (.int (Int32.ofNat col))) (hcl : ces.length ≤ 1000) (h15 : sf[15]? = some (.int 1)) (hw : ∀ r ∈ ls, r.1 = q.2.1 → ((TIq M.2.2.2.2.2.2) r.2.2.2.2.2).2.2.1.length ≤ 1000 ∧ 0 < col ∧ col < ((TIq M.2.2.2.2.2.2) r.2.2.2.2.2).2.2.1.length) (hi0 : 0 < items) (hf9 : f9 = fr 0) (ht9 : t9 = itTo items if0 os.length 0 (b16 || b27) fr) (hft : f9 ≤ t9) (htn : t9 ≤ os.length) (hok : ∀ r ∈ ls, (resR r.2.2.1 (fun g => cellE r.2.2.2.2.1 [] g.toNatClampNeg) ((os.take t9).drop f9) []).isSome = true) : Me S 9 193 [.ref (A 7), .ref (A 60), .ref (A 75), .ref (A 6)] hp (fun v hp' c s => v = none ∧ HSu hp hp' ow k A M rf np nl c s (2 * (altL if0 if1 os q.2.1 ls).length) (1005 * (altL if0 if1 os q.2.1 ls).length) ∧ ChS hp' A lb (Int32.ofNat (al + (altL if0 if1 os q.2.1 ls).length)) gi (((altL if0 if1 os q.2.1 ls)).foldl (stepS (fun r => (r.1, r.2.1, lb, false, setC r.2.2.2.2.1 ((TIq M.2.2.2.2.2.2) r.2.2.2.2.2).2.2.1.length col (resE r.2.2.1 (fun g => cellE r.2.2.2.2.1 [] g.toNatClampNeg) ((os.take t9).drop f9)), r.2.2.2.2.2))) (D, ts, ms)).1 (((altL if0 if1 os q.2.1 ls)).foldl (stepS (fun r => (r.1, r.2.1, lb, false, setC r.2.2.2.2.1 ((TIq M.2.2.2.2.2.2) r.2.2.2.2.2).2.2.1.length col (resE r.2.2.1 (fun g => cellE r.2.2.2.2.1 [] g.toNatClampNeg) ((os.take t9).drop f9)), r.2.2.2.2.2))) (D, ts, ms)).2.1 (((altL if0 if1 os q.2.1 ls)).foldl (stepS (fun r => (r.1, r.2.1, lb, false, setC r.2.2.2.2.1 ((TIq M.2.2.2.2.2.2) r.2.2.2.2.2).2.2.1.length col (resE r.2.2.1 (fun g => cellE r.2.2.2.2.1 [] g.toNatClampNeg) ((os.take t9).drop f9)), r.2.2.2.2.2))) (D, ts, ms)).2.2 ∧ (∃ vs : List Int32, hp'[A 73]? = some (.inl (16, vs.map Value.int)) ∧ vs.length = 120) ∧ FrX (fun x => x = A 7 ∨ x = A 15 ∨ x = A 12 ∨ x = A 13 ∨ x = A 73) hp hp') := by
  have hTl := h.tab hEl
  obtain ⟨hO, how, h0, h1, h3, hD, hF, hE, hT, ⟨lv9, hG⟩, hC, hL9, hQ, hW, hS, hTq9, htd, hcap⟩ := id h
  have ne : ∀ a b, a < 77 → b < 77 → a ≠ b → A a ≠ A b := fun a b ha hb hab e => by have u := (how a ha).1; rw [e, (how b hb).1] at u; omega
  have hC99 := hC9
  obtain ⟨hc7, ⟨das, hd1, hd2⟩, ⟨tas, ht1, ht2⟩, ⟨mas, hm1, hm2⟩⟩ := hC99
  obtain ⟨s1, s2, s3, ⟨v0, s4, s5⟩, s6, s7⟩ := hS9
  obtain ⟨⟨clb, cal, cgi, hC1⟩, hC2, clv, hC3⟩ := hC
  obtain ⟨las, hl6, hl7⟩ := hg10
  obtain ⟨b1, b2, b3, b4, b5, fs, b6, b7, b8, b9, b10⟩ := hTq9 q hq
  have hfs : ∃ tf, fs = .int q.2.1 :: tf := by
    obtain ⟨ca, ka, ra, ga, chk, dv, u1, -⟩ := b1
    cases u1.symm.trans b6
    exact ⟨_, rfl⟩
  obtain ⟨tf, rfl⟩ := hfs
  have c15 := hcap 15 (by decide)
  have c12 := hcap 12 (by decide)
  have c13 := hcap 13 (by decide)
  have hA9 : AltS (TIq M.2.2.2.2.2.2) hp (A 11) (A 15) (A 6) (A 10) (A 75) (A 76) (A 60) (A 62) (A 63) (A 65) (A 70) (A 71) (A 72) (A 73) (A 74) q.1.1 if0 if1 items vb kd fr ws lv' es mf ces sf gs os q.2.1 las ls := ⟨hC2, hg6, hl6, hl7, s6, s7, s1, s2, s3, ⟨_, b6⟩, fun e he => (hTl e he).1⟩
  refine me_imp (m_alter_set_2 (S := S) (TI := (TIq M.2.2.2.2.2.2)) (nb := 1700) (N := 120) (ne 15 12 (by decide) (by decide) (by decide)) (ne 15 13 (by decide) (by decide) (by decide)) (ne 12 13 (by decide) (by decide) (by decide)) (ne 10 15 (by decide) (by decide) (by decide)) (ne 10 12 (by decide) (by decide) (by decide)) (ne 10 13 (by decide) (by decide) (by decide)) hm4 h2v (by omega) (by decide) hnm hif hmok (by decide) e18 e16 e27 hm9 hcv hcl h15 hw hi0 hf9 ht9 hft htn hok hA9 hO hc7 hd1 ht1 hm1 hd2 ht2 hm2 hsD hl1 hl2 hl3 s4 s5 (by omega)) (fun v hp' c s hv => ?_)
  obtain ⟨v1, hR⟩ := hv
  obtain ⟨f, r1, r2, r3, r4, ⟨vs, r5, r6⟩, r7, r8, r9, r10, r11, r12, r13, r14⟩ := hR
  exact ⟨v1, HSu.ch h f ⟨r1, r2, r3, r4⟩ r6 r5 (by omega) (by omega) (by omega) (by show _ ≤ _ + 2 * (altL if0 if1 os q.2.1 ls).length; unfold altL; omega) (by show _ ≤ _ + 1005 * (altL if0 if1 os q.2.1 ls).length; unfold altL; omega), ⟨r1, r2, r3, r4⟩, ⟨vs, r6, r5⟩, f⟩
