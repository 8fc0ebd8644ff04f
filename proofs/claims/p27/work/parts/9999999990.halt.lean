/-! the house: alter (written by wip/p27/c9999999990.py) -/
theorem HSu.ref {hp : List XC} {ow : Nat → Nat} {k : Nat} {A : Nat → Nat} {M : HM} {rf : Int32} {np nl : Nat} {rf' : Int32} {hp' : List XC} (h : HR hp ow k A M rf np nl) (e : hp' = hp.set (A 0) (.inr (14, [.ref (A 1), .ref (A 2), .ref (A 3), .ref (A 4), .ref (A 5), .ref (A 60), .ref (A 75), .ref (A 6), .ref (A 7), .ref (A 8), .int M.2.2.2.2.2.1, .int rf']))) : HSu hp hp' ow k A M rf' np nl 0 0 0 0 ∧ FrX (fun x => x = A 0) hp hp' := by
  obtain ⟨hO, how, h0, h1, h3, hD, hF, hE, hT, ⟨lv9, hG⟩, hC, hL9, hQ, hW, hS, hTq9, htd, hcap⟩ := id h
  have f : FrX (fun x => x = A 0) hp hp' := by rw [e]; exact FrX.so h0 (by decide) rfl (by decide)
  obtain ⟨Z, hZ⟩ : ∃ Z : Nat → Prop, Z = fun n => n = k + 0 := ⟨_, rfl⟩
  have hz : ∀ n, Z n → n = k + 0 := fun n z9 => by rw [hZ] at z9; exact z9
  have hzi : ∀ n, (n = k + 0) → Z n := fun n z9 => by rw [hZ]; exact z9
  have hzk : ∀ n, Z n → k ≤ n ∧ n < k + 1000 := fun n z => by have z9 := hz n z; omega
  have f' : FrX (fun a => Z (ow a)) hp hp' := f.mono (fun x _ e => by
    have e9 : x = A 0 := e
    show Z (ow x)
    rw [e9, (how _ (by omega)).1]; exact hzi _ (by omega))
  exact ⟨HSu.of h f' hzk (h.upd (Z := Z) f' (fun _ _ => rfl) (fun z => by have z9 := hz _ z; omega) (fun z => by have z9 := hz _ z; omega) (Or.inr (by rw [e]; exact xs_eq h0)) (Or.inl ⟨(fun z => by have z9 := hz _ z; omega), rfl⟩) (Or.inl ⟨(fun z => by have z9 := hz _ z; omega), rfl⟩) (Or.inl ⟨(fun z => by have z9 := hz _ z; omega), rfl⟩) (Or.inl ⟨(fun z => by have z9 := hz _ z; omega), rfl⟩) (Or.inl (fun z => by have z9 := hz _ z; omega)) (Or.inl ⟨(fun z => by have z9 := hz _ z; omega), (fun z => by have z9 := hz _ z; omega), (fun z => by have z9 := hz _ z; omega)⟩) (fun j hj => Or.inl (fun z => by simp only [List.mem_cons, List.not_mem_nil, or_false] at hj; have z9 := hz _ z; omega)) (Or.inl ⟨(fun z => by have z9 := hz _ z; omega), (fun z => by have z9 := hz _ z; omega), (fun z => by have z9 := hz _ z; omega), (fun z => by have z9 := hz _ z; omega), rfl, rfl⟩) (Or.inl (fun j j1 j2 z => by have z9 := hz _ z; omega)) (fun j hj => Or.inl ⟨(fun z => by have z9 := hz _ z; omega), (fun z => by have z9 := hz _ z; omega), (fun z => by have z9 := hz _ z; omega), (fun z => by have z9 := hz _ z; omega), (fun z => by have z9 := hz _ z; omega), (fun z => by have z9 := hz _ z; omega), rfl⟩) (Or.inl ⟨(fun z => by have z9 := hz _ z; omega), (fun z => by have z9 := hz _ z; omega), (fun z => by have z9 := hz _ z; omega), (fun z => by have z9 := hz _ z; omega), rfl⟩) (fun j hj => Or.inl (fun z => by have j9 := lsI_c j hj; have z9 := hz _ z; omega))) [] (by decide) (fun j z hj => by have j9 := lsI_c j hj; have z9 := hz _ z; omega) (by simp only [sumL, List.map_nil, List.sum_nil]; omega) (by simp only [sumL, List.map_nil, List.sum_nil]; omega), f⟩
/-- what a kept change makes of a house, with the keys that were given -/
def keepG (M : HM) (i : Nat) (D ts : List En) (g : Bool) (t ln : Nat) : HM := if g = true then mTabs (keepM M i D ts) (giveT M.2.2.2.2.2.2 t ln) else keepM M i D ts
theorem h_keep {S : List Int32} {hp : List XC} {ow : Nat → Nat} {k : Nat} {A : Nat → Nat} {M : HM} {rf : Int32} {np nl : Nat} (h : HR hp ow k A M rf np nl) {i ln : Nat} {al : Int32} {g : Bool} {D ts ms : List En} {q : TQ} {mf : List Value} (hi : i < 8) (hC9 : ChS hp A (M.2.2.2.1 i).1 al (bI g) D ts ms) (hlD : D.length ≤ 3000) (hlt : (M.2.2.2.1 i).2.2.2.2.1.length + ts.length ≤ 3000) (hle : M.2.2.1.length + ts.length ≤ 3400) (hq : q ∈ M.2.2.2.2.2.2) (hmf : hp[A 75]? = some (.inr (6, mf))) (hm4 : mf[4]? = some (.ref q.1.1)) (hln : (M.2.2.2.1 i).1 = Int32.ofNat ln) (hl64 : ln < 64) : Me S 9 186 [.ref (A 0), .ref (A (20 + i))] hp (fun v hp' c s => v = none ∧ HSu hp hp' ow k A (keepG M i D ts g q.1.1 ln) rf np nl c s 0 0 ∧ hp'[A 7]? = some (.inr (3, [.ref (A 11), .ref (A 12), .ref (A 13), .ref (A 14), .int (M.2.2.2.1 i).1, .int al, .int (bI g)]))) := by
  unfold keepG keepM
  cases g with
  | true =>
    rw [if_pos rfl]
    cases hb : (M.2.2.2.1 i).2.2.1 with
    | true => rw [if_pos rfl]; exact h_keepT1 h hi hb hC9 hlD hlt hle hq hmf hm4 hln hl64
    | false => rw [if_neg (by decide)]; exact h_keepF1 h hi hb hC9 hlD hlt hle hq hmf hm4 hln hl64
  | false =>
    rw [if_neg (by decide)]
    cases hb : (M.2.2.2.1 i).2.2.1 with
    | true => rw [if_pos rfl]; exact h_keepT0 h hi hb hC9 hlD hlt hle
    | false => rw [if_neg (by decide)]; exact h_keepF0 h hi hb hC9 hlD hlt hle
theorem judgeE_fit {TI : Nat → Tb} {T : Tb} {es ms : List En} {sr lb : Int32} {ck : En → Bool} : xfit (xFT 14 11) (.int (judgeE TI T es ms sr lb ck)) = true := by
  unfold judgeE
  split
  · rfl
  · split
    · rfl
    · split
      · split <;> rfl
      · rfl
theorem judgeQ_fit {M : HM} {q : TQ} {D ms : List En} {lb : Int32} : xfit (xFT 14 11) (.int (judgeQ M q D ms lb)) = true := judgeE_fit
theorem h_alt16r {S : List Int32} {hp : List XC} {ow : Nat → Nat} {k : Nat} {A : Nat → Nat} {M : HM} {np nl : Nat} {if0 if1 items vb : Nat} {kd fr : Nat → Nat} {os : List (Nat × Int32)} {sf mf ces : List Value} {ws : Value} {es : List Value} {gs : List Int32} {i ln K J : Nat} {rc al : Int32} {g : Bool} {D ts ms : List En} {q : TQ} (h : HR hp ow k A M 0 np nl) (hi : i < 8) (hsr : Srt (vwE M i)) (hEt : EnT M.2.2.2.2.2.2 (vwE M i)) (hlen : (vwE M i).length ≤ 3000) (hS9 : StF hp A if0 if1 items vb kd fr os sf mf ces ws es gs) (h2v : sf[2]? = some (.retAddr 16)) (hq : q ∈ M.2.2.2.2.2.2) (hm4 : mf[4]? = some (.ref q.1.1)) (hop : ∀ h1 : List XC, HR h1 ow k A M 0 np nl → ChS h1 A (M.2.2.2.1 i).1 0 0 (vwE M i) [] [] → StF h1 A if0 if1 items vb kd fr os sf mf ces ws es gs → Me S 8 191 [.ref (A 7), .ref (A 60), .ref (A 75)] h1 (fun v hp' c s => v = some (.int rc) ∧ HSu h1 hp' ow k A M 0 np nl c s K J ∧ ChS hp' A (M.2.2.2.1 i).1 al (bI g) D ts ms ∧ (∃ vs : List Int32, hp'[A 73]? = some (.inl (16, vs.map Value.int)) ∧ vs.length = 120) ∧ FrX (fun x => x = A 7 ∨ x = A 15 ∨ x = A 12 ∨ x = A 13 ∨ x = A 73) h1 hp')) (hrf : xfit (xFT 14 11) (.int rc) = true) (hr : ¬ rc = 0) : Me S 11 190 [.ref (A 0), .ref (A (20 + i))] hp (fun v hp' c s => v = some (.int al) ∧ HSt hp hp' ow k A M rc np nl c s K J) := by
  have hvw := h_view (S := S) h hi
  obtain ⟨hO, how, h0, h1, h3, hD, hF, hE, hT, ⟨lv9, hG⟩, hC, hL9, hQ, hW, hS, hTq9, htd, hcap⟩ := id h
  obtain ⟨za, ab, a1, a2, a3, a4, a5, a6, a7, a8, a9, a10, a11, a12, a13, a14⟩ := hS i hi
  have ne : ∀ a b, a < 77 → b < 77 → a ≠ b → A a ≠ A b := fun a b ha hb hab e => by have u := (how a ha).1; rw [e, (how b hb).1] at u; omega
  refine At.go (q := xm190) rfl 1 (pc' := 1) (L' := [(0, .ref (A 0)), (1, .ref (A (20 + i)))]) (st' := [.ref (A 0)]) rfl ?_
  refine At.gf rfl (by decide) h0 rfl ?_
  refine At.go (q := xm190) rfl 2 (pc' := 6) (L' := [(0, .ref (A 0)), (1, .ref (A (20 + i)))]) (st' := [.ref (A (20 + i)), .ref (A 0), .ref (A 7)]) rfl ?_
  refine At.clp (as := [.ref (A 0), .ref (A (20 + i))]) (rest := [.ref (A 7)]) rfl (by decide) rfl (Nat.le_of_ble_eq_true rfl) (Nat.le_of_ble_eq_true rfl) (xrck_o (by decide) (by decide) h0 (by decide)) (Nat.le_of_ble_eq_true rfl) (hvw) ?_
  refine At.go (q := xm190) rfl 1 (pc' := 10) (L' := [(0, .ref (A 0)), (1, .ref (A (20 + i)))]) (st' := [.ref (A (20 + i)), .ref (A (vwO M i)), .ref (A 7)]) rfl ?_
  refine At.gf rfl (by decide) a1 rfl ?_
  refine At.clm (as := [.ref (A 7), .ref (A (vwO M i)), .int (M.2.2.2.1 i).1]) (rest := []) rfl (by decide) rfl (Nat.le_of_ble_eq_true rfl) (Nat.le_of_ble_eq_true rfl) (xrck_o (by decide) (by decide) hC.1.choose_spec.choose_spec.choose_spec (by decide)) (Nat.le_of_ble_eq_true rfl) (h_start h hi hlen) (fun v9 g1 c1 s1 hv9 => ?_)
  obtain ⟨rfl, t1, hC1, f1⟩ := hv9
  have r1 := t1.1
  have f1n : FrX (fun a => (fun n => n = k + 7 ∨ n = k + 15 ∨ n = k + 12 ∨ n = k + 13) (ow a)) hp g1 := f1.mono (fun x _ e => by
    have e9 : x = A 7 ∨ x = A 15 ∨ x = A 12 ∨ x = A 13 := e
    show ow x = k + 7 ∨ ow x = k + 15 ∨ ow x = k + 12 ∨ ow x = k + 13
    rcases e9 with e9 | e9 | e9 | e9 <;> (rw [e9, (how _ (by decide)).1]; omega))
  have hS1 := hS9.fr (Z := fun n => n = k + 7 ∨ n = k + 15 ∨ n = k + 12 ∨ n = k + 13) f1n how (fun j j1 j2 j3 z => by have z9 : k + j = k + 7 ∨ k + j = k + 15 ∨ k + j = k + 12 ∨ k + j = k + 13 := z; omega) (Or.inl (fun z => by have z9 : k + 73 = k + 7 ∨ k + 73 = k + 15 ∨ k + 73 = k + 12 ∨ k + 73 = k + 13 := z; omega))
  have k0_r1 := r1.2.2.1
  have st1 := hS1.2.1
  have mf1 := hS1.2.2.2.2.1
  have ch1 := hC1.1
  refine At.go (q := xm190) rfl 1 (pc' := 17) (L' := [(0, .ref (A 0)), (1, .ref (A (20 + i)))]) (st' := [.ref (A 0)]) rfl ?_
  refine At.gf rfl (by decide) k0_r1 rfl ?_
  refine At.gf rfl (by decide) st1 h2v ?_
  refine At.go (q := xm190) rfl 1 (pc' := 26) (L' := [(0, .ref (A 0)), (1, .ref (A (20 + i)))]) (st' := [.retAddr 16, .retAddr 16]) rfl ?_
  refine At.acn (tgt := 51) (b := true) rfl rfl rfl (fun h => absurd h (by decide)) (fun _ => ?_)
  refine At.go (q := xm190) rfl 2 (pc' := 31) (L' := [(0, .ref (A 0)), (1, .ref (A (20 + i)))]) (st' := [.ref (A 0), .ref (A 0)]) rfl ?_
  refine At.gf rfl (by decide) k0_r1 rfl ?_
  refine At.go (q := xm190) rfl 1 (pc' := 35) (L' := [(0, .ref (A 0)), (1, .ref (A (20 + i)))]) (st' := [.ref (A 0), .ref (A 7), .ref (A 0)]) rfl ?_
  refine At.gf rfl (by decide) k0_r1 rfl ?_
  refine At.go (q := xm190) rfl 1 (pc' := 39) (L' := [(0, .ref (A 0)), (1, .ref (A (20 + i)))]) (st' := [.ref (A 0), .ref (A 60), .ref (A 7), .ref (A 0)]) rfl ?_
  refine At.gf rfl (by decide) k0_r1 rfl ?_
  refine At.clm (as := [.ref (A 7), .ref (A 60), .ref (A 75)]) (rest := [.ref (A 0)]) rfl (by decide) rfl (Nat.le_of_ble_eq_true rfl) (Nat.le_of_ble_eq_true rfl) (xrck_o (by decide) (by decide) ch1 (by decide)) (Nat.le_of_ble_eq_true rfl) (hop g1 r1 hC1 hS1) (fun v9 g2 c2 s2 hv9 => ?_)
  obtain ⟨rfl, t2, hC2, hv73, f2⟩ := hv9
  have r2 := t2.1
  have k0_r2 := r2.2.2.1
  have mf2 := f2.ob mf1 (by decide) (fun e => by rcases e with e | e | e | e | e <;> exact ne 75 _ (by decide) (by decide) (by decide) e)
  have tt2 := HSu.tr t1 t2
  have how2 := r2.2.1
  refine At.pf rfl k0_r2 (Nat.le_of_ble_eq_true rfl) hrf ?_
  obtain ⟨g3, eg3⟩ : ∃ z, z = g2.set (A 0) (.inr (14, [.ref (A 1), .ref (A 2), .ref (A 3), .ref (A 4), .ref (A 5), .ref (A 60), .ref (A 75), .ref (A 6), .ref (A 7), .ref (A 8), .int M.2.2.2.2.2.1, .int rc])) := ⟨_, rfl⟩
  refine At.hpe eg3 ?_
  obtain ⟨t3, f3⟩ := HSu.ref r2 eg3
  have r3 := t3.1
  have f3n : FrX (fun a => (fun n => n = k + 0) (ow a)) g2 g3 := f3.mono (fun x _ e => by have e9 : x = A 0 := e; show ow x = k + 0; rw [e9]; exact (how 0 (by decide)).1)
  have hC3 := hC2.fr (Z := fun n => n = k + 0) f3n r2.1 how2 (fun z => by have z9 : k + 7 = k + 0 := z; omega) (fun z => by have z9 : k + 15 = k + 0 := z; omega) (fun z => by have z9 : k + 12 = k + 0 := z; omega) (fun z => by have z9 : k + 13 = k + 0 := z; omega)
  have tt3 := HSu.tr tt2 t3
  have mf3 := f3.ob mf2 (by decide) (fun e => ne 75 0 (by decide) (by decide) (by decide) e)
  have k0_r3 := r3.2.2.1
  have ch3 := hC3.1
  refine At.go (q := xm190) rfl 2 (pc' := 77) (L' := [(0, .ref (A 0)), (1, .ref (A (20 + i)))]) (st' := [.ref (A 0)]) rfl ?_
  refine At.gf rfl (by decide) k0_r3 rfl ?_
  refine At.ic1 (tgt := 101) rfl rfl (fun _ => ?_) (fun h => absurd (h.symm.trans (decide_eq_true hr)) (by decide))
  refine At.go (q := xm190) rfl 1 (pc' := 102) (L' := [(0, .ref (A 0)), (1, .ref (A (20 + i)))]) (st' := [.ref (A 0)]) rfl ?_
  refine At.gf rfl (by decide) k0_r3 rfl ?_
  refine At.ic1 (tgt := 113) rfl rfl (fun _ => ?_) (fun h => absurd (h.symm.trans (decide_eq_true hr)) (by decide))
  refine At.go (q := xm190) rfl 1 (pc' := 114) (L' := [(0, .ref (A 0)), (1, .ref (A (20 + i)))]) (st' := [.ref (A 0)]) rfl ?_
  refine At.gf rfl (by decide) k0_r3 rfl ?_
  refine At.gf rfl (by decide) ch3 rfl ?_
  obtain ⟨x1, x2, x3, x4⟩ := tt3
  exact At.rt rfl (xret_i rfl) ⟨_, _, _, _, rfl, rfl, ow, np, nl, fun _ _ => rfl, x1, x2, by omega, by omega⟩
theorem h_alt16j {S : List Int32} {hp : List XC} {ow : Nat → Nat} {k : Nat} {A : Nat → Nat} {M : HM} {np nl : Nat} {if0 if1 items vb : Nat} {kd fr : Nat → Nat} {os : List (Nat × Int32)} {sf mf ces : List Value} {ws : Value} {es : List Value} {gs : List Int32} {i ln K J : Nat} {rc al : Int32} {g : Bool} {D ts ms : List En} {q : TQ} (h : HR hp ow k A M 0 np nl) (hi : i < 8) (hsr : Srt (vwE M i)) (hEt : EnT M.2.2.2.2.2.2 (vwE M i)) (hlen : (vwE M i).length ≤ 3000) (hS9 : StF hp A if0 if1 items vb kd fr os sf mf ces ws es gs) (h2v : sf[2]? = some (.retAddr 16)) (hq : q ∈ M.2.2.2.2.2.2) (hm4 : mf[4]? = some (.ref q.1.1)) (hop : ∀ h1 : List XC, HR h1 ow k A M 0 np nl → ChS h1 A (M.2.2.2.1 i).1 0 0 (vwE M i) [] [] → StF h1 A if0 if1 items vb kd fr os sf mf ces ws es gs → Me S 8 191 [.ref (A 7), .ref (A 60), .ref (A 75)] h1 (fun v hp' c s => v = some (.int rc) ∧ HSu h1 hp' ow k A M 0 np nl c s K J ∧ ChS hp' A (M.2.2.2.1 i).1 al (bI g) D ts ms ∧ (∃ vs : List Int32, hp'[A 73]? = some (.inl (16, vs.map Value.int)) ∧ vs.length = 120) ∧ FrX (fun x => x = A 7 ∨ x = A 15 ∨ x = A 12 ∨ x = A 13 ∨ x = A 73) h1 hp')) (hrf : xfit (xFT 14 11) (.int rc) = true) (hr : rc = 0) (hw1 : 1 ≤ q.2.2.1.2.2.1.length) (hsD : Srt D) (hED : EnT M.2.2.2.2.2.2 D) (hEm : EnT M.2.2.2.2.2.2 ms) (hlD : D.length ≤ 3000) (hsame : ∀ f ∈ D, f.1 = q.2.1 → f.2.2.2.2.2 = q.1.1) (hj : ¬ (judgeQ M q D ms (M.2.2.2.1 i).1) = 0) : Me S 11 190 [.ref (A 0), .ref (A (20 + i))] hp (fun v hp' c s => v = some (.int al) ∧ HSt hp hp' ow k A M (judgeQ M q D ms (M.2.2.2.1 i).1) np nl c s K J) := by
  have hvw := h_view (S := S) h hi
  obtain ⟨hO, how, h0, h1, h3, hD, hF, hE, hT, ⟨lv9, hG⟩, hC, hL9, hQ, hW, hS, hTq9, htd, hcap⟩ := id h
  obtain ⟨za, ab, a1, a2, a3, a4, a5, a6, a7, a8, a9, a10, a11, a12, a13, a14⟩ := hS i hi
  have ne : ∀ a b, a < 77 → b < 77 → a ≠ b → A a ≠ A b := fun a b ha hb hab e => by have u := (how a ha).1; rw [e, (how b hb).1] at u; omega
  subst hr
  refine At.go (q := xm190) rfl 1 (pc' := 1) (L' := [(0, .ref (A 0)), (1, .ref (A (20 + i)))]) (st' := [.ref (A 0)]) rfl ?_
  refine At.gf rfl (by decide) h0 rfl ?_
  refine At.go (q := xm190) rfl 2 (pc' := 6) (L' := [(0, .ref (A 0)), (1, .ref (A (20 + i)))]) (st' := [.ref (A (20 + i)), .ref (A 0), .ref (A 7)]) rfl ?_
  refine At.clp (as := [.ref (A 0), .ref (A (20 + i))]) (rest := [.ref (A 7)]) rfl (by decide) rfl (Nat.le_of_ble_eq_true rfl) (Nat.le_of_ble_eq_true rfl) (xrck_o (by decide) (by decide) h0 (by decide)) (Nat.le_of_ble_eq_true rfl) (hvw) ?_
  refine At.go (q := xm190) rfl 1 (pc' := 10) (L' := [(0, .ref (A 0)), (1, .ref (A (20 + i)))]) (st' := [.ref (A (20 + i)), .ref (A (vwO M i)), .ref (A 7)]) rfl ?_
  refine At.gf rfl (by decide) a1 rfl ?_
  refine At.clm (as := [.ref (A 7), .ref (A (vwO M i)), .int (M.2.2.2.1 i).1]) (rest := []) rfl (by decide) rfl (Nat.le_of_ble_eq_true rfl) (Nat.le_of_ble_eq_true rfl) (xrck_o (by decide) (by decide) hC.1.choose_spec.choose_spec.choose_spec (by decide)) (Nat.le_of_ble_eq_true rfl) (h_start h hi hlen) (fun v9 g1 c1 s1 hv9 => ?_)
  obtain ⟨rfl, t1, hC1, f1⟩ := hv9
  have r1 := t1.1
  have f1n : FrX (fun a => (fun n => n = k + 7 ∨ n = k + 15 ∨ n = k + 12 ∨ n = k + 13) (ow a)) hp g1 := f1.mono (fun x _ e => by
    have e9 : x = A 7 ∨ x = A 15 ∨ x = A 12 ∨ x = A 13 := e
    show ow x = k + 7 ∨ ow x = k + 15 ∨ ow x = k + 12 ∨ ow x = k + 13
    rcases e9 with e9 | e9 | e9 | e9 <;> (rw [e9, (how _ (by decide)).1]; omega))
  have hS1 := hS9.fr (Z := fun n => n = k + 7 ∨ n = k + 15 ∨ n = k + 12 ∨ n = k + 13) f1n how (fun j j1 j2 j3 z => by have z9 : k + j = k + 7 ∨ k + j = k + 15 ∨ k + j = k + 12 ∨ k + j = k + 13 := z; omega) (Or.inl (fun z => by have z9 : k + 73 = k + 7 ∨ k + 73 = k + 15 ∨ k + 73 = k + 12 ∨ k + 73 = k + 13 := z; omega))
  have k0_r1 := r1.2.2.1
  have st1 := hS1.2.1
  have mf1 := hS1.2.2.2.2.1
  have ch1 := hC1.1
  refine At.go (q := xm190) rfl 1 (pc' := 17) (L' := [(0, .ref (A 0)), (1, .ref (A (20 + i)))]) (st' := [.ref (A 0)]) rfl ?_
  refine At.gf rfl (by decide) k0_r1 rfl ?_
  refine At.gf rfl (by decide) st1 h2v ?_
  refine At.go (q := xm190) rfl 1 (pc' := 26) (L' := [(0, .ref (A 0)), (1, .ref (A (20 + i)))]) (st' := [.retAddr 16, .retAddr 16]) rfl ?_
  refine At.acn (tgt := 51) (b := true) rfl rfl rfl (fun h => absurd h (by decide)) (fun _ => ?_)
  refine At.go (q := xm190) rfl 2 (pc' := 31) (L' := [(0, .ref (A 0)), (1, .ref (A (20 + i)))]) (st' := [.ref (A 0), .ref (A 0)]) rfl ?_
  refine At.gf rfl (by decide) k0_r1 rfl ?_
  refine At.go (q := xm190) rfl 1 (pc' := 35) (L' := [(0, .ref (A 0)), (1, .ref (A (20 + i)))]) (st' := [.ref (A 0), .ref (A 7), .ref (A 0)]) rfl ?_
  refine At.gf rfl (by decide) k0_r1 rfl ?_
  refine At.go (q := xm190) rfl 1 (pc' := 39) (L' := [(0, .ref (A 0)), (1, .ref (A (20 + i)))]) (st' := [.ref (A 0), .ref (A 60), .ref (A 7), .ref (A 0)]) rfl ?_
  refine At.gf rfl (by decide) k0_r1 rfl ?_
  refine At.clm (as := [.ref (A 7), .ref (A 60), .ref (A 75)]) (rest := [.ref (A 0)]) rfl (by decide) rfl (Nat.le_of_ble_eq_true rfl) (Nat.le_of_ble_eq_true rfl) (xrck_o (by decide) (by decide) ch1 (by decide)) (Nat.le_of_ble_eq_true rfl) (hop g1 r1 hC1 hS1) (fun v9 g2 c2 s2 hv9 => ?_)
  obtain ⟨rfl, t2, hC2, hv73, f2⟩ := hv9
  have r2 := t2.1
  have k0_r2 := r2.2.2.1
  have mf2 := f2.ob mf1 (by decide) (fun e => by rcases e with e | e | e | e | e <;> exact ne 75 _ (by decide) (by decide) (by decide) e)
  have tt2 := HSu.tr t1 t2
  have how2 := r2.2.1
  refine At.pf rfl k0_r2 (Nat.le_of_ble_eq_true rfl) rfl ?_
  obtain ⟨g3, eg3⟩ : ∃ z, z = g2.set (A 0) (.inr (14, [.ref (A 1), .ref (A 2), .ref (A 3), .ref (A 4), .ref (A 5), .ref (A 60), .ref (A 75), .ref (A 6), .ref (A 7), .ref (A 8), .int M.2.2.2.2.2.1, .int 0])) := ⟨_, rfl⟩
  refine At.hpe eg3 ?_
  obtain ⟨t3, f3⟩ := HSu.ref r2 eg3
  have r3 := t3.1
  have f3n : FrX (fun a => (fun n => n = k + 0) (ow a)) g2 g3 := f3.mono (fun x _ e => by have e9 : x = A 0 := e; show ow x = k + 0; rw [e9]; exact (how 0 (by decide)).1)
  have hC3 := hC2.fr (Z := fun n => n = k + 0) f3n r2.1 how2 (fun z => by have z9 : k + 7 = k + 0 := z; omega) (fun z => by have z9 : k + 15 = k + 0 := z; omega) (fun z => by have z9 : k + 12 = k + 0 := z; omega) (fun z => by have z9 : k + 13 = k + 0 := z; omega)
  have tt3 := HSu.tr tt2 t3
  have mf3 := f3.ob mf2 (by decide) (fun e => ne 75 0 (by decide) (by decide) (by decide) e)
  have k0_r3 := r3.2.2.1
  have ch3 := hC3.1
  refine At.go (q := xm190) rfl 2 (pc' := 77) (L' := [(0, .ref (A 0)), (1, .ref (A (20 + i)))]) (st' := [.ref (A 0)]) rfl ?_
  refine At.gf rfl (by decide) k0_r3 rfl ?_
  refine At.go (q := xm190) rfl 3 (pc' := 85) (L' := [(0, .ref (A 0)), (1, .ref (A (20 + i)))]) (st' := [.ref (A 0), .ref (A 0)]) rfl ?_
  refine At.gf rfl (by decide) k0_r3 rfl ?_
  refine At.go (q := xm190) rfl 1 (pc' := 89) (L' := [(0, .ref (A 0)), (1, .ref (A (20 + i)))]) (st' := [.ref (A 0), .ref (A 7), .ref (A 0)]) rfl ?_
  refine At.gf rfl (by decide) k0_r3 rfl ?_
  refine At.gf rfl (by decide) mf3 hm4 ?_
  refine At.clm (as := [.ref (A 7), .ref q.1.1]) (rest := [.ref (A 0)]) rfl (by decide) rfl (Nat.le_of_ble_eq_true rfl) (Nat.le_of_ble_eq_true rfl) (xrck_o (by decide) (by decide) ch3 (by decide)) (Nat.le_of_ble_eq_true rfl) (h_judge r3 hC3 hq hw1 hsD hED hEm hlD hsame) (fun v9 g4 c4 s4 hv9 => ?_)
  obtain ⟨rfl, t4, hC4, f4⟩ := hv9
  have r4 := t4.1
  have k0_r4 := r4.2.2.1
  have tt4 := HSu.tr tt3 t4
  have how4 := r4.2.1
  have mf4 := f4.ob mf3 (by decide) (fun e => by have e9 : ow (A 75) = k + 16 ∨ ow (A 75) = k + 14 ∨ ow (A 75) = k + 303 := e; have u := (how 75 (by decide)).1; omega)
  refine At.pf rfl k0_r4 (Nat.le_of_ble_eq_true rfl) judgeQ_fit ?_
  obtain ⟨g5, eg5⟩ : ∃ z, z = g4.set (A 0) (.inr (14, [.ref (A 1), .ref (A 2), .ref (A 3), .ref (A 4), .ref (A 5), .ref (A 60), .ref (A 75), .ref (A 6), .ref (A 7), .ref (A 8), .int M.2.2.2.2.2.1, .int (judgeQ M q D ms (M.2.2.2.1 i).1)])) := ⟨_, rfl⟩
  refine At.hpe eg5 ?_
  obtain ⟨t5, f5⟩ := HSu.ref r4 eg5
  have r5 := t5.1
  have f5n : FrX (fun a => (fun n => n = k + 0) (ow a)) g4 g5 := f5.mono (fun x _ e => by have e9 : x = A 0 := e; show ow x = k + 0; rw [e9]; exact (how 0 (by decide)).1)
  have hC5 := hC4.fr (Z := fun n => n = k + 0) f5n r4.1 how4 (fun z => by have z9 : k + 7 = k + 0 := z; omega) (fun z => by have z9 : k + 15 = k + 0 := z; omega) (fun z => by have z9 : k + 12 = k + 0 := z; omega) (fun z => by have z9 : k + 13 = k + 0 := z; omega)
  have tt5 := HSu.tr tt4 t5
  have mf5 := f5.ob mf4 (by decide) (fun e => ne 75 0 (by decide) (by decide) (by decide) e)
  have k0_r5 := r5.2.2.1
  have ch5 := hC5.1
  refine At.go (q := xm190) rfl 1 (pc' := 102) (L' := [(0, .ref (A 0)), (1, .ref (A (20 + i)))]) (st' := [.ref (A 0)]) rfl ?_
  refine At.gf rfl (by decide) k0_r5 rfl ?_
  refine At.ic1 (tgt := 113) rfl rfl (fun _ => ?_) (fun h => absurd (h.symm.trans (decide_eq_true hj)) (by decide))
  refine At.go (q := xm190) rfl 1 (pc' := 114) (L' := [(0, .ref (A 0)), (1, .ref (A (20 + i)))]) (st' := [.ref (A 0)]) rfl ?_
  refine At.gf rfl (by decide) k0_r5 rfl ?_
  refine At.gf rfl (by decide) ch5 rfl ?_
  obtain ⟨x1, x2, x3, x4⟩ := tt5
  exact At.rt rfl (xret_i rfl) ⟨_, _, _, _, rfl, rfl, ow, np, nl, fun _ _ => rfl, x1, x2, by omega, by omega⟩
theorem h_alt16k {S : List Int32} {hp : List XC} {ow : Nat → Nat} {k : Nat} {A : Nat → Nat} {M : HM} {np nl : Nat} {if0 if1 items vb : Nat} {kd fr : Nat → Nat} {os : List (Nat × Int32)} {sf mf ces : List Value} {ws : Value} {es : List Value} {gs : List Int32} {i ln K J : Nat} {rc al : Int32} {g : Bool} {D ts ms : List En} {q : TQ} (h : HR hp ow k A M 0 np nl) (hi : i < 8) (hsr : Srt (vwE M i)) (hEt : EnT M.2.2.2.2.2.2 (vwE M i)) (hlen : (vwE M i).length ≤ 3000) (hS9 : StF hp A if0 if1 items vb kd fr os sf mf ces ws es gs) (h2v : sf[2]? = some (.retAddr 16)) (hq : q ∈ M.2.2.2.2.2.2) (hm4 : mf[4]? = some (.ref q.1.1)) (hop : ∀ h1 : List XC, HR h1 ow k A M 0 np nl → ChS h1 A (M.2.2.2.1 i).1 0 0 (vwE M i) [] [] → StF h1 A if0 if1 items vb kd fr os sf mf ces ws es gs → Me S 8 191 [.ref (A 7), .ref (A 60), .ref (A 75)] h1 (fun v hp' c s => v = some (.int rc) ∧ HSu h1 hp' ow k A M 0 np nl c s K J ∧ ChS hp' A (M.2.2.2.1 i).1 al (bI g) D ts ms ∧ (∃ vs : List Int32, hp'[A 73]? = some (.inl (16, vs.map Value.int)) ∧ vs.length = 120) ∧ FrX (fun x => x = A 7 ∨ x = A 15 ∨ x = A 12 ∨ x = A 13 ∨ x = A 73) h1 hp')) (hrf : xfit (xFT 14 11) (.int rc) = true) (hr : rc = 0) (hw1 : 1 ≤ q.2.2.1.2.2.1.length) (hsD : Srt D) (hED : EnT M.2.2.2.2.2.2 D) (hEm : EnT M.2.2.2.2.2.2 ms) (hlD : D.length ≤ 3000) (hsame : ∀ f ∈ D, f.1 = q.2.1 → f.2.2.2.2.2 = q.1.1) (hj : (judgeQ M q D ms (M.2.2.2.1 i).1) = 0) (hlt : (M.2.2.2.1 i).2.2.2.2.1.length + ts.length ≤ 3000) (hle : M.2.2.1.length + ts.length ≤ 3400) (hln : (M.2.2.2.1 i).1 = Int32.ofNat ln) (hl64 : ln < 64) : Me S 11 190 [.ref (A 0), .ref (A (20 + i))] hp (fun v hp' c s => v = some (.int al) ∧ HSt hp hp' ow k A (keepG M i D ts g q.1.1 ln) 0 np nl c s K J) := by
  have hvw := h_view (S := S) h hi
  obtain ⟨hO, how, h0, h1, h3, hD, hF, hE, hT, ⟨lv9, hG⟩, hC, hL9, hQ, hW, hS, hTq9, htd, hcap⟩ := id h
  obtain ⟨za, ab, a1, a2, a3, a4, a5, a6, a7, a8, a9, a10, a11, a12, a13, a14⟩ := hS i hi
  have ne : ∀ a b, a < 77 → b < 77 → a ≠ b → A a ≠ A b := fun a b ha hb hab e => by have u := (how a ha).1; rw [e, (how b hb).1] at u; omega
  subst hr
  refine At.go (q := xm190) rfl 1 (pc' := 1) (L' := [(0, .ref (A 0)), (1, .ref (A (20 + i)))]) (st' := [.ref (A 0)]) rfl ?_
  refine At.gf rfl (by decide) h0 rfl ?_
  refine At.go (q := xm190) rfl 2 (pc' := 6) (L' := [(0, .ref (A 0)), (1, .ref (A (20 + i)))]) (st' := [.ref (A (20 + i)), .ref (A 0), .ref (A 7)]) rfl ?_
  refine At.clp (as := [.ref (A 0), .ref (A (20 + i))]) (rest := [.ref (A 7)]) rfl (by decide) rfl (Nat.le_of_ble_eq_true rfl) (Nat.le_of_ble_eq_true rfl) (xrck_o (by decide) (by decide) h0 (by decide)) (Nat.le_of_ble_eq_true rfl) (hvw) ?_
  refine At.go (q := xm190) rfl 1 (pc' := 10) (L' := [(0, .ref (A 0)), (1, .ref (A (20 + i)))]) (st' := [.ref (A (20 + i)), .ref (A (vwO M i)), .ref (A 7)]) rfl ?_
  refine At.gf rfl (by decide) a1 rfl ?_
  refine At.clm (as := [.ref (A 7), .ref (A (vwO M i)), .int (M.2.2.2.1 i).1]) (rest := []) rfl (by decide) rfl (Nat.le_of_ble_eq_true rfl) (Nat.le_of_ble_eq_true rfl) (xrck_o (by decide) (by decide) hC.1.choose_spec.choose_spec.choose_spec (by decide)) (Nat.le_of_ble_eq_true rfl) (h_start h hi hlen) (fun v9 g1 c1 s1 hv9 => ?_)
  obtain ⟨rfl, t1, hC1, f1⟩ := hv9
  have r1 := t1.1
  have f1n : FrX (fun a => (fun n => n = k + 7 ∨ n = k + 15 ∨ n = k + 12 ∨ n = k + 13) (ow a)) hp g1 := f1.mono (fun x _ e => by
    have e9 : x = A 7 ∨ x = A 15 ∨ x = A 12 ∨ x = A 13 := e
    show ow x = k + 7 ∨ ow x = k + 15 ∨ ow x = k + 12 ∨ ow x = k + 13
    rcases e9 with e9 | e9 | e9 | e9 <;> (rw [e9, (how _ (by decide)).1]; omega))
  have hS1 := hS9.fr (Z := fun n => n = k + 7 ∨ n = k + 15 ∨ n = k + 12 ∨ n = k + 13) f1n how (fun j j1 j2 j3 z => by have z9 : k + j = k + 7 ∨ k + j = k + 15 ∨ k + j = k + 12 ∨ k + j = k + 13 := z; omega) (Or.inl (fun z => by have z9 : k + 73 = k + 7 ∨ k + 73 = k + 15 ∨ k + 73 = k + 12 ∨ k + 73 = k + 13 := z; omega))
  have k0_r1 := r1.2.2.1
  have st1 := hS1.2.1
  have mf1 := hS1.2.2.2.2.1
  have ch1 := hC1.1
  refine At.go (q := xm190) rfl 1 (pc' := 17) (L' := [(0, .ref (A 0)), (1, .ref (A (20 + i)))]) (st' := [.ref (A 0)]) rfl ?_
  refine At.gf rfl (by decide) k0_r1 rfl ?_
  refine At.gf rfl (by decide) st1 h2v ?_
  refine At.go (q := xm190) rfl 1 (pc' := 26) (L' := [(0, .ref (A 0)), (1, .ref (A (20 + i)))]) (st' := [.retAddr 16, .retAddr 16]) rfl ?_
  refine At.acn (tgt := 51) (b := true) rfl rfl rfl (fun h => absurd h (by decide)) (fun _ => ?_)
  refine At.go (q := xm190) rfl 2 (pc' := 31) (L' := [(0, .ref (A 0)), (1, .ref (A (20 + i)))]) (st' := [.ref (A 0), .ref (A 0)]) rfl ?_
  refine At.gf rfl (by decide) k0_r1 rfl ?_
  refine At.go (q := xm190) rfl 1 (pc' := 35) (L' := [(0, .ref (A 0)), (1, .ref (A (20 + i)))]) (st' := [.ref (A 0), .ref (A 7), .ref (A 0)]) rfl ?_
  refine At.gf rfl (by decide) k0_r1 rfl ?_
  refine At.go (q := xm190) rfl 1 (pc' := 39) (L' := [(0, .ref (A 0)), (1, .ref (A (20 + i)))]) (st' := [.ref (A 0), .ref (A 60), .ref (A 7), .ref (A 0)]) rfl ?_
  refine At.gf rfl (by decide) k0_r1 rfl ?_
  refine At.clm (as := [.ref (A 7), .ref (A 60), .ref (A 75)]) (rest := [.ref (A 0)]) rfl (by decide) rfl (Nat.le_of_ble_eq_true rfl) (Nat.le_of_ble_eq_true rfl) (xrck_o (by decide) (by decide) ch1 (by decide)) (Nat.le_of_ble_eq_true rfl) (hop g1 r1 hC1 hS1) (fun v9 g2 c2 s2 hv9 => ?_)
  obtain ⟨rfl, t2, hC2, hv73, f2⟩ := hv9
  have r2 := t2.1
  have k0_r2 := r2.2.2.1
  have mf2 := f2.ob mf1 (by decide) (fun e => by rcases e with e | e | e | e | e <;> exact ne 75 _ (by decide) (by decide) (by decide) e)
  have tt2 := HSu.tr t1 t2
  have how2 := r2.2.1
  refine At.pf rfl k0_r2 (Nat.le_of_ble_eq_true rfl) rfl ?_
  obtain ⟨g3, eg3⟩ : ∃ z, z = g2.set (A 0) (.inr (14, [.ref (A 1), .ref (A 2), .ref (A 3), .ref (A 4), .ref (A 5), .ref (A 60), .ref (A 75), .ref (A 6), .ref (A 7), .ref (A 8), .int M.2.2.2.2.2.1, .int 0])) := ⟨_, rfl⟩
  refine At.hpe eg3 ?_
  obtain ⟨t3, f3⟩ := HSu.ref r2 eg3
  have r3 := t3.1
  have f3n : FrX (fun a => (fun n => n = k + 0) (ow a)) g2 g3 := f3.mono (fun x _ e => by have e9 : x = A 0 := e; show ow x = k + 0; rw [e9]; exact (how 0 (by decide)).1)
  have hC3 := hC2.fr (Z := fun n => n = k + 0) f3n r2.1 how2 (fun z => by have z9 : k + 7 = k + 0 := z; omega) (fun z => by have z9 : k + 15 = k + 0 := z; omega) (fun z => by have z9 : k + 12 = k + 0 := z; omega) (fun z => by have z9 : k + 13 = k + 0 := z; omega)
  have tt3 := HSu.tr tt2 t3
  have mf3 := f3.ob mf2 (by decide) (fun e => ne 75 0 (by decide) (by decide) (by decide) e)
  have k0_r3 := r3.2.2.1
  have ch3 := hC3.1
  refine At.go (q := xm190) rfl 2 (pc' := 77) (L' := [(0, .ref (A 0)), (1, .ref (A (20 + i)))]) (st' := [.ref (A 0)]) rfl ?_
  refine At.gf rfl (by decide) k0_r3 rfl ?_
  refine At.go (q := xm190) rfl 3 (pc' := 85) (L' := [(0, .ref (A 0)), (1, .ref (A (20 + i)))]) (st' := [.ref (A 0), .ref (A 0)]) rfl ?_
  refine At.gf rfl (by decide) k0_r3 rfl ?_
  refine At.go (q := xm190) rfl 1 (pc' := 89) (L' := [(0, .ref (A 0)), (1, .ref (A (20 + i)))]) (st' := [.ref (A 0), .ref (A 7), .ref (A 0)]) rfl ?_
  refine At.gf rfl (by decide) k0_r3 rfl ?_
  refine At.gf rfl (by decide) mf3 hm4 ?_
  refine At.clm (as := [.ref (A 7), .ref q.1.1]) (rest := [.ref (A 0)]) rfl (by decide) rfl (Nat.le_of_ble_eq_true rfl) (Nat.le_of_ble_eq_true rfl) (xrck_o (by decide) (by decide) ch3 (by decide)) (Nat.le_of_ble_eq_true rfl) (h_judge r3 hC3 hq hw1 hsD hED hEm hlD hsame) (fun v9 g4 c4 s4 hv9 => ?_)
  obtain ⟨rfl, t4, hC4, f4⟩ := hv9
  have r4 := t4.1
  have k0_r4 := r4.2.2.1
  have tt4 := HSu.tr tt3 t4
  have how4 := r4.2.1
  have mf4 := f4.ob mf3 (by decide) (fun e => by have e9 : ow (A 75) = k + 16 ∨ ow (A 75) = k + 14 ∨ ow (A 75) = k + 303 := e; have u := (how 75 (by decide)).1; omega)
  rw [hj]
  refine At.pf rfl k0_r4 (Nat.le_of_ble_eq_true rfl) rfl ?_
  obtain ⟨g5, eg5⟩ : ∃ z, z = g4.set (A 0) (.inr (14, [.ref (A 1), .ref (A 2), .ref (A 3), .ref (A 4), .ref (A 5), .ref (A 60), .ref (A 75), .ref (A 6), .ref (A 7), .ref (A 8), .int M.2.2.2.2.2.1, .int 0])) := ⟨_, rfl⟩
  refine At.hpe eg5 ?_
  obtain ⟨t5, f5⟩ := HSu.ref r4 eg5
  have r5 := t5.1
  have f5n : FrX (fun a => (fun n => n = k + 0) (ow a)) g4 g5 := f5.mono (fun x _ e => by have e9 : x = A 0 := e; show ow x = k + 0; rw [e9]; exact (how 0 (by decide)).1)
  have hC5 := hC4.fr (Z := fun n => n = k + 0) f5n r4.1 how4 (fun z => by have z9 : k + 7 = k + 0 := z; omega) (fun z => by have z9 : k + 15 = k + 0 := z; omega) (fun z => by have z9 : k + 12 = k + 0 := z; omega) (fun z => by have z9 : k + 13 = k + 0 := z; omega)
  have tt5 := HSu.tr tt4 t5
  have mf5 := f5.ob mf4 (by decide) (fun e => ne 75 0 (by decide) (by decide) (by decide) e)
  have k0_r5 := r5.2.2.1
  have ch5 := hC5.1
  refine At.go (q := xm190) rfl 1 (pc' := 102) (L' := [(0, .ref (A 0)), (1, .ref (A (20 + i)))]) (st' := [.ref (A 0)]) rfl ?_
  refine At.gf rfl (by decide) k0_r5 rfl ?_
  refine At.go (q := xm190) rfl 3 (pc' := 110) (L' := [(0, .ref (A 0)), (1, .ref (A (20 + i)))]) (st' := [.ref (A (20 + i)), .ref (A 0)]) rfl ?_
  refine At.clm (as := [.ref (A 0), .ref (A (20 + i))]) (rest := []) rfl (by decide) rfl (Nat.le_of_ble_eq_true rfl) (Nat.le_of_ble_eq_true rfl) (xrck_o (by decide) (by decide) k0_r5 (by decide)) (Nat.le_of_ble_eq_true rfl) (h_keep r5 hi hC5 hlD hlt hle hq mf5 hm4 hln hl64) (fun v9 g6 c6 s6 hv9 => ?_)
  obtain ⟨rfl, t6, ch6⟩ := hv9
  have r6 := t6.1
  have tt6 := HSu.tr tt5 t6
  have k0_r6 : g6[A 0]? = some (.inr (14, [.ref (A 1), .ref (A 2), .ref (A 3), .ref (A 4), .ref (A 5), .ref (A 60), .ref (A 75), .ref (A 6), .ref (A 7), .ref (A 8), .int M.2.2.2.2.2.1, .int 0])) := by have u := r6.2.2.1; have e : (keepG M i D ts g q.1.1 ln).2.2.2.2.2.1 = M.2.2.2.2.2.1 := (by unfold keepG keepM; split <;> split <;> rfl); rw [e] at u; exact u
  refine At.go (q := xm190) rfl 1 (pc' := 114) (L' := [(0, .ref (A 0)), (1, .ref (A (20 + i)))]) (st' := [.ref (A 0)]) rfl ?_
  refine At.gf rfl (by decide) k0_r6 rfl ?_
  refine At.gf rfl (by decide) ch6 rfl ?_
  obtain ⟨x1, x2, x3, x4⟩ := tt6
  exact At.rt rfl (xret_i rfl) ⟨_, _, _, _, rfl, rfl, ow, np, nl, fun _ _ => rfl, x1, x2, by omega, by omega⟩
theorem h_alt18j {S : List Int32} {hp : List XC} {ow : Nat → Nat} {k : Nat} {A : Nat → Nat} {M : HM} {np nl : Nat} {if0 if1 items vb : Nat} {kd fr : Nat → Nat} {os : List (Nat × Int32)} {sf mf ces : List Value} {ws : Value} {es : List Value} {gs : List Int32} {i ln K J : Nat} {rc al : Int32} {g : Bool} {D ts ms : List En} {q : TQ} (h : HR hp ow k A M 0 np nl) (hi : i < 8) (hsr : Srt (vwE M i)) (hEt : EnT M.2.2.2.2.2.2 (vwE M i)) (hlen : (vwE M i).length ≤ 3000) (hS9 : StF hp A if0 if1 items vb kd fr os sf mf ces ws es gs) (h2v : sf[2]? = some (.retAddr 18)) (hq : q ∈ M.2.2.2.2.2.2) (hm4 : mf[4]? = some (.ref q.1.1)) (hop : ∀ h1 : List XC, HR h1 ow k A M 0 np nl → h1[A 6]? = some (.inr (11, [.ref (A 10), .int (M.2.2.2.1 i).1])) → hSh h1 (A 10) (lookE (TIq M.2.2.2.2.2.2) (vwE M i) (M.2.2.2.1 i).1) → ChS h1 A (M.2.2.2.1 i).1 0 0 (vwE M i) [] [] → StF h1 A if0 if1 items vb kd fr os sf mf ces ws es gs → Me S 9 193 [.ref (A 7), .ref (A 60), .ref (A 75), .ref (A 6)] h1 (fun v hp' c s => v = none ∧ HSu h1 hp' ow k A M 0 np nl c s K J ∧ ChS hp' A (M.2.2.2.1 i).1 al (bI g) D ts ms ∧ (∃ vs : List Int32, hp'[A 73]? = some (.inl (16, vs.map Value.int)) ∧ vs.length = 120) ∧ FrX (fun x => x = A 7 ∨ x = A 15 ∨ x = A 12 ∨ x = A 13 ∨ x = A 73) h1 hp')) (hw1 : 1 ≤ q.2.2.1.2.2.1.length) (hsD : Srt D) (hED : EnT M.2.2.2.2.2.2 D) (hEm : EnT M.2.2.2.2.2.2 ms) (hlD : D.length ≤ 3000) (hsame : ∀ f ∈ D, f.1 = q.2.1 → f.2.2.2.2.2 = q.1.1) (hj : ¬ (judgeQ M q D ms (M.2.2.2.1 i).1) = 0) : Me S 11 190 [.ref (A 0), .ref (A (20 + i))] hp (fun v hp' c s => v = some (.int al) ∧ HSt hp hp' ow k A M (judgeQ M q D ms (M.2.2.2.1 i).1) np nl c s K J) := by
  have hvw := h_view (S := S) h hi
  obtain ⟨hO, how, h0, h1, h3, hD, hF, hE, hT, ⟨lv9, hG⟩, hC, hL9, hQ, hW, hS, hTq9, htd, hcap⟩ := id h
  obtain ⟨za, ab, a1, a2, a3, a4, a5, a6, a7, a8, a9, a10, a11, a12, a13, a14⟩ := hS i hi
  have ne : ∀ a b, a < 77 → b < 77 → a ≠ b → A a ≠ A b := fun a b ha hb hab e => by have u := (how a ha).1; rw [e, (how b hb).1] at u; omega
  refine At.go (q := xm190) rfl 1 (pc' := 1) (L' := [(0, .ref (A 0)), (1, .ref (A (20 + i)))]) (st' := [.ref (A 0)]) rfl ?_
  refine At.gf rfl (by decide) h0 rfl ?_
  refine At.go (q := xm190) rfl 2 (pc' := 6) (L' := [(0, .ref (A 0)), (1, .ref (A (20 + i)))]) (st' := [.ref (A (20 + i)), .ref (A 0), .ref (A 7)]) rfl ?_
  refine At.clp (as := [.ref (A 0), .ref (A (20 + i))]) (rest := [.ref (A 7)]) rfl (by decide) rfl (Nat.le_of_ble_eq_true rfl) (Nat.le_of_ble_eq_true rfl) (xrck_o (by decide) (by decide) h0 (by decide)) (Nat.le_of_ble_eq_true rfl) (hvw) ?_
  refine At.go (q := xm190) rfl 1 (pc' := 10) (L' := [(0, .ref (A 0)), (1, .ref (A (20 + i)))]) (st' := [.ref (A (20 + i)), .ref (A (vwO M i)), .ref (A 7)]) rfl ?_
  refine At.gf rfl (by decide) a1 rfl ?_
  refine At.clm (as := [.ref (A 7), .ref (A (vwO M i)), .int (M.2.2.2.1 i).1]) (rest := []) rfl (by decide) rfl (Nat.le_of_ble_eq_true rfl) (Nat.le_of_ble_eq_true rfl) (xrck_o (by decide) (by decide) hC.1.choose_spec.choose_spec.choose_spec (by decide)) (Nat.le_of_ble_eq_true rfl) (h_start h hi hlen) (fun v9 g1 c1 s1 hv9 => ?_)
  obtain ⟨rfl, t1, hC1, f1⟩ := hv9
  have r1 := t1.1
  have f1n : FrX (fun a => (fun n => n = k + 7 ∨ n = k + 15 ∨ n = k + 12 ∨ n = k + 13) (ow a)) hp g1 := f1.mono (fun x _ e => by
    have e9 : x = A 7 ∨ x = A 15 ∨ x = A 12 ∨ x = A 13 := e
    show ow x = k + 7 ∨ ow x = k + 15 ∨ ow x = k + 12 ∨ ow x = k + 13
    rcases e9 with e9 | e9 | e9 | e9 <;> (rw [e9, (how _ (by decide)).1]; omega))
  have hS1 := hS9.fr (Z := fun n => n = k + 7 ∨ n = k + 15 ∨ n = k + 12 ∨ n = k + 13) f1n how (fun j j1 j2 j3 z => by have z9 : k + j = k + 7 ∨ k + j = k + 15 ∨ k + j = k + 12 ∨ k + j = k + 13 := z; omega) (Or.inl (fun z => by have z9 : k + 73 = k + 7 ∨ k + 73 = k + 15 ∨ k + 73 = k + 12 ∨ k + 73 = k + 13 := z; omega))
  have k0_r1 := r1.2.2.1
  have st1 := hS1.2.1
  have mf1 := hS1.2.2.2.2.1
  have ch1 := hC1.1
  refine At.go (q := xm190) rfl 1 (pc' := 17) (L' := [(0, .ref (A 0)), (1, .ref (A (20 + i)))]) (st' := [.ref (A 0)]) rfl ?_
  refine At.gf rfl (by decide) k0_r1 rfl ?_
  refine At.gf rfl (by decide) st1 h2v ?_
  refine At.go (q := xm190) rfl 1 (pc' := 26) (L' := [(0, .ref (A 0)), (1, .ref (A (20 + i)))]) (st' := [.retAddr 16, .retAddr 18]) rfl ?_
  refine At.acn (tgt := 51) (b := false) rfl rfl rfl (fun _ => ?_) (fun h => absurd h (by decide))
  refine At.go (q := xm190) rfl 2 (pc' := 53) (L' := [(0, .ref (A 0)), (1, .ref (A (20 + i)))]) (st' := [.ref (A (20 + i)), .ref (A 0)]) rfl ?_
  refine At.clm (as := [.ref (A 0), .ref (A (20 + i))]) (rest := []) rfl (by decide) rfl (Nat.le_of_ble_eq_true rfl) (Nat.le_of_ble_eq_true rfl) (xrck_o (by decide) (by decide) k0_r1 (by decide)) (Nat.le_of_ble_eq_true rfl) (m_lookFor r1 hi hsr hEt hlen) (fun v9 h1' c9 s9 hv9 => ?_)
  obtain ⟨rfl, fl, l1, l2, l4, l5, l6⟩ := hv9
  obtain ⟨rl, frl, rl3, rl4⟩ := r1.looked fl l1 l2 l4 l5 l6 (by omega)
  have tl : HSu g1 h1' ow k A M 0 np nl c9 s9 0 0 := ⟨rl, frl, by omega, by omega⟩
  have fln : FrX (fun a => (fun n => n = k + 10 ∨ n = k + 6) (ow a)) g1 h1' := fl.mono (fun x _ e => by
    have e9 : x = A 10 ∨ x = A 6 := e
    show ow x = k + 10 ∨ ow x = k + 6
    rcases e9 with e9 | e9 <;> (rw [e9, (how _ (by decide)).1]; omega))
  have hSl := hS1.fr (Z := fun n => n = k + 10 ∨ n = k + 6) fln r1.2.1 (fun j j1 j2 j3 z => by have z9 : k + j = k + 10 ∨ k + j = k + 6 := z; omega) (Or.inl (fun z => by have z9 : k + 73 = k + 10 ∨ k + 73 = k + 6 := z; omega))
  have hCl := hC1.fr (Z := fun n => n = k + 10 ∨ n = k + 6) fln r1.1 r1.2.1 (fun z => by have z9 : k + 7 = k + 10 ∨ k + 7 = k + 6 := z; omega) (fun z => by have z9 : k + 15 = k + 10 ∨ k + 15 = k + 6 := z; omega) (fun z => by have z9 : k + 12 = k + 10 ∨ k + 12 = k + 6 := z; omega) (fun z => by have z9 : k + 13 = k + 10 ∨ k + 13 = k + 6 := z; omega)
  have ttl := HSu.tr t1 tl
  have mfl := hSl.2.2.2.2.1
  have chl := hCl.1
  have k0_rl := rl.2.2.1
  refine At.go (q := xm190) rfl 2 (pc' := 58) (L' := [(0, .ref (A 0)), (1, .ref (A (20 + i)))]) (st' := [.ref (A 0)]) rfl ?_
  refine At.gf rfl (by decide) k0_rl rfl ?_
  refine At.go (q := xm190) rfl 1 (pc' := 62) (L' := [(0, .ref (A 0)), (1, .ref (A (20 + i)))]) (st' := [.ref (A 0), .ref (A 7)]) rfl ?_
  refine At.gf rfl (by decide) k0_rl rfl ?_
  refine At.go (q := xm190) rfl 1 (pc' := 66) (L' := [(0, .ref (A 0)), (1, .ref (A (20 + i)))]) (st' := [.ref (A 0), .ref (A 60), .ref (A 7)]) rfl ?_
  refine At.gf rfl (by decide) k0_rl rfl ?_
  refine At.go (q := xm190) rfl 1 (pc' := 70) (L' := [(0, .ref (A 0)), (1, .ref (A (20 + i)))]) (st' := [.ref (A 0), .ref (A 75), .ref (A 60), .ref (A 7)]) rfl ?_
  refine At.gf rfl (by decide) k0_rl rfl ?_
  refine At.clm (as := [.ref (A 7), .ref (A 60), .ref (A 75), .ref (A 6)]) (rest := []) rfl (by decide) rfl (Nat.le_of_ble_eq_true rfl) (Nat.le_of_ble_eq_true rfl) (xrck_o (by decide) (by decide) chl (by decide)) (Nat.le_of_ble_eq_true rfl) (hop h1' rl l1 l2 hCl hSl) (fun v9 g3 c2 s2 hv9 => ?_)
  obtain ⟨rfl, t3, hC3, hv73, f2⟩ := hv9
  have r3 := t3.1
  have k0_r3 := r3.2.2.1
  have mf3 := f2.ob mfl (by decide) (fun e => by rcases e with e | e | e | e | e <;> exact ne 75 _ (by decide) (by decide) (by decide) e)
  have tt3 := HSu.tr ttl t3
  have ch3 := hC3.1
  refine At.go (q := xm190) rfl 1 (pc' := 77) (L' := [(0, .ref (A 0)), (1, .ref (A (20 + i)))]) (st' := [.ref (A 0)]) rfl ?_
  refine At.gf rfl (by decide) k0_r3 rfl ?_
  refine At.go (q := xm190) rfl 3 (pc' := 85) (L' := [(0, .ref (A 0)), (1, .ref (A (20 + i)))]) (st' := [.ref (A 0), .ref (A 0)]) rfl ?_
  refine At.gf rfl (by decide) k0_r3 rfl ?_
  refine At.go (q := xm190) rfl 1 (pc' := 89) (L' := [(0, .ref (A 0)), (1, .ref (A (20 + i)))]) (st' := [.ref (A 0), .ref (A 7), .ref (A 0)]) rfl ?_
  refine At.gf rfl (by decide) k0_r3 rfl ?_
  refine At.gf rfl (by decide) mf3 hm4 ?_
  refine At.clm (as := [.ref (A 7), .ref q.1.1]) (rest := [.ref (A 0)]) rfl (by decide) rfl (Nat.le_of_ble_eq_true rfl) (Nat.le_of_ble_eq_true rfl) (xrck_o (by decide) (by decide) ch3 (by decide)) (Nat.le_of_ble_eq_true rfl) (h_judge r3 hC3 hq hw1 hsD hED hEm hlD hsame) (fun v9 g4 c4 s4 hv9 => ?_)
  obtain ⟨rfl, t4, hC4, f4⟩ := hv9
  have r4 := t4.1
  have k0_r4 := r4.2.2.1
  have tt4 := HSu.tr tt3 t4
  have how4 := r4.2.1
  have mf4 := f4.ob mf3 (by decide) (fun e => by have e9 : ow (A 75) = k + 16 ∨ ow (A 75) = k + 14 ∨ ow (A 75) = k + 303 := e; have u := (how 75 (by decide)).1; omega)
  refine At.pf rfl k0_r4 (Nat.le_of_ble_eq_true rfl) judgeQ_fit ?_
  obtain ⟨g5, eg5⟩ : ∃ z, z = g4.set (A 0) (.inr (14, [.ref (A 1), .ref (A 2), .ref (A 3), .ref (A 4), .ref (A 5), .ref (A 60), .ref (A 75), .ref (A 6), .ref (A 7), .ref (A 8), .int M.2.2.2.2.2.1, .int (judgeQ M q D ms (M.2.2.2.1 i).1)])) := ⟨_, rfl⟩
  refine At.hpe eg5 ?_
  obtain ⟨t5, f5⟩ := HSu.ref r4 eg5
  have r5 := t5.1
  have f5n : FrX (fun a => (fun n => n = k + 0) (ow a)) g4 g5 := f5.mono (fun x _ e => by have e9 : x = A 0 := e; show ow x = k + 0; rw [e9]; exact (how 0 (by decide)).1)
  have hC5 := hC4.fr (Z := fun n => n = k + 0) f5n r4.1 how4 (fun z => by have z9 : k + 7 = k + 0 := z; omega) (fun z => by have z9 : k + 15 = k + 0 := z; omega) (fun z => by have z9 : k + 12 = k + 0 := z; omega) (fun z => by have z9 : k + 13 = k + 0 := z; omega)
  have tt5 := HSu.tr tt4 t5
  have mf5 := f5.ob mf4 (by decide) (fun e => ne 75 0 (by decide) (by decide) (by decide) e)
  have k0_r5 := r5.2.2.1
  have ch5 := hC5.1
  refine At.go (q := xm190) rfl 1 (pc' := 102) (L' := [(0, .ref (A 0)), (1, .ref (A (20 + i)))]) (st' := [.ref (A 0)]) rfl ?_
  refine At.gf rfl (by decide) k0_r5 rfl ?_
  refine At.ic1 (tgt := 113) rfl rfl (fun _ => ?_) (fun h => absurd (h.symm.trans (decide_eq_true hj)) (by decide))
  refine At.go (q := xm190) rfl 1 (pc' := 114) (L' := [(0, .ref (A 0)), (1, .ref (A (20 + i)))]) (st' := [.ref (A 0)]) rfl ?_
  refine At.gf rfl (by decide) k0_r5 rfl ?_
  refine At.gf rfl (by decide) ch5 rfl ?_
  obtain ⟨x1, x2, x3, x4⟩ := tt5
  exact At.rt rfl (xret_i rfl) ⟨_, _, _, _, rfl, rfl, ow, np, nl, fun _ _ => rfl, x1, x2, by omega, by omega⟩
theorem h_alt18k {S : List Int32} {hp : List XC} {ow : Nat → Nat} {k : Nat} {A : Nat → Nat} {M : HM} {np nl : Nat} {if0 if1 items vb : Nat} {kd fr : Nat → Nat} {os : List (Nat × Int32)} {sf mf ces : List Value} {ws : Value} {es : List Value} {gs : List Int32} {i ln K J : Nat} {rc al : Int32} {g : Bool} {D ts ms : List En} {q : TQ} (h : HR hp ow k A M 0 np nl) (hi : i < 8) (hsr : Srt (vwE M i)) (hEt : EnT M.2.2.2.2.2.2 (vwE M i)) (hlen : (vwE M i).length ≤ 3000) (hS9 : StF hp A if0 if1 items vb kd fr os sf mf ces ws es gs) (h2v : sf[2]? = some (.retAddr 18)) (hq : q ∈ M.2.2.2.2.2.2) (hm4 : mf[4]? = some (.ref q.1.1)) (hop : ∀ h1 : List XC, HR h1 ow k A M 0 np nl → h1[A 6]? = some (.inr (11, [.ref (A 10), .int (M.2.2.2.1 i).1])) → hSh h1 (A 10) (lookE (TIq M.2.2.2.2.2.2) (vwE M i) (M.2.2.2.1 i).1) → ChS h1 A (M.2.2.2.1 i).1 0 0 (vwE M i) [] [] → StF h1 A if0 if1 items vb kd fr os sf mf ces ws es gs → Me S 9 193 [.ref (A 7), .ref (A 60), .ref (A 75), .ref (A 6)] h1 (fun v hp' c s => v = none ∧ HSu h1 hp' ow k A M 0 np nl c s K J ∧ ChS hp' A (M.2.2.2.1 i).1 al (bI g) D ts ms ∧ (∃ vs : List Int32, hp'[A 73]? = some (.inl (16, vs.map Value.int)) ∧ vs.length = 120) ∧ FrX (fun x => x = A 7 ∨ x = A 15 ∨ x = A 12 ∨ x = A 13 ∨ x = A 73) h1 hp')) (hw1 : 1 ≤ q.2.2.1.2.2.1.length) (hsD : Srt D) (hED : EnT M.2.2.2.2.2.2 D) (hEm : EnT M.2.2.2.2.2.2 ms) (hlD : D.length ≤ 3000) (hsame : ∀ f ∈ D, f.1 = q.2.1 → f.2.2.2.2.2 = q.1.1) (hj : (judgeQ M q D ms (M.2.2.2.1 i).1) = 0) (hlt : (M.2.2.2.1 i).2.2.2.2.1.length + ts.length ≤ 3000) (hle : M.2.2.1.length + ts.length ≤ 3400) (hln : (M.2.2.2.1 i).1 = Int32.ofNat ln) (hl64 : ln < 64) : Me S 11 190 [.ref (A 0), .ref (A (20 + i))] hp (fun v hp' c s => v = some (.int al) ∧ HSt hp hp' ow k A (keepG M i D ts g q.1.1 ln) 0 np nl c s K J) := by
  have hvw := h_view (S := S) h hi
  obtain ⟨hO, how, h0, h1, h3, hD, hF, hE, hT, ⟨lv9, hG⟩, hC, hL9, hQ, hW, hS, hTq9, htd, hcap⟩ := id h
  obtain ⟨za, ab, a1, a2, a3, a4, a5, a6, a7, a8, a9, a10, a11, a12, a13, a14⟩ := hS i hi
  have ne : ∀ a b, a < 77 → b < 77 → a ≠ b → A a ≠ A b := fun a b ha hb hab e => by have u := (how a ha).1; rw [e, (how b hb).1] at u; omega
  refine At.go (q := xm190) rfl 1 (pc' := 1) (L' := [(0, .ref (A 0)), (1, .ref (A (20 + i)))]) (st' := [.ref (A 0)]) rfl ?_
  refine At.gf rfl (by decide) h0 rfl ?_
  refine At.go (q := xm190) rfl 2 (pc' := 6) (L' := [(0, .ref (A 0)), (1, .ref (A (20 + i)))]) (st' := [.ref (A (20 + i)), .ref (A 0), .ref (A 7)]) rfl ?_
  refine At.clp (as := [.ref (A 0), .ref (A (20 + i))]) (rest := [.ref (A 7)]) rfl (by decide) rfl (Nat.le_of_ble_eq_true rfl) (Nat.le_of_ble_eq_true rfl) (xrck_o (by decide) (by decide) h0 (by decide)) (Nat.le_of_ble_eq_true rfl) (hvw) ?_
  refine At.go (q := xm190) rfl 1 (pc' := 10) (L' := [(0, .ref (A 0)), (1, .ref (A (20 + i)))]) (st' := [.ref (A (20 + i)), .ref (A (vwO M i)), .ref (A 7)]) rfl ?_
  refine At.gf rfl (by decide) a1 rfl ?_
  refine At.clm (as := [.ref (A 7), .ref (A (vwO M i)), .int (M.2.2.2.1 i).1]) (rest := []) rfl (by decide) rfl (Nat.le_of_ble_eq_true rfl) (Nat.le_of_ble_eq_true rfl) (xrck_o (by decide) (by decide) hC.1.choose_spec.choose_spec.choose_spec (by decide)) (Nat.le_of_ble_eq_true rfl) (h_start h hi hlen) (fun v9 g1 c1 s1 hv9 => ?_)
  obtain ⟨rfl, t1, hC1, f1⟩ := hv9
  have r1 := t1.1
  have f1n : FrX (fun a => (fun n => n = k + 7 ∨ n = k + 15 ∨ n = k + 12 ∨ n = k + 13) (ow a)) hp g1 := f1.mono (fun x _ e => by
    have e9 : x = A 7 ∨ x = A 15 ∨ x = A 12 ∨ x = A 13 := e
    show ow x = k + 7 ∨ ow x = k + 15 ∨ ow x = k + 12 ∨ ow x = k + 13
    rcases e9 with e9 | e9 | e9 | e9 <;> (rw [e9, (how _ (by decide)).1]; omega))
  have hS1 := hS9.fr (Z := fun n => n = k + 7 ∨ n = k + 15 ∨ n = k + 12 ∨ n = k + 13) f1n how (fun j j1 j2 j3 z => by have z9 : k + j = k + 7 ∨ k + j = k + 15 ∨ k + j = k + 12 ∨ k + j = k + 13 := z; omega) (Or.inl (fun z => by have z9 : k + 73 = k + 7 ∨ k + 73 = k + 15 ∨ k + 73 = k + 12 ∨ k + 73 = k + 13 := z; omega))
  have k0_r1 := r1.2.2.1
  have st1 := hS1.2.1
  have mf1 := hS1.2.2.2.2.1
  have ch1 := hC1.1
  refine At.go (q := xm190) rfl 1 (pc' := 17) (L' := [(0, .ref (A 0)), (1, .ref (A (20 + i)))]) (st' := [.ref (A 0)]) rfl ?_
  refine At.gf rfl (by decide) k0_r1 rfl ?_
  refine At.gf rfl (by decide) st1 h2v ?_
  refine At.go (q := xm190) rfl 1 (pc' := 26) (L' := [(0, .ref (A 0)), (1, .ref (A (20 + i)))]) (st' := [.retAddr 16, .retAddr 18]) rfl ?_
  refine At.acn (tgt := 51) (b := false) rfl rfl rfl (fun _ => ?_) (fun h => absurd h (by decide))
  refine At.go (q := xm190) rfl 2 (pc' := 53) (L' := [(0, .ref (A 0)), (1, .ref (A (20 + i)))]) (st' := [.ref (A (20 + i)), .ref (A 0)]) rfl ?_
  refine At.clm (as := [.ref (A 0), .ref (A (20 + i))]) (rest := []) rfl (by decide) rfl (Nat.le_of_ble_eq_true rfl) (Nat.le_of_ble_eq_true rfl) (xrck_o (by decide) (by decide) k0_r1 (by decide)) (Nat.le_of_ble_eq_true rfl) (m_lookFor r1 hi hsr hEt hlen) (fun v9 h1' c9 s9 hv9 => ?_)
  obtain ⟨rfl, fl, l1, l2, l4, l5, l6⟩ := hv9
  obtain ⟨rl, frl, rl3, rl4⟩ := r1.looked fl l1 l2 l4 l5 l6 (by omega)
  have tl : HSu g1 h1' ow k A M 0 np nl c9 s9 0 0 := ⟨rl, frl, by omega, by omega⟩
  have fln : FrX (fun a => (fun n => n = k + 10 ∨ n = k + 6) (ow a)) g1 h1' := fl.mono (fun x _ e => by
    have e9 : x = A 10 ∨ x = A 6 := e
    show ow x = k + 10 ∨ ow x = k + 6
    rcases e9 with e9 | e9 <;> (rw [e9, (how _ (by decide)).1]; omega))
  have hSl := hS1.fr (Z := fun n => n = k + 10 ∨ n = k + 6) fln r1.2.1 (fun j j1 j2 j3 z => by have z9 : k + j = k + 10 ∨ k + j = k + 6 := z; omega) (Or.inl (fun z => by have z9 : k + 73 = k + 10 ∨ k + 73 = k + 6 := z; omega))
  have hCl := hC1.fr (Z := fun n => n = k + 10 ∨ n = k + 6) fln r1.1 r1.2.1 (fun z => by have z9 : k + 7 = k + 10 ∨ k + 7 = k + 6 := z; omega) (fun z => by have z9 : k + 15 = k + 10 ∨ k + 15 = k + 6 := z; omega) (fun z => by have z9 : k + 12 = k + 10 ∨ k + 12 = k + 6 := z; omega) (fun z => by have z9 : k + 13 = k + 10 ∨ k + 13 = k + 6 := z; omega)
  have ttl := HSu.tr t1 tl
  have mfl := hSl.2.2.2.2.1
  have chl := hCl.1
  have k0_rl := rl.2.2.1
  refine At.go (q := xm190) rfl 2 (pc' := 58) (L' := [(0, .ref (A 0)), (1, .ref (A (20 + i)))]) (st' := [.ref (A 0)]) rfl ?_
  refine At.gf rfl (by decide) k0_rl rfl ?_
  refine At.go (q := xm190) rfl 1 (pc' := 62) (L' := [(0, .ref (A 0)), (1, .ref (A (20 + i)))]) (st' := [.ref (A 0), .ref (A 7)]) rfl ?_
  refine At.gf rfl (by decide) k0_rl rfl ?_
  refine At.go (q := xm190) rfl 1 (pc' := 66) (L' := [(0, .ref (A 0)), (1, .ref (A (20 + i)))]) (st' := [.ref (A 0), .ref (A 60), .ref (A 7)]) rfl ?_
  refine At.gf rfl (by decide) k0_rl rfl ?_
  refine At.go (q := xm190) rfl 1 (pc' := 70) (L' := [(0, .ref (A 0)), (1, .ref (A (20 + i)))]) (st' := [.ref (A 0), .ref (A 75), .ref (A 60), .ref (A 7)]) rfl ?_
  refine At.gf rfl (by decide) k0_rl rfl ?_
  refine At.clm (as := [.ref (A 7), .ref (A 60), .ref (A 75), .ref (A 6)]) (rest := []) rfl (by decide) rfl (Nat.le_of_ble_eq_true rfl) (Nat.le_of_ble_eq_true rfl) (xrck_o (by decide) (by decide) chl (by decide)) (Nat.le_of_ble_eq_true rfl) (hop h1' rl l1 l2 hCl hSl) (fun v9 g3 c2 s2 hv9 => ?_)
  obtain ⟨rfl, t3, hC3, hv73, f2⟩ := hv9
  have r3 := t3.1
  have k0_r3 := r3.2.2.1
  have mf3 := f2.ob mfl (by decide) (fun e => by rcases e with e | e | e | e | e <;> exact ne 75 _ (by decide) (by decide) (by decide) e)
  have tt3 := HSu.tr ttl t3
  have ch3 := hC3.1
  refine At.go (q := xm190) rfl 1 (pc' := 77) (L' := [(0, .ref (A 0)), (1, .ref (A (20 + i)))]) (st' := [.ref (A 0)]) rfl ?_
  refine At.gf rfl (by decide) k0_r3 rfl ?_
  refine At.go (q := xm190) rfl 3 (pc' := 85) (L' := [(0, .ref (A 0)), (1, .ref (A (20 + i)))]) (st' := [.ref (A 0), .ref (A 0)]) rfl ?_
  refine At.gf rfl (by decide) k0_r3 rfl ?_
  refine At.go (q := xm190) rfl 1 (pc' := 89) (L' := [(0, .ref (A 0)), (1, .ref (A (20 + i)))]) (st' := [.ref (A 0), .ref (A 7), .ref (A 0)]) rfl ?_
  refine At.gf rfl (by decide) k0_r3 rfl ?_
  refine At.gf rfl (by decide) mf3 hm4 ?_
  refine At.clm (as := [.ref (A 7), .ref q.1.1]) (rest := [.ref (A 0)]) rfl (by decide) rfl (Nat.le_of_ble_eq_true rfl) (Nat.le_of_ble_eq_true rfl) (xrck_o (by decide) (by decide) ch3 (by decide)) (Nat.le_of_ble_eq_true rfl) (h_judge r3 hC3 hq hw1 hsD hED hEm hlD hsame) (fun v9 g4 c4 s4 hv9 => ?_)
  obtain ⟨rfl, t4, hC4, f4⟩ := hv9
  have r4 := t4.1
  have k0_r4 := r4.2.2.1
  have tt4 := HSu.tr tt3 t4
  have how4 := r4.2.1
  have mf4 := f4.ob mf3 (by decide) (fun e => by have e9 : ow (A 75) = k + 16 ∨ ow (A 75) = k + 14 ∨ ow (A 75) = k + 303 := e; have u := (how 75 (by decide)).1; omega)
  rw [hj]
  refine At.pf rfl k0_r4 (Nat.le_of_ble_eq_true rfl) rfl ?_
  obtain ⟨g5, eg5⟩ : ∃ z, z = g4.set (A 0) (.inr (14, [.ref (A 1), .ref (A 2), .ref (A 3), .ref (A 4), .ref (A 5), .ref (A 60), .ref (A 75), .ref (A 6), .ref (A 7), .ref (A 8), .int M.2.2.2.2.2.1, .int 0])) := ⟨_, rfl⟩
  refine At.hpe eg5 ?_
  obtain ⟨t5, f5⟩ := HSu.ref r4 eg5
  have r5 := t5.1
  have f5n : FrX (fun a => (fun n => n = k + 0) (ow a)) g4 g5 := f5.mono (fun x _ e => by have e9 : x = A 0 := e; show ow x = k + 0; rw [e9]; exact (how 0 (by decide)).1)
  have hC5 := hC4.fr (Z := fun n => n = k + 0) f5n r4.1 how4 (fun z => by have z9 : k + 7 = k + 0 := z; omega) (fun z => by have z9 : k + 15 = k + 0 := z; omega) (fun z => by have z9 : k + 12 = k + 0 := z; omega) (fun z => by have z9 : k + 13 = k + 0 := z; omega)
  have tt5 := HSu.tr tt4 t5
  have mf5 := f5.ob mf4 (by decide) (fun e => ne 75 0 (by decide) (by decide) (by decide) e)
  have k0_r5 := r5.2.2.1
  have ch5 := hC5.1
  refine At.go (q := xm190) rfl 1 (pc' := 102) (L' := [(0, .ref (A 0)), (1, .ref (A (20 + i)))]) (st' := [.ref (A 0)]) rfl ?_
  refine At.gf rfl (by decide) k0_r5 rfl ?_
  refine At.go (q := xm190) rfl 3 (pc' := 110) (L' := [(0, .ref (A 0)), (1, .ref (A (20 + i)))]) (st' := [.ref (A (20 + i)), .ref (A 0)]) rfl ?_
  refine At.clm (as := [.ref (A 0), .ref (A (20 + i))]) (rest := []) rfl (by decide) rfl (Nat.le_of_ble_eq_true rfl) (Nat.le_of_ble_eq_true rfl) (xrck_o (by decide) (by decide) k0_r5 (by decide)) (Nat.le_of_ble_eq_true rfl) (h_keep r5 hi hC5 hlD hlt hle hq mf5 hm4 hln hl64) (fun v9 g6 c6 s6 hv9 => ?_)
  obtain ⟨rfl, t6, ch6⟩ := hv9
  have r6 := t6.1
  have tt6 := HSu.tr tt5 t6
  have k0_r6 : g6[A 0]? = some (.inr (14, [.ref (A 1), .ref (A 2), .ref (A 3), .ref (A 4), .ref (A 5), .ref (A 60), .ref (A 75), .ref (A 6), .ref (A 7), .ref (A 8), .int M.2.2.2.2.2.1, .int 0])) := by have u := r6.2.2.1; have e : (keepG M i D ts g q.1.1 ln).2.2.2.2.2.1 = M.2.2.2.2.2.1 := (by unfold keepG keepM; split <;> split <;> rfl); rw [e] at u; exact u
  refine At.go (q := xm190) rfl 1 (pc' := 114) (L' := [(0, .ref (A 0)), (1, .ref (A (20 + i)))]) (st' := [.ref (A 0)]) rfl ?_
  refine At.gf rfl (by decide) k0_r6 rfl ?_
  refine At.gf rfl (by decide) ch6 rfl ?_
  obtain ⟨x1, x2, x3, x4⟩ := tt6
  exact At.rt rfl (xret_i rfl) ⟨_, _, _, _, rfl, rfl, ow, np, nl, fun _ _ => rfl, x1, x2, by omega, by omega⟩
theorem h_alt19j {S : List Int32} {hp : List XC} {ow : Nat → Nat} {k : Nat} {A : Nat → Nat} {M : HM} {np nl : Nat} {if0 if1 items vb : Nat} {kd fr : Nat → Nat} {os : List (Nat × Int32)} {sf mf ces : List Value} {ws : Value} {es : List Value} {gs : List Int32} {i ln K J : Nat} {rc al : Int32} {g : Bool} {D ts ms : List En} {q : TQ} (h : HR hp ow k A M 0 np nl) (hi : i < 8) (hsr : Srt (vwE M i)) (hEt : EnT M.2.2.2.2.2.2 (vwE M i)) (hlen : (vwE M i).length ≤ 3000) (hS9 : StF hp A if0 if1 items vb kd fr os sf mf ces ws es gs) (h2v : sf[2]? = some (.retAddr 19)) (hq : q ∈ M.2.2.2.2.2.2) (hm4 : mf[4]? = some (.ref q.1.1)) (hop : ∀ h1 : List XC, HR h1 ow k A M 0 np nl → h1[A 6]? = some (.inr (11, [.ref (A 10), .int (M.2.2.2.1 i).1])) → hSh h1 (A 10) (lookE (TIq M.2.2.2.2.2.2) (vwE M i) (M.2.2.2.1 i).1) → ChS h1 A (M.2.2.2.1 i).1 0 0 (vwE M i) [] [] → StF h1 A if0 if1 items vb kd fr os sf mf ces ws es gs → Me S 9 193 [.ref (A 7), .ref (A 60), .ref (A 75), .ref (A 6)] h1 (fun v hp' c s => v = none ∧ HSu h1 hp' ow k A M 0 np nl c s K J ∧ ChS hp' A (M.2.2.2.1 i).1 al (bI g) D ts ms ∧ (∃ vs : List Int32, hp'[A 73]? = some (.inl (16, vs.map Value.int)) ∧ vs.length = 120) ∧ FrX (fun x => x = A 7 ∨ x = A 15 ∨ x = A 12 ∨ x = A 13 ∨ x = A 73) h1 hp')) (hw1 : 1 ≤ q.2.2.1.2.2.1.length) (hsD : Srt D) (hED : EnT M.2.2.2.2.2.2 D) (hEm : EnT M.2.2.2.2.2.2 ms) (hlD : D.length ≤ 3000) (hsame : ∀ f ∈ D, f.1 = q.2.1 → f.2.2.2.2.2 = q.1.1) (hj : ¬ (judgeQ M q D ms (M.2.2.2.1 i).1) = 0) : Me S 11 190 [.ref (A 0), .ref (A (20 + i))] hp (fun v hp' c s => v = some (.int al) ∧ HSt hp hp' ow k A M (judgeQ M q D ms (M.2.2.2.1 i).1) np nl c s K J) := by
  have hvw := h_view (S := S) h hi
  obtain ⟨hO, how, h0, h1, h3, hD, hF, hE, hT, ⟨lv9, hG⟩, hC, hL9, hQ, hW, hS, hTq9, htd, hcap⟩ := id h
  obtain ⟨za, ab, a1, a2, a3, a4, a5, a6, a7, a8, a9, a10, a11, a12, a13, a14⟩ := hS i hi
  have ne : ∀ a b, a < 77 → b < 77 → a ≠ b → A a ≠ A b := fun a b ha hb hab e => by have u := (how a ha).1; rw [e, (how b hb).1] at u; omega
  refine At.go (q := xm190) rfl 1 (pc' := 1) (L' := [(0, .ref (A 0)), (1, .ref (A (20 + i)))]) (st' := [.ref (A 0)]) rfl ?_
  refine At.gf rfl (by decide) h0 rfl ?_
  refine At.go (q := xm190) rfl 2 (pc' := 6) (L' := [(0, .ref (A 0)), (1, .ref (A (20 + i)))]) (st' := [.ref (A (20 + i)), .ref (A 0), .ref (A 7)]) rfl ?_
  refine At.clp (as := [.ref (A 0), .ref (A (20 + i))]) (rest := [.ref (A 7)]) rfl (by decide) rfl (Nat.le_of_ble_eq_true rfl) (Nat.le_of_ble_eq_true rfl) (xrck_o (by decide) (by decide) h0 (by decide)) (Nat.le_of_ble_eq_true rfl) (hvw) ?_
  refine At.go (q := xm190) rfl 1 (pc' := 10) (L' := [(0, .ref (A 0)), (1, .ref (A (20 + i)))]) (st' := [.ref (A (20 + i)), .ref (A (vwO M i)), .ref (A 7)]) rfl ?_
  refine At.gf rfl (by decide) a1 rfl ?_
  refine At.clm (as := [.ref (A 7), .ref (A (vwO M i)), .int (M.2.2.2.1 i).1]) (rest := []) rfl (by decide) rfl (Nat.le_of_ble_eq_true rfl) (Nat.le_of_ble_eq_true rfl) (xrck_o (by decide) (by decide) hC.1.choose_spec.choose_spec.choose_spec (by decide)) (Nat.le_of_ble_eq_true rfl) (h_start h hi hlen) (fun v9 g1 c1 s1 hv9 => ?_)
  obtain ⟨rfl, t1, hC1, f1⟩ := hv9
  have r1 := t1.1
  have f1n : FrX (fun a => (fun n => n = k + 7 ∨ n = k + 15 ∨ n = k + 12 ∨ n = k + 13) (ow a)) hp g1 := f1.mono (fun x _ e => by
    have e9 : x = A 7 ∨ x = A 15 ∨ x = A 12 ∨ x = A 13 := e
    show ow x = k + 7 ∨ ow x = k + 15 ∨ ow x = k + 12 ∨ ow x = k + 13
    rcases e9 with e9 | e9 | e9 | e9 <;> (rw [e9, (how _ (by decide)).1]; omega))
  have hS1 := hS9.fr (Z := fun n => n = k + 7 ∨ n = k + 15 ∨ n = k + 12 ∨ n = k + 13) f1n how (fun j j1 j2 j3 z => by have z9 : k + j = k + 7 ∨ k + j = k + 15 ∨ k + j = k + 12 ∨ k + j = k + 13 := z; omega) (Or.inl (fun z => by have z9 : k + 73 = k + 7 ∨ k + 73 = k + 15 ∨ k + 73 = k + 12 ∨ k + 73 = k + 13 := z; omega))
  have k0_r1 := r1.2.2.1
  have st1 := hS1.2.1
  have mf1 := hS1.2.2.2.2.1
  have ch1 := hC1.1
  refine At.go (q := xm190) rfl 1 (pc' := 17) (L' := [(0, .ref (A 0)), (1, .ref (A (20 + i)))]) (st' := [.ref (A 0)]) rfl ?_
  refine At.gf rfl (by decide) k0_r1 rfl ?_
  refine At.gf rfl (by decide) st1 h2v ?_
  refine At.go (q := xm190) rfl 1 (pc' := 26) (L' := [(0, .ref (A 0)), (1, .ref (A (20 + i)))]) (st' := [.retAddr 16, .retAddr 19]) rfl ?_
  refine At.acn (tgt := 51) (b := false) rfl rfl rfl (fun _ => ?_) (fun h => absurd h (by decide))
  refine At.go (q := xm190) rfl 2 (pc' := 53) (L' := [(0, .ref (A 0)), (1, .ref (A (20 + i)))]) (st' := [.ref (A (20 + i)), .ref (A 0)]) rfl ?_
  refine At.clm (as := [.ref (A 0), .ref (A (20 + i))]) (rest := []) rfl (by decide) rfl (Nat.le_of_ble_eq_true rfl) (Nat.le_of_ble_eq_true rfl) (xrck_o (by decide) (by decide) k0_r1 (by decide)) (Nat.le_of_ble_eq_true rfl) (m_lookFor r1 hi hsr hEt hlen) (fun v9 h1' c9 s9 hv9 => ?_)
  obtain ⟨rfl, fl, l1, l2, l4, l5, l6⟩ := hv9
  obtain ⟨rl, frl, rl3, rl4⟩ := r1.looked fl l1 l2 l4 l5 l6 (by omega)
  have tl : HSu g1 h1' ow k A M 0 np nl c9 s9 0 0 := ⟨rl, frl, by omega, by omega⟩
  have fln : FrX (fun a => (fun n => n = k + 10 ∨ n = k + 6) (ow a)) g1 h1' := fl.mono (fun x _ e => by
    have e9 : x = A 10 ∨ x = A 6 := e
    show ow x = k + 10 ∨ ow x = k + 6
    rcases e9 with e9 | e9 <;> (rw [e9, (how _ (by decide)).1]; omega))
  have hSl := hS1.fr (Z := fun n => n = k + 10 ∨ n = k + 6) fln r1.2.1 (fun j j1 j2 j3 z => by have z9 : k + j = k + 10 ∨ k + j = k + 6 := z; omega) (Or.inl (fun z => by have z9 : k + 73 = k + 10 ∨ k + 73 = k + 6 := z; omega))
  have hCl := hC1.fr (Z := fun n => n = k + 10 ∨ n = k + 6) fln r1.1 r1.2.1 (fun z => by have z9 : k + 7 = k + 10 ∨ k + 7 = k + 6 := z; omega) (fun z => by have z9 : k + 15 = k + 10 ∨ k + 15 = k + 6 := z; omega) (fun z => by have z9 : k + 12 = k + 10 ∨ k + 12 = k + 6 := z; omega) (fun z => by have z9 : k + 13 = k + 10 ∨ k + 13 = k + 6 := z; omega)
  have ttl := HSu.tr t1 tl
  have mfl := hSl.2.2.2.2.1
  have chl := hCl.1
  have k0_rl := rl.2.2.1
  refine At.go (q := xm190) rfl 2 (pc' := 58) (L' := [(0, .ref (A 0)), (1, .ref (A (20 + i)))]) (st' := [.ref (A 0)]) rfl ?_
  refine At.gf rfl (by decide) k0_rl rfl ?_
  refine At.go (q := xm190) rfl 1 (pc' := 62) (L' := [(0, .ref (A 0)), (1, .ref (A (20 + i)))]) (st' := [.ref (A 0), .ref (A 7)]) rfl ?_
  refine At.gf rfl (by decide) k0_rl rfl ?_
  refine At.go (q := xm190) rfl 1 (pc' := 66) (L' := [(0, .ref (A 0)), (1, .ref (A (20 + i)))]) (st' := [.ref (A 0), .ref (A 60), .ref (A 7)]) rfl ?_
  refine At.gf rfl (by decide) k0_rl rfl ?_
  refine At.go (q := xm190) rfl 1 (pc' := 70) (L' := [(0, .ref (A 0)), (1, .ref (A (20 + i)))]) (st' := [.ref (A 0), .ref (A 75), .ref (A 60), .ref (A 7)]) rfl ?_
  refine At.gf rfl (by decide) k0_rl rfl ?_
  refine At.clm (as := [.ref (A 7), .ref (A 60), .ref (A 75), .ref (A 6)]) (rest := []) rfl (by decide) rfl (Nat.le_of_ble_eq_true rfl) (Nat.le_of_ble_eq_true rfl) (xrck_o (by decide) (by decide) chl (by decide)) (Nat.le_of_ble_eq_true rfl) (hop h1' rl l1 l2 hCl hSl) (fun v9 g3 c2 s2 hv9 => ?_)
  obtain ⟨rfl, t3, hC3, hv73, f2⟩ := hv9
  have r3 := t3.1
  have k0_r3 := r3.2.2.1
  have mf3 := f2.ob mfl (by decide) (fun e => by rcases e with e | e | e | e | e <;> exact ne 75 _ (by decide) (by decide) (by decide) e)
  have tt3 := HSu.tr ttl t3
  have ch3 := hC3.1
  refine At.go (q := xm190) rfl 1 (pc' := 77) (L' := [(0, .ref (A 0)), (1, .ref (A (20 + i)))]) (st' := [.ref (A 0)]) rfl ?_
  refine At.gf rfl (by decide) k0_r3 rfl ?_
  refine At.go (q := xm190) rfl 3 (pc' := 85) (L' := [(0, .ref (A 0)), (1, .ref (A (20 + i)))]) (st' := [.ref (A 0), .ref (A 0)]) rfl ?_
  refine At.gf rfl (by decide) k0_r3 rfl ?_
  refine At.go (q := xm190) rfl 1 (pc' := 89) (L' := [(0, .ref (A 0)), (1, .ref (A (20 + i)))]) (st' := [.ref (A 0), .ref (A 7), .ref (A 0)]) rfl ?_
  refine At.gf rfl (by decide) k0_r3 rfl ?_
  refine At.gf rfl (by decide) mf3 hm4 ?_
  refine At.clm (as := [.ref (A 7), .ref q.1.1]) (rest := [.ref (A 0)]) rfl (by decide) rfl (Nat.le_of_ble_eq_true rfl) (Nat.le_of_ble_eq_true rfl) (xrck_o (by decide) (by decide) ch3 (by decide)) (Nat.le_of_ble_eq_true rfl) (h_judge r3 hC3 hq hw1 hsD hED hEm hlD hsame) (fun v9 g4 c4 s4 hv9 => ?_)
  obtain ⟨rfl, t4, hC4, f4⟩ := hv9
  have r4 := t4.1
  have k0_r4 := r4.2.2.1
  have tt4 := HSu.tr tt3 t4
  have how4 := r4.2.1
  have mf4 := f4.ob mf3 (by decide) (fun e => by have e9 : ow (A 75) = k + 16 ∨ ow (A 75) = k + 14 ∨ ow (A 75) = k + 303 := e; have u := (how 75 (by decide)).1; omega)
  refine At.pf rfl k0_r4 (Nat.le_of_ble_eq_true rfl) judgeQ_fit ?_
  obtain ⟨g5, eg5⟩ : ∃ z, z = g4.set (A 0) (.inr (14, [.ref (A 1), .ref (A 2), .ref (A 3), .ref (A 4), .ref (A 5), .ref (A 60), .ref (A 75), .ref (A 6), .ref (A 7), .ref (A 8), .int M.2.2.2.2.2.1, .int (judgeQ M q D ms (M.2.2.2.1 i).1)])) := ⟨_, rfl⟩
  refine At.hpe eg5 ?_
  obtain ⟨t5, f5⟩ := HSu.ref r4 eg5
  have r5 := t5.1
  have f5n : FrX (fun a => (fun n => n = k + 0) (ow a)) g4 g5 := f5.mono (fun x _ e => by have e9 : x = A 0 := e; show ow x = k + 0; rw [e9]; exact (how 0 (by decide)).1)
  have hC5 := hC4.fr (Z := fun n => n = k + 0) f5n r4.1 how4 (fun z => by have z9 : k + 7 = k + 0 := z; omega) (fun z => by have z9 : k + 15 = k + 0 := z; omega) (fun z => by have z9 : k + 12 = k + 0 := z; omega) (fun z => by have z9 : k + 13 = k + 0 := z; omega)
  have tt5 := HSu.tr tt4 t5
  have mf5 := f5.ob mf4 (by decide) (fun e => ne 75 0 (by decide) (by decide) (by decide) e)
  have k0_r5 := r5.2.2.1
  have ch5 := hC5.1
  refine At.go (q := xm190) rfl 1 (pc' := 102) (L' := [(0, .ref (A 0)), (1, .ref (A (20 + i)))]) (st' := [.ref (A 0)]) rfl ?_
  refine At.gf rfl (by decide) k0_r5 rfl ?_
  refine At.ic1 (tgt := 113) rfl rfl (fun _ => ?_) (fun h => absurd (h.symm.trans (decide_eq_true hj)) (by decide))
  refine At.go (q := xm190) rfl 1 (pc' := 114) (L' := [(0, .ref (A 0)), (1, .ref (A (20 + i)))]) (st' := [.ref (A 0)]) rfl ?_
  refine At.gf rfl (by decide) k0_r5 rfl ?_
  refine At.gf rfl (by decide) ch5 rfl ?_
  obtain ⟨x1, x2, x3, x4⟩ := tt5
  exact At.rt rfl (xret_i rfl) ⟨_, _, _, _, rfl, rfl, ow, np, nl, fun _ _ => rfl, x1, x2, by omega, by omega⟩
theorem h_alt19k {S : List Int32} {hp : List XC} {ow : Nat → Nat} {k : Nat} {A : Nat → Nat} {M : HM} {np nl : Nat} {if0 if1 items vb : Nat} {kd fr : Nat → Nat} {os : List (Nat × Int32)} {sf mf ces : List Value} {ws : Value} {es : List Value} {gs : List Int32} {i ln K J : Nat} {rc al : Int32} {g : Bool} {D ts ms : List En} {q : TQ} (h : HR hp ow k A M 0 np nl) (hi : i < 8) (hsr : Srt (vwE M i)) (hEt : EnT M.2.2.2.2.2.2 (vwE M i)) (hlen : (vwE M i).length ≤ 3000) (hS9 : StF hp A if0 if1 items vb kd fr os sf mf ces ws es gs) (h2v : sf[2]? = some (.retAddr 19)) (hq : q ∈ M.2.2.2.2.2.2) (hm4 : mf[4]? = some (.ref q.1.1)) (hop : ∀ h1 : List XC, HR h1 ow k A M 0 np nl → h1[A 6]? = some (.inr (11, [.ref (A 10), .int (M.2.2.2.1 i).1])) → hSh h1 (A 10) (lookE (TIq M.2.2.2.2.2.2) (vwE M i) (M.2.2.2.1 i).1) → ChS h1 A (M.2.2.2.1 i).1 0 0 (vwE M i) [] [] → StF h1 A if0 if1 items vb kd fr os sf mf ces ws es gs → Me S 9 193 [.ref (A 7), .ref (A 60), .ref (A 75), .ref (A 6)] h1 (fun v hp' c s => v = none ∧ HSu h1 hp' ow k A M 0 np nl c s K J ∧ ChS hp' A (M.2.2.2.1 i).1 al (bI g) D ts ms ∧ (∃ vs : List Int32, hp'[A 73]? = some (.inl (16, vs.map Value.int)) ∧ vs.length = 120) ∧ FrX (fun x => x = A 7 ∨ x = A 15 ∨ x = A 12 ∨ x = A 13 ∨ x = A 73) h1 hp')) (hw1 : 1 ≤ q.2.2.1.2.2.1.length) (hsD : Srt D) (hED : EnT M.2.2.2.2.2.2 D) (hEm : EnT M.2.2.2.2.2.2 ms) (hlD : D.length ≤ 3000) (hsame : ∀ f ∈ D, f.1 = q.2.1 → f.2.2.2.2.2 = q.1.1) (hj : (judgeQ M q D ms (M.2.2.2.1 i).1) = 0) (hlt : (M.2.2.2.1 i).2.2.2.2.1.length + ts.length ≤ 3000) (hle : M.2.2.1.length + ts.length ≤ 3400) (hln : (M.2.2.2.1 i).1 = Int32.ofNat ln) (hl64 : ln < 64) : Me S 11 190 [.ref (A 0), .ref (A (20 + i))] hp (fun v hp' c s => v = some (.int al) ∧ HSt hp hp' ow k A (keepG M i D ts g q.1.1 ln) 0 np nl c s K J) := by
  have hvw := h_view (S := S) h hi
  obtain ⟨hO, how, h0, h1, h3, hD, hF, hE, hT, ⟨lv9, hG⟩, hC, hL9, hQ, hW, hS, hTq9, htd, hcap⟩ := id h
  obtain ⟨za, ab, a1, a2, a3, a4, a5, a6, a7, a8, a9, a10, a11, a12, a13, a14⟩ := hS i hi
  have ne : ∀ a b, a < 77 → b < 77 → a ≠ b → A a ≠ A b := fun a b ha hb hab e => by have u := (how a ha).1; rw [e, (how b hb).1] at u; omega
  refine At.go (q := xm190) rfl 1 (pc' := 1) (L' := [(0, .ref (A 0)), (1, .ref (A (20 + i)))]) (st' := [.ref (A 0)]) rfl ?_
  refine At.gf rfl (by decide) h0 rfl ?_
  refine At.go (q := xm190) rfl 2 (pc' := 6) (L' := [(0, .ref (A 0)), (1, .ref (A (20 + i)))]) (st' := [.ref (A (20 + i)), .ref (A 0), .ref (A 7)]) rfl ?_
  refine At.clp (as := [.ref (A 0), .ref (A (20 + i))]) (rest := [.ref (A 7)]) rfl (by decide) rfl (Nat.le_of_ble_eq_true rfl) (Nat.le_of_ble_eq_true rfl) (xrck_o (by decide) (by decide) h0 (by decide)) (Nat.le_of_ble_eq_true rfl) (hvw) ?_
  refine At.go (q := xm190) rfl 1 (pc' := 10) (L' := [(0, .ref (A 0)), (1, .ref (A (20 + i)))]) (st' := [.ref (A (20 + i)), .ref (A (vwO M i)), .ref (A 7)]) rfl ?_
  refine At.gf rfl (by decide) a1 rfl ?_
  refine At.clm (as := [.ref (A 7), .ref (A (vwO M i)), .int (M.2.2.2.1 i).1]) (rest := []) rfl (by decide) rfl (Nat.le_of_ble_eq_true rfl) (Nat.le_of_ble_eq_true rfl) (xrck_o (by decide) (by decide) hC.1.choose_spec.choose_spec.choose_spec (by decide)) (Nat.le_of_ble_eq_true rfl) (h_start h hi hlen) (fun v9 g1 c1 s1 hv9 => ?_)
  obtain ⟨rfl, t1, hC1, f1⟩ := hv9
  have r1 := t1.1
  have f1n : FrX (fun a => (fun n => n = k + 7 ∨ n = k + 15 ∨ n = k + 12 ∨ n = k + 13) (ow a)) hp g1 := f1.mono (fun x _ e => by
    have e9 : x = A 7 ∨ x = A 15 ∨ x = A 12 ∨ x = A 13 := e
    show ow x = k + 7 ∨ ow x = k + 15 ∨ ow x = k + 12 ∨ ow x = k + 13
    rcases e9 with e9 | e9 | e9 | e9 <;> (rw [e9, (how _ (by decide)).1]; omega))
  have hS1 := hS9.fr (Z := fun n => n = k + 7 ∨ n = k + 15 ∨ n = k + 12 ∨ n = k + 13) f1n how (fun j j1 j2 j3 z => by have z9 : k + j = k + 7 ∨ k + j = k + 15 ∨ k + j = k + 12 ∨ k + j = k + 13 := z; omega) (Or.inl (fun z => by have z9 : k + 73 = k + 7 ∨ k + 73 = k + 15 ∨ k + 73 = k + 12 ∨ k + 73 = k + 13 := z; omega))
  have k0_r1 := r1.2.2.1
  have st1 := hS1.2.1
  have mf1 := hS1.2.2.2.2.1
  have ch1 := hC1.1
  refine At.go (q := xm190) rfl 1 (pc' := 17) (L' := [(0, .ref (A 0)), (1, .ref (A (20 + i)))]) (st' := [.ref (A 0)]) rfl ?_
  refine At.gf rfl (by decide) k0_r1 rfl ?_
  refine At.gf rfl (by decide) st1 h2v ?_
  refine At.go (q := xm190) rfl 1 (pc' := 26) (L' := [(0, .ref (A 0)), (1, .ref (A (20 + i)))]) (st' := [.retAddr 16, .retAddr 19]) rfl ?_
  refine At.acn (tgt := 51) (b := false) rfl rfl rfl (fun _ => ?_) (fun h => absurd h (by decide))
  refine At.go (q := xm190) rfl 2 (pc' := 53) (L' := [(0, .ref (A 0)), (1, .ref (A (20 + i)))]) (st' := [.ref (A (20 + i)), .ref (A 0)]) rfl ?_
  refine At.clm (as := [.ref (A 0), .ref (A (20 + i))]) (rest := []) rfl (by decide) rfl (Nat.le_of_ble_eq_true rfl) (Nat.le_of_ble_eq_true rfl) (xrck_o (by decide) (by decide) k0_r1 (by decide)) (Nat.le_of_ble_eq_true rfl) (m_lookFor r1 hi hsr hEt hlen) (fun v9 h1' c9 s9 hv9 => ?_)
  obtain ⟨rfl, fl, l1, l2, l4, l5, l6⟩ := hv9
  obtain ⟨rl, frl, rl3, rl4⟩ := r1.looked fl l1 l2 l4 l5 l6 (by omega)
  have tl : HSu g1 h1' ow k A M 0 np nl c9 s9 0 0 := ⟨rl, frl, by omega, by omega⟩
  have fln : FrX (fun a => (fun n => n = k + 10 ∨ n = k + 6) (ow a)) g1 h1' := fl.mono (fun x _ e => by
    have e9 : x = A 10 ∨ x = A 6 := e
    show ow x = k + 10 ∨ ow x = k + 6
    rcases e9 with e9 | e9 <;> (rw [e9, (how _ (by decide)).1]; omega))
  have hSl := hS1.fr (Z := fun n => n = k + 10 ∨ n = k + 6) fln r1.2.1 (fun j j1 j2 j3 z => by have z9 : k + j = k + 10 ∨ k + j = k + 6 := z; omega) (Or.inl (fun z => by have z9 : k + 73 = k + 10 ∨ k + 73 = k + 6 := z; omega))
  have hCl := hC1.fr (Z := fun n => n = k + 10 ∨ n = k + 6) fln r1.1 r1.2.1 (fun z => by have z9 : k + 7 = k + 10 ∨ k + 7 = k + 6 := z; omega) (fun z => by have z9 : k + 15 = k + 10 ∨ k + 15 = k + 6 := z; omega) (fun z => by have z9 : k + 12 = k + 10 ∨ k + 12 = k + 6 := z; omega) (fun z => by have z9 : k + 13 = k + 10 ∨ k + 13 = k + 6 := z; omega)
  have ttl := HSu.tr t1 tl
  have mfl := hSl.2.2.2.2.1
  have chl := hCl.1
  have k0_rl := rl.2.2.1
  refine At.go (q := xm190) rfl 2 (pc' := 58) (L' := [(0, .ref (A 0)), (1, .ref (A (20 + i)))]) (st' := [.ref (A 0)]) rfl ?_
  refine At.gf rfl (by decide) k0_rl rfl ?_
  refine At.go (q := xm190) rfl 1 (pc' := 62) (L' := [(0, .ref (A 0)), (1, .ref (A (20 + i)))]) (st' := [.ref (A 0), .ref (A 7)]) rfl ?_
  refine At.gf rfl (by decide) k0_rl rfl ?_
  refine At.go (q := xm190) rfl 1 (pc' := 66) (L' := [(0, .ref (A 0)), (1, .ref (A (20 + i)))]) (st' := [.ref (A 0), .ref (A 60), .ref (A 7)]) rfl ?_
  refine At.gf rfl (by decide) k0_rl rfl ?_
  refine At.go (q := xm190) rfl 1 (pc' := 70) (L' := [(0, .ref (A 0)), (1, .ref (A (20 + i)))]) (st' := [.ref (A 0), .ref (A 75), .ref (A 60), .ref (A 7)]) rfl ?_
  refine At.gf rfl (by decide) k0_rl rfl ?_
  refine At.clm (as := [.ref (A 7), .ref (A 60), .ref (A 75), .ref (A 6)]) (rest := []) rfl (by decide) rfl (Nat.le_of_ble_eq_true rfl) (Nat.le_of_ble_eq_true rfl) (xrck_o (by decide) (by decide) chl (by decide)) (Nat.le_of_ble_eq_true rfl) (hop h1' rl l1 l2 hCl hSl) (fun v9 g3 c2 s2 hv9 => ?_)
  obtain ⟨rfl, t3, hC3, hv73, f2⟩ := hv9
  have r3 := t3.1
  have k0_r3 := r3.2.2.1
  have mf3 := f2.ob mfl (by decide) (fun e => by rcases e with e | e | e | e | e <;> exact ne 75 _ (by decide) (by decide) (by decide) e)
  have tt3 := HSu.tr ttl t3
  have ch3 := hC3.1
  refine At.go (q := xm190) rfl 1 (pc' := 77) (L' := [(0, .ref (A 0)), (1, .ref (A (20 + i)))]) (st' := [.ref (A 0)]) rfl ?_
  refine At.gf rfl (by decide) k0_r3 rfl ?_
  refine At.go (q := xm190) rfl 3 (pc' := 85) (L' := [(0, .ref (A 0)), (1, .ref (A (20 + i)))]) (st' := [.ref (A 0), .ref (A 0)]) rfl ?_
  refine At.gf rfl (by decide) k0_r3 rfl ?_
  refine At.go (q := xm190) rfl 1 (pc' := 89) (L' := [(0, .ref (A 0)), (1, .ref (A (20 + i)))]) (st' := [.ref (A 0), .ref (A 7), .ref (A 0)]) rfl ?_
  refine At.gf rfl (by decide) k0_r3 rfl ?_
  refine At.gf rfl (by decide) mf3 hm4 ?_
  refine At.clm (as := [.ref (A 7), .ref q.1.1]) (rest := [.ref (A 0)]) rfl (by decide) rfl (Nat.le_of_ble_eq_true rfl) (Nat.le_of_ble_eq_true rfl) (xrck_o (by decide) (by decide) ch3 (by decide)) (Nat.le_of_ble_eq_true rfl) (h_judge r3 hC3 hq hw1 hsD hED hEm hlD hsame) (fun v9 g4 c4 s4 hv9 => ?_)
  obtain ⟨rfl, t4, hC4, f4⟩ := hv9
  have r4 := t4.1
  have k0_r4 := r4.2.2.1
  have tt4 := HSu.tr tt3 t4
  have how4 := r4.2.1
  have mf4 := f4.ob mf3 (by decide) (fun e => by have e9 : ow (A 75) = k + 16 ∨ ow (A 75) = k + 14 ∨ ow (A 75) = k + 303 := e; have u := (how 75 (by decide)).1; omega)
  rw [hj]
  refine At.pf rfl k0_r4 (Nat.le_of_ble_eq_true rfl) rfl ?_
  obtain ⟨g5, eg5⟩ : ∃ z, z = g4.set (A 0) (.inr (14, [.ref (A 1), .ref (A 2), .ref (A 3), .ref (A 4), .ref (A 5), .ref (A 60), .ref (A 75), .ref (A 6), .ref (A 7), .ref (A 8), .int M.2.2.2.2.2.1, .int 0])) := ⟨_, rfl⟩
  refine At.hpe eg5 ?_
  obtain ⟨t5, f5⟩ := HSu.ref r4 eg5
  have r5 := t5.1
  have f5n : FrX (fun a => (fun n => n = k + 0) (ow a)) g4 g5 := f5.mono (fun x _ e => by have e9 : x = A 0 := e; show ow x = k + 0; rw [e9]; exact (how 0 (by decide)).1)
  have hC5 := hC4.fr (Z := fun n => n = k + 0) f5n r4.1 how4 (fun z => by have z9 : k + 7 = k + 0 := z; omega) (fun z => by have z9 : k + 15 = k + 0 := z; omega) (fun z => by have z9 : k + 12 = k + 0 := z; omega) (fun z => by have z9 : k + 13 = k + 0 := z; omega)
  have tt5 := HSu.tr tt4 t5
  have mf5 := f5.ob mf4 (by decide) (fun e => ne 75 0 (by decide) (by decide) (by decide) e)
  have k0_r5 := r5.2.2.1
  have ch5 := hC5.1
  refine At.go (q := xm190) rfl 1 (pc' := 102) (L' := [(0, .ref (A 0)), (1, .ref (A (20 + i)))]) (st' := [.ref (A 0)]) rfl ?_
  refine At.gf rfl (by decide) k0_r5 rfl ?_
  refine At.go (q := xm190) rfl 3 (pc' := 110) (L' := [(0, .ref (A 0)), (1, .ref (A (20 + i)))]) (st' := [.ref (A (20 + i)), .ref (A 0)]) rfl ?_
  refine At.clm (as := [.ref (A 0), .ref (A (20 + i))]) (rest := []) rfl (by decide) rfl (Nat.le_of_ble_eq_true rfl) (Nat.le_of_ble_eq_true rfl) (xrck_o (by decide) (by decide) k0_r5 (by decide)) (Nat.le_of_ble_eq_true rfl) (h_keep r5 hi hC5 hlD hlt hle hq mf5 hm4 hln hl64) (fun v9 g6 c6 s6 hv9 => ?_)
  obtain ⟨rfl, t6, ch6⟩ := hv9
  have r6 := t6.1
  have tt6 := HSu.tr tt5 t6
  have k0_r6 : g6[A 0]? = some (.inr (14, [.ref (A 1), .ref (A 2), .ref (A 3), .ref (A 4), .ref (A 5), .ref (A 60), .ref (A 75), .ref (A 6), .ref (A 7), .ref (A 8), .int M.2.2.2.2.2.1, .int 0])) := by have u := r6.2.2.1; have e : (keepG M i D ts g q.1.1 ln).2.2.2.2.2.1 = M.2.2.2.2.2.1 := (by unfold keepG keepM; split <;> split <;> rfl); rw [e] at u; exact u
  refine At.go (q := xm190) rfl 1 (pc' := 114) (L' := [(0, .ref (A 0)), (1, .ref (A (20 + i)))]) (st' := [.ref (A 0)]) rfl ?_
  refine At.gf rfl (by decide) k0_r6 rfl ?_
  refine At.gf rfl (by decide) ch6 rfl ?_
  obtain ⟨x1, x2, x3, x4⟩ := tt6
  exact At.rt rfl (xret_i rfl) ⟨_, _, _, _, rfl, rfl, ow, np, nl, fun _ _ => rfl, x1, x2, by omega, by omega⟩
