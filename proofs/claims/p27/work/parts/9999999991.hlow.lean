/-! the house: lower (written by wip/p27/c9999999991.py) -/
/-- the row that is lowered, if it is -/
def lowO (D : List En) (q : TQ) (key other lb : Int32) : Option En := if lowC key other lb q.2.2.1.2.1 = 0 then (match findE D (q.2.1, key, lb) with | some f => if f.2.2.2.1 = true then none else some (q.2.1, key, other, false, f.2.2.2.2.1, q.1.1) | none => none) else none
def lowD (D : List En) : Option En → List En
  | none => D
  | some e => storeE D e
def lowRc (D : List En) (q : TQ) (key other lb : Int32) : Int32 := match lowO D q key other lb with | none => if lowC key other lb q.2.2.1.2.1 = 0 then 107 else lowC key other lb q.2.2.1.2.1 | some e => if 12 < cntE (storeE D e) q.2.1 other then 102 else 0
theorem lowRc_fit {D : List En} {q : TQ} {key other lb : Int32} : xfit (xFT 14 11) (.int (lowRc D q key other lb)) = true := by
  unfold lowRc
  split
  · split
    · rfl
    · unfold lowC
      split
      · rfl
      · split <;> rfl
  · split <;> rfl
theorem h_clower {S : List Int32} {hp : List XC} {ow : Nat → Nat} {k : Nat} {A : Nat → Nat} {M : HM} {rf : Int32} {np nl : Nat} {if0 if1 items vb : Nat} {kd fr : Nat → Nat} {os : List (Nat × Int32)} {sf mf ces : List Value} {ws : Value} {es : List Value} {gs : List Int32} (h : HR hp ow k A M rf np nl) {lb al gi key other : Int32} {D ts ms : List En} {q : TQ} {b16 b27 : Bool} (hC9 : ChS hp A lb al gi D ts ms) (hS9 : StF hp A if0 if1 items vb kd fr os sf mf ces ws es gs) (hq : q ∈ M.2.2.2.2.2.2) (hm4 : mf[4]? = some (.ref q.1.1)) (hsD : Srt D) (hlD : D.length ≤ 3000) (hlt : ts.length ≤ 3000) (hlm : ms.length ≤ 3000) (hN : os.length ≤ 120) (e16 : xeq xKC (.retAddr vb) (.retAddr 16) = some b16) (e27 : xeq xKC (.retAddr vb) (.retAddr 27) = some b27) (hnm : ∀ (i : Nat) (q : Nat × Int32), os[i]? = some q → q.1 = 3 → ∃ j : Nat, j ≤ 100000 ∧ q.2 = Int32.ofNat j) (hitm : ∀ i, i < 2 → i < items ∧ fr i ≤ itTo items if0 os.length i (b16 || b27) fr ∧ itTo items if0 os.length i (b16 || b27) fr ≤ os.length ∧ (resR (-1000000000) (fun _ => -1000000000) ((os.take (itTo items if0 os.length i (b16 || b27) fr)).drop (fr i)) []).isSome = true) (hkey : (resE (-1000000000) (fun _ => -1000000000) ((os.take (itTo items if0 os.length 0 (b16 || b27) fr)).drop (fr 0))) = key) (hoth : (resE (-1000000000) (fun _ => -1000000000) ((os.take (itTo items if0 os.length 1 (b16 || b27) fr)).drop (fr 1))) = other) : Me S 8 179 [.ref (A 7), .ref (A 60), .ref (A 75)] hp (fun v hp' c s => (some (.int (lowRc D q key other lb)) = v ∧ HSu hp hp' ow k A M rf np nl c s 1 5 ∧ ChS hp' A lb al gi (lowD D (lowO D q key other lb)) (ts ++ (lowO D q key other lb).toList) (ms ++ (lowO D q key other lb).toList) ∧ (∃ vs : List Int32, hp'[A 73]? = some (.inl (16, vs.map Value.int)) ∧ vs.length = 120) ∧ FrX (fun x => x = A 7 ∨ x = A 15 ∨ x = A 12 ∨ x = A 13 ∨ x = A 73) hp hp')) := by
  obtain ⟨hO, how, h0, h1, h3, hD, hF, hE, hT, ⟨lv9, hG⟩, hC, hL9, hQ, hW, hS, hTq9, htd, hcap⟩ := id h
  have ne : ∀ a b, a < 77 → b < 77 → a ≠ b → A a ≠ A b := fun a b ha hb hab e => by have u := (how a ha).1; rw [e, (how b hb).1] at u; omega
  have hC99 := hC9
  obtain ⟨hc7, ⟨das, hd1, hd2⟩, ⟨tas, ht1, ht2⟩, ⟨mas, hm1, hm2⟩⟩ := hC99
  obtain ⟨s1, s2, s3, ⟨v0, s4, s5⟩, s6, s7⟩ := hS9
  obtain ⟨⟨clb, cal, cgi, hC1⟩, hC2, clv, hC3⟩ := hC
  have hdl := hd2.1
  have htl := ht2.1
  have hml := hm2.1
  obtain ⟨b1, b2, b3, b4, b5, fs, b6, b7, b8, b9, b10⟩ := hTq9 q hq
  have hfs : ∃ tf, fs = .int q.2.1 :: tf ∧ (Value.int q.2.1 :: tf)[2]? = some (.int q.2.2.1.2.1) := by
    obtain ⟨ca, ka, ra, ga, chk, dv, u1, -⟩ := b1
    cases u1.symm.trans b6
    exact ⟨_, rfl, rfl⟩
  obtain ⟨tf, rfl, hf2⟩ := hfs
  have c15 := hcap 15 (by decide)
  have c12 := hcap 12 (by decide)
  have c13 := hcap 13 (by decide)
  refine me_imp (m_clower (S := S) (l := A 15) hc7 hC2 (ne 15 12 (by decide) (by decide) (by decide)) (ne 15 13 (by decide) (by decide) (by decide)) (ne 12 13 (by decide) (by decide) (by decide)) hO hd1 ht1 hm1 hd2 ht2 hm2 hsD (by omega) (by omega) (by omega) s6 hm4 b6 hf2 s1 s3 s4 (by omega) (by omega) e16 e27 hnm hitm hkey hoth) (fun v hp' c s hv => ?_)
  obtain ⟨vs, hvs, hv⟩ := hv
  have hv120 : vs.length = 120 := by omega
  have f1 : FrX (fun x => x = A 73) hp (hp.set (A 73) (.inl (16, vs.map Value.int))) := FrX.st s4 rfl rfl rfl rfl (fun fs h => by cases h) (fun ci fs h => by cases h)
  have y73 : (hp.set (A 73) (.inl (16, vs.map Value.int)))[A 73]? = some (.inl (16, vs.map Value.int)) := xs_eq s4
  have e15 := f1.cap (fun e => ne 15 73 (by decide) (by decide) (by decide) e) hO hd1
  have e12 := f1.cap (fun e => ne 12 73 (by decide) (by decide) (by decide) e) hO ht1
  have e13 := f1.cap (fun e => ne 13 73 (by decide) (by decide) (by decide) e) hO hm1
  have F1 : FrX (fun x => x = A 7 ∨ x = A 15 ∨ x = A 12 ∨ x = A 13 ∨ x = A 73) hp (hp.set (A 73) (.inl (16, vs.map Value.int))) := f1.mono (fun x _ e => Or.inr (Or.inr (Or.inr (Or.inr e))))
  have y7 := f1.ob hc7 (by decide) (fun e => ne 7 73 (by decide) (by decide) (by decide) e)
  have fin : ∀ rc : Int32, lowO D q key other lb = none → lowRc D q key other lb = rc → v = some (.int rc) → hp' = hp.set (A 73) (.inl (16, vs.map Value.int)) → c = 0 → s = 0 → (some (.int (lowRc D q key other lb)) = v ∧ HSu hp hp' ow k A M rf np nl c s 1 5 ∧ ChS hp' A lb al gi (lowD D (lowO D q key other lb)) (ts ++ (lowO D q key other lb).toList) (ms ++ (lowO D q key other lb).toList) ∧ (∃ vs : List Int32, hp'[A 73]? = some (.inl (16, vs.map Value.int)) ∧ vs.length = 120) ∧ FrX (fun x => x = A 7 ∨ x = A 15 ∨ x = A 12 ∨ x = A 13 ∨ x = A 73) hp hp') := fun rc e0 e1 e2 e3 e4 e5 => by
    rw [e1, e0]
    subst e3 e4 e5
    have hC' : ChS (hp.set (A 73) (.inl (16, vs.map Value.int))) A lb al gi D ts ms := ⟨y7, ⟨das, f1.ls (fun e => ne 15 73 (by decide) (by decide) (by decide) e) hO hd1, hd2.fr f1⟩, ⟨tas, f1.ls (fun e => ne 12 73 (by decide) (by decide) (by decide) e) hO ht1, ht2.fr f1⟩, ⟨mas, f1.ls (fun e => ne 13 73 (by decide) (by decide) (by decide) e) hO hm1, hm2.fr f1⟩⟩
    refine ⟨e2.symm, HSu.ch h F1 hC' y73 hv120 (by omega) (by omega) (by omega) (by omega) (by omega), ?_, ⟨vs, y73, hv120⟩, F1⟩
    show ChS _ A lb al gi D (ts ++ []) (ms ++ [])
    rw [List.append_nil, List.append_nil]
    exact hC'
  rcases hv with ⟨a1, a2, a3, a4, a5⟩ | ⟨a1, hf, a2, a3, a4, a5⟩ | ⟨a1, f, hf1, hf9, a2, c1, s1', hM, a4, a5⟩
  · have e0 : lowO D q key other lb = none := by unfold lowO; rw [if_neg a1]
    exact fin _ e0 (by unfold lowRc; rw [e0]; show (if _ then (107 : Int32) else _) = _; rw [if_neg a1]) a2 a3 a4 a5
  · have e0 : lowO D q key other lb = none := by
      unfold lowO
      rw [if_pos a1]
      cases e9 : findE D (q.2.1, key, lb) with
      | none => rfl
      | some f => show (if f.2.2.2.1 = true then (none : Option En) else _) = none; rw [if_pos (hf f e9)]
    exact fin _ e0 (by unfold lowRc; rw [e0]; show (if _ then (107 : Int32) else _) = _; rw [if_pos a1]) a2 a3 a4 a5
  · obtain ⟨en, hen⟩ : ∃ en : En, en = (q.2.1, key, other, false, f.2.2.2.2.1, q.1.1) := ⟨_, rfl⟩
    have e0 : lowO D q key other lb = some en := by
      unfold lowO
      rw [if_pos a1, hf1]
      show (if f.2.2.2.1 = true then (none : Option En) else _) = _
      rw [if_neg (by rw [hf9]; decide), hen]
    rw [← hen] at a2 hM
    have erc : lowRc D q key other lb = (if 12 < cntE (storeE D en) q.2.1 other then 102 else 0) := by unfold lowRc; rw [e0]
    rw [erc, e0]
    obtain ⟨m1, m2, m3, m4, m5, m6, m7, m8, m9, m10, m11, m12⟩ := hM
    have F4 : FrX (fun x => x = A 7 ∨ x = A 15 ∨ x = A 12 ∨ x = A 13 ∨ x = A 73) hp hp' := FrX.tr F1 (FrX.mono m1 (fun x _ (e : x = A 15 ∨ x = A 12 ∨ x = A 13) => Or.inr (e.elim Or.inl (fun e => Or.inr (e.elim Or.inl (fun e => Or.inr (Or.inl e))))))) (fun x hx => Or.inl hx)
    have z73 := m1.2.2.1 _ _ y73 rfl (Or.inl (fun e => by rcases e with e | e | e <;> exact ne 73 _ (by decide) (by decide) (by decide) e))
    have w7 := m1.ob y7 (by decide) (fun e => by rcases e with e | e | e <;> exact ne 7 _ (by decide) (by decide) (by decide) e)
    have hC' : ChS hp' A lb al gi (storeE D en) (ts ++ [en]) (ms ++ [en]) := ⟨w7, m2, m3, m4⟩
    have hsl := storeE_len hsD en
    rw [List.length_append] at m11 m12
    have h1l : ([en] : List En).length = 1 := rfl
    exact ⟨a2.symm, HSu.ch h F4 hC' z73 hv120 (by omega) (by omega) (by omega) (by omega) (by omega), hC', ⟨vs, z73, hv120⟩, F4⟩
theorem h_lowr {S : List Int32} {hp : List XC} {ow : Nat → Nat} {k : Nat} {A : Nat → Nat} {M : HM} {np nl : Nat} {if0 if1 items vb : Nat} {kd fr : Nat → Nat} {os : List (Nat × Int32)} {sf mf ces : List Value} {ws : Value} {es : List Value} {gs : List Int32} {i K J : Nat} {rc al : Int32} {D ts ms : List En} (h : HR hp ow k A M 0 np nl) (hi : i < 8) (hlen : (vwE M i).length ≤ 3000) (hS9 : StF hp A if0 if1 items vb kd fr os sf mf ces ws es gs) (hop : ∀ h1 : List XC, HR h1 ow k A M 0 np nl → ChS h1 A (M.2.2.2.1 i).1 0 0 (vwE M i) [] [] → StF h1 A if0 if1 items vb kd fr os sf mf ces ws es gs → Me S 8 179 [.ref (A 7), .ref (A 60), .ref (A 75)] h1 (fun v hp' c s => some (.int rc) = v ∧ HSu h1 hp' ow k A M 0 np nl c s K J ∧ ChS hp' A (M.2.2.2.1 i).1 al 0 D ts ms ∧ (∃ vs : List Int32, hp'[A 73]? = some (.inl (16, vs.map Value.int)) ∧ vs.length = 120) ∧ FrX (fun x => x = A 7 ∨ x = A 15 ∨ x = A 12 ∨ x = A 13 ∨ x = A 73) h1 hp')) (hrf : xfit (xFT 14 11) (.int rc) = true) (hr : ¬ rc = 0) : Me S 11 175 [.ref (A 0), .ref (A (20 + i))] hp (fun v hp' c s => v = some (.int 1) ∧ HSt hp hp' ow k A M rc np nl c s K J) := by
  have hvw := h_view (S := S) h hi
  obtain ⟨hO, how, h0, h1, h3, hD, hF, hE, hT, ⟨lv9, hG⟩, hC, hL9, hQ, hW, hS, hTq9, htd, hcap⟩ := id h
  obtain ⟨za, ab, a1, a2, a3, a4, a5, a6, a7, a8, a9, a10, a11, a12, a13, a14⟩ := hS i hi
  have ne : ∀ a b, a < 77 → b < 77 → a ≠ b → A a ≠ A b := fun a b ha hb hab e => by have u := (how a ha).1; rw [e, (how b hb).1] at u; omega
  refine At.go (q := xm175) rfl 1 (pc' := 1) (L' := [(0, .ref (A 0)), (1, .ref (A (20 + i)))]) (st' := [.ref (A 0)]) rfl ?_
  refine At.gf rfl (by decide) h0 rfl ?_
  refine At.go (q := xm175) rfl 2 (pc' := 6) (L' := [(0, .ref (A 0)), (1, .ref (A (20 + i)))]) (st' := [.ref (A (20 + i)), .ref (A 0), .ref (A 7)]) rfl ?_
  refine At.clp (as := [.ref (A 0), .ref (A (20 + i))]) (rest := [.ref (A 7)]) rfl (by decide) rfl (Nat.le_of_ble_eq_true rfl) (Nat.le_of_ble_eq_true rfl) (xrck_o (by decide) (by decide) h0 (by decide)) (Nat.le_of_ble_eq_true rfl) (hvw) ?_
  refine At.go (q := xm175) rfl 1 (pc' := 10) (L' := [(0, .ref (A 0)), (1, .ref (A (20 + i)))]) (st' := [.ref (A (20 + i)), .ref (A (vwO M i)), .ref (A 7)]) rfl ?_
  refine At.gf rfl (by decide) a1 rfl ?_
  refine At.clm (as := [.ref (A 7), .ref (A (vwO M i)), .int (M.2.2.2.1 i).1]) (rest := []) rfl (by decide) rfl (Nat.le_of_ble_eq_true rfl) (Nat.le_of_ble_eq_true rfl) (xrck_o (by decide) (by decide) hC.1.choose_spec.choose_spec.choose_spec (by decide)) (Nat.le_of_ble_eq_true rfl) (h_start h hi hlen) (fun v9 g1 c1 s1 hv9 => ?_)
  obtain ⟨rfl, t1, hC1, f1⟩ := hv9
  have r1 := t1.1
  have f1n : FrX (fun a => (fun n => n = k + 7 ∨ n = k + 15 ∨ n = k + 12 ∨ n = k + 13) (ow a)) hp g1 := f1.mono (fun x _ e => by
    have e9 : x = A 7 ∨ x = A 15 ∨ x = A 12 ∨ x = A 13 := e
    show ow x = k + 7 ∨ ow x = k + 15 ∨ ow x = k + 12 ∨ ow x = k + 13
    rcases e9 with e9 | e9 | e9 | e9 <;> (rw [e9, (how _ (by decide)).1]; omega))
  have hS1 := hS9.fr (Z := fun n => n = k + 7 ∨ n = k + 15 ∨ n = k + 12 ∨ n = k + 13) f1n how (fun j j1 j2 j3 z => by have z9 : k + j = k + 7 ∨ k + j = k + 15 ∨ k + j = k + 12 ∨ k + j = k + 13 := z; omega) (Or.inl (fun z => by have z9 : k + 73 = k + 7 ∨ k + 73 = k + 15 ∨ k + 73 = k + 12 ∨ k + 73 = k + 13 := z; omega))
  have k1h := r1.2.2.1
  have st1 := hS1.2.1
  have mf1 := hS1.2.2.2.2.1
  have ch1 := hC1.1
  have z1 := f1.ob a1 (by decide) (fun e => by rcases e with e | e | e | e <;> exact ne (20 + i) _ (by omega) (by omega) (by omega) e)
  refine At.go (q := xm175) rfl 2 (pc' := 18) (L' := [(0, .ref (A 0)), (1, .ref (A (20 + i)))]) (st' := [.ref (A 0), .ref (A 0)]) rfl ?_
  refine At.gf rfl (by decide) k1h rfl ?_
  refine At.go (q := xm175) rfl 1 (pc' := 22) (L' := [(0, .ref (A 0)), (1, .ref (A (20 + i)))]) (st' := [.ref (A 0), .ref (A 7), .ref (A 0)]) rfl ?_
  refine At.gf rfl (by decide) k1h rfl ?_
  refine At.go (q := xm175) rfl 1 (pc' := 26) (L' := [(0, .ref (A 0)), (1, .ref (A (20 + i)))]) (st' := [.ref (A 0), .ref (A 60), .ref (A 7), .ref (A 0)]) rfl ?_
  refine At.gf rfl (by decide) k1h rfl ?_
  refine At.clm (as := [.ref (A 7), .ref (A 60), .ref (A 75)]) (rest := [.ref (A 0)]) rfl (by decide) rfl (Nat.le_of_ble_eq_true rfl) (Nat.le_of_ble_eq_true rfl) (xrck_o (by decide) (by decide) ch1 (by decide)) (Nat.le_of_ble_eq_true rfl) (hop g1 r1 hC1 hS1) (fun v9 g2 c2 s2 hv9 => ?_)
  obtain ⟨rfl, t2, hC2, hv73, f2⟩ := hv9
  have r2 := t2.1
  have k2h := r2.2.2.1
  have tt2 := HSu.tr t1 t2
  have z2 := f2.ob z1 (by decide) (fun e => by rcases e with e | e | e | e | e <;> exact ne (20 + i) _ (by omega) (by omega) (by omega) e)
  refine At.pf rfl k2h (Nat.le_of_ble_eq_true rfl) hrf ?_
  obtain ⟨g3, eg3⟩ : ∃ z, z = g2.set (A 0) (.inr (14, [.ref (A 1), .ref (A 2), .ref (A 3), .ref (A 4), .ref (A 5), .ref (A 60), .ref (A 75), .ref (A 6), .ref (A 7), .ref (A 8), .int M.2.2.2.2.2.1, .int rc])) := ⟨_, rfl⟩
  refine At.hpe eg3 ?_
  obtain ⟨t3, f3⟩ := HSu.ref r2 eg3
  have r3 := t3.1
  have f3n : FrX (fun a => (fun n => n = k + 0) (ow a)) g2 g3 := f3.mono (fun x _ e => by have e9 : x = A 0 := e; show ow x = k + 0; rw [e9]; exact (how 0 (by decide)).1)
  have hC3 := hC2.fr (Z := fun n => n = k + 0) f3n r2.1 r2.2.1 (fun z => by have z9 : k + 7 = k + 0 := z; omega) (fun z => by have z9 : k + 15 = k + 0 := z; omega) (fun z => by have z9 : k + 12 = k + 0 := z; omega) (fun z => by have z9 : k + 13 = k + 0 := z; omega)
  have tt3 := HSu.tr tt2 t3
  have k3h := r3.2.2.1
  have z3 := f3.ob z2 (by decide) (fun e => ne (20 + i) 0 (by omega) (by omega) (by omega) e)
  refine At.go (q := xm175) rfl 1 (pc' := 36) (L' := [(0, .ref (A 0)), (1, .ref (A (20 + i)))]) (st' := [.ref (A 0)]) rfl ?_
  refine At.gf rfl (by decide) k3h rfl ?_
  refine At.ic1 (tgt := 55) rfl rfl (fun _ => ?_) (fun h => absurd (h.symm.trans (decide_eq_true hr)) (by decide))
  refine At.go (q := xm175) rfl 1 (pc' := 56) (L' := [(0, .ref (A 0)), (1, .ref (A (20 + i)))]) (st' := [.ref (A 0)]) rfl ?_
  refine At.gf rfl (by decide) k3h rfl ?_
  refine At.ic1 (tgt := 67) rfl rfl (fun _ => ?_) (fun h => absurd (h.symm.trans (decide_eq_true hr)) (by decide))
  refine At.go (q := xm175) rfl 1 (pc' := 68) (L' := [(0, .ref (A 0)), (1, .ref (A (20 + i)))]) (st' := [.int 1]) rfl ?_
  obtain ⟨x1, x2, x3, x4⟩ := tt3
  exact At.rt rfl (xret_i rfl) ⟨_, _, _, _, rfl, rfl, ow, np, nl, fun _ _ => rfl, x1, x2, by omega, by omega⟩
theorem h_lowt {S : List Int32} {hp : List XC} {ow : Nat → Nat} {k : Nat} {A : Nat → Nat} {M : HM} {np nl : Nat} {if0 if1 items vb : Nat} {kd fr : Nat → Nat} {os : List (Nat × Int32)} {sf mf ces : List Value} {ws : Value} {es : List Value} {gs : List Int32} {i K J : Nat} {rc al : Int32} {D ts ms : List En} (h : HR hp ow k A M 0 np nl) (hi : i < 8) (hlen : (vwE M i).length ≤ 3000) (hS9 : StF hp A if0 if1 items vb kd fr os sf mf ces ws es gs) (hop : ∀ h1 : List XC, HR h1 ow k A M 0 np nl → ChS h1 A (M.2.2.2.1 i).1 0 0 (vwE M i) [] [] → StF h1 A if0 if1 items vb kd fr os sf mf ces ws es gs → Me S 8 179 [.ref (A 7), .ref (A 60), .ref (A 75)] h1 (fun v hp' c s => some (.int rc) = v ∧ HSu h1 hp' ow k A M 0 np nl c s K J ∧ ChS hp' A (M.2.2.2.1 i).1 al 0 D ts ms ∧ (∃ vs : List Int32, hp'[A 73]? = some (.inl (16, vs.map Value.int)) ∧ vs.length = 120) ∧ FrX (fun x => x = A 7 ∨ x = A 15 ∨ x = A 12 ∨ x = A 13 ∨ x = A 73) h1 hp')) (hrf : xfit (xFT 14 11) (.int rc) = true) (hr : rc = 0) (hb : (M.2.2.2.1 i).2.2.1 = true) : Me S 11 175 [.ref (A 0), .ref (A (20 + i))] hp (fun v hp' c s => v = some (.int 1) ∧ HSt hp hp' ow k A M 116 np nl c s K J) := by
  have hvw := h_view (S := S) h hi
  obtain ⟨hO, how, h0, h1, h3, hD, hF, hE, hT, ⟨lv9, hG⟩, hC, hL9, hQ, hW, hS, hTq9, htd, hcap⟩ := id h
  obtain ⟨za, ab, a1, a2, a3, a4, a5, a6, a7, a8, a9, a10, a11, a12, a13, a14⟩ := hS i hi
  have ne : ∀ a b, a < 77 → b < 77 → a ≠ b → A a ≠ A b := fun a b ha hb hab e => by have u := (how a ha).1; rw [e, (how b hb).1] at u; omega
  subst hr
  have hb1 := a1
  rw [hb] at hb1
  refine At.go (q := xm175) rfl 1 (pc' := 1) (L' := [(0, .ref (A 0)), (1, .ref (A (20 + i)))]) (st' := [.ref (A 0)]) rfl ?_
  refine At.gf rfl (by decide) h0 rfl ?_
  refine At.go (q := xm175) rfl 2 (pc' := 6) (L' := [(0, .ref (A 0)), (1, .ref (A (20 + i)))]) (st' := [.ref (A (20 + i)), .ref (A 0), .ref (A 7)]) rfl ?_
  refine At.clp (as := [.ref (A 0), .ref (A (20 + i))]) (rest := [.ref (A 7)]) rfl (by decide) rfl (Nat.le_of_ble_eq_true rfl) (Nat.le_of_ble_eq_true rfl) (xrck_o (by decide) (by decide) h0 (by decide)) (Nat.le_of_ble_eq_true rfl) (hvw) ?_
  refine At.go (q := xm175) rfl 1 (pc' := 10) (L' := [(0, .ref (A 0)), (1, .ref (A (20 + i)))]) (st' := [.ref (A (20 + i)), .ref (A (vwO M i)), .ref (A 7)]) rfl ?_
  refine At.gf rfl (by decide) a1 rfl ?_
  refine At.clm (as := [.ref (A 7), .ref (A (vwO M i)), .int (M.2.2.2.1 i).1]) (rest := []) rfl (by decide) rfl (Nat.le_of_ble_eq_true rfl) (Nat.le_of_ble_eq_true rfl) (xrck_o (by decide) (by decide) hC.1.choose_spec.choose_spec.choose_spec (by decide)) (Nat.le_of_ble_eq_true rfl) (h_start h hi hlen) (fun v9 g1 c1 s1 hv9 => ?_)
  obtain ⟨rfl, t1, hC1, f1⟩ := hv9
  have r1 := t1.1
  have f1n : FrX (fun a => (fun n => n = k + 7 ∨ n = k + 15 ∨ n = k + 12 ∨ n = k + 13) (ow a)) hp g1 := f1.mono (fun x _ e => by
    have e9 : x = A 7 ∨ x = A 15 ∨ x = A 12 ∨ x = A 13 := e
    show ow x = k + 7 ∨ ow x = k + 15 ∨ ow x = k + 12 ∨ ow x = k + 13
    rcases e9 with e9 | e9 | e9 | e9 <;> (rw [e9, (how _ (by decide)).1]; omega))
  have hS1 := hS9.fr (Z := fun n => n = k + 7 ∨ n = k + 15 ∨ n = k + 12 ∨ n = k + 13) f1n how (fun j j1 j2 j3 z => by have z9 : k + j = k + 7 ∨ k + j = k + 15 ∨ k + j = k + 12 ∨ k + j = k + 13 := z; omega) (Or.inl (fun z => by have z9 : k + 73 = k + 7 ∨ k + 73 = k + 15 ∨ k + 73 = k + 12 ∨ k + 73 = k + 13 := z; omega))
  have k1h := r1.2.2.1
  have st1 := hS1.2.1
  have mf1 := hS1.2.2.2.2.1
  have ch1 := hC1.1
  have z1 := f1.ob hb1 (by decide) (fun e => by rcases e with e | e | e | e <;> exact ne (20 + i) _ (by omega) (by omega) (by omega) e)
  refine At.go (q := xm175) rfl 2 (pc' := 18) (L' := [(0, .ref (A 0)), (1, .ref (A (20 + i)))]) (st' := [.ref (A 0), .ref (A 0)]) rfl ?_
  refine At.gf rfl (by decide) k1h rfl ?_
  refine At.go (q := xm175) rfl 1 (pc' := 22) (L' := [(0, .ref (A 0)), (1, .ref (A (20 + i)))]) (st' := [.ref (A 0), .ref (A 7), .ref (A 0)]) rfl ?_
  refine At.gf rfl (by decide) k1h rfl ?_
  refine At.go (q := xm175) rfl 1 (pc' := 26) (L' := [(0, .ref (A 0)), (1, .ref (A (20 + i)))]) (st' := [.ref (A 0), .ref (A 60), .ref (A 7), .ref (A 0)]) rfl ?_
  refine At.gf rfl (by decide) k1h rfl ?_
  refine At.clm (as := [.ref (A 7), .ref (A 60), .ref (A 75)]) (rest := [.ref (A 0)]) rfl (by decide) rfl (Nat.le_of_ble_eq_true rfl) (Nat.le_of_ble_eq_true rfl) (xrck_o (by decide) (by decide) ch1 (by decide)) (Nat.le_of_ble_eq_true rfl) (hop g1 r1 hC1 hS1) (fun v9 g2 c2 s2 hv9 => ?_)
  obtain ⟨rfl, t2, hC2, hv73, f2⟩ := hv9
  have r2 := t2.1
  have k2h := r2.2.2.1
  have tt2 := HSu.tr t1 t2
  have z2 := f2.ob z1 (by decide) (fun e => by rcases e with e | e | e | e | e <;> exact ne (20 + i) _ (by omega) (by omega) (by omega) e)
  refine At.pf rfl k2h (Nat.le_of_ble_eq_true rfl) rfl ?_
  obtain ⟨g3, eg3⟩ : ∃ z, z = g2.set (A 0) (.inr (14, [.ref (A 1), .ref (A 2), .ref (A 3), .ref (A 4), .ref (A 5), .ref (A 60), .ref (A 75), .ref (A 6), .ref (A 7), .ref (A 8), .int M.2.2.2.2.2.1, .int 0])) := ⟨_, rfl⟩
  refine At.hpe eg3 ?_
  obtain ⟨t3, f3⟩ := HSu.ref r2 eg3
  have r3 := t3.1
  have f3n : FrX (fun a => (fun n => n = k + 0) (ow a)) g2 g3 := f3.mono (fun x _ e => by have e9 : x = A 0 := e; show ow x = k + 0; rw [e9]; exact (how 0 (by decide)).1)
  have hC3 := hC2.fr (Z := fun n => n = k + 0) f3n r2.1 r2.2.1 (fun z => by have z9 : k + 7 = k + 0 := z; omega) (fun z => by have z9 : k + 15 = k + 0 := z; omega) (fun z => by have z9 : k + 12 = k + 0 := z; omega) (fun z => by have z9 : k + 13 = k + 0 := z; omega)
  have tt3 := HSu.tr tt2 t3
  have k3h := r3.2.2.1
  have z3 := f3.ob z2 (by decide) (fun e => ne (20 + i) 0 (by omega) (by omega) (by omega) e)
  refine At.go (q := xm175) rfl 1 (pc' := 36) (L' := [(0, .ref (A 0)), (1, .ref (A (20 + i)))]) (st' := [.ref (A 0)]) rfl ?_
  refine At.gf rfl (by decide) k3h rfl ?_
  refine At.go (q := xm175) rfl 2 (pc' := 43) (L' := [(0, .ref (A 0)), (1, .ref (A (20 + i)))]) (st' := [.ref (A (20 + i))]) rfl ?_
  refine At.gf rfl (by decide) z3 rfl ?_
  refine At.go (q := xm175) rfl 3 (pc' := 52) (L' := [(0, .ref (A 0)), (1, .ref (A (20 + i)))]) (st' := [.int 116, .ref (A 0)]) rfl ?_
  refine At.pf rfl k3h (Nat.le_of_ble_eq_true rfl) rfl ?_
  obtain ⟨g4, eg4⟩ : ∃ z, z = g3.set (A 0) (.inr (14, [.ref (A 1), .ref (A 2), .ref (A 3), .ref (A 4), .ref (A 5), .ref (A 60), .ref (A 75), .ref (A 6), .ref (A 7), .ref (A 8), .int M.2.2.2.2.2.1, .int 116])) := ⟨_, rfl⟩
  refine At.hpe eg4 ?_
  obtain ⟨t4, f4⟩ := HSu.ref r3 eg4
  have r4 := t4.1
  have f4n : FrX (fun a => (fun n => n = k + 0) (ow a)) g3 g4 := f4.mono (fun x _ e => by have e9 : x = A 0 := e; show ow x = k + 0; rw [e9]; exact (how 0 (by decide)).1)
  have hC4 := hC3.fr (Z := fun n => n = k + 0) f4n r3.1 r3.2.1 (fun z => by have z9 : k + 7 = k + 0 := z; omega) (fun z => by have z9 : k + 15 = k + 0 := z; omega) (fun z => by have z9 : k + 12 = k + 0 := z; omega) (fun z => by have z9 : k + 13 = k + 0 := z; omega)
  have tt4 := HSu.tr tt3 t4
  have k4h := r4.2.2.1
  have z4 := f4.ob z3 (by decide) (fun e => ne (20 + i) 0 (by omega) (by omega) (by omega) e)
  refine At.go (q := xm175) rfl 1 (pc' := 56) (L' := [(0, .ref (A 0)), (1, .ref (A (20 + i)))]) (st' := [.ref (A 0)]) rfl ?_
  refine At.gf rfl (by decide) k4h rfl ?_
  refine At.go (q := xm175) rfl 2 (pc' := 68) (L' := [(0, .ref (A 0)), (1, .ref (A (20 + i)))]) (st' := [.int 1]) rfl ?_
  obtain ⟨x1, x2, x3, x4⟩ := tt4
  exact At.rt rfl (xret_i rfl) ⟨_, _, _, _, rfl, rfl, ow, np, nl, fun _ _ => rfl, x1, x2, by omega, by omega⟩
theorem h_lowk {S : List Int32} {hp : List XC} {ow : Nat → Nat} {k : Nat} {A : Nat → Nat} {M : HM} {np nl : Nat} {if0 if1 items vb : Nat} {kd fr : Nat → Nat} {os : List (Nat × Int32)} {sf mf ces : List Value} {ws : Value} {es : List Value} {gs : List Int32} {i K J : Nat} {rc al : Int32} {D ts ms : List En} (h : HR hp ow k A M 0 np nl) (hi : i < 8) (hlen : (vwE M i).length ≤ 3000) (hS9 : StF hp A if0 if1 items vb kd fr os sf mf ces ws es gs) (hop : ∀ h1 : List XC, HR h1 ow k A M 0 np nl → ChS h1 A (M.2.2.2.1 i).1 0 0 (vwE M i) [] [] → StF h1 A if0 if1 items vb kd fr os sf mf ces ws es gs → Me S 8 179 [.ref (A 7), .ref (A 60), .ref (A 75)] h1 (fun v hp' c s => some (.int rc) = v ∧ HSu h1 hp' ow k A M 0 np nl c s K J ∧ ChS hp' A (M.2.2.2.1 i).1 al 0 D ts ms ∧ (∃ vs : List Int32, hp'[A 73]? = some (.inl (16, vs.map Value.int)) ∧ vs.length = 120) ∧ FrX (fun x => x = A 7 ∨ x = A 15 ∨ x = A 12 ∨ x = A 13 ∨ x = A 73) h1 hp')) (hrf : xfit (xFT 14 11) (.int rc) = true) (hr : rc = 0) (hb : (M.2.2.2.1 i).2.2.1 = false) (hlD : D.length ≤ 3000) (hlt : (M.2.2.2.1 i).2.2.2.2.1.length + ts.length ≤ 3000) (hle : M.2.2.1.length + ts.length ≤ 3400) : Me S 11 175 [.ref (A 0), .ref (A (20 + i))] hp (fun v hp' c s => v = some (.int 1) ∧ HSt hp hp' ow k A (mEnded (mShelf M D) (M.2.2.1 ++ ts)) 0 np nl c s K J) := by
  have hvw := h_view (S := S) h hi
  obtain ⟨hO, how, h0, h1, h3, hD, hF, hE, hT, ⟨lv9, hG⟩, hC, hL9, hQ, hW, hS, hTq9, htd, hcap⟩ := id h
  obtain ⟨za, ab, a1, a2, a3, a4, a5, a6, a7, a8, a9, a10, a11, a12, a13, a14⟩ := hS i hi
  have ne : ∀ a b, a < 77 → b < 77 → a ≠ b → A a ≠ A b := fun a b ha hb hab e => by have u := (how a ha).1; rw [e, (how b hb).1] at u; omega
  subst hr
  have hb1 := a1
  rw [hb] at hb1
  refine At.go (q := xm175) rfl 1 (pc' := 1) (L' := [(0, .ref (A 0)), (1, .ref (A (20 + i)))]) (st' := [.ref (A 0)]) rfl ?_
  refine At.gf rfl (by decide) h0 rfl ?_
  refine At.go (q := xm175) rfl 2 (pc' := 6) (L' := [(0, .ref (A 0)), (1, .ref (A (20 + i)))]) (st' := [.ref (A (20 + i)), .ref (A 0), .ref (A 7)]) rfl ?_
  refine At.clp (as := [.ref (A 0), .ref (A (20 + i))]) (rest := [.ref (A 7)]) rfl (by decide) rfl (Nat.le_of_ble_eq_true rfl) (Nat.le_of_ble_eq_true rfl) (xrck_o (by decide) (by decide) h0 (by decide)) (Nat.le_of_ble_eq_true rfl) (hvw) ?_
  refine At.go (q := xm175) rfl 1 (pc' := 10) (L' := [(0, .ref (A 0)), (1, .ref (A (20 + i)))]) (st' := [.ref (A (20 + i)), .ref (A (vwO M i)), .ref (A 7)]) rfl ?_
  refine At.gf rfl (by decide) a1 rfl ?_
  refine At.clm (as := [.ref (A 7), .ref (A (vwO M i)), .int (M.2.2.2.1 i).1]) (rest := []) rfl (by decide) rfl (Nat.le_of_ble_eq_true rfl) (Nat.le_of_ble_eq_true rfl) (xrck_o (by decide) (by decide) hC.1.choose_spec.choose_spec.choose_spec (by decide)) (Nat.le_of_ble_eq_true rfl) (h_start h hi hlen) (fun v9 g1 c1 s1 hv9 => ?_)
  obtain ⟨rfl, t1, hC1, f1⟩ := hv9
  have r1 := t1.1
  have f1n : FrX (fun a => (fun n => n = k + 7 ∨ n = k + 15 ∨ n = k + 12 ∨ n = k + 13) (ow a)) hp g1 := f1.mono (fun x _ e => by
    have e9 : x = A 7 ∨ x = A 15 ∨ x = A 12 ∨ x = A 13 := e
    show ow x = k + 7 ∨ ow x = k + 15 ∨ ow x = k + 12 ∨ ow x = k + 13
    rcases e9 with e9 | e9 | e9 | e9 <;> (rw [e9, (how _ (by decide)).1]; omega))
  have hS1 := hS9.fr (Z := fun n => n = k + 7 ∨ n = k + 15 ∨ n = k + 12 ∨ n = k + 13) f1n how (fun j j1 j2 j3 z => by have z9 : k + j = k + 7 ∨ k + j = k + 15 ∨ k + j = k + 12 ∨ k + j = k + 13 := z; omega) (Or.inl (fun z => by have z9 : k + 73 = k + 7 ∨ k + 73 = k + 15 ∨ k + 73 = k + 12 ∨ k + 73 = k + 13 := z; omega))
  have k1h := r1.2.2.1
  have st1 := hS1.2.1
  have mf1 := hS1.2.2.2.2.1
  have ch1 := hC1.1
  have z1 := f1.ob hb1 (by decide) (fun e => by rcases e with e | e | e | e <;> exact ne (20 + i) _ (by omega) (by omega) (by omega) e)
  refine At.go (q := xm175) rfl 2 (pc' := 18) (L' := [(0, .ref (A 0)), (1, .ref (A (20 + i)))]) (st' := [.ref (A 0), .ref (A 0)]) rfl ?_
  refine At.gf rfl (by decide) k1h rfl ?_
  refine At.go (q := xm175) rfl 1 (pc' := 22) (L' := [(0, .ref (A 0)), (1, .ref (A (20 + i)))]) (st' := [.ref (A 0), .ref (A 7), .ref (A 0)]) rfl ?_
  refine At.gf rfl (by decide) k1h rfl ?_
  refine At.go (q := xm175) rfl 1 (pc' := 26) (L' := [(0, .ref (A 0)), (1, .ref (A (20 + i)))]) (st' := [.ref (A 0), .ref (A 60), .ref (A 7), .ref (A 0)]) rfl ?_
  refine At.gf rfl (by decide) k1h rfl ?_
  refine At.clm (as := [.ref (A 7), .ref (A 60), .ref (A 75)]) (rest := [.ref (A 0)]) rfl (by decide) rfl (Nat.le_of_ble_eq_true rfl) (Nat.le_of_ble_eq_true rfl) (xrck_o (by decide) (by decide) ch1 (by decide)) (Nat.le_of_ble_eq_true rfl) (hop g1 r1 hC1 hS1) (fun v9 g2 c2 s2 hv9 => ?_)
  obtain ⟨rfl, t2, hC2, hv73, f2⟩ := hv9
  have r2 := t2.1
  have k2h := r2.2.2.1
  have tt2 := HSu.tr t1 t2
  have z2 := f2.ob z1 (by decide) (fun e => by rcases e with e | e | e | e | e <;> exact ne (20 + i) _ (by omega) (by omega) (by omega) e)
  refine At.pf rfl k2h (Nat.le_of_ble_eq_true rfl) rfl ?_
  obtain ⟨g3, eg3⟩ : ∃ z, z = g2.set (A 0) (.inr (14, [.ref (A 1), .ref (A 2), .ref (A 3), .ref (A 4), .ref (A 5), .ref (A 60), .ref (A 75), .ref (A 6), .ref (A 7), .ref (A 8), .int M.2.2.2.2.2.1, .int 0])) := ⟨_, rfl⟩
  refine At.hpe eg3 ?_
  obtain ⟨t3, f3⟩ := HSu.ref r2 eg3
  have r3 := t3.1
  have f3n : FrX (fun a => (fun n => n = k + 0) (ow a)) g2 g3 := f3.mono (fun x _ e => by have e9 : x = A 0 := e; show ow x = k + 0; rw [e9]; exact (how 0 (by decide)).1)
  have hC3 := hC2.fr (Z := fun n => n = k + 0) f3n r2.1 r2.2.1 (fun z => by have z9 : k + 7 = k + 0 := z; omega) (fun z => by have z9 : k + 15 = k + 0 := z; omega) (fun z => by have z9 : k + 12 = k + 0 := z; omega) (fun z => by have z9 : k + 13 = k + 0 := z; omega)
  have tt3 := HSu.tr tt2 t3
  have k3h := r3.2.2.1
  have z3 := f3.ob z2 (by decide) (fun e => ne (20 + i) 0 (by omega) (by omega) (by omega) e)
  refine At.go (q := xm175) rfl 1 (pc' := 36) (L' := [(0, .ref (A 0)), (1, .ref (A (20 + i)))]) (st' := [.ref (A 0)]) rfl ?_
  refine At.gf rfl (by decide) k3h rfl ?_
  refine At.go (q := xm175) rfl 2 (pc' := 43) (L' := [(0, .ref (A 0)), (1, .ref (A (20 + i)))]) (st' := [.ref (A (20 + i))]) rfl ?_
  refine At.gf rfl (by decide) z3 rfl ?_
  refine At.go (q := xm175) rfl 2 (pc' := 56) (L' := [(0, .ref (A 0)), (1, .ref (A (20 + i)))]) (st' := [.ref (A 0)]) rfl ?_
  refine At.gf rfl (by decide) k3h rfl ?_
  refine At.go (q := xm175) rfl 3 (pc' := 64) (L' := [(0, .ref (A 0)), (1, .ref (A (20 + i)))]) (st' := [.ref (A (20 + i)), .ref (A 0)]) rfl ?_
  refine At.clm (as := [.ref (A 0), .ref (A (20 + i))]) (rest := []) rfl (by decide) rfl (Nat.le_of_ble_eq_true rfl) (Nat.le_of_ble_eq_true rfl) (xrck_o (by decide) (by decide) k3h (by decide)) (Nat.le_of_ble_eq_true rfl) (h_keepF0 r3 hi hb hC3 hlD hlt hle) (fun v9 g6 c6 s6 hv9 => ?_)
  obtain ⟨rfl, t6, ch6⟩ := hv9
  have tt6 := HSu.tr tt3 t6
  refine At.go (q := xm175) rfl 1 (pc' := 68) (L' := [(0, .ref (A 0)), (1, .ref (A (20 + i)))]) (st' := [.int 1]) rfl ?_
  obtain ⟨x1, x2, x3, x4⟩ := tt6
  exact At.rt rfl (xret_i rfl) ⟨_, _, _, _, rfl, rfl, ow, np, nl, fun _ _ => rfl, x1, x2, by omega, by omega⟩
