/-! the house: changes begin, are judged, are kept (written by wip/p27/c999999995.py) -/
/-- what a step leaves that makes no new arrays -/
def HSu (hp hp' : List XC) (ow : Nat → Nat) (k : Nat) (A : Nat → Nat) (M' : HM) (rf' : Int32) (np nl c s Kc Ks : Nat) : Prop := HR hp' ow k A M' rf' np nl ∧ FrX (fun a => k ≤ ow a ∧ ow a < k + 1000) hp hp' ∧ c + capsH hp A ≤ capsH hp' A + Kc ∧ s + 4 * capsH hp A ≤ 4 * capsH hp' A + Ks
theorem HSu.tr {hp h1 h2 : List XC} {ow : Nat → Nat} {k : Nat} {A : Nat → Nat} {M1 M2 : HM} {rf1 rf2 : Int32} {np nl c1 s1 c2 s2 K1 J1 K2 J2 : Nat} (a : HSu hp h1 ow k A M1 rf1 np nl c1 s1 K1 J1) (b : HSu h1 h2 ow k A M2 rf2 np nl c2 s2 K2 J2) : HSu hp h2 ow k A M2 rf2 np nl (c1 + c2) (s1 + s2) (K1 + K2) (J1 + J2) := by
  obtain ⟨a1, a2, a3, a4⟩ := a
  obtain ⟨b1, b2, b3, b4⟩ := b
  exact ⟨b1, FrX.tr a2 b2 (fun x hx => Or.inl hx), by omega, by omega⟩
theorem HSu.st {hp h1 : List XC} {ow : Nat → Nat} {k : Nat} {A : Nat → Nat} {M1 : HM} {rf1 : Int32} {np nl c s K J K' J' : Nat} (a : HSu hp h1 ow k A M1 rf1 np nl c s K J) (hK : K ≤ K') (hJ : J ≤ J') : HSt hp h1 ow k A M1 rf1 np nl c s K' J' := by
  obtain ⟨a1, a2, a3, a4⟩ := a
  exact ⟨ow, np, nl, fun _ _ => rfl, a1, a2, by omega, by omega⟩
theorem HSu.of {hp hp' : List XC} {ow : Nat → Nat} {k : Nat} {A : Nat → Nat} {M M' : HM} {rf rf' : Int32} {np nl c s Kc Ks : Nat} {Z : Nat → Prop} (h : HR hp ow k A M rf np nl) (f : FrX (fun a => Z (ow a)) hp hp') (hZ : ∀ n, Z n → k ≤ n ∧ n < k + 1000) (hR : HR hp' ow k A M' rf' np nl) (js : List Nat) (hs : js.Sublist lsI) (hz : ∀ j, Z (k + j) → j ∈ lsI → j ∈ js) (hc : c + sumL (fun j => capL hp (A j)) js ≤ sumL (fun j => capL hp' (A j)) js + Kc) (hs9 : s + 4 * sumL (fun j => capL hp (A j)) js ≤ 4 * sumL (fun j => capL hp' (A j)) js + Ks) : HSu hp hp' ow k A M' rf' np nl c s Kc Ks := by
  have e := h.caps f js hs hz
  exact ⟨hR, f.mono (fun x _ hx => hZ _ hx), by omega, by omega⟩
/-- a change under way -/
def ChS (hp : List XC) (A : Nat → Nat) (lb al gi : Int32) (D ts ms : List En) : Prop := hp[A 7]? = some (.inr (3, [.ref (A 11), .ref (A 12), .ref (A 13), .ref (A 14), .int lb, .int al, .int gi])) ∧ hSh hp (A 15) D ∧ hSh hp (A 12) ts ∧ hSh hp (A 13) ms
theorem ChS.fr {hp hp' : List XC} {ow : Nat → Nat} {k : Nat} {A : Nat → Nat} {Z : Nat → Prop} {lb al gi : Int32} {D ts ms : List En} (h : ChS hp A lb al gi D ts ms) (f : FrX (fun a => Z (ow a)) hp hp') (hO : Own hp) (how : ∀ j, j < 77 → ow (A j) = k + j ∧ A j < hp.length) (z1 : ¬ Z (k + 7)) (z2 : ¬ Z (k + 15)) (z3 : ¬ Z (k + 12)) (z4 : ¬ Z (k + 13)) : ChS hp' A lb al gi D ts ms := by
  obtain ⟨h1, h2, h3, h4⟩ := h
  exact ⟨f.ob h1 (by decide) (nz (how 7 (by decide)).1 z1), h2.fr f hO (nz (how 15 (by decide)).1 z2), h3.fr f hO (nz (how 12 (by decide)).1 z3), h4.fr f hO (nz (how 13 (by decide)).1 z4)⟩
/-- a statement that is bound, with its meaning -/
def StF (hp : List XC) (A : Nat → Nat) (if0 if1 items vb : Nat) (kd fr : Nat → Nat) (os : List (Nat × Int32)) (sf mf ces : List Value) (ws : Value) (es : List Value) (gs : List Int32) : Prop := hSt hp (A 60) (A 62) (A 63) (A 65) if0 if1 items vb kd fr ∧ hp[A 60]? = some (.inr (12, sf)) ∧ hFo hp (A 62) (A 70) (A 71) (A 72) (A 73) (A 74) ws es gs os ∧ (∃ vs : List Int32, hp[A 73]? = some (.inl (16, vs.map Value.int)) ∧ vs.length = 120) ∧ hp[A 75]? = some (.inr (6, mf)) ∧ hp[A 76]? = some (.inl (17, ces))
theorem StF.fr {hp hp' : List XC} {ow : Nat → Nat} {k : Nat} {A : Nat → Nat} {Z : Nat → Prop} {if0 if1 items vb : Nat} {kd fro : Nat → Nat} {os : List (Nat × Int32)} {sf mf ces : List Value} {ws : Value} {es : List Value} {gs : List Int32} (h : StF hp A if0 if1 items vb kd fro os sf mf ces ws es gs) (f : FrX (fun a => Z (ow a)) hp hp') (how : ∀ j, j < 77 → ow (A j) = k + j ∧ A j < hp.length) (hz : ∀ j, 60 ≤ j → j < 77 → j ≠ 73 → ¬ Z (k + j)) (h73 : ¬ Z (k + 73) ∨ ∃ vs : List Int32, hp'[A 73]? = some (.inl (16, vs.map Value.int)) ∧ vs.length = 120) : StF hp' A if0 if1 items vb kd fro os sf mf ces ws es gs := by
  obtain ⟨h1, h2, h3, ⟨vs, h4, h5⟩, h6, h7⟩ := h
  have n : ∀ j, 60 ≤ j → j < 77 → j ≠ 73 → ¬ (fun a => Z (ow a)) (A j) := fun j j1 j2 j3 => nz (how j j2).1 (hz j j1 j2 j3)
  refine ⟨h1.fr f (n 60 (by decide) (by decide) (by decide)) (n 63 (by decide) (by decide) (by decide)) (n 65 (by decide) (by decide) (by decide)), f.ob h2 (by decide) (n 60 (by decide) (by decide) (by decide)), h3.fr f (n 62 (by decide) (by decide) (by decide)) (n 70 (by decide) (by decide) (by decide)) (n 71 (by decide) (by decide) (by decide)), ?_, f.ob h6 (by decide) (n 75 (by decide) (by decide) (by decide)), f.2.2.1 _ _ h7 rfl (Or.inl (n 76 (by decide) (by decide) (by decide)))⟩
  rcases h73 with z | h
  · exact ⟨vs, f.2.2.1 _ _ h4 rfl (Or.inl (nz (how 73 (by decide)).1 z)), h5⟩
  · exact h
theorem h_start {S : List Int32} {hp : List XC} {ow : Nat → Nat} {k : Nat} {A : Nat → Nat} {M : HM} {rf : Int32} {np nl : Nat} (h : HR hp ow k A M rf np nl) {i : Nat} {lb : Int32} (hi : i < 8) (hlen : (vwE M i).length ≤ 3000) : Me S 9 176 [.ref (A 7), .ref (A (vwO M i)), .int lb] hp (fun v hp' c s => v = none ∧ HSu hp hp' ow k A M rf np nl c s 0 0 ∧ ChS hp' A lb 0 0 (vwE M i) [] [] ∧ FrX (fun x => x = A 7 ∨ x = A 15 ∨ x = A 12 ∨ x = A 13) hp hp') := by
  obtain ⟨hvo, vas, hvl, hve⟩ := h.view hi
  have hvc := vwL_c (M := M) hi
  obtain ⟨hO, how, h0, h1, h3, hD, hF, hE, hT, ⟨lv9, hG⟩, hC, hL9, hQ, hW, hS, hTq9, htd, hcap⟩ := id h
  have ne : ∀ a b, a < 77 → b < 77 → a ≠ b → A a ≠ A b := fun a b ha hb hab e => by have u := (how a ha).1; rw [e, (how b hb).1] at u; omega
  obtain ⟨⟨clb, cal, cgi, hC1⟩, hC2, clv, hC3⟩ := hC
  obtain ⟨des, das, hd1, hd2⟩ := hL9 15 (by decide)
  obtain ⟨tes, tas, ht1, ht2⟩ := hL9 12 (by decide)
  obtain ⟨mes, mas, hm1, hm2⟩ := hL9 13 (by decide)
  have hvel := hve.1
  refine me_imp (m_start (S := S) (by_ := lb) hC1 hC2 hvo (ne 15 _ (by decide) (by omega) (by omega)) (ne 15 12 (by decide) (by decide) (by decide)) (ne 15 13 (by decide) (by decide) (by decide)) (ne 12 13 (by decide) (by decide) (by decide)) hO hd1 hvl ht1 hm1 hve (by omega)) (fun v hp' c s hv => ?_)
  obtain ⟨v1, f, g1, g2, g3, g4, g5, g6, g7, g8, g9⟩ := hv
  obtain ⟨Z, hZ⟩ : ∃ Z : Nat → Prop, Z = fun n => n = k + 7 ∨ n = k + 15 ∨ n = k + 12 ∨ n = k + 13 := ⟨_, rfl⟩
  have hz : ∀ n, Z n → n = k + 7 ∨ n = k + 15 ∨ n = k + 12 ∨ n = k + 13 := fun n z9 => by rw [hZ] at z9; exact z9
  have hzi : ∀ n, (n = k + 7 ∨ n = k + 15 ∨ n = k + 12 ∨ n = k + 13) → Z n := fun n z9 => by rw [hZ]; exact z9
  have hzk : ∀ n, Z n → k ≤ n ∧ n < k + 1000 := fun n z => by have z9 := hz n z; omega
  have f' : FrX (fun a => Z (ow a)) hp hp' := f.mono (fun x _ e => by
    have e9 : x = A 7 ∨ x = A 15 ∨ x = A 12 ∨ x = A 13 := e
    show Z (ow x)
    rcases e9 with e9 | e9 | e9 | e9
    · rw [e9, (how _ (by omega)).1]; exact hzi _ (by omega)
    · rw [e9, (how _ (by omega)).1]; exact hzi _ (by omega)
    · rw [e9, (how _ (by omega)).1]; exact hzi _ (by omega)
    · rw [e9, (how _ (by omega)).1]; exact hzi _ (by omega))
  have c15 := hcap 15 (by decide)
  have c12 := hcap 12 (by decide)
  have c13 := hcap 13 (by decide)
  have hD' := g2
  exact ⟨v1, HSu.of h f' hzk (h.upd (Z := Z) f' (fun _ _ => rfl) (fun z => by have z9 := hz _ z; omega) (fun z => by have z9 := hz _ z; omega) (Or.inl ⟨(fun z => by have z9 := hz _ z; omega), rfl, rfl⟩) (Or.inl ⟨(fun z => by have z9 := hz _ z; omega), rfl⟩) (Or.inl ⟨(fun z => by have z9 := hz _ z; omega), rfl⟩) (Or.inl ⟨(fun z => by have z9 := hz _ z; omega), rfl⟩) (Or.inl ⟨(fun z => by have z9 := hz _ z; omega), rfl⟩) (Or.inl (fun z => by have z9 := hz _ z; omega)) (Or.inr ⟨⟨_, _, _, g1⟩, f'.ob hC2 (by decide) (nz (how 11 (by decide)).1 (fun z => by have z9 := hz _ z; omega)), clv, f'.ob hC3 (by decide) (nz (how 14 (by decide)).1 (fun z => by have z9 := hz _ z; omega))⟩) (fun j hj => if e : j = 15 then Or.inr (by rw [e]; exact ⟨_, g2⟩) else if e : j = 12 then Or.inr (by rw [e]; exact ⟨[], [], g3, rfl, fun j a e h => by cases h⟩) else if e : j = 13 then Or.inr (by rw [e]; exact ⟨[], [], g4, rfl, fun j a e h => by cases h⟩) else Or.inl (fun z => by simp only [List.mem_cons, List.not_mem_nil, or_false] at hj; have z9 := hz _ z; omega)) (Or.inl ⟨(fun z => by have z9 := hz _ z; omega), (fun z => by have z9 := hz _ z; omega), (fun z => by have z9 := hz _ z; omega), (fun z => by have z9 := hz _ z; omega), rfl, rfl⟩) (Or.inl (fun j j1 j2 z => by have z9 := hz _ z; omega)) (fun j hj => Or.inl ⟨(fun z => by have z9 := hz _ z; omega), (fun z => by have z9 := hz _ z; omega), (fun z => by have z9 := hz _ z; omega), (fun z => by have z9 := hz _ z; omega), (fun z => by have z9 := hz _ z; omega), (fun z => by have z9 := hz _ z; omega), rfl⟩) (Or.inl ⟨(fun z => by have z9 := hz _ z; omega), (fun z => by have z9 := hz _ z; omega), (fun z => by have z9 := hz _ z; omega), (fun z => by have z9 := hz _ z; omega), rfl⟩) (fun j hj => if e : j = 15 then Or.inr (by rw [e]; omega) else if e : j = 12 then Or.inr (by rw [e]; omega) else if e : j = 13 then Or.inr (by rw [e]; omega) else Or.inl (fun z => by have j9 := lsI_c j hj; have z9 := hz _ z; omega))) [15, 12, 13] (by decide) (fun j z hj => by have j9 := lsI_c j hj; have z9 := hz _ z; simp only [List.mem_cons, List.not_mem_nil, or_false]; omega) (by simp only [sumL, List.map_cons, List.map_nil, List.sum_cons, List.sum_nil]; omega) (by simp only [sumL, List.map_cons, List.map_nil, List.sum_cons, List.sum_nil]; omega), ⟨g1, g2, ⟨[], g3, rfl, fun j a e h => by cases h⟩, ⟨[], g4, rfl, fun j a e h => by cases h⟩⟩, f⟩
def ckF (e : En) : Bool := decide (¬ (resE e.2.2.1 (fun g => cellE e.2.2.2.2.1 [] g.toNatClampNeg) osCK) = -1000000000) && decide (¬ (resE e.2.2.1 (fun g => cellE e.2.2.2.2.1 [] g.toNatClampNeg) osCK) = 0)
def judgeQ (M : HM) (q : TQ) (D ms : List En) (lb : Int32) : Int32 := judgeE (TIq M.2.2.2.2.2.2) q.2.2.1 D ms q.2.1 lb (fun e => if q.2.2.2.1 = true then ckF e else true)
theorem osCK_ok : resOk osCK = true := by decide
theorem osCK_nm : ∀ (i : Nat) (q : Nat × Int32), osCK[i]? = some q → q.1 = 3 → ∃ j : Nat, j ≤ 100000 ∧ q.2 = Int32.ofNat j := fun i q hq h3 => by
  have hi : i = 0 ∨ i = 1 ∨ i = 2 := by have := (List.getElem?_eq_some_iff.mp hq).1; have e : osCK.length = 3 := rfl; omega
  rcases hi with e | e | e
  · rw [e] at hq; cases hq; exact ⟨1, by decide, rfl⟩
  · rw [e] at hq; cases hq; exact absurd h3 (by decide)
  · rw [e] at hq; cases hq; exact absurd h3 (by decide)
theorem h_judge {S : List Int32} {hp : List XC} {ow : Nat → Nat} {k : Nat} {A : Nat → Nat} {M : HM} {rf : Int32} {np nl : Nat} (h : HR hp ow k A M rf np nl) {lb al gi : Int32} {D ts ms : List En} {q : TQ} (hC9 : ChS hp A lb al gi D ts ms) (hq : q ∈ M.2.2.2.2.2.2) (hw1 : 1 ≤ q.2.2.1.2.2.1.length) (hsD : Srt D) (hED : EnT M.2.2.2.2.2.2 D) (hEm : EnT M.2.2.2.2.2.2 ms) (hlen : D.length ≤ 3000) (hsame : ∀ f ∈ D, f.1 = q.2.1 → f.2.2.2.2.2 = q.1.1) : Me S 8 198 [.ref (A 7), .ref q.1.1] hp (fun v hp' c s => v = some (.int (judgeQ M q D ms lb)) ∧ HSu hp hp' ow k A M rf np nl c s 0 0 ∧ ChS hp' A lb al gi D ts ms ∧ FrX (fun a => ow a = k + 16 ∨ ow a = k + 14 ∨ ow a = k + 303) hp hp') := by
  have hTD := h.tab hED
  have hTm := h.tab hEm
  obtain ⟨hO, how, h0, h1, h3, hD, hF, hE, hT, ⟨lv9, hG⟩, hC, hL9, hQ, hW, hS, hTq9, htd, hcap⟩ := id h
  have ne : ∀ a b, a < 77 → b < 77 → a ≠ b → A a ≠ A b := fun a b ha hb hab e => by have u := (how a ha).1; rw [e, (how b hb).1] at u; omega
  have hC9' := hC9
  obtain ⟨hc, ⟨das, hd1, hd2⟩, ⟨tas, ht1, ht2⟩, ⟨mas, hm1, hm2⟩⟩ := hC9'
  obtain ⟨⟨clb, cal, cgi, hC1⟩, hC2, clv, hC3⟩ := hC
  obtain ⟨kes, kas, hk1, hk2⟩ := hL9 16 (by decide)
  have c16 := hcap 16 (by decide)
  obtain ⟨b1, b2, b3, b4, b5, fs, b6, b7, b8, b9, b10⟩ := hTq9 q hq
  have hfs : ∃ tf, fs = .int q.2.1 :: tf := by
    obtain ⟨ca, ka, ra, ga, chk, dv, u1, -⟩ := b1
    cases u1.symm.trans b6
    exact ⟨_, rfl⟩
  obtain ⟨tf, rfl⟩ := hfs
  obtain ⟨Z, hZ⟩ : ∃ Z : Nat → Prop, Z = fun n => n = k + 16 ∨ n = k + 14 ∨ n = k + 303 := ⟨_, rfl⟩
  have hz : ∀ n, Z n → n = k + 16 ∨ n = k + 14 ∨ n = k + 303 := fun n z9 => by rw [hZ] at z9; exact z9
  have hzi : ∀ n, (n = k + 16 ∨ n = k + 14 ∨ n = k + 303) → Z n := fun n z9 => by rw [hZ]; exact z9
  have hzk : ∀ n, Z n → k ≤ n ∧ n < k + 1000 := fun n z => by have z9 := hz n z; omega
  have fin : ∀ (hp' : List XC) (c s : Nat) (f : FrX (fun a => Z (ow a)) hp hp'), JdR hp (A 16) (A 14) D.length hp' c s → (∀ p ∈ M.2.2.2.2.2.2, hTq hp' ow k p) → HSu hp hp' ow k A M rf np nl c s 0 0 ∧ ChS hp' A lb al gi D ts ms ∧ FrX (fun a => ow a = k + 16 ∨ ow a = k + 14 ∨ ow a = k + 303) hp hp' := fun hp' c s f hJ hTn => by
    obtain ⟨⟨lv, j1⟩, ⟨ls, j2⟩, j3, j4, j5⟩ := hJ
    exact ⟨HSu.of h f hzk (h.upd (Z := Z) f (fun _ _ => rfl) (fun z => by have z9 := hz _ z; omega) (fun z => by have z9 := hz _ z; omega) (Or.inl ⟨(fun z => by have z9 := hz _ z; omega), rfl, rfl⟩) (Or.inl ⟨(fun z => by have z9 := hz _ z; omega), rfl⟩) (Or.inl ⟨(fun z => by have z9 := hz _ z; omega), rfl⟩) (Or.inl ⟨(fun z => by have z9 := hz _ z; omega), rfl⟩) (Or.inl ⟨(fun z => by have z9 := hz _ z; omega), rfl⟩) (Or.inl (fun z => by have z9 := hz _ z; omega)) (Or.inr ⟨⟨_, _, _, f.ob hC1 (by decide) (nz (how 7 (by decide)).1 (fun z => by have z9 := hz _ z; omega))⟩, f.ob hC2 (by decide) (nz (how 11 (by decide)).1 (fun z => by have z9 := hz _ z; omega)), lv, j1⟩) (fun j hj => if e : j = 16 then Or.inr (by rw [e]; exact ⟨_, j2⟩) else Or.inl (fun z => by simp only [List.mem_cons, List.not_mem_nil, or_false] at hj; have z9 := hz _ z; omega)) (Or.inl ⟨(fun z => by have z9 := hz _ z; omega), (fun z => by have z9 := hz _ z; omega), (fun z => by have z9 := hz _ z; omega), (fun z => by have z9 := hz _ z; omega), rfl, rfl⟩) (Or.inl (fun j j1 j2 z => by have z9 := hz _ z; omega)) (fun j hj => Or.inl ⟨(fun z => by have z9 := hz _ z; omega), (fun z => by have z9 := hz _ z; omega), (fun z => by have z9 := hz _ z; omega), (fun z => by have z9 := hz _ z; omega), (fun z => by have z9 := hz _ z; omega), (fun z => by have z9 := hz _ z; omega), rfl⟩) (Or.inr ⟨hTn, htd⟩) (fun j hj => if e : j = 16 then Or.inr (by rw [e]; omega) else Or.inl (fun z => by have j9 := lsI_c j hj; have z9 := hz _ z; omega))) [16] (by decide) (fun j z hj => by have j9 := lsI_c j hj; have z9 := hz _ z; simp only [List.mem_cons, List.not_mem_nil, or_false]; omega) (by simp only [sumL, List.map_cons, List.map_nil, List.sum_cons, List.sum_nil]; omega) (by simp only [sumL, List.map_cons, List.map_nil, List.sum_cons, List.sum_nil]; omega), hC9.fr f hO how (fun z => by have z9 := hz _ z; omega) (fun z => by have z9 := hz _ z; omega) (fun z => by have z9 := hz _ z; omega) (fun z => by have z9 := hz _ z; omega), f.mono (fun x _ hx => hz _ hx)⟩
  rcases b10 with ⟨c1, c2⟩ | ⟨c1, cf, oa, aa, pa, wa, ws, es, gs, vs, c2, c3, c4, c5, c6, c7, c8, c9⟩
  · refine me_imp (m_judge0 (TI := TIq M.2.2.2.2.2.2) (T := q.2.2.1) (sr := q.2.1) hc hC2 hC3 (ne 16 15 (by decide) (by decide) (by decide)) (ne 13 16 (by decide) (by decide) (by decide)) hO hd1 hm1 hk1 hd2 hm2 hsD (by omega) b1 b6 hw1 hsame hTD hTm c2 ⟨_, hk2⟩) (fun v hp' c s hv => ?_)
    obtain ⟨v1, f, j, -⟩ := hv
    have f' : FrX (fun a => Z (ow a)) hp hp' := f.mono (fun x _ e => by
      have e9 : x = A 16 ∨ x = A 14 := e
      show Z (ow x)
      rcases e9 with e9 | e9
      · rw [e9, (how _ (by omega)).1]; exact hzi _ (by omega)
      · rw [e9, (how _ (by omega)).1]; exact hzi _ (by omega))
    have f2 : FrX (fun a => (fun n => n = k + 16 ∨ n = k + 14) (ow a)) hp hp' := f.mono (fun x _ e => by
      have e9 : x = A 16 ∨ x = A 14 := e
      show ow x = k + 16 ∨ ow x = k + 14
      rcases e9 with e9 | e9
      · rw [e9, (how _ (by omega)).1]; omega
      · rw [e9, (how _ (by omega)).1]; omega)
    refine ⟨?_, fin hp' c s f' j (fun p hp9 => hTq.fr (Z := fun n => n = k + 16 ∨ n = k + 14) (hTq9 p hp9) f2 (fun _ _ => rfl) (fun e => by have e9 : k + 300 = k + 16 ∨ k + 300 = k + 14 := e; omega) (fun e => by have e9 : k + 301 = k + 16 ∨ k + 301 = k + 14 := e; omega) (fun e => by have e9 : k + 302 = k + 16 ∨ k + 302 = k + 14 := e; omega) (fun e => by have e9 : k + 303 = k + 16 ∨ k + 303 = k + 14 := e; omega))⟩
    rw [v1]
    unfold judgeQ
    rw [c1]
    rfl
  · refine me_imp (m_judge1 (TI := TIq M.2.2.2.2.2.2) (T := q.2.2.1) (sr := q.2.1) hc hC2 hC3 (ne 16 15 (by decide) (by decide) (by decide)) (ne 13 16 (by decide) (by decide) (by decide)) hO hd1 hm1 hk1 hd2 hm2 hsD (by omega) b1 b6 hw1 hsame hTD hTm c2 c3 c4 (by rw [c5]; decide) (by omega) osCK_nm (fun e _ => resR_ok osCK_ok) ⟨_, hk2⟩) (fun v hp' c s hv => ?_)
    obtain ⟨v1, f, j, us, us1, us2⟩ := hv
    have f' : FrX (fun a => Z (ow a)) hp hp' := f.mono (fun x _ e => by
      have e9 : x = A 16 ∨ x = A 14 ∨ x = q.1.2.2 := e
      show Z (ow x)
      rcases e9 with e9 | e9 | e9
      · rw [e9, (how _ (by omega)).1]; exact hzi _ (by omega)
      · rw [e9, (how _ (by omega)).1]; exact hzi _ (by omega)
      · rw [e9, c9]; exact hzi _ (by omega))
    refine ⟨?_, fin hp' c s f' j (fun p hp9 => ?_)⟩
    · rw [v1]
      unfold judgeQ
      rw [c1]
      rfl
    · obtain ⟨d1, d2, d3, d4, d5, gs9, d6, d7, d8, d9, d10⟩ := hTq9 p hp9
      refine ⟨d1.fr f', f'.2.2.1 _ _ d2 rfl (Or.inl (nz d5 (fun z => by have z9 := hz _ z; omega))), d3, d4, d5, gs9, f'.ob d6 (by decide) (nz d4 (fun z => by have z9 := hz _ z; omega)), d7, d8, d9, ?_⟩
      rcases d10 with d10 | ⟨e1, cf2, oa2, aa2, pa2, wa2, ws2, es2, gs2, vs2, e2, e3, e4, e5, e6, e7, e8, e9⟩
      · exact Or.inl d10
      · refine Or.inr ⟨e1, cf2, oa2, aa2, pa2, wa2, ws2, es2, gs2, (if p.1.2.2 = q.1.2.2 then us else vs2), e2, e3.fr f' (nz e6 (fun z => by have z9 := hz _ z; omega)) (nz e7 (fun z => by have z9 := hz _ z; omega)) (nz e8 (fun z => by have z9 := hz _ z; omega)), ?_, ?_, e6, e7, e8, e9⟩
        · by_cases hs : p.1.2.2 = q.1.2.2
          · rw [if_pos hs, hs]; exact us2
          · rw [if_neg hs]
            refine f.2.2.1 _ _ e4 rfl (Or.inl (fun e => ?_))
            have e' : p.1.2.2 = A 16 ∨ p.1.2.2 = A 14 ∨ p.1.2.2 = q.1.2.2 := e
            rcases e' with e' | e' | e'
            · rw [e', (how 16 (by decide)).1] at e9; omega
            · rw [e', (how 14 (by decide)).1] at e9; omega
            · exact hs e'
        · split
          · rw [us1]; exact c5
          · exact e5
