/-! the house: a statement is read and bound (written by wip/p27/c999999991.py) -/
/-- what is checked of a text's world -/
def wrB (t : List WV) (R : List WC) (f : Nat) : Bool := wfrB (List.range 15) (wRd t) R && ((R.take 15).all (wndC 15) && ((R.take 15).all wk7 && (t.all wtx && (Nat.ble t.length 120 && (Nat.ble 15 R.length && (wcO R 0 12 20 && (wcO R 1 8 7 && (wveq (wfl R 0 0) (wA 1) && wveq (wfl R 1 6) (wI f)))))))))
def tsM (M : HM) : List (Int32 × Int32) := M.1.map (fun a => ((TIq M.2.2.2.2.2.2 a).1, (TIq M.2.2.2.2.2.2 a).2.1))
/-- the tables that a statement means are found -/
def HbP (ρ σ : Nat → Nat) (ω : Nat → Value) (M : HM) (tb : List (Nat × WV × Option Nat)) : Prop := ∀ p ∈ tb, ∃ nm, wt ρ σ ω p.2.1 = .int nm ∧ (match p.2.2 with
  | some h => ∃ j, tnE (tsM M) nm (Int32.ofNat (wg [0, 1, 16, 17] (σ 10))) (tsM M).length = some j ∧ M.1[j]? = some (ρ h)
  | none => tnE (tsM M) nm (Int32.ofNat (wg [0, 1, 16, 17] (σ 10))) (tsM M).length = none)
def M1l (M : HM) (i : Nat) : HM := mS M i (sLen (M.2.2.2.1 i) 0)
theorem fz_c (f : Nat) : Int32.ofNat f = Int32.ofNat f := rfl
theorem h_runP {S : List Int32} {hp : List XC} {ow : Nat → Nat} {k : Nat} {A : Nat → Nat} {M : HM} {rf : Int32} {np nl : Nat} (h : HR hp ow k A M rf np nl) {i rn : Nat} (hi : i < 8) {t : List WV} {R W T : List WC} {tb : List (Nat × WV × Option Nat)} {ck : List (Nat × WC)} {σ : Nat → Nat} {TA : (Nat → Nat) → Prop} {Q : XO → Prop} (hE9 : wrdE t R = true) (hr9 : wrB t R 4294967295 = true) (ht : ((M.2.2.2.1 i).2.2.2.2.2.2.2.2.take t.length).map Value.int = wtT σ t) (hlen : (M.2.2.2.1 i).2.2.2.2.2.2.2.1 = t.length) (hE2 : wbdE tb T ck R (wI rn) W = true) (hB2 : wfrB (List.range 17) (R.take 15 ++ (wM0 ++ T)) W = true) (hsm : wsmB W = true) (hStd : StT M.2.2.2.2.2.2 M.1) (hlab : (M.2.2.2.1 i).1 = Int32.ofNat (wg [0, 1, 16, 17] (σ 10))) (hBT : ∀ (h3 : List XC) (ω : Nat → Value), (∀ j, (ω j).category = 1) → hLs h3 (A 2) M.1 → (∀ q ∈ M.2.2.2.2.2.2, hTq h3 ow k q) → (∀ j, j < 77 → ow (A j) = k + j ∧ A j < h3.length) → ∃ (ta : Nat → Nat) (ω' : Nat → Value), BT h3 A ta σ ω ω' T ck M.1 ∧ HbP (rhoB A ta T.length h3.length) σ ω' M tb ∧ TA ta) (hK : ∀ (h4 : List XC) (ρ : Nat → Nat) (ω' : Nat → Value) (ta : Nat → Nat), HR h4 ow k A (M1l M i) 0 np nl → (∀ j, (ω' j).category = 1) → ρ 17 = A 2 → WH A ρ σ ω' W h4 → TA ta → (∀ m, m < T.length → ρ (18 + m) = ta m) → FrX (fun a => k ≤ ow a ∧ ow a < k + 1000) hp h4 → capsH h4 A = capsH hp A → At S 12 40 66 [(3, .int (Int32.ofNat rn)), (2, .ref (A (20 + i))), (0, .ref (A 0))] [] h4 0 0 Q) : At S 12 40 0 [(0, .ref (A 0)), (1, .int (Int32.ofNat i))] [] hp 0 0 Q := by
  obtain ⟨hO, how, h0, h1, h3, hD, hF, hE, hT, ⟨lv9, hG⟩, hC, hL9, hQ, hW, hS, hTq9, htd, hcap⟩ := id h
  obtain ⟨za, ab, a1, a2, a3, a4, a5, a6, a7, a8, a9, a10, a11, a12, a13, a14⟩ := hS i hi
  have hT2 := hT.2
  unfold wrB at hr9
  simp only [Bool.and_eq_true] at hr9
  obtain ⟨b1, b2, b3, b4, b5, b6, b7, b8, b9, b10⟩ := hr9
  have ne : ∀ a b, a < 77 → b < 77 → A a = A b → a = b := fun a b ha hb e => by have u := (how a ha).1; rw [e, (how b hb).1] at u; omega
  have hal : ∀ a, a < 77 → A a < hp.length := fun a ha => (how a ha).2
  obtain ⟨Z, hZ⟩ : ∃ Z : Nat → Prop, Z = fun n => n = k + 0 ∨ (k + 60 ≤ n ∧ n < k + 77) ∨ n = k + (20 + i) := ⟨_, rfl⟩
  have hz : ∀ n, Z n → n = k + 0 ∨ (k + 60 ≤ n ∧ n < k + 77) ∨ n = k + (20 + i) := fun n z9 => by rw [hZ] at z9; exact z9
  have hzi : ∀ n, (n = k + 0 ∨ (k + 60 ≤ n ∧ n < k + 77) ∨ n = k + (20 + i)) → Z n := fun n z9 => by rw [hZ]; exact z9
  have hzk : ∀ n, Z n → k ≤ n ∧ n < k + 1000 := fun n z => by have z9 := hz n z; omega
  have a1' := a1
  rw [hlen] at a1'
  refine At.go (q := xm40) rfl 2 (pc' := 2) (L' := [(0, .ref (A 0)), (1, .int (Int32.ofNat i))]) (st' := [.int (Int32.ofNat i), .ref (A 0)]) rfl ?_
  refine At.clp (as := [.ref (A 0), .int (Int32.ofNat i)]) (rest := []) rfl (by decide) rfl (Nat.le_of_ble_eq_true rfl) (Nat.le_of_ble_eq_true rfl) (xrck_o (by decide) (by decide) h0 (by decide)) (Nat.le_of_ble_eq_true rfl) (m_sessionOf h0 rfl h1 (by rw [List.length_map, List.length_range]; decide) (by rw [List.getElem?_map, List.getElem?_range hi]; rfl)) ?_
  refine At.go (q := xm40) rfl 3 (pc' := 8) (L' := [(2, .ref (A (20 + i))), (0, .ref (A 0)), (1, .int (Int32.ofNat i))]) (st' := [.int 0, .ref (A 0)]) rfl ?_
  refine At.pf rfl h0 (Nat.le_of_ble_eq_true rfl) rfl ?_
  obtain ⟨g1, eg1⟩ : ∃ z, z = hp.set (A 0) (.inr (14, [.ref (A 1), .ref (A 2), .ref (A 3), .ref (A 4), .ref (A 5), .ref (A 60), .ref (A 75), .ref (A 6), .ref (A 7), .ref (A 8), .int M.2.2.2.2.2.1, .int 0])) := ⟨_, rfl⟩
  refine At.hpe eg1 ?_
  have f1 : FrX (fun x => x = A 0) hp g1 := by rw [eg1]; exact FrX.so h0 (by decide) rfl (by decide)
  have hH1 : g1[A 0]? = some (.inr (14, [.ref (A 1), .ref (A 2), .ref (A 3), .ref (A 4), .ref (A 5), .ref (A 60), .ref (A 75), .ref (A 6), .ref (A 7), .ref (A 8), .int M.2.2.2.2.2.1, .int 0])) := by rw [eg1]; exact xs_eq h0
  have fz1 : FrX (fun a => Z (ow a)) hp g1 := f1.mono (fun x _ e => by have e9 : x = A 0 := e; show Z (ow x); rw [e9, (how 0 (by decide)).1]; exact hzi _ (by omega))
  have n20 : ¬ A (20 + i) = A 0 := fun e => by have := ne _ _ (by omega) (by omega) e; omega
  have n28 : ¬ A (28 + i) = A 0 := fun e => by have := ne _ _ (by omega) (by omega) e; omega
  have hz1 := f1.ob a1' (by decide) n20
  have ht1 := f1.2.2.1 _ _ a3 rfl (Or.inl n28)
  have hW1 : hSc g1 A := by
    obtain ⟨w9, w1, w2, w3⟩ := hW
    refine ⟨w9, w1, w2, fun h c hc => ?_⟩
    have hl9 := (List.getElem?_eq_some_iff.mp hc).1
    rw [wGen_len] at hl9
    rw [eg1]
    exact xs_ne (fun e => by have := ne _ _ (by omega) (by omega) e; omega) (w3 h c hc)
  have hl1 : g1.length = hp.length := by rw [eg1, List.length_set]
  obtain ⟨stf, hst0⟩ : ∃ fs, g1[A 60]? = some (.inr (12, fs)) := by
    obtain ⟨w9, w1, w2, w3⟩ := hW1
    exact ⟨_, w3 0 _ rfl⟩
  refine At.go (q := xm40) rfl 1 (pc' := 12) (L' := [(2, .ref (A (20 + i))), (0, .ref (A 0)), (1, .int (Int32.ofNat i))]) (st' := [.ref (A 0)]) rfl ?_
  refine At.gf rfl (by decide) hH1 rfl ?_
  refine At.go (q := xm40) rfl 1 (pc' := 16) (L' := [(2, .ref (A (20 + i))), (0, .ref (A 0)), (1, .int (Int32.ofNat i))]) (st' := [.ref (A (20 + i)), .ref (A 60)]) rfl ?_
  refine At.gf rfl (by decide) hz1 rfl ?_
  refine At.go (q := xm40) rfl 1 (pc' := 20) (L' := [(2, .ref (A (20 + i))), (0, .ref (A 0)), (1, .int (Int32.ofNat i))]) (st' := [.ref (A (20 + i)), .ref (A (28 + i)), .ref (A 60)]) rfl ?_
  refine At.gf rfl (by decide) hz1 rfl ?_
  refine At.clm (as := [.ref (A 60), .ref (A (28 + i)), .int (Int32.ofNat t.length)]) (rest := []) rfl (by decide) rfl (Nat.le_of_ble_eq_true rfl) (Nat.le_of_ble_eq_true rfl) (xrck_o (by decide) (by decide) hst0 (by decide)) (Nat.le_of_ble_eq_true rfl) (h_read hi ne (fun a ha => by rw [hl1]; exact hal a ha) hW1 ht1 a4 hE9 b1 b2 b4 (Nat.le_of_ble_eq_true b5) ht) (fun v9 g2 c2 s2 hv9 => ?_)
  obtain ⟨rfl, f2, rfl, rfl, ω, o1, o2, o3, o4⟩ := hv9
  have n2 : ∀ j, j < 77 → (j < 60 ∨ 74 < j) → ¬ ∃ h, h < 15 ∧ A (60 + h) = A j := fun j hj h1 ⟨h, hh, e⟩ => by have := ne _ _ (by omega) hj e; omega
  have hH2 := f2.ob hH1 (by decide) (n2 0 (by decide) (by omega))
  have hz2 := f2.ob hz1 (by decide) (n2 _ (by omega) (by omega))
  have hWR : WH A (fun h => A (60 + h)) σ ω (R.take 15) g2 := ⟨o2, fun n _ => rfl, fun h c hh hc => by
    rw [List.getElem?_take] at hc
    split at hc
    · rename_i h15; exact o4 h c h15 hc
    · cases hc⟩
  have eR : ∀ h c n, h < 15 → wcO (R.take 15) h c n = wcO R h c n := fun h c n hh => by unfold wcO; rw [List.getElem?_take, if_pos hh]
  have eF : ∀ h j, h < 15 → wfl (R.take 15) h j = wfl R h j := fun h j hh => by unfold wfl; rw [List.getElem?_take, if_pos hh]
  obtain ⟨sf, s1, s2, s3⟩ := wO_at hWR (h := 0) (by decide) (by rw [eR 0 _ _ (by decide)]; exact b7)
  obtain ⟨rfs, r1, r2, r3⟩ := wO_at hWR (h := 1) (by decide) (by rw [eR 1 _ _ (by decide)]; exact b8)
  have s30 := s3 0 (by decide)
  rw [eF 0 _ (by decide), wveq_s b9] at s30
  have r36 := r3 6 (by decide)
  rw [eF 1 _ (by decide), wveq_s b10] at r36
  have fz2 : FrX (fun a => Z (ow a)) g1 g2 := f2.mono (fun x _ e => by
    obtain ⟨h, hh, e⟩ := e
    show Z (ow x)
    rw [← e, (how (60 + h) (by omega)).1]; exact hzi _ (by omega))
  refine At.go (q := xm40) rfl 2 (pc' := 28) (L' := [(2, .ref (A (20 + i))), (0, .ref (A 0)), (1, .int (Int32.ofNat i))]) (st' := [.int 0, .ref (A (20 + i))]) rfl ?_
  refine At.pf rfl hz2 (Nat.le_of_ble_eq_true rfl) rfl ?_
  obtain ⟨g3, eg3⟩ : ∃ z, z = g2.set (A (20 + i)) (.inr (9, [.int (M.2.2.2.1 i).1, .ref (A (28 + i)), .int 0, .ref za, .int (Int32.ofNat (M.2.2.2.1 i).2.2.2.2.2.2.1.1), .int (Int32.ofNat (M.2.2.2.1 i).2.2.2.2.2.2.1.2.1), .int (M.2.2.2.1 i).2.1, .int (bI (M.2.2.2.1 i).2.2.1), .ref (A (36 + i)), .ref (A (52 + i)), .int (Int32.ofNat (M.2.2.2.1 i).2.2.2.2.2.1)])) := ⟨_, rfl⟩
  refine At.hpe eg3 ?_
  have f3 : FrX (fun x => x = A (20 + i)) g2 g3 := by rw [eg3]; exact FrX.so hz2 (by decide) rfl (by decide)
  have hz3 : g3[A (20 + i)]? = some (.inr (9, [.int (M.2.2.2.1 i).1, .ref (A (28 + i)), .int 0, .ref za, .int (Int32.ofNat (M.2.2.2.1 i).2.2.2.2.2.2.1.1), .int (Int32.ofNat (M.2.2.2.1 i).2.2.2.2.2.2.1.2.1), .int (M.2.2.2.1 i).2.1, .int (bI (M.2.2.2.1 i).2.2.1), .ref (A (36 + i)), .ref (A (52 + i)), .int (Int32.ofNat (M.2.2.2.1 i).2.2.2.2.2.1)])) := by rw [eg3]; exact xs_eq hz2
  have n3 : ∀ j, j < 77 → j ≠ 20 + i → ¬ A j = A (20 + i) := fun j hj hn e => hn (ne _ _ hj (by omega) e)
  have hH3 := f3.ob hH2 (by decide) (n3 0 (by decide) (by omega))
  have k1 := f3.ob s1 (by decide) (n3 60 (by decide) (by omega))
  have k2 := f3.ob r1 (by decide) (n3 61 (by decide) (by omega))
  have fz3 : FrX (fun a => Z (ow a)) g2 g3 := f3.mono (fun x _ e => by have e9 : x = A (20 + i) := e; show Z (ow x); rw [e9, (how _ (by omega)).1]; exact hzi _ (by omega))
  have FT3 : FrX (fun a => Z (ow a)) hp g3 := FrX.tr (FrX.tr fz1 fz2 (fun x hx => Or.inl hx)) fz3 (fun x hx => Or.inl hx)
  have o33 : ∀ (h : Nat) (c : WC), 15 ≤ h → wGen[h]? = some c → g3[A (60 + h)]? = some (wtc (fun h => A (60 + h)) σ ω c) := fun h c hh hc => by
    have hl9 := (List.getElem?_eq_some_iff.mp hc).1
    rw [wGen_len] at hl9
    rw [eg3]
    exact xs_ne (fun e => n3 (60 + h) (by omega) (by omega) e.symm) (o3 h c hh hc)
  have o43 : ∀ (h : Nat) (c : WC), h < 15 → R[h]? = some c → g3[A (60 + h)]? = some (wtc (fun h => A (60 + h)) σ ω c) := fun h c hh hc => by
    rw [eg3]
    exact xs_ne (fun e => n3 (60 + h) (by omega) (by omega) e.symm) (o4 h c hh hc)
  have hll3 : ∀ j, j < 77 → ow (A j) = k + j ∧ A j < g3.length := fun j hj => ⟨(how j hj).1, Nat.lt_of_lt_of_le (how j hj).2 FT3.1⟩
  have hD3 : hLs g3 (A 2) M.1 := FT3.ls (nz (how 2 (by decide)).1 (fun z => by have z9 := hz _ z; omega)) hO hD
  have hTq3 : ∀ q ∈ M.2.2.2.2.2.2, hTq g3 ow k q := fun q hq => (hTq9 q hq).fr FT3 (fun _ _ => rfl) (fun z => by have z9 := hz _ z; omega) (fun z => by have z9 := hz _ z; omega) (fun z => by have z9 := hz _ z; omega) (fun z => by have z9 := hz _ z; omega)
  obtain ⟨ta, ω', hBT, hHb, hta⟩ := hBT g3 ω o1 hD3 hTq3 hll3
  obtain ⟨q1, q2, q3, q4, q5, q6, q7, q8, q9, q10, q11⟩ := hBT
  have hTn3 : hTn g3 M.1 (tsM M) := by
    refine ⟨by unfold tsM; rw [List.length_map], fun j a q hj hq => ?_⟩
    unfold tsM at hq
    rw [List.getElem?_map, hj] at hq
    cases hq
    obtain ⟨tf, htf⟩ := h.std hStd (List.mem_of_getElem? hj)
    obtain ⟨v8, hv8⟩ := FT3.2.2.2.2.1 _ _ htf
    exact ⟨_, _, hv8⟩
  obtain ⟨mfs, hmf⟩ : ∃ fs, g3[A 75]? = some (.inr (6, fs)) := ⟨_, o33 15 _ (by decide) rfl⟩
  rw [hlab] at hz3
  refine At.go (q := xm40) rfl 1 (pc' := 32) (L' := [(2, .ref (A (20 + i))), (0, .ref (A 0)), (1, .int (Int32.ofNat i))]) (st' := [.ref (A 0)]) rfl ?_
  refine At.gf rfl (by decide) hH3 rfl ?_
  refine At.gf rfl (by decide) k1 s30 ?_
  refine At.gf rfl (by decide) k2 r36 ?_
  refine At.go (q := xm40) rfl 2 (pc' := 43) (L' := [(3, .int (Int32.ofNat 4294967295)), (2, .ref (A (20 + i))), (0, .ref (A 0)), (1, .int (Int32.ofNat i))]) (st' := [.int (Int32.ofNat 4294967295)]) rfl ?_
  refine At.ic1 (tgt := 66) rfl rfl (fun h => absurd (h.symm.trans (show decide ((0 : Int32) ≤ Int32.ofNat 4294967295) = false by decide)) (by decide)) (fun _ => ?_)
  refine At.go (q := xm40) rfl 1 (pc' := 47) (L' := [(3, .int (Int32.ofNat 4294967295)), (2, .ref (A (20 + i))), (0, .ref (A 0)), (1, .int (Int32.ofNat i))]) (st' := [.ref (A 0)]) rfl ?_
  refine At.gf rfl (by decide) hH3 rfl ?_
  refine At.go (q := xm40) rfl 1 (pc' := 51) (L' := [(3, .int (Int32.ofNat 4294967295)), (2, .ref (A (20 + i))), (0, .ref (A 0)), (1, .int (Int32.ofNat i))]) (st' := [.ref (A 0), .ref (A 75)]) rfl ?_
  refine At.gf rfl (by decide) hH3 rfl ?_
  refine At.go (q := xm40) rfl 1 (pc' := 55) (L' := [(3, .int (Int32.ofNat 4294967295)), (2, .ref (A (20 + i))), (0, .ref (A 0)), (1, .int (Int32.ofNat i))]) (st' := [.ref (A 0), .ref (A 60), .ref (A 75)]) rfl ?_
  refine At.gf rfl (by decide) hH3 rfl ?_
  refine At.go (q := xm40) rfl 1 (pc' := 59) (L' := [(3, .int (Int32.ofNat 4294967295)), (2, .ref (A (20 + i))), (0, .ref (A 0)), (1, .int (Int32.ofNat i))]) (st' := [.ref (A (20 + i)), .ref (A 2), .ref (A 60), .ref (A 75)]) rfl ?_
  refine At.gf rfl (by decide) hz3 rfl ?_
  refine At.clm (as := [.ref (A 75), .ref (A 60), .ref (A 2), .int (Int32.ofNat (wg [0, 1, 16, 17] (σ 10)))]) (rest := []) rfl (by decide) rfl (Nat.le_of_ble_eq_true rfl) (Nat.le_of_ble_eq_true rfl) (xrck_o (by decide) (by decide) hmf (by decide)) (Nat.le_of_ble_eq_true rfl) (h_bind (R := R) hE2 hB2 b2 b3 (Nat.le_of_ble_eq_true b6) ne (fun a ha => (hll3 a ha).2) q1 q2 q3 q4 (fun j _ hj => q5 j hj) o33 o43 q6 q7 q8 hD3 hTn3 q9 q10 q11 hHb) (fun v9 g4 c4 s4 hv9 => ?_)
  obtain ⟨rfl, f4, rfl, rfl, o5⟩ := hv9
  have n4 : ∀ j, j < 77 → j < 60 → ¬ ∃ h, h < 17 ∧ A (60 + h) = A j := fun j hj h1 ⟨h, hh, e⟩ => by have := ne _ _ (by omega) hj e; omega
  have fz4 : FrX (fun a => Z (ow a)) g3 g4 := f4.mono (fun x _ e => by
    obtain ⟨h, hh, e⟩ := e
    show Z (ow x)
    rw [← e, (how (60 + h) (by omega)).1]; exact hzi _ (by omega))
  have FT4 : FrX (fun a => Z (ow a)) hp g4 := FrX.tr FT3 fz4 (fun x hx => Or.inl hx)
  have hH4 := f4.ob hH3 (by decide) (n4 0 (by decide) (by decide))
  have hz4 := f4.ob hz3 (by decide) (n4 _ (by omega) (by omega))
  have hWH : WH A (rhoB A ta T.length g3.length) σ ω' W g4 := ⟨fun j hj => by
    have hj9 : j < 910010 := by
      unfold wIid at hj
      simp only [Bool.or_eq_true, Bool.and_eq_true] at hj
      rcases hj with ((hj | hj) | hj) | hj <;> (have := Nat.le_of_ble_eq_true hj.2; omega)
    rw [← q5 j hj9]; exact o2 j hj, fun n hn => if_pos hn, o5⟩
  have hS4 := wsm_s q4 hWH hsm
  refine At.go (q := xm40) rfl 1 (pc' := 66) (L' := [(3, .int (Int32.ofNat rn)), (2, .ref (A (20 + i))), (0, .ref (A 0)), (1, .int (Int32.ofNat i))]) (st' := []) rfl ?_
  have hR : HR g4 ow k A (M1l M i) 0 np nl := h.upd (Z := Z) FT4 (fun _ _ => rfl) (fun z => by have z9 := hz _ z; omega) (fun z => by have z9 := hz _ z; omega) (Or.inr hH4) (Or.inl ⟨(fun z => by have z9 := hz _ z; omega), rfl⟩) (Or.inl ⟨(fun z => by have z9 := hz _ z; omega), rfl⟩) (Or.inl ⟨(fun z => by have z9 := hz _ z; omega), rfl⟩) (Or.inl ⟨(fun z => by have z9 := hz _ z; omega), rfl⟩) (Or.inl (fun z => by have z9 := hz _ z; omega)) (Or.inl ⟨(fun z => by have z9 := hz _ z; omega), (fun z => by have z9 := hz _ z; omega), (fun z => by have z9 := hz _ z; omega)⟩) (fun j hj => Or.inl (fun z => by simp only [List.mem_cons, List.not_mem_nil, or_false] at hj; have z9 := hz _ z; omega)) (Or.inl ⟨(fun z => by have z9 := hz _ z; omega), (fun z => by have z9 := hz _ z; omega), (fun z => by have z9 := hz _ z; omega), (fun z => by have z9 := hz _ z; omega), rfl, rfl⟩) (Or.inr hS4) (fun j hj => if e : j = i then by subst e; exact Or.inr (by rw [show (M1l M j).2.2.2.1 j = sLen (M.2.2.2.1 j) 0 from if_pos rfl]; exact ⟨za, ab, (by have u := hz4; rw [← hlab] at u; exact u), FT4.ob a2 (by decide) (nz (how _ (by omega)).1 (fun z => by have z9 := hz _ z; omega)), FT4.2.2.1 _ _ a3 rfl (Or.inl (nz (how _ (by omega)).1 (fun z => by have z9 := hz _ z; omega))), a4, Nat.zero_le _, FT4.2.2.1 _ _ a6 rfl (Or.inl (nz a12 (fun z => by have z9 := hz _ z; omega))), a7, a8, a9, a10, a11, a12, a13.fr FT4 hO (nz (how _ (by omega)).1 (fun z => by have z9 := hz _ z; omega)), a14.fr FT4 hO (nz (how _ (by omega)).1 (fun z => by have z9 := hz _ z; omega))⟩) else Or.inl ⟨(fun z => by have z9 := hz _ z; omega), (fun z => by have z9 := hz _ z; omega), (fun z => by have z9 := hz _ z; omega), (fun z => by have z9 := hz _ z; omega), (fun z => by have z9 := hz _ z; omega), (fun z => by have z9 := hz _ z; omega), mS_ne e⟩) (Or.inl ⟨(fun z => by have z9 := hz _ z; omega), (fun z => by have z9 := hz _ z; omega), (fun z => by have z9 := hz _ z; omega), (fun z => by have z9 := hz _ z; omega), rfl⟩) (fun j hj => Or.inl (fun z => by have j9 := lsI_c j hj; have z9 := hz _ z; omega))
  have ec := h.caps FT4 [] (List.nil_sublist _) (fun j z hj => by have j9 := lsI_c j hj; have z9 := hz _ z; omega)
  simp only [sumL, List.map_nil, List.sum_nil, Nat.zero_add] at ec
  refine At.wk (L' := [(3, .int (Int32.ofNat rn)), (2, .ref (A (20 + i))), (0, .ref (A 0))]) (List.forall_mem_cons.mpr ⟨List.mem_of_getElem? (i := 0) rfl, (List.forall_mem_cons.mpr ⟨List.mem_of_getElem? (i := 1) rfl, (List.forall_mem_cons.mpr ⟨List.mem_of_getElem? (i := 2) rfl, (fun _ h => (List.not_mem_nil h).elim)⟩)⟩)⟩) (show ([3, 2, 0, 1] : List Nat).Nodup by decide) ?_
  exact hK g4 _ _ ta hR q4 rfl hWH hta (fun m hm => by unfold rhoB; rw [if_neg (by omega), if_neg (by omega), if_pos (by omega), show 18 + m - 18 = m by omega]) (FT4.mono (fun x _ hx => hzk _ hx)) ec
theorem h_runR {S : List Int32} {hp : List XC} {ow : Nat → Nat} {k : Nat} {A : Nat → Nat} {M : HM} {rf : Int32} {np nl : Nat} (h : HR hp ow k A M rf np nl) {i f : Nat} (hi : i < 8) {t : List WV} {R : List WC} {σ : Nat → Nat} {Q : XO → Prop} (hE9 : wrdE t R = true) (hr9 : wrB t R f = true) (ht : ((M.2.2.2.1 i).2.2.2.2.2.2.2.2.take t.length).map Value.int = wtT σ t) (hlen : (M.2.2.2.1 i).2.2.2.2.2.2.2.1 = t.length) (hf0 : (0 : Int32) ≤ Int32.ofNat f) (hsm : wsmB (R.take 15 ++ wGen.drop 15) = true) (hK : ∀ (h4 : List XC), HR h4 ow k A (M1l M i) 0 np nl → FrX (fun a => k ≤ ow a ∧ ow a < k + 1000) hp h4 → capsH h4 A = capsH hp A → At S 12 40 66 [(3, .int (Int32.ofNat f)), (2, .ref (A (20 + i))), (0, .ref (A 0))] [] h4 0 0 Q) : At S 12 40 0 [(0, .ref (A 0)), (1, .int (Int32.ofNat i))] [] hp 0 0 Q := by
  obtain ⟨hO, how, h0, h1, h3, hD, hF, hE, hT, ⟨lv9, hG⟩, hC, hL9, hQ, hW, hS, hTq9, htd, hcap⟩ := id h
  obtain ⟨za, ab, a1, a2, a3, a4, a5, a6, a7, a8, a9, a10, a11, a12, a13, a14⟩ := hS i hi
  have hT2 := hT.2
  unfold wrB at hr9
  simp only [Bool.and_eq_true] at hr9
  obtain ⟨b1, b2, b3, b4, b5, b6, b7, b8, b9, b10⟩ := hr9
  have ne : ∀ a b, a < 77 → b < 77 → A a = A b → a = b := fun a b ha hb e => by have u := (how a ha).1; rw [e, (how b hb).1] at u; omega
  have hal : ∀ a, a < 77 → A a < hp.length := fun a ha => (how a ha).2
  obtain ⟨Z, hZ⟩ : ∃ Z : Nat → Prop, Z = fun n => n = k + 0 ∨ (k + 60 ≤ n ∧ n < k + 77) ∨ n = k + (20 + i) := ⟨_, rfl⟩
  have hz : ∀ n, Z n → n = k + 0 ∨ (k + 60 ≤ n ∧ n < k + 77) ∨ n = k + (20 + i) := fun n z9 => by rw [hZ] at z9; exact z9
  have hzi : ∀ n, (n = k + 0 ∨ (k + 60 ≤ n ∧ n < k + 77) ∨ n = k + (20 + i)) → Z n := fun n z9 => by rw [hZ]; exact z9
  have hzk : ∀ n, Z n → k ≤ n ∧ n < k + 1000 := fun n z => by have z9 := hz n z; omega
  have a1' := a1
  rw [hlen] at a1'
  refine At.go (q := xm40) rfl 2 (pc' := 2) (L' := [(0, .ref (A 0)), (1, .int (Int32.ofNat i))]) (st' := [.int (Int32.ofNat i), .ref (A 0)]) rfl ?_
  refine At.clp (as := [.ref (A 0), .int (Int32.ofNat i)]) (rest := []) rfl (by decide) rfl (Nat.le_of_ble_eq_true rfl) (Nat.le_of_ble_eq_true rfl) (xrck_o (by decide) (by decide) h0 (by decide)) (Nat.le_of_ble_eq_true rfl) (m_sessionOf h0 rfl h1 (by rw [List.length_map, List.length_range]; decide) (by rw [List.getElem?_map, List.getElem?_range hi]; rfl)) ?_
  refine At.go (q := xm40) rfl 3 (pc' := 8) (L' := [(2, .ref (A (20 + i))), (0, .ref (A 0)), (1, .int (Int32.ofNat i))]) (st' := [.int 0, .ref (A 0)]) rfl ?_
  refine At.pf rfl h0 (Nat.le_of_ble_eq_true rfl) rfl ?_
  obtain ⟨g1, eg1⟩ : ∃ z, z = hp.set (A 0) (.inr (14, [.ref (A 1), .ref (A 2), .ref (A 3), .ref (A 4), .ref (A 5), .ref (A 60), .ref (A 75), .ref (A 6), .ref (A 7), .ref (A 8), .int M.2.2.2.2.2.1, .int 0])) := ⟨_, rfl⟩
  refine At.hpe eg1 ?_
  have f1 : FrX (fun x => x = A 0) hp g1 := by rw [eg1]; exact FrX.so h0 (by decide) rfl (by decide)
  have hH1 : g1[A 0]? = some (.inr (14, [.ref (A 1), .ref (A 2), .ref (A 3), .ref (A 4), .ref (A 5), .ref (A 60), .ref (A 75), .ref (A 6), .ref (A 7), .ref (A 8), .int M.2.2.2.2.2.1, .int 0])) := by rw [eg1]; exact xs_eq h0
  have fz1 : FrX (fun a => Z (ow a)) hp g1 := f1.mono (fun x _ e => by have e9 : x = A 0 := e; show Z (ow x); rw [e9, (how 0 (by decide)).1]; exact hzi _ (by omega))
  have n20 : ¬ A (20 + i) = A 0 := fun e => by have := ne _ _ (by omega) (by omega) e; omega
  have n28 : ¬ A (28 + i) = A 0 := fun e => by have := ne _ _ (by omega) (by omega) e; omega
  have hz1 := f1.ob a1' (by decide) n20
  have ht1 := f1.2.2.1 _ _ a3 rfl (Or.inl n28)
  have hW1 : hSc g1 A := by
    obtain ⟨w9, w1, w2, w3⟩ := hW
    refine ⟨w9, w1, w2, fun h c hc => ?_⟩
    have hl9 := (List.getElem?_eq_some_iff.mp hc).1
    rw [wGen_len] at hl9
    rw [eg1]
    exact xs_ne (fun e => by have := ne _ _ (by omega) (by omega) e; omega) (w3 h c hc)
  have hl1 : g1.length = hp.length := by rw [eg1, List.length_set]
  obtain ⟨stf, hst0⟩ : ∃ fs, g1[A 60]? = some (.inr (12, fs)) := by
    obtain ⟨w9, w1, w2, w3⟩ := hW1
    exact ⟨_, w3 0 _ rfl⟩
  refine At.go (q := xm40) rfl 1 (pc' := 12) (L' := [(2, .ref (A (20 + i))), (0, .ref (A 0)), (1, .int (Int32.ofNat i))]) (st' := [.ref (A 0)]) rfl ?_
  refine At.gf rfl (by decide) hH1 rfl ?_
  refine At.go (q := xm40) rfl 1 (pc' := 16) (L' := [(2, .ref (A (20 + i))), (0, .ref (A 0)), (1, .int (Int32.ofNat i))]) (st' := [.ref (A (20 + i)), .ref (A 60)]) rfl ?_
  refine At.gf rfl (by decide) hz1 rfl ?_
  refine At.go (q := xm40) rfl 1 (pc' := 20) (L' := [(2, .ref (A (20 + i))), (0, .ref (A 0)), (1, .int (Int32.ofNat i))]) (st' := [.ref (A (20 + i)), .ref (A (28 + i)), .ref (A 60)]) rfl ?_
  refine At.gf rfl (by decide) hz1 rfl ?_
  refine At.clm (as := [.ref (A 60), .ref (A (28 + i)), .int (Int32.ofNat t.length)]) (rest := []) rfl (by decide) rfl (Nat.le_of_ble_eq_true rfl) (Nat.le_of_ble_eq_true rfl) (xrck_o (by decide) (by decide) hst0 (by decide)) (Nat.le_of_ble_eq_true rfl) (h_read hi ne (fun a ha => by rw [hl1]; exact hal a ha) hW1 ht1 a4 hE9 b1 b2 b4 (Nat.le_of_ble_eq_true b5) ht) (fun v9 g2 c2 s2 hv9 => ?_)
  obtain ⟨rfl, f2, rfl, rfl, ω, o1, o2, o3, o4⟩ := hv9
  have n2 : ∀ j, j < 77 → (j < 60 ∨ 74 < j) → ¬ ∃ h, h < 15 ∧ A (60 + h) = A j := fun j hj h1 ⟨h, hh, e⟩ => by have := ne _ _ (by omega) hj e; omega
  have hH2 := f2.ob hH1 (by decide) (n2 0 (by decide) (by omega))
  have hz2 := f2.ob hz1 (by decide) (n2 _ (by omega) (by omega))
  have hWR : WH A (fun h => A (60 + h)) σ ω (R.take 15) g2 := ⟨o2, fun n _ => rfl, fun h c hh hc => by
    rw [List.getElem?_take] at hc
    split at hc
    · rename_i h15; exact o4 h c h15 hc
    · cases hc⟩
  have eR : ∀ h c n, h < 15 → wcO (R.take 15) h c n = wcO R h c n := fun h c n hh => by unfold wcO; rw [List.getElem?_take, if_pos hh]
  have eF : ∀ h j, h < 15 → wfl (R.take 15) h j = wfl R h j := fun h j hh => by unfold wfl; rw [List.getElem?_take, if_pos hh]
  obtain ⟨sf, s1, s2, s3⟩ := wO_at hWR (h := 0) (by decide) (by rw [eR 0 _ _ (by decide)]; exact b7)
  obtain ⟨rfs, r1, r2, r3⟩ := wO_at hWR (h := 1) (by decide) (by rw [eR 1 _ _ (by decide)]; exact b8)
  have s30 := s3 0 (by decide)
  rw [eF 0 _ (by decide), wveq_s b9] at s30
  have r36 := r3 6 (by decide)
  rw [eF 1 _ (by decide), wveq_s b10] at r36
  have fz2 : FrX (fun a => Z (ow a)) g1 g2 := f2.mono (fun x _ e => by
    obtain ⟨h, hh, e⟩ := e
    show Z (ow x)
    rw [← e, (how (60 + h) (by omega)).1]; exact hzi _ (by omega))
  refine At.go (q := xm40) rfl 2 (pc' := 28) (L' := [(2, .ref (A (20 + i))), (0, .ref (A 0)), (1, .int (Int32.ofNat i))]) (st' := [.int 0, .ref (A (20 + i))]) rfl ?_
  refine At.pf rfl hz2 (Nat.le_of_ble_eq_true rfl) rfl ?_
  obtain ⟨g3, eg3⟩ : ∃ z, z = g2.set (A (20 + i)) (.inr (9, [.int (M.2.2.2.1 i).1, .ref (A (28 + i)), .int 0, .ref za, .int (Int32.ofNat (M.2.2.2.1 i).2.2.2.2.2.2.1.1), .int (Int32.ofNat (M.2.2.2.1 i).2.2.2.2.2.2.1.2.1), .int (M.2.2.2.1 i).2.1, .int (bI (M.2.2.2.1 i).2.2.1), .ref (A (36 + i)), .ref (A (52 + i)), .int (Int32.ofNat (M.2.2.2.1 i).2.2.2.2.2.1)])) := ⟨_, rfl⟩
  refine At.hpe eg3 ?_
  have f3 : FrX (fun x => x = A (20 + i)) g2 g3 := by rw [eg3]; exact FrX.so hz2 (by decide) rfl (by decide)
  have hz3 : g3[A (20 + i)]? = some (.inr (9, [.int (M.2.2.2.1 i).1, .ref (A (28 + i)), .int 0, .ref za, .int (Int32.ofNat (M.2.2.2.1 i).2.2.2.2.2.2.1.1), .int (Int32.ofNat (M.2.2.2.1 i).2.2.2.2.2.2.1.2.1), .int (M.2.2.2.1 i).2.1, .int (bI (M.2.2.2.1 i).2.2.1), .ref (A (36 + i)), .ref (A (52 + i)), .int (Int32.ofNat (M.2.2.2.1 i).2.2.2.2.2.1)])) := by rw [eg3]; exact xs_eq hz2
  have n3 : ∀ j, j < 77 → j ≠ 20 + i → ¬ A j = A (20 + i) := fun j hj hn e => hn (ne _ _ hj (by omega) e)
  have hH3 := f3.ob hH2 (by decide) (n3 0 (by decide) (by omega))
  have k1 := f3.ob s1 (by decide) (n3 60 (by decide) (by omega))
  have k2 := f3.ob r1 (by decide) (n3 61 (by decide) (by omega))
  have fz3 : FrX (fun a => Z (ow a)) g2 g3 := f3.mono (fun x _ e => by have e9 : x = A (20 + i) := e; show Z (ow x); rw [e9, (how _ (by omega)).1]; exact hzi _ (by omega))
  have FT3 : FrX (fun a => Z (ow a)) hp g3 := FrX.tr (FrX.tr fz1 fz2 (fun x hx => Or.inl hx)) fz3 (fun x hx => Or.inl hx)
  have o33 : ∀ (h : Nat) (c : WC), 15 ≤ h → wGen[h]? = some c → g3[A (60 + h)]? = some (wtc (fun h => A (60 + h)) σ ω c) := fun h c hh hc => by
    have hl9 := (List.getElem?_eq_some_iff.mp hc).1
    rw [wGen_len] at hl9
    rw [eg3]
    exact xs_ne (fun e => n3 (60 + h) (by omega) (by omega) e.symm) (o3 h c hh hc)
  have o43 : ∀ (h : Nat) (c : WC), h < 15 → R[h]? = some c → g3[A (60 + h)]? = some (wtc (fun h => A (60 + h)) σ ω c) := fun h c hh hc => by
    rw [eg3]
    exact xs_ne (fun e => n3 (60 + h) (by omega) (by omega) e.symm) (o4 h c hh hc)
  refine At.go (q := xm40) rfl 1 (pc' := 32) (L' := [(2, .ref (A (20 + i))), (0, .ref (A 0)), (1, .int (Int32.ofNat i))]) (st' := [.ref (A 0)]) rfl ?_
  refine At.gf rfl (by decide) hH3 rfl ?_
  refine At.gf rfl (by decide) k1 s30 ?_
  refine At.gf rfl (by decide) k2 r36 ?_
  refine At.go (q := xm40) rfl 2 (pc' := 43) (L' := [(3, .int (Int32.ofNat f)), (2, .ref (A (20 + i))), (0, .ref (A 0)), (1, .int (Int32.ofNat i))]) (st' := [.int (Int32.ofNat f)]) rfl ?_
  refine At.ic1 (tgt := 66) rfl rfl (fun _ => ?_) (fun h => absurd (h.symm.trans (decide_eq_true hf0)) (by decide))
  have hWH : WH A (fun h => A (60 + h)) σ ω (R.take 15 ++ wGen.drop 15) g3 := ⟨o2, fun n _ => rfl, fun h c hh hc => by
    have htk : (R.take 15).length = 15 := by rw [List.length_take]; have := Nat.le_of_ble_eq_true b6; omega
    by_cases h15 : h < 15
    · rw [List.getElem?_append_left (by omega), List.getElem?_take, if_pos h15] at hc; exact o43 h c h15 hc
    · rw [List.getElem?_append_right (by omega), htk, List.getElem?_drop, show 15 + (h - 15) = h by omega] at hc; exact o33 h c (by omega) hc⟩
  have hS3 := wsm_s o1 hWH hsm
  have hR : HR g3 ow k A (M1l M i) 0 np nl := h.upd (Z := Z) FT3 (fun _ _ => rfl) (fun z => by have z9 := hz _ z; omega) (fun z => by have z9 := hz _ z; omega) (Or.inr hH3) (Or.inl ⟨(fun z => by have z9 := hz _ z; omega), rfl⟩) (Or.inl ⟨(fun z => by have z9 := hz _ z; omega), rfl⟩) (Or.inl ⟨(fun z => by have z9 := hz _ z; omega), rfl⟩) (Or.inl ⟨(fun z => by have z9 := hz _ z; omega), rfl⟩) (Or.inl (fun z => by have z9 := hz _ z; omega)) (Or.inl ⟨(fun z => by have z9 := hz _ z; omega), (fun z => by have z9 := hz _ z; omega), (fun z => by have z9 := hz _ z; omega)⟩) (fun j hj => Or.inl (fun z => by simp only [List.mem_cons, List.not_mem_nil, or_false] at hj; have z9 := hz _ z; omega)) (Or.inl ⟨(fun z => by have z9 := hz _ z; omega), (fun z => by have z9 := hz _ z; omega), (fun z => by have z9 := hz _ z; omega), (fun z => by have z9 := hz _ z; omega), rfl, rfl⟩) (Or.inr hS3) (fun j hj => if e : j = i then by subst e; exact Or.inr (by rw [show (M1l M j).2.2.2.1 j = sLen (M.2.2.2.1 j) 0 from if_pos rfl]; exact ⟨za, ab, (by have u := hz3; skip; exact u), FT3.ob a2 (by decide) (nz (how _ (by omega)).1 (fun z => by have z9 := hz _ z; omega)), FT3.2.2.1 _ _ a3 rfl (Or.inl (nz (how _ (by omega)).1 (fun z => by have z9 := hz _ z; omega))), a4, Nat.zero_le _, FT3.2.2.1 _ _ a6 rfl (Or.inl (nz a12 (fun z => by have z9 := hz _ z; omega))), a7, a8, a9, a10, a11, a12, a13.fr FT3 hO (nz (how _ (by omega)).1 (fun z => by have z9 := hz _ z; omega)), a14.fr FT3 hO (nz (how _ (by omega)).1 (fun z => by have z9 := hz _ z; omega))⟩) else Or.inl ⟨(fun z => by have z9 := hz _ z; omega), (fun z => by have z9 := hz _ z; omega), (fun z => by have z9 := hz _ z; omega), (fun z => by have z9 := hz _ z; omega), (fun z => by have z9 := hz _ z; omega), (fun z => by have z9 := hz _ z; omega), mS_ne e⟩) (Or.inl ⟨(fun z => by have z9 := hz _ z; omega), (fun z => by have z9 := hz _ z; omega), (fun z => by have z9 := hz _ z; omega), (fun z => by have z9 := hz _ z; omega), rfl⟩) (fun j hj => Or.inl (fun z => by have j9 := lsI_c j hj; have z9 := hz _ z; omega))
  have ec := h.caps FT3 [] (List.nil_sublist _) (fun j z hj => by have j9 := lsI_c j hj; have z9 := hz _ z; omega)
  simp only [sumL, List.map_nil, List.sum_nil, Nat.zero_add] at ec
  refine At.wk (L' := [(3, .int (Int32.ofNat f)), (2, .ref (A (20 + i))), (0, .ref (A 0))]) (List.forall_mem_cons.mpr ⟨List.mem_of_getElem? (i := 0) rfl, (List.forall_mem_cons.mpr ⟨List.mem_of_getElem? (i := 1) rfl, (List.forall_mem_cons.mpr ⟨List.mem_of_getElem? (i := 2) rfl, (fun _ h => (List.not_mem_nil h).elim)⟩)⟩)⟩) (show ([3, 2, 0, 1] : List Nat).Nodup by decide) ?_
  exact hK g3 hR (FT3.mono (fun x _ hx => hzk _ hx)) ec
