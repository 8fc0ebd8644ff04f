/-! the house: makeTable (written by wip/p27/c9999999995.py) -/
def mMade (M : HM) (n : Int32) : HM := (M.1, M.2.1, M.2.2.1, M.2.2.2.1, M.2.2.2.2.1, n, M.2.2.2.2.2.2)
theorem HSu.made {hp : List XC} {ow : Nat → Nat} {k : Nat} {A : Nat → Nat} {M : HM} {np nl : Nat} {rf n : Int32} {hp' : List XC} (h : HR hp ow k A M rf np nl) (e : hp' = hp.set (A 0) (.inr (14, [.ref (A 1), .ref (A 2), .ref (A 3), .ref (A 4), .ref (A 5), .ref (A 60), .ref (A 75), .ref (A 6), .ref (A 7), .ref (A 8), .int n, .int rf]))) : HSu hp hp' ow k A (mMade M n) rf np nl 0 0 0 0 ∧ FrX (fun x => x = A 0) hp hp' := by
  obtain ⟨hO, how, h0, h1, h3, hD, hF, hE, hT, ⟨lv9, hG⟩, hC, hL9, hQ, hW, hS, hTq9, htd, hcap⟩ := id h
  have f : FrX (fun x => x = A 0) hp hp' := by rw [e]; exact FrX.so h0 (by decide) rfl (by decide)
  obtain ⟨Z, hZ⟩ : ∃ Z : Nat → Prop, Z = fun n => n = k + 0 := ⟨_, rfl⟩
  have hz : ∀ n, Z n → n = k + 0 := fun n z9 => by rw [hZ] at z9; exact z9
  have hzi : ∀ n, (n = k + 0) → Z n := fun n z9 => by rw [hZ]; exact z9
  have hzk : ∀ n, Z n → k ≤ n ∧ n < k + 1000 := fun n z => by have z9 := hz n z; omega
  have f' : FrX (fun a => Z (ow a)) hp hp' := f.mono (fun x _ e => by
    have e9 : x = A 0 := e
    show Z (ow x)
    rw [e9, (how _ (by omega)).1]; exact hzi _ (by omega))
  exact ⟨HSu.of h f' hzk (h.upd (Z := Z) f' (fun _ _ => rfl) (fun z => by have z9 := hz _ z; omega) (fun z => by have z9 := hz _ z; omega) (Or.inr (by rw [e]; exact xs_eq h0)) (Or.inl ⟨(fun z => by have z9 := hz _ z; omega), rfl⟩) (Or.inl ⟨(fun z => by have z9 := hz _ z; omega), rfl⟩) (Or.inl ⟨(fun z => by have z9 := hz _ z; omega), rfl⟩) (Or.inl ⟨(fun z => by have z9 := hz _ z; omega), rfl⟩) (Or.inl (fun z => by have z9 := hz _ z; omega)) (Or.inl ⟨(fun z => by have z9 := hz _ z; omega), (fun z => by have z9 := hz _ z; omega), (fun z => by have z9 := hz _ z; omega)⟩) (fun j hj => Or.inl (fun z => by simp only [List.mem_cons, List.not_mem_nil, or_false] at hj; have z9 := hz _ z; omega)) (Or.inl ⟨(fun z => by have z9 := hz _ z; omega), (fun z => by have z9 := hz _ z; omega), (fun z => by have z9 := hz _ z; omega), (fun z => by have z9 := hz _ z; omega), rfl, rfl⟩) (Or.inl (fun j j1 j2 z => by have z9 := hz _ z; omega)) (fun j hj => Or.inl ⟨(fun z => by have z9 := hz _ z; omega), (fun z => by have z9 := hz _ z; omega), (fun z => by have z9 := hz _ z; omega), (fun z => by have z9 := hz _ z; omega), (fun z => by have z9 := hz _ z; omega), (fun z => by have z9 := hz _ z; omega), rfl⟩) (Or.inl ⟨(fun z => by have z9 := hz _ z; omega), (fun z => by have z9 := hz _ z; omega), (fun z => by have z9 := hz _ z; omega), (fun z => by have z9 := hz _ z; omega), rfl⟩) (fun j hj => Or.inl (fun z => by have j9 := lsI_c j hj; have z9 := hz _ z; omega))) [] (by decide) (fun j z hj => by have j9 := lsI_c j hj; have z9 := hz _ z; omega) (by simp only [sumL, List.map_nil, List.sum_nil]; omega) (by simp only [sumL, List.map_nil, List.sum_nil]; omega), f⟩
theorem HSu.ins {hp : List XC} {ow : Nat → Nat} {k : Nat} {A : Nat → Nat} {M : HM} {np nl : Nat} {rf : Int32} {hp' : List XC} {st : List Nat} {c s : Nat} (h : HR hp ow k A M rf np nl) (hR : RAdd hp (A 2) st hp' c s) (hl : st.length ≤ 3000) : HSu hp hp' ow k A (mStd M st) rf np nl c s 0 0 := by
  obtain ⟨hO, how, h0, h1, h3, hD, hF, hE, hT, ⟨lv9, hG⟩, hC, hL9, hQ, hW, hS, hTq9, htd, hcap⟩ := id h
  obtain ⟨f, g1, g2, g3, g4⟩ := hR
  obtain ⟨Z, hZ⟩ : ∃ Z : Nat → Prop, Z = fun n => n = k + 2 := ⟨_, rfl⟩
  have hz : ∀ n, Z n → n = k + 2 := fun n z9 => by rw [hZ] at z9; exact z9
  have hzi : ∀ n, (n = k + 2) → Z n := fun n z9 => by rw [hZ]; exact z9
  have hzk : ∀ n, Z n → k ≤ n ∧ n < k + 1000 := fun n z => by have z9 := hz n z; omega
  have f' : FrX (fun a => Z (ow a)) hp hp' := f.mono (fun x _ e => by
    have e9 : x = A 2 := e
    show Z (ow x)
    rw [e9, (how _ (by omega)).1]; exact hzi _ (by omega))
  have c2 := hcap 2 (by decide)
  exact HSu.of h f' hzk (h.upd (Z := Z) f' (fun _ _ => rfl) (fun z => by have z9 := hz _ z; omega) (fun z => by have z9 := hz _ z; omega) (Or.inl ⟨(fun z => by have z9 := hz _ z; omega), rfl, rfl⟩) (Or.inr g1) (Or.inl ⟨(fun z => by have z9 := hz _ z; omega), rfl⟩) (Or.inl ⟨(fun z => by have z9 := hz _ z; omega), rfl⟩) (Or.inl ⟨(fun z => by have z9 := hz _ z; omega), rfl⟩) (Or.inl (fun z => by have z9 := hz _ z; omega)) (Or.inl ⟨(fun z => by have z9 := hz _ z; omega), (fun z => by have z9 := hz _ z; omega), (fun z => by have z9 := hz _ z; omega)⟩) (fun j hj => Or.inl (fun z => by simp only [List.mem_cons, List.not_mem_nil, or_false] at hj; have z9 := hz _ z; omega)) (Or.inl ⟨(fun z => by have z9 := hz _ z; omega), (fun z => by have z9 := hz _ z; omega), (fun z => by have z9 := hz _ z; omega), (fun z => by have z9 := hz _ z; omega), rfl, rfl⟩) (Or.inl (fun j j1 j2 z => by have z9 := hz _ z; omega)) (fun j hj => Or.inl ⟨(fun z => by have z9 := hz _ z; omega), (fun z => by have z9 := hz _ z; omega), (fun z => by have z9 := hz _ z; omega), (fun z => by have z9 := hz _ z; omega), (fun z => by have z9 := hz _ z; omega), (fun z => by have z9 := hz _ z; omega), rfl⟩) (Or.inl ⟨(fun z => by have z9 := hz _ z; omega), (fun z => by have z9 := hz _ z; omega), (fun z => by have z9 := hz _ z; omega), (fun z => by have z9 := hz _ z; omega), rfl⟩) (fun j hj => if e : j = 2 then Or.inr (by rw [e]; omega) else Or.inl (fun z => by have j9 := lsI_c j hj; have z9 := hz _ z; omega))) [2] (by decide) (fun j z hj => by have j9 := lsI_c j hj; have z9 := hz _ z; simp only [List.mem_cons, List.not_mem_nil, or_false]; omega) (by simp only [sumL, List.map_cons, List.map_nil, List.sum_cons, List.sum_nil]; omega) (by simp only [sumL, List.map_cons, List.map_nil, List.sum_cons, List.sum_nil]; omega)
theorem mkL_le {TI : Nat → Tb} {lab nm : Int32} : ∀ (as : List Nat) (i o : Nat) (b : Bool) (p : Nat), (mkL TI lab nm as i o b p).1 ≤ o + as.length
  | [], _, _, _, _ => Nat.le_refl _
  | a :: as, i, o, b, p => by
    simp only [mkL]
    refine Nat.le_trans (mkL_le as _ _ _ _) ?_
    rw [List.length_cons]
    split <;> omega
theorem h_makex {S : List Int32} {hp : List XC} {ow : Nat → Nat} {k : Nat} {A : Nat → Nat} {M : HM} {np nl : Nat} {i : Nat} {nm : Int32} {sf : List Value} {ta : Int32} (h : HR hp ow k A M 0 np nl) (hi : i < 8) (hSt : StT M.2.2.2.2.2.2 M.1) (hs60 : hp[A 60]? = some (.inr (12, sf))) (hs0 : sf[0]? = some (.ref (A 61))) (hs5 : sf[5]? = some (.int ta)) {rfs : List Value} (hrd : hp[A 61]? = some (.inr (8, rfs))) (hval : Pu S 3 62 [.ref (A 61), .int ta] hp (.int nm)) (hy : (mkL (TIq M.2.2.2.2.2.2) (M.2.2.2.1 i).1 nm M.1 0 0 false 0).2.1 = true) : Me S 11 164 [.ref (A 0), .ref (A (20 + i))] hp (fun v hp' c s => v = some (.int 0) ∧ HSt hp hp' ow k A M 116 np nl c s 0 0) := by
  obtain ⟨hO, how, h0, h1, h3, hD, hF, hE, hT, ⟨lv9, hG⟩, hC, hL9, hQ, hW, hS, hTq9, htd, hcap⟩ := id h
  obtain ⟨za, ab, a1, a2, a3, a4, a5, a6, a7, a8, a9, a10, a11, a12, a13, a14⟩ := hS i hi
  have hll := hD.len
  refine At.go (q := xm164) rfl 1 (pc' := 1) (L' := [(0, .ref (A 0)), (1, .ref (A (20 + i)))]) (st' := [.ref (A 0)]) rfl ?_
  refine At.gf rfl (by decide) h0 rfl ?_
  refine At.gf rfl (by decide) hs60 hs0 ?_
  refine At.go (q := xm164) rfl 1 (pc' := 8) (L' := [(0, .ref (A 0)), (1, .ref (A (20 + i)))]) (st' := [.ref (A 0), .ref (A 61)]) rfl ?_
  refine At.gf rfl (by decide) h0 rfl ?_
  refine At.gf rfl (by decide) hs60 hs5 ?_
  refine At.clp (as := [.ref (A 61), .int ta]) (rest := []) rfl (by decide) rfl (Nat.le_of_ble_eq_true rfl) (Nat.le_of_ble_eq_true rfl) (xrck_o (by decide) (by decide) hrd (by decide)) (Nat.le_of_ble_eq_true rfl) (hval) ?_
  refine At.go (q := xm164) rfl 9 (pc' := 29) (L' := [(6, .int 0), (5, .int 0), (4, .int 0), (3, .int 0), (2, .int nm), (0, .ref (A 0)), (1, .ref (A (20 + i)))]) (st' := []) rfl ?_
  refine At.wk (L' := [(6, .int (Int32.ofNat 0)), (5, .int (Int32.ofNat 0)), (4, .int (bI false)), (3, .int (Int32.ofNat 0)), (2, .int nm), (0, .ref (A 0)), (1, .ref (A (20 + i)))]) (List.forall_mem_cons.mpr ⟨List.mem_of_getElem? (i := 0) rfl, (List.forall_mem_cons.mpr ⟨List.mem_of_getElem? (i := 1) rfl, (List.forall_mem_cons.mpr ⟨List.mem_of_getElem? (i := 2) rfl, (List.forall_mem_cons.mpr ⟨List.mem_of_getElem? (i := 3) rfl, (List.forall_mem_cons.mpr ⟨List.mem_of_getElem? (i := 4) rfl, (List.forall_mem_cons.mpr ⟨List.mem_of_getElem? (i := 5) rfl, (List.forall_mem_cons.mpr ⟨List.mem_of_getElem? (i := 6) rfl, (fun _ h => (List.not_mem_nil h).elim)⟩)⟩)⟩)⟩)⟩)⟩)⟩) (show ([6, 5, 4, 3, 2, 0, 1] : List Nat).Nodup by decide) ?_
  refine mk_loop h hi hSt M.1.length 0 0 false 0 (by omega) (Nat.le_refl _) (Nat.le_refl _) ?_
  rw [List.drop_zero]
  rw [hy]
  show At S 11 164 133 [(5, .int (Int32.ofNat (mkL (TIq M.2.2.2.2.2.2) (M.2.2.2.1 i).1 nm M.1 0 0 false 0).2.2)), (4, .int 1), (3, .int (Int32.ofNat (mkL (TIq M.2.2.2.2.2.2) (M.2.2.2.1 i).1 nm M.1 0 0 false 0).1)), (0, .ref (A 0)), (1, .ref (A (20 + i)))] [] hp _ _ _
  refine At.go (q := xm164) rfl 4 (pc' := 153) (L' := [(5, .int (Int32.ofNat (mkL (TIq M.2.2.2.2.2.2) (M.2.2.2.1 i).1 nm M.1 0 0 false 0).2.2)), (4, .int 1), (3, .int (Int32.ofNat (mkL (TIq M.2.2.2.2.2.2) (M.2.2.2.1 i).1 nm M.1 0 0 false 0).1)), (0, .ref (A 0)), (1, .ref (A (20 + i)))]) (st' := [.int 116, .ref (A 0)]) rfl ?_
  refine At.pf rfl h0 (Nat.le_of_ble_eq_true rfl) rfl ?_
  obtain ⟨g3, eg3⟩ : ∃ z, z = hp.set (A 0) (.inr (14, [.ref (A 1), .ref (A 2), .ref (A 3), .ref (A 4), .ref (A 5), .ref (A 60), .ref (A 75), .ref (A 6), .ref (A 7), .ref (A 8), .int M.2.2.2.2.2.1, .int 116])) := ⟨_, rfl⟩
  refine At.hpe eg3 ?_
  obtain ⟨t3, f3⟩ := HSu.ref h eg3
  refine At.go (q := xm164) rfl 1 (pc' := 157) (L' := [(5, .int (Int32.ofNat (mkL (TIq M.2.2.2.2.2.2) (M.2.2.2.1 i).1 nm M.1 0 0 false 0).2.2)), (4, .int 1), (3, .int (Int32.ofNat (mkL (TIq M.2.2.2.2.2.2) (M.2.2.2.1 i).1 nm M.1 0 0 false 0).1)), (0, .ref (A 0)), (1, .ref (A (20 + i)))]) (st' := [.int 0]) rfl ?_
  obtain ⟨x1, x2, x3, x4⟩ := t3
  exact At.rt rfl (xret_i rfl) ⟨_, _, _, _, rfl, rfl, ow, np, nl, fun _ _ => rfl, x1, x2, by omega, by omega⟩
theorem h_makey {S : List Int32} {hp : List XC} {ow : Nat → Nat} {k : Nat} {A : Nat → Nat} {M : HM} {np nl : Nat} {i : Nat} {nm : Int32} {sf : List Value} {ta : Int32} (h : HR hp ow k A M 0 np nl) (hi : i < 8) (hSt : StT M.2.2.2.2.2.2 M.1) (hs60 : hp[A 60]? = some (.inr (12, sf))) (hs0 : sf[0]? = some (.ref (A 61))) (hs5 : sf[5]? = some (.int ta)) {rfs : List Value} (hrd : hp[A 61]? = some (.inr (8, rfs))) (hval : Pu S 3 62 [.ref (A 61), .int ta] hp (.int nm)) (hx : (mkL (TIq M.2.2.2.2.2.2) (M.2.2.2.1 i).1 nm M.1 0 0 false 0).2.1 = false) (hy : 3 ≤ (mkL (TIq M.2.2.2.2.2.2) (M.2.2.2.1 i).1 nm M.1 0 0 false 0).1) : Me S 11 164 [.ref (A 0), .ref (A (20 + i))] hp (fun v hp' c s => v = some (.int 0) ∧ HSt hp hp' ow k A M 116 np nl c s 0 0) := by
  obtain ⟨hO, how, h0, h1, h3, hD, hF, hE, hT, ⟨lv9, hG⟩, hC, hL9, hQ, hW, hS, hTq9, htd, hcap⟩ := id h
  obtain ⟨za, ab, a1, a2, a3, a4, a5, a6, a7, a8, a9, a10, a11, a12, a13, a14⟩ := hS i hi
  have hll := hD.len
  refine At.go (q := xm164) rfl 1 (pc' := 1) (L' := [(0, .ref (A 0)), (1, .ref (A (20 + i)))]) (st' := [.ref (A 0)]) rfl ?_
  refine At.gf rfl (by decide) h0 rfl ?_
  refine At.gf rfl (by decide) hs60 hs0 ?_
  refine At.go (q := xm164) rfl 1 (pc' := 8) (L' := [(0, .ref (A 0)), (1, .ref (A (20 + i)))]) (st' := [.ref (A 0), .ref (A 61)]) rfl ?_
  refine At.gf rfl (by decide) h0 rfl ?_
  refine At.gf rfl (by decide) hs60 hs5 ?_
  refine At.clp (as := [.ref (A 61), .int ta]) (rest := []) rfl (by decide) rfl (Nat.le_of_ble_eq_true rfl) (Nat.le_of_ble_eq_true rfl) (xrck_o (by decide) (by decide) hrd (by decide)) (Nat.le_of_ble_eq_true rfl) (hval) ?_
  refine At.go (q := xm164) rfl 9 (pc' := 29) (L' := [(6, .int 0), (5, .int 0), (4, .int 0), (3, .int 0), (2, .int nm), (0, .ref (A 0)), (1, .ref (A (20 + i)))]) (st' := []) rfl ?_
  refine At.wk (L' := [(6, .int (Int32.ofNat 0)), (5, .int (Int32.ofNat 0)), (4, .int (bI false)), (3, .int (Int32.ofNat 0)), (2, .int nm), (0, .ref (A 0)), (1, .ref (A (20 + i)))]) (List.forall_mem_cons.mpr ⟨List.mem_of_getElem? (i := 0) rfl, (List.forall_mem_cons.mpr ⟨List.mem_of_getElem? (i := 1) rfl, (List.forall_mem_cons.mpr ⟨List.mem_of_getElem? (i := 2) rfl, (List.forall_mem_cons.mpr ⟨List.mem_of_getElem? (i := 3) rfl, (List.forall_mem_cons.mpr ⟨List.mem_of_getElem? (i := 4) rfl, (List.forall_mem_cons.mpr ⟨List.mem_of_getElem? (i := 5) rfl, (List.forall_mem_cons.mpr ⟨List.mem_of_getElem? (i := 6) rfl, (fun _ h => (List.not_mem_nil h).elim)⟩)⟩)⟩)⟩)⟩)⟩)⟩) (show ([6, 5, 4, 3, 2, 0, 1] : List Nat).Nodup by decide) ?_
  refine mk_loop h hi hSt M.1.length 0 0 false 0 (by omega) (Nat.le_refl _) (Nat.le_refl _) ?_
  rw [List.drop_zero]
  rw [hx]
  show At S 11 164 133 [(5, .int (Int32.ofNat (mkL (TIq M.2.2.2.2.2.2) (M.2.2.2.1 i).1 nm M.1 0 0 false 0).2.2)), (4, .int 0), (3, .int (Int32.ofNat (mkL (TIq M.2.2.2.2.2.2) (M.2.2.2.1 i).1 nm M.1 0 0 false 0).1)), (0, .ref (A 0)), (1, .ref (A (20 + i)))] [] hp _ _ _
  refine At.go (q := xm164) rfl 4 (pc' := 140) (L' := [(5, .int (Int32.ofNat (mkL (TIq M.2.2.2.2.2.2) (M.2.2.2.1 i).1 nm M.1 0 0 false 0).2.2)), (4, .int 0), (3, .int (Int32.ofNat (mkL (TIq M.2.2.2.2.2.2) (M.2.2.2.1 i).1 nm M.1 0 0 false 0).1)), (0, .ref (A 0)), (1, .ref (A (20 + i)))]) (st' := [.int 3, .int (Int32.ofNat (mkL (TIq M.2.2.2.2.2.2) (M.2.2.2.1 i).1 nm M.1 0 0 false 0).1)]) rfl ?_
  refine At.ic2 (tgt := 150) rfl rfl (fun _ => ?_) (fun h => absurd (h.symm.trans (decide_eq_true ((iN_le (a := 3) (b := (mkL (TIq M.2.2.2.2.2.2) (M.2.2.2.1 i).1 nm M.1 0 0 false 0).1) (by omega) (by have := mkL_le (TI := TIq M.2.2.2.2.2.2) (lab := (M.2.2.2.1 i).1) (nm := nm) M.1 0 0 false 0; omega)).mpr hy))) (by decide))
  refine At.go (q := xm164) rfl 2 (pc' := 153) (L' := [(5, .int (Int32.ofNat (mkL (TIq M.2.2.2.2.2.2) (M.2.2.2.1 i).1 nm M.1 0 0 false 0).2.2)), (4, .int 0), (3, .int (Int32.ofNat (mkL (TIq M.2.2.2.2.2.2) (M.2.2.2.1 i).1 nm M.1 0 0 false 0).1)), (0, .ref (A 0)), (1, .ref (A (20 + i)))]) (st' := [.int 116, .ref (A 0)]) rfl ?_
  refine At.pf rfl h0 (Nat.le_of_ble_eq_true rfl) rfl ?_
  obtain ⟨g3, eg3⟩ : ∃ z, z = hp.set (A 0) (.inr (14, [.ref (A 1), .ref (A 2), .ref (A 3), .ref (A 4), .ref (A 5), .ref (A 60), .ref (A 75), .ref (A 6), .ref (A 7), .ref (A 8), .int M.2.2.2.2.2.1, .int 116])) := ⟨_, rfl⟩
  refine At.hpe eg3 ?_
  obtain ⟨t3, f3⟩ := HSu.ref h eg3
  refine At.go (q := xm164) rfl 1 (pc' := 157) (L' := [(5, .int (Int32.ofNat (mkL (TIq M.2.2.2.2.2.2) (M.2.2.2.1 i).1 nm M.1 0 0 false 0).2.2)), (4, .int 0), (3, .int (Int32.ofNat (mkL (TIq M.2.2.2.2.2.2) (M.2.2.2.1 i).1 nm M.1 0 0 false 0).1)), (0, .ref (A 0)), (1, .ref (A (20 + i)))]) (st' := [.int 0]) rfl ?_
  obtain ⟨x1, x2, x3, x4⟩ := t3
  exact At.rt rfl (xret_i rfl) ⟨_, _, _, _, rfl, rfl, ow, np, nl, fun _ _ => rfl, x1, x2, by omega, by omega⟩
theorem h_makez {S : List Int32} {hp : List XC} {ow : Nat → Nat} {k : Nat} {A : Nat → Nat} {M : HM} {np nl : Nat} {i : Nat} {nm : Int32} {sf : List Value} {ta : Int32} (h : HR hp ow k A M 0 np nl) (hi : i < 8) (hSt : StT M.2.2.2.2.2.2 M.1) (hs60 : hp[A 60]? = some (.inr (12, sf))) (hs0 : sf[0]? = some (.ref (A 61))) (hs5 : sf[5]? = some (.int ta)) {rfs : List Value} (hrd : hp[A 61]? = some (.inr (8, rfs))) (hval : Pu S 3 62 [.ref (A 61), .int ta] hp (.int nm)) (hx : (mkL (TIq M.2.2.2.2.2.2) (M.2.2.2.1 i).1 nm M.1 0 0 false 0).2.1 = false) (hy : (mkL (TIq M.2.2.2.2.2.2) (M.2.2.2.1 i).1 nm M.1 0 0 false 0).1 < 3) (hb : (M.2.2.2.1 i).2.2.1 = true) : Me S 11 164 [.ref (A 0), .ref (A (20 + i))] hp (fun v hp' c s => v = some (.int 0) ∧ HSt hp hp' ow k A M 116 np nl c s 0 0) := by
  obtain ⟨hO, how, h0, h1, h3, hD, hF, hE, hT, ⟨lv9, hG⟩, hC, hL9, hQ, hW, hS, hTq9, htd, hcap⟩ := id h
  obtain ⟨za, ab, a1, a2, a3, a4, a5, a6, a7, a8, a9, a10, a11, a12, a13, a14⟩ := hS i hi
  have hll := hD.len
  have a1' := a1
  rw [hb] at a1'
  refine At.go (q := xm164) rfl 1 (pc' := 1) (L' := [(0, .ref (A 0)), (1, .ref (A (20 + i)))]) (st' := [.ref (A 0)]) rfl ?_
  refine At.gf rfl (by decide) h0 rfl ?_
  refine At.gf rfl (by decide) hs60 hs0 ?_
  refine At.go (q := xm164) rfl 1 (pc' := 8) (L' := [(0, .ref (A 0)), (1, .ref (A (20 + i)))]) (st' := [.ref (A 0), .ref (A 61)]) rfl ?_
  refine At.gf rfl (by decide) h0 rfl ?_
  refine At.gf rfl (by decide) hs60 hs5 ?_
  refine At.clp (as := [.ref (A 61), .int ta]) (rest := []) rfl (by decide) rfl (Nat.le_of_ble_eq_true rfl) (Nat.le_of_ble_eq_true rfl) (xrck_o (by decide) (by decide) hrd (by decide)) (Nat.le_of_ble_eq_true rfl) (hval) ?_
  refine At.go (q := xm164) rfl 9 (pc' := 29) (L' := [(6, .int 0), (5, .int 0), (4, .int 0), (3, .int 0), (2, .int nm), (0, .ref (A 0)), (1, .ref (A (20 + i)))]) (st' := []) rfl ?_
  refine At.wk (L' := [(6, .int (Int32.ofNat 0)), (5, .int (Int32.ofNat 0)), (4, .int (bI false)), (3, .int (Int32.ofNat 0)), (2, .int nm), (0, .ref (A 0)), (1, .ref (A (20 + i)))]) (List.forall_mem_cons.mpr ⟨List.mem_of_getElem? (i := 0) rfl, (List.forall_mem_cons.mpr ⟨List.mem_of_getElem? (i := 1) rfl, (List.forall_mem_cons.mpr ⟨List.mem_of_getElem? (i := 2) rfl, (List.forall_mem_cons.mpr ⟨List.mem_of_getElem? (i := 3) rfl, (List.forall_mem_cons.mpr ⟨List.mem_of_getElem? (i := 4) rfl, (List.forall_mem_cons.mpr ⟨List.mem_of_getElem? (i := 5) rfl, (List.forall_mem_cons.mpr ⟨List.mem_of_getElem? (i := 6) rfl, (fun _ h => (List.not_mem_nil h).elim)⟩)⟩)⟩)⟩)⟩)⟩)⟩) (show ([6, 5, 4, 3, 2, 0, 1] : List Nat).Nodup by decide) ?_
  refine mk_loop h hi hSt M.1.length 0 0 false 0 (by omega) (Nat.le_refl _) (Nat.le_refl _) ?_
  rw [List.drop_zero]
  rw [hx]
  show At S 11 164 133 [(5, .int (Int32.ofNat (mkL (TIq M.2.2.2.2.2.2) (M.2.2.2.1 i).1 nm M.1 0 0 false 0).2.2)), (4, .int 0), (3, .int (Int32.ofNat (mkL (TIq M.2.2.2.2.2.2) (M.2.2.2.1 i).1 nm M.1 0 0 false 0).1)), (0, .ref (A 0)), (1, .ref (A (20 + i)))] [] hp _ _ _
  refine At.go (q := xm164) rfl 4 (pc' := 140) (L' := [(5, .int (Int32.ofNat (mkL (TIq M.2.2.2.2.2.2) (M.2.2.2.1 i).1 nm M.1 0 0 false 0).2.2)), (4, .int 0), (3, .int (Int32.ofNat (mkL (TIq M.2.2.2.2.2.2) (M.2.2.2.1 i).1 nm M.1 0 0 false 0).1)), (0, .ref (A 0)), (1, .ref (A (20 + i)))]) (st' := [.int 3, .int (Int32.ofNat (mkL (TIq M.2.2.2.2.2.2) (M.2.2.2.1 i).1 nm M.1 0 0 false 0).1)]) rfl ?_
  refine At.ic2 (tgt := 150) rfl rfl (fun h => absurd (h.symm.trans (decide_eq_false (fun q9 => absurd ((iN_le (a := 3) (b := (mkL (TIq M.2.2.2.2.2.2) (M.2.2.2.1 i).1 nm M.1 0 0 false 0).1) (by omega) (by omega)).mp q9) (by omega)))) (by decide)) (fun _ => ?_)
  refine At.go (q := xm164) rfl 1 (pc' := 144) (L' := [(5, .int (Int32.ofNat (mkL (TIq M.2.2.2.2.2.2) (M.2.2.2.1 i).1 nm M.1 0 0 false 0).2.2)), (4, .int 0), (3, .int (Int32.ofNat (mkL (TIq M.2.2.2.2.2.2) (M.2.2.2.1 i).1 nm M.1 0 0 false 0).1)), (0, .ref (A 0)), (1, .ref (A (20 + i)))]) (st' := [.ref (A (20 + i))]) rfl ?_
  refine At.gf rfl (by decide) a1' rfl ?_
  refine At.go (q := xm164) rfl 3 (pc' := 153) (L' := [(5, .int (Int32.ofNat (mkL (TIq M.2.2.2.2.2.2) (M.2.2.2.1 i).1 nm M.1 0 0 false 0).2.2)), (4, .int 0), (3, .int (Int32.ofNat (mkL (TIq M.2.2.2.2.2.2) (M.2.2.2.1 i).1 nm M.1 0 0 false 0).1)), (0, .ref (A 0)), (1, .ref (A (20 + i)))]) (st' := [.int 116, .ref (A 0)]) rfl ?_
  refine At.pf rfl h0 (Nat.le_of_ble_eq_true rfl) rfl ?_
  obtain ⟨g3, eg3⟩ : ∃ z, z = hp.set (A 0) (.inr (14, [.ref (A 1), .ref (A 2), .ref (A 3), .ref (A 4), .ref (A 5), .ref (A 60), .ref (A 75), .ref (A 6), .ref (A 7), .ref (A 8), .int M.2.2.2.2.2.1, .int 116])) := ⟨_, rfl⟩
  refine At.hpe eg3 ?_
  obtain ⟨t3, f3⟩ := HSu.ref h eg3
  refine At.go (q := xm164) rfl 1 (pc' := 157) (L' := [(5, .int (Int32.ofNat (mkL (TIq M.2.2.2.2.2.2) (M.2.2.2.1 i).1 nm M.1 0 0 false 0).2.2)), (4, .int 0), (3, .int (Int32.ofNat (mkL (TIq M.2.2.2.2.2.2) (M.2.2.2.1 i).1 nm M.1 0 0 false 0).1)), (0, .ref (A 0)), (1, .ref (A (20 + i)))]) (st' := [.int 0]) rfl ?_
  obtain ⟨x1, x2, x3, x4⟩ := t3
  exact At.rt rfl (xret_i rfl) ⟨_, _, _, _, rfl, rfl, ow, np, nl, fun _ _ => rfl, x1, x2, by omega, by omega⟩
theorem h_makek {S : List Int32} {hp : List XC} {ow : Nat → Nat} {k : Nat} {A : Nat → Nat} {M : HM} {np nl : Nat} {i : Nat} {nm : Int32} {sf : List Value} {ta : Int32} (h : HR hp ow k A M 0 np nl) (hi : i < 8) (hSt : StT M.2.2.2.2.2.2 M.1) (hs60 : hp[A 60]? = some (.inr (12, sf))) (hs0 : sf[0]? = some (.ref (A 61))) (hs5 : sf[5]? = some (.int ta)) {rfs : List Value} (hrd : hp[A 61]? = some (.inr (8, rfs))) (hval : Pu S 3 62 [.ref (A 61), .int ta] hp (.int nm)) {K J : Nat} {q' : TQ} {mf : List Value} (hmf : hp[A 75]? = some (.inr (6, mf))) (hx : (mkL (TIq M.2.2.2.2.2.2) (M.2.2.2.1 i).1 nm M.1 0 0 false 0).2.1 = false) (hy : (mkL (TIq M.2.2.2.2.2.2) (M.2.2.2.1 i).1 nm M.1 0 0 false 0).1 < 3) (hb : (M.2.2.2.1 i).2.2.1 = false) (hst9 : M.1.length ≤ 2000) (hpl : (mkL (TIq M.2.2.2.2.2.2) (M.2.2.2.1 i).1 nm M.1 0 0 false 0).2.2 ≤ M.1.length) (hnew : ∀ g : List XC, HR g ow k A (mMade M (M.2.2.2.2.2.1 + 1)) 0 np nl → g = hp.set (A 0) (.inr (14, [.ref (A 1), .ref (A 2), .ref (A 3), .ref (A 4), .ref (A 5), .ref (A 60), .ref (A 75), .ref (A 6), .ref (A 7), .ref (A 8), .int (M.2.2.2.2.2.1 + 1), .int 0])) → FrX (fun x => x = A 0) hp g → Me S 9 165 [.ref (A 75), .int (M.2.2.2.2.2.1 + 1)] g (fun v g' c s => v = some (.ref q'.1.1) ∧ HSt g g' ow k A (mTabs (mMade M (M.2.2.2.2.2.1 + 1)) (M.2.2.2.2.2.2 ++ [q'])) 0 np nl c s K J)) : Me S 11 164 [.ref (A 0), .ref (A (20 + i))] hp (fun v hp' c s => v = some (.int (Int32.ofNat ((mkL (TIq M.2.2.2.2.2.2) (M.2.2.2.1 i).1 nm M.1 0 0 false 0).1 + 1))) ∧ HSt hp hp' ow k A (mStd (mTabs (mMade M (M.2.2.2.2.2.1 + 1)) (M.2.2.2.2.2.2 ++ [q'])) (insAt M.1 (mkL (TIq M.2.2.2.2.2.2) (M.2.2.2.1 i).1 nm M.1 0 0 false 0).2.2 q'.1.1)) 0 np nl c s K J) := by
  obtain ⟨hO, how, h0, h1, h3, hD, hF, hE, hT, ⟨lv9, hG⟩, hC, hL9, hQ, hW, hS, hTq9, htd, hcap⟩ := id h
  obtain ⟨za, ab, a1, a2, a3, a4, a5, a6, a7, a8, a9, a10, a11, a12, a13, a14⟩ := hS i hi
  have hll := hD.len
  have a1' := a1
  rw [hb] at a1'
  refine At.go (q := xm164) rfl 1 (pc' := 1) (L' := [(0, .ref (A 0)), (1, .ref (A (20 + i)))]) (st' := [.ref (A 0)]) rfl ?_
  refine At.gf rfl (by decide) h0 rfl ?_
  refine At.gf rfl (by decide) hs60 hs0 ?_
  refine At.go (q := xm164) rfl 1 (pc' := 8) (L' := [(0, .ref (A 0)), (1, .ref (A (20 + i)))]) (st' := [.ref (A 0), .ref (A 61)]) rfl ?_
  refine At.gf rfl (by decide) h0 rfl ?_
  refine At.gf rfl (by decide) hs60 hs5 ?_
  refine At.clp (as := [.ref (A 61), .int ta]) (rest := []) rfl (by decide) rfl (Nat.le_of_ble_eq_true rfl) (Nat.le_of_ble_eq_true rfl) (xrck_o (by decide) (by decide) hrd (by decide)) (Nat.le_of_ble_eq_true rfl) (hval) ?_
  refine At.go (q := xm164) rfl 9 (pc' := 29) (L' := [(6, .int 0), (5, .int 0), (4, .int 0), (3, .int 0), (2, .int nm), (0, .ref (A 0)), (1, .ref (A (20 + i)))]) (st' := []) rfl ?_
  refine At.wk (L' := [(6, .int (Int32.ofNat 0)), (5, .int (Int32.ofNat 0)), (4, .int (bI false)), (3, .int (Int32.ofNat 0)), (2, .int nm), (0, .ref (A 0)), (1, .ref (A (20 + i)))]) (List.forall_mem_cons.mpr ⟨List.mem_of_getElem? (i := 0) rfl, (List.forall_mem_cons.mpr ⟨List.mem_of_getElem? (i := 1) rfl, (List.forall_mem_cons.mpr ⟨List.mem_of_getElem? (i := 2) rfl, (List.forall_mem_cons.mpr ⟨List.mem_of_getElem? (i := 3) rfl, (List.forall_mem_cons.mpr ⟨List.mem_of_getElem? (i := 4) rfl, (List.forall_mem_cons.mpr ⟨List.mem_of_getElem? (i := 5) rfl, (List.forall_mem_cons.mpr ⟨List.mem_of_getElem? (i := 6) rfl, (fun _ h => (List.not_mem_nil h).elim)⟩)⟩)⟩)⟩)⟩)⟩)⟩) (show ([6, 5, 4, 3, 2, 0, 1] : List Nat).Nodup by decide) ?_
  refine mk_loop h hi hSt M.1.length 0 0 false 0 (by omega) (Nat.le_refl _) (Nat.le_refl _) ?_
  rw [List.drop_zero]
  rw [hx]
  show At S 11 164 133 [(5, .int (Int32.ofNat (mkL (TIq M.2.2.2.2.2.2) (M.2.2.2.1 i).1 nm M.1 0 0 false 0).2.2)), (4, .int 0), (3, .int (Int32.ofNat (mkL (TIq M.2.2.2.2.2.2) (M.2.2.2.1 i).1 nm M.1 0 0 false 0).1)), (0, .ref (A 0)), (1, .ref (A (20 + i)))] [] hp _ _ _
  refine At.go (q := xm164) rfl 4 (pc' := 140) (L' := [(5, .int (Int32.ofNat (mkL (TIq M.2.2.2.2.2.2) (M.2.2.2.1 i).1 nm M.1 0 0 false 0).2.2)), (4, .int 0), (3, .int (Int32.ofNat (mkL (TIq M.2.2.2.2.2.2) (M.2.2.2.1 i).1 nm M.1 0 0 false 0).1)), (0, .ref (A 0)), (1, .ref (A (20 + i)))]) (st' := [.int 3, .int (Int32.ofNat (mkL (TIq M.2.2.2.2.2.2) (M.2.2.2.1 i).1 nm M.1 0 0 false 0).1)]) rfl ?_
  refine At.ic2 (tgt := 150) rfl rfl (fun h => absurd (h.symm.trans (decide_eq_false (fun q9 => absurd ((iN_le (a := 3) (b := (mkL (TIq M.2.2.2.2.2.2) (M.2.2.2.1 i).1 nm M.1 0 0 false 0).1) (by omega) (by omega)).mp q9) (by omega)))) (by decide)) (fun _ => ?_)
  refine At.go (q := xm164) rfl 1 (pc' := 144) (L' := [(5, .int (Int32.ofNat (mkL (TIq M.2.2.2.2.2.2) (M.2.2.2.1 i).1 nm M.1 0 0 false 0).2.2)), (4, .int 0), (3, .int (Int32.ofNat (mkL (TIq M.2.2.2.2.2.2) (M.2.2.2.1 i).1 nm M.1 0 0 false 0).1)), (0, .ref (A 0)), (1, .ref (A (20 + i)))]) (st' := [.ref (A (20 + i))]) rfl ?_
  refine At.gf rfl (by decide) a1' rfl ?_
  refine At.go (q := xm164) rfl 3 (pc' := 160) (L' := [(5, .int (Int32.ofNat (mkL (TIq M.2.2.2.2.2.2) (M.2.2.2.1 i).1 nm M.1 0 0 false 0).2.2)), (4, .int 0), (3, .int (Int32.ofNat (mkL (TIq M.2.2.2.2.2.2) (M.2.2.2.1 i).1 nm M.1 0 0 false 0).1)), (0, .ref (A 0)), (1, .ref (A (20 + i)))]) (st' := [.ref (A 0), .ref (A 0)]) rfl ?_
  refine At.gf rfl (by decide) h0 rfl ?_
  refine At.go (q := xm164) rfl 2 (pc' := 165) (L' := [(5, .int (Int32.ofNat (mkL (TIq M.2.2.2.2.2.2) (M.2.2.2.1 i).1 nm M.1 0 0 false 0).2.2)), (4, .int 0), (3, .int (Int32.ofNat (mkL (TIq M.2.2.2.2.2.2) (M.2.2.2.1 i).1 nm M.1 0 0 false 0).1)), (0, .ref (A 0)), (1, .ref (A (20 + i)))]) (st' := [.int (M.2.2.2.2.2.1 + 1), .ref (A 0)]) rfl ?_
  refine At.pf rfl h0 (Nat.le_of_ble_eq_true rfl) xfit_i ?_
  obtain ⟨g3, eg3⟩ : ∃ z, z = hp.set (A 0) (.inr (14, [.ref (A 1), .ref (A 2), .ref (A 3), .ref (A 4), .ref (A 5), .ref (A 60), .ref (A 75), .ref (A 6), .ref (A 7), .ref (A 8), .int (M.2.2.2.2.2.1 + 1), .int 0])) := ⟨_, rfl⟩
  refine At.hpe eg3 ?_
  obtain ⟨t3, f3⟩ := HSu.made h eg3
  have r3 := t3.1
  have k3' := r3.2.2.1
  have h75 := f3.ob hmf (by decide) (fun e => by have u := (how 75 (by decide)).1; have e9 : A 75 = A 0 := e; rw [e9, (how 0 (by decide)).1] at u; omega)
  obtain ⟨dfs, hDo⟩ := r3.2.2.2.2.2.1.ob
  refine At.go (q := xm164) rfl 1 (pc' := 169) (L' := [(5, .int (Int32.ofNat (mkL (TIq M.2.2.2.2.2.2) (M.2.2.2.1 i).1 nm M.1 0 0 false 0).2.2)), (4, .int 0), (3, .int (Int32.ofNat (mkL (TIq M.2.2.2.2.2.2) (M.2.2.2.1 i).1 nm M.1 0 0 false 0).1)), (0, .ref (A 0)), (1, .ref (A (20 + i)))]) (st' := [.ref (A 0)]) rfl ?_
  refine At.gf rfl (by decide) k3' rfl ?_
  refine At.go (q := xm164) rfl 2 (pc' := 175) (L' := [(5, .int (Int32.ofNat (mkL (TIq M.2.2.2.2.2.2) (M.2.2.2.1 i).1 nm M.1 0 0 false 0).2.2)), (4, .int 0), (3, .int (Int32.ofNat (mkL (TIq M.2.2.2.2.2.2) (M.2.2.2.1 i).1 nm M.1 0 0 false 0).1)), (0, .ref (A 0)), (1, .ref (A (20 + i)))]) (st' := [.ref (A 0), .int (Int32.ofNat (mkL (TIq M.2.2.2.2.2.2) (M.2.2.2.1 i).1 nm M.1 0 0 false 0).2.2), .ref (A 2)]) rfl ?_
  refine At.gf rfl (by decide) k3' rfl ?_
  refine At.go (q := xm164) rfl 1 (pc' := 179) (L' := [(5, .int (Int32.ofNat (mkL (TIq M.2.2.2.2.2.2) (M.2.2.2.1 i).1 nm M.1 0 0 false 0).2.2)), (4, .int 0), (3, .int (Int32.ofNat (mkL (TIq M.2.2.2.2.2.2) (M.2.2.2.1 i).1 nm M.1 0 0 false 0).1)), (0, .ref (A 0)), (1, .ref (A (20 + i)))]) (st' := [.ref (A 0), .ref (A 75), .int (Int32.ofNat (mkL (TIq M.2.2.2.2.2.2) (M.2.2.2.1 i).1 nm M.1 0 0 false 0).2.2), .ref (A 2)]) rfl ?_
  refine At.gf rfl (by decide) k3' rfl ?_
  refine At.clm (as := [.ref (A 75), .int (M.2.2.2.2.2.1 + 1)]) (rest := [.int (Int32.ofNat (mkL (TIq M.2.2.2.2.2.2) (M.2.2.2.1 i).1 nm M.1 0 0 false 0).2.2), .ref (A 2)]) rfl (by decide) rfl (Nat.le_of_ble_eq_true rfl) (Nat.le_of_ble_eq_true rfl) (xrck_o (by decide) (by decide) h75 (by decide)) (Nat.le_of_ble_eq_true rfl) (hnew g3 r3 eg3 f3) (fun v9 g4 c4 s4 hv9 => ?_)
  obtain ⟨rfl, ow4, np4, nl4, hw4, r4, f4, x3, x4⟩ := hv9
  have kD4 : hLs g4 (A 2) M.1 := r4.2.2.2.2.2.1
  obtain ⟨dfs4, hDo4⟩ := kD4.ob
  obtain ⟨y1, y2, y3, y4, y5, yf, y6, -⟩ := r4.2.2.2.2.2.2.2.2.2.2.2.2.2.2.2.1 q' (List.mem_append_right _ (List.mem_singleton.mpr rfl))
  refine At.clm (as := [.ref (A 2), .int (Int32.ofNat (mkL (TIq M.2.2.2.2.2.2) (M.2.2.2.1 i).1 nm M.1 0 0 false 0).2.2), .ref q'.1.1]) (rest := []) rfl (by decide) rfl (Nat.le_of_ble_eq_true rfl) (Nat.le_of_ble_eq_true rfl) (xrck_o (by decide) (by decide) hDo4 (by decide)) (Nat.le_of_ble_eq_true rfl) (m_addAt r4.1 kD4 ⟨_, _, y6, by decide⟩ hpl (by omega)) (fun v9 g5 c5 s5 hv9 => ?_)
  obtain ⟨rfl, hR5⟩ := hv9
  have hil : (insAt M.1 (mkL (TIq M.2.2.2.2.2.2) (M.2.2.2.1 i).1 nm M.1 0 0 false 0).2.2 q'.1.1).length ≤ 3000 := by rw [insAt_len]; omega
  have t5 := HSu.ins r4 hR5 hil
  refine At.go (q := xm164) rfl 3 (pc' := 191) (L' := [(5, .int (Int32.ofNat (mkL (TIq M.2.2.2.2.2.2) (M.2.2.2.1 i).1 nm M.1 0 0 false 0).2.2)), (4, .int 0), (3, .int (Int32.ofNat (mkL (TIq M.2.2.2.2.2.2) (M.2.2.2.1 i).1 nm M.1 0 0 false 0).1)), (0, .ref (A 0)), (1, .ref (A (20 + i)))]) (st' := [.int ((Int32.ofNat (mkL (TIq M.2.2.2.2.2.2) (M.2.2.2.1 i).1 nm M.1 0 0 false 0).1) + 1)]) rfl ?_
  rw [iN_s]
  have z5 := HSt.tr hw4 f4 x3 x4 (t5.st (Nat.le_refl _) (Nat.le_refl _))
  obtain ⟨t31, t32, t33, t34⟩ := t3
  obtain ⟨owf, npf, nlf, w9, R9, F9, u9, u8⟩ := z5
  exact At.rt rfl (xret_i rfl) ⟨_, _, _, _, rfl, rfl, owf, npf, nlf, fun a ha => w9 a (Nat.lt_of_lt_of_le ha t32.1), R9, FrX.tr t32 F9 (fun x hx => Or.inl hx), by omega, by omega⟩
