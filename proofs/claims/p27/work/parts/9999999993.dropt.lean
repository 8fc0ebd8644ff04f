/-! the house: dropTable, the rest (written by wip/p27/c9999999993.py) -/
theorem HSu.hdrp {hp : List XC} {ow : Nat → Nat} {k : Nat} {A : Nat → Nat} {M : HM} {rf : Int32} {np nl : Nat} {hp' : List XC} {sr : Int32} {c s : Nat} (h : HR hp ow k A M rf np nl) (hR : RSh hp (A 9) (dropE M.2.1 sr) hp' c s) (hl : M.2.1.length ≤ 3000) : HSu hp hp' ow k A (mShelf M (dropE M.2.1 sr)) rf np nl c s 0 0 := by
  obtain ⟨hO, how, h0, h1, h3, hD, hF, hE, hT, ⟨lv9, hG⟩, hC, hL9, hQ, hW, hS, hTq9, htd, hcap⟩ := id h
  obtain ⟨f, g1, g2, g3, g4⟩ := hR
  have hdl : (dropE M.2.1 sr).length ≤ M.2.1.length := List.length_filter_le _ _
  obtain ⟨Z, hZ⟩ : ∃ Z : Nat → Prop, Z = fun n => n = k + 9 := ⟨_, rfl⟩
  have hz : ∀ n, Z n → n = k + 9 := fun n z9 => by rw [hZ] at z9; exact z9
  have hzi : ∀ n, (n = k + 9) → Z n := fun n z9 => by rw [hZ]; exact z9
  have hzk : ∀ n, Z n → k ≤ n ∧ n < k + 1000 := fun n z => by have z9 := hz n z; omega
  have f' : FrX (fun a => Z (ow a)) hp hp' := f.mono (fun x _ e => by
    have e9 : x = A 9 := e
    show Z (ow x)
    rw [e9, (how _ (by omega)).1]; exact hzi _ (by omega))
  have c9 := hcap 9 (by decide)
  exact HSu.of h f' hzk (h.upd (Z := Z) f' (fun _ _ => rfl) (fun z => by have z9 := hz _ z; omega) (fun z => by have z9 := hz _ z; omega) (Or.inl ⟨(fun z => by have z9 := hz _ z; omega), rfl, rfl⟩) (Or.inl ⟨(fun z => by have z9 := hz _ z; omega), rfl⟩) (Or.inr g1) (Or.inl ⟨(fun z => by have z9 := hz _ z; omega), rfl⟩) (Or.inl ⟨(fun z => by have z9 := hz _ z; omega), rfl⟩) (Or.inl (fun z => by have z9 := hz _ z; omega)) (Or.inl ⟨(fun z => by have z9 := hz _ z; omega), (fun z => by have z9 := hz _ z; omega), (fun z => by have z9 := hz _ z; omega)⟩) (fun j hj => Or.inl (fun z => by simp only [List.mem_cons, List.not_mem_nil, or_false] at hj; have z9 := hz _ z; omega)) (Or.inl ⟨(fun z => by have z9 := hz _ z; omega), (fun z => by have z9 := hz _ z; omega), (fun z => by have z9 := hz _ z; omega), (fun z => by have z9 := hz _ z; omega), rfl, rfl⟩) (Or.inl (fun j j1 j2 z => by have z9 := hz _ z; omega)) (fun j hj => Or.inl ⟨(fun z => by have z9 := hz _ z; omega), (fun z => by have z9 := hz _ z; omega), (fun z => by have z9 := hz _ z; omega), (fun z => by have z9 := hz _ z; omega), (fun z => by have z9 := hz _ z; omega), (fun z => by have z9 := hz _ z; omega), rfl⟩) (Or.inl ⟨(fun z => by have z9 := hz _ z; omega), (fun z => by have z9 := hz _ z; omega), (fun z => by have z9 := hz _ z; omega), (fun z => by have z9 := hz _ z; omega), rfl⟩) (fun j hj => if e : j = 9 then Or.inr (by rw [e]; omega) else Or.inl (fun z => by have j9 := lsI_c j hj; have z9 := hz _ z; omega))) [9] (by decide) (fun j z hj => by have j9 := lsI_c j hj; have z9 := hz _ z; simp only [List.mem_cons, List.not_mem_nil, or_false]; omega) (by simp only [sumL, List.map_cons, List.map_nil, List.sum_cons, List.sum_nil]; omega) (by simp only [sumL, List.map_cons, List.map_nil, List.sum_cons, List.sum_nil]; omega)
theorem HSu.sdrp {hp : List XC} {ow : Nat → Nat} {k : Nat} {A : Nat → Nat} {M : HM} {rf : Int32} {np nl : Nat} {hp' : List XC} {sr : Int32} {i c s : Nat} (h : HR hp ow k A M rf np nl) (hi : i < 8) (hR : RSh hp (A (44 + i)) (dropE (M.2.2.2.1 i).2.2.2.1 sr) hp' c s) (hl : (M.2.2.2.1 i).2.2.2.1.length ≤ 3000) : HSu hp hp' ow k A (mS M i (sDrp (M.2.2.2.1 i) sr)) rf np nl c s 0 0 := by
  obtain ⟨hO, how, h0, h1, h3, hD, hF, hE, hT, ⟨lv9, hG⟩, hC, hL9, hQ, hW, hS, hTq9, htd, hcap⟩ := id h
  obtain ⟨za, ab, a1, a2, a3, a4, a5, a6, a7, a8, a9, a10, a11, a12, a13, a14⟩ := hS i hi
  obtain ⟨f, g1, g2, g3, g4⟩ := hR
  have hdl : (dropE (M.2.2.2.1 i).2.2.2.1 sr).length ≤ (M.2.2.2.1 i).2.2.2.1.length := List.length_filter_le _ _
  obtain ⟨Z, hZ⟩ : ∃ Z : Nat → Prop, Z = fun n => n = k + (44 + i) := ⟨_, rfl⟩
  have hz : ∀ n, Z n → n = k + (44 + i) := fun n z9 => by rw [hZ] at z9; exact z9
  have hzi : ∀ n, (n = k + (44 + i)) → Z n := fun n z9 => by rw [hZ]; exact z9
  have hzk : ∀ n, Z n → k ≤ n ∧ n < k + 1000 := fun n z => by have z9 := hz n z; omega
  have f' : FrX (fun a => Z (ow a)) hp hp' := f.mono (fun x _ e => by
    have e9 : x = A (44 + i) := e
    show Z (ow x)
    rw [e9, (how _ (by omega)).1]; exact hzi _ (by omega))
  have c9 := hcap (44 + i) ((by decide : ∀ i, i < 8 → 44 + i ∈ lsI) i hi)
  exact HSu.of h f' hzk (h.upd (Z := Z) f' (fun _ _ => rfl) (fun z => by have z9 := hz _ z; omega) (fun z => by have z9 := hz _ z; omega) (Or.inl ⟨(fun z => by have z9 := hz _ z; omega), rfl, rfl⟩) (Or.inl ⟨(fun z => by have z9 := hz _ z; omega), rfl⟩) (Or.inl ⟨(fun z => by have z9 := hz _ z; omega), rfl⟩) (Or.inl ⟨(fun z => by have z9 := hz _ z; omega), rfl⟩) (Or.inl ⟨(fun z => by have z9 := hz _ z; omega), rfl⟩) (Or.inl (fun z => by have z9 := hz _ z; omega)) (Or.inl ⟨(fun z => by have z9 := hz _ z; omega), (fun z => by have z9 := hz _ z; omega), (fun z => by have z9 := hz _ z; omega)⟩) (fun j hj => Or.inl (fun z => by simp only [List.mem_cons, List.not_mem_nil, or_false] at hj; have z9 := hz _ z; omega)) (Or.inl ⟨(fun z => by have z9 := hz _ z; omega), (fun z => by have z9 := hz _ z; omega), (fun z => by have z9 := hz _ z; omega), (fun z => by have z9 := hz _ z; omega), rfl, rfl⟩) (Or.inl (fun j j1 j2 z => by have z9 := hz _ z; omega)) (fun j hj => if e : j = i then by subst e; exact Or.inr (by rw [mS_at]; exact ⟨za, ab, f'.ob a1 (by decide) (nz (how _ (by omega)).1 (fun z => by have z9 := hz _ z; omega)), f'.ob a2 (by decide) (nz (how _ (by omega)).1 (fun z => by have z9 := hz _ z; omega)), f'.2.2.1 _ _ a3 rfl (Or.inl (nz (how _ (by omega)).1 (fun z => by have z9 := hz _ z; omega))), a4, a5, f'.2.2.1 _ _ a6 rfl (Or.inl (nz a12 (fun z => by have z9 := hz _ z; omega))), a7, a8, a9, a10, a11, a12, g1, a14.fr f' hO (nz (how _ (by omega)).1 (fun z => by have z9 := hz _ z; omega))⟩) else Or.inl ⟨(fun z => by have z9 := hz _ z; omega), (fun z => by have z9 := hz _ z; omega), (fun z => by have z9 := hz _ z; omega), (fun z => by have z9 := hz _ z; omega), (fun z => by have z9 := hz _ z; omega), (fun z => by have z9 := hz _ z; omega), mS_ne e⟩) (Or.inl ⟨(fun z => by have z9 := hz _ z; omega), (fun z => by have z9 := hz _ z; omega), (fun z => by have z9 := hz _ z; omega), (fun z => by have z9 := hz _ z; omega), rfl⟩) (fun j hj => if e : j = 44 + i then Or.inr (by rw [e]; omega) else Or.inl (fun z => by have j9 := lsI_c j hj; have z9 := hz _ z; omega))) [44 + i] ((by decide : ∀ i, i < 8 → ([44 + i] : List Nat).Sublist lsI) i hi) (fun j z hj => by have j9 := lsI_c j hj; have z9 := hz _ z; simp only [List.mem_cons, List.not_mem_nil, or_false]; omega) (by simp only [sumL, List.map_cons, List.map_nil, List.sum_cons, List.sum_nil]; omega) (by simp only [sumL, List.map_cons, List.map_nil, List.sum_cons, List.sum_nil]; omega)
theorem dr_loop2 {S : List Int32} {ow : Nat → Nat} {k : Nat} {A : Nat → Nat} {rf : Int32} {np nl : Nat} {i : Nat} {q : TQ} {Q : XO → Prop} : ∀ (f j nc ns : Nat) (hp : List XC) (M : HM), j + f = 8 → q ∈ M.2.2.2.2.2.2 → HR hp ow k A M rf np nl → (∀ i, i < 8 → (M.2.2.2.1 i).2.2.2.1.length ≤ 3000) → (∀ hp' c s, HSu hp hp' ow k A (mDrp M q.2.1 j) rf np nl c s 0 0 → Q (.inl (some (.int 1), hp', nc + c, ns + s))) → At S 11 170 103 [(3, .int (Int32.ofNat j)), (0, .ref (A 0)), (1, .ref (A (20 + i))), (2, .ref q.1.1)] [] hp nc ns Q := by
  intro f
  induction f with
  | zero =>
    intro j nc ns hp M hf hq h hsl hk
    obtain rfl : j = 8 := by omega
    obtain ⟨hO, how, h0, h1, h3, hD, hF, hE, hT, ⟨lv9, hG⟩, hC, hL9, hQ, hW, hS, hTq9, htd, hcap⟩ := id h
    refine At.go (q := xm170) rfl 2 (pc' := 105) (L' := [(3, .int (Int32.ofNat 8)), (0, .ref (A 0)), (1, .ref (A (20 + i))), (2, .ref q.1.1)]) (st' := [.ref (A 0), .int (Int32.ofNat 8)]) rfl ?_
    refine At.gf rfl (by decide) h0 rfl ?_
    refine At.ln rfl h1 ?_
    rw [List.length_map, List.length_range]
    refine At.ic2 (tgt := 131) rfl rfl (fun _ => ?_) (fun h => absurd (h.symm.trans (show decide (Int32.ofNat 8 ≤ Int32.ofNat 8) = true by decide)) (by decide))
    refine At.go (q := xm170) rfl 1 (pc' := 132) (L' := [(3, .int (Int32.ofNat 8)), (0, .ref (A 0)), (1, .ref (A (20 + i))), (2, .ref q.1.1)]) (st' := [.int 1]) rfl ?_
    exact At.rt rfl (xret_i rfl) (hk hp 0 0 ⟨by rw [mDrp_8]; exact h, FrX.rf, by omega, by omega⟩)
  | succ f ih =>
    intro j nc ns hp M hf hq h hsl hk
    have hj : j < 8 := by omega
    obtain ⟨hO, how, h0, h1, h3, hD, hF, hE, hT, ⟨lv9, hG⟩, hC, hL9, hQ, hW, hS, hTq9, htd, hcap⟩ := id h
    obtain ⟨za, ab, a1, a2, a3, a4, a5, a6, a7, a8, a9, a10, a11, a12, a13, a14⟩ := hS j hj
    obtain ⟨b1, b2, b3, b4, b5, fs9, b6, b7, b8, b9, b10⟩ := hTq9 q hq
    have hfs : ∃ tf, fs9 = .int q.2.1 :: tf := by
      obtain ⟨ca, ka, ra, ga, chk, dv, u1, -⟩ := b1
      cases u1.symm.trans b6
      exact ⟨_, rfl⟩
    obtain ⟨tf9, rfl⟩ := hfs
    obtain ⟨sas, l1, l2⟩ := a13
    have hsj := hsl j hj
    refine At.go (q := xm170) rfl 2 (pc' := 105) (L' := [(3, .int (Int32.ofNat j)), (0, .ref (A 0)), (1, .ref (A (20 + i))), (2, .ref q.1.1)]) (st' := [.ref (A 0), .int (Int32.ofNat j)]) rfl ?_
    refine At.gf rfl (by decide) h0 rfl ?_
    refine At.ln rfl h1 ?_
    rw [List.length_map, List.length_range]
    refine At.ic2 (tgt := 131) rfl rfl (fun h => absurd (h.symm.trans (decide_eq_false (fun q9 => absurd ((iN_le (a := 8) (b := j) (by omega) (by omega)).mp q9) (by omega)))) (by decide)) (fun _ => ?_)
    refine At.go (q := xm170) rfl 1 (pc' := 113) (L' := [(3, .int (Int32.ofNat j)), (0, .ref (A 0)), (1, .ref (A (20 + i))), (2, .ref q.1.1)]) (st' := [.ref (A 0)]) rfl ?_
    refine At.gf rfl (by decide) h0 rfl ?_
    refine At.go (q := xm170) rfl 1 (pc' := 117) (L' := [(3, .int (Int32.ofNat j)), (0, .ref (A 0)), (1, .ref (A (20 + i))), (2, .ref q.1.1)]) (st' := [.int (Int32.ofNat j), .ref (A 1)]) rfl ?_
    refine At.ql rfl h1 (by decide) rfl (iN_nn (by omega)) (by rw [iN_tn (by omega)]; exact (by rw [List.getElem?_map, List.getElem?_range hj]; rfl)) rfl ?_
    refine At.gf rfl (by decide) a1 rfl ?_
    refine At.go (q := xm170) rfl 1 (pc' := 122) (L' := [(3, .int (Int32.ofNat j)), (0, .ref (A 0)), (1, .ref (A (20 + i))), (2, .ref q.1.1)]) (st' := [.ref q.1.1, .ref (A (36 + j))]) rfl ?_
    refine At.clm (as := [.ref (A (36 + j)), .ref q.1.1]) (rest := []) rfl (by decide) rfl (Nat.le_of_ble_eq_true rfl) (Nat.le_of_ble_eq_true rfl) (xrck_o (by decide) (by decide) a2 (by decide)) (Nat.le_of_ble_eq_true rfl) (m_drop a2 b6 l1 l2) (fun v9 g1 c1 s1 hv9 => ?_)
    obtain ⟨rfl, hR9⟩ := hv9
    have t1 := HSu.sdrp h hj hR9 (by omega)
    have r1 := t1.1
    have hs2 : ∀ i, i < 8 → ((mS M j (sDrp (M.2.2.2.1 j) q.2.1)).2.2.2.1 i).2.2.2.1.length ≤ 3000 := fun i hi => by
      by_cases e : i = j
      · subst e; rw [mS_at]; exact Nat.le_trans (List.length_filter_le _ _) hsj
      · rw [mS_ne e]; exact hsl i hi
    refine At.go (q := xm170) rfl 2 (pc' := 103) (L' := [(3, .int ((Int32.ofNat j) + 1)), (0, .ref (A 0)), (1, .ref (A (20 + i))), (2, .ref q.1.1)]) (st' := []) rfl ?_
    rw [iN_s]
    refine At.wk (L' := [(3, .int (Int32.ofNat (j + 1))), (0, .ref (A 0)), (1, .ref (A (20 + i))), (2, .ref q.1.1)]) (List.forall_mem_cons.mpr ⟨List.mem_of_getElem? (i := 0) rfl, (List.forall_mem_cons.mpr ⟨List.mem_of_getElem? (i := 1) rfl, (List.forall_mem_cons.mpr ⟨List.mem_of_getElem? (i := 2) rfl, (List.forall_mem_cons.mpr ⟨List.mem_of_getElem? (i := 3) rfl, (fun _ h => (List.not_mem_nil h).elim)⟩)⟩)⟩)⟩) (show ([3, 0, 1, 2] : List Nat).Nodup by decide) ?_
    exact ih (j + 1) _ _ g1 (mS M j (sDrp (M.2.2.2.1 j) q.2.1)) (by omega) hq r1 hs2 (fun hp' c s hs => by rw [Nat.add_assoc, Nat.add_assoc]; exact hk hp' _ _ (by have t3 := HSu.tr t1 hs; rw [mDrp_s hj] at t3; exact t3))
/-- what dropping a table makes of a house -/
def drpM (M : HM) (q : TQ) : HM := mDrp (mShelf (mStd (mTabs M (dropT M.2.2.2.2.2.2 q.1.1)) (drF (dropT M.2.2.2.2.2.2 q.1.1) q.2.1 M.1)) (dropE M.2.1 q.2.1)) q.2.1 0
theorem h_dropa {S : List Int32} {hp : List XC} {ow : Nat → Nat} {k : Nat} {A : Nat → Nat} {M : HM} {np nl : Nat} {i : Nat} {q : TQ} {mf : List Value} (h : HR hp ow k A M 0 np nl) (hi : i < 8) (hmf : hp[A 75]? = some (.inr (6, mf))) (hm4 : mf[4]? = some (.ref q.1.1)) (hq : q ∈ M.2.2.2.2.2.2) (hlb : ¬ q.2.2.1.2.1 = (M.2.2.2.1 i).1) : Me S 11 170 [.ref (A 0), .ref (A (20 + i))] hp (fun v hp' c s => v = some (.int 0) ∧ HSt hp hp' ow k A M 116 np nl c s 0 0) := by
  obtain ⟨hO, how, h0, h1, h3, hD, hF, hE, hT, ⟨lv9, hG⟩, hC, hL9, hQ, hW, hS, hTq9, htd, hcap⟩ := id h
  obtain ⟨za, ab, a1, a2, a3, a4, a5, a6, a7, a8, a9, a10, a11, a12, a13, a14⟩ := hS i hi
  obtain ⟨b1, b2, b3, b4, b5, fs9, b6, b7, b8, b9, b10⟩ := hTq9 q hq
  obtain ⟨ca, ka, ra, ga, chk, dv, u1, -⟩ := id b1
  refine At.go (q := xm170) rfl 1 (pc' := 1) (L' := [(0, .ref (A 0)), (1, .ref (A (20 + i)))]) (st' := [.ref (A 0)]) rfl ?_
  refine At.gf rfl (by decide) h0 rfl ?_
  refine At.gf rfl (by decide) hmf hm4 ?_
  refine At.go (q := xm170) rfl 4 (pc' := 13) (L' := [(2, .ref q.1.1), (0, .ref (A 0)), (1, .ref (A (20 + i)))]) (st' := [.ref q.1.1]) rfl ?_
  refine At.gf rfl (by decide) u1 rfl ?_
  refine At.go (q := xm170) rfl 1 (pc' := 17) (L' := [(2, .ref q.1.1), (0, .ref (A 0)), (1, .ref (A (20 + i)))]) (st' := [.ref (A (20 + i)), .int q.2.2.1.2.1]) rfl ?_
  refine At.gf rfl (by decide) a1 rfl ?_
  refine At.ic2 (tgt := 30) rfl rfl (fun _ => ?_) (fun h => absurd (h.symm.trans (decide_eq_true hlb)) (by decide))
  refine At.go (q := xm170) rfl 2 (pc' := 33) (L' := [(2, .ref q.1.1), (0, .ref (A 0)), (1, .ref (A (20 + i)))]) (st' := [.int 116, .ref (A 0)]) rfl ?_
  refine At.pf rfl h0 (Nat.le_of_ble_eq_true rfl) rfl ?_
  obtain ⟨g3, eg3⟩ : ∃ z, z = hp.set (A 0) (.inr (14, [.ref (A 1), .ref (A 2), .ref (A 3), .ref (A 4), .ref (A 5), .ref (A 60), .ref (A 75), .ref (A 6), .ref (A 7), .ref (A 8), .int M.2.2.2.2.2.1, .int 116])) := ⟨_, rfl⟩
  refine At.hpe eg3 ?_
  obtain ⟨t3, f3⟩ := HSu.ref h eg3
  refine At.go (q := xm170) rfl 1 (pc' := 37) (L' := [(2, .ref q.1.1), (0, .ref (A 0)), (1, .ref (A (20 + i)))]) (st' := [.int 0]) rfl ?_
  obtain ⟨x1, x2, x3, x4⟩ := t3
  exact At.rt rfl (xret_i rfl) ⟨_, _, _, _, rfl, rfl, ow, np, nl, fun _ _ => rfl, x1, x2, by omega, by omega⟩
theorem h_dropb {S : List Int32} {hp : List XC} {ow : Nat → Nat} {k : Nat} {A : Nat → Nat} {M : HM} {np nl : Nat} {i : Nat} {q : TQ} {mf : List Value} (h : HR hp ow k A M 0 np nl) (hi : i < 8) (hmf : hp[A 75]? = some (.inr (6, mf))) (hm4 : mf[4]? = some (.ref q.1.1)) (hq : q ∈ M.2.2.2.2.2.2) (hlb : q.2.2.1.2.1 = (M.2.2.2.1 i).1) (hb : (M.2.2.2.1 i).2.2.1 = true) : Me S 11 170 [.ref (A 0), .ref (A (20 + i))] hp (fun v hp' c s => v = some (.int 0) ∧ HSt hp hp' ow k A M 116 np nl c s 0 0) := by
  obtain ⟨hO, how, h0, h1, h3, hD, hF, hE, hT, ⟨lv9, hG⟩, hC, hL9, hQ, hW, hS, hTq9, htd, hcap⟩ := id h
  obtain ⟨za, ab, a1, a2, a3, a4, a5, a6, a7, a8, a9, a10, a11, a12, a13, a14⟩ := hS i hi
  obtain ⟨b1, b2, b3, b4, b5, fs9, b6, b7, b8, b9, b10⟩ := hTq9 q hq
  obtain ⟨ca, ka, ra, ga, chk, dv, u1, -⟩ := id b1
  have a1' := a1
  rw [hb] at a1'
  refine At.go (q := xm170) rfl 1 (pc' := 1) (L' := [(0, .ref (A 0)), (1, .ref (A (20 + i)))]) (st' := [.ref (A 0)]) rfl ?_
  refine At.gf rfl (by decide) h0 rfl ?_
  refine At.gf rfl (by decide) hmf hm4 ?_
  refine At.go (q := xm170) rfl 4 (pc' := 13) (L' := [(2, .ref q.1.1), (0, .ref (A 0)), (1, .ref (A (20 + i)))]) (st' := [.ref q.1.1]) rfl ?_
  refine At.gf rfl (by decide) u1 rfl ?_
  refine At.go (q := xm170) rfl 1 (pc' := 17) (L' := [(2, .ref q.1.1), (0, .ref (A 0)), (1, .ref (A (20 + i)))]) (st' := [.ref (A (20 + i)), .int q.2.2.1.2.1]) rfl ?_
  refine At.gf rfl (by decide) a1' rfl ?_
  refine At.ic2 (tgt := 30) rfl rfl (fun h => absurd (h.symm.trans (decide_eq_false (fun e => e hlb))) (by decide)) (fun _ => ?_)
  refine At.go (q := xm170) rfl 1 (pc' := 24) (L' := [(2, .ref q.1.1), (0, .ref (A 0)), (1, .ref (A (20 + i)))]) (st' := [.ref (A (20 + i))]) rfl ?_
  refine At.gf rfl (by decide) a1' rfl ?_
  refine At.go (q := xm170) rfl 3 (pc' := 33) (L' := [(2, .ref q.1.1), (0, .ref (A 0)), (1, .ref (A (20 + i)))]) (st' := [.int 116, .ref (A 0)]) rfl ?_
  refine At.pf rfl h0 (Nat.le_of_ble_eq_true rfl) rfl ?_
  obtain ⟨g3, eg3⟩ : ∃ z, z = hp.set (A 0) (.inr (14, [.ref (A 1), .ref (A 2), .ref (A 3), .ref (A 4), .ref (A 5), .ref (A 60), .ref (A 75), .ref (A 6), .ref (A 7), .ref (A 8), .int M.2.2.2.2.2.1, .int 116])) := ⟨_, rfl⟩
  refine At.hpe eg3 ?_
  obtain ⟨t3, f3⟩ := HSu.ref h eg3
  refine At.go (q := xm170) rfl 1 (pc' := 37) (L' := [(2, .ref q.1.1), (0, .ref (A 0)), (1, .ref (A (20 + i)))]) (st' := [.int 0]) rfl ?_
  obtain ⟨x1, x2, x3, x4⟩ := t3
  exact At.rt rfl (xret_i rfl) ⟨_, _, _, _, rfl, rfl, ow, np, nl, fun _ _ => rfl, x1, x2, by omega, by omega⟩
theorem h_dropc {S : List Int32} {hp : List XC} {ow : Nat → Nat} {k : Nat} {A : Nat → Nat} {M : HM} {np nl : Nat} {i : Nat} {q : TQ} {mf : List Value} (h : HR hp ow k A M 0 np nl) (hi : i < 8) (hmf : hp[A 75]? = some (.inr (6, mf))) (hm4 : mf[4]? = some (.ref q.1.1)) (hq : q ∈ M.2.2.2.2.2.2) (hlb : q.2.2.1.2.1 = (M.2.2.2.1 i).1) (hb : (M.2.2.2.1 i).2.2.1 = false) (hSt : StT M.2.2.2.2.2.2 M.1) (hst9 : M.1.length ≤ 60000) (hl9 : M.2.1.length ≤ 3000) (hsl : ∀ i, i < 8 → (M.2.2.2.1 i).2.2.2.1.length ≤ 3000) : Me S 11 170 [.ref (A 0), .ref (A (20 + i))] hp (fun v hp' c s => v = some (.int 1) ∧ HSt hp hp' ow k A (drpM M q) 0 np nl c s 0 0) := by
  obtain ⟨hO, how, h0, h1, h3, hD, hF, hE, hT, ⟨lv9, hG⟩, hC, hL9, hQ, hW, hS, hTq9, htd, hcap⟩ := id h
  obtain ⟨za, ab, a1, a2, a3, a4, a5, a6, a7, a8, a9, a10, a11, a12, a13, a14⟩ := hS i hi
  obtain ⟨b1, b2, b3, b4, b5, fs9, b6, b7, b8, b9, b10⟩ := hTq9 q hq
  obtain ⟨ca, ka, ra, ga, chk, dv, u1, -⟩ := id b1
  have a1' := a1
  rw [hb] at a1'
  refine At.go (q := xm170) rfl 1 (pc' := 1) (L' := [(0, .ref (A 0)), (1, .ref (A (20 + i)))]) (st' := [.ref (A 0)]) rfl ?_
  refine At.gf rfl (by decide) h0 rfl ?_
  refine At.gf rfl (by decide) hmf hm4 ?_
  refine At.go (q := xm170) rfl 4 (pc' := 13) (L' := [(2, .ref q.1.1), (0, .ref (A 0)), (1, .ref (A (20 + i)))]) (st' := [.ref q.1.1]) rfl ?_
  refine At.gf rfl (by decide) u1 rfl ?_
  refine At.go (q := xm170) rfl 1 (pc' := 17) (L' := [(2, .ref q.1.1), (0, .ref (A 0)), (1, .ref (A (20 + i)))]) (st' := [.ref (A (20 + i)), .int q.2.2.1.2.1]) rfl ?_
  refine At.gf rfl (by decide) a1' rfl ?_
  refine At.ic2 (tgt := 30) rfl rfl (fun h => absurd (h.symm.trans (decide_eq_false (fun e => e hlb))) (by decide)) (fun _ => ?_)
  refine At.go (q := xm170) rfl 1 (pc' := 24) (L' := [(2, .ref q.1.1), (0, .ref (A 0)), (1, .ref (A (20 + i)))]) (st' := [.ref (A (20 + i))]) rfl ?_
  refine At.gf rfl (by decide) a1' rfl ?_
  refine At.go (q := xm170) rfl 3 (pc' := 40) (L' := [(2, .ref q.1.1), (0, .ref (A 0)), (1, .ref (A (20 + i)))]) (st' := [.int 1, .ref q.1.1]) rfl ?_
  refine At.pf rfl u1 (Nat.le_of_ble_eq_true rfl) rfl ?_
  obtain ⟨g1, eg1⟩ : ∃ z, z = hp.set q.1.1 (.inr (13, [.int q.2.1, .int q.2.2.1.1, .int q.2.2.1.2.1, .ref ca, .ref ka, .ref ra, chk, .ref ga, .int 1])) := ⟨_, rfl⟩
  refine At.hpe eg1 ?_
  obtain ⟨t1, f1⟩ := HSu.flag h hq u1 eg1
  have r1 := t1.1
  have k1 := r1.2.2.1
  have kD : hLs g1 (A 2) M.1 := r1.2.2.2.2.2.1
  have hdl := kD.len
  obtain ⟨dfs, hDo⟩ := kD.ob
  have hq1 : dropQ q ∈ dropT M.2.2.2.2.2.2 q.1.1 := List.mem_map.mpr ⟨q, hq, if_pos rfl⟩
  have hSt1 : StT (dropT M.2.2.2.2.2.2 q.1.1) M.1 := fun a ha => by
    obtain ⟨p, hp9, e9⟩ := hSt a ha
    exact ⟨_, List.mem_map.mpr ⟨p, hp9, rfl⟩, by split <;> exact e9⟩
  refine At.go (q := xm170) rfl 1 (pc' := 44) (L' := [(2, .ref q.1.1), (0, .ref (A 0)), (1, .ref (A (20 + i)))]) (st' := [.ref (A 0)]) rfl ?_
  refine At.gf rfl (by decide) k1 rfl ?_
  refine At.clp (as := [.ref (A 2)]) (rest := []) rfl (by decide) rfl (Nat.le_of_ble_eq_true rfl) (Nat.le_of_ble_eq_true rfl) (xrck_o (by decide) (by decide) hDo (by decide)) (Nat.le_of_ble_eq_true rfl) (m_size kD) ?_
  refine At.go (q := xm170) rfl 3 (pc' := 53) (L' := [(3, .int ((Int32.ofNat M.1.length) - 1)), (2, .ref q.1.1), (0, .ref (A 0)), (1, .ref (A (20 + i)))]) (st' := []) rfl ?_
  refine At.wk (L' := [(3, .int ((Int32.ofNat M.1.length) - 1)), (0, .ref (A 0)), (1, .ref (A (20 + i))), (2, .ref q.1.1)]) (List.forall_mem_cons.mpr ⟨List.mem_of_getElem? (i := 0) rfl, (List.forall_mem_cons.mpr ⟨List.mem_of_getElem? (i := 2) rfl, (List.forall_mem_cons.mpr ⟨List.mem_of_getElem? (i := 3) rfl, (List.forall_mem_cons.mpr ⟨List.mem_of_getElem? (i := 1) rfl, (fun _ h => (List.not_mem_nil h).elim)⟩)⟩)⟩)⟩) (show ([3, 2, 0, 1] : List Nat).Nodup by decide) ?_
  refine dr_loop1 (M := mTabs M (dropT M.2.2.2.2.2.2 q.1.1)) (q := dropQ q) hq1 M.1.length g1 M.1 (Nat.le_refl _) (by omega) r1 hSt1 (fun g2 t2 => ?_)
  rw [List.take_of_length_le (Nat.le_refl _), List.drop_eq_nil_of_le (Nat.le_refl _), List.append_nil] at t2
  have t2' : HSu g1 g2 ow k A (mStd (mTabs M (dropT M.2.2.2.2.2.2 q.1.1)) (drF (dropT M.2.2.2.2.2.2 q.1.1) q.2.1 M.1)) 0 np nl 0 0 0 0 := t2
  have r2 := t2'.1
  have tt2 := HSu.tr t1 t2'
  obtain ⟨kO, kow, k0, k1', k3, kDD, kF, kE, kT, kG, kC, kL9, kQ, kW, kS, kTq9, ktd, kcap⟩ := id r2
  obtain ⟨fas, fl1, fl2⟩ := kF
  obtain ⟨d1, d2, d3, d4, d5, fs8, d6, d7, d8, d9, d10⟩ := kTq9 (dropQ q) hq1
  have hfs : ∃ tf, fs8 = .int q.2.1 :: tf := by
    obtain ⟨ca, ka, ra, ga, chk, dv, u1, -⟩ := d1
    cases u1.symm.trans d6
    exact ⟨_, rfl⟩
  obtain ⟨tf9, rfl⟩ := hfs
  refine At.go (q := xm170) rfl 1 (pc' := 94) (L' := [(0, .ref (A 0)), (1, .ref (A (20 + i))), (2, .ref q.1.1)]) (st' := [.ref (A 0)]) rfl ?_
  refine At.gf rfl (by decide) k0 rfl ?_
  refine At.go (q := xm170) rfl 1 (pc' := 98) (L' := [(0, .ref (A 0)), (1, .ref (A (20 + i))), (2, .ref q.1.1)]) (st' := [.ref q.1.1, .ref (A 3)]) rfl ?_
  refine At.clm (as := [.ref (A 3), .ref q.1.1]) (rest := []) rfl (by decide) rfl (Nat.le_of_ble_eq_true rfl) (Nat.le_of_ble_eq_true rfl) (xrck_o (by decide) (by decide) k3 (by decide)) (Nat.le_of_ble_eq_true rfl) (m_drop k3 d6 fl1 fl2) (fun v9 g3 c3 s3 hv9 => ?_)
  obtain ⟨rfl, hR9⟩ := hv9
  have t3 := HSu.hdrp r2 hR9 (by exact hl9)
  have tt3 := HSu.tr tt2 t3
  have r3 := t3.1
  refine At.go (q := xm170) rfl 2 (pc' := 103) (L' := [(3, .int 0), (0, .ref (A 0)), (1, .ref (A (20 + i))), (2, .ref q.1.1)]) (st' := []) rfl ?_
  refine At.wk (L' := [(3, .int (Int32.ofNat 0)), (0, .ref (A 0)), (1, .ref (A (20 + i))), (2, .ref q.1.1)]) (List.forall_mem_cons.mpr ⟨List.mem_of_getElem? (i := 0) rfl, (List.forall_mem_cons.mpr ⟨List.mem_of_getElem? (i := 1) rfl, (List.forall_mem_cons.mpr ⟨List.mem_of_getElem? (i := 2) rfl, (List.forall_mem_cons.mpr ⟨List.mem_of_getElem? (i := 3) rfl, (fun _ h => (List.not_mem_nil h).elim)⟩)⟩)⟩)⟩) (show ([3, 0, 1, 2] : List Nat).Nodup by decide) ?_
  refine dr_loop2 (q := dropQ q) 8 0 _ _ g3 _ rfl hq1 r3 hsl (fun hp' c s t4 => ?_)
  obtain ⟨x1, x2, x3, x4⟩ := HSu.tr tt3 t4
  exact ⟨_, _, _, _, rfl, rfl, ow, np, nl, fun _ _ => rfl, x1, x2, by omega, by omega⟩
