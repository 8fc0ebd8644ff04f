/-! the house: isSound (written by wip/p27/c9999999996.py) -/
/-- what a session sees is sound -/
def sndM (M : HM) (j : Nat) : Prop := Srt (vwE M j) ∧ EnT M.2.2.2.2.2.2 (vwE M j) ∧ (vwE M j).length ≤ 3000 ∧ neatE (vwE M j) = true ∧ metAll (TIq M.2.2.2.2.2.2) (lookE (TIq M.2.2.2.2.2.2) (vwE M j) (M.2.2.2.1 j).1) = true
theorem so_loop {S : List Int32} {ow : Nat → Nat} {k : Nat} {A : Nat → Nat} {M : HM} {rf : Int32} {np nl : Nat} {Q : XO → Prop} (hs9 : ∀ j, j < 8 → sndM M j) : ∀ (f j nc ns : Nat) (hp : List XC), j + f = 8 → HR hp ow k A M rf np nl → (∀ hp' c s, HSu hp hp' ow k A M rf np nl c s 0 0 → Q (.inl (some (.int 1), hp', nc + c, ns + s))) → At S 10 270 2 [(1, .int (Int32.ofNat j)), (0, .ref (A 0))] [] hp nc ns Q := by
  intro f
  induction f with
  | zero =>
    intro j nc ns hp hf h hk
    obtain rfl : j = 8 := by omega
    obtain ⟨hO, how, h0, h1, h3, hD, hF, hE, hT, ⟨lv9, hG⟩, hC, hL9, hQ, hW, hS, hTq9, htd, hcap⟩ := id h
    refine At.go (q := xm270) rfl 2 (pc' := 4) (L' := [(1, .int (Int32.ofNat 8)), (0, .ref (A 0))]) (st' := [.ref (A 0), .int (Int32.ofNat 8)]) rfl ?_
    refine At.gf rfl (by decide) h0 rfl ?_
    refine At.ln rfl h1 ?_
    rw [List.length_map, List.length_range]
    refine At.ic2 (tgt := 53) rfl rfl (fun _ => ?_) (fun h => absurd (h.symm.trans (show decide (Int32.ofNat 8 ≤ Int32.ofNat 8) = true by decide)) (by decide))
    refine At.go (q := xm270) rfl 1 (pc' := 54) (L' := [(1, .int (Int32.ofNat 8)), (0, .ref (A 0))]) (st' := [.int 1]) rfl ?_
    exact At.rt rfl rfl (hk hp 0 0 ⟨h, FrX.rf, by omega, by omega⟩)
  | succ f ih =>
    intro j nc ns hp hf h hk
    have hj : j < 8 := by omega
    obtain ⟨hO, how, h0, h1, h3, hD, hF, hE, hT, ⟨lv9, hG⟩, hC, hL9, hQ, hW, hS, hTq9, htd, hcap⟩ := id h
    obtain ⟨za, ab, a1, a2, a3, a4, a5, a6, a7, a8, a9, a10, a11, a12, a13, a14⟩ := hS j hj
    have hlk9 : ∀ {es : List En} {lb : Int32}, EnT M.2.2.2.2.2.2 es → EnT M.2.2.2.2.2.2 (lookE (TIq M.2.2.2.2.2.2) es lb) := fun h9 e he => h9 e (lookE_sub.subset he)
    obtain ⟨n1, n2, n3, n4, n7⟩ := hs9 j hj
    refine At.go (q := xm270) rfl 2 (pc' := 4) (L' := [(1, .int (Int32.ofNat j)), (0, .ref (A 0))]) (st' := [.ref (A 0), .int (Int32.ofNat j)]) rfl ?_
    refine At.gf rfl (by decide) h0 rfl ?_
    refine At.ln rfl h1 ?_
    rw [List.length_map, List.length_range]
    refine At.ic2 (tgt := 53) rfl rfl (fun h => absurd (h.symm.trans (decide_eq_false (fun q9 => absurd ((iN_le (a := 8) (b := j) (by omega) (by omega)).mp q9) (by omega)))) (by decide)) (fun _ => ?_)
    refine At.go (q := xm270) rfl 1 (pc' := 12) (L' := [(1, .int (Int32.ofNat j)), (0, .ref (A 0))]) (st' := [.ref (A 0)]) rfl ?_
    refine At.gf rfl (by decide) h0 rfl ?_
    refine At.go (q := xm270) rfl 1 (pc' := 16) (L' := [(1, .int (Int32.ofNat j)), (0, .ref (A 0))]) (st' := [.int (Int32.ofNat j), .ref (A 1)]) rfl ?_
    refine At.ql rfl h1 (by decide) rfl (iN_nn (by omega)) (by rw [iN_tn (by omega)]; exact (by rw [List.getElem?_map, List.getElem?_range hj]; rfl)) rfl ?_
    refine At.go (q := xm270) rfl 3 (pc' := 20) (L' := [(2, .ref (A (20 + j))), (1, .int (Int32.ofNat j)), (0, .ref (A 0))]) (st' := [.ref (A (20 + j)), .ref (A 0)]) rfl ?_
    refine At.clm (as := [.ref (A 0), .ref (A (20 + j))]) (rest := []) rfl (by decide) rfl (Nat.le_of_ble_eq_true rfl) (Nat.le_of_ble_eq_true rfl) (xrck_o (by decide) (by decide) h0 (by decide)) (Nat.le_of_ble_eq_true rfl) (m_lookFor h hj n1 n2 n3) (fun v9 g1 c1 s1 hv9 => ?_)
    obtain ⟨rfl, f1, g2, g3, g4, g5, g6⟩ := hv9
    obtain ⟨r1, r2, r3, r4⟩ := h.looked f1 g2 g3 g4 g5 g6 (by omega)
    have t1 : HSu hp g1 ow k A M rf np nl c1 s1 0 0 := ⟨r1, r2, by omega, by omega⟩
    have hvw := h_view (S := S) r1 hj
    obtain ⟨hvo, vas, hvl, hve⟩ := r1.view hj
    have k0 := r1.2.2.1
    obtain ⟨las, hl1, hl2⟩ := g3
    have hTl := r1.tab (hlk9 (lb := (M.2.2.2.1 j).1) n2)
    have n5 := lookE_srt (TI := (TIq M.2.2.2.2.2.2)) (lb := (M.2.2.2.1 j).1) n1
    have nothing := True.intro
    refine At.go (q := xm270) rfl 3 (pc' := 26) (L' := [(2, .ref (A (20 + j))), (1, .int (Int32.ofNat j)), (0, .ref (A 0))]) (st' := [.ref (A (20 + j)), .ref (A 0)]) rfl ?_
    refine At.clp (as := [.ref (A 0), .ref (A (20 + j))]) (rest := []) rfl (by decide) rfl (Nat.le_of_ble_eq_true rfl) (Nat.le_of_ble_eq_true rfl) (xrck_o (by decide) (by decide) k0 (by decide)) (Nat.le_of_ble_eq_true rfl) (hvw) ?_
    refine At.clp (as := [.ref (A (vwO M j))]) (rest := []) rfl (by decide) rfl (Nat.le_of_ble_eq_true rfl) (Nat.le_of_ble_eq_true rfl) (xrck_o (by decide) (by decide) hvo (by decide)) (Nat.le_of_ble_eq_true rfl) (m_isNeat n1 hvo hvl hve) ?_
    rw [n4]
    refine At.go (q := xm270) rfl 2 (pc' := 36) (L' := [(2, .ref (A (20 + j))), (1, .int (Int32.ofNat j)), (0, .ref (A 0))]) (st' := [.ref (A 0)]) rfl ?_
    refine At.gf rfl (by decide) k0 rfl ?_
    refine At.clp (as := [.ref (A 6)]) (rest := []) rfl (by decide) rfl (Nat.le_of_ble_eq_true rfl) (Nat.le_of_ble_eq_true rfl) (xrck_o (by decide) (by decide) g2 (by decide)) (Nat.le_of_ble_eq_true rfl) (m_isMetWhole n5 g2 hl1 hl2 hTl) ?_
    rw [n7]
    refine At.go (q := xm270) rfl 3 (pc' := 2) (L' := [(1, .int ((Int32.ofNat j) + 1)), (2, .ref (A (20 + j))), (0, .ref (A 0))]) (st' := []) rfl ?_
    rw [iN_s]
    refine At.wk (L' := [(1, .int (Int32.ofNat (j + 1))), (0, .ref (A 0))]) (List.forall_mem_cons.mpr ⟨List.mem_of_getElem? (i := 0) rfl, (List.forall_mem_cons.mpr ⟨List.mem_of_getElem? (i := 2) rfl, (fun _ h => (List.not_mem_nil h).elim)⟩)⟩) (show ([1, 2, 0] : List Nat).Nodup by decide) ?_
    exact ih (j + 1) _ _ g1 (by omega) r1 (fun hp' c s hs => by rw [Nat.add_assoc, Nat.add_assoc]; exact hk hp' _ _ (by have t3 := HSu.tr t1 hs; exact t3))
theorem h_sound {S : List Int32} {hp : List XC} {ow : Nat → Nat} {k : Nat} {A : Nat → Nat} {M : HM} {rf : Int32} {np nl : Nat} (h : HR hp ow k A M rf np nl) (hs9 : ∀ j, j < 8 → sndM M j) : Me S 10 270 [.ref (A 0)] hp (fun v hp' c s => v = some (.int 1) ∧ HSu hp hp' ow k A M rf np nl c s 0 0) := by
  refine At.go (q := xm270) rfl 2 (pc' := 2) (L' := [(1, .int 0), (0, .ref (A 0))]) (st' := []) rfl ?_
  refine At.wk (L' := [(1, .int (Int32.ofNat 0)), (0, .ref (A 0))]) (List.forall_mem_cons.mpr ⟨List.mem_of_getElem? (i := 0) rfl, (List.forall_mem_cons.mpr ⟨List.mem_of_getElem? (i := 1) rfl, (fun _ h => (List.not_mem_nil h).elim)⟩)⟩) (show ([1, 0] : List Nat).Nodup by decide) ?_
  exact so_loop hs9 8 0 0 0 hp rfl h (fun hp' c s hs => ⟨_, _, _, _, rfl, rfl, by rw [Nat.zero_add, Nat.zero_add]; exact hs⟩)
