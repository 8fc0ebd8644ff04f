/-! the law's answer: a sum of what is told (by c99999999999999996a.py) -/
def anV (a : List Int32) (j : Nat) : Int32 := if (a[j]?).getD 0 = -1000000000 then 7777 else (a[j]?).getD 0
def anC (a : List Int32) (w r : Nat) : Nat → Nat → Int64 → Int64
  | 0, _, x => x
  | f + 1, c, x => anC a w r f (c + 1) (31 * x + (anV a (r * w + c)).toInt64)
def anR (a : List Int32) (w : Nat) : Nat → Nat → Int64 → Int64
  | 0, _, x => x
  | f + 1, r, x => anR a w f (r + 1) (anC a w r w 0 x)
def anL (s : SM) : Int64 := anR s.2.2.2.2.2.2.1.2.2 s.2.2.2.2.2.2.1.2.1 s.2.2.2.2.2.2.1.1 0 (Int32.ofNat s.2.2.2.2.2.2.1.1).toInt64
theorem an_cell {S : List Int32} {hp : List XC} {ow : Nat → Nat} {k : Nat} {A : Nat → Nat} {M : HM} {rf : Int32} {np nl i : Nat} (h : HR hp ow k A M rf np nl) (hi : i < 8) {r c : Nat} (hr : r < (M.2.2.2.1 i).2.2.2.2.2.2.1.1) (hc : c < (M.2.2.2.1 i).2.2.2.2.2.2.1.2.1) : ∃ v, ((M.2.2.2.1 i).2.2.2.2.2.2.1.2.2[r * (M.2.2.2.1 i).2.2.2.2.2.2.1.2.1 + c]?).getD 0 = v ∧ Pu S 1 263 [.ref (A 0), .int (Int32.ofNat i), .int (Int32.ofNat r), .int (Int32.ofNat c)] hp (.int (bI (!decide (v = -1000000000)))) ∧ (¬ v = -1000000000 → Pu S 1 266 [.ref (A 0), .int (Int32.ofNat i), .int (Int32.ofNat r), .int (Int32.ofNat c)] hp (.int v)) := by
  obtain ⟨hO, how, h0, h1, h3, hD, hF, hE, hT, ⟨lv9, hG⟩, hC, hL9, hQ, hW, hS, hTq9, htd, hcap⟩ := id h
  obtain ⟨za, ab, a1, a2, a3, a4, a5, a6, a7, a8, a9, a10, a11, a12, a13, a14⟩ := hS i hi
  have hlt : r * (M.2.2.2.1 i).2.2.2.2.2.2.1.2.1 + c < (M.2.2.2.1 i).2.2.2.2.2.2.1.1 * (M.2.2.2.1 i).2.2.2.2.2.2.1.2.1 := by
    have h9 := Nat.mul_le_mul_right (M.2.2.2.1 i).2.2.2.2.2.2.1.2.1 (show r + 1 ≤ (M.2.2.2.1 i).2.2.2.2.2.2.1.1 by omega)
    rw [Nat.succ_mul] at h9
    omega
  obtain ⟨v, hv⟩ : ∃ v, ab[r * (M.2.2.2.1 i).2.2.2.2.2.2.1.2.1 + c]? = some v := ⟨_, List.getElem?_eq_getElem (by omega)⟩
  have hv2 : (M.2.2.2.1 i).2.2.2.2.2.2.1.2.2[r * (M.2.2.2.1 i).2.2.2.2.2.2.1.2.1 + c]? = some v := by rw [← a8, List.getElem?_take, if_pos hlt]; exact hv
  have hav : (ab.map Value.int)[r * (M.2.2.2.1 i).2.2.2.2.2.2.1.2.1 + c]? = some (.int v) := by rw [List.getElem?_map, hv]; rfl
  refine ⟨v, by rw [hv2]; rfl, m_hisKnown h0 rfl h1 (by rw [List.length_map, List.length_range]; decide) (by rw [List.getElem?_map, List.getElem?_range hi]; rfl) a1 a6 (by rw [List.length_map]; omega) hav hr hc (by omega) (by omega), fun hk => m_hcell h0 rfl h1 (by rw [List.length_map, List.length_range]; decide) (by rw [List.getElem?_map, List.getElem?_range hi]; rfl) a1 a6 (by rw [List.length_map]; omega) hav hr hc (by omega) (by omega) hk⟩
theorem an_cols {S : List Int32} {hp : List XC} {ow : Nat → Nat} {k : Nat} {A : Nat → Nat} {M : HM} {rf : Int32} {np nl i : Nat} (h : HR hp ow k A M rf np nl) (hi : i < 8) {r nc ns : Nat} {Q : XO → Prop} (hr : r < (M.2.2.2.1 i).2.2.2.2.2.2.1.1) : ∀ (f c : Nat) (x : Int64), c + f = (M.2.2.2.1 i).2.2.2.2.2.2.1.2.1 → (∀ x', x' = anC (M.2.2.2.1 i).2.2.2.2.2.2.1.2.2 (M.2.2.2.1 i).2.2.2.2.2.2.1.2.1 r f c x → At S 2 260 74 [(5, .int (Int32.ofNat (M.2.2.2.1 i).2.2.2.2.2.2.1.2.1)), (4, .int (Int32.ofNat r)), (2, .long x'), (0, .ref (A 0)), (1, .int (Int32.ofNat i))] [] hp nc ns Q) → At S 2 260 23 [(5, .int (Int32.ofNat c)), (4, .int (Int32.ofNat r)), (2, .long x), (0, .ref (A 0)), (1, .int (Int32.ofNat i))] [] hp nc ns Q := by
  obtain ⟨hO, how, h0, h1, h3, hD, hF, hE, hT, ⟨lv9, hG⟩, hC, hL9, hQ, hW, hS, hTq9, htd, hcap⟩ := id h
  obtain ⟨za, ab, a1, a2, a3, a4, a5, a6, a7, a8, a9, a10, a11, a12, a13, a14⟩ := hS i hi
  intro f
  induction f with
  | zero =>
    intro c x hf hk
    obtain rfl : c = (M.2.2.2.1 i).2.2.2.2.2.2.1.2.1 := by omega
    refine At.go (q := xm260) rfl 3 (pc' := 27) (L' := [(5, .int (Int32.ofNat (M.2.2.2.1 i).2.2.2.2.2.2.1.2.1)), (4, .int (Int32.ofNat r)), (2, .long x), (0, .ref (A 0)), (1, .int (Int32.ofNat i))]) (st' := [.int (Int32.ofNat i), .ref (A 0), .int (Int32.ofNat (M.2.2.2.1 i).2.2.2.2.2.2.1.2.1)]) rfl ?_
    refine At.clp (as := [.ref (A 0), .int (Int32.ofNat i)]) (rest := [.int (Int32.ofNat (M.2.2.2.1 i).2.2.2.2.2.2.1.2.1)]) rfl (by decide) rfl (Nat.le_of_ble_eq_true rfl) (Nat.le_of_ble_eq_true rfl) (xrck_o (by decide) (by decide) h0 (by decide)) (Nat.le_of_ble_eq_true rfl) (m_hcolumns h0 rfl h1 (by rw [List.length_map, List.length_range]; decide) (by rw [List.getElem?_map, List.getElem?_range hi]; rfl) a1) ?_
    refine At.ic2 (tgt := 74) rfl rfl (fun _ => hk x rfl) (fun h9 => absurd (h9.symm.trans (decide_eq_true (Int32.not_lt.mp (fun h => Int32.lt_irrefl h)))) (by decide))
  | succ f ih =>
    intro c x hf hk
    refine At.go (q := xm260) rfl 3 (pc' := 27) (L' := [(5, .int (Int32.ofNat c)), (4, .int (Int32.ofNat r)), (2, .long x), (0, .ref (A 0)), (1, .int (Int32.ofNat i))]) (st' := [.int (Int32.ofNat i), .ref (A 0), .int (Int32.ofNat c)]) rfl ?_
    refine At.clp (as := [.ref (A 0), .int (Int32.ofNat i)]) (rest := [.int (Int32.ofNat c)]) rfl (by decide) rfl (Nat.le_of_ble_eq_true rfl) (Nat.le_of_ble_eq_true rfl) (xrck_o (by decide) (by decide) h0 (by decide)) (Nat.le_of_ble_eq_true rfl) (m_hcolumns h0 rfl h1 (by rw [List.length_map, List.length_range]; decide) (by rw [List.getElem?_map, List.getElem?_range hi]; rfl) a1) ?_
    refine At.ic2 (tgt := 74) rfl rfl (fun h9 => absurd (h9.symm.trans (decide_eq_false (fun h => absurd ((iN_lt (a := c) (b := (M.2.2.2.1 i).2.2.2.2.2.2.1.2.1) (by omega) (by omega)).mpr (by omega)) (Int32.not_lt.mpr h)))) (by decide)) (fun _ => ?_)
    obtain ⟨v, hv, hk1, hk2⟩ := an_cell (S := S) h hi hr (show c < (M.2.2.2.1 i).2.2.2.2.2.2.1.2.1 by omega)
    refine At.go (q := xm260) rfl 7 (pc' := 44) (L' := [(5, .int (Int32.ofNat c)), (4, .int (Int32.ofNat r)), (2, .long x), (0, .ref (A 0)), (1, .int (Int32.ofNat i))]) (st' := [.int (Int32.ofNat c), .int (Int32.ofNat r), .int (Int32.ofNat i), .ref (A 0), .long (31 * x)]) rfl ?_
    refine At.clp (as := [.ref (A 0), .int (Int32.ofNat i), .int (Int32.ofNat r), .int (Int32.ofNat c)]) (rest := [.long (31 * x)]) rfl (by decide) rfl (Nat.le_of_ble_eq_true rfl) (Nat.le_of_ble_eq_true rfl) (xrck_o (by decide) (by decide) h0 (by decide)) (Nat.le_of_ble_eq_true rfl) hk1 ?_
    have fin : ∀ z : Int32, z = anV (M.2.2.2.1 i).2.2.2.2.2.2.1.2.2 (r * (M.2.2.2.1 i).2.2.2.2.2.2.1.2.1 + c) → At S 2 260 65 [(5, .int (Int32.ofNat c)), (4, .int (Int32.ofNat r)), (2, .long x), (0, .ref (A 0)), (1, .int (Int32.ofNat i))] [.int z, .long (31 * x)] hp nc ns Q := fun z hz => by
      refine At.go (q := xm260) rfl 5 (pc' := 23) (L' := [(5, .int (Int32.ofNat c + 1)), (2, .long (31 * x + z.toInt64)), (4, .int (Int32.ofNat r)), (0, .ref (A 0)), (1, .int (Int32.ofNat i))]) (st' := []) rfl ?_
      rw [iN_s]
      refine At.wk (L' := [(5, .int (Int32.ofNat (c + 1))), (4, .int (Int32.ofNat r)), (2, .long (31 * x + z.toInt64)), (0, .ref (A 0)), (1, .int (Int32.ofNat i))]) (List.forall_mem_cons.mpr ⟨List.mem_of_getElem? (i := 0) rfl, (List.forall_mem_cons.mpr ⟨List.mem_of_getElem? (i := 2) rfl, (List.forall_mem_cons.mpr ⟨List.mem_of_getElem? (i := 1) rfl, (List.forall_mem_cons.mpr ⟨List.mem_of_getElem? (i := 3) rfl, (List.forall_mem_cons.mpr ⟨List.mem_of_getElem? (i := 4) rfl, (fun _ h => (List.not_mem_nil h).elim)⟩)⟩)⟩)⟩)⟩) (show ([5, 2, 4, 0, 1] : List Nat).Nodup by decide) ?_
      refine ih (c + 1) _ (by omega) (fun x' hx' => hk x' ?_)
      rw [hx', hz]
      rfl
    by_cases hkn : v = -1000000000
    · rw [hkn]
      refine At.go (q := xm260) rfl 1 (pc' := 62) (L' := [(5, .int (Int32.ofNat c)), (4, .int (Int32.ofNat r)), (2, .long x), (0, .ref (A 0)), (1, .int (Int32.ofNat i))]) (st' := [.long (31 * x)]) rfl ?_
      refine At.go (q := xm260) rfl 1 (pc' := 65) (L' := [(5, .int (Int32.ofNat c)), (4, .int (Int32.ofNat r)), (2, .long x), (0, .ref (A 0)), (1, .int (Int32.ofNat i))]) (st' := [.int 7777, .long (31 * x)]) rfl ?_
      refine fin 7777 ?_
      unfold anV
      rw [hv, if_pos hkn]
    · rw [show (!decide (v = -1000000000)) = true by rw [decide_eq_false hkn]; rfl]
      refine At.go (q := xm260) rfl 5 (pc' := 56) (L' := [(5, .int (Int32.ofNat c)), (4, .int (Int32.ofNat r)), (2, .long x), (0, .ref (A 0)), (1, .int (Int32.ofNat i))]) (st' := [.int (Int32.ofNat c), .int (Int32.ofNat r), .int (Int32.ofNat i), .ref (A 0), .long (31 * x)]) rfl ?_
      refine At.clp (as := [.ref (A 0), .int (Int32.ofNat i), .int (Int32.ofNat r), .int (Int32.ofNat c)]) (rest := [.long (31 * x)]) rfl (by decide) rfl (Nat.le_of_ble_eq_true rfl) (Nat.le_of_ble_eq_true rfl) (xrck_o (by decide) (by decide) h0 (by decide)) (Nat.le_of_ble_eq_true rfl) (hk2 hkn) ?_
      refine At.go (q := xm260) rfl 1 (pc' := 65) (L' := [(5, .int (Int32.ofNat c)), (4, .int (Int32.ofNat r)), (2, .long x), (0, .ref (A 0)), (1, .int (Int32.ofNat i))]) (st' := [.int v, .long (31 * x)]) rfl ?_
      refine fin v ?_
      unfold anV
      rw [hv, if_neg hkn]
theorem an_rows {S : List Int32} {hp : List XC} {ow : Nat → Nat} {k : Nat} {A : Nat → Nat} {M : HM} {rf : Int32} {np nl i : Nat} (h : HR hp ow k A M rf np nl) (hi : i < 8) {nc ns : Nat} : ∀ (f r : Nat) (x : Int64), r + f = (M.2.2.2.1 i).2.2.2.2.2.2.1.1 → At S 2 260 10 [(4, .int (Int32.ofNat r)), (2, .long x), (0, .ref (A 0)), (1, .int (Int32.ofNat i))] [] hp nc ns (fun o => o = .inl (some (.long (anR (M.2.2.2.1 i).2.2.2.2.2.2.1.2.2 (M.2.2.2.1 i).2.2.2.2.2.2.1.2.1 f r x)), hp, nc, ns)) := by
  obtain ⟨hO, how, h0, h1, h3, hD, hF, hE, hT, ⟨lv9, hG⟩, hC, hL9, hQ, hW, hS, hTq9, htd, hcap⟩ := id h
  obtain ⟨za, ab, a1, a2, a3, a4, a5, a6, a7, a8, a9, a10, a11, a12, a13, a14⟩ := hS i hi
  intro f
  induction f with
  | zero =>
    intro r x hf
    obtain rfl : r = (M.2.2.2.1 i).2.2.2.2.2.2.1.1 := by omega
    refine At.go (q := xm260) rfl 3 (pc' := 14) (L' := [(4, .int (Int32.ofNat (M.2.2.2.1 i).2.2.2.2.2.2.1.1)), (2, .long x), (0, .ref (A 0)), (1, .int (Int32.ofNat i))]) (st' := [.int (Int32.ofNat i), .ref (A 0), .int (Int32.ofNat (M.2.2.2.1 i).2.2.2.2.2.2.1.1)]) rfl ?_
    refine At.clp (as := [.ref (A 0), .int (Int32.ofNat i)]) (rest := [.int (Int32.ofNat (M.2.2.2.1 i).2.2.2.2.2.2.1.1)]) rfl (by decide) rfl (Nat.le_of_ble_eq_true rfl) (Nat.le_of_ble_eq_true rfl) (xrck_o (by decide) (by decide) h0 (by decide)) (Nat.le_of_ble_eq_true rfl) (m_hrows h0 rfl h1 (by rw [List.length_map, List.length_range]; decide) (by rw [List.getElem?_map, List.getElem?_range hi]; rfl) a1) ?_
    refine At.ic2 (tgt := 80) rfl rfl (fun _ => ?_) (fun h9 => absurd (h9.symm.trans (decide_eq_true (Int32.not_lt.mp (fun h => Int32.lt_irrefl h)))) (by decide))
    refine At.go (q := xm260) rfl 1 (pc' := 81) (L' := [(4, .int (Int32.ofNat (M.2.2.2.1 i).2.2.2.2.2.2.1.1)), (2, .long x), (0, .ref (A 0)), (1, .int (Int32.ofNat i))]) (st' := [.long x]) rfl ?_
    exact At.rt rfl rfl rfl
  | succ f ih =>
    intro r x hf
    refine At.go (q := xm260) rfl 3 (pc' := 14) (L' := [(4, .int (Int32.ofNat r)), (2, .long x), (0, .ref (A 0)), (1, .int (Int32.ofNat i))]) (st' := [.int (Int32.ofNat i), .ref (A 0), .int (Int32.ofNat r)]) rfl ?_
    refine At.clp (as := [.ref (A 0), .int (Int32.ofNat i)]) (rest := [.int (Int32.ofNat r)]) rfl (by decide) rfl (Nat.le_of_ble_eq_true rfl) (Nat.le_of_ble_eq_true rfl) (xrck_o (by decide) (by decide) h0 (by decide)) (Nat.le_of_ble_eq_true rfl) (m_hrows h0 rfl h1 (by rw [List.length_map, List.length_range]; decide) (by rw [List.getElem?_map, List.getElem?_range hi]; rfl) a1) ?_
    refine At.ic2 (tgt := 80) rfl rfl (fun h9 => absurd (h9.symm.trans (decide_eq_false (fun h => absurd ((iN_lt (a := r) (b := (M.2.2.2.1 i).2.2.2.2.2.2.1.1) (by omega) (by omega)).mpr (by omega)) (Int32.not_lt.mpr h)))) (by decide)) (fun _ => ?_)
    refine At.go (q := xm260) rfl 2 (pc' := 23) (L' := [(5, .int (Int32.ofNat 0)), (4, .int (Int32.ofNat r)), (2, .long x), (0, .ref (A 0)), (1, .int (Int32.ofNat i))]) (st' := []) rfl ?_
    refine an_cols h hi (by omega) (M.2.2.2.1 i).2.2.2.2.2.2.1.2.1 0 x (Nat.zero_add _) (fun x' hx' => ?_)
    refine At.go (q := xm260) rfl 2 (pc' := 10) (L' := [(4, .int (Int32.ofNat r + 1)), (5, .int (Int32.ofNat (M.2.2.2.1 i).2.2.2.2.2.2.1.2.1)), (2, .long x'), (0, .ref (A 0)), (1, .int (Int32.ofNat i))]) (st' := []) rfl ?_
    rw [iN_s]
    refine At.wk (L' := [(4, .int (Int32.ofNat (r + 1))), (2, .long x'), (0, .ref (A 0)), (1, .int (Int32.ofNat i))]) (List.forall_mem_cons.mpr ⟨List.mem_of_getElem? (i := 0) rfl, (List.forall_mem_cons.mpr ⟨List.mem_of_getElem? (i := 2) rfl, (List.forall_mem_cons.mpr ⟨List.mem_of_getElem? (i := 3) rfl, (List.forall_mem_cons.mpr ⟨List.mem_of_getElem? (i := 4) rfl, (fun _ h => (List.not_mem_nil h).elim)⟩)⟩)⟩)⟩) (show ([4, 5, 2, 0, 1] : List Nat).Nodup by decide) ?_
    have e := ih (r + 1) x' (by omega)
    rw [hx'] at e ⊢
    exact e
theorem m_answer {S : List Int32} {hp : List XC} {ow : Nat → Nat} {k : Nat} {A : Nat → Nat} {M : HM} {rf : Int32} {np nl i : Nat} (h : HR hp ow k A M rf np nl) (hi : i < 8) : Pu S 2 260 [.ref (A 0), .int (Int32.ofNat i)] hp (.long (anL (M.2.2.2.1 i))) := by
  obtain ⟨hO, how, h0, h1, h3, hD, hF, hE, hT, ⟨lv9, hG⟩, hC, hL9, hQ, hW, hS, hTq9, htd, hcap⟩ := id h
  obtain ⟨za, ab, a1, a2, a3, a4, a5, a6, a7, a8, a9, a10, a11, a12, a13, a14⟩ := hS i hi
  refine At.go (q := xm260) rfl 2 (pc' := 2) (L' := [(0, .ref (A 0)), (1, .int (Int32.ofNat i))]) (st' := [.int (Int32.ofNat i), .ref (A 0)]) rfl ?_
  refine At.clp (as := [.ref (A 0), .int (Int32.ofNat i)]) (rest := []) rfl (by decide) rfl (Nat.le_of_ble_eq_true rfl) (Nat.le_of_ble_eq_true rfl) (xrck_o (by decide) (by decide) h0 (by decide)) (Nat.le_of_ble_eq_true rfl) (m_hrows h0 rfl h1 (by rw [List.length_map, List.length_range]; decide) (by rw [List.getElem?_map, List.getElem?_range hi]; rfl) a1) ?_
  refine At.go (q := xm260) rfl 4 (pc' := 10) (L' := [(4, .int (Int32.ofNat 0)), (2, .long (Int32.ofNat (M.2.2.2.1 i).2.2.2.2.2.2.1.1).toInt64), (0, .ref (A 0)), (1, .int (Int32.ofNat i))]) (st' := []) rfl ?_
  exact an_rows h hi (M.2.2.2.1 i).2.2.2.2.2.2.1.1 0 _ (Nat.zero_add _)
