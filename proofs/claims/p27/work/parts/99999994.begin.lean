/-! the house: checksums, beginnings, soundness (written by wip/p27/c99999994.py) -/
def ckS (ts : List TQ) (ls : List En) (lb : Int32) (acc : Int64) (a : Nat) : Int64 := if isB (TIq ts a).2.1 lb = true then sumE ls (SRq ts a) (nmE acc (TIq ts a).1 * 31 + (TIq ts a).2.1.toInt64) else acc
def ckE (M : HM) (i : Nat) : Int64 := M.1.foldl (ckS M.2.2.2.2.2.2 (lookE (TIq M.2.2.2.2.2.2) (vwE M i) (M.2.2.2.1 i).1) (M.2.2.2.1 i).1) (217 + (M.2.2.2.1 i).1).toInt64 * 31 + (Int32.ofNat (cntB (vwE M i) (M.2.2.2.1 i).1 false)).toInt64
theorem ck_loop {S : List Int32} {hp : List XC} {ow : Nat → Nat} {k : Nat} {A : Nat → Nat} {M : HM} {rf : Int32} {np nl : Nat} (h : HR hp ow k A M rf np nl) {i : Nat} {las : List Nat} {ls : List En} {nc ns : Nat} {Q : XO → Prop} (hi : i < 8) (hSt : StT M.2.2.2.2.2.2 M.1) (hG : hp[A 6]? = some (.inr (11, [.ref (A 10), .int (M.2.2.2.1 i).1]))) (hL : hLs hp (A 10) las) (hE : hEs hp las ls) : ∀ (f j : Nat) (sum : Int64), j + f = M.1.length → At S 9 244 102 [(3, .long ((M.1.drop j).foldl (ckS M.2.2.2.2.2.2 ls (M.2.2.2.1 i).1) sum)), (0, .ref (A 0)), (2, .ref (A (20 + i)))] [] hp nc ns Q → At S 9 244 25 [(5, .int (Int32.ofNat j)), (3, .long sum), (0, .ref (A 0)), (2, .ref (A (20 + i)))] [] hp nc ns Q := by
  have hst := fun (a : Nat) (ha : a ∈ M.1) => h.std hSt ha
  have hsg := hG
  have hse := hE
  obtain ⟨hO, how, h0, h1, h3, hD, hF, hE, hT, ⟨lv9, hG⟩, hC, hL9, hQ, hW, hS, hTq9, htd, hcap⟩ := id h
  obtain ⟨za, ab, a1, a2, a3, a4, a5, a6, a7, a8, a9, a10, a11, a12, a13, a14⟩ := hS i hi
  have hll := hD.len
  obtain ⟨dfs, hDo⟩ := hD.ob
  intro f
  induction f with
  | zero =>
    intro j sum hf hK
    refine At.go (q := xm244) rfl 2 (pc' := 28) (L' := [(5, .int (Int32.ofNat j)), (3, .long sum), (0, .ref (A 0)), (2, .ref (A (20 + i)))]) (st' := [.ref (A 0), .int (Int32.ofNat j)]) rfl ?_
    refine At.gf rfl (by decide) h0 rfl ?_
    refine At.clp (as := [.ref (A 2)]) (rest := [.int (Int32.ofNat j)]) rfl (by decide) rfl (Nat.le_of_ble_eq_true rfl) (Nat.le_of_ble_eq_true rfl) (xrck_o (by decide) (by decide) hDo (by decide)) (Nat.le_of_ble_eq_true rfl) (m_size hD) ?_
    refine At.ic2 (tgt := 102) rfl rfl (fun _ => ?_) (fun h => absurd (h.symm.trans (decide_eq_true ((iN_le (a := M.1.length) (b := j) (by omega) (by omega)).mpr (by omega)))) (by decide))
    refine At.wk (L' := [(3, .long sum), (0, .ref (A 0)), (2, .ref (A (20 + i)))]) (List.forall_mem_cons.mpr ⟨List.mem_of_getElem? (i := 1) rfl, (List.forall_mem_cons.mpr ⟨List.mem_of_getElem? (i := 2) rfl, (List.forall_mem_cons.mpr ⟨List.mem_of_getElem? (i := 3) rfl, (fun _ h => (List.not_mem_nil h).elim)⟩)⟩)⟩) (show ([5, 3, 0, 2] : List Nat).Nodup by decide) ?_
    rw [List.drop_eq_nil_of_le (by omega)] at hK
    exact hK
  | succ f ih =>
    intro j sum hf hK
    have hj : M.1[j]? = some (M.1[j]'(by omega)) := List.getElem?_eq_getElem _
    obtain ⟨a, ha⟩ : ∃ a, a = M.1[j]'(by omega) := ⟨_, rfl⟩
    rw [← ha] at hj
    obtain ⟨tf, ht⟩ := hst _ (List.mem_of_getElem? hj)
    have hdr : M.1.drop j = a :: M.1.drop (j + 1) := by rw [ha]; exact List.drop_eq_getElem_cons (by omega)
    rw [hdr, List.foldl_cons] at hK
    refine At.go (q := xm244) rfl 2 (pc' := 28) (L' := [(5, .int (Int32.ofNat j)), (3, .long sum), (0, .ref (A 0)), (2, .ref (A (20 + i)))]) (st' := [.ref (A 0), .int (Int32.ofNat j)]) rfl ?_
    refine At.gf rfl (by decide) h0 rfl ?_
    refine At.clp (as := [.ref (A 2)]) (rest := [.int (Int32.ofNat j)]) rfl (by decide) rfl (Nat.le_of_ble_eq_true rfl) (Nat.le_of_ble_eq_true rfl) (xrck_o (by decide) (by decide) hDo (by decide)) (Nat.le_of_ble_eq_true rfl) (m_size hD) ?_
    refine At.ic2 (tgt := 102) rfl rfl (fun h => absurd (h.symm.trans (decide_eq_false (fun q => absurd ((iN_le (a := M.1.length) (b := j) (by omega) (by omega)).mp q) (by omega)))) (by decide)) (fun _ => ?_)
    refine At.go (q := xm244) rfl 1 (pc' := 38) (L' := [(5, .int (Int32.ofNat j)), (3, .long sum), (0, .ref (A 0)), (2, .ref (A (20 + i)))]) (st' := [.ref (A 0)]) rfl ?_
    refine At.gf rfl (by decide) h0 rfl ?_
    refine At.go (q := xm244) rfl 1 (pc' := 43) (L' := [(5, .int (Int32.ofNat j)), (3, .long sum), (0, .ref (A 0)), (2, .ref (A (20 + i)))]) (st' := [.int (Int32.ofNat j), .ref (A 2)]) rfl ?_
    refine At.clp (as := [.ref (A 2), .int (Int32.ofNat j)]) (rest := []) rfl (by decide) rfl (Nat.le_of_ble_eq_true rfl) (Nat.le_of_ble_eq_true rfl) (xrck_o (by decide) (by decide) hDo (by decide)) (Nat.le_of_ble_eq_true rfl) (m_get hD hj) ?_
    refine At.ca rfl ht (by decide) ?_
    refine At.go (q := xm244) rfl 2 (pc' := 53) (L' := [(6, .ref a), (5, .int (Int32.ofNat j)), (3, .long sum), (0, .ref (A 0)), (2, .ref (A (20 + i)))]) (st' := [.ref a]) rfl ?_
    refine At.gf rfl (by decide) ht rfl ?_
    refine At.go (q := xm244) rfl 1 (pc' := 57) (L' := [(6, .ref a), (5, .int (Int32.ofNat j)), (3, .long sum), (0, .ref (A 0)), (2, .ref (A (20 + i)))]) (st' := [.ref (A (20 + i)), .int (TIq M.2.2.2.2.2.2 a).2.1]) rfl ?_
    refine At.gf rfl (by decide) a1 rfl ?_
    refine At.clp (as := [.int (TIq M.2.2.2.2.2.2 a).2.1, .int (M.2.2.2.1 i).1]) (rest := []) rfl (by decide) rfl (Nat.le_of_ble_eq_true rfl) (Nat.le_of_ble_eq_true rfl) rfl (Nat.le_of_ble_eq_true rfl) (m_isBelow _ _) ?_
    cases hb : isB (TIq M.2.2.2.2.2.2 a).2.1 (M.2.2.2.1 i).1 with
    | false =>
      refine At.ic1 (tgt := 96) rfl rfl (fun h45 => ?_) (fun h45 => absurd h45 (by decide))
      refine At.go (q := xm244) rfl 2 (pc' := 25) (L' := [(5, .int ((Int32.ofNat j) + 1)), (6, .ref a), (3, .long sum), (0, .ref (A 0)), (2, .ref (A (20 + i)))]) (st' := []) rfl ?_
      rw [iN_s]
      refine At.wk (L' := [(5, .int (Int32.ofNat (j + 1))), (3, .long sum), (0, .ref (A 0)), (2, .ref (A (20 + i)))]) (List.forall_mem_cons.mpr ⟨List.mem_of_getElem? (i := 0) rfl, (List.forall_mem_cons.mpr ⟨List.mem_of_getElem? (i := 2) rfl, (List.forall_mem_cons.mpr ⟨List.mem_of_getElem? (i := 3) rfl, (List.forall_mem_cons.mpr ⟨List.mem_of_getElem? (i := 4) rfl, (fun _ h => (List.not_mem_nil h).elim)⟩)⟩)⟩)⟩) (show ([5, 6, 3, 0, 2] : List Nat).Nodup by decide) ?_
      refine ih (j + 1) _ (by omega) ?_
      rw [show ckS M.2.2.2.2.2.2 ls (M.2.2.2.1 i).1 sum a = sum from by unfold ckS; rw [hb]; rfl] at hK
      exact hK
    | true =>
      refine At.ic1 (tgt := 96) rfl rfl (fun h45 => absurd h45 (by decide)) (fun h45 => ?_)
      refine At.go (q := xm244) rfl 1 (pc' := 67) (L' := [(6, .ref a), (5, .int (Int32.ofNat j)), (3, .long sum), (0, .ref (A 0)), (2, .ref (A (20 + i)))]) (st' := [.ref (A 0)]) rfl ?_
      refine At.gf rfl (by decide) h0 rfl ?_
      refine At.go (q := xm244) rfl 3 (pc' := 75) (L' := [(6, .ref a), (5, .int (Int32.ofNat j)), (3, .long sum), (0, .ref (A 0)), (2, .ref (A (20 + i)))]) (st' := [.ref a, .long sum, .ref a, .ref (A 6)]) rfl ?_
      refine At.gf rfl (by decide) ht rfl ?_
      refine At.clp (as := [.long sum, .int (TIq M.2.2.2.2.2.2 a).1]) (rest := [.ref a, .ref (A 6)]) rfl (by decide) rfl (Nat.le_of_ble_eq_true rfl) (Nat.le_of_ble_eq_true rfl) rfl (Nat.le_of_ble_eq_true rfl) (m_nameSum _ _) ?_
      refine At.go (q := xm244) rfl 3 (pc' := 87) (L' := [(6, .ref a), (5, .int (Int32.ofNat j)), (3, .long sum), (0, .ref (A 0)), (2, .ref (A (20 + i)))]) (st' := [.ref a, .long ((nmE sum (TIq M.2.2.2.2.2.2 a).1) * 31), .ref a, .ref (A 6)]) rfl ?_
      refine At.gf rfl (by decide) ht rfl ?_
      refine At.go (q := xm244) rfl 2 (pc' := 92) (L' := [(6, .ref a), (5, .int (Int32.ofNat j)), (3, .long sum), (0, .ref (A 0)), (2, .ref (A (20 + i)))]) (st' := [.long (((nmE sum (TIq M.2.2.2.2.2.2 a).1) * 31) + (TIq M.2.2.2.2.2.2 a).2.1.toInt64), .ref a, .ref (A 6)]) rfl ?_
      refine At.clp (as := [.ref (A 6), .ref a, .long (((nmE sum (TIq M.2.2.2.2.2.2 a).1) * 31) + (TIq M.2.2.2.2.2.2 a).2.1.toInt64)]) (rest := []) rfl (by decide) rfl (Nat.le_of_ble_eq_true rfl) (Nat.le_of_ble_eq_true rfl) (xrck_o (by decide) (by decide) hsg (by decide)) (Nat.le_of_ble_eq_true rfl) (m_sumOf hsg ht hL hse _) ?_
      refine At.go (q := xm244) rfl 3 (pc' := 25) (L' := [(5, .int ((Int32.ofNat j) + 1)), (3, .long (sumE ls (SRq M.2.2.2.2.2.2 a) (nmE sum (TIq M.2.2.2.2.2.2 a).1 * 31 + (TIq M.2.2.2.2.2.2 a).2.1.toInt64))), (6, .ref a), (0, .ref (A 0)), (2, .ref (A (20 + i)))]) (st' := []) rfl ?_
      rw [iN_s]
      refine At.wk (L' := [(5, .int (Int32.ofNat (j + 1))), (3, .long (sumE ls (SRq M.2.2.2.2.2.2 a) (nmE sum (TIq M.2.2.2.2.2.2 a).1 * 31 + (TIq M.2.2.2.2.2.2 a).2.1.toInt64))), (0, .ref (A 0)), (2, .ref (A (20 + i)))]) (List.forall_mem_cons.mpr ⟨List.mem_of_getElem? (i := 0) rfl, (List.forall_mem_cons.mpr ⟨List.mem_of_getElem? (i := 1) rfl, (List.forall_mem_cons.mpr ⟨List.mem_of_getElem? (i := 3) rfl, (List.forall_mem_cons.mpr ⟨List.mem_of_getElem? (i := 4) rfl, (fun _ h => (List.not_mem_nil h).elim)⟩)⟩)⟩)⟩) (show ([5, 3, 6, 0, 2] : List Nat).Nodup by decide) ?_
      refine ih (j + 1) _ (by omega) ?_
      rw [show ckS M.2.2.2.2.2.2 ls (M.2.2.2.1 i).1 sum a = (sumE ls (SRq M.2.2.2.2.2.2 a) (nmE sum (TIq M.2.2.2.2.2.2 a).1 * 31 + (TIq M.2.2.2.2.2.2 a).2.1.toInt64)) from by unfold ckS; rw [hb]; rfl] at hK
      exact hK
theorem h_checksum {S : List Int32} {hp : List XC} {ow : Nat → Nat} {k : Nat} {A : Nat → Nat} {M : HM} {rf : Int32} {np nl : Nat} (h : HR hp ow k A M rf np nl) {i : Nat} (hi : i < 8) (hsr : Srt (vwE M i)) (hEt : EnT M.2.2.2.2.2.2 (vwE M i)) (hlen : (vwE M i).length ≤ 3000) (hSt : StT M.2.2.2.2.2.2 M.1) (hl0 : (M.2.2.2.1 i).2.2.2.2.2.2.2.1 = 0) : Me S 9 244 [.ref (A 0), .int (Int32.ofNat i)] hp (fun v hp' c s => v = some (.long (ckE M i)) ∧ HSt hp hp' ow k A M rf np nl c s 0 0) := by
  obtain ⟨hO, how, h0, h1, h3, hD, hF, hE, hT, ⟨lv9, hG⟩, hC, hL9, hQ, hW, hS, hTq9, htd, hcap⟩ := id h
  refine At.go (q := xm244) rfl 2 (pc' := 2) (L' := [(0, .ref (A 0)), (1, .int (Int32.ofNat i))]) (st' := [.int (Int32.ofNat i), .ref (A 0)]) rfl ?_
  refine At.clp (as := [.ref (A 0), .int (Int32.ofNat i)]) (rest := []) rfl (by decide) rfl (Nat.le_of_ble_eq_true rfl) (Nat.le_of_ble_eq_true rfl) (xrck_o (by decide) (by decide) h0 (by decide)) (Nat.le_of_ble_eq_true rfl) (m_sessionOf h0 rfl h1 (by rw [List.length_map, List.length_range]; decide) (by rw [List.getElem?_map, List.getElem?_range hi]; rfl)) ?_
  refine At.go (q := xm244) rfl 3 (pc' := 8) (L' := [(2, .ref (A (20 + i))), (0, .ref (A 0)), (1, .int (Int32.ofNat i))]) (st' := [.ref (A (20 + i)), .ref (A 0)]) rfl ?_
  refine At.clm (as := [.ref (A 0), .ref (A (20 + i))]) (rest := []) rfl (by decide) rfl (Nat.le_of_ble_eq_true rfl) (Nat.le_of_ble_eq_true rfl) (xrck_o (by decide) (by decide) h0 (by decide)) (Nat.le_of_ble_eq_true rfl) (m_lookFor h hi hsr hEt hlen) (fun v9 hp' c9 s9 hv9 => ?_)
  obtain ⟨rfl, f, g1, g2, g4, g5, g6⟩ := hv9
  obtain ⟨r1, r2, r3, r4⟩ := h.looked f g1 g2 g4 g5 g6 hlen
  obtain ⟨las, g2, g3⟩ := g2
  have hvw := h_view (S := S) r1 hi
  obtain ⟨hvo, vas, hvl, hve⟩ := r1.view hi
  obtain ⟨kO, kow, k0, k1, k3, kD, kF, kE, kT, ⟨lv9, kG⟩, kC, kL9, kQ, kW, kS, kTq9, ktd, kcap⟩ := id r1
  obtain ⟨za, ab, a1, a2, a3, a4, a5, a6, a7, a8, a9, a10, a11, a12, a13, a14⟩ := kS i hi
  refine At.go (q := xm244) rfl 3 (pc' := 16) (L' := [(2, .ref (A (20 + i))), (0, .ref (A 0)), (1, .int (Int32.ofNat i))]) (st' := [.ref (A (20 + i)), .int 217]) rfl ?_
  refine At.gf rfl (by decide) a1 rfl ?_
  refine At.go (q := xm244) rfl 5 (pc' := 25) (L' := [(5, .int 0), (3, .long (217 + (M.2.2.2.1 i).1).toInt64), (2, .ref (A (20 + i))), (0, .ref (A 0)), (1, .int (Int32.ofNat i))]) (st' := []) rfl ?_
  refine At.wk (L' := [(5, .int (Int32.ofNat 0)), (3, .long (217 + (M.2.2.2.1 i).1).toInt64), (0, .ref (A 0)), (2, .ref (A (20 + i)))]) (List.forall_mem_cons.mpr ⟨List.mem_of_getElem? (i := 0) rfl, (List.forall_mem_cons.mpr ⟨List.mem_of_getElem? (i := 1) rfl, (List.forall_mem_cons.mpr ⟨List.mem_of_getElem? (i := 3) rfl, (List.forall_mem_cons.mpr ⟨List.mem_of_getElem? (i := 2) rfl, (fun _ h => (List.not_mem_nil h).elim)⟩)⟩)⟩)⟩) (show ([5, 3, 2, 0, 1] : List Nat).Nodup by decide) ?_
  refine ck_loop (S := S) (ls := (lookE (TIq M.2.2.2.2.2.2) (vwE M i) (M.2.2.2.1 i).1)) r1 hi hSt g1 g2 g3 M.1.length 0 _ (by omega) ?_
  rw [List.drop_zero]
  refine At.go (q := xm244) rfl 5 (pc' := 109) (L' := [(3, .long (M.1.foldl (ckS M.2.2.2.2.2.2 (lookE (TIq M.2.2.2.2.2.2) (vwE M i) (M.2.2.2.1 i).1) (M.2.2.2.1 i).1) (217 + (M.2.2.2.1 i).1).toInt64)), (0, .ref (A 0)), (2, .ref (A (20 + i)))]) (st' := [.ref (A (20 + i)), .ref (A 0), .long ((M.1.foldl (ckS M.2.2.2.2.2.2 (lookE (TIq M.2.2.2.2.2.2) (vwE M i) (M.2.2.2.1 i).1) (M.2.2.2.1 i).1) (217 + (M.2.2.2.1 i).1).toInt64) * 31)]) rfl ?_
  refine At.clp (as := [.ref (A 0), .ref (A (20 + i))]) (rest := [.long ((M.1.foldl (ckS M.2.2.2.2.2.2 (lookE (TIq M.2.2.2.2.2.2) (vwE M i) (M.2.2.2.1 i).1) (M.2.2.2.1 i).1) (217 + (M.2.2.2.1 i).1).toInt64) * 31)]) rfl (by decide) rfl (Nat.le_of_ble_eq_true rfl) (Nat.le_of_ble_eq_true rfl) (xrck_o (by decide) (by decide) k0 (by decide)) (Nat.le_of_ble_eq_true rfl) (hvw) ?_
  refine At.go (q := xm244) rfl 1 (pc' := 113) (L' := [(3, .long (M.1.foldl (ckS M.2.2.2.2.2.2 (lookE (TIq M.2.2.2.2.2.2) (vwE M i) (M.2.2.2.1 i).1) (M.2.2.2.1 i).1) (217 + (M.2.2.2.1 i).1).toInt64)), (0, .ref (A 0)), (2, .ref (A (20 + i)))]) (st' := [.ref (A (20 + i)), .ref (A (vwO M i)), .long ((M.1.foldl (ckS M.2.2.2.2.2.2 (lookE (TIq M.2.2.2.2.2.2) (vwE M i) (M.2.2.2.1 i).1) (M.2.2.2.1 i).1) (217 + (M.2.2.2.1 i).1).toInt64) * 31)]) rfl ?_
  refine At.gf rfl (by decide) a1 rfl ?_
  refine At.go (q := xm244) rfl 1 (pc' := 117) (L' := [(3, .long (M.1.foldl (ckS M.2.2.2.2.2.2 (lookE (TIq M.2.2.2.2.2.2) (vwE M i) (M.2.2.2.1 i).1) (M.2.2.2.1 i).1) (217 + (M.2.2.2.1 i).1).toInt64)), (0, .ref (A 0)), (2, .ref (A (20 + i)))]) (st' := [.int 0, .int (M.2.2.2.1 i).1, .ref (A (vwO M i)), .long ((M.1.foldl (ckS M.2.2.2.2.2.2 (lookE (TIq M.2.2.2.2.2.2) (vwE M i) (M.2.2.2.1 i).1) (M.2.2.2.1 i).1) (217 + (M.2.2.2.1 i).1).toInt64) * 31)]) rfl ?_
  refine At.clp (as := [.ref (A (vwO M i)), .int (M.2.2.2.1 i).1, .int 0]) (rest := [.long ((M.1.foldl (ckS M.2.2.2.2.2.2 (lookE (TIq M.2.2.2.2.2.2) (vwE M i) (M.2.2.2.1 i).1) (M.2.2.2.1 i).1) (217 + (M.2.2.2.1 i).1).toInt64) * 31)]) rfl (by decide) rfl (Nat.le_of_ble_eq_true rfl) (Nat.le_of_ble_eq_true rfl) (xrck_o (by decide) (by decide) hvo (by decide)) (Nat.le_of_ble_eq_true rfl) (m_countBelow (vo := false) hvo hvl hve) ?_
  refine At.go (q := xm244) rfl 7 (pc' := 129) (L' := [(5, .int 0), (3, .long (((M.1.foldl (ckS M.2.2.2.2.2.2 (lookE (TIq M.2.2.2.2.2.2) (vwE M i) (M.2.2.2.1 i).1) (M.2.2.2.1 i).1) (217 + (M.2.2.2.1 i).1).toInt64) * 31) + (Int32.ofNat (cntB (vwE M i) (M.2.2.2.1 i).1 false)).toInt64)), (0, .ref (A 0)), (2, .ref (A (20 + i)))]) (st' := [.ref (A (20 + i)), .int 0]) rfl ?_
  refine At.gf rfl (by decide) a1 rfl ?_
  refine At.ic2 (tgt := 155) rfl rfl (fun _ => ?_) (fun h => absurd (h.symm.trans (by rw [hl0])) (by decide))
  refine At.go (q := xm244) rfl 1 (pc' := 156) (L' := [(5, .int 0), (3, .long (((M.1.foldl (ckS M.2.2.2.2.2.2 (lookE (TIq M.2.2.2.2.2.2) (vwE M i) (M.2.2.2.1 i).1) (M.2.2.2.1 i).1) (217 + (M.2.2.2.1 i).1).toInt64) * 31) + (Int32.ofNat (cntB (vwE M i) (M.2.2.2.1 i).1 false)).toInt64)), (0, .ref (A 0)), (2, .ref (A (20 + i)))]) (st' := [.long (((M.1.foldl (ckS M.2.2.2.2.2.2 (lookE (TIq M.2.2.2.2.2.2) (vwE M i) (M.2.2.2.1 i).1) (M.2.2.2.1 i).1) (217 + (M.2.2.2.1 i).1).toInt64) * 31) + (Int32.ofNat (cntB (vwE M i) (M.2.2.2.1 i).1 false)).toInt64)]) rfl ?_
  exact At.rt rfl rfl ⟨_, _, _, _, rfl, rfl, ow, np, nl, fun _ _ => rfl, r1, r2, by omega, by omega⟩
def sBeg (s : SM) (es : List En) (n : Nat) : SM := (s.1, s.2.1, true, es, s.2.2.2.2.1, n, s.2.2.2.2.2.2)
theorem h_begin {S : List Int32} {hp : List XC} {ow : Nat → Nat} {k : Nat} {A : Nat → Nat} {M : HM} {rf : Int32} {np nl : Nat} (h : HR hp ow k A M rf np nl) {i : Nat} (hi : i < 8) (hb : (M.2.2.2.1 i).2.2.1 = false) (hsr : Srt M.2.1) (hEt : EnT M.2.2.2.2.2.2 M.2.1) (hlen : M.2.1.length ≤ 3000) (hle : M.2.2.1.length ≤ 30000) : Me S 10 251 [.ref (A 0), .int (Int32.ofNat i)] hp (fun v hp' c s => v = some (.int (Int32.ofNat (lookE (TIq M.2.2.2.2.2.2) M.2.1 (M.2.2.2.1 i).1).length)) ∧ HSt hp hp' ow k A (mS M i (sBeg (M.2.2.2.1 i) M.2.1 M.2.2.1.length)) rf np nl c s 0 0) := by
  obtain ⟨hO, how, h0, h1, h3, hD, hF, hE, hT, ⟨lv9, hG⟩, hC, hL9, hQ, hW, hS, hTq9, htd, hcap⟩ := id h
  obtain ⟨za, ab, a1, a2, a3, a4, a5, a6, a7, a8, a9, a10, a11, a12, a13, a14⟩ := hS i hi
  obtain ⟨es1, hE1, hE2⟩ := hE
  obtain ⟨fs1, hF1, hF2⟩ := hF
  obtain ⟨ss1, l1, l2⟩ := a13
  have hel := hE2.1
  have hfl := hF2.1
  obtain ⟨efs, hEo⟩ := hE1.ob
  have hne : A (44 + i) ≠ A 9 := fun e => by have e1 := (how 9 (by omega)).1; rw [← e, (how (44 + i) (by omega)).1] at e1; omega
  have hb1 := a1
  rw [hb] at hb1
  refine At.go (q := xm251) rfl 2 (pc' := 2) (L' := [(0, .ref (A 0)), (1, .int (Int32.ofNat i))]) (st' := [.int (Int32.ofNat i), .ref (A 0)]) rfl ?_
  refine At.clp (as := [.ref (A 0), .int (Int32.ofNat i)]) (rest := []) rfl (by decide) rfl (Nat.le_of_ble_eq_true rfl) (Nat.le_of_ble_eq_true rfl) (xrck_o (by decide) (by decide) h0 (by decide)) (Nat.le_of_ble_eq_true rfl) (m_sessionOf h0 rfl h1 (by rw [List.length_map, List.length_range]; decide) (by rw [List.getElem?_map, List.getElem?_range hi]; rfl)) ?_
  refine At.go (q := xm251) rfl 2 (pc' := 7) (L' := [(2, .ref (A (20 + i))), (0, .ref (A 0)), (1, .int (Int32.ofNat i))]) (st' := [.ref (A (20 + i))]) rfl ?_
  refine At.gf rfl (by decide) hb1 rfl ?_
  refine At.go (q := xm251) rfl 3 (pc' := 23) (L' := [(2, .ref (A (20 + i))), (0, .ref (A 0)), (1, .int (Int32.ofNat i))]) (st' := [.ref (A 0), .ref (A (20 + i))]) rfl ?_
  refine At.gf rfl (by decide) h0 rfl ?_
  refine At.go (q := xm251) rfl 1 (pc' := 27) (L' := [(2, .ref (A (20 + i))), (0, .ref (A 0)), (1, .int (Int32.ofNat i))]) (st' := [.ref (A 0), .ref (A 3), .ref (A (20 + i))]) rfl ?_
  refine At.gf rfl (by decide) h0 rfl ?_
  refine At.clp (as := [.ref (A 4)]) (rest := [.ref (A 3), .ref (A (20 + i))]) rfl (by decide) rfl (Nat.le_of_ble_eq_true rfl) (Nat.le_of_ble_eq_true rfl) (xrck_o (by decide) (by decide) hEo (by decide)) (Nat.le_of_ble_eq_true rfl) (m_size hE1) ?_
  refine At.clm (as := [.ref (A (20 + i)), .ref (A 3), .int (Int32.ofNat es1.length)]) (rest := []) rfl (by decide) rfl (Nat.le_of_ble_eq_true rfl) (Nat.le_of_ble_eq_true rfl) (xrck_o (by decide) (by decide) hb1 (by decide)) (Nat.le_of_ble_eq_true rfl) (m_startBusy hne a2 h3 hO l1 hF1 hF2 (by omega) hb1) (fun v9 hp1 c9 s9 hv9 => ?_)
  obtain ⟨rfl, f, g1, g2, g4, g5, g6⟩ := hv9
  obtain ⟨Z, hZ⟩ : ∃ Z : Nat → Prop, Z = fun n => n = k + (20 + i) ∨ n = k + (44 + i) := ⟨_, rfl⟩
  have hz : ∀ n, Z n → n = k + (20 + i) ∨ n = k + (44 + i) := fun n z9 => by rw [hZ] at z9; exact z9
  have hzi : ∀ n, (n = k + (20 + i) ∨ n = k + (44 + i)) → Z n := fun n z9 => by rw [hZ]; exact z9
  have hzk : ∀ n, Z n → k ≤ n ∧ n < k + 1000 := fun n z => by have z9 := hz n z; omega
  have f' : FrX (fun a => Z (ow a)) hp hp1 := f.mono (fun x _ e => by
    have e9 : x = A (20 + i) ∨ x = A (44 + i) := e
    show Z (ow x)
    rcases e9 with e9 | e9
    · rw [e9, (how _ (by omega)).1]; exact hzi _ (by omega)
    · rw [e9, (how _ (by omega)).1]; exact hzi _ (by omega))
  have hR1 : HR hp1 ow k A (mS M i (sBeg (M.2.2.2.1 i) M.2.1 M.2.2.1.length)) rf np nl := h.upd (Z := Z) f' (fun _ _ => rfl) (fun z => by have z9 := hz _ z; omega) (fun z => by have z9 := hz _ z; omega) (Or.inl ⟨(fun z => by have z9 := hz _ z; omega), rfl, rfl⟩) (Or.inl ⟨(fun z => by have z9 := hz _ z; omega), rfl⟩) (Or.inl ⟨(fun z => by have z9 := hz _ z; omega), rfl⟩) (Or.inl ⟨(fun z => by have z9 := hz _ z; omega), rfl⟩) (Or.inl ⟨(fun z => by have z9 := hz _ z; omega), rfl⟩) (Or.inl (fun z => by have z9 := hz _ z; omega)) (Or.inl ⟨(fun z => by have z9 := hz _ z; omega), (fun z => by have z9 := hz _ z; omega), (fun z => by have z9 := hz _ z; omega)⟩) (fun j hj => Or.inl (fun z => by simp only [List.mem_cons, List.not_mem_nil, or_false] at hj; have z9 := hz _ z; omega)) (Or.inl ⟨(fun z => by have z9 := hz _ z; omega), (fun z => by have z9 := hz _ z; omega), (fun z => by have z9 := hz _ z; omega), (fun z => by have z9 := hz _ z; omega), rfl, rfl⟩) (Or.inl (fun j j1 j2 z => by have z9 := hz _ z; omega)) (fun j hj => if e : j = i then by subst e; exact Or.inr (by rw [mS_at]; exact ⟨za, ab, (by rw [hel] at g1; exact g1), f'.ob a2 (by decide) (nz (how _ (by omega)).1 (fun z => by have z9 := hz _ z; omega)), f'.2.2.1 _ _ a3 rfl (Or.inl (nz (how _ (by omega)).1 (fun z => by have z9 := hz _ z; omega))), a4, a5, f'.2.2.1 _ _ a6 rfl (Or.inl (nz a12 (fun z => by have z9 := hz _ z; omega))), a7, a8, a9, a10, a11, a12, g2, a14.fr f' hO (nz (how _ (by omega)).1 (fun z => by have z9 := hz _ z; omega))⟩) else Or.inl ⟨(fun z => by have z9 := hz _ z; omega), (fun z => by have z9 := hz _ z; omega), (fun z => by have z9 := hz _ z; omega), (fun z => by have z9 := hz _ z; omega), (fun z => by have z9 := hz _ z; omega), (fun z => by have z9 := hz _ z; omega), mS_ne e⟩) (Or.inl ⟨(fun z => by have z9 := hz _ z; omega), (fun z => by have z9 := hz _ z; omega), (fun z => by have z9 := hz _ z; omega), (fun z => by have z9 := hz _ z; omega), rfl⟩) (fun j hj => if e : j = 44 + i then Or.inr (by have hc9 := hcap _ hj; rw [e] at hc9 ⊢; omega) else Or.inl (fun z => by have j9 := lsI_c j hj; have z9 := hz _ z; omega))
  have e9 := h.caps f' [44 + i] ((by decide : ∀ i, i < 8 → ([44 + i] : List Nat).Sublist lsI) i hi) (fun j z hj => by have j9 := lsI_c j hj; have z9 := hz _ z; simp only [List.mem_cons, List.not_mem_nil, or_false]; omega)
  simp only [sumL, List.map_cons, List.map_nil, List.sum_cons, List.sum_nil] at e9
  have hv1 : vwE (mS M i (sBeg (M.2.2.2.1 i) M.2.1 M.2.2.1.length)) i = M.2.1 := by unfold vwE; rw [mS_at]; exact if_pos rfl
  have hlb : ((mS M i (sBeg (M.2.2.2.1 i) M.2.1 M.2.2.1.length)).2.2.2.1 i).1 = (M.2.2.2.1 i).1 := by rw [mS_at]; rfl
  have hfk := f'.mono (Q := fun a => k ≤ ow a ∧ ow a < k + 1000) (fun x _ hx => hzk _ hx)
  have k0 := hR1.2.2.1
  refine At.go (q := xm251) rfl 2 (pc' := 38) (L' := [(2, .ref (A (20 + i))), (0, .ref (A 0)), (1, .int (Int32.ofNat i))]) (st' := [.ref (A (20 + i)), .ref (A 0)]) rfl ?_
  refine At.clm (as := [.ref (A 0), .ref (A (20 + i))]) (rest := []) rfl (by decide) rfl (Nat.le_of_ble_eq_true rfl) (Nat.le_of_ble_eq_true rfl) (xrck_o (by decide) (by decide) k0 (by decide)) (Nat.le_of_ble_eq_true rfl) (m_lookFor hR1 hi (by rw [hv1]; exact hsr) (by rw [hv1]; exact hEt) (by rw [hv1]; exact hlen)) (fun v9 hp2 c8 s8 hv9 => ?_)
  obtain ⟨rfl, k9, u1, u2, u4, u5, u6⟩ := hv9
  obtain ⟨r1, r2, r3, r4⟩ := hR1.looked k9 u1 u2 u4 u5 u6 (by rw [hv1]; exact hlen)
  rw [hv1, hlb]
  exact At.rt rfl (xret_i rfl) ⟨_, _, _, _, rfl, rfl, HSt.tr (np1 := np) (nl1 := nl) (c1 := 0 + c9) (s1 := 0 + s9) (K1 := 0) (J1 := 0) (K2 := 0) (J2 := 0) (fun _ _ => rfl) hfk (by omega) (by omega) ⟨ow, np, nl, fun _ _ => rfl, r1, r2, by omega, by omega⟩⟩
theorem h_beginB {S : List Int32} {hp : List XC} {ow : Nat → Nat} {k : Nat} {A : Nat → Nat} {M : HM} {rf : Int32} {np nl : Nat} (h : HR hp ow k A M rf np nl) {i : Nat} (hi : i < 8) (hb : (M.2.2.2.1 i).2.2.1 = true) : Th S 8 251 [.ref (A 0), .int (Int32.ofNat i)] hp 2 (fun hp' c s => hp' = hp ∧ c = 1 ∧ s = 6) := by
  obtain ⟨hO, how, h0, h1, h3, hD, hF, hE, hT, ⟨lv9, hG⟩, hC, hL9, hQ, hW, hS, hTq9, htd, hcap⟩ := id h
  obtain ⟨za, ab, a1, a2, a3, a4, a5, a6, a7, a8, a9, a10, a11, a12, a13, a14⟩ := hS i hi
  rw [hb] at a1
  refine At.go (q := xm251) rfl 2 (pc' := 2) (L' := [(0, .ref (A 0)), (1, .int (Int32.ofNat i))]) (st' := [.int (Int32.ofNat i), .ref (A 0)]) rfl ?_
  refine At.clp (as := [.ref (A 0), .int (Int32.ofNat i)]) (rest := []) rfl (by decide) rfl (Nat.le_of_ble_eq_true rfl) (Nat.le_of_ble_eq_true rfl) (xrck_o (by decide) (by decide) h0 (by decide)) (Nat.le_of_ble_eq_true rfl) (m_sessionOf h0 rfl h1 (by rw [List.length_map, List.length_range]; decide) (by rw [List.getElem?_map, List.getElem?_range hi]; rfl)) ?_
  refine At.go (q := xm251) rfl 2 (pc' := 7) (L' := [(2, .ref (A (20 + i))), (0, .ref (A 0)), (1, .int (Int32.ofNat i))]) (st' := [.ref (A (20 + i))]) rfl ?_
  refine At.gf rfl (by decide) a1 rfl ?_
  refine At.go (q := xm251) rfl 1 (pc' := 13) (L' := [(2, .ref (A (20 + i))), (0, .ref (A 0)), (1, .int (Int32.ofNat i))]) (st' := []) rfl ?_
  exact At.tw rfl (by decide) (Nat.le_of_ble_eq_true rfl) ⟨_, _, _, rfl, rfl, rfl, rfl⟩
theorem h_giveUpB {S : List Int32} {hp : List XC} {ow : Nat → Nat} {k : Nat} {A : Nat → Nat} {M : HM} {rf : Int32} {np nl : Nat} (h : HR hp ow k A M rf np nl) {i : Nat} (hi : i < 8) (hb : (M.2.2.2.1 i).2.2.1 = false) : Th S 8 256 [.ref (A 0), .int (Int32.ofNat i)] hp 2 (fun hp' c s => hp' = hp ∧ c = 1 ∧ s = 6) := by
  obtain ⟨hO, how, h0, h1, h3, hD, hF, hE, hT, ⟨lv9, hG⟩, hC, hL9, hQ, hW, hS, hTq9, htd, hcap⟩ := id h
  obtain ⟨za, ab, a1, a2, a3, a4, a5, a6, a7, a8, a9, a10, a11, a12, a13, a14⟩ := hS i hi
  rw [hb] at a1
  refine At.go (q := xm256) rfl 2 (pc' := 2) (L' := [(0, .ref (A 0)), (1, .int (Int32.ofNat i))]) (st' := [.int (Int32.ofNat i), .ref (A 0)]) rfl ?_
  refine At.clp (as := [.ref (A 0), .int (Int32.ofNat i)]) (rest := []) rfl (by decide) rfl (Nat.le_of_ble_eq_true rfl) (Nat.le_of_ble_eq_true rfl) (xrck_o (by decide) (by decide) h0 (by decide)) (Nat.le_of_ble_eq_true rfl) (m_sessionOf h0 rfl h1 (by rw [List.length_map, List.length_range]; decide) (by rw [List.getElem?_map, List.getElem?_range hi]; rfl)) ?_
  refine At.go (q := xm256) rfl 2 (pc' := 7) (L' := [(2, .ref (A (20 + i))), (0, .ref (A 0)), (1, .int (Int32.ofNat i))]) (st' := [.ref (A (20 + i))]) rfl ?_
  refine At.gf rfl (by decide) a1 rfl ?_
  refine At.go (q := xm256) rfl 1 (pc' := 13) (L' := [(2, .ref (A (20 + i))), (0, .ref (A 0)), (1, .int (Int32.ofNat i))]) (st' := []) rfl ?_
  exact At.tw rfl (by decide) (Nat.le_of_ble_eq_true rfl) ⟨_, _, _, rfl, rfl, rfl, rfl⟩
theorem h_endB {S : List Int32} {hp : List XC} {ow : Nat → Nat} {k : Nat} {A : Nat → Nat} {M : HM} {rf : Int32} {np nl : Nat} (h : HR hp ow k A M rf np nl) {i : Nat} (hi : i < 8) (hb : (M.2.2.2.1 i).2.2.1 = false) : Th S 8 253 [.ref (A 0), .int (Int32.ofNat i)] hp 2 (fun hp' c s => hp' = hp ∧ c = 1 ∧ s = 6) := by
  obtain ⟨hO, how, h0, h1, h3, hD, hF, hE, hT, ⟨lv9, hG⟩, hC, hL9, hQ, hW, hS, hTq9, htd, hcap⟩ := id h
  obtain ⟨za, ab, a1, a2, a3, a4, a5, a6, a7, a8, a9, a10, a11, a12, a13, a14⟩ := hS i hi
  rw [hb] at a1
  refine At.go (q := xm253) rfl 2 (pc' := 2) (L' := [(0, .ref (A 0)), (1, .int (Int32.ofNat i))]) (st' := [.int (Int32.ofNat i), .ref (A 0)]) rfl ?_
  refine At.clp (as := [.ref (A 0), .int (Int32.ofNat i)]) (rest := []) rfl (by decide) rfl (Nat.le_of_ble_eq_true rfl) (Nat.le_of_ble_eq_true rfl) (xrck_o (by decide) (by decide) h0 (by decide)) (Nat.le_of_ble_eq_true rfl) (m_sessionOf h0 rfl h1 (by rw [List.length_map, List.length_range]; decide) (by rw [List.getElem?_map, List.getElem?_range hi]; rfl)) ?_
  refine At.go (q := xm253) rfl 2 (pc' := 7) (L' := [(2, .ref (A (20 + i))), (0, .ref (A 0)), (1, .int (Int32.ofNat i))]) (st' := [.ref (A (20 + i))]) rfl ?_
  refine At.gf rfl (by decide) a1 rfl ?_
  refine At.go (q := xm253) rfl 1 (pc' := 13) (L' := [(2, .ref (A (20 + i))), (0, .ref (A 0)), (1, .int (Int32.ofNat i))]) (st' := []) rfl ?_
  exact At.tw rfl (by decide) (Nat.le_of_ble_eq_true rfl) ⟨_, _, _, rfl, rfl, rfl, rfl⟩
def sGiv (s : SM) : SM := (s.1, s.2.1, false, [], [], s.2.2.2.2.2)
theorem h_giveUp {S : List Int32} {hp : List XC} {ow : Nat → Nat} {k : Nat} {A : Nat → Nat} {M : HM} {rf : Int32} {np nl : Nat} (h : HR hp ow k A M rf np nl) {i : Nat} (hi : i < 8) (hb : (M.2.2.2.1 i).2.2.1 = true) : Me S 3 256 [.ref (A 0), .int (Int32.ofNat i)] hp (fun v hp' c s => v = some (.int (Int32.ofNat (M.2.2.2.1 i).2.2.2.2.1.length)) ∧ HSt hp hp' ow k A (mS M i (sGiv (M.2.2.2.1 i))) rf np nl c s 0 0) := by
  obtain ⟨hO, how, h0, h1, h3, hD, hF, hE, hT, ⟨lv9, hG⟩, hC, hL9, hQ, hW, hS, hTq9, htd, hcap⟩ := id h
  obtain ⟨za, ab, a1, a2, a3, a4, a5, a6, a7, a8, a9, a10, a11, a12, a13, a14⟩ := hS i hi
  obtain ⟨as1, l1, l2⟩ := a13
  obtain ⟨as2, l3, l4⟩ := a14
  have hcl := l4.1
  obtain ⟨cfs, hCo⟩ := l3.ob
  have hne : ¬ A (44 + i) = A (52 + i) := fun e => by have e1 := (how (44 + i) (by omega)).1; rw [e, (how (52 + i) (by omega)).1] at e1; omega
  have hb1 := a1
  rw [hb] at hb1
  refine At.go (q := xm256) rfl 2 (pc' := 2) (L' := [(0, .ref (A 0)), (1, .int (Int32.ofNat i))]) (st' := [.int (Int32.ofNat i), .ref (A 0)]) rfl ?_
  refine At.clp (as := [.ref (A 0), .int (Int32.ofNat i)]) (rest := []) rfl (by decide) rfl (Nat.le_of_ble_eq_true rfl) (Nat.le_of_ble_eq_true rfl) (xrck_o (by decide) (by decide) h0 (by decide)) (Nat.le_of_ble_eq_true rfl) (m_sessionOf h0 rfl h1 (by rw [List.length_map, List.length_range]; decide) (by rw [List.getElem?_map, List.getElem?_range hi]; rfl)) ?_
  refine At.go (q := xm256) rfl 2 (pc' := 7) (L' := [(2, .ref (A (20 + i))), (0, .ref (A 0)), (1, .int (Int32.ofNat i))]) (st' := [.ref (A (20 + i))]) rfl ?_
  refine At.gf rfl (by decide) hb1 rfl ?_
  refine At.go (q := xm256) rfl 2 (pc' := 22) (L' := [(2, .ref (A (20 + i))), (0, .ref (A 0)), (1, .int (Int32.ofNat i))]) (st' := [.ref (A (20 + i))]) rfl ?_
  refine At.gf rfl (by decide) hb1 rfl ?_
  refine At.clp (as := [.ref (A (52 + i))]) (rest := []) rfl (by decide) rfl (Nat.le_of_ble_eq_true rfl) (Nat.le_of_ble_eq_true rfl) (xrck_o (by decide) (by decide) hCo (by decide)) (Nat.le_of_ble_eq_true rfl) (m_size l3) ?_
  refine At.go (q := xm256) rfl 2 (pc' := 30) (L' := [(3, .int (Int32.ofNat as2.length)), (2, .ref (A (20 + i))), (0, .ref (A 0)), (1, .int (Int32.ofNat i))]) (st' := [.ref (A (20 + i))]) rfl ?_
  refine At.clm (as := [.ref (A (20 + i))]) (rest := []) rfl (by decide) rfl (Nat.le_of_ble_eq_true rfl) (Nat.le_of_ble_eq_true rfl) (xrck_o (by decide) (by decide) hb1 (by decide)) (Nat.le_of_ble_eq_true rfl) (m_stopBusy hne a2 hO l1 l3 a1) (fun v9 hp' c9 s9 hv9 => ?_)
  obtain ⟨rfl, f, g1, g2, g3, rfl, rfl, g4, g5⟩ := hv9
  obtain ⟨Z, hZ⟩ : ∃ Z : Nat → Prop, Z = fun n => n = k + (20 + i) ∨ n = k + (44 + i) ∨ n = k + (52 + i) := ⟨_, rfl⟩
  have hz : ∀ n, Z n → n = k + (20 + i) ∨ n = k + (44 + i) ∨ n = k + (52 + i) := fun n z9 => by rw [hZ] at z9; exact z9
  have hzi : ∀ n, (n = k + (20 + i) ∨ n = k + (44 + i) ∨ n = k + (52 + i)) → Z n := fun n z9 => by rw [hZ]; exact z9
  have hzk : ∀ n, Z n → k ≤ n ∧ n < k + 1000 := fun n z => by have z9 := hz n z; omega
  have f' : FrX (fun a => Z (ow a)) hp hp' := f.mono (fun x _ e => by
    have e9 : x = A (20 + i) ∨ x = A (44 + i) ∨ x = A (52 + i) := e
    show Z (ow x)
    rcases e9 with e9 | e9 | e9
    · rw [e9, (how _ (by omega)).1]; exact hzi _ (by omega)
    · rw [e9, (how _ (by omega)).1]; exact hzi _ (by omega)
    · rw [e9, (how _ (by omega)).1]; exact hzi _ (by omega))
  have hsl : ([44 + i, 52 + i] : List Nat).Sublist lsI := (by decide : ∀ i, i < 8 → ([44 + i, 52 + i] : List Nat).Sublist lsI) i hi
  refine At.go (q := xm256) rfl 1 (pc' := 34) (L' := [(3, .int (Int32.ofNat as2.length)), (2, .ref (A (20 + i))), (0, .ref (A 0)), (1, .int (Int32.ofNat i))]) (st' := [.int (Int32.ofNat as2.length)]) rfl ?_
  exact At.rt rfl (xret_i rfl) ⟨_, _, _, _, rfl, by rw [hcl], HSt.of h f' hzk (h.upd (Z := Z) f' (fun _ _ => rfl) (fun z => by have z9 := hz _ z; omega) (fun z => by have z9 := hz _ z; omega) (Or.inl ⟨(fun z => by have z9 := hz _ z; omega), rfl, rfl⟩) (Or.inl ⟨(fun z => by have z9 := hz _ z; omega), rfl⟩) (Or.inl ⟨(fun z => by have z9 := hz _ z; omega), rfl⟩) (Or.inl ⟨(fun z => by have z9 := hz _ z; omega), rfl⟩) (Or.inl ⟨(fun z => by have z9 := hz _ z; omega), rfl⟩) (Or.inl (fun z => by have z9 := hz _ z; omega)) (Or.inl ⟨(fun z => by have z9 := hz _ z; omega), (fun z => by have z9 := hz _ z; omega), (fun z => by have z9 := hz _ z; omega)⟩) (fun j hj => Or.inl (fun z => by simp only [List.mem_cons, List.not_mem_nil, or_false] at hj; have z9 := hz _ z; omega)) (Or.inl ⟨(fun z => by have z9 := hz _ z; omega), (fun z => by have z9 := hz _ z; omega), (fun z => by have z9 := hz _ z; omega), (fun z => by have z9 := hz _ z; omega), rfl, rfl⟩) (Or.inl (fun j j1 j2 z => by have z9 := hz _ z; omega)) (fun j hj => if e : j = i then by subst e; exact Or.inr (by rw [mS_at]; exact ⟨za, ab, g1, f'.ob a2 (by decide) (nz (how _ (by omega)).1 (fun z => by have z9 := hz _ z; omega)), f'.2.2.1 _ _ a3 rfl (Or.inl (nz (how _ (by omega)).1 (fun z => by have z9 := hz _ z; omega))), a4, a5, f'.2.2.1 _ _ a6 rfl (Or.inl (nz a12 (fun z => by have z9 := hz _ z; omega))), a7, a8, a9, a10, a11, a12, ⟨[], g2, rfl, fun j a e h => by cases h⟩, ⟨[], g3, rfl, fun j a e h => by cases h⟩⟩) else Or.inl ⟨(fun z => by have z9 := hz _ z; omega), (fun z => by have z9 := hz _ z; omega), (fun z => by have z9 := hz _ z; omega), (fun z => by have z9 := hz _ z; omega), (fun z => by have z9 := hz _ z; omega), (fun z => by have z9 := hz _ z; omega), mS_ne e⟩) (Or.inl ⟨(fun z => by have z9 := hz _ z; omega), (fun z => by have z9 := hz _ z; omega), (fun z => by have z9 := hz _ z; omega), (fun z => by have z9 := hz _ z; omega), rfl⟩) (fun j hj => if e : j = 44 + i then Or.inr (by rw [e, g4, ← e]; exact hcap j hj) else if e' : j = 52 + i then Or.inr (by rw [e', g5, ← e']; exact hcap j hj) else Or.inl (fun z => by have j9 := lsI_c j hj; have z9 := hz _ z; omega))) [44 + i, 52 + i] hsl (fun j z hj => by have j9 := lsI_c j hj; have z9 := hz _ z; simp only [List.mem_cons, List.not_mem_nil, or_false]; omega) (by simp only [sumL, List.map_cons, List.map_nil, List.sum_cons, List.sum_nil]; omega) (by simp only [sumL, List.map_cons, List.map_nil, List.sum_cons, List.sum_nil]; omega)⟩
