/-! the law's areLike: the counts (by c999999999999999990.py) -/
theorem lk_aud {S : List Int32} {A B : Nat → Nat} {L la io i nc ns : Nat} {hp : List XC} {lbs : List Int32} {top x sd tt v0 v1 v2 v3 : Int32} {fx fy : List Value} (hi : i < 8) (hL : hp[L]? = some (.inr (15, [.retAddr 226, .int tt, .int sd, .ref (A 0), .ref (B 0), .ref la, .ref io, .int top]))) (hla : hp[la]? = some (.inl (0, lbs.map Value.int))) (hx : lbs[i]? = some x) (hx0 : hp[A 0]? = some (.inr (14, fx))) (hy0 : hp[B 0]? = some (.inr (14, fy))) (hA0 : Pu S 2 268 [.ref (A 0), .int (Int32.ofNat i), .int x, .int 100] hp (.int v0)) (hB0 : Pu S 2 268 [.ref (B 0), .int (Int32.ofNat i), .int x, .int 100] hp (.int v0)) (hA1 : Pu S 2 268 [.ref (A 0), .int (Int32.ofNat i), .int x, .int 114] hp (.int v1)) (hB1 : Pu S 2 268 [.ref (B 0), .int (Int32.ofNat i), .int x, .int 114] hp (.int v1)) (hA2 : Pu S 2 268 [.ref (A 0), .int (Int32.ofNat i), .int x, .int 102] hp (.int v2)) (hB2 : Pu S 2 268 [.ref (B 0), .int (Int32.ofNat i), .int x, .int 102] hp (.int v2)) (hA3 : Pu S 2 268 [.ref (A 0), .int (Int32.ofNat i), .int x, .int 99] hp (.int v3)) (hB3 : Pu S 2 268 [.ref (B 0), .int (Int32.ofNat i), .int x, .int 99] hp (.int v3)) : At S 3 257 102 [(0, .ref L), (1, .int (Int32.ofNat i))] [.int 1] hp nc ns (fun o => o = .inl (some (.int 1), hp, nc, ns)) := by
  have hxa : (lbs.map Value.int)[(Int32.ofNat i).toNatClampNeg]? = some (.int x) := by
    rw [iN_tn (by omega), List.getElem?_map, hx]
    rfl
  refine At.go (q := xm257) rfl 3 (pc' := 105) (L' := [(3, .int 0), (2, .int 1), (0, .ref L), (1, .int (Int32.ofNat i))]) (st' := []) rfl ?_
  refine At.go (q := xm257) rfl 2 (pc' := 107) (L' := [(3, .int 0), (2, .int 1), (0, .ref L), (1, .int (Int32.ofNat i))]) (st' := [.int 4, .int 0]) rfl ?_
  refine At.ic2 (tgt := 194) rfl rfl (fun h => absurd h (by decide)) (fun _ => ?_)
  refine At.go (q := xm257) rfl 6 (pc' := 144) (L' := [(4, .int 100), (3, .int 0), (2, .int 1), (0, .ref L), (1, .int (Int32.ofNat i))]) (st' := [.int 1]) rfl ?_
  refine At.go (q := xm257) rfl 2 (pc' := 148) (L' := [(4, .int 100), (3, .int 0), (2, .int 1), (0, .ref L), (1, .int (Int32.ofNat i))]) (st' := [.ref L]) rfl ?_
  refine At.gf rfl (by decide) hL rfl ?_
  refine At.go (q := xm257) rfl 2 (pc' := 153) (L' := [(4, .int 100), (3, .int 0), (2, .int 1), (0, .ref L), (1, .int (Int32.ofNat i))]) (st' := [.ref L, .int (Int32.ofNat i), .ref (A 0)]) rfl ?_
  refine At.gf rfl (by decide) hL rfl ?_
  refine At.go (q := xm257) rfl 1 (pc' := 157) (L' := [(4, .int 100), (3, .int 0), (2, .int 1), (0, .ref L), (1, .int (Int32.ofNat i))]) (st' := [.int (Int32.ofNat i), .ref la, .int (Int32.ofNat i), .ref (A 0)]) rfl ?_
  refine At.al rfl hla (by decide) rfl (iN_nn (by omega)) hxa ?_
  refine At.go (q := xm257) rfl 1 (pc' := 160) (L' := [(4, .int 100), (3, .int 0), (2, .int 1), (0, .ref L), (1, .int (Int32.ofNat i))]) (st' := [.int 100, .int x, .int (Int32.ofNat i), .ref (A 0)]) rfl ?_
  refine At.clp (as := [.ref (A 0), .int (Int32.ofNat i), .int x, .int 100]) (rest := []) rfl (by decide) rfl (Nat.le_of_ble_eq_true rfl) (Nat.le_of_ble_eq_true rfl) (xrck_o (by decide) (by decide) hx0 (by decide)) (Nat.le_of_ble_eq_true rfl) (hA0) ?_
  refine At.go (q := xm257) rfl 1 (pc' := 164) (L' := [(4, .int 100), (3, .int 0), (2, .int 1), (0, .ref L), (1, .int (Int32.ofNat i))]) (st' := [.ref L, .int v0]) rfl ?_
  refine At.gf rfl (by decide) hL rfl ?_
  refine At.go (q := xm257) rfl 2 (pc' := 169) (L' := [(4, .int 100), (3, .int 0), (2, .int 1), (0, .ref L), (1, .int (Int32.ofNat i))]) (st' := [.ref L, .int (Int32.ofNat i), .ref (B 0), .int v0]) rfl ?_
  refine At.gf rfl (by decide) hL rfl ?_
  refine At.go (q := xm257) rfl 1 (pc' := 173) (L' := [(4, .int 100), (3, .int 0), (2, .int 1), (0, .ref L), (1, .int (Int32.ofNat i))]) (st' := [.int (Int32.ofNat i), .ref la, .int (Int32.ofNat i), .ref (B 0), .int v0]) rfl ?_
  refine At.al rfl hla (by decide) rfl (iN_nn (by omega)) hxa ?_
  refine At.go (q := xm257) rfl 1 (pc' := 176) (L' := [(4, .int 100), (3, .int 0), (2, .int 1), (0, .ref L), (1, .int (Int32.ofNat i))]) (st' := [.int 100, .int x, .int (Int32.ofNat i), .ref (B 0), .int v0]) rfl ?_
  refine At.clp (as := [.ref (B 0), .int (Int32.ofNat i), .int x, .int 100]) (rest := [.int v0]) rfl (by decide) rfl (Nat.le_of_ble_eq_true rfl) (Nat.le_of_ble_eq_true rfl) (xrck_o (by decide) (by decide) hy0 (by decide)) (Nat.le_of_ble_eq_true rfl) (hB0) ?_
  refine At.ic2 (tgt := 186) rfl rfl (fun h => absurd h (by simp [xcm])) (fun _ => ?_)
  refine At.go (q := xm257) rfl 5 (pc' := 105) (L' := [(3, .int 1), (2, .int 1), (4, .int 100), (0, .ref L), (1, .int (Int32.ofNat i))]) (st' := []) rfl ?_
  refine At.go (q := xm257) rfl 2 (pc' := 107) (L' := [(3, .int 1), (2, .int 1), (4, .int 100), (0, .ref L), (1, .int (Int32.ofNat i))]) (st' := [.int 4, .int 1]) rfl ?_
  refine At.ic2 (tgt := 194) rfl rfl (fun h => absurd h (by decide)) (fun _ => ?_)
  refine At.go (q := xm257) rfl 2 (pc' := 119) (L' := [(3, .int 1), (2, .int 1), (4, .int 100), (0, .ref L), (1, .int (Int32.ofNat i))]) (st' := []) rfl ?_
  refine At.go (q := xm257) rfl 2 (pc' := 121) (L' := [(3, .int 1), (2, .int 1), (4, .int 100), (0, .ref L), (1, .int (Int32.ofNat i))]) (st' := [.int 1, .int 1]) rfl ?_
  refine At.ic2 (tgt := 129) rfl rfl (fun h => absurd h (by decide)) (fun _ => ?_)
  refine At.go (q := xm257) rfl 4 (pc' := 144) (L' := [(4, .int 114), (3, .int 1), (2, .int 1), (0, .ref L), (1, .int (Int32.ofNat i))]) (st' := [.int 1]) rfl ?_
  refine At.go (q := xm257) rfl 2 (pc' := 148) (L' := [(4, .int 114), (3, .int 1), (2, .int 1), (0, .ref L), (1, .int (Int32.ofNat i))]) (st' := [.ref L]) rfl ?_
  refine At.gf rfl (by decide) hL rfl ?_
  refine At.go (q := xm257) rfl 2 (pc' := 153) (L' := [(4, .int 114), (3, .int 1), (2, .int 1), (0, .ref L), (1, .int (Int32.ofNat i))]) (st' := [.ref L, .int (Int32.ofNat i), .ref (A 0)]) rfl ?_
  refine At.gf rfl (by decide) hL rfl ?_
  refine At.go (q := xm257) rfl 1 (pc' := 157) (L' := [(4, .int 114), (3, .int 1), (2, .int 1), (0, .ref L), (1, .int (Int32.ofNat i))]) (st' := [.int (Int32.ofNat i), .ref la, .int (Int32.ofNat i), .ref (A 0)]) rfl ?_
  refine At.al rfl hla (by decide) rfl (iN_nn (by omega)) hxa ?_
  refine At.go (q := xm257) rfl 1 (pc' := 160) (L' := [(4, .int 114), (3, .int 1), (2, .int 1), (0, .ref L), (1, .int (Int32.ofNat i))]) (st' := [.int 114, .int x, .int (Int32.ofNat i), .ref (A 0)]) rfl ?_
  refine At.clp (as := [.ref (A 0), .int (Int32.ofNat i), .int x, .int 114]) (rest := []) rfl (by decide) rfl (Nat.le_of_ble_eq_true rfl) (Nat.le_of_ble_eq_true rfl) (xrck_o (by decide) (by decide) hx0 (by decide)) (Nat.le_of_ble_eq_true rfl) (hA1) ?_
  refine At.go (q := xm257) rfl 1 (pc' := 164) (L' := [(4, .int 114), (3, .int 1), (2, .int 1), (0, .ref L), (1, .int (Int32.ofNat i))]) (st' := [.ref L, .int v1]) rfl ?_
  refine At.gf rfl (by decide) hL rfl ?_
  refine At.go (q := xm257) rfl 2 (pc' := 169) (L' := [(4, .int 114), (3, .int 1), (2, .int 1), (0, .ref L), (1, .int (Int32.ofNat i))]) (st' := [.ref L, .int (Int32.ofNat i), .ref (B 0), .int v1]) rfl ?_
  refine At.gf rfl (by decide) hL rfl ?_
  refine At.go (q := xm257) rfl 1 (pc' := 173) (L' := [(4, .int 114), (3, .int 1), (2, .int 1), (0, .ref L), (1, .int (Int32.ofNat i))]) (st' := [.int (Int32.ofNat i), .ref la, .int (Int32.ofNat i), .ref (B 0), .int v1]) rfl ?_
  refine At.al rfl hla (by decide) rfl (iN_nn (by omega)) hxa ?_
  refine At.go (q := xm257) rfl 1 (pc' := 176) (L' := [(4, .int 114), (3, .int 1), (2, .int 1), (0, .ref L), (1, .int (Int32.ofNat i))]) (st' := [.int 114, .int x, .int (Int32.ofNat i), .ref (B 0), .int v1]) rfl ?_
  refine At.clp (as := [.ref (B 0), .int (Int32.ofNat i), .int x, .int 114]) (rest := [.int v1]) rfl (by decide) rfl (Nat.le_of_ble_eq_true rfl) (Nat.le_of_ble_eq_true rfl) (xrck_o (by decide) (by decide) hy0 (by decide)) (Nat.le_of_ble_eq_true rfl) (hB1) ?_
  refine At.ic2 (tgt := 186) rfl rfl (fun h => absurd h (by simp [xcm])) (fun _ => ?_)
  refine At.go (q := xm257) rfl 5 (pc' := 105) (L' := [(3, .int 2), (2, .int 1), (4, .int 114), (0, .ref L), (1, .int (Int32.ofNat i))]) (st' := []) rfl ?_
  refine At.go (q := xm257) rfl 2 (pc' := 107) (L' := [(3, .int 2), (2, .int 1), (4, .int 114), (0, .ref L), (1, .int (Int32.ofNat i))]) (st' := [.int 4, .int 2]) rfl ?_
  refine At.ic2 (tgt := 194) rfl rfl (fun h => absurd h (by decide)) (fun _ => ?_)
  refine At.go (q := xm257) rfl 2 (pc' := 119) (L' := [(3, .int 2), (2, .int 1), (4, .int 114), (0, .ref L), (1, .int (Int32.ofNat i))]) (st' := []) rfl ?_
  refine At.go (q := xm257) rfl 2 (pc' := 121) (L' := [(3, .int 2), (2, .int 1), (4, .int 114), (0, .ref L), (1, .int (Int32.ofNat i))]) (st' := [.int 1, .int 2]) rfl ?_
  refine At.ic2 (tgt := 129) rfl rfl (fun _ => ?_) (fun h => absurd h (by decide))
  refine At.go (q := xm257) rfl 2 (pc' := 131) (L' := [(3, .int 2), (2, .int 1), (4, .int 114), (0, .ref L), (1, .int (Int32.ofNat i))]) (st' := [.int 2, .int 2]) rfl ?_
  refine At.ic2 (tgt := 139) rfl rfl (fun h => absurd h (by decide)) (fun _ => ?_)
  refine At.go (q := xm257) rfl 4 (pc' := 144) (L' := [(4, .int 102), (3, .int 2), (2, .int 1), (0, .ref L), (1, .int (Int32.ofNat i))]) (st' := [.int 1]) rfl ?_
  refine At.go (q := xm257) rfl 2 (pc' := 148) (L' := [(4, .int 102), (3, .int 2), (2, .int 1), (0, .ref L), (1, .int (Int32.ofNat i))]) (st' := [.ref L]) rfl ?_
  refine At.gf rfl (by decide) hL rfl ?_
  refine At.go (q := xm257) rfl 2 (pc' := 153) (L' := [(4, .int 102), (3, .int 2), (2, .int 1), (0, .ref L), (1, .int (Int32.ofNat i))]) (st' := [.ref L, .int (Int32.ofNat i), .ref (A 0)]) rfl ?_
  refine At.gf rfl (by decide) hL rfl ?_
  refine At.go (q := xm257) rfl 1 (pc' := 157) (L' := [(4, .int 102), (3, .int 2), (2, .int 1), (0, .ref L), (1, .int (Int32.ofNat i))]) (st' := [.int (Int32.ofNat i), .ref la, .int (Int32.ofNat i), .ref (A 0)]) rfl ?_
  refine At.al rfl hla (by decide) rfl (iN_nn (by omega)) hxa ?_
  refine At.go (q := xm257) rfl 1 (pc' := 160) (L' := [(4, .int 102), (3, .int 2), (2, .int 1), (0, .ref L), (1, .int (Int32.ofNat i))]) (st' := [.int 102, .int x, .int (Int32.ofNat i), .ref (A 0)]) rfl ?_
  refine At.clp (as := [.ref (A 0), .int (Int32.ofNat i), .int x, .int 102]) (rest := []) rfl (by decide) rfl (Nat.le_of_ble_eq_true rfl) (Nat.le_of_ble_eq_true rfl) (xrck_o (by decide) (by decide) hx0 (by decide)) (Nat.le_of_ble_eq_true rfl) (hA2) ?_
  refine At.go (q := xm257) rfl 1 (pc' := 164) (L' := [(4, .int 102), (3, .int 2), (2, .int 1), (0, .ref L), (1, .int (Int32.ofNat i))]) (st' := [.ref L, .int v2]) rfl ?_
  refine At.gf rfl (by decide) hL rfl ?_
  refine At.go (q := xm257) rfl 2 (pc' := 169) (L' := [(4, .int 102), (3, .int 2), (2, .int 1), (0, .ref L), (1, .int (Int32.ofNat i))]) (st' := [.ref L, .int (Int32.ofNat i), .ref (B 0), .int v2]) rfl ?_
  refine At.gf rfl (by decide) hL rfl ?_
  refine At.go (q := xm257) rfl 1 (pc' := 173) (L' := [(4, .int 102), (3, .int 2), (2, .int 1), (0, .ref L), (1, .int (Int32.ofNat i))]) (st' := [.int (Int32.ofNat i), .ref la, .int (Int32.ofNat i), .ref (B 0), .int v2]) rfl ?_
  refine At.al rfl hla (by decide) rfl (iN_nn (by omega)) hxa ?_
  refine At.go (q := xm257) rfl 1 (pc' := 176) (L' := [(4, .int 102), (3, .int 2), (2, .int 1), (0, .ref L), (1, .int (Int32.ofNat i))]) (st' := [.int 102, .int x, .int (Int32.ofNat i), .ref (B 0), .int v2]) rfl ?_
  refine At.clp (as := [.ref (B 0), .int (Int32.ofNat i), .int x, .int 102]) (rest := [.int v2]) rfl (by decide) rfl (Nat.le_of_ble_eq_true rfl) (Nat.le_of_ble_eq_true rfl) (xrck_o (by decide) (by decide) hy0 (by decide)) (Nat.le_of_ble_eq_true rfl) (hB2) ?_
  refine At.ic2 (tgt := 186) rfl rfl (fun h => absurd h (by simp [xcm])) (fun _ => ?_)
  refine At.go (q := xm257) rfl 5 (pc' := 105) (L' := [(3, .int 3), (2, .int 1), (4, .int 102), (0, .ref L), (1, .int (Int32.ofNat i))]) (st' := []) rfl ?_
  refine At.go (q := xm257) rfl 2 (pc' := 107) (L' := [(3, .int 3), (2, .int 1), (4, .int 102), (0, .ref L), (1, .int (Int32.ofNat i))]) (st' := [.int 4, .int 3]) rfl ?_
  refine At.ic2 (tgt := 194) rfl rfl (fun h => absurd h (by decide)) (fun _ => ?_)
  refine At.go (q := xm257) rfl 2 (pc' := 119) (L' := [(3, .int 3), (2, .int 1), (4, .int 102), (0, .ref L), (1, .int (Int32.ofNat i))]) (st' := []) rfl ?_
  refine At.go (q := xm257) rfl 2 (pc' := 121) (L' := [(3, .int 3), (2, .int 1), (4, .int 102), (0, .ref L), (1, .int (Int32.ofNat i))]) (st' := [.int 1, .int 3]) rfl ?_
  refine At.ic2 (tgt := 129) rfl rfl (fun _ => ?_) (fun h => absurd h (by decide))
  refine At.go (q := xm257) rfl 2 (pc' := 131) (L' := [(3, .int 3), (2, .int 1), (4, .int 102), (0, .ref L), (1, .int (Int32.ofNat i))]) (st' := [.int 2, .int 3]) rfl ?_
  refine At.ic2 (tgt := 139) rfl rfl (fun _ => ?_) (fun h => absurd h (by decide))
  refine At.go (q := xm257) rfl 3 (pc' := 144) (L' := [(4, .int 99), (3, .int 3), (2, .int 1), (0, .ref L), (1, .int (Int32.ofNat i))]) (st' := [.int 1]) rfl ?_
  refine At.go (q := xm257) rfl 2 (pc' := 148) (L' := [(4, .int 99), (3, .int 3), (2, .int 1), (0, .ref L), (1, .int (Int32.ofNat i))]) (st' := [.ref L]) rfl ?_
  refine At.gf rfl (by decide) hL rfl ?_
  refine At.go (q := xm257) rfl 2 (pc' := 153) (L' := [(4, .int 99), (3, .int 3), (2, .int 1), (0, .ref L), (1, .int (Int32.ofNat i))]) (st' := [.ref L, .int (Int32.ofNat i), .ref (A 0)]) rfl ?_
  refine At.gf rfl (by decide) hL rfl ?_
  refine At.go (q := xm257) rfl 1 (pc' := 157) (L' := [(4, .int 99), (3, .int 3), (2, .int 1), (0, .ref L), (1, .int (Int32.ofNat i))]) (st' := [.int (Int32.ofNat i), .ref la, .int (Int32.ofNat i), .ref (A 0)]) rfl ?_
  refine At.al rfl hla (by decide) rfl (iN_nn (by omega)) hxa ?_
  refine At.go (q := xm257) rfl 1 (pc' := 160) (L' := [(4, .int 99), (3, .int 3), (2, .int 1), (0, .ref L), (1, .int (Int32.ofNat i))]) (st' := [.int 99, .int x, .int (Int32.ofNat i), .ref (A 0)]) rfl ?_
  refine At.clp (as := [.ref (A 0), .int (Int32.ofNat i), .int x, .int 99]) (rest := []) rfl (by decide) rfl (Nat.le_of_ble_eq_true rfl) (Nat.le_of_ble_eq_true rfl) (xrck_o (by decide) (by decide) hx0 (by decide)) (Nat.le_of_ble_eq_true rfl) (hA3) ?_
  refine At.go (q := xm257) rfl 1 (pc' := 164) (L' := [(4, .int 99), (3, .int 3), (2, .int 1), (0, .ref L), (1, .int (Int32.ofNat i))]) (st' := [.ref L, .int v3]) rfl ?_
  refine At.gf rfl (by decide) hL rfl ?_
  refine At.go (q := xm257) rfl 2 (pc' := 169) (L' := [(4, .int 99), (3, .int 3), (2, .int 1), (0, .ref L), (1, .int (Int32.ofNat i))]) (st' := [.ref L, .int (Int32.ofNat i), .ref (B 0), .int v3]) rfl ?_
  refine At.gf rfl (by decide) hL rfl ?_
  refine At.go (q := xm257) rfl 1 (pc' := 173) (L' := [(4, .int 99), (3, .int 3), (2, .int 1), (0, .ref L), (1, .int (Int32.ofNat i))]) (st' := [.int (Int32.ofNat i), .ref la, .int (Int32.ofNat i), .ref (B 0), .int v3]) rfl ?_
  refine At.al rfl hla (by decide) rfl (iN_nn (by omega)) hxa ?_
  refine At.go (q := xm257) rfl 1 (pc' := 176) (L' := [(4, .int 99), (3, .int 3), (2, .int 1), (0, .ref L), (1, .int (Int32.ofNat i))]) (st' := [.int 99, .int x, .int (Int32.ofNat i), .ref (B 0), .int v3]) rfl ?_
  refine At.clp (as := [.ref (B 0), .int (Int32.ofNat i), .int x, .int 99]) (rest := [.int v3]) rfl (by decide) rfl (Nat.le_of_ble_eq_true rfl) (Nat.le_of_ble_eq_true rfl) (xrck_o (by decide) (by decide) hy0 (by decide)) (Nat.le_of_ble_eq_true rfl) (hB3) ?_
  refine At.ic2 (tgt := 186) rfl rfl (fun h => absurd h (by simp [xcm])) (fun _ => ?_)
  refine At.go (q := xm257) rfl 5 (pc' := 105) (L' := [(3, .int 4), (2, .int 1), (4, .int 99), (0, .ref L), (1, .int (Int32.ofNat i))]) (st' := []) rfl ?_
  refine At.go (q := xm257) rfl 2 (pc' := 107) (L' := [(3, .int 4), (2, .int 1), (4, .int 99), (0, .ref L), (1, .int (Int32.ofNat i))]) (st' := [.int 4, .int 4]) rfl ?_
  refine At.ic2 (tgt := 194) rfl rfl (fun _ => ?_) (fun h => absurd h (by decide))
  refine At.go (q := xm257) rfl 1 (pc' := 195) (L' := [(3, .int 4), (2, .int 1), (4, .int 99), (0, .ref L), (1, .int (Int32.ofNat i))]) (st' := [.int 1]) rfl ?_
  exact At.rt rfl rfl rfl
