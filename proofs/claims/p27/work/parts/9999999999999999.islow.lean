/-! whether a session is low (by hand) -/
def isT3 (x : Int32) : Prop := x = 0 ∨ x = 1 ∨ x = 16
theorem lw_a {x t : Int32} (hx : isL4 x = true) (ht : isT3 t) (h : xcm .gt (x / 16) (t / 16) = true) : isB x t = false := by
  rcases isL4_c hx with e | e | e | e <;> rcases ht with e2 | e2 | e2 <;> (rw [e, e2] at h ⊢; revert h; decide)
theorem lw_b {x t : Int32} (hx : isL4 x = true) (ht : isT3 t) (h : xcm .gt (x / 16) (t / 16) = false) (h2 : xcm .ne ((x - x / 16 * 16) &&& ((t - t / 16 * 16) ^^^ (-1))) 0 = true) : isB x t = false := by
  rcases isL4_c hx with e | e | e | e <;> rcases ht with e2 | e2 | e2 <;> (rw [e, e2] at h h2 ⊢; revert h h2; decide)
theorem lw_c {x t : Int32} (hx : isL4 x = true) (ht : isT3 t) (h : xcm .gt (x / 16) (t / 16) = false) (h2 : xcm .ne ((x - x / 16 * 16) &&& ((t - t / 16 * 16) ^^^ (-1))) 0 = false) : isB x t = true := by
  rcases isL4_c hx with e | e | e | e <;> rcases ht with e2 | e2 | e2 <;> (rw [e, e2] at h h2 ⊢; revert h h2; decide)
theorem m_isLow {S : List Int32} {A B : Nat → Nat} {L la io : Nat} {hp : List XC} {ow : Nat → Nat} {M N : HM} {lbs ops : List Int32} {top x : Int32} {dt pc ps i : Nat} (W : W2 A B L la io hp ow M N lbs ops top dt pc ps) (hi : i < 8) (hx : lbs[i]? = some x) (hx4 : isL4 x = true) (ht : isT3 top) : Pu S 0 26 [.ref L, .int (Int32.ofNat i)] hp (.int (bI (isB x top))) := by
  obtain ⟨rx, ry, px, lx, py, ly, -, -, ⟨⟨t, sd, -, -, hL⟩, hla, -⟩, -⟩ := W
  have hxa : (lbs.map Value.int)[(Int32.ofNat i).toNatClampNeg]? = some (.int x) := by
    rw [iN_tn (by omega), List.getElem?_map, hx]
    rfl
  have ld : ∀ (st : List Value) (pc9 : Nat) (Q : XO → Prop), xmC (xMT 26) pc9 = some (12, .iaload, 0, 0, .null, []) → At S 0 26 (pc9 + 1) [(0, .ref L), (1, .int (Int32.ofNat i))] (.int x :: st) hp 0 0 Q → At S 0 26 pc9 [(0, .ref L), (1, .int (Int32.ofNat i))] (.int (Int32.ofNat i) :: .ref la :: st) hp 0 0 Q := fun st pc9 Q hC kk => At.al hC hla (by decide) rfl (iN_nn (by omega)) hxa kk
  refine At.go (q := xm26) rfl 1 (pc' := 1) (L' := [(0, .ref L), (1, .int (Int32.ofNat i))]) (st' := [.ref L]) rfl ?_
  refine At.gf rfl (by decide) hL rfl ?_
  refine At.go (q := xm26) rfl 1 (pc' := 5) (L' := [(0, .ref L), (1, .int (Int32.ofNat i))]) (st' := [.int (Int32.ofNat i), .ref la]) rfl ?_
  refine ld [] 5 _ rfl ?_
  refine At.go (q := xm26) rfl 1 (pc' := 8) (L' := [(0, .ref L), (1, .int (Int32.ofNat i))]) (st' := [.int 16, .int x]) rfl ?_
  refine At.dv rfl (by decide) ?_
  refine At.go (q := xm26) rfl 1 (pc' := 10) (L' := [(0, .ref L), (1, .int (Int32.ofNat i))]) (st' := [.ref L, .int (x / 16)]) rfl ?_
  refine At.gf rfl (by decide) hL rfl ?_
  refine At.go (q := xm26) rfl 1 (pc' := 15) (L' := [(0, .ref L), (1, .int (Int32.ofNat i))]) (st' := [.int 16, .int top, .int (x / 16)]) rfl ?_
  refine At.dv rfl (by decide) ?_
  refine At.ic2 (tgt := 45) rfl rfl (fun h => ?_) (fun h => ?_)
  · refine At.go (q := xm26) rfl 1 (pc' := 46) (L' := [(0, .ref L), (1, .int (Int32.ofNat i))]) (st' := [.int 0]) rfl ?_
    rw [lw_a hx4 ht h]
    exact At.rt rfl rfl rfl
  · refine At.go (q := xm26) rfl 1 (pc' := 20) (L' := [(0, .ref L), (1, .int (Int32.ofNat i))]) (st' := [.ref L]) rfl ?_
    refine At.gf rfl (by decide) hL rfl ?_
    refine At.go (q := xm26) rfl 1 (pc' := 24) (L' := [(0, .ref L), (1, .int (Int32.ofNat i))]) (st' := [.int (Int32.ofNat i), .ref la]) rfl ?_
    refine ld [] 24 _ rfl ?_
    refine At.go (q := xm26) rfl 1 (pc' := 27) (L' := [(0, .ref L), (1, .int (Int32.ofNat i))]) (st' := [.int 16, .int x]) rfl ?_
    refine At.rm rfl (by decide) ?_
    refine At.go (q := xm26) rfl 1 (pc' := 29) (L' := [(0, .ref L), (1, .int (Int32.ofNat i))]) (st' := [.ref L, .int (x - x / 16 * 16)]) rfl ?_
    refine At.gf rfl (by decide) hL rfl ?_
    refine At.go (q := xm26) rfl 1 (pc' := 34) (L' := [(0, .ref L), (1, .int (Int32.ofNat i))]) (st' := [.int 16, .int top, .int (x - x / 16 * 16)]) rfl ?_
    refine At.rm rfl (by decide) ?_
    refine At.go (q := xm26) rfl 3 (pc' := 38) (L' := [(0, .ref L), (1, .int (Int32.ofNat i))]) (st' := [.int ((x - x / 16 * 16) &&& ((top - top / 16 * 16) ^^^ (-1)))]) rfl ?_
    refine At.ic1 (tgt := 45) rfl rfl (fun h2 => ?_) (fun h2 => ?_)
    · refine At.go (q := xm26) rfl 1 (pc' := 46) (L' := [(0, .ref L), (1, .int (Int32.ofNat i))]) (st' := [.int 0]) rfl ?_
      rw [lw_b hx4 ht h h2]
      exact At.rt rfl rfl rfl
    · refine At.go (q := xm26) rfl 2 (pc' := 46) (L' := [(0, .ref L), (1, .int (Int32.ofNat i))]) (st' := [.int 1]) rfl ?_
      rw [lw_c hx4 ht h h2]
      exact At.rt rfl rfl rfl
