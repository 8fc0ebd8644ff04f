/-! sessions: their text and their answer (written by wip/p27/c999996.py) -/
theorem m_signAt {S : List Int32} {hp : List XC} {z s k zt za : Nat} {zl zn zr zc zw zb zi : Int32} (hz : hp[z]? = some (.inr (9, [.int zl, .ref zt, .int zn, .ref za, .int zr, .int zc, .int zw, .int zb, .ref s, .ref k, .int zi]))) {es : List Value} {i : Nat} {v : Int32} (hzt : hp[zt]? = some (.inl (1, es))) (hel : es.length ≤ 100000) (hv : es[i]? = some (.int v)) : Pu S 0 249 [.ref z, .int (Int32.ofNat i)] hp (.int v) := by
  have hls := (List.getElem?_eq_some_iff.mp hv).1
  refine At.go (q := xm249) rfl 1 (pc' := 1) (L' := [(0, .ref z), (1, .int (Int32.ofNat i))]) (st' := [.int (Int32.ofNat i)]) rfl ?_
  refine At.ic1 (tgt := 22) rfl rfl (fun h => absurd (h.symm.trans (decide_eq_false (iN_nn (by omega)))) (by decide)) (fun _ => ?_)
  refine At.go (q := xm249) rfl 2 (pc' := 6) (L' := [(0, .ref z), (1, .int (Int32.ofNat i))]) (st' := [.ref z, .int (Int32.ofNat i)]) rfl ?_
  refine At.gf rfl (by decide) hz rfl ?_
  refine At.ln rfl hzt ?_
  refine At.ic2 (tgt := 22) rfl rfl (fun h => absurd (h.symm.trans (decide_eq_false (fun h => absurd ((iN_le (a := es.length) (b := i) (by omega) (by omega)).mp h) (by omega)))) (by decide)) (fun _ => ?_)
  refine At.go (q := xm249) rfl 1 (pc' := 14) (L' := [(0, .ref z), (1, .int (Int32.ofNat i))]) (st' := [.ref z]) rfl ?_
  refine At.gf rfl (by decide) hz rfl ?_
  refine At.go (q := xm249) rfl 1 (pc' := 18) (L' := [(0, .ref z), (1, .int (Int32.ofNat i))]) (st' := [.int (Int32.ofNat i), .ref zt]) rfl ?_
  refine At.al rfl hzt (by decide) rfl (iN_nn (by omega)) (by rw [iN_tn (by omega)]; exact hv) ?_
  refine At.go (q := xm249) rfl 1 (pc' := 23) (L' := [(0, .ref z), (1, .int (Int32.ofNat i))]) (st' := [.int v]) rfl ?_
  exact At.rt rfl (xret_i rfl) rfl
theorem m_signAtN {S : List Int32} {hp : List XC} {z s k zt za : Nat} {zl zn zr zc zw zb zi : Int32} (hz : hp[z]? = some (.inr (9, [.int zl, .ref zt, .int zn, .ref za, .int zr, .int zc, .int zw, .int zb, .ref s, .ref k, .int zi]))) {x : Int32} (hx : x < 0) : Pu S 0 249 [.ref z, .int x] hp (.int 0) := by
  refine At.go (q := xm249) rfl 1 (pc' := 1) (L' := [(0, .ref z), (1, .int x)]) (st' := [.int x]) rfl ?_
  refine At.ic1 (tgt := 22) rfl rfl (fun _ => ?_) (fun h => absurd (h.symm.trans (decide_eq_true hx)) (by decide))
  refine At.go (q := xm249) rfl 1 (pc' := 23) (L' := [(0, .ref z), (1, .int x)]) (st' := [.int 0]) rfl ?_
  exact At.rt rfl (xret_i rfl) rfl
theorem m_signAtB {S : List Int32} {hp : List XC} {z s k zt za : Nat} {zl zn zr zc zw zb zi : Int32} (hz : hp[z]? = some (.inr (9, [.int zl, .ref zt, .int zn, .ref za, .int zr, .int zc, .int zw, .int zb, .ref s, .ref k, .int zi]))) {es : List Value} {x : Int32} (hzt : hp[zt]? = some (.inl (1, es))) (h0 : ¬ x < 0) (hx : Int32.ofNat es.length ≤ x) : Pu S 0 249 [.ref z, .int x] hp (.int 0) := by
  refine At.go (q := xm249) rfl 1 (pc' := 1) (L' := [(0, .ref z), (1, .int x)]) (st' := [.int x]) rfl ?_
  refine At.ic1 (tgt := 22) rfl rfl (fun h => absurd (h.symm.trans (decide_eq_false h0)) (by decide)) (fun _ => ?_)
  refine At.go (q := xm249) rfl 2 (pc' := 6) (L' := [(0, .ref z), (1, .int x)]) (st' := [.ref z, .int x]) rfl ?_
  refine At.gf rfl (by decide) hz rfl ?_
  refine At.ln rfl hzt ?_
  refine At.ic2 (tgt := 22) rfl rfl (fun _ => ?_) (fun h => absurd (h.symm.trans (decide_eq_true hx)) (by decide))
  refine At.go (q := xm249) rfl 1 (pc' := 23) (L' := [(0, .ref z), (1, .int x)]) (st' := [.int 0]) rfl ?_
  exact At.rt rfl (xret_i rfl) rfl
/-- whether an answer has a place -/
def hplE (r c ar ac : Int32) : Bool := !decide (r < 0) && !decide (ar ≤ r) && !decide (c < 0) && !decide (ac ≤ c)
theorem m_hasPlaceZ {S : List Int32} {hp : List XC} {z s k zt za : Nat} {zl zn zr zc zw zb zi : Int32} (hz : hp[z]? = some (.inr (9, [.int zl, .ref zt, .int zn, .ref za, .int zr, .int zc, .int zw, .int zb, .ref s, .ref k, .int zi]))) {r c : Int32} : Pu S 0 264 [.ref z, .int r, .int c] hp (.int (bI (hplE r c zr zc))) := by
  refine At.go (q := xm264) rfl 1 (pc' := 1) (L' := [(0, .ref z), (1, .int r), (2, .int c)]) (st' := [.int r]) rfl ?_
  refine At.ic1 (tgt := 28) rfl rfl (fun h1 => ?_) (fun h1 => ?_)
  · refine At.go (q := xm264) rfl 1 (pc' := 29) (L' := [(0, .ref z), (1, .int r), (2, .int c)]) (st' := [.int 0]) rfl ?_
    exact At.rt rfl rfl (by unfold hplE; rw [show decide (r < 0) = true from h1]; simp; rfl)
  · refine At.go (q := xm264) rfl 2 (pc' := 6) (L' := [(0, .ref z), (1, .int r), (2, .int c)]) (st' := [.ref z, .int r]) rfl ?_
    refine At.gf rfl (by decide) hz rfl ?_
    refine At.ic2 (tgt := 28) rfl rfl (fun h9 => ?_) (fun h9 => ?_)
    · refine At.go (q := xm264) rfl 1 (pc' := 29) (L' := [(0, .ref z), (1, .int r), (2, .int c)]) (st' := [.int 0]) rfl ?_
      exact At.rt rfl rfl (by unfold hplE; rw [show decide (r < 0) = false from h1]; rw [show decide (zr ≤ r) = true from h9]; simp; rfl)
    · refine At.go (q := xm264) rfl 1 (pc' := 13) (L' := [(0, .ref z), (1, .int r), (2, .int c)]) (st' := [.int c]) rfl ?_
      refine At.ic1 (tgt := 28) rfl rfl (fun h13 => ?_) (fun h13 => ?_)
      · refine At.go (q := xm264) rfl 1 (pc' := 29) (L' := [(0, .ref z), (1, .int r), (2, .int c)]) (st' := [.int 0]) rfl ?_
        exact At.rt rfl rfl (by unfold hplE; rw [show decide (r < 0) = false from h1]; rw [show decide (zr ≤ r) = false from h9]; rw [show decide (c < 0) = true from h13]; simp; rfl)
      · refine At.go (q := xm264) rfl 2 (pc' := 18) (L' := [(0, .ref z), (1, .int r), (2, .int c)]) (st' := [.ref z, .int c]) rfl ?_
        refine At.gf rfl (by decide) hz rfl ?_
        refine At.ic2 (tgt := 28) rfl rfl (fun h21 => ?_) (fun h21 => ?_)
        · refine At.go (q := xm264) rfl 1 (pc' := 29) (L' := [(0, .ref z), (1, .int r), (2, .int c)]) (st' := [.int 0]) rfl ?_
          exact At.rt rfl rfl (by unfold hplE; rw [show decide (r < 0) = false from h1]; rw [show decide (zr ≤ r) = false from h9]; rw [show decide (c < 0) = false from h13]; rw [show decide (zc ≤ c) = true from h21]; simp; rfl)
        · refine At.go (q := xm264) rfl 2 (pc' := 29) (L' := [(0, .ref z), (1, .int r), (2, .int c)]) (st' := [.int 1]) rfl ?_
          exact At.rt rfl rfl (by unfold hplE; rw [show decide (r < 0) = false from h1]; rw [show decide (zr ≤ r) = false from h9]; rw [show decide (c < 0) = false from h13]; rw [show decide (zc ≤ c) = false from h21]; rfl)
theorem m_answerAt {S : List Int32} {hp : List XC} {z s k zt za r c w : Nat} {zl zn zr zw zb zi : Int32} (hz : hp[z]? = some (.inr (9, [.int zl, .ref zt, .int zn, .ref za, .int zr, .int (Int32.ofNat w), .int zw, .int zb, .ref s, .ref k, .int zi]))) {es : List Value} {v : Int32} (hza : hp[za]? = some (.inl (21, es))) (hel : es.length ≤ 100000) (hv : es[r * w + c]? = some (.int v)) : Pu S 0 265 [.ref z, .int (Int32.ofNat r), .int (Int32.ofNat c)] hp (.int v) := by
  have hls := (List.getElem?_eq_some_iff.mp hv).1
  refine At.go (q := xm265) rfl 2 (pc' := 2) (L' := [(0, .ref z), (1, .int (Int32.ofNat r)), (2, .int (Int32.ofNat c))]) (st' := [.ref z, .int (Int32.ofNat r)]) rfl ?_
  refine At.gf rfl (by decide) hz rfl ?_
  refine At.go (q := xm265) rfl 3 (pc' := 8) (L' := [(0, .ref z), (1, .int (Int32.ofNat r)), (2, .int (Int32.ofNat c))]) (st' := [.int (((Int32.ofNat r) * (Int32.ofNat w)) + (Int32.ofNat c))]) rfl ?_
  rw [show Int32.ofNat r * Int32.ofNat w + Int32.ofNat c = Int32.ofNat (r * w + c) from by rw [Int32.ofNat_add, Int32.ofNat_mul]]
  refine At.go (q := xm265) rfl 2 (pc' := 10) (L' := [(3, .int (Int32.ofNat (r * w + c))), (0, .ref z), (1, .int (Int32.ofNat r)), (2, .int (Int32.ofNat c))]) (st' := [.int (Int32.ofNat (r * w + c))]) rfl ?_
  refine At.ic1 (tgt := 31) rfl rfl (fun h => absurd (h.symm.trans (decide_eq_false (iN_nn (by omega)))) (by decide)) (fun _ => ?_)
  refine At.go (q := xm265) rfl 2 (pc' := 15) (L' := [(3, .int (Int32.ofNat (r * w + c))), (0, .ref z), (1, .int (Int32.ofNat r)), (2, .int (Int32.ofNat c))]) (st' := [.ref z, .int (Int32.ofNat (r * w + c))]) rfl ?_
  refine At.gf rfl (by decide) hz rfl ?_
  refine At.ln rfl hza ?_
  refine At.ic2 (tgt := 31) rfl rfl (fun h => absurd (h.symm.trans (decide_eq_false (fun h => absurd ((iN_le (a := es.length) (b := r * w + c) (by omega) (by omega)).mp h) (by omega)))) (by decide)) (fun _ => ?_)
  refine At.go (q := xm265) rfl 1 (pc' := 23) (L' := [(3, .int (Int32.ofNat (r * w + c))), (0, .ref z), (1, .int (Int32.ofNat r)), (2, .int (Int32.ofNat c))]) (st' := [.ref z]) rfl ?_
  refine At.gf rfl (by decide) hz rfl ?_
  refine At.go (q := xm265) rfl 1 (pc' := 27) (L' := [(3, .int (Int32.ofNat (r * w + c))), (0, .ref z), (1, .int (Int32.ofNat r)), (2, .int (Int32.ofNat c))]) (st' := [.int (Int32.ofNat (r * w + c)), .ref za]) rfl ?_
  refine At.al rfl hza (by decide) rfl (iN_nn (by omega)) (by rw [iN_tn (by omega)]; exact hv) ?_
  refine At.go (q := xm265) rfl 1 (pc' := 33) (L' := [(3, .int (Int32.ofNat (r * w + c))), (0, .ref z), (1, .int (Int32.ofNat r)), (2, .int (Int32.ofNat c))]) (st' := [.int v]) rfl ?_
  exact At.rt rfl (xret_i rfl) rfl
