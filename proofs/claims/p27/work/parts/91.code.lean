/-! join; a formula's code; a session's places (written by wip/p27/c91.py) -/
/-- the least label that is above two -/
def joinE (a b : Int32) : Int32 := ((if a >>> (4 &&& 31) < b >>> (4 &&& 31) then b >>> (4 &&& 31) else a >>> (4 &&& 31)) <<< (4 &&& 31)) ||| ((a ||| b) &&& 15)
theorem m_join {S : List Int32} {hp : List XC} (a b : Int32) : Pu S 1 144 [.int a, .int b] hp (.int (joinE a b)) := by
  refine At.go (q := xm144) rfl 6 (pc' := 6) (L' := [(0, .int a), (1, .int b)]) (st' := [.int (b >>> (4 &&& 31)), .int (a >>> (4 &&& 31))]) rfl ?_
  refine At.sp rfl (by decide) (g := ([.int (if (a >>> (4 &&& 31)) < (b >>> (4 &&& 31)) then (b >>> (4 &&& 31)) else (a >>> (4 &&& 31)))], hp)) rfl ?_
  refine At.go (q := xm144) rfl 8 (pc' := 18) (L' := [(0, .int a), (1, .int b)]) (st' := [.int (((if (a >>> (4 &&& 31)) < (b >>> (4 &&& 31)) then (b >>> (4 &&& 31)) else (a >>> (4 &&& 31))) <<< (4 &&& 31)) ||| ((a ||| b) &&& 15))]) rfl ?_
  exact At.rt rfl (xret_i rfl) rfl
theorem m_farg {S : List Int32} {hp : List XC} {a oa aa pa sa wa n i : Nat} {ws : Value} (ho : hp[a]? = some (.inr (5, [.ref oa, .ref aa, .ref pa, .ref sa, .ref wa, ws, .int (Int32.ofNat n)]))) (hi : i < n) {gs : List Int32} {v : Int32} (haa : hp[aa]? = some (.inl (14, gs.map Value.int))) (hn : gs.length ≤ 100000) (hng : n ≤ gs.length) (hv : gs[i]? = some v) : Pu S 0 90 [.ref a, .int (Int32.ofNat i)] hp (.int v) := by
  refine At.go (q := xm90) rfl 1 (pc' := 1) (L' := [(0, .ref a), (1, .int (Int32.ofNat i))]) (st' := [.int (Int32.ofNat i)]) rfl ?_
  refine At.ic1 (tgt := 30) rfl rfl (fun h => absurd (h.symm.trans (decide_eq_false (iN_nn (by omega)))) (by decide)) (fun _ => ?_)
  refine At.go (q := xm90) rfl 2 (pc' := 6) (L' := [(0, .ref a), (1, .int (Int32.ofNat i))]) (st' := [.ref a, .int (Int32.ofNat i)]) rfl ?_
  refine At.gf rfl (by decide) ho rfl ?_
  refine At.ic2 (tgt := 30) rfl rfl (fun h => absurd (h.symm.trans (decide_eq_false (fun h => absurd ((iN_le (a := n) (b := i) (by omega) (by omega)).mp h) (by omega)))) (by decide)) (fun _ => ?_)
  refine At.go (q := xm90) rfl 2 (pc' := 14) (L' := [(0, .ref a), (1, .int (Int32.ofNat i))]) (st' := [.ref a, .int (Int32.ofNat i)]) rfl ?_
  refine At.gf rfl (by decide) ho rfl ?_
  refine At.ln rfl haa ?_
  refine At.ic2 (tgt := 30) rfl rfl (fun h => absurd (h.symm.trans (decide_eq_false (fun h => absurd ((iN_le (a := gs.length) (b := i) (by omega) (by omega)).mp (by rw [List.length_map] at h; exact h)) (by omega)))) (by decide)) (fun _ => ?_)
  refine At.go (q := xm90) rfl 1 (pc' := 22) (L' := [(0, .ref a), (1, .int (Int32.ofNat i))]) (st' := [.ref a]) rfl ?_
  refine At.gf rfl (by decide) ho rfl ?_
  refine At.go (q := xm90) rfl 1 (pc' := 26) (L' := [(0, .ref a), (1, .int (Int32.ofNat i))]) (st' := [.int (Int32.ofNat i), .ref aa]) rfl ?_
  refine At.al rfl haa (by decide) rfl (iN_nn (by omega)) (by rw [iN_tn (by omega), List.getElem?_map, hv]; rfl) ?_
  refine At.go (q := xm90) rfl 1 (pc' := 31) (L' := [(0, .ref a), (1, .int (Int32.ofNat i))]) (st' := [.int v]) rfl ?_
  exact At.rt rfl (xret_i rfl) rfl
theorem m_fplace {S : List Int32} {hp : List XC} {a oa aa pa sa wa n i : Nat} {ws : Value} (ho : hp[a]? = some (.inr (5, [.ref oa, .ref aa, .ref pa, .ref sa, .ref wa, ws, .int (Int32.ofNat n)]))) (hi : i < n) {gs : List Int32} {v : Int32} (hpa : hp[pa]? = some (.inl (15, gs.map Value.int))) (hn : gs.length ≤ 100000) (hng : n ≤ gs.length) (hv : gs[i]? = some v) : Pu S 0 91 [.ref a, .int (Int32.ofNat i)] hp (.int v) := by
  refine At.go (q := xm91) rfl 1 (pc' := 1) (L' := [(0, .ref a), (1, .int (Int32.ofNat i))]) (st' := [.int (Int32.ofNat i)]) rfl ?_
  refine At.ic1 (tgt := 30) rfl rfl (fun h => absurd (h.symm.trans (decide_eq_false (iN_nn (by omega)))) (by decide)) (fun _ => ?_)
  refine At.go (q := xm91) rfl 2 (pc' := 6) (L' := [(0, .ref a), (1, .int (Int32.ofNat i))]) (st' := [.ref a, .int (Int32.ofNat i)]) rfl ?_
  refine At.gf rfl (by decide) ho rfl ?_
  refine At.ic2 (tgt := 30) rfl rfl (fun h => absurd (h.symm.trans (decide_eq_false (fun h => absurd ((iN_le (a := n) (b := i) (by omega) (by omega)).mp h) (by omega)))) (by decide)) (fun _ => ?_)
  refine At.go (q := xm91) rfl 2 (pc' := 14) (L' := [(0, .ref a), (1, .int (Int32.ofNat i))]) (st' := [.ref a, .int (Int32.ofNat i)]) rfl ?_
  refine At.gf rfl (by decide) ho rfl ?_
  refine At.ln rfl hpa ?_
  refine At.ic2 (tgt := 30) rfl rfl (fun h => absurd (h.symm.trans (decide_eq_false (fun h => absurd ((iN_le (a := gs.length) (b := i) (by omega) (by omega)).mp (by rw [List.length_map] at h; exact h)) (by omega)))) (by decide)) (fun _ => ?_)
  refine At.go (q := xm91) rfl 1 (pc' := 22) (L' := [(0, .ref a), (1, .int (Int32.ofNat i))]) (st' := [.ref a]) rfl ?_
  refine At.gf rfl (by decide) ho rfl ?_
  refine At.go (q := xm91) rfl 1 (pc' := 26) (L' := [(0, .ref a), (1, .int (Int32.ofNat i))]) (st' := [.int (Int32.ofNat i), .ref pa]) rfl ?_
  refine At.al rfl hpa (by decide) rfl (iN_nn (by omega)) (by rw [iN_tn (by omega), List.getElem?_map, hv]; rfl) ?_
  refine At.go (q := xm91) rfl 1 (pc' := 31) (L' := [(0, .ref a), (1, .int (Int32.ofNat i))]) (st' := [.int v]) rfl ?_
  exact At.rt rfl (xret_i rfl) rfl
/-- whether a place is in an answer -/
def plcE (zr zc r c : Int32) : Bool := if r < 0 then false else if zr ≤ r then false else if c < 0 then false else if zc ≤ c then false else true
/-- hasPlace -/
theorem m_hasPlace {S : List Int32} {hp : List XC} {z zt za s k : Nat} {zl zn zr zc zw zb zi : Int32} (hz : hp[z]? = some (.inr (9, [.int zl, .ref zt, .int zn, .ref za, .int zr, .int zc, .int zw, .int zb, .ref s, .ref k, .int zi]))) (r c : Int32) : Pu S 0 264 [.ref z, .int r, .int c] hp (bv (plcE zr zc r c)) := by
  refine At.go (q := xm264) rfl 1 (pc' := 1) (L' := [(0, .ref z), (1, .int r), (2, .int c)]) (st' := [.int r]) rfl ?_
  refine At.ic1 (tgt := 28) rfl rfl (fun h0 => ?_) (fun h0 => ?_)
  · refine At.go (q := xm264) rfl 1 (pc' := 29) (L' := [(0, .ref z), (1, .int r), (2, .int c)]) (st' := [.int 0]) rfl ?_
    exact At.rt rfl rfl (by unfold plcE; rw [if_pos (of_decide_eq_true h0)]; rfl)
  · refine At.go (q := xm264) rfl 2 (pc' := 6) (L' := [(0, .ref z), (1, .int r), (2, .int c)]) (st' := [.ref z, .int r]) rfl ?_
    refine At.gf rfl (by decide) hz rfl ?_
    refine At.ic2 (tgt := 28) rfl rfl (fun h1 => ?_) (fun h1 => ?_)
    · refine At.go (q := xm264) rfl 1 (pc' := 29) (L' := [(0, .ref z), (1, .int r), (2, .int c)]) (st' := [.int 0]) rfl ?_
      exact At.rt rfl rfl (by unfold plcE; rw [if_neg (of_decide_eq_false h0)]; rw [if_pos (of_decide_eq_true h1)]; rfl)
    · refine At.go (q := xm264) rfl 1 (pc' := 13) (L' := [(0, .ref z), (1, .int r), (2, .int c)]) (st' := [.int c]) rfl ?_
      refine At.ic1 (tgt := 28) rfl rfl (fun h2 => ?_) (fun h2 => ?_)
      · refine At.go (q := xm264) rfl 1 (pc' := 29) (L' := [(0, .ref z), (1, .int r), (2, .int c)]) (st' := [.int 0]) rfl ?_
        exact At.rt rfl rfl (by unfold plcE; rw [if_neg (of_decide_eq_false h0)]; rw [if_neg (of_decide_eq_false h1)]; rw [if_pos (of_decide_eq_true h2)]; rfl)
      · refine At.go (q := xm264) rfl 2 (pc' := 18) (L' := [(0, .ref z), (1, .int r), (2, .int c)]) (st' := [.ref z, .int c]) rfl ?_
        refine At.gf rfl (by decide) hz rfl ?_
        refine At.ic2 (tgt := 28) rfl rfl (fun h3 => ?_) (fun h3 => ?_)
        · refine At.go (q := xm264) rfl 1 (pc' := 29) (L' := [(0, .ref z), (1, .int r), (2, .int c)]) (st' := [.int 0]) rfl ?_
          exact At.rt rfl rfl (by unfold plcE; rw [if_neg (of_decide_eq_false h0)]; rw [if_neg (of_decide_eq_false h1)]; rw [if_neg (of_decide_eq_false h2)]; rw [if_pos (of_decide_eq_true h3)]; rfl)
        · refine At.go (q := xm264) rfl 2 (pc' := 29) (L' := [(0, .ref z), (1, .int r), (2, .int c)]) (st' := [.int 1]) rfl ?_
          exact At.rt rfl rfl (by unfold plcE; rw [if_neg (of_decide_eq_false h0)]; rw [if_neg (of_decide_eq_false h1)]; rw [if_neg (of_decide_eq_false h2)]; rw [if_neg (of_decide_eq_false h3)]; rfl)
