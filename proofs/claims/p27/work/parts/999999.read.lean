/-! the house: what is read of an answer (written by wip/p27/c999999.py) -/
theorem m_hrows {S : List Int32} {hp : List XC} {H sa i z : Nat} {fs es : List Value} (hH : hp[H]? = some (.inr (14, fs))) (hf0 : fs[0]? = some (.ref sa)) (hsa : hp[sa]? = some (.inl (4, es))) (hel : es.length ≤ 100000) (hv : es[i]? = some (.ref z)) {s k zt za : Nat} {zl zn zr zc zw zb zi : Int32} (hz : hp[z]? = some (.inr (9, [.int zl, .ref zt, .int zn, .ref za, .int zr, .int zc, .int zw, .int zb, .ref s, .ref k, .int zi]))) : Pu S 1 261 [.ref H, .int (Int32.ofNat i)] hp (.int zr) := by
  refine At.go (q := xm261) rfl 2 (pc' := 2) (L' := [(0, .ref H), (1, .int (Int32.ofNat i))]) (st' := [.int (Int32.ofNat i), .ref H]) rfl ?_
  refine At.clp (as := [.ref H, .int (Int32.ofNat i)]) (rest := []) rfl (by decide) rfl (Nat.le_of_ble_eq_true rfl) (Nat.le_of_ble_eq_true rfl) (xrck_o (by decide) (by decide) hH (by decide)) (Nat.le_of_ble_eq_true rfl) (m_sessionOf hH hf0 hsa hel hv) ?_
  refine At.gf rfl (by decide) hz rfl ?_
  exact At.rt rfl (xret_i rfl) rfl
theorem m_hcolumns {S : List Int32} {hp : List XC} {H sa i z : Nat} {fs es : List Value} (hH : hp[H]? = some (.inr (14, fs))) (hf0 : fs[0]? = some (.ref sa)) (hsa : hp[sa]? = some (.inl (4, es))) (hel : es.length ≤ 100000) (hv : es[i]? = some (.ref z)) {s k zt za : Nat} {zl zn zr zc zw zb zi : Int32} (hz : hp[z]? = some (.inr (9, [.int zl, .ref zt, .int zn, .ref za, .int zr, .int zc, .int zw, .int zb, .ref s, .ref k, .int zi]))) : Pu S 1 262 [.ref H, .int (Int32.ofNat i)] hp (.int zc) := by
  refine At.go (q := xm262) rfl 2 (pc' := 2) (L' := [(0, .ref H), (1, .int (Int32.ofNat i))]) (st' := [.int (Int32.ofNat i), .ref H]) rfl ?_
  refine At.clp (as := [.ref H, .int (Int32.ofNat i)]) (rest := []) rfl (by decide) rfl (Nat.le_of_ble_eq_true rfl) (Nat.le_of_ble_eq_true rfl) (xrck_o (by decide) (by decide) hH (by decide)) (Nat.le_of_ble_eq_true rfl) (m_sessionOf hH hf0 hsa hel hv) ?_
  refine At.gf rfl (by decide) hz rfl ?_
  exact At.rt rfl (xret_i rfl) rfl
theorem m_hisOpen {S : List Int32} {hp : List XC} {H sa i z : Nat} {fs es : List Value} (hH : hp[H]? = some (.inr (14, fs))) (hf0 : fs[0]? = some (.ref sa)) (hsa : hp[sa]? = some (.inl (4, es))) (hel : es.length ≤ 100000) (hv : es[i]? = some (.ref z)) {s k zt za : Nat} {zl zn zr zc zw zi : Int32} {b : Bool} (hz : hp[z]? = some (.inr (9, [.int zl, .ref zt, .int zn, .ref za, .int zr, .int zc, .int zw, .int (bI b), .ref s, .ref k, .int zi]))) : Pu S 1 267 [.ref H, .int (Int32.ofNat i)] hp (.int (bI b)) := by
  refine At.go (q := xm267) rfl 2 (pc' := 2) (L' := [(0, .ref H), (1, .int (Int32.ofNat i))]) (st' := [.int (Int32.ofNat i), .ref H]) rfl ?_
  refine At.clp (as := [.ref H, .int (Int32.ofNat i)]) (rest := []) rfl (by decide) rfl (Nat.le_of_ble_eq_true rfl) (Nat.le_of_ble_eq_true rfl) (xrck_o (by decide) (by decide) hH (by decide)) (Nat.le_of_ble_eq_true rfl) (m_sessionOf hH hf0 hsa hel hv) ?_
  refine At.gf rfl (by decide) hz rfl ?_
  cases b <;> exact At.rt rfl rfl rfl
theorem m_hisKnown {S : List Int32} {hp : List XC} {H sa i z : Nat} {fs es : List Value} (hH : hp[H]? = some (.inr (14, fs))) (hf0 : fs[0]? = some (.ref sa)) (hsa : hp[sa]? = some (.inl (4, es))) (hel : es.length ≤ 100000) (hv : es[i]? = some (.ref z)) {s k zt za r w c : Nat} {zl zn zw zb zi v : Int32} {ab : List Value} {m : Nat} (hz : hp[z]? = some (.inr (9, [.int zl, .ref zt, .int zn, .ref za, .int (Int32.ofNat m), .int (Int32.ofNat w), .int zw, .int zb, .ref s, .ref k, .int zi]))) (hza : hp[za]? = some (.inl (21, ab))) (hab : ab.length ≤ 100000) (hav : ab[r * w + c]? = some (.int v)) (hr : r < m) (hc : c < w) (hm9 : m < 2 ^ 31) (hw9 : w < 2 ^ 31) : Pu S 1 263 [.ref H, .int (Int32.ofNat i), .int (Int32.ofNat r), .int (Int32.ofNat c)] hp (.int (bI (!decide (v = -1000000000)))) := by
  have hpl : hplE (Int32.ofNat r) (Int32.ofNat c) (Int32.ofNat m) (Int32.ofNat w) = true := by
    unfold hplE
    rw [decide_eq_false (iN_nn (by omega)), decide_eq_false (iN_nn (by omega)), decide_eq_false (fun h => absurd ((iN_le (a := m) (b := r) (by omega) (by omega)).mp h) (by omega)), decide_eq_false (fun h => absurd ((iN_le (a := w) (b := c) (by omega) (by omega)).mp h) (by omega))]
    rfl
  have hpl2 : Pu S 0 264 [.ref z, .int (Int32.ofNat r), .int (Int32.ofNat c)] hp (.int (bI true)) := by
    rw [← hpl]
    exact m_hasPlaceZ hz
  refine At.go (q := xm263) rfl 2 (pc' := 2) (L' := [(0, .ref H), (1, .int (Int32.ofNat i)), (2, .int (Int32.ofNat r)), (3, .int (Int32.ofNat c))]) (st' := [.int (Int32.ofNat i), .ref H]) rfl ?_
  refine At.clp (as := [.ref H, .int (Int32.ofNat i)]) (rest := []) rfl (by decide) rfl (Nat.le_of_ble_eq_true rfl) (Nat.le_of_ble_eq_true rfl) (xrck_o (by decide) (by decide) hH (by decide)) (Nat.le_of_ble_eq_true rfl) (m_sessionOf hH hf0 hsa hel hv) ?_
  refine At.go (q := xm263) rfl 4 (pc' := 11) (L' := [(4, .ref z), (0, .ref H), (1, .int (Int32.ofNat i)), (2, .int (Int32.ofNat r)), (3, .int (Int32.ofNat c))]) (st' := [.int (Int32.ofNat c), .int (Int32.ofNat r), .ref z]) rfl ?_
  refine At.clp (as := [.ref z, .int (Int32.ofNat r), .int (Int32.ofNat c)]) (rest := []) rfl (by decide) rfl (Nat.le_of_ble_eq_true rfl) (Nat.le_of_ble_eq_true rfl) (xrck_o (by decide) (by decide) hz (by decide)) (Nat.le_of_ble_eq_true rfl) (hpl2) ?_
  refine At.ic1 (tgt := 25) rfl rfl (fun _ => ?_) (fun h => absurd (h.symm.trans (by decide : xcm .ne (bI true) 0 = true)) (by decide))
  refine At.go (q := xm263) rfl 3 (pc' := 29) (L' := [(4, .ref z), (0, .ref H), (1, .int (Int32.ofNat i)), (2, .int (Int32.ofNat r)), (3, .int (Int32.ofNat c))]) (st' := [.int (Int32.ofNat c), .int (Int32.ofNat r), .ref z]) rfl ?_
  refine At.clp (as := [.ref z, .int (Int32.ofNat r), .int (Int32.ofNat c)]) (rest := []) rfl (by decide) rfl (Nat.le_of_ble_eq_true rfl) (Nat.le_of_ble_eq_true rfl) (xrck_o (by decide) (by decide) hz (by decide)) (Nat.le_of_ble_eq_true rfl) (m_answerAt hz hza hab hav) ?_
  refine At.go (q := xm263) rfl 1 (pc' := 34) (L' := [(4, .ref z), (0, .ref H), (1, .int (Int32.ofNat i)), (2, .int (Int32.ofNat r)), (3, .int (Int32.ofNat c))]) (st' := [.int (-1000000000), .int v]) rfl ?_
  refine At.ic2 (tgt := 41) rfl rfl (fun h34 => ?_) (fun h34 => ?_)
  · refine At.go (q := xm263) rfl 1 (pc' := 42) (L' := [(4, .ref z), (0, .ref H), (1, .int (Int32.ofNat i)), (2, .int (Int32.ofNat r)), (3, .int (Int32.ofNat c))]) (st' := [.int 0]) rfl ?_
    exact At.rt rfl rfl (by rw [decide_eq_true (of_decide_eq_true h34)]; rfl)
  · refine At.go (q := xm263) rfl 2 (pc' := 42) (L' := [(4, .ref z), (0, .ref H), (1, .int (Int32.ofNat i)), (2, .int (Int32.ofNat r)), (3, .int (Int32.ofNat c))]) (st' := [.int 1]) rfl ?_
    exact At.rt rfl rfl (by rw [decide_eq_false (of_decide_eq_false h34)]; rfl)
theorem m_hcell {S : List Int32} {hp : List XC} {H sa i z : Nat} {fs es : List Value} (hH : hp[H]? = some (.inr (14, fs))) (hf0 : fs[0]? = some (.ref sa)) (hsa : hp[sa]? = some (.inl (4, es))) (hel : es.length ≤ 100000) (hv : es[i]? = some (.ref z)) {s k zt za r w c : Nat} {zl zn zw zb zi v : Int32} {ab : List Value} {m : Nat} (hz : hp[z]? = some (.inr (9, [.int zl, .ref zt, .int zn, .ref za, .int (Int32.ofNat m), .int (Int32.ofNat w), .int zw, .int zb, .ref s, .ref k, .int zi]))) (hza : hp[za]? = some (.inl (21, ab))) (hab : ab.length ≤ 100000) (hav : ab[r * w + c]? = some (.int v)) (hr : r < m) (hc : c < w) (hm9 : m < 2 ^ 31) (hw9 : w < 2 ^ 31) (hkn : ¬ v = -1000000000) : Pu S 1 266 [.ref H, .int (Int32.ofNat i), .int (Int32.ofNat r), .int (Int32.ofNat c)] hp (.int v) := by
  have hpl : hplE (Int32.ofNat r) (Int32.ofNat c) (Int32.ofNat m) (Int32.ofNat w) = true := by
    unfold hplE
    rw [decide_eq_false (iN_nn (by omega)), decide_eq_false (iN_nn (by omega)), decide_eq_false (fun h => absurd ((iN_le (a := m) (b := r) (by omega) (by omega)).mp h) (by omega)), decide_eq_false (fun h => absurd ((iN_le (a := w) (b := c) (by omega) (by omega)).mp h) (by omega))]
    rfl
  have hpl2 : Pu S 0 264 [.ref z, .int (Int32.ofNat r), .int (Int32.ofNat c)] hp (.int (bI true)) := by
    rw [← hpl]
    exact m_hasPlaceZ hz
  refine At.go (q := xm266) rfl 2 (pc' := 2) (L' := [(0, .ref H), (1, .int (Int32.ofNat i)), (2, .int (Int32.ofNat r)), (3, .int (Int32.ofNat c))]) (st' := [.int (Int32.ofNat i), .ref H]) rfl ?_
  refine At.clp (as := [.ref H, .int (Int32.ofNat i)]) (rest := []) rfl (by decide) rfl (Nat.le_of_ble_eq_true rfl) (Nat.le_of_ble_eq_true rfl) (xrck_o (by decide) (by decide) hH (by decide)) (Nat.le_of_ble_eq_true rfl) (m_sessionOf hH hf0 hsa hel hv) ?_
  refine At.go (q := xm266) rfl 4 (pc' := 11) (L' := [(4, .ref z), (0, .ref H), (1, .int (Int32.ofNat i)), (2, .int (Int32.ofNat r)), (3, .int (Int32.ofNat c))]) (st' := [.int (Int32.ofNat c), .int (Int32.ofNat r), .ref z]) rfl ?_
  refine At.clp (as := [.ref z, .int (Int32.ofNat r), .int (Int32.ofNat c)]) (rest := []) rfl (by decide) rfl (Nat.le_of_ble_eq_true rfl) (Nat.le_of_ble_eq_true rfl) (xrck_o (by decide) (by decide) hz (by decide)) (Nat.le_of_ble_eq_true rfl) (hpl2) ?_
  refine At.ic1 (tgt := 25) rfl rfl (fun _ => ?_) (fun h => absurd (h.symm.trans (by decide : xcm .ne (bI true) 0 = true)) (by decide))
  refine At.go (q := xm266) rfl 3 (pc' := 29) (L' := [(4, .ref z), (0, .ref H), (1, .int (Int32.ofNat i)), (2, .int (Int32.ofNat r)), (3, .int (Int32.ofNat c))]) (st' := [.int (Int32.ofNat c), .int (Int32.ofNat r), .ref z]) rfl ?_
  refine At.clp (as := [.ref z, .int (Int32.ofNat r), .int (Int32.ofNat c)]) (rest := []) rfl (by decide) rfl (Nat.le_of_ble_eq_true rfl) (Nat.le_of_ble_eq_true rfl) (xrck_o (by decide) (by decide) hz (by decide)) (Nat.le_of_ble_eq_true rfl) (m_answerAt hz hza hab hav) ?_
  refine At.go (q := xm266) rfl 3 (pc' := 38) (L' := [(5, .int v), (4, .ref z), (0, .ref H), (1, .int (Int32.ofNat i)), (2, .int (Int32.ofNat r)), (3, .int (Int32.ofNat c))]) (st' := [.int (-1000000000), .int v]) rfl ?_
  refine At.ic2 (tgt := 49) rfl rfl (fun _ => ?_) (fun h => absurd (h.symm.trans (decide_eq_true hkn)) (by decide))
  refine At.go (q := xm266) rfl 1 (pc' := 51) (L' := [(5, .int v), (4, .ref z), (0, .ref H), (1, .int (Int32.ofNat i)), (2, .int (Int32.ofNat r)), (3, .int (Int32.ofNat c))]) (st' := [.int v]) rfl ?_
  exact At.rt rfl (xret_i rfl) rfl
