/-! queries: an answer's width, and a word's kind (written by wip/p27/c999994.py) -/
theorem m_rkind {S : List Int32} {hp : List XC} {r ka n i kw : Nat} {vv pv r4 r5 r6 : Value} {es : List Value} (hr : hp[r]? = some (.inr (8, [.ref ka, vv, pv, .int (Int32.ofNat n), r4, r5, r6]))) (hka : hp[ka]? = some (.inl (25, es))) (hi : i < n) (hn : n ≤ 1000) (hel : es.length ≤ 1000) (hv : es[i]? = some (.retAddr kw)) : Pu S 0 52 [.ref r, .int (Int32.ofNat i)] hp (.retAddr kw) := by
  have hls := (List.getElem?_eq_some_iff.mp hv).1
  refine At.go (q := xm52) rfl 1 (pc' := 1) (L' := [(0, .ref r), (1, .int (Int32.ofNat i))]) (st' := [.int (Int32.ofNat i)]) rfl ?_
  refine At.ic1 (tgt := 30) rfl rfl (fun h => absurd (h.symm.trans (decide_eq_false (iN_nn (by omega)))) (by decide)) (fun _ => ?_)
  refine At.go (q := xm52) rfl 2 (pc' := 6) (L' := [(0, .ref r), (1, .int (Int32.ofNat i))]) (st' := [.ref r, .int (Int32.ofNat i)]) rfl ?_
  refine At.gf rfl (by decide) hr rfl ?_
  refine At.ic2 (tgt := 30) rfl rfl (fun h => absurd (h.symm.trans (decide_eq_false (fun h => absurd ((iN_le (a := n) (b := i) (by omega) (by omega)).mp h) (by omega)))) (by decide)) (fun _ => ?_)
  refine At.go (q := xm52) rfl 2 (pc' := 14) (L' := [(0, .ref r), (1, .int (Int32.ofNat i))]) (st' := [.ref r, .int (Int32.ofNat i)]) rfl ?_
  refine At.gf rfl (by decide) hr rfl ?_
  refine At.ln rfl hka ?_
  refine At.ic2 (tgt := 30) rfl rfl (fun h => absurd (h.symm.trans (decide_eq_false (fun h => absurd ((iN_le (a := es.length) (b := i) (by omega) (by omega)).mp h) (by omega)))) (by decide)) (fun _ => ?_)
  refine At.go (q := xm52) rfl 1 (pc' := 22) (L' := [(0, .ref r), (1, .int (Int32.ofNat i))]) (st' := [.ref r]) rfl ?_
  refine At.gf rfl (by decide) hr rfl ?_
  refine At.go (q := xm52) rfl 1 (pc' := 26) (L' := [(0, .ref r), (1, .int (Int32.ofNat i))]) (st' := [.int (Int32.ofNat i), .ref ka]) rfl ?_
  refine At.ql rfl hka (by decide) rfl (iN_nn (by omega)) (by rw [iN_tn (by omega)]; exact hv) rfl ?_
  refine At.go (q := xm52) rfl 1 (pc' := 33) (L' := [(0, .ref r), (1, .int (Int32.ofNat i))]) (st' := [.retAddr kw]) rfl ?_
  exact At.rt rfl rfl rfl
theorem m_rkindN {S : List Int32} {hp : List XC} {r : Nat} {x : Int32} (hx : x < 0) : Pu S 0 52 [.ref r, .int x] hp (.retAddr 0) := by
  refine At.go (q := xm52) rfl 1 (pc' := 1) (L' := [(0, .ref r), (1, .int x)]) (st' := [.int x]) rfl ?_
  refine At.ic1 (tgt := 30) rfl rfl (fun _ => ?_) (fun h => absurd (h.symm.trans (decide_eq_true hx)) (by decide))
  refine At.go (q := xm52) rfl 1 (pc' := 33) (L' := [(0, .ref r), (1, .int x)]) (st' := [.retAddr 0]) rfl ?_
  exact At.rt rfl rfl rfl
theorem m_awI {S : List Int32} {hp : List XC} {mn st : Nat} {mf sf : List Value} {aa it : Int32} (hm : hp[mn]? = some (.inr (6, mf))) (hm0 : mf[0]? = some (.ref st)) (hst : hp[st]? = some (.inr (12, sf))) (hs4 : sf[4]? = some (.int aa)) (hs14 : sf[14]? = some (.int it)) (haa : aa < 0) : Pu S 1 106 [.ref mn] hp (.int it) := by
  refine At.go (q := xm106) rfl 1 (pc' := 1) (L' := [(0, .ref mn)]) (st' := [.ref mn]) rfl ?_
  refine At.gf rfl (by decide) hm hm0 ?_
  refine At.gf rfl (by decide) hst hs4 ?_
  refine At.ic1 (tgt := 17) rfl rfl (fun _ => ?_) (fun h => absurd (h.symm.trans (decide_eq_true haa)) (by decide))
  refine At.go (q := xm106) rfl 1 (pc' := 18) (L' := [(0, .ref mn)]) (st' := [.ref mn]) rfl ?_
  refine At.gf rfl (by decide) hm hm0 ?_
  refine At.gf rfl (by decide) hst hs14 ?_
  exact At.rt rfl (xret_i rfl) rfl
theorem m_aw1 {S : List Int32} {hp : List XC} {mn st : Nat} {mf sf : List Value} {aa : Int32} (hm : hp[mn]? = some (.inr (6, mf))) (hm0 : mf[0]? = some (.ref st)) (hst : hp[st]? = some (.inr (12, sf))) (hs4 : sf[4]? = some (.int aa)) (haa : ¬ aa < 0) {t1 : Nat} {s1 : Int32} {T1 : Tb} (hm4 : mf[4]? = some (.ref t1)) (hm5 : mf[5]? = some (.null)) (hT1 : hTb hp t1 s1 T1) : Pu S 1 106 [.ref mn] hp (.int (Int32.ofNat T1.2.2.1.length)) := by
  obtain ⟨ca1, ka1, ra1, ga1, chk1, dv1, ht1, -⟩ := id hT1
  refine At.go (q := xm106) rfl 1 (pc' := 1) (L' := [(0, .ref mn)]) (st' := [.ref mn]) rfl ?_
  refine At.gf rfl (by decide) hm hm0 ?_
  refine At.gf rfl (by decide) hst hs4 ?_
  refine At.ic1 (tgt := 17) rfl rfl (fun h => absurd (h.symm.trans (decide_eq_false haa)) (by decide)) (fun _ => ?_)
  refine At.go (q := xm106) rfl 1 (pc' := 11) (L' := [(0, .ref mn)]) (st' := [.ref mn]) rfl ?_
  refine At.gf rfl (by decide) hm hm4 ?_
  refine At.go (q := xm106) rfl 2 (pc' := 26) (L' := [(0, .ref mn)]) (st' := [.ref mn]) rfl ?_
  refine At.gf rfl (by decide) hm hm5 ?_
  refine At.go (q := xm106) rfl 2 (pc' := 33) (L' := [(0, .ref mn)]) (st' := [.ref mn]) rfl ?_
  refine At.gf rfl (by decide) hm hm4 ?_
  refine At.clp (as := [.ref t1]) (rest := []) rfl (by decide) rfl (Nat.le_of_ble_eq_true rfl) (Nat.le_of_ble_eq_true rfl) (xrck_o (by decide) (by decide) ht1 (by decide)) (Nat.le_of_ble_eq_true rfl) (m_width hT1) ?_
  refine At.go (q := xm106) rfl 1 (pc' := 57) (L' := [(0, .ref mn)]) (st' := [.int (Int32.ofNat T1.2.2.1.length)]) rfl ?_
  exact At.rt rfl (xret_i rfl) rfl
theorem m_aw2 {S : List Int32} {hp : List XC} {mn st : Nat} {mf sf : List Value} {aa : Int32} (hm : hp[mn]? = some (.inr (6, mf))) (hm0 : mf[0]? = some (.ref st)) (hst : hp[st]? = some (.inr (12, sf))) (hs4 : sf[4]? = some (.int aa)) (haa : ¬ aa < 0) {t1 t2 : Nat} {s1 s2 : Int32} {T1 T2 : Tb} (hm4 : mf[4]? = some (.ref t1)) (hm5 : mf[5]? = some (.ref t2)) (hT1 : hTb hp t1 s1 T1) (hT2 : hTb hp t2 s2 T2) : Pu S 1 106 [.ref mn] hp (.int (Int32.ofNat (T1.2.2.1.length + T2.2.2.1.length))) := by
  obtain ⟨ca1, ka1, ra1, ga1, chk1, dv1, ht1, -⟩ := id hT1
  obtain ⟨ca2, ka2, ra2, ga2, chk2, dv2, ht2, -⟩ := id hT2
  refine At.go (q := xm106) rfl 1 (pc' := 1) (L' := [(0, .ref mn)]) (st' := [.ref mn]) rfl ?_
  refine At.gf rfl (by decide) hm hm0 ?_
  refine At.gf rfl (by decide) hst hs4 ?_
  refine At.ic1 (tgt := 17) rfl rfl (fun h => absurd (h.symm.trans (decide_eq_false haa)) (by decide)) (fun _ => ?_)
  refine At.go (q := xm106) rfl 1 (pc' := 11) (L' := [(0, .ref mn)]) (st' := [.ref mn]) rfl ?_
  refine At.gf rfl (by decide) hm hm4 ?_
  refine At.go (q := xm106) rfl 2 (pc' := 26) (L' := [(0, .ref mn)]) (st' := [.ref mn]) rfl ?_
  refine At.gf rfl (by decide) hm hm5 ?_
  refine At.go (q := xm106) rfl 2 (pc' := 43) (L' := [(0, .ref mn)]) (st' := [.ref mn]) rfl ?_
  refine At.gf rfl (by decide) hm hm4 ?_
  refine At.clp (as := [.ref t1]) (rest := []) rfl (by decide) rfl (Nat.le_of_ble_eq_true rfl) (Nat.le_of_ble_eq_true rfl) (xrck_o (by decide) (by decide) ht1 (by decide)) (Nat.le_of_ble_eq_true rfl) (m_width hT1) ?_
  refine At.go (q := xm106) rfl 1 (pc' := 50) (L' := [(0, .ref mn)]) (st' := [.ref mn, .int (Int32.ofNat T1.2.2.1.length)]) rfl ?_
  refine At.gf rfl (by decide) hm hm5 ?_
  refine At.clp (as := [.ref t2]) (rest := [.int (Int32.ofNat T1.2.2.1.length)]) rfl (by decide) rfl (Nat.le_of_ble_eq_true rfl) (Nat.le_of_ble_eq_true rfl) (xrck_o (by decide) (by decide) ht2 (by decide)) (Nat.le_of_ble_eq_true rfl) (m_width hT2) ?_
  refine At.go (q := xm106) rfl 1 (pc' := 57) (L' := [(0, .ref mn)]) (st' := [.int ((Int32.ofNat T1.2.2.1.length) + (Int32.ofNat T2.2.2.1.length))]) rfl ?_
  exact At.rt rfl (xret_i rfl) (by rw [Int32.ofNat_add])
