/-! the house: its sessions (written by wip/p27/c999998.py) -/
theorem m_sessionOf {S : List Int32} {hp : List XC} {H sa i z : Nat} {fs es : List Value} (hH : hp[H]? = some (.inr (14, fs))) (hf0 : fs[0]? = some (.ref sa)) (hsa : hp[sa]? = some (.inl (4, es))) (hel : es.length ≤ 100000) (hv : es[i]? = some (.ref z)) : Pu S 0 20 [.ref H, .int (Int32.ofNat i)] hp (.ref z) := by
  have hls := (List.getElem?_eq_some_iff.mp hv).1
  refine At.go (q := xm20) rfl 1 (pc' := 1) (L' := [(0, .ref H), (1, .int (Int32.ofNat i))]) (st' := [.int (Int32.ofNat i)]) rfl ?_
  refine At.ic1 (tgt := 13) rfl rfl (fun h => absurd (h.symm.trans (decide_eq_false (iN_nn (by omega)))) (by decide)) (fun _ => ?_)
  refine At.go (q := xm20) rfl 2 (pc' := 6) (L' := [(0, .ref H), (1, .int (Int32.ofNat i))]) (st' := [.ref H, .int (Int32.ofNat i)]) rfl ?_
  refine At.gf rfl (by decide) hH hf0 ?_
  refine At.ln rfl hsa ?_
  refine At.ic2 (tgt := 21) rfl rfl (fun _ => ?_) (fun h => absurd (h.symm.trans (decide_eq_true ((iN_lt (a := i) (b := es.length) (by omega) (by omega)).mpr hls))) (by decide))
  refine At.go (q := xm20) rfl 1 (pc' := 22) (L' := [(0, .ref H), (1, .int (Int32.ofNat i))]) (st' := [.ref H]) rfl ?_
  refine At.gf rfl (by decide) hH hf0 ?_
  refine At.go (q := xm20) rfl 1 (pc' := 26) (L' := [(0, .ref H), (1, .int (Int32.ofNat i))]) (st' := [.int (Int32.ofNat i), .ref sa]) rfl ?_
  refine At.ql rfl hsa (by decide) rfl (iN_nn (by omega)) (by rw [iN_tn (by omega)]; exact hv) rfl ?_
  exact At.rt rfl rfl rfl
