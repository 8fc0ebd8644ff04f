/-! the house: a thing done is counted (written by wip/p27/c9999992.py) -/
theorem m_count0 {S : List Int32} {hp : List XC} {H z ta t s k zt za : Nat} {lb zn zr zc zw zb zi x rc v : Int32} {fs : List Value} {tl : List Int32} (hH : hp[H]? = some (.inr (14, fs))) (hf4 : fs[4]? = some (.ref ta)) (hf11 : fs[11]? = some (.int rc)) (hz : hp[z]? = some (.inr (9, [.int lb, .ref zt, .int zn, .ref za, .int zr, .int zc, .int zw, .int zb, .ref s, .ref k, .int zi]))) (hta : hp[ta]? = some (.inl (8, tl.map Value.int))) (htl : tl.length ≤ 100000) (hv : tl[t]? = some v) (htp : Pu S 1 114 [.int lb, .int x] hp (.int (Int32.ofNat t))) (hrc : rc = 0) : Me S 2 113 [.ref H, .ref z, .int x] hp (fun v9 hp' c s' => v9 = none ∧ FrX (fun x => x = z ∨ x = ta) hp hp' ∧ hp'[z]? = some (.inr (9, [.int lb, .ref zt, .int zn, .ref za, .int zr, .int zc, .int zw, .int zb, .ref s, .ref k, .int zi])) ∧ hp'[ta]? = some (.inl (8, (tl.set t (v + 1)).map Value.int)) ∧ c = 0 ∧ s' = 0) := by
  have hls := (List.getElem?_eq_some_iff.mp hv).1
  refine At.go (q := xm113) rfl 1 (pc' := 1) (L' := [(0, .ref H), (1, .ref z), (2, .int x)]) (st' := [.ref z]) rfl ?_
  refine At.gf rfl (by decide) hz rfl ?_
  refine At.go (q := xm113) rfl 1 (pc' := 5) (L' := [(0, .ref H), (1, .ref z), (2, .int x)]) (st' := [.int x, .int lb]) rfl ?_
  refine At.clp (as := [.int lb, .int x]) (rest := []) rfl (by decide) rfl (Nat.le_of_ble_eq_true rfl) (Nat.le_of_ble_eq_true rfl) rfl (Nat.le_of_ble_eq_true rfl) (htp) ?_
  refine At.go (q := xm113) rfl 2 (pc' := 10) (L' := [(3, .int (Int32.ofNat t)), (0, .ref H), (1, .ref z), (2, .int x)]) (st' := [.int (Int32.ofNat t)]) rfl ?_
  refine At.ic1 (tgt := 32) rfl rfl (fun h => absurd (h.symm.trans (decide_eq_false (iN_nn (by omega)))) (by decide)) (fun _ => ?_)
  refine At.go (q := xm113) rfl 2 (pc' := 15) (L' := [(3, .int (Int32.ofNat t)), (0, .ref H), (1, .ref z), (2, .int x)]) (st' := [.ref H, .int (Int32.ofNat t)]) rfl ?_
  refine At.gf rfl (by decide) hH hf4 ?_
  refine At.ln rfl hta ?_
  rw [List.length_map]
  refine At.ic2 (tgt := 32) rfl rfl (fun h => absurd ((iN_le (a := tl.length) (b := t) (by omega) (by omega)).mp (of_decide_eq_true h)) (by omega)) (fun _ => ?_)
  refine At.go (q := xm113) rfl 1 (pc' := 23) (L' := [(3, .int (Int32.ofNat t)), (0, .ref H), (1, .ref z), (2, .int x)]) (st' := [.ref H]) rfl ?_
  refine At.gf rfl (by decide) hH hf4 ?_
  refine At.go (q := xm113) rfl 2 (pc' := 28) (L' := [(3, .int (Int32.ofNat t)), (0, .ref H), (1, .ref z), (2, .int x)]) (st' := [.int (Int32.ofNat t), .ref ta, .int (Int32.ofNat t), .ref ta]) rfl ?_
  refine At.al rfl hta (by decide) rfl (iN_nn (by omega)) (by rw [iN_tn (by omega), List.getElem?_map, hv]; rfl) ?_
  refine At.go (q := xm113) rfl 2 (pc' := 31) (L' := [(3, .int (Int32.ofNat t)), (0, .ref H), (1, .ref z), (2, .int x)]) (st' := [.int (v + 1), .int (Int32.ofNat t), .ref ta]) rfl ?_
  refine At.as (j := Int32.ofNat t) rfl hta (by decide) rfl (iN_nn (by omega)) (by rw [iN_tn (by omega), List.length_map]; omega) ?_
  rw [iN_tn (by omega)]
  obtain ⟨h1, eh1⟩ : ∃ h, h = hp.set ta (.inl (8, (tl.map Value.int).set t (.int (v + 1)))) := ⟨_, rfl⟩
  refine At.hpe eh1 ?_
  have f1 : FrX (fun x => x = ta) hp h1 := by rw [eh1]; exact FrX.st hta rfl rfl rfl rfl (fun fs h => by cases h) (fun ci fs h => by cases h)
  have hH1 := f1.ob hH (by decide) (fun e => xn_ra hH hta e)
  have hz1 := f1.ob hz (by decide) (fun e => xn_ra hz hta e)
  have hta1 : h1[ta]? = some (.inl (8, (tl.set t (v + 1)).map Value.int)) := by rw [eh1, List.map_set]; exact xs_eq hta
  refine At.go (q := xm113) rfl 1 (pc' := 33) (L' := [(3, .int (Int32.ofNat t)), (0, .ref H), (1, .ref z), (2, .int x)]) (st' := [.ref H]) rfl ?_
  refine At.gf rfl (by decide) hH1 hf11 ?_
  refine At.ic1 (tgt := 47) rfl rfl (fun _ => ?_) (fun h => absurd (h.symm.trans (decide_eq_true hrc)) (by decide))
  exact At.rt rfl rfl ⟨_, _, _, _, rfl, rfl, f1.mono (fun x _ h => Or.inr h), hz1, hta1, rfl, rfl⟩
theorem m_count1 {S : List Int32} {hp : List XC} {H z ta t s k zt za : Nat} {lb zn zr zc zw zb zi x rc v : Int32} {fs : List Value} {tl : List Int32} (hH : hp[H]? = some (.inr (14, fs))) (hf4 : fs[4]? = some (.ref ta)) (hf11 : fs[11]? = some (.int rc)) (hz : hp[z]? = some (.inr (9, [.int lb, .ref zt, .int zn, .ref za, .int zr, .int zc, .int zw, .int zb, .ref s, .ref k, .int zi]))) (hta : hp[ta]? = some (.inl (8, tl.map Value.int))) (htl : tl.length ≤ 100000) (hv : tl[t]? = some v) (htp : Pu S 1 114 [.int lb, .int x] hp (.int (Int32.ofNat t))) (hrc : ¬ rc = 0) (hfit : xfit (xFT 9 6) (.int rc) = true) : Me S 2 113 [.ref H, .ref z, .int x] hp (fun v9 hp' c s' => v9 = none ∧ FrX (fun x => x = z ∨ x = ta) hp hp' ∧ hp'[z]? = some (.inr (9, [.int lb, .ref zt, .int zn, .ref za, .int zr, .int zc, .int rc, .int zb, .ref s, .ref k, .int zi])) ∧ hp'[ta]? = some (.inl (8, (tl.set t (v + 1)).map Value.int)) ∧ c = 0 ∧ s' = 0) := by
  have hls := (List.getElem?_eq_some_iff.mp hv).1
  refine At.go (q := xm113) rfl 1 (pc' := 1) (L' := [(0, .ref H), (1, .ref z), (2, .int x)]) (st' := [.ref z]) rfl ?_
  refine At.gf rfl (by decide) hz rfl ?_
  refine At.go (q := xm113) rfl 1 (pc' := 5) (L' := [(0, .ref H), (1, .ref z), (2, .int x)]) (st' := [.int x, .int lb]) rfl ?_
  refine At.clp (as := [.int lb, .int x]) (rest := []) rfl (by decide) rfl (Nat.le_of_ble_eq_true rfl) (Nat.le_of_ble_eq_true rfl) rfl (Nat.le_of_ble_eq_true rfl) (htp) ?_
  refine At.go (q := xm113) rfl 2 (pc' := 10) (L' := [(3, .int (Int32.ofNat t)), (0, .ref H), (1, .ref z), (2, .int x)]) (st' := [.int (Int32.ofNat t)]) rfl ?_
  refine At.ic1 (tgt := 32) rfl rfl (fun h => absurd (h.symm.trans (decide_eq_false (iN_nn (by omega)))) (by decide)) (fun _ => ?_)
  refine At.go (q := xm113) rfl 2 (pc' := 15) (L' := [(3, .int (Int32.ofNat t)), (0, .ref H), (1, .ref z), (2, .int x)]) (st' := [.ref H, .int (Int32.ofNat t)]) rfl ?_
  refine At.gf rfl (by decide) hH hf4 ?_
  refine At.ln rfl hta ?_
  rw [List.length_map]
  refine At.ic2 (tgt := 32) rfl rfl (fun h => absurd ((iN_le (a := tl.length) (b := t) (by omega) (by omega)).mp (of_decide_eq_true h)) (by omega)) (fun _ => ?_)
  refine At.go (q := xm113) rfl 1 (pc' := 23) (L' := [(3, .int (Int32.ofNat t)), (0, .ref H), (1, .ref z), (2, .int x)]) (st' := [.ref H]) rfl ?_
  refine At.gf rfl (by decide) hH hf4 ?_
  refine At.go (q := xm113) rfl 2 (pc' := 28) (L' := [(3, .int (Int32.ofNat t)), (0, .ref H), (1, .ref z), (2, .int x)]) (st' := [.int (Int32.ofNat t), .ref ta, .int (Int32.ofNat t), .ref ta]) rfl ?_
  refine At.al rfl hta (by decide) rfl (iN_nn (by omega)) (by rw [iN_tn (by omega), List.getElem?_map, hv]; rfl) ?_
  refine At.go (q := xm113) rfl 2 (pc' := 31) (L' := [(3, .int (Int32.ofNat t)), (0, .ref H), (1, .ref z), (2, .int x)]) (st' := [.int (v + 1), .int (Int32.ofNat t), .ref ta]) rfl ?_
  refine At.as (j := Int32.ofNat t) rfl hta (by decide) rfl (iN_nn (by omega)) (by rw [iN_tn (by omega), List.length_map]; omega) ?_
  rw [iN_tn (by omega)]
  obtain ⟨h1, eh1⟩ : ∃ h, h = hp.set ta (.inl (8, (tl.map Value.int).set t (.int (v + 1)))) := ⟨_, rfl⟩
  refine At.hpe eh1 ?_
  have f1 : FrX (fun x => x = ta) hp h1 := by rw [eh1]; exact FrX.st hta rfl rfl rfl rfl (fun fs h => by cases h) (fun ci fs h => by cases h)
  have hH1 := f1.ob hH (by decide) (fun e => xn_ra hH hta e)
  have hz1 := f1.ob hz (by decide) (fun e => xn_ra hz hta e)
  have hta1 : h1[ta]? = some (.inl (8, (tl.set t (v + 1)).map Value.int)) := by rw [eh1, List.map_set]; exact xs_eq hta
  refine At.go (q := xm113) rfl 1 (pc' := 33) (L' := [(3, .int (Int32.ofNat t)), (0, .ref H), (1, .ref z), (2, .int x)]) (st' := [.ref H]) rfl ?_
  refine At.gf rfl (by decide) hH1 hf11 ?_
  refine At.ic1 (tgt := 47) rfl rfl (fun h => absurd (h.symm.trans (decide_eq_false hrc)) (by decide)) (fun _ => ?_)
  refine At.go (q := xm113) rfl 2 (pc' := 41) (L' := [(3, .int (Int32.ofNat t)), (0, .ref H), (1, .ref z), (2, .int x)]) (st' := [.ref H, .ref z]) rfl ?_
  refine At.gf rfl (by decide) hH1 hf11 ?_
  refine At.pf rfl hz1 (Nat.le_of_ble_eq_true rfl) hfit ?_
  obtain ⟨h2, eh2⟩ : ∃ h, h = h1.set z (.inr (9, [.int lb, .ref zt, .int zn, .ref za, .int zr, .int zc, .int rc, .int zb, .ref s, .ref k, .int zi])) := ⟨_, rfl⟩
  refine At.hpe eh2 ?_
  have f2 : FrX (fun x => x = z) h1 h2 := by rw [eh2]; exact FrX.so hz1 (by decide) rfl (by decide)
  have hz2 : h2[z]? = some (.inr (9, [.int lb, .ref zt, .int zn, .ref za, .int zr, .int zc, .int rc, .int zb, .ref s, .ref k, .int zi])) := by rw [eh2]; exact xs_eq hz1
  have hta2 := f2.2.2.1 _ _ hta1 rfl (Or.inl (fun e => xn_ar hta1 hz1 e))
  exact At.rt rfl rfl ⟨_, _, _, _, rfl, rfl, FrX.tr (f1.mono (fun x _ h => Or.inr h)) f2 (fun x h => Or.inl (Or.inl h)), hz2, hta2, rfl, rfl⟩
