/-! lists: remove, set (written by wip/p27/c58.py) -/
theorem eraseIdx_m {as : List Nat} {k b : Nat} (h : b ∈ as.eraseIdx k) : b ∈ as := List.mem_of_mem_eraseIdx h
theorem xset_l {as : List Nat} {m k a : Nat} (hk : k < as.length) : (as.map Value.ref ++ List.replicate m Value.null).set k (.ref a) = (as.set k a).map Value.ref ++ List.replicate m Value.null := by
  rw [List.set_append_left _ _ (by rw [List.length_map]; exact hk), List.map_set]
theorem m_fastRemove {S : List Int32} {hp : List XC} {l e k m : Nat} {mc : Int32} {as : List Nat} (hob : ∀ a ∈ as, hOb hp a) (hk : k < as.length) (h3 : as.length + m ≤ 100000) (h1 : hp[l]? = some (.inr (2, [.int mc, .ref e, .int (Int32.ofNat as.length)]))) (h2 : hp[e]? = some (.inl (7, as.map Value.ref ++ List.replicate m .null))) : Me S 1 172 [.ref l, .ref e, .int (Int32.ofNat k)] hp (fun v hp' c s => v = none ∧ FrX (fun x => x = l) hp hp' ∧ hLs hp' l (as.eraseIdx k) ∧ c = 0 ∧ s = 0 ∧ capL hp' l = capL hp l) := by
  refine At.go (q := xm172) rfl 2 (pc' := 2) (L' := [(0, .ref l), (1, .ref e), (2, .int (Int32.ofNat k))]) (st' := [.ref l, .ref l]) rfl ?_
  refine At.gf rfl (by decide) h1 rfl ?_
  refine At.go (q := xm172) rfl 2 (pc' := 7) (L' := [(0, .ref l), (1, .ref e), (2, .int (Int32.ofNat k))]) (st' := [.int (mc + 1), .ref l]) rfl ?_
  refine At.pf rfl h1 (Nat.le_of_ble_eq_true rfl) xfit_i ?_
  obtain ⟨hp1, ehp1⟩ : ∃ h, h = hp.set l (.inr (2, [.int (mc + 1), .ref e, .int (Int32.ofNat as.length)])) := ⟨_, rfl⟩
  refine At.hpe ehp1 ?_
  have fhp1_l : hp1[l]? = some (.inr (2, [.int (mc + 1), .ref e, .int (Int32.ofNat as.length)])) := by rw [ehp1]; exact xs_eq h1
  have fhp1_e : hp1[e]? = some (.inl (7, (as.map Value.ref ++ List.replicate m .null))) := by rw [ehp1]; exact xs_ne (xn_ra h1 h2) h2
  have c1 : FrX (fun x => x = l) hp hp1 := by rw [ehp1]; exact FrX.lo h1 (Or.inl ⟨_, _, rfl⟩)
  refine At.go (q := xm172) rfl 1 (pc' := 11) (L' := [(0, .ref l), (1, .ref e), (2, .int (Int32.ofNat k))]) (st' := [.ref l]) rfl ?_
  refine At.gf rfl (by decide) fhp1_l rfl ?_
  refine At.go (q := xm172) rfl 5 (pc' := 19) (L' := [(3, .int ((Int32.ofNat as.length) - 1)), (0, .ref l), (1, .ref e), (2, .int (Int32.ofNat k))]) (st' := [.int (Int32.ofNat k), .int ((Int32.ofNat as.length) - 1)]) rfl ?_
  rw [show (1 : Int32) = Int32.ofNat 1 from rfl, iN_sub (by omega)]
  refine At.ic2 (tgt := 34) rfl rfl (fun h19 => ?_) (fun h19 => ?_)
  · have hc : ¬ as.length - 1 > k := by have h := (iN_le (by omega) (by omega)).mp (of_decide_eq_true h19); omega
    have hX := xrem_at (m := m) hk
    rw [if_neg hc] at hX
    refine At.go (q := xm172) rfl 4 (pc' := 38) (L' := [(3, .int (Int32.ofNat (as.length - 1))), (0, .ref l), (1, .ref e), (2, .int (Int32.ofNat k))]) (st' := [.int (Int32.ofNat (as.length - 1)), .ref l, .int (Int32.ofNat (as.length - 1)), .ref e]) rfl ?_
    refine At.pf rfl fhp1_l (Nat.le_of_ble_eq_true rfl) xfit_i ?_
    obtain ⟨hp2, ehp2⟩ : ∃ h, h = hp1.set l (.inr (2, [.int (mc + 1), .ref e, .int (Int32.ofNat (as.length - 1))])) := ⟨_, rfl⟩
    refine At.hpe ehp2 ?_
    have fhp2_l : hp2[l]? = some (.inr (2, [.int (mc + 1), .ref e, .int (Int32.ofNat (as.length - 1))])) := by rw [ehp2]; exact xs_eq fhp1_l
    have fhp2_e : hp2[e]? = some (.inl (7, (as.map Value.ref ++ List.replicate m .null))) := by rw [ehp2]; exact xs_ne (xn_ra fhp1_l fhp1_e) fhp1_e
    have c3 : FrX (fun x => x = l) hp1 hp2 := by rw [ehp2]; exact FrX.lo fhp1_l (Or.inl ⟨_, _, rfl⟩)
    refine At.go (q := xm172) rfl 1 (pc' := 42) (L' := [(3, .int (Int32.ofNat (as.length - 1))), (0, .ref l), (1, .ref e), (2, .int (Int32.ofNat k))]) (st' := [.null, .int (Int32.ofNat (as.length - 1)), .ref e]) rfl ?_
    refine At.qs rfl fhp2_e (by decide) rfl (iN_nn (by omega)) (by rw [iN_tn (by omega), xlst]; omega) (Or.inl rfl) ?_
    rw [iN_tn (by omega), hX]
    obtain ⟨hp3, ehp3⟩ : ∃ h, h = hp2.set e (.inl (7, (as.eraseIdx k).map Value.ref ++ List.replicate (m + 1) .null)) := ⟨_, rfl⟩
    refine At.hpe ehp3 ?_
    have fhp3_l : hp3[l]? = some (.inr (2, [.int (mc + 1), .ref e, .int (Int32.ofNat (as.length - 1))])) := by rw [ehp3]; exact xs_ne (xn_ar fhp2_e fhp2_l) fhp2_l
    have fhp3_e : hp3[e]? = some (.inl (7, ((as.eraseIdx k).map Value.ref ++ List.replicate (m + 1) .null))) := by rw [ehp3]; exact xs_eq fhp2_e
    have c4 : FrX (fun x => x = l) hp2 hp3 := by rw [ehp3]; exact FrX.la fhp2_l fhp2_e
    have e1 : (as.eraseIdx k).length = as.length - 1 := List.length_eraseIdx_of_lt hk
    have cc : FrX (fun x => x = l) hp hp3 := FrX.tr (FrX.tr (c1) c3 (fun x hx => Or.inl hx)) c4 (fun x hx => Or.inl hx)
    exact At.rt rfl rfl ⟨_, _, _, _, rfl, rfl, cc, ⟨fun b hb => (hob b (eraseIdx_m hb)).fr cc, mc + 1, Or.inr ⟨e, m + 1, by rw [e1]; exact fhp3_l, fhp3_e, by rw [e1]; omega⟩⟩, rfl, rfl, by rw [capL_e fhp3_l fhp3_e, capL_e h1 h2, xlst, xlst, e1]; omega⟩
  · have hc : as.length - 1 > k := by have h := of_decide_eq_false h19; rw [iN_le (by omega) (by omega)] at h; omega
    have hX := xrem_at (m := m) hk
    rw [if_pos hc] at hX
    refine At.go (q := xm172) rfl 9 (pc' := 31) (L' := [(3, .int (Int32.ofNat (as.length - 1))), (0, .ref l), (1, .ref e), (2, .int (Int32.ofNat k))]) (st' := [.int ((Int32.ofNat (as.length - 1)) - (Int32.ofNat k)), .int (Int32.ofNat k), .ref e, .int ((Int32.ofNat k) + 1), .ref e]) rfl ?_
    rw [iN_s, iN_sub (by omega)]
    refine At.cpo (sp := k + 1) (dp := k) (n := as.length - 1 - k) rfl (by decide) fhp1_e fhp1_e (by rw [xlst]; omega) (by rw [xlst]; omega) (by rw [xlst]; omega) (by rw [xlst]; omega) (hob_l (fun b hb => (hob b hb).fr c1)) (Nat.le_of_ble_eq_true rfl) ?_
    obtain ⟨hp2, ehp2⟩ : ∃ h, h = hp1.set e (.inl (7, xcpl (as.map Value.ref ++ List.replicate m .null) (as.map Value.ref ++ List.replicate m .null) (k + 1) k (as.length - 1 - k))) := ⟨_, rfl⟩
    refine At.hpe ehp2 ?_
    have fhp2_l : hp2[l]? = some (.inr (2, [.int (mc + 1), .ref e, .int (Int32.ofNat as.length)])) := by rw [ehp2]; exact xs_ne (xn_ar fhp1_e fhp1_l) fhp1_l
    have fhp2_e : hp2[e]? = some (.inl (7, (xcpl (as.map Value.ref ++ List.replicate m .null) (as.map Value.ref ++ List.replicate m .null) (k + 1) k (as.length - 1 - k)))) := by rw [ehp2]; exact xs_eq fhp1_e
    have c2 : FrX (fun x => x = l) hp1 hp2 := by rw [ehp2]; exact FrX.la fhp1_l fhp1_e
    refine At.go (q := xm172) rfl 4 (pc' := 38) (L' := [(3, .int (Int32.ofNat (as.length - 1))), (0, .ref l), (1, .ref e), (2, .int (Int32.ofNat k))]) (st' := [.int (Int32.ofNat (as.length - 1)), .ref l, .int (Int32.ofNat (as.length - 1)), .ref e]) rfl ?_
    refine At.pf rfl fhp2_l (Nat.le_of_ble_eq_true rfl) xfit_i ?_
    obtain ⟨hp3, ehp3⟩ : ∃ h, h = hp2.set l (.inr (2, [.int (mc + 1), .ref e, .int (Int32.ofNat (as.length - 1))])) := ⟨_, rfl⟩
    refine At.hpe ehp3 ?_
    have fhp3_l : hp3[l]? = some (.inr (2, [.int (mc + 1), .ref e, .int (Int32.ofNat (as.length - 1))])) := by rw [ehp3]; exact xs_eq fhp2_l
    have fhp3_e : hp3[e]? = some (.inl (7, (xcpl (as.map Value.ref ++ List.replicate m .null) (as.map Value.ref ++ List.replicate m .null) (k + 1) k (as.length - 1 - k)))) := by rw [ehp3]; exact xs_ne (xn_ra fhp2_l fhp2_e) fhp2_e
    have c3 : FrX (fun x => x = l) hp2 hp3 := by rw [ehp3]; exact FrX.lo fhp2_l (Or.inl ⟨_, _, rfl⟩)
    refine At.go (q := xm172) rfl 1 (pc' := 42) (L' := [(3, .int (Int32.ofNat (as.length - 1))), (0, .ref l), (1, .ref e), (2, .int (Int32.ofNat k))]) (st' := [.null, .int (Int32.ofNat (as.length - 1)), .ref e]) rfl ?_
    refine At.qs rfl fhp3_e (by decide) rfl (iN_nn (by omega)) (by rw [iN_tn (by omega), xcpl_len (by rw [xlst]; omega) (by rw [xlst]; omega), xlst]; omega) (Or.inl rfl) ?_
    rw [iN_tn (by omega), hX]
    obtain ⟨hp4, ehp4⟩ : ∃ h, h = hp3.set e (.inl (7, (as.eraseIdx k).map Value.ref ++ List.replicate (m + 1) .null)) := ⟨_, rfl⟩
    refine At.hpe ehp4 ?_
    have fhp4_l : hp4[l]? = some (.inr (2, [.int (mc + 1), .ref e, .int (Int32.ofNat (as.length - 1))])) := by rw [ehp4]; exact xs_ne (xn_ar fhp3_e fhp3_l) fhp3_l
    have fhp4_e : hp4[e]? = some (.inl (7, ((as.eraseIdx k).map Value.ref ++ List.replicate (m + 1) .null))) := by rw [ehp4]; exact xs_eq fhp3_e
    have c4 : FrX (fun x => x = l) hp3 hp4 := by rw [ehp4]; exact FrX.la fhp3_l fhp3_e
    have e1 : (as.eraseIdx k).length = as.length - 1 := List.length_eraseIdx_of_lt hk
    have cc : FrX (fun x => x = l) hp hp4 := FrX.tr (FrX.tr (FrX.tr (c1) c2 (fun x hx => Or.inl hx)) c3 (fun x hx => Or.inl hx)) c4 (fun x hx => Or.inl hx)
    exact At.rt rfl rfl ⟨_, _, _, _, rfl, rfl, cc, ⟨fun b hb => (hob b (eraseIdx_m hb)).fr cc, mc + 1, Or.inr ⟨e, m + 1, by rw [e1]; exact fhp4_l, fhp4_e, by rw [e1]; omega⟩⟩, rfl, rfl, by rw [capL_e fhp4_l fhp4_e, capL_e h1 h2, xlst, xlst, e1]; omega⟩
theorem remove_1 {S : List Int32} {hp : List XC} {l e k m : Nat} {mc : Int32} {as : List Nat} (hob : ∀ a ∈ as, hOb hp a) (hk : k < as.length) (h3 : as.length + m ≤ 100000) (h1 : hp[l]? = some (.inr (2, [.int mc, .ref e, .int (Int32.ofNat as.length)]))) (h2 : hp[e]? = some (.inl (7, as.map Value.ref ++ List.replicate m .null))) {a : Nat} (hv : as[k]? = some a) : Me S 2 171 [.ref l, .int (Int32.ofNat k)] hp (fun v hp' c s => v = some (.ref a) ∧ FrX (fun x => x = l) hp hp' ∧ hLs hp' l (as.eraseIdx k) ∧ c = 0 ∧ s = 0 ∧ capL hp' l = capL hp l) := by
  refine At.go (q := xm171) rfl 2 (pc' := 2) (L' := [(0, .ref l), (1, .int (Int32.ofNat k))]) (st' := [.ref l, .int (Int32.ofNat k)]) rfl ?_
  refine At.gf rfl (by decide) h1 rfl ?_
  refine At.clp (as := [.int (Int32.ofNat k), .int (Int32.ofNat as.length)]) (rest := []) rfl (by decide) rfl (Nat.le_of_ble_eq_true rfl) (Nat.le_of_ble_eq_true rfl) rfl (Nat.le_of_ble_eq_true rfl) (m_chk hk (by omega)) ?_
  refine At.go (q := xm171) rfl 2 (pc' := 10) (L' := [(0, .ref l), (1, .int (Int32.ofNat k))]) (st' := [.ref l]) rfl ?_
  refine At.gf rfl (by decide) h1 rfl ?_
  refine At.go (q := xm171) rfl 3 (pc' := 16) (L' := [(2, .ref e), (0, .ref l), (1, .int (Int32.ofNat k))]) (st' := [.int (Int32.ofNat k), .ref e]) rfl ?_
  refine At.ql rfl h2 (by decide) rfl (iN_nn (by omega)) (by rw [iN_tn (by omega)]; exact xl_at hv) rfl ?_
  refine At.go (q := xm171) rfl 4 (pc' := 21) (L' := [(3, .ref a), (2, .ref e), (0, .ref l), (1, .int (Int32.ofNat k))]) (st' := [.int (Int32.ofNat k), .ref e, .ref l]) rfl ?_
  refine At.clm (as := [.ref l, .ref e, .int (Int32.ofNat k)]) (rest := []) rfl (by decide) rfl (Nat.le_of_ble_eq_true rfl) (Nat.le_of_ble_eq_true rfl) (xrck_o (by decide) (by decide) h1 (by decide)) (Nat.le_of_ble_eq_true rfl) (m_fastRemove hob hk h3 h1 h2) (fun v hp1 c s hv => ?_)
  obtain ⟨rfl, k1, k2, rfl, rfl, k3⟩ := hv
  refine At.go (q := xm171) rfl 1 (pc' := 25) (L' := [(3, .ref a), (2, .ref e), (0, .ref l), (1, .int (Int32.ofNat k))]) (st' := [.ref a]) rfl ?_
  exact At.rt rfl rfl ⟨_, _, _, _, rfl, rfl, k1, k2, rfl, rfl, k3⟩
/-- remove(int) -/
theorem m_remove {S : List Int32} {hp : List XC} {l a k : Nat} {as : List Nat} (hL : hLs hp l as) (hv : as[k]? = some a) : Me S 2 171 [.ref l, .int (Int32.ofNat k)] hp (fun v hp' c s => v = some (.ref a) ∧ FrX (fun x => x = l) hp hp' ∧ hLs hp' l (as.eraseIdx k) ∧ c = 0 ∧ s = 0 ∧ capL hp' l = capL hp l) := by
  obtain ⟨hob, mc, ⟨rfl, h1⟩ | ⟨e, m, h1, h2, h3⟩⟩ := hL
  · cases hv
  · exact remove_1 hob (List.getElem?_eq_some_iff.mp hv).1 h3 h1 h2 hv
theorem set_1 {S : List Int32} {hp : List XC} {l e k m : Nat} {mc : Int32} {as : List Nat} (hob : ∀ a ∈ as, hOb hp a) (hk : k < as.length) (h3 : as.length + m ≤ 100000) (h1 : hp[l]? = some (.inr (2, [.int mc, .ref e, .int (Int32.ofNat as.length)]))) (h2 : hp[e]? = some (.inl (7, as.map Value.ref ++ List.replicate m .null))) {a b : Nat} (ha : hOb hp a) (hv : as[k]? = some b) : Me S 2 174 [.ref l, .int (Int32.ofNat k), .ref a] hp (fun v hp' c s => v = some (.ref b) ∧ FrX (fun x => x = l) hp hp' ∧ hLs hp' l (as.set k a) ∧ c = 0 ∧ s = 0 ∧ capL hp' l = capL hp l) := by
  refine At.go (q := xm174) rfl 2 (pc' := 2) (L' := [(0, .ref l), (1, .int (Int32.ofNat k)), (2, .ref a)]) (st' := [.ref l, .int (Int32.ofNat k)]) rfl ?_
  refine At.gf rfl (by decide) h1 rfl ?_
  refine At.clp (as := [.int (Int32.ofNat k), .int (Int32.ofNat as.length)]) (rest := []) rfl (by decide) rfl (Nat.le_of_ble_eq_true rfl) (Nat.le_of_ble_eq_true rfl) rfl (Nat.le_of_ble_eq_true rfl) (m_chk hk (by omega)) ?_
  refine At.go (q := xm174) rfl 3 (pc' := 11) (L' := [(0, .ref l), (1, .int (Int32.ofNat k)), (2, .ref a)]) (st' := [.int (Int32.ofNat k), .ref l]) rfl ?_
  refine At.clp (as := [.ref l, .int (Int32.ofNat k)]) (rest := []) rfl (by decide) rfl (Nat.le_of_ble_eq_true rfl) (Nat.le_of_ble_eq_true rfl) (xrck_o (by decide) (by decide) h1 (by decide)) (Nat.le_of_ble_eq_true rfl) (m_elem (by omega) h1 h2 (xl_at hv)) ?_
  refine At.go (q := xm174) rfl 2 (pc' := 16) (L' := [(3, .ref b), (0, .ref l), (1, .int (Int32.ofNat k)), (2, .ref a)]) (st' := [.ref l]) rfl ?_
  refine At.gf rfl (by decide) h1 rfl ?_
  refine At.go (q := xm174) rfl 2 (pc' := 21) (L' := [(3, .ref b), (0, .ref l), (1, .int (Int32.ofNat k)), (2, .ref a)]) (st' := [.ref a, .int (Int32.ofNat k), .ref e]) rfl ?_
  refine At.qs rfl h2 (by decide) rfl (iN_nn (by omega)) (by rw [iN_tn (by omega), xlst]; omega) (qs_ob ha) ?_
  rw [iN_tn (by omega), xset_l hk]
  obtain ⟨hp1, ehp1⟩ : ∃ h, h = hp.set e (.inl (7, (as.set k a).map Value.ref ++ List.replicate m .null)) := ⟨_, rfl⟩
  refine At.hpe ehp1 ?_
  have fhp1_l : hp1[l]? = some (.inr (2, [.int mc, .ref e, .int (Int32.ofNat as.length)])) := by rw [ehp1]; exact xs_ne (xn_ar h2 h1) h1
  have fhp1_e : hp1[e]? = some (.inl (7, ((as.set k a).map Value.ref ++ List.replicate m .null))) := by rw [ehp1]; exact xs_eq h2
  have c1 : FrX (fun x => x = l) hp hp1 := by rw [ehp1]; exact FrX.la h1 h2
  refine At.go (q := xm174) rfl 1 (pc' := 23) (L' := [(3, .ref b), (0, .ref l), (1, .int (Int32.ofNat k)), (2, .ref a)]) (st' := [.ref b]) rfl ?_
  exact At.rt rfl rfl ⟨_, _, _, _, rfl, rfl, c1, ⟨fun x hx => (List.mem_or_eq_of_mem_set hx).elim (fun q => (hob x q).fr c1) (fun q => by rw [q]; exact ha.fr c1), mc, Or.inr ⟨e, m, by rw [List.length_set]; exact fhp1_l, fhp1_e, by rw [List.length_set]; exact h3⟩⟩, rfl, rfl, by rw [capL_e fhp1_l fhp1_e, capL_e h1 h2, xlst, xlst, List.length_set]⟩
/-- set(int, E) -/
theorem m_set {S : List Int32} {hp : List XC} {l a b k : Nat} {as : List Nat} (hL : hLs hp l as) (ha : hOb hp a) (hv : as[k]? = some b) : Me S 2 174 [.ref l, .int (Int32.ofNat k), .ref a] hp (fun v hp' c s => v = some (.ref b) ∧ FrX (fun x => x = l) hp hp' ∧ hLs hp' l (as.set k a) ∧ c = 0 ∧ s = 0 ∧ capL hp' l = capL hp l) := by
  obtain ⟨hob, mc, ⟨rfl, h1⟩ | ⟨e, m, h1, h2, h3⟩⟩ := hL
  · cases hv
  · exact set_1 hob (List.getElem?_eq_some_iff.mp hv).1 h3 h1 h2 ha hv
