/-! shelves: size, get, find, store, take, empty (written by wip/p27/c63.py) -/
theorem m_shsize {S : List Int32} {hp : List XC} {s l : Nat} {as : List Nat} (hs0 : hp[s]? = some (.inr (10, [.ref l]))) (hL : hLs hp l as) : Pu S 1 119 [.ref s] hp (.int (Int32.ofNat as.length)) := by
  obtain ⟨lf, hl0⟩ := hL.ob
  refine At.go (q := xm119) rfl 1 (pc' := 1) (L' := [(0, .ref s)]) (st' := [.ref s]) rfl ?_
  refine At.gf rfl (by decide) hs0 rfl ?_
  refine At.clp (as := [.ref l]) (rest := []) rfl (by decide) rfl (Nat.le_of_ble_eq_true rfl) (Nat.le_of_ble_eq_true rfl) (xrck_o (by decide) (by decide) hl0 (by decide)) (Nat.le_of_ble_eq_true rfl) (m_size hL) ?_
  exact At.rt rfl (xret_i rfl) rfl
theorem m_shget {S : List Int32} {hp : List XC} {s l : Nat} {as : List Nat} {i a : Nat} {gs : List Value} (hs0 : hp[s]? = some (.inr (10, [.ref l]))) (hL : hLs hp l as) (hv : as[i]? = some a) (ho : hp[a]? = some (.inr (4, gs))) : Pu S 3 121 [.ref s, .int (Int32.ofNat i)] hp (.ref a) := by
  obtain ⟨lf, hl0⟩ := hL.ob
  have hi := (List.getElem?_eq_some_iff.mp hv).1
  have hn := hL.len
  refine At.go (q := xm121) rfl 1 (pc' := 1) (L' := [(0, .ref s), (1, .int (Int32.ofNat i))]) (st' := [.int (Int32.ofNat i)]) rfl ?_
  refine At.ic1 (tgt := 29) rfl rfl (fun h => absurd (h.symm.trans (decide_eq_false (iN_nn (by omega)))) (by decide)) (fun _ => ?_)
  refine At.go (q := xm121) rfl 2 (pc' := 6) (L' := [(0, .ref s), (1, .int (Int32.ofNat i))]) (st' := [.ref s, .int (Int32.ofNat i)]) rfl ?_
  refine At.gf rfl (by decide) hs0 rfl ?_
  refine At.clp (as := [.ref l]) (rest := [.int (Int32.ofNat i)]) rfl (by decide) rfl (Nat.le_of_ble_eq_true rfl) (Nat.le_of_ble_eq_true rfl) (xrck_o (by decide) (by decide) hl0 (by decide)) (Nat.le_of_ble_eq_true rfl) (m_size hL) ?_
  refine At.ic2 (tgt := 29) rfl rfl (fun h => absurd (h.symm.trans (decide_eq_false (fun h => absurd ((iN_le (by omega) (by omega)).mp h) (by omega)))) (by decide)) (fun _ => ?_)
  refine At.go (q := xm121) rfl 1 (pc' := 16) (L' := [(0, .ref s), (1, .int (Int32.ofNat i))]) (st' := [.ref s]) rfl ?_
  refine At.gf rfl (by decide) hs0 rfl ?_
  refine At.go (q := xm121) rfl 1 (pc' := 20) (L' := [(0, .ref s), (1, .int (Int32.ofNat i))]) (st' := [.int (Int32.ofNat i), .ref l]) rfl ?_
  refine At.clp (as := [.ref l, .int (Int32.ofNat i)]) (rest := []) rfl (by decide) rfl (Nat.le_of_ble_eq_true rfl) (Nat.le_of_ble_eq_true rfl) (xrck_o (by decide) (by decide) hl0 (by decide)) (Nat.le_of_ble_eq_true rfl) (m_get hL hv) ?_
  refine At.ca rfl ho (by decide) ?_
  refine At.go (q := xm121) rfl 1 (pc' := 30) (L' := [(0, .ref s), (1, .int (Int32.ofNat i))]) (st' := [.ref a]) rfl ?_
  exact At.rt rfl rfl rfl
theorem m_shget0 {S : List Int32} {hp : List XC} {s l : Nat} {as : List Nat} {i : Nat} (hs0 : hp[s]? = some (.inr (10, [.ref l]))) (hL : hLs hp l as) (hi : as.length ≤ i) (hi2 : i ≤ 1000000) : Pu S 3 121 [.ref s, .int (Int32.ofNat i)] hp .null := by
  obtain ⟨lf, hl0⟩ := hL.ob
  have hn := hL.len
  refine At.go (q := xm121) rfl 1 (pc' := 1) (L' := [(0, .ref s), (1, .int (Int32.ofNat i))]) (st' := [.int (Int32.ofNat i)]) rfl ?_
  refine At.ic1 (tgt := 29) rfl rfl (fun h => absurd (h.symm.trans (decide_eq_false (iN_nn (by omega)))) (by decide)) (fun _ => ?_)
  refine At.go (q := xm121) rfl 2 (pc' := 6) (L' := [(0, .ref s), (1, .int (Int32.ofNat i))]) (st' := [.ref s, .int (Int32.ofNat i)]) rfl ?_
  refine At.gf rfl (by decide) hs0 rfl ?_
  refine At.clp (as := [.ref l]) (rest := [.int (Int32.ofNat i)]) rfl (by decide) rfl (Nat.le_of_ble_eq_true rfl) (Nat.le_of_ble_eq_true rfl) (xrck_o (by decide) (by decide) hl0 (by decide)) (Nat.le_of_ble_eq_true rfl) (m_size hL) ?_
  refine At.ic2 (tgt := 29) rfl rfl (fun _ => ?_) (fun h => absurd (h.symm.trans (decide_eq_true ((iN_le (by omega) (by omega)).mpr hi))) (by decide))
  refine At.go (q := xm121) rfl 1 (pc' := 30) (L' := [(0, .ref s), (1, .int (Int32.ofNat i))]) (st' := [.null]) rfl ?_
  exact At.rt rfl rfl rfl
/-- find: an entry is there -/
theorem m_find {S : List Int32} {hp : List XC} {s l : Nat} {as : List Nat} (hs0 : hp[s]? = some (.inr (10, [.ref l]))) {es : List En} {t : Nat} {tf : List Value} (hL : hLs hp l as) (hE : hEs hp as es) (hs : Srt es) (p : Pl) (ht : hp[t]? = some (.inr (13, .int p.1 :: tf))) {e : En} (hf : findE es p = some e) : ∃ a, as[plc es p]? = some a ∧ hEn hp a e ∧ Pu S 4 180 [.ref s, .ref t, .int p.2.1, .int p.2.2] hp (.ref a) := by
  obtain ⟨lf, hl0⟩ := hL.ob
  obtain ⟨e2, he, hpe, hf2⟩ | ⟨hf2, -⟩ := srt_find hs p
  case inr => rw [hf] at hf2; cases hf2
  rw [hf] at hf2
  cases hf2
  obtain ⟨a, ha, hX⟩ := hE.get he
  refine ⟨a, ha, hX, ?_⟩
  obtain ⟨c, fs, hx, -, -, hxt⟩ := hX
  refine At.go (q := xm180) rfl 2 (pc' := 2) (L' := [(0, .ref s), (1, .ref t), (2, .int p.2.1), (3, .int p.2.2)]) (st' := [.ref s, .ref s]) rfl ?_
  refine At.gf rfl (by decide) hs0 rfl ?_
  refine At.go (q := xm180) rfl 1 (pc' := 6) (L' := [(0, .ref s), (1, .ref t), (2, .int p.2.1), (3, .int p.2.2)]) (st' := [.ref t, .ref l, .ref s]) rfl ?_
  refine At.gf rfl (by decide) ht rfl ?_
  refine At.go (q := xm180) rfl 2 (pc' := 11) (L' := [(0, .ref s), (1, .ref t), (2, .int p.2.1), (3, .int p.2.2)]) (st' := [.int p.2.2, .int p.2.1, .int p.1, .ref l, .ref s]) rfl ?_
  refine At.clp (as := [.ref l, .int p.1, .int p.2.1, .int p.2.2]) (rest := [.ref s]) rfl (by decide) rfl (Nat.le_of_ble_eq_true rfl) (Nat.le_of_ble_eq_true rfl) rfl (Nat.le_of_ble_eq_true rfl) (m_placeIn hL hE hs p) ?_
  refine At.clp (as := [.ref s, .int (Int32.ofNat (plc es p))]) (rest := []) rfl (by decide) rfl (Nat.le_of_ble_eq_true rfl) (Nat.le_of_ble_eq_true rfl) (xrck_o (by decide) (by decide) hs0 (by decide)) (Nat.le_of_ble_eq_true rfl) (m_shget hs0 hL ha hx) ?_
  refine At.go (q := xm180) rfl 5 (pc' := 27) (L' := [(4, .ref a), (0, .ref s), (1, .ref t), (2, .int p.2.1), (3, .int p.2.2)]) (st' := [.ref t, .ref a]) rfl ?_
  refine At.gf rfl (by decide) ht rfl ?_
  refine At.go (q := xm180) rfl 2 (pc' := 32) (L' := [(4, .ref a), (0, .ref s), (1, .ref t), (2, .int p.2.1), (3, .int p.2.2)]) (st' := [.int p.2.2, .int p.2.1, .int p.1, .ref a]) rfl ?_
  refine At.clp (as := [.ref a, .int p.1, .int p.2.1, .int p.2.2]) (rest := []) rfl (by decide) rfl (Nat.le_of_ble_eq_true rfl) (Nat.le_of_ble_eq_true rfl) (xrck_o (by decide) (by decide) hx (by decide)) (Nat.le_of_ble_eq_true rfl) (m_compare hx hxt p.1 p.2.1 p.2.2) ?_
  refine At.ic1 (tgt := 43) rfl rfl (fun h => absurd (h.symm.trans (decide_eq_false (fun h => h (cmp_zero.mpr hpe)))) (by decide)) (fun _ => ?_)
  refine At.go (q := xm180) rfl 2 (pc' := 44) (L' := [(4, .ref a), (0, .ref s), (1, .ref t), (2, .int p.2.1), (3, .int p.2.2)]) (st' := [.ref a]) rfl ?_
  exact At.rt rfl rfl rfl
/-- find: there is none -/
theorem m_find0 {S : List Int32} {hp : List XC} {s l : Nat} {as : List Nat} (hs0 : hp[s]? = some (.inr (10, [.ref l]))) {es : List En} {t : Nat} {tf : List Value} (hL : hLs hp l as) (hE : hEs hp as es) (hs : Srt es) (p : Pl) (ht : hp[t]? = some (.inr (13, .int p.1 :: tf))) (hf : findE es p = none) : Pu S 4 180 [.ref s, .ref t, .int p.2.1, .int p.2.2] hp .null := by
  obtain ⟨lf, hl0⟩ := hL.ob
  obtain ⟨e2, he, hpe, hf2⟩ | ⟨hf2, hn⟩ := srt_find hs p
  case inl => rw [hf] at hf2; cases hf2
  cases he : es[plc es p]? with
  | none =>
    have hi : as.length ≤ plc es p := by rw [hE.1]; exact List.getElem?_eq_none_iff.mp he
    refine At.go (q := xm180) rfl 2 (pc' := 2) (L' := [(0, .ref s), (1, .ref t), (2, .int p.2.1), (3, .int p.2.2)]) (st' := [.ref s, .ref s]) rfl ?_
    refine At.gf rfl (by decide) hs0 rfl ?_
    refine At.go (q := xm180) rfl 1 (pc' := 6) (L' := [(0, .ref s), (1, .ref t), (2, .int p.2.1), (3, .int p.2.2)]) (st' := [.ref t, .ref l, .ref s]) rfl ?_
    refine At.gf rfl (by decide) ht rfl ?_
    refine At.go (q := xm180) rfl 2 (pc' := 11) (L' := [(0, .ref s), (1, .ref t), (2, .int p.2.1), (3, .int p.2.2)]) (st' := [.int p.2.2, .int p.2.1, .int p.1, .ref l, .ref s]) rfl ?_
    refine At.clp (as := [.ref l, .int p.1, .int p.2.1, .int p.2.2]) (rest := [.ref s]) rfl (by decide) rfl (Nat.le_of_ble_eq_true rfl) (Nat.le_of_ble_eq_true rfl) rfl (Nat.le_of_ble_eq_true rfl) (m_placeIn hL hE hs p) ?_
    refine At.clp (as := [.ref s, .int (Int32.ofNat (plc es p))]) (rest := []) rfl (by decide) rfl (Nat.le_of_ble_eq_true rfl) (Nat.le_of_ble_eq_true rfl) (xrck_o (by decide) (by decide) hs0 (by decide)) (Nat.le_of_ble_eq_true rfl) (m_shget0 hs0 hL hi (by have := plc_le (es := es) (p := p); have := hL.len; have := hE.1; omega)) ?_
    refine At.go (q := xm180) rfl 4 (pc' := 44) (L' := [(4, .null), (0, .ref s), (1, .ref t), (2, .int p.2.1), (3, .int p.2.2)]) (st' := [.null]) rfl ?_
    exact At.rt rfl rfl rfl
  | some e =>
    have hne := hn e he
    obtain ⟨a, ha, hX⟩ := hE.get he
    obtain ⟨c, fs, hx, -, -, hxt⟩ := hX
    refine At.go (q := xm180) rfl 2 (pc' := 2) (L' := [(0, .ref s), (1, .ref t), (2, .int p.2.1), (3, .int p.2.2)]) (st' := [.ref s, .ref s]) rfl ?_
    refine At.gf rfl (by decide) hs0 rfl ?_
    refine At.go (q := xm180) rfl 1 (pc' := 6) (L' := [(0, .ref s), (1, .ref t), (2, .int p.2.1), (3, .int p.2.2)]) (st' := [.ref t, .ref l, .ref s]) rfl ?_
    refine At.gf rfl (by decide) ht rfl ?_
    refine At.go (q := xm180) rfl 2 (pc' := 11) (L' := [(0, .ref s), (1, .ref t), (2, .int p.2.1), (3, .int p.2.2)]) (st' := [.int p.2.2, .int p.2.1, .int p.1, .ref l, .ref s]) rfl ?_
    refine At.clp (as := [.ref l, .int p.1, .int p.2.1, .int p.2.2]) (rest := [.ref s]) rfl (by decide) rfl (Nat.le_of_ble_eq_true rfl) (Nat.le_of_ble_eq_true rfl) rfl (Nat.le_of_ble_eq_true rfl) (m_placeIn hL hE hs p) ?_
    refine At.clp (as := [.ref s, .int (Int32.ofNat (plc es p))]) (rest := []) rfl (by decide) rfl (Nat.le_of_ble_eq_true rfl) (Nat.le_of_ble_eq_true rfl) (xrck_o (by decide) (by decide) hs0 (by decide)) (Nat.le_of_ble_eq_true rfl) (m_shget hs0 hL ha hx) ?_
    refine At.go (q := xm180) rfl 5 (pc' := 27) (L' := [(4, .ref a), (0, .ref s), (1, .ref t), (2, .int p.2.1), (3, .int p.2.2)]) (st' := [.ref t, .ref a]) rfl ?_
    refine At.gf rfl (by decide) ht rfl ?_
    refine At.go (q := xm180) rfl 2 (pc' := 32) (L' := [(4, .ref a), (0, .ref s), (1, .ref t), (2, .int p.2.1), (3, .int p.2.2)]) (st' := [.int p.2.2, .int p.2.1, .int p.1, .ref a]) rfl ?_
    refine At.clp (as := [.ref a, .int p.1, .int p.2.1, .int p.2.2]) (rest := []) rfl (by decide) rfl (Nat.le_of_ble_eq_true rfl) (Nat.le_of_ble_eq_true rfl) (xrck_o (by decide) (by decide) hx (by decide)) (Nat.le_of_ble_eq_true rfl) (m_compare hx hxt p.1 p.2.1 p.2.2) ?_
    refine At.ic1 (tgt := 43) rfl rfl (fun _ => ?_) (fun h => absurd (h.symm.trans (decide_eq_true (fun h => hne (cmp_zero.mp h)))) (by decide))
    refine At.go (q := xm180) rfl 1 (pc' := 44) (L' := [(4, .ref a), (0, .ref s), (1, .ref t), (2, .int p.2.1), (3, .int p.2.2)]) (st' := [.null]) rfl ?_
    exact At.rt rfl rfl rfl
theorem m_empty {S : List Int32} {hp : List XC} {s l : Nat} {as : List Nat} (hs0 : hp[s]? = some (.inr (10, [.ref l]))) (hL : hLs hp l as) : Me S 1 24 [.ref s] hp (fun v hp' c s => v = none ∧ FrX (fun x => x = l) hp hp' ∧ hLs hp' l [] ∧ c = 0 ∧ s = 0 ∧ capL hp' l = capL hp l) := by
  obtain ⟨lf, hl0⟩ := hL.ob
  refine At.go (q := xm24) rfl 1 (pc' := 1) (L' := [(0, .ref s)]) (st' := [.ref s]) rfl ?_
  refine At.gf rfl (by decide) hs0 rfl ?_
  refine At.clm (as := [.ref l]) (rest := []) rfl (by decide) rfl (Nat.le_of_ble_eq_true rfl) (Nat.le_of_ble_eq_true rfl) (xrck_o (by decide) (by decide) hl0 (by decide)) (Nat.le_of_ble_eq_true rfl) (m_clear hL) (fun v hp1 c s hv => ?_)
  obtain ⟨rfl, k1, k2, rfl, rfl, k3⟩ := hv
  exact At.rt rfl rfl ⟨_, _, _, _, rfl, rfl, k1, k2, rfl, rfl, k3⟩
