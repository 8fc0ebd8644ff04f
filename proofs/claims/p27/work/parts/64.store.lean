/-! shelves: store, take, addAll, fill (written by wip/p27/c64.py) -/
/-- what a change of one list of entries leaves -/
def RSh (hp : List XC) (l : Nat) (es : List En) : List XC → Nat → Nat → Prop := fun hp' c s => FrX (fun x => x = l) hp hp' ∧ hSh hp' l es ∧ c + capL hp l ≤ capL hp' l ∧ s + 4 * capL hp l ≤ 4 * capL hp' l ∧ capL hp' l ≤ max (capL hp l) (2 * es.length + 10)
theorem RSh.rf {hp : List XC} {l : Nat} {es : List En} (h : hSh hp l es) : RSh hp l es hp 0 0 := ⟨FrX.rf, h, by omega, by omega, by omega⟩
theorem RSh.ad {hp hp' : List XC} {l c s : Nat} {as : List Nat} {es : List En} (h : RAdd hp l as hp' c s) (hE : hEs hp as es) : RSh hp l es hp' c s := by
  obtain ⟨h1, h2, h3, h4, h5⟩ := h
  exact ⟨h1, ⟨as, h2, hE.fr h1⟩, h3, h4, by rw [← hE.1]; exact h5⟩
/-- store -/
theorem m_store {S : List Int32} {hp : List XC} {s l : Nat} {as : List Nat} {es : List En} {x : Nat} {e : En} (hs0 : hp[s]? = some (.inr (10, [.ref l]))) (hO : Own hp) (hL : hLs hp l as) (hE : hEs hp as es) (hs : Srt es) (hX : hEn hp x e) (hn : as.length ≤ 60000) : Me S 6 183 [.ref s, .ref x] hp (fun v hp' c s => v = none ∧ RSh hp l (storeE es e) hp' c s) := by
  obtain ⟨lf, hl0⟩ := hL.ob
  obtain ⟨q1, q2⟩ := srt_store hs e
  have hX' := hX
  obtain ⟨c, fs, hx, -, -, hxt⟩ := hX'
  cases he : es[plc es (eP e)]? with
  | none =>
    have hst := q2 (fun b hb => by rw [he] at hb; cases hb)
    have hi : as.length ≤ plc es (eP e) := by rw [hE.1]; exact List.getElem?_eq_none_iff.mp he
    refine At.go (q := xm183) rfl 1 (pc' := 1) (L' := [(0, .ref s), (1, .ref x)]) (st' := [.ref s]) rfl ?_
    refine At.gf rfl (by decide) hs0 rfl ?_
    refine At.go (q := xm183) rfl 1 (pc' := 5) (L' := [(0, .ref s), (1, .ref x)]) (st' := [.ref x, .ref l]) rfl ?_
    refine At.gf rfl (by decide) hx rfl ?_
    refine At.gf rfl (by decide) hxt rfl ?_
    refine At.go (q := xm183) rfl 1 (pc' := 12) (L' := [(0, .ref s), (1, .ref x)]) (st' := [.ref x, .int e.1, .ref l]) rfl ?_
    refine At.gf rfl (by decide) hx rfl ?_
    refine At.go (q := xm183) rfl 1 (pc' := 16) (L' := [(0, .ref s), (1, .ref x)]) (st' := [.ref x, .int e.2.1, .int e.1, .ref l]) rfl ?_
    refine At.gf rfl (by decide) hx rfl ?_
    refine At.clp (as := [.ref l, .int e.1, .int e.2.1, .int e.2.2.1]) (rest := []) rfl (by decide) rfl (Nat.le_of_ble_eq_true rfl) (Nat.le_of_ble_eq_true rfl) rfl (Nat.le_of_ble_eq_true rfl) (m_placeIn hL hE hs (eP e)) ?_
    refine At.go (q := xm183) rfl 3 (pc' := 25) (L' := [(2, .int (Int32.ofNat (plc es (eP e)))), (0, .ref s), (1, .ref x)]) (st' := [.int (Int32.ofNat (plc es (eP e))), .ref s]) rfl ?_
    refine At.clp (as := [.ref s, .int (Int32.ofNat (plc es (eP e)))]) (rest := []) rfl (by decide) rfl (Nat.le_of_ble_eq_true rfl) (Nat.le_of_ble_eq_true rfl) (xrck_o (by decide) (by decide) hs0 (by decide)) (Nat.le_of_ble_eq_true rfl) (m_shget0 hs0 hL hi (by have := plc_le (es := es) (p := eP e); have := hL.len; have := hE.1; omega)) ?_
    refine At.go (q := xm183) rfl 4 (pc' := 55) (L' := [(3, .null), (2, .int (Int32.ofNat (plc es (eP e)))), (0, .ref s), (1, .ref x)]) (st' := [.ref s]) rfl ?_
    refine At.gf rfl (by decide) hs0 rfl ?_
    refine At.go (q := xm183) rfl 2 (pc' := 60) (L' := [(3, .null), (2, .int (Int32.ofNat (plc es (eP e)))), (0, .ref s), (1, .ref x)]) (st' := [.ref x, .int (Int32.ofNat (plc es (eP e))), .ref l]) rfl ?_
    refine At.clm (as := [.ref l, .int (Int32.ofNat (plc es (eP e))), .ref x]) (rest := []) rfl (by decide) rfl (Nat.le_of_ble_eq_true rfl) (Nat.le_of_ble_eq_true rfl) (xrck_o (by decide) (by decide) hl0 (by decide)) (Nat.le_of_ble_eq_true rfl) (m_addAt hO hL hX.ob (by rw [hE.1]; exact plc_le) hn) (fun v hp1 c1 s1 hv => ?_)
    obtain ⟨rfl, k1⟩ := hv
    have hq := RSh.ad k1 (hE.ins hX plc_le)
    rw [← hst] at hq
    exact At.rt rfl rfl ⟨_, _, _, _, rfl, rfl, by rw [Nat.zero_add, Nat.zero_add]; exact hq⟩
  | some b =>
    obtain ⟨w, hwa, hW⟩ := hE.get he
    obtain ⟨c2, gs, hw, -, -, hwt⟩ := hW
    have hbs := m_isBeside (S := S) hw hwt hx hxt
    by_cases hbe : eP b = eP e
    · have hz : cmpE b.1 b.2.1 b.2.2.1 e.1 e.2.1 e.2.2.1 = 0 := (cmp_zero (p := eP b) (q := eP e)).mpr hbe
      rw [decide_eq_true hz] at hbs
      have hst := q1 b he hbe
      refine At.go (q := xm183) rfl 1 (pc' := 1) (L' := [(0, .ref s), (1, .ref x)]) (st' := [.ref s]) rfl ?_
      refine At.gf rfl (by decide) hs0 rfl ?_
      refine At.go (q := xm183) rfl 1 (pc' := 5) (L' := [(0, .ref s), (1, .ref x)]) (st' := [.ref x, .ref l]) rfl ?_
      refine At.gf rfl (by decide) hx rfl ?_
      refine At.gf rfl (by decide) hxt rfl ?_
      refine At.go (q := xm183) rfl 1 (pc' := 12) (L' := [(0, .ref s), (1, .ref x)]) (st' := [.ref x, .int e.1, .ref l]) rfl ?_
      refine At.gf rfl (by decide) hx rfl ?_
      refine At.go (q := xm183) rfl 1 (pc' := 16) (L' := [(0, .ref s), (1, .ref x)]) (st' := [.ref x, .int e.2.1, .int e.1, .ref l]) rfl ?_
      refine At.gf rfl (by decide) hx rfl ?_
      refine At.clp (as := [.ref l, .int e.1, .int e.2.1, .int e.2.2.1]) (rest := []) rfl (by decide) rfl (Nat.le_of_ble_eq_true rfl) (Nat.le_of_ble_eq_true rfl) rfl (Nat.le_of_ble_eq_true rfl) (m_placeIn hL hE hs (eP e)) ?_
      refine At.go (q := xm183) rfl 3 (pc' := 25) (L' := [(2, .int (Int32.ofNat (plc es (eP e)))), (0, .ref s), (1, .ref x)]) (st' := [.int (Int32.ofNat (plc es (eP e))), .ref s]) rfl ?_
      refine At.clp (as := [.ref s, .int (Int32.ofNat (plc es (eP e)))]) (rest := []) rfl (by decide) rfl (Nat.le_of_ble_eq_true rfl) (Nat.le_of_ble_eq_true rfl) (xrck_o (by decide) (by decide) hs0 (by decide)) (Nat.le_of_ble_eq_true rfl) (m_shget hs0 hL hwa hw) ?_
      refine At.go (q := xm183) rfl 5 (pc' := 35) (L' := [(3, .ref w), (2, .int (Int32.ofNat (plc es (eP e)))), (0, .ref s), (1, .ref x)]) (st' := [.ref x, .ref w]) rfl ?_
      refine At.clp (as := [.ref w, .ref x]) (rest := []) rfl (by decide) rfl (Nat.le_of_ble_eq_true rfl) (Nat.le_of_ble_eq_true rfl) (xrck_o (by decide) (by decide) hw (by decide)) (Nat.le_of_ble_eq_true rfl) (hbs) ?_
      refine At.go (q := xm183) rfl 2 (pc' := 42) (L' := [(3, .ref w), (2, .int (Int32.ofNat (plc es (eP e)))), (0, .ref s), (1, .ref x)]) (st' := [.ref s]) rfl ?_
      refine At.gf rfl (by decide) hs0 rfl ?_
      refine At.go (q := xm183) rfl 2 (pc' := 47) (L' := [(3, .ref w), (2, .int (Int32.ofNat (plc es (eP e)))), (0, .ref s), (1, .ref x)]) (st' := [.ref x, .int (Int32.ofNat (plc es (eP e))), .ref l]) rfl ?_
      refine At.clm (as := [.ref l, .int (Int32.ofNat (plc es (eP e))), .ref x]) (rest := []) rfl (by decide) rfl (Nat.le_of_ble_eq_true rfl) (Nat.le_of_ble_eq_true rfl) (xrck_o (by decide) (by decide) hl0 (by decide)) (Nat.le_of_ble_eq_true rfl) (m_set hL hX.ob hwa) (fun v hp1 c1 s1 hv => ?_)
      obtain ⟨rfl, k1, k2, rfl, rfl, k3⟩ := hv
      refine At.go (q := xm183) rfl 2 (pc' := 63) (L' := [(3, .ref w), (2, .int (Int32.ofNat (plc es (eP e)))), (0, .ref s), (1, .ref x)]) (st' := []) rfl ?_
      exact At.rt rfl rfl ⟨_, _, _, _, rfl, rfl, k1, ⟨_, k2, by rw [hst]; exact (hE.set hX).fr k1⟩, by omega, by omega, by rw [k3]; exact Nat.le_max_left _ _⟩
    · have hz : ¬ cmpE b.1 b.2.1 b.2.2.1 e.1 e.2.1 e.2.2.1 = 0 := fun h => hbe ((cmp_zero (p := eP b) (q := eP e)).mp h)
      rw [decide_eq_false hz] at hbs
      have hst := q2 (fun b' hb' => by rw [he] at hb'; cases hb'; exact hbe)
      refine At.go (q := xm183) rfl 1 (pc' := 1) (L' := [(0, .ref s), (1, .ref x)]) (st' := [.ref s]) rfl ?_
      refine At.gf rfl (by decide) hs0 rfl ?_
      refine At.go (q := xm183) rfl 1 (pc' := 5) (L' := [(0, .ref s), (1, .ref x)]) (st' := [.ref x, .ref l]) rfl ?_
      refine At.gf rfl (by decide) hx rfl ?_
      refine At.gf rfl (by decide) hxt rfl ?_
      refine At.go (q := xm183) rfl 1 (pc' := 12) (L' := [(0, .ref s), (1, .ref x)]) (st' := [.ref x, .int e.1, .ref l]) rfl ?_
      refine At.gf rfl (by decide) hx rfl ?_
      refine At.go (q := xm183) rfl 1 (pc' := 16) (L' := [(0, .ref s), (1, .ref x)]) (st' := [.ref x, .int e.2.1, .int e.1, .ref l]) rfl ?_
      refine At.gf rfl (by decide) hx rfl ?_
      refine At.clp (as := [.ref l, .int e.1, .int e.2.1, .int e.2.2.1]) (rest := []) rfl (by decide) rfl (Nat.le_of_ble_eq_true rfl) (Nat.le_of_ble_eq_true rfl) rfl (Nat.le_of_ble_eq_true rfl) (m_placeIn hL hE hs (eP e)) ?_
      refine At.go (q := xm183) rfl 3 (pc' := 25) (L' := [(2, .int (Int32.ofNat (plc es (eP e)))), (0, .ref s), (1, .ref x)]) (st' := [.int (Int32.ofNat (plc es (eP e))), .ref s]) rfl ?_
      refine At.clp (as := [.ref s, .int (Int32.ofNat (plc es (eP e)))]) (rest := []) rfl (by decide) rfl (Nat.le_of_ble_eq_true rfl) (Nat.le_of_ble_eq_true rfl) (xrck_o (by decide) (by decide) hs0 (by decide)) (Nat.le_of_ble_eq_true rfl) (m_shget hs0 hL hwa hw) ?_
      refine At.go (q := xm183) rfl 5 (pc' := 35) (L' := [(3, .ref w), (2, .int (Int32.ofNat (plc es (eP e)))), (0, .ref s), (1, .ref x)]) (st' := [.ref x, .ref w]) rfl ?_
      refine At.clp (as := [.ref w, .ref x]) (rest := []) rfl (by decide) rfl (Nat.le_of_ble_eq_true rfl) (Nat.le_of_ble_eq_true rfl) (xrck_o (by decide) (by decide) hw (by decide)) (Nat.le_of_ble_eq_true rfl) (hbs) ?_
      refine At.go (q := xm183) rfl 2 (pc' := 55) (L' := [(3, .ref w), (2, .int (Int32.ofNat (plc es (eP e)))), (0, .ref s), (1, .ref x)]) (st' := [.ref s]) rfl ?_
      refine At.gf rfl (by decide) hs0 rfl ?_
      refine At.go (q := xm183) rfl 2 (pc' := 60) (L' := [(3, .ref w), (2, .int (Int32.ofNat (plc es (eP e)))), (0, .ref s), (1, .ref x)]) (st' := [.ref x, .int (Int32.ofNat (plc es (eP e))), .ref l]) rfl ?_
      refine At.clm (as := [.ref l, .int (Int32.ofNat (plc es (eP e))), .ref x]) (rest := []) rfl (by decide) rfl (Nat.le_of_ble_eq_true rfl) (Nat.le_of_ble_eq_true rfl) (xrck_o (by decide) (by decide) hl0 (by decide)) (Nat.le_of_ble_eq_true rfl) (m_addAt hO hL hX.ob (by rw [hE.1]; exact plc_le) hn) (fun v hp1 c1 s1 hv => ?_)
      obtain ⟨rfl, k1⟩ := hv
      have hq := RSh.ad k1 (hE.ins hX plc_le)
      rw [← hst] at hq
      exact At.rt rfl rfl ⟨_, _, _, _, rfl, rfl, by rw [Nat.zero_add, Nat.zero_add]; exact hq⟩
/-- take -/
theorem m_take {S : List Int32} {hp : List XC} {s l : Nat} {as : List Nat} {es : List En} {t : Nat} {tf : List Value} (hs0 : hp[s]? = some (.inr (10, [.ref l]))) (hL : hLs hp l as) (hE : hEs hp as es) (hs : Srt es) (p : Pl) (ht : hp[t]? = some (.inr (13, .int p.1 :: tf))) : Me S 4 196 [.ref s, .ref t, .int p.2.1, .int p.2.2] hp (fun v hp' c s => v = none ∧ RSh hp l (takeE es p) hp' c s) := by
  obtain ⟨lf, hl0⟩ := hL.ob
  obtain ⟨q1, q2⟩ := srt_take hs p
  cases he : es[plc es p]? with
  | none =>
    have hst := q2 (fun b hb => by rw [he] at hb; cases hb)
    have hi : as.length ≤ plc es p := by rw [hE.1]; exact List.getElem?_eq_none_iff.mp he
    refine At.go (q := xm196) rfl 1 (pc' := 1) (L' := [(0, .ref s), (1, .ref t), (2, .int p.2.1), (3, .int p.2.2)]) (st' := [.ref s]) rfl ?_
    refine At.gf rfl (by decide) hs0 rfl ?_
    refine At.go (q := xm196) rfl 1 (pc' := 5) (L' := [(0, .ref s), (1, .ref t), (2, .int p.2.1), (3, .int p.2.2)]) (st' := [.ref t, .ref l]) rfl ?_
    refine At.gf rfl (by decide) ht rfl ?_
    refine At.go (q := xm196) rfl 2 (pc' := 10) (L' := [(0, .ref s), (1, .ref t), (2, .int p.2.1), (3, .int p.2.2)]) (st' := [.int p.2.2, .int p.2.1, .int p.1, .ref l]) rfl ?_
    refine At.clp (as := [.ref l, .int p.1, .int p.2.1, .int p.2.2]) (rest := []) rfl (by decide) rfl (Nat.le_of_ble_eq_true rfl) (Nat.le_of_ble_eq_true rfl) rfl (Nat.le_of_ble_eq_true rfl) (m_placeIn hL hE hs p) ?_
    refine At.go (q := xm196) rfl 3 (pc' := 18) (L' := [(4, .int (Int32.ofNat (plc es p))), (0, .ref s), (1, .ref t), (2, .int p.2.1), (3, .int p.2.2)]) (st' := [.int (Int32.ofNat (plc es p)), .ref s]) rfl ?_
    refine At.clp (as := [.ref s, .int (Int32.ofNat (plc es p))]) (rest := []) rfl (by decide) rfl (Nat.le_of_ble_eq_true rfl) (Nat.le_of_ble_eq_true rfl) (xrck_o (by decide) (by decide) hs0 (by decide)) (Nat.le_of_ble_eq_true rfl) (m_shget0 hs0 hL hi (by have := plc_le (es := es) (p := p); have := hL.len; have := hE.1; omega)) ?_
    refine At.go (q := xm196) rfl 3 (pc' := 52) (L' := [(5, .null), (4, .int (Int32.ofNat (plc es p))), (0, .ref s), (1, .ref t), (2, .int p.2.1), (3, .int p.2.2)]) (st' := []) rfl ?_
    exact At.rt rfl rfl ⟨_, _, _, _, rfl, rfl, by rw [hst]; exact RSh.rf ⟨as, hL, hE⟩⟩
  | some b =>
    obtain ⟨w, hwa, hW⟩ := hE.get he
    obtain ⟨c2, gs, hw, -, -, hwt⟩ := hW
    by_cases hbe : eP b = p
    · have hst := q1 b he hbe
      refine At.go (q := xm196) rfl 1 (pc' := 1) (L' := [(0, .ref s), (1, .ref t), (2, .int p.2.1), (3, .int p.2.2)]) (st' := [.ref s]) rfl ?_
      refine At.gf rfl (by decide) hs0 rfl ?_
      refine At.go (q := xm196) rfl 1 (pc' := 5) (L' := [(0, .ref s), (1, .ref t), (2, .int p.2.1), (3, .int p.2.2)]) (st' := [.ref t, .ref l]) rfl ?_
      refine At.gf rfl (by decide) ht rfl ?_
      refine At.go (q := xm196) rfl 2 (pc' := 10) (L' := [(0, .ref s), (1, .ref t), (2, .int p.2.1), (3, .int p.2.2)]) (st' := [.int p.2.2, .int p.2.1, .int p.1, .ref l]) rfl ?_
      refine At.clp (as := [.ref l, .int p.1, .int p.2.1, .int p.2.2]) (rest := []) rfl (by decide) rfl (Nat.le_of_ble_eq_true rfl) (Nat.le_of_ble_eq_true rfl) rfl (Nat.le_of_ble_eq_true rfl) (m_placeIn hL hE hs p) ?_
      refine At.go (q := xm196) rfl 3 (pc' := 18) (L' := [(4, .int (Int32.ofNat (plc es p))), (0, .ref s), (1, .ref t), (2, .int p.2.1), (3, .int p.2.2)]) (st' := [.int (Int32.ofNat (plc es p)), .ref s]) rfl ?_
      refine At.clp (as := [.ref s, .int (Int32.ofNat (plc es p))]) (rest := []) rfl (by decide) rfl (Nat.le_of_ble_eq_true rfl) (Nat.le_of_ble_eq_true rfl) (xrck_o (by decide) (by decide) hs0 (by decide)) (Nat.le_of_ble_eq_true rfl) (m_shget hs0 hL hwa hw) ?_
      refine At.go (q := xm196) rfl 5 (pc' := 31) (L' := [(5, .ref w), (4, .int (Int32.ofNat (plc es p))), (0, .ref s), (1, .ref t), (2, .int p.2.1), (3, .int p.2.2)]) (st' := [.ref t, .ref w]) rfl ?_
      refine At.gf rfl (by decide) ht rfl ?_
      refine At.go (q := xm196) rfl 2 (pc' := 36) (L' := [(5, .ref w), (4, .int (Int32.ofNat (plc es p))), (0, .ref s), (1, .ref t), (2, .int p.2.1), (3, .int p.2.2)]) (st' := [.int p.2.2, .int p.2.1, .int p.1, .ref w]) rfl ?_
      refine At.clp (as := [.ref w, .int p.1, .int p.2.1, .int p.2.2]) (rest := []) rfl (by decide) rfl (Nat.le_of_ble_eq_true rfl) (Nat.le_of_ble_eq_true rfl) (xrck_o (by decide) (by decide) hw (by decide)) (Nat.le_of_ble_eq_true rfl) (m_compare hw hwt p.1 p.2.1 p.2.2) ?_
      refine At.ic1 (tgt := 52) rfl rfl (fun h => absurd (h.symm.trans (decide_eq_false (fun h => h (cmp_zero.mpr hbe)))) (by decide)) (fun _ => ?_)
      refine At.go (q := xm196) rfl 1 (pc' := 43) (L' := [(5, .ref w), (4, .int (Int32.ofNat (plc es p))), (0, .ref s), (1, .ref t), (2, .int p.2.1), (3, .int p.2.2)]) (st' := [.ref s]) rfl ?_
      refine At.gf rfl (by decide) hs0 rfl ?_
      refine At.go (q := xm196) rfl 1 (pc' := 48) (L' := [(5, .ref w), (4, .int (Int32.ofNat (plc es p))), (0, .ref s), (1, .ref t), (2, .int p.2.1), (3, .int p.2.2)]) (st' := [.int (Int32.ofNat (plc es p)), .ref l]) rfl ?_
      refine At.clm (as := [.ref l, .int (Int32.ofNat (plc es p))]) (rest := []) rfl (by decide) rfl (Nat.le_of_ble_eq_true rfl) (Nat.le_of_ble_eq_true rfl) (xrck_o (by decide) (by decide) hl0 (by decide)) (Nat.le_of_ble_eq_true rfl) (m_remove hL hwa) (fun v hp1 c1 s1 hv => ?_)
      obtain ⟨rfl, k1, k2, rfl, rfl, k3⟩ := hv
      refine At.go (q := xm196) rfl 1 (pc' := 52) (L' := [(5, .ref w), (4, .int (Int32.ofNat (plc es p))), (0, .ref s), (1, .ref t), (2, .int p.2.1), (3, .int p.2.2)]) (st' := []) rfl ?_
      exact At.rt rfl rfl ⟨_, _, _, _, rfl, rfl, k1, ⟨_, k2, by rw [hst]; exact hE.erase.fr k1⟩, by omega, by omega, by rw [k3]; exact Nat.le_max_left _ _⟩
    · have hst := q2 (fun b' hb' => by rw [he] at hb'; cases hb'; exact hbe)
      refine At.go (q := xm196) rfl 1 (pc' := 1) (L' := [(0, .ref s), (1, .ref t), (2, .int p.2.1), (3, .int p.2.2)]) (st' := [.ref s]) rfl ?_
      refine At.gf rfl (by decide) hs0 rfl ?_
      refine At.go (q := xm196) rfl 1 (pc' := 5) (L' := [(0, .ref s), (1, .ref t), (2, .int p.2.1), (3, .int p.2.2)]) (st' := [.ref t, .ref l]) rfl ?_
      refine At.gf rfl (by decide) ht rfl ?_
      refine At.go (q := xm196) rfl 2 (pc' := 10) (L' := [(0, .ref s), (1, .ref t), (2, .int p.2.1), (3, .int p.2.2)]) (st' := [.int p.2.2, .int p.2.1, .int p.1, .ref l]) rfl ?_
      refine At.clp (as := [.ref l, .int p.1, .int p.2.1, .int p.2.2]) (rest := []) rfl (by decide) rfl (Nat.le_of_ble_eq_true rfl) (Nat.le_of_ble_eq_true rfl) rfl (Nat.le_of_ble_eq_true rfl) (m_placeIn hL hE hs p) ?_
      refine At.go (q := xm196) rfl 3 (pc' := 18) (L' := [(4, .int (Int32.ofNat (plc es p))), (0, .ref s), (1, .ref t), (2, .int p.2.1), (3, .int p.2.2)]) (st' := [.int (Int32.ofNat (plc es p)), .ref s]) rfl ?_
      refine At.clp (as := [.ref s, .int (Int32.ofNat (plc es p))]) (rest := []) rfl (by decide) rfl (Nat.le_of_ble_eq_true rfl) (Nat.le_of_ble_eq_true rfl) (xrck_o (by decide) (by decide) hs0 (by decide)) (Nat.le_of_ble_eq_true rfl) (m_shget hs0 hL hwa hw) ?_
      refine At.go (q := xm196) rfl 5 (pc' := 31) (L' := [(5, .ref w), (4, .int (Int32.ofNat (plc es p))), (0, .ref s), (1, .ref t), (2, .int p.2.1), (3, .int p.2.2)]) (st' := [.ref t, .ref w]) rfl ?_
      refine At.gf rfl (by decide) ht rfl ?_
      refine At.go (q := xm196) rfl 2 (pc' := 36) (L' := [(5, .ref w), (4, .int (Int32.ofNat (plc es p))), (0, .ref s), (1, .ref t), (2, .int p.2.1), (3, .int p.2.2)]) (st' := [.int p.2.2, .int p.2.1, .int p.1, .ref w]) rfl ?_
      refine At.clp (as := [.ref w, .int p.1, .int p.2.1, .int p.2.2]) (rest := []) rfl (by decide) rfl (Nat.le_of_ble_eq_true rfl) (Nat.le_of_ble_eq_true rfl) (xrck_o (by decide) (by decide) hw (by decide)) (Nat.le_of_ble_eq_true rfl) (m_compare hw hwt p.1 p.2.1 p.2.2) ?_
      refine At.ic1 (tgt := 52) rfl rfl (fun _ => ?_) (fun h => absurd (h.symm.trans (decide_eq_true (fun h => hbe (cmp_zero.mp h)))) (by decide))
      exact At.rt rfl rfl ⟨_, _, _, _, rfl, rfl, by rw [hst]; exact RSh.rf ⟨as, hL, hE⟩⟩
theorem hEs.one {hp : List XC} {a : Nat} {e : En} (h : hEn hp a e) : hEs hp [a] [e] := ⟨rfl, fun i x f hx hf => by
  cases i with
  | zero => cases hx; cases hf; exact h
  | succ i => cases hx⟩
theorem xdrop_q {α : Type} {l : List α} {i : Nat} : l.drop i = (l[i]?).toList ++ l.drop (i + 1) := by
  cases h : l[i]? with
  | none =>
    have h2 := List.getElem?_eq_none_iff.mp h
    rw [List.drop_eq_nil_of_le h2, List.drop_eq_nil_of_le (by omega)]
    rfl
  | some x =>
    have h2 := (List.getElem?_eq_some_iff.mp h).1
    rw [List.drop_eq_getElem_cons h2]
    rw [List.getElem?_eq_getElem h2] at h
    cases h
    rfl
theorem addAll_loop {S : List Int32} {l k : Nat} {bs : List Nat} {fs : List En} (hne : l ≠ k) : ∀ (j i : Nat) (hp : List XC) (as : List Nat) (es : List En) {nc ns : Nat}, i + j = bs.length → Own hp → hLs hp l as → hLs hp k bs → hEs hp bs fs → hEs hp as es → as.length + j ≤ 60000 →
    At S 7 178 2 [(2, .int (Int32.ofNat i)), (0, .ref l), (1, .ref k)] [] hp nc ns (fun o => ∃ hp' c s, o = .inl (none, hp', c, s) ∧ FrX (fun x => x = l) hp hp' ∧ hSh hp' l (es ++ fs.drop i) ∧ c + capL hp l ≤ nc + capL hp' l ∧ s + 4 * capL hp l ≤ ns + 4 * capL hp' l ∧ capL hp' l ≤ max (capL hp l) (2 * (as.length + j) + 10)) := by
  intro j
  induction j with
  | zero =>
    intro i hp as es nc ns hi hO hL hK hF hE hn
    obtain ⟨lf, hl0⟩ := hL.ob
    obtain ⟨kf, hk0⟩ := hK.ob
    have hbn := hK.len
    refine At.go (q := xm178) rfl 2 (pc' := 4) (L' := [(2, .int (Int32.ofNat i)), (0, .ref l), (1, .ref k)]) (st' := [.ref k, .int (Int32.ofNat i)]) rfl ?_
    refine At.clp (as := [.ref k]) (rest := [.int (Int32.ofNat i)]) rfl (by decide) rfl (Nat.le_of_ble_eq_true rfl) (Nat.le_of_ble_eq_true rfl) (xrck_o (by decide) (by decide) hk0 (by decide)) (Nat.le_of_ble_eq_true rfl) (m_size hK) ?_
    refine At.ic2 (tgt := 29) rfl rfl (fun _ => ?_) (fun h => absurd ((iN_le (by omega) (by omega)).mpr (show bs.length ≤ i by omega)) (of_decide_eq_false h))
    refine At.rt rfl rfl ⟨hp, nc, ns, rfl, FrX.rf, ⟨as, hL, ?_⟩, by omega, by omega, by omega⟩
    rw [List.drop_eq_nil_of_le (by have := hF.1; omega), List.append_nil]
    exact hE
  | succ j ih =>
    intro i hp as es nc ns hi hO hL hK hF hE hn
    obtain ⟨lf, hl0⟩ := hL.ob
    obtain ⟨kf, hk0⟩ := hK.ob
    have hbn := hK.len
    obtain ⟨f, hf⟩ : ∃ f, fs[i]? = some f := ⟨_, List.getElem?_eq_getElem (by have := hF.1; omega)⟩
    obtain ⟨x, hb, h9⟩ := hF.get hf
    have hx9 := h9.ob
    have h9' := h9
    obtain ⟨cx, gx, hx, -⟩ := h9'
    have hn2 : as.length ≤ 60000 := by omega
    refine At.go (q := xm178) rfl 2 (pc' := 4) (L' := [(2, .int (Int32.ofNat i)), (0, .ref l), (1, .ref k)]) (st' := [.ref k, .int (Int32.ofNat i)]) rfl ?_
    refine At.clp (as := [.ref k]) (rest := [.int (Int32.ofNat i)]) rfl (by decide) rfl (Nat.le_of_ble_eq_true rfl) (Nat.le_of_ble_eq_true rfl) (xrck_o (by decide) (by decide) hk0 (by decide)) (Nat.le_of_ble_eq_true rfl) (m_size hK) ?_
    refine At.ic2 (tgt := 29) rfl rfl (fun h => absurd ((iN_le (by omega) (by omega)).mp (of_decide_eq_true h)) (by omega)) (fun _ => ?_)
    refine At.go (q := xm178) rfl 3 (pc' := 13) (L' := [(2, .int (Int32.ofNat i)), (0, .ref l), (1, .ref k)]) (st' := [.int (Int32.ofNat i), .ref k, .ref l]) rfl ?_
    refine At.clp (as := [.ref k, .int (Int32.ofNat i)]) (rest := [.ref l]) rfl (by decide) rfl (Nat.le_of_ble_eq_true rfl) (Nat.le_of_ble_eq_true rfl) (xrck_o (by decide) (by decide) hk0 (by decide)) (Nat.le_of_ble_eq_true rfl) (m_get hK hb) ?_
    refine At.ca rfl hx (by decide) ?_
    refine At.clm (as := [.ref l, .ref x]) (rest := []) rfl (by decide) rfl (Nat.le_of_ble_eq_true rfl) (Nat.le_of_ble_eq_true rfl) (xrck_o (by decide) (by decide) hl0 (by decide)) (Nat.le_of_ble_eq_true rfl) (m_add hO hL hx9 hn2) (fun v hp1 c1 s1 hv => ?_)
    obtain ⟨rfl, k1, k2, k3, k4, k5⟩ := hv
    refine At.go (q := xm178) rfl 3 (pc' := 2) (L' := [(2, .int ((Int32.ofNat i) + 1)), (0, .ref l), (1, .ref k)]) (st' := []) rfl ?_
    rw [iN_s]
    refine (ih (i + 1) hp1 _ _ (by omega) (k1.2.1 hO) k2 (k1.ls (fun h => hne h.symm) hO hK) (hF.fr k1) ((hE.fr k1).app (hEs.one (h9.fr k1))) (by rw [List.length_append, List.length_singleton]; omega)).mono (fun o h => ?_)
    obtain ⟨hp', c, s, h1, h2, h3, h4, h5, h6⟩ := h
    refine ⟨hp', c, s, h1, FrX.tr k1 h2 (fun x hx => Or.inl hx), ?_, by omega, by omega, ?_⟩
    · rw [xdrop_q, hf, ← List.append_assoc]; exact h3
    · rw [List.length_append, List.length_singleton] at h6 k5; omega
/-- addAll -/
theorem m_addAll {S : List Int32} {hp : List XC} {l k : Nat} {as bs : List Nat} {es fs : List En} (hne : l ≠ k) (hO : Own hp) (hL : hLs hp l as) (hK : hLs hp k bs) (hE : hEs hp as es) (hF : hEs hp bs fs) (hn : as.length + bs.length ≤ 60000) : Me S 7 178 [.ref l, .ref k] hp (fun v hp' c s => v = none ∧ RSh hp l (es ++ fs) hp' c s) := by
  refine At.go (q := xm178) rfl 2 (pc' := 2) (L' := [(2, .int 0), (0, .ref l), (1, .ref k)]) (st' := []) rfl ?_
  refine (addAll_loop hne bs.length 0 hp as es (by omega) hO hL hK hF hE (by omega)).mono (fun o h => ?_)
  obtain ⟨hp', c, s, h1, h2, h3, h4, h5, h6⟩ := h
  rw [List.drop_zero] at h3
  have hl1 := hE.1
  have hl2 := hF.1
  exact ⟨_, _, _, _, h1, rfl, h2, h3, by omega, by omega, by rw [List.length_append]; omega⟩
