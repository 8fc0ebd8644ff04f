/-! the law's number and condition (by gst.py) -/
def NumT (ds : List Nat) : Prop := ds = [110, 111, 110, 101] ∨ (∃ d, d < 4 ∧ ds = [40, 48, 45, 48 + d, 41]) ∨ ∃ d, d < 6 ∧ ds = [48 + d]
def ConT (ds : List Nat) : Prop := (∃ d, d < 6 ∧ ds = [32, 105, 102, 32, 107, 61] ++ [48 + d]) ∨ (∃ d, d < 4 ∧ ds = [32, 105, 102, 32, 118, 62] ++ [48 + d]) ∨ ds = [32, 105, 102, 32, 108, 97, 98, 101, 108, 62, 48, 124, 107, 110, 111, 119, 110, 32, 118] ∨ ds = []
theorem num_len {ds : List Nat} (h : NumT ds) : ds.length ≤ 5 := by
  rcases h with rfl | ⟨d, hd, rfl⟩ | ⟨d, hd, rfl⟩
  · decide
  · exact Nat.le_refl 5
  · exact Nat.le_of_ble_eq_true rfl
theorem con_len {ds : List Nat} (h : ConT ds) : ds.length ≤ 30 := by
  rcases h with ⟨d, hd, rfl⟩ | ⟨d, hd, rfl⟩ | rfl | rfl
  · exact Nat.le_of_ble_eq_true rfl
  · exact Nat.le_of_ble_eq_true rfl
  · decide
  · decide
theorem s2_L {A B : Nat → Nat} {L la io : Nat} {h0 hp : List XC} {ow0 : Nat → Nat} {M N : HM} {lbs ops : List Int32} {top : Int32} {dt pc ps c s K J : Nat} (h : S2 A B L la io h0 hp ow0 M N lbs ops top dt pc ps c s K J) : ∃ fs, hp[L]? = some (.inr (15, fs)) := by
  obtain ⟨ow', pc', ps', hw, W, f, e1, e2⟩ := h
  obtain ⟨rx, ry, px, lx, py, ly, hx, hy, hl, e3, e4⟩ := W
  obtain ⟨⟨t, sd, h1, h2, h3⟩, h4⟩ := hl
  exact ⟨_, h3⟩
theorem bs_L {A B : Nat → Nat} {L la io : Nat} {h0 hp : List XC} {ow0 : Nat → Nat} {M N : HM} {lbs ops : List Int32} {top : Int32} {dt pc ps c s K J b : Nat} {cs : List Nat} (h : Bst A B L la io h0 hp ow0 M N lbs ops top dt pc ps c s K J b cs) : ∃ fs, hp[L]? = some (.inr (15, fs)) := by
  obtain ⟨ow', pc', ps', a, m, hw, W, f, hB, ob, oa, lb, la9, e1, e2⟩ := h
  obtain ⟨rx, ry, px, lx, py, ly, hx, hy, hl, e3, e4⟩ := W
  obtain ⟨⟨t, sd, h1, h2, h3⟩, h4⟩ := hl
  exact ⟨_, h3⟩
theorem bs_b {A B : Nat → Nat} {L la io : Nat} {h0 hp : List XC} {ow0 : Nat → Nat} {M N : HM} {lbs ops : List Int32} {top : Int32} {dt pc ps c s K J b : Nat} {cs : List Nat} (h : Bst A B L la io h0 hp ow0 M N lbs ops top dt pc ps c s K J b cs) : ∃ fs, hp[b]? = some (.inr (1, fs)) := by
  obtain ⟨ow', pc', ps', a, m, hw, W, f, ⟨h1, h2, mv, h3, h4⟩, ob, oa, lb, la9, e1, e2⟩ := h
  exact ⟨_, h3⟩
theorem xs_bt {A B : Nat → Nat} {L la io : Nat} {h0 hp : List XC} {ow0 : Nat → Nat} {M N : HM} {lbs ops : List Int32} {top : Int32} {dt pc ps c s K J b : Nat} {cs : List Nat} {t : Value} {ds : List Nat} (h : BsT A B L la io h0 hp ow0 M N lbs ops top dt pc ps c s K J b cs t ds) : xsum [.ref b, t] ≤ xmL (xMT 207) := by
  obtain ⟨ow', pc', ps', a, m, hw, W, f, hB, ob, oa, lb, la9, e1, e2, ⟨⟨-, -, ⟨ta, va, r, rfl, k1, k2⟩ | ⟨tk, vk, r, rfl, k1, k2⟩⟩, hn⟩⟩ := h
  · exact Nat.le_of_ble_eq_true rfl
  · exact Nat.le_of_ble_eq_true rfl
theorem m_num {S : List Int32} {A B : Nat → Nat} {L la io : Nat} {hp : List XC} {ow : Nat → Nat} {M N : HM} {lbs ops : List Int32} {top : Int32} {dt pc ps : Nat} (W : W2 A B L la io hp ow M N lbs ops top dt pc ps) (hd : dt + 2 ≤ 100000) (hS : S.length ≤ 1000) : Me S 7 236 [.ref L] hp (fun v hp' c s => ∃ t ds, v = some t ∧ NumT ds ∧ S2T A B L la io hp hp' ow M N lbs ops top (dt + 2) pc ps c s 10 1400 t ds) := by
  have B0 := S2.same W
  obtain ⟨fL0, gL0⟩ := s2_L B0
  refine At.go (q := xm236) rfl 2 (pc' := 3) (L' := [(0, .ref L)]) (st' := [.int 9, .ref L]) rfl ?_
  refine At.clm (as := [.ref L, .int 9]) (rest := []) rfl (by decide) rfl (Nat.le_of_ble_eq_true rfl) (Nat.le_of_ble_eq_true rfl) (xrck_o (by decide) (by decide) gL0 (by decide)) (Nat.le_of_ble_eq_true rfl) (s2_draw (m9 := 9) B0 (by omega) hS (by decide) (by decide)) (fun v hp1 c1 s1 hv => ?_)
  obtain ⟨n1, hn1, rfl, B1⟩ := hv
  obtain ⟨fL1, gL1⟩ := s2_L B1
  refine At.go (q := xm236) rfl 2 (pc' := 8) (L' := [(1, .int (Int32.ofNat n1)), (0, .ref L)]) (st' := [.int (Int32.ofNat n1)]) rfl ?_
  refine At.ic1 (tgt := 16) rfl rfl (fun h8 => ?_) (fun h8 => ?_)
  · refine At.go (q := xm236) rfl 2 (pc' := 18) (L' := [(1, .int (Int32.ofNat n1)), (0, .ref L)]) (st' := [.int 1, .int (Int32.ofNat n1)]) rfl ?_
    refine At.ic2 (tgt := 52) rfl rfl (fun h18 => ?_) (fun h18 => ?_)
    · refine At.nw (ci := 1) rfl ?_
      obtain ⟨hq2, eq2⟩ : ∃ h, h = hp1 ++ [.inr (1, xDF 1)] := ⟨_, rfl⟩
      refine At.hpe eq2 ?_
      refine At.go (q := xm236) rfl 1 (pc' := 56) (L' := [(1, .int (Int32.ofNat n1)), (0, .ref L)]) (st' := [.ref hp1.length, .ref hp1.length]) rfl ?_
      refine At.clm (as := [.ref hp1.length]) (rest := [.ref hp1.length]) rfl (by decide) rfl (Nat.le_of_ble_eq_true rfl) (Nat.le_of_ble_eq_true rfl) rfl (Nat.le_of_ble_eq_true rfl) (m_sbI (mv := 0) (by rw [eq2]; exact xa_eq)) (fun v hp2 c2 s2 hv => ?_)
      obtain ⟨rfl, hv1, hv2, hv3, hv4⟩ := hv
      have B2 := bs_new B1 eq2 hv1 hv2 hv3 hv4
      obtain ⟨fL2, gL2⟩ := bs_L B2
      obtain ⟨fB2, gB2⟩ := bs_b B2
      refine At.go (q := xm236) rfl 1 (pc' := 61) (L' := [(1, .int (Int32.ofNat n1)), (0, .ref L)]) (st' := [.retAddr 75, .ref hp1.length]) rfl ?_
      refine At.clm (as := [.ref hp1.length, .retAddr 75]) (rest := []) rfl (by decide) rfl (Nat.le_of_ble_eq_true rfl) (Nat.le_of_ble_eq_true rfl) (xrck_o (by decide) (by decide) gB2 (by decide)) (Nat.le_of_ble_eq_true rfl) (bs_app (Bst.k B2 (fun _ _ => hTnK (vk := 76) rfl rfl (ds := []) (by decide) (by decide))) (by simp only [List.length_append, List.length_cons, List.length_nil]; omega)) (fun v hp3 c3 s3 hv => ?_)
      obtain ⟨rfl, B3⟩ := hv
      obtain ⟨fL3, gL3⟩ := bs_L B3
      obtain ⟨fB3, gB3⟩ := bs_b B3
      refine At.go (q := xm236) rfl 2 (pc' := 67) (L' := [(1, .int (Int32.ofNat n1)), (0, .ref L)]) (st' := [.int 6, .ref L, .ref hp1.length]) rfl ?_
      refine At.clm (as := [.ref L, .int 6]) (rest := [.ref hp1.length]) rfl (by decide) rfl (Nat.le_of_ble_eq_true rfl) (Nat.le_of_ble_eq_true rfl) (xrck_o (by decide) (by decide) gL3 (by decide)) (Nat.le_of_ble_eq_true rfl) (bs_draw (m9 := 6) B3 (by omega) hS (by decide) (by decide)) (fun v hp4 c4 s4 hv => ?_)
      obtain ⟨n4, hn4, rfl, B4⟩ := hv
      obtain ⟨fL4, gL4⟩ := bs_L B4
      obtain ⟨fB4, gB4⟩ := bs_b B4
      refine At.clm (as := [.ref hp1.length, .int (Int32.ofNat n4)]) (rest := []) rfl (by decide) rfl (Nat.le_of_ble_eq_true rfl) (Nat.le_of_ble_eq_true rfl) (xrck_o (by decide) (by decide) gB4 (by decide)) (Nat.le_of_ble_eq_true rfl) (bs_appD (d := n4) B4 (by omega) (by simp only [List.length_append, List.length_cons, List.length_nil]; omega)) (fun v hp5 c5 s5 hv => ?_)
      obtain ⟨rfl, B5⟩ := hv
      obtain ⟨fL5, gL5⟩ := bs_L B5
      obtain ⟨fB5, gB5⟩ := bs_b B5
      refine At.clm (as := [.ref hp1.length]) (rest := []) rfl (by decide) rfl (Nat.le_of_ble_eq_true rfl) (Nat.le_of_ble_eq_true rfl) (xrck_o (by decide) (by decide) gB5 (by decide)) (Nat.le_of_ble_eq_true rfl) (bs_toS B5) (fun v hp6 c6 s6 hv => ?_)
      obtain ⟨rfl, B6⟩ := hv
      exact At.rt rfl rfl ⟨_, _, _, _, rfl, _, _, rfl, Or.inr (Or.inr ⟨n4, hn4, rfl⟩), S2T.mono B6 (by omega) (by omega) (by omega) (by omega)⟩
    · refine At.nw (ci := 1) rfl ?_
      obtain ⟨hq2, eq2⟩ : ∃ h, h = hp1 ++ [.inr (1, xDF 1)] := ⟨_, rfl⟩
      refine At.hpe eq2 ?_
      refine At.go (q := xm236) rfl 1 (pc' := 25) (L' := [(1, .int (Int32.ofNat n1)), (0, .ref L)]) (st' := [.ref hp1.length, .ref hp1.length]) rfl ?_
      refine At.clm (as := [.ref hp1.length]) (rest := [.ref hp1.length]) rfl (by decide) rfl (Nat.le_of_ble_eq_true rfl) (Nat.le_of_ble_eq_true rfl) rfl (Nat.le_of_ble_eq_true rfl) (m_sbI (mv := 0) (by rw [eq2]; exact xa_eq)) (fun v hp2 c2 s2 hv => ?_)
      obtain ⟨rfl, hv1, hv2, hv3, hv4⟩ := hv
      have B2 := bs_new B1 eq2 hv1 hv2 hv3 hv4
      obtain ⟨fL2, gL2⟩ := bs_L B2
      obtain ⟨fB2, gB2⟩ := bs_b B2
      refine At.go (q := xm236) rfl 1 (pc' := 30) (L' := [(1, .int (Int32.ofNat n1)), (0, .ref L)]) (st' := [.retAddr 71, .ref hp1.length]) rfl ?_
      refine At.clm (as := [.ref hp1.length, .retAddr 71]) (rest := []) rfl (by decide) rfl (Nat.le_of_ble_eq_true rfl) (Nat.le_of_ble_eq_true rfl) (xrck_o (by decide) (by decide) gB2 (by decide)) (Nat.le_of_ble_eq_true rfl) (bs_app (Bst.k B2 (fun _ _ => hTnK (vk := 72) rfl rfl (ds := [40, 48, 45]) (by decide) (by decide))) (by simp only [List.length_append, List.length_cons, List.length_nil]; omega)) (fun v hp3 c3 s3 hv => ?_)
      obtain ⟨rfl, B3⟩ := hv
      obtain ⟨fL3, gL3⟩ := bs_L B3
      obtain ⟨fB3, gB3⟩ := bs_b B3
      refine At.go (q := xm236) rfl 2 (pc' := 35) (L' := [(1, .int (Int32.ofNat n1)), (0, .ref L)]) (st' := [.int 4, .ref L, .ref hp1.length]) rfl ?_
      refine At.clm (as := [.ref L, .int 4]) (rest := [.ref hp1.length]) rfl (by decide) rfl (Nat.le_of_ble_eq_true rfl) (Nat.le_of_ble_eq_true rfl) (xrck_o (by decide) (by decide) gL3 (by decide)) (Nat.le_of_ble_eq_true rfl) (bs_draw (m9 := 4) B3 (by omega) hS (by decide) (by decide)) (fun v hp4 c4 s4 hv => ?_)
      obtain ⟨n4, hn4, rfl, B4⟩ := hv
      obtain ⟨fL4, gL4⟩ := bs_L B4
      obtain ⟨fB4, gB4⟩ := bs_b B4
      refine At.clm (as := [.ref hp1.length, .int (Int32.ofNat n4)]) (rest := []) rfl (by decide) rfl (Nat.le_of_ble_eq_true rfl) (Nat.le_of_ble_eq_true rfl) (xrck_o (by decide) (by decide) gB4 (by decide)) (Nat.le_of_ble_eq_true rfl) (bs_appD (d := n4) B4 (by omega) (by simp only [List.length_append, List.length_cons, List.length_nil]; omega)) (fun v hp5 c5 s5 hv => ?_)
      obtain ⟨rfl, B5⟩ := hv
      obtain ⟨fL5, gL5⟩ := bs_L B5
      obtain ⟨fB5, gB5⟩ := bs_b B5
      refine At.go (q := xm236) rfl 1 (pc' := 43) (L' := [(1, .int (Int32.ofNat n1)), (0, .ref L)]) (st' := [.retAddr 73, .ref hp1.length]) rfl ?_
      refine At.clm (as := [.ref hp1.length, .retAddr 73]) (rest := []) rfl (by decide) rfl (Nat.le_of_ble_eq_true rfl) (Nat.le_of_ble_eq_true rfl) (xrck_o (by decide) (by decide) gB5 (by decide)) (Nat.le_of_ble_eq_true rfl) (bs_app (Bst.k B5 (fun _ _ => hTnK (vk := 74) rfl rfl (ds := [41]) (by decide) (by decide))) (by simp only [List.length_append, List.length_cons, List.length_nil]; omega)) (fun v hp6 c6 s6 hv => ?_)
      obtain ⟨rfl, B6⟩ := hv
      obtain ⟨fL6, gL6⟩ := bs_L B6
      obtain ⟨fB6, gB6⟩ := bs_b B6
      refine At.clm (as := [.ref hp1.length]) (rest := []) rfl (by decide) rfl (Nat.le_of_ble_eq_true rfl) (Nat.le_of_ble_eq_true rfl) (xrck_o (by decide) (by decide) gB6 (by decide)) (Nat.le_of_ble_eq_true rfl) (bs_toS B6) (fun v hp7 c7 s7 hv => ?_)
      obtain ⟨rfl, B7⟩ := hv
      refine At.go (q := xm236) rfl 1 (pc' := 76) (L' := [(1, .int (Int32.ofNat n1)), (0, .ref L)]) (st' := [.ref hp6.length]) rfl ?_
      exact At.rt rfl rfl ⟨_, _, _, _, rfl, _, _, rfl, Or.inr (Or.inl ⟨n4, hn4, rfl⟩), S2T.mono B7 (by omega) (by omega) (by omega) (by omega)⟩
  · refine At.go (q := xm236) rfl 2 (pc' := 76) (L' := [(1, .int (Int32.ofNat n1)), (0, .ref L)]) (st' := [.retAddr 69]) rfl ?_
    exact At.rt rfl rfl ⟨_, _, _, _, rfl, _, _, rfl, Or.inl rfl, S2T.mono (S2.tx B1 (fun _ _ => hTnK (vk := 70) rfl rfl (ds := [110, 111, 110, 101]) (by decide) (by decide))) (by omega) (by omega) (by omega) (by omega)⟩
theorem m_cond {S : List Int32} {A B : Nat → Nat} {L la io : Nat} {hp : List XC} {ow : Nat → Nat} {M N : HM} {lbs ops : List Int32} {top : Int32} {dt pc ps : Nat} (W : W2 A B L la io hp ow M N lbs ops top dt pc ps) (hd : dt + 2 ≤ 100000) (hS : S.length ≤ 1000) : Me S 7 237 [.ref L] hp (fun v hp' c s => ∃ t ds, v = some t ∧ ConT ds ∧ S2T A B L la io hp hp' ow M N lbs ops top (dt + 2) pc ps c s 10 1400 t ds) := by
  have B0 := S2.same W
  obtain ⟨fL0, gL0⟩ := s2_L B0
  refine At.go (q := xm237) rfl 2 (pc' := 3) (L' := [(0, .ref L)]) (st' := [.int 6, .ref L]) rfl ?_
  refine At.clm (as := [.ref L, .int 6]) (rest := []) rfl (by decide) rfl (Nat.le_of_ble_eq_true rfl) (Nat.le_of_ble_eq_true rfl) (xrck_o (by decide) (by decide) gL0 (by decide)) (Nat.le_of_ble_eq_true rfl) (s2_draw (m9 := 6) B0 (by omega) hS (by decide) (by decide)) (fun v hp1 c1 s1 hv => ?_)
  obtain ⟨n1, hn1, rfl, B1⟩ := hv
  obtain ⟨fL1, gL1⟩ := s2_L B1
  refine At.go (q := xm237) rfl 3 (pc' := 9) (L' := [(1, .int (Int32.ofNat n1)), (0, .ref L)]) (st' := [.int 3, .int (Int32.ofNat n1)]) rfl ?_
  refine At.ic2 (tgt := 39) rfl rfl (fun h9 => ?_) (fun h9 => ?_)
  · refine At.go (q := xm237) rfl 2 (pc' := 41) (L' := [(1, .int (Int32.ofNat n1)), (0, .ref L)]) (st' := [.int 3, .int (Int32.ofNat n1)]) rfl ?_
    refine At.ic2 (tgt := 70) rfl rfl (fun h41 => ?_) (fun h41 => ?_)
    · refine At.go (q := xm237) rfl 2 (pc' := 72) (L' := [(1, .int (Int32.ofNat n1)), (0, .ref L)]) (st' := [.int 4, .int (Int32.ofNat n1)]) rfl ?_
      refine At.ic2 (tgt := 80) rfl rfl (fun h72 => ?_) (fun h72 => ?_)
      · refine At.go (q := xm237) rfl 1 (pc' := 82) (L' := [(1, .int (Int32.ofNat n1)), (0, .ref L)]) (st' := [.retAddr 75]) rfl ?_
        exact At.rt rfl rfl ⟨_, _, _, _, rfl, _, _, rfl, Or.inr (Or.inr (Or.inr rfl)), S2T.mono (S2.tx B1 (fun _ _ => hTnK (vk := 76) rfl rfl (ds := []) (by decide) (by decide))) (by omega) (by omega) (by omega) (by omega)⟩
      · refine At.go (q := xm237) rfl 2 (pc' := 82) (L' := [(1, .int (Int32.ofNat n1)), (0, .ref L)]) (st' := [.retAddr 89]) rfl ?_
        exact At.rt rfl rfl ⟨_, _, _, _, rfl, _, _, rfl, Or.inr (Or.inr (Or.inl rfl)), S2T.mono (S2.tx B1 (fun _ _ => hTnK (vk := 90) rfl rfl (ds := [32, 105, 102, 32, 108, 97, 98, 101, 108, 62, 48, 124, 107, 110, 111, 119, 110, 32, 118]) (by decide) (by decide))) (by omega) (by omega) (by omega) (by omega)⟩
    · refine At.nw (ci := 1) rfl ?_
      obtain ⟨hq2, eq2⟩ : ∃ h, h = hp1 ++ [.inr (1, xDF 1)] := ⟨_, rfl⟩
      refine At.hpe eq2 ?_
      refine At.go (q := xm237) rfl 1 (pc' := 48) (L' := [(1, .int (Int32.ofNat n1)), (0, .ref L)]) (st' := [.ref hp1.length, .ref hp1.length]) rfl ?_
      refine At.clm (as := [.ref hp1.length]) (rest := [.ref hp1.length]) rfl (by decide) rfl (Nat.le_of_ble_eq_true rfl) (Nat.le_of_ble_eq_true rfl) rfl (Nat.le_of_ble_eq_true rfl) (m_sbI (mv := 0) (by rw [eq2]; exact xa_eq)) (fun v hp2 c2 s2 hv => ?_)
      obtain ⟨rfl, hv1, hv2, hv3, hv4⟩ := hv
      have B2 := bs_new B1 eq2 hv1 hv2 hv3 hv4
      obtain ⟨fL2, gL2⟩ := bs_L B2
      obtain ⟨fB2, gB2⟩ := bs_b B2
      refine At.go (q := xm237) rfl 1 (pc' := 53) (L' := [(1, .int (Int32.ofNat n1)), (0, .ref L)]) (st' := [.retAddr 87, .ref hp1.length]) rfl ?_
      refine At.clm (as := [.ref hp1.length, .retAddr 87]) (rest := []) rfl (by decide) rfl (Nat.le_of_ble_eq_true rfl) (Nat.le_of_ble_eq_true rfl) (xrck_o (by decide) (by decide) gB2 (by decide)) (Nat.le_of_ble_eq_true rfl) (bs_app (Bst.k B2 (fun _ _ => hTnK (vk := 88) rfl rfl (ds := [32, 105, 102, 32, 118, 62]) (by decide) (by decide))) (by simp only [List.length_append, List.length_cons, List.length_nil]; omega)) (fun v hp3 c3 s3 hv => ?_)
      obtain ⟨rfl, B3⟩ := hv
      obtain ⟨fL3, gL3⟩ := bs_L B3
      obtain ⟨fB3, gB3⟩ := bs_b B3
      refine At.go (q := xm237) rfl 2 (pc' := 58) (L' := [(1, .int (Int32.ofNat n1)), (0, .ref L)]) (st' := [.int 4, .ref L, .ref hp1.length]) rfl ?_
      refine At.clm (as := [.ref L, .int 4]) (rest := [.ref hp1.length]) rfl (by decide) rfl (Nat.le_of_ble_eq_true rfl) (Nat.le_of_ble_eq_true rfl) (xrck_o (by decide) (by decide) gL3 (by decide)) (Nat.le_of_ble_eq_true rfl) (bs_draw (m9 := 4) B3 (by omega) hS (by decide) (by decide)) (fun v hp4 c4 s4 hv => ?_)
      obtain ⟨n4, hn4, rfl, B4⟩ := hv
      obtain ⟨fL4, gL4⟩ := bs_L B4
      obtain ⟨fB4, gB4⟩ := bs_b B4
      refine At.clm (as := [.ref hp1.length, .int (Int32.ofNat n4)]) (rest := []) rfl (by decide) rfl (Nat.le_of_ble_eq_true rfl) (Nat.le_of_ble_eq_true rfl) (xrck_o (by decide) (by decide) gB4 (by decide)) (Nat.le_of_ble_eq_true rfl) (bs_appD (d := n4) B4 (by omega) (by simp only [List.length_append, List.length_cons, List.length_nil]; omega)) (fun v hp5 c5 s5 hv => ?_)
      obtain ⟨rfl, B5⟩ := hv
      obtain ⟨fL5, gL5⟩ := bs_L B5
      obtain ⟨fB5, gB5⟩ := bs_b B5
      refine At.clm (as := [.ref hp1.length]) (rest := []) rfl (by decide) rfl (Nat.le_of_ble_eq_true rfl) (Nat.le_of_ble_eq_true rfl) (xrck_o (by decide) (by decide) gB5 (by decide)) (Nat.le_of_ble_eq_true rfl) (bs_toS B5) (fun v hp6 c6 s6 hv => ?_)
      obtain ⟨rfl, B6⟩ := hv
      refine At.go (q := xm237) rfl 1 (pc' := 82) (L' := [(1, .int (Int32.ofNat n1)), (0, .ref L)]) (st' := [.ref hp5.length]) rfl ?_
      exact At.rt rfl rfl ⟨_, _, _, _, rfl, _, _, rfl, Or.inr (Or.inl ⟨n4, hn4, rfl⟩), S2T.mono B6 (by omega) (by omega) (by omega) (by omega)⟩
  · refine At.nw (ci := 1) rfl ?_
    obtain ⟨hq2, eq2⟩ : ∃ h, h = hp1 ++ [.inr (1, xDF 1)] := ⟨_, rfl⟩
    refine At.hpe eq2 ?_
    refine At.go (q := xm237) rfl 1 (pc' := 16) (L' := [(1, .int (Int32.ofNat n1)), (0, .ref L)]) (st' := [.ref hp1.length, .ref hp1.length]) rfl ?_
    refine At.clm (as := [.ref hp1.length]) (rest := [.ref hp1.length]) rfl (by decide) rfl (Nat.le_of_ble_eq_true rfl) (Nat.le_of_ble_eq_true rfl) rfl (Nat.le_of_ble_eq_true rfl) (m_sbI (mv := 0) (by rw [eq2]; exact xa_eq)) (fun v hp2 c2 s2 hv => ?_)
    obtain ⟨rfl, hv1, hv2, hv3, hv4⟩ := hv
    have B2 := bs_new B1 eq2 hv1 hv2 hv3 hv4
    obtain ⟨fL2, gL2⟩ := bs_L B2
    obtain ⟨fB2, gB2⟩ := bs_b B2
    refine At.go (q := xm237) rfl 1 (pc' := 21) (L' := [(1, .int (Int32.ofNat n1)), (0, .ref L)]) (st' := [.retAddr 85, .ref hp1.length]) rfl ?_
    refine At.clm (as := [.ref hp1.length, .retAddr 85]) (rest := []) rfl (by decide) rfl (Nat.le_of_ble_eq_true rfl) (Nat.le_of_ble_eq_true rfl) (xrck_o (by decide) (by decide) gB2 (by decide)) (Nat.le_of_ble_eq_true rfl) (bs_app (Bst.k B2 (fun _ _ => hTnK (vk := 86) rfl rfl (ds := [32, 105, 102, 32, 107, 61]) (by decide) (by decide))) (by simp only [List.length_append, List.length_cons, List.length_nil]; omega)) (fun v hp3 c3 s3 hv => ?_)
    obtain ⟨rfl, B3⟩ := hv
    obtain ⟨fL3, gL3⟩ := bs_L B3
    obtain ⟨fB3, gB3⟩ := bs_b B3
    refine At.go (q := xm237) rfl 2 (pc' := 27) (L' := [(1, .int (Int32.ofNat n1)), (0, .ref L)]) (st' := [.int 6, .ref L, .ref hp1.length]) rfl ?_
    refine At.clm (as := [.ref L, .int 6]) (rest := [.ref hp1.length]) rfl (by decide) rfl (Nat.le_of_ble_eq_true rfl) (Nat.le_of_ble_eq_true rfl) (xrck_o (by decide) (by decide) gL3 (by decide)) (Nat.le_of_ble_eq_true rfl) (bs_draw (m9 := 6) B3 (by omega) hS (by decide) (by decide)) (fun v hp4 c4 s4 hv => ?_)
    obtain ⟨n4, hn4, rfl, B4⟩ := hv
    obtain ⟨fL4, gL4⟩ := bs_L B4
    obtain ⟨fB4, gB4⟩ := bs_b B4
    refine At.clm (as := [.ref hp1.length, .int (Int32.ofNat n4)]) (rest := []) rfl (by decide) rfl (Nat.le_of_ble_eq_true rfl) (Nat.le_of_ble_eq_true rfl) (xrck_o (by decide) (by decide) gB4 (by decide)) (Nat.le_of_ble_eq_true rfl) (bs_appD (d := n4) B4 (by omega) (by simp only [List.length_append, List.length_cons, List.length_nil]; omega)) (fun v hp5 c5 s5 hv => ?_)
    obtain ⟨rfl, B5⟩ := hv
    obtain ⟨fL5, gL5⟩ := bs_L B5
    obtain ⟨fB5, gB5⟩ := bs_b B5
    refine At.clm (as := [.ref hp1.length]) (rest := []) rfl (by decide) rfl (Nat.le_of_ble_eq_true rfl) (Nat.le_of_ble_eq_true rfl) (xrck_o (by decide) (by decide) gB5 (by decide)) (Nat.le_of_ble_eq_true rfl) (bs_toS B5) (fun v hp6 c6 s6 hv => ?_)
    obtain ⟨rfl, B6⟩ := hv
    refine At.go (q := xm237) rfl 1 (pc' := 82) (L' := [(1, .int (Int32.ofNat n1)), (0, .ref L)]) (st' := [.ref hp5.length]) rfl ?_
    exact At.rt rfl rfl ⟨_, _, _, _, rfl, _, _, rfl, Or.inl ⟨n4, hn4, rfl⟩, S2T.mono B6 (by omega) (by omega) (by omega) (by omega)⟩
