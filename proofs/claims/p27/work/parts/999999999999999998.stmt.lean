/-! the law's statement (by gst.py) -/
def StR (A B : Nat → Nat) (L la io : Nat) (h0 : List XC) (ow0 : Nat → Nat) (M N : HM) (lbs ops : List Int32) (top : Int32) (dt pc ps : Nat) (lw : Bool) : XO → Prop := fun o => ∃ v hp' c s, o = .inl (v, hp', c, s) ∧ ∃ t ds, v = some t ∧ TxOk lw ds ∧ S2T A B L la io h0 hp' ow0 M N lbs ops top (dt + 7) pc ps c s 60 9000 t ds
theorem st_96 {S : List Int32} {A B : Nat → Nat} {L la io kn n9 : Nat} {h0 hp : List XC} {ow0 : Nat → Nat} {M N : HM} {lbs ops : List Int32} {top : Int32} {dt pc ps nc ns : Nat} {lw : Bool} (B0 : S2 A B L la io h0 hp ow0 M N lbs ops top dt pc ps nc ns 0 0) (hd : dt + 7 ≤ 100000) (hS : S.length ≤ 1000) (hK : ∀ hp ow, hTn9 hp ow (.retAddr kn) [97 + n9]) (hn9 : n9 < 2) : At S 9 204 96 [(2, .retAddr kn), (0, .ref L), (1, .int (bI lw))] [] hp nc ns (StR A B L la io h0 ow0 M N lbs ops top dt pc ps lw) := by
  obtain ⟨fL0, gL0⟩ := s2_L B0
  refine At.go (q := xm204) rfl 2 (pc' := 98) (L' := [(2, .retAddr kn), (0, .ref L), (1, .int (bI lw))]) (st' := [.int 2, .ref L]) rfl ?_
  refine At.clm (as := [.ref L, .int 2]) (rest := []) rfl (by decide) rfl (Nat.le_of_ble_eq_true rfl) (Nat.le_of_ble_eq_true rfl) (xrck_o (by decide) (by decide) gL0 (by decide)) (Nat.le_of_ble_eq_true rfl) (s2_draw (m9 := 2) B0 (by omega) hS (by decide) (by decide)) (fun v hp1 c1 s1 hv => ?_)
  obtain ⟨n1, hn1, rfl, B1⟩ := hv
  obtain ⟨fL1, gL1⟩ := s2_L B1
  refine At.ic1 (tgt := 109) rfl rfl (fun h101 => ?_) (fun h101 => ?_)
  · refine At.go (q := xm204) rfl 1 (pc' := 111) (L' := [(2, .retAddr kn), (0, .ref L), (1, .int (bI lw))]) (st' := [.retAddr 57]) rfl ?_
    exact At.rt rfl rfl ⟨_, _, _, _, rfl, _, _, rfl, tq_tau, S2T.mono (S2.tx B1 (fun _ _ => hTnK (vk := 58) rfl rfl (ds := [116, 97, 98, 108, 101, 32, 97, 40, 107, 32, 107, 101, 121, 44, 118, 32, 117, 110, 105, 113, 41, 32, 105, 102, 32, 118, 60, 57]) (by decide) (by decide))) (by omega) (by omega) (by omega) (by omega)⟩
  · refine At.go (q := xm204) rfl 2 (pc' := 111) (L' := [(2, .retAddr kn), (0, .ref L), (1, .int (bI lw))]) (st' := [.retAddr 51]) rfl ?_
    exact At.rt rfl rfl ⟨_, _, _, _, rfl, _, _, rfl, tq_tan, S2T.mono (S2.tx B1 (fun _ _ => hTnK (vk := 52) rfl rfl (ds := [116, 97, 98, 108, 101, 32, 97, 40, 107, 32, 107, 101, 121, 44, 118, 32, 110, 117, 109, 41]) (by decide) (by decide))) (by omega) (by omega) (by omega) (by omega)⟩
theorem st_112 {S : List Int32} {A B : Nat → Nat} {L la io kn n9 : Nat} {h0 hp : List XC} {ow0 : Nat → Nat} {M N : HM} {lbs ops : List Int32} {top : Int32} {dt pc ps nc ns : Nat} {lw : Bool} (B0 : S2 A B L la io h0 hp ow0 M N lbs ops top dt pc ps nc ns 0 0) (hd : dt + 7 ≤ 100000) (hS : S.length ≤ 1000) (hK : ∀ hp ow, hTn9 hp ow (.retAddr kn) [97 + n9]) (hn9 : n9 < 2) : At S 9 204 112 [(2, .retAddr kn), (0, .ref L), (1, .int (bI lw))] [] hp nc ns (StR A B L la io h0 ow0 M N lbs ops top dt pc ps lw) := by
  obtain ⟨fL0, gL0⟩ := s2_L B0
  refine At.go (q := xm204) rfl 1 (pc' := 114) (L' := [(2, .retAddr kn), (0, .ref L), (1, .int (bI lw))]) (st' := [.retAddr 59]) rfl ?_
  exact At.rt rfl rfl ⟨_, _, _, _, rfl, _, _, rfl, tq_tb, S2T.mono (S2.tx B0 (fun _ _ => hTnK (vk := 60) rfl rfl (ds := [116, 97, 98, 108, 101, 32, 98, 40, 107, 32, 97, 117, 116, 111, 44, 114, 32, 114, 101, 102, 32, 97, 44, 118, 32, 110, 117, 109, 41]) (by decide) (by decide))) (by omega) (by omega) (by omega) (by omega)⟩
theorem st_115 {S : List Int32} {A B : Nat → Nat} {L la io kn n9 : Nat} {h0 hp : List XC} {ow0 : Nat → Nat} {M N : HM} {lbs ops : List Int32} {top : Int32} {dt pc ps nc ns : Nat} {lw : Bool} (B0 : S2 A B L la io h0 hp ow0 M N lbs ops top dt pc ps nc ns 0 0) (hd : dt + 7 ≤ 100000) (hS : S.length ≤ 1000) (hK : ∀ hp ow, hTn9 hp ow (.retAddr kn) [97 + n9]) (hn9 : n9 < 2) : At S 9 204 115 [(2, .retAddr kn), (0, .ref L), (1, .int (bI lw))] [] hp nc ns (StR A B L la io h0 ow0 M N lbs ops top dt pc ps lw) := by
  obtain ⟨fL0, gL0⟩ := s2_L B0
  refine At.go (q := xm204) rfl 2 (pc' := 117) (L' := [(2, .retAddr kn), (0, .ref L), (1, .int (bI lw))]) (st' := [.int 4, .ref L]) rfl ?_
  refine At.clm (as := [.ref L, .int 4]) (rest := []) rfl (by decide) rfl (Nat.le_of_ble_eq_true rfl) (Nat.le_of_ble_eq_true rfl) (xrck_o (by decide) (by decide) gL0 (by decide)) (Nat.le_of_ble_eq_true rfl) (s2_draw (m9 := 4) B0 (by omega) hS (by decide) (by decide)) (fun v hp1 c1 s1 hv => ?_)
  obtain ⟨n1, hn1, rfl, B1⟩ := hv
  obtain ⟨fL1, gL1⟩ := s2_L B1
  refine At.ic1 (tgt := 145) rfl rfl (fun h120 => ?_) (fun h120 => ?_)
  · refine At.nw (ci := 1) rfl ?_
    obtain ⟨hq2, eq2⟩ : ∃ h, h = hp1 ++ [.inr (1, xDF 1)] := ⟨_, rfl⟩
    refine At.hpe eq2 ?_
    refine At.go (q := xm204) rfl 1 (pc' := 149) (L' := [(2, .retAddr kn), (0, .ref L), (1, .int (bI lw))]) (st' := [.ref hp1.length, .ref hp1.length]) rfl ?_
    refine At.clm (as := [.ref hp1.length]) (rest := [.ref hp1.length]) rfl (by decide) rfl (Nat.le_of_ble_eq_true rfl) (Nat.le_of_ble_eq_true rfl) rfl (Nat.le_of_ble_eq_true rfl) (m_sbI (mv := 0) (by rw [eq2]; exact xa_eq)) (fun v hp2 c2 s2 hv => ?_)
    obtain ⟨rfl, hv1, hv2, hv3, hv4⟩ := hv
    have B2 := bs_new B1 eq2 hv1 hv2 hv3 hv4
    obtain ⟨fL2, gL2⟩ := bs_L B2
    obtain ⟨fB2, gB2⟩ := bs_b B2
    refine At.go (q := xm204) rfl 1 (pc' := 154) (L' := [(2, .retAddr kn), (0, .ref L), (1, .int (bI lw))]) (st' := [.retAddr 63, .ref hp1.length]) rfl ?_
    refine At.clm (as := [.ref hp1.length, .retAddr 63]) (rest := []) rfl (by decide) rfl (Nat.le_of_ble_eq_true rfl) (Nat.le_of_ble_eq_true rfl) (xrck_o (by decide) (by decide) gB2 (by decide)) (Nat.le_of_ble_eq_true rfl) (bs_app (Bst.k B2 (fun _ _ => hTnK (vk := 64) rfl rfl (ds := [103, 101, 116, 32, 99, 111, 117, 110, 116, 44, 115, 117, 109, 40, 118, 41, 32, 102, 114, 111, 109, 32]) (by decide) (by decide))) (by simp only [List.length_append, List.length_cons, List.length_nil]; omega)) (fun v hp3 c3 s3 hv => ?_)
    obtain ⟨rfl, B3⟩ := hv
    obtain ⟨fL3, gL3⟩ := bs_L B3
    obtain ⟨fB3, gB3⟩ := bs_b B3
    refine At.go (q := xm204) rfl 1 (pc' := 158) (L' := [(2, .retAddr kn), (0, .ref L), (1, .int (bI lw))]) (st' := [.retAddr kn, .ref hp1.length]) rfl ?_
    refine At.clm (as := [.ref hp1.length, .retAddr kn]) (rest := []) rfl (by decide) rfl (Nat.le_of_ble_eq_true rfl) (Nat.le_of_ble_eq_true rfl) (xrck_o (by decide) (by decide) gB3 (by decide)) (Nat.le_of_ble_eq_true rfl) (bs_app (Bst.k B3 hK) (by simp only [List.length_append, List.length_cons, List.length_nil]; omega)) (fun v hp4 c4 s4 hv => ?_)
    obtain ⟨rfl, B4⟩ := hv
    obtain ⟨fL4, gL4⟩ := bs_L B4
    obtain ⟨fB4, gB4⟩ := bs_b B4
    refine At.clm (as := [.ref hp1.length]) (rest := []) rfl (by decide) rfl (Nat.le_of_ble_eq_true rfl) (Nat.le_of_ble_eq_true rfl) (xrck_o (by decide) (by decide) gB4 (by decide)) (Nat.le_of_ble_eq_true rfl) (bs_toS B4) (fun v hp5 c5 s5 hv => ?_)
    obtain ⟨rfl, B5⟩ := hv
    exact At.rt rfl rfl ⟨_, _, _, _, rfl, _, _, rfl, (tq_gsum hn9), S2T.mono B5 (by omega) (by omega) (by omega) (by omega)⟩
  · refine At.nw (ci := 1) rfl ?_
    obtain ⟨hq2, eq2⟩ : ∃ h, h = hp1 ++ [.inr (1, xDF 1)] := ⟨_, rfl⟩
    refine At.hpe eq2 ?_
    refine At.go (q := xm204) rfl 1 (pc' := 127) (L' := [(2, .retAddr kn), (0, .ref L), (1, .int (bI lw))]) (st' := [.ref hp1.length, .ref hp1.length]) rfl ?_
    refine At.clm (as := [.ref hp1.length]) (rest := [.ref hp1.length]) rfl (by decide) rfl (Nat.le_of_ble_eq_true rfl) (Nat.le_of_ble_eq_true rfl) rfl (Nat.le_of_ble_eq_true rfl) (m_sbI (mv := 0) (by rw [eq2]; exact xa_eq)) (fun v hp2 c2 s2 hv => ?_)
    obtain ⟨rfl, hv1, hv2, hv3, hv4⟩ := hv
    have B2 := bs_new B1 eq2 hv1 hv2 hv3 hv4
    obtain ⟨fL2, gL2⟩ := bs_L B2
    obtain ⟨fB2, gB2⟩ := bs_b B2
    refine At.go (q := xm204) rfl 1 (pc' := 132) (L' := [(2, .retAddr kn), (0, .ref L), (1, .int (bI lw))]) (st' := [.retAddr 61, .ref hp1.length]) rfl ?_
    refine At.clm (as := [.ref hp1.length, .retAddr 61]) (rest := []) rfl (by decide) rfl (Nat.le_of_ble_eq_true rfl) (Nat.le_of_ble_eq_true rfl) (xrck_o (by decide) (by decide) gB2 (by decide)) (Nat.le_of_ble_eq_true rfl) (bs_app (Bst.k B2 (fun _ _ => hTnK (vk := 62) rfl rfl (ds := [100, 114, 111, 112, 32]) (by decide) (by decide))) (by simp only [List.length_append, List.length_cons, List.length_nil]; omega)) (fun v hp3 c3 s3 hv => ?_)
    obtain ⟨rfl, B3⟩ := hv
    obtain ⟨fL3, gL3⟩ := bs_L B3
    obtain ⟨fB3, gB3⟩ := bs_b B3
    refine At.go (q := xm204) rfl 1 (pc' := 136) (L' := [(2, .retAddr kn), (0, .ref L), (1, .int (bI lw))]) (st' := [.retAddr kn, .ref hp1.length]) rfl ?_
    refine At.clm (as := [.ref hp1.length, .retAddr kn]) (rest := []) rfl (by decide) rfl (Nat.le_of_ble_eq_true rfl) (Nat.le_of_ble_eq_true rfl) (xrck_o (by decide) (by decide) gB3 (by decide)) (Nat.le_of_ble_eq_true rfl) (bs_app (Bst.k B3 hK) (by simp only [List.length_append, List.length_cons, List.length_nil]; omega)) (fun v hp4 c4 s4 hv => ?_)
    obtain ⟨rfl, B4⟩ := hv
    obtain ⟨fL4, gL4⟩ := bs_L B4
    obtain ⟨fB4, gB4⟩ := bs_b B4
    refine At.clm (as := [.ref hp1.length]) (rest := []) rfl (by decide) rfl (Nat.le_of_ble_eq_true rfl) (Nat.le_of_ble_eq_true rfl) (xrck_o (by decide) (by decide) gB4 (by decide)) (Nat.le_of_ble_eq_true rfl) (bs_toS B4) (fun v hp5 c5 s5 hv => ?_)
    obtain ⟨rfl, B5⟩ := hv
    refine At.go (q := xm204) rfl 1 (pc' := 164) (L' := [(2, .retAddr kn), (0, .ref L), (1, .int (bI lw))]) (st' := [.ref hp4.length]) rfl ?_
    exact At.rt rfl rfl ⟨_, _, _, _, rfl, _, _, rfl, (tq_drop hn9), S2T.mono B5 (by omega) (by omega) (by omega) (by omega)⟩
theorem st_165 {S : List Int32} {A B : Nat → Nat} {L la io kn n9 : Nat} {h0 hp : List XC} {ow0 : Nat → Nat} {M N : HM} {lbs ops : List Int32} {top : Int32} {dt pc ps nc ns : Nat} {lw : Bool} (B0 : S2 A B L la io h0 hp ow0 M N lbs ops top dt pc ps nc ns 0 0) (hd : dt + 7 ≤ 100000) (hS : S.length ≤ 1000) (hK : ∀ hp ow, hTn9 hp ow (.retAddr kn) [97 + n9]) (hn9 : n9 < 2) : At S 9 204 165 [(2, .retAddr kn), (0, .ref L), (1, .int (bI lw))] [] hp nc ns (StR A B L la io h0 ow0 M N lbs ops top dt pc ps lw) := by
  obtain ⟨fL0, gL0⟩ := s2_L B0
  refine At.nw (ci := 1) rfl ?_
  obtain ⟨hq1, eq1⟩ : ∃ h, h = hp ++ [.inr (1, xDF 1)] := ⟨_, rfl⟩
  refine At.hpe eq1 ?_
  refine At.go (q := xm204) rfl 1 (pc' := 169) (L' := [(2, .retAddr kn), (0, .ref L), (1, .int (bI lw))]) (st' := [.ref hp.length, .ref hp.length]) rfl ?_
  refine At.clm (as := [.ref hp.length]) (rest := [.ref hp.length]) rfl (by decide) rfl (Nat.le_of_ble_eq_true rfl) (Nat.le_of_ble_eq_true rfl) rfl (Nat.le_of_ble_eq_true rfl) (m_sbI (mv := 0) (by rw [eq1]; exact xa_eq)) (fun v hp1 c1 s1 hv => ?_)
  obtain ⟨rfl, hv1, hv2, hv3, hv4⟩ := hv
  have B1 := bs_new B0 eq1 hv1 hv2 hv3 hv4
  obtain ⟨fL1, gL1⟩ := bs_L B1
  obtain ⟨fB1, gB1⟩ := bs_b B1
  refine At.go (q := xm204) rfl 1 (pc' := 174) (L' := [(2, .retAddr kn), (0, .ref L), (1, .int (bI lw))]) (st' := [.retAddr 65, .ref hp.length]) rfl ?_
  refine At.clm (as := [.ref hp.length, .retAddr 65]) (rest := []) rfl (by decide) rfl (Nat.le_of_ble_eq_true rfl) (Nat.le_of_ble_eq_true rfl) (xrck_o (by decide) (by decide) gB1 (by decide)) (Nat.le_of_ble_eq_true rfl) (bs_app (Bst.k B1 (fun _ _ => hTnK (vk := 66) rfl rfl (ds := [112, 117, 116, 32, 97, 40]) (by decide) (by decide))) (by simp only [List.length_append, List.length_cons, List.length_nil]; omega)) (fun v hp2 c2 s2 hv => ?_)
  obtain ⟨rfl, B2⟩ := hv
  obtain ⟨fL2, gL2⟩ := bs_L B2
  obtain ⟨fB2, gB2⟩ := bs_b B2
  refine At.go (q := xm204) rfl 2 (pc' := 180) (L' := [(2, .retAddr kn), (0, .ref L), (1, .int (bI lw))]) (st' := [.int 6, .ref L, .ref hp.length]) rfl ?_
  refine At.clm (as := [.ref L, .int 6]) (rest := [.ref hp.length]) rfl (by decide) rfl (Nat.le_of_ble_eq_true rfl) (Nat.le_of_ble_eq_true rfl) (xrck_o (by decide) (by decide) gL2 (by decide)) (Nat.le_of_ble_eq_true rfl) (bs_draw (m9 := 6) B2 (by omega) hS (by decide) (by decide)) (fun v hp3 c3 s3 hv => ?_)
  obtain ⟨n3, hn3, rfl, B3⟩ := hv
  obtain ⟨fL3, gL3⟩ := bs_L B3
  obtain ⟨fB3, gB3⟩ := bs_b B3
  refine At.clm (as := [.ref hp.length, .int (Int32.ofNat n3)]) (rest := []) rfl (by decide) rfl (Nat.le_of_ble_eq_true rfl) (Nat.le_of_ble_eq_true rfl) (xrck_o (by decide) (by decide) gB3 (by decide)) (Nat.le_of_ble_eq_true rfl) (bs_appD (d := n3) B3 (by omega) (by simp only [List.length_append, List.length_cons, List.length_nil]; omega)) (fun v hp4 c4 s4 hv => ?_)
  obtain ⟨rfl, B4⟩ := hv
  obtain ⟨fL4, gL4⟩ := bs_L B4
  obtain ⟨fB4, gB4⟩ := bs_b B4
  refine At.go (q := xm204) rfl 1 (pc' := 188) (L' := [(2, .retAddr kn), (0, .ref L), (1, .int (bI lw))]) (st' := [.retAddr 67, .ref hp.length]) rfl ?_
  refine At.clm (as := [.ref hp.length, .retAddr 67]) (rest := []) rfl (by decide) rfl (Nat.le_of_ble_eq_true rfl) (Nat.le_of_ble_eq_true rfl) (xrck_o (by decide) (by decide) gB4 (by decide)) (Nat.le_of_ble_eq_true rfl) (bs_app (Bst.k B4 (fun _ _ => hTnK (vk := 68) rfl rfl (ds := [44]) (by decide) (by decide))) (by simp only [List.length_append, List.length_cons, List.length_nil]; omega)) (fun v hp5 c5 s5 hv => ?_)
  obtain ⟨rfl, B5⟩ := hv
  obtain ⟨fL5, gL5⟩ := bs_L B5
  obtain ⟨fB5, gB5⟩ := bs_b B5
  refine At.go (q := xm204) rfl 1 (pc' := 192) (L' := [(2, .retAddr kn), (0, .ref L), (1, .int (bI lw))]) (st' := [.ref L, .ref hp.length]) rfl ?_
  refine At.clm (as := [.ref L]) (rest := [.ref hp.length]) rfl (by decide) rfl (Nat.le_of_ble_eq_true rfl) (Nat.le_of_ble_eq_true rfl) (xrck_o (by decide) (by decide) gL5 (by decide)) (Nat.le_of_ble_eq_true rfl) (bs_call B5 (fun hp ow pc ps W => m_num W (by omega) hS)) (fun v hp6 c6 s6 hv => ?_)
  obtain ⟨t6, ds6, rfl, P6, B6⟩ := hv
  have hl6 := num_len P6
  obtain ⟨fL6, gL6⟩ := bs_L B6.nb
  obtain ⟨fB6, gB6⟩ := bs_b B6.nb
  refine At.clm (as := [.ref hp.length, t6]) (rest := []) rfl (by decide) rfl (Nat.le_of_ble_eq_true rfl) (xs_bt B6) (xrck_o (by decide) (by decide) gB6 (by decide)) (Nat.le_of_ble_eq_true rfl) (bs_app B6 (by simp only [List.length_append, List.length_cons, List.length_nil]; omega)) (fun v hp7 c7 s7 hv => ?_)
  obtain ⟨rfl, B7⟩ := hv
  obtain ⟨fL7, gL7⟩ := bs_L B7
  obtain ⟨fB7, gB7⟩ := bs_b B7
  refine At.go (q := xm204) rfl 1 (pc' := 200) (L' := [(2, .retAddr kn), (0, .ref L), (1, .int (bI lw))]) (st' := [.retAddr 73, .ref hp.length]) rfl ?_
  refine At.clm (as := [.ref hp.length, .retAddr 73]) (rest := []) rfl (by decide) rfl (Nat.le_of_ble_eq_true rfl) (Nat.le_of_ble_eq_true rfl) (xrck_o (by decide) (by decide) gB7 (by decide)) (Nat.le_of_ble_eq_true rfl) (bs_app (Bst.k B7 (fun _ _ => hTnK (vk := 74) rfl rfl (ds := [41]) (by decide) (by decide))) (by simp only [List.length_append, List.length_cons, List.length_nil]; omega)) (fun v hp8 c8 s8 hv => ?_)
  obtain ⟨rfl, B8⟩ := hv
  obtain ⟨fL8, gL8⟩ := bs_L B8
  obtain ⟨fB8, gB8⟩ := bs_b B8
  refine At.clm (as := [.ref hp.length]) (rest := []) rfl (by decide) rfl (Nat.le_of_ble_eq_true rfl) (Nat.le_of_ble_eq_true rfl) (xrck_o (by decide) (by decide) gB8 (by decide)) (Nat.le_of_ble_eq_true rfl) (bs_toS B8) (fun v hp9 c9 s9 hv => ?_)
  obtain ⟨rfl, B9⟩ := hv
  exact At.rt rfl rfl ⟨_, _, _, _, rfl, _, _, rfl, (tq_pa hn3 P6), S2T.mono B9 (by omega) (by omega) (by omega) (by omega)⟩
theorem st_207 {S : List Int32} {A B : Nat → Nat} {L la io kn n9 : Nat} {h0 hp : List XC} {ow0 : Nat → Nat} {M N : HM} {lbs ops : List Int32} {top : Int32} {dt pc ps nc ns : Nat} {lw : Bool} (B0 : S2 A B L la io h0 hp ow0 M N lbs ops top dt pc ps nc ns 0 0) (hd : dt + 7 ≤ 100000) (hS : S.length ≤ 1000) (hK : ∀ hp ow, hTn9 hp ow (.retAddr kn) [97 + n9]) (hn9 : n9 < 2) : At S 9 204 207 [(2, .retAddr kn), (0, .ref L), (1, .int (bI lw))] [] hp nc ns (StR A B L la io h0 ow0 M N lbs ops top dt pc ps lw) := by
  obtain ⟨fL0, gL0⟩ := s2_L B0
  refine At.nw (ci := 1) rfl ?_
  obtain ⟨hq1, eq1⟩ : ∃ h, h = hp ++ [.inr (1, xDF 1)] := ⟨_, rfl⟩
  refine At.hpe eq1 ?_
  refine At.go (q := xm204) rfl 1 (pc' := 211) (L' := [(2, .retAddr kn), (0, .ref L), (1, .int (bI lw))]) (st' := [.ref hp.length, .ref hp.length]) rfl ?_
  refine At.clm (as := [.ref hp.length]) (rest := [.ref hp.length]) rfl (by decide) rfl (Nat.le_of_ble_eq_true rfl) (Nat.le_of_ble_eq_true rfl) rfl (Nat.le_of_ble_eq_true rfl) (m_sbI (mv := 0) (by rw [eq1]; exact xa_eq)) (fun v hp1 c1 s1 hv => ?_)
  obtain ⟨rfl, hv1, hv2, hv3, hv4⟩ := hv
  have B1 := bs_new B0 eq1 hv1 hv2 hv3 hv4
  obtain ⟨fL1, gL1⟩ := bs_L B1
  obtain ⟨fB1, gB1⟩ := bs_b B1
  refine At.go (q := xm204) rfl 1 (pc' := 216) (L' := [(2, .retAddr kn), (0, .ref L), (1, .int (bI lw))]) (st' := [.retAddr 77, .ref hp.length]) rfl ?_
  refine At.clm (as := [.ref hp.length, .retAddr 77]) (rest := []) rfl (by decide) rfl (Nat.le_of_ble_eq_true rfl) (Nat.le_of_ble_eq_true rfl) (xrck_o (by decide) (by decide) gB1 (by decide)) (Nat.le_of_ble_eq_true rfl) (bs_app (Bst.k B1 (fun _ _ => hTnK (vk := 78) rfl rfl (ds := [112, 117, 116, 32, 98, 40, 110, 101, 120, 116, 44]) (by decide) (by decide))) (by simp only [List.length_append, List.length_cons, List.length_nil]; omega)) (fun v hp2 c2 s2 hv => ?_)
  obtain ⟨rfl, B2⟩ := hv
  obtain ⟨fL2, gL2⟩ := bs_L B2
  obtain ⟨fB2, gB2⟩ := bs_b B2
  refine At.go (q := xm204) rfl 1 (pc' := 220) (L' := [(2, .retAddr kn), (0, .ref L), (1, .int (bI lw))]) (st' := [.ref L, .ref hp.length]) rfl ?_
  refine At.clm (as := [.ref L]) (rest := [.ref hp.length]) rfl (by decide) rfl (Nat.le_of_ble_eq_true rfl) (Nat.le_of_ble_eq_true rfl) (xrck_o (by decide) (by decide) gL2 (by decide)) (Nat.le_of_ble_eq_true rfl) (bs_call B2 (fun hp ow pc ps W => m_num W (by omega) hS)) (fun v hp3 c3 s3 hv => ?_)
  obtain ⟨t3, ds3, rfl, P3, B3⟩ := hv
  have hl3 := num_len P3
  obtain ⟨fL3, gL3⟩ := bs_L B3.nb
  obtain ⟨fB3, gB3⟩ := bs_b B3.nb
  refine At.clm (as := [.ref hp.length, t3]) (rest := []) rfl (by decide) rfl (Nat.le_of_ble_eq_true rfl) (xs_bt B3) (xrck_o (by decide) (by decide) gB3 (by decide)) (Nat.le_of_ble_eq_true rfl) (bs_app B3 (by simp only [List.length_append, List.length_cons, List.length_nil]; omega)) (fun v hp4 c4 s4 hv => ?_)
  obtain ⟨rfl, B4⟩ := hv
  obtain ⟨fL4, gL4⟩ := bs_L B4
  obtain ⟨fB4, gB4⟩ := bs_b B4
  refine At.go (q := xm204) rfl 1 (pc' := 228) (L' := [(2, .retAddr kn), (0, .ref L), (1, .int (bI lw))]) (st' := [.retAddr 67, .ref hp.length]) rfl ?_
  refine At.clm (as := [.ref hp.length, .retAddr 67]) (rest := []) rfl (by decide) rfl (Nat.le_of_ble_eq_true rfl) (Nat.le_of_ble_eq_true rfl) (xrck_o (by decide) (by decide) gB4 (by decide)) (Nat.le_of_ble_eq_true rfl) (bs_app (Bst.k B4 (fun _ _ => hTnK (vk := 68) rfl rfl (ds := [44]) (by decide) (by decide))) (by simp only [List.length_append, List.length_cons, List.length_nil]; omega)) (fun v hp5 c5 s5 hv => ?_)
  obtain ⟨rfl, B5⟩ := hv
  obtain ⟨fL5, gL5⟩ := bs_L B5
  obtain ⟨fB5, gB5⟩ := bs_b B5
  refine At.go (q := xm204) rfl 1 (pc' := 232) (L' := [(2, .retAddr kn), (0, .ref L), (1, .int (bI lw))]) (st' := [.ref L, .ref hp.length]) rfl ?_
  refine At.clm (as := [.ref L]) (rest := [.ref hp.length]) rfl (by decide) rfl (Nat.le_of_ble_eq_true rfl) (Nat.le_of_ble_eq_true rfl) (xrck_o (by decide) (by decide) gL5 (by decide)) (Nat.le_of_ble_eq_true rfl) (bs_call B5 (fun hp ow pc ps W => m_num W (by omega) hS)) (fun v hp6 c6 s6 hv => ?_)
  obtain ⟨t6, ds6, rfl, P6, B6⟩ := hv
  have hl6 := num_len P6
  obtain ⟨fL6, gL6⟩ := bs_L B6.nb
  obtain ⟨fB6, gB6⟩ := bs_b B6.nb
  refine At.clm (as := [.ref hp.length, t6]) (rest := []) rfl (by decide) rfl (Nat.le_of_ble_eq_true rfl) (xs_bt B6) (xrck_o (by decide) (by decide) gB6 (by decide)) (Nat.le_of_ble_eq_true rfl) (bs_app B6 (by simp only [List.length_append, List.length_cons, List.length_nil]; omega)) (fun v hp7 c7 s7 hv => ?_)
  obtain ⟨rfl, B7⟩ := hv
  obtain ⟨fL7, gL7⟩ := bs_L B7
  obtain ⟨fB7, gB7⟩ := bs_b B7
  refine At.go (q := xm204) rfl 1 (pc' := 240) (L' := [(2, .retAddr kn), (0, .ref L), (1, .int (bI lw))]) (st' := [.retAddr 73, .ref hp.length]) rfl ?_
  refine At.clm (as := [.ref hp.length, .retAddr 73]) (rest := []) rfl (by decide) rfl (Nat.le_of_ble_eq_true rfl) (Nat.le_of_ble_eq_true rfl) (xrck_o (by decide) (by decide) gB7 (by decide)) (Nat.le_of_ble_eq_true rfl) (bs_app (Bst.k B7 (fun _ _ => hTnK (vk := 74) rfl rfl (ds := [41]) (by decide) (by decide))) (by simp only [List.length_append, List.length_cons, List.length_nil]; omega)) (fun v hp8 c8 s8 hv => ?_)
  obtain ⟨rfl, B8⟩ := hv
  obtain ⟨fL8, gL8⟩ := bs_L B8
  obtain ⟨fB8, gB8⟩ := bs_b B8
  refine At.clm (as := [.ref hp.length]) (rest := []) rfl (by decide) rfl (Nat.le_of_ble_eq_true rfl) (Nat.le_of_ble_eq_true rfl) (xrck_o (by decide) (by decide) gB8 (by decide)) (Nat.le_of_ble_eq_true rfl) (bs_toS B8) (fun v hp9 c9 s9 hv => ?_)
  obtain ⟨rfl, B9⟩ := hv
  exact At.rt rfl rfl ⟨_, _, _, _, rfl, _, _, rfl, (tq_pb P3 P6), S2T.mono B9 (by omega) (by omega) (by omega) (by omega)⟩
theorem st_247 {S : List Int32} {A B : Nat → Nat} {L la io kn n9 : Nat} {h0 hp : List XC} {ow0 : Nat → Nat} {M N : HM} {lbs ops : List Int32} {top : Int32} {dt pc ps nc ns : Nat} {lw : Bool} (B0 : S2 A B L la io h0 hp ow0 M N lbs ops top dt pc ps nc ns 0 0) (hd : dt + 7 ≤ 100000) (hS : S.length ≤ 1000) (hK : ∀ hp ow, hTn9 hp ow (.retAddr kn) [97 + n9]) (hn9 : n9 < 2) : At S 9 204 247 [(2, .retAddr kn), (0, .ref L), (1, .int (bI lw))] [] hp nc ns (StR A B L la io h0 ow0 M N lbs ops top dt pc ps lw) := by
  obtain ⟨fL0, gL0⟩ := s2_L B0
  refine At.nw (ci := 1) rfl ?_
  obtain ⟨hq1, eq1⟩ : ∃ h, h = hp ++ [.inr (1, xDF 1)] := ⟨_, rfl⟩
  refine At.hpe eq1 ?_
  refine At.go (q := xm204) rfl 1 (pc' := 251) (L' := [(2, .retAddr kn), (0, .ref L), (1, .int (bI lw))]) (st' := [.ref hp.length, .ref hp.length]) rfl ?_
  refine At.clm (as := [.ref hp.length]) (rest := [.ref hp.length]) rfl (by decide) rfl (Nat.le_of_ble_eq_true rfl) (Nat.le_of_ble_eq_true rfl) rfl (Nat.le_of_ble_eq_true rfl) (m_sbI (mv := 0) (by rw [eq1]; exact xa_eq)) (fun v hp1 c1 s1 hv => ?_)
  obtain ⟨rfl, hv1, hv2, hv3, hv4⟩ := hv
  have B1 := bs_new B0 eq1 hv1 hv2 hv3 hv4
  obtain ⟨fL1, gL1⟩ := bs_L B1
  obtain ⟨fB1, gB1⟩ := bs_b B1
  refine At.go (q := xm204) rfl 1 (pc' := 256) (L' := [(2, .retAddr kn), (0, .ref L), (1, .int (bI lw))]) (st' := [.retAddr 79, .ref hp.length]) rfl ?_
  refine At.clm (as := [.ref hp.length, .retAddr 79]) (rest := []) rfl (by decide) rfl (Nat.le_of_ble_eq_true rfl) (Nat.le_of_ble_eq_true rfl) (xrck_o (by decide) (by decide) gB1 (by decide)) (Nat.le_of_ble_eq_true rfl) (bs_app (Bst.k B1 (fun _ _ => hTnK (vk := 80) rfl rfl (ds := [115, 101, 116, 32]) (by decide) (by decide))) (by simp only [List.length_append, List.length_cons, List.length_nil]; omega)) (fun v hp2 c2 s2 hv => ?_)
  obtain ⟨rfl, B2⟩ := hv
  obtain ⟨fL2, gL2⟩ := bs_L B2
  obtain ⟨fB2, gB2⟩ := bs_b B2
  refine At.go (q := xm204) rfl 1 (pc' := 260) (L' := [(2, .retAddr kn), (0, .ref L), (1, .int (bI lw))]) (st' := [.retAddr kn, .ref hp.length]) rfl ?_
  refine At.clm (as := [.ref hp.length, .retAddr kn]) (rest := []) rfl (by decide) rfl (Nat.le_of_ble_eq_true rfl) (Nat.le_of_ble_eq_true rfl) (xrck_o (by decide) (by decide) gB2 (by decide)) (Nat.le_of_ble_eq_true rfl) (bs_app (Bst.k B2 hK) (by simp only [List.length_append, List.length_cons, List.length_nil]; omega)) (fun v hp3 c3 s3 hv => ?_)
  obtain ⟨rfl, B3⟩ := hv
  obtain ⟨fL3, gL3⟩ := bs_L B3
  obtain ⟨fB3, gB3⟩ := bs_b B3
  refine At.go (q := xm204) rfl 1 (pc' := 265) (L' := [(2, .retAddr kn), (0, .ref L), (1, .int (bI lw))]) (st' := [.retAddr 81, .ref hp.length]) rfl ?_
  refine At.clm (as := [.ref hp.length, .retAddr 81]) (rest := []) rfl (by decide) rfl (Nat.le_of_ble_eq_true rfl) (Nat.le_of_ble_eq_true rfl) (xrck_o (by decide) (by decide) gB3 (by decide)) (Nat.le_of_ble_eq_true rfl) (bs_app (Bst.k B3 (fun _ _ => hTnK (vk := 82) rfl rfl (ds := [32, 118, 61]) (by decide) (by decide))) (by simp only [List.length_append, List.length_cons, List.length_nil]; omega)) (fun v hp4 c4 s4 hv => ?_)
  obtain ⟨rfl, B4⟩ := hv
  obtain ⟨fL4, gL4⟩ := bs_L B4
  obtain ⟨fB4, gB4⟩ := bs_b B4
  refine At.go (q := xm204) rfl 2 (pc' := 270) (L' := [(2, .retAddr kn), (0, .ref L), (1, .int (bI lw))]) (st' := [.int 2, .ref L, .ref hp.length]) rfl ?_
  refine At.clm (as := [.ref L, .int 2]) (rest := [.ref hp.length]) rfl (by decide) rfl (Nat.le_of_ble_eq_true rfl) (Nat.le_of_ble_eq_true rfl) (xrck_o (by decide) (by decide) gL4 (by decide)) (Nat.le_of_ble_eq_true rfl) (bs_draw (m9 := 2) B4 (by omega) hS (by decide) (by decide)) (fun v hp5 c5 s5 hv => ?_)
  obtain ⟨n5, hn5, rfl, B5⟩ := hv
  obtain ⟨fL5, gL5⟩ := bs_L B5
  obtain ⟨fB5, gB5⟩ := bs_b B5
  refine At.ic1 (tgt := 281) rfl rfl (fun h273 => ?_) (fun h273 => ?_)
  · refine At.go (q := xm204) rfl 1 (pc' := 283) (L' := [(2, .retAddr kn), (0, .ref L), (1, .int (bI lw))]) (st' := [.retAddr 75, .ref hp.length]) rfl ?_
    refine At.clm (as := [.ref hp.length, .retAddr 75]) (rest := []) rfl (by decide) rfl (Nat.le_of_ble_eq_true rfl) (Nat.le_of_ble_eq_true rfl) (xrck_o (by decide) (by decide) gB5 (by decide)) (Nat.le_of_ble_eq_true rfl) (bs_app (Bst.k B5 (fun _ _ => hTnK (vk := 76) rfl rfl (ds := []) (by decide) (by decide))) (by simp only [List.length_append, List.length_cons, List.length_nil]; omega)) (fun v hp6 c6 s6 hv => ?_)
    obtain ⟨rfl, B6⟩ := hv
    obtain ⟨fL6, gL6⟩ := bs_L B6
    obtain ⟨fB6, gB6⟩ := bs_b B6
    refine At.go (q := xm204) rfl 1 (pc' := 287) (L' := [(2, .retAddr kn), (0, .ref L), (1, .int (bI lw))]) (st' := [.ref L, .ref hp.length]) rfl ?_
    refine At.clm (as := [.ref L]) (rest := [.ref hp.length]) rfl (by decide) rfl (Nat.le_of_ble_eq_true rfl) (Nat.le_of_ble_eq_true rfl) (xrck_o (by decide) (by decide) gL6 (by decide)) (Nat.le_of_ble_eq_true rfl) (bs_call B6 (fun hp ow pc ps W => m_num W (by omega) hS)) (fun v hp7 c7 s7 hv => ?_)
    obtain ⟨t7, ds7, rfl, P7, B7⟩ := hv
    have hl7 := num_len P7
    obtain ⟨fL7, gL7⟩ := bs_L B7.nb
    obtain ⟨fB7, gB7⟩ := bs_b B7.nb
    refine At.clm (as := [.ref hp.length, t7]) (rest := []) rfl (by decide) rfl (Nat.le_of_ble_eq_true rfl) (xs_bt B7) (xrck_o (by decide) (by decide) gB7 (by decide)) (Nat.le_of_ble_eq_true rfl) (bs_app B7 (by simp only [List.length_append, List.length_cons, List.length_nil]; omega)) (fun v hp8 c8 s8 hv => ?_)
    obtain ⟨rfl, B8⟩ := hv
    obtain ⟨fL8, gL8⟩ := bs_L B8
    obtain ⟨fB8, gB8⟩ := bs_b B8
    refine At.go (q := xm204) rfl 1 (pc' := 294) (L' := [(2, .retAddr kn), (0, .ref L), (1, .int (bI lw))]) (st' := [.ref L, .ref hp.length]) rfl ?_
    refine At.clm (as := [.ref L]) (rest := [.ref hp.length]) rfl (by decide) rfl (Nat.le_of_ble_eq_true rfl) (Nat.le_of_ble_eq_true rfl) (xrck_o (by decide) (by decide) gL8 (by decide)) (Nat.le_of_ble_eq_true rfl) (bs_call B8 (fun hp ow pc ps W => m_cond W (by omega) hS)) (fun v hp9 c9 s9 hv => ?_)
    obtain ⟨t9, ds9, rfl, P9, B9⟩ := hv
    have hl9 := con_len P9
    obtain ⟨fL9, gL9⟩ := bs_L B9.nb
    obtain ⟨fB9, gB9⟩ := bs_b B9.nb
    refine At.clm (as := [.ref hp.length, t9]) (rest := []) rfl (by decide) rfl (Nat.le_of_ble_eq_true rfl) (xs_bt B9) (xrck_o (by decide) (by decide) gB9 (by decide)) (Nat.le_of_ble_eq_true rfl) (bs_app B9 (by simp only [List.length_append, List.length_cons, List.length_nil]; omega)) (fun v hp10 c10 s10 hv => ?_)
    obtain ⟨rfl, B10⟩ := hv
    obtain ⟨fL10, gL10⟩ := bs_L B10
    obtain ⟨fB10, gB10⟩ := bs_b B10
    refine At.clm (as := [.ref hp.length]) (rest := []) rfl (by decide) rfl (Nat.le_of_ble_eq_true rfl) (Nat.le_of_ble_eq_true rfl) (xrck_o (by decide) (by decide) gB10 (by decide)) (Nat.le_of_ble_eq_true rfl) (bs_toS B10) (fun v hp11 c11 s11 hv => ?_)
    obtain ⟨rfl, B11⟩ := hv
    exact At.rt rfl rfl ⟨_, _, _, _, rfl, _, _, rfl, (tq_s0 hn9 P7 P9), S2T.mono B11 (by omega) (by omega) (by omega) (by omega)⟩
  · refine At.go (q := xm204) rfl 2 (pc' := 283) (L' := [(2, .retAddr kn), (0, .ref L), (1, .int (bI lw))]) (st' := [.retAddr 83, .ref hp.length]) rfl ?_
    refine At.clm (as := [.ref hp.length, .retAddr 83]) (rest := []) rfl (by decide) rfl (Nat.le_of_ble_eq_true rfl) (Nat.le_of_ble_eq_true rfl) (xrck_o (by decide) (by decide) gB5 (by decide)) (Nat.le_of_ble_eq_true rfl) (bs_app (Bst.k B5 (fun _ _ => hTnK (vk := 84) rfl rfl (ds := [118, 43]) (by decide) (by decide))) (by simp only [List.length_append, List.length_cons, List.length_nil]; omega)) (fun v hp6 c6 s6 hv => ?_)
    obtain ⟨rfl, B6⟩ := hv
    obtain ⟨fL6, gL6⟩ := bs_L B6
    obtain ⟨fB6, gB6⟩ := bs_b B6
    refine At.go (q := xm204) rfl 1 (pc' := 287) (L' := [(2, .retAddr kn), (0, .ref L), (1, .int (bI lw))]) (st' := [.ref L, .ref hp.length]) rfl ?_
    refine At.clm (as := [.ref L]) (rest := [.ref hp.length]) rfl (by decide) rfl (Nat.le_of_ble_eq_true rfl) (Nat.le_of_ble_eq_true rfl) (xrck_o (by decide) (by decide) gL6 (by decide)) (Nat.le_of_ble_eq_true rfl) (bs_call B6 (fun hp ow pc ps W => m_num W (by omega) hS)) (fun v hp7 c7 s7 hv => ?_)
    obtain ⟨t7, ds7, rfl, P7, B7⟩ := hv
    have hl7 := num_len P7
    obtain ⟨fL7, gL7⟩ := bs_L B7.nb
    obtain ⟨fB7, gB7⟩ := bs_b B7.nb
    refine At.clm (as := [.ref hp.length, t7]) (rest := []) rfl (by decide) rfl (Nat.le_of_ble_eq_true rfl) (xs_bt B7) (xrck_o (by decide) (by decide) gB7 (by decide)) (Nat.le_of_ble_eq_true rfl) (bs_app B7 (by simp only [List.length_append, List.length_cons, List.length_nil]; omega)) (fun v hp8 c8 s8 hv => ?_)
    obtain ⟨rfl, B8⟩ := hv
    obtain ⟨fL8, gL8⟩ := bs_L B8
    obtain ⟨fB8, gB8⟩ := bs_b B8
    refine At.go (q := xm204) rfl 1 (pc' := 294) (L' := [(2, .retAddr kn), (0, .ref L), (1, .int (bI lw))]) (st' := [.ref L, .ref hp.length]) rfl ?_
    refine At.clm (as := [.ref L]) (rest := [.ref hp.length]) rfl (by decide) rfl (Nat.le_of_ble_eq_true rfl) (Nat.le_of_ble_eq_true rfl) (xrck_o (by decide) (by decide) gL8 (by decide)) (Nat.le_of_ble_eq_true rfl) (bs_call B8 (fun hp ow pc ps W => m_cond W (by omega) hS)) (fun v hp9 c9 s9 hv => ?_)
    obtain ⟨t9, ds9, rfl, P9, B9⟩ := hv
    have hl9 := con_len P9
    obtain ⟨fL9, gL9⟩ := bs_L B9.nb
    obtain ⟨fB9, gB9⟩ := bs_b B9.nb
    refine At.clm (as := [.ref hp.length, t9]) (rest := []) rfl (by decide) rfl (Nat.le_of_ble_eq_true rfl) (xs_bt B9) (xrck_o (by decide) (by decide) gB9 (by decide)) (Nat.le_of_ble_eq_true rfl) (bs_app B9 (by simp only [List.length_append, List.length_cons, List.length_nil]; omega)) (fun v hp10 c10 s10 hv => ?_)
    obtain ⟨rfl, B10⟩ := hv
    obtain ⟨fL10, gL10⟩ := bs_L B10
    obtain ⟨fB10, gB10⟩ := bs_b B10
    refine At.clm (as := [.ref hp.length]) (rest := []) rfl (by decide) rfl (Nat.le_of_ble_eq_true rfl) (Nat.le_of_ble_eq_true rfl) (xrck_o (by decide) (by decide) gB10 (by decide)) (Nat.le_of_ble_eq_true rfl) (bs_toS B10) (fun v hp11 c11 s11 hv => ?_)
    obtain ⟨rfl, B11⟩ := hv
    exact At.rt rfl rfl ⟨_, _, _, _, rfl, _, _, rfl, (tq_s1 hn9 P7 P9), S2T.mono B11 (by omega) (by omega) (by omega) (by omega)⟩
theorem st_304 {S : List Int32} {A B : Nat → Nat} {L la io kn n9 : Nat} {h0 hp : List XC} {ow0 : Nat → Nat} {M N : HM} {lbs ops : List Int32} {top : Int32} {dt pc ps nc ns : Nat} {lw : Bool} (B0 : S2 A B L la io h0 hp ow0 M N lbs ops top dt pc ps nc ns 0 0) (hd : dt + 7 ≤ 100000) (hS : S.length ≤ 1000) (hK : ∀ hp ow, hTn9 hp ow (.retAddr kn) [97 + n9]) (hn9 : n9 < 2) : At S 9 204 304 [(2, .retAddr kn), (0, .ref L), (1, .int (bI lw))] [] hp nc ns (StR A B L la io h0 ow0 M N lbs ops top dt pc ps lw) := by
  obtain ⟨fL0, gL0⟩ := s2_L B0
  refine At.nw (ci := 1) rfl ?_
  obtain ⟨hq1, eq1⟩ : ∃ h, h = hp ++ [.inr (1, xDF 1)] := ⟨_, rfl⟩
  refine At.hpe eq1 ?_
  refine At.go (q := xm204) rfl 1 (pc' := 308) (L' := [(2, .retAddr kn), (0, .ref L), (1, .int (bI lw))]) (st' := [.ref hp.length, .ref hp.length]) rfl ?_
  refine At.clm (as := [.ref hp.length]) (rest := [.ref hp.length]) rfl (by decide) rfl (Nat.le_of_ble_eq_true rfl) (Nat.le_of_ble_eq_true rfl) rfl (Nat.le_of_ble_eq_true rfl) (m_sbI (mv := 0) (by rw [eq1]; exact xa_eq)) (fun v hp1 c1 s1 hv => ?_)
  obtain ⟨rfl, hv1, hv2, hv3, hv4⟩ := hv
  have B1 := bs_new B0 eq1 hv1 hv2 hv3 hv4
  obtain ⟨fL1, gL1⟩ := bs_L B1
  obtain ⟨fB1, gB1⟩ := bs_b B1
  refine At.go (q := xm204) rfl 1 (pc' := 313) (L' := [(2, .retAddr kn), (0, .ref L), (1, .int (bI lw))]) (st' := [.retAddr 91, .ref hp.length]) rfl ?_
  refine At.clm (as := [.ref hp.length, .retAddr 91]) (rest := []) rfl (by decide) rfl (Nat.le_of_ble_eq_true rfl) (Nat.le_of_ble_eq_true rfl) (xrck_o (by decide) (by decide) gB1 (by decide)) (Nat.le_of_ble_eq_true rfl) (bs_app (Bst.k B1 (fun _ _ => hTnK (vk := 92) rfl rfl (ds := [99, 117, 116, 32]) (by decide) (by decide))) (by simp only [List.length_append, List.length_cons, List.length_nil]; omega)) (fun v hp2 c2 s2 hv => ?_)
  obtain ⟨rfl, B2⟩ := hv
  obtain ⟨fL2, gL2⟩ := bs_L B2
  obtain ⟨fB2, gB2⟩ := bs_b B2
  refine At.go (q := xm204) rfl 1 (pc' := 317) (L' := [(2, .retAddr kn), (0, .ref L), (1, .int (bI lw))]) (st' := [.retAddr kn, .ref hp.length]) rfl ?_
  refine At.clm (as := [.ref hp.length, .retAddr kn]) (rest := []) rfl (by decide) rfl (Nat.le_of_ble_eq_true rfl) (Nat.le_of_ble_eq_true rfl) (xrck_o (by decide) (by decide) gB2 (by decide)) (Nat.le_of_ble_eq_true rfl) (bs_app (Bst.k B2 hK) (by simp only [List.length_append, List.length_cons, List.length_nil]; omega)) (fun v hp3 c3 s3 hv => ?_)
  obtain ⟨rfl, B3⟩ := hv
  obtain ⟨fL3, gL3⟩ := bs_L B3
  obtain ⟨fB3, gB3⟩ := bs_b B3
  refine At.go (q := xm204) rfl 1 (pc' := 321) (L' := [(2, .retAddr kn), (0, .ref L), (1, .int (bI lw))]) (st' := [.ref L, .ref hp.length]) rfl ?_
  refine At.clm (as := [.ref L]) (rest := [.ref hp.length]) rfl (by decide) rfl (Nat.le_of_ble_eq_true rfl) (Nat.le_of_ble_eq_true rfl) (xrck_o (by decide) (by decide) gL3 (by decide)) (Nat.le_of_ble_eq_true rfl) (bs_call B3 (fun hp ow pc ps W => m_cond W (by omega) hS)) (fun v hp4 c4 s4 hv => ?_)
  obtain ⟨t4, ds4, rfl, P4, B4⟩ := hv
  have hl4 := con_len P4
  obtain ⟨fL4, gL4⟩ := bs_L B4.nb
  obtain ⟨fB4, gB4⟩ := bs_b B4.nb
  refine At.clm (as := [.ref hp.length, t4]) (rest := []) rfl (by decide) rfl (Nat.le_of_ble_eq_true rfl) (xs_bt B4) (xrck_o (by decide) (by decide) gB4 (by decide)) (Nat.le_of_ble_eq_true rfl) (bs_app B4 (by simp only [List.length_append, List.length_cons, List.length_nil]; omega)) (fun v hp5 c5 s5 hv => ?_)
  obtain ⟨rfl, B5⟩ := hv
  obtain ⟨fL5, gL5⟩ := bs_L B5
  obtain ⟨fB5, gB5⟩ := bs_b B5
  refine At.clm (as := [.ref hp.length]) (rest := []) rfl (by decide) rfl (Nat.le_of_ble_eq_true rfl) (Nat.le_of_ble_eq_true rfl) (xrck_o (by decide) (by decide) gB5 (by decide)) (Nat.le_of_ble_eq_true rfl) (bs_toS B5) (fun v hp6 c6 s6 hv => ?_)
  obtain ⟨rfl, B6⟩ := hv
  exact At.rt rfl rfl ⟨_, _, _, _, rfl, _, _, rfl, (tq_c hn9 P4), S2T.mono B6 (by omega) (by omega) (by omega) (by omega)⟩
theorem st_331 {S : List Int32} {A B : Nat → Nat} {L la io kn n9 : Nat} {h0 hp : List XC} {ow0 : Nat → Nat} {M N : HM} {lbs ops : List Int32} {top : Int32} {dt pc ps nc ns : Nat} {lw : Bool} (B0 : S2 A B L la io h0 hp ow0 M N lbs ops top dt pc ps nc ns 0 0) (hd : dt + 7 ≤ 100000) (hS : S.length ≤ 1000) (hK : ∀ hp ow, hTn9 hp ow (.retAddr kn) [97 + n9]) (hn9 : n9 < 2) : At S 9 204 331 [(2, .retAddr kn), (0, .ref L), (1, .int (bI lw))] [] hp nc ns (StR A B L la io h0 ow0 M N lbs ops top dt pc ps lw) := by
  obtain ⟨fL0, gL0⟩ := s2_L B0
  refine At.nw (ci := 1) rfl ?_
  obtain ⟨hq1, eq1⟩ : ∃ h, h = hp ++ [.inr (1, xDF 1)] := ⟨_, rfl⟩
  refine At.hpe eq1 ?_
  refine At.go (q := xm204) rfl 1 (pc' := 335) (L' := [(2, .retAddr kn), (0, .ref L), (1, .int (bI lw))]) (st' := [.ref hp.length, .ref hp.length]) rfl ?_
  refine At.clm (as := [.ref hp.length]) (rest := [.ref hp.length]) rfl (by decide) rfl (Nat.le_of_ble_eq_true rfl) (Nat.le_of_ble_eq_true rfl) rfl (Nat.le_of_ble_eq_true rfl) (m_sbI (mv := 0) (by rw [eq1]; exact xa_eq)) (fun v hp1 c1 s1 hv => ?_)
  obtain ⟨rfl, hv1, hv2, hv3, hv4⟩ := hv
  have B1 := bs_new B0 eq1 hv1 hv2 hv3 hv4
  obtain ⟨fL1, gL1⟩ := bs_L B1
  obtain ⟨fB1, gB1⟩ := bs_b B1
  refine At.go (q := xm204) rfl 1 (pc' := 340) (L' := [(2, .retAddr kn), (0, .ref L), (1, .int (bI lw))]) (st' := [.retAddr 93, .ref hp.length]) rfl ?_
  refine At.clm (as := [.ref hp.length, .retAddr 93]) (rest := []) rfl (by decide) rfl (Nat.le_of_ble_eq_true rfl) (Nat.le_of_ble_eq_true rfl) (xrck_o (by decide) (by decide) gB1 (by decide)) (Nat.le_of_ble_eq_true rfl) (bs_app (Bst.k B1 (fun _ _ => hTnK (vk := 94) rfl rfl (ds := [103, 101, 116, 32, 97, 108, 108, 32, 102, 114, 111, 109, 32]) (by decide) (by decide))) (by simp only [List.length_append, List.length_cons, List.length_nil]; omega)) (fun v hp2 c2 s2 hv => ?_)
  obtain ⟨rfl, B2⟩ := hv
  obtain ⟨fL2, gL2⟩ := bs_L B2
  obtain ⟨fB2, gB2⟩ := bs_b B2
  refine At.go (q := xm204) rfl 1 (pc' := 344) (L' := [(2, .retAddr kn), (0, .ref L), (1, .int (bI lw))]) (st' := [.retAddr kn, .ref hp.length]) rfl ?_
  refine At.clm (as := [.ref hp.length, .retAddr kn]) (rest := []) rfl (by decide) rfl (Nat.le_of_ble_eq_true rfl) (Nat.le_of_ble_eq_true rfl) (xrck_o (by decide) (by decide) gB2 (by decide)) (Nat.le_of_ble_eq_true rfl) (bs_app (Bst.k B2 hK) (by simp only [List.length_append, List.length_cons, List.length_nil]; omega)) (fun v hp3 c3 s3 hv => ?_)
  obtain ⟨rfl, B3⟩ := hv
  obtain ⟨fL3, gL3⟩ := bs_L B3
  obtain ⟨fB3, gB3⟩ := bs_b B3
  refine At.go (q := xm204) rfl 1 (pc' := 348) (L' := [(2, .retAddr kn), (0, .ref L), (1, .int (bI lw))]) (st' := [.ref L, .ref hp.length]) rfl ?_
  refine At.clm (as := [.ref L]) (rest := [.ref hp.length]) rfl (by decide) rfl (Nat.le_of_ble_eq_true rfl) (Nat.le_of_ble_eq_true rfl) (xrck_o (by decide) (by decide) gL3 (by decide)) (Nat.le_of_ble_eq_true rfl) (bs_call B3 (fun hp ow pc ps W => m_cond W (by omega) hS)) (fun v hp4 c4 s4 hv => ?_)
  obtain ⟨t4, ds4, rfl, P4, B4⟩ := hv
  have hl4 := con_len P4
  obtain ⟨fL4, gL4⟩ := bs_L B4.nb
  obtain ⟨fB4, gB4⟩ := bs_b B4.nb
  refine At.clm (as := [.ref hp.length, t4]) (rest := []) rfl (by decide) rfl (Nat.le_of_ble_eq_true rfl) (xs_bt B4) (xrck_o (by decide) (by decide) gB4 (by decide)) (Nat.le_of_ble_eq_true rfl) (bs_app B4 (by simp only [List.length_append, List.length_cons, List.length_nil]; omega)) (fun v hp5 c5 s5 hv => ?_)
  obtain ⟨rfl, B5⟩ := hv
  obtain ⟨fL5, gL5⟩ := bs_L B5
  obtain ⟨fB5, gB5⟩ := bs_b B5
  refine At.go (q := xm204) rfl 2 (pc' := 356) (L' := [(2, .retAddr kn), (0, .ref L), (1, .int (bI lw))]) (st' := [.int 2, .ref L, .ref hp.length]) rfl ?_
  refine At.clm (as := [.ref L, .int 2]) (rest := [.ref hp.length]) rfl (by decide) rfl (Nat.le_of_ble_eq_true rfl) (Nat.le_of_ble_eq_true rfl) (xrck_o (by decide) (by decide) gL5 (by decide)) (Nat.le_of_ble_eq_true rfl) (bs_draw (m9 := 2) B5 (by omega) hS (by decide) (by decide)) (fun v hp6 c6 s6 hv => ?_)
  obtain ⟨n6, hn6, rfl, B6⟩ := hv
  obtain ⟨fL6, gL6⟩ := bs_L B6
  obtain ⟨fB6, gB6⟩ := bs_b B6
  refine At.ic1 (tgt := 367) rfl rfl (fun h359 => ?_) (fun h359 => ?_)
  · refine At.go (q := xm204) rfl 1 (pc' := 369) (L' := [(2, .retAddr kn), (0, .ref L), (1, .int (bI lw))]) (st' := [.retAddr 75, .ref hp.length]) rfl ?_
    refine At.clm (as := [.ref hp.length, .retAddr 75]) (rest := []) rfl (by decide) rfl (Nat.le_of_ble_eq_true rfl) (Nat.le_of_ble_eq_true rfl) (xrck_o (by decide) (by decide) gB6 (by decide)) (Nat.le_of_ble_eq_true rfl) (bs_app (Bst.k B6 (fun _ _ => hTnK (vk := 76) rfl rfl (ds := []) (by decide) (by decide))) (by simp only [List.length_append, List.length_cons, List.length_nil]; omega)) (fun v hp7 c7 s7 hv => ?_)
    obtain ⟨rfl, B7⟩ := hv
    obtain ⟨fL7, gL7⟩ := bs_L B7
    obtain ⟨fB7, gB7⟩ := bs_b B7
    refine At.clm (as := [.ref hp.length]) (rest := []) rfl (by decide) rfl (Nat.le_of_ble_eq_true rfl) (Nat.le_of_ble_eq_true rfl) (xrck_o (by decide) (by decide) gB7 (by decide)) (Nat.le_of_ble_eq_true rfl) (bs_toS B7) (fun v hp8 c8 s8 hv => ?_)
    obtain ⟨rfl, B8⟩ := hv
    exact At.rt rfl rfl ⟨_, _, _, _, rfl, _, _, rfl, (tq_ga0 hn9 P4), S2T.mono B8 (by omega) (by omega) (by omega) (by omega)⟩
  · refine At.go (q := xm204) rfl 2 (pc' := 369) (L' := [(2, .retAddr kn), (0, .ref L), (1, .int (bI lw))]) (st' := [.retAddr 95, .ref hp.length]) rfl ?_
    refine At.clm (as := [.ref hp.length, .retAddr 95]) (rest := []) rfl (by decide) rfl (Nat.le_of_ble_eq_true rfl) (Nat.le_of_ble_eq_true rfl) (xrck_o (by decide) (by decide) gB6 (by decide)) (Nat.le_of_ble_eq_true rfl) (bs_app (Bst.k B6 (fun _ _ => hTnK (vk := 96) rfl rfl (ds := [32, 100, 111, 119, 110, 32, 50]) (by decide) (by decide))) (by simp only [List.length_append, List.length_cons, List.length_nil]; omega)) (fun v hp7 c7 s7 hv => ?_)
    obtain ⟨rfl, B7⟩ := hv
    obtain ⟨fL7, gL7⟩ := bs_L B7
    obtain ⟨fB7, gB7⟩ := bs_b B7
    refine At.clm (as := [.ref hp.length]) (rest := []) rfl (by decide) rfl (Nat.le_of_ble_eq_true rfl) (Nat.le_of_ble_eq_true rfl) (xrck_o (by decide) (by decide) gB7 (by decide)) (Nat.le_of_ble_eq_true rfl) (bs_toS B7) (fun v hp8 c8 s8 hv => ?_)
    obtain ⟨rfl, B8⟩ := hv
    exact At.rt rfl rfl ⟨_, _, _, _, rfl, _, _, rfl, (tq_ga1 hn9 P4), S2T.mono B8 (by omega) (by omega) (by omega) (by omega)⟩
theorem st_376 {S : List Int32} {A B : Nat → Nat} {L la io kn n9 : Nat} {h0 hp : List XC} {ow0 : Nat → Nat} {M N : HM} {lbs ops : List Int32} {top : Int32} {dt pc ps nc ns : Nat} {lw : Bool} (B0 : S2 A B L la io h0 hp ow0 M N lbs ops top dt pc ps nc ns 0 0) (hd : dt + 7 ≤ 100000) (hS : S.length ≤ 1000) (hK : ∀ hp ow, hTn9 hp ow (.retAddr kn) [97 + n9]) (hn9 : n9 < 2) : At S 9 204 376 [(2, .retAddr kn), (0, .ref L), (1, .int (bI lw))] [] hp nc ns (StR A B L la io h0 ow0 M N lbs ops top dt pc ps lw) := by
  obtain ⟨fL0, gL0⟩ := s2_L B0
  refine At.nw (ci := 1) rfl ?_
  obtain ⟨hq1, eq1⟩ : ∃ h, h = hp ++ [.inr (1, xDF 1)] := ⟨_, rfl⟩
  refine At.hpe eq1 ?_
  refine At.go (q := xm204) rfl 1 (pc' := 380) (L' := [(2, .retAddr kn), (0, .ref L), (1, .int (bI lw))]) (st' := [.ref hp.length, .ref hp.length]) rfl ?_
  refine At.clm (as := [.ref hp.length]) (rest := [.ref hp.length]) rfl (by decide) rfl (Nat.le_of_ble_eq_true rfl) (Nat.le_of_ble_eq_true rfl) rfl (Nat.le_of_ble_eq_true rfl) (m_sbI (mv := 0) (by rw [eq1]; exact xa_eq)) (fun v hp1 c1 s1 hv => ?_)
  obtain ⟨rfl, hv1, hv2, hv3, hv4⟩ := hv
  have B1 := bs_new B0 eq1 hv1 hv2 hv3 hv4
  obtain ⟨fL1, gL1⟩ := bs_L B1
  obtain ⟨fB1, gB1⟩ := bs_b B1
  refine At.go (q := xm204) rfl 1 (pc' := 385) (L' := [(2, .retAddr kn), (0, .ref L), (1, .int (bI lw))]) (st' := [.retAddr 97, .ref hp.length]) rfl ?_
  refine At.clm (as := [.ref hp.length, .retAddr 97]) (rest := []) rfl (by decide) rfl (Nat.le_of_ble_eq_true rfl) (Nat.le_of_ble_eq_true rfl) (xrck_o (by decide) (by decide) gB1 (by decide)) (Nat.le_of_ble_eq_true rfl) (bs_app (Bst.k B1 (fun _ _ => hTnK (vk := 98) rfl rfl (ds := [103, 101, 116, 32, 101, 97, 99, 104, 32, 107, 44, 118, 44, 108, 97, 98, 101, 108, 32, 102, 114, 111, 109, 32]) (by decide) (by decide))) (by simp only [List.length_append, List.length_cons, List.length_nil]; omega)) (fun v hp2 c2 s2 hv => ?_)
  obtain ⟨rfl, B2⟩ := hv
  obtain ⟨fL2, gL2⟩ := bs_L B2
  obtain ⟨fB2, gB2⟩ := bs_b B2
  refine At.go (q := xm204) rfl 1 (pc' := 389) (L' := [(2, .retAddr kn), (0, .ref L), (1, .int (bI lw))]) (st' := [.retAddr kn, .ref hp.length]) rfl ?_
  refine At.clm (as := [.ref hp.length, .retAddr kn]) (rest := []) rfl (by decide) rfl (Nat.le_of_ble_eq_true rfl) (Nat.le_of_ble_eq_true rfl) (xrck_o (by decide) (by decide) gB2 (by decide)) (Nat.le_of_ble_eq_true rfl) (bs_app (Bst.k B2 hK) (by simp only [List.length_append, List.length_cons, List.length_nil]; omega)) (fun v hp3 c3 s3 hv => ?_)
  obtain ⟨rfl, B3⟩ := hv
  obtain ⟨fL3, gL3⟩ := bs_L B3
  obtain ⟨fB3, gB3⟩ := bs_b B3
  refine At.clm (as := [.ref hp.length]) (rest := []) rfl (by decide) rfl (Nat.le_of_ble_eq_true rfl) (Nat.le_of_ble_eq_true rfl) (xrck_o (by decide) (by decide) gB3 (by decide)) (Nat.le_of_ble_eq_true rfl) (bs_toS B3) (fun v hp4 c4 s4 hv => ?_)
  obtain ⟨rfl, B4⟩ := hv
  exact At.rt rfl rfl ⟨_, _, _, _, rfl, _, _, rfl, (tq_geach hn9), S2T.mono B4 (by omega) (by omega) (by omega) (by omega)⟩
theorem st_396 {S : List Int32} {A B : Nat → Nat} {L la io kn n9 : Nat} {h0 hp : List XC} {ow0 : Nat → Nat} {M N : HM} {lbs ops : List Int32} {top : Int32} {dt pc ps nc ns : Nat} {lw : Bool} (B0 : S2 A B L la io h0 hp ow0 M N lbs ops top dt pc ps nc ns 0 0) (hd : dt + 7 ≤ 100000) (hS : S.length ≤ 1000) (hK : ∀ hp ow, hTn9 hp ow (.retAddr kn) [97 + n9]) (hn9 : n9 < 2) : At S 9 204 396 [(2, .retAddr kn), (0, .ref L), (1, .int (bI lw))] [] hp nc ns (StR A B L la io h0 ow0 M N lbs ops top dt pc ps lw) := by
  obtain ⟨fL0, gL0⟩ := s2_L B0
  refine At.go (q := xm204) rfl 1 (pc' := 398) (L' := [(2, .retAddr kn), (0, .ref L), (1, .int (bI lw))]) (st' := [.retAddr 99]) rfl ?_
  exact At.rt rfl rfl ⟨_, _, _, _, rfl, _, _, rfl, tq_gjoin, S2T.mono (S2.tx B0 (fun _ _ => hTnK (vk := 100) rfl rfl (ds := [103, 101, 116, 32, 107, 32, 102, 114, 111, 109, 32, 98, 32, 106, 111, 105, 110, 32, 97, 32, 111, 110, 32, 114, 61, 107]) (by decide) (by decide))) (by omega) (by omega) (by omega) (by omega)⟩
theorem st_399 {S : List Int32} {A B : Nat → Nat} {L la io kn n9 : Nat} {h0 hp : List XC} {ow0 : Nat → Nat} {M N : HM} {lbs ops : List Int32} {top : Int32} {dt pc ps nc ns : Nat} {lw : Bool} (B0 : S2 A B L la io h0 hp ow0 M N lbs ops top dt pc ps nc ns 0 0) (hd : dt + 7 ≤ 100000) (hS : S.length ≤ 1000) (hK : ∀ hp ow, hTn9 hp ow (.retAddr kn) [97 + n9]) (hn9 : n9 < 2) : At S 9 204 399 [(2, .retAddr kn), (0, .ref L), (1, .int (bI lw))] [] hp nc ns (StR A B L la io h0 ow0 M N lbs ops top dt pc ps lw) := by
  obtain ⟨fL0, gL0⟩ := s2_L B0
  refine At.nw (ci := 1) rfl ?_
  obtain ⟨hq1, eq1⟩ : ∃ h, h = hp ++ [.inr (1, xDF 1)] := ⟨_, rfl⟩
  refine At.hpe eq1 ?_
  refine At.go (q := xm204) rfl 1 (pc' := 403) (L' := [(2, .retAddr kn), (0, .ref L), (1, .int (bI lw))]) (st' := [.ref hp.length, .ref hp.length]) rfl ?_
  refine At.clm (as := [.ref hp.length]) (rest := [.ref hp.length]) rfl (by decide) rfl (Nat.le_of_ble_eq_true rfl) (Nat.le_of_ble_eq_true rfl) rfl (Nat.le_of_ble_eq_true rfl) (m_sbI (mv := 0) (by rw [eq1]; exact xa_eq)) (fun v hp1 c1 s1 hv => ?_)
  obtain ⟨rfl, hv1, hv2, hv3, hv4⟩ := hv
  have B1 := bs_new B0 eq1 hv1 hv2 hv3 hv4
  obtain ⟨fL1, gL1⟩ := bs_L B1
  obtain ⟨fB1, gB1⟩ := bs_b B1
  refine At.go (q := xm204) rfl 1 (pc' := 408) (L' := [(2, .retAddr kn), (0, .ref L), (1, .int (bI lw))]) (st' := [.retAddr 101, .ref hp.length]) rfl ?_
  refine At.clm (as := [.ref hp.length, .retAddr 101]) (rest := []) rfl (by decide) rfl (Nat.le_of_ble_eq_true rfl) (Nat.le_of_ble_eq_true rfl) (xrck_o (by decide) (by decide) gB1 (by decide)) (Nat.le_of_ble_eq_true rfl) (bs_app (Bst.k B1 (fun _ _ => hTnK (vk := 102) rfl rfl (ds := [103, 101, 116, 32, 118, 44, 99, 111, 117, 110, 116, 44, 109, 111, 115, 116, 40, 107, 41, 32, 102, 114, 111, 109, 32]) (by decide) (by decide))) (by simp only [List.length_append, List.length_cons, List.length_nil]; omega)) (fun v hp2 c2 s2 hv => ?_)
  obtain ⟨rfl, B2⟩ := hv
  obtain ⟨fL2, gL2⟩ := bs_L B2
  obtain ⟨fB2, gB2⟩ := bs_b B2
  refine At.go (q := xm204) rfl 1 (pc' := 412) (L' := [(2, .retAddr kn), (0, .ref L), (1, .int (bI lw))]) (st' := [.retAddr kn, .ref hp.length]) rfl ?_
  refine At.clm (as := [.ref hp.length, .retAddr kn]) (rest := []) rfl (by decide) rfl (Nat.le_of_ble_eq_true rfl) (Nat.le_of_ble_eq_true rfl) (xrck_o (by decide) (by decide) gB2 (by decide)) (Nat.le_of_ble_eq_true rfl) (bs_app (Bst.k B2 hK) (by simp only [List.length_append, List.length_cons, List.length_nil]; omega)) (fun v hp3 c3 s3 hv => ?_)
  obtain ⟨rfl, B3⟩ := hv
  obtain ⟨fL3, gL3⟩ := bs_L B3
  obtain ⟨fB3, gB3⟩ := bs_b B3
  refine At.go (q := xm204) rfl 1 (pc' := 417) (L' := [(2, .retAddr kn), (0, .ref L), (1, .int (bI lw))]) (st' := [.retAddr 103, .ref hp.length]) rfl ?_
  refine At.clm (as := [.ref hp.length, .retAddr 103]) (rest := []) rfl (by decide) rfl (Nat.le_of_ble_eq_true rfl) (Nat.le_of_ble_eq_true rfl) (xrck_o (by decide) (by decide) gB3 (by decide)) (Nat.le_of_ble_eq_true rfl) (bs_app (Bst.k B3 (fun _ _ => hTnK (vk := 104) rfl rfl (ds := [32, 98, 121, 32, 118, 32, 116, 111, 112, 32]) (by decide) (by decide))) (by simp only [List.length_append, List.length_cons, List.length_nil]; omega)) (fun v hp4 c4 s4 hv => ?_)
  obtain ⟨rfl, B4⟩ := hv
  obtain ⟨fL4, gL4⟩ := bs_L B4
  obtain ⟨fB4, gB4⟩ := bs_b B4
  refine At.go (q := xm204) rfl 2 (pc' := 422) (L' := [(2, .retAddr kn), (0, .ref L), (1, .int (bI lw))]) (st' := [.int 4, .ref L, .ref hp.length]) rfl ?_
  refine At.clm (as := [.ref L, .int 4]) (rest := [.ref hp.length]) rfl (by decide) rfl (Nat.le_of_ble_eq_true rfl) (Nat.le_of_ble_eq_true rfl) (xrck_o (by decide) (by decide) gL4 (by decide)) (Nat.le_of_ble_eq_true rfl) (bs_draw (m9 := 4) B4 (by omega) hS (by decide) (by decide)) (fun v hp5 c5 s5 hv => ?_)
  obtain ⟨n5, hn5, rfl, B5⟩ := hv
  obtain ⟨fL5, gL5⟩ := bs_L B5
  obtain ⟨fB5, gB5⟩ := bs_b B5
  refine At.clm (as := [.ref hp.length, .int (Int32.ofNat n5)]) (rest := []) rfl (by decide) rfl (Nat.le_of_ble_eq_true rfl) (Nat.le_of_ble_eq_true rfl) (xrck_o (by decide) (by decide) gB5 (by decide)) (Nat.le_of_ble_eq_true rfl) (bs_appD (d := n5) B5 (by omega) (by simp only [List.length_append, List.length_cons, List.length_nil]; omega)) (fun v hp6 c6 s6 hv => ?_)
  obtain ⟨rfl, B6⟩ := hv
  obtain ⟨fL6, gL6⟩ := bs_L B6
  obtain ⟨fB6, gB6⟩ := bs_b B6
  refine At.clm (as := [.ref hp.length]) (rest := []) rfl (by decide) rfl (Nat.le_of_ble_eq_true rfl) (Nat.le_of_ble_eq_true rfl) (xrck_o (by decide) (by decide) gB6 (by decide)) (Nat.le_of_ble_eq_true rfl) (bs_toS B6) (fun v hp7 c7 s7 hv => ?_)
  obtain ⟨rfl, B7⟩ := hv
  exact At.rt rfl rfl ⟨_, _, _, _, rfl, _, _, rfl, (tq_gby hn9 hn5), S2T.mono B7 (by omega) (by omega) (by omega) (by omega)⟩
theorem st_432 {S : List Int32} {A B : Nat → Nat} {L la io kn n9 : Nat} {h0 hp : List XC} {ow0 : Nat → Nat} {M N : HM} {lbs ops : List Int32} {top : Int32} {dt pc ps nc ns : Nat} {lw : Bool} (B0 : S2 A B L la io h0 hp ow0 M N lbs ops top dt pc ps nc ns 0 0) (hd : dt + 7 ≤ 100000) (hS : S.length ≤ 1000) (hK : ∀ hp ow, hTn9 hp ow (.retAddr kn) [97 + n9]) (hn9 : n9 < 2) : At S 9 204 432 [(2, .retAddr kn), (0, .ref L), (1, .int (bI lw))] [] hp nc ns (StR A B L la io h0 ow0 M N lbs ops top dt pc ps lw) := by
  obtain ⟨fL0, gL0⟩ := s2_L B0
  refine At.go (q := xm204) rfl 1 (pc' := 433) (L' := [(2, .retAddr kn), (0, .ref L), (1, .int (bI lw))]) (st' := [.int (bI lw)]) rfl ?_
  refine At.ic1 (tgt := 485) rfl rfl (fun h433 => ?_) (fun h433 => ?_)
  · refine At.nw (ci := 1) rfl ?_
    obtain ⟨hq1, eq1⟩ : ∃ h, h = hp ++ [.inr (1, xDF 1)] := ⟨_, rfl⟩
    refine At.hpe eq1 ?_
    refine At.go (q := xm204) rfl 1 (pc' := 489) (L' := [(2, .retAddr kn), (0, .ref L), (1, .int (bI lw))]) (st' := [.ref hp.length, .ref hp.length]) rfl ?_
    refine At.clm (as := [.ref hp.length]) (rest := [.ref hp.length]) rfl (by decide) rfl (Nat.le_of_ble_eq_true rfl) (Nat.le_of_ble_eq_true rfl) rfl (Nat.le_of_ble_eq_true rfl) (m_sbI (mv := 0) (by rw [eq1]; exact xa_eq)) (fun v hp1 c1 s1 hv => ?_)
    obtain ⟨rfl, hv1, hv2, hv3, hv4⟩ := hv
    have B1 := bs_new B0 eq1 hv1 hv2 hv3 hv4
    obtain ⟨fL1, gL1⟩ := bs_L B1
    obtain ⟨fB1, gB1⟩ := bs_b B1
    refine At.go (q := xm204) rfl 1 (pc' := 494) (L' := [(2, .retAddr kn), (0, .ref L), (1, .int (bI lw))]) (st' := [.retAddr 109, .ref hp.length]) rfl ?_
    refine At.clm (as := [.ref hp.length, .retAddr 109]) (rest := []) rfl (by decide) rfl (Nat.le_of_ble_eq_true rfl) (Nat.le_of_ble_eq_true rfl) (xrck_o (by decide) (by decide) gB1 (by decide)) (Nat.le_of_ble_eq_true rfl) (bs_app (Bst.k B1 (fun _ _ => hTnK (vk := 110) rfl rfl (ds := [103, 101, 116, 32, 108, 97, 98, 101, 108, 32, 102, 114, 111, 109, 32]) (by decide) (by decide))) (by simp only [List.length_append, List.length_cons, List.length_nil]; omega)) (fun v hp2 c2 s2 hv => ?_)
    obtain ⟨rfl, B2⟩ := hv
    obtain ⟨fL2, gL2⟩ := bs_L B2
    obtain ⟨fB2, gB2⟩ := bs_b B2
    refine At.go (q := xm204) rfl 1 (pc' := 498) (L' := [(2, .retAddr kn), (0, .ref L), (1, .int (bI lw))]) (st' := [.retAddr kn, .ref hp.length]) rfl ?_
    refine At.clm (as := [.ref hp.length, .retAddr kn]) (rest := []) rfl (by decide) rfl (Nat.le_of_ble_eq_true rfl) (Nat.le_of_ble_eq_true rfl) (xrck_o (by decide) (by decide) gB2 (by decide)) (Nat.le_of_ble_eq_true rfl) (bs_app (Bst.k B2 hK) (by simp only [List.length_append, List.length_cons, List.length_nil]; omega)) (fun v hp3 c3 s3 hv => ?_)
    obtain ⟨rfl, B3⟩ := hv
    obtain ⟨fL3, gL3⟩ := bs_L B3
    obtain ⟨fB3, gB3⟩ := bs_b B3
    refine At.clm (as := [.ref hp.length]) (rest := []) rfl (by decide) rfl (Nat.le_of_ble_eq_true rfl) (Nat.le_of_ble_eq_true rfl) (xrck_o (by decide) (by decide) gB3 (by decide)) (Nat.le_of_ble_eq_true rfl) (bs_toS B3) (fun v hp4 c4 s4 hv => ?_)
    obtain ⟨rfl, B4⟩ := hv
    exact At.rt rfl rfl ⟨_, _, _, _, rfl, _, _, rfl, (tq_glab hn9), S2T.mono B4 (by omega) (by omega) (by omega) (by omega)⟩
  · refine At.nw (ci := 1) rfl ?_
    obtain ⟨hq1, eq1⟩ : ∃ h, h = hp ++ [.inr (1, xDF 1)] := ⟨_, rfl⟩
    refine At.hpe eq1 ?_
    refine At.go (q := xm204) rfl 1 (pc' := 440) (L' := [(2, .retAddr kn), (0, .ref L), (1, .int (bI lw))]) (st' := [.ref hp.length, .ref hp.length]) rfl ?_
    refine At.clm (as := [.ref hp.length]) (rest := [.ref hp.length]) rfl (by decide) rfl (Nat.le_of_ble_eq_true rfl) (Nat.le_of_ble_eq_true rfl) rfl (Nat.le_of_ble_eq_true rfl) (m_sbI (mv := 0) (by rw [eq1]; exact xa_eq)) (fun v hp1 c1 s1 hv => ?_)
    obtain ⟨rfl, hv1, hv2, hv3, hv4⟩ := hv
    have B1 := bs_new B0 eq1 hv1 hv2 hv3 hv4
    obtain ⟨fL1, gL1⟩ := bs_L B1
    obtain ⟨fB1, gB1⟩ := bs_b B1
    refine At.go (q := xm204) rfl 1 (pc' := 445) (L' := [(2, .retAddr kn), (0, .ref L), (1, .int (bI lw))]) (st' := [.retAddr 105, .ref hp.length]) rfl ?_
    refine At.clm (as := [.ref hp.length, .retAddr 105]) (rest := []) rfl (by decide) rfl (Nat.le_of_ble_eq_true rfl) (Nat.le_of_ble_eq_true rfl) (xrck_o (by decide) (by decide) gB1 (by decide)) (Nat.le_of_ble_eq_true rfl) (bs_app (Bst.k B1 (fun _ _ => hTnK (vk := 106) rfl rfl (ds := [108, 111, 119, 101, 114, 32, 97, 32]) (by decide) (by decide))) (by simp only [List.length_append, List.length_cons, List.length_nil]; omega)) (fun v hp2 c2 s2 hv => ?_)
    obtain ⟨rfl, B2⟩ := hv
    obtain ⟨fL2, gL2⟩ := bs_L B2
    obtain ⟨fB2, gB2⟩ := bs_b B2
    refine At.go (q := xm204) rfl 2 (pc' := 451) (L' := [(2, .retAddr kn), (0, .ref L), (1, .int (bI lw))]) (st' := [.int 6, .ref L, .ref hp.length]) rfl ?_
    refine At.clm (as := [.ref L, .int 6]) (rest := [.ref hp.length]) rfl (by decide) rfl (Nat.le_of_ble_eq_true rfl) (Nat.le_of_ble_eq_true rfl) (xrck_o (by decide) (by decide) gL2 (by decide)) (Nat.le_of_ble_eq_true rfl) (bs_draw (m9 := 6) B2 (by omega) hS (by decide) (by decide)) (fun v hp3 c3 s3 hv => ?_)
    obtain ⟨n3, hn3, rfl, B3⟩ := hv
    obtain ⟨fL3, gL3⟩ := bs_L B3
    obtain ⟨fB3, gB3⟩ := bs_b B3
    refine At.clm (as := [.ref hp.length, .int (Int32.ofNat n3)]) (rest := []) rfl (by decide) rfl (Nat.le_of_ble_eq_true rfl) (Nat.le_of_ble_eq_true rfl) (xrck_o (by decide) (by decide) gB3 (by decide)) (Nat.le_of_ble_eq_true rfl) (bs_appD (d := n3) B3 (by omega) (by simp only [List.length_append, List.length_cons, List.length_nil]; omega)) (fun v hp4 c4 s4 hv => ?_)
    obtain ⟨rfl, B4⟩ := hv
    obtain ⟨fL4, gL4⟩ := bs_L B4
    obtain ⟨fB4, gB4⟩ := bs_b B4
    refine At.go (q := xm204) rfl 1 (pc' := 459) (L' := [(2, .retAddr kn), (0, .ref L), (1, .int (bI lw))]) (st' := [.retAddr 107, .ref hp.length]) rfl ?_
    refine At.clm (as := [.ref hp.length, .retAddr 107]) (rest := []) rfl (by decide) rfl (Nat.le_of_ble_eq_true rfl) (Nat.le_of_ble_eq_true rfl) (xrck_o (by decide) (by decide) gB4 (by decide)) (Nat.le_of_ble_eq_true rfl) (bs_app (Bst.k B4 (fun _ _ => hTnK (vk := 108) rfl rfl (ds := [32, 116, 111, 32]) (by decide) (by decide))) (by simp only [List.length_append, List.length_cons, List.length_nil]; omega)) (fun v hp5 c5 s5 hv => ?_)
    obtain ⟨rfl, B5⟩ := hv
    obtain ⟨fL5, gL5⟩ := bs_L B5
    obtain ⟨fB5, gB5⟩ := bs_b B5
    refine At.go (q := xm204) rfl 2 (pc' := 464) (L' := [(2, .retAddr kn), (0, .ref L), (1, .int (bI lw))]) (st' := [.int 2, .ref L, .ref hp.length]) rfl ?_
    refine At.clm (as := [.ref L, .int 2]) (rest := [.ref hp.length]) rfl (by decide) rfl (Nat.le_of_ble_eq_true rfl) (Nat.le_of_ble_eq_true rfl) (xrck_o (by decide) (by decide) gL5 (by decide)) (Nat.le_of_ble_eq_true rfl) (bs_draw (m9 := 2) B5 (by omega) hS (by decide) (by decide)) (fun v hp6 c6 s6 hv => ?_)
    obtain ⟨n6, hn6, rfl, B6⟩ := hv
    obtain ⟨fL6, gL6⟩ := bs_L B6
    obtain ⟨fB6, gB6⟩ := bs_b B6
    refine At.ic1 (tgt := 474) rfl rfl (fun h467 => ?_) (fun h467 => ?_)
    · refine At.go (q := xm204) rfl 1 (pc' := 476) (L' := [(2, .retAddr kn), (0, .ref L), (1, .int (bI lw))]) (st' := [.int 16, .ref hp.length]) rfl ?_
      refine At.clm (as := [.ref hp.length, .int 16]) (rest := []) rfl (by decide) rfl (Nat.le_of_ble_eq_true rfl) (Nat.le_of_ble_eq_true rfl) (xrck_o (by decide) (by decide) gB6 (by decide)) (Nat.le_of_ble_eq_true rfl) (bs_app6 B6 (by simp only [List.length_append, List.length_cons, List.length_nil]; omega)) (fun v hp7 c7 s7 hv => ?_)
      obtain ⟨rfl, B7⟩ := hv
      obtain ⟨fL7, gL7⟩ := bs_L B7
      obtain ⟨fB7, gB7⟩ := bs_b B7
      refine At.clm (as := [.ref hp.length]) (rest := []) rfl (by decide) rfl (Nat.le_of_ble_eq_true rfl) (Nat.le_of_ble_eq_true rfl) (xrck_o (by decide) (by decide) gB7 (by decide)) (Nat.le_of_ble_eq_true rfl) (bs_toS B7) (fun v hp8 c8 s8 hv => ?_)
      obtain ⟨rfl, B8⟩ := hv
      refine At.go (q := xm204) rfl 1 (pc' := 504) (L' := [(2, .retAddr kn), (0, .ref L), (1, .int (bI lw))]) (st' := [.ref hp7.length]) rfl ?_
      have hlw : lw = true := by
        cases lw with
        | true => rfl
        | false => exact absurd h433 (by decide)
      rw [hlw]
      exact At.rt rfl rfl ⟨_, _, _, _, rfl, _, _, rfl, (tq_lo16 hn3), S2T.mono B8 (by omega) (by omega) (by omega) (by omega)⟩
    · refine At.go (q := xm204) rfl 2 (pc' := 476) (L' := [(2, .retAddr kn), (0, .ref L), (1, .int (bI lw))]) (st' := [.int 0, .ref hp.length]) rfl ?_
      refine At.clm (as := [.ref hp.length, .int 0]) (rest := []) rfl (by decide) rfl (Nat.le_of_ble_eq_true rfl) (Nat.le_of_ble_eq_true rfl) (xrck_o (by decide) (by decide) gB6 (by decide)) (Nat.le_of_ble_eq_true rfl) (bs_appD (d := 0) B6 (by omega) (by simp only [List.length_append, List.length_cons, List.length_nil]; omega)) (fun v hp7 c7 s7 hv => ?_)
      obtain ⟨rfl, B7⟩ := hv
      obtain ⟨fL7, gL7⟩ := bs_L B7
      obtain ⟨fB7, gB7⟩ := bs_b B7
      refine At.clm (as := [.ref hp.length]) (rest := []) rfl (by decide) rfl (Nat.le_of_ble_eq_true rfl) (Nat.le_of_ble_eq_true rfl) (xrck_o (by decide) (by decide) gB7 (by decide)) (Nat.le_of_ble_eq_true rfl) (bs_toS B7) (fun v hp8 c8 s8 hv => ?_)
      obtain ⟨rfl, B8⟩ := hv
      refine At.go (q := xm204) rfl 1 (pc' := 504) (L' := [(2, .retAddr kn), (0, .ref L), (1, .int (bI lw))]) (st' := [.ref hp7.length]) rfl ?_
      have hlw : lw = true := by
        cases lw with
        | true => rfl
        | false => exact absurd h433 (by decide)
      rw [hlw]
      exact At.rt rfl rfl ⟨_, _, _, _, rfl, _, _, rfl, (tq_lo0 hn3), S2T.mono B8 (by omega) (by omega) (by omega) (by omega)⟩
theorem st_505 {S : List Int32} {A B : Nat → Nat} {L la io kn n9 : Nat} {h0 hp : List XC} {ow0 : Nat → Nat} {M N : HM} {lbs ops : List Int32} {top : Int32} {dt pc ps nc ns : Nat} {lw : Bool} (B0 : S2 A B L la io h0 hp ow0 M N lbs ops top dt pc ps nc ns 0 0) (hd : dt + 7 ≤ 100000) (hS : S.length ≤ 1000) (hK : ∀ hp ow, hTn9 hp ow (.retAddr kn) [97 + n9]) (hn9 : n9 < 2) : At S 9 204 505 [(2, .retAddr kn), (0, .ref L), (1, .int (bI lw))] [] hp nc ns (StR A B L la io h0 ow0 M N lbs ops top dt pc ps lw) := by
  obtain ⟨fL0, gL0⟩ := s2_L B0
  refine At.go (q := xm204) rfl 2 (pc' := 507) (L' := [(2, .retAddr kn), (0, .ref L), (1, .int (bI lw))]) (st' := [.int 2, .ref L]) rfl ?_
  refine At.clm (as := [.ref L, .int 2]) (rest := []) rfl (by decide) rfl (Nat.le_of_ble_eq_true rfl) (Nat.le_of_ble_eq_true rfl) (xrck_o (by decide) (by decide) gL0 (by decide)) (Nat.le_of_ble_eq_true rfl) (s2_draw (m9 := 2) B0 (by omega) hS (by decide) (by decide)) (fun v hp1 c1 s1 hv => ?_)
  obtain ⟨n1, hn1, rfl, B1⟩ := hv
  obtain ⟨fL1, gL1⟩ := s2_L B1
  refine At.ic1 (tgt := 518) rfl rfl (fun h510 => ?_) (fun h510 => ?_)
  · refine At.go (q := xm204) rfl 1 (pc' := 520) (L' := [(2, .retAddr kn), (0, .ref L), (1, .int (bI lw))]) (st' := [.retAddr 113]) rfl ?_
    exact At.rt rfl rfl ⟨_, _, _, _, rfl, _, _, rfl, tq_pbad, S2T.mono (S2.tx B1 (fun _ _ => hTnK (vk := 114) rfl rfl (ds := [112, 117, 116, 32, 97, 40, 49, 41]) (by decide) (by decide))) (by omega) (by omega) (by omega) (by omega)⟩
  · refine At.go (q := xm204) rfl 2 (pc' := 520) (L' := [(2, .retAddr kn), (0, .ref L), (1, .int (bI lw))]) (st' := [.retAddr 111]) rfl ?_
    exact At.rt rfl rfl ⟨_, _, _, _, rfl, _, _, rfl, tq_bad, S2T.mono (S2.tx B1 (fun _ _ => hTnK (vk := 112) rfl rfl (ds := [103, 101, 116, 32, 97, 108, 108, 32, 102, 114, 111, 109]) (by decide) (by decide))) (by omega) (by omega) (by omega) (by omega)⟩
theorem st_sw {S : List Int32} {A B : Nat → Nat} {L la io kn n9 : Nat} {h0 hp : List XC} {ow0 : Nat → Nat} {M N : HM} {lbs ops : List Int32} {top : Int32} {dt pc ps nc ns : Nat} {lw : Bool} (n : Nat) (hn : n < 16) (B0 : S2 A B L la io h0 hp ow0 M N lbs ops top dt pc ps nc ns 0 0) (hd : dt + 7 ≤ 100000) (hS : S.length ≤ 1000) (hK : ∀ hp ow, hTn9 hp ow (.retAddr kn) [97 + n9]) (hn9 : n9 < 2) : At S 9 204 22 [(2, .retAddr kn), (0, .ref L), (1, .int (bI lw))] [.int (Int32.ofNat n)] hp nc ns (StR A B L la io h0 ow0 M N lbs ops top dt pc ps lw) := by
  match n, hn with
  | 0, _ => exact At.go (q := xm204) rfl 1 (pc' := 96) (L' := [(2, .retAddr kn), (0, .ref L), (1, .int (bI lw))]) (st' := []) rfl (st_96 B0 hd hS hK hn9)
  | 1, _ => exact At.go (q := xm204) rfl 1 (pc' := 112) (L' := [(2, .retAddr kn), (0, .ref L), (1, .int (bI lw))]) (st' := []) rfl (st_112 B0 hd hS hK hn9)
  | 2, _ => exact At.go (q := xm204) rfl 1 (pc' := 115) (L' := [(2, .retAddr kn), (0, .ref L), (1, .int (bI lw))]) (st' := []) rfl (st_115 B0 hd hS hK hn9)
  | 3, _ => exact At.go (q := xm204) rfl 1 (pc' := 165) (L' := [(2, .retAddr kn), (0, .ref L), (1, .int (bI lw))]) (st' := []) rfl (st_165 B0 hd hS hK hn9)
  | 4, _ => exact At.go (q := xm204) rfl 1 (pc' := 165) (L' := [(2, .retAddr kn), (0, .ref L), (1, .int (bI lw))]) (st' := []) rfl (st_165 B0 hd hS hK hn9)
  | 5, _ => exact At.go (q := xm204) rfl 1 (pc' := 165) (L' := [(2, .retAddr kn), (0, .ref L), (1, .int (bI lw))]) (st' := []) rfl (st_165 B0 hd hS hK hn9)
  | 6, _ => exact At.go (q := xm204) rfl 1 (pc' := 207) (L' := [(2, .retAddr kn), (0, .ref L), (1, .int (bI lw))]) (st' := []) rfl (st_207 B0 hd hS hK hn9)
  | 7, _ => exact At.go (q := xm204) rfl 1 (pc' := 247) (L' := [(2, .retAddr kn), (0, .ref L), (1, .int (bI lw))]) (st' := []) rfl (st_247 B0 hd hS hK hn9)
  | 8, _ => exact At.go (q := xm204) rfl 1 (pc' := 247) (L' := [(2, .retAddr kn), (0, .ref L), (1, .int (bI lw))]) (st' := []) rfl (st_247 B0 hd hS hK hn9)
  | 9, _ => exact At.go (q := xm204) rfl 1 (pc' := 304) (L' := [(2, .retAddr kn), (0, .ref L), (1, .int (bI lw))]) (st' := []) rfl (st_304 B0 hd hS hK hn9)
  | 10, _ => exact At.go (q := xm204) rfl 1 (pc' := 331) (L' := [(2, .retAddr kn), (0, .ref L), (1, .int (bI lw))]) (st' := []) rfl (st_331 B0 hd hS hK hn9)
  | 11, _ => exact At.go (q := xm204) rfl 1 (pc' := 376) (L' := [(2, .retAddr kn), (0, .ref L), (1, .int (bI lw))]) (st' := []) rfl (st_376 B0 hd hS hK hn9)
  | 12, _ => exact At.go (q := xm204) rfl 1 (pc' := 396) (L' := [(2, .retAddr kn), (0, .ref L), (1, .int (bI lw))]) (st' := []) rfl (st_396 B0 hd hS hK hn9)
  | 13, _ => exact At.go (q := xm204) rfl 1 (pc' := 399) (L' := [(2, .retAddr kn), (0, .ref L), (1, .int (bI lw))]) (st' := []) rfl (st_399 B0 hd hS hK hn9)
  | 14, _ => exact At.go (q := xm204) rfl 1 (pc' := 432) (L' := [(2, .retAddr kn), (0, .ref L), (1, .int (bI lw))]) (st' := []) rfl (st_432 B0 hd hS hK hn9)
  | 15, _ => exact At.go (q := xm204) rfl 1 (pc' := 505) (L' := [(2, .retAddr kn), (0, .ref L), (1, .int (bI lw))]) (st' := []) rfl (st_505 B0 hd hS hK hn9)
  | n + 16, h => exact absurd h (by omega)
theorem m_stmt {S : List Int32} {A B : Nat → Nat} {L la io : Nat} {hp : List XC} {ow : Nat → Nat} {M N : HM} {lbs ops : List Int32} {top : Int32} {dt pc ps : Nat} {lw : Bool} (W : W2 A B L la io hp ow M N lbs ops top dt pc ps) (hd : dt + 9 ≤ 100000) (hS : S.length ≤ 1000) : Me S 9 204 [.ref L, .int (bI lw)] hp (fun v hp' c s => ∃ t ds, v = some t ∧ TxOk lw ds ∧ S2T A B L la io hp hp' ow M N lbs ops top (dt + 9) pc ps c s 60 9000 t ds) := by
  have B0 := S2.same W
  obtain ⟨fL0, gL0⟩ := s2_L B0
  refine At.go (q := xm204) rfl 2 (pc' := 2) (L' := [(0, .ref L), (1, .int (bI lw))]) (st' := [.int 3, .ref L]) rfl ?_
  refine At.clm (as := [.ref L, .int 3]) (rest := []) rfl (by decide) rfl (Nat.le_of_ble_eq_true rfl) (Nat.le_of_ble_eq_true rfl) (xrck_o (by decide) (by decide) gL0 (by decide)) (Nat.le_of_ble_eq_true rfl) (s2_draw (m9 := 3) B0 (by omega) hS (by decide) (by decide)) (fun v hp1 c1 s1 hv => ?_)
  obtain ⟨n1, hn1, rfl, B1⟩ := hv
  obtain ⟨fL1, gL1⟩ := s2_L B1
  refine At.ic1 (tgt := 13) rfl rfl (fun h5 => ?_) (fun h5 => ?_)
  · refine At.go (q := xm204) rfl 4 (pc' := 19) (L' := [(2, .retAddr 55), (0, .ref L), (1, .int (bI lw))]) (st' := [.int 16, .ref L]) rfl ?_
    refine At.clm (as := [.ref L, .int 16]) (rest := []) rfl (by decide) rfl (Nat.le_of_ble_eq_true rfl) (Nat.le_of_ble_eq_true rfl) (xrck_o (by decide) (by decide) gL1 (by decide)) (Nat.le_of_ble_eq_true rfl) (s2_draw (m9 := 16) B1 (by omega) hS (by decide) (by decide)) (fun v hp2 c2 s2 hv => ?_)
    obtain ⟨n2, hn2, rfl, B2⟩ := hv
    obtain ⟨fL2, gL2⟩ := s2_L B2
    exact At.mono (st_sw n2 hn2 B2 (by omega) hS (n9 := 0) (fun _ _ => hTnK (vk := 56) rfl rfl (ds := [97]) (by decide) (by decide)) (by decide)) (fun o ho => by
      obtain ⟨v, hp', c, s, e, t, ds, e2, hx, hT⟩ := ho
      exact ⟨v, hp', c, s, e, t, ds, e2, hx, S2T.mono hT (by omega) (by omega) (Nat.le_refl _) (Nat.le_refl _)⟩)
  · refine At.go (q := xm204) rfl 5 (pc' := 19) (L' := [(2, .retAddr 53), (0, .ref L), (1, .int (bI lw))]) (st' := [.int 16, .ref L]) rfl ?_
    refine At.clm (as := [.ref L, .int 16]) (rest := []) rfl (by decide) rfl (Nat.le_of_ble_eq_true rfl) (Nat.le_of_ble_eq_true rfl) (xrck_o (by decide) (by decide) gL1 (by decide)) (Nat.le_of_ble_eq_true rfl) (s2_draw (m9 := 16) B1 (by omega) hS (by decide) (by decide)) (fun v hp2 c2 s2 hv => ?_)
    obtain ⟨n2, hn2, rfl, B2⟩ := hv
    obtain ⟨fL2, gL2⟩ := s2_L B2
    exact At.mono (st_sw n2 hn2 B2 (by omega) hS (n9 := 1) (fun _ _ => hTnK (vk := 54) rfl rfl (ds := [98]) (by decide) (by decide)) (by decide)) (fun o ho => by
      obtain ⟨v, hp', c, s, e, t, ds, e2, hx, hT⟩ := ho
      exact ⟨v, hp', c, s, e, t, ds, e2, hx, S2T.mono hT (by omega) (by omega) (Nat.le_refl _) (Nat.le_refl _)⟩)
