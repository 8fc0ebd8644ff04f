/-! lists: add at a place, remove, set (written by wip/p27/c57.py) -/
theorem hob_l {hp : List XC} {as : List Nat} {m : Nat} (h : ∀ a ∈ as, hOb hp a) : ∀ v ∈ as.map Value.ref ++ List.replicate m Value.null, v = .null ∨ ∃ a, v = .ref a ∧ hOb hp a := fun v hv => by
  rcases List.mem_append.mp hv with hv | hv
  · obtain ⟨a, ha, rfl⟩ := List.mem_map.mp hv
    exact Or.inr ⟨a, rfl, h a ha⟩
  · exact Or.inl (List.mem_replicate.mp hv).2
theorem ins_tail {S : List Int32} {hp : List XC} {l e a k m d nc ns : Nat} {mc : Int32} {as : List Nat} (hd : 1 ≤ d) (hob : ∀ a ∈ as, hOb hp a) (ha : hOb hp a) (hk : k ≤ as.length) (hm : 1 ≤ m) (h3 : as.length + m ≤ 100000) (h1 : hp[l]? = some (.inr (2, [.int mc, .ref e, .int (Int32.ofNat as.length)]))) (h2 : hp[e]? = some (.inl (7, as.map Value.ref ++ List.replicate m .null))) : At S d 168 38 [(4, .ref e), (3, .int (Int32.ofNat as.length)), (0, .ref l), (1, .int (Int32.ofNat k)), (2, .ref a)] [] hp nc ns (fun o => ∃ hp', o = .inl (none, hp', nc, ns) ∧ FrX (fun x => x = l) hp hp' ∧ hLs hp' l (insAt as k a) ∧ capL hp' l = as.length + m) := by
  refine At.go (q := xm168) rfl 9 (pc' := 49) (L' := [(4, .ref e), (3, .int (Int32.ofNat as.length)), (0, .ref l), (1, .int (Int32.ofNat k)), (2, .ref a)]) (st' := [.int ((Int32.ofNat as.length) - (Int32.ofNat k)), .int ((Int32.ofNat k) + 1), .ref e, .int (Int32.ofNat k), .ref e]) rfl ?_
  rw [iN_s, iN_sub hk]
  refine At.cpo (sp := k) (dp := k + 1) (n := as.length - k) rfl hd h2 h2 (by rw [xlst]; omega) (by rw [xlst]; omega) (by rw [xlst]; omega) (by rw [xlst]; omega) (hob_l hob) (Nat.le_of_ble_eq_true rfl) ?_
  obtain ⟨hp1, ehp1⟩ : ∃ h, h = hp.set e (.inl (7, xcpl (as.map Value.ref ++ List.replicate m .null) (as.map Value.ref ++ List.replicate m .null) k (k + 1) (as.length - k))) := ⟨_, rfl⟩
  refine At.hpe ehp1 ?_
  have fhp1_l : hp1[l]? = some (.inr (2, [.int mc, .ref e, .int (Int32.ofNat as.length)])) := by rw [ehp1]; exact xs_ne (xn_ar h2 h1) h1
  have fhp1_e : hp1[e]? = some (.inl (7, (xcpl (as.map Value.ref ++ List.replicate m .null) (as.map Value.ref ++ List.replicate m .null) k (k + 1) (as.length - k)))) := by rw [ehp1]; exact xs_eq h2
  have c1 : FrX (fun x => x = l) hp hp1 := by rw [ehp1]; exact FrX.la h1 h2
  refine At.go (q := xm168) rfl 3 (pc' := 56) (L' := [(4, .ref e), (3, .int (Int32.ofNat as.length)), (0, .ref l), (1, .int (Int32.ofNat k)), (2, .ref a)]) (st' := [.ref a, .int (Int32.ofNat k), .ref e]) rfl ?_
  refine At.qs rfl fhp1_e (by decide) rfl (iN_nn (by omega)) (by rw [iN_tn (by omega), xcpl_len (by rw [xlst]; omega) (by rw [xlst]; omega), xlst]; omega) (qs_ob (ha.fr c1)) ?_
  rw [iN_tn (by omega), xins_at hk hm]
  obtain ⟨hp2, ehp2⟩ : ∃ h, h = hp1.set e (.inl (7, (insAt as k a).map Value.ref ++ List.replicate (m - 1) .null)) := ⟨_, rfl⟩
  refine At.hpe ehp2 ?_
  have fhp2_l : hp2[l]? = some (.inr (2, [.int mc, .ref e, .int (Int32.ofNat as.length)])) := by rw [ehp2]; exact xs_ne (xn_ar fhp1_e fhp1_l) fhp1_l
  have fhp2_e : hp2[e]? = some (.inl (7, ((insAt as k a).map Value.ref ++ List.replicate (m - 1) .null))) := by rw [ehp2]; exact xs_eq fhp1_e
  have c2 : FrX (fun x => x = l) hp1 hp2 := by rw [ehp2]; exact FrX.la fhp1_l fhp1_e
  refine At.go (q := xm168) rfl 4 (pc' := 61) (L' := [(4, .ref e), (3, .int (Int32.ofNat as.length)), (0, .ref l), (1, .int (Int32.ofNat k)), (2, .ref a)]) (st' := [.int ((Int32.ofNat as.length) + 1), .ref l]) rfl ?_
  rw [iN_s, ← insAt_len (as := as) (k := k) (a := a)]
  refine At.pf rfl fhp2_l (Nat.le_of_ble_eq_true rfl) xfit_i ?_
  obtain ⟨hp3, ehp3⟩ : ∃ h, h = hp2.set l (.inr (2, [.int mc, .ref e, .int (Int32.ofNat (insAt as k a).length)])) := ⟨_, rfl⟩
  refine At.hpe ehp3 ?_
  have fhp3_l : hp3[l]? = some (.inr (2, [.int mc, .ref e, .int (Int32.ofNat (insAt as k a).length)])) := by rw [ehp3]; exact xs_eq fhp2_l
  have fhp3_e : hp3[e]? = some (.inl (7, ((insAt as k a).map Value.ref ++ List.replicate (m - 1) .null))) := by rw [ehp3]; exact xs_ne (xn_ra fhp2_l fhp2_e) fhp2_e
  have c3 : FrX (fun x => x = l) hp2 hp3 := by rw [ehp3]; exact FrX.lo fhp2_l (Or.inl ⟨_, _, rfl⟩)
  refine At.rt rfl rfl ⟨hp3, rfl, ?_, ⟨fun b hb => ?_, mc, Or.inr ⟨e, m - 1, fhp3_l, fhp3_e, by rw [insAt_len]; omega⟩⟩, by rw [capL_e fhp3_l fhp3_e, xlst, insAt_len]; omega⟩
  · exact FrX.tr (FrX.tr c1 c2 (fun x hx => Or.inl hx)) c3 (fun x hx => Or.inl hx)
  · rcases insAt_m hb with hb | rfl
    · exact (((hob b hb).fr c1).fr c2).fr c3
    · exact ((ha.fr c1).fr c2).fr c3
theorem ins_A {S : List Int32} {hp : List XC} {l e a k m : Nat} {mc : Int32} {as : List Nat} (hO : Own hp) (hob : ∀ a ∈ as, hOb hp a) (ha : hOb hp a) (hk : k ≤ as.length) (hn : as.length ≤ 60000) (hm : 1 ≤ m) (h3 : as.length + m ≤ 100000) (h1 : hp[l]? = some (.inr (2, [.int mc, .ref e, .int (Int32.ofNat as.length)]))) (h2 : hp[e]? = some (.inl (7, as.map Value.ref ++ List.replicate m .null))) : Me S 5 168 [.ref l, .int (Int32.ofNat k), .ref a] hp (fun v hp' c s => v = none ∧ RAdd hp l (insAt as k a) hp' c s) := by
  refine At.go (q := xm168) rfl 2 (pc' := 2) (L' := [(0, .ref l), (1, .int (Int32.ofNat k)), (2, .ref a)]) (st' := [.int (Int32.ofNat k), .ref l]) rfl ?_
  refine At.clv (as := [.ref l, .int (Int32.ofNat k)]) (rest := []) rfl (by decide) rfl (Nat.le_of_ble_eq_true rfl) (Nat.le_of_ble_eq_true rfl) (xrck_o (by decide) (by decide) h1 (by decide)) (Nat.le_of_ble_eq_true rfl) (m_rangeAdd h1 hk (by omega)) ?_
  refine At.go (q := xm168) rfl 2 (pc' := 7) (L' := [(0, .ref l), (1, .int (Int32.ofNat k)), (2, .ref a)]) (st' := [.ref l, .ref l]) rfl ?_
  refine At.gf rfl (by decide) h1 rfl ?_
  refine At.go (q := xm168) rfl 2 (pc' := 12) (L' := [(0, .ref l), (1, .int (Int32.ofNat k)), (2, .ref a)]) (st' := [.int (mc + 1), .ref l]) rfl ?_
  refine At.pf rfl h1 (Nat.le_of_ble_eq_true rfl) xfit_i ?_
  obtain ⟨hp1, ehp1⟩ : ∃ h, h = hp.set l (.inr (2, [.int (mc + 1), .ref e, .int (Int32.ofNat as.length)])) := ⟨_, rfl⟩
  refine At.hpe ehp1 ?_
  have fhp1_l : hp1[l]? = some (.inr (2, [.int (mc + 1), .ref e, .int (Int32.ofNat as.length)])) := by rw [ehp1]; exact xs_eq h1
  have fhp1_e : hp1[e]? = some (.inl (7, (as.map Value.ref ++ List.replicate m .null))) := by rw [ehp1]; exact xs_ne (xn_ra h1 h2) h2
  have f1 : FrX (fun x => x = l) hp hp1 := by rw [ehp1]; exact FrX.lo h1 (Or.inl ⟨_, _, rfl⟩)
  refine At.go (q := xm168) rfl 1 (pc' := 16) (L' := [(0, .ref l), (1, .int (Int32.ofNat k)), (2, .ref a)]) (st' := [.ref l]) rfl ?_
  refine At.gf rfl (by decide) fhp1_l rfl ?_
  refine At.go (q := xm168) rfl 3 (pc' := 22) (L' := [(3, .int (Int32.ofNat as.length)), (0, .ref l), (1, .int (Int32.ofNat k)), (2, .ref a)]) (st' := [.ref l, .int (Int32.ofNat as.length)]) rfl ?_
  refine At.gf rfl (by decide) fhp1_l rfl ?_
  refine At.go (q := xm168) rfl 2 (pc' := 28) (L' := [(4, .ref e), (3, .int (Int32.ofNat as.length)), (0, .ref l), (1, .int (Int32.ofNat k)), (2, .ref a)]) (st' := [.ref e, .int (Int32.ofNat as.length)]) rfl ?_
  refine At.ln rfl fhp1_e ?_
  rw [xlst]
  refine At.ic2 (tgt := 38) rfl rfl (fun _ => ?_) (fun h => absurd (h.symm.trans (decide_eq_true (fun h => absurd (iN_inj (by omega) (by omega) h) (by omega)))) (by decide))
  refine (ins_tail (by decide) (fun b hb => (hob b hb).fr f1) (ha.fr f1) hk hm h3 fhp1_l fhp1_e).mono (fun o h => ?_)
  obtain ⟨hp2, k1, k2, k3, k4⟩ := h
  have k5 := capL_e h1 h2
  rw [xlst] at k5
  exact ⟨_, _, _, _, k1, rfl, FrX.tr f1 k2 (fun x hx => Or.inl hx), k3, by omega, by omega, by omega⟩
theorem ins_B {S : List Int32} {hp : List XC} {l e a k m : Nat} {mc : Int32} {as : List Nat} (hO : Own hp) (hob : ∀ a ∈ as, hOb hp a) (ha : hOb hp a) (hk : k ≤ as.length) (hn : as.length ≤ 60000) (h1 : hp[l]? = some (.inr (2, [.int mc, .ref e, .int (Int32.ofNat as.length)]))) (h2 : hp[e]? = some (.inl (7, as.map Value.ref))) : Me S 5 168 [.ref l, .int (Int32.ofNat k), .ref a] hp (fun v hp' c s => v = none ∧ RAdd hp l (insAt as k a) hp' c s) := by
  refine At.go (q := xm168) rfl 2 (pc' := 2) (L' := [(0, .ref l), (1, .int (Int32.ofNat k)), (2, .ref a)]) (st' := [.int (Int32.ofNat k), .ref l]) rfl ?_
  refine At.clv (as := [.ref l, .int (Int32.ofNat k)]) (rest := []) rfl (by decide) rfl (Nat.le_of_ble_eq_true rfl) (Nat.le_of_ble_eq_true rfl) (xrck_o (by decide) (by decide) h1 (by decide)) (Nat.le_of_ble_eq_true rfl) (m_rangeAdd h1 hk (by omega)) ?_
  refine At.go (q := xm168) rfl 2 (pc' := 7) (L' := [(0, .ref l), (1, .int (Int32.ofNat k)), (2, .ref a)]) (st' := [.ref l, .ref l]) rfl ?_
  refine At.gf rfl (by decide) h1 rfl ?_
  refine At.go (q := xm168) rfl 2 (pc' := 12) (L' := [(0, .ref l), (1, .int (Int32.ofNat k)), (2, .ref a)]) (st' := [.int (mc + 1), .ref l]) rfl ?_
  refine At.pf rfl h1 (Nat.le_of_ble_eq_true rfl) xfit_i ?_
  obtain ⟨hp1, ehp1⟩ : ∃ h, h = hp.set l (.inr (2, [.int (mc + 1), .ref e, .int (Int32.ofNat as.length)])) := ⟨_, rfl⟩
  refine At.hpe ehp1 ?_
  have fhp1_l : hp1[l]? = some (.inr (2, [.int (mc + 1), .ref e, .int (Int32.ofNat as.length)])) := by rw [ehp1]; exact xs_eq h1
  have fhp1_e : hp1[e]? = some (.inl (7, (as.map Value.ref))) := by rw [ehp1]; exact xs_ne (xn_ra h1 h2) h2
  have f1 : FrX (fun x => x = l) hp hp1 := by rw [ehp1]; exact FrX.lo h1 (Or.inl ⟨_, _, rfl⟩)
  have hF : hFull hp1 l as (mc + 1) (.ref e) := ⟨fun b hb => (hob b hb).fr f1, Or.inr ⟨e, rfl, fhp1_e⟩, fhp1_l⟩
  refine At.go (q := xm168) rfl 1 (pc' := 16) (L' := [(0, .ref l), (1, .int (Int32.ofNat k)), (2, .ref a)]) (st' := [.ref l]) rfl ?_
  refine At.gf rfl (by decide) fhp1_l rfl ?_
  refine At.go (q := xm168) rfl 3 (pc' := 22) (L' := [(3, .int (Int32.ofNat as.length)), (0, .ref l), (1, .int (Int32.ofNat k)), (2, .ref a)]) (st' := [.ref l, .int (Int32.ofNat as.length)]) rfl ?_
  refine At.gf rfl (by decide) fhp1_l rfl ?_
  refine At.go (q := xm168) rfl 2 (pc' := 28) (L' := [(4, .ref e), (3, .int (Int32.ofNat as.length)), (0, .ref l), (1, .int (Int32.ofNat k)), (2, .ref a)]) (st' := [.ref e, .int (Int32.ofNat as.length)]) rfl ?_
  refine At.ln rfl fhp1_e ?_
  rw [List.length_map]
  refine At.ic2 (tgt := 38) rfl rfl (fun h => absurd (h.symm.trans (decide_eq_false (fun h => h rfl))) (by decide)) (fun _ => ?_)
  refine At.go (q := xm168) rfl 1 (pc' := 33) (L' := [(4, .ref e), (3, .int (Int32.ofNat as.length)), (0, .ref l), (1, .int (Int32.ofNat k)), (2, .ref a)]) (st' := [.ref l]) rfl ?_
  refine At.clm (as := [.ref l]) (rest := []) rfl (by decide) rfl (Nat.le_of_ble_eq_true rfl) (Nat.le_of_ble_eq_true rfl) (xrck_o (by decide) (by decide) fhp1_l (by decide)) (Nat.le_of_ble_eq_true rfl) (m_grow hF hn) (fun v hp2 c s hv => ?_)
  obtain ⟨rfl, hc, m, g1, g2, g4, g3⟩ := hv
  obtain ⟨f2, f3, f4⟩ := grow_fr hF (f1.2.1 hO) g3
  obtain ⟨e2, he2⟩ : ∃ q, q = hp1.length := ⟨_, rfl⟩
  rw [← he2] at f3 f4 ⊢
  refine At.go (q := xm168) rfl 1 (pc' := 38) (L' := [(4, .ref e2), (3, .int (Int32.ofNat as.length)), (0, .ref l), (1, .int (Int32.ofNat k)), (2, .ref a)]) (st' := []) rfl ?_
  refine (ins_tail (by decide) (fun b hb => (hF.1 b hb).fr f2) ((ha.fr f1).fr f2) hk g1 g2 f3 f4).mono (fun o h => ?_)
  obtain ⟨hp3, k1, k2, k3, k4⟩ := h
  have k5 := capL_e h1 h2
  have k6 := insAt_len (as := as) (k := k) (a := a)
  simp only [List.length_map, List.length_nil] at k4 k5 k6 g4
  exact ⟨_, _, _, _, k1, rfl, FrX.tr (FrX.tr f1 f2 (fun x hx => Or.inl hx)) k2 (fun x hx => Or.inl hx), k3, by omega, by omega, by omega⟩
theorem ins_C {S : List Int32} {hp : List XC} {l a : Nat} {mc : Int32} (hO : Own hp) (ha : hOb hp a) (h1 : hp[l]? = some (.inr (2, [.int mc, .retAddr 225, .int 0]))) : Me S 5 168 [.ref l, .int 0, .ref a] hp (fun v hp' c s => v = none ∧ RAdd hp l (insAt [] 0 a) hp' c s) := by
  refine At.go (q := xm168) rfl 2 (pc' := 2) (L' := [(0, .ref l), (1, .int 0), (2, .ref a)]) (st' := [.int 0, .ref l]) rfl ?_
  refine At.clv (as := [.ref l, .int 0]) (rest := []) rfl (by decide) rfl (Nat.le_of_ble_eq_true rfl) (Nat.le_of_ble_eq_true rfl) (xrck_o (by decide) (by decide) h1 (by decide)) (Nat.le_of_ble_eq_true rfl) (m_rangeAdd (k := 0) (n := 0) h1 (Nat.le_refl 0) (by decide)) ?_
  refine At.go (q := xm168) rfl 2 (pc' := 7) (L' := [(0, .ref l), (1, .int 0), (2, .ref a)]) (st' := [.ref l, .ref l]) rfl ?_
  refine At.gf rfl (by decide) h1 rfl ?_
  refine At.go (q := xm168) rfl 2 (pc' := 12) (L' := [(0, .ref l), (1, .int 0), (2, .ref a)]) (st' := [.int (mc + 1), .ref l]) rfl ?_
  refine At.pf rfl h1 (Nat.le_of_ble_eq_true rfl) xfit_i ?_
  obtain ⟨hp1, ehp1⟩ : ∃ h, h = hp.set l (.inr (2, [.int (mc + 1), .retAddr 225, .int 0])) := ⟨_, rfl⟩
  refine At.hpe ehp1 ?_
  have fhp1_l : hp1[l]? = some (.inr (2, [.int (mc + 1), .retAddr 225, .int 0])) := by rw [ehp1]; exact xs_eq h1
  have f1 : FrX (fun x => x = l) hp hp1 := by rw [ehp1]; exact FrX.lo h1 (Or.inr (Or.inl (fun e h => by cases h)))
  have hF : hFull hp1 l [] (mc + 1) (.retAddr 225) := ⟨fun b hb => (by cases hb), Or.inl ⟨rfl, rfl⟩, fhp1_l⟩
  refine At.go (q := xm168) rfl 1 (pc' := 16) (L' := [(0, .ref l), (1, .int 0), (2, .ref a)]) (st' := [.ref l]) rfl ?_
  refine At.gf rfl (by decide) fhp1_l rfl ?_
  refine At.go (q := xm168) rfl 3 (pc' := 22) (L' := [(3, .int 0), (0, .ref l), (1, .int 0), (2, .ref a)]) (st' := [.ref l, .int 0]) rfl ?_
  refine At.gf rfl (by decide) fhp1_l rfl ?_
  refine At.go (q := xm168) rfl 2 (pc' := 28) (L' := [(4, .retAddr 225), (3, .int 0), (0, .ref l), (1, .int 0), (2, .ref a)]) (st' := [.retAddr 225, .int 0]) rfl ?_
  refine At.lk rfl rfl ?_
  refine At.ic2 (tgt := 38) rfl rfl (fun h => absurd (h.symm.trans rfl) (by decide)) (fun _ => ?_)
  refine At.go (q := xm168) rfl 1 (pc' := 33) (L' := [(4, .retAddr 225), (3, .int 0), (0, .ref l), (1, .int 0), (2, .ref a)]) (st' := [.ref l]) rfl ?_
  refine At.clm (as := [.ref l]) (rest := []) rfl (by decide) rfl (Nat.le_of_ble_eq_true rfl) (Nat.le_of_ble_eq_true rfl) (xrck_o (by decide) (by decide) fhp1_l (by decide)) (Nat.le_of_ble_eq_true rfl) (m_grow (as := []) hF (by decide)) (fun v hp2 c s hv => ?_)
  obtain ⟨rfl, hc, m, g1, g2, g4, g3⟩ := hv
  obtain ⟨f2, f3, f4⟩ := grow_fr hF (f1.2.1 hO) g3
  obtain ⟨e2, he2⟩ : ∃ q, q = hp1.length := ⟨_, rfl⟩
  rw [← he2] at f3 f4 ⊢
  refine At.go (q := xm168) rfl 1 (pc' := 38) (L' := [(4, .ref e2), (3, .int 0), (0, .ref l), (1, .int 0), (2, .ref a)]) (st' := []) rfl ?_
  refine (ins_tail (as := []) (k := 0) (by decide) (fun b hb => (hF.1 b hb).fr f2) ((ha.fr f1).fr f2) (Nat.le_refl 0) g1 g2 f3 f4).mono (fun o h => ?_)
  obtain ⟨hp3, k1, k2, k3, k4⟩ := h
  have k5 := capL_0 h1
  have k6 := insAt_len (as := []) (k := 0) (a := a)
  simp only [List.length_map, List.length_nil] at k4 k5 k6 g4
  exact ⟨_, _, _, _, k1, rfl, FrX.tr (FrX.tr f1 f2 (fun x hx => Or.inl hx)) k2 (fun x hx => Or.inl hx), k3, by omega, by omega, by omega⟩
/-- add(int, E) -/
theorem m_addAt {S : List Int32} {hp : List XC} {l a k : Nat} {as : List Nat} (hO : Own hp) (hL : hLs hp l as) (ha : hOb hp a) (hk : k ≤ as.length) (hn : as.length ≤ 60000) : Me S 5 168 [.ref l, .int (Int32.ofNat k), .ref a] hp (fun v hp' c s => v = none ∧ RAdd hp l (insAt as k a) hp' c s) := by
  obtain ⟨hob, mc, ⟨rfl, h1⟩ | ⟨e, m, h1, h2, h3⟩⟩ := hL
  · obtain rfl : k = 0 := Nat.le_zero.mp hk
    exact ins_C hO ha h1
  · by_cases hm : m = 0
    · exact ins_B (e := e) (m := 0) hO hob ha hk hn h1 (xrep0 hm h2)
    · exact ins_A hO hob ha hk hn (by omega) h3 h1 h2
