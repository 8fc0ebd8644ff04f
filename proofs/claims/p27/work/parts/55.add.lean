/-! lists: add at the end (written by wip/p27/c55.py) -/
theorem add_tail0 {S : List Int32} {hp : List XC} {l e a m d nc ns : Nat} {mc : Int32} {as : List Nat} (hob : ∀ a ∈ as, hOb hp a) (ha : hOb hp a) (hm : 1 ≤ m) (h3 : as.length + m ≤ 100000) (h1 : hp[l]? = some (.inr (2, [.int mc, .ref e, .int (Int32.ofNat as.length)]))) (h2 : hp[e]? = some (.inl (7, as.map Value.ref ++ List.replicate m .null))) : At S d 131 11 [(0, .ref l), (1, .ref a), (2, .ref e), (3, .int (Int32.ofNat as.length))] [] hp nc ns (fun o => ∃ hp', o = .inl (none, hp', nc, ns) ∧ FrX (fun x => x = l) hp hp' ∧ hLs hp' l (as ++ [a]) ∧ capL hp' l = as.length + m) := by
  refine At.go (q := xm131) rfl 3 (pc' := 14) (L' := [(0, .ref l), (1, .ref a), (2, .ref e), (3, .int (Int32.ofNat as.length))]) (st' := [.ref a, .int (Int32.ofNat as.length), .ref e]) rfl ?_
  refine At.qs rfl h2 (by decide) rfl (iN_nn (by omega)) (by rw [iN_tn (by omega), xlst]; omega) (qs_ob ha) ?_
  rw [iN_tn (by omega), xset_at (by omega)]
  obtain ⟨hp1, ehp1⟩ : ∃ h, h = hp.set e (.inl (7, (as ++ [a]).map Value.ref ++ List.replicate (m - 1) .null)) := ⟨_, rfl⟩
  refine At.hpe ehp1 ?_
  have fhp1_l : hp1[l]? = some (.inr (2, [.int mc, .ref e, .int (Int32.ofNat as.length)])) := by rw [ehp1]; exact xs_ne (xn_ar h2 h1) h1
  have fhp1_e : hp1[e]? = some (.inl (7, ((as ++ [a]).map Value.ref ++ List.replicate (m - 1) .null))) := by rw [ehp1]; exact xs_eq h2
  refine At.go (q := xm131) rfl 4 (pc' := 19) (L' := [(0, .ref l), (1, .ref a), (2, .ref e), (3, .int (Int32.ofNat as.length))]) (st' := [.int ((Int32.ofNat as.length) + 1), .ref l]) rfl ?_
  rw [iN_s]
  refine At.pf rfl fhp1_l (Nat.le_of_ble_eq_true rfl) xfit_i ?_
  obtain ⟨hp2, ehp2⟩ : ∃ h, h = hp1.set l (.inr (2, [.int mc, .ref e, .int (Int32.ofNat (as.length + 1))])) := ⟨_, rfl⟩
  refine At.hpe ehp2 ?_
  have fhp2_l : hp2[l]? = some (.inr (2, [.int mc, .ref e, .int (Int32.ofNat (as.length + 1))])) := by rw [ehp2]; exact xs_eq fhp1_l
  have fhp2_e : hp2[e]? = some (.inl (7, ((as ++ [a]).map Value.ref ++ List.replicate (m - 1) .null))) := by rw [ehp2]; exact xs_ne (xn_ra fhp1_l fhp1_e) fhp1_e
  refine At.rt rfl rfl ⟨hp2, rfl, ?_, ⟨fun b hb => ?_, mc, Or.inr ⟨e, m - 1, by rw [List.length_append]; exact fhp2_l, fhp2_e, by rw [List.length_append]; show as.length + 1 + (m - 1) ≤ _; omega⟩⟩, by rw [capL_e fhp2_l fhp2_e, xlst, List.length_append]; show as.length + 1 + (m - 1) = _; omega⟩
  · exact FrX.tr (Q := fun x => x = l) (b := hp1) (by rw [ehp1]; exact FrX.la h1 h2) (by rw [ehp2]; exact FrX.lo fhp1_l (Or.inl ⟨_, _, rfl⟩)) (fun x hx => Or.inl hx)
  · have hc1 : FrX (fun x => x = l) hp hp1 := by rw [ehp1]; exact FrX.la h1 h2
    have hc2 : FrX (fun x => x = l) hp1 hp2 := by rw [ehp2]; exact FrX.lo fhp1_l (Or.inl ⟨_, _, rfl⟩)
    rcases List.mem_append.mp hb with hb | hb
    · exact ((hob b hb).fr hc1).fr hc2
    · rw [List.mem_singleton.mp hb]; exact (ha.fr hc1).fr hc2
theorem add_tail1 {S : List Int32} {hp : List XC} {l e a m d nc ns : Nat} {mc : Int32} {as : List Nat} (hob : ∀ a ∈ as, hOb hp a) (ha : hOb hp a) (hm : 1 ≤ m) (h3 : as.length + m ≤ 100000) (h1 : hp[l]? = some (.inr (2, [.int mc, .ref e, .int (Int32.ofNat as.length)]))) (h2 : hp[e]? = some (.inl (7, as.map Value.ref ++ List.replicate m .null))) : At S d 131 11 [(2, .ref e), (0, .ref l), (1, .ref a), (3, .int (Int32.ofNat as.length))] [] hp nc ns (fun o => ∃ hp', o = .inl (none, hp', nc, ns) ∧ FrX (fun x => x = l) hp hp' ∧ hLs hp' l (as ++ [a]) ∧ capL hp' l = as.length + m) := by
  refine At.go (q := xm131) rfl 3 (pc' := 14) (L' := [(2, .ref e), (0, .ref l), (1, .ref a), (3, .int (Int32.ofNat as.length))]) (st' := [.ref a, .int (Int32.ofNat as.length), .ref e]) rfl ?_
  refine At.qs rfl h2 (by decide) rfl (iN_nn (by omega)) (by rw [iN_tn (by omega), xlst]; omega) (qs_ob ha) ?_
  rw [iN_tn (by omega), xset_at (by omega)]
  obtain ⟨hp1, ehp1⟩ : ∃ h, h = hp.set e (.inl (7, (as ++ [a]).map Value.ref ++ List.replicate (m - 1) .null)) := ⟨_, rfl⟩
  refine At.hpe ehp1 ?_
  have fhp1_l : hp1[l]? = some (.inr (2, [.int mc, .ref e, .int (Int32.ofNat as.length)])) := by rw [ehp1]; exact xs_ne (xn_ar h2 h1) h1
  have fhp1_e : hp1[e]? = some (.inl (7, ((as ++ [a]).map Value.ref ++ List.replicate (m - 1) .null))) := by rw [ehp1]; exact xs_eq h2
  refine At.go (q := xm131) rfl 4 (pc' := 19) (L' := [(2, .ref e), (0, .ref l), (1, .ref a), (3, .int (Int32.ofNat as.length))]) (st' := [.int ((Int32.ofNat as.length) + 1), .ref l]) rfl ?_
  rw [iN_s]
  refine At.pf rfl fhp1_l (Nat.le_of_ble_eq_true rfl) xfit_i ?_
  obtain ⟨hp2, ehp2⟩ : ∃ h, h = hp1.set l (.inr (2, [.int mc, .ref e, .int (Int32.ofNat (as.length + 1))])) := ⟨_, rfl⟩
  refine At.hpe ehp2 ?_
  have fhp2_l : hp2[l]? = some (.inr (2, [.int mc, .ref e, .int (Int32.ofNat (as.length + 1))])) := by rw [ehp2]; exact xs_eq fhp1_l
  have fhp2_e : hp2[e]? = some (.inl (7, ((as ++ [a]).map Value.ref ++ List.replicate (m - 1) .null))) := by rw [ehp2]; exact xs_ne (xn_ra fhp1_l fhp1_e) fhp1_e
  refine At.rt rfl rfl ⟨hp2, rfl, ?_, ⟨fun b hb => ?_, mc, Or.inr ⟨e, m - 1, by rw [List.length_append]; exact fhp2_l, fhp2_e, by rw [List.length_append]; show as.length + 1 + (m - 1) ≤ _; omega⟩⟩, by rw [capL_e fhp2_l fhp2_e, xlst, List.length_append]; show as.length + 1 + (m - 1) = _; omega⟩
  · exact FrX.tr (Q := fun x => x = l) (b := hp1) (by rw [ehp1]; exact FrX.la h1 h2) (by rw [ehp2]; exact FrX.lo fhp1_l (Or.inl ⟨_, _, rfl⟩)) (fun x hx => Or.inl hx)
  · have hc1 : FrX (fun x => x = l) hp hp1 := by rw [ehp1]; exact FrX.la h1 h2
    have hc2 : FrX (fun x => x = l) hp1 hp2 := by rw [ehp2]; exact FrX.lo fhp1_l (Or.inl ⟨_, _, rfl⟩)
    rcases List.mem_append.mp hb with hb | hb
    · exact ((hob b hb).fr hc1).fr hc2
    · rw [List.mem_singleton.mp hb]; exact (ha.fr hc1).fr hc2
/-- the heap behind grow -/
theorem grow_fr {hp hp' : List XC} {l m : Nat} {as : List Nat} {mc : Int32} {ev : Value} (h : hFull hp l as mc ev) (hO : Own hp) (e : hp' = (hp ++ [(Sum.inl (7, as.map Value.ref ++ List.replicate m .null) : XC)]).set l (.inr (2, [.int mc, .ref hp.length, .int (Int32.ofNat as.length)]))) : FrX (fun x => x = l) hp hp' ∧ hp'[l]? = some (.inr (2, [.int mc, .ref hp.length, .int (Int32.ofNat as.length)])) ∧ hp'[hp.length]? = some (.inl (7, as.map Value.ref ++ List.replicate m .null)) := by
  obtain ⟨hob, hev, h1⟩ := h
  have f1 : FrX (fun x => x = l) hp (hp ++ [(Sum.inl (7, as.map Value.ref ++ List.replicate m .null) : XC)]) := FrX.nw (fun _ _ _ q => by cases q)
  have g1 := xa_lt (cs := [(Sum.inl (7, as.map Value.ref ++ List.replicate m .null) : XC)]) h1
  have g2 : (hp ++ [(Sum.inl (7, as.map Value.ref ++ List.replicate m .null) : XC)])[hp.length]? = _ := xa_eq
  rw [e]
  refine ⟨FrX.tr (Q := fun x => x = l) f1 (FrX.lo g1 (Or.inr (Or.inr ⟨hp.length, rfl, by rw [List.length_append]; exact Nat.lt_succ_self _, fun l' a n q => ?_⟩))) (fun x hx => Or.inl hx), xs_eq g1, xs_ne (xn_ra g1 g2) g2⟩
  exact Nat.lt_irrefl _ (by
    have q9 := (f1.2.1 hO)
    rcases Nat.lt_or_ge l' hp.length with hl | hl
    · rw [List.getElem?_append_left hl] at q
      exact hO.2 _ _ _ _ q
    · rw [List.getElem?_append_right hl] at q
      cases List.mem_singleton.mp (List.mem_of_getElem? q))
theorem add_A {S : List Int32} {hp : List XC} {l e a m : Nat} {mc : Int32} {as : List Nat} (hob : ∀ a ∈ as, hOb hp a) (ha : hOb hp a) (hm : 1 ≤ m) (h3 : as.length + m ≤ 100000) (h1 : hp[l]? = some (.inr (2, [.int mc, .ref e, .int (Int32.ofNat as.length)]))) (h2 : hp[e]? = some (.inl (7, as.map Value.ref ++ List.replicate m .null))) : Me S 5 131 [.ref l, .ref a, .ref e, .int (Int32.ofNat as.length)] hp (fun v hp' c s => v = none ∧ RAdd hp l (as ++ [a]) hp' c s) := by
  refine At.go (q := xm131) rfl 2 (pc' := 2) (L' := [(0, .ref l), (1, .ref a), (2, .ref e), (3, .int (Int32.ofNat as.length))]) (st' := [.ref e, .int (Int32.ofNat as.length)]) rfl ?_
  refine At.ln rfl h2 ?_
  rw [xlst]
  refine At.ic2 (tgt := 11) rfl rfl (fun _ => ?_) (fun h => absurd (h.symm.trans (decide_eq_true (fun h => absurd (iN_inj (by omega) (by omega) h) (by omega)))) (by decide))
  refine (add_tail0 hob ha hm h3 h1 h2).mono (fun o h => ?_)
  obtain ⟨hp1, g1, g2, g3, g4⟩ := h
  have g5 := capL_e h1 h2
  rw [xlst] at g5
  exact ⟨_, _, _, _, g1, rfl, g2, g3, by omega, by omega, by omega⟩
theorem add_B {S : List Int32} {hp : List XC} {l e a : Nat} {mc : Int32} {as : List Nat} (hO : Own hp) (hF : hFull hp l as mc (.ref e)) (ha : hOb hp a) (hn : as.length ≤ 60000) (h1 : hp[l]? = some (.inr (2, [.int mc, .ref e, .int (Int32.ofNat as.length)]))) (h2 : hp[e]? = some (.inl (7, as.map Value.ref))) : Me S 5 131 [.ref l, .ref a, .ref e, .int (Int32.ofNat as.length)] hp (fun v hp' c s => v = none ∧ RAdd hp l (as ++ [a]) hp' c s) := by
  refine At.go (q := xm131) rfl 2 (pc' := 2) (L' := [(0, .ref l), (1, .ref a), (2, .ref e), (3, .int (Int32.ofNat as.length))]) (st' := [.ref e, .int (Int32.ofNat as.length)]) rfl ?_
  refine At.ln rfl h2 ?_
  rw [List.length_map]
  refine At.ic2 (tgt := 11) rfl rfl (fun h => absurd (h.symm.trans (decide_eq_false (fun h => h rfl))) (by decide)) (fun _ => ?_)
  refine At.go (q := xm131) rfl 1 (pc' := 7) (L' := [(0, .ref l), (1, .ref a), (2, .ref e), (3, .int (Int32.ofNat as.length))]) (st' := [.ref l]) rfl ?_
  refine At.clm (as := [.ref l]) (rest := []) rfl (by decide) rfl (Nat.le_of_ble_eq_true rfl) (Nat.le_of_ble_eq_true rfl) (xrck_o (by decide) (by decide) h1 (by decide)) (Nat.le_of_ble_eq_true rfl) (m_grow hF hn) (fun v hp1 c s hv => ?_)
  obtain ⟨rfl, hc, m, g1, g2, g4, g3⟩ := hv
  obtain ⟨f1, f2, f3⟩ := grow_fr hF hO g3
  obtain ⟨e2, he2⟩ : ∃ q, q = hp.length := ⟨_, rfl⟩
  rw [← he2] at f2 f3 ⊢
  refine At.go (q := xm131) rfl 1 (pc' := 11) (L' := [(2, .ref e2), (0, .ref l), (1, .ref a), (3, .int (Int32.ofNat as.length))]) (st' := []) rfl ?_
  refine (add_tail1 (fun b hb => (hF.1 b hb).fr f1) (ha.fr f1) g1 g2 f2 f3).mono (fun o h => ?_)
  obtain ⟨hp2, k1, k2, k3, k4⟩ := h
  have k5 := capL_e h1 h2
  simp only [List.length_append, List.length_cons, List.length_nil, List.length_map] at *
  exact ⟨_, _, _, _, k1, rfl, FrX.tr f1 k2 (fun x hx => Or.inl hx), k3, by omega, by omega, by simp only [List.length_append, List.length_cons, List.length_nil]; omega⟩
theorem add_C {S : List Int32} {hp : List XC} {l a : Nat} {mc : Int32} (hO : Own hp) (hF : hFull hp l [] mc (.retAddr 225)) (ha : hOb hp a) (h1 : hp[l]? = some (.inr (2, [.int mc, .retAddr 225, .int 0]))) : Me S 5 131 [.ref l, .ref a, .retAddr 225, .int 0] hp (fun v hp' c s => v = none ∧ RAdd hp l ([] ++ [a]) hp' c s) := by
  refine At.go (q := xm131) rfl 2 (pc' := 2) (L' := [(0, .ref l), (1, .ref a), (2, .retAddr 225), (3, .int 0)]) (st' := [.retAddr 225, .int 0]) rfl ?_
  refine At.lk rfl rfl ?_
  refine At.ic2 (tgt := 11) rfl rfl (fun h => absurd (h.symm.trans rfl) (by decide)) (fun _ => ?_)
  refine At.go (q := xm131) rfl 1 (pc' := 7) (L' := [(0, .ref l), (1, .ref a), (2, .retAddr 225), (3, .int 0)]) (st' := [.ref l]) rfl ?_
  refine At.clm (as := [.ref l]) (rest := []) rfl (by decide) rfl (Nat.le_of_ble_eq_true rfl) (Nat.le_of_ble_eq_true rfl) (xrck_o (by decide) (by decide) h1 (by decide)) (Nat.le_of_ble_eq_true rfl) (m_grow (as := []) hF (by decide)) (fun v hp1 c s hv => ?_)
  obtain ⟨rfl, hc, m, g1, g2, g4, g3⟩ := hv
  obtain ⟨f1, f2, f3⟩ := grow_fr hF hO g3
  obtain ⟨e2, he2⟩ : ∃ q, q = hp.length := ⟨_, rfl⟩
  rw [← he2] at f2 f3 ⊢
  refine At.go (q := xm131) rfl 1 (pc' := 11) (L' := [(2, .ref e2), (0, .ref l), (1, .ref a), (3, .int 0)]) (st' := []) rfl ?_
  refine (add_tail1 (as := []) (fun b hb => (hF.1 b hb).fr f1) (ha.fr f1) g1 g2 f2 f3).mono (fun o h => ?_)
  obtain ⟨hp2, k1, k2, k3, k4⟩ := h
  have k5 := capL_0 h1
  simp only [List.length_append, List.length_cons, List.length_nil, List.length_map] at *
  exact ⟨_, _, _, _, k1, rfl, FrX.tr f1 k2 (fun x hx => Or.inl hx), k3, by omega, by omega, by simp only [List.length_append, List.length_cons, List.length_nil]; omega⟩
theorem addE_C {S : List Int32} {hp : List XC} {l a : Nat} {mc : Int32} (hO : Own hp) (ha : hOb hp a) (h1 : hp[l]? = some (.inr (2, [.int mc, .retAddr 225, .int 0]))) : Me S 6 130 [.ref l, .ref a] hp (fun v hp' c s => v = some (.int 1) ∧ RAdd hp l ([] ++ [a]) hp' c s) := by
  refine At.go (q := xm130) rfl 2 (pc' := 2) (L' := [(0, .ref l), (1, .ref a)]) (st' := [.ref l, .ref l]) rfl ?_
  refine At.gf rfl (by decide) h1 rfl ?_
  refine At.go (q := xm130) rfl 2 (pc' := 7) (L' := [(0, .ref l), (1, .ref a)]) (st' := [.int (mc + 1), .ref l]) rfl ?_
  refine At.pf rfl h1 (Nat.le_of_ble_eq_true rfl) xfit_i ?_
  obtain ⟨hp1, ehp1⟩ : ∃ h, h = hp.set l (.inr (2, [.int (mc + 1), .retAddr 225, .int 0])) := ⟨_, rfl⟩
  refine At.hpe ehp1 ?_
  have fhp1_l : hp1[l]? = some (.inr (2, [.int (mc + 1), .retAddr 225, .int 0])) := by rw [ehp1]; exact xs_eq h1
  refine At.go (q := xm130) rfl 3 (pc' := 13) (L' := [(0, .ref l), (1, .ref a)]) (st' := [.ref l, .ref a, .ref l]) rfl ?_
  refine At.gf rfl (by decide) fhp1_l rfl ?_
  refine At.go (q := xm130) rfl 1 (pc' := 17) (L' := [(0, .ref l), (1, .ref a)]) (st' := [.ref l, .retAddr 225, .ref a, .ref l]) rfl ?_
  refine At.gf rfl (by decide) fhp1_l rfl ?_
  have k0 : capL hp1 l = capL hp l := by rw [capL_0 fhp1_l, capL_0 h1]
  have f1 : FrX (fun x => x = l) hp hp1 := by rw [ehp1]; exact FrX.lo h1 (Or.inr (Or.inl (fun e h => by cases h)))
  refine At.clm (as := [.ref l, .ref a, .retAddr 225, .int 0]) (rest := []) rfl (by decide) rfl (Nat.le_of_ble_eq_true rfl) (Nat.le_of_ble_eq_true rfl) (xrck_o (by decide) (by decide) fhp1_l (by decide)) (Nat.le_of_ble_eq_true rfl) (add_C (f1.2.1 hO) ⟨fun b hb => (by cases hb), Or.inl ⟨rfl, rfl⟩, fhp1_l⟩ (ha.fr f1) fhp1_l) (fun v hp2 c s hv => ?_)
  obtain ⟨rfl, k1, k2, k3, k4, k5⟩ := hv
  refine At.go (q := xm130) rfl 1 (pc' := 24) (L' := [(0, .ref l), (1, .ref a)]) (st' := [.int 1]) rfl ?_
  exact At.rt rfl rfl ⟨_, _, _, _, rfl, rfl, FrX.tr f1 k1 (fun x hx => Or.inl hx), k2, by omega, by omega, by omega⟩
theorem addE_A {S : List Int32} {hp : List XC} {l e a m : Nat} {mc : Int32} {as : List Nat} (hO : Own hp) (hob : ∀ a ∈ as, hOb hp a) (ha : hOb hp a) (hn : as.length ≤ 60000) (h3 : as.length + m ≤ 100000) (h1 : hp[l]? = some (.inr (2, [.int mc, .ref e, .int (Int32.ofNat as.length)]))) (h2 : hp[e]? = some (.inl (7, as.map Value.ref ++ List.replicate m .null))) (hm : 1 ≤ m) : Me S 6 130 [.ref l, .ref a] hp (fun v hp' c s => v = some (.int 1) ∧ RAdd hp l (as ++ [a]) hp' c s) := by
  refine At.go (q := xm130) rfl 2 (pc' := 2) (L' := [(0, .ref l), (1, .ref a)]) (st' := [.ref l, .ref l]) rfl ?_
  refine At.gf rfl (by decide) h1 rfl ?_
  refine At.go (q := xm130) rfl 2 (pc' := 7) (L' := [(0, .ref l), (1, .ref a)]) (st' := [.int (mc + 1), .ref l]) rfl ?_
  refine At.pf rfl h1 (Nat.le_of_ble_eq_true rfl) xfit_i ?_
  obtain ⟨hp1, ehp1⟩ : ∃ h, h = hp.set l (.inr (2, [.int (mc + 1), .ref e, .int (Int32.ofNat as.length)])) := ⟨_, rfl⟩
  refine At.hpe ehp1 ?_
  have fhp1_l : hp1[l]? = some (.inr (2, [.int (mc + 1), .ref e, .int (Int32.ofNat as.length)])) := by rw [ehp1]; exact xs_eq h1
  have fhp1_e : hp1[e]? = some (.inl (7, (as.map Value.ref ++ List.replicate m .null))) := by rw [ehp1]; exact xs_ne (xn_ra h1 h2) h2
  refine At.go (q := xm130) rfl 3 (pc' := 13) (L' := [(0, .ref l), (1, .ref a)]) (st' := [.ref l, .ref a, .ref l]) rfl ?_
  refine At.gf rfl (by decide) fhp1_l rfl ?_
  refine At.go (q := xm130) rfl 1 (pc' := 17) (L' := [(0, .ref l), (1, .ref a)]) (st' := [.ref l, .ref e, .ref a, .ref l]) rfl ?_
  refine At.gf rfl (by decide) fhp1_l rfl ?_
  have k0 : capL hp1 l = capL hp l := by rw [capL_e fhp1_l fhp1_e, capL_e h1 h2]
  have f1 : FrX (fun x => x = l) hp hp1 := by rw [ehp1]; exact FrX.lo h1 (Or.inl ⟨_, _, rfl⟩)
  refine At.clm (as := [.ref l, .ref a, .ref e, .int (Int32.ofNat as.length)]) (rest := []) rfl (by decide) rfl (Nat.le_of_ble_eq_true rfl) (Nat.le_of_ble_eq_true rfl) (xrck_o (by decide) (by decide) fhp1_l (by decide)) (Nat.le_of_ble_eq_true rfl) (add_A (fun b hb => (hob b hb).fr f1) (ha.fr f1) hm h3 fhp1_l fhp1_e) (fun v hp2 c s hv => ?_)
  obtain ⟨rfl, k1, k2, k3, k4, k5⟩ := hv
  refine At.go (q := xm130) rfl 1 (pc' := 24) (L' := [(0, .ref l), (1, .ref a)]) (st' := [.int 1]) rfl ?_
  exact At.rt rfl rfl ⟨_, _, _, _, rfl, rfl, FrX.tr f1 k1 (fun x hx => Or.inl hx), k2, by omega, by omega, by omega⟩
theorem xrep0 {hp : List XC} {e m : Nat} {as : List Nat} (hm : m = 0) (h : hp[e]? = some (.inl (7, as.map Value.ref ++ List.replicate m .null))) : hp[e]? = some (.inl (7, as.map Value.ref)) := by
  subst hm
  rw [List.replicate_zero, List.append_nil] at h
  exact h
theorem addE_B {S : List Int32} {hp : List XC} {l e a m : Nat} {mc : Int32} {as : List Nat} (hO : Own hp) (hob : ∀ a ∈ as, hOb hp a) (ha : hOb hp a) (hn : as.length ≤ 60000) (h3 : as.length + m ≤ 100000) (h1 : hp[l]? = some (.inr (2, [.int mc, .ref e, .int (Int32.ofNat as.length)]))) (h2 : hp[e]? = some (.inl (7, as.map Value.ref ++ List.replicate m .null))) (hm : m = 0) : Me S 6 130 [.ref l, .ref a] hp (fun v hp' c s => v = some (.int 1) ∧ RAdd hp l (as ++ [a]) hp' c s) := by
  refine At.go (q := xm130) rfl 2 (pc' := 2) (L' := [(0, .ref l), (1, .ref a)]) (st' := [.ref l, .ref l]) rfl ?_
  refine At.gf rfl (by decide) h1 rfl ?_
  refine At.go (q := xm130) rfl 2 (pc' := 7) (L' := [(0, .ref l), (1, .ref a)]) (st' := [.int (mc + 1), .ref l]) rfl ?_
  refine At.pf rfl h1 (Nat.le_of_ble_eq_true rfl) xfit_i ?_
  obtain ⟨hp1, ehp1⟩ : ∃ h, h = hp.set l (.inr (2, [.int (mc + 1), .ref e, .int (Int32.ofNat as.length)])) := ⟨_, rfl⟩
  refine At.hpe ehp1 ?_
  have fhp1_l : hp1[l]? = some (.inr (2, [.int (mc + 1), .ref e, .int (Int32.ofNat as.length)])) := by rw [ehp1]; exact xs_eq h1
  have fhp1_e : hp1[e]? = some (.inl (7, (as.map Value.ref ++ List.replicate m .null))) := by rw [ehp1]; exact xs_ne (xn_ra h1 h2) h2
  refine At.go (q := xm130) rfl 3 (pc' := 13) (L' := [(0, .ref l), (1, .ref a)]) (st' := [.ref l, .ref a, .ref l]) rfl ?_
  refine At.gf rfl (by decide) fhp1_l rfl ?_
  refine At.go (q := xm130) rfl 1 (pc' := 17) (L' := [(0, .ref l), (1, .ref a)]) (st' := [.ref l, .ref e, .ref a, .ref l]) rfl ?_
  refine At.gf rfl (by decide) fhp1_l rfl ?_
  have k0 : capL hp1 l = capL hp l := by rw [capL_e fhp1_l fhp1_e, capL_e h1 h2]
  have f1 : FrX (fun x => x = l) hp hp1 := by rw [ehp1]; exact FrX.lo h1 (Or.inl ⟨_, _, rfl⟩)
  refine At.clm (as := [.ref l, .ref a, .ref e, .int (Int32.ofNat as.length)]) (rest := []) rfl (by decide) rfl (Nat.le_of_ble_eq_true rfl) (Nat.le_of_ble_eq_true rfl) (xrck_o (by decide) (by decide) fhp1_l (by decide)) (Nat.le_of_ble_eq_true rfl) (add_B (f1.2.1 hO) ⟨fun b hb => (hob b hb).fr f1, Or.inr ⟨e, rfl, xrep0 hm fhp1_e⟩, fhp1_l⟩ (ha.fr f1) hn fhp1_l (xrep0 hm fhp1_e)) (fun v hp2 c s hv => ?_)
  obtain ⟨rfl, k1, k2, k3, k4, k5⟩ := hv
  refine At.go (q := xm130) rfl 1 (pc' := 24) (L' := [(0, .ref l), (1, .ref a)]) (st' := [.int 1]) rfl ?_
  exact At.rt rfl rfl ⟨_, _, _, _, rfl, rfl, FrX.tr f1 k1 (fun x hx => Or.inl hx), k2, by omega, by omega, by omega⟩
/-- add(E) -/
theorem m_add {S : List Int32} {hp : List XC} {l a : Nat} {as : List Nat} (hO : Own hp) (hL : hLs hp l as) (ha : hOb hp a) (hn : as.length ≤ 60000) : Me S 6 130 [.ref l, .ref a] hp (fun v hp' c s => v = some (.int 1) ∧ RAdd hp l (as ++ [a]) hp' c s) := by
  obtain ⟨hob, mc, ⟨rfl, h1⟩ | ⟨e, m, h1, h2, h3⟩⟩ := hL
  · exact addE_C hO ha h1
  · by_cases hm : m = 0
    · exact addE_B hO hob ha hn h3 h1 h2 hm
    · exact addE_A hO hob ha hn h3 h1 h2 (by omega)
