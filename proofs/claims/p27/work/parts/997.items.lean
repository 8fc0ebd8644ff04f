/-! a statement's items (written by wip/p27/c997.py) -/
/-- a statement as it was read: its formula, its condition's and its items' places -/
def hSt (hp : List XC) (s c ka fa if0 if1 items vb : Nat) (kd fr : Nat → Nat) : Prop :=
  ∃ (sf kes fes : List Value), hp[s]? = some (.inr (12, sf)) ∧ sf[1]? = some (.ref c) ∧ sf[2]? = some (.retAddr vb) ∧ sf[12]? = some (.int (Int32.ofNat if0)) ∧ sf[13]? = some (.int (Int32.ofNat if1)) ∧ sf[14]? = some (.int (Int32.ofNat items)) ∧ sf[16]? = some (.ref ka) ∧ sf[18]? = some (.ref fa) ∧ hp[ka]? = some (.inl (25, kes)) ∧ hp[fa]? = some (.inl (10, fes)) ∧ (∀ i, i < items → kes[i]? = some (.retAddr (kd i)) ∧ fes[i]? = some (.int (Int32.ofNat (fr i)))) ∧ items ≤ kes.length ∧ items ≤ fes.length ∧ kes.length ≤ 1000 ∧ fes.length ≤ 1000 ∧ if0 ≤ 1000 ∧ if1 ≤ 1000
/-- where an item's code ends -/
def itTo (items if0 n i : Nat) (b : Bool) (fr : Nat → Nat) : Nat := if i + 1 < items then fr (i + 1) else if b = true then n else if0
theorem m_itemKind {S : List Int32} {hp : List XC} {s c ka fa if0 if1 items vb : Nat} {kd fr : Nat → Nat} (hS : hSt hp s c ka fa if0 if1 items vb kd fr) {i : Nat} (hi : i < items) : Pu S 0 94 [.ref s, .int (Int32.ofNat i)] hp (.retAddr (kd i)) := by
  obtain ⟨sf, kes, fes, hs, h1, h2, h12, h13, h14, h16, h18, hka, hfa, hit, hk1, hf1, hk2, hf2, hi0, hi1⟩ := hS
  refine At.go (q := xm94) rfl 1 (pc' := 1) (L' := [(0, .ref s), (1, .int (Int32.ofNat i))]) (st' := [.int (Int32.ofNat i)]) rfl ?_
  refine At.ic1 (tgt := 30) rfl rfl (fun h => absurd (h.symm.trans (decide_eq_false (iN_nn (by omega)))) (by decide)) (fun _ => ?_)
  refine At.go (q := xm94) rfl 2 (pc' := 6) (L' := [(0, .ref s), (1, .int (Int32.ofNat i))]) (st' := [.ref s, .int (Int32.ofNat i)]) rfl ?_
  refine At.gf rfl (by decide) hs h14 ?_
  refine At.ic2 (tgt := 30) rfl rfl (fun h => absurd (h.symm.trans (decide_eq_false (fun h => absurd ((iN_le (a := items) (b := i) (by omega) (by omega)).mp h) (by omega)))) (by decide)) (fun _ => ?_)
  refine At.go (q := xm94) rfl 2 (pc' := 14) (L' := [(0, .ref s), (1, .int (Int32.ofNat i))]) (st' := [.ref s, .int (Int32.ofNat i)]) rfl ?_
  refine At.gf rfl (by decide) hs h16 ?_
  refine At.ln rfl hka ?_
  refine At.ic2 (tgt := 30) rfl rfl (fun h => absurd (h.symm.trans (decide_eq_false (fun h => absurd ((iN_le (a := kes.length) (b := i) (by omega) (by omega)).mp h) (by omega)))) (by decide)) (fun _ => ?_)
  refine At.go (q := xm94) rfl 1 (pc' := 22) (L' := [(0, .ref s), (1, .int (Int32.ofNat i))]) (st' := [.ref s]) rfl ?_
  refine At.gf rfl (by decide) hs h16 ?_
  refine At.go (q := xm94) rfl 1 (pc' := 26) (L' := [(0, .ref s), (1, .int (Int32.ofNat i))]) (st' := [.int (Int32.ofNat i), .ref ka]) rfl ?_
  refine At.ql rfl hka (by decide) rfl (iN_nn (by omega)) (by rw [iN_tn (by omega)]; exact (hit i hi).1) rfl ?_
  refine At.go (q := xm94) rfl 1 (pc' := 33) (L' := [(0, .ref s), (1, .int (Int32.ofNat i))]) (st' := [.retAddr (kd i)]) rfl ?_
  exact At.rt rfl rfl rfl
theorem m_itemKind0 {S : List Int32} {hp : List XC} {s c ka fa if0 if1 items vb : Nat} {kd fr : Nat → Nat} (hS : hSt hp s c ka fa if0 if1 items vb kd fr) {i : Nat} (hi : items ≤ i) (hi9 : i ≤ 1000) : Pu S 0 94 [.ref s, .int (Int32.ofNat i)] hp (.retAddr 3) := by
  obtain ⟨sf, kes, fes, hs, h1, h2, h12, h13, h14, h16, h18, hka, hfa, hit, hk1, hf1, hk2, hf2, hi0, hi1⟩ := hS
  refine At.go (q := xm94) rfl 1 (pc' := 1) (L' := [(0, .ref s), (1, .int (Int32.ofNat i))]) (st' := [.int (Int32.ofNat i)]) rfl ?_
  refine At.ic1 (tgt := 30) rfl rfl (fun h => absurd (h.symm.trans (decide_eq_false (iN_nn (by omega)))) (by decide)) (fun _ => ?_)
  refine At.go (q := xm94) rfl 2 (pc' := 6) (L' := [(0, .ref s), (1, .int (Int32.ofNat i))]) (st' := [.ref s, .int (Int32.ofNat i)]) rfl ?_
  refine At.gf rfl (by decide) hs h14 ?_
  refine At.ic2 (tgt := 30) rfl rfl (fun _ => ?_) (fun h => absurd (h.symm.trans (decide_eq_true ((iN_le (a := items) (b := i) (by omega) (by omega)).mpr hi))) (by decide))
  refine At.go (q := xm94) rfl 1 (pc' := 33) (L' := [(0, .ref s), (1, .int (Int32.ofNat i))]) (st' := [.retAddr 3]) rfl ?_
  exact At.rt rfl rfl rfl
theorem m_itemFrom {S : List Int32} {hp : List XC} {s c ka fa if0 if1 items vb : Nat} {kd fr : Nat → Nat} (hS : hSt hp s c ka fa if0 if1 items vb kd fr) {i : Nat} (hi : i < items) : Pu S 0 96 [.ref s, .int (Int32.ofNat i)] hp (.int (Int32.ofNat (fr i))) := by
  obtain ⟨sf, kes, fes, hs, h1, h2, h12, h13, h14, h16, h18, hka, hfa, hit, hk1, hf1, hk2, hf2, hi0, hi1⟩ := hS
  refine At.go (q := xm96) rfl 1 (pc' := 1) (L' := [(0, .ref s), (1, .int (Int32.ofNat i))]) (st' := [.int (Int32.ofNat i)]) rfl ?_
  refine At.ic1 (tgt := 30) rfl rfl (fun h => absurd (h.symm.trans (decide_eq_false (iN_nn (by omega)))) (by decide)) (fun _ => ?_)
  refine At.go (q := xm96) rfl 2 (pc' := 6) (L' := [(0, .ref s), (1, .int (Int32.ofNat i))]) (st' := [.ref s, .int (Int32.ofNat i)]) rfl ?_
  refine At.gf rfl (by decide) hs h14 ?_
  refine At.ic2 (tgt := 30) rfl rfl (fun h => absurd (h.symm.trans (decide_eq_false (fun h => absurd ((iN_le (a := items) (b := i) (by omega) (by omega)).mp h) (by omega)))) (by decide)) (fun _ => ?_)
  refine At.go (q := xm96) rfl 2 (pc' := 14) (L' := [(0, .ref s), (1, .int (Int32.ofNat i))]) (st' := [.ref s, .int (Int32.ofNat i)]) rfl ?_
  refine At.gf rfl (by decide) hs h18 ?_
  refine At.ln rfl hfa ?_
  refine At.ic2 (tgt := 30) rfl rfl (fun h => absurd (h.symm.trans (decide_eq_false (fun h => absurd ((iN_le (a := fes.length) (b := i) (by omega) (by omega)).mp h) (by omega)))) (by decide)) (fun _ => ?_)
  refine At.go (q := xm96) rfl 1 (pc' := 22) (L' := [(0, .ref s), (1, .int (Int32.ofNat i))]) (st' := [.ref s]) rfl ?_
  refine At.gf rfl (by decide) hs h18 ?_
  refine At.go (q := xm96) rfl 1 (pc' := 26) (L' := [(0, .ref s), (1, .int (Int32.ofNat i))]) (st' := [.int (Int32.ofNat i), .ref fa]) rfl ?_
  refine At.al rfl hfa (by decide) rfl (iN_nn (by omega)) (by rw [iN_tn (by omega)]; exact (hit i hi).2) ?_
  refine At.go (q := xm96) rfl 1 (pc' := 34) (L' := [(0, .ref s), (1, .int (Int32.ofNat i))]) (st' := [.int (Int32.ofNat (fr i))]) rfl ?_
  exact At.rt rfl (xret_i rfl) rfl
theorem m_itemFrom0 {S : List Int32} {hp : List XC} {s c ka fa if0 if1 items vb : Nat} {kd fr : Nat → Nat} (hS : hSt hp s c ka fa if0 if1 items vb kd fr) {i : Nat} (hi : items ≤ i) (hi9 : i ≤ 1000) : Pu S 0 96 [.ref s, .int (Int32.ofNat i)] hp (.int (Int32.ofNat if0)) := by
  obtain ⟨sf, kes, fes, hs, h1, h2, h12, h13, h14, h16, h18, hka, hfa, hit, hk1, hf1, hk2, hf2, hi0, hi1⟩ := hS
  refine At.go (q := xm96) rfl 1 (pc' := 1) (L' := [(0, .ref s), (1, .int (Int32.ofNat i))]) (st' := [.int (Int32.ofNat i)]) rfl ?_
  refine At.ic1 (tgt := 30) rfl rfl (fun h => absurd (h.symm.trans (decide_eq_false (iN_nn (by omega)))) (by decide)) (fun _ => ?_)
  refine At.go (q := xm96) rfl 2 (pc' := 6) (L' := [(0, .ref s), (1, .int (Int32.ofNat i))]) (st' := [.ref s, .int (Int32.ofNat i)]) rfl ?_
  refine At.gf rfl (by decide) hs h14 ?_
  refine At.ic2 (tgt := 30) rfl rfl (fun _ => ?_) (fun h => absurd (h.symm.trans (decide_eq_true ((iN_le (a := items) (b := i) (by omega) (by omega)).mpr hi))) (by decide))
  refine At.go (q := xm96) rfl 1 (pc' := 31) (L' := [(0, .ref s), (1, .int (Int32.ofNat i))]) (st' := [.ref s]) rfl ?_
  refine At.gf rfl (by decide) hs h12 ?_
  exact At.rt rfl (xret_i rfl) rfl
theorem m_itemTo {S : List Int32} {hp : List XC} {s c ka fa if0 if1 items vb : Nat} {kd fr : Nat → Nat} (hS : hSt hp s c ka fa if0 if1 items vb kd fr) {i : Nat} (hi : i ≤ 1000) {b16 b27 : Bool} (e16 : xeq xKC (.retAddr vb) (.retAddr 16) = some b16) (e27 : xeq xKC (.retAddr vb) (.retAddr 27) = some b27) {os : List (Nat × Int32)} {oa aa pa sa wa : Nat} {ws : Value} {es : List Value} {gs : List Int32} (hF : hFo hp c oa aa pa sa wa ws es gs os) : Pu S 1 97 [.ref s, .int (Int32.ofNat i)] hp (.int (Int32.ofNat (itTo items if0 os.length i (b16 || b27) fr))) := by
  have hS9 := hS
  obtain ⟨sf, kes, fes, hs, h1, h2, h12, h13, h14, h16, h18, hka, hfa, hit, hk1, hf1, hk2, hf2, hi0, hi1⟩ := hS
  have hc := hF.ho
  refine At.go (q := xm97) rfl 4 (pc' := 4) (L' := [(0, .ref s), (1, .int (Int32.ofNat i))]) (st' := [.ref s, .int ((Int32.ofNat i) + 1)]) rfl ?_
  refine At.gf rfl (by decide) hs h14 ?_
  rw [iN_s]
  refine At.ic2 (tgt := 20) rfl rfl (fun h7 => ?_) (fun h7 => ?_)
  · have hge : items ≤ i + 1 := (iN_le (by omega) (by omega)).mp (of_decide_eq_true h7)
    refine At.go (q := xm97) rfl 1 (pc' := 21) (L' := [(0, .ref s), (1, .int (Int32.ofNat i))]) (st' := [.ref s]) rfl ?_
    refine At.gf rfl (by decide) hs h2 ?_
    refine At.go (q := xm97) rfl 1 (pc' := 27) (L' := [(0, .ref s), (1, .int (Int32.ofNat i))]) (st' := [.retAddr 16, .retAddr vb]) rfl ?_
    refine At.ace (tgt := 40) (b := b16) rfl rfl e16 (fun hb => ?_) (fun hb => ?_)
    · refine At.go (q := xm97) rfl 1 (pc' := 41) (L' := [(0, .ref s), (1, .int (Int32.ofNat i))]) (st' := [.ref s]) rfl ?_
      refine At.gf rfl (by decide) hs h1 ?_
      refine At.gf rfl (by decide) hc rfl ?_
      refine At.go (q := xm97) rfl 1 (pc' := 54) (L' := [(0, .ref s), (1, .int (Int32.ofNat i))]) (st' := [.int (Int32.ofNat os.length)]) rfl ?_
      exact At.rt rfl (xret_i rfl) (by unfold itTo; rw [if_neg (by omega), hb, Bool.true_or, if_pos rfl])
    · refine At.go (q := xm97) rfl 1 (pc' := 31) (L' := [(0, .ref s), (1, .int (Int32.ofNat i))]) (st' := [.ref s]) rfl ?_
      refine At.gf rfl (by decide) hs h2 ?_
      refine At.go (q := xm97) rfl 1 (pc' := 37) (L' := [(0, .ref s), (1, .int (Int32.ofNat i))]) (st' := [.retAddr 27, .retAddr vb]) rfl ?_
      refine At.acn (tgt := 50) (b := b27) rfl rfl e27 (fun hc9 => ?_) (fun hc9 => ?_)
      · refine At.go (q := xm97) rfl 1 (pc' := 51) (L' := [(0, .ref s), (1, .int (Int32.ofNat i))]) (st' := [.ref s]) rfl ?_
        refine At.gf rfl (by decide) hs h12 ?_
        exact At.rt rfl (xret_i rfl) (by unfold itTo; rw [if_neg (by omega), hb, hc9, Bool.or_false, if_neg (by decide)])
      · refine At.go (q := xm97) rfl 1 (pc' := 41) (L' := [(0, .ref s), (1, .int (Int32.ofNat i))]) (st' := [.ref s]) rfl ?_
        refine At.gf rfl (by decide) hs h1 ?_
        refine At.gf rfl (by decide) hc rfl ?_
        refine At.go (q := xm97) rfl 1 (pc' := 54) (L' := [(0, .ref s), (1, .int (Int32.ofNat i))]) (st' := [.int (Int32.ofNat os.length)]) rfl ?_
        exact At.rt rfl (xret_i rfl) (by unfold itTo; rw [if_neg (by omega), hb, hc9, Bool.or_true, if_pos rfl])
  · have hlt : i + 1 < items := Nat.lt_of_not_le (fun h => of_decide_eq_false h7 ((iN_le (by omega) (by omega)).mpr h))
    refine At.go (q := xm97) rfl 4 (pc' := 14) (L' := [(0, .ref s), (1, .int (Int32.ofNat i))]) (st' := [.int ((Int32.ofNat i) + 1), .ref s]) rfl ?_
    refine At.clp (as := [.ref s, .int ((Int32.ofNat i) + 1)]) (rest := []) rfl (by decide) rfl (Nat.le_of_ble_eq_true rfl) (Nat.le_of_ble_eq_true rfl) (xrck_o (by decide) (by decide) hs (by decide)) (Nat.le_of_ble_eq_true rfl) ((by rw [iN_s]; exact m_itemFrom hS9 hlt)) ?_
    refine At.go (q := xm97) rfl 1 (pc' := 54) (L' := [(0, .ref s), (1, .int (Int32.ofNat i))]) (st' := [.int (Int32.ofNat (fr (i + 1)))]) rfl ?_
    exact At.rt rfl (xret_i rfl) (by unfold itTo; rw [if_pos hlt])
theorem m_itemRes0 {S : List Int32} {hp : List XC} {s c ka fa if0 if1 items vb : Nat} {kd fr : Nat → Nat} (hS : hSt hp s c ka fa if0 if1 items vb kd fr) {os : List (Nat × Int32)} {oa aa pa sa wa : Nat} {ws : Value} {es : List Value} {gs vs : List Int32} (hF : hFo hp c oa aa pa sa wa ws es gs os) (hsa : hp[sa]? = some (.inl (16, vs.map Value.int))) (hN : os.length ≤ vs.length) (hN2 : vs.length ≤ 1000) (hnm : ∀ (i : Nat) (q : Nat × Int32), os[i]? = some q → q.1 = 3 → ∃ j : Nat, j ≤ 100000 ∧ q.2 = Int32.ofNat j) {i f9 t9 : Nat} (hfr : Pu S 0 96 [.ref s, .int (Int32.ofNat i)] hp (.int (Int32.ofNat f9))) (hto : Pu S 1 97 [.ref s, .int (Int32.ofNat i)] hp (.int (Int32.ofNat t9))) (htn : t9 ≤ os.length) (hft : f9 ≤ t9) (hok : (resR (-1000000000) (fun _ => -1000000000) ((os.take t9).drop f9) []).isSome = true) : Me S 5 155 [.ref s, .int (Int32.ofNat i), .null, .null] hp (fun v hp' c s => v = some (.int (resE (-1000000000) (fun _ => -1000000000) ((os.take t9).drop f9))) ∧ (∃ vs' : List Int32, vs'.length = vs.length ∧ hp' = hp.set sa (.inl (16, vs'.map Value.int))) ∧ c = 0 ∧ s = 0) := by
  obtain ⟨sf, kes, fes, hs, h1, h2, h12, h13, h14, h16, h18, hka, hfa, hit, hk1, hf1, hk2, hf2, hi0, hi1⟩ := hS
  have hc := hF.ho
  refine At.go (q := xm155) rfl 1 (pc' := 1) (L' := [(0, .ref s), (1, .int (Int32.ofNat i)), (2, .null), (3, .null)]) (st' := [.ref s]) rfl ?_
  refine At.gf rfl (by decide) hs h1 ?_
  refine At.go (q := xm155) rfl 2 (pc' := 6) (L' := [(0, .ref s), (1, .int (Int32.ofNat i)), (2, .null), (3, .null)]) (st' := [.int (Int32.ofNat i), .ref s, .ref c]) rfl ?_
  refine At.clp (as := [.ref s, .int (Int32.ofNat i)]) (rest := [.ref c]) rfl (by decide) rfl (Nat.le_of_ble_eq_true rfl) (Nat.le_of_ble_eq_true rfl) (xrck_o (by decide) (by decide) hs (by decide)) (Nat.le_of_ble_eq_true rfl) (hfr) ?_
  refine At.go (q := xm155) rfl 2 (pc' := 11) (L' := [(0, .ref s), (1, .int (Int32.ofNat i)), (2, .null), (3, .null)]) (st' := [.int (Int32.ofNat i), .ref s, .int (Int32.ofNat f9), .ref c]) rfl ?_
  refine At.clp (as := [.ref s, .int (Int32.ofNat i)]) (rest := [.int (Int32.ofNat f9), .ref c]) rfl (by decide) rfl (Nat.le_of_ble_eq_true rfl) (Nat.le_of_ble_eq_true rfl) (xrck_o (by decide) (by decide) hs (by decide)) (Nat.le_of_ble_eq_true rfl) (hto) ?_
  refine At.go (q := xm155) rfl 2 (pc' := 16) (L' := [(0, .ref s), (1, .int (Int32.ofNat i)), (2, .null), (3, .null)]) (st' := [.null, .null, .int (Int32.ofNat t9), .int (Int32.ofNat f9), .ref c]) rfl ?_
  refine At.clm (as := [.ref c, .int (Int32.ofNat f9), .int (Int32.ofNat t9), .null, .null]) (rest := []) rfl (by decide) rfl (Nat.le_of_ble_eq_true rfl) (Nat.le_of_ble_eq_true rfl) (xrck_o (by decide) (by decide) hc (by decide)) (Nat.le_of_ble_eq_true rfl) (m_result0 hF hsa hN hN2 htn hft hnm hok) (fun v9 hp1 c1 s1 hv9 => ?_)
  obtain ⟨rfl, hv2, rfl, rfl⟩ := hv9
  exact At.rt rfl (xret_i rfl) ⟨_, _, _, _, rfl, rfl, hv2, rfl, rfl⟩
theorem m_itemRes1 {S : List Int32} {hp : List XC} {s c ka fa if0 if1 items vb : Nat} {kd fr : Nat → Nat} (hS : hSt hp s c ka fa if0 if1 items vb kd fr) {o1 : Nat} {e : En} (hX : hEn hp o1 e) {os : List (Nat × Int32)} {oa aa pa sa wa : Nat} {ws : Value} {es : List Value} {gs vs : List Int32} (hF : hFo hp c oa aa pa sa wa ws es gs os) (hsa : hp[sa]? = some (.inl (16, vs.map Value.int))) (hN : os.length ≤ vs.length) (hN2 : vs.length ≤ 1000) (hnm : ∀ (i : Nat) (q : Nat × Int32), os[i]? = some q → q.1 = 3 → ∃ j : Nat, j ≤ 100000 ∧ q.2 = Int32.ofNat j) {i f9 t9 : Nat} (hfr : Pu S 0 96 [.ref s, .int (Int32.ofNat i)] hp (.int (Int32.ofNat f9))) (hto : Pu S 1 97 [.ref s, .int (Int32.ofNat i)] hp (.int (Int32.ofNat t9))) (htn : t9 ≤ os.length) (hft : f9 ≤ t9) (hok : (resR e.2.2.1 (fun g => cellE e.2.2.2.2.1 [] g.toNatClampNeg) ((os.take t9).drop f9) []).isSome = true) : Me S 5 155 [.ref s, .int (Int32.ofNat i), .ref o1, .null] hp (fun v hp' c s => v = some (.int (resE e.2.2.1 (fun g => cellE e.2.2.2.2.1 [] g.toNatClampNeg) ((os.take t9).drop f9))) ∧ (∃ vs' : List Int32, vs'.length = vs.length ∧ hp' = hp.set sa (.inl (16, vs'.map Value.int))) ∧ c = 0 ∧ s = 0) := by
  obtain ⟨sf, kes, fes, hs, h1, h2, h12, h13, h14, h16, h18, hka, hfa, hit, hk1, hf1, hk2, hf2, hi0, hi1⟩ := hS
  have hc := hF.ho
  refine At.go (q := xm155) rfl 1 (pc' := 1) (L' := [(0, .ref s), (1, .int (Int32.ofNat i)), (2, .ref o1), (3, .null)]) (st' := [.ref s]) rfl ?_
  refine At.gf rfl (by decide) hs h1 ?_
  refine At.go (q := xm155) rfl 2 (pc' := 6) (L' := [(0, .ref s), (1, .int (Int32.ofNat i)), (2, .ref o1), (3, .null)]) (st' := [.int (Int32.ofNat i), .ref s, .ref c]) rfl ?_
  refine At.clp (as := [.ref s, .int (Int32.ofNat i)]) (rest := [.ref c]) rfl (by decide) rfl (Nat.le_of_ble_eq_true rfl) (Nat.le_of_ble_eq_true rfl) (xrck_o (by decide) (by decide) hs (by decide)) (Nat.le_of_ble_eq_true rfl) (hfr) ?_
  refine At.go (q := xm155) rfl 2 (pc' := 11) (L' := [(0, .ref s), (1, .int (Int32.ofNat i)), (2, .ref o1), (3, .null)]) (st' := [.int (Int32.ofNat i), .ref s, .int (Int32.ofNat f9), .ref c]) rfl ?_
  refine At.clp (as := [.ref s, .int (Int32.ofNat i)]) (rest := [.int (Int32.ofNat f9), .ref c]) rfl (by decide) rfl (Nat.le_of_ble_eq_true rfl) (Nat.le_of_ble_eq_true rfl) (xrck_o (by decide) (by decide) hs (by decide)) (Nat.le_of_ble_eq_true rfl) (hto) ?_
  refine At.go (q := xm155) rfl 2 (pc' := 16) (L' := [(0, .ref s), (1, .int (Int32.ofNat i)), (2, .ref o1), (3, .null)]) (st' := [.null, .ref o1, .int (Int32.ofNat t9), .int (Int32.ofNat f9), .ref c]) rfl ?_
  refine At.clm (as := [.ref c, .int (Int32.ofNat f9), .int (Int32.ofNat t9), .ref o1, .null]) (rest := []) rfl (by decide) rfl (Nat.le_of_ble_eq_true rfl) (Nat.le_of_ble_eq_true rfl) (xrck_o (by decide) (by decide) hc (by decide)) (Nat.le_of_ble_eq_true rfl) (m_result1 hF hsa hN hN2 htn hft hnm hX hok) (fun v9 hp1 c1 s1 hv9 => ?_)
  obtain ⟨rfl, hv2, rfl, rfl⟩ := hv9
  exact At.rt rfl (xret_i rfl) ⟨_, _, _, _, rfl, rfl, hv2, rfl, rfl⟩
/-- whether a condition holds -/
def mntB (if0 if1 : Nat) (z : Int32) : Bool := if if0 < if1 then (decide (¬ z = -1000000000) && decide (¬ z = 0)) else true
theorem m_isMeant1 {S : List Int32} {hp : List XC} {s c ka fa if0 if1 items vb : Nat} {kd fr : Nat → Nat} (hS : hSt hp s c ka fa if0 if1 items vb kd fr) {o1 : Nat} {e : En} (hX : hEn hp o1 e) {os : List (Nat × Int32)} {oa aa pa sa wa : Nat} {ws : Value} {es : List Value} {gs vs : List Int32} (hF : hFo hp c oa aa pa sa wa ws es gs os) (hsa : hp[sa]? = some (.inl (16, vs.map Value.int))) (hN : os.length ≤ vs.length) (hN2 : vs.length ≤ 1000) (hnm : ∀ (i : Nat) (q : Nat × Int32), os[i]? = some q → q.1 = 3 → ∃ j : Nat, j ≤ 100000 ∧ q.2 = Int32.ofNat j) (htn : if1 ≤ os.length) (hok : if0 < if1 → (resR e.2.2.1 (fun g => cellE e.2.2.2.2.1 [] g.toNatClampNeg) ((os.take if1).drop if0) []).isSome = true) : Me S 5 142 [.ref s, .ref o1, .null] hp (fun v hp' c s => v = some (bv (mntB if0 if1 (resE e.2.2.1 (fun g => cellE e.2.2.2.2.1 [] g.toNatClampNeg) ((os.take if1).drop if0)))) ∧ (∃ vs' : List Int32, vs'.length = vs.length ∧ hp' = hp.set sa (.inl (16, vs'.map Value.int))) ∧ c = 0 ∧ s = 0) := by
  obtain ⟨sf, kes, fes, hs, h1, h2, h12, h13, h14, h16, h18, hka, hfa, hit, hk1, hf1, hk2, hf2, hi0, hi1⟩ := hS
  have hc := hF.ho
  refine At.go (q := xm142) rfl 1 (pc' := 1) (L' := [(0, .ref s), (1, .ref o1), (2, .null)]) (st' := [.ref s]) rfl ?_
  refine At.gf rfl (by decide) hs h13 ?_
  refine At.go (q := xm142) rfl 1 (pc' := 5) (L' := [(0, .ref s), (1, .ref o1), (2, .null)]) (st' := [.ref s, .int (Int32.ofNat if1)]) rfl ?_
  refine At.gf rfl (by decide) hs h12 ?_
  refine At.ic2 (tgt := 31) rfl rfl (fun h8 => ?_) (fun h8 => ?_)
  · refine At.go (q := xm142) rfl 4 (pc' := 37) (L' := [(3, .int 1), (0, .ref s), (1, .ref o1), (2, .null)]) (st' := [.int (-1000000000), .int 1]) rfl ?_
    refine At.ic2 (tgt := 48) rfl rfl (fun h => absurd (h.symm.trans (by decide : xcm .eq (1 : Int32) (-1000000000) = false)) (by decide)) (fun _ => ?_)
    refine At.go (q := xm142) rfl 4 (pc' := 49) (L' := [(3, .int 1), (0, .ref s), (1, .ref o1), (2, .null)]) (st' := [.int 1]) rfl ?_
    exact At.rt rfl rfl ⟨_, _, _, _, rfl, by unfold mntB; rw [if_neg (Nat.not_lt.mpr ((iN_le (by omega) (by omega)).mp (of_decide_eq_true h8)))]; rfl, ⟨vs, rfl, (xset_id hsa).symm⟩, rfl, rfl⟩
  · have hlt : if0 < if1 := Nat.lt_of_not_le (fun h => of_decide_eq_false h8 ((iN_le (by omega) (by omega)).mpr h))
    refine At.go (q := xm142) rfl 1 (pc' := 12) (L' := [(0, .ref s), (1, .ref o1), (2, .null)]) (st' := [.ref s]) rfl ?_
    refine At.gf rfl (by decide) hs h1 ?_
    refine At.go (q := xm142) rfl 1 (pc' := 16) (L' := [(0, .ref s), (1, .ref o1), (2, .null)]) (st' := [.ref s, .ref c]) rfl ?_
    refine At.gf rfl (by decide) hs h12 ?_
    refine At.go (q := xm142) rfl 1 (pc' := 20) (L' := [(0, .ref s), (1, .ref o1), (2, .null)]) (st' := [.ref s, .int (Int32.ofNat if0), .ref c]) rfl ?_
    refine At.gf rfl (by decide) hs h13 ?_
    refine At.go (q := xm142) rfl 2 (pc' := 25) (L' := [(0, .ref s), (1, .ref o1), (2, .null)]) (st' := [.null, .ref o1, .int (Int32.ofNat if1), .int (Int32.ofNat if0), .ref c]) rfl ?_
    refine At.clm (as := [.ref c, .int (Int32.ofNat if0), .int (Int32.ofNat if1), .ref o1, .null]) (rest := []) rfl (by decide) rfl (Nat.le_of_ble_eq_true rfl) (Nat.le_of_ble_eq_true rfl) (xrck_o (by decide) (by decide) hc (by decide)) (Nat.le_of_ble_eq_true rfl) (m_result1 hF hsa hN hN2 htn (Nat.le_of_lt hlt) hnm hX (hok hlt)) (fun v9 hp1 c1 s1 hv9 => ?_)
    obtain ⟨rfl, hv2, rfl, rfl⟩ := hv9
    refine At.go (q := xm142) rfl 4 (pc' := 37) (L' := [(3, .int (resE e.2.2.1 (fun g => cellE e.2.2.2.2.1 [] g.toNatClampNeg) ((os.take if1).drop if0))), (0, .ref s), (1, .ref o1), (2, .null)]) (st' := [.int (-1000000000), .int (resE e.2.2.1 (fun g => cellE e.2.2.2.2.1 [] g.toNatClampNeg) ((os.take if1).drop if0))]) rfl ?_
    refine At.ic2 (tgt := 48) rfl rfl (fun h37 => ?_) (fun h37 => ?_)
    · refine At.go (q := xm142) rfl 1 (pc' := 49) (L' := [(3, .int (resE e.2.2.1 (fun g => cellE e.2.2.2.2.1 [] g.toNatClampNeg) ((os.take if1).drop if0))), (0, .ref s), (1, .ref o1), (2, .null)]) (st' := [.int 0]) rfl ?_
      exact At.rt rfl rfl ⟨_, _, _, _, rfl, by unfold mntB; rw [if_pos hlt, of_decide_eq_true h37]; rfl, hv2, rfl, rfl⟩
    · refine At.go (q := xm142) rfl 1 (pc' := 41) (L' := [(3, .int (resE e.2.2.1 (fun g => cellE e.2.2.2.2.1 [] g.toNatClampNeg) ((os.take if1).drop if0))), (0, .ref s), (1, .ref o1), (2, .null)]) (st' := [.int (resE e.2.2.1 (fun g => cellE e.2.2.2.2.1 [] g.toNatClampNeg) ((os.take if1).drop if0))]) rfl ?_
      refine At.ic1 (tgt := 48) rfl rfl (fun h41 => ?_) (fun h41 => ?_)
      · refine At.go (q := xm142) rfl 1 (pc' := 49) (L' := [(3, .int (resE e.2.2.1 (fun g => cellE e.2.2.2.2.1 [] g.toNatClampNeg) ((os.take if1).drop if0))), (0, .ref s), (1, .ref o1), (2, .null)]) (st' := [.int 0]) rfl ?_
        exact At.rt rfl rfl ⟨_, _, _, _, rfl, by unfold mntB; rw [if_pos hlt, of_decide_eq_true h41]; rfl, hv2, rfl, rfl⟩
      · refine At.go (q := xm142) rfl 2 (pc' := 49) (L' := [(3, .int (resE e.2.2.1 (fun g => cellE e.2.2.2.2.1 [] g.toNatClampNeg) ((os.take if1).drop if0))), (0, .ref s), (1, .ref o1), (2, .null)]) (st' := [.int 1]) rfl ?_
        exact At.rt rfl rfl ⟨_, _, _, _, rfl, by unfold mntB; rw [if_pos hlt, decide_eq_true (of_decide_eq_false h37), decide_eq_true (of_decide_eq_false h41)]; rfl, hv2, rfl, rfl⟩
theorem m_itemRes2 {S : List Int32} {hp : List XC} {s c ka fa if0 if1 items vb : Nat} {kd fr : Nat → Nat} (hS : hSt hp s c ka fa if0 if1 items vb kd fr) {o1 o2 : Nat} {e f : En} (hX : hEn hp o1 e) (hW : hEn hp o2 f) {os : List (Nat × Int32)} {oa aa pa sa wa : Nat} {ws : Value} {es : List Value} {gs vs : List Int32} (hF : hFo hp c oa aa pa sa wa ws es gs os) (hsa : hp[sa]? = some (.inl (16, vs.map Value.int))) (hN : os.length ≤ vs.length) (hN2 : vs.length ≤ 1000) (hnm : ∀ (i : Nat) (q : Nat × Int32), os[i]? = some q → q.1 = 3 → ∃ j : Nat, j ≤ 100000 ∧ q.2 = Int32.ofNat j) {i f9 t9 : Nat} (hfr : Pu S 0 96 [.ref s, .int (Int32.ofNat i)] hp (.int (Int32.ofNat f9))) (hto : Pu S 1 97 [.ref s, .int (Int32.ofNat i)] hp (.int (Int32.ofNat t9))) (htn : t9 ≤ os.length) (hft : f9 ≤ t9) (hok : (resR (joinE e.2.2.1 f.2.2.1) (fun g => cellE e.2.2.2.2.1 f.2.2.2.2.1 g.toNatClampNeg) ((os.take t9).drop f9) []).isSome = true) : Me S 5 155 [.ref s, .int (Int32.ofNat i), .ref o1, .ref o2] hp (fun v hp' c s => v = some (.int (resE (joinE e.2.2.1 f.2.2.1) (fun g => cellE e.2.2.2.2.1 f.2.2.2.2.1 g.toNatClampNeg) ((os.take t9).drop f9))) ∧ (∃ vs' : List Int32, vs'.length = vs.length ∧ hp' = hp.set sa (.inl (16, vs'.map Value.int))) ∧ c = 0 ∧ s = 0) := by
  obtain ⟨sf, kes, fes, hs, h1, h2, h12, h13, h14, h16, h18, hka, hfa, hit, hk1, hf1, hk2, hf2, hi0, hi1⟩ := hS
  have hc := hF.ho
  refine At.go (q := xm155) rfl 1 (pc' := 1) (L' := [(0, .ref s), (1, .int (Int32.ofNat i)), (2, .ref o1), (3, .ref o2)]) (st' := [.ref s]) rfl ?_
  refine At.gf rfl (by decide) hs h1 ?_
  refine At.go (q := xm155) rfl 2 (pc' := 6) (L' := [(0, .ref s), (1, .int (Int32.ofNat i)), (2, .ref o1), (3, .ref o2)]) (st' := [.int (Int32.ofNat i), .ref s, .ref c]) rfl ?_
  refine At.clp (as := [.ref s, .int (Int32.ofNat i)]) (rest := [.ref c]) rfl (by decide) rfl (Nat.le_of_ble_eq_true rfl) (Nat.le_of_ble_eq_true rfl) (xrck_o (by decide) (by decide) hs (by decide)) (Nat.le_of_ble_eq_true rfl) (hfr) ?_
  refine At.go (q := xm155) rfl 2 (pc' := 11) (L' := [(0, .ref s), (1, .int (Int32.ofNat i)), (2, .ref o1), (3, .ref o2)]) (st' := [.int (Int32.ofNat i), .ref s, .int (Int32.ofNat f9), .ref c]) rfl ?_
  refine At.clp (as := [.ref s, .int (Int32.ofNat i)]) (rest := [.int (Int32.ofNat f9), .ref c]) rfl (by decide) rfl (Nat.le_of_ble_eq_true rfl) (Nat.le_of_ble_eq_true rfl) (xrck_o (by decide) (by decide) hs (by decide)) (Nat.le_of_ble_eq_true rfl) (hto) ?_
  refine At.go (q := xm155) rfl 2 (pc' := 16) (L' := [(0, .ref s), (1, .int (Int32.ofNat i)), (2, .ref o1), (3, .ref o2)]) (st' := [.ref o2, .ref o1, .int (Int32.ofNat t9), .int (Int32.ofNat f9), .ref c]) rfl ?_
  refine At.clm (as := [.ref c, .int (Int32.ofNat f9), .int (Int32.ofNat t9), .ref o1, .ref o2]) (rest := []) rfl (by decide) rfl (Nat.le_of_ble_eq_true rfl) (Nat.le_of_ble_eq_true rfl) (xrck_o (by decide) (by decide) hc (by decide)) (Nat.le_of_ble_eq_true rfl) (m_result2 hF hsa hN hN2 htn hft hnm hX hW hok) (fun v9 hp1 c1 s1 hv9 => ?_)
  obtain ⟨rfl, hv2, rfl, rfl⟩ := hv9
  exact At.rt rfl (xret_i rfl) ⟨_, _, _, _, rfl, rfl, hv2, rfl, rfl⟩
theorem m_isMeant2 {S : List Int32} {hp : List XC} {s c ka fa if0 if1 items vb : Nat} {kd fr : Nat → Nat} (hS : hSt hp s c ka fa if0 if1 items vb kd fr) {o1 o2 : Nat} {e f : En} (hX : hEn hp o1 e) (hW : hEn hp o2 f) {os : List (Nat × Int32)} {oa aa pa sa wa : Nat} {ws : Value} {es : List Value} {gs vs : List Int32} (hF : hFo hp c oa aa pa sa wa ws es gs os) (hsa : hp[sa]? = some (.inl (16, vs.map Value.int))) (hN : os.length ≤ vs.length) (hN2 : vs.length ≤ 1000) (hnm : ∀ (i : Nat) (q : Nat × Int32), os[i]? = some q → q.1 = 3 → ∃ j : Nat, j ≤ 100000 ∧ q.2 = Int32.ofNat j) (htn : if1 ≤ os.length) (hok : if0 < if1 → (resR (joinE e.2.2.1 f.2.2.1) (fun g => cellE e.2.2.2.2.1 f.2.2.2.2.1 g.toNatClampNeg) ((os.take if1).drop if0) []).isSome = true) : Me S 5 142 [.ref s, .ref o1, .ref o2] hp (fun v hp' c s => v = some (bv (mntB if0 if1 (resE (joinE e.2.2.1 f.2.2.1) (fun g => cellE e.2.2.2.2.1 f.2.2.2.2.1 g.toNatClampNeg) ((os.take if1).drop if0)))) ∧ (∃ vs' : List Int32, vs'.length = vs.length ∧ hp' = hp.set sa (.inl (16, vs'.map Value.int))) ∧ c = 0 ∧ s = 0) := by
  obtain ⟨sf, kes, fes, hs, h1, h2, h12, h13, h14, h16, h18, hka, hfa, hit, hk1, hf1, hk2, hf2, hi0, hi1⟩ := hS
  have hc := hF.ho
  refine At.go (q := xm142) rfl 1 (pc' := 1) (L' := [(0, .ref s), (1, .ref o1), (2, .ref o2)]) (st' := [.ref s]) rfl ?_
  refine At.gf rfl (by decide) hs h13 ?_
  refine At.go (q := xm142) rfl 1 (pc' := 5) (L' := [(0, .ref s), (1, .ref o1), (2, .ref o2)]) (st' := [.ref s, .int (Int32.ofNat if1)]) rfl ?_
  refine At.gf rfl (by decide) hs h12 ?_
  refine At.ic2 (tgt := 31) rfl rfl (fun h8 => ?_) (fun h8 => ?_)
  · refine At.go (q := xm142) rfl 4 (pc' := 37) (L' := [(3, .int 1), (0, .ref s), (1, .ref o1), (2, .ref o2)]) (st' := [.int (-1000000000), .int 1]) rfl ?_
    refine At.ic2 (tgt := 48) rfl rfl (fun h => absurd (h.symm.trans (by decide : xcm .eq (1 : Int32) (-1000000000) = false)) (by decide)) (fun _ => ?_)
    refine At.go (q := xm142) rfl 4 (pc' := 49) (L' := [(3, .int 1), (0, .ref s), (1, .ref o1), (2, .ref o2)]) (st' := [.int 1]) rfl ?_
    exact At.rt rfl rfl ⟨_, _, _, _, rfl, by unfold mntB; rw [if_neg (Nat.not_lt.mpr ((iN_le (by omega) (by omega)).mp (of_decide_eq_true h8)))]; rfl, ⟨vs, rfl, (xset_id hsa).symm⟩, rfl, rfl⟩
  · have hlt : if0 < if1 := Nat.lt_of_not_le (fun h => of_decide_eq_false h8 ((iN_le (by omega) (by omega)).mpr h))
    refine At.go (q := xm142) rfl 1 (pc' := 12) (L' := [(0, .ref s), (1, .ref o1), (2, .ref o2)]) (st' := [.ref s]) rfl ?_
    refine At.gf rfl (by decide) hs h1 ?_
    refine At.go (q := xm142) rfl 1 (pc' := 16) (L' := [(0, .ref s), (1, .ref o1), (2, .ref o2)]) (st' := [.ref s, .ref c]) rfl ?_
    refine At.gf rfl (by decide) hs h12 ?_
    refine At.go (q := xm142) rfl 1 (pc' := 20) (L' := [(0, .ref s), (1, .ref o1), (2, .ref o2)]) (st' := [.ref s, .int (Int32.ofNat if0), .ref c]) rfl ?_
    refine At.gf rfl (by decide) hs h13 ?_
    refine At.go (q := xm142) rfl 2 (pc' := 25) (L' := [(0, .ref s), (1, .ref o1), (2, .ref o2)]) (st' := [.ref o2, .ref o1, .int (Int32.ofNat if1), .int (Int32.ofNat if0), .ref c]) rfl ?_
    refine At.clm (as := [.ref c, .int (Int32.ofNat if0), .int (Int32.ofNat if1), .ref o1, .ref o2]) (rest := []) rfl (by decide) rfl (Nat.le_of_ble_eq_true rfl) (Nat.le_of_ble_eq_true rfl) (xrck_o (by decide) (by decide) hc (by decide)) (Nat.le_of_ble_eq_true rfl) (m_result2 hF hsa hN hN2 htn (Nat.le_of_lt hlt) hnm hX hW (hok hlt)) (fun v9 hp1 c1 s1 hv9 => ?_)
    obtain ⟨rfl, hv2, rfl, rfl⟩ := hv9
    refine At.go (q := xm142) rfl 4 (pc' := 37) (L' := [(3, .int (resE (joinE e.2.2.1 f.2.2.1) (fun g => cellE e.2.2.2.2.1 f.2.2.2.2.1 g.toNatClampNeg) ((os.take if1).drop if0))), (0, .ref s), (1, .ref o1), (2, .ref o2)]) (st' := [.int (-1000000000), .int (resE (joinE e.2.2.1 f.2.2.1) (fun g => cellE e.2.2.2.2.1 f.2.2.2.2.1 g.toNatClampNeg) ((os.take if1).drop if0))]) rfl ?_
    refine At.ic2 (tgt := 48) rfl rfl (fun h37 => ?_) (fun h37 => ?_)
    · refine At.go (q := xm142) rfl 1 (pc' := 49) (L' := [(3, .int (resE (joinE e.2.2.1 f.2.2.1) (fun g => cellE e.2.2.2.2.1 f.2.2.2.2.1 g.toNatClampNeg) ((os.take if1).drop if0))), (0, .ref s), (1, .ref o1), (2, .ref o2)]) (st' := [.int 0]) rfl ?_
      exact At.rt rfl rfl ⟨_, _, _, _, rfl, by unfold mntB; rw [if_pos hlt, of_decide_eq_true h37]; rfl, hv2, rfl, rfl⟩
    · refine At.go (q := xm142) rfl 1 (pc' := 41) (L' := [(3, .int (resE (joinE e.2.2.1 f.2.2.1) (fun g => cellE e.2.2.2.2.1 f.2.2.2.2.1 g.toNatClampNeg) ((os.take if1).drop if0))), (0, .ref s), (1, .ref o1), (2, .ref o2)]) (st' := [.int (resE (joinE e.2.2.1 f.2.2.1) (fun g => cellE e.2.2.2.2.1 f.2.2.2.2.1 g.toNatClampNeg) ((os.take if1).drop if0))]) rfl ?_
      refine At.ic1 (tgt := 48) rfl rfl (fun h41 => ?_) (fun h41 => ?_)
      · refine At.go (q := xm142) rfl 1 (pc' := 49) (L' := [(3, .int (resE (joinE e.2.2.1 f.2.2.1) (fun g => cellE e.2.2.2.2.1 f.2.2.2.2.1 g.toNatClampNeg) ((os.take if1).drop if0))), (0, .ref s), (1, .ref o1), (2, .ref o2)]) (st' := [.int 0]) rfl ?_
        exact At.rt rfl rfl ⟨_, _, _, _, rfl, by unfold mntB; rw [if_pos hlt, of_decide_eq_true h41]; rfl, hv2, rfl, rfl⟩
      · refine At.go (q := xm142) rfl 2 (pc' := 49) (L' := [(3, .int (resE (joinE e.2.2.1 f.2.2.1) (fun g => cellE e.2.2.2.2.1 f.2.2.2.2.1 g.toNatClampNeg) ((os.take if1).drop if0))), (0, .ref s), (1, .ref o1), (2, .ref o2)]) (st' := [.int 1]) rfl ?_
        exact At.rt rfl rfl ⟨_, _, _, _, rfl, by unfold mntB; rw [if_pos hlt, decide_eq_true (of_decide_eq_false h37), decide_eq_true (of_decide_eq_false h41)]; rfl, hv2, rfl, rfl⟩
theorem m_mcolumn {S : List Int32} {hp : List XC} {m mc i : Nat} {mf ces : List Value} {v : Int32} (hm : hp[m]? = some (.inr (6, mf))) (h9 : mf[9]? = some (.ref mc)) (hmc : hp[mc]? = some (.inl (17, ces))) (hv : ces[i]? = some (.int v)) (hn : ces.length ≤ 1000) : Pu S 0 108 [.ref m, .int (Int32.ofNat i)] hp (.int v) := by
  have hi := (List.getElem?_eq_some_iff.mp hv).1
  refine At.go (q := xm108) rfl 1 (pc' := 1) (L' := [(0, .ref m), (1, .int (Int32.ofNat i))]) (st' := [.int (Int32.ofNat i)]) rfl ?_
  refine At.ic1 (tgt := 22) rfl rfl (fun h => absurd (h.symm.trans (decide_eq_false (iN_nn (by omega)))) (by decide)) (fun _ => ?_)
  refine At.go (q := xm108) rfl 2 (pc' := 6) (L' := [(0, .ref m), (1, .int (Int32.ofNat i))]) (st' := [.ref m, .int (Int32.ofNat i)]) rfl ?_
  refine At.gf rfl (by decide) hm h9 ?_
  refine At.ln rfl hmc ?_
  refine At.ic2 (tgt := 22) rfl rfl (fun h => absurd (h.symm.trans (decide_eq_false (fun h => absurd ((iN_le (a := ces.length) (b := i) (by omega) (by omega)).mp h) (by omega)))) (by decide)) (fun _ => ?_)
  refine At.go (q := xm108) rfl 1 (pc' := 14) (L' := [(0, .ref m), (1, .int (Int32.ofNat i))]) (st' := [.ref m]) rfl ?_
  refine At.gf rfl (by decide) hm h9 ?_
  refine At.go (q := xm108) rfl 1 (pc' := 18) (L' := [(0, .ref m), (1, .int (Int32.ofNat i))]) (st' := [.int (Int32.ofNat i), .ref mc]) rfl ?_
  refine At.al rfl hmc (by decide) rfl (iN_nn (by omega)) (by rw [iN_tn (by omega)]; exact hv) ?_
  refine At.go (q := xm108) rfl 1 (pc' := 23) (L' := [(0, .ref m), (1, .int (Int32.ofNat i))]) (st' := [.int v]) rfl ?_
  exact At.rt rfl (xret_i rfl) rfl
