/-! queries: nothing is gathered of no table (written by wip/p27/c999993.py) -/
theorem m_gather_e0 {hp : List XC} {as : List Nat} {S : List Int32} {q l v g st vl gl : Nat} {lb : Int32} {qf sf : List Value} {ss : List Nat} (hne : l ≠ vl) (hqf : qf[0]? = some (.ref st)) (hsf : sf[3]? = some (.int 1)) (hO : Own hp) (hq : hp[q]? = some (.inr (7, qf))) (hst : hp[st]? = some (.inr (12, sf))) (hv : hp[v]? = some (.inr (10, [.ref vl]))) (hg : hp[g]? = some (.inr (11, [.ref gl, .int lb]))) (hL : hLs hp l as) (hSS : hLs hp vl ss) : Me S 7 140 [.ref q, .ref l, .null, .ref v, .ref g] hp (fun v' hp' c s => v' = none ∧ FrX (fun x => x = l) hp hp' ∧ hSh hp' l [] ∧ c = 0 ∧ s = 0 ∧ capL hp' l = capL hp l) := by
  obtain ⟨lf, hl0⟩ := hL.ob
  refine At.go (q := xm140) rfl 1 (pc' := 1) (L' := [(0, .ref q), (1, .ref l), (2, .null), (3, .ref v), (4, .ref g)]) (st' := [.ref l]) rfl ?_
  refine At.clm (as := [.ref l]) (rest := []) rfl (by decide) rfl (Nat.le_of_ble_eq_true rfl) (Nat.le_of_ble_eq_true rfl) (xrck_o (by decide) (by decide) hl0 (by decide)) (Nat.le_of_ble_eq_true rfl) (m_clear hL) (fun v9 hr1 c1 s1 hv9 => ?_)
  obtain ⟨rfl, k1, k2, rfl, rfl, k3⟩ := hv9
  have hq1 := k1.ob hq (by decide) (ob_ne hq (by decide) hL)
  have hst1 := k1.ob hst (by decide) (ob_ne hst (by decide) hL)
  have hv1 := k1.ob hv (by decide) (ob_ne hv (by decide) hL)
  have hg1 := k1.ob hg (by decide) (ob_ne hg (by decide) hL)
  have hSS1 := k1.ls (fun h => hne h.symm) hO hSS
  refine At.go (q := xm140) rfl 1 (pc' := 5) (L' := [(0, .ref q), (1, .ref l), (2, .null), (3, .ref v), (4, .ref g)]) (st' := [.ref q]) rfl ?_
  refine At.gf rfl (by decide) hq1 hqf ?_
  refine At.gf rfl (by decide) hst1 hsf ?_
  refine At.go (q := xm140) rfl 2 (pc' := 15) (L' := [(0, .ref q), (1, .ref l), (2, .null), (3, .ref v), (4, .ref g)]) (st' := [.ref v]) rfl ?_
  refine At.clp (as := [.ref v]) (rest := []) rfl (by decide) rfl (Nat.le_of_ble_eq_true rfl) (Nat.le_of_ble_eq_true rfl) (xrck_o (by decide) (by decide) hv1 (by decide)) (Nat.le_of_ble_eq_true rfl) (m_shsize hv1 hSS1) ?_
  refine At.go (q := xm140) rfl 6 (pc' := 35) (L' := [(6, .int 0), (5, .int (Int32.ofNat ss.length)), (0, .ref q), (1, .ref l), (2, .null), (3, .ref v), (4, .ref g)]) (st' := [.int (Int32.ofNat ss.length), .int 0]) rfl ?_
  refine At.ic2 (tgt := 121) rfl rfl (fun _ => ?_) (fun _ => ?_)
  · exact At.rt rfl rfl ⟨_, _, _, _, rfl, rfl, k1, ⟨[], k2, ⟨rfl, fun i a e h => by cases h⟩⟩, rfl, rfl, k3⟩
  · refine At.go (q := xm140) rfl 2 (pc' := 121) (L' := [(6, .int 0), (5, .int (Int32.ofNat ss.length)), (0, .ref q), (1, .ref l), (2, .null), (3, .ref v), (4, .ref g)]) (st' := []) rfl ?_
    exact At.rt rfl rfl ⟨_, _, _, _, rfl, rfl, k1, ⟨[], k2, ⟨rfl, fun i a e h => by cases h⟩⟩, rfl, rfl, k3⟩
theorem m_gather_s0 {hp : List XC} {as : List Nat} {S : List Int32} {q l v g st vl gl : Nat} {lb : Int32} {qf sf : List Value} {ss : List Nat} (hne : l ≠ gl) (hqf : qf[0]? = some (.ref st)) (hsf : sf[3]? = some (.int 0)) (hO : Own hp) (hq : hp[q]? = some (.inr (7, qf))) (hst : hp[st]? = some (.inr (12, sf))) (hv : hp[v]? = some (.inr (10, [.ref vl]))) (hg : hp[g]? = some (.inr (11, [.ref gl, .int lb]))) (hL : hLs hp l as) (hSS : hLs hp gl ss) : Me S 7 140 [.ref q, .ref l, .null, .ref v, .ref g] hp (fun v' hp' c s => v' = none ∧ FrX (fun x => x = l) hp hp' ∧ hSh hp' l [] ∧ c = 0 ∧ s = 0 ∧ capL hp' l = capL hp l) := by
  obtain ⟨lf, hl0⟩ := hL.ob
  refine At.go (q := xm140) rfl 1 (pc' := 1) (L' := [(0, .ref q), (1, .ref l), (2, .null), (3, .ref v), (4, .ref g)]) (st' := [.ref l]) rfl ?_
  refine At.clm (as := [.ref l]) (rest := []) rfl (by decide) rfl (Nat.le_of_ble_eq_true rfl) (Nat.le_of_ble_eq_true rfl) (xrck_o (by decide) (by decide) hl0 (by decide)) (Nat.le_of_ble_eq_true rfl) (m_clear hL) (fun v9 hr1 c1 s1 hv9 => ?_)
  obtain ⟨rfl, k1, k2, rfl, rfl, k3⟩ := hv9
  have hq1 := k1.ob hq (by decide) (ob_ne hq (by decide) hL)
  have hst1 := k1.ob hst (by decide) (ob_ne hst (by decide) hL)
  have hv1 := k1.ob hv (by decide) (ob_ne hv (by decide) hL)
  have hg1 := k1.ob hg (by decide) (ob_ne hg (by decide) hL)
  have hSS1 := k1.ls (fun h => hne h.symm) hO hSS
  refine At.go (q := xm140) rfl 1 (pc' := 5) (L' := [(0, .ref q), (1, .ref l), (2, .null), (3, .ref v), (4, .ref g)]) (st' := [.ref q]) rfl ?_
  refine At.gf rfl (by decide) hq1 hqf ?_
  refine At.gf rfl (by decide) hst1 hsf ?_
  refine At.go (q := xm140) rfl 2 (pc' := 23) (L' := [(0, .ref q), (1, .ref l), (2, .null), (3, .ref v), (4, .ref g)]) (st' := [.ref g]) rfl ?_
  refine At.clp (as := [.ref g]) (rest := []) rfl (by decide) rfl (Nat.le_of_ble_eq_true rfl) (Nat.le_of_ble_eq_true rfl) (xrck_o (by decide) (by decide) hg1 (by decide)) (Nat.le_of_ble_eq_true rfl) (m_sgsize hg1 hSS1) ?_
  refine At.go (q := xm140) rfl 5 (pc' := 35) (L' := [(6, .int 0), (5, .int (Int32.ofNat ss.length)), (0, .ref q), (1, .ref l), (2, .null), (3, .ref v), (4, .ref g)]) (st' := [.int (Int32.ofNat ss.length), .int 0]) rfl ?_
  refine At.ic2 (tgt := 121) rfl rfl (fun _ => ?_) (fun _ => ?_)
  · exact At.rt rfl rfl ⟨_, _, _, _, rfl, rfl, k1, ⟨[], k2, ⟨rfl, fun i a e h => by cases h⟩⟩, rfl, rfl, k3⟩
  · refine At.go (q := xm140) rfl 2 (pc' := 121) (L' := [(6, .int 0), (5, .int (Int32.ofNat ss.length)), (0, .ref q), (1, .ref l), (2, .null), (3, .ref v), (4, .ref g)]) (st' := []) rfl ?_
    exact At.rt rfl rfl ⟨_, _, _, _, rfl, rfl, k1, ⟨[], k2, ⟨rfl, fun i a e h => by cases h⟩⟩, rfl, rfl, k3⟩
