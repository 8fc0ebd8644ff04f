/-! entries made; keys; changes: cut (written by wip/p27/c77.py) -/
/-- an entry's constructor -/
theorem m_entry {S : List Int32} {hp : List XC} {a tb c : Nat} {k l : Int32} {vb : Bool} {v0 v1 v2 v3 v4 : Value} (h : hp[a]? = some (.inr (4, [v0, v1, v2, v3, v4]))) : Me S 1 181 [.ref a, .ref tb, .int k, .int l, bv vb, .ref c] hp (fun v hp' c' s => v = none ∧ hp' = hp.set a (.inr (4, [.ref tb, .int k, .int l, bv vb, .ref c])) ∧ c' = 0 ∧ s = 0) := by
  refine At.go (q := xm181) rfl 1 (pc' := 1) (L' := [(0, .ref a), (1, .ref tb), (2, .int k), (3, .int l), (4, .int (bI vb)), (5, .ref c)]) (st' := [.ref a]) rfl ?_
  refine At.sp rfl (by decide) (g := ([], hp)) rfl ?_
  refine At.go (q := xm181) rfl 2 (pc' := 6) (L' := [(0, .ref a), (1, .ref tb), (2, .int k), (3, .int l), (4, .int (bI vb)), (5, .ref c)]) (st' := [.ref tb, .ref a]) rfl ?_
  refine At.pf rfl h (Nat.le_of_ble_eq_true rfl) rfl ?_
  obtain ⟨hp1, ehp1⟩ : ∃ h, h = hp.set a (.inr (4, [.ref tb, v1, v2, v3, v4])) := ⟨_, rfl⟩
  refine At.hpe ehp1 ?_
  have fhp1_a : hp1[a]? = some (.inr (4, [.ref tb, v1, v2, v3, v4])) := by rw [ehp1]; exact xs_eq h
  refine At.go (q := xm181) rfl 2 (pc' := 11) (L' := [(0, .ref a), (1, .ref tb), (2, .int k), (3, .int l), (4, .int (bI vb)), (5, .ref c)]) (st' := [.int k, .ref a]) rfl ?_
  refine At.pf rfl fhp1_a (Nat.le_of_ble_eq_true rfl) xfit_i ?_
  obtain ⟨hp2, ehp2⟩ : ∃ h, h = hp1.set a (.inr (4, [.ref tb, .int k, v2, v3, v4])) := ⟨_, rfl⟩
  refine At.hpe ehp2 ?_
  have fhp2_a : hp2[a]? = some (.inr (4, [.ref tb, .int k, v2, v3, v4])) := by rw [ehp2]; exact xs_eq fhp1_a
  refine At.go (q := xm181) rfl 2 (pc' := 16) (L' := [(0, .ref a), (1, .ref tb), (2, .int k), (3, .int l), (4, .int (bI vb)), (5, .ref c)]) (st' := [.int l, .ref a]) rfl ?_
  refine At.pf rfl fhp2_a (Nat.le_of_ble_eq_true rfl) xfit_i ?_
  obtain ⟨hp3, ehp3⟩ : ∃ h, h = hp2.set a (.inr (4, [.ref tb, .int k, .int l, v3, v4])) := ⟨_, rfl⟩
  refine At.hpe ehp3 ?_
  have fhp3_a : hp3[a]? = some (.inr (4, [.ref tb, .int k, .int l, v3, v4])) := by rw [ehp3]; exact xs_eq fhp2_a
  refine At.go (q := xm181) rfl 2 (pc' := 22) (L' := [(0, .ref a), (1, .ref tb), (2, .int k), (3, .int l), (4, .int (bI vb)), (5, .ref c)]) (st' := [.int (bI vb), .ref a]) rfl ?_
  refine At.pf rfl fhp3_a (Nat.le_of_ble_eq_true rfl) (by cases vb <;> rfl) ?_
  obtain ⟨hp4, ehp4⟩ : ∃ h, h = hp3.set a (.inr (4, [.ref tb, .int k, .int l, .int (bI vb), v4])) := ⟨_, rfl⟩
  refine At.hpe ehp4 ?_
  have fhp4_a : hp4[a]? = some (.inr (4, [.ref tb, .int k, .int l, .int (bI vb), v4])) := by rw [ehp4]; exact xs_eq fhp3_a
  refine At.go (q := xm181) rfl 2 (pc' := 28) (L' := [(0, .ref a), (1, .ref tb), (2, .int k), (3, .int l), (4, .int (bI vb)), (5, .ref c)]) (st' := [.ref c, .ref a]) rfl ?_
  refine At.pf rfl fhp4_a (Nat.le_of_ble_eq_true rfl) rfl ?_
  obtain ⟨hp5, ehp5⟩ : ∃ h, h = hp4.set a (.inr (4, [.ref tb, .int k, .int l, .int (bI vb), .ref c])) := ⟨_, rfl⟩
  refine At.hpe ehp5 ?_
  have fhp5_a : hp5[a]? = some (.inr (4, [.ref tb, .int k, .int l, .int (bI vb), .ref c])) := by rw [ehp5]; exact xs_eq fhp4_a
  exact At.rt rfl rfl ⟨_, _, _, _, rfl, rfl, by rw [ehp5, ehp4, ehp3, ehp2, ehp1, List.set_set, List.set_set, List.set_set, List.set_set]; rfl, rfl, rfl⟩
/-- nextKey -/
theorem m_nextKey {S : List Int32} {hp : List XC} {t ga i : Nat} {fs : List Value} {gv : List Int32} {v : Int32} (ht : hp[t]? = some (.inr (13, fs))) (h7 : fs[7]? = some (.ref ga)) (hga : hp[ga]? = some (.inl (22, gv.map Value.int))) (hv : gv[i]? = some v) (hn : gv.length ≤ 1000) : Pu S 0 192 [.ref t, .int (Int32.ofNat i)] hp (.int (64 * (v + 1) + Int32.ofNat i)) := by
  have hi := (List.getElem?_eq_some_iff.mp hv).1
  refine At.go (q := xm192) rfl 1 (pc' := 1) (L' := [(0, .ref t), (1, .int (Int32.ofNat i))]) (st' := [.int (Int32.ofNat i)]) rfl ?_
  refine At.ic1 (tgt := 29) rfl rfl (fun h => absurd (h.symm.trans (decide_eq_false (iN_nn (by omega)))) (by decide)) (fun _ => ?_)
  refine At.go (q := xm192) rfl 2 (pc' := 6) (L' := [(0, .ref t), (1, .int (Int32.ofNat i))]) (st' := [.ref t, .int (Int32.ofNat i)]) rfl ?_
  refine At.gf rfl (by decide) ht h7 ?_
  refine At.ln rfl hga ?_
  refine At.ic2 (tgt := 29) rfl rfl (fun h => absurd (h.symm.trans (decide_eq_false (fun h => absurd ((iN_le (a := gv.length) (b := i) (by omega) (by omega)).mp (by rw [List.length_map] at h; exact h)) (by omega)))) (by decide)) (fun _ => ?_)
  refine At.go (q := xm192) rfl 2 (pc' := 16) (L' := [(0, .ref t), (1, .int (Int32.ofNat i))]) (st' := [.ref t, .int 64]) rfl ?_
  refine At.gf rfl (by decide) ht h7 ?_
  refine At.go (q := xm192) rfl 1 (pc' := 20) (L' := [(0, .ref t), (1, .int (Int32.ofNat i))]) (st' := [.int (Int32.ofNat i), .ref ga, .int 64]) rfl ?_
  refine At.al rfl hga (by decide) rfl (iN_nn (by omega)) (by rw [iN_tn (by omega), List.getElem?_map, hv]; rfl) ?_
  refine At.go (q := xm192) rfl 6 (pc' := 31) (L' := [(0, .ref t), (1, .int (Int32.ofNat i))]) (st' := [.int ((64 * (v + 1)) + (Int32.ofNat i))]) rfl ?_
  exact At.rt rfl (xret_i rfl) rfl
/-- giveKey -/
theorem m_giveKey {S : List Int32} {hp : List XC} {t ga i : Nat} {fs : List Value} {gv : List Int32} {v : Int32} (ht : hp[t]? = some (.inr (13, fs))) (h7 : fs[7]? = some (.ref ga)) (hga : hp[ga]? = some (.inl (22, gv.map Value.int))) (hv : gv[i]? = some v) (hn : gv.length ≤ 1000) : Me S 0 189 [.ref t, .int (Int32.ofNat i)] hp (fun v' hp' c s => v' = none ∧ hp' = hp.set ga (.inl (22, (gv.set i (v + 1)).map Value.int)) ∧ c = 0 ∧ s = 0) := by
  have hi := (List.getElem?_eq_some_iff.mp hv).1
  refine At.go (q := xm189) rfl 1 (pc' := 1) (L' := [(0, .ref t), (1, .int (Int32.ofNat i))]) (st' := [.int (Int32.ofNat i)]) rfl ?_
  refine At.ic1 (tgt := 23) rfl rfl (fun h => absurd (h.symm.trans (decide_eq_false (iN_nn (by omega)))) (by decide)) (fun _ => ?_)
  refine At.go (q := xm189) rfl 2 (pc' := 6) (L' := [(0, .ref t), (1, .int (Int32.ofNat i))]) (st' := [.ref t, .int (Int32.ofNat i)]) rfl ?_
  refine At.gf rfl (by decide) ht h7 ?_
  refine At.ln rfl hga ?_
  refine At.ic2 (tgt := 23) rfl rfl (fun h => absurd (h.symm.trans (decide_eq_false (fun h => absurd ((iN_le (a := gv.length) (b := i) (by omega) (by omega)).mp (by rw [List.length_map] at h; exact h)) (by omega)))) (by decide)) (fun _ => ?_)
  refine At.go (q := xm189) rfl 1 (pc' := 14) (L' := [(0, .ref t), (1, .int (Int32.ofNat i))]) (st' := [.ref t]) rfl ?_
  refine At.gf rfl (by decide) ht h7 ?_
  refine At.go (q := xm189) rfl 2 (pc' := 19) (L' := [(0, .ref t), (1, .int (Int32.ofNat i))]) (st' := [.int (Int32.ofNat i), .ref ga, .int (Int32.ofNat i), .ref ga]) rfl ?_
  refine At.al rfl hga (by decide) rfl (iN_nn (by omega)) (by rw [iN_tn (by omega), List.getElem?_map, hv]; rfl) ?_
  refine At.go (q := xm189) rfl 2 (pc' := 22) (L' := [(0, .ref t), (1, .int (Int32.ofNat i))]) (st' := [.int (v + 1), .int (Int32.ofNat i), .ref ga]) rfl ?_
  refine At.as (j := Int32.ofNat i) rfl hga (by decide) rfl (iN_nn (by omega)) (by rw [iN_tn (by omega), List.length_map]; omega) ?_
  rw [iN_tn (by omega)]
  exact At.rt rfl rfl ⟨_, _, _, _, rfl, rfl, by rw [List.map_set]; rfl, rfl, rfl⟩
