/-! texts: a number behind a text, a builder's text, beginnings (written by wip/p27/c999999999998.py) -/
theorem dg_neg {d : Nat} (h : d < 10) : ¬ Int32.ofNat d < 0 ∧ ¬ (-(Int32.ofNat d)) ≤ -10 ∧ ¬ (-(Int32.ofNat d)) ≤ -100 ∧ -(-(Int32.ofNat d)) = Int32.ofNat d ∧ ¬ (-(Int32.ofNat d)) < -9 := by
  have : ∀ d, d < 10 → ¬ Int32.ofNat d < 0 ∧ ¬ (-(Int32.ofNat d)) ≤ -10 ∧ ¬ (-(Int32.ofNat d)) ≤ -100 ∧ -(-(Int32.ofNat d)) = Int32.ofNat d ∧ ¬ (-(Int32.ofNat d)) < -9 := by decide +kernel
  exact this d h
def dgK (o : Option XC) (d : Nat) : Bool := match o with
  | some (.inl q) => decide (q.1 = 2) && decide (q.2[d]? = some (.int (Int32.ofNat (48 + d))))
  | _ => false
theorem dgK_s {o : Option XC} {d : Nat} (h : dgK o d = true) : ∃ es, o = some (.inl (2, es)) ∧ es[d]? = some (.int (Int32.ofNat (48 + d))) := by
  match o, h with
  | some (.inl q), h =>
    have h8 := Bool.and_eq_true_iff.mp h
    exact ⟨q.2, by rw [← of_decide_eq_true h8.1], of_decide_eq_true h8.2⟩
theorem dg_one {d : Nat} (h : d < 10) : ∃ es, xKC[224]? = some (.inl (2, es)) ∧ es[d]? = some (.int (Int32.ofNat (48 + d))) := by
  have : ∀ d, d < 10 → dgK xKC[224]? d = true := by decide +kernel
  exact dgK_s (this d h)
theorem m_strSz {S : List Int32} {hp : List XC} {d : Nat} (hd : d < 10) : Pu S 0 234 [.int (Int32.ofNat d)] hp (.int 1) := by
  refine At.go (q := xm234) rfl 3 (pc' := 3) (L' := [(1, .int 1), (0, .int (Int32.ofNat d))]) (st' := [.int (Int32.ofNat d)]) rfl ?_
  refine At.ic1 (tgt := 11) rfl rfl (fun h => absurd (h.symm.trans (decide_eq_false (dg_neg hd).1)) (by decide)) (fun _ => ?_)
  refine At.go (q := xm234) rfl 11 (pc' := 19) (L' := [(3, .int 1), (2, .int (-10)), (0, .int (-(Int32.ofNat d))), (1, .int 0)]) (st' := [.int 10, .int 1]) rfl ?_
  refine At.ic2 (tgt := 42) rfl rfl (fun h => absurd (h.symm.trans (show xcm .ge 1 10 = false from rfl)) (by decide)) (fun _ => ?_)
  refine At.go (q := xm234) rfl 2 (pc' := 24) (L' := [(3, .int 1), (2, .int (-10)), (0, .int (-(Int32.ofNat d))), (1, .int 0)]) (st' := [.int (-10), .int (-(Int32.ofNat d))]) rfl ?_
  refine At.ic2 (tgt := 31) rfl rfl (fun h => absurd (h.symm.trans (decide_eq_false (dg_neg hd).2.1)) (by decide)) (fun _ => ?_)
  refine At.go (q := xm234) rfl 3 (pc' := 30) (L' := [(3, .int 1), (2, .int (-10)), (0, .int (-(Int32.ofNat d))), (1, .int 0)]) (st' := [.int (1 + 0)]) rfl ?_
  exact At.rt rfl rfl rfl
theorem m_getCh {S : List Int32} {hp : List XC} {d a m : Nat} {cs : List Nat} (ha : hp[a]? = some (.inl (2, bL cs ++ List.replicate (m + 1) (.int 0)))) (hd : d < 10) (hl : cs.length ≤ 300) : Me S 0 235 [.int (Int32.ofNat d), .int (Int32.ofNat (cs.length + 1)), .ref a] hp (fun v hp' c s => (∃ x, v = some (.int x)) ∧ hp' = hp.set a (.inl (2, bL (cs ++ [48 + d]) ++ List.replicate m (.int 0))) ∧ c = 0 ∧ s = 0) := by
  obtain ⟨es, hk, hes⟩ := dg_one hd
  refine At.go (q := xm235) rfl 3 (pc' := 4) (L' := [(5, .int (Int32.ofNat (cs.length + 1))), (0, .int (Int32.ofNat d)), (1, .int (Int32.ofNat (cs.length + 1))), (2, .ref a)]) (st' := [.int (Int32.ofNat d)]) rfl ?_
  refine At.ic1 (tgt := 11) rfl rfl (fun _ => ?_) (fun h => absurd (h.symm.trans (decide_eq_true (Int32.not_lt.mp (dg_neg hd).1))) (by decide))
  refine At.go (q := xm235) rfl 9 (pc' := 25) (L' := [(0, .int (-(Int32.ofNat d))), (6, .int 0), (5, .int (Int32.ofNat (cs.length + 1))), (1, .int (Int32.ofNat (cs.length + 1))), (2, .ref a)]) (st' := [.int (-100), .int (-(Int32.ofNat d))]) rfl ?_
  refine At.ic2 (tgt := 72) rfl rfl (fun _ => ?_) (fun h => absurd (h.symm.trans (decide_eq_true (Int32.not_le.mp (dg_neg hd).2.2.1))) (by decide))
  refine At.go (q := xm235) rfl 2 (pc' := 76) (L' := [(5, .int ((Int32.ofNat (cs.length + 1)) + (-1))), (0, .int (-(Int32.ofNat d))), (6, .int 0), (1, .int (Int32.ofNat (cs.length + 1))), (2, .ref a)]) (st' := [.ref a]) rfl ?_
  rw [show Int32.ofNat (cs.length + 1) + (-1) = Int32.ofNat cs.length from by rw [i32_neg1]; exact iN_m2]
  refine At.go (q := xm235) rfl 4 (pc' := 83) (L' := [(5, .int (Int32.ofNat cs.length)), (0, .int (-(Int32.ofNat d))), (6, .int 0), (1, .int (Int32.ofNat (cs.length + 1))), (2, .ref a)]) (st' := [.int (-(-(Int32.ofNat d))), .retAddr 224, .int (Int32.ofNat cs.length), .ref a]) rfl ?_
  rw [(dg_neg hd).2.2.2.1]
  refine At.ak rfl hk (by decide) rfl (iN_nn (by omega)) (by rw [iN_tn (by omega)]; exact hes) ?_
  refine At.as rfl ha (by decide) rfl (iN_nn (by omega)) (by rw [iN_tn (by omega), bz_len]; omega) ?_
  rw [iN_tn (show cs.length < 2 ^ 31 by omega), b_nar (show 48 + d < 128 by omega), bz_set]
  refine At.go (q := xm235) rfl 2 (pc' := 88) (L' := [(5, .int (Int32.ofNat cs.length)), (0, .int (-(Int32.ofNat d))), (6, .int 0), (1, .int (Int32.ofNat (cs.length + 1))), (2, .ref a)]) (st' := [.int (-9), .int (-(Int32.ofNat d))]) rfl ?_
  refine At.ic2 (tgt := 104) rfl rfl (fun _ => ?_) (fun h => absurd (h.symm.trans (decide_eq_true (Int32.not_lt.mp (dg_neg hd).2.2.2.2))) (by decide))
  refine At.go (q := xm235) rfl 3 (pc' := 120) (L' := [(5, .int (Int32.ofNat cs.length)), (0, .int (-(Int32.ofNat d))), (6, .int 0), (1, .int (Int32.ofNat (cs.length + 1))), (2, .ref a)]) (st' := [.int (Int32.ofNat cs.length)]) rfl ?_
  exact At.rt rfl (xret_i rfl) ⟨_, _, _, _, rfl, ⟨_, rfl⟩, rfl, rfl, rfl⟩
theorem m_asbD {S : List Int32} {hp : List XC} {b a m : Nat} {cs : List Nat} (h : hSB hp b a cs m) {d : Nat} (hd : d < 10) (hl : cs.length + 1 ≤ 140) : Me S 4 233 [.ref b, .int (Int32.ofNat d)] hp (fun v hp' c s => v = some (.ref b) ∧ RSB hp b a (cs ++ [48 + d]) 0 hp' c s) := by
  obtain ⟨hok, hcap, mv, hb, ha⟩ := id h
  refine At.go (q := xm233) rfl 1 (pc' := 1) (L' := [(0, .ref b), (1, .int (Int32.ofNat d))]) (st' := [.ref b]) rfl ?_
  refine At.gf rfl (by decide) hb rfl ?_
  refine At.go (q := xm233) rfl 3 (pc' := 7) (L' := [(2, .int (Int32.ofNat cs.length)), (0, .ref b), (1, .int (Int32.ofNat d))]) (st' := [.int (Int32.ofNat d), .int (Int32.ofNat cs.length)]) rfl ?_
  refine At.clp (as := [.int (Int32.ofNat d)]) (rest := [.int (Int32.ofNat cs.length)]) rfl (by decide) rfl (Nat.le_of_ble_eq_true rfl) (Nat.le_of_ble_eq_true rfl) rfl (Nat.le_of_ble_eq_true rfl) (m_strSz hd) ?_
  refine At.go (q := xm233) rfl 1 (pc' := 11) (L' := [(2, .int (Int32.ofNat cs.length)), (0, .ref b), (1, .int (Int32.ofNat d))]) (st' := [.int ((Int32.ofNat cs.length) + 1)]) rfl ?_
  rw [show Int32.ofNat cs.length + 1 = Int32.ofNat (cs.length + 1) from iN_s _]
  refine At.go (q := xm233) rfl 3 (pc' := 14) (L' := [(3, .int (Int32.ofNat (cs.length + 1))), (2, .int (Int32.ofNat cs.length)), (0, .ref b), (1, .int (Int32.ofNat d))]) (st' := [.int (Int32.ofNat (cs.length + 1)), .ref b]) rfl ?_
  refine At.clm (as := [.ref b, .int (Int32.ofNat (cs.length + 1))]) (rest := []) rfl (by decide) rfl (Nat.le_of_ble_eq_true rfl) (Nat.le_of_ble_eq_true rfl) (xrck_o (by decide) (by decide) hb (by decide)) (Nat.le_of_ble_eq_true rfl) (m_ens h (by omega) (by omega)) (fun v hp1 c1 s1 hv => ?_)
  obtain ⟨rfl, a1, m9, g1, g2, g3, g4, g5, g6⟩ := hv
  obtain ⟨m1, rfl⟩ : ∃ m1, m9 = m1 + 1 := ⟨m9 - 1, by omega⟩
  obtain ⟨-, gcap, mv1, gb, ga⟩ := id g1
  refine At.go (q := xm233) rfl 1 (pc' := 18) (L' := [(3, .int (Int32.ofNat (cs.length + 1))), (2, .int (Int32.ofNat cs.length)), (0, .ref b), (1, .int (Int32.ofNat d))]) (st' := [.ref b]) rfl ?_
  refine At.clp (as := [.ref b]) (rest := []) rfl (by decide) rfl (Nat.le_of_ble_eq_true rfl) (Nat.le_of_ble_eq_true rfl) (xrck_o (by decide) (by decide) gb (by decide)) (Nat.le_of_ble_eq_true rfl) (m_sbL g1) ?_
  refine At.go (q := xm233) rfl 4 (pc' := 27) (L' := [(3, .int (Int32.ofNat (cs.length + 1))), (2, .int (Int32.ofNat cs.length)), (0, .ref b), (1, .int (Int32.ofNat d))]) (st' := [.ref b, .int (Int32.ofNat (cs.length + 1)), .int (Int32.ofNat d)]) rfl ?_
  refine At.gf rfl (by decide) gb rfl ?_
  refine At.clm (as := [.int (Int32.ofNat d), .int (Int32.ofNat (cs.length + 1)), .ref a1]) (rest := []) rfl (by decide) rfl (Nat.le_of_ble_eq_true rfl) (Nat.le_of_ble_eq_true rfl) rfl (Nat.le_of_ble_eq_true rfl) (m_getCh ga hd (by omega)) (fun v hp2 c2 s2 hv => ?_)
  obtain ⟨⟨x9, rfl⟩, e2, rfl, rfl⟩ := hv
  have gb2 : hp2[b]? = some (.inr (1, [.ref a1, .int 0, .int mv1, .int (Int32.ofNat cs.length)])) := by rw [e2]; exact xs_ne (xn_ar ga gb) gb
  have ga2 : hp2[a1]? = some (.inl (2, bL (cs ++ [48 + d]) ++ List.replicate m1 (.int 0))) := by rw [e2]; exact xs_eq ga
  refine At.go (q := xm233) rfl 4 (pc' := 50) (L' := [(3, .int (Int32.ofNat (cs.length + 1))), (2, .int (Int32.ofNat cs.length)), (0, .ref b), (1, .int (Int32.ofNat d))]) (st' := [.int (Int32.ofNat (cs.length + 1)), .ref b]) rfl ?_
  rw [show Int32.ofNat (cs.length + 1) = Int32.ofNat (cs ++ [48 + d]).length from by rw [List.length_append]; rfl]
  refine At.pf rfl gb2 (Nat.le_of_ble_eq_true rfl) xfit_i ?_
  obtain ⟨hp3, ehp3⟩ : ∃ h, h = hp2.set b (.inr (1, [.ref a1, .int 0, .int mv1, .int (Int32.ofNat (cs ++ [48 + d]).length)])) := ⟨_, rfl⟩
  refine At.hpe ehp3 ?_
  have fhp3_b : hp3[b]? = some (.inr (1, [.ref a1, .int 0, .int mv1, .int (Int32.ofNat (cs ++ [48 + d]).length)])) := by rw [ehp3]; exact xs_eq gb2
  have fhp3_a1 : hp3[a1]? = some (.inl (2, (bL (cs ++ [48 + d]) ++ List.replicate m1 (.int 0)))) := by rw [ehp3]; exact xs_ne (xn_ra gb2 ga2) ga2
  refine At.go (q := xm233) rfl 1 (pc' := 54) (L' := [(3, .int (Int32.ofNat (cs ++ [48 + d]).length)), (2, .int (Int32.ofNat cs.length)), (0, .ref b), (1, .int (Int32.ofNat d))]) (st' := [.ref b]) rfl ?_
  have k2 : FrX (fun x => x = a1) hp1 hp2 := by rw [e2]; exact FrX.xs ga
  have k3 : FrX (fun x => x = b) hp2 hp3 := by rw [ehp3]; exact FrX.so gb2 (by decide) rfl (by decide)
  refine At.rt rfl rfl ⟨_, _, _, _, rfl, rfl, a1, m1, ⟨fun c hc => (List.mem_append.mp hc).elim (hok c) (fun hc => by rw [List.mem_singleton.mp hc]; omega), by rw [List.length_append, List.length_singleton]; omega, mv1, fhp3_b, fhp3_a1⟩, Nat.zero_le _, FrX.tr (FrX.tr g3 k2 (fun x hx => ?_)) k3 (fun x hx => Or.inl (Or.inl hx)), g4, by omega, by omega⟩
  have hx' : x = a1 := hx
  rcases g4 with e | e
  · exact Or.inl (Or.inr (hx'.trans e))
  · exact Or.inr (by rw [hx']; exact e)
theorem m_appD {S : List Int32} {hp : List XC} {b a m : Nat} {cs : List Nat} (h : hSB hp b a cs m) {d : Nat} (hd : d < 10) (hl : cs.length + 1 ≤ 140) : Me S 5 232 [.ref b, .int (Int32.ofNat d)] hp (fun v hp' c s => v = some (.ref b) ∧ RSB hp b a (cs ++ [48 + d]) 0 hp' c s) := by
  obtain ⟨hok, hcap, mv, hb, ha⟩ := id h
  refine At.go (q := xm232) rfl 2 (pc' := 2) (L' := [(0, .ref b), (1, .int (Int32.ofNat d))]) (st' := [.int (Int32.ofNat d), .ref b]) rfl ?_
  refine At.clm (as := [.ref b, .int (Int32.ofNat d)]) (rest := []) rfl (by decide) rfl (Nat.le_of_ble_eq_true rfl) (Nat.le_of_ble_eq_true rfl) (xrck_o (by decide) (by decide) hb (by decide)) (Nat.le_of_ble_eq_true rfl) (m_asbD h hd hl) (fun v hp1 c1 s1 hv => ?_)
  obtain ⟨rfl, g1⟩ := hv
  refine At.go (q := xm232) rfl 2 (pc' := 7) (L' := [(0, .ref b), (1, .int (Int32.ofNat d))]) (st' := [.ref b]) rfl ?_
  exact At.rt rfl rfl ⟨_, _, _, _, rfl, rfl, by rw [Nat.zero_add, Nat.zero_add]; exact g1⟩
theorem m_sbV {S : List Int32} {hp : List XC} {b a m : Nat} {cs : List Nat} (h : hSB hp b a cs m) : Pu S 0 226 [.ref b] hp (.ref a) := by
  obtain ⟨hok, hcap, mv, hb, ha⟩ := id h
  refine At.go (q := xm226) rfl 1 (pc' := 1) (L' := [(0, .ref b)]) (st' := [.ref b]) rfl ?_
  refine At.gf rfl (by decide) hb rfl ?_
  exact At.rt rfl rfl rfl
theorem m_asbN {S : List Int32} {hp : List XC} {b a m : Nat} {cs : List Nat} (h : hSB hp b a cs m) : Pu S 0 228 [.ref b] hp (.int (Int32.ofNat cs.length)) := by
  obtain ⟨hok, hcap, mv, hb, ha⟩ := id h
  refine At.go (q := xm228) rfl 1 (pc' := 1) (L' := [(0, .ref b)]) (st' := [.ref b]) rfl ?_
  refine At.gf rfl (by decide) hb rfl ?_
  exact At.rt rfl (xret_i rfl) rfl
theorem m_sbN {S : List Int32} {hp : List XC} {b a m : Nat} {cs : List Nat} (h : hSB hp b a cs m) : Pu S 1 227 [.ref b] hp (.int (Int32.ofNat cs.length)) := by
  obtain ⟨hok, hcap, mv, hb, ha⟩ := id h
  refine At.go (q := xm227) rfl 1 (pc' := 1) (L' := [(0, .ref b)]) (st' := [.ref b]) rfl ?_
  refine At.clp (as := [.ref b]) (rest := []) rfl (by decide) rfl (Nat.le_of_ble_eq_true rfl) (Nat.le_of_ble_eq_true rfl) (xrck_o (by decide) (by decide) hb (by decide)) (Nat.le_of_ble_eq_true rfl) (m_asbN h) ?_
  exact At.rt rfl (xret_i rfl) rfl
theorem m_chkL {S : List Int32} {hp : List XC} {n : Nat} (hn : n ≤ 1000) : Pv S 0 231 [.int 0, .int (Int32.ofNat n)] hp := by
  refine At.go (q := xm231) rfl 2 (pc' := 2) (L' := [(0, .int 0), (1, .int (Int32.ofNat n))]) (st' := [.int 0, .int (Int32.ofNat n)]) rfl ?_
  refine At.ic2 (tgt := 37) rfl rfl (fun _ => ?_) (fun h => absurd (h.symm.trans (decide_eq_true (Int32.not_lt.mp (iN_nn (by omega))))) (by decide))
  exact At.rt rfl rfl rfl
theorem m_corB {S : List Int32} {hp : List XC} {a m : Nat} {cs : List Nat} (hok : cOk cs) (hcap : cs.length + m ≤ 300) (ha : hp[a]? = some (.inl (2, bL cs ++ List.replicate m (.int 0)))) : Me S 1 230 [.ref a, .int 0, .int (Int32.ofNat cs.length)] hp (fun v hp' c s => v = some (.ref hp.length) ∧ hp' = hp ++ [.inl (2, bL cs)] ∧ c = 1 ∧ s = cs.length) := by
  refine At.go (q := xm230) rfl 2 (pc' := 2) (L' := [(0, .ref a), (1, .int 0), (2, .int (Int32.ofNat cs.length))]) (st' := [.int (Int32.ofNat cs.length), .int 0]) rfl ?_
  refine At.clv (as := [.int 0, .int (Int32.ofNat cs.length)]) (rest := []) rfl (by decide) rfl (Nat.le_of_ble_eq_true rfl) (Nat.le_of_ble_eq_true rfl) rfl (Nat.le_of_ble_eq_true rfl) (m_chkL (by omega)) ?_
  refine At.go (q := xm230) rfl 3 (pc' := 8) (L' := [(0, .ref a), (1, .int 0), (2, .int (Int32.ofNat cs.length))]) (st' := [.int ((Int32.ofNat cs.length) - 0)]) rfl ?_
  rw [iN_0s]
  refine At.go (q := xm230) rfl 2 (pc' := 10) (L' := [(3, .int (Int32.ofNat cs.length)), (0, .ref a), (1, .int 0), (2, .int (Int32.ofNat cs.length))]) (st' := [.int (Int32.ofNat cs.length)]) rfl ?_
  refine At.na (n := Int32.ofNat cs.length) rfl (iN_nn (by omega)) (by rw [iN_tn (by omega)]; omega) (by decide) ?_
  rw [iN_tn (show cs.length < 2 ^ 31 by omega)]
  obtain ⟨hp1, ehp1⟩ : ∃ h, h = hp ++ [.inl (2, List.replicate cs.length (.int 0))] := ⟨_, rfl⟩
  refine At.hpe ehp1 ?_
  have fhp1_a : hp1[a]? = some (.inl (2, (bL cs ++ List.replicate m (.int 0)))) := by rw [ehp1]; exact xa_lt ha
  have fhp1_hp_length : hp1[hp.length]? = some (.inl (2, (List.replicate cs.length (.int 0)))) := by rw [ehp1]; exact xa_eq
  refine At.go (q := xm230) rfl 6 (pc' := 20) (L' := [(4, .ref hp.length), (3, .int (Int32.ofNat cs.length)), (0, .ref a), (1, .int 0), (2, .int (Int32.ofNat cs.length))]) (st' := [.ref a, .int 0, .ref hp.length, .int 0, .ref a]) rfl ?_
  refine At.ln rfl fhp1_a ?_
  rw [bz_len]
  refine At.go (q := xm230) rfl 1 (pc' := 22) (L' := [(4, .ref hp.length), (3, .int (Int32.ofNat cs.length)), (0, .ref a), (1, .int 0), (2, .int (Int32.ofNat cs.length))]) (st' := [.int 0, .int (Int32.ofNat (cs.length + m)), .int 0, .ref hp.length, .int 0, .ref a]) rfl ?_
  refine At.go (q := xm230) rfl 1 (pc' := 23) (L' := [(4, .ref hp.length), (3, .int (Int32.ofNat cs.length)), (0, .ref a), (1, .int 0), (2, .int (Int32.ofNat cs.length))]) (st' := [.int ((Int32.ofNat (cs.length + m)) - 0), .int 0, .ref hp.length, .int 0, .ref a]) rfl ?_
  rw [iN_0s]
  refine At.go (q := xm230) rfl 1 (pc' := 24) (L' := [(4, .ref hp.length), (3, .int (Int32.ofNat cs.length)), (0, .ref a), (1, .int 0), (2, .int (Int32.ofNat cs.length))]) (st' := [.int (Int32.ofNat cs.length), .int (Int32.ofNat (cs.length + m)), .int 0, .ref hp.length, .int 0, .ref a]) rfl ?_
  refine At.sp rfl (by decide) (g := ([.int (if (Int32.ofNat cs.length) < (Int32.ofNat (cs.length + m)) then (Int32.ofNat cs.length) else (Int32.ofNat (cs.length + m))), .int 0, .ref hp.length, .int 0, .ref a], hp1)) rfl ?_
  rw [i_smin (show cs.length + m < 2 ^ 31 by omega) (show cs.length < 2 ^ 31 by omega), Nat.min_eq_right (show cs.length ≤ cs.length + m by omega)]
  refine At.cpb (sp := 0) (dp := 0) (n := cs.length) rfl (by decide) fhp1_a fhp1_hp_length (by rw [bz_len]; omega) (by rw [List.length_replicate]; omega) (by rw [bz_len]; omega) (by rw [List.length_replicate]; omega) (bL_okz hok) (by decide) ?_
  rw [xcpl_tk]
  refine At.go (q := xm230) rfl 1 (pc' := 32) (L' := [(4, .ref hp.length), (3, .int (Int32.ofNat cs.length)), (0, .ref a), (1, .int 0), (2, .int (Int32.ofNat cs.length))]) (st' := [.ref hp.length]) rfl ?_
  exact At.rt rfl rfl ⟨_, _, _, _, rfl, rfl, by rw [ehp1, List.set_append_right _ _ (Nat.le_refl _), Nat.sub_self]; rfl, rfl, Nat.zero_add _⟩
theorem m_corR {S : List Int32} {hp : List XC} {a m : Nat} {cs : List Nat} (hok : cOk cs) (hcap : cs.length + m ≤ 300) (ha : hp[a]? = some (.inl (2, bL cs ++ List.replicate m (.int 0)))) : Me S 2 229 [.ref a, .int 0, .int (Int32.ofNat cs.length)] hp (fun v hp' c s => v = some (.ref hp.length) ∧ hp' = hp ++ [.inl (2, bL cs)] ∧ c = 1 ∧ s = cs.length) := by
  refine At.go (q := xm229) rfl 4 (pc' := 6) (L' := [(0, .ref a), (1, .int 0), (2, .int (Int32.ofNat cs.length))]) (st' := [.ref a, .int (Int32.ofNat cs.length)]) rfl ?_
  refine At.ln rfl ha ?_
  rw [bz_len]
  by_cases hm : m = 0
  · subst hm
    refine At.ic2 (tgt := 17) rfl rfl (fun _ => ?_) (fun h => absurd (h.symm.trans (decide_eq_true rfl)) (by decide))
    refine At.go (q := xm229) rfl 1 (pc' := 18) (L' := [(0, .ref a), (1, .int 0), (2, .int (Int32.ofNat cs.length))]) (st' := [.ref a]) rfl ?_
    refine At.cn rfl ha (bL_okz hok) (by decide) ?_
    exact At.rt rfl rfl ⟨_, _, _, _, rfl, rfl, by rw [List.replicate_zero, List.append_nil], rfl, by rw [bz_len]; omega⟩
  · refine At.ic2 (tgt := 17) rfl rfl (fun h => absurd (h.symm.trans (decide_eq_false (fun e => hm (by have := (iN_eq (by omega) (by omega)).mp e; omega)))) (by decide)) (fun _ => ?_)
    refine At.go (q := xm229) rfl 3 (pc' := 13) (L' := [(0, .ref a), (1, .int 0), (2, .int (Int32.ofNat cs.length))]) (st' := [.int (Int32.ofNat cs.length), .int 0, .ref a]) rfl ?_
    refine At.clm (as := [.ref a, .int 0, .int (Int32.ofNat cs.length)]) (rest := []) rfl (by decide) rfl (Nat.le_of_ble_eq_true rfl) (Nat.le_of_ble_eq_true rfl) rfl (Nat.le_of_ble_eq_true rfl) (m_corB hok hcap ha) (fun v hp1 c1 s1 hv => ?_)
    obtain ⟨rfl, e1, rfl, rfl⟩ := hv
    exact At.rt rfl rfl ⟨_, _, _, _, rfl, rfl, e1, rfl, by omega⟩
theorem m_strI2 {S : List Int32} {hp : List XC} {b a m : Nat} {cs : List Nat} (h : hSB hp b a cs m) {t : Nat} {hs hz : Int32} (ht : hp[t]? = some (.inr (0, [.null, .int 0, .int hs, .int hz]))) : Me S 4 225 [.ref t, .ref b, .null] hp (fun v hp' c s => v = none ∧ FrX (fun x => x = t) hp hp' ∧ (∃ (va : Nat) (r : List Value), hp'[t]? = some (.inr (0, .ref va :: .int 0 :: r)) ∧ hp'[va]? = some (.inl (2, bL cs))) ∧ c ≤ 1 ∧ s ≤ 300) := by
  obtain ⟨hok, hcap, mv, hb, ha⟩ := id h
  refine At.go (q := xm225) rfl 1 (pc' := 1) (L' := [(0, .ref t), (1, .ref b), (2, .null)]) (st' := [.ref t]) rfl ?_
  refine At.sp rfl (by decide) (g := ([], hp)) rfl ?_
  refine At.go (q := xm225) rfl 1 (pc' := 5) (L' := [(0, .ref t), (1, .ref b), (2, .null)]) (st' := [.ref b]) rfl ?_
  refine At.clp (as := [.ref b]) (rest := []) rfl (by decide) rfl (Nat.le_of_ble_eq_true rfl) (Nat.le_of_ble_eq_true rfl) (xrck_o (by decide) (by decide) hb (by decide)) (Nat.le_of_ble_eq_true rfl) (m_sbV h) ?_
  refine At.go (q := xm225) rfl 2 (pc' := 10) (L' := [(3, .ref a), (0, .ref t), (1, .ref b), (2, .null)]) (st' := [.ref b]) rfl ?_
  refine At.clp (as := [.ref b]) (rest := []) rfl (by decide) rfl (Nat.le_of_ble_eq_true rfl) (Nat.le_of_ble_eq_true rfl) (xrck_o (by decide) (by decide) hb (by decide)) (Nat.le_of_ble_eq_true rfl) (m_sbN h) ?_
  refine At.go (q := xm225) rfl 2 (pc' := 16) (L' := [(4, .int (Int32.ofNat cs.length)), (3, .ref a), (0, .ref t), (1, .ref b), (2, .null)]) (st' := [.ref b]) rfl ?_
  refine At.clp (as := [.ref b]) (rest := []) rfl (by decide) rfl (Nat.le_of_ble_eq_true rfl) (Nat.le_of_ble_eq_true rfl) (xrck_o (by decide) (by decide) hb (by decide)) (Nat.le_of_ble_eq_true rfl) (m_sbL h) ?_
  refine At.go (q := xm225) rfl 3 (pc' := 24) (L' := [(4, .int (Int32.ofNat cs.length)), (3, .ref a), (0, .ref t), (1, .ref b), (2, .null)]) (st' := [.int 0, .ref t]) rfl ?_
  refine At.pf rfl ht (Nat.le_of_ble_eq_true rfl) (by decide) ?_
  obtain ⟨hp1, ehp1⟩ : ∃ h, h = hp.set t (.inr (0, [.null, .int 0, .int hs, .int hz])) := ⟨_, rfl⟩
  refine At.hpe ehp1 ?_
  have fhp1_b : hp1[b]? = some (.inr (1, [.ref a, .int 0, .int mv, .int (Int32.ofNat cs.length)])) := by rw [ehp1]; exact xs_ne (xn_cl ht hb (by decide)) hb
  have fhp1_a : hp1[a]? = some (.inl (2, (bL cs ++ List.replicate m (.int 0)))) := by rw [ehp1]; exact xs_ne (xn_ra ht ha) ha
  have fhp1_t : hp1[t]? = some (.inr (0, [.null, .int 0, .int hs, .int hz])) := by rw [ehp1]; exact xs_eq ht
  refine At.go (q := xm225) rfl 4 (pc' := 32) (L' := [(4, .int (Int32.ofNat cs.length)), (3, .ref a), (0, .ref t), (1, .ref b), (2, .null)]) (st' := [.int (Int32.ofNat cs.length), .int 0, .ref a, .ref t]) rfl ?_
  refine At.clm (as := [.ref a, .int 0, .int (Int32.ofNat cs.length)]) (rest := [.ref t]) rfl (by decide) rfl (Nat.le_of_ble_eq_true rfl) (Nat.le_of_ble_eq_true rfl) rfl (Nat.le_of_ble_eq_true rfl) (m_corR hok hcap fhp1_a) (fun v hp2 c1 s1 hv => ?_)
  obtain ⟨rfl, e2, rfl, rfl⟩ := hv
  have ft2 : hp2[t]? = some (.inr (0, [.null, .int 0, .int hs, .int hz])) := by rw [e2]; exact xa_lt fhp1_t
  have fn2 : hp2[hp1.length]? = some (.inl (2, bL cs)) := by rw [e2]; exact xa_eq
  refine At.pf rfl ft2 (Nat.le_of_ble_eq_true rfl) rfl ?_
  obtain ⟨hp3, ehp3⟩ : ∃ h, h = hp2.set t (.inr (0, [.ref hp1.length, .int 0, .int hs, .int hz])) := ⟨_, rfl⟩
  refine At.hpe ehp3 ?_
  have fhp3_t : hp3[t]? = some (.inr (0, [.ref hp1.length, .int 0, .int hs, .int hz])) := by rw [ehp3]; exact xs_eq ft2
  have fhp3_hp1_length : hp3[hp1.length]? = some (.inl (2, (bL cs))) := by rw [ehp3]; exact xs_ne (xn_ra ft2 fn2) fn2
  refine At.go (q := xm225) rfl 1 (pc' := 97) (L' := [(4, .int (Int32.ofNat cs.length)), (3, .ref a), (0, .ref t), (1, .ref b), (2, .null)]) (st' := []) rfl ?_
  have f1 : FrX (fun x => x = t) hp hp1 := by rw [ehp1]; exact FrX.so ht (by decide) rfl (by decide)
  have f2 : FrX (fun x => x = t) hp1 hp2 := by rw [e2]; exact FrX.xn
  have f3 : FrX (fun x => x = t) hp2 hp3 := by rw [ehp3]; exact FrX.so ft2 (by decide) rfl (by decide)
  exact At.rt rfl rfl ⟨_, _, _, _, rfl, rfl, FrX.tr (FrX.tr f1 f2 (fun x hx => Or.inl hx)) f3 (fun x hx => Or.inl hx), ⟨hp1.length, _, fhp3_t, fhp3_hp1_length⟩, by omega, by omega⟩
theorem m_strI {S : List Int32} {hp : List XC} {b a m : Nat} {cs : List Nat} (h : hSB hp b a cs m) {t : Nat} {hs hz : Int32} (ht : hp[t]? = some (.inr (0, [.null, .int 0, .int hs, .int hz]))) : Me S 5 224 [.ref t, .ref b] hp (fun v hp' c s => v = none ∧ FrX (fun x => x = t) hp hp' ∧ (∃ (va : Nat) (r : List Value), hp'[t]? = some (.inr (0, .ref va :: .int 0 :: r)) ∧ hp'[va]? = some (.inl (2, bL cs))) ∧ c ≤ 1 ∧ s ≤ 300) := by
  obtain ⟨hok, hcap, mv, hb, ha⟩ := id h
  refine At.go (q := xm224) rfl 3 (pc' := 3) (L' := [(0, .ref t), (1, .ref b)]) (st' := [.null, .ref b, .ref t]) rfl ?_
  refine At.clm (as := [.ref t, .ref b, .null]) (rest := []) rfl (by decide) rfl (Nat.le_of_ble_eq_true rfl) (Nat.le_of_ble_eq_true rfl) rfl (Nat.le_of_ble_eq_true rfl) (m_strI2 h ht) (fun v hp1 c1 s1 hv => ?_)
  obtain ⟨rfl, g1, g2, g3, g4⟩ := hv
  exact At.rt rfl rfl ⟨_, _, _, _, rfl, rfl, g1, g2, by omega, by omega⟩
theorem m_toS {S : List Int32} {hp : List XC} {b a m : Nat} {cs : List Nat} (h : hSB hp b a cs m) : Me S 6 223 [.ref b] hp (fun v hp' c s => v = some (.ref hp.length) ∧ hTx hp' (.ref hp.length) cs ∧ FrX (fun _ => False) hp hp' ∧ c ≤ 2 ∧ s ≤ 310) := by
  obtain ⟨hok, hcap, mv, hb, ha⟩ := id h
  refine At.nw (ci := 0) rfl ?_
  obtain ⟨hp1, ehp1⟩ : ∃ h, h = hp ++ [.inr (0, xDF 0)] := ⟨_, rfl⟩
  refine At.hpe ehp1 ?_
  have fhp1_b : hp1[b]? = some (.inr (1, [.ref a, .int 0, .int mv, .int (Int32.ofNat cs.length)])) := by rw [ehp1]; exact xa_lt hb
  have fhp1_a : hp1[a]? = some (.inl (2, (bL cs ++ List.replicate m (.int 0)))) := by rw [ehp1]; exact xa_lt ha
  have fhp1_hp_length : hp1[hp.length]? = some (.inr (0, [.null, .int 0, .int 0, .int 0])) := by rw [ehp1]; exact xa_eq
  refine At.go (q := xm223) rfl 2 (pc' := 5) (L' := [(0, .ref b)]) (st' := [.ref b, .ref hp.length, .ref hp.length]) rfl ?_
  refine At.clm (as := [.ref hp.length, .ref b]) (rest := [.ref hp.length]) rfl (by decide) rfl (Nat.le_of_ble_eq_true rfl) (Nat.le_of_ble_eq_true rfl) rfl (Nat.le_of_ble_eq_true rfl) (m_strI ⟨hok, hcap, mv, fhp1_b, fhp1_a⟩ fhp1_hp_length) (fun v hp2 c1 s1 hv => ?_)
  obtain ⟨rfl, g1, ⟨va, r, g2, g5⟩, g3, g4⟩ := hv
  have f1 : FrX (fun _ => False) hp hp1 := by rw [ehp1]; exact FrX.xo (by decide)
  exact At.rt rfl rfl ⟨_, _, _, _, rfl, rfl, ⟨hok, by omega, Or.inl ⟨_, va, r, rfl, g2, g5⟩⟩, FrX.tr f1 g1 (fun x hx => Or.inr (by have hx' : x = hp.length := hx; omega)), by omega, by show 0 + (xDF 0).length + s1 ≤ 310; have : (xDF 0).length = 4 := rfl; omega⟩
