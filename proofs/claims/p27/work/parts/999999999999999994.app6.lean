/-! texts: 16 behind a text; a builder's text, with its place (by c999999999999999994.py) -/
def dg6K (o : Option XC) (x : Nat) : Bool := match o with
  | some (.inl q) => decide (q.1 = 2) && decide (q.2[16]? = some (.int (Int32.ofNat x)))
  | _ => false
theorem dg6_s {o : Option XC} {x : Nat} (h : dg6K o x = true) : ∃ es, o = some (.inl (2, es)) ∧ es[16]? = some (.int (Int32.ofNat x)) := by
  match o, h with
  | some (.inl q), h =>
    have h8 := Bool.and_eq_true_iff.mp h
    exact ⟨q.2, by rw [← of_decide_eq_true h8.1], of_decide_eq_true h8.2⟩
theorem dg6_1 : ∃ es, xKC[224]? = some (.inl (2, es)) ∧ es[16]? = some (.int (Int32.ofNat 54)) := dg6_s (by decide +kernel)
theorem dg6_0 : ∃ es, xKC[223]? = some (.inl (2, es)) ∧ es[16]? = some (.int (Int32.ofNat 49)) := dg6_s (by decide +kernel)
theorem bz_set2 {cs : List Nat} {m : Nat} : ((bL cs ++ List.replicate (m + 2) (Value.int 0)).set (cs.length + 1) (.int (Int32.ofNat 54))).set cs.length (.int (Int32.ofNat 49)) = bL (cs ++ [49, 54]) ++ List.replicate m (Value.int 0) := by
  rw [List.set_append_right _ _ (by rw [bL_len]; omega), bL_len, List.set_append_right _ _ (by rw [bL_len]; omega), bL_len, bL_app, List.append_assoc, show cs.length + 1 - cs.length = 1 by omega, Nat.sub_self]
  rfl
theorem bz_len2 {cs : List Nat} {m : Nat} {v : Value} {i : Nat} : ((bL cs ++ List.replicate m (Value.int 0)).set i v).length = cs.length + m := by
  rw [List.length_set, bz_len]
theorem m_strSz6 {S : List Int32} {hp : List XC} : Pu S 0 234 [.int 16] hp (.int 2) := by
  refine At.go (q := xm234) rfl 8 (pc' := 10) (L' := [(1, .int 0), (0, .int 16)]) (st' := [.int (-16)]) rfl ?_
  refine At.go (q := xm234) rfl 7 (pc' := 19) (L' := [(3, .int 1), (2, .int (-10)), (0, .int (-16)), (1, .int 0)]) (st' := [.int 10, .int 1]) rfl ?_
  refine At.ic2 (tgt := 42) rfl rfl (fun h => absurd h (by decide)) (fun _ => ?_)
  refine At.go (q := xm234) rfl 2 (pc' := 24) (L' := [(3, .int 1), (2, .int (-10)), (0, .int (-16)), (1, .int 0)]) (st' := [.int (-10), .int (-16)]) rfl ?_
  refine At.ic2 (tgt := 31) rfl rfl (fun _ => ?_) (fun h => absurd h (by decide))
  refine At.go (q := xm234) rfl 8 (pc' := 19) (L' := [(3, .int (1 + 1)), (2, .int (10 * (-10))), (0, .int (-16)), (1, .int 0)]) (st' := [.int 10, .int (1 + 1)]) rfl ?_
  refine At.ic2 (tgt := 42) rfl rfl (fun h => absurd h (by decide)) (fun _ => ?_)
  refine At.go (q := xm234) rfl 2 (pc' := 24) (L' := [(3, .int (1 + 1)), (2, .int (10 * (-10))), (0, .int (-16)), (1, .int 0)]) (st' := [.int (10 * (-10)), .int (-16)]) rfl ?_
  refine At.ic2 (tgt := 31) rfl rfl (fun h => absurd h (by decide)) (fun _ => ?_)
  refine At.go (q := xm234) rfl 3 (pc' := 30) (L' := [(3, .int (1 + 1)), (2, .int (10 * (-10))), (0, .int (-16)), (1, .int 0)]) (st' := [.int ((1 + 1) + 0)]) rfl ?_
  exact At.rt rfl rfl rfl
theorem m_getCh6 {S : List Int32} {hp : List XC} {a m : Nat} {cs : List Nat} (ha : hp[a]? = some (.inl (2, bL cs ++ List.replicate (m + 2) (.int 0)))) (hl : cs.length ≤ 300) : Me S 0 235 [.int 16, .int (Int32.ofNat (cs.length + 2)), .ref a] hp (fun v hp' c s => (∃ x, v = some (.int x)) ∧ hp' = hp.set a (.inl (2, bL (cs ++ [49, 54]) ++ List.replicate m (.int 0))) ∧ c = 0 ∧ s = 0) := by
  obtain ⟨es, hk, hes⟩ := dg6_1
  obtain ⟨es2, hk2, hes2⟩ := dg6_0
  refine At.go (q := xm235) rfl 8 (pc' := 19) (L' := [(6, .int 0), (5, .int (Int32.ofNat (cs.length + 2))), (0, .int 16), (1, .int (Int32.ofNat (cs.length + 2))), (2, .ref a)]) (st' := []) rfl ?_
  refine At.go (q := xm235) rfl 5 (pc' := 25) (L' := [(0, .int (-16)), (6, .int 0), (5, .int (Int32.ofNat (cs.length + 2))), (1, .int (Int32.ofNat (cs.length + 2))), (2, .ref a)]) (st' := [.int (-100), .int (-16)]) rfl ?_
  refine At.ic2 (tgt := 72) rfl rfl (fun _ => ?_) (fun h => absurd h (by decide))
  refine At.go (q := xm235) rfl 2 (pc' := 76) (L' := [(5, .int ((Int32.ofNat (cs.length + 2)) + (-1))), (0, .int (-16)), (6, .int 0), (1, .int (Int32.ofNat (cs.length + 2))), (2, .ref a)]) (st' := [.ref a]) rfl ?_
  rw [show Int32.ofNat (cs.length + 2) + (-1) = Int32.ofNat (cs.length + 1) from by rw [i32_neg1]; exact iN_m2]
  refine At.go (q := xm235) rfl 4 (pc' := 83) (L' := [(5, .int (Int32.ofNat (cs.length + 1))), (0, .int (-16)), (6, .int 0), (1, .int (Int32.ofNat (cs.length + 2))), (2, .ref a)]) (st' := [.int (-(-16)), .retAddr 224, .int (Int32.ofNat (cs.length + 1)), .ref a]) rfl ?_
  refine At.ak rfl hk (by decide) rfl (by decide) (by rw [show (-(-16) : Int32).toNatClampNeg = 16 from by decide]; exact hes) ?_
  refine At.as rfl ha (by decide) rfl (iN_nn (by omega)) (by rw [iN_tn (by omega), bz_len]; omega) ?_
  rw [iN_tn (show cs.length + 1 < 2 ^ 31 by omega), b_nar (show 54 < 128 by omega)]
  obtain ⟨hp1, e1⟩ : ∃ h, h = hp.set a (.inl (2, (bL cs ++ List.replicate (m + 2) (Value.int 0)).set (cs.length + 1) (Value.int (Int32.ofNat 54)))) := ⟨_, rfl⟩
  refine At.hpe e1 ?_
  have ha1 : hp1[a]? = some (.inl (2, (bL cs ++ List.replicate (m + 2) (Value.int 0)).set (cs.length + 1) (Value.int (Int32.ofNat 54)))) := by rw [e1]; exact xs_eq ha
  refine At.go (q := xm235) rfl 2 (pc' := 88) (L' := [(5, .int (Int32.ofNat (cs.length + 1))), (0, .int (-16)), (6, .int 0), (1, .int (Int32.ofNat (cs.length + 2))), (2, .ref a)]) (st' := [.int (-9), .int (-16)]) rfl ?_
  refine At.ic2 (tgt := 104) rfl rfl (fun h => absurd h (by decide)) (fun _ => ?_)
  refine At.go (q := xm235) rfl 2 (pc' := 95) (L' := [(5, .int ((Int32.ofNat (cs.length + 1)) + (-1))), (0, .int (-16)), (6, .int 0), (1, .int (Int32.ofNat (cs.length + 2))), (2, .ref a)]) (st' := [.ref a]) rfl ?_
  rw [show Int32.ofNat (cs.length + 1) + (-1) = Int32.ofNat cs.length from by rw [i32_neg1]; exact iN_m2]
  refine At.go (q := xm235) rfl 4 (pc' := 102) (L' := [(5, .int (Int32.ofNat cs.length)), (0, .int (-16)), (6, .int 0), (1, .int (Int32.ofNat (cs.length + 2))), (2, .ref a)]) (st' := [.int (-(-16)), .retAddr 223, .int (Int32.ofNat cs.length), .ref a]) rfl ?_
  refine At.ak rfl hk2 (by decide) rfl (by decide) (by rw [show (-(-16) : Int32).toNatClampNeg = 16 from by decide]; exact hes2) ?_
  refine At.as rfl ha1 (by decide) rfl (iN_nn (by omega)) (by rw [iN_tn (by omega), bz_len2]; omega) ?_
  rw [iN_tn (show cs.length < 2 ^ 31 by omega), b_nar (show 49 < 128 by omega), bz_set2, e1, List.set_set]
  refine At.go (q := xm235) rfl 3 (pc' := 120) (L' := [(5, .int (Int32.ofNat cs.length)), (0, .int (-16)), (6, .int 0), (1, .int (Int32.ofNat (cs.length + 2))), (2, .ref a)]) (st' := [.int (Int32.ofNat cs.length)]) rfl ?_
  exact At.rt rfl (xret_i rfl) ⟨_, _, _, _, rfl, ⟨_, rfl⟩, rfl, rfl, rfl⟩
theorem m_asb6 {S : List Int32} {hp : List XC} {b a m : Nat} {cs : List Nat} (h : hSB hp b a cs m) (hl : cs.length + 2 ≤ 140) : Me S 4 233 [.ref b, .int 16] hp (fun v hp' c s => v = some (.ref b) ∧ RSB hp b a (cs ++ [49, 54]) 0 hp' c s) := by
  obtain ⟨hok, hcap, mv, hb, ha⟩ := id h
  refine At.go (q := xm233) rfl 1 (pc' := 1) (L' := [(0, .ref b), (1, .int 16)]) (st' := [.ref b]) rfl ?_
  refine At.gf rfl (by decide) hb rfl ?_
  refine At.go (q := xm233) rfl 3 (pc' := 7) (L' := [(2, .int (Int32.ofNat cs.length)), (0, .ref b), (1, .int 16)]) (st' := [.int 16, .int (Int32.ofNat cs.length)]) rfl ?_
  refine At.clp (as := [.int 16]) (rest := [.int (Int32.ofNat cs.length)]) rfl (by decide) rfl (Nat.le_of_ble_eq_true rfl) (Nat.le_of_ble_eq_true rfl) rfl (Nat.le_of_ble_eq_true rfl) (m_strSz6) ?_
  refine At.go (q := xm233) rfl 1 (pc' := 11) (L' := [(2, .int (Int32.ofNat cs.length)), (0, .ref b), (1, .int 16)]) (st' := [.int ((Int32.ofNat cs.length) + 2)]) rfl ?_
  rw [show Int32.ofNat cs.length + 2 = Int32.ofNat (cs.length + 2) from (Int32.ofNat_add cs.length 2).symm]
  refine At.go (q := xm233) rfl 3 (pc' := 14) (L' := [(3, .int (Int32.ofNat (cs.length + 2))), (2, .int (Int32.ofNat cs.length)), (0, .ref b), (1, .int 16)]) (st' := [.int (Int32.ofNat (cs.length + 2)), .ref b]) rfl ?_
  refine At.clm (as := [.ref b, .int (Int32.ofNat (cs.length + 2))]) (rest := []) rfl (by decide) rfl (Nat.le_of_ble_eq_true rfl) (Nat.le_of_ble_eq_true rfl) (xrck_o (by decide) (by decide) hb (by decide)) (Nat.le_of_ble_eq_true rfl) (m_ens h (by omega) (by omega)) (fun v hp1 c1 s1 hv => ?_)
  obtain ⟨rfl, a1, m9, g1, g2, g3, g4, g5, g6⟩ := hv
  obtain ⟨m1, rfl⟩ : ∃ m1, m9 = m1 + 2 := ⟨m9 - 2, by omega⟩
  obtain ⟨-, gcap, mv1, gb, ga⟩ := id g1
  refine At.go (q := xm233) rfl 1 (pc' := 18) (L' := [(3, .int (Int32.ofNat (cs.length + 2))), (2, .int (Int32.ofNat cs.length)), (0, .ref b), (1, .int 16)]) (st' := [.ref b]) rfl ?_
  refine At.clp (as := [.ref b]) (rest := []) rfl (by decide) rfl (Nat.le_of_ble_eq_true rfl) (Nat.le_of_ble_eq_true rfl) (xrck_o (by decide) (by decide) gb (by decide)) (Nat.le_of_ble_eq_true rfl) (m_sbL g1) ?_
  refine At.go (q := xm233) rfl 4 (pc' := 27) (L' := [(3, .int (Int32.ofNat (cs.length + 2))), (2, .int (Int32.ofNat cs.length)), (0, .ref b), (1, .int 16)]) (st' := [.ref b, .int (Int32.ofNat (cs.length + 2)), .int 16]) rfl ?_
  refine At.gf rfl (by decide) gb rfl ?_
  refine At.clm (as := [.int 16, .int (Int32.ofNat (cs.length + 2)), .ref a1]) (rest := []) rfl (by decide) rfl (Nat.le_of_ble_eq_true rfl) (Nat.le_of_ble_eq_true rfl) rfl (Nat.le_of_ble_eq_true rfl) (m_getCh6 ga (by omega)) (fun v hp2 c2 s2 hv => ?_)
  obtain ⟨⟨x9, rfl⟩, e2, rfl, rfl⟩ := hv
  have gb2 : hp2[b]? = some (.inr (1, [.ref a1, .int 0, .int mv1, .int (Int32.ofNat cs.length)])) := by rw [e2]; exact xs_ne (xn_ar ga gb) gb
  have ga2 : hp2[a1]? = some (.inl (2, bL (cs ++ [49, 54]) ++ List.replicate m1 (.int 0))) := by rw [e2]; exact xs_eq ga
  refine At.go (q := xm233) rfl 4 (pc' := 50) (L' := [(3, .int (Int32.ofNat (cs.length + 2))), (2, .int (Int32.ofNat cs.length)), (0, .ref b), (1, .int 16)]) (st' := [.int (Int32.ofNat (cs.length + 2)), .ref b]) rfl ?_
  rw [show Int32.ofNat (cs.length + 2) = Int32.ofNat (cs ++ [49, 54]).length from by rw [List.length_append]; rfl]
  refine At.pf rfl gb2 (Nat.le_of_ble_eq_true rfl) xfit_i ?_
  obtain ⟨hp3, ehp3⟩ : ∃ h, h = hp2.set b (.inr (1, [.ref a1, .int 0, .int mv1, .int (Int32.ofNat (cs ++ [49, 54]).length)])) := ⟨_, rfl⟩
  refine At.hpe ehp3 ?_
  have fhp3_b : hp3[b]? = some (.inr (1, [.ref a1, .int 0, .int mv1, .int (Int32.ofNat (cs ++ [49, 54]).length)])) := by rw [ehp3]; exact xs_eq gb2
  have fhp3_a1 : hp3[a1]? = some (.inl (2, (bL (cs ++ [49, 54]) ++ List.replicate m1 (.int 0)))) := by rw [ehp3]; exact xs_ne (xn_ra gb2 ga2) ga2
  refine At.go (q := xm233) rfl 1 (pc' := 54) (L' := [(3, .int (Int32.ofNat (cs ++ [49, 54]).length)), (2, .int (Int32.ofNat cs.length)), (0, .ref b), (1, .int 16)]) (st' := [.ref b]) rfl ?_
  have k2 : FrX (fun x => x = a1) hp1 hp2 := by rw [e2]; exact FrX.xs ga
  have k3 : FrX (fun x => x = b) hp2 hp3 := by rw [ehp3]; exact FrX.so gb2 (by decide) rfl (by decide)
  refine At.rt rfl rfl ⟨_, _, _, _, rfl, rfl, a1, m1, ⟨fun c hc => (List.mem_append.mp hc).elim (hok c) (fun hc => (show c = 49 ∨ c = 54 from by simpa only [List.mem_cons, List.not_mem_nil, or_false] using hc).elim (fun e => by omega) (fun e => by omega)), by rw [List.length_append]; show cs.length + 2 + m1 ≤ 300; omega, mv1, fhp3_b, fhp3_a1⟩, Nat.zero_le _, FrX.tr (FrX.tr g3 k2 (fun x hx => ?_)) k3 (fun x hx => Or.inl (Or.inl hx)), g4, by omega, by omega⟩
  have hx' : x = a1 := hx
  rcases g4 with e | e
  · exact Or.inl (Or.inr (hx'.trans e))
  · exact Or.inr (by rw [hx']; exact e)
theorem m_app6 {S : List Int32} {hp : List XC} {b a m : Nat} {cs : List Nat} (h : hSB hp b a cs m) (hl : cs.length + 2 ≤ 140) : Me S 5 232 [.ref b, .int 16] hp (fun v hp' c s => v = some (.ref b) ∧ RSB hp b a (cs ++ [49, 54]) 0 hp' c s) := by
  obtain ⟨hok, hcap, mv, hb, ha⟩ := id h
  refine At.go (q := xm232) rfl 2 (pc' := 2) (L' := [(0, .ref b), (1, .int 16)]) (st' := [.int 16, .ref b]) rfl ?_
  refine At.clm (as := [.ref b, .int 16]) (rest := []) rfl (by decide) rfl (Nat.le_of_ble_eq_true rfl) (Nat.le_of_ble_eq_true rfl) (xrck_o (by decide) (by decide) hb (by decide)) (Nat.le_of_ble_eq_true rfl) (m_asb6 h hl) (fun v hp1 c1 s1 hv => ?_)
  obtain ⟨rfl, g1⟩ := hv
  refine At.go (q := xm232) rfl 2 (pc' := 7) (L' := [(0, .ref b), (1, .int 16)]) (st' := [.ref b]) rfl ?_
  exact At.rt rfl rfl ⟨_, _, _, _, rfl, rfl, by rw [Nat.zero_add, Nat.zero_add]; exact g1⟩
theorem m_strJ2 {S : List Int32} {hp : List XC} {b a m : Nat} {cs : List Nat} (h : hSB hp b a cs m) {t : Nat} {hs hz : Int32} (ht : hp[t]? = some (.inr (0, [.null, .int 0, .int hs, .int hz]))) : Me S 4 225 [.ref t, .ref b, .null] hp (fun v hp' c s => v = none ∧ FrX (fun x => x = t) hp hp' ∧ (∃ (va : Nat) (r : List Value), hp.length ≤ va ∧ hp'[t]? = some (.inr (0, .ref va :: .int 0 :: r)) ∧ hp'[va]? = some (.inl (2, bL cs))) ∧ c ≤ 1 ∧ s ≤ 300) := by
  obtain ⟨hok, hcap, mv, hb, ha⟩ := id h
  refine At.go (q := xm225) rfl 1 (pc' := 1) (L' := [(0, .ref t), (1, .ref b), (2, .null)]) (st' := [.ref t]) rfl ?_
  refine At.sp rfl (by decide) (g := ([], hp)) rfl ?_
  refine At.go (q := xm225) rfl 1 (pc' := 5) (L' := [(0, .ref t), (1, .ref b), (2, .null)]) (st' := [.ref b]) rfl ?_
  refine At.clp (as := [.ref b]) (rest := []) rfl (by decide) rfl (Nat.le_of_ble_eq_true rfl) (Nat.le_of_ble_eq_true rfl) (xrck_o (by decide) (by decide) hb (by decide)) (Nat.le_of_ble_eq_true rfl) (m_sbV h) ?_
  refine At.go (q := xm225) rfl 2 (pc' := 10) (L' := [(3, .ref a), (0, .ref t), (1, .ref b), (2, .null)]) (st' := [.ref b]) rfl ?_
  refine At.clp (as := [.ref b]) (rest := []) rfl (by decide) rfl (Nat.le_of_ble_eq_true rfl) (Nat.le_of_ble_eq_true rfl) (xrck_o (by decide) (by decide) hb (by decide)) (Nat.le_of_ble_eq_true rfl) (m_sbN h) ?_
  refine At.go (q := xm225) rfl 2 (pc' := 16) (L' := [(4, .int (Int32.ofNat cs.length)), (3, .ref a), (0, .ref t), (1, .ref b), (2, .null)]) (st' := [.ref b]) rfl ?_
  refine At.clp (as := [.ref b]) (rest := []) rfl (by decide) rfl (Nat.le_of_ble_eq_true rfl) (Nat.le_of_ble_eq_true rfl) (xrck_o (by decide) (by decide) hb (by decide)) (Nat.le_of_ble_eq_true rfl) (m_sbL h) ?_
  refine At.go (q := xm225) rfl 3 (pc' := 24) (L' := [(4, .int (Int32.ofNat cs.length)), (3, .ref a), (0, .ref t), (1, .ref b), (2, .null)]) (st' := [.int 0, .ref t]) rfl ?_
  refine At.pf rfl ht (Nat.le_of_ble_eq_true rfl) (by decide) ?_
  obtain ⟨hp1, ehp1⟩ : ∃ h, h = hp.set t (.inr (0, [.null, .int 0, .int hs, .int hz])) := ⟨_, rfl⟩
  refine At.hpe ehp1 ?_
  have fhp1_b : hp1[b]? = some (.inr (1, [.ref a, .int 0, .int mv, .int (Int32.ofNat cs.length)])) := by rw [ehp1]; exact xs_ne (xn_cl ht hb (by decide)) hb
  have fhp1_a : hp1[a]? = some (.inl (2, (bL cs ++ List.replicate m (.int 0)))) := by rw [ehp1]; exact xs_ne (xn_ra ht ha) ha
  have fhp1_t : hp1[t]? = some (.inr (0, [.null, .int 0, .int hs, .int hz])) := by rw [ehp1]; exact xs_eq ht
  refine At.go (q := xm225) rfl 4 (pc' := 32) (L' := [(4, .int (Int32.ofNat cs.length)), (3, .ref a), (0, .ref t), (1, .ref b), (2, .null)]) (st' := [.int (Int32.ofNat cs.length), .int 0, .ref a, .ref t]) rfl ?_
  refine At.clm (as := [.ref a, .int 0, .int (Int32.ofNat cs.length)]) (rest := [.ref t]) rfl (by decide) rfl (Nat.le_of_ble_eq_true rfl) (Nat.le_of_ble_eq_true rfl) rfl (Nat.le_of_ble_eq_true rfl) (m_corR hok hcap fhp1_a) (fun v hp2 c1 s1 hv => ?_)
  obtain ⟨rfl, e2, rfl, rfl⟩ := hv
  have ft2 : hp2[t]? = some (.inr (0, [.null, .int 0, .int hs, .int hz])) := by rw [e2]; exact xa_lt fhp1_t
  have fn2 : hp2[hp1.length]? = some (.inl (2, bL cs)) := by rw [e2]; exact xa_eq
  refine At.pf rfl ft2 (Nat.le_of_ble_eq_true rfl) rfl ?_
  obtain ⟨hp3, ehp3⟩ : ∃ h, h = hp2.set t (.inr (0, [.ref hp1.length, .int 0, .int hs, .int hz])) := ⟨_, rfl⟩
  refine At.hpe ehp3 ?_
  have fhp3_t : hp3[t]? = some (.inr (0, [.ref hp1.length, .int 0, .int hs, .int hz])) := by rw [ehp3]; exact xs_eq ft2
  have fhp3_hp1_length : hp3[hp1.length]? = some (.inl (2, (bL cs))) := by rw [ehp3]; exact xs_ne (xn_ra ft2 fn2) fn2
  refine At.go (q := xm225) rfl 1 (pc' := 97) (L' := [(4, .int (Int32.ofNat cs.length)), (3, .ref a), (0, .ref t), (1, .ref b), (2, .null)]) (st' := []) rfl ?_
  have f1 : FrX (fun x => x = t) hp hp1 := by rw [ehp1]; exact FrX.so ht (by decide) rfl (by decide)
  have f2 : FrX (fun x => x = t) hp1 hp2 := by rw [e2]; exact FrX.xn
  have f3 : FrX (fun x => x = t) hp2 hp3 := by rw [ehp3]; exact FrX.so ft2 (by decide) rfl (by decide)
  exact At.rt rfl rfl ⟨_, _, _, _, rfl, rfl, FrX.tr (FrX.tr f1 f2 (fun x hx => Or.inl hx)) f3 (fun x hx => Or.inl hx), ⟨hp1.length, _, f1.1, fhp3_t, fhp3_hp1_length⟩, by omega, by omega⟩
theorem m_strJ {S : List Int32} {hp : List XC} {b a m : Nat} {cs : List Nat} (h : hSB hp b a cs m) {t : Nat} {hs hz : Int32} (ht : hp[t]? = some (.inr (0, [.null, .int 0, .int hs, .int hz]))) : Me S 5 224 [.ref t, .ref b] hp (fun v hp' c s => v = none ∧ FrX (fun x => x = t) hp hp' ∧ (∃ (va : Nat) (r : List Value), hp.length ≤ va ∧ hp'[t]? = some (.inr (0, .ref va :: .int 0 :: r)) ∧ hp'[va]? = some (.inl (2, bL cs))) ∧ c ≤ 1 ∧ s ≤ 300) := by
  obtain ⟨hok, hcap, mv, hb, ha⟩ := id h
  refine At.go (q := xm224) rfl 3 (pc' := 3) (L' := [(0, .ref t), (1, .ref b)]) (st' := [.null, .ref b, .ref t]) rfl ?_
  refine At.clm (as := [.ref t, .ref b, .null]) (rest := []) rfl (by decide) rfl (Nat.le_of_ble_eq_true rfl) (Nat.le_of_ble_eq_true rfl) rfl (Nat.le_of_ble_eq_true rfl) (m_strJ2 h ht) (fun v hp1 c1 s1 hv => ?_)
  obtain ⟨rfl, g1, g2, g3, g4⟩ := hv
  exact At.rt rfl rfl ⟨_, _, _, _, rfl, rfl, g1, g2, by omega, by omega⟩
theorem m_toT {S : List Int32} {hp : List XC} {b a m : Nat} {cs : List Nat} (h : hSB hp b a cs m) : Me S 6 223 [.ref b] hp (fun v hp' c s => v = some (.ref hp.length) ∧ hTx hp' (.ref hp.length) cs ∧ (∃ (va : Nat) (r : List Value), hp.length ≤ va ∧ hp'[hp.length]? = some (.inr (0, .ref va :: .int 0 :: r))) ∧ FrX (fun _ => False) hp hp' ∧ c ≤ 2 ∧ s ≤ 310) := by
  obtain ⟨hok, hcap, mv, hb, ha⟩ := id h
  refine At.nw (ci := 0) rfl ?_
  obtain ⟨hp1, ehp1⟩ : ∃ h, h = hp ++ [.inr (0, xDF 0)] := ⟨_, rfl⟩
  refine At.hpe ehp1 ?_
  have fhp1_b : hp1[b]? = some (.inr (1, [.ref a, .int 0, .int mv, .int (Int32.ofNat cs.length)])) := by rw [ehp1]; exact xa_lt hb
  have fhp1_a : hp1[a]? = some (.inl (2, (bL cs ++ List.replicate m (.int 0)))) := by rw [ehp1]; exact xa_lt ha
  have fhp1_hp_length : hp1[hp.length]? = some (.inr (0, [.null, .int 0, .int 0, .int 0])) := by rw [ehp1]; exact xa_eq
  refine At.go (q := xm223) rfl 2 (pc' := 5) (L' := [(0, .ref b)]) (st' := [.ref b, .ref hp.length, .ref hp.length]) rfl ?_
  refine At.clm (as := [.ref hp.length, .ref b]) (rest := [.ref hp.length]) rfl (by decide) rfl (Nat.le_of_ble_eq_true rfl) (Nat.le_of_ble_eq_true rfl) rfl (Nat.le_of_ble_eq_true rfl) (m_strJ ⟨hok, hcap, mv, fhp1_b, fhp1_a⟩ fhp1_hp_length) (fun v hp2 c1 s1 hv => ?_)
  obtain ⟨rfl, g1, ⟨va, r, g9, g2, g5⟩, g3, g4⟩ := hv
  have f1 : FrX (fun _ => False) hp hp1 := by rw [ehp1]; exact FrX.xo (by decide)
  exact At.rt rfl rfl ⟨_, _, _, _, rfl, rfl, ⟨hok, by omega, Or.inl ⟨_, va, r, rfl, g2, g5⟩⟩, ⟨va, r, Nat.le_trans f1.1 g9, g2⟩, FrX.tr f1 g1 (fun x hx => Or.inr (by have hx' : x = hp.length := hx; omega)), by omega, by show 0 + (xDF 0).length + s1 ≤ 310; have : (xDF 0).length = 4 := rfl; omega⟩
