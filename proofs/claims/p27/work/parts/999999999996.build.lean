/-! texts: StringBuilder (written by wip/p27/c999999999996.py) -/
/-- a builder: its text, and room for more signs -/
def hSB (hp : List XC) (b a : Nat) (cs : List Nat) (m : Nat) : Prop := cOk cs ∧ cs.length + m ≤ 300 ∧ ∃ mv : Int32, hp[b]? = some (.inr (1, [.ref a, .int 0, .int mv, .int (Int32.ofNat cs.length)])) ∧ hp[a]? = some (.inl (2, bL cs ++ List.replicate m (.int 0)))
theorem bz_len {cs : List Nat} {m : Nat} : (bL cs ++ List.replicate m (Value.int 0)).length = cs.length + m := by rw [List.length_append, bL_len, List.length_replicate]
theorem i_smax {a b : Nat} (ha : a < 2 ^ 31) (hb : b < 2 ^ 31) : (if Int32.ofNat a < Int32.ofNat b then Int32.ofNat b else Int32.ofNat a) = Int32.ofNat (max a b) := by
  by_cases h : a < b
  · rw [if_pos ((iN_lt ha hb).mpr h), Nat.max_eq_right (by omega)]
  · rw [if_neg (fun e => h ((iN_lt ha hb).mp e)), Nat.max_eq_left (by omega)]
theorem i_smin {a b : Nat} (ha : a < 2 ^ 31) (hb : b < 2 ^ 31) : (if Int32.ofNat b < Int32.ofNat a then Int32.ofNat b else Int32.ofNat a) = Int32.ofNat (min a b) := by
  by_cases h : b < a
  · rw [if_pos ((iN_lt hb ha).mpr h), Nat.min_eq_right (by omega)]
  · rw [if_neg (fun e => h ((iN_lt hb ha).mp e)), Nat.min_eq_left (by omega)]
theorem xcpl_end {cs ds : List Nat} {m : Nat} (h : ds.length ≤ m) : xcpl (bL ds) (bL cs ++ List.replicate m (Value.int 0)) 0 cs.length ds.length = bL (cs ++ ds) ++ List.replicate (m - ds.length) (Value.int 0) := by
  unfold xcpl
  rw [List.take_left' bL_len, List.drop_zero, List.take_of_length_le (by rw [bL_len]; exact Nat.le_refl _), bL_app, List.append_assoc]
  refine congrArg (fun l => bL cs ++ (bL ds ++ l)) ?_
  rw [List.drop_append, bL_len, List.drop_of_length_le (by rw [bL_len]; omega), List.nil_append, List.drop_replicate]
  refine congrArg (fun n => List.replicate n (Value.int 0)) (by omega)
theorem xcpl_all {es : List Value} {n : Nat} (h : es.length ≤ n) : xcpl es (List.replicate n (Value.int 0)) 0 0 es.length = es ++ List.replicate (n - es.length) (Value.int 0) := by
  unfold xcpl
  rw [List.take_zero, List.nil_append, List.drop_zero, List.take_of_length_le (Nat.le_refl _), Nat.zero_add, List.drop_replicate]
theorem bz_set {cs : List Nat} {m c : Nat} : (bL cs ++ List.replicate (m + 1) (Value.int 0)).set cs.length (.int (Int32.ofNat c)) = bL (cs ++ [c]) ++ List.replicate m (Value.int 0) := by
  rw [List.set_append_right _ _ (by rw [bL_len]; exact Nat.le_refl _), bL_len, Nat.sub_self, bL_app, List.append_assoc]
  rfl
theorem xcpl_tk {cs : List Nat} {m : Nat} : xcpl (bL cs ++ List.replicate m (Value.int 0)) (List.replicate cs.length (Value.int 0)) 0 0 cs.length = bL cs := by
  unfold xcpl
  rw [List.take_zero, List.nil_append, List.drop_zero, List.take_left' bL_len, Nat.zero_add, List.drop_replicate, Nat.sub_self]
  exact List.append_nil _
theorem FrX.xn {P : Nat → Prop} {hp : List XC} {t : Nat} {es : List Value} : FrX P hp (hp ++ [.inl (t, es)]) := FrX.nw (fun a n e h => by cases h)
theorem FrX.xo {P : Nat → Prop} {hp : List XC} {t : Nat} {es : List Value} (h : t ≠ 2) : FrX P hp (hp ++ [.inr (t, es)]) := FrX.nw (fun a n e h9 => h (congrArg Prod.fst (Sum.inr.inj h9)))
theorem FrX.xs {hp : List XC} {a : Nat} {es es' : List Value} (h : hp[a]? = some (.inl (2, es))) : FrX (fun x => x = a) hp (hp.set a (.inl (2, es'))) := FrX.st h rfl rfl rfl rfl (fun fs e => by cases e) (fun ci fs e => by cases e)
/-- what a step of a builder leaves -/
def RSB (hp : List XC) (b a : Nat) (cs : List Nat) (k : Nat) : List XC → Nat → Nat → Prop := fun hp' c s => ∃ a' m', hSB hp' b a' cs m' ∧ k ≤ cs.length + m' ∧ FrX (fun x => x = b ∨ x = a) hp hp' ∧ (a' = a ∨ hp.length ≤ a') ∧ c ≤ 1 ∧ s ≤ 300

theorem i_nmax {n : Nat} (h : n < 2147483647) : ¬ Int32.ofNat n = 2147483647 := fun e => by
  rw [show (2147483647 : Int32) = Int32.ofNat 2147483647 from rfl] at e
  have := (iN_eq (by omega) (by omega)).mp e
  omega
theorem iN_ge1 {n : Nat} (h : n < 2 ^ 31) : (Int32.ofNat n ≤ 0) ↔ n = 0 := by
  constructor
  · intro h1
    have := (iN_le (a := n) (b := 0) h (by omega)).mp h1
    omega
  · intro h1
    rw [h1]
    decide
theorem iN_big {n : Nat} (h : n < 2 ^ 31) : ((2147483639 : Int32) < Int32.ofNat n) ↔ 2147483639 < n := by
  rw [show (2147483639 : Int32) = Int32.ofNat 2147483639 from rfl]
  exact iN_lt (by omega) h
theorem m_newLen2 {S : List Int32} {hp : List XC} {n g q : Nat} (hn : n + max g q ≤ 100000) (h0 : 1 ≤ n + max g q) : Pu S 1 134 [.int (Int32.ofNat n), .int (Int32.ofNat g), .int (Int32.ofNat q)] hp (.int (Int32.ofNat (n + max g q))) := by
  refine At.go (q := xm134) rfl 3 (pc' := 3) (L' := [(0, .int (Int32.ofNat n)), (1, .int (Int32.ofNat g)), (2, .int (Int32.ofNat q))]) (st' := [.int (Int32.ofNat q), .int (Int32.ofNat g), .int (Int32.ofNat n)]) rfl ?_
  refine At.sp rfl (by decide) (g := ([.int (if (Int32.ofNat g) < (Int32.ofNat q) then (Int32.ofNat q) else (Int32.ofNat g)), .int (Int32.ofNat n)], hp)) rfl ?_
  rw [i_smax (show g < 2 ^ 31 by omega) (show q < 2 ^ 31 by omega)]
  refine At.go (q := xm134) rfl 2 (pc' := 8) (L' := [(3, .int ((Int32.ofNat n) + (Int32.ofNat (max g q)))), (0, .int (Int32.ofNat n)), (1, .int (Int32.ofNat g)), (2, .int (Int32.ofNat q))]) (st' := []) rfl ?_
  rw [show Int32.ofNat n + Int32.ofNat (max g q) = Int32.ofNat (n + max g q) from (Int32.ofNat_add ..).symm]
  refine At.go (q := xm134) rfl 2 (pc' := 10) (L' := [(3, .int (Int32.ofNat (n + max g q))), (0, .int (Int32.ofNat n)), (1, .int (Int32.ofNat g)), (2, .int (Int32.ofNat q))]) (st' := [.int (Int32.ofNat (n + max g q)), .int 0]) rfl ?_
  refine At.ic2 (tgt := 21) rfl rfl (fun h => absurd (h.symm.trans (decide_eq_false (fun h => absurd ((iN_ge1 (by omega)).mp h) (by omega)))) (by decide)) (fun _ => ?_)
  refine At.go (q := xm134) rfl 2 (pc' := 16) (L' := [(3, .int (Int32.ofNat (n + max g q))), (0, .int (Int32.ofNat n)), (1, .int (Int32.ofNat g)), (2, .int (Int32.ofNat q))]) (st' := [.int 2147483639, .int (Int32.ofNat (n + max g q))]) rfl ?_
  refine At.ic2 (tgt := 21) rfl rfl (fun h => absurd (h.symm.trans (decide_eq_false (fun h => absurd ((iN_big (by omega)).mp h) (by omega)))) (by decide)) (fun _ => ?_)
  refine At.go (q := xm134) rfl 1 (pc' := 20) (L' := [(3, .int (Int32.ofNat (n + max g q))), (0, .int (Int32.ofNat n)), (1, .int (Int32.ofNat g)), (2, .int (Int32.ofNat q))]) (st' := [.int (Int32.ofNat (n + max g q))]) rfl ?_
  exact At.rt rfl (xret_i rfl) rfl
theorem m_newCap {S : List Int32} {hp : List XC} {b a m : Nat} {cs : List Nat} (h : hSB hp b a cs m) {k : Nat} (hk : cs.length + m < k) (hk2 : k ≤ 150) : Pu S 2 211 [.ref b, .int (Int32.ofNat k)] hp (.int (Int32.ofNat (cs.length + m + max (k - (cs.length + m)) (cs.length + m + 2)))) := by
  obtain ⟨hok, hcap, mv, hb, ha⟩ := id h
  refine At.go (q := xm211) rfl 1 (pc' := 1) (L' := [(0, .ref b), (1, .int (Int32.ofNat k))]) (st' := [.ref b]) rfl ?_
  refine At.gf rfl (by decide) hb rfl ?_
  refine At.ln rfl ha ?_
  rw [bz_len]
  refine At.go (q := xm211) rfl 3 (pc' := 8) (L' := [(2, .int (Int32.ofNat (cs.length + m))), (0, .ref b), (1, .int (Int32.ofNat k))]) (st' := [.ref b, .int (Int32.ofNat k)]) rfl ?_
  refine At.gf rfl (by decide) hb rfl ?_
  refine At.go (q := xm211) rfl 1 (pc' := 12) (L' := [(2, .int (Int32.ofNat (cs.length + m))), (0, .ref b), (1, .int (Int32.ofNat k))]) (st' := [.int ((Int32.ofNat k) <<< (0 &&& 31))]) rfl ?_
  rw [shl0]
  refine At.go (q := xm211) rfl 4 (pc' := 16) (L' := [(3, .int (Int32.ofNat k)), (2, .int (Int32.ofNat (cs.length + m))), (0, .ref b), (1, .int (Int32.ofNat k))]) (st' := [.int ((Int32.ofNat k) - (Int32.ofNat (cs.length + m)))]) rfl ?_
  rw [iN_sub (show cs.length + m ≤ k by omega)]
  refine At.go (q := xm211) rfl 6 (pc' := 24) (L' := [(4, .int (Int32.ofNat (k - (cs.length + m)))), (3, .int (Int32.ofNat k)), (2, .int (Int32.ofNat (cs.length + m))), (0, .ref b), (1, .int (Int32.ofNat k))]) (st' := [.ref b, .int 2, .int (Int32.ofNat (cs.length + m)), .int (Int32.ofNat (k - (cs.length + m))), .int (Int32.ofNat (cs.length + m))]) rfl ?_
  refine At.gf rfl (by decide) hb rfl ?_
  refine At.go (q := xm211) rfl 2 (pc' := 29) (L' := [(4, .int (Int32.ofNat (k - (cs.length + m)))), (3, .int (Int32.ofNat k)), (2, .int (Int32.ofNat (cs.length + m))), (0, .ref b), (1, .int (Int32.ofNat k))]) (st' := [.int ((Int32.ofNat (cs.length + m)) + ((2 : Int32) <<< ((0 : Int32) &&& 31))), .int (Int32.ofNat (k - (cs.length + m))), .int (Int32.ofNat (cs.length + m))]) rfl ?_
  rw [show Int32.ofNat (cs.length + m) + (2 <<< ((0 : Int32) &&& 31)) = Int32.ofNat (cs.length + m + 2) from by rw [shl0]; show Int32.ofNat (cs.length + m) + Int32.ofNat 2 = _; exact (Int32.ofNat_add ..).symm]
  refine At.clp (as := [.int (Int32.ofNat (cs.length + m)), .int (Int32.ofNat (k - (cs.length + m))), .int (Int32.ofNat (cs.length + m + 2))]) (rest := []) rfl (by decide) rfl (Nat.le_of_ble_eq_true rfl) (Nat.le_of_ble_eq_true rfl) rfl (Nat.le_of_ble_eq_true rfl) (m_newLen2 (by omega) (by omega)) ?_
  refine At.go (q := xm211) rfl 3 (pc' := 38) (L' := [(5, .int (Int32.ofNat (cs.length + m + max (k - (cs.length + m)) (cs.length + m + 2)))), (4, .int (Int32.ofNat (k - (cs.length + m)))), (3, .int (Int32.ofNat k)), (2, .int (Int32.ofNat (cs.length + m))), (0, .ref b), (1, .int (Int32.ofNat k))]) (st' := [.int 2147483647, .int (Int32.ofNat (cs.length + m + max (k - (cs.length + m)) (cs.length + m + 2)))]) rfl ?_
  refine At.ic2 (tgt := 51) rfl rfl (fun _ => ?_) (fun h => absurd (h.symm.trans (decide_eq_true (i_nmax (by omega)))) (by decide))
  refine At.go (q := xm211) rfl 2 (pc' := 54) (L' := [(5, .int (Int32.ofNat (cs.length + m + max (k - (cs.length + m)) (cs.length + m + 2)))), (4, .int (Int32.ofNat (k - (cs.length + m)))), (3, .int (Int32.ofNat k)), (2, .int (Int32.ofNat (cs.length + m))), (0, .ref b), (1, .int (Int32.ofNat k))]) (st' := [.ref b, .int (Int32.ofNat (cs.length + m + max (k - (cs.length + m)) (cs.length + m + 2)))]) rfl ?_
  refine At.gf rfl (by decide) hb rfl ?_
  refine At.go (q := xm211) rfl 1 (pc' := 58) (L' := [(5, .int (Int32.ofNat (cs.length + m + max (k - (cs.length + m)) (cs.length + m + 2)))), (4, .int (Int32.ofNat (k - (cs.length + m)))), (3, .int (Int32.ofNat k)), (2, .int (Int32.ofNat (cs.length + m))), (0, .ref b), (1, .int (Int32.ofNat k))]) (st' := [.int ((Int32.ofNat (cs.length + m + max (k - (cs.length + m)) (cs.length + m + 2))) >>> (0 &&& 31))]) rfl ?_
  rw [sh0 _ (by omega)]
  exact At.rt rfl (xret_i rfl) rfl
theorem m_cpyB {S : List Int32} {hp : List XC} {a n : Nat} {es : List Value} (ha : hp[a]? = some (.inl (2, es))) (he : ∀ v ∈ es, ∃ c, c < 128 ∧ v = bV c) (hn : es.length < n) (hn2 : n ≤ 1000) : Me S 1 212 [.ref a, .int (Int32.ofNat n)] hp (fun v hp' c s => v = some (.ref hp.length) ∧ hp' = hp ++ [.inl (2, es ++ List.replicate (n - es.length) (.int 0))] ∧ c = 1 ∧ s = n) := by
  refine At.go (q := xm212) rfl 2 (pc' := 2) (L' := [(0, .ref a), (1, .int (Int32.ofNat n))]) (st' := [.ref a, .int (Int32.ofNat n)]) rfl ?_
  refine At.ln rfl ha ?_
  refine At.ic2 (tgt := 14) rfl rfl (fun _ => ?_) (fun h => absurd (h.symm.trans (decide_eq_true (fun e => absurd ((iN_eq (by omega) (by omega)).mp e) (by omega)))) (by decide))
  refine At.go (q := xm212) rfl 1 (pc' := 15) (L' := [(0, .ref a), (1, .int (Int32.ofNat n))]) (st' := [.int (Int32.ofNat n)]) rfl ?_
  refine At.na (n := Int32.ofNat n) rfl (iN_nn (by omega)) (by rw [iN_tn (by omega)]; omega) (by decide) ?_
  rw [iN_tn (show n < 2 ^ 31 by omega)]
  obtain ⟨hp1, ehp1⟩ : ∃ h, h = hp ++ [.inl (2, List.replicate n (.int 0))] := ⟨_, rfl⟩
  refine At.hpe ehp1 ?_
  have fhp1_a : hp1[a]? = some (.inl (2, es)) := by rw [ehp1]; exact xa_lt ha
  have fhp1_hp_length : hp1[hp.length]? = some (.inl (2, (List.replicate n (.int 0)))) := by rw [ehp1]; exact xa_eq
  refine At.go (q := xm212) rfl 6 (pc' := 23) (L' := [(2, .ref hp.length), (0, .ref a), (1, .int (Int32.ofNat n))]) (st' := [.ref a, .int 0, .ref hp.length, .int 0, .ref a]) rfl ?_
  refine At.ln rfl fhp1_a ?_
  refine At.go (q := xm212) rfl 1 (pc' := 25) (L' := [(2, .ref hp.length), (0, .ref a), (1, .int (Int32.ofNat n))]) (st' := [.int (Int32.ofNat n), .int (Int32.ofNat es.length), .int 0, .ref hp.length, .int 0, .ref a]) rfl ?_
  refine At.sp rfl (by decide) (g := ([.int (if (Int32.ofNat n) < (Int32.ofNat es.length) then (Int32.ofNat n) else (Int32.ofNat es.length)), .int 0, .ref hp.length, .int 0, .ref a], hp1)) rfl ?_
  rw [i_smin (show es.length < 2 ^ 31 by omega) (show n < 2 ^ 31 by omega), Nat.min_eq_left (show es.length ≤ n by omega)]
  refine At.cpb (sp := 0) (dp := 0) rfl (by decide) fhp1_a fhp1_hp_length (by omega) (by rw [List.length_replicate]; omega) (by omega) (by rw [List.length_replicate]; omega) he (by decide) ?_
  rw [xcpl_all (show es.length ≤ n by omega)]
  refine At.go (q := xm212) rfl 1 (pc' := 32) (L' := [(2, .ref hp.length), (0, .ref a), (1, .int (Int32.ofNat n))]) (st' := [.ref hp.length]) rfl ?_
  exact At.rt rfl rfl ⟨_, _, _, _, rfl, rfl, by rw [ehp1, List.set_append_right _ _ (Nat.le_refl _), Nat.sub_self]; rfl, rfl, Nat.zero_add _⟩
theorem i_sub0 {a b : Nat} (h : a ≤ b) (hb : b < 2 ^ 30) : Int32.ofNat a - Int32.ofNat b ≤ 0 := by
  rw [Int32.le_iff_toInt_le, Int32.toInt_sub, Int32.toInt_ofNat_of_lt (by omega), Int32.toInt_ofNat_of_lt (by omega)]
  have e0 : (0 : Int32).toInt = 0 := rfl
  rw [e0, Int.bmod_def]
  split <;> omega
theorem i_sub1 {a b : Nat} (h : Int32.ofNat a - Int32.ofNat b ≤ 0) (ha : a < 2 ^ 30) (hb : b < 2 ^ 30) : a ≤ b := by
  rcases Nat.lt_or_ge b a with h1 | h1
  · rw [iN_sub (by omega)] at h
    have := (iN_ge1 (by omega)).mp h
    omega
  · exact h1
theorem m_ens {S : List Int32} {hp : List XC} {b a m : Nat} {cs : List Nat} (h : hSB hp b a cs m) {k : Nat} (hk2 : k ≤ 140) (hl : cs.length ≤ 140) : Me S 3 210 [.ref b, .int (Int32.ofNat k)] hp (fun v hp' c s => v = none ∧ RSB hp b a cs k hp' c s) := by
  obtain ⟨hok, hcap, mv, hb, ha⟩ := id h
  refine At.go (q := xm210) rfl 1 (pc' := 1) (L' := [(0, .ref b), (1, .int (Int32.ofNat k))]) (st' := [.ref b]) rfl ?_
  refine At.gf rfl (by decide) hb rfl ?_
  refine At.ln rfl ha ?_
  rw [bz_len]
  refine At.go (q := xm210) rfl 1 (pc' := 6) (L' := [(0, .ref b), (1, .int (Int32.ofNat k))]) (st' := [.ref b, .int (Int32.ofNat (cs.length + m))]) rfl ?_
  refine At.gf rfl (by decide) hb rfl ?_
  refine At.go (q := xm210) rfl 1 (pc' := 10) (L' := [(0, .ref b), (1, .int (Int32.ofNat k))]) (st' := [.int ((Int32.ofNat (cs.length + m)) >>> (0 &&& 31))]) rfl ?_
  rw [sh0 _ (show cs.length + m < 2 ^ 31 by omega)]
  refine At.go (q := xm210) rfl 3 (pc' := 13) (L' := [(2, .int (Int32.ofNat (cs.length + m))), (0, .ref b), (1, .int (Int32.ofNat k))]) (st' := [.int (Int32.ofNat (cs.length + m)), .int (Int32.ofNat k)]) rfl ?_
  by_cases hk : k ≤ cs.length + m
  · refine At.go (q := xm210) rfl 1 (pc' := 14) (L' := [(2, .int (Int32.ofNat (cs.length + m))), (0, .ref b), (1, .int (Int32.ofNat k))]) (st' := [.int ((Int32.ofNat k) - (Int32.ofNat (cs.length + m)))]) rfl ?_
    refine At.ic1 (tgt := 38) rfl rfl (fun _ => ?_) (fun h => absurd (h.symm.trans (decide_eq_true (show Int32.ofNat k - Int32.ofNat (cs.length + m) ≤ 0 from i_sub0 hk (by omega)))) (by decide))
    exact At.rt rfl rfl ⟨_, _, _, _, rfl, rfl, a, m, h, hk, FrX.rf, Or.inl rfl, by omega, by omega⟩
  · refine At.go (q := xm210) rfl 1 (pc' := 14) (L' := [(2, .int (Int32.ofNat (cs.length + m))), (0, .ref b), (1, .int (Int32.ofNat k))]) (st' := [.int ((Int32.ofNat k) - (Int32.ofNat (cs.length + m)))]) rfl ?_
    refine At.ic1 (tgt := 38) rfl rfl (fun h => absurd (h.symm.trans (decide_eq_false (fun hle => hk (i_sub1 hle (by omega) (by omega))))) (by decide)) (fun _ => ?_)
    refine At.go (q := xm210) rfl 2 (pc' := 19) (L' := [(2, .int (Int32.ofNat (cs.length + m))), (0, .ref b), (1, .int (Int32.ofNat k))]) (st' := [.ref b, .ref b]) rfl ?_
    refine At.gf rfl (by decide) hb rfl ?_
    refine At.go (q := xm210) rfl 2 (pc' := 24) (L' := [(2, .int (Int32.ofNat (cs.length + m))), (0, .ref b), (1, .int (Int32.ofNat k))]) (st' := [.int (Int32.ofNat k), .ref b, .ref a, .ref b]) rfl ?_
    refine At.clp (as := [.ref b, .int (Int32.ofNat k)]) (rest := [.ref a, .ref b]) rfl (by decide) rfl (Nat.le_of_ble_eq_true rfl) (Nat.le_of_ble_eq_true rfl) (xrck_o (by decide) (by decide) hb (by decide)) (Nat.le_of_ble_eq_true rfl) (m_newCap h (by omega) (by omega)) ?_
    refine At.go (q := xm210) rfl 1 (pc' := 28) (L' := [(2, .int (Int32.ofNat (cs.length + m))), (0, .ref b), (1, .int (Int32.ofNat k))]) (st' := [.ref b, .int (Int32.ofNat (cs.length + m + max (k - (cs.length + m)) (cs.length + m + 2))), .ref a, .ref b]) rfl ?_
    refine At.gf rfl (by decide) hb rfl ?_
    refine At.go (q := xm210) rfl 1 (pc' := 32) (L' := [(2, .int (Int32.ofNat (cs.length + m))), (0, .ref b), (1, .int (Int32.ofNat k))]) (st' := [.int ((Int32.ofNat (cs.length + m + max (k - (cs.length + m)) (cs.length + m + 2))) <<< (0 &&& 31)), .ref a, .ref b]) rfl ?_
    rw [shl0]
    refine At.clm (as := [.ref a, .int (Int32.ofNat (cs.length + m + max (k - (cs.length + m)) (cs.length + m + 2)))]) (rest := [.ref b]) rfl (by decide) rfl (Nat.le_of_ble_eq_true rfl) (Nat.le_of_ble_eq_true rfl) rfl (Nat.le_of_ble_eq_true rfl) (m_cpyB ha (bL_okz hok) (by rw [bz_len]; omega) (by omega)) (fun v hp1 c s hv => ?_)
    obtain ⟨rfl, ehp1, rfl, rfl⟩ := hv
    have fhb : hp1[b]? = some (.inr (1, [.ref a, .int 0, .int mv, .int (Int32.ofNat cs.length)])) := by rw [ehp1]; exact xa_lt hb
    have fhn : hp1[hp.length]? = some (.inl (2, (bL cs ++ List.replicate m (Value.int 0)) ++ List.replicate ((cs.length + m + max (k - (cs.length + m)) (cs.length + m + 2)) - (bL cs ++ List.replicate m (Value.int 0)).length) (Value.int 0))) := by rw [ehp1]; exact xa_eq
    refine At.pf rfl fhb (Nat.le_of_ble_eq_true rfl) rfl ?_
    obtain ⟨hp2, ehp2⟩ : ∃ h, h = hp1.set b (.inr (1, [.ref hp.length, .int 0, .int mv, .int (Int32.ofNat cs.length)])) := ⟨_, rfl⟩
    refine At.hpe ehp2 ?_
    have fhp2_b : hp2[b]? = some (.inr (1, [.ref hp.length, .int 0, .int mv, .int (Int32.ofNat cs.length)])) := by rw [ehp2]; exact xs_eq fhb
    have fhp2_hp_length : hp2[hp.length]? = some (.inl (2, ((bL cs ++ List.replicate m (Value.int 0)) ++ List.replicate ((cs.length + m + max (k - (cs.length + m)) (cs.length + m + 2)) - (bL cs ++ List.replicate m (Value.int 0)).length) (Value.int 0)))) := by rw [ehp2]; exact xs_ne (xn_ra fhb fhn) fhn
    refine At.rt rfl rfl ⟨_, _, _, _, rfl, rfl, hp.length, m + ((cs.length + m + max (k - (cs.length + m)) (cs.length + m + 2)) - (cs.length + m)), ⟨hok, by omega, mv, ?_, ?_⟩, by omega, ?_, Or.inr (Nat.le_refl _), by omega, by omega⟩
    · rw [ehp2]; exact xs_eq fhb
    · rw [ehp2]; refine xs_ne (xn_ra fhb fhn) (fhn.trans ?_); rw [bz_len, List.append_assoc, List.replicate_append_replicate]
    · rw [ehp2]; exact FrX.tr (by rw [ehp1]; exact FrX.xn) (FrX.so fhb (by decide) rfl (by decide)) (fun x hx => Or.inl (Or.inl hx))
