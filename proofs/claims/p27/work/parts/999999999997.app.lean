/-! texts: StringBuilder's methods (written by wip/p27/c999999999997.py) -/
theorem m_asbI {S : List Int32} {hp : List XC} {b : Nat} {mv : Int32} (hb : hp[b]? = some (.inr (1, [.null, .int 0, .int mv, .int 0]))) : Me S 1 206 [.ref b, .int 16] hp (fun v hp' c s => v = none ∧ hSB hp' b hp.length [] 16 ∧ FrX (fun x => x = b) hp hp' ∧ c ≤ 1 ∧ s ≤ 16) := by
  refine At.go (q := xm206) rfl 1 (pc' := 1) (L' := [(0, .ref b), (1, .int 16)]) (st' := [.ref b]) rfl ?_
  refine At.sp rfl (by decide) (g := ([], hp)) rfl ?_
  refine At.go (q := xm206) rfl 4 (pc' := 12) (L' := [(0, .ref b), (1, .int 16)]) (st' := [.int 16, .ref b]) rfl ?_
  refine At.na (n := 16) rfl (by decide) (by decide) (by decide) ?_
  obtain ⟨hp1, ehp1⟩ : ∃ h, h = hp ++ [.inl (2, List.replicate 16 (.int 0))] := ⟨_, rfl⟩
  refine At.hpe ehp1 ?_
  have fhp1_b : hp1[b]? = some (.inr (1, [.null, .int 0, .int mv, .int 0])) := by rw [ehp1]; exact xa_lt hb
  have fhp1_hp_length : hp1[hp.length]? = some (.inl (2, (List.replicate 16 (.int 0)))) := by rw [ehp1]; exact xa_eq
  refine At.pf rfl fhp1_b (Nat.le_of_ble_eq_true rfl) rfl ?_
  obtain ⟨hp2, ehp2⟩ : ∃ h, h = hp1.set b (.inr (1, [.ref hp.length, .int 0, .int mv, .int 0])) := ⟨_, rfl⟩
  refine At.hpe ehp2 ?_
  have fhp2_b : hp2[b]? = some (.inr (1, [.ref hp.length, .int 0, .int mv, .int 0])) := by rw [ehp2]; exact xs_eq fhp1_b
  have fhp2_hp_length : hp2[hp.length]? = some (.inl (2, (List.replicate 16 (.int 0)))) := by rw [ehp2]; exact xs_ne (xn_ra fhp1_b fhp1_hp_length) fhp1_hp_length
  refine At.go (q := xm206) rfl 2 (pc' := 19) (L' := [(0, .ref b), (1, .int 16)]) (st' := [.int 0, .ref b]) rfl ?_
  refine At.pf rfl fhp2_b (Nat.le_of_ble_eq_true rfl) (by decide) ?_
  obtain ⟨hp3, ehp3⟩ : ∃ h, h = hp2.set b (.inr (1, [.ref hp.length, .int 0, .int mv, .int 0])) := ⟨_, rfl⟩
  refine At.hpe ehp3 ?_
  have fhp3_b : hp3[b]? = some (.inr (1, [.ref hp.length, .int 0, .int mv, .int 0])) := by rw [ehp3]; exact xs_eq fhp2_b
  have fhp3_hp_length : hp3[hp.length]? = some (.inl (2, (List.replicate 16 (.int 0)))) := by rw [ehp3]; exact xs_ne (xn_ra fhp2_b fhp2_hp_length) fhp2_hp_length
  refine At.go (q := xm206) rfl 1 (pc' := 38) (L' := [(0, .ref b), (1, .int 16)]) (st' := []) rfl ?_
  have f1 : FrX (fun x => x = b) hp hp1 := by rw [ehp1]; exact FrX.xn
  have f2 : FrX (fun x => x = b) hp1 hp2 := by rw [ehp2]; exact FrX.so fhp1_b (by decide) rfl (by decide)
  have f3 : FrX (fun x => x = b) hp2 hp3 := by rw [ehp3]; exact FrX.so fhp2_b (by decide) rfl (by decide)
  exact At.rt rfl rfl ⟨_, _, _, _, rfl, rfl, ⟨fun c hc => (List.not_mem_nil hc).elim, by decide, mv, fhp3_b, fhp3_hp_length⟩, FrX.tr (FrX.tr f1 f2 (fun x hx => Or.inl hx)) f3 (fun x hx => Or.inl hx), by omega, by show 0 + (16 : Int32).toNatClampNeg ≤ 16; decide⟩
theorem m_sbI {S : List Int32} {hp : List XC} {b : Nat} {mv : Int32} (hb : hp[b]? = some (.inr (1, [.null, .int 0, .int mv, .int 0]))) : Me S 2 205 [.ref b] hp (fun v hp' c s => v = none ∧ hSB hp' b hp.length [] 16 ∧ FrX (fun x => x = b) hp hp' ∧ c ≤ 1 ∧ s ≤ 16) := by
  refine At.go (q := xm205) rfl 2 (pc' := 3) (L' := [(0, .ref b)]) (st' := [.int 16, .ref b]) rfl ?_
  refine At.clm (as := [.ref b, .int 16]) (rest := []) rfl (by decide) rfl (Nat.le_of_ble_eq_true rfl) (Nat.le_of_ble_eq_true rfl) rfl (Nat.le_of_ble_eq_true rfl) (m_asbI hb) (fun v hp1 c s hv => ?_)
  obtain ⟨rfl, h1, h2, h3, h4⟩ := hv
  exact At.rt rfl rfl ⟨_, _, _, _, rfl, rfl, h1, h2, by omega, by omega⟩
theorem m_sbL {S : List Int32} {hp : List XC} {b a m : Nat} {cs : List Nat} (h : hSB hp b a cs m) : Pu S 0 213 [.ref b] hp (.int 1) := by
  obtain ⟨hok, hcap, mv, hb, ha⟩ := id h
  refine At.go (q := xm213) rfl 3 (pc' := 7) (L' := [(0, .ref b)]) (st' := [.ref b]) rfl ?_
  refine At.gf rfl (by decide) hb rfl ?_
  refine At.go (q := xm213) rfl 3 (pc' := 18) (L' := [(0, .ref b)]) (st' := [.int 1]) rfl ?_
  exact At.rt rfl rfl rfl
theorem m_inf_r {S : List Int32} {hp : List XC} {b a m : Nat} {cs : List Nat} (h : hSB hp b a cs m) {ds : List Nat} {t va : Nat} {r : List Value} (h1 : hp[t]? = some (.inr (0, .ref va :: .int 0 :: r))) (h2 : hp[va]? = some (.inl (2, bL ds))) : Pv S 1 217 [.ref b, .ref t] hp := by
  obtain ⟨hok, hcap, mv, hb, ha⟩ := id h
  refine At.go (q := xm217) rfl 3 (pc' := 7) (L' := [(0, .ref b), (1, .ref t)]) (st' := [.ref b]) rfl ?_
  refine At.gf rfl (by decide) hb rfl ?_
  refine At.go (q := xm217) rfl 1 (pc' := 11) (L' := [(0, .ref b), (1, .ref t)]) (st' := [.ref t, .int 0]) rfl ?_
  refine At.clp (as := [.ref t]) (rest := [.int 0]) rfl (by decide) rfl (Nat.le_of_ble_eq_true rfl) (Nat.le_of_ble_eq_true rfl) (xrck_o (by decide) (by decide) h1 (by decide)) (Nat.le_of_ble_eq_true rfl) (m_coder_r h1 h2) ?_
  refine At.ic2 (tgt := 21) rfl rfl (fun _ => ?_) (fun h => absurd (h.symm.trans (show xcm .eq 0 0 = true from rfl)) (by decide))
  exact At.rt rfl rfl rfl
theorem m_gb_r {S : List Int32} {hp : List XC} {b a m : Nat} {cs : List Nat} (h : hSB hp b a cs m) {ds : List Nat} {t va : Nat} {r : List Value} (h1 : hp[t]? = some (.inr (0, .ref va :: .int 0 :: r))) (h2 : hp[va]? = some (.inl (2, bL ds))) (hd : cOk ds) (hdl : ds.length ≤ 1000) (hm : ds.length ≤ m) : Me S 2 222 [.ref t, .ref a, .int (Int32.ofNat cs.length), .int 0] hp (fun v hp' c s => v = none ∧ hp' = hp.set a (.inl (2, bL (cs ++ ds) ++ List.replicate (m - ds.length) (.int 0))) ∧ c = 0 ∧ s = 0) := by
  obtain ⟨hok, hcap, mv, hb, ha⟩ := id h
  refine At.go (q := xm222) rfl 1 (pc' := 1) (L' := [(0, .ref t), (1, .ref a), (2, .int (Int32.ofNat cs.length)), (3, .int 0)]) (st' := [.ref t]) rfl ?_
  refine At.clp (as := [.ref t]) (rest := []) rfl (by decide) rfl (Nat.le_of_ble_eq_true rfl) (Nat.le_of_ble_eq_true rfl) (xrck_o (by decide) (by decide) h1 (by decide)) (Nat.le_of_ble_eq_true rfl) (m_coder_r h1 h2) ?_
  refine At.go (q := xm222) rfl 1 (pc' := 5) (L' := [(0, .ref t), (1, .ref a), (2, .int (Int32.ofNat cs.length)), (3, .int 0)]) (st' := [.int 0, .int 0]) rfl ?_
  refine At.ic2 (tgt := 28) rfl rfl (fun h => absurd (h.symm.trans (show xcm .ne 0 0 = false from rfl)) (by decide)) (fun _ => ?_)
  refine At.go (q := xm222) rfl 1 (pc' := 9) (L' := [(0, .ref t), (1, .ref a), (2, .int (Int32.ofNat cs.length)), (3, .int 0)]) (st' := [.ref t]) rfl ?_
  refine At.gf rfl (by decide) h1 rfl ?_
  refine At.go (q := xm222) rfl 5 (pc' := 17) (L' := [(0, .ref t), (1, .ref a), (2, .int (Int32.ofNat cs.length)), (3, .int 0)]) (st' := [.int ((Int32.ofNat cs.length) <<< (0 &&& 31)), .ref a, .int 0, .ref va]) rfl ?_
  rw [shl0]
  refine At.go (q := xm222) rfl 1 (pc' := 18) (L' := [(0, .ref t), (1, .ref a), (2, .int (Int32.ofNat cs.length)), (3, .int 0)]) (st' := [.ref t, .int (Int32.ofNat cs.length), .ref a, .int 0, .ref va]) rfl ?_
  refine At.gf rfl (by decide) h1 rfl ?_
  refine At.ln rfl h2 ?_
  rw [bL_len]
  refine At.cpb (sp := 0) (dp := cs.length) (n := ds.length) rfl (by decide) h2 ha (by rw [bL_len]; omega) (by rw [bz_len]; omega) (by rw [bL_len]; omega) (by rw [bz_len]; omega) (bL_ok hd) (by decide) ?_
  rw [xcpl_end hm]
  refine At.go (q := xm222) rfl 1 (pc' := 43) (L' := [(0, .ref t), (1, .ref a), (2, .int (Int32.ofNat cs.length)), (3, .int 0)]) (st' := []) rfl ?_
  exact At.rt rfl rfl ⟨_, _, _, _, rfl, rfl, rfl, rfl, rfl⟩
theorem m_psa_r {S : List Int32} {hp : List XC} {b a m : Nat} {cs : List Nat} (h : hSB hp b a cs m) {ds : List Nat} {t va : Nat} {r : List Value} (h1 : hp[t]? = some (.inr (0, .ref va :: .int 0 :: r))) (h2 : hp[va]? = some (.inl (2, bL ds))) (hd : cOk ds) (hdl : ds.length ≤ 1000) (hm : ds.length ≤ m) : Me S 3 216 [.ref b, .int (Int32.ofNat cs.length), .ref t] hp (fun v hp' c s => v = none ∧ hp' = hp.set a (.inl (2, bL (cs ++ ds) ++ List.replicate (m - ds.length) (.int 0))) ∧ c = 0 ∧ s = 0) := by
  obtain ⟨hok, hcap, mv, hb, ha⟩ := id h
  refine At.go (q := xm216) rfl 2 (pc' := 2) (L' := [(0, .ref b), (1, .int (Int32.ofNat cs.length)), (2, .ref t)]) (st' := [.ref t, .ref b]) rfl ?_
  refine At.clv (as := [.ref b, .ref t]) (rest := []) rfl (by decide) rfl (Nat.le_of_ble_eq_true rfl) (Nat.le_of_ble_eq_true rfl) (xrck_o (by decide) (by decide) hb (by decide)) (Nat.le_of_ble_eq_true rfl) (m_inf_r h h1 h2) ?_
  refine At.go (q := xm216) rfl 2 (pc' := 7) (L' := [(0, .ref b), (1, .int (Int32.ofNat cs.length)), (2, .ref t)]) (st' := [.ref b, .ref t]) rfl ?_
  refine At.gf rfl (by decide) hb rfl ?_
  refine At.go (q := xm216) rfl 2 (pc' := 12) (L' := [(0, .ref b), (1, .int (Int32.ofNat cs.length)), (2, .ref t)]) (st' := [.ref b, .int (Int32.ofNat cs.length), .ref a, .ref t]) rfl ?_
  refine At.gf rfl (by decide) hb rfl ?_
  refine At.clm (as := [.ref t, .ref a, .int (Int32.ofNat cs.length), .int 0]) (rest := []) rfl (by decide) rfl (Nat.le_of_ble_eq_true rfl) (Nat.le_of_ble_eq_true rfl) (xrck_o (by decide) (by decide) h1 (by decide)) (Nat.le_of_ble_eq_true rfl) (m_gb_r h h1 h2 hd hdl hm) (fun v hp1 c s hv => ?_)
  obtain ⟨rfl, e1, rfl, rfl⟩ := hv
  exact At.rt rfl rfl ⟨_, _, _, _, rfl, rfl, e1, rfl, rfl⟩
theorem m_inf_k {S : List Int32} {hp : List XC} {b a m : Nat} {cs : List Nat} (h : hSB hp b a cs m) {ds : List Nat} {k vk : Nat} {r : List Value} (h1 : xKC[k]? = some (.inr (0, .retAddr vk :: .int 0 :: r))) (h2 : xKC[vk]? = some (.inl (2, bL ds))) : Pv S 1 217 [.ref b, .retAddr k] hp := by
  obtain ⟨hok, hcap, mv, hb, ha⟩ := id h
  refine At.go (q := xm217) rfl 3 (pc' := 7) (L' := [(0, .ref b), (1, .retAddr k)]) (st' := [.ref b]) rfl ?_
  refine At.gf rfl (by decide) hb rfl ?_
  refine At.go (q := xm217) rfl 1 (pc' := 11) (L' := [(0, .ref b), (1, .retAddr k)]) (st' := [.retAddr k, .int 0]) rfl ?_
  refine At.clp (as := [.retAddr k]) (rest := [.int 0]) rfl (by decide) rfl (Nat.le_of_ble_eq_true rfl) (Nat.le_of_ble_eq_true rfl) (xrck_k (by decide) (by decide) h1 (by decide)) (Nat.le_of_ble_eq_true rfl) (m_coder_k h1 h2) ?_
  refine At.ic2 (tgt := 21) rfl rfl (fun _ => ?_) (fun h => absurd (h.symm.trans (show xcm .eq 0 0 = true from rfl)) (by decide))
  exact At.rt rfl rfl rfl
theorem m_gb_k {S : List Int32} {hp : List XC} {b a m : Nat} {cs : List Nat} (h : hSB hp b a cs m) {ds : List Nat} {k vk : Nat} {r : List Value} (h1 : xKC[k]? = some (.inr (0, .retAddr vk :: .int 0 :: r))) (h2 : xKC[vk]? = some (.inl (2, bL ds))) (hd : cOk ds) (hdl : ds.length ≤ 1000) (hm : ds.length ≤ m) : Me S 2 222 [.retAddr k, .ref a, .int (Int32.ofNat cs.length), .int 0] hp (fun v hp' c s => v = none ∧ hp' = hp.set a (.inl (2, bL (cs ++ ds) ++ List.replicate (m - ds.length) (.int 0))) ∧ c = 0 ∧ s = 0) := by
  obtain ⟨hok, hcap, mv, hb, ha⟩ := id h
  refine At.go (q := xm222) rfl 1 (pc' := 1) (L' := [(0, .retAddr k), (1, .ref a), (2, .int (Int32.ofNat cs.length)), (3, .int 0)]) (st' := [.retAddr k]) rfl ?_
  refine At.clp (as := [.retAddr k]) (rest := []) rfl (by decide) rfl (Nat.le_of_ble_eq_true rfl) (Nat.le_of_ble_eq_true rfl) (xrck_k (by decide) (by decide) h1 (by decide)) (Nat.le_of_ble_eq_true rfl) (m_coder_k h1 h2) ?_
  refine At.go (q := xm222) rfl 1 (pc' := 5) (L' := [(0, .retAddr k), (1, .ref a), (2, .int (Int32.ofNat cs.length)), (3, .int 0)]) (st' := [.int 0, .int 0]) rfl ?_
  refine At.ic2 (tgt := 28) rfl rfl (fun h => absurd (h.symm.trans (show xcm .ne 0 0 = false from rfl)) (by decide)) (fun _ => ?_)
  refine At.go (q := xm222) rfl 1 (pc' := 9) (L' := [(0, .retAddr k), (1, .ref a), (2, .int (Int32.ofNat cs.length)), (3, .int 0)]) (st' := [.retAddr k]) rfl ?_
  refine At.gk rfl (by decide) h1 rfl ?_
  refine At.go (q := xm222) rfl 5 (pc' := 17) (L' := [(0, .retAddr k), (1, .ref a), (2, .int (Int32.ofNat cs.length)), (3, .int 0)]) (st' := [.int ((Int32.ofNat cs.length) <<< (0 &&& 31)), .ref a, .int 0, .retAddr vk]) rfl ?_
  rw [shl0]
  refine At.go (q := xm222) rfl 1 (pc' := 18) (L' := [(0, .retAddr k), (1, .ref a), (2, .int (Int32.ofNat cs.length)), (3, .int 0)]) (st' := [.retAddr k, .int (Int32.ofNat cs.length), .ref a, .int 0, .retAddr vk]) rfl ?_
  refine At.gk rfl (by decide) h1 rfl ?_
  refine At.lk rfl h2 ?_
  rw [bL_len]
  refine At.cpc (sp := 0) (dp := cs.length) (n := ds.length) rfl (by decide) h2 ha (by rw [bL_len]; omega) (by rw [bz_len]; omega) (by rw [bL_len]; omega) (by rw [bz_len]; omega) (bL_ok hd) (by decide) ?_
  rw [xcpl_end hm]
  refine At.go (q := xm222) rfl 1 (pc' := 43) (L' := [(0, .retAddr k), (1, .ref a), (2, .int (Int32.ofNat cs.length)), (3, .int 0)]) (st' := []) rfl ?_
  exact At.rt rfl rfl ⟨_, _, _, _, rfl, rfl, rfl, rfl, rfl⟩
theorem m_psa_k {S : List Int32} {hp : List XC} {b a m : Nat} {cs : List Nat} (h : hSB hp b a cs m) {ds : List Nat} {k vk : Nat} {r : List Value} (h1 : xKC[k]? = some (.inr (0, .retAddr vk :: .int 0 :: r))) (h2 : xKC[vk]? = some (.inl (2, bL ds))) (hd : cOk ds) (hdl : ds.length ≤ 1000) (hm : ds.length ≤ m) : Me S 3 216 [.ref b, .int (Int32.ofNat cs.length), .retAddr k] hp (fun v hp' c s => v = none ∧ hp' = hp.set a (.inl (2, bL (cs ++ ds) ++ List.replicate (m - ds.length) (.int 0))) ∧ c = 0 ∧ s = 0) := by
  obtain ⟨hok, hcap, mv, hb, ha⟩ := id h
  refine At.go (q := xm216) rfl 2 (pc' := 2) (L' := [(0, .ref b), (1, .int (Int32.ofNat cs.length)), (2, .retAddr k)]) (st' := [.retAddr k, .ref b]) rfl ?_
  refine At.clv (as := [.ref b, .retAddr k]) (rest := []) rfl (by decide) rfl (Nat.le_of_ble_eq_true rfl) (Nat.le_of_ble_eq_true rfl) (xrck_o (by decide) (by decide) hb (by decide)) (Nat.le_of_ble_eq_true rfl) (m_inf_k h h1 h2) ?_
  refine At.go (q := xm216) rfl 2 (pc' := 7) (L' := [(0, .ref b), (1, .int (Int32.ofNat cs.length)), (2, .retAddr k)]) (st' := [.ref b, .retAddr k]) rfl ?_
  refine At.gf rfl (by decide) hb rfl ?_
  refine At.go (q := xm216) rfl 2 (pc' := 12) (L' := [(0, .ref b), (1, .int (Int32.ofNat cs.length)), (2, .retAddr k)]) (st' := [.ref b, .int (Int32.ofNat cs.length), .ref a, .retAddr k]) rfl ?_
  refine At.gf rfl (by decide) hb rfl ?_
  refine At.clm (as := [.retAddr k, .ref a, .int (Int32.ofNat cs.length), .int 0]) (rest := []) rfl (by decide) rfl (Nat.le_of_ble_eq_true rfl) (Nat.le_of_ble_eq_true rfl) (xrck_k (by decide) (by decide) h1 (by decide)) (Nat.le_of_ble_eq_true rfl) (m_gb_k h h1 h2 hd hdl hm) (fun v hp1 c s hv => ?_)
  obtain ⟨rfl, e1, rfl, rfl⟩ := hv
  exact At.rt rfl rfl ⟨_, _, _, _, rfl, rfl, e1, rfl, rfl⟩
theorem m_asb_r {S : List Int32} {hp : List XC} {b a m : Nat} {cs : List Nat} (h : hSB hp b a cs m) {ds : List Nat} {t va : Nat} {r : List Value} (h1 : hp[t]? = some (.inr (0, .ref va :: .int 0 :: r))) (h2 : hp[va]? = some (.inl (2, bL ds))) (hva : ¬ va = a) (hd : cOk ds) (hdl : ds.length ≤ 1000) (hl : cs.length + ds.length ≤ 140) : Me S 4 208 [.ref b, .ref t] hp (fun v hp' c s => v = some (.ref b) ∧ RSB hp b a (cs ++ ds) 0 hp' c s) := by
  obtain ⟨hok, hcap, mv, hb, ha⟩ := id h
  refine At.go (q := xm208) rfl 3 (pc' := 10) (L' := [(0, .ref b), (1, .ref t)]) (st' := [.ref t]) rfl ?_
  refine At.clp (as := [.ref t]) (rest := []) rfl (by decide) rfl (Nat.le_of_ble_eq_true rfl) (Nat.le_of_ble_eq_true rfl) (xrck_o (by decide) (by decide) h1 (by decide)) (Nat.le_of_ble_eq_true rfl) (m_slen_r h1 h2 hdl) ?_
  refine At.go (q := xm208) rfl 3 (pc' := 16) (L' := [(2, .int (Int32.ofNat ds.length)), (0, .ref b), (1, .ref t)]) (st' := [.ref b, .ref b]) rfl ?_
  refine At.gf rfl (by decide) hb rfl ?_
  refine At.go (q := xm208) rfl 1 (pc' := 20) (L' := [(2, .int (Int32.ofNat ds.length)), (0, .ref b), (1, .ref t)]) (st' := [.int (Int32.ofNat ds.length), .int (Int32.ofNat cs.length), .ref b]) rfl ?_
  refine At.go (q := xm208) rfl 1 (pc' := 21) (L' := [(2, .int (Int32.ofNat ds.length)), (0, .ref b), (1, .ref t)]) (st' := [.int ((Int32.ofNat cs.length) + (Int32.ofNat ds.length)), .ref b]) rfl ?_
  rw [show Int32.ofNat cs.length + Int32.ofNat ds.length = Int32.ofNat (cs.length + ds.length) from (Int32.ofNat_add ..).symm]
  refine At.clm (as := [.ref b, .int (Int32.ofNat (cs.length + ds.length))]) (rest := []) rfl (by decide) rfl (Nat.le_of_ble_eq_true rfl) (Nat.le_of_ble_eq_true rfl) (xrck_o (by decide) (by decide) hb (by decide)) (Nat.le_of_ble_eq_true rfl) (m_ens h (by omega) (by omega)) (fun v hp1 c1 s1 hv => ?_)
  obtain ⟨rfl, a1, m1, g1, g2, g3, g4, g5, g6⟩ := hv
  obtain ⟨-, gcap, mv1, gb, ga⟩ := id g1
  have h1' := g3.ob h1 (by decide) (fun e => e.elim (xn_cl h1 hb (by decide)) (xn_ra h1 ha))
  have h2' : hp1[va]? = some (.inl (2, bL ds)) := g3.ar h2 (by decide) (fun e => e.elim (xn_ar h2 hb) hva)
  refine At.go (q := xm208) rfl 2 (pc' := 26) (L' := [(2, .int (Int32.ofNat ds.length)), (0, .ref b), (1, .ref t)]) (st' := [.ref b, .ref b]) rfl ?_
  refine At.gf rfl (by decide) gb rfl ?_
  refine At.go (q := xm208) rfl 1 (pc' := 30) (L' := [(2, .int (Int32.ofNat ds.length)), (0, .ref b), (1, .ref t)]) (st' := [.ref t, .int (Int32.ofNat cs.length), .ref b]) rfl ?_
  refine At.clm (as := [.ref b, .int (Int32.ofNat cs.length), .ref t]) (rest := []) rfl (by decide) rfl (Nat.le_of_ble_eq_true rfl) (Nat.le_of_ble_eq_true rfl) (xrck_o (by decide) (by decide) gb (by decide)) (Nat.le_of_ble_eq_true rfl) (m_psa_r g1 h1' h2' hd hdl (by omega)) (fun v hp2 c2 s2 hv => ?_)
  obtain ⟨rfl, e2, rfl, rfl⟩ := hv
  have gb2 : hp2[b]? = some (.inr (1, [.ref a1, .int 0, .int mv1, .int (Int32.ofNat cs.length)])) := by rw [e2]; exact xs_ne (xn_ar ga gb) gb
  have ga2 : hp2[a1]? = some (.inl (2, bL (cs ++ ds) ++ List.replicate (m1 - ds.length) (.int 0))) := by rw [e2]; exact xs_eq ga
  refine At.go (q := xm208) rfl 2 (pc' := 35) (L' := [(2, .int (Int32.ofNat ds.length)), (0, .ref b), (1, .ref t)]) (st' := [.ref b, .ref b]) rfl ?_
  refine At.gf rfl (by decide) gb2 rfl ?_
  refine At.go (q := xm208) rfl 1 (pc' := 39) (L' := [(2, .int (Int32.ofNat ds.length)), (0, .ref b), (1, .ref t)]) (st' := [.int (Int32.ofNat ds.length), .int (Int32.ofNat cs.length), .ref b]) rfl ?_
  refine At.go (q := xm208) rfl 1 (pc' := 40) (L' := [(2, .int (Int32.ofNat ds.length)), (0, .ref b), (1, .ref t)]) (st' := [.int ((Int32.ofNat cs.length) + (Int32.ofNat ds.length)), .ref b]) rfl ?_
  rw [show Int32.ofNat cs.length + Int32.ofNat ds.length = Int32.ofNat (cs ++ ds).length from by rw [List.length_append]; exact (Int32.ofNat_add ..).symm]
  refine At.pf rfl gb2 (Nat.le_of_ble_eq_true rfl) xfit_i ?_
  obtain ⟨hp3, ehp3⟩ : ∃ h, h = hp2.set b (.inr (1, [.ref a1, .int 0, .int mv1, .int (Int32.ofNat (cs ++ ds).length)])) := ⟨_, rfl⟩
  refine At.hpe ehp3 ?_
  have fhp3_b : hp3[b]? = some (.inr (1, [.ref a1, .int 0, .int mv1, .int (Int32.ofNat (cs ++ ds).length)])) := by rw [ehp3]; exact xs_eq gb2
  have fhp3_a1 : hp3[a1]? = some (.inl (2, (bL (cs ++ ds) ++ List.replicate (m1 - ds.length) (.int 0)))) := by rw [ehp3]; exact xs_ne (xn_ra gb2 ga2) ga2
  refine At.go (q := xm208) rfl 1 (pc' := 44) (L' := [(2, .int (Int32.ofNat ds.length)), (0, .ref b), (1, .ref t)]) (st' := [.ref b]) rfl ?_
  refine At.rt rfl rfl ⟨_, _, _, _, rfl, rfl, a1, m1 - ds.length, ⟨fun c hc => (List.mem_append.mp hc).elim (hok c) (hd c), by rw [List.length_append]; omega, mv1, fhp3_b, fhp3_a1⟩, Nat.zero_le _, ?_, g4, by omega, by omega⟩
  have k2 : FrX (fun x => x = a1) hp1 hp2 := by rw [e2]; exact FrX.xs ga
  have k3 : FrX (fun x => x = b) hp2 hp3 := by rw [ehp3]; exact FrX.so gb2 (by decide) rfl (by decide)
  refine FrX.tr (FrX.tr g3 k2 (fun x hx => ?_)) k3 (fun x hx => Or.inl (Or.inl hx))
  have hx' : x = a1 := hx
  rcases g4 with e | e
  · exact Or.inl (Or.inr (hx'.trans e))
  · exact Or.inr (by rw [hx']; exact e)
theorem m_app_r {S : List Int32} {hp : List XC} {b a m : Nat} {cs : List Nat} (h : hSB hp b a cs m) {ds : List Nat} {t va : Nat} {r : List Value} (h1 : hp[t]? = some (.inr (0, .ref va :: .int 0 :: r))) (h2 : hp[va]? = some (.inl (2, bL ds))) (hva : ¬ va = a) (hd : cOk ds) (hdl : ds.length ≤ 1000) (hl : cs.length + ds.length ≤ 140) : Me S 5 207 [.ref b, .ref t] hp (fun v hp' c s => v = some (.ref b) ∧ RSB hp b a (cs ++ ds) 0 hp' c s) := by
  obtain ⟨hok, hcap, mv, hb, ha⟩ := id h
  refine At.go (q := xm207) rfl 2 (pc' := 2) (L' := [(0, .ref b), (1, .ref t)]) (st' := [.ref t, .ref b]) rfl ?_
  refine At.clm (as := [.ref b, .ref t]) (rest := []) rfl (by decide) rfl (Nat.le_of_ble_eq_true rfl) (Nat.le_of_ble_eq_true rfl) (xrck_o (by decide) (by decide) hb (by decide)) (Nat.le_of_ble_eq_true rfl) (m_asb_r h h1 h2 hva hd hdl hl) (fun v hp1 c1 s1 hv => ?_)
  obtain ⟨rfl, g1⟩ := hv
  refine At.go (q := xm207) rfl 2 (pc' := 7) (L' := [(0, .ref b), (1, .ref t)]) (st' := [.ref b]) rfl ?_
  exact At.rt rfl rfl ⟨_, _, _, _, rfl, rfl, by rw [Nat.zero_add, Nat.zero_add]; exact g1⟩
theorem m_asb_k {S : List Int32} {hp : List XC} {b a m : Nat} {cs : List Nat} (h : hSB hp b a cs m) {ds : List Nat} {k vk : Nat} {r : List Value} (h1 : xKC[k]? = some (.inr (0, .retAddr vk :: .int 0 :: r))) (h2 : xKC[vk]? = some (.inl (2, bL ds))) (hd : cOk ds) (hdl : ds.length ≤ 1000) (hl : cs.length + ds.length ≤ 140) : Me S 4 208 [.ref b, .retAddr k] hp (fun v hp' c s => v = some (.ref b) ∧ RSB hp b a (cs ++ ds) 0 hp' c s) := by
  obtain ⟨hok, hcap, mv, hb, ha⟩ := id h
  refine At.go (q := xm208) rfl 3 (pc' := 10) (L' := [(0, .ref b), (1, .retAddr k)]) (st' := [.retAddr k]) rfl ?_
  refine At.clp (as := [.retAddr k]) (rest := []) rfl (by decide) rfl (Nat.le_of_ble_eq_true rfl) (Nat.le_of_ble_eq_true rfl) (xrck_k (by decide) (by decide) h1 (by decide)) (Nat.le_of_ble_eq_true rfl) (m_slen_k h1 h2 hdl) ?_
  refine At.go (q := xm208) rfl 3 (pc' := 16) (L' := [(2, .int (Int32.ofNat ds.length)), (0, .ref b), (1, .retAddr k)]) (st' := [.ref b, .ref b]) rfl ?_
  refine At.gf rfl (by decide) hb rfl ?_
  refine At.go (q := xm208) rfl 1 (pc' := 20) (L' := [(2, .int (Int32.ofNat ds.length)), (0, .ref b), (1, .retAddr k)]) (st' := [.int (Int32.ofNat ds.length), .int (Int32.ofNat cs.length), .ref b]) rfl ?_
  refine At.go (q := xm208) rfl 1 (pc' := 21) (L' := [(2, .int (Int32.ofNat ds.length)), (0, .ref b), (1, .retAddr k)]) (st' := [.int ((Int32.ofNat cs.length) + (Int32.ofNat ds.length)), .ref b]) rfl ?_
  rw [show Int32.ofNat cs.length + Int32.ofNat ds.length = Int32.ofNat (cs.length + ds.length) from (Int32.ofNat_add ..).symm]
  refine At.clm (as := [.ref b, .int (Int32.ofNat (cs.length + ds.length))]) (rest := []) rfl (by decide) rfl (Nat.le_of_ble_eq_true rfl) (Nat.le_of_ble_eq_true rfl) (xrck_o (by decide) (by decide) hb (by decide)) (Nat.le_of_ble_eq_true rfl) (m_ens h (by omega) (by omega)) (fun v hp1 c1 s1 hv => ?_)
  obtain ⟨rfl, a1, m1, g1, g2, g3, g4, g5, g6⟩ := hv
  obtain ⟨-, gcap, mv1, gb, ga⟩ := id g1
  refine At.go (q := xm208) rfl 2 (pc' := 26) (L' := [(2, .int (Int32.ofNat ds.length)), (0, .ref b), (1, .retAddr k)]) (st' := [.ref b, .ref b]) rfl ?_
  refine At.gf rfl (by decide) gb rfl ?_
  refine At.go (q := xm208) rfl 1 (pc' := 30) (L' := [(2, .int (Int32.ofNat ds.length)), (0, .ref b), (1, .retAddr k)]) (st' := [.retAddr k, .int (Int32.ofNat cs.length), .ref b]) rfl ?_
  refine At.clm (as := [.ref b, .int (Int32.ofNat cs.length), .retAddr k]) (rest := []) rfl (by decide) rfl (Nat.le_of_ble_eq_true rfl) (Nat.le_of_ble_eq_true rfl) (xrck_o (by decide) (by decide) gb (by decide)) (Nat.le_of_ble_eq_true rfl) (m_psa_k g1 h1 h2 hd hdl (by omega)) (fun v hp2 c2 s2 hv => ?_)
  obtain ⟨rfl, e2, rfl, rfl⟩ := hv
  have gb2 : hp2[b]? = some (.inr (1, [.ref a1, .int 0, .int mv1, .int (Int32.ofNat cs.length)])) := by rw [e2]; exact xs_ne (xn_ar ga gb) gb
  have ga2 : hp2[a1]? = some (.inl (2, bL (cs ++ ds) ++ List.replicate (m1 - ds.length) (.int 0))) := by rw [e2]; exact xs_eq ga
  refine At.go (q := xm208) rfl 2 (pc' := 35) (L' := [(2, .int (Int32.ofNat ds.length)), (0, .ref b), (1, .retAddr k)]) (st' := [.ref b, .ref b]) rfl ?_
  refine At.gf rfl (by decide) gb2 rfl ?_
  refine At.go (q := xm208) rfl 1 (pc' := 39) (L' := [(2, .int (Int32.ofNat ds.length)), (0, .ref b), (1, .retAddr k)]) (st' := [.int (Int32.ofNat ds.length), .int (Int32.ofNat cs.length), .ref b]) rfl ?_
  refine At.go (q := xm208) rfl 1 (pc' := 40) (L' := [(2, .int (Int32.ofNat ds.length)), (0, .ref b), (1, .retAddr k)]) (st' := [.int ((Int32.ofNat cs.length) + (Int32.ofNat ds.length)), .ref b]) rfl ?_
  rw [show Int32.ofNat cs.length + Int32.ofNat ds.length = Int32.ofNat (cs ++ ds).length from by rw [List.length_append]; exact (Int32.ofNat_add ..).symm]
  refine At.pf rfl gb2 (Nat.le_of_ble_eq_true rfl) xfit_i ?_
  obtain ⟨hp3, ehp3⟩ : ∃ h, h = hp2.set b (.inr (1, [.ref a1, .int 0, .int mv1, .int (Int32.ofNat (cs ++ ds).length)])) := ⟨_, rfl⟩
  refine At.hpe ehp3 ?_
  have fhp3_b : hp3[b]? = some (.inr (1, [.ref a1, .int 0, .int mv1, .int (Int32.ofNat (cs ++ ds).length)])) := by rw [ehp3]; exact xs_eq gb2
  have fhp3_a1 : hp3[a1]? = some (.inl (2, (bL (cs ++ ds) ++ List.replicate (m1 - ds.length) (.int 0)))) := by rw [ehp3]; exact xs_ne (xn_ra gb2 ga2) ga2
  refine At.go (q := xm208) rfl 1 (pc' := 44) (L' := [(2, .int (Int32.ofNat ds.length)), (0, .ref b), (1, .retAddr k)]) (st' := [.ref b]) rfl ?_
  refine At.rt rfl rfl ⟨_, _, _, _, rfl, rfl, a1, m1 - ds.length, ⟨fun c hc => (List.mem_append.mp hc).elim (hok c) (hd c), by rw [List.length_append]; omega, mv1, fhp3_b, fhp3_a1⟩, Nat.zero_le _, ?_, g4, by omega, by omega⟩
  have k2 : FrX (fun x => x = a1) hp1 hp2 := by rw [e2]; exact FrX.xs ga
  have k3 : FrX (fun x => x = b) hp2 hp3 := by rw [ehp3]; exact FrX.so gb2 (by decide) rfl (by decide)
  refine FrX.tr (FrX.tr g3 k2 (fun x hx => ?_)) k3 (fun x hx => Or.inl (Or.inl hx))
  have hx' : x = a1 := hx
  rcases g4 with e | e
  · exact Or.inl (Or.inr (hx'.trans e))
  · exact Or.inr (by rw [hx']; exact e)
theorem m_app_k {S : List Int32} {hp : List XC} {b a m : Nat} {cs : List Nat} (h : hSB hp b a cs m) {ds : List Nat} {k vk : Nat} {r : List Value} (h1 : xKC[k]? = some (.inr (0, .retAddr vk :: .int 0 :: r))) (h2 : xKC[vk]? = some (.inl (2, bL ds))) (hd : cOk ds) (hdl : ds.length ≤ 1000) (hl : cs.length + ds.length ≤ 140) : Me S 5 207 [.ref b, .retAddr k] hp (fun v hp' c s => v = some (.ref b) ∧ RSB hp b a (cs ++ ds) 0 hp' c s) := by
  obtain ⟨hok, hcap, mv, hb, ha⟩ := id h
  refine At.go (q := xm207) rfl 2 (pc' := 2) (L' := [(0, .ref b), (1, .retAddr k)]) (st' := [.retAddr k, .ref b]) rfl ?_
  refine At.clm (as := [.ref b, .retAddr k]) (rest := []) rfl (by decide) rfl (Nat.le_of_ble_eq_true rfl) (Nat.le_of_ble_eq_true rfl) (xrck_o (by decide) (by decide) hb (by decide)) (Nat.le_of_ble_eq_true rfl) (m_asb_k h h1 h2 hd hdl hl) (fun v hp1 c1 s1 hv => ?_)
  obtain ⟨rfl, g1⟩ := hv
  refine At.go (q := xm207) rfl 2 (pc' := 7) (L' := [(0, .ref b), (1, .retAddr k)]) (st' := [.ref b]) rfl ?_
  exact At.rt rfl rfl ⟨_, _, _, _, rfl, rfl, by rw [Nat.zero_add, Nat.zero_add]; exact g1⟩
