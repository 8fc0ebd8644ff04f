/-! sessions: a sign is added, an answer is kept (written by wip/p27/c999997.py) -/
theorem m_sadd {S : List Int32} {hp : List XC} {z s k zt za : Nat} {zl zr zc zw zb zi : Int32} {es : List Value} {n : Nat} {x : Int32} (hz : hp[z]? = some (.inr (9, [.int zl, .ref zt, .int (Int32.ofNat n), .ref za, .int zr, .int zc, .int zw, .int zb, .ref s, .ref k, .int zi]))) (hzt : hp[zt]? = some (.inl (1, es))) (hel : es.length ≤ 100000) (hn : n < es.length) : Me S 0 39 [.ref z, .int x] hp (fun v hp' c s' => v = none ∧ FrX (fun x => x = z ∨ x = zt) hp hp' ∧ hp'[z]? = some (.inr (9, [.int zl, .ref zt, .int (Int32.ofNat (n + 1)), .ref za, .int zr, .int zc, .int zw, .int zb, .ref s, .ref k, .int zi])) ∧ hp'[zt]? = some (.inl (1, es.set n (.int (vp_nar (xTy 1) x)))) ∧ c = 0 ∧ s' = 0) := by
  refine At.go (q := xm39) rfl 1 (pc' := 1) (L' := [(0, .ref z), (1, .int x)]) (st' := [.ref z]) rfl ?_
  refine At.gf rfl (by decide) hz rfl ?_
  refine At.ic1 (tgt := 39) rfl rfl (fun h => absurd (h.symm.trans (decide_eq_false (iN_nn (by omega)))) (by decide)) (fun _ => ?_)
  refine At.go (q := xm39) rfl 1 (pc' := 8) (L' := [(0, .ref z), (1, .int x)]) (st' := [.ref z]) rfl ?_
  refine At.gf rfl (by decide) hz rfl ?_
  refine At.go (q := xm39) rfl 1 (pc' := 12) (L' := [(0, .ref z), (1, .int x)]) (st' := [.ref z, .int (Int32.ofNat n)]) rfl ?_
  refine At.gf rfl (by decide) hz rfl ?_
  refine At.ln rfl hzt ?_
  refine At.ic2 (tgt := 39) rfl rfl (fun h => absurd (h.symm.trans (decide_eq_false (fun h => absurd ((iN_le (a := es.length) (b := n) (by omega) (by omega)).mp h) (by omega)))) (by decide)) (fun _ => ?_)
  refine At.go (q := xm39) rfl 1 (pc' := 20) (L' := [(0, .ref z), (1, .int x)]) (st' := [.ref z]) rfl ?_
  refine At.gf rfl (by decide) hz rfl ?_
  refine At.go (q := xm39) rfl 1 (pc' := 24) (L' := [(0, .ref z), (1, .int x)]) (st' := [.ref z, .ref zt]) rfl ?_
  refine At.gf rfl (by decide) hz rfl ?_
  refine At.go (q := xm39) rfl 1 (pc' := 28) (L' := [(0, .ref z), (1, .int x)]) (st' := [.int x, .int (Int32.ofNat n), .ref zt]) rfl ?_
  refine At.as (j := Int32.ofNat n) rfl hzt (by decide) rfl (iN_nn (by omega)) (by rw [iN_tn (by omega)]; omega) ?_
  rw [iN_tn (by omega)]
  obtain ⟨h1, eh1⟩ : ∃ h, h = hp.set zt (.inl (1, es.set n (.int (vp_nar (xTy 1) x)))) := ⟨_, rfl⟩
  refine At.hpe eh1 ?_
  have f1 : FrX (fun x => x = zt) hp h1 := by rw [eh1]; exact FrX.st hzt rfl rfl rfl rfl (fun fs h => by cases h) (fun ci fs h => by cases h)
  have hz1 := f1.ob hz (by decide) (fun e => xn_ra hz hzt e)
  have hzt1 : h1[zt]? = some (.inl (1, es.set n (.int (vp_nar (xTy 1) x)))) := by rw [eh1]; exact xs_eq hzt
  refine At.go (q := xm39) rfl 2 (pc' := 31) (L' := [(0, .ref z), (1, .int x)]) (st' := [.ref z, .ref z]) rfl ?_
  refine At.gf rfl (by decide) hz1 rfl ?_
  refine At.go (q := xm39) rfl 2 (pc' := 36) (L' := [(0, .ref z), (1, .int x)]) (st' := [.int ((Int32.ofNat n) + 1), .ref z]) rfl ?_
  rw [iN_s]
  refine At.pf rfl hz1 (Nat.le_of_ble_eq_true rfl) xfit_i ?_
  obtain ⟨h2, eh2⟩ : ∃ h, h = h1.set z (.inr (9, [.int zl, .ref zt, .int (Int32.ofNat (n + 1)), .ref za, .int zr, .int zc, .int zw, .int zb, .ref s, .ref k, .int zi])) := ⟨_, rfl⟩
  refine At.hpe eh2 ?_
  have f2 : FrX (fun x => x = z) h1 h2 := by rw [eh2]; exact FrX.so hz1 (by decide) rfl (by decide)
  have hzt2 := f2.2.2.1 _ _ hzt1 rfl (Or.inl (fun e => xn_ar hzt1 hz1 e))
  exact At.rt rfl rfl ⟨_, _, _, _, rfl, rfl, FrX.tr (f1.mono (fun x _ h => Or.inr h)) f2 (fun x h => Or.inl (Or.inl h)), by rw [eh2]; exact xs_eq hz1, hzt2, rfl, rfl⟩
theorem m_keepAnswer {S : List Int32} {hp : List XC} {z s k zt za : Nat} {zl zn zr zc zw zb zi : Int32} {ln m w : Nat} {lb ab : List Int32} (hz : hp[z]? = some (.inr (9, [.int zl, .ref zt, .int zn, .ref za, .int zr, .int zc, .int zw, .int zb, .ref s, .ref k, .int zi]))) (hln : hp[ln]? = some (.inl (20, lb.map Value.int))) (hza : hp[za]? = some (.inl (21, ab.map Value.int))) (hlb : lb.length ≤ 100000) (hab : ab.length ≤ 100000) (hmw : m * w ≤ lb.length) : Me S 1 163 [.ref z, .ref ln, .int (Int32.ofNat m), .int (Int32.ofNat w)] hp (fun v hp' c s' => v = none ∧ ∃ (za' : Nat) (ab' : List Int32), FrX (fun x => x = z ∨ x = za) hp hp' ∧ hp'[z]? = some (.inr (9, [.int zl, .ref zt, .int zn, .ref za', .int (Int32.ofNat m), .int (Int32.ofNat w), .int zw, .int zb, .ref s, .ref k, .int zi])) ∧ hp'[za']? = some (.inl (21, ab'.map Value.int)) ∧ ab'.take (m * w) = lb.take (m * w) ∧ (za' = za ∨ hp.length ≤ za') ∧ ((c = 0 ∧ s' = 0 ∧ ab'.length = ab.length) ∨ (c = 1 ∧ s' = ab'.length ∧ ab.length < m * w ∧ m * w ≤ ab'.length ∧ ab'.length ≤ lb.length))) := by
  refine At.go (q := xm163) rfl 3 (pc' := 3) (L' := [(0, .ref z), (1, .ref ln), (2, .int (Int32.ofNat m)), (3, .int (Int32.ofNat w))]) (st' := [.int ((Int32.ofNat m) * (Int32.ofNat w))]) rfl ?_
  rw [show Int32.ofNat m * Int32.ofNat w = Int32.ofNat (m * w) from (Int32.ofNat_mul _ _).symm]
  obtain ⟨sz, hsz⟩ : ∃ x, x = Int32.ofNat (m * w) := ⟨_, rfl⟩
  rw [← hsz]
  refine At.go (q := xm163) rfl 1 (pc' := 4) (L' := [(0, .ref z), (1, .ref ln), (2, .int (Int32.ofNat m)), (3, .int (Int32.ofNat w))]) (st' := [.int 0, .int sz]) rfl ?_
  refine At.sp rfl (by decide) (g := ([.int (if sz < 0 then 0 else sz)], hp)) rfl ?_
  rw [show (if sz < 0 then (0 : Int32) else sz) = sz from if_neg (by rw [hsz]; exact iN_nn (by omega))]
  refine At.go (q := xm163) rfl 1 (pc' := 8) (L' := [(0, .ref z), (1, .ref ln), (2, .int (Int32.ofNat m)), (3, .int (Int32.ofNat w))]) (st' := [.ref ln, .int sz]) rfl ?_
  refine At.ln rfl hln ?_
  refine At.sp rfl (by decide) (g := ([.int (if (Int32.ofNat (lb.map Value.int).length) < sz then (Int32.ofNat (lb.map Value.int).length) else sz)], hp)) rfl ?_
  rw [List.length_map, show (if Int32.ofNat lb.length < sz then Int32.ofNat lb.length else sz) = sz from if_neg (fun h => absurd ((iN_lt (a := lb.length) (b := m * w) (by omega) (by omega)).mp (by rw [← hsz]; exact h)) (by omega)), hsz]
  refine At.go (q := xm163) rfl 2 (pc' := 15) (L' := [(4, .int (Int32.ofNat (m * w))), (0, .ref z), (1, .ref ln), (2, .int (Int32.ofNat m)), (3, .int (Int32.ofNat w))]) (st' := [.ref z]) rfl ?_
  refine At.gf rfl (by decide) hz rfl ?_
  refine At.ln rfl hza ?_
  refine At.go (q := xm163) rfl 1 (pc' := 21) (L' := [(4, .int (Int32.ofNat (m * w))), (0, .ref z), (1, .ref ln), (2, .int (Int32.ofNat m)), (3, .int (Int32.ofNat w))]) (st' := [.int (Int32.ofNat (m * w)), .int (Int32.ofNat (ab.map Value.int).length)]) rfl ?_
  rw [List.length_map]
  refine At.ic2 (tgt := 39) rfl rfl (fun h21 => ?_) (fun h21 => ?_)
  · have hfit : m * w ≤ ab.length := (iN_le (by omega) (by omega)).mp (of_decide_eq_true h21)
    refine At.go (q := xm163) rfl 3 (pc' := 42) (L' := [(4, .int (Int32.ofNat (m * w))), (0, .ref z), (1, .ref ln), (2, .int (Int32.ofNat m)), (3, .int (Int32.ofNat w))]) (st' := [.ref z, .int 0, .ref ln]) rfl ?_
    refine At.gf rfl (by decide) hz rfl ?_
    refine At.go (q := xm163) rfl 2 (pc' := 48) (L' := [(4, .int (Int32.ofNat (m * w))), (0, .ref z), (1, .ref ln), (2, .int (Int32.ofNat m)), (3, .int (Int32.ofNat w))]) (st' := [.int (Int32.ofNat (m * w)), .int 0, .ref za, .int 0, .ref ln]) rfl ?_
    refine At.cpi (sp := 0) (dp := 0) (n := m * w) rfl (by decide) hln hza (by decide) (by decide) rfl rfl (by rw [List.length_map]; omega) (by rw [List.length_map]; omega) (by rw [List.length_map]; omega) (by rw [List.length_map]; omega) (by decide) ?_
    rw [xcpl9_m]
    obtain ⟨lr, hr⟩ : ∃ z, z = xcpl9 lb ab 0 0 (m * w) := ⟨_, rfl⟩
    rw [← hr]
    have hrt : lr.take (m * w) = lb.take (m * w) ∧ lr.length = ab.length := by
      rw [hr]
      unfold xcpl9
      rw [List.take_zero, List.nil_append, List.drop_zero, Nat.zero_add]
      refine ⟨?_, ?_⟩
      · rw [List.take_append_of_le_length (by rw [List.length_take]; omega), List.take_take, Nat.min_self]
      · rw [List.length_append, List.length_take, List.length_drop]; omega
    obtain ⟨k1, ek1⟩ : ∃ h, h = hp.set za (.inl (21, lr.map Value.int)) := ⟨_, rfl⟩
    refine At.hpe ek1 ?_
    have g1 : FrX (fun x => x = za) hp k1 := by rw [ek1]; exact FrX.st hza rfl rfl rfl rfl (fun fs h => by cases h) (fun ci fs h => by cases h)
    have kz1 := g1.ob hz (by decide) (fun e => xn_ra hz hza e)
    have ka1 : k1[za]? = some (.inl (21, lr.map Value.int)) := by rw [ek1]; exact xs_eq hza
    refine At.go (q := xm163) rfl 2 (pc' := 53) (L' := [(4, .int (Int32.ofNat (m * w))), (0, .ref z), (1, .ref ln), (2, .int (Int32.ofNat m)), (3, .int (Int32.ofNat w))]) (st' := [.int (Int32.ofNat m), .ref z]) rfl ?_
    refine At.pf rfl kz1 (Nat.le_of_ble_eq_true rfl) xfit_i ?_
    obtain ⟨k2, ek2⟩ : ∃ h, h = k1.set z (.inr (9, [.int zl, .ref zt, .int zn, .ref za, .int (Int32.ofNat m), .int zc, .int zw, .int zb, .ref s, .ref k, .int zi])) := ⟨_, rfl⟩
    refine At.hpe ek2 ?_
    have kz2 : k2[z]? = some (.inr (9, [.int zl, .ref zt, .int zn, .ref za, .int (Int32.ofNat m), .int zc, .int zw, .int zb, .ref s, .ref k, .int zi])) := by rw [ek2]; exact xs_eq kz1
    have g2 : FrX (fun x => x = z) k1 k2 := by rw [ek2]; exact FrX.so kz1 (by decide) rfl (by decide)
    have ka2 := g2.2.2.1 _ _ ka1 rfl (Or.inl (fun e => xn_ar ka1 kz1 e))
    refine At.go (q := xm163) rfl 2 (pc' := 58) (L' := [(4, .int (Int32.ofNat (m * w))), (0, .ref z), (1, .ref ln), (2, .int (Int32.ofNat m)), (3, .int (Int32.ofNat w))]) (st' := [.int (Int32.ofNat w), .ref z]) rfl ?_
    refine At.pf rfl kz2 (Nat.le_of_ble_eq_true rfl) xfit_i ?_
    obtain ⟨k3, ek3⟩ : ∃ h, h = k2.set z (.inr (9, [.int zl, .ref zt, .int zn, .ref za, .int (Int32.ofNat m), .int (Int32.ofNat w), .int zw, .int zb, .ref s, .ref k, .int zi])) := ⟨_, rfl⟩
    refine At.hpe ek3 ?_
    have kz3 : k3[z]? = some (.inr (9, [.int zl, .ref zt, .int zn, .ref za, .int (Int32.ofNat m), .int (Int32.ofNat w), .int zw, .int zb, .ref s, .ref k, .int zi])) := by rw [ek3]; exact xs_eq kz2
    have g3 : FrX (fun x => x = z) k2 k3 := by rw [ek3]; exact FrX.so kz2 (by decide) rfl (by decide)
    have ka3 := g3.2.2.1 _ _ ka2 rfl (Or.inl (fun e => xn_ar ka2 kz2 e))
    exact At.rt rfl rfl ⟨_, _, _, _, rfl, rfl, za, lr, FrX.tr (FrX.tr (g1.mono (fun x _ h => Or.inr h)) g2 (fun x h => Or.inl (Or.inl h))) g3 (fun x h => Or.inl (Or.inl h)), kz3, ka3, hrt.1, Or.inl rfl, Or.inl ⟨rfl, rfl, hrt.2⟩⟩
  · have hfit : ab.length < m * w := Nat.lt_of_not_le (fun h => of_decide_eq_false h21 ((iN_le (by omega) (by omega)).mpr h))
    refine At.go (q := xm163) rfl 5 (pc' := 30) (L' := [(4, .int (Int32.ofNat (m * w))), (0, .ref z), (1, .ref ln), (2, .int (Int32.ofNat m)), (3, .int (Int32.ofNat w))]) (st' := [.ref ln, .int ((Int32.ofNat (m * w)) * 2), .ref z]) rfl ?_
    refine At.ln rfl hln ?_
    refine At.sp rfl (by decide) (g := ([.int (if (Int32.ofNat (lb.map Value.int).length) < ((Int32.ofNat (m * w)) * 2) then (Int32.ofNat (lb.map Value.int).length) else ((Int32.ofNat (m * w)) * 2)), .ref z], hp)) rfl ?_
    rw [List.length_map, show Int32.ofNat (m * w) * 2 = Int32.ofNat (m * w * 2) from (Int32.ofNat_mul (m * w) 2).symm, i_min (by omega) (by omega)]
    obtain ⟨M, hM⟩ : ∃ M, M = min lb.length (m * w * 2) := ⟨_, rfl⟩
    rw [← hM]
    have hM1 : m * w ≤ M := by omega
    have hM2 : M ≤ lb.length := by omega
    refine At.na (t := 21) rfl (iN_nn (by omega)) (by rw [iN_tn (by omega)]; omega) (by decide) ?_
    rw [iN_tn (by omega)]
    obtain ⟨h1, eh1⟩ : ∃ h, h = hp ++ [.inl (21, List.replicate M (.int 0))] := ⟨_, rfl⟩
    refine At.hpe eh1 ?_
    have f1 : FrX (fun _ => False) hp h1 := by rw [eh1]; exact FrX.nw (fun a n e h => by cases h)
    have hz1 := f1.ob hz (by decide) (fun h => h)
    have hln1 := f1.2.2.1 _ _ hln rfl (Or.inl (fun h => h))
    have hna1 : h1[hp.length]? = some (.inl (21, (List.replicate M (0 : Int32)).map Value.int)) := by rw [eh1, List.map_replicate]; exact List.getElem?_concat_length
    refine At.pf rfl hz1 (Nat.le_of_ble_eq_true rfl) rfl ?_
    obtain ⟨h2, eh2⟩ : ∃ h, h = h1.set z (.inr (9, [.int zl, .ref zt, .int zn, .ref hp.length, .int zr, .int zc, .int zw, .int zb, .ref s, .ref k, .int zi])) := ⟨_, rfl⟩
    refine At.hpe eh2 ?_
    have f2 : FrX (fun x => x = z) h1 h2 := by rw [eh2]; exact FrX.so hz1 (by decide) rfl (by decide)
    have hz2 : h2[z]? = some (.inr (9, [.int zl, .ref zt, .int zn, .ref hp.length, .int zr, .int zc, .int zw, .int zb, .ref s, .ref k, .int zi])) := by rw [eh2]; exact xs_eq hz1
    have hln2 := f2.2.2.1 _ _ hln1 rfl (Or.inl (fun e => xn_ar hln1 hz1 e))
    have hna2 := f2.2.2.1 _ _ hna1 rfl (Or.inl (fun e => xn_ar hna1 hz1 e))
    obtain ⟨ar, har⟩ : ∃ z, z = List.replicate M (0 : Int32) := ⟨_, rfl⟩
    rw [← har] at hna2
    have harl : ar.length = M := by rw [har, List.length_replicate]
    refine At.go (q := xm163) rfl 3 (pc' := 42) (L' := [(4, .int (Int32.ofNat (m * w))), (0, .ref z), (1, .ref ln), (2, .int (Int32.ofNat m)), (3, .int (Int32.ofNat w))]) (st' := [.ref z, .int 0, .ref ln]) rfl ?_
    refine At.gf rfl (by decide) hz2 rfl ?_
    refine At.go (q := xm163) rfl 2 (pc' := 48) (L' := [(4, .int (Int32.ofNat (m * w))), (0, .ref z), (1, .ref ln), (2, .int (Int32.ofNat m)), (3, .int (Int32.ofNat w))]) (st' := [.int (Int32.ofNat (m * w)), .int 0, .ref hp.length, .int 0, .ref ln]) rfl ?_
    refine At.cpi (sp := 0) (dp := 0) (n := m * w) rfl (by decide) hln2 hna2 (by decide) (by decide) rfl rfl (by rw [List.length_map]; omega) (by rw [List.length_map]; omega) (by rw [List.length_map]; omega) (by rw [List.length_map]; omega) (by decide) ?_
    rw [xcpl9_m]
    obtain ⟨lr, hr⟩ : ∃ z, z = xcpl9 lb ar 0 0 (m * w) := ⟨_, rfl⟩
    rw [← hr]
    have hrt : lr.take (m * w) = lb.take (m * w) ∧ lr.length = ar.length := by
      rw [hr]
      unfold xcpl9
      rw [List.take_zero, List.nil_append, List.drop_zero, Nat.zero_add]
      refine ⟨?_, ?_⟩
      · rw [List.take_append_of_le_length (by rw [List.length_take]; omega), List.take_take, Nat.min_self]
      · rw [List.length_append, List.length_take, List.length_drop]; omega
    obtain ⟨k1, ek1⟩ : ∃ h, h = h2.set hp.length (.inl (21, lr.map Value.int)) := ⟨_, rfl⟩
    refine At.hpe ek1 ?_
    have g1 : FrX (fun x => x = hp.length) h2 k1 := by rw [ek1]; exact FrX.st hna2 rfl rfl rfl rfl (fun fs h => by cases h) (fun ci fs h => by cases h)
    have kz1 := g1.ob hz2 (by decide) (fun e => xn_ra hz2 hna2 e)
    have ka1 : k1[hp.length]? = some (.inl (21, lr.map Value.int)) := by rw [ek1]; exact xs_eq hna2
    refine At.go (q := xm163) rfl 2 (pc' := 53) (L' := [(4, .int (Int32.ofNat (m * w))), (0, .ref z), (1, .ref ln), (2, .int (Int32.ofNat m)), (3, .int (Int32.ofNat w))]) (st' := [.int (Int32.ofNat m), .ref z]) rfl ?_
    refine At.pf rfl kz1 (Nat.le_of_ble_eq_true rfl) xfit_i ?_
    obtain ⟨k2, ek2⟩ : ∃ h, h = k1.set z (.inr (9, [.int zl, .ref zt, .int zn, .ref hp.length, .int (Int32.ofNat m), .int zc, .int zw, .int zb, .ref s, .ref k, .int zi])) := ⟨_, rfl⟩
    refine At.hpe ek2 ?_
    have kz2 : k2[z]? = some (.inr (9, [.int zl, .ref zt, .int zn, .ref hp.length, .int (Int32.ofNat m), .int zc, .int zw, .int zb, .ref s, .ref k, .int zi])) := by rw [ek2]; exact xs_eq kz1
    have g2 : FrX (fun x => x = z) k1 k2 := by rw [ek2]; exact FrX.so kz1 (by decide) rfl (by decide)
    have ka2 := g2.2.2.1 _ _ ka1 rfl (Or.inl (fun e => xn_ar ka1 kz1 e))
    refine At.go (q := xm163) rfl 2 (pc' := 58) (L' := [(4, .int (Int32.ofNat (m * w))), (0, .ref z), (1, .ref ln), (2, .int (Int32.ofNat m)), (3, .int (Int32.ofNat w))]) (st' := [.int (Int32.ofNat w), .ref z]) rfl ?_
    refine At.pf rfl kz2 (Nat.le_of_ble_eq_true rfl) xfit_i ?_
    obtain ⟨k3, ek3⟩ : ∃ h, h = k2.set z (.inr (9, [.int zl, .ref zt, .int zn, .ref hp.length, .int (Int32.ofNat m), .int (Int32.ofNat w), .int zw, .int zb, .ref s, .ref k, .int zi])) := ⟨_, rfl⟩
    refine At.hpe ek3 ?_
    have kz3 : k3[z]? = some (.inr (9, [.int zl, .ref zt, .int zn, .ref hp.length, .int (Int32.ofNat m), .int (Int32.ofNat w), .int zw, .int zb, .ref s, .ref k, .int zi])) := by rw [ek3]; exact xs_eq kz2
    have g3 : FrX (fun x => x = z) k2 k3 := by rw [ek3]; exact FrX.so kz2 (by decide) rfl (by decide)
    have ka3 := g3.2.2.1 _ _ ka2 rfl (Or.inl (fun e => xn_ar ka2 kz2 e))
    exact At.rt rfl rfl ⟨_, _, 1, M, by rw [Nat.zero_add, Nat.zero_add], rfl, hp.length, lr, FrX.tr (FrX.tr (FrX.tr (FrX.tr (f1.mono (fun x _ h => h.elim)) f2 (fun x h => Or.inl (Or.inl h))) g1 (fun x h => Or.inr (Nat.le_of_eq h.symm))) g2 (fun x h => Or.inl (Or.inl h))) g3 (fun x h => Or.inl (Or.inl h)), kz3, ka3, hrt.1, Or.inr (Nat.le_refl _), Or.inr ⟨rfl, (hrt.2.trans harl).symm, hfit, by omega, by omega⟩⟩
