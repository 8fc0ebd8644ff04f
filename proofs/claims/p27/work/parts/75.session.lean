/-! sessions: stopBusy, startBusy, enterLabel, places (written by wip/p27/c75.py) -/
/-- an object of a class that is no list's and no table's is written -/
theorem FrX.so {hp : List XC} {a ci : Nat} {fs gs : List Value} (h : hp[a]? = some (.inr (ci, fs))) (h2 : ci ≠ 2) (hi : xim (.inr (ci, fs)) = false) (ht : ci ≠ 13) : FrX (fun x => x = a) hp (hp.set a (.inr (ci, gs))) := FrX.st h rfl (by cases h9 : xL7 (.inr (ci, fs)) with | false => rfl | true => exact absurd (of_decide_eq_true h9) h2) (by cases h9 : xL7 (.inr (ci, gs)) with | false => rfl | true => exact absurd (of_decide_eq_true h9) h2) hi (fun fs h => by cases h; exact absurd rfl ht) (fun ci fs h => by cases h; exact ⟨_, rfl⟩)
/-- stopBusy -/
theorem m_stopBusy {S : List Int32} {hp : List XC} {z s l k : Nat} {zl zn zr zc zw zb zi : Int32} {zt za : Nat} {as bs : List Nat} (hne : ¬ l = k) (hs0 : hp[s]? = some (.inr (10, [.ref l]))) (hO : Own hp) (hL : hLs hp l as) (hK : hLs hp k bs) (hz : hp[z]? = some (.inr (9, [.int zl, .ref zt, .int zn, .ref za, .int zr, .int zc, .int zw, .int zb, .ref s, .ref k, .int zi]))) : Me S 2 23 [.ref z] hp (fun v hp' c s' => v = none ∧ FrX (fun x => x = z ∨ x = l ∨ x = k) hp hp' ∧ hp'[z]? = some (.inr (9, [.int zl, .ref zt, .int zn, .ref za, .int zr, .int zc, .int zw, .int 0, .ref s, .ref k, .int zi])) ∧ hLs hp' l [] ∧ hLs hp' k [] ∧ c = 0 ∧ s' = 0 ∧ capL hp' l = capL hp l ∧ capL hp' k = capL hp k) := by
  refine At.go (q := xm23) rfl 2 (pc' := 2) (L' := [(0, .ref z)]) (st' := [.int 0, .ref z]) rfl ?_
  refine At.pf rfl hz (Nat.le_of_ble_eq_true rfl) rfl ?_
  obtain ⟨hp1, ehp1⟩ : ∃ h, h = hp.set z (.inr (9, [.int zl, .ref zt, .int zn, .ref za, .int zr, .int zc, .int zw, .int 0, .ref s, .ref k, .int zi])) := ⟨_, rfl⟩
  refine At.hpe ehp1 ?_
  have fhp1_z : hp1[z]? = some (.inr (9, [.int zl, .ref zt, .int zn, .ref za, .int zr, .int zc, .int zw, .int 0, .ref s, .ref k, .int zi])) := by rw [ehp1]; exact xs_eq hz
  have c0 : FrX (fun x => x = z) hp hp1 := by rw [ehp1]; exact FrX.so hz (by decide) rfl (by decide)
  have hs1 := c0.ob hs0 (by decide) (fun e => xn_cl hs0 hz (by decide) e)
  have hO1 := c0.2.1 hO
  have hnl : ¬ l = z := fun e => ob_ne hz (by decide) hL e.symm
  have hnk : ¬ k = z := fun e => ob_ne hz (by decide) hK e.symm
  have hL1 := c0.ls hnl hO hL
  have hK1 := c0.ls hnk hO hK
  have e1 := c0.cap hnl hO hL
  have e2 := c0.cap hnk hO hK
  obtain ⟨lf, hl1⟩ := hL1.ob
  refine At.go (q := xm23) rfl 1 (pc' := 6) (L' := [(0, .ref z)]) (st' := [.ref z]) rfl ?_
  refine At.gf rfl (by decide) fhp1_z rfl ?_
  refine At.clm (as := [.ref s]) (rest := []) rfl (by decide) rfl (Nat.le_of_ble_eq_true rfl) (Nat.le_of_ble_eq_true rfl) (xrck_o (by decide) (by decide) hs1 (by decide)) (Nat.le_of_ble_eq_true rfl) (m_empty hs1 hL1) (fun v hr1 c1 s1 hv => ?_)
  obtain ⟨rfl, k1, k2, rfl, rfl, k3⟩ := hv
  have hz2 := k1.ob fhp1_z (by decide) (fun e => hnl e.symm)
  have hK2 := k1.ls (fun e => hne e.symm) hO1 hK1
  have e3 := k1.cap (fun e => hne e.symm) hO1 hK1
  have hO2 := k1.2.1 hO1
  obtain ⟨kf, hk2⟩ := hK2.ob
  refine At.go (q := xm23) rfl 1 (pc' := 13) (L' := [(0, .ref z)]) (st' := [.ref z]) rfl ?_
  refine At.gf rfl (by decide) hz2 rfl ?_
  refine At.clm (as := [.ref k]) (rest := []) rfl (by decide) rfl (Nat.le_of_ble_eq_true rfl) (Nat.le_of_ble_eq_true rfl) (xrck_o (by decide) (by decide) hk2 (by decide)) (Nat.le_of_ble_eq_true rfl) (m_clear hK2) (fun v hr2 c1 s1 hv => ?_)
  obtain ⟨rfl, q1, q2, rfl, rfl, q3⟩ := hv
  have hfr : FrX (fun x => x = z ∨ x = l ∨ x = k) hp hr2 := FrX.tr (FrX.tr (c0.mono (fun x _ h => Or.inl h)) k1 (fun x hx => Or.inl (Or.inr (Or.inl hx)))) q1 (fun x hx => Or.inl (Or.inr (Or.inr hx)))
  exact At.rt rfl rfl ⟨_, _, _, _, rfl, rfl, hfr, q1.ob hz2 (by decide) (fun e => hnk e.symm), q1.ls hne hO2 k2, q2, rfl, rfl, (q1.cap hne hO2 k2).trans (k3.trans e1), q3.trans (e3.trans e2)⟩
/-- enterLabel -/
theorem m_enterLabel {S : List Int32} {hp : List XC} {z s l k : Nat} {zl zn zr zc zw zb zi : Int32} {zt za : Nat} {as bs : List Nat} (hne : ¬ l = k) (hs0 : hp[s]? = some (.inr (10, [.ref l]))) (hO : Own hp) (hL : hLs hp l as) (hK : hLs hp k bs) (hz : hp[z]? = some (.inr (9, [.int zl, .ref zt, .int zn, .ref za, .int zr, .int zc, .int zw, .int zb, .ref s, .ref k, .int zi]))) {lb : Int32} : Me S 3 22 [.ref z, .int lb] hp (fun v hp' c s' => v = none ∧ FrX (fun x => x = z ∨ x = l ∨ x = k) hp hp' ∧ hp'[z]? = some (.inr (9, [.int lb, .ref zt, .int 0, .ref za, .int 0, .int 0, .int 0, .int 0, .ref s, .ref k, .int zi])) ∧ hLs hp' l [] ∧ hLs hp' k [] ∧ c = 0 ∧ s' = 0 ∧ capL hp' l = capL hp l ∧ capL hp' k = capL hp k) := by
  refine At.go (q := xm22) rfl 2 (pc' := 2) (L' := [(0, .ref z), (1, .int lb)]) (st' := [.int lb, .ref z]) rfl ?_
  refine At.pf rfl hz (Nat.le_of_ble_eq_true rfl) xfit_i ?_
  obtain ⟨hp1, ehp1⟩ : ∃ h, h = hp.set z (.inr (9, [.int lb, .ref zt, .int zn, .ref za, .int zr, .int zc, .int zw, .int zb, .ref s, .ref k, .int zi])) := ⟨_, rfl⟩
  refine At.hpe ehp1 ?_
  have fhp1_z : hp1[z]? = some (.inr (9, [.int lb, .ref zt, .int zn, .ref za, .int zr, .int zc, .int zw, .int zb, .ref s, .ref k, .int zi])) := by rw [ehp1]; exact xs_eq hz
  have g1 : FrX (fun x => x = z) hp hp1 := by rw [ehp1]; exact FrX.so hz (by decide) rfl (by decide)
  refine At.go (q := xm22) rfl 2 (pc' := 7) (L' := [(0, .ref z), (1, .int lb)]) (st' := [.int 0, .ref z]) rfl ?_
  refine At.pf rfl fhp1_z (Nat.le_of_ble_eq_true rfl) rfl ?_
  obtain ⟨hp2, ehp2⟩ : ∃ h, h = hp1.set z (.inr (9, [.int lb, .ref zt, .int 0, .ref za, .int zr, .int zc, .int zw, .int zb, .ref s, .ref k, .int zi])) := ⟨_, rfl⟩
  refine At.hpe ehp2 ?_
  have fhp2_z : hp2[z]? = some (.inr (9, [.int lb, .ref zt, .int 0, .ref za, .int zr, .int zc, .int zw, .int zb, .ref s, .ref k, .int zi])) := by rw [ehp2]; exact xs_eq fhp1_z
  have g2 : FrX (fun x => x = z) hp1 hp2 := by rw [ehp2]; exact FrX.so fhp1_z (by decide) rfl (by decide)
  refine At.go (q := xm22) rfl 2 (pc' := 12) (L' := [(0, .ref z), (1, .int lb)]) (st' := [.int 0, .ref z]) rfl ?_
  refine At.pf rfl fhp2_z (Nat.le_of_ble_eq_true rfl) rfl ?_
  obtain ⟨hp3, ehp3⟩ : ∃ h, h = hp2.set z (.inr (9, [.int lb, .ref zt, .int 0, .ref za, .int 0, .int zc, .int zw, .int zb, .ref s, .ref k, .int zi])) := ⟨_, rfl⟩
  refine At.hpe ehp3 ?_
  have fhp3_z : hp3[z]? = some (.inr (9, [.int lb, .ref zt, .int 0, .ref za, .int 0, .int zc, .int zw, .int zb, .ref s, .ref k, .int zi])) := by rw [ehp3]; exact xs_eq fhp2_z
  have g3 : FrX (fun x => x = z) hp2 hp3 := by rw [ehp3]; exact FrX.so fhp2_z (by decide) rfl (by decide)
  refine At.go (q := xm22) rfl 2 (pc' := 17) (L' := [(0, .ref z), (1, .int lb)]) (st' := [.int 0, .ref z]) rfl ?_
  refine At.pf rfl fhp3_z (Nat.le_of_ble_eq_true rfl) rfl ?_
  obtain ⟨hp4, ehp4⟩ : ∃ h, h = hp3.set z (.inr (9, [.int lb, .ref zt, .int 0, .ref za, .int 0, .int 0, .int zw, .int zb, .ref s, .ref k, .int zi])) := ⟨_, rfl⟩
  refine At.hpe ehp4 ?_
  have fhp4_z : hp4[z]? = some (.inr (9, [.int lb, .ref zt, .int 0, .ref za, .int 0, .int 0, .int zw, .int zb, .ref s, .ref k, .int zi])) := by rw [ehp4]; exact xs_eq fhp3_z
  have g4 : FrX (fun x => x = z) hp3 hp4 := by rw [ehp4]; exact FrX.so fhp3_z (by decide) rfl (by decide)
  refine At.go (q := xm22) rfl 2 (pc' := 22) (L' := [(0, .ref z), (1, .int lb)]) (st' := [.int 0, .ref z]) rfl ?_
  refine At.pf rfl fhp4_z (Nat.le_of_ble_eq_true rfl) rfl ?_
  obtain ⟨hp5, ehp5⟩ : ∃ h, h = hp4.set z (.inr (9, [.int lb, .ref zt, .int 0, .ref za, .int 0, .int 0, .int 0, .int zb, .ref s, .ref k, .int zi])) := ⟨_, rfl⟩
  refine At.hpe ehp5 ?_
  have fhp5_z : hp5[z]? = some (.inr (9, [.int lb, .ref zt, .int 0, .ref za, .int 0, .int 0, .int 0, .int zb, .ref s, .ref k, .int zi])) := by rw [ehp5]; exact xs_eq fhp4_z
  have g5 : FrX (fun x => x = z) hp4 hp5 := by rw [ehp5]; exact FrX.so fhp4_z (by decide) rfl (by decide)
  refine At.go (q := xm22) rfl 1 (pc' := 26) (L' := [(0, .ref z), (1, .int lb)]) (st' := [.ref z]) rfl ?_
  have gg : FrX (fun x => x = z) hp hp5 := FrX.tr (FrX.tr (FrX.tr (FrX.tr g1 g2 (fun x hx => Or.inl hx)) g3 (fun x hx => Or.inl hx)) g4 (fun x hx => Or.inl hx)) g5 (fun x hx => Or.inl hx)
  have hnl : ¬ l = z := fun e => ob_ne hz (by decide) hL e.symm
  have hnk : ¬ k = z := fun e => ob_ne hz (by decide) hK e.symm
  have hs9 := gg.ob hs0 (by decide) (fun e => xn_cl hs0 hz (by decide) e)
  refine At.clm (as := [.ref z]) (rest := []) rfl (by decide) rfl (Nat.le_of_ble_eq_true rfl) (Nat.le_of_ble_eq_true rfl) (xrck_o (by decide) (by decide) fhp5_z (by decide)) (Nat.le_of_ble_eq_true rfl) (m_stopBusy hne hs9 (gg.2.1 hO) (gg.ls hnl hO hL) (gg.ls hnk hO hK) fhp5_z) (fun v hr1 c1 s1 hv => ?_)
  obtain ⟨rfl, k1, k2, k3, k4, rfl, rfl, k5, k6⟩ := hv
  exact At.rt rfl rfl ⟨_, _, _, _, rfl, rfl, FrX.tr (gg.mono (fun x _ h => Or.inl h)) k1 (fun x hx => Or.inl hx), k2, k3, k4, rfl, rfl, k5.trans (gg.cap hnl hO hL), k6.trans (gg.cap hnk hO hK)⟩
/-- startBusy -/
theorem m_startBusy {S : List Int32} {hp : List XC} {z s l k r m : Nat} {zl zn zr zc zw zb zi : Int32} {zt za : Nat} {n : Int32} {as ms : List Nat} {fs : List En} (hne : l ≠ m) (hs0 : hp[s]? = some (.inr (10, [.ref l]))) (hr0 : hp[r]? = some (.inr (10, [.ref m]))) (hO : Own hp) (hL : hLs hp l as) (hM : hLs hp m ms) (hF : hEs hp ms fs) (hn : ms.length ≤ 60000) (hz : hp[z]? = some (.inr (9, [.int zl, .ref zt, .int zn, .ref za, .int zr, .int zc, .int zw, .int zb, .ref s, .ref k, .int zi]))) : Me S 9 252 [.ref z, .ref r, .int n] hp (fun v hp' c s' => v = none ∧ FrX (fun x => x = z ∨ x = l) hp hp' ∧ hp'[z]? = some (.inr (9, [.int zl, .ref zt, .int zn, .ref za, .int zr, .int zc, .int zw, .int 1, .ref s, .ref k, .int n])) ∧ hSh hp' l fs ∧ c + capL hp l ≤ capL hp' l ∧ s' + 4 * capL hp l ≤ 4 * capL hp' l ∧ capL hp' l ≤ max (capL hp l) (2 * fs.length + 10)) := by
  refine At.go (q := xm252) rfl 2 (pc' := 2) (L' := [(0, .ref z), (1, .ref r), (2, .int n)]) (st' := [.int 1, .ref z]) rfl ?_
  refine At.pf rfl hz (Nat.le_of_ble_eq_true rfl) rfl ?_
  obtain ⟨hp1, ehp1⟩ : ∃ h, h = hp.set z (.inr (9, [.int zl, .ref zt, .int zn, .ref za, .int zr, .int zc, .int zw, .int 1, .ref s, .ref k, .int zi])) := ⟨_, rfl⟩
  refine At.hpe ehp1 ?_
  have fhp1_z : hp1[z]? = some (.inr (9, [.int zl, .ref zt, .int zn, .ref za, .int zr, .int zc, .int zw, .int 1, .ref s, .ref k, .int zi])) := by rw [ehp1]; exact xs_eq hz
  have g1 : FrX (fun x => x = z) hp hp1 := by rw [ehp1]; exact FrX.so hz (by decide) rfl (by decide)
  refine At.go (q := xm252) rfl 2 (pc' := 7) (L' := [(0, .ref z), (1, .ref r), (2, .int n)]) (st' := [.int n, .ref z]) rfl ?_
  refine At.pf rfl fhp1_z (Nat.le_of_ble_eq_true rfl) xfit_i ?_
  obtain ⟨hp2, ehp2⟩ : ∃ h, h = hp1.set z (.inr (9, [.int zl, .ref zt, .int zn, .ref za, .int zr, .int zc, .int zw, .int 1, .ref s, .ref k, .int n])) := ⟨_, rfl⟩
  refine At.hpe ehp2 ?_
  have fhp2_z : hp2[z]? = some (.inr (9, [.int zl, .ref zt, .int zn, .ref za, .int zr, .int zc, .int zw, .int 1, .ref s, .ref k, .int n])) := by rw [ehp2]; exact xs_eq fhp1_z
  have g2 : FrX (fun x => x = z) hp1 hp2 := by rw [ehp2]; exact FrX.so fhp1_z (by decide) rfl (by decide)
  have gg : FrX (fun x => x = z) hp hp2 := FrX.tr g1 g2 (fun x hx => Or.inl hx)
  have hnl : ¬ l = z := fun e => ob_ne hz (by decide) hL e.symm
  have hnm : ¬ m = z := fun e => ob_ne hz (by decide) hM e.symm
  have hs9 := gg.ob hs0 (by decide) (fun e => xn_cl hs0 hz (by decide) e)
  have hr9 := gg.ob hr0 (by decide) (fun e => xn_cl hr0 hz (by decide) e)
  have hL9 := gg.ls hnl hO hL
  refine At.go (q := xm252) rfl 1 (pc' := 11) (L' := [(0, .ref z), (1, .ref r), (2, .int n)]) (st' := [.ref z]) rfl ?_
  refine At.gf rfl (by decide) fhp2_z rfl ?_
  refine At.go (q := xm252) rfl 1 (pc' := 15) (L' := [(0, .ref z), (1, .ref r), (2, .int n)]) (st' := [.ref r, .ref s]) rfl ?_
  refine At.clm (as := [.ref s, .ref r]) (rest := []) rfl (by decide) rfl (Nat.le_of_ble_eq_true rfl) (Nat.le_of_ble_eq_true rfl) (xrck_o (by decide) (by decide) hs9 (by decide)) (Nat.le_of_ble_eq_true rfl) (m_fill hs9 hr9 hne (gg.2.1 hO) hL9 (gg.ls hnm hO hM) (hF.fr gg) hn) (fun v hr1 c1 s1 hv => ?_)
  obtain ⟨rfl, k1, k2, k3, k4, k5⟩ := hv
  have e1 := gg.cap hnl hO hL
  rw [e1] at k3 k4 k5
  exact At.rt rfl rfl ⟨_, _, _, _, rfl, rfl, FrX.tr (gg.mono (fun x _ h => Or.inl h)) k1 (fun x hx => Or.inl (Or.inr hx)), k1.ob fhp2_z (by decide) (fun e => hnl e.symm), k2, by omega, by omega, k5⟩
