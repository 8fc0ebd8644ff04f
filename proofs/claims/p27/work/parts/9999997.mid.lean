/-! queries: rows are gathered, then picked (written by wip/p27/c9999997.py) -/
def gthE (b : Bool) (ves ges : List En) (sr lb : Int32) : List En := (if b = true then ves else ges).filter (gthP sr lb)
theorem m_gatherB {hp : List XC} {as : List Nat} {S : List Int32} {b : Bool} {q l t v g st vl gl : Nat} {lb : Int32} {qf sf : List Value} {ss gs : List Nat} {ves ges : List En} (hnv : l ≠ vl) (hng : l ≠ gl) (hqf : qf[0]? = some (.ref st)) (hsf : sf[3]? = some (.int (bI b))) (hO : Own hp) (hq : hp[q]? = some (.inr (7, qf))) (hst : hp[st]? = some (.inr (12, sf))) (hv : hp[v]? = some (.inr (10, [.ref vl]))) (hg : hp[g]? = some (.inr (11, [.ref gl, .int lb]))) (hL : hLs hp l as) (hSS : hLs hp vl ss) (hVE : hEs hp ss ves) (hGS : hLs hp gl gs) (hGE : hEs hp gs ges) {sr : Int32} {tf : List Value} (ht : hp[t]? = some (.inr (13, .int sr :: tf))) (hn : ves.length + ges.length ≤ 60000) : Me S 7 140 [.ref q, .ref l, .ref t, .ref v, .ref g] hp (fun v' hp' c s => v' = none ∧ FrX (fun x => x = l) hp hp' ∧ hSh hp' l (gthE b ves ges sr lb) ∧ c + capL hp l ≤ capL hp' l ∧ s + 4 * capL hp l ≤ 4 * capL hp' l ∧ capL hp' l ≤ max (capL hp l) (2 * (ves.length + ges.length) + 10)) := by
  cases b with
  | true => exact me_imp (m_gather_e hnv hqf hsf hO hq hst hv hg ht hL hSS hVE (by omega)) (fun v' hp' c s h => ⟨h.1, h.2.1, h.2.2.1, h.2.2.2.1, h.2.2.2.2.1, by have := h.2.2.2.2.2; omega⟩)
  | false => exact me_imp (m_gather_s hng hqf hsf hO hq hst hv hg ht hL hGS hGE (by omega)) (fun v' hp' c s h => ⟨h.1, h.2.1, h.2.2.1, h.2.2.2.1, h.2.2.2.2.1, by have := h.2.2.2.2.2; omega⟩)
theorem m_gatherZ {hp : List XC} {as : List Nat} {S : List Int32} {b : Bool} {q l v g st vl gl : Nat} {lb : Int32} {qf sf : List Value} {ss gs : List Nat} {ves ges : List En} (hnv : l ≠ vl) (hng : l ≠ gl) (hqf : qf[0]? = some (.ref st)) (hsf : sf[3]? = some (.int (bI b))) (hO : Own hp) (hq : hp[q]? = some (.inr (7, qf))) (hst : hp[st]? = some (.inr (12, sf))) (hv : hp[v]? = some (.inr (10, [.ref vl]))) (hg : hp[g]? = some (.inr (11, [.ref gl, .int lb]))) (hL : hLs hp l as) (hSS : hLs hp vl ss) (hVE : hEs hp ss ves) (hGS : hLs hp gl gs) (hGE : hEs hp gs ges) : Me S 7 140 [.ref q, .ref l, .null, .ref v, .ref g] hp (fun v' hp' c s => v' = none ∧ FrX (fun x => x = l) hp hp' ∧ hSh hp' l [] ∧ c + capL hp l ≤ capL hp' l ∧ s + 4 * capL hp l ≤ 4 * capL hp' l ∧ capL hp' l ≤ max (capL hp l) (2 * (ves.length + ges.length) + 10)) := by
  cases b with
  | true => exact me_imp (m_gather_e0 hnv hqf hsf hO hq hst hv hg hL hSS) (fun v' hp' c s h => ⟨h.1, h.2.1, h.2.2.1, by omega, by omega, by omega⟩)
  | false => exact me_imp (m_gather_s0 hng hqf hsf hO hq hst hv hg hL hGS) (fun v' hp' c s h => ⟨h.1, h.2.1, h.2.2.1, by omega, by omega, by omega⟩)
theorem an_mid0 {S : List Int32} {hp : List XC} {b : Bool} {q st mn v g l1 l2 pa li ln t1 vl gl c ka fa oa aa pa9 sa wa if0 if1 items vb mc N nc ns : Nat} {kd fr : Nat → Nat} {pn kp off so dn lc wd jn lb sr top : Int32} {ws : Value} {mf sf ces es9 tf la lbv : List Value} {gs : List Int32} {os : List (Nat × Int32)} {as0 bs0 ss gs9 : List Nat} {ves ges : List En} {ps vs : List Int32} {Q : XO → Prop} (hq : hp[q]? = some (.inr (7, [.ref st, .ref mn, .ref l1, .ref l2, .ref pa, .int pn, .ref li, .int kp, .int off, .int so, .int dn, .ref ln, .int lc, .int wd]))) (hst : hp[st]? = some (.inr (12, sf))) (hm : hp[mn]? = some (.inr (6, mf))) (hm4 : mf[4]? = some (.ref t1)) (ht : hp[t1]? = some (.inr (13, .int sr :: tf))) (hs3 : sf[3]? = some (.int (bI b))) (hjn : sf[6]? = some (.int jn)) (hS : hSt hp st c ka fa if0 if1 items vb kd fr) (hF : hFo hp c oa aa pa9 sa wa ws es9 gs os) (hsa : hp[sa]? = some (.inl (16, vs.map Value.int))) (hvN : vs.length = N) (hmc : hp[mc]? = some (.inl (17, ces))) (hv : hp[v]? = some (.inr (10, [.ref vl]))) (hg : hp[g]? = some (.inr (11, [.ref gl, .int lb]))) (hL1 : hLs hp l1 as0) (hL2 : hLs hp l2 bs0) (hV : hLs hp vl ss) (hVe : hEs hp ss ves) (hGl : hLs hp gl gs9) (hGe : hEs hp gs9 ges) (hl12 : l1 ≠ l2) (hl1v : l1 ≠ vl) (hl1g : l1 ≠ gl) (hl2v : l2 ≠ vl) (hl2g : l2 ≠ gl) (hO : Own hp) (hpa : hp[pa]? = some (.inl (18, ps.map Value.int))) (hpl : ps.length ≤ 40000) (hli : hp[li]? = some (.inl (19, la))) (hln : hp[ln]? = some (.inl (20, lbv))) (hN : os.length ≤ N) (hN2 : N ≤ 1000) (hnm : ∀ (i : Nat) (q : Nat × Int32), os[i]? = some q → q.1 = 3 → ∃ j : Nat, j ≤ 100000 ∧ q.2 = Int32.ofNat j) (hif : if1 ≤ os.length) (hnn : ves.length + ges.length ≤ 60000) (hm5 : mf[5]? = some .null) (hneg : jn < 0) (hmok : ∀ e ∈ (gthE b ves ges sr lb), (if0 < if1 → (resR e.2.2.1 (fun g => cellE e.2.2.2.2.1 [] g.toNatClampNeg) ((os.take if1).drop if0) []).isSome = true)) (hbg : (gthE b ves ges sr lb).length * 1 ≤ 19000) (hK : ∀ (h3 : List XC) (pa3 : Nat) (as bs : List Nat) (ps3 : List Int32) (c9 s9 : Nat), FrX (fun x => x = l1 ∨ x = l2 ∨ x = q ∨ x = sa ∨ x = pa) hp h3 → QB h3 st mn l1 l2 c ka fa oa aa pa9 sa wa if0 if1 items vb mc N kd fr ws es9 mf sf ces gs os as bs (gthE b ves ges sr lb) [] → h3[q]? = some (.inr (7, [.ref st, .ref mn, .ref l1, .ref l2, .ref pa3, .int (Int32.ofNat (plJ (onE if0 if1 os) 0 (gthE b ves ges sr lb)).length), .ref li, .int kp, .int off, .int so, .int dn, .ref ln, .int lc, .int wd])) → h3[pa3]? = some (.inl (18, ps3.map Value.int)) → ps3.take (plJ (onE if0 if1 os) 0 (gthE b ves ges sr lb)).length = (plJ (onE if0 if1 os) 0 (gthE b ves ges sr lb)).map Int32.ofNat → (plJ (onE if0 if1 os) 0 (gthE b ves ges sr lb)).length ≤ ps3.length → h3[li]? = some (.inl (19, la)) → h3[ln]? = some (.inl (20, lbv)) → (pa3 = pa ∨ hp.length ≤ pa3) → ps3.length ≤ max ps.length (2 * (plJ (onE if0 if1 os) 0 (gthE b ves ges sr lb)).length + 1) → c9 + (capL hp l1 + capL hp l2 + ps.length) ≤ capL h3 l1 + capL h3 l2 + ps3.length → s9 + 4 * (capL hp l1 + capL hp l2 + ps.length) ≤ 4 * (capL h3 l1 + capL h3 l2 + ps3.length) → capL h3 l1 ≤ max (capL hp l1) (2 * (ves.length + ges.length) + 10) → capL h3 l2 ≤ max (capL hp l2) (2 * (ves.length + ges.length) + 10) → At S 8 139 163 [(0, .ref q), (2, .ref mn), (5, .int top)] [] h3 (nc + c9) (ns + s9) Q) : At S 8 139 129 [(5, .int top), (0, .ref q), (2, .ref mn), (3, .ref v), (4, .ref g)] [] hp nc ns Q := by
  refine At.go (q := xm139) rfl 2 (pc' := 131) (L' := [(5, .int top), (0, .ref q), (2, .ref mn), (3, .ref v), (4, .ref g)]) (st' := [.ref q, .ref q]) rfl ?_
  refine At.gf rfl (by decide) hq rfl ?_
  refine At.go (q := xm139) rfl 1 (pc' := 135) (L' := [(5, .int top), (0, .ref q), (2, .ref mn), (3, .ref v), (4, .ref g)]) (st' := [.ref mn, .ref l1, .ref q]) rfl ?_
  refine At.gf rfl (by decide) hm hm4 ?_
  refine At.go (q := xm139) rfl 2 (pc' := 141) (L' := [(5, .int top), (0, .ref q), (2, .ref mn), (3, .ref v), (4, .ref g)]) (st' := [.ref g, .ref v, .ref t1, .ref l1, .ref q]) rfl ?_
  refine At.clm (as := [.ref q, .ref l1, .ref t1, .ref v, .ref g]) (rest := []) rfl (by decide) rfl (Nat.le_of_ble_eq_true rfl) (Nat.le_of_ble_eq_true rfl) (xrck_o (by decide) (by decide) hq (by decide)) (Nat.le_of_ble_eq_true rfl) (m_gatherB (b := b) hl1v hl1g rfl hs3 hO hq hst hv hg hL1 hV hVe hGl hGe ht hnn) (fun v9 h1 c1 s1 hv9 => ?_)
  obtain ⟨rfl, f1, ⟨as, hA1, hAE⟩, g1, g2, g3⟩ := hv9
  obtain ⟨xf1, hx1⟩ := hL1.ob
  have hq1 := f1.ob hq (by decide) (fun e => xn_cl hq hx1 (by decide) e)
  have hm1 := f1.ob hm (by decide) (fun e => xn_cl hm hx1 (by decide) e)
  have hst1 := f1.ob hst (by decide) (fun e => xn_cl hst hx1 (by decide) e)
  have hv1 := f1.ob hv (by decide) (fun e => xn_cl hv hx1 (by decide) e)
  have hg1 := f1.ob hg (by decide) (fun e => xn_cl hg hx1 (by decide) e)
  have hO1 := f1.2.1 hO
  have hL21 := f1.ls (fun e => hl12 e.symm) hO hL2
  have hV1 := f1.ls (fun e => hl1v e.symm) hO hV
  have hVe1 := hVe.fr f1
  have hGl1 := f1.ls (fun e => hl1g e.symm) hO hGl
  have hGe1 := hGe.fr f1
  have ec2 := f1.cap (fun e => hl12 e.symm) hO hL2
  refine At.go (q := xm139) rfl 2 (pc' := 146) (L' := [(5, .int top), (0, .ref q), (2, .ref mn), (3, .ref v), (4, .ref g)]) (st' := [.ref q, .ref q]) rfl ?_
  refine At.gf rfl (by decide) hq1 rfl ?_
  refine At.go (q := xm139) rfl 1 (pc' := 150) (L' := [(5, .int top), (0, .ref q), (2, .ref mn), (3, .ref v), (4, .ref g)]) (st' := [.ref mn, .ref l2, .ref q]) rfl ?_
  refine At.gf rfl (by decide) hm1 hm5 ?_
  refine At.go (q := xm139) rfl 2 (pc' := 156) (L' := [(5, .int top), (0, .ref q), (2, .ref mn), (3, .ref v), (4, .ref g)]) (st' := [.ref g, .ref v, .null, .ref l2, .ref q]) rfl ?_
  refine At.clm (as := [.ref q, .ref l2, .null, .ref v, .ref g]) (rest := []) rfl (by decide) rfl (Nat.le_of_ble_eq_true rfl) (Nat.le_of_ble_eq_true rfl) (xrck_o (by decide) (by decide) hq1 (by decide)) (Nat.le_of_ble_eq_true rfl) (m_gatherZ (b := b) hl2v hl2g rfl hs3 hO1 hq1 hst1 hv1 hg1 hL21 hV1 hVe1 hGl1 hGe1) (fun v9 h2 c2 s2 hv9 => ?_)
  obtain ⟨rfl, f2, ⟨bs, hB2, hBE⟩, g4, g5, g6⟩ := hv9
  obtain ⟨xf2, hx2⟩ := hL21.ob
  have hA2 := f2.ls (fun e => hl12 e) hO1 hA1
  have hAE2 := hAE.fr f2
  have ec1 := f2.cap (fun e => hl12 e) hO1 hA1
  have F2 : FrX (fun x => x = l1 ∨ x = l2) hp h2 := FrX.tr (f1.mono (fun x _ h => Or.inl h)) f2 (fun x h => Or.inl (Or.inr h))
  have hq2 := f2.ob hq1 (by decide) (fun e => xn_cl hq1 hx2 (by decide) e)
  have hm2 := f2.ob hm1 (by decide) (fun e => xn_cl hm1 hx2 (by decide) e)
  have hst2 := f2.ob hst1 (by decide) (fun e => xn_cl hst1 hx2 (by decide) e)
  have hO2 := f2.2.1 hO1
  have na : ∀ {a k : Nat} {es : List Value}, hp[a]? = some (.inl (k, es)) → ¬ (a = l1 ∨ a = l2) := fun ha e => e.elim (fun e => xn_ar ha hx1 e) (fun e => by obtain ⟨u, hu⟩ := hL2.ob; exact xn_ar ha hu e)
  have no : ∀ {a ci : Nat} {fs : List Value}, hp[a]? = some (.inr (ci, fs)) → ci ≠ 2 → ¬ (a = l1 ∨ a = l2) := fun ha hc e => e.elim (fun e => xn_cl ha hx1 hc e) (fun e => by obtain ⟨u, hu⟩ := hL2.ob; exact xn_cl ha hu hc e)
  have hS0 := hS
  obtain ⟨sf9, kes, fes, k0, k1, k2, k3, k4, k5, k6, k7, k8, k9, -⟩ := hS0
  have hS2 := hS.fr F2 (no k0 (by decide)) (na k8) (na k9)
  have hF2 := hF.fr F2 (no hF.ho (by decide)) (na hF.hoa) (na hF.haa)
  have hsa2 := F2.2.2.1 _ _ hsa rfl (Or.inl (na hsa))
  have hmc2 := F2.2.2.1 _ _ hmc rfl (Or.inl (na hmc))
  have hpa2 := F2.2.2.1 _ _ hpa rfl (Or.inl (na hpa))
  have hli2 := F2.2.2.1 _ _ hli rfl (Or.inl (na hli))
  have hln2 := F2.2.2.1 _ _ hln rfl (Or.inl (na hln))
  have hP2 : PkS h2 st mn l1 l2 c ka fa oa aa pa9 sa wa if0 if1 items vb kd fr ws es9 mf sf gs os as bs (gthE b ves ges sr lb) [] := ⟨hS2, hst2, hF2, hA2, hAE2, hB2, hBE, hm2⟩
  refine At.go (q := xm139) rfl 1 (pc' := 160) (L' := [(5, .int top), (0, .ref q), (2, .ref mn), (3, .ref v), (4, .ref g)]) (st' := [.ref q]) rfl ?_
  refine At.clm (as := [.ref q]) (rest := []) rfl (by decide) rfl (Nat.le_of_ble_eq_true rfl) (Nat.le_of_ble_eq_true rfl) (xrck_o (by decide) (by decide) hq2 (by decide)) (Nat.le_of_ble_eq_true rfl) (m_pick0 (N := N) hN hN2 hnm hif hjn hneg hmok hP2 hO2 hq2 hpa2 hpl hbg hsa2 hvN) (fun v9 h3 c3 s3 hv9 => ?_)
  obtain ⟨rfl, pa3, ps3, us, F3, y1, y2, y3, y4, y5, y6, y7, y8, y9, y10, y11⟩ := hv9
  rw [List.length_map, Nat.zero_add] at y1 y3 y4 y5
  rw [List.take_zero, List.nil_append] at y3
  have hk3 : Kq9 h2 (PqP q sa pa) := (Kq9.one hq2 (Or.inl ⟨_, rfl⟩)).two ((Kq9.one hsa2 (Or.inr ⟨_, _, rfl, Or.inl rfl⟩)).two (Kq9.one hpa2 (Or.inr ⟨_, _, rfl, Or.inr (Or.inl rfl)⟩)))
  have hP3 := hP2.fk F3 hO2 hk3
  have hmc3 := F3.2.2.1 _ _ hmc2 rfl (Or.inl (hk3.ar hmc2 (by decide)))
  have hO3 := F3.2.1 hO2
  have hli3 := F3.2.2.1 _ _ hli2 rfl (Or.inl (fun e => e.elim (fun e => xn_ar hli2 hq2 e) (fun e => e.elim (fun e => xn_kd hli2 hsa2 (by decide) e) (fun e => xn_kd hli2 hpa2 (by decide) e))))
  have hln3 := F3.2.2.1 _ _ hln2 rfl (Or.inl (fun e => e.elim (fun e => xn_ar hln2 hq2 e) (fun e => e.elim (fun e => xn_kd hln2 hsa2 (by decide) e) (fun e => xn_kd hln2 hpa2 (by decide) e))))
  have nl : ∀ {l : Nat} {as : List Nat}, hLs h2 l as → ¬ PqP q sa pa l := fun hl => by obtain ⟨u, hu⟩ := hl.ob; exact hk3.ob hu (by decide)
  have d1 := F3.cap (nl hA2) hO2 hA2
  have d2 := F3.cap (nl hB2) hO2 hB2
  have hll := F2.1
  have FF : FrX (fun x => x = l1 ∨ x = l2 ∨ x = q ∨ x = sa ∨ x = pa) hp h3 := FrX.tr (F2.mono (fun x _ h => h.elim Or.inl (fun h => Or.inr (Or.inl h)))) F3 (fun x h => Or.inl (Or.inr (Or.inr h)))
  refine At.wk (L' := [(0, .ref q), (2, .ref mn), (5, .int top)]) (List.forall_mem_cons.mpr ⟨List.mem_of_getElem? (i := 1) rfl, List.forall_mem_cons.mpr ⟨List.mem_of_getElem? (i := 2) rfl, List.forall_mem_cons.mpr ⟨List.mem_of_getElem? (i := 0) rfl, fun _ h => (List.not_mem_nil h).elim⟩⟩⟩) (show ([5, 0, 2, 3, 4] : List Nat).Nodup by decide) ?_
  rw [show nc + c1 + c2 + c3 = nc + (c1 + c2 + c3) by omega, show ns + s1 + s2 + s3 = ns + (s1 + s2 + s3) by omega]
  exact hK h3 pa3 as bs ps3 (c1 + c2 + c3) (s1 + s2 + s3) FF ⟨hP3, hO3, hmc3, us, y10, y11⟩ y1 y2 y3 y4 hli3 hln3 (y9.imp id (fun e => by omega)) (by omega) (by omega) (by omega) (by omega) (by omega)
theorem an_midJ {S : List Int32} {hp : List XC} {b : Bool} {q st mn v g l1 l2 pa li ln t1 vl gl c ka fa oa aa pa9 sa wa if0 if1 items vb mc N nc ns : Nat} {kd fr : Nat → Nat} {pn kp off so dn lc wd jn lb sr top : Int32} {ws : Value} {mf sf ces es9 tf la lbv : List Value} {gs : List Int32} {os : List (Nat × Int32)} {as0 bs0 ss gs9 : List Nat} {ves ges : List En} {ps vs : List Int32} {Q : XO → Prop} (hq : hp[q]? = some (.inr (7, [.ref st, .ref mn, .ref l1, .ref l2, .ref pa, .int pn, .ref li, .int kp, .int off, .int so, .int dn, .ref ln, .int lc, .int wd]))) (hst : hp[st]? = some (.inr (12, sf))) (hm : hp[mn]? = some (.inr (6, mf))) (hm4 : mf[4]? = some (.ref t1)) (ht : hp[t1]? = some (.inr (13, .int sr :: tf))) (hs3 : sf[3]? = some (.int (bI b))) (hjn : sf[6]? = some (.int jn)) (hS : hSt hp st c ka fa if0 if1 items vb kd fr) (hF : hFo hp c oa aa pa9 sa wa ws es9 gs os) (hsa : hp[sa]? = some (.inl (16, vs.map Value.int))) (hvN : vs.length = N) (hmc : hp[mc]? = some (.inl (17, ces))) (hv : hp[v]? = some (.inr (10, [.ref vl]))) (hg : hp[g]? = some (.inr (11, [.ref gl, .int lb]))) (hL1 : hLs hp l1 as0) (hL2 : hLs hp l2 bs0) (hV : hLs hp vl ss) (hVe : hEs hp ss ves) (hGl : hLs hp gl gs9) (hGe : hEs hp gs9 ges) (hl12 : l1 ≠ l2) (hl1v : l1 ≠ vl) (hl1g : l1 ≠ gl) (hl2v : l2 ≠ vl) (hl2g : l2 ≠ gl) (hO : Own hp) (hpa : hp[pa]? = some (.inl (18, ps.map Value.int))) (hpl : ps.length ≤ 40000) (hli : hp[li]? = some (.inl (19, la))) (hln : hp[ln]? = some (.inl (20, lbv))) (hN : os.length ≤ N) (hN2 : N ≤ 1000) (hnm : ∀ (i : Nat) (q : Nat × Int32), os[i]? = some q → q.1 = 3 → ∃ j : Nat, j ≤ 100000 ∧ q.2 = Int32.ofNat j) (hif : if1 ≤ os.length) (hnn : ves.length + ges.length ≤ 60000) {t2 : Nat} {sr2 fc sc : Int32} {tf2 : List Value} (hm5 : mf[5]? = some (.ref t2)) (ht2 : hp[t2]? = some (.inr (13, .int sr2 :: tf2))) (hnn9 : ¬ jn < 0) (hfc : mf[7]? = some (.int fc)) (hsc : mf[8]? = some (.int sc)) (hmok : ∀ e ∈ (gthE b ves ges sr lb), ∀ r ∈ (gthE b ves ges sr2 lb), (if0 < if1 → (resR (joinE e.2.2.1 r.2.2.1) (fun g => cellE e.2.2.2.2.1 r.2.2.2.2.1 g.toNatClampNeg) ((os.take if1).drop if0) []).isSome = true)) (hbg : (gthE b ves ges sr lb).length * (gthE b ves ges sr2 lb).length ≤ 19000) (hK : ∀ (h3 : List XC) (pa3 : Nat) (as bs : List Nat) (ps3 : List Int32) (c9 s9 : Nat), FrX (fun x => x = l1 ∨ x = l2 ∨ x = q ∨ x = sa ∨ x = pa) hp h3 → QB h3 st mn l1 l2 c ka fa oa aa pa9 sa wa if0 if1 items vb mc N kd fr ws es9 mf sf ces gs os as bs (gthE b ves ges sr lb) (gthE b ves ges sr2 lb) → h3[q]? = some (.inr (7, [.ref st, .ref mn, .ref l1, .ref l2, .ref pa3, .int (Int32.ofNat (plJ (prE if0 if1 os fc sc (gthE b ves ges sr2 lb)) 0 (gthE b ves ges sr lb)).length), .ref li, .int kp, .int off, .int so, .int dn, .ref ln, .int lc, .int wd])) → h3[pa3]? = some (.inl (18, ps3.map Value.int)) → ps3.take (plJ (prE if0 if1 os fc sc (gthE b ves ges sr2 lb)) 0 (gthE b ves ges sr lb)).length = (plJ (prE if0 if1 os fc sc (gthE b ves ges sr2 lb)) 0 (gthE b ves ges sr lb)).map Int32.ofNat → (plJ (prE if0 if1 os fc sc (gthE b ves ges sr2 lb)) 0 (gthE b ves ges sr lb)).length ≤ ps3.length → h3[li]? = some (.inl (19, la)) → h3[ln]? = some (.inl (20, lbv)) → (pa3 = pa ∨ hp.length ≤ pa3) → ps3.length ≤ max ps.length (2 * (plJ (prE if0 if1 os fc sc (gthE b ves ges sr2 lb)) 0 (gthE b ves ges sr lb)).length + 1) → c9 + (capL hp l1 + capL hp l2 + ps.length) ≤ capL h3 l1 + capL h3 l2 + ps3.length → s9 + 4 * (capL hp l1 + capL hp l2 + ps.length) ≤ 4 * (capL h3 l1 + capL h3 l2 + ps3.length) → capL h3 l1 ≤ max (capL hp l1) (2 * (ves.length + ges.length) + 10) → capL h3 l2 ≤ max (capL hp l2) (2 * (ves.length + ges.length) + 10) → At S 8 139 163 [(0, .ref q), (2, .ref mn), (5, .int top)] [] h3 (nc + c9) (ns + s9) Q) : At S 8 139 129 [(5, .int top), (0, .ref q), (2, .ref mn), (3, .ref v), (4, .ref g)] [] hp nc ns Q := by
  refine At.go (q := xm139) rfl 2 (pc' := 131) (L' := [(5, .int top), (0, .ref q), (2, .ref mn), (3, .ref v), (4, .ref g)]) (st' := [.ref q, .ref q]) rfl ?_
  refine At.gf rfl (by decide) hq rfl ?_
  refine At.go (q := xm139) rfl 1 (pc' := 135) (L' := [(5, .int top), (0, .ref q), (2, .ref mn), (3, .ref v), (4, .ref g)]) (st' := [.ref mn, .ref l1, .ref q]) rfl ?_
  refine At.gf rfl (by decide) hm hm4 ?_
  refine At.go (q := xm139) rfl 2 (pc' := 141) (L' := [(5, .int top), (0, .ref q), (2, .ref mn), (3, .ref v), (4, .ref g)]) (st' := [.ref g, .ref v, .ref t1, .ref l1, .ref q]) rfl ?_
  refine At.clm (as := [.ref q, .ref l1, .ref t1, .ref v, .ref g]) (rest := []) rfl (by decide) rfl (Nat.le_of_ble_eq_true rfl) (Nat.le_of_ble_eq_true rfl) (xrck_o (by decide) (by decide) hq (by decide)) (Nat.le_of_ble_eq_true rfl) (m_gatherB (b := b) hl1v hl1g rfl hs3 hO hq hst hv hg hL1 hV hVe hGl hGe ht hnn) (fun v9 h1 c1 s1 hv9 => ?_)
  obtain ⟨rfl, f1, ⟨as, hA1, hAE⟩, g1, g2, g3⟩ := hv9
  obtain ⟨xf1, hx1⟩ := hL1.ob
  have hq1 := f1.ob hq (by decide) (fun e => xn_cl hq hx1 (by decide) e)
  have hm1 := f1.ob hm (by decide) (fun e => xn_cl hm hx1 (by decide) e)
  have hst1 := f1.ob hst (by decide) (fun e => xn_cl hst hx1 (by decide) e)
  have hv1 := f1.ob hv (by decide) (fun e => xn_cl hv hx1 (by decide) e)
  have hg1 := f1.ob hg (by decide) (fun e => xn_cl hg hx1 (by decide) e)
  have hO1 := f1.2.1 hO
  have hL21 := f1.ls (fun e => hl12 e.symm) hO hL2
  have hV1 := f1.ls (fun e => hl1v e.symm) hO hV
  have hVe1 := hVe.fr f1
  have hGl1 := f1.ls (fun e => hl1g e.symm) hO hGl
  have hGe1 := hGe.fr f1
  have ec2 := f1.cap (fun e => hl12 e.symm) hO hL2
  obtain ⟨w2, ht21⟩ := f1.2.2.2.2.1 _ _ ht2
  refine At.go (q := xm139) rfl 2 (pc' := 146) (L' := [(5, .int top), (0, .ref q), (2, .ref mn), (3, .ref v), (4, .ref g)]) (st' := [.ref q, .ref q]) rfl ?_
  refine At.gf rfl (by decide) hq1 rfl ?_
  refine At.go (q := xm139) rfl 1 (pc' := 150) (L' := [(5, .int top), (0, .ref q), (2, .ref mn), (3, .ref v), (4, .ref g)]) (st' := [.ref mn, .ref l2, .ref q]) rfl ?_
  refine At.gf rfl (by decide) hm1 hm5 ?_
  refine At.go (q := xm139) rfl 2 (pc' := 156) (L' := [(5, .int top), (0, .ref q), (2, .ref mn), (3, .ref v), (4, .ref g)]) (st' := [.ref g, .ref v, .ref t2, .ref l2, .ref q]) rfl ?_
  refine At.clm (as := [.ref q, .ref l2, .ref t2, .ref v, .ref g]) (rest := []) rfl (by decide) rfl (Nat.le_of_ble_eq_true rfl) (Nat.le_of_ble_eq_true rfl) (xrck_o (by decide) (by decide) hq1 (by decide)) (Nat.le_of_ble_eq_true rfl) (m_gatherB (b := b) hl2v hl2g rfl hs3 hO1 hq1 hst1 hv1 hg1 hL21 hV1 hVe1 hGl1 hGe1 ht21 hnn) (fun v9 h2 c2 s2 hv9 => ?_)
  obtain ⟨rfl, f2, ⟨bs, hB2, hBE⟩, g4, g5, g6⟩ := hv9
  obtain ⟨xf2, hx2⟩ := hL21.ob
  have hA2 := f2.ls (fun e => hl12 e) hO1 hA1
  have hAE2 := hAE.fr f2
  have ec1 := f2.cap (fun e => hl12 e) hO1 hA1
  have F2 : FrX (fun x => x = l1 ∨ x = l2) hp h2 := FrX.tr (f1.mono (fun x _ h => Or.inl h)) f2 (fun x h => Or.inl (Or.inr h))
  have hq2 := f2.ob hq1 (by decide) (fun e => xn_cl hq1 hx2 (by decide) e)
  have hm2 := f2.ob hm1 (by decide) (fun e => xn_cl hm1 hx2 (by decide) e)
  have hst2 := f2.ob hst1 (by decide) (fun e => xn_cl hst1 hx2 (by decide) e)
  have hO2 := f2.2.1 hO1
  have na : ∀ {a k : Nat} {es : List Value}, hp[a]? = some (.inl (k, es)) → ¬ (a = l1 ∨ a = l2) := fun ha e => e.elim (fun e => xn_ar ha hx1 e) (fun e => by obtain ⟨u, hu⟩ := hL2.ob; exact xn_ar ha hu e)
  have no : ∀ {a ci : Nat} {fs : List Value}, hp[a]? = some (.inr (ci, fs)) → ci ≠ 2 → ¬ (a = l1 ∨ a = l2) := fun ha hc e => e.elim (fun e => xn_cl ha hx1 hc e) (fun e => by obtain ⟨u, hu⟩ := hL2.ob; exact xn_cl ha hu hc e)
  have hS0 := hS
  obtain ⟨sf9, kes, fes, k0, k1, k2, k3, k4, k5, k6, k7, k8, k9, -⟩ := hS0
  have hS2 := hS.fr F2 (no k0 (by decide)) (na k8) (na k9)
  have hF2 := hF.fr F2 (no hF.ho (by decide)) (na hF.hoa) (na hF.haa)
  have hsa2 := F2.2.2.1 _ _ hsa rfl (Or.inl (na hsa))
  have hmc2 := F2.2.2.1 _ _ hmc rfl (Or.inl (na hmc))
  have hpa2 := F2.2.2.1 _ _ hpa rfl (Or.inl (na hpa))
  have hli2 := F2.2.2.1 _ _ hli rfl (Or.inl (na hli))
  have hln2 := F2.2.2.1 _ _ hln rfl (Or.inl (na hln))
  have hP2 : PkS h2 st mn l1 l2 c ka fa oa aa pa9 sa wa if0 if1 items vb kd fr ws es9 mf sf gs os as bs (gthE b ves ges sr lb) (gthE b ves ges sr2 lb) := ⟨hS2, hst2, hF2, hA2, hAE2, hB2, hBE, hm2⟩
  refine At.go (q := xm139) rfl 1 (pc' := 160) (L' := [(5, .int top), (0, .ref q), (2, .ref mn), (3, .ref v), (4, .ref g)]) (st' := [.ref q]) rfl ?_
  refine At.clm (as := [.ref q]) (rest := []) rfl (by decide) rfl (Nat.le_of_ble_eq_true rfl) (Nat.le_of_ble_eq_true rfl) (xrck_o (by decide) (by decide) hq2 (by decide)) (Nat.le_of_ble_eq_true rfl) (m_pickJ (N := N) hN hN2 hnm hif hjn hnn9 hfc hsc hmok hbg hP2 hO2 hq2 hpa2 hpl hbg hsa2 hvN) (fun v9 h3 c3 s3 hv9 => ?_)
  obtain ⟨rfl, pa3, ps3, us, F3, y1, y2, y3, y4, y5, y6, y7, y8, y9, y10, y11⟩ := hv9
  rw [List.length_map, Nat.zero_add] at y1 y3 y4 y5
  rw [List.take_zero, List.nil_append] at y3
  have hk3 : Kq9 h2 (PqP q sa pa) := (Kq9.one hq2 (Or.inl ⟨_, rfl⟩)).two ((Kq9.one hsa2 (Or.inr ⟨_, _, rfl, Or.inl rfl⟩)).two (Kq9.one hpa2 (Or.inr ⟨_, _, rfl, Or.inr (Or.inl rfl)⟩)))
  have hP3 := hP2.fk F3 hO2 hk3
  have hmc3 := F3.2.2.1 _ _ hmc2 rfl (Or.inl (hk3.ar hmc2 (by decide)))
  have hO3 := F3.2.1 hO2
  have hli3 := F3.2.2.1 _ _ hli2 rfl (Or.inl (fun e => e.elim (fun e => xn_ar hli2 hq2 e) (fun e => e.elim (fun e => xn_kd hli2 hsa2 (by decide) e) (fun e => xn_kd hli2 hpa2 (by decide) e))))
  have hln3 := F3.2.2.1 _ _ hln2 rfl (Or.inl (fun e => e.elim (fun e => xn_ar hln2 hq2 e) (fun e => e.elim (fun e => xn_kd hln2 hsa2 (by decide) e) (fun e => xn_kd hln2 hpa2 (by decide) e))))
  have nl : ∀ {l : Nat} {as : List Nat}, hLs h2 l as → ¬ PqP q sa pa l := fun hl => by obtain ⟨u, hu⟩ := hl.ob; exact hk3.ob hu (by decide)
  have d1 := F3.cap (nl hA2) hO2 hA2
  have d2 := F3.cap (nl hB2) hO2 hB2
  have hll := F2.1
  have FF : FrX (fun x => x = l1 ∨ x = l2 ∨ x = q ∨ x = sa ∨ x = pa) hp h3 := FrX.tr (F2.mono (fun x _ h => h.elim Or.inl (fun h => Or.inr (Or.inl h)))) F3 (fun x h => Or.inl (Or.inr (Or.inr h)))
  refine At.wk (L' := [(0, .ref q), (2, .ref mn), (5, .int top)]) (List.forall_mem_cons.mpr ⟨List.mem_of_getElem? (i := 1) rfl, List.forall_mem_cons.mpr ⟨List.mem_of_getElem? (i := 2) rfl, List.forall_mem_cons.mpr ⟨List.mem_of_getElem? (i := 0) rfl, fun _ h => (List.not_mem_nil h).elim⟩⟩⟩) (show ([5, 0, 2, 3, 4] : List Nat).Nodup by decide) ?_
  rw [show nc + c1 + c2 + c3 = nc + (c1 + c2 + c3) by omega, show ns + s1 + s2 + s3 = ns + (s1 + s2 + s3) by omega]
  exact hK h3 pa3 as bs ps3 (c1 + c2 + c3) (s1 + s2 + s3) FF ⟨hP3, hO3, hmc3, us, y10, y11⟩ y1 y2 y3 y4 hli3 hln3 (y9.imp id (fun e => by omega)) (by omega) (by omega) (by omega) (by omega) (by omega)
