/-! queries: the rows are picked (written by wip/p27/c999990.py) -/
theorem m_pick0 {S : List Int32} {q N : Nat} {st mn l1 l2 li ln : Nat} {kp off so dn lc wd : Int32} {c ka fa oa aa pa9 sa wa if0 if1 items vb : Nat} {kd fr : Nat → Nat} {ws : Value} {es9 mf sf : List Value} {gs : List Int32} {os : List (Nat × Int32)} {as bs : List Nat} {e1 e2 : List En} {jn : Int32} (hN : os.length ≤ N) (hN2 : N ≤ 1000) (hnm : ∀ (i : Nat) (q : Nat × Int32), os[i]? = some q → q.1 = 3 → ∃ j : Nat, j ≤ 100000 ∧ q.2 = Int32.ofNat j) (hif : if1 ≤ os.length) (hjn : sf[6]? = some (.int jn)) (hneg : jn < 0) (hmok : ∀ e ∈ e1, (if0 < if1 → (resR e.2.2.1 (fun g => cellE e.2.2.2.2.1 [] g.toNatClampNeg) ((os.take if1).drop if0) []).isSome = true)) {hp : List XC} {pa : Nat} {pn : Int32} {ps vs : List Int32} (hA : PkS hp st mn l1 l2 c ka fa oa aa pa9 sa wa if0 if1 items vb kd fr ws es9 mf sf gs os as bs e1 e2) (hO : Own hp) (hq : hp[q]? = some (.inr (7, [.ref st, .ref mn, .ref l1, .ref l2, .ref pa, .int pn, .ref li, .int kp, .int off, .int so, .int dn, .ref ln, .int lc, .int wd]))) (hpa : hp[pa]? = some (.inl (18, ps.map Value.int))) (hpl : ps.length ≤ 40000) (hbg : e1.length * 1 ≤ 19000) (hsa : hp[sa]? = some (.inl (16, vs.map Value.int))) (hvs : vs.length = N) : Me S 7 141 [.ref q] hp (fun v hp' c s => v = none ∧ PqR hp hp' q st mn l1 l2 pa 0 li ln kp off so dn lc wd sa N ps ((plJ (onE if0 if1 os) 0 e1).map Int32.ofNat) c s) := by
  refine At.go (q := xm141) rfl 2 (pc' := 2) (L' := [(0, .ref q)]) (st' := [.int 0, .ref q]) rfl ?_
  refine At.pf rfl hq (Nat.le_of_ble_eq_true rfl) rfl ?_
  obtain ⟨h1, eh1⟩ : ∃ h, h = hp.set q (.inr (7, [.ref st, .ref mn, .ref l1, .ref l2, .ref pa, .int (Int32.ofNat 0), .ref li, .int kp, .int off, .int so, .int dn, .ref ln, .int lc, .int wd])) := ⟨_, rfl⟩
  refine At.hpe eh1 ?_
  have f1 : FrX (fun x => x = q) hp h1 := by rw [eh1]; exact FrX.so hq (by decide) rfl (by decide)
  have f2 : FrX (PqP q sa pa) hp h1 := f1.mono (fun x _ h => Or.inl h)
  have hl1 : h1.length = hp.length := by rw [eh1, List.length_set]
  have hq1 : h1[q]? = some (.inr (7, [.ref st, .ref mn, .ref l1, .ref l2, .ref pa, .int (Int32.ofNat 0), .ref li, .int kp, .int off, .int so, .int dn, .ref ln, .int lc, .int wd])) := by rw [eh1]; exact xs_eq hq
  have hpa1 := f1.2.2.1 _ _ hpa rfl (Or.inl (fun e => xn_ar hpa hq e))
  have hsa1 := f1.2.2.1 _ _ hsa rfl (Or.inl (fun e => xn_ar hsa hq e))
  have hA1 := hA.fr f2 hO hq hsa hpa
  have hO1 := f1.2.1 hO
  refine At.go (q := xm141) rfl 2 (pc' := 7) (L' := [(1, .int 0), (0, .ref q)]) (st' := []) rfl ?_
  refine At.wk (L' := [(1, .int (Int32.ofNat 0)), (0, .ref q)]) (List.forall_mem_cons.mpr ⟨List.mem_of_getElem? (i := 0) rfl, (List.forall_mem_cons.mpr ⟨List.mem_of_getElem? (i := 1) rfl, (fun _ h => (List.not_mem_nil h).elim)⟩)⟩) (show ([1, 0] : List Nat).Nodup by decide) ?_
  refine (pk_loop0 hN hN2 hnm hif hjn hneg hmok e1.length 0 h1 pa 0 ps vs (by omega) hA1 hO1 hq1 hpa1 (by omega) hpl (by omega) hsa1 hvs).mono (fun o ho => ?_)
  obtain ⟨hp9, c1, s1, x1, pa2, ps2, vs2, g1, g2, g3, g4, g5, g6, g7, g8, g9, g10, g11, g12⟩ := ho
  rw [Nat.zero_add, Nat.zero_add] at x1
  rw [hl1] at g10
  exact ⟨_, _, _, _, x1, rfl, pa2, ps2, vs2, FrX.tr f2 g1 (fun x h => Or.inl h), g2, g3, g4, g5, g6, g7, g8, g9, g10, g11, g12⟩
theorem m_pickJ {S : List Int32} {q N : Nat} {st mn l1 l2 li ln : Nat} {kp off so dn lc wd : Int32} {c ka fa oa aa pa9 sa wa if0 if1 items vb : Nat} {kd fr : Nat → Nat} {ws : Value} {es9 mf sf : List Value} {gs : List Int32} {os : List (Nat × Int32)} {as bs : List Nat} {e1 e2 : List En} {jn : Int32} (hN : os.length ≤ N) (hN2 : N ≤ 1000) (hnm : ∀ (i : Nat) (q : Nat × Int32), os[i]? = some q → q.1 = 3 → ∃ j : Nat, j ≤ 100000 ∧ q.2 = Int32.ofNat j) (hif : if1 ≤ os.length) (hjn : sf[6]? = some (.int jn)) (hnn : ¬ jn < 0) {fc sc : Int32} (hfc : mf[7]? = some (.int fc)) (hsc : mf[8]? = some (.int sc)) (hmok : ∀ e ∈ e1, ∀ r ∈ e2, (if0 < if1 → (resR (joinE e.2.2.1 r.2.2.1) (fun g => cellE e.2.2.2.2.1 r.2.2.2.2.1 g.toNatClampNeg) ((os.take if1).drop if0) []).isSome = true)) (hbig : e1.length * e2.length ≤ 19000) {hp : List XC} {pa : Nat} {pn : Int32} {ps vs : List Int32} (hA : PkS hp st mn l1 l2 c ka fa oa aa pa9 sa wa if0 if1 items vb kd fr ws es9 mf sf gs os as bs e1 e2) (hO : Own hp) (hq : hp[q]? = some (.inr (7, [.ref st, .ref mn, .ref l1, .ref l2, .ref pa, .int pn, .ref li, .int kp, .int off, .int so, .int dn, .ref ln, .int lc, .int wd]))) (hpa : hp[pa]? = some (.inl (18, ps.map Value.int))) (hpl : ps.length ≤ 40000) (hbg : e1.length * e2.length ≤ 19000) (hsa : hp[sa]? = some (.inl (16, vs.map Value.int))) (hvs : vs.length = N) : Me S 7 141 [.ref q] hp (fun v hp' c s => v = none ∧ PqR hp hp' q st mn l1 l2 pa 0 li ln kp off so dn lc wd sa N ps ((plJ (prE if0 if1 os fc sc e2) 0 e1).map Int32.ofNat) c s) := by
  refine At.go (q := xm141) rfl 2 (pc' := 2) (L' := [(0, .ref q)]) (st' := [.int 0, .ref q]) rfl ?_
  refine At.pf rfl hq (Nat.le_of_ble_eq_true rfl) rfl ?_
  obtain ⟨h1, eh1⟩ : ∃ h, h = hp.set q (.inr (7, [.ref st, .ref mn, .ref l1, .ref l2, .ref pa, .int (Int32.ofNat 0), .ref li, .int kp, .int off, .int so, .int dn, .ref ln, .int lc, .int wd])) := ⟨_, rfl⟩
  refine At.hpe eh1 ?_
  have f1 : FrX (fun x => x = q) hp h1 := by rw [eh1]; exact FrX.so hq (by decide) rfl (by decide)
  have f2 : FrX (PqP q sa pa) hp h1 := f1.mono (fun x _ h => Or.inl h)
  have hl1 : h1.length = hp.length := by rw [eh1, List.length_set]
  have hq1 : h1[q]? = some (.inr (7, [.ref st, .ref mn, .ref l1, .ref l2, .ref pa, .int (Int32.ofNat 0), .ref li, .int kp, .int off, .int so, .int dn, .ref ln, .int lc, .int wd])) := by rw [eh1]; exact xs_eq hq
  have hpa1 := f1.2.2.1 _ _ hpa rfl (Or.inl (fun e => xn_ar hpa hq e))
  have hsa1 := f1.2.2.1 _ _ hsa rfl (Or.inl (fun e => xn_ar hsa hq e))
  have hA1 := hA.fr f2 hO hq hsa hpa
  have hO1 := f1.2.1 hO
  refine At.go (q := xm141) rfl 2 (pc' := 7) (L' := [(1, .int 0), (0, .ref q)]) (st' := []) rfl ?_
  refine At.wk (L' := [(1, .int (Int32.ofNat 0)), (0, .ref q)]) (List.forall_mem_cons.mpr ⟨List.mem_of_getElem? (i := 0) rfl, (List.forall_mem_cons.mpr ⟨List.mem_of_getElem? (i := 1) rfl, (fun _ h => (List.not_mem_nil h).elim)⟩)⟩) (show ([1, 0] : List Nat).Nodup by decide) ?_
  refine (pk_loopJ hN hN2 hnm hif hjn hnn hfc hsc hmok hbig e1.length 0 h1 pa 0 ps vs (by omega) hA1 hO1 hq1 hpa1 (by omega) hpl (by omega) hsa1 hvs).mono (fun o ho => ?_)
  obtain ⟨hp9, c1, s1, x1, pa2, ps2, vs2, g1, g2, g3, g4, g5, g6, g7, g8, g9, g10, g11, g12⟩ := ho
  rw [Nat.zero_add, Nat.zero_add] at x1
  rw [hl1] at g10
  exact ⟨_, _, _, _, x1, rfl, pa2, ps2, vs2, FrX.tr f2 g1 (fun x h => Or.inl h), g2, g3, g4, g5, g6, g7, g8, g9, g10, g11, g12⟩
