/-! queries: pickPairs (written by wip/p27/c9999.py) -/
/-- numbers of the rows that are wanted, from a number on -/
def prL (ok : En → Bool) (base : Nat) : Nat → List En → List Nat
  | _, [] => []
  | j, r :: rs => if ok r = true then (base + j) :: prL ok base (j + 1) rs else prL ok base (j + 1) rs
theorem prL_len (ok : En → Bool) (base : Nat) : ∀ (j : Nat) (rs : List En), (prL ok base j rs).length ≤ rs.length
  | _, [] => Nat.le_refl _
  | j, r :: rs => by
    unfold prL
    have := prL_len ok base (j + 1) rs
    split
    · rw [List.length_cons, List.length_cons]; omega
    · rw [List.length_cons]; omega
/-- what stands still while rows are picked -/
def PkS (hp : List XC) (st mn l1 l2 c ka fa oa aa pa9 sa wa if0 if1 items vb : Nat) (kd fr : Nat → Nat) (ws : Value) (es9 mf sf : List Value) (gs : List Int32) (os : List (Nat × Int32)) (as bs : List Nat) (e1 e2 : List En) : Prop :=
  hSt hp st c ka fa if0 if1 items vb kd fr ∧ hp[st]? = some (.inr (12, sf)) ∧ hFo hp c oa aa pa9 sa wa ws es9 gs os ∧ hLs hp l1 as ∧ hEs hp as e1 ∧ hLs hp l2 bs ∧ hEs hp bs e2 ∧ hp[mn]? = some (.inr (6, mf))
def PqP (q sa pa : Nat) : Nat → Prop := fun x => x = q ∨ x = sa ∨ x = pa
theorem PkS.fr {hp hp' : List XC} {st mn l1 l2 c ka fa oa aa pa9 sa wa if0 if1 items vb q pa : Nat} {kd fro : Nat → Nat} {ws : Value} {es9 mf sf qf vs ps : List Value} {gs : List Int32} {os : List (Nat × Int32)} {as bs : List Nat} {e1 e2 : List En} (h : PkS hp st mn l1 l2 c ka fa oa aa pa9 sa wa if0 if1 items vb kd fro ws es9 mf sf gs os as bs e1 e2) (f : FrX (PqP q sa pa) hp hp') (hO : Own hp) (hq : hp[q]? = some (.inr (7, qf))) (hsa : hp[sa]? = some (.inl (16, vs))) (hpa : hp[pa]? = some (.inl (18, ps))) : PkS hp' st mn l1 l2 c ka fa oa aa pa9 sa wa if0 if1 items vb kd fro ws es9 mf sf gs os as bs e1 e2 := by
  obtain ⟨a1, a2, a3, a4, a5, a6, a7, a8⟩ := h
  have no : ∀ {a ci : Nat} {fs : List Value}, hp[a]? = some (.inr (ci, fs)) → ci ≠ 7 → ¬ PqP q sa pa a := fun ha hc e => e.elim (fun e => xn_cl ha hq hc e) (fun e => e.elim (fun e => xn_ra ha hsa e) (fun e => xn_ra ha hpa e))
  have na : ∀ {a k : Nat} {es : List Value}, hp[a]? = some (.inl (k, es)) → k ≠ 16 → k ≠ 18 → ¬ PqP q sa pa a := fun ha h6 h8 e => e.elim (fun e => xn_ar ha hq e) (fun e => e.elim (fun e => xn_kd ha hsa h6 e) (fun e => xn_kd ha hpa h8 e))
  have a11 := a1
  obtain ⟨sf9, kes, fes, k0, k1, k2, k3, k4, k5, k6, k7, k8, k9, -⟩ := a11
  obtain ⟨f1, h10⟩ := a4.ob
  obtain ⟨f2, h20⟩ := a6.ob
  exact ⟨a1.fr f (no k0 (by decide)) (na k8 (by decide) (by decide)) (na k9 (by decide) (by decide)), f.ob a2 (by decide) (no a2 (by decide)), a3.fr f (no a3.ho (by decide)) (na a3.hoa (by decide) (by decide)) (na a3.haa (by decide) (by decide)), f.ls (no h10 (by decide)) hO a4, a5.fr f, f.ls (no h20 (by decide)) hO a6, a7.fr f, f.ob a8 (by decide) (no a8 (by decide))⟩
/-- what picking some rows leaves -/
def PqR (hp hp' : List XC) (q st mn l1 l2 pa n li ln : Nat) (kp off so dn lc wd : Int32) (sa N : Nat) (ps : List Int32) (xs : List Int32) (c s : Nat) : Prop :=
  ∃ (pa' : Nat) (ps' vs : List Int32), FrX (PqP q sa pa) hp hp' ∧ hp'[q]? = some (.inr (7, [.ref st, .ref mn, .ref l1, .ref l2, .ref pa', .int (Int32.ofNat (n + xs.length)), .ref li, .int kp, .int off, .int so, .int dn, .ref ln, .int lc, .int wd])) ∧ hp'[pa']? = some (.inl (18, ps'.map Value.int)) ∧ ps'.take (n + xs.length) = ps.take n ++ xs ∧ n + xs.length ≤ ps'.length ∧ ps'.length ≤ max ps.length (2 * (n + xs.length) + 1) ∧ ps.length ≤ ps'.length ∧ c + ps.length ≤ ps'.length ∧ s + 2 * ps.length ≤ 2 * ps'.length ∧ (pa' = pa ∨ hp.length ≤ pa') ∧ vs.length = N ∧ hp'[sa]? = some (.inl (16, vs.map Value.int))
theorem pr_loop {S : List Int32} {q x i N : Nat} {st mn l1 l2 li ln : Nat} {kp off so dn lc wd : Int32} {c ka fa oa aa pa9 sa wa if0 if1 items vb : Nat} {kd fr : Nat → Nat} {ws : Value} {es9 mf sf : List Value} {gs : List Int32} {os : List (Nat × Int32)} {as bs : List Nat} {e1 e2 : List En} {e : En} {held sc : Int32} (hsc : mf[8]? = some (.int sc)) (hheld : ¬ held = -1000000000) (hN : os.length ≤ N) (hN2 : N ≤ 1000) (hnm : ∀ (i : Nat) (q : Nat × Int32), os[i]? = some q → q.1 = 3 → ∃ j : Nat, j ≤ 100000 ∧ q.2 = Int32.ofNat j) (hif : if1 ≤ os.length) (hmok : ∀ r ∈ e2, if0 < if1 → (resR (joinE e.2.2.1 r.2.2.1) (fun g => cellE e.2.2.2.2.1 r.2.2.2.2.1 g.toNatClampNeg) ((os.take if1).drop if0) []).isSome = true) (hbig : i * e2.length + e2.length ≤ 100000) : ∀ (k j : Nat) (hp : List XC) (pa n : Nat) (ps vs : List Int32) {nc ns : Nat}, j + k = e2.length → PkS hp st mn l1 l2 c ka fa oa aa pa9 sa wa if0 if1 items vb kd fr ws es9 mf sf gs os as bs e1 e2 → Own hp → hEn hp x e → hp[q]? = some (.inr (7, [.ref st, .ref mn, .ref l1, .ref l2, .ref pa, .int (Int32.ofNat n), .ref li, .int kp, .int off, .int so, .int dn, .ref ln, .int lc, .int wd])) → hp[pa]? = some (.inl (18, ps.map Value.int)) → n ≤ ps.length → ps.length ≤ 40000 → n + k ≤ 19000 → hp[sa]? = some (.inl (16, vs.map Value.int)) → vs.length = N →
    At S 6 149 15 [(4, .int (Int32.ofNat j)), (0, .ref q), (1, .int (Int32.ofNat i)), (2, .ref x), (3, .int held)] [] hp nc ns (fun o => ∃ hp' c1 s1, o = .inl (none, hp', nc + c1, ns + s1) ∧ PqR hp hp' q st mn l1 l2 pa n li ln kp off so dn lc wd sa N ps ((prL (fun r => decide (hold r.2.2.2.2.1 sc = held) && mntB if0 if1 (resE (joinE e.2.2.1 r.2.2.1) (fun g => cellE e.2.2.2.2.1 r.2.2.2.2.1 g.toNatClampNeg) ((os.take if1).drop if0))) (i * e2.length) j (e2.drop j)).map Int32.ofNat) c1 s1) := by
  intro k
  induction k with
  | zero =>
    intro j hp pa n ps vs nc ns hj hA hO hX hq hpa hn hpl hnk hsa hvN
    have hAA := hA
    obtain ⟨a1, a2, a3, a4, a5, a6, a7, a8⟩ := hAA
    obtain ⟨f2, h20⟩ := a6.ob
    have hb := a7.1
    have hbl := a6.len
    refine At.go (q := xm149) rfl 2 (pc' := 18) (L' := [(4, .int (Int32.ofNat j)), (0, .ref q), (1, .int (Int32.ofNat i)), (2, .ref x), (3, .int held)]) (st' := [.ref q, .int (Int32.ofNat j)]) rfl ?_
    refine At.gf rfl (by decide) hq rfl ?_
    refine At.clp (as := [.ref l2]) (rest := [.int (Int32.ofNat j)]) rfl (by decide) rfl (Nat.le_of_ble_eq_true rfl) (Nat.le_of_ble_eq_true rfl) (xrck_o (by decide) (by decide) h20 (by decide)) (Nat.le_of_ble_eq_true rfl) (m_size a6) ?_
    refine At.ic2 (tgt := 98) rfl rfl (fun _ => ?_) (fun h => absurd (decide_eq_true ((iN_le (a := bs.length) (b := j) (by omega) (by omega)).mpr (by omega))) (by rw [show decide (Int32.ofNat bs.length ≤ Int32.ofNat j) = false from h]; decide))
    rw [List.drop_eq_nil_of_le (show e2.length ≤ j by omega)]
    exact At.rt rfl rfl ⟨hp, 0, 0, rfl, pa, ps, vs, FrX.rf, hq, hpa, (List.append_nil _).symm, hn, Nat.le_max_left _ _, Nat.le_refl _, by omega, by omega, Or.inl rfl, hvN, hsa⟩
  | succ k ih =>
    intro j hp pa n ps vs nc ns hj hA hO hX hq hpa hn hpl hnk hsa hvN
    have hAA := hA
    obtain ⟨a1, a2, a3, a4, a5, a6, a7, a8⟩ := hAA
    obtain ⟨f2, h20⟩ := a6.ob
    have hb := a7.1
    have hbl := a6.len
    obtain ⟨r, hr⟩ : ∃ r, e2[j]? = some r := ⟨_, List.getElem?_eq_getElem (by omega)⟩
    have hrm := List.mem_of_getElem? hr
    obtain ⟨w, hw0, hW⟩ := a7.get hr
    have hW9 := hW
    obtain ⟨c9, xf, hw, hwc, hwl, hwt⟩ := hW9
    rw [xdrop_q (l := e2) (i := j), hr, Option.toList_some, List.singleton_append]
    unfold prL
    refine At.go (q := xm149) rfl 2 (pc' := 18) (L' := [(4, .int (Int32.ofNat j)), (0, .ref q), (1, .int (Int32.ofNat i)), (2, .ref x), (3, .int held)]) (st' := [.ref q, .int (Int32.ofNat j)]) rfl ?_
    refine At.gf rfl (by decide) hq rfl ?_
    refine At.clp (as := [.ref l2]) (rest := [.int (Int32.ofNat j)]) rfl (by decide) rfl (Nat.le_of_ble_eq_true rfl) (Nat.le_of_ble_eq_true rfl) (xrck_o (by decide) (by decide) h20 (by decide)) (Nat.le_of_ble_eq_true rfl) (m_size a6) ?_
    refine At.ic2 (tgt := 98) rfl rfl (fun h => absurd ((iN_le (a := bs.length) (b := j) (by omega) (by omega)).mp (of_decide_eq_true h)) (by omega)) (fun _ => ?_)
    refine At.go (q := xm149) rfl 2 (pc' := 30) (L' := [(4, .int (Int32.ofNat j)), (0, .ref q), (1, .int (Int32.ofNat i)), (2, .ref x), (3, .int held)]) (st' := [.int (-1000000000), .int held]) rfl ?_
    refine At.ic2 (tgt := 98) rfl rfl (fun h => absurd (h.symm.trans (decide_eq_false hheld)) (by decide)) (fun _ => ?_)
    refine At.go (q := xm149) rfl 1 (pc' := 34) (L' := [(4, .int (Int32.ofNat j)), (0, .ref q), (1, .int (Int32.ofNat i)), (2, .ref x), (3, .int held)]) (st' := [.ref q]) rfl ?_
    refine At.gf rfl (by decide) hq rfl ?_
    refine At.go (q := xm149) rfl 1 (pc' := 39) (L' := [(4, .int (Int32.ofNat j)), (0, .ref q), (1, .int (Int32.ofNat i)), (2, .ref x), (3, .int held)]) (st' := [.int (Int32.ofNat j), .ref l2]) rfl ?_
    refine At.clp (as := [.ref l2, .int (Int32.ofNat j)]) (rest := []) rfl (by decide) rfl (Nat.le_of_ble_eq_true rfl) (Nat.le_of_ble_eq_true rfl) (xrck_o (by decide) (by decide) h20 (by decide)) (Nat.le_of_ble_eq_true rfl) (m_get a6 hw0) ?_
    refine At.ca rfl hw (by decide) ?_
    refine At.go (q := xm149) rfl 3 (pc' := 50) (L' := [(5, .ref w), (4, .int (Int32.ofNat j)), (0, .ref q), (1, .int (Int32.ofNat i)), (2, .ref x), (3, .int held)]) (st' := [.ref q, .ref w]) rfl ?_
    refine At.gf rfl (by decide) hq rfl ?_
    refine At.gf rfl (by decide) a8 hsc ?_
    refine At.clp (as := [.ref w, .int sc]) (rest := []) rfl (by decide) rfl (Nat.le_of_ble_eq_true rfl) (Nat.le_of_ble_eq_true rfl) (xrck_o (by decide) (by decide) hw (by decide)) (Nat.le_of_ble_eq_true rfl) (m_hold hw hwc (by omega) sc) ?_
    refine At.go (q := xm149) rfl 1 (pc' := 60) (L' := [(5, .ref w), (4, .int (Int32.ofNat j)), (0, .ref q), (1, .int (Int32.ofNat i)), (2, .ref x), (3, .int held)]) (st' := [.int held, .int (hold r.2.2.2.2.1 sc)]) rfl ?_
    refine At.ic2 (tgt := 92) rfl rfl (fun h60 => ?_) (fun h60 => ?_)
    · refine At.go (q := xm149) rfl 2 (pc' := 15) (L' := [(4, .int ((Int32.ofNat j) + 1)), (5, .ref w), (0, .ref q), (1, .int (Int32.ofNat i)), (2, .ref x), (3, .int held)]) (st' := []) rfl ?_
      rw [iN_s, if_neg (fun h => of_decide_eq_true h60 (of_decide_eq_true (Bool.and_eq_true_iff.mp h).1))]
      refine At.wk (L' := [(4, .int (Int32.ofNat (j + 1))), (0, .ref q), (1, .int (Int32.ofNat i)), (2, .ref x), (3, .int held)]) (List.forall_mem_cons.mpr ⟨List.mem_of_getElem? (i := 0) rfl, (List.forall_mem_cons.mpr ⟨List.mem_of_getElem? (i := 2) rfl, (List.forall_mem_cons.mpr ⟨List.mem_of_getElem? (i := 3) rfl, (List.forall_mem_cons.mpr ⟨List.mem_of_getElem? (i := 4) rfl, (List.forall_mem_cons.mpr ⟨List.mem_of_getElem? (i := 5) rfl, (fun _ h => (List.not_mem_nil h).elim)⟩)⟩)⟩)⟩)⟩) (show ([4, 5, 0, 1, 2, 3] : List Nat).Nodup by decide) ?_
      exact ih (j + 1) hp pa n ps vs (by omega) hA hO hX hq hpa hn hpl (by omega) hsa hvN
    · have hh9 : hold r.2.2.2.2.1 sc = held := xne_f h60
      refine At.go (q := xm149) rfl 1 (pc' := 64) (L' := [(5, .ref w), (4, .int (Int32.ofNat j)), (0, .ref q), (1, .int (Int32.ofNat i)), (2, .ref x), (3, .int held)]) (st' := [.ref q]) rfl ?_
      refine At.gf rfl (by decide) hq rfl ?_
      refine At.go (q := xm149) rfl 2 (pc' := 70) (L' := [(5, .ref w), (4, .int (Int32.ofNat j)), (0, .ref q), (1, .int (Int32.ofNat i)), (2, .ref x), (3, .int held)]) (st' := [.ref w, .ref x, .ref st]) rfl ?_
      refine At.clm (as := [.ref st, .ref x, .ref w]) (rest := []) rfl (by decide) rfl (Nat.le_of_ble_eq_true rfl) (Nat.le_of_ble_eq_true rfl) (xrck_o (by decide) (by decide) a2 (by decide)) (Nat.le_of_ble_eq_true rfl) (m_isMeant2 a1 hX hW a3 hsa (by omega) (by omega) hnm hif (hmok r hrm)) (fun v9 hp1 c1 s1 hv9 => ?_)
      obtain ⟨rfl, ⟨vs2, hl2v, rfl⟩, rfl, rfl⟩ := hv9
      obtain ⟨h1, eh1⟩ : ∃ h, h = hp.set sa (.inl (16, vs2.map Value.int)) := ⟨_, rfl⟩
      refine At.hpe eh1 ?_
      have g1 : FrX (fun x => x = sa) hp h1 := by rw [eh1]; exact FrX.st hsa rfl rfl rfl rfl (fun fs h => by cases h) (fun ci fs h => by cases h)
      have g2 : FrX (PqP q sa pa) hp h1 := g1.mono (fun x _ h => Or.inr (Or.inl h))
      have hq1 := g1.ob hq (by decide) (fun e => xn_ra hq hsa e)
      have hpa1 := g1.2.2.1 _ _ hpa rfl (Or.inl (fun e => xn_kd hpa hsa (by decide) e))
      have hsa1 : h1[sa]? = some (.inl (16, vs2.map Value.int)) := by rw [eh1]; exact xs_eq hsa
      have hA1 := hA.fr g2 hO hq hsa hpa
      have hO1 := g1.2.1 hO
      have hX1 := hX.fr g1
      have hA11 := hA1
      obtain ⟨b1, b2, b3, b4, b5, b6, b7, b8⟩ := hA11
      obtain ⟨f21, h201⟩ := b6.ob
      refine At.ic1 (tgt := 92) rfl rfl (fun h73 => ?_) (fun h73 => ?_)
      · refine At.go (q := xm149) rfl 2 (pc' := 15) (L' := [(4, .int ((Int32.ofNat j) + 1)), (5, .ref w), (0, .ref q), (1, .int (Int32.ofNat i)), (2, .ref x), (3, .int held)]) (st' := []) rfl ?_
        rw [iN_s, if_neg (fun h => absurd (Eq.trans (Bool.and_eq_true_iff.mp h).2.symm (bI0 (of_decide_eq_true h73))) (by decide))]
        refine At.wk (L' := [(4, .int (Int32.ofNat (j + 1))), (0, .ref q), (1, .int (Int32.ofNat i)), (2, .ref x), (3, .int held)]) (List.forall_mem_cons.mpr ⟨List.mem_of_getElem? (i := 0) rfl, (List.forall_mem_cons.mpr ⟨List.mem_of_getElem? (i := 2) rfl, (List.forall_mem_cons.mpr ⟨List.mem_of_getElem? (i := 3) rfl, (List.forall_mem_cons.mpr ⟨List.mem_of_getElem? (i := 4) rfl, (List.forall_mem_cons.mpr ⟨List.mem_of_getElem? (i := 5) rfl, (fun _ h => (List.not_mem_nil h).elim)⟩)⟩)⟩)⟩)⟩) (show ([4, 5, 0, 1, 2, 3] : List Nat).Nodup by decide) ?_
        refine (ih (j + 1) h1 pa n ps vs2 (by omega) hA1 hO1 hX1 hq1 hpa1 hn hpl (by omega) hsa1 (by omega)).mono (fun o ho => ?_)
        obtain ⟨hp9, c1, s1, x1, pa2, ps2, vs3, y1, y2⟩ := ho
        refine ⟨hp9, c1, s1, x1, pa2, ps2, vs3, FrX.tr g2 y1 (fun x h => Or.inl h), ?_⟩
        obtain ⟨y2, y3, y4, y5, y6, y7, y8, y9, y10, y11⟩ := y2
        exact ⟨y2, y3, y4, y5, y6, y7, y8, y9, y10.elim Or.inl (fun h => Or.inr (by have := g2.1; omega)), y11⟩
      · have hmt : mntB if0 if1 (resE (joinE e.2.2.1 r.2.2.1) (fun g => cellE e.2.2.2.2.1 r.2.2.2.2.1 g.toNatClampNeg) ((os.take if1).drop if0)) = true := bI1 (of_decide_eq_false h73)
        have hmul : Int32.ofNat i * Int32.ofNat bs.length + Int32.ofNat j = Int32.ofNat (i * e2.length + j) := by rw [hb, Int32.ofNat_add, Int32.ofNat_mul]
        refine At.go (q := xm149) rfl 3 (pc' := 79) (L' := [(5, .ref w), (4, .int (Int32.ofNat j)), (0, .ref q), (1, .int (Int32.ofNat i)), (2, .ref x), (3, .int held)]) (st' := [.ref q, .int (Int32.ofNat i), .ref q]) rfl ?_
        refine At.gf rfl (by decide) hq1 rfl ?_
        refine At.clp (as := [.ref l2]) (rest := [.int (Int32.ofNat i), .ref q]) rfl (by decide) rfl (Nat.le_of_ble_eq_true rfl) (Nat.le_of_ble_eq_true rfl) (xrck_o (by decide) (by decide) h201 (by decide)) (Nat.le_of_ble_eq_true rfl) (m_size b6) ?_
        refine At.go (q := xm149) rfl 3 (pc' := 89) (L' := [(5, .ref w), (4, .int (Int32.ofNat j)), (0, .ref q), (1, .int (Int32.ofNat i)), (2, .ref x), (3, .int held)]) (st' := [.int (((Int32.ofNat i) * (Int32.ofNat bs.length)) + (Int32.ofNat j)), .ref q]) rfl ?_
        refine At.clm (as := [.ref q, .int (((Int32.ofNat i) * (Int32.ofNat bs.length)) + (Int32.ofNat j))]) (rest := []) rfl (by decide) rfl (Nat.le_of_ble_eq_true rfl) (Nat.le_of_ble_eq_true rfl) (xrck_o (by decide) (by decide) hq1 (by decide)) (Nat.le_of_ble_eq_true rfl) (m_addPicked (Int32.ofNat i * Int32.ofNat bs.length + Int32.ofNat j) hq1 hpa1 hn hpl) (fun v9 h2 c2 s2 hv9 => ?_)
        obtain ⟨rfl, pa2, ps2, u1, u2, u3, u4, u5, u6, u7, u8, u9, u10⟩ := hv9
        rw [List.length_singleton] at u2 u4 u5 u6
        refine At.go (q := xm149) rfl 2 (pc' := 15) (L' := [(4, .int ((Int32.ofNat j) + 1)), (5, .ref w), (0, .ref q), (1, .int (Int32.ofNat i)), (2, .ref x), (3, .int held)]) (st' := []) rfl ?_
        rw [iN_s, if_pos (Bool.and_eq_true_iff.mpr ⟨decide_eq_true hh9, hmt⟩)]
        refine At.wk (L' := [(4, .int (Int32.ofNat (j + 1))), (0, .ref q), (1, .int (Int32.ofNat i)), (2, .ref x), (3, .int held)]) (List.forall_mem_cons.mpr ⟨List.mem_of_getElem? (i := 0) rfl, (List.forall_mem_cons.mpr ⟨List.mem_of_getElem? (i := 2) rfl, (List.forall_mem_cons.mpr ⟨List.mem_of_getElem? (i := 3) rfl, (List.forall_mem_cons.mpr ⟨List.mem_of_getElem? (i := 4) rfl, (List.forall_mem_cons.mpr ⟨List.mem_of_getElem? (i := 5) rfl, (fun _ h => (List.not_mem_nil h).elim)⟩)⟩)⟩)⟩)⟩) (show ([4, 5, 0, 1, 2, 3] : List Nat).Nodup by decide) ?_
        have g3 : FrX (PqP q sa pa) h1 h2 := u1.mono (fun x _ h => h.elim Or.inl (fun h => Or.inr (Or.inr h)))
        have hsa2 := u1.2.2.1 _ _ hsa1 rfl (Or.inl (fun e => e.elim (fun e => xn_ar hsa1 hq1 e) (fun e => xn_kd hsa1 hpa1 (by decide) e)))
        refine (ih (j + 1) h2 pa2 (n + 1) ps2 vs2 (by omega) (hA1.fr g3 hO1 hq1 hsa1 hpa1) (u1.2.1 hO1) (hX1.fr u1) u2 u3 u5 (by omega) (by omega) hsa2 (by omega)).mono (fun o ho => ?_)
        obtain ⟨hp9, c1, s1, x1, pa3, ps3, vs3, y1, y2, y3, y4, y5, y6, y7, y8, y9, y10, y11, y12⟩ := ho
        have gl := g2.1
        have hll : (Int32.ofNat (i * e2.length + j) :: (prL (fun r => decide (hold r.2.2.2.2.1 sc = held) && mntB if0 if1 (resE (joinE e.2.2.1 r.2.2.1) (fun g => cellE e.2.2.2.2.1 r.2.2.2.2.1 g.toNatClampNeg) ((os.take if1).drop if0))) (i * e2.length) (j + 1) (e2.drop (j + 1))).map Int32.ofNat).length = 1 + ((prL (fun r => decide (hold r.2.2.2.2.1 sc = held) && mntB if0 if1 (resE (joinE e.2.2.1 r.2.2.1) (fun g => cellE e.2.2.2.2.1 r.2.2.2.2.1 g.toNatClampNeg) ((os.take if1).drop if0))) (i * e2.length) (j + 1) (e2.drop (j + 1))).map Int32.ofNat).length := by rw [List.length_cons, Nat.add_comm]
        rw [List.map_cons]
        refine ⟨hp9, c2 + c1, s2 + s1, x1.trans (xo_eq (by omega) (by omega)), pa3, ps3, vs3, FrX.tr (FrX.tr g2 g3 (fun x h => Or.inl h)) y1 (fun x h => h.elim (fun h => Or.inl (Or.inl h)) (fun h => h.elim (fun h => Or.inl (Or.inr (Or.inl h))) (fun h => u10.elim (fun e => Or.inl (Or.inr (Or.inr (h.trans e)))) (fun e => Or.inr (by omega))))), ?_, y3, ?_, ?_, ?_, ?_, ?_, ?_, ?_, y11, y12⟩
        · rw [hll, ← Nat.add_assoc]; exact y2
        · rw [hll, ← Nat.add_assoc, y4, u4, hmul, List.append_assoc]; rfl
        · rw [hll]; omega
        · rw [hll]; omega
        · omega
        · omega
        · omega
        · exact y10.elim (fun e => u10.elim (fun e2 => Or.inl (e.trans e2)) (fun e2 => Or.inr (by omega))) (fun e => Or.inr (by have := g3.1; omega))
