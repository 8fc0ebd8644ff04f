/-! queries: pick (written by wip/p27/c99990.py) -/
/-- the rows of a second table that go with a row, as numbers of pairs -/
def prE (if0 if1 : Nat) (os : List (Nat × Int32)) (fc sc : Int32) (e2 : List En) (i : Nat) (e : En) : List Nat := if hold e.2.2.2.2.1 fc = -1000000000 then [] else prL (fun r => decide (hold r.2.2.2.2.1 sc = hold e.2.2.2.2.1 fc) && mntB if0 if1 (resE (joinE e.2.2.1 r.2.2.1) (fun g => cellE e.2.2.2.2.1 r.2.2.2.2.1 g.toNatClampNeg) ((os.take if1).drop if0))) (i * e2.length) 0 e2
/-- a row by itself -/
def onE (if0 if1 : Nat) (os : List (Nat × Int32)) (i : Nat) (e : En) : List Nat := if mntB if0 if1 (resE e.2.2.1 (fun g => cellE e.2.2.2.2.1 [] g.toNatClampNeg) ((os.take if1).drop if0)) = true then [i] else []
/-- what is picked of some rows -/
def plJ (f : Nat → En → List Nat) : Nat → List En → List Nat
  | _, [] => []
  | i, e :: es => f i e ++ plJ f (i + 1) es
theorem PqR.tr {hp h2 h3 : List XC} {q st mn l1 l2 pa n li ln sa N pa2 : Nat} {kp off so dn lc wd : Int32} {ps ps2 xs ys : List Int32} {c1 s1 c2 s2 : Nat} (f : FrX (PqP q sa pa) hp h2) (u3 : ps2.take (n + xs.length) = ps.take n ++ xs) (u4 : n + xs.length ≤ ps2.length) (u5 : ps2.length ≤ max ps.length (2 * (n + xs.length) + 1)) (u6 : ps.length ≤ ps2.length) (u7 : c1 + ps.length ≤ ps2.length) (u8 : s1 + 2 * ps.length ≤ 2 * ps2.length) (u9 : pa2 = pa ∨ hp.length ≤ pa2) (h : PqR h2 h3 q st mn l1 l2 pa2 (n + xs.length) li ln kp off so dn lc wd sa N ps2 ys c2 s2) : PqR hp h3 q st mn l1 l2 pa n li ln kp off so dn lc wd sa N ps (xs ++ ys) (c1 + c2) (s1 + s2) := by
  obtain ⟨pa3, ps3, vs3, y1, y2, y3, y4, y5, y6, y7, y8, y9, y10, y11, y12⟩ := h
  have hl : (xs ++ ys).length = xs.length + ys.length := List.length_append
  refine ⟨pa3, ps3, vs3, FrX.tr f y1 (fun x h => h.elim (fun h => Or.inl (Or.inl h)) (fun h => h.elim (fun h => Or.inl (Or.inr (Or.inl h))) (fun h => u9.elim (fun e => Or.inl (Or.inr (Or.inr (h.trans e)))) (fun e => Or.inr (by omega))))), ?_, y3, ?_, ?_, ?_, ?_, ?_, ?_, ?_, y11, y12⟩
  · rw [hl, ← Nat.add_assoc]; exact y2
  · rw [hl, ← Nat.add_assoc, y4, u3, List.append_assoc]
  · rw [hl]; omega
  · rw [hl]; omega
  · omega
  · omega
  · omega
  · exact y10.elim (fun e => u9.elim (fun e2 => Or.inl (e.trans e2)) (fun e2 => Or.inr (by omega))) (fun e => Or.inr (by have := f.1; omega))
theorem m_pickPairs {S : List Int32} {q N : Nat} {st mn l1 l2 li ln : Nat} {kp off so dn lc wd : Int32} {c ka fa oa aa pa9 sa wa if0 if1 items vb : Nat} {kd fr : Nat → Nat} {ws : Value} {es9 mf sf : List Value} {gs : List Int32} {os : List (Nat × Int32)} {as bs : List Nat} {e1 e2 : List En} (hN : os.length ≤ N) (hN2 : N ≤ 1000) (hnm : ∀ (i : Nat) (q : Nat × Int32), os[i]? = some q → q.1 = 3 → ∃ j : Nat, j ≤ 100000 ∧ q.2 = Int32.ofNat j) (hif : if1 ≤ os.length) {fc sc : Int32} (hfc : mf[7]? = some (.int fc)) (hsc : mf[8]? = some (.int sc)) {hp : List XC} {x i pa n : Nat} {e : En} {ps vs : List Int32} (hmok : ∀ r ∈ e2, (if0 < if1 → (resR (joinE e.2.2.1 r.2.2.1) (fun g => cellE e.2.2.2.2.1 r.2.2.2.2.1 g.toNatClampNeg) ((os.take if1).drop if0) []).isSome = true)) (hbig : i * e2.length + e2.length ≤ 100000) (hX : hEn hp x e) (hA : PkS hp st mn l1 l2 c ka fa oa aa pa9 sa wa if0 if1 items vb kd fr ws es9 mf sf gs os as bs e1 e2) (hO : Own hp) (hq : hp[q]? = some (.inr (7, [.ref st, .ref mn, .ref l1, .ref l2, .ref pa, .int (Int32.ofNat n), .ref li, .int kp, .int off, .int so, .int dn, .ref ln, .int lc, .int wd]))) (hpa : hp[pa]? = some (.inl (18, ps.map Value.int))) (hn : n ≤ ps.length) (hpl : ps.length ≤ 40000) (hsa : hp[sa]? = some (.inl (16, vs.map Value.int))) (hvN : vs.length = N) (hnk : n + e2.length ≤ 19000) : Me S 6 149 [.ref q, .int (Int32.ofNat i), .ref x] hp (fun v hp' c s => v = none ∧ PqR hp hp' q st mn l1 l2 pa n li ln kp off so dn lc wd sa N ps ((prE if0 if1 os fc sc e2 i e).map Int32.ofNat) c s) := by
  have hAA := hA
  obtain ⟨a1, a2, a3, a4, a5, a6, a7, a8⟩ := hAA
  obtain ⟨f2, h20⟩ := a6.ob
  have hX9 := hX
  obtain ⟨c9, xf, hx, hxc, hxl, -⟩ := hX9
  refine At.go (q := xm149) rfl 2 (pc' := 2) (L' := [(0, .ref q), (1, .int (Int32.ofNat i)), (2, .ref x)]) (st' := [.ref q, .ref x]) rfl ?_
  refine At.gf rfl (by decide) hq rfl ?_
  refine At.gf rfl (by decide) a8 hfc ?_
  refine At.clp (as := [.ref x, .int fc]) (rest := []) rfl (by decide) rfl (Nat.le_of_ble_eq_true rfl) (Nat.le_of_ble_eq_true rfl) (xrck_o (by decide) (by decide) hx (by decide)) (Nat.le_of_ble_eq_true rfl) (m_hold hx hxc (by omega) fc) ?_
  refine At.go (q := xm149) rfl 3 (pc' := 15) (L' := [(4, .int 0), (3, .int (hold e.2.2.2.2.1 fc)), (0, .ref q), (1, .int (Int32.ofNat i)), (2, .ref x)]) (st' := []) rfl ?_
  refine At.wk (L' := [(4, .int (Int32.ofNat 0)), (0, .ref q), (1, .int (Int32.ofNat i)), (2, .ref x), (3, .int (hold e.2.2.2.2.1 fc))]) (List.forall_mem_cons.mpr ⟨List.mem_of_getElem? (i := 0) rfl, (List.forall_mem_cons.mpr ⟨List.mem_of_getElem? (i := 2) rfl, (List.forall_mem_cons.mpr ⟨List.mem_of_getElem? (i := 3) rfl, (List.forall_mem_cons.mpr ⟨List.mem_of_getElem? (i := 4) rfl, (List.forall_mem_cons.mpr ⟨List.mem_of_getElem? (i := 1) rfl, (fun _ h => (List.not_mem_nil h).elim)⟩)⟩)⟩)⟩)⟩) (show ([4, 3, 0, 1, 2] : List Nat).Nodup by decide) ?_
  by_cases hh : (hold e.2.2.2.2.1 fc) = -1000000000
  · have hxs : prE if0 if1 os fc sc e2 i e = [] := if_pos hh
    rw [hxs]
    refine At.go (q := xm149) rfl 2 (pc' := 18) (L' := [(4, .int (Int32.ofNat 0)), (0, .ref q), (1, .int (Int32.ofNat i)), (2, .ref x), (3, .int (hold e.2.2.2.2.1 fc))]) (st' := [.ref q, .int (Int32.ofNat 0)]) rfl ?_
    refine At.gf rfl (by decide) hq rfl ?_
    refine At.clp (as := [.ref l2]) (rest := [.int (Int32.ofNat 0)]) rfl (by decide) rfl (Nat.le_of_ble_eq_true rfl) (Nat.le_of_ble_eq_true rfl) (xrck_o (by decide) (by decide) h20 (by decide)) (Nat.le_of_ble_eq_true rfl) (m_size a6) ?_
    refine At.ic2 (tgt := 98) rfl rfl (fun _ => ?_) (fun _ => ?_)
    · exact At.rt rfl rfl ⟨_, _, _, _, rfl, rfl, pa, ps, vs, FrX.rf, hq, hpa, (List.append_nil _).symm, hn, Nat.le_max_left _ _, Nat.le_refl _, by omega, by omega, Or.inl rfl, hvN, hsa⟩
    · refine At.go (q := xm149) rfl 2 (pc' := 30) (L' := [(4, .int (Int32.ofNat 0)), (0, .ref q), (1, .int (Int32.ofNat i)), (2, .ref x), (3, .int (hold e.2.2.2.2.1 fc))]) (st' := [.int (-1000000000), .int (hold e.2.2.2.2.1 fc)]) rfl ?_
      refine At.ic2 (tgt := 98) rfl rfl (fun _ => ?_) (fun h => absurd (h.symm.trans (decide_eq_true hh)) (by decide))
      exact At.rt rfl rfl ⟨_, _, _, _, rfl, rfl, pa, ps, vs, FrX.rf, hq, hpa, (List.append_nil _).symm, hn, Nat.le_max_left _ _, Nat.le_refl _, by omega, by omega, Or.inl rfl, hvN, hsa⟩
  · refine (pr_loop hsc hh hN hN2 hnm hif hmok hbig e2.length 0 hp pa n ps vs (Nat.zero_add _) hA hO hX hq hpa hn hpl hnk hsa hvN).mono (fun o ho => ?_)
    obtain ⟨hp9, c1, s1, x1, x2⟩ := ho
    rw [List.drop_zero] at x2
    have hxs : prE if0 if1 os fc sc e2 i e = prL _ (i * e2.length) 0 e2 := if_neg hh
    exact ⟨_, _, _, _, x1, rfl, by rw [hxs, Nat.zero_add, Nat.zero_add]; exact x2⟩
theorem prE_len {if0 if1 : Nat} {os : List (Nat × Int32)} {fc sc : Int32} {e2 : List En} {i : Nat} {e : En} : (prE if0 if1 os fc sc e2 i e).length ≤ e2.length := by
  unfold prE
  split
  · exact Nat.zero_le _
  · exact prL_len _ _ _ _
theorem pk_loop0 {S : List Int32} {q N : Nat} {st mn l1 l2 li ln : Nat} {kp off so dn lc wd : Int32} {c ka fa oa aa pa9 sa wa if0 if1 items vb : Nat} {kd fr : Nat → Nat} {ws : Value} {es9 mf sf : List Value} {gs : List Int32} {os : List (Nat × Int32)} {as bs : List Nat} {e1 e2 : List En} {jn : Int32} (hN : os.length ≤ N) (hN2 : N ≤ 1000) (hnm : ∀ (i : Nat) (q : Nat × Int32), os[i]? = some q → q.1 = 3 → ∃ j : Nat, j ≤ 100000 ∧ q.2 = Int32.ofNat j) (hif : if1 ≤ os.length) (hjn : sf[6]? = some (.int jn)) (hneg : jn < 0) (hmok : ∀ e ∈ e1, (if0 < if1 → (resR e.2.2.1 (fun g => cellE e.2.2.2.2.1 [] g.toNatClampNeg) ((os.take if1).drop if0) []).isSome = true)) : ∀ (k i : Nat) (hp : List XC) (pa n : Nat) (ps vs : List Int32) {nc ns : Nat}, i + k = e1.length → PkS hp st mn l1 l2 c ka fa oa aa pa9 sa wa if0 if1 items vb kd fr ws es9 mf sf gs os as bs e1 e2 → Own hp → hp[q]? = some (.inr (7, [.ref st, .ref mn, .ref l1, .ref l2, .ref pa, .int (Int32.ofNat n), .ref li, .int kp, .int off, .int so, .int dn, .ref ln, .int lc, .int wd])) → hp[pa]? = some (.inl (18, ps.map Value.int)) → n ≤ ps.length → ps.length ≤ 40000 → n + k * 1 ≤ 19000 → hp[sa]? = some (.inl (16, vs.map Value.int)) → vs.length = N →
    At S 7 141 7 [(1, .int (Int32.ofNat i)), (0, .ref q)] [] hp nc ns (fun o => ∃ hp' c1 s1, o = .inl (none, hp', nc + c1, ns + s1) ∧ PqR hp hp' q st mn l1 l2 pa n li ln kp off so dn lc wd sa N ps ((plJ (onE if0 if1 os) i (e1.drop i)).map Int32.ofNat) c1 s1) := by
  intro k
  induction k with
  | zero =>
    intro i hp pa n ps vs nc ns hi hA hO hq hpa hn hpl hnk hsa hvN
    have hAA := hA
    obtain ⟨a1, a2, a3, a4, a5, a6, a7, a8⟩ := hAA
    obtain ⟨f1, h10⟩ := a4.ob
    have hb := a5.1
    have hbl := a4.len
    refine At.go (q := xm141) rfl 2 (pc' := 9) (L' := [(1, .int (Int32.ofNat i)), (0, .ref q)]) (st' := [.ref q, .int (Int32.ofNat i)]) rfl ?_
    refine At.gf rfl (by decide) hq rfl ?_
    refine At.clp (as := [.ref l1]) (rest := [.int (Int32.ofNat i)]) rfl (by decide) rfl (Nat.le_of_ble_eq_true rfl) (Nat.le_of_ble_eq_true rfl) (xrck_o (by decide) (by decide) h10 (by decide)) (Nat.le_of_ble_eq_true rfl) (m_size a4) ?_
    refine At.ic2 (tgt := 72) rfl rfl (fun _ => ?_) (fun h => absurd (decide_eq_true ((iN_le (a := as.length) (b := i) (by omega) (by omega)).mpr (by omega))) (by rw [show decide (Int32.ofNat as.length ≤ Int32.ofNat i) = false from h]; decide))
    rw [List.drop_eq_nil_of_le (show e1.length ≤ i by omega)]
    exact At.rt rfl rfl ⟨hp, 0, 0, rfl, pa, ps, vs, FrX.rf, hq, hpa, (List.append_nil _).symm, hn, Nat.le_max_left _ _, Nat.le_refl _, by omega, by omega, Or.inl rfl, hvN, hsa⟩
  | succ k ih =>
    intro i hp pa n ps vs nc ns hi hA hO hq hpa hn hpl hnk hsa hvN
    have hAA := hA
    obtain ⟨a1, a2, a3, a4, a5, a6, a7, a8⟩ := hAA
    obtain ⟨f1, h10⟩ := a4.ob
    have hb := a5.1
    have hbl := a4.len
    rw [Nat.succ_mul] at hnk
    obtain ⟨e, he⟩ : ∃ e, e1[i]? = some e := ⟨_, List.getElem?_eq_getElem (by omega)⟩
    have hem := List.mem_of_getElem? he
    obtain ⟨x, hx0, hX⟩ := a5.get he
    have hX9 := hX
    obtain ⟨c9, xf, hx, -, -, -⟩ := hX9
    rw [xdrop_q (l := e1) (i := i), he, Option.toList_some, List.singleton_append]
    unfold plJ
    refine At.go (q := xm141) rfl 2 (pc' := 9) (L' := [(1, .int (Int32.ofNat i)), (0, .ref q)]) (st' := [.ref q, .int (Int32.ofNat i)]) rfl ?_
    refine At.gf rfl (by decide) hq rfl ?_
    refine At.clp (as := [.ref l1]) (rest := [.int (Int32.ofNat i)]) rfl (by decide) rfl (Nat.le_of_ble_eq_true rfl) (Nat.le_of_ble_eq_true rfl) (xrck_o (by decide) (by decide) h10 (by decide)) (Nat.le_of_ble_eq_true rfl) (m_size a4) ?_
    refine At.ic2 (tgt := 72) rfl rfl (fun h => absurd ((iN_le (a := as.length) (b := i) (by omega) (by omega)).mp (of_decide_eq_true h)) (by omega)) (fun _ => ?_)
    refine At.go (q := xm141) rfl 1 (pc' := 19) (L' := [(1, .int (Int32.ofNat i)), (0, .ref q)]) (st' := [.ref q]) rfl ?_
    refine At.gf rfl (by decide) hq rfl ?_
    refine At.go (q := xm141) rfl 1 (pc' := 23) (L' := [(1, .int (Int32.ofNat i)), (0, .ref q)]) (st' := [.int (Int32.ofNat i), .ref l1]) rfl ?_
    refine At.clp (as := [.ref l1, .int (Int32.ofNat i)]) (rest := []) rfl (by decide) rfl (Nat.le_of_ble_eq_true rfl) (Nat.le_of_ble_eq_true rfl) (xrck_o (by decide) (by decide) h10 (by decide)) (Nat.le_of_ble_eq_true rfl) (m_get a4 hx0) ?_
    refine At.ca rfl hx (by decide) ?_
    refine At.go (q := xm141) rfl 2 (pc' := 31) (L' := [(2, .ref x), (1, .int (Int32.ofNat i)), (0, .ref q)]) (st' := [.ref q]) rfl ?_
    refine At.gf rfl (by decide) hq rfl ?_
    refine At.gf rfl (by decide) a2 hjn ?_
    refine At.ic1 (tgt := 60) rfl rfl (fun h => absurd (of_decide_eq_true h) (Int32.not_le.mpr hneg)) (fun _ => ?_)
    refine At.go (q := xm141) rfl 1 (pc' := 41) (L' := [(2, .ref x), (1, .int (Int32.ofNat i)), (0, .ref q)]) (st' := [.ref q]) rfl ?_
    refine At.gf rfl (by decide) hq rfl ?_
    refine At.go (q := xm141) rfl 2 (pc' := 46) (L' := [(2, .ref x), (1, .int (Int32.ofNat i)), (0, .ref q)]) (st' := [.null, .ref x, .ref st]) rfl ?_
    refine At.clm (as := [.ref st, .ref x, .null]) (rest := []) rfl (by decide) rfl (Nat.le_of_ble_eq_true rfl) (Nat.le_of_ble_eq_true rfl) (xrck_o (by decide) (by decide) a2 (by decide)) (Nat.le_of_ble_eq_true rfl) (m_isMeant1 a1 hX a3 hsa (by omega) (by omega) hnm hif (hmok e hem)) (fun v9 hp1 c1 s1 hv9 => ?_)
    obtain ⟨rfl, ⟨vs2, hl2v, rfl⟩, rfl, rfl⟩ := hv9
    obtain ⟨h1, eh1⟩ : ∃ h, h = hp.set sa (.inl (16, vs2.map Value.int)) := ⟨_, rfl⟩
    refine At.hpe eh1 ?_
    have g1 : FrX (fun x => x = sa) hp h1 := by rw [eh1]; exact FrX.st hsa rfl rfl rfl rfl (fun fs h => by cases h) (fun ci fs h => by cases h)
    have g2 : FrX (PqP q sa pa) hp h1 := g1.mono (fun x _ h => Or.inr (Or.inl h))
    have hq1 := g1.ob hq (by decide) (fun e => xn_ra hq hsa e)
    have hpa1 := g1.2.2.1 _ _ hpa rfl (Or.inl (fun e => xn_kd hpa hsa (by decide) e))
    have hsa1 : h1[sa]? = some (.inl (16, vs2.map Value.int)) := by rw [eh1]; exact xs_eq hsa
    have hA1 := hA.fr g2 hO hq hsa hpa
    have hO1 := g1.2.1 hO
    refine At.ic1 (tgt := 66) rfl rfl (fun h49 => ?_) (fun h49 => ?_)
    · have hF : onE if0 if1 os i e = [] := if_neg (fun h => absurd (Eq.trans h.symm (bI0 (of_decide_eq_true h49))) (by decide))
      refine At.go (q := xm141) rfl 2 (pc' := 7) (L' := [(1, .int ((Int32.ofNat i) + 1)), (2, .ref x), (0, .ref q)]) (st' := []) rfl ?_
      rw [iN_s]
      refine At.wk (L' := [(1, .int (Int32.ofNat (i + 1))), (0, .ref q)]) (List.forall_mem_cons.mpr ⟨List.mem_of_getElem? (i := 0) rfl, (List.forall_mem_cons.mpr ⟨List.mem_of_getElem? (i := 2) rfl, (fun _ h => (List.not_mem_nil h).elim)⟩)⟩) (show ([1, 2, 0] : List Nat).Nodup by decide) ?_
      rw [hF]
      refine (ih (i + 1) h1 pa n ps vs2 (by omega) hA1 hO1 hq1 hpa1 hn hpl (by omega) hsa1 (by omega)).mono (fun o ho => ?_)
      obtain ⟨hp9, c1, s1, x1, x2⟩ := ho
      have x3 := PqR.tr (xs := []) (c1 := 0) (s1 := 0) g2 (List.append_nil _).symm hn (Nat.le_max_left _ _) (Nat.le_refl _) (by omega) (by omega) (Or.inl rfl) x2
      rw [Nat.zero_add, Nat.zero_add] at x3
      exact ⟨hp9, c1, s1, x1, x3⟩
    · have hF : onE if0 if1 os i e = [i] := if_pos (bI1 (of_decide_eq_false h49))
      refine At.go (q := xm141) rfl 2 (pc' := 54) (L' := [(2, .ref x), (1, .int (Int32.ofNat i)), (0, .ref q)]) (st' := [.int (Int32.ofNat i), .ref q]) rfl ?_
      refine At.clm (as := [.ref q, .int (Int32.ofNat i)]) (rest := []) rfl (by decide) rfl (Nat.le_of_ble_eq_true rfl) (Nat.le_of_ble_eq_true rfl) (xrck_o (by decide) (by decide) hq1 (by decide)) (Nat.le_of_ble_eq_true rfl) (m_addPicked (Int32.ofNat i) hq1 hpa1 hn hpl) (fun v9 h2 c2 s2 hv9 => ?_)
      obtain ⟨rfl, pa2, ps2, u1, u2, u3, u4, u5, u6, u7, u8, u9, u10⟩ := hv9
      refine At.go (q := xm141) rfl 1 (pc' := 66) (L' := [(2, .ref x), (1, .int (Int32.ofNat i)), (0, .ref q)]) (st' := []) rfl ?_
      refine At.go (q := xm141) rfl 2 (pc' := 7) (L' := [(1, .int ((Int32.ofNat i) + 1)), (2, .ref x), (0, .ref q)]) (st' := []) rfl ?_
      rw [iN_s]
      refine At.wk (L' := [(1, .int (Int32.ofNat (i + 1))), (0, .ref q)]) (List.forall_mem_cons.mpr ⟨List.mem_of_getElem? (i := 0) rfl, (List.forall_mem_cons.mpr ⟨List.mem_of_getElem? (i := 2) rfl, (fun _ h => (List.not_mem_nil h).elim)⟩)⟩) (show ([1, 2, 0] : List Nat).Nodup by decide) ?_
      have g3 : FrX (PqP q sa pa) h1 h2 := u1.mono (fun x _ h => h.elim Or.inl (fun h => Or.inr (Or.inr h)))
      have hsa2 := u1.2.2.1 _ _ hsa1 rfl (Or.inl (fun e => e.elim (fun e => xn_ar hsa1 hq1 e) (fun e => xn_kd hsa1 hpa1 (by decide) e)))
      rw [List.length_singleton] at u2 u4 u5 u6
      have gl := g2.1
      rw [hF]
      refine (ih (i + 1) h2 pa2 (n + 1) ps2 vs2 (by omega) (hA1.fr g3 hO1 hq1 hsa1 hpa1) (u1.2.1 hO1) u2 u3 u5 (by omega) (by omega) hsa2 (by omega)).mono (fun o ho => ?_)
      obtain ⟨hp9, c1, s1, x1, x2⟩ := ho
      exact ⟨hp9, c2 + c1, s2 + s1, x1.trans (xo_eq (by omega) (by omega)), PqR.tr (xs := [Int32.ofNat i]) (FrX.tr g2 g3 (fun x h => Or.inl h)) u4 u5 u6 u7 u8 u9 (u10.elim Or.inl (fun h => Or.inr (by omega))) x2⟩
theorem pk_loopJ {S : List Int32} {q N : Nat} {st mn l1 l2 li ln : Nat} {kp off so dn lc wd : Int32} {c ka fa oa aa pa9 sa wa if0 if1 items vb : Nat} {kd fr : Nat → Nat} {ws : Value} {es9 mf sf : List Value} {gs : List Int32} {os : List (Nat × Int32)} {as bs : List Nat} {e1 e2 : List En} {jn : Int32} (hN : os.length ≤ N) (hN2 : N ≤ 1000) (hnm : ∀ (i : Nat) (q : Nat × Int32), os[i]? = some q → q.1 = 3 → ∃ j : Nat, j ≤ 100000 ∧ q.2 = Int32.ofNat j) (hif : if1 ≤ os.length) (hjn : sf[6]? = some (.int jn)) (hnn : ¬ jn < 0) {fc sc : Int32} (hfc : mf[7]? = some (.int fc)) (hsc : mf[8]? = some (.int sc)) (hmok : ∀ e ∈ e1, ∀ r ∈ e2, (if0 < if1 → (resR (joinE e.2.2.1 r.2.2.1) (fun g => cellE e.2.2.2.2.1 r.2.2.2.2.1 g.toNatClampNeg) ((os.take if1).drop if0) []).isSome = true)) (hbig : e1.length * e2.length ≤ 19000) : ∀ (k i : Nat) (hp : List XC) (pa n : Nat) (ps vs : List Int32) {nc ns : Nat}, i + k = e1.length → PkS hp st mn l1 l2 c ka fa oa aa pa9 sa wa if0 if1 items vb kd fr ws es9 mf sf gs os as bs e1 e2 → Own hp → hp[q]? = some (.inr (7, [.ref st, .ref mn, .ref l1, .ref l2, .ref pa, .int (Int32.ofNat n), .ref li, .int kp, .int off, .int so, .int dn, .ref ln, .int lc, .int wd])) → hp[pa]? = some (.inl (18, ps.map Value.int)) → n ≤ ps.length → ps.length ≤ 40000 → n + k * e2.length ≤ 19000 → hp[sa]? = some (.inl (16, vs.map Value.int)) → vs.length = N →
    At S 7 141 7 [(1, .int (Int32.ofNat i)), (0, .ref q)] [] hp nc ns (fun o => ∃ hp' c1 s1, o = .inl (none, hp', nc + c1, ns + s1) ∧ PqR hp hp' q st mn l1 l2 pa n li ln kp off so dn lc wd sa N ps ((plJ (prE if0 if1 os fc sc e2) i (e1.drop i)).map Int32.ofNat) c1 s1) := by
  intro k
  induction k with
  | zero =>
    intro i hp pa n ps vs nc ns hi hA hO hq hpa hn hpl hnk hsa hvN
    have hAA := hA
    obtain ⟨a1, a2, a3, a4, a5, a6, a7, a8⟩ := hAA
    obtain ⟨f1, h10⟩ := a4.ob
    have hb := a5.1
    have hbl := a4.len
    refine At.go (q := xm141) rfl 2 (pc' := 9) (L' := [(1, .int (Int32.ofNat i)), (0, .ref q)]) (st' := [.ref q, .int (Int32.ofNat i)]) rfl ?_
    refine At.gf rfl (by decide) hq rfl ?_
    refine At.clp (as := [.ref l1]) (rest := [.int (Int32.ofNat i)]) rfl (by decide) rfl (Nat.le_of_ble_eq_true rfl) (Nat.le_of_ble_eq_true rfl) (xrck_o (by decide) (by decide) h10 (by decide)) (Nat.le_of_ble_eq_true rfl) (m_size a4) ?_
    refine At.ic2 (tgt := 72) rfl rfl (fun _ => ?_) (fun h => absurd (decide_eq_true ((iN_le (a := as.length) (b := i) (by omega) (by omega)).mpr (by omega))) (by rw [show decide (Int32.ofNat as.length ≤ Int32.ofNat i) = false from h]; decide))
    rw [List.drop_eq_nil_of_le (show e1.length ≤ i by omega)]
    exact At.rt rfl rfl ⟨hp, 0, 0, rfl, pa, ps, vs, FrX.rf, hq, hpa, (List.append_nil _).symm, hn, Nat.le_max_left _ _, Nat.le_refl _, by omega, by omega, Or.inl rfl, hvN, hsa⟩
  | succ k ih =>
    intro i hp pa n ps vs nc ns hi hA hO hq hpa hn hpl hnk hsa hvN
    have hAA := hA
    obtain ⟨a1, a2, a3, a4, a5, a6, a7, a8⟩ := hAA
    obtain ⟨f1, h10⟩ := a4.ob
    have hb := a5.1
    have hbl := a4.len
    rw [Nat.succ_mul] at hnk
    obtain ⟨e, he⟩ : ∃ e, e1[i]? = some e := ⟨_, List.getElem?_eq_getElem (by omega)⟩
    have hem := List.mem_of_getElem? he
    obtain ⟨x, hx0, hX⟩ := a5.get he
    have hX9 := hX
    obtain ⟨c9, xf, hx, -, -, -⟩ := hX9
    rw [xdrop_q (l := e1) (i := i), he, Option.toList_some, List.singleton_append]
    unfold plJ
    have hib : i * e2.length + e2.length ≤ 100000 := by
      have h1 : (i + 1) * e2.length ≤ e1.length * e2.length := Nat.mul_le_mul_right _ (by omega)
      rw [Nat.succ_mul] at h1
      omega
    refine At.go (q := xm141) rfl 2 (pc' := 9) (L' := [(1, .int (Int32.ofNat i)), (0, .ref q)]) (st' := [.ref q, .int (Int32.ofNat i)]) rfl ?_
    refine At.gf rfl (by decide) hq rfl ?_
    refine At.clp (as := [.ref l1]) (rest := [.int (Int32.ofNat i)]) rfl (by decide) rfl (Nat.le_of_ble_eq_true rfl) (Nat.le_of_ble_eq_true rfl) (xrck_o (by decide) (by decide) h10 (by decide)) (Nat.le_of_ble_eq_true rfl) (m_size a4) ?_
    refine At.ic2 (tgt := 72) rfl rfl (fun h => absurd ((iN_le (a := as.length) (b := i) (by omega) (by omega)).mp (of_decide_eq_true h)) (by omega)) (fun _ => ?_)
    refine At.go (q := xm141) rfl 1 (pc' := 19) (L' := [(1, .int (Int32.ofNat i)), (0, .ref q)]) (st' := [.ref q]) rfl ?_
    refine At.gf rfl (by decide) hq rfl ?_
    refine At.go (q := xm141) rfl 1 (pc' := 23) (L' := [(1, .int (Int32.ofNat i)), (0, .ref q)]) (st' := [.int (Int32.ofNat i), .ref l1]) rfl ?_
    refine At.clp (as := [.ref l1, .int (Int32.ofNat i)]) (rest := []) rfl (by decide) rfl (Nat.le_of_ble_eq_true rfl) (Nat.le_of_ble_eq_true rfl) (xrck_o (by decide) (by decide) h10 (by decide)) (Nat.le_of_ble_eq_true rfl) (m_get a4 hx0) ?_
    refine At.ca rfl hx (by decide) ?_
    refine At.go (q := xm141) rfl 2 (pc' := 31) (L' := [(2, .ref x), (1, .int (Int32.ofNat i)), (0, .ref q)]) (st' := [.ref q]) rfl ?_
    refine At.gf rfl (by decide) hq rfl ?_
    refine At.gf rfl (by decide) a2 hjn ?_
    refine At.ic1 (tgt := 60) rfl rfl (fun _ => ?_) (fun h => absurd (Int32.not_lt.mp hnn) (fun q => of_decide_eq_false h q))
    refine At.go (q := xm141) rfl 3 (pc' := 63) (L' := [(2, .ref x), (1, .int (Int32.ofNat i)), (0, .ref q)]) (st' := [.ref x, .int (Int32.ofNat i), .ref q]) rfl ?_
    refine At.clm (as := [.ref q, .int (Int32.ofNat i), .ref x]) (rest := []) rfl (by decide) rfl (Nat.le_of_ble_eq_true rfl) (Nat.le_of_ble_eq_true rfl) (xrck_o (by decide) (by decide) hq (by decide)) (Nat.le_of_ble_eq_true rfl) (m_pickPairs hN hN2 hnm hif hfc hsc (hmok e hem) hib hX hA hO hq hpa hn hpl hsa hvN (by omega)) (fun v9 h2 c2 s2 hv9 => ?_)
    obtain ⟨rfl, pa2, ps2, vs2, u1, u2, u3, u4, u5, u6, u7, u8, u9, u10, u11, u12⟩ := hv9
    refine At.go (q := xm141) rfl 2 (pc' := 7) (L' := [(1, .int ((Int32.ofNat i) + 1)), (2, .ref x), (0, .ref q)]) (st' := []) rfl ?_
    rw [iN_s]
    refine At.wk (L' := [(1, .int (Int32.ofNat (i + 1))), (0, .ref q)]) (List.forall_mem_cons.mpr ⟨List.mem_of_getElem? (i := 0) rfl, (List.forall_mem_cons.mpr ⟨List.mem_of_getElem? (i := 2) rfl, (fun _ h => (List.not_mem_nil h).elim)⟩)⟩) (show ([1, 2, 0] : List Nat).Nodup by decide) ?_
    have hlx : ((prE if0 if1 os fc sc e2 i e).map Int32.ofNat).length ≤ e2.length := by rw [List.length_map]; exact prE_len
    rw [List.map_append]
    refine (ih (i + 1) h2 pa2 (n + ((prE if0 if1 os fc sc e2 i e).map Int32.ofNat).length) ps2 vs2 (by omega) (hA.fr u1 hO hq hsa hpa) (u1.2.1 hO) u2 u3 u5 (by omega) (by omega) u12 u11).mono (fun o ho => ?_)
    obtain ⟨hp9, c1, s1, x1, x2⟩ := ho
    exact ⟨hp9, c2 + c1, s2 + s1, x1.trans (xo_eq (by omega) (by omega)), PqR.tr u1 u4 u5 u6 u7 u8 u9 u10 x2⟩
