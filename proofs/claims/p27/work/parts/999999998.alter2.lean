/-! alterSeen once more: what is looked at need not be the change's own (made by wip/p27/c999999998a.py out of 9995 and 9996) -/
theorem alt_cut_2 {S : List Int32} {TI : Nat → Tb} {d l g g0 k m mc s c ka fa oa aa pa sa wa tb if0 if1 items vb ch t mm N nb : Nat} {lb gi : Int32} {kd fr : Nat → Nat} {ws glv : Value} {es9 mf ces sf : List Value} {gs : List Int32} {os : List (Nat × Int32)} {sr : Int32} {ks : List Nat} {ls : List En} (hlt : ¬ l = t) (hlm : ¬ l = mm) (htm : ¬ t = mm) (hkl : ¬ k = l) (hkt : ¬ k = t) (hkm : ¬ k = mm) (hm4 : mf[4]? = some (.ref tb)) (h2v : sf[2]? = some (.retAddr vb)) (hN : os.length ≤ N) (hN2 : N ≤ 1000) (hnm : ∀ (i : Nat) (q : Nat × Int32), os[i]? = some q → q.1 = 3 → ∃ j : Nat, j ≤ 100000 ∧ q.2 = Int32.ofNat j) (hif : if1 ≤ os.length) (hmok : ∀ r ∈ ls, if0 < if1 → (resR r.2.2.1 (fun g => cellE r.2.2.2.2.1 [] g.toNatClampNeg) ((os.take if1).drop if0) []).isSome = true) (hnb : nb ≤ 20000) (e18 : xeq xKC (.retAddr vb) (.retAddr 18) = some false) : ∀ (n : Nat) (hp : List XC) (last : Option (Nat × En)) (as ta ma : List Nat) (es ts ms : List En) (vs : List Int32) (al : Nat) {nc ns : Nat}, n ≤ ls.length → AltS TI hp d l g k m mc s c ka fa oa aa pa sa wa tb if0 if1 items vb kd fr ws glv es9 mf ces sf gs os sr ks ls → Own hp → hp[ch]? = some (.inr (3, [.ref d, .ref t, .ref mm, .ref g0, .int lb, .int (Int32.ofNat al), .int gi])) → hLs hp l as → hLs hp t ta → hLs hp mm ma → hEs hp as es → hEs hp ta ts → hEs hp ma ms → Srt es → es.length + n ≤ nb → ts.length + n ≤ nb → ms.length + n ≤ nb → hp[sa]? = some (.inl (16, vs.map Value.int)) → vs.length = N → (∀ q, last = some q → hEn hp q.1 q.2) → al + n ≤ 100000 →
    At S 9 193 11 [(5, .int (Int32.ofNat n - 1)), (4, (lastV last)), (0, .ref ch), (1, .ref s), (2, .ref m), (3, .ref g)] [] hp nc ns (fun o => ∃ hp' c1 s1, o = .inl (none, hp', nc + c1, ns + s1) ∧ AltR hp hp' ch l t mm sa d g0 lb gi (al + (altP sr (fun r => mntB if0 if1 (resE r.2.2.1 (fun g => cellE r.2.2.2.2.1 [] g.toNatClampNeg) ((os.take if1).drop if0))) (last.map (fun q => q.2.2.1)) (ls.take n).reverse).length) nb N ((altP sr (fun r => mntB if0 if1 (resE r.2.2.1 (fun g => cellE r.2.2.2.2.1 [] g.toNatClampNeg) ((os.take if1).drop if0))) (last.map (fun q => q.2.2.1)) (ls.take n).reverse).foldl (stepC lb) (es, ts, ms)) (altP sr (fun r => mntB if0 if1 (resE r.2.2.1 (fun g => cellE r.2.2.2.2.1 [] g.toNatClampNeg) ((os.take if1).drop if0))) (last.map (fun q => q.2.2.1)) (ls.take n).reverse).length c1 s1) := by
  intro n
  induction n with
  | zero =>
    intro hp last as ta ma es ts ms vs al nc ns hn hA hO hc hL hT hM hE hTs hMs hsr hl1 hl2 hl3 hsa hvN hla hal
    have hl9 := hE.1
    have ht9' := hTs.1
    have hm9' := hMs.1
    refine At.go (q := xm193) rfl 1 (pc' := 13) (L' := [(5, .int (Int32.ofNat 0 - 1)), (4, (lastV last)), (0, .ref ch), (1, .ref s), (2, .ref m), (3, .ref g)]) (st' := [.int (Int32.ofNat 0 - 1)]) rfl ?_
    refine At.ic1 (tgt := 119) rfl rfl (fun _ => ?_) (fun h => absurd h (by decide))
    exact At.rt rfl rfl ⟨hp, 0, 0, rfl, FrX.rf, hc, ⟨_, hL, hE⟩, ⟨_, hT, hTs⟩, ⟨_, hM, hMs⟩, ⟨vs, hvN, hsa⟩, Nat.le_refl _, Nat.le_refl _, Nat.le_refl _, by omega, by omega, Nat.le_max_left _ _, Nat.le_max_left _ _, Nat.le_max_left _ _⟩
  | succ n ih =>
    intro hp last as ta ma es ts ms vs al nc ns hn hA hO hc hL hT hM hE hTs hMs hsr hl1 hl2 hl3 hsa hvN hla hal
    have hAA := hA
    obtain ⟨a1, a2, a3, a4, a5, a6, a7, a8, a9, ⟨tf, a10⟩, a11⟩ := hAA
    have hbk := a3.len
    have hl9 := hE.1
    have ht9' := hTs.1
    have hm9' := hMs.1
    obtain ⟨r, hr⟩ : ∃ r, ls[n]? = some r := ⟨_, List.getElem?_eq_getElem (by omega)⟩
    have hrm := List.mem_of_getElem? hr
    obtain ⟨w, hw0, hX⟩ := a4.get hr
    have hX9 := hX
    obtain ⟨c9, xf, hx, -, -, hxt⟩ := hX9
    have hks : n < ks.length := by have := a4.1; omega
    have hrev : (ls.take (n + 1)).reverse = r :: (ls.take n).reverse := by rw [List.take_add_one, hr, List.reverse_append]; rfl
    rw [hrev, iN_m2]
    cases last with
    | none =>
      show At S 9 193 11 [(5, .int (Int32.ofNat n)), (4, .null), (0, .ref ch), (1, .ref s), (2, .ref m), (3, .ref g)] [] hp nc ns _
      refine At.go (q := xm193) rfl 1 (pc' := 13) (L' := [(5, .int (Int32.ofNat n)), (4, .null), (0, .ref ch), (1, .ref s), (2, .ref m), (3, .ref g)]) (st' := [.int (Int32.ofNat n)]) rfl ?_
      refine At.ic1 (tgt := 119) rfl rfl (fun h => absurd (h.symm.trans (decide_eq_false (iN_nn (by omega)))) (by decide)) (fun _ => ?_)
      refine At.go (q := xm193) rfl 2 (pc' := 19) (L' := [(5, .int (Int32.ofNat n)), (4, .null), (0, .ref ch), (1, .ref s), (2, .ref m), (3, .ref g)]) (st' := [.int (Int32.ofNat n), .ref g]) rfl ?_
      refine At.clp (as := [.ref g, .int (Int32.ofNat n)]) (rest := []) rfl (by decide) rfl (Nat.le_of_ble_eq_true rfl) (Nat.le_of_ble_eq_true rfl) (xrck_o (by decide) (by decide) a2 (by decide)) (Nat.le_of_ble_eq_true rfl) (m_sgget a2 a3 hw0 hx) ?_
      refine At.go (q := xm193) rfl 5 (pc' := 32) (L' := [(6, .ref w), (5, .int (Int32.ofNat n)), (4, .null), (0, .ref ch), (1, .ref s), (2, .ref m), (3, .ref g)]) (st' := [.ref m, .ref w]) rfl ?_
      refine At.gf rfl (by decide) a5 hm4 ?_
      refine At.clp (as := [.ref w, .ref tb]) (rest := []) rfl (by decide) rfl (Nat.le_of_ble_eq_true rfl) (Nat.le_of_ble_eq_true rfl) (xrck_o (by decide) (by decide) hx (by decide)) (Nat.le_of_ble_eq_true rfl) (m_isOf hx hxt a10) ?_
      refine At.ic1 (tgt := 113) rfl rfl (fun h38 => ?_) (fun h38 => ?_)
      · refine At.go (q := xm193) rfl 2 (pc' := 11) (L' := [(5, .int ((Int32.ofNat n) + (-1))), (6, .ref w), (4, .null), (0, .ref ch), (1, .ref s), (2, .ref m), (3, .ref g)]) (st' := []) rfl ?_
        rw [show Int32.ofNat n + (-1) = Int32.ofNat n - 1 from (Int32.sub_eq_add_neg _ _).symm]
        refine At.wk (L' := [(5, .int (Int32.ofNat n - 1)), (4, .null), (0, .ref ch), (1, .ref s), (2, .ref m), (3, .ref g)]) (List.forall_mem_cons.mpr ⟨List.mem_of_getElem? (i := 0) rfl, (List.forall_mem_cons.mpr ⟨List.mem_of_getElem? (i := 2) rfl, (List.forall_mem_cons.mpr ⟨List.mem_of_getElem? (i := 3) rfl, (List.forall_mem_cons.mpr ⟨List.mem_of_getElem? (i := 4) rfl, (List.forall_mem_cons.mpr ⟨List.mem_of_getElem? (i := 5) rfl, (List.forall_mem_cons.mpr ⟨List.mem_of_getElem? (i := 6) rfl, (fun _ h => (List.not_mem_nil h).elim)⟩)⟩)⟩)⟩)⟩)⟩) (show ([5, 6, 4, 0, 1, 2, 3] : List Nat).Nodup by decide) ?_
        have hP : altP sr (fun r => mntB if0 if1 (resE r.2.2.1 (fun g => cellE r.2.2.2.2.1 [] g.toNatClampNeg) ((os.take if1).drop if0))) ((none : Option (Nat × En)).map (fun q => q.2.2.1)) (r :: (ls.take n).reverse) = altP sr (fun r => mntB if0 if1 (resE r.2.2.1 (fun g => cellE r.2.2.2.2.1 [] g.toNatClampNeg) ((os.take if1).drop if0))) ((none : Option (Nat × En)).map (fun q => q.2.2.1)) (ls.take n).reverse := if_neg (fun h => of_decide_eq_false (bI0 (of_decide_eq_true h38)) h.1)
        rw [hP]
        exact ih hp none as ta ma es ts ms vs al (by omega) hA hO hc hL hT hM hE hTs hMs hsr (by omega) (by omega) (by omega) hsa hvN hla (by omega)
      · have hr1 : r.1 = sr := of_decide_eq_true (bI1 (of_decide_eq_false h38))
        refine At.go (q := xm193) rfl 5 (pc' := 63) (L' := [(6, .ref w), (5, .int (Int32.ofNat n)), (4, .null), (0, .ref ch), (1, .ref s), (2, .ref m), (3, .ref g)]) (st' := [.null, .ref w, .ref s]) rfl ?_
        refine At.clm (as := [.ref s, .ref w, .null]) (rest := []) rfl (by decide) rfl (Nat.le_of_ble_eq_true rfl) (Nat.le_of_ble_eq_true rfl) (xrck_o (by decide) (by decide) a8 (by decide)) (Nat.le_of_ble_eq_true rfl) (m_isMeant1 a7 hX a9 hsa (by omega) (by omega) hnm hif (hmok r hrm)) (fun v9 hp1 c1 s1 hv9 => ?_)
        obtain ⟨rfl, ⟨vs2, hl2v, rfl⟩, rfl, rfl⟩ := hv9
        obtain ⟨h1, eh1⟩ : ∃ h, h = hp.set sa (.inl (16, vs2.map Value.int)) := ⟨_, rfl⟩
        refine At.hpe eh1 ?_
        have g1 : FrX (fun x => x = sa) hp h1 := by rw [eh1]; exact FrX.st hsa rfl rfl rfl rfl (fun fs h => by cases h) (fun ci fs h => by cases h)
        have f1 : FrX (fun x => x = ch ∨ x = l ∨ x = t ∨ x = mm ∨ x = sa) hp h1 := g1.mono (fun x _ h => Or.inr (Or.inr (Or.inr (Or.inr h))))
        have np : ∀ z zs, hLs hp z zs → ¬ z = sa := fun z zs h e => by
          obtain ⟨lf, hl0⟩ := h.ob
          exact xn_ra hl0 hsa e
        have hc1 := g1.ob hc (by decide) (fun e => xn_ra hc hsa e)
        have hO1 := g1.2.1 hO
        have hL1 := g1.ls (np _ _ hL) hO hL
        have hT1 := g1.ls (np _ _ hT) hO hT
        have hM1 := g1.ls (np _ _ hM) hO hM
        have cL1 := g1.cap (np _ _ hL) hO hL
        have cT1 := g1.cap (np _ _ hT) hO hT
        have cM1 := g1.cap (np _ _ hM) hO hM
        have hsa1 : h1[sa]? = some (.inl (16, vs2.map Value.int)) := by rw [eh1]; exact xs_eq hsa
        have hA1 := hA.fr f1 hO hc hL hT hM hsa hkl hkt hkm
        refine At.ic1 (tgt := 72) rfl rfl (fun h66 => ?_) (fun h66 => ?_)
        · have hmt : (fun r => mntB if0 if1 (resE r.2.2.1 (fun g => cellE r.2.2.2.2.1 [] g.toNatClampNeg) ((os.take if1).drop if0))) r = true := bI1 (of_decide_eq_true h66)
          have hP : altP sr (fun r => mntB if0 if1 (resE r.2.2.1 (fun g => cellE r.2.2.2.2.1 [] g.toNatClampNeg) ((os.take if1).drop if0))) ((none : Option (Nat × En)).map (fun q => q.2.2.1)) (r :: (ls.take n).reverse) = r :: altP sr (fun r => mntB if0 if1 (resE r.2.2.1 (fun g => cellE r.2.2.2.2.1 [] g.toNatClampNeg) ((os.take if1).drop if0))) (some r.2.1) (ls.take n).reverse := if_pos ⟨hr1, (by intro h; cases h), hmt⟩
          refine At.go (q := xm193) rfl 4 (pc' := 78) (L' := [(4, .ref w), (6, .ref w), (5, .int (Int32.ofNat n)), (0, .ref ch), (1, .ref s), (2, .ref m), (3, .ref g)]) (st' := [.ref ch, .ref ch]) rfl ?_
          refine At.gf rfl (by decide) hc1 rfl ?_
          refine At.go (q := xm193) rfl 2 (pc' := 83) (L' := [(4, .ref w), (6, .ref w), (5, .int (Int32.ofNat n)), (0, .ref ch), (1, .ref s), (2, .ref m), (3, .ref g)]) (st' := [.int ((Int32.ofNat al) + 1), .ref ch]) rfl ?_
          refine At.pf rfl hc1 (Nat.le_of_ble_eq_true rfl) xfit_i ?_
          rw [iN_s]
          obtain ⟨h2, eh2⟩ : ∃ h, h = h1.set ch (.inr (3, [.ref d, .ref t, .ref mm, .ref g0, .int lb, .int (Int32.ofNat (al + 1)), .int gi])) := ⟨_, rfl⟩
          refine At.hpe eh2 ?_
          have g2 : FrX (fun x => x = ch) h1 h2 := by rw [eh2]; exact FrX.so hc1 (by decide) rfl (by decide)
          have f2a : FrX (fun x => x = ch ∨ x = l ∨ x = t ∨ x = mm ∨ x = sa) h1 h2 := g2.mono (fun x _ h => Or.inl h)
          have f2 : FrX (fun x => x = ch ∨ x = l ∨ x = t ∨ x = mm ∨ x = sa) hp h2 := FrX.tr f1 f2a (fun x h => Or.inl h)
          have hc2 : h2[ch]? = some (.inr (3, [.ref d, .ref t, .ref mm, .ref g0, .int lb, .int (Int32.ofNat (al + 1)), .int gi])) := by rw [eh2]; exact xs_eq hc1
          have nq : ∀ z zs, hLs h1 z zs → ¬ z = ch := fun z zs h e => ob_ne hc1 (by decide) h e.symm
          have hO2 := g2.2.1 hO1
          have hL2 := g2.ls (nq _ _ hL1) hO1 hL1
          have hT2 := g2.ls (nq _ _ hT1) hO1 hT1
          have hM2 := g2.ls (nq _ _ hM1) hO1 hM1
          have cL2 := g2.cap (nq _ _ hL1) hO1 hL1
          have cT2 := g2.cap (nq _ _ hT1) hO1 hT1
          have cM2 := g2.cap (nq _ _ hM1) hO1 hM1
          have hsa2 := g2.2.2.1 _ _ hsa1 rfl (Or.inl (fun e => xn_ar hsa1 hc1 e))
          have hA2 := hA1.fr f2a hO1 hc1 hL1 hT1 hM1 hsa1 hkl hkt hkm
          have hA22 := hA2
          obtain ⟨b1, b2, b3, b4, b5, b6, b7, b8, b9, ⟨tf2, b10⟩, b11⟩ := hA22
          have hX2 := hX.fr f2
          refine At.go (q := xm193) rfl 1 (pc' := 87) (L' := [(4, .ref w), (6, .ref w), (5, .int (Int32.ofNat n)), (0, .ref ch), (1, .ref s), (2, .ref m), (3, .ref g)]) (st' := [.ref s]) rfl ?_
          refine At.gf rfl (by decide) b8 h2v ?_
          refine At.go (q := xm193) rfl 1 (pc' := 93) (L' := [(4, .ref w), (6, .ref w), (5, .int (Int32.ofNat n)), (0, .ref ch), (1, .ref s), (2, .ref m), (3, .ref g)]) (st' := [.retAddr 18, .retAddr vb]) rfl ?_
          refine At.acn (tgt := 107) (b := false) rfl rfl e18 (fun h => ?_) (fun h => absurd h (by decide))
          refine At.go (q := xm193) rfl 2 (pc' := 110) (L' := [(4, .ref w), (6, .ref w), (5, .int (Int32.ofNat n)), (0, .ref ch), (1, .ref s), (2, .ref m), (3, .ref g)]) (st' := [.ref w, .ref ch]) rfl ?_
          refine At.clm (as := [.ref ch, .ref w]) (rest := []) rfl (by decide) rfl (Nat.le_of_ble_eq_true rfl) (Nat.le_of_ble_eq_true rfl) (xrck_o (by decide) (by decide) hc2 (by decide)) (Nat.le_of_ble_eq_true rfl) (m_cut hc2 b1 hlt hO2 hL2 hT2 (hE.fr f2) (hTs.fr f2) hsr hX2 (by omega) (by omega)) (fun v9 h3 c3 s3 hv9 => ?_)
          obtain ⟨rfl, q1, ⟨as3, q2, q2e⟩, ⟨ta3, q3, q3e⟩, q4, q5, q6, q7, q8, q9c⟩ := hv9
          have f3 : FrX (fun x => x = ch ∨ x = l ∨ x = t ∨ x = mm ∨ x = sa) h2 h3 := q1.mono (fun x _ h => h.elim (fun h => Or.inr (Or.inl h)) (fun h => Or.inr (Or.inr (Or.inl h))))
          have hM3 := q1.ls (fun e => e.elim (fun e => hlm e.symm) (fun e => htm e.symm)) hO2 hM2
          have cM3 := q1.cap (fun e => e.elim (fun e => hlm e.symm) (fun e => htm e.symm)) hO2 hM2
          have hMs3 := (hMs.fr f2).fr f3
          have hc3 := q1.ob hc2 (by decide) (fun e => e.elim (fun e => ob_ne hc2 (by decide) hL2 e) (fun e => ob_ne hc2 (by decide) hT2 e))
          have hsa3 : h3[sa]? = some (.inl (16, vs2.map Value.int)) := q1.2.2.1 _ _ hsa2 rfl (Or.inl (fun e => by
            obtain ⟨lf, hl0⟩ := hL2.ob
            obtain ⟨tf9, ht0⟩ := hT2.ob
            exact e.elim (fun e => xn_ar hsa2 hl0 e) (fun e => xn_ar hsa2 ht0 e)))
          have hlc := cutE_len hsr r lb
          have hlt3 : (cutT es r lb).length ≤ 1 := cutT_len
          have hnl : (ts ++ cutT es r lb).length ≤ ts.length + 1 := by rw [List.length_append]; omega
          refine At.go (q := xm193) rfl 2 (pc' := 11) (L' := [(5, .int ((Int32.ofNat n) + (-1))), (4, .ref w), (6, .ref w), (0, .ref ch), (1, .ref s), (2, .ref m), (3, .ref g)]) (st' := []) rfl ?_
          rw [show Int32.ofNat n + (-1) = Int32.ofNat n - 1 from (Int32.sub_eq_add_neg _ _).symm]
          refine At.wk (L' := [(5, .int (Int32.ofNat n - 1)), (4, .ref w), (0, .ref ch), (1, .ref s), (2, .ref m), (3, .ref g)]) (List.forall_mem_cons.mpr ⟨List.mem_of_getElem? (i := 0) rfl, (List.forall_mem_cons.mpr ⟨List.mem_of_getElem? (i := 1) rfl, (List.forall_mem_cons.mpr ⟨List.mem_of_getElem? (i := 3) rfl, (List.forall_mem_cons.mpr ⟨List.mem_of_getElem? (i := 4) rfl, (List.forall_mem_cons.mpr ⟨List.mem_of_getElem? (i := 5) rfl, (List.forall_mem_cons.mpr ⟨List.mem_of_getElem? (i := 6) rfl, (fun _ h => (List.not_mem_nil h).elim)⟩)⟩)⟩)⟩)⟩)⟩) (show ([5, 4, 6, 0, 1, 2, 3] : List Nat).Nodup by decide) ?_
          rw [hP]
          have f03 : FrX (fun x => x = ch ∨ x = l ∨ x = t ∨ x = mm ∨ x = sa) hp h3 := FrX.tr f2 f3 (fun x h => Or.inl h)
          refine (ih h3 (some (w, r)) as3 ta3 ma (cutE es r lb) (ts ++ cutT es r lb) ms vs2 (al + 1) (by omega) (hA2.fr f3 hO2 hc2 hL2 hT2 hM2 hsa2 hkl hkt hkm) (f3.2.1 hO2) hc3 q2 q3 hM3 q2e q3e hMs3 (cut_srt hsr) (by omega) (by omega) (by omega) hsa3 (by omega) (fun q hq => by cases hq; exact hX.fr f03) (by omega)).mono (fun o ho => ?_)
          obtain ⟨hp9, c1, s1, e1, e2⟩ := ho
          refine ⟨hp9, c3 + c1, s3 + s1, e1.trans (xo_eq (by omega) (by omega)), ?_⟩
          have r1 : AltR hp h3 ch l t mm sa d g0 lb gi (al + 1) nb N ((stepC lb) (es, ts, ms) r) 1 c3 s3 := ⟨f03, hc3, ⟨_, q2, q2e⟩, ⟨_, q3, q3e⟩, ⟨_, hM3, hMs3⟩, ⟨_, by omega, hsa3⟩, by omega, by omega, by omega, by omega, by omega, by omega, by omega, by omega⟩
          have r2 := r1.tr e2
          rw [List.foldl_cons, List.length_cons, Nat.add_comm _ 1, ← Nat.add_assoc]
          exact r2
        · refine At.go (q := xm193) rfl 3 (pc' := 11) (L' := [(5, .int ((Int32.ofNat n) + (-1))), (6, .ref w), (4, .null), (0, .ref ch), (1, .ref s), (2, .ref m), (3, .ref g)]) (st' := []) rfl ?_
          rw [show Int32.ofNat n + (-1) = Int32.ofNat n - 1 from (Int32.sub_eq_add_neg _ _).symm]
          refine At.wk (L' := [(5, .int (Int32.ofNat n - 1)), (4, .null), (0, .ref ch), (1, .ref s), (2, .ref m), (3, .ref g)]) (List.forall_mem_cons.mpr ⟨List.mem_of_getElem? (i := 0) rfl, (List.forall_mem_cons.mpr ⟨List.mem_of_getElem? (i := 2) rfl, (List.forall_mem_cons.mpr ⟨List.mem_of_getElem? (i := 3) rfl, (List.forall_mem_cons.mpr ⟨List.mem_of_getElem? (i := 4) rfl, (List.forall_mem_cons.mpr ⟨List.mem_of_getElem? (i := 5) rfl, (List.forall_mem_cons.mpr ⟨List.mem_of_getElem? (i := 6) rfl, (fun _ h => (List.not_mem_nil h).elim)⟩)⟩)⟩)⟩)⟩)⟩) (show ([5, 6, 4, 0, 1, 2, 3] : List Nat).Nodup by decide) ?_
          have hP : altP sr (fun r => mntB if0 if1 (resE r.2.2.1 (fun g => cellE r.2.2.2.2.1 [] g.toNatClampNeg) ((os.take if1).drop if0))) ((none : Option (Nat × En)).map (fun q => q.2.2.1)) (r :: (ls.take n).reverse) = altP sr (fun r => mntB if0 if1 (resE r.2.2.1 (fun g => cellE r.2.2.2.2.1 [] g.toNatClampNeg) ((os.take if1).drop if0))) ((none : Option (Nat × En)).map (fun q => q.2.2.1)) (ls.take n).reverse := if_neg (fun h => absurd (Eq.trans h.2.2.symm (bI0 (xne_f h66))) (by decide))
          rw [hP]
          refine (ih h1 none as ta ma es ts ms vs2 al (by omega) hA1 hO1 hc1 hL1 hT1 hM1 (hE.fr f1) (hTs.fr f1) (hMs.fr f1) hsr (by omega) (by omega) (by omega) hsa1 (by omega) (fun q hq => (hla q hq).fr f1) (by omega)).mono (fun o ho => ?_)
          obtain ⟨hp9, c1, s1, e1, e2⟩ := ho
          refine ⟨hp9, c1, s1, e1, ?_⟩
          have r1 : AltR hp h1 ch l t mm sa d g0 lb gi al nb N (es, ts, ms) 0 0 0 := ⟨f1, hc1, ⟨_, hL1, hE.fr f1⟩, ⟨_, hT1, hTs.fr f1⟩, ⟨_, hM1, hMs.fr f1⟩, ⟨vs2, by omega, hsa1⟩, by omega, by omega, by omega, by omega, by omega, by omega, by omega, by omega⟩
          have r2 := r1.tr e2
          rw [Nat.zero_add, Nat.zero_add, Nat.zero_add] at r2
          exact r2
    | some q9 =>
      have hq9 := hla q9 rfl
      have hq8 := hq9
      obtain ⟨c8, qf, hqx, -, -, -⟩ := hq8
      show At S 9 193 11 [(5, .int (Int32.ofNat n)), (4, .ref q9.1), (0, .ref ch), (1, .ref s), (2, .ref m), (3, .ref g)] [] hp nc ns _
      refine At.go (q := xm193) rfl 1 (pc' := 13) (L' := [(5, .int (Int32.ofNat n)), (4, .ref q9.1), (0, .ref ch), (1, .ref s), (2, .ref m), (3, .ref g)]) (st' := [.int (Int32.ofNat n)]) rfl ?_
      refine At.ic1 (tgt := 119) rfl rfl (fun h => absurd (h.symm.trans (decide_eq_false (iN_nn (by omega)))) (by decide)) (fun _ => ?_)
      refine At.go (q := xm193) rfl 2 (pc' := 19) (L' := [(5, .int (Int32.ofNat n)), (4, .ref q9.1), (0, .ref ch), (1, .ref s), (2, .ref m), (3, .ref g)]) (st' := [.int (Int32.ofNat n), .ref g]) rfl ?_
      refine At.clp (as := [.ref g, .int (Int32.ofNat n)]) (rest := []) rfl (by decide) rfl (Nat.le_of_ble_eq_true rfl) (Nat.le_of_ble_eq_true rfl) (xrck_o (by decide) (by decide) a2 (by decide)) (Nat.le_of_ble_eq_true rfl) (m_sgget a2 a3 hw0 hx) ?_
      refine At.go (q := xm193) rfl 5 (pc' := 32) (L' := [(6, .ref w), (5, .int (Int32.ofNat n)), (4, .ref q9.1), (0, .ref ch), (1, .ref s), (2, .ref m), (3, .ref g)]) (st' := [.ref m, .ref w]) rfl ?_
      refine At.gf rfl (by decide) a5 hm4 ?_
      refine At.clp (as := [.ref w, .ref tb]) (rest := []) rfl (by decide) rfl (Nat.le_of_ble_eq_true rfl) (Nat.le_of_ble_eq_true rfl) (xrck_o (by decide) (by decide) hx (by decide)) (Nat.le_of_ble_eq_true rfl) (m_isOf hx hxt a10) ?_
      refine At.ic1 (tgt := 113) rfl rfl (fun h38 => ?_) (fun h38 => ?_)
      · refine At.go (q := xm193) rfl 2 (pc' := 11) (L' := [(5, .int ((Int32.ofNat n) + (-1))), (6, .ref w), (4, .ref q9.1), (0, .ref ch), (1, .ref s), (2, .ref m), (3, .ref g)]) (st' := []) rfl ?_
        rw [show Int32.ofNat n + (-1) = Int32.ofNat n - 1 from (Int32.sub_eq_add_neg _ _).symm]
        refine At.wk (L' := [(5, .int (Int32.ofNat n - 1)), (4, .ref q9.1), (0, .ref ch), (1, .ref s), (2, .ref m), (3, .ref g)]) (List.forall_mem_cons.mpr ⟨List.mem_of_getElem? (i := 0) rfl, (List.forall_mem_cons.mpr ⟨List.mem_of_getElem? (i := 2) rfl, (List.forall_mem_cons.mpr ⟨List.mem_of_getElem? (i := 3) rfl, (List.forall_mem_cons.mpr ⟨List.mem_of_getElem? (i := 4) rfl, (List.forall_mem_cons.mpr ⟨List.mem_of_getElem? (i := 5) rfl, (List.forall_mem_cons.mpr ⟨List.mem_of_getElem? (i := 6) rfl, (fun _ h => (List.not_mem_nil h).elim)⟩)⟩)⟩)⟩)⟩)⟩) (show ([5, 6, 4, 0, 1, 2, 3] : List Nat).Nodup by decide) ?_
        have hP : altP sr (fun r => mntB if0 if1 (resE r.2.2.1 (fun g => cellE r.2.2.2.2.1 [] g.toNatClampNeg) ((os.take if1).drop if0))) (((some q9) : Option (Nat × En)).map (fun q => q.2.2.1)) (r :: (ls.take n).reverse) = altP sr (fun r => mntB if0 if1 (resE r.2.2.1 (fun g => cellE r.2.2.2.2.1 [] g.toNatClampNeg) ((os.take if1).drop if0))) (((some q9) : Option (Nat × En)).map (fun q => q.2.2.1)) (ls.take n).reverse := if_neg (fun h => of_decide_eq_false (bI0 (of_decide_eq_true h38)) h.1)
        rw [hP]
        exact ih hp (some q9) as ta ma es ts ms vs al (by omega) hA hO hc hL hT hM hE hTs hMs hsr (by omega) (by omega) (by omega) hsa hvN hla (by omega)
      · have hr1 : r.1 = sr := of_decide_eq_true (bI1 (of_decide_eq_false h38))
        refine At.go (q := xm193) rfl 3 (pc' := 48) (L' := [(6, .ref w), (5, .int (Int32.ofNat n)), (4, .ref q9.1), (0, .ref ch), (1, .ref s), (2, .ref m), (3, .ref g)]) (st' := [.ref q9.1]) rfl ?_
        refine At.gf rfl (by decide) hqx rfl ?_
        refine At.go (q := xm193) rfl 1 (pc' := 53) (L' := [(6, .ref w), (5, .int (Int32.ofNat n)), (4, .ref q9.1), (0, .ref ch), (1, .ref s), (2, .ref m), (3, .ref g)]) (st' := [.ref w, .int q9.2.2.1]) rfl ?_
        refine At.gf rfl (by decide) hx rfl ?_
        refine At.ic2 (tgt := 113) rfl rfl (fun h56 => ?_) (fun h56 => ?_)
        · refine At.go (q := xm193) rfl 2 (pc' := 11) (L' := [(5, .int ((Int32.ofNat n) + (-1))), (6, .ref w), (4, .ref q9.1), (0, .ref ch), (1, .ref s), (2, .ref m), (3, .ref g)]) (st' := []) rfl ?_
          rw [show Int32.ofNat n + (-1) = Int32.ofNat n - 1 from (Int32.sub_eq_add_neg _ _).symm]
          refine At.wk (L' := [(5, .int (Int32.ofNat n - 1)), (4, .ref q9.1), (0, .ref ch), (1, .ref s), (2, .ref m), (3, .ref g)]) (List.forall_mem_cons.mpr ⟨List.mem_of_getElem? (i := 0) rfl, (List.forall_mem_cons.mpr ⟨List.mem_of_getElem? (i := 2) rfl, (List.forall_mem_cons.mpr ⟨List.mem_of_getElem? (i := 3) rfl, (List.forall_mem_cons.mpr ⟨List.mem_of_getElem? (i := 4) rfl, (List.forall_mem_cons.mpr ⟨List.mem_of_getElem? (i := 5) rfl, (List.forall_mem_cons.mpr ⟨List.mem_of_getElem? (i := 6) rfl, (fun _ h => (List.not_mem_nil h).elim)⟩)⟩)⟩)⟩)⟩)⟩) (show ([5, 6, 4, 0, 1, 2, 3] : List Nat).Nodup by decide) ?_
          have hP : altP sr (fun r => mntB if0 if1 (resE r.2.2.1 (fun g => cellE r.2.2.2.2.1 [] g.toNatClampNeg) ((os.take if1).drop if0))) (((some q9) : Option (Nat × En)).map (fun q => q.2.2.1)) (r :: (ls.take n).reverse) = altP sr (fun r => mntB if0 if1 (resE r.2.2.1 (fun g => cellE r.2.2.2.2.1 [] g.toNatClampNeg) ((os.take if1).drop if0))) (((some q9) : Option (Nat × En)).map (fun q => q.2.2.1)) (ls.take n).reverse := if_neg (fun h => h.2.1 (congrArg some (of_decide_eq_true h56)))
          rw [hP]
          exact ih hp (some q9) as ta ma es ts ms vs al (by omega) hA hO hc hL hT hM hE hTs hMs hsr (by omega) (by omega) (by omega) hsa hvN hla (by omega)
        · have hlk : ¬ (some q9.2.2.1 : Option Int32) = some r.2.1 := fun h => of_decide_eq_false h56 (Option.some.inj h)
          refine At.go (q := xm193) rfl 3 (pc' := 63) (L' := [(6, .ref w), (5, .int (Int32.ofNat n)), (4, .ref q9.1), (0, .ref ch), (1, .ref s), (2, .ref m), (3, .ref g)]) (st' := [.null, .ref w, .ref s]) rfl ?_
          refine At.clm (as := [.ref s, .ref w, .null]) (rest := []) rfl (by decide) rfl (Nat.le_of_ble_eq_true rfl) (Nat.le_of_ble_eq_true rfl) (xrck_o (by decide) (by decide) a8 (by decide)) (Nat.le_of_ble_eq_true rfl) (m_isMeant1 a7 hX a9 hsa (by omega) (by omega) hnm hif (hmok r hrm)) (fun v9 hp1 c1 s1 hv9 => ?_)
          obtain ⟨rfl, ⟨vs2, hl2v, rfl⟩, rfl, rfl⟩ := hv9
          obtain ⟨h1, eh1⟩ : ∃ h, h = hp.set sa (.inl (16, vs2.map Value.int)) := ⟨_, rfl⟩
          refine At.hpe eh1 ?_
          have g1 : FrX (fun x => x = sa) hp h1 := by rw [eh1]; exact FrX.st hsa rfl rfl rfl rfl (fun fs h => by cases h) (fun ci fs h => by cases h)
          have f1 : FrX (fun x => x = ch ∨ x = l ∨ x = t ∨ x = mm ∨ x = sa) hp h1 := g1.mono (fun x _ h => Or.inr (Or.inr (Or.inr (Or.inr h))))
          have np : ∀ z zs, hLs hp z zs → ¬ z = sa := fun z zs h e => by
            obtain ⟨lf, hl0⟩ := h.ob
            exact xn_ra hl0 hsa e
          have hc1 := g1.ob hc (by decide) (fun e => xn_ra hc hsa e)
          have hO1 := g1.2.1 hO
          have hL1 := g1.ls (np _ _ hL) hO hL
          have hT1 := g1.ls (np _ _ hT) hO hT
          have hM1 := g1.ls (np _ _ hM) hO hM
          have cL1 := g1.cap (np _ _ hL) hO hL
          have cT1 := g1.cap (np _ _ hT) hO hT
          have cM1 := g1.cap (np _ _ hM) hO hM
          have hsa1 : h1[sa]? = some (.inl (16, vs2.map Value.int)) := by rw [eh1]; exact xs_eq hsa
          have hA1 := hA.fr f1 hO hc hL hT hM hsa hkl hkt hkm
          refine At.ic1 (tgt := 72) rfl rfl (fun h66 => ?_) (fun h66 => ?_)
          · have hmt : (fun r => mntB if0 if1 (resE r.2.2.1 (fun g => cellE r.2.2.2.2.1 [] g.toNatClampNeg) ((os.take if1).drop if0))) r = true := bI1 (of_decide_eq_true h66)
            have hP : altP sr (fun r => mntB if0 if1 (resE r.2.2.1 (fun g => cellE r.2.2.2.2.1 [] g.toNatClampNeg) ((os.take if1).drop if0))) (((some q9) : Option (Nat × En)).map (fun q => q.2.2.1)) (r :: (ls.take n).reverse) = r :: altP sr (fun r => mntB if0 if1 (resE r.2.2.1 (fun g => cellE r.2.2.2.2.1 [] g.toNatClampNeg) ((os.take if1).drop if0))) (some r.2.1) (ls.take n).reverse := if_pos ⟨hr1, hlk, hmt⟩
            refine At.go (q := xm193) rfl 4 (pc' := 78) (L' := [(4, .ref w), (6, .ref w), (5, .int (Int32.ofNat n)), (0, .ref ch), (1, .ref s), (2, .ref m), (3, .ref g)]) (st' := [.ref ch, .ref ch]) rfl ?_
            refine At.gf rfl (by decide) hc1 rfl ?_
            refine At.go (q := xm193) rfl 2 (pc' := 83) (L' := [(4, .ref w), (6, .ref w), (5, .int (Int32.ofNat n)), (0, .ref ch), (1, .ref s), (2, .ref m), (3, .ref g)]) (st' := [.int ((Int32.ofNat al) + 1), .ref ch]) rfl ?_
            refine At.pf rfl hc1 (Nat.le_of_ble_eq_true rfl) xfit_i ?_
            rw [iN_s]
            obtain ⟨h2, eh2⟩ : ∃ h, h = h1.set ch (.inr (3, [.ref d, .ref t, .ref mm, .ref g0, .int lb, .int (Int32.ofNat (al + 1)), .int gi])) := ⟨_, rfl⟩
            refine At.hpe eh2 ?_
            have g2 : FrX (fun x => x = ch) h1 h2 := by rw [eh2]; exact FrX.so hc1 (by decide) rfl (by decide)
            have f2a : FrX (fun x => x = ch ∨ x = l ∨ x = t ∨ x = mm ∨ x = sa) h1 h2 := g2.mono (fun x _ h => Or.inl h)
            have f2 : FrX (fun x => x = ch ∨ x = l ∨ x = t ∨ x = mm ∨ x = sa) hp h2 := FrX.tr f1 f2a (fun x h => Or.inl h)
            have hc2 : h2[ch]? = some (.inr (3, [.ref d, .ref t, .ref mm, .ref g0, .int lb, .int (Int32.ofNat (al + 1)), .int gi])) := by rw [eh2]; exact xs_eq hc1
            have nq : ∀ z zs, hLs h1 z zs → ¬ z = ch := fun z zs h e => ob_ne hc1 (by decide) h e.symm
            have hO2 := g2.2.1 hO1
            have hL2 := g2.ls (nq _ _ hL1) hO1 hL1
            have hT2 := g2.ls (nq _ _ hT1) hO1 hT1
            have hM2 := g2.ls (nq _ _ hM1) hO1 hM1
            have cL2 := g2.cap (nq _ _ hL1) hO1 hL1
            have cT2 := g2.cap (nq _ _ hT1) hO1 hT1
            have cM2 := g2.cap (nq _ _ hM1) hO1 hM1
            have hsa2 := g2.2.2.1 _ _ hsa1 rfl (Or.inl (fun e => xn_ar hsa1 hc1 e))
            have hA2 := hA1.fr f2a hO1 hc1 hL1 hT1 hM1 hsa1 hkl hkt hkm
            have hA22 := hA2
            obtain ⟨b1, b2, b3, b4, b5, b6, b7, b8, b9, ⟨tf2, b10⟩, b11⟩ := hA22
            have hX2 := hX.fr f2
            refine At.go (q := xm193) rfl 1 (pc' := 87) (L' := [(4, .ref w), (6, .ref w), (5, .int (Int32.ofNat n)), (0, .ref ch), (1, .ref s), (2, .ref m), (3, .ref g)]) (st' := [.ref s]) rfl ?_
            refine At.gf rfl (by decide) b8 h2v ?_
            refine At.go (q := xm193) rfl 1 (pc' := 93) (L' := [(4, .ref w), (6, .ref w), (5, .int (Int32.ofNat n)), (0, .ref ch), (1, .ref s), (2, .ref m), (3, .ref g)]) (st' := [.retAddr 18, .retAddr vb]) rfl ?_
            refine At.acn (tgt := 107) (b := false) rfl rfl e18 (fun h => ?_) (fun h => absurd h (by decide))
            refine At.go (q := xm193) rfl 2 (pc' := 110) (L' := [(4, .ref w), (6, .ref w), (5, .int (Int32.ofNat n)), (0, .ref ch), (1, .ref s), (2, .ref m), (3, .ref g)]) (st' := [.ref w, .ref ch]) rfl ?_
            refine At.clm (as := [.ref ch, .ref w]) (rest := []) rfl (by decide) rfl (Nat.le_of_ble_eq_true rfl) (Nat.le_of_ble_eq_true rfl) (xrck_o (by decide) (by decide) hc2 (by decide)) (Nat.le_of_ble_eq_true rfl) (m_cut hc2 b1 hlt hO2 hL2 hT2 (hE.fr f2) (hTs.fr f2) hsr hX2 (by omega) (by omega)) (fun v9 h3 c3 s3 hv9 => ?_)
            obtain ⟨rfl, q1, ⟨as3, q2, q2e⟩, ⟨ta3, q3, q3e⟩, q4, q5, q6, q7, q8, q9c⟩ := hv9
            have f3 : FrX (fun x => x = ch ∨ x = l ∨ x = t ∨ x = mm ∨ x = sa) h2 h3 := q1.mono (fun x _ h => h.elim (fun h => Or.inr (Or.inl h)) (fun h => Or.inr (Or.inr (Or.inl h))))
            have hM3 := q1.ls (fun e => e.elim (fun e => hlm e.symm) (fun e => htm e.symm)) hO2 hM2
            have cM3 := q1.cap (fun e => e.elim (fun e => hlm e.symm) (fun e => htm e.symm)) hO2 hM2
            have hMs3 := (hMs.fr f2).fr f3
            have hc3 := q1.ob hc2 (by decide) (fun e => e.elim (fun e => ob_ne hc2 (by decide) hL2 e) (fun e => ob_ne hc2 (by decide) hT2 e))
            have hsa3 : h3[sa]? = some (.inl (16, vs2.map Value.int)) := q1.2.2.1 _ _ hsa2 rfl (Or.inl (fun e => by
              obtain ⟨lf, hl0⟩ := hL2.ob
              obtain ⟨tf9, ht0⟩ := hT2.ob
              exact e.elim (fun e => xn_ar hsa2 hl0 e) (fun e => xn_ar hsa2 ht0 e)))
            have hlc := cutE_len hsr r lb
            have hlt3 : (cutT es r lb).length ≤ 1 := cutT_len
            have hnl : (ts ++ cutT es r lb).length ≤ ts.length + 1 := by rw [List.length_append]; omega
            refine At.go (q := xm193) rfl 2 (pc' := 11) (L' := [(5, .int ((Int32.ofNat n) + (-1))), (4, .ref w), (6, .ref w), (0, .ref ch), (1, .ref s), (2, .ref m), (3, .ref g)]) (st' := []) rfl ?_
            rw [show Int32.ofNat n + (-1) = Int32.ofNat n - 1 from (Int32.sub_eq_add_neg _ _).symm]
            refine At.wk (L' := [(5, .int (Int32.ofNat n - 1)), (4, .ref w), (0, .ref ch), (1, .ref s), (2, .ref m), (3, .ref g)]) (List.forall_mem_cons.mpr ⟨List.mem_of_getElem? (i := 0) rfl, (List.forall_mem_cons.mpr ⟨List.mem_of_getElem? (i := 1) rfl, (List.forall_mem_cons.mpr ⟨List.mem_of_getElem? (i := 3) rfl, (List.forall_mem_cons.mpr ⟨List.mem_of_getElem? (i := 4) rfl, (List.forall_mem_cons.mpr ⟨List.mem_of_getElem? (i := 5) rfl, (List.forall_mem_cons.mpr ⟨List.mem_of_getElem? (i := 6) rfl, (fun _ h => (List.not_mem_nil h).elim)⟩)⟩)⟩)⟩)⟩)⟩) (show ([5, 4, 6, 0, 1, 2, 3] : List Nat).Nodup by decide) ?_
            rw [hP]
            have f03 : FrX (fun x => x = ch ∨ x = l ∨ x = t ∨ x = mm ∨ x = sa) hp h3 := FrX.tr f2 f3 (fun x h => Or.inl h)
            refine (ih h3 (some (w, r)) as3 ta3 ma (cutE es r lb) (ts ++ cutT es r lb) ms vs2 (al + 1) (by omega) (hA2.fr f3 hO2 hc2 hL2 hT2 hM2 hsa2 hkl hkt hkm) (f3.2.1 hO2) hc3 q2 q3 hM3 q2e q3e hMs3 (cut_srt hsr) (by omega) (by omega) (by omega) hsa3 (by omega) (fun q hq => by cases hq; exact hX.fr f03) (by omega)).mono (fun o ho => ?_)
            obtain ⟨hp9, c1, s1, e1, e2⟩ := ho
            refine ⟨hp9, c3 + c1, s3 + s1, e1.trans (xo_eq (by omega) (by omega)), ?_⟩
            have r1 : AltR hp h3 ch l t mm sa d g0 lb gi (al + 1) nb N ((stepC lb) (es, ts, ms) r) 1 c3 s3 := ⟨f03, hc3, ⟨_, q2, q2e⟩, ⟨_, q3, q3e⟩, ⟨_, hM3, hMs3⟩, ⟨_, by omega, hsa3⟩, by omega, by omega, by omega, by omega, by omega, by omega, by omega, by omega⟩
            have r2 := r1.tr e2
            rw [List.foldl_cons, List.length_cons, Nat.add_comm _ 1, ← Nat.add_assoc]
            exact r2
          · refine At.go (q := xm193) rfl 3 (pc' := 11) (L' := [(5, .int ((Int32.ofNat n) + (-1))), (6, .ref w), (4, .ref q9.1), (0, .ref ch), (1, .ref s), (2, .ref m), (3, .ref g)]) (st' := []) rfl ?_
            rw [show Int32.ofNat n + (-1) = Int32.ofNat n - 1 from (Int32.sub_eq_add_neg _ _).symm]
            refine At.wk (L' := [(5, .int (Int32.ofNat n - 1)), (4, .ref q9.1), (0, .ref ch), (1, .ref s), (2, .ref m), (3, .ref g)]) (List.forall_mem_cons.mpr ⟨List.mem_of_getElem? (i := 0) rfl, (List.forall_mem_cons.mpr ⟨List.mem_of_getElem? (i := 2) rfl, (List.forall_mem_cons.mpr ⟨List.mem_of_getElem? (i := 3) rfl, (List.forall_mem_cons.mpr ⟨List.mem_of_getElem? (i := 4) rfl, (List.forall_mem_cons.mpr ⟨List.mem_of_getElem? (i := 5) rfl, (List.forall_mem_cons.mpr ⟨List.mem_of_getElem? (i := 6) rfl, (fun _ h => (List.not_mem_nil h).elim)⟩)⟩)⟩)⟩)⟩)⟩) (show ([5, 6, 4, 0, 1, 2, 3] : List Nat).Nodup by decide) ?_
            have hP : altP sr (fun r => mntB if0 if1 (resE r.2.2.1 (fun g => cellE r.2.2.2.2.1 [] g.toNatClampNeg) ((os.take if1).drop if0))) (((some q9) : Option (Nat × En)).map (fun q => q.2.2.1)) (r :: (ls.take n).reverse) = altP sr (fun r => mntB if0 if1 (resE r.2.2.1 (fun g => cellE r.2.2.2.2.1 [] g.toNatClampNeg) ((os.take if1).drop if0))) (((some q9) : Option (Nat × En)).map (fun q => q.2.2.1)) (ls.take n).reverse := if_neg (fun h => absurd (Eq.trans h.2.2.symm (bI0 (xne_f h66))) (by decide))
            rw [hP]
            refine (ih h1 (some q9) as ta ma es ts ms vs2 al (by omega) hA1 hO1 hc1 hL1 hT1 hM1 (hE.fr f1) (hTs.fr f1) (hMs.fr f1) hsr (by omega) (by omega) (by omega) hsa1 (by omega) (fun q hq => (hla q hq).fr f1) (by omega)).mono (fun o ho => ?_)
            obtain ⟨hp9, c1, s1, e1, e2⟩ := ho
            refine ⟨hp9, c1, s1, e1, ?_⟩
            have r1 : AltR hp h1 ch l t mm sa d g0 lb gi al nb N (es, ts, ms) 0 0 0 := ⟨f1, hc1, ⟨_, hL1, hE.fr f1⟩, ⟨_, hT1, hTs.fr f1⟩, ⟨_, hM1, hMs.fr f1⟩, ⟨vs2, by omega, hsa1⟩, by omega, by omega, by omega, by omega, by omega, by omega, by omega, by omega⟩
            have r2 := r1.tr e2
            rw [Nat.zero_add, Nat.zero_add, Nat.zero_add] at r2
            exact r2
theorem alt_set_2 {S : List Int32} {TI : Nat → Tb} {d l g g0 k m mc s c ka fa oa aa pa sa wa tb if0 if1 items vb ch t mm N nb : Nat} {lb gi : Int32} {kd fr : Nat → Nat} {ws glv : Value} {es9 mf ces sf : List Value} {gs : List Int32} {os : List (Nat × Int32)} {sr : Int32} {ks : List Nat} {ls : List En} (hlt : ¬ l = t) (hlm : ¬ l = mm) (htm : ¬ t = mm) (hkl : ¬ k = l) (hkt : ¬ k = t) (hkm : ¬ k = mm) (hm4 : mf[4]? = some (.ref tb)) (h2v : sf[2]? = some (.retAddr vb)) (hN : os.length ≤ N) (hN2 : N ≤ 1000) (hnm : ∀ (i : Nat) (q : Nat × Int32), os[i]? = some q → q.1 = 3 → ∃ j : Nat, j ≤ 100000 ∧ q.2 = Int32.ofNat j) (hif : if1 ≤ os.length) (hmok : ∀ r ∈ ls, if0 < if1 → (resR r.2.2.1 (fun g => cellE r.2.2.2.2.1 [] g.toNatClampNeg) ((os.take if1).drop if0) []).isSome = true) (hnb : nb ≤ 20000) (e18 : xeq xKC (.retAddr vb) (.retAddr 18) = some true) {b16 b27 : Bool} {col f9 t9 : Nat} (e16 : xeq xKC (.retAddr vb) (.retAddr 16) = some b16) (e27 : xeq xKC (.retAddr vb) (.retAddr 27) = some b27) (hm9 : mf[9]? = some (.ref mc)) (hcv : ces[0]? = some (.int (Int32.ofNat col))) (hcl : ces.length ≤ 1000) (h15 : sf[15]? = some (.int 1)) (hw : ∀ r ∈ ls, r.1 = sr → (TI r.2.2.2.2.2).2.2.1.length ≤ 1000 ∧ 0 < col ∧ col < (TI r.2.2.2.2.2).2.2.1.length) (hi0 : 0 < items) (hf9 : f9 = fr 0) (ht9 : t9 = itTo items if0 os.length 0 (b16 || b27) fr) (hft : f9 ≤ t9) (htn : t9 ≤ os.length) (hok : ∀ r ∈ ls, (resR r.2.2.1 (fun g => cellE r.2.2.2.2.1 [] g.toNatClampNeg) ((os.take t9).drop f9) []).isSome = true) : ∀ (n : Nat) (hp : List XC) (last : Option (Nat × En)) (as ta ma : List Nat) (es ts ms : List En) (vs : List Int32) (al : Nat) {nc ns : Nat}, n ≤ ls.length → AltS TI hp d l g k m mc s c ka fa oa aa pa sa wa tb if0 if1 items vb kd fr ws glv es9 mf ces sf gs os sr ks ls → Own hp → hp[ch]? = some (.inr (3, [.ref d, .ref t, .ref mm, .ref g0, .int lb, .int (Int32.ofNat al), .int gi])) → hLs hp l as → hLs hp t ta → hLs hp mm ma → hEs hp as es → hEs hp ta ts → hEs hp ma ms → Srt es → es.length + n ≤ nb → ts.length + n ≤ nb → ms.length + n ≤ nb → hp[sa]? = some (.inl (16, vs.map Value.int)) → vs.length = N → (∀ q, last = some q → hEn hp q.1 q.2) → al + n ≤ 100000 →
    At S 9 193 11 [(5, .int (Int32.ofNat n - 1)), (4, (lastV last)), (0, .ref ch), (1, .ref s), (2, .ref m), (3, .ref g)] [] hp nc ns (fun o => ∃ hp' c1 s1, o = .inl (none, hp', nc + c1, ns + s1) ∧ AltR hp hp' ch l t mm sa d g0 lb gi (al + (altP sr (fun r => mntB if0 if1 (resE r.2.2.1 (fun g => cellE r.2.2.2.2.1 [] g.toNatClampNeg) ((os.take if1).drop if0))) (last.map (fun q => q.2.2.1)) (ls.take n).reverse).length) nb N ((altP sr (fun r => mntB if0 if1 (resE r.2.2.1 (fun g => cellE r.2.2.2.2.1 [] g.toNatClampNeg) ((os.take if1).drop if0))) (last.map (fun q => q.2.2.1)) (ls.take n).reverse).foldl (stepS (fun r => (r.1, r.2.1, lb, false, setC r.2.2.2.2.1 (TI r.2.2.2.2.2).2.2.1.length col (resE r.2.2.1 (fun g => cellE r.2.2.2.2.1 [] g.toNatClampNeg) ((os.take t9).drop f9)), r.2.2.2.2.2))) (es, ts, ms)) (altP sr (fun r => mntB if0 if1 (resE r.2.2.1 (fun g => cellE r.2.2.2.2.1 [] g.toNatClampNeg) ((os.take if1).drop if0))) (last.map (fun q => q.2.2.1)) (ls.take n).reverse).length c1 s1) := by
  intro n
  induction n with
  | zero =>
    intro hp last as ta ma es ts ms vs al nc ns hn hA hO hc hL hT hM hE hTs hMs hsr hl1 hl2 hl3 hsa hvN hla hal
    have hl9 := hE.1
    have ht9' := hTs.1
    have hm9' := hMs.1
    refine At.go (q := xm193) rfl 1 (pc' := 13) (L' := [(5, .int (Int32.ofNat 0 - 1)), (4, (lastV last)), (0, .ref ch), (1, .ref s), (2, .ref m), (3, .ref g)]) (st' := [.int (Int32.ofNat 0 - 1)]) rfl ?_
    refine At.ic1 (tgt := 119) rfl rfl (fun _ => ?_) (fun h => absurd h (by decide))
    exact At.rt rfl rfl ⟨hp, 0, 0, rfl, FrX.rf, hc, ⟨_, hL, hE⟩, ⟨_, hT, hTs⟩, ⟨_, hM, hMs⟩, ⟨vs, hvN, hsa⟩, Nat.le_refl _, Nat.le_refl _, Nat.le_refl _, by omega, by omega, Nat.le_max_left _ _, Nat.le_max_left _ _, Nat.le_max_left _ _⟩
  | succ n ih =>
    intro hp last as ta ma es ts ms vs al nc ns hn hA hO hc hL hT hM hE hTs hMs hsr hl1 hl2 hl3 hsa hvN hla hal
    have hAA := hA
    obtain ⟨a1, a2, a3, a4, a5, a6, a7, a8, a9, ⟨tf, a10⟩, a11⟩ := hAA
    have hbk := a3.len
    have hl9 := hE.1
    have ht9' := hTs.1
    have hm9' := hMs.1
    obtain ⟨r, hr⟩ : ∃ r, ls[n]? = some r := ⟨_, List.getElem?_eq_getElem (by omega)⟩
    have hrm := List.mem_of_getElem? hr
    obtain ⟨w, hw0, hX⟩ := a4.get hr
    have hX9 := hX
    obtain ⟨c9, xf, hx, -, -, hxt⟩ := hX9
    have hks : n < ks.length := by have := a4.1; omega
    have hrev : (ls.take (n + 1)).reverse = r :: (ls.take n).reverse := by rw [List.take_add_one, hr, List.reverse_append]; rfl
    rw [hrev, iN_m2]
    cases last with
    | none =>
      show At S 9 193 11 [(5, .int (Int32.ofNat n)), (4, .null), (0, .ref ch), (1, .ref s), (2, .ref m), (3, .ref g)] [] hp nc ns _
      refine At.go (q := xm193) rfl 1 (pc' := 13) (L' := [(5, .int (Int32.ofNat n)), (4, .null), (0, .ref ch), (1, .ref s), (2, .ref m), (3, .ref g)]) (st' := [.int (Int32.ofNat n)]) rfl ?_
      refine At.ic1 (tgt := 119) rfl rfl (fun h => absurd (h.symm.trans (decide_eq_false (iN_nn (by omega)))) (by decide)) (fun _ => ?_)
      refine At.go (q := xm193) rfl 2 (pc' := 19) (L' := [(5, .int (Int32.ofNat n)), (4, .null), (0, .ref ch), (1, .ref s), (2, .ref m), (3, .ref g)]) (st' := [.int (Int32.ofNat n), .ref g]) rfl ?_
      refine At.clp (as := [.ref g, .int (Int32.ofNat n)]) (rest := []) rfl (by decide) rfl (Nat.le_of_ble_eq_true rfl) (Nat.le_of_ble_eq_true rfl) (xrck_o (by decide) (by decide) a2 (by decide)) (Nat.le_of_ble_eq_true rfl) (m_sgget a2 a3 hw0 hx) ?_
      refine At.go (q := xm193) rfl 5 (pc' := 32) (L' := [(6, .ref w), (5, .int (Int32.ofNat n)), (4, .null), (0, .ref ch), (1, .ref s), (2, .ref m), (3, .ref g)]) (st' := [.ref m, .ref w]) rfl ?_
      refine At.gf rfl (by decide) a5 hm4 ?_
      refine At.clp (as := [.ref w, .ref tb]) (rest := []) rfl (by decide) rfl (Nat.le_of_ble_eq_true rfl) (Nat.le_of_ble_eq_true rfl) (xrck_o (by decide) (by decide) hx (by decide)) (Nat.le_of_ble_eq_true rfl) (m_isOf hx hxt a10) ?_
      refine At.ic1 (tgt := 113) rfl rfl (fun h38 => ?_) (fun h38 => ?_)
      · refine At.go (q := xm193) rfl 2 (pc' := 11) (L' := [(5, .int ((Int32.ofNat n) + (-1))), (6, .ref w), (4, .null), (0, .ref ch), (1, .ref s), (2, .ref m), (3, .ref g)]) (st' := []) rfl ?_
        rw [show Int32.ofNat n + (-1) = Int32.ofNat n - 1 from (Int32.sub_eq_add_neg _ _).symm]
        refine At.wk (L' := [(5, .int (Int32.ofNat n - 1)), (4, .null), (0, .ref ch), (1, .ref s), (2, .ref m), (3, .ref g)]) (List.forall_mem_cons.mpr ⟨List.mem_of_getElem? (i := 0) rfl, (List.forall_mem_cons.mpr ⟨List.mem_of_getElem? (i := 2) rfl, (List.forall_mem_cons.mpr ⟨List.mem_of_getElem? (i := 3) rfl, (List.forall_mem_cons.mpr ⟨List.mem_of_getElem? (i := 4) rfl, (List.forall_mem_cons.mpr ⟨List.mem_of_getElem? (i := 5) rfl, (List.forall_mem_cons.mpr ⟨List.mem_of_getElem? (i := 6) rfl, (fun _ h => (List.not_mem_nil h).elim)⟩)⟩)⟩)⟩)⟩)⟩) (show ([5, 6, 4, 0, 1, 2, 3] : List Nat).Nodup by decide) ?_
        have hP : altP sr (fun r => mntB if0 if1 (resE r.2.2.1 (fun g => cellE r.2.2.2.2.1 [] g.toNatClampNeg) ((os.take if1).drop if0))) ((none : Option (Nat × En)).map (fun q => q.2.2.1)) (r :: (ls.take n).reverse) = altP sr (fun r => mntB if0 if1 (resE r.2.2.1 (fun g => cellE r.2.2.2.2.1 [] g.toNatClampNeg) ((os.take if1).drop if0))) ((none : Option (Nat × En)).map (fun q => q.2.2.1)) (ls.take n).reverse := if_neg (fun h => of_decide_eq_false (bI0 (of_decide_eq_true h38)) h.1)
        rw [hP]
        exact ih hp none as ta ma es ts ms vs al (by omega) hA hO hc hL hT hM hE hTs hMs hsr (by omega) (by omega) (by omega) hsa hvN hla (by omega)
      · have hr1 : r.1 = sr := of_decide_eq_true (bI1 (of_decide_eq_false h38))
        refine At.go (q := xm193) rfl 5 (pc' := 63) (L' := [(6, .ref w), (5, .int (Int32.ofNat n)), (4, .null), (0, .ref ch), (1, .ref s), (2, .ref m), (3, .ref g)]) (st' := [.null, .ref w, .ref s]) rfl ?_
        refine At.clm (as := [.ref s, .ref w, .null]) (rest := []) rfl (by decide) rfl (Nat.le_of_ble_eq_true rfl) (Nat.le_of_ble_eq_true rfl) (xrck_o (by decide) (by decide) a8 (by decide)) (Nat.le_of_ble_eq_true rfl) (m_isMeant1 a7 hX a9 hsa (by omega) (by omega) hnm hif (hmok r hrm)) (fun v9 hp1 c1 s1 hv9 => ?_)
        obtain ⟨rfl, ⟨vs2, hl2v, rfl⟩, rfl, rfl⟩ := hv9
        obtain ⟨h1, eh1⟩ : ∃ h, h = hp.set sa (.inl (16, vs2.map Value.int)) := ⟨_, rfl⟩
        refine At.hpe eh1 ?_
        have g1 : FrX (fun x => x = sa) hp h1 := by rw [eh1]; exact FrX.st hsa rfl rfl rfl rfl (fun fs h => by cases h) (fun ci fs h => by cases h)
        have f1 : FrX (fun x => x = ch ∨ x = l ∨ x = t ∨ x = mm ∨ x = sa) hp h1 := g1.mono (fun x _ h => Or.inr (Or.inr (Or.inr (Or.inr h))))
        have np : ∀ z zs, hLs hp z zs → ¬ z = sa := fun z zs h e => by
          obtain ⟨lf, hl0⟩ := h.ob
          exact xn_ra hl0 hsa e
        have hc1 := g1.ob hc (by decide) (fun e => xn_ra hc hsa e)
        have hO1 := g1.2.1 hO
        have hL1 := g1.ls (np _ _ hL) hO hL
        have hT1 := g1.ls (np _ _ hT) hO hT
        have hM1 := g1.ls (np _ _ hM) hO hM
        have cL1 := g1.cap (np _ _ hL) hO hL
        have cT1 := g1.cap (np _ _ hT) hO hT
        have cM1 := g1.cap (np _ _ hM) hO hM
        have hsa1 : h1[sa]? = some (.inl (16, vs2.map Value.int)) := by rw [eh1]; exact xs_eq hsa
        have hA1 := hA.fr f1 hO hc hL hT hM hsa hkl hkt hkm
        refine At.ic1 (tgt := 72) rfl rfl (fun h66 => ?_) (fun h66 => ?_)
        · have hmt : (fun r => mntB if0 if1 (resE r.2.2.1 (fun g => cellE r.2.2.2.2.1 [] g.toNatClampNeg) ((os.take if1).drop if0))) r = true := bI1 (of_decide_eq_true h66)
          have hP : altP sr (fun r => mntB if0 if1 (resE r.2.2.1 (fun g => cellE r.2.2.2.2.1 [] g.toNatClampNeg) ((os.take if1).drop if0))) ((none : Option (Nat × En)).map (fun q => q.2.2.1)) (r :: (ls.take n).reverse) = r :: altP sr (fun r => mntB if0 if1 (resE r.2.2.1 (fun g => cellE r.2.2.2.2.1 [] g.toNatClampNeg) ((os.take if1).drop if0))) (some r.2.1) (ls.take n).reverse := if_pos ⟨hr1, (by intro h; cases h), hmt⟩
          refine At.go (q := xm193) rfl 4 (pc' := 78) (L' := [(4, .ref w), (6, .ref w), (5, .int (Int32.ofNat n)), (0, .ref ch), (1, .ref s), (2, .ref m), (3, .ref g)]) (st' := [.ref ch, .ref ch]) rfl ?_
          refine At.gf rfl (by decide) hc1 rfl ?_
          refine At.go (q := xm193) rfl 2 (pc' := 83) (L' := [(4, .ref w), (6, .ref w), (5, .int (Int32.ofNat n)), (0, .ref ch), (1, .ref s), (2, .ref m), (3, .ref g)]) (st' := [.int ((Int32.ofNat al) + 1), .ref ch]) rfl ?_
          refine At.pf rfl hc1 (Nat.le_of_ble_eq_true rfl) xfit_i ?_
          rw [iN_s]
          obtain ⟨h2, eh2⟩ : ∃ h, h = h1.set ch (.inr (3, [.ref d, .ref t, .ref mm, .ref g0, .int lb, .int (Int32.ofNat (al + 1)), .int gi])) := ⟨_, rfl⟩
          refine At.hpe eh2 ?_
          have g2 : FrX (fun x => x = ch) h1 h2 := by rw [eh2]; exact FrX.so hc1 (by decide) rfl (by decide)
          have f2a : FrX (fun x => x = ch ∨ x = l ∨ x = t ∨ x = mm ∨ x = sa) h1 h2 := g2.mono (fun x _ h => Or.inl h)
          have f2 : FrX (fun x => x = ch ∨ x = l ∨ x = t ∨ x = mm ∨ x = sa) hp h2 := FrX.tr f1 f2a (fun x h => Or.inl h)
          have hc2 : h2[ch]? = some (.inr (3, [.ref d, .ref t, .ref mm, .ref g0, .int lb, .int (Int32.ofNat (al + 1)), .int gi])) := by rw [eh2]; exact xs_eq hc1
          have nq : ∀ z zs, hLs h1 z zs → ¬ z = ch := fun z zs h e => ob_ne hc1 (by decide) h e.symm
          have hO2 := g2.2.1 hO1
          have hL2 := g2.ls (nq _ _ hL1) hO1 hL1
          have hT2 := g2.ls (nq _ _ hT1) hO1 hT1
          have hM2 := g2.ls (nq _ _ hM1) hO1 hM1
          have cL2 := g2.cap (nq _ _ hL1) hO1 hL1
          have cT2 := g2.cap (nq _ _ hT1) hO1 hT1
          have cM2 := g2.cap (nq _ _ hM1) hO1 hM1
          have hsa2 := g2.2.2.1 _ _ hsa1 rfl (Or.inl (fun e => xn_ar hsa1 hc1 e))
          have hA2 := hA1.fr f2a hO1 hc1 hL1 hT1 hM1 hsa1 hkl hkt hkm
          have hA22 := hA2
          obtain ⟨b1, b2, b3, b4, b5, b6, b7, b8, b9, ⟨tf2, b10⟩, b11⟩ := hA22
          have hX2 := hX.fr f2
          refine At.go (q := xm193) rfl 1 (pc' := 87) (L' := [(4, .ref w), (6, .ref w), (5, .int (Int32.ofNat n)), (0, .ref ch), (1, .ref s), (2, .ref m), (3, .ref g)]) (st' := [.ref s]) rfl ?_
          refine At.gf rfl (by decide) b8 h2v ?_
          refine At.go (q := xm193) rfl 1 (pc' := 93) (L' := [(4, .ref w), (6, .ref w), (5, .int (Int32.ofNat n)), (0, .ref ch), (1, .ref s), (2, .ref m), (3, .ref g)]) (st' := [.retAddr 18, .retAddr vb]) rfl ?_
          refine At.acn (tgt := 107) (b := true) rfl rfl e18 (fun h => absurd h (by decide)) (fun h => ?_)
          refine At.go (q := xm193) rfl 4 (pc' := 101) (L' := [(4, .ref w), (6, .ref w), (5, .int (Int32.ofNat n)), (0, .ref ch), (1, .ref s), (2, .ref m), (3, .ref g)]) (st' := [.ref m, .ref s, .ref w, .ref ch]) rfl ?_
          refine At.clm (as := [.ref ch, .ref w, .ref s, .ref m]) (rest := []) rfl (by decide) rfl (Nat.le_of_ble_eq_true rfl) (Nat.le_of_ble_eq_true rfl) (xrck_o (by decide) (by decide) hc2 (by decide)) (Nat.le_of_ble_eq_true rfl) (m_cset (T := TI r.2.2.2.2.2) (f9 := f9) (t9 := t9) hc2 b1 hlt hlm htm hO2 hL2 hT2 hM2 (hE.fr f2) (hTs.fr f2) (hMs.fr f2) hsr (by omega) (by omega) (by omega) hX2 (b11 r hrm) b5 hm9 b6 hcv hcl b7 b8 h15 b9 hsa2 (by omega) (by omega) hnm (hw r hrm hr1).1 (hw r hrm hr1).2.1 (hw r hrm hr1).2.2 e16 e27 hi0 hf9 ht9 hft htn (hok r hrm)) (fun v9 h3 c3 s3 hv9 => ?_)
          obtain ⟨rfl, vs3, hv3, c3b, s3b, hmk, hc9, hs9⟩ := hv9
          obtain ⟨q1, ⟨as3, q2, q2e⟩, ⟨ta3, q3, q3e⟩, ⟨ma3, qm, qme⟩, q4, q5, q6, q7, q8, q10, q11, q12⟩ := hmk
          have gP : FrX (fun x => x = sa) h2 (hPut h2 sa vs3 (setC r.2.2.2.2.1 (TI r.2.2.2.2.2).2.2.1.length col (resE r.2.2.1 (fun g => cellE r.2.2.2.2.1 [] g.toNatClampNeg) ((os.take t9).drop f9)))) := hPut_fr hsa2
          have npP : ∀ z zs, hLs h2 z zs → ¬ z = sa := fun z zs h e => by
            obtain ⟨lf, hl0⟩ := h.ob
            exact xn_ra hl0 hsa2 e
          have cPL := gP.cap (npP _ _ hL2) hO2 hL2
          have cPT := gP.cap (npP _ _ hT2) hO2 hT2
          have cPM := gP.cap (npP _ _ hM2) hO2 hM2
          have f3 : FrX (fun x => x = ch ∨ x = l ∨ x = t ∨ x = mm ∨ x = sa) h2 h3 := FrX.tr (gP.mono (fun x _ h => Or.inr (Or.inr (Or.inr (Or.inr h))))) q1 (fun x h => Or.inl (h.elim (fun h => Or.inr (Or.inl h)) (fun h => h.elim (fun h => Or.inr (Or.inr (Or.inl h))) (fun h => Or.inr (Or.inr (Or.inr (Or.inl h)))))))
          have hLP := gP.ls (npP _ _ hL2) hO2 hL2
          have hTP := gP.ls (npP _ _ hT2) hO2 hT2
          have hMP := gP.ls (npP _ _ hM2) hO2 hM2
          have hcP := gP.ob hc2 (by decide) (fun e => xn_ra hc2 hsa2 e)
          have hc3 := q1.ob hcP (by decide) (fun e => e.elim (fun e => ob_ne hcP (by decide) hLP e) (fun e => e.elim (fun e => ob_ne hcP (by decide) hTP e) (fun e => ob_ne hcP (by decide) hMP e)))
          have hsaP := hPut_sa (vs := vs3) (cs := setC r.2.2.2.2.1 (TI r.2.2.2.2.2).2.2.1.length col (resE r.2.2.1 (fun g => cellE r.2.2.2.2.1 [] g.toNatClampNeg) ((os.take t9).drop f9))) hsa2
          have hsa3 : h3[sa]? = some (.inl (16, vs3.map Value.int)) := q1.2.2.1 _ _ hsaP rfl (Or.inl (fun e => by
            obtain ⟨lf, hl0⟩ := hLP.ob
            obtain ⟨tf9, ht0⟩ := hTP.ob
            obtain ⟨mf9, hm0⟩ := hMP.ob
            exact e.elim (fun e => xn_ar hsaP hl0 e) (fun e => e.elim (fun e => xn_ar hsaP ht0 e) (fun e => xn_ar hsaP hm0 e))))
          have hlc := storeE_len hsr (r.1, r.2.1, lb, false, setC r.2.2.2.2.1 (TI r.2.2.2.2.2).2.2.1.length col (resE r.2.2.1 (fun g => cellE r.2.2.2.2.1 [] g.toNatClampNeg) ((os.take t9).drop f9)), r.2.2.2.2.2)
          have hlc2 : (storeE es ((fun r => (r.1, r.2.1, lb, false, setC r.2.2.2.2.1 (TI r.2.2.2.2.2).2.2.1.length col (resE r.2.2.1 (fun g => cellE r.2.2.2.2.1 [] g.toNatClampNeg) ((os.take t9).drop f9)), r.2.2.2.2.2)) r)).length ≤ es.length + 1 := hlc
          rw [List.length_append, List.length_singleton] at q11 q12
          have hww := (hw r hrm hr1).1
          refine At.go (q := xm193) rfl 1 (pc' := 113) (L' := [(4, .ref w), (6, .ref w), (5, .int (Int32.ofNat n)), (0, .ref ch), (1, .ref s), (2, .ref m), (3, .ref g)]) (st' := []) rfl ?_
          refine At.go (q := xm193) rfl 2 (pc' := 11) (L' := [(5, .int ((Int32.ofNat n) + (-1))), (4, .ref w), (6, .ref w), (0, .ref ch), (1, .ref s), (2, .ref m), (3, .ref g)]) (st' := []) rfl ?_
          rw [show Int32.ofNat n + (-1) = Int32.ofNat n - 1 from (Int32.sub_eq_add_neg _ _).symm]
          refine At.wk (L' := [(5, .int (Int32.ofNat n - 1)), (4, .ref w), (0, .ref ch), (1, .ref s), (2, .ref m), (3, .ref g)]) (List.forall_mem_cons.mpr ⟨List.mem_of_getElem? (i := 0) rfl, (List.forall_mem_cons.mpr ⟨List.mem_of_getElem? (i := 1) rfl, (List.forall_mem_cons.mpr ⟨List.mem_of_getElem? (i := 3) rfl, (List.forall_mem_cons.mpr ⟨List.mem_of_getElem? (i := 4) rfl, (List.forall_mem_cons.mpr ⟨List.mem_of_getElem? (i := 5) rfl, (List.forall_mem_cons.mpr ⟨List.mem_of_getElem? (i := 6) rfl, (fun _ h => (List.not_mem_nil h).elim)⟩)⟩)⟩)⟩)⟩)⟩) (show ([5, 4, 6, 0, 1, 2, 3] : List Nat).Nodup by decide) ?_
          rw [hP]
          have f03 : FrX (fun x => x = ch ∨ x = l ∨ x = t ∨ x = mm ∨ x = sa) hp h3 := FrX.tr f2 f3 (fun x h => Or.inl h)
          refine (ih h3 (some (w, r)) as3 ta3 ma3 (storeE es ((fun r => (r.1, r.2.1, lb, false, setC r.2.2.2.2.1 (TI r.2.2.2.2.2).2.2.1.length col (resE r.2.2.1 (fun g => cellE r.2.2.2.2.1 [] g.toNatClampNeg) ((os.take t9).drop f9)), r.2.2.2.2.2)) r)) (ts ++ [(fun r => (r.1, r.2.1, lb, false, setC r.2.2.2.2.1 (TI r.2.2.2.2.2).2.2.1.length col (resE r.2.2.1 (fun g => cellE r.2.2.2.2.1 [] g.toNatClampNeg) ((os.take t9).drop f9)), r.2.2.2.2.2)) r]) (ms ++ [(fun r => (r.1, r.2.1, lb, false, setC r.2.2.2.2.1 (TI r.2.2.2.2.2).2.2.1.length col (resE r.2.2.1 (fun g => cellE r.2.2.2.2.1 [] g.toNatClampNeg) ((os.take t9).drop f9)), r.2.2.2.2.2)) r]) vs3 (al + 1) (by omega) (hA2.fr f3 hO2 hc2 hL2 hT2 hM2 hsa2 hkl hkt hkm) (f3.2.1 hO2) hc3 q2 q3 qm q2e q3e qme (hsr.store _) (by omega) (by rw [List.length_append, List.length_singleton]; omega) (by rw [List.length_append, List.length_singleton]; omega) hsa3 (by omega) (fun q hq => by cases hq; exact hX.fr f03) (by omega)).mono (fun o ho => ?_)
          obtain ⟨hp9, c1, s1, e1, e2⟩ := ho
          refine ⟨hp9, c3 + c1, s3 + s1, e1.trans (xo_eq (by omega) (by omega)), ?_⟩
          have r1 : AltR hp h3 ch l t mm sa d g0 lb gi (al + 1) nb N ((stepS (fun r => (r.1, r.2.1, lb, false, setC r.2.2.2.2.1 (TI r.2.2.2.2.2).2.2.1.length col (resE r.2.2.1 (fun g => cellE r.2.2.2.2.1 [] g.toNatClampNeg) ((os.take t9).drop f9)), r.2.2.2.2.2))) (es, ts, ms) r) 1 c3 s3 := ⟨f03, hc3, ⟨_, q2, q2e⟩, ⟨_, q3, q3e⟩, ⟨_, qm, qme⟩, ⟨_, by omega, hsa3⟩, by omega, by omega, by omega, by omega, by omega, by omega, by omega, by omega⟩
          have r2 := r1.tr e2
          rw [List.foldl_cons, List.length_cons, Nat.add_comm _ 1, ← Nat.add_assoc]
          exact r2
        · refine At.go (q := xm193) rfl 3 (pc' := 11) (L' := [(5, .int ((Int32.ofNat n) + (-1))), (6, .ref w), (4, .null), (0, .ref ch), (1, .ref s), (2, .ref m), (3, .ref g)]) (st' := []) rfl ?_
          rw [show Int32.ofNat n + (-1) = Int32.ofNat n - 1 from (Int32.sub_eq_add_neg _ _).symm]
          refine At.wk (L' := [(5, .int (Int32.ofNat n - 1)), (4, .null), (0, .ref ch), (1, .ref s), (2, .ref m), (3, .ref g)]) (List.forall_mem_cons.mpr ⟨List.mem_of_getElem? (i := 0) rfl, (List.forall_mem_cons.mpr ⟨List.mem_of_getElem? (i := 2) rfl, (List.forall_mem_cons.mpr ⟨List.mem_of_getElem? (i := 3) rfl, (List.forall_mem_cons.mpr ⟨List.mem_of_getElem? (i := 4) rfl, (List.forall_mem_cons.mpr ⟨List.mem_of_getElem? (i := 5) rfl, (List.forall_mem_cons.mpr ⟨List.mem_of_getElem? (i := 6) rfl, (fun _ h => (List.not_mem_nil h).elim)⟩)⟩)⟩)⟩)⟩)⟩) (show ([5, 6, 4, 0, 1, 2, 3] : List Nat).Nodup by decide) ?_
          have hP : altP sr (fun r => mntB if0 if1 (resE r.2.2.1 (fun g => cellE r.2.2.2.2.1 [] g.toNatClampNeg) ((os.take if1).drop if0))) ((none : Option (Nat × En)).map (fun q => q.2.2.1)) (r :: (ls.take n).reverse) = altP sr (fun r => mntB if0 if1 (resE r.2.2.1 (fun g => cellE r.2.2.2.2.1 [] g.toNatClampNeg) ((os.take if1).drop if0))) ((none : Option (Nat × En)).map (fun q => q.2.2.1)) (ls.take n).reverse := if_neg (fun h => absurd (Eq.trans h.2.2.symm (bI0 (xne_f h66))) (by decide))
          rw [hP]
          refine (ih h1 none as ta ma es ts ms vs2 al (by omega) hA1 hO1 hc1 hL1 hT1 hM1 (hE.fr f1) (hTs.fr f1) (hMs.fr f1) hsr (by omega) (by omega) (by omega) hsa1 (by omega) (fun q hq => (hla q hq).fr f1) (by omega)).mono (fun o ho => ?_)
          obtain ⟨hp9, c1, s1, e1, e2⟩ := ho
          refine ⟨hp9, c1, s1, e1, ?_⟩
          have r1 : AltR hp h1 ch l t mm sa d g0 lb gi al nb N (es, ts, ms) 0 0 0 := ⟨f1, hc1, ⟨_, hL1, hE.fr f1⟩, ⟨_, hT1, hTs.fr f1⟩, ⟨_, hM1, hMs.fr f1⟩, ⟨vs2, by omega, hsa1⟩, by omega, by omega, by omega, by omega, by omega, by omega, by omega, by omega⟩
          have r2 := r1.tr e2
          rw [Nat.zero_add, Nat.zero_add, Nat.zero_add] at r2
          exact r2
    | some q9 =>
      have hq9 := hla q9 rfl
      have hq8 := hq9
      obtain ⟨c8, qf, hqx, -, -, -⟩ := hq8
      show At S 9 193 11 [(5, .int (Int32.ofNat n)), (4, .ref q9.1), (0, .ref ch), (1, .ref s), (2, .ref m), (3, .ref g)] [] hp nc ns _
      refine At.go (q := xm193) rfl 1 (pc' := 13) (L' := [(5, .int (Int32.ofNat n)), (4, .ref q9.1), (0, .ref ch), (1, .ref s), (2, .ref m), (3, .ref g)]) (st' := [.int (Int32.ofNat n)]) rfl ?_
      refine At.ic1 (tgt := 119) rfl rfl (fun h => absurd (h.symm.trans (decide_eq_false (iN_nn (by omega)))) (by decide)) (fun _ => ?_)
      refine At.go (q := xm193) rfl 2 (pc' := 19) (L' := [(5, .int (Int32.ofNat n)), (4, .ref q9.1), (0, .ref ch), (1, .ref s), (2, .ref m), (3, .ref g)]) (st' := [.int (Int32.ofNat n), .ref g]) rfl ?_
      refine At.clp (as := [.ref g, .int (Int32.ofNat n)]) (rest := []) rfl (by decide) rfl (Nat.le_of_ble_eq_true rfl) (Nat.le_of_ble_eq_true rfl) (xrck_o (by decide) (by decide) a2 (by decide)) (Nat.le_of_ble_eq_true rfl) (m_sgget a2 a3 hw0 hx) ?_
      refine At.go (q := xm193) rfl 5 (pc' := 32) (L' := [(6, .ref w), (5, .int (Int32.ofNat n)), (4, .ref q9.1), (0, .ref ch), (1, .ref s), (2, .ref m), (3, .ref g)]) (st' := [.ref m, .ref w]) rfl ?_
      refine At.gf rfl (by decide) a5 hm4 ?_
      refine At.clp (as := [.ref w, .ref tb]) (rest := []) rfl (by decide) rfl (Nat.le_of_ble_eq_true rfl) (Nat.le_of_ble_eq_true rfl) (xrck_o (by decide) (by decide) hx (by decide)) (Nat.le_of_ble_eq_true rfl) (m_isOf hx hxt a10) ?_
      refine At.ic1 (tgt := 113) rfl rfl (fun h38 => ?_) (fun h38 => ?_)
      · refine At.go (q := xm193) rfl 2 (pc' := 11) (L' := [(5, .int ((Int32.ofNat n) + (-1))), (6, .ref w), (4, .ref q9.1), (0, .ref ch), (1, .ref s), (2, .ref m), (3, .ref g)]) (st' := []) rfl ?_
        rw [show Int32.ofNat n + (-1) = Int32.ofNat n - 1 from (Int32.sub_eq_add_neg _ _).symm]
        refine At.wk (L' := [(5, .int (Int32.ofNat n - 1)), (4, .ref q9.1), (0, .ref ch), (1, .ref s), (2, .ref m), (3, .ref g)]) (List.forall_mem_cons.mpr ⟨List.mem_of_getElem? (i := 0) rfl, (List.forall_mem_cons.mpr ⟨List.mem_of_getElem? (i := 2) rfl, (List.forall_mem_cons.mpr ⟨List.mem_of_getElem? (i := 3) rfl, (List.forall_mem_cons.mpr ⟨List.mem_of_getElem? (i := 4) rfl, (List.forall_mem_cons.mpr ⟨List.mem_of_getElem? (i := 5) rfl, (List.forall_mem_cons.mpr ⟨List.mem_of_getElem? (i := 6) rfl, (fun _ h => (List.not_mem_nil h).elim)⟩)⟩)⟩)⟩)⟩)⟩) (show ([5, 6, 4, 0, 1, 2, 3] : List Nat).Nodup by decide) ?_
        have hP : altP sr (fun r => mntB if0 if1 (resE r.2.2.1 (fun g => cellE r.2.2.2.2.1 [] g.toNatClampNeg) ((os.take if1).drop if0))) (((some q9) : Option (Nat × En)).map (fun q => q.2.2.1)) (r :: (ls.take n).reverse) = altP sr (fun r => mntB if0 if1 (resE r.2.2.1 (fun g => cellE r.2.2.2.2.1 [] g.toNatClampNeg) ((os.take if1).drop if0))) (((some q9) : Option (Nat × En)).map (fun q => q.2.2.1)) (ls.take n).reverse := if_neg (fun h => of_decide_eq_false (bI0 (of_decide_eq_true h38)) h.1)
        rw [hP]
        exact ih hp (some q9) as ta ma es ts ms vs al (by omega) hA hO hc hL hT hM hE hTs hMs hsr (by omega) (by omega) (by omega) hsa hvN hla (by omega)
      · have hr1 : r.1 = sr := of_decide_eq_true (bI1 (of_decide_eq_false h38))
        refine At.go (q := xm193) rfl 3 (pc' := 48) (L' := [(6, .ref w), (5, .int (Int32.ofNat n)), (4, .ref q9.1), (0, .ref ch), (1, .ref s), (2, .ref m), (3, .ref g)]) (st' := [.ref q9.1]) rfl ?_
        refine At.gf rfl (by decide) hqx rfl ?_
        refine At.go (q := xm193) rfl 1 (pc' := 53) (L' := [(6, .ref w), (5, .int (Int32.ofNat n)), (4, .ref q9.1), (0, .ref ch), (1, .ref s), (2, .ref m), (3, .ref g)]) (st' := [.ref w, .int q9.2.2.1]) rfl ?_
        refine At.gf rfl (by decide) hx rfl ?_
        refine At.ic2 (tgt := 113) rfl rfl (fun h56 => ?_) (fun h56 => ?_)
        · refine At.go (q := xm193) rfl 2 (pc' := 11) (L' := [(5, .int ((Int32.ofNat n) + (-1))), (6, .ref w), (4, .ref q9.1), (0, .ref ch), (1, .ref s), (2, .ref m), (3, .ref g)]) (st' := []) rfl ?_
          rw [show Int32.ofNat n + (-1) = Int32.ofNat n - 1 from (Int32.sub_eq_add_neg _ _).symm]
          refine At.wk (L' := [(5, .int (Int32.ofNat n - 1)), (4, .ref q9.1), (0, .ref ch), (1, .ref s), (2, .ref m), (3, .ref g)]) (List.forall_mem_cons.mpr ⟨List.mem_of_getElem? (i := 0) rfl, (List.forall_mem_cons.mpr ⟨List.mem_of_getElem? (i := 2) rfl, (List.forall_mem_cons.mpr ⟨List.mem_of_getElem? (i := 3) rfl, (List.forall_mem_cons.mpr ⟨List.mem_of_getElem? (i := 4) rfl, (List.forall_mem_cons.mpr ⟨List.mem_of_getElem? (i := 5) rfl, (List.forall_mem_cons.mpr ⟨List.mem_of_getElem? (i := 6) rfl, (fun _ h => (List.not_mem_nil h).elim)⟩)⟩)⟩)⟩)⟩)⟩) (show ([5, 6, 4, 0, 1, 2, 3] : List Nat).Nodup by decide) ?_
          have hP : altP sr (fun r => mntB if0 if1 (resE r.2.2.1 (fun g => cellE r.2.2.2.2.1 [] g.toNatClampNeg) ((os.take if1).drop if0))) (((some q9) : Option (Nat × En)).map (fun q => q.2.2.1)) (r :: (ls.take n).reverse) = altP sr (fun r => mntB if0 if1 (resE r.2.2.1 (fun g => cellE r.2.2.2.2.1 [] g.toNatClampNeg) ((os.take if1).drop if0))) (((some q9) : Option (Nat × En)).map (fun q => q.2.2.1)) (ls.take n).reverse := if_neg (fun h => h.2.1 (congrArg some (of_decide_eq_true h56)))
          rw [hP]
          exact ih hp (some q9) as ta ma es ts ms vs al (by omega) hA hO hc hL hT hM hE hTs hMs hsr (by omega) (by omega) (by omega) hsa hvN hla (by omega)
        · have hlk : ¬ (some q9.2.2.1 : Option Int32) = some r.2.1 := fun h => of_decide_eq_false h56 (Option.some.inj h)
          refine At.go (q := xm193) rfl 3 (pc' := 63) (L' := [(6, .ref w), (5, .int (Int32.ofNat n)), (4, .ref q9.1), (0, .ref ch), (1, .ref s), (2, .ref m), (3, .ref g)]) (st' := [.null, .ref w, .ref s]) rfl ?_
          refine At.clm (as := [.ref s, .ref w, .null]) (rest := []) rfl (by decide) rfl (Nat.le_of_ble_eq_true rfl) (Nat.le_of_ble_eq_true rfl) (xrck_o (by decide) (by decide) a8 (by decide)) (Nat.le_of_ble_eq_true rfl) (m_isMeant1 a7 hX a9 hsa (by omega) (by omega) hnm hif (hmok r hrm)) (fun v9 hp1 c1 s1 hv9 => ?_)
          obtain ⟨rfl, ⟨vs2, hl2v, rfl⟩, rfl, rfl⟩ := hv9
          obtain ⟨h1, eh1⟩ : ∃ h, h = hp.set sa (.inl (16, vs2.map Value.int)) := ⟨_, rfl⟩
          refine At.hpe eh1 ?_
          have g1 : FrX (fun x => x = sa) hp h1 := by rw [eh1]; exact FrX.st hsa rfl rfl rfl rfl (fun fs h => by cases h) (fun ci fs h => by cases h)
          have f1 : FrX (fun x => x = ch ∨ x = l ∨ x = t ∨ x = mm ∨ x = sa) hp h1 := g1.mono (fun x _ h => Or.inr (Or.inr (Or.inr (Or.inr h))))
          have np : ∀ z zs, hLs hp z zs → ¬ z = sa := fun z zs h e => by
            obtain ⟨lf, hl0⟩ := h.ob
            exact xn_ra hl0 hsa e
          have hc1 := g1.ob hc (by decide) (fun e => xn_ra hc hsa e)
          have hO1 := g1.2.1 hO
          have hL1 := g1.ls (np _ _ hL) hO hL
          have hT1 := g1.ls (np _ _ hT) hO hT
          have hM1 := g1.ls (np _ _ hM) hO hM
          have cL1 := g1.cap (np _ _ hL) hO hL
          have cT1 := g1.cap (np _ _ hT) hO hT
          have cM1 := g1.cap (np _ _ hM) hO hM
          have hsa1 : h1[sa]? = some (.inl (16, vs2.map Value.int)) := by rw [eh1]; exact xs_eq hsa
          have hA1 := hA.fr f1 hO hc hL hT hM hsa hkl hkt hkm
          refine At.ic1 (tgt := 72) rfl rfl (fun h66 => ?_) (fun h66 => ?_)
          · have hmt : (fun r => mntB if0 if1 (resE r.2.2.1 (fun g => cellE r.2.2.2.2.1 [] g.toNatClampNeg) ((os.take if1).drop if0))) r = true := bI1 (of_decide_eq_true h66)
            have hP : altP sr (fun r => mntB if0 if1 (resE r.2.2.1 (fun g => cellE r.2.2.2.2.1 [] g.toNatClampNeg) ((os.take if1).drop if0))) (((some q9) : Option (Nat × En)).map (fun q => q.2.2.1)) (r :: (ls.take n).reverse) = r :: altP sr (fun r => mntB if0 if1 (resE r.2.2.1 (fun g => cellE r.2.2.2.2.1 [] g.toNatClampNeg) ((os.take if1).drop if0))) (some r.2.1) (ls.take n).reverse := if_pos ⟨hr1, hlk, hmt⟩
            refine At.go (q := xm193) rfl 4 (pc' := 78) (L' := [(4, .ref w), (6, .ref w), (5, .int (Int32.ofNat n)), (0, .ref ch), (1, .ref s), (2, .ref m), (3, .ref g)]) (st' := [.ref ch, .ref ch]) rfl ?_
            refine At.gf rfl (by decide) hc1 rfl ?_
            refine At.go (q := xm193) rfl 2 (pc' := 83) (L' := [(4, .ref w), (6, .ref w), (5, .int (Int32.ofNat n)), (0, .ref ch), (1, .ref s), (2, .ref m), (3, .ref g)]) (st' := [.int ((Int32.ofNat al) + 1), .ref ch]) rfl ?_
            refine At.pf rfl hc1 (Nat.le_of_ble_eq_true rfl) xfit_i ?_
            rw [iN_s]
            obtain ⟨h2, eh2⟩ : ∃ h, h = h1.set ch (.inr (3, [.ref d, .ref t, .ref mm, .ref g0, .int lb, .int (Int32.ofNat (al + 1)), .int gi])) := ⟨_, rfl⟩
            refine At.hpe eh2 ?_
            have g2 : FrX (fun x => x = ch) h1 h2 := by rw [eh2]; exact FrX.so hc1 (by decide) rfl (by decide)
            have f2a : FrX (fun x => x = ch ∨ x = l ∨ x = t ∨ x = mm ∨ x = sa) h1 h2 := g2.mono (fun x _ h => Or.inl h)
            have f2 : FrX (fun x => x = ch ∨ x = l ∨ x = t ∨ x = mm ∨ x = sa) hp h2 := FrX.tr f1 f2a (fun x h => Or.inl h)
            have hc2 : h2[ch]? = some (.inr (3, [.ref d, .ref t, .ref mm, .ref g0, .int lb, .int (Int32.ofNat (al + 1)), .int gi])) := by rw [eh2]; exact xs_eq hc1
            have nq : ∀ z zs, hLs h1 z zs → ¬ z = ch := fun z zs h e => ob_ne hc1 (by decide) h e.symm
            have hO2 := g2.2.1 hO1
            have hL2 := g2.ls (nq _ _ hL1) hO1 hL1
            have hT2 := g2.ls (nq _ _ hT1) hO1 hT1
            have hM2 := g2.ls (nq _ _ hM1) hO1 hM1
            have cL2 := g2.cap (nq _ _ hL1) hO1 hL1
            have cT2 := g2.cap (nq _ _ hT1) hO1 hT1
            have cM2 := g2.cap (nq _ _ hM1) hO1 hM1
            have hsa2 := g2.2.2.1 _ _ hsa1 rfl (Or.inl (fun e => xn_ar hsa1 hc1 e))
            have hA2 := hA1.fr f2a hO1 hc1 hL1 hT1 hM1 hsa1 hkl hkt hkm
            have hA22 := hA2
            obtain ⟨b1, b2, b3, b4, b5, b6, b7, b8, b9, ⟨tf2, b10⟩, b11⟩ := hA22
            have hX2 := hX.fr f2
            refine At.go (q := xm193) rfl 1 (pc' := 87) (L' := [(4, .ref w), (6, .ref w), (5, .int (Int32.ofNat n)), (0, .ref ch), (1, .ref s), (2, .ref m), (3, .ref g)]) (st' := [.ref s]) rfl ?_
            refine At.gf rfl (by decide) b8 h2v ?_
            refine At.go (q := xm193) rfl 1 (pc' := 93) (L' := [(4, .ref w), (6, .ref w), (5, .int (Int32.ofNat n)), (0, .ref ch), (1, .ref s), (2, .ref m), (3, .ref g)]) (st' := [.retAddr 18, .retAddr vb]) rfl ?_
            refine At.acn (tgt := 107) (b := true) rfl rfl e18 (fun h => absurd h (by decide)) (fun h => ?_)
            refine At.go (q := xm193) rfl 4 (pc' := 101) (L' := [(4, .ref w), (6, .ref w), (5, .int (Int32.ofNat n)), (0, .ref ch), (1, .ref s), (2, .ref m), (3, .ref g)]) (st' := [.ref m, .ref s, .ref w, .ref ch]) rfl ?_
            refine At.clm (as := [.ref ch, .ref w, .ref s, .ref m]) (rest := []) rfl (by decide) rfl (Nat.le_of_ble_eq_true rfl) (Nat.le_of_ble_eq_true rfl) (xrck_o (by decide) (by decide) hc2 (by decide)) (Nat.le_of_ble_eq_true rfl) (m_cset (T := TI r.2.2.2.2.2) (f9 := f9) (t9 := t9) hc2 b1 hlt hlm htm hO2 hL2 hT2 hM2 (hE.fr f2) (hTs.fr f2) (hMs.fr f2) hsr (by omega) (by omega) (by omega) hX2 (b11 r hrm) b5 hm9 b6 hcv hcl b7 b8 h15 b9 hsa2 (by omega) (by omega) hnm (hw r hrm hr1).1 (hw r hrm hr1).2.1 (hw r hrm hr1).2.2 e16 e27 hi0 hf9 ht9 hft htn (hok r hrm)) (fun v9 h3 c3 s3 hv9 => ?_)
            obtain ⟨rfl, vs3, hv3, c3b, s3b, hmk, hc9, hs9⟩ := hv9
            obtain ⟨q1, ⟨as3, q2, q2e⟩, ⟨ta3, q3, q3e⟩, ⟨ma3, qm, qme⟩, q4, q5, q6, q7, q8, q10, q11, q12⟩ := hmk
            have gP : FrX (fun x => x = sa) h2 (hPut h2 sa vs3 (setC r.2.2.2.2.1 (TI r.2.2.2.2.2).2.2.1.length col (resE r.2.2.1 (fun g => cellE r.2.2.2.2.1 [] g.toNatClampNeg) ((os.take t9).drop f9)))) := hPut_fr hsa2
            have npP : ∀ z zs, hLs h2 z zs → ¬ z = sa := fun z zs h e => by
              obtain ⟨lf, hl0⟩ := h.ob
              exact xn_ra hl0 hsa2 e
            have cPL := gP.cap (npP _ _ hL2) hO2 hL2
            have cPT := gP.cap (npP _ _ hT2) hO2 hT2
            have cPM := gP.cap (npP _ _ hM2) hO2 hM2
            have f3 : FrX (fun x => x = ch ∨ x = l ∨ x = t ∨ x = mm ∨ x = sa) h2 h3 := FrX.tr (gP.mono (fun x _ h => Or.inr (Or.inr (Or.inr (Or.inr h))))) q1 (fun x h => Or.inl (h.elim (fun h => Or.inr (Or.inl h)) (fun h => h.elim (fun h => Or.inr (Or.inr (Or.inl h))) (fun h => Or.inr (Or.inr (Or.inr (Or.inl h)))))))
            have hLP := gP.ls (npP _ _ hL2) hO2 hL2
            have hTP := gP.ls (npP _ _ hT2) hO2 hT2
            have hMP := gP.ls (npP _ _ hM2) hO2 hM2
            have hcP := gP.ob hc2 (by decide) (fun e => xn_ra hc2 hsa2 e)
            have hc3 := q1.ob hcP (by decide) (fun e => e.elim (fun e => ob_ne hcP (by decide) hLP e) (fun e => e.elim (fun e => ob_ne hcP (by decide) hTP e) (fun e => ob_ne hcP (by decide) hMP e)))
            have hsaP := hPut_sa (vs := vs3) (cs := setC r.2.2.2.2.1 (TI r.2.2.2.2.2).2.2.1.length col (resE r.2.2.1 (fun g => cellE r.2.2.2.2.1 [] g.toNatClampNeg) ((os.take t9).drop f9))) hsa2
            have hsa3 : h3[sa]? = some (.inl (16, vs3.map Value.int)) := q1.2.2.1 _ _ hsaP rfl (Or.inl (fun e => by
              obtain ⟨lf, hl0⟩ := hLP.ob
              obtain ⟨tf9, ht0⟩ := hTP.ob
              obtain ⟨mf9, hm0⟩ := hMP.ob
              exact e.elim (fun e => xn_ar hsaP hl0 e) (fun e => e.elim (fun e => xn_ar hsaP ht0 e) (fun e => xn_ar hsaP hm0 e))))
            have hlc := storeE_len hsr (r.1, r.2.1, lb, false, setC r.2.2.2.2.1 (TI r.2.2.2.2.2).2.2.1.length col (resE r.2.2.1 (fun g => cellE r.2.2.2.2.1 [] g.toNatClampNeg) ((os.take t9).drop f9)), r.2.2.2.2.2)
            have hlc2 : (storeE es ((fun r => (r.1, r.2.1, lb, false, setC r.2.2.2.2.1 (TI r.2.2.2.2.2).2.2.1.length col (resE r.2.2.1 (fun g => cellE r.2.2.2.2.1 [] g.toNatClampNeg) ((os.take t9).drop f9)), r.2.2.2.2.2)) r)).length ≤ es.length + 1 := hlc
            rw [List.length_append, List.length_singleton] at q11 q12
            have hww := (hw r hrm hr1).1
            refine At.go (q := xm193) rfl 1 (pc' := 113) (L' := [(4, .ref w), (6, .ref w), (5, .int (Int32.ofNat n)), (0, .ref ch), (1, .ref s), (2, .ref m), (3, .ref g)]) (st' := []) rfl ?_
            refine At.go (q := xm193) rfl 2 (pc' := 11) (L' := [(5, .int ((Int32.ofNat n) + (-1))), (4, .ref w), (6, .ref w), (0, .ref ch), (1, .ref s), (2, .ref m), (3, .ref g)]) (st' := []) rfl ?_
            rw [show Int32.ofNat n + (-1) = Int32.ofNat n - 1 from (Int32.sub_eq_add_neg _ _).symm]
            refine At.wk (L' := [(5, .int (Int32.ofNat n - 1)), (4, .ref w), (0, .ref ch), (1, .ref s), (2, .ref m), (3, .ref g)]) (List.forall_mem_cons.mpr ⟨List.mem_of_getElem? (i := 0) rfl, (List.forall_mem_cons.mpr ⟨List.mem_of_getElem? (i := 1) rfl, (List.forall_mem_cons.mpr ⟨List.mem_of_getElem? (i := 3) rfl, (List.forall_mem_cons.mpr ⟨List.mem_of_getElem? (i := 4) rfl, (List.forall_mem_cons.mpr ⟨List.mem_of_getElem? (i := 5) rfl, (List.forall_mem_cons.mpr ⟨List.mem_of_getElem? (i := 6) rfl, (fun _ h => (List.not_mem_nil h).elim)⟩)⟩)⟩)⟩)⟩)⟩) (show ([5, 4, 6, 0, 1, 2, 3] : List Nat).Nodup by decide) ?_
            rw [hP]
            have f03 : FrX (fun x => x = ch ∨ x = l ∨ x = t ∨ x = mm ∨ x = sa) hp h3 := FrX.tr f2 f3 (fun x h => Or.inl h)
            refine (ih h3 (some (w, r)) as3 ta3 ma3 (storeE es ((fun r => (r.1, r.2.1, lb, false, setC r.2.2.2.2.1 (TI r.2.2.2.2.2).2.2.1.length col (resE r.2.2.1 (fun g => cellE r.2.2.2.2.1 [] g.toNatClampNeg) ((os.take t9).drop f9)), r.2.2.2.2.2)) r)) (ts ++ [(fun r => (r.1, r.2.1, lb, false, setC r.2.2.2.2.1 (TI r.2.2.2.2.2).2.2.1.length col (resE r.2.2.1 (fun g => cellE r.2.2.2.2.1 [] g.toNatClampNeg) ((os.take t9).drop f9)), r.2.2.2.2.2)) r]) (ms ++ [(fun r => (r.1, r.2.1, lb, false, setC r.2.2.2.2.1 (TI r.2.2.2.2.2).2.2.1.length col (resE r.2.2.1 (fun g => cellE r.2.2.2.2.1 [] g.toNatClampNeg) ((os.take t9).drop f9)), r.2.2.2.2.2)) r]) vs3 (al + 1) (by omega) (hA2.fr f3 hO2 hc2 hL2 hT2 hM2 hsa2 hkl hkt hkm) (f3.2.1 hO2) hc3 q2 q3 qm q2e q3e qme (hsr.store _) (by omega) (by rw [List.length_append, List.length_singleton]; omega) (by rw [List.length_append, List.length_singleton]; omega) hsa3 (by omega) (fun q hq => by cases hq; exact hX.fr f03) (by omega)).mono (fun o ho => ?_)
            obtain ⟨hp9, c1, s1, e1, e2⟩ := ho
            refine ⟨hp9, c3 + c1, s3 + s1, e1.trans (xo_eq (by omega) (by omega)), ?_⟩
            have r1 : AltR hp h3 ch l t mm sa d g0 lb gi (al + 1) nb N ((stepS (fun r => (r.1, r.2.1, lb, false, setC r.2.2.2.2.1 (TI r.2.2.2.2.2).2.2.1.length col (resE r.2.2.1 (fun g => cellE r.2.2.2.2.1 [] g.toNatClampNeg) ((os.take t9).drop f9)), r.2.2.2.2.2))) (es, ts, ms) r) 1 c3 s3 := ⟨f03, hc3, ⟨_, q2, q2e⟩, ⟨_, q3, q3e⟩, ⟨_, qm, qme⟩, ⟨_, by omega, hsa3⟩, by omega, by omega, by omega, by omega, by omega, by omega, by omega, by omega⟩
            have r2 := r1.tr e2
            rw [List.foldl_cons, List.length_cons, Nat.add_comm _ 1, ← Nat.add_assoc]
            exact r2
          · refine At.go (q := xm193) rfl 3 (pc' := 11) (L' := [(5, .int ((Int32.ofNat n) + (-1))), (6, .ref w), (4, .ref q9.1), (0, .ref ch), (1, .ref s), (2, .ref m), (3, .ref g)]) (st' := []) rfl ?_
            rw [show Int32.ofNat n + (-1) = Int32.ofNat n - 1 from (Int32.sub_eq_add_neg _ _).symm]
            refine At.wk (L' := [(5, .int (Int32.ofNat n - 1)), (4, .ref q9.1), (0, .ref ch), (1, .ref s), (2, .ref m), (3, .ref g)]) (List.forall_mem_cons.mpr ⟨List.mem_of_getElem? (i := 0) rfl, (List.forall_mem_cons.mpr ⟨List.mem_of_getElem? (i := 2) rfl, (List.forall_mem_cons.mpr ⟨List.mem_of_getElem? (i := 3) rfl, (List.forall_mem_cons.mpr ⟨List.mem_of_getElem? (i := 4) rfl, (List.forall_mem_cons.mpr ⟨List.mem_of_getElem? (i := 5) rfl, (List.forall_mem_cons.mpr ⟨List.mem_of_getElem? (i := 6) rfl, (fun _ h => (List.not_mem_nil h).elim)⟩)⟩)⟩)⟩)⟩)⟩) (show ([5, 6, 4, 0, 1, 2, 3] : List Nat).Nodup by decide) ?_
            have hP : altP sr (fun r => mntB if0 if1 (resE r.2.2.1 (fun g => cellE r.2.2.2.2.1 [] g.toNatClampNeg) ((os.take if1).drop if0))) (((some q9) : Option (Nat × En)).map (fun q => q.2.2.1)) (r :: (ls.take n).reverse) = altP sr (fun r => mntB if0 if1 (resE r.2.2.1 (fun g => cellE r.2.2.2.2.1 [] g.toNatClampNeg) ((os.take if1).drop if0))) (((some q9) : Option (Nat × En)).map (fun q => q.2.2.1)) (ls.take n).reverse := if_neg (fun h => absurd (Eq.trans h.2.2.symm (bI0 (xne_f h66))) (by decide))
            rw [hP]
            refine (ih h1 (some q9) as ta ma es ts ms vs2 al (by omega) hA1 hO1 hc1 hL1 hT1 hM1 (hE.fr f1) (hTs.fr f1) (hMs.fr f1) hsr (by omega) (by omega) (by omega) hsa1 (by omega) (fun q hq => (hla q hq).fr f1) (by omega)).mono (fun o ho => ?_)
            obtain ⟨hp9, c1, s1, e1, e2⟩ := ho
            refine ⟨hp9, c1, s1, e1, ?_⟩
            have r1 : AltR hp h1 ch l t mm sa d g0 lb gi al nb N (es, ts, ms) 0 0 0 := ⟨f1, hc1, ⟨_, hL1, hE.fr f1⟩, ⟨_, hT1, hTs.fr f1⟩, ⟨_, hM1, hMs.fr f1⟩, ⟨vs2, by omega, hsa1⟩, by omega, by omega, by omega, by omega, by omega, by omega, by omega, by omega⟩
            have r2 := r1.tr e2
            rw [Nat.zero_add, Nat.zero_add, Nat.zero_add] at r2
            exact r2

theorem m_alter_cut_2 {S : List Int32} {TI : Nat → Tb} {d l g g0 k m mc s c ka fa oa aa pa sa wa tb if0 if1 items vb ch t mm N nb : Nat} {lb gi : Int32} {kd fr : Nat → Nat} {ws glv : Value} {es9 mf ces sf : List Value} {gs : List Int32} {os : List (Nat × Int32)} {sr : Int32} {ks : List Nat} {ls : List En} (hlt : ¬ l = t) (hlm : ¬ l = mm) (htm : ¬ t = mm) (hkl : ¬ k = l) (hkt : ¬ k = t) (hkm : ¬ k = mm) (hm4 : mf[4]? = some (.ref tb)) (h2v : sf[2]? = some (.retAddr vb)) (hN : os.length ≤ N) (hN2 : N ≤ 1000) (hnm : ∀ (i : Nat) (q : Nat × Int32), os[i]? = some q → q.1 = 3 → ∃ j : Nat, j ≤ 100000 ∧ q.2 = Int32.ofNat j) (hif : if1 ≤ os.length) (hmok : ∀ r ∈ ls, if0 < if1 → (resR r.2.2.1 (fun g => cellE r.2.2.2.2.1 [] g.toNatClampNeg) ((os.take if1).drop if0) []).isSome = true) (hnb : nb ≤ 20000) (e18 : xeq xKC (.retAddr vb) (.retAddr 18) = some false) {hp : List XC} {as ta ma : List Nat} {es ts ms : List En} {vs : List Int32} {al : Nat} (hA : AltS TI hp d l g k m mc s c ka fa oa aa pa sa wa tb if0 if1 items vb kd fr ws glv es9 mf ces sf gs os sr ks ls) (hO : Own hp) (hc : hp[ch]? = some (.inr (3, [.ref d, .ref t, .ref mm, .ref g0, .int lb, .int (Int32.ofNat al), .int gi]))) (hL : hLs hp l as) (hT : hLs hp t ta) (hM : hLs hp mm ma) (hE : hEs hp as es) (hTs : hEs hp ta ts) (hMs : hEs hp ma ms) (hsr : Srt es) (hl1 : es.length + ls.length ≤ nb) (hl2 : ts.length + ls.length ≤ nb) (hl3 : ms.length + ls.length ≤ nb) (hsa : hp[sa]? = some (.inl (16, vs.map Value.int))) (hvN : vs.length = N) (hal : al + ls.length ≤ 100000) : Me S 9 193 [.ref ch, .ref s, .ref m, .ref g] hp (fun v hp' c s => v = none ∧ AltR hp hp' ch l t mm sa d g0 lb gi (al + (altP sr (fun r => mntB if0 if1 (resE r.2.2.1 (fun g => cellE r.2.2.2.2.1 [] g.toNatClampNeg) ((os.take if1).drop if0))) none ls.reverse).length) nb N ((altP sr (fun r => mntB if0 if1 (resE r.2.2.1 (fun g => cellE r.2.2.2.2.1 [] g.toNatClampNeg) ((os.take if1).drop if0))) none ls.reverse).foldl (stepC lb) (es, ts, ms)) (altP sr (fun r => mntB if0 if1 (resE r.2.2.1 (fun g => cellE r.2.2.2.2.1 [] g.toNatClampNeg) ((os.take if1).drop if0))) none ls.reverse).length c s) := by
  have hAA := hA
  obtain ⟨a1, a2, a3, a4, -⟩ := hAA
  refine At.go (q := xm193) rfl 3 (pc' := 4) (L' := [(4, .null), (0, .ref ch), (1, .ref s), (2, .ref m), (3, .ref g)]) (st' := [.ref g]) rfl ?_
  refine At.clp (as := [.ref g]) (rest := []) rfl (by decide) rfl (Nat.le_of_ble_eq_true rfl) (Nat.le_of_ble_eq_true rfl) (xrck_o (by decide) (by decide) a2 (by decide)) (Nat.le_of_ble_eq_true rfl) (m_sgsize a2 a3) ?_
  refine At.go (q := xm193) rfl 3 (pc' := 11) (L' := [(5, .int ((Int32.ofNat ks.length) - 1)), (4, .null), (0, .ref ch), (1, .ref s), (2, .ref m), (3, .ref g)]) (st' := []) rfl ?_
  rw [a4.1]
  refine At.wk (L' := [(5, .int (Int32.ofNat ls.length - 1)), (4, .null), (0, .ref ch), (1, .ref s), (2, .ref m), (3, .ref g)]) (List.forall_mem_cons.mpr ⟨List.mem_of_getElem? (i := 0) rfl, (List.forall_mem_cons.mpr ⟨List.mem_of_getElem? (i := 1) rfl, (List.forall_mem_cons.mpr ⟨List.mem_of_getElem? (i := 2) rfl, (List.forall_mem_cons.mpr ⟨List.mem_of_getElem? (i := 3) rfl, (List.forall_mem_cons.mpr ⟨List.mem_of_getElem? (i := 4) rfl, (List.forall_mem_cons.mpr ⟨List.mem_of_getElem? (i := 5) rfl, (fun _ h => (List.not_mem_nil h).elim)⟩)⟩)⟩)⟩)⟩)⟩) (show ([5, 4, 0, 1, 2, 3] : List Nat).Nodup by decide) ?_
  refine (alt_cut_2 hlt hlm htm hkl hkt hkm hm4 h2v hN hN2 hnm hif hmok hnb e18 ls.length hp none as ta ma es ts ms vs al (Nat.le_refl _) hA hO hc hL hT hM hE hTs hMs hsr hl1 hl2 hl3 hsa hvN (fun q h => by cases h) hal).mono (fun o ho => ?_)
  obtain ⟨hp9, c1, s1, e1, e2⟩ := ho
  rw [List.take_length] at e2
  exact ⟨_, _, _, _, e1, rfl, by rw [Nat.zero_add, Nat.zero_add]; exact e2⟩
theorem m_alter_set_2 {S : List Int32} {TI : Nat → Tb} {d l g g0 k m mc s c ka fa oa aa pa sa wa tb if0 if1 items vb ch t mm N nb : Nat} {lb gi : Int32} {kd fr : Nat → Nat} {ws glv : Value} {es9 mf ces sf : List Value} {gs : List Int32} {os : List (Nat × Int32)} {sr : Int32} {ks : List Nat} {ls : List En} (hlt : ¬ l = t) (hlm : ¬ l = mm) (htm : ¬ t = mm) (hkl : ¬ k = l) (hkt : ¬ k = t) (hkm : ¬ k = mm) (hm4 : mf[4]? = some (.ref tb)) (h2v : sf[2]? = some (.retAddr vb)) (hN : os.length ≤ N) (hN2 : N ≤ 1000) (hnm : ∀ (i : Nat) (q : Nat × Int32), os[i]? = some q → q.1 = 3 → ∃ j : Nat, j ≤ 100000 ∧ q.2 = Int32.ofNat j) (hif : if1 ≤ os.length) (hmok : ∀ r ∈ ls, if0 < if1 → (resR r.2.2.1 (fun g => cellE r.2.2.2.2.1 [] g.toNatClampNeg) ((os.take if1).drop if0) []).isSome = true) (hnb : nb ≤ 20000) (e18 : xeq xKC (.retAddr vb) (.retAddr 18) = some true) {b16 b27 : Bool} {col f9 t9 : Nat} (e16 : xeq xKC (.retAddr vb) (.retAddr 16) = some b16) (e27 : xeq xKC (.retAddr vb) (.retAddr 27) = some b27) (hm9 : mf[9]? = some (.ref mc)) (hcv : ces[0]? = some (.int (Int32.ofNat col))) (hcl : ces.length ≤ 1000) (h15 : sf[15]? = some (.int 1)) (hw : ∀ r ∈ ls, r.1 = sr → (TI r.2.2.2.2.2).2.2.1.length ≤ 1000 ∧ 0 < col ∧ col < (TI r.2.2.2.2.2).2.2.1.length) (hi0 : 0 < items) (hf9 : f9 = fr 0) (ht9 : t9 = itTo items if0 os.length 0 (b16 || b27) fr) (hft : f9 ≤ t9) (htn : t9 ≤ os.length) (hok : ∀ r ∈ ls, (resR r.2.2.1 (fun g => cellE r.2.2.2.2.1 [] g.toNatClampNeg) ((os.take t9).drop f9) []).isSome = true) {hp : List XC} {as ta ma : List Nat} {es ts ms : List En} {vs : List Int32} {al : Nat} (hA : AltS TI hp d l g k m mc s c ka fa oa aa pa sa wa tb if0 if1 items vb kd fr ws glv es9 mf ces sf gs os sr ks ls) (hO : Own hp) (hc : hp[ch]? = some (.inr (3, [.ref d, .ref t, .ref mm, .ref g0, .int lb, .int (Int32.ofNat al), .int gi]))) (hL : hLs hp l as) (hT : hLs hp t ta) (hM : hLs hp mm ma) (hE : hEs hp as es) (hTs : hEs hp ta ts) (hMs : hEs hp ma ms) (hsr : Srt es) (hl1 : es.length + ls.length ≤ nb) (hl2 : ts.length + ls.length ≤ nb) (hl3 : ms.length + ls.length ≤ nb) (hsa : hp[sa]? = some (.inl (16, vs.map Value.int))) (hvN : vs.length = N) (hal : al + ls.length ≤ 100000) : Me S 9 193 [.ref ch, .ref s, .ref m, .ref g] hp (fun v hp' c s => v = none ∧ AltR hp hp' ch l t mm sa d g0 lb gi (al + (altP sr (fun r => mntB if0 if1 (resE r.2.2.1 (fun g => cellE r.2.2.2.2.1 [] g.toNatClampNeg) ((os.take if1).drop if0))) none ls.reverse).length) nb N ((altP sr (fun r => mntB if0 if1 (resE r.2.2.1 (fun g => cellE r.2.2.2.2.1 [] g.toNatClampNeg) ((os.take if1).drop if0))) none ls.reverse).foldl (stepS (fun r => (r.1, r.2.1, lb, false, setC r.2.2.2.2.1 (TI r.2.2.2.2.2).2.2.1.length col (resE r.2.2.1 (fun g => cellE r.2.2.2.2.1 [] g.toNatClampNeg) ((os.take t9).drop f9)), r.2.2.2.2.2))) (es, ts, ms)) (altP sr (fun r => mntB if0 if1 (resE r.2.2.1 (fun g => cellE r.2.2.2.2.1 [] g.toNatClampNeg) ((os.take if1).drop if0))) none ls.reverse).length c s) := by
  have hAA := hA
  obtain ⟨a1, a2, a3, a4, -⟩ := hAA
  refine At.go (q := xm193) rfl 3 (pc' := 4) (L' := [(4, .null), (0, .ref ch), (1, .ref s), (2, .ref m), (3, .ref g)]) (st' := [.ref g]) rfl ?_
  refine At.clp (as := [.ref g]) (rest := []) rfl (by decide) rfl (Nat.le_of_ble_eq_true rfl) (Nat.le_of_ble_eq_true rfl) (xrck_o (by decide) (by decide) a2 (by decide)) (Nat.le_of_ble_eq_true rfl) (m_sgsize a2 a3) ?_
  refine At.go (q := xm193) rfl 3 (pc' := 11) (L' := [(5, .int ((Int32.ofNat ks.length) - 1)), (4, .null), (0, .ref ch), (1, .ref s), (2, .ref m), (3, .ref g)]) (st' := []) rfl ?_
  rw [a4.1]
  refine At.wk (L' := [(5, .int (Int32.ofNat ls.length - 1)), (4, .null), (0, .ref ch), (1, .ref s), (2, .ref m), (3, .ref g)]) (List.forall_mem_cons.mpr ⟨List.mem_of_getElem? (i := 0) rfl, (List.forall_mem_cons.mpr ⟨List.mem_of_getElem? (i := 1) rfl, (List.forall_mem_cons.mpr ⟨List.mem_of_getElem? (i := 2) rfl, (List.forall_mem_cons.mpr ⟨List.mem_of_getElem? (i := 3) rfl, (List.forall_mem_cons.mpr ⟨List.mem_of_getElem? (i := 4) rfl, (List.forall_mem_cons.mpr ⟨List.mem_of_getElem? (i := 5) rfl, (fun _ h => (List.not_mem_nil h).elim)⟩)⟩)⟩)⟩)⟩)⟩) (show ([5, 4, 0, 1, 2, 3] : List Nat).Nodup by decide) ?_
  refine (alt_set_2 hlt hlm htm hkl hkt hkm hm4 h2v hN hN2 hnm hif hmok hnb e18 e16 e27 hm9 hcv hcl h15 hw hi0 hf9 ht9 hft htn hok ls.length hp none as ta ma es ts ms vs al (Nat.le_refl _) hA hO hc hL hT hM hE hTs hMs hsr hl1 hl2 hl3 hsa hvN (fun q h => by cases h) hal).mono (fun o ho => ?_)
  obtain ⟨hp9, c1, s1, e1, e2⟩ := ho
  rw [List.take_length] at e2
  exact ⟨_, _, _, _, e1, rfl, by rw [Nat.zero_add, Nat.zero_add]; exact e2⟩
