/-! what a label sees: look (written by wip/p27/c69.py) -/
/-- what stands while a label looks: the sight, the shelf, the tables -/
def LkAt (TI : Nat → Tb) (hp : List XC) (g s l k : Nat) (lb : Int32) (bs : List Nat) (es : List En) : Prop := Own hp ∧ hp[g]? = some (.inr (11, [.ref l, .int lb])) ∧ hp[s]? = some (.inr (10, [.ref k])) ∧ hLs hp k bs ∧ hEs hp bs es ∧ ∀ e ∈ es, hTb hp e.2.2.2.2.2 e.1 (TI e.2.2.2.2.2) ∧ 1 ≤ (TI e.2.2.2.2.2).2.2.1.length
theorem LkAt.fr {TI : Nat → Tb} {hp hp' : List XC} {g s l k : Nat} {lb : Int32} {bs as : List Nat} {es : List En} (h : LkAt TI hp g s l k lb bs es) (f : FrX (fun x => x = l) hp hp') (hL : hLs hp l as) (hne : l ≠ k) : LkAt TI hp' g s l k lb bs es := by
  obtain ⟨h1, h2, h3, h4, h5, h6⟩ := h
  exact ⟨f.2.1 h1, f.ob h2 (by decide) (ob_ne h2 (by decide) hL), f.ob h3 (by decide) (ob_ne h3 (by decide) hL), f.ls (fun e => hne e.symm) h1 h4, h5.fr f, fun e he => ⟨(h6 e he).1.fr f, (h6 e he).2⟩⟩
theorem max_l {a b : Nat} (h : b ≤ a) (ha : a < 2 ^ 31) : (if Int32.ofNat a < Int32.ofNat b then Int32.ofNat b else Int32.ofNat a) = Int32.ofNat a := if_neg (fun q => absurd ((iN_lt ha (by omega)).mp q) (by omega))
theorem look_in {S : List Int32} {TI : Nat → Tb} {g s l k : Nat} {lb : Int32} {bs : List Nat} {es : List En} (hs : Srt es) (hne : l ≠ k) (hn : es.length ≤ 30000) {a b : Nat} {Q : XO → Prop} (hb : b ≤ es.length) (hab : a ≤ b) (hgrp : ∀ (i : Nat) (e : En), a ≤ i → i < b → es[i]? = some e → chsIn es e lb a b = chs es e lb) : ∀ (j i : Nat) (hp : List XC) (nc ns : Nat) (as : List Nat), i + j = b → a ≤ i → LkAt TI hp g s l k lb bs es → hLs hp l as → hEs hp as (lookTo TI es lb i) →
    (∀ (hp' : List XC) (c s' : Nat), FrX (fun x => x = l) hp hp' → hSh hp' l (lookTo TI es lb b) → c + capL hp l ≤ nc + capL hp' l → s' + 4 * capL hp l ≤ ns + 4 * capL hp' l → capL hp' l ≤ max (capL hp l) (2 * es.length + 10) → At S 7 118 90 [(4, .int (Int32.ofNat b)), (3, .int (Int32.ofNat a)), (0, .ref g), (1, .ref s), (2, .int lb)] [] hp' c s' Q) →
    At S 7 118 32 [(5, .int (Int32.ofNat i)), (4, .int (Int32.ofNat b)), (3, .int (Int32.ofNat a)), (0, .ref g), (1, .ref s), (2, .int lb)] [] hp nc ns Q := by
  intro j
  induction j with
  | zero =>
    intro i hp nc ns as hi hai hA hL hE kk
    refine At.go (q := xm118) rfl 2 (pc' := 36) (L' := [(5, .int (Int32.ofNat i)), (4, .int (Int32.ofNat b)), (3, .int (Int32.ofNat a)), (0, .ref g), (1, .ref s), (2, .int lb)]) (st' := [.int (Int32.ofNat b), .int (Int32.ofNat i)]) rfl ?_
    refine At.ic2 (tgt := 90) rfl rfl (fun _ => ?_) (fun h => absurd ((iN_le (by omega) (by omega)).mpr (show b ≤ i by omega)) (of_decide_eq_false h))
    refine At.wk (L' := [(4, .int (Int32.ofNat b)), (3, .int (Int32.ofNat a)), (0, .ref g), (1, .ref s), (2, .int lb)]) (List.forall_mem_cons.mpr ⟨List.mem_of_getElem? (i := 1) rfl, (List.forall_mem_cons.mpr ⟨List.mem_of_getElem? (i := 2) rfl, (List.forall_mem_cons.mpr ⟨List.mem_of_getElem? (i := 3) rfl, (List.forall_mem_cons.mpr ⟨List.mem_of_getElem? (i := 4) rfl, (List.forall_mem_cons.mpr ⟨List.mem_of_getElem? (i := 5) rfl, (fun _ h => (List.not_mem_nil h).elim)⟩)⟩)⟩)⟩)⟩) (show ([5, 4, 3, 0, 1, 2] : List Nat).Nodup by decide) ?_
    have hib : i = b := by omega
    rw [hib] at hE
    exact kk hp nc ns FrX.rf ⟨as, hL, hE⟩ (Nat.le_refl _) (Nat.le_refl _) (Nat.le_max_left _ _)
  | succ j ih =>
    intro i hp nc ns as hi hai hA hL hE kk
    obtain ⟨hO, hg0, hs0, hK, hF, hTab⟩ := id hA
    obtain ⟨lf, hl0⟩ := hL.ob
    have hKn := hK.len
    have hLn := hE.1
    have hLl := lookTo_len (TI := TI) (es := es) (lb := lb) (i := i)
    obtain ⟨e, he⟩ : ∃ e, es[i]? = some e := ⟨_, List.getElem?_eq_getElem (by omega)⟩
    obtain ⟨x, hx0, hX⟩ := hF.get he
    obtain ⟨hT, hT1⟩ := hTab e (List.mem_of_getElem? he)
    have hX9 := hX
    obtain ⟨c, fs, hx, -, -, hxt⟩ := hX9
    refine At.go (q := xm118) rfl 2 (pc' := 36) (L' := [(5, .int (Int32.ofNat i)), (4, .int (Int32.ofNat b)), (3, .int (Int32.ofNat a)), (0, .ref g), (1, .ref s), (2, .int lb)]) (st' := [.int (Int32.ofNat b), .int (Int32.ofNat i)]) rfl ?_
    refine At.ic2 (tgt := 90) rfl rfl (fun h => absurd ((iN_le (by omega) (by omega)).mp (of_decide_eq_true h)) (by omega)) (fun _ => ?_)
    refine At.go (q := xm118) rfl 2 (pc' := 42) (L' := [(5, .int (Int32.ofNat i)), (4, .int (Int32.ofNat b)), (3, .int (Int32.ofNat a)), (0, .ref g), (1, .ref s), (2, .int lb)]) (st' := [.int (Int32.ofNat i), .ref s]) rfl ?_
    refine At.clp (as := [.ref s, .int (Int32.ofNat i)]) (rest := []) rfl (by decide) rfl (Nat.le_of_ble_eq_true rfl) (Nat.le_of_ble_eq_true rfl) (xrck_o (by decide) (by decide) hs0 (by decide)) (Nat.le_of_ble_eq_true rfl) (m_shget hs0 hK hx0 hx) ?_
    refine At.go (q := xm118) rfl 8 (pc' := 59) (L' := [(6, .ref x), (5, .int (Int32.ofNat i)), (4, .int (Int32.ofNat b)), (3, .int (Int32.ofNat a)), (0, .ref g), (1, .ref s), (2, .int lb)]) (st' := [.int lb, .int (Int32.ofNat b), .int (Int32.ofNat a), .ref x, .ref s]) rfl ?_
    refine At.clp (as := [.ref s, .ref x, .int (Int32.ofNat a), .int (Int32.ofNat b), .int lb]) (rest := []) rfl (by decide) rfl (Nat.le_of_ble_eq_true rfl) (Nat.le_of_ble_eq_true rfl) (xrck_o (by decide) (by decide) hs0 (by decide)) (Nat.le_of_ble_eq_true rfl) (m_isChosen hs0 hK hF hX hb (by omega)) ?_
    refine At.ic1 (tgt := 84) rfl rfl (fun h62 => ?_) (fun h62 => ?_)
    · refine At.go (q := xm118) rfl 2 (pc' := 32) (L' := [(5, .int ((Int32.ofNat i) + 1)), (6, .ref x), (4, .int (Int32.ofNat b)), (3, .int (Int32.ofNat a)), (0, .ref g), (1, .ref s), (2, .int lb)]) (st' := []) rfl ?_
      rw [iN_s]
      refine At.wk (L' := [(5, .int (Int32.ofNat (i + 1))), (4, .int (Int32.ofNat b)), (3, .int (Int32.ofNat a)), (0, .ref g), (1, .ref s), (2, .int lb)]) (List.forall_mem_cons.mpr ⟨List.mem_of_getElem? (i := 0) rfl, (List.forall_mem_cons.mpr ⟨List.mem_of_getElem? (i := 2) rfl, (List.forall_mem_cons.mpr ⟨List.mem_of_getElem? (i := 3) rfl, (List.forall_mem_cons.mpr ⟨List.mem_of_getElem? (i := 4) rfl, (List.forall_mem_cons.mpr ⟨List.mem_of_getElem? (i := 5) rfl, (List.forall_mem_cons.mpr ⟨List.mem_of_getElem? (i := 6) rfl, (fun _ h => (List.not_mem_nil h).elim)⟩)⟩)⟩)⟩)⟩)⟩) (show ([5, 6, 4, 3, 0, 1, 2] : List Nat).Nodup by decide) ?_
      have hq : lookTo TI es lb (i + 1) = lookTo TI es lb i := by rw [lookTo_s he]; unfold lookStep; rw [if_neg (by rw [← hgrp i e (by omega) (by omega) he, bI0 (of_decide_eq_true h62), Bool.false_and]; decide)]
      exact ih (i + 1) hp nc ns as (by omega) (by omega) hA hL (by rw [hq]; exact hE) kk
    · refine At.go (q := xm118) rfl 2 (pc' := 68) (L' := [(6, .ref x), (5, .int (Int32.ofNat i)), (4, .int (Int32.ofNat b)), (3, .int (Int32.ofNat a)), (0, .ref g), (1, .ref s), (2, .int lb)]) (st' := [.ref x, .ref g]) rfl ?_
      refine At.clp (as := [.ref g, .ref x]) (rest := []) rfl (by decide) rfl (Nat.le_of_ble_eq_true rfl) (Nat.le_of_ble_eq_true rfl) (xrck_o (by decide) (by decide) hg0 (by decide)) (Nat.le_of_ble_eq_true rfl) (m_isMet hg0 hL hE (hs.sub lookTo_sub) hX hT hT1) ?_
      refine At.ic1 (tgt := 84) rfl rfl (fun h71 => ?_) (fun h71 => ?_)
      · refine At.go (q := xm118) rfl 2 (pc' := 32) (L' := [(5, .int ((Int32.ofNat i) + 1)), (6, .ref x), (4, .int (Int32.ofNat b)), (3, .int (Int32.ofNat a)), (0, .ref g), (1, .ref s), (2, .int lb)]) (st' := []) rfl ?_
        rw [iN_s]
        refine At.wk (L' := [(5, .int (Int32.ofNat (i + 1))), (4, .int (Int32.ofNat b)), (3, .int (Int32.ofNat a)), (0, .ref g), (1, .ref s), (2, .int lb)]) (List.forall_mem_cons.mpr ⟨List.mem_of_getElem? (i := 0) rfl, (List.forall_mem_cons.mpr ⟨List.mem_of_getElem? (i := 2) rfl, (List.forall_mem_cons.mpr ⟨List.mem_of_getElem? (i := 3) rfl, (List.forall_mem_cons.mpr ⟨List.mem_of_getElem? (i := 4) rfl, (List.forall_mem_cons.mpr ⟨List.mem_of_getElem? (i := 5) rfl, (List.forall_mem_cons.mpr ⟨List.mem_of_getElem? (i := 6) rfl, (fun _ h => (List.not_mem_nil h).elim)⟩)⟩)⟩)⟩)⟩)⟩) (show ([5, 6, 4, 3, 0, 1, 2] : List Nat).Nodup by decide) ?_
        have hq : lookTo TI es lb (i + 1) = lookTo TI es lb i := by rw [lookTo_s he]; unfold lookStep; rw [if_neg (by rw [bI0 (of_decide_eq_true h71), Bool.and_false]; decide)]
        exact ih (i + 1) hp nc ns as (by omega) (by omega) hA hL (by rw [hq]; exact hE) kk
      · refine At.go (q := xm118) rfl 1 (pc' := 75) (L' := [(6, .ref x), (5, .int (Int32.ofNat i)), (4, .int (Int32.ofNat b)), (3, .int (Int32.ofNat a)), (0, .ref g), (1, .ref s), (2, .int lb)]) (st' := [.ref g]) rfl ?_
        refine At.gf rfl (by decide) hg0 rfl ?_
        refine At.go (q := xm118) rfl 1 (pc' := 80) (L' := [(6, .ref x), (5, .int (Int32.ofNat i)), (4, .int (Int32.ofNat b)), (3, .int (Int32.ofNat a)), (0, .ref g), (1, .ref s), (2, .int lb)]) (st' := [.ref x, .ref l]) rfl ?_
        refine At.clm (as := [.ref l, .ref x]) (rest := []) rfl (by decide) rfl (Nat.le_of_ble_eq_true rfl) (Nat.le_of_ble_eq_true rfl) (xrck_o (by decide) (by decide) hl0 (by decide)) (Nat.le_of_ble_eq_true rfl) (m_add hO hL hX.ob (by omega)) (fun v hp1 c1 s1 hv => ?_)
        obtain ⟨rfl, k1, k2, k3, k4, k5⟩ := hv
        refine At.go (q := xm118) rfl 3 (pc' := 32) (L' := [(5, .int ((Int32.ofNat i) + 1)), (6, .ref x), (4, .int (Int32.ofNat b)), (3, .int (Int32.ofNat a)), (0, .ref g), (1, .ref s), (2, .int lb)]) (st' := []) rfl ?_
        rw [iN_s]
        refine At.wk (L' := [(5, .int (Int32.ofNat (i + 1))), (4, .int (Int32.ofNat b)), (3, .int (Int32.ofNat a)), (0, .ref g), (1, .ref s), (2, .int lb)]) (List.forall_mem_cons.mpr ⟨List.mem_of_getElem? (i := 0) rfl, (List.forall_mem_cons.mpr ⟨List.mem_of_getElem? (i := 2) rfl, (List.forall_mem_cons.mpr ⟨List.mem_of_getElem? (i := 3) rfl, (List.forall_mem_cons.mpr ⟨List.mem_of_getElem? (i := 4) rfl, (List.forall_mem_cons.mpr ⟨List.mem_of_getElem? (i := 5) rfl, (List.forall_mem_cons.mpr ⟨List.mem_of_getElem? (i := 6) rfl, (fun _ h => (List.not_mem_nil h).elim)⟩)⟩)⟩)⟩)⟩)⟩) (show ([5, 6, 4, 3, 0, 1, 2] : List Nat).Nodup by decide) ?_
        have hq : lookTo TI es lb (i + 1) = lookTo TI es lb i ++ [e] := by rw [lookTo_s he]; unfold lookStep; rw [if_pos (by rw [← hgrp i e (by omega) (by omega) he, bI1 (of_decide_eq_false h62), bI1 (of_decide_eq_false h71)]; rfl)]
        have hlq := lookTo_len (TI := TI) (es := es) (lb := lb) (i := i + 1)
        rw [hq, List.length_append, List.length_singleton] at hlq
        refine ih (i + 1) hp1 _ _ (as ++ [x]) (by omega) (by omega) (hA.fr k1 hL hne) k2 (by rw [hq]; exact (hE.fr k1).app (hEs.one (hX.fr k1))) (fun hp2 c2 s2 g1 g2 g3 g4 g5 => kk hp2 c2 s2 (FrX.tr k1 g1 (fun x hx => Or.inl hx)) g2 (by omega) (by omega) ?_)
        rw [List.length_append, List.length_singleton] at k5
        omega
theorem look_end {S : List Int32} {TI : Nat → Tb} {g s l k : Nat} {lb : Int32} {bs : List Nat} {es : List En} (hs : Srt es) (hne : l ≠ k) (hn : es.length ≤ 30000) {a : Nat} {hp : List XC} {nc ns : Nat} {as : List Nat} (hae : es.length = a) (hA : LkAt TI hp g s l k lb bs es) (hL : hLs hp l as) (hE : hEs hp as (lookTo TI es lb a)) :
    At S 7 118 14 [(3, .int (Int32.ofNat a)), (0, .ref g), (1, .ref s), (2, .int lb)] [] hp nc ns (fun o => ∃ hp' c s', o = .inl (none, hp', c, s') ∧ FrX (fun x => x = l) hp hp' ∧ hSh hp' l (lookE TI es lb) ∧ c + capL hp l ≤ nc + capL hp' l ∧ s' + 4 * capL hp l ≤ ns + 4 * capL hp' l ∧ capL hp' l ≤ max (capL hp l) (2 * es.length + 10)) := by
  obtain ⟨hO, hg0, hs0, hK, hF, hTab⟩ := id hA
  have hKn := hK.len
  have hFl := hF.1
  refine At.go (q := xm118) rfl 2 (pc' := 16) (L' := [(3, .int (Int32.ofNat a)), (0, .ref g), (1, .ref s), (2, .int lb)]) (st' := [.ref s, .int (Int32.ofNat a)]) rfl ?_
  refine At.clp (as := [.ref s]) (rest := [.int (Int32.ofNat a)]) rfl (by decide) rfl (Nat.le_of_ble_eq_true rfl) (Nat.le_of_ble_eq_true rfl) (xrck_o (by decide) (by decide) hs0 (by decide)) (Nat.le_of_ble_eq_true rfl) (m_shsize hs0 hK) ?_
  refine At.ic2 (tgt := 102) rfl rfl (fun _ => ?_) (fun h => absurd ((iN_le (by omega) (by omega)).mpr (show bs.length ≤ a by omega)) (of_decide_eq_false h))
  exact At.rt rfl rfl ⟨hp, nc, ns, rfl, FrX.rf, ⟨as, hL, by rw [← lookTo_n (i := a) (by omega)]; exact hE⟩, Nat.le_refl _, Nat.le_refl _, Nat.le_max_left _ _⟩
theorem look_out {S : List Int32} {TI : Nat → Tb} {g s l k : Nat} {lb : Int32} {bs : List Nat} {es : List En} (hs : Srt es) (hne : l ≠ k) (hn : es.length ≤ 30000) : ∀ (j a : Nat) (hp : List XC) (nc ns : Nat) (as : List Nat), es.length - a ≤ j → a ≤ es.length → Bnd es a → LkAt TI hp g s l k lb bs es → hLs hp l as → hEs hp as (lookTo TI es lb a) →
    At S 7 118 14 [(3, .int (Int32.ofNat a)), (0, .ref g), (1, .ref s), (2, .int lb)] [] hp nc ns (fun o => ∃ hp' c s', o = .inl (none, hp', c, s') ∧ FrX (fun x => x = l) hp hp' ∧ hSh hp' l (lookE TI es lb) ∧ c + capL hp l ≤ nc + capL hp' l ∧ s' + 4 * capL hp l ≤ ns + 4 * capL hp' l ∧ capL hp' l ≤ max (capL hp l) (2 * es.length + 10)) := by
  intro j
  induction j with
  | zero =>
    intro a hp nc ns as hj hal hB hA hL hE
    exact look_end hs hne hn (by omega) hA hL hE
  | succ j ih =>
    intro a hp nc ns as hj hal hB hA hL hE
    by_cases hae : es.length = a
    · exact look_end hs hne hn hae hA hL hE
    · obtain ⟨hO, hg0, hs0, hK, hF, hTab⟩ := id hA
      have hKn := hK.len
      have hFl := hF.1
      obtain ⟨e0, he⟩ : ∃ e, es[a]? = some e := ⟨_, List.getElem?_eq_getElem (by omega)⟩
      have hrl := runK_le (es := es) (e := e0) (k := a + 1)
      have hbl : a + 1 + runK es e0 (a + 1) ≤ es.length := by omega
      refine At.go (q := xm118) rfl 2 (pc' := 16) (L' := [(3, .int (Int32.ofNat a)), (0, .ref g), (1, .ref s), (2, .int lb)]) (st' := [.ref s, .int (Int32.ofNat a)]) rfl ?_
      refine At.clp (as := [.ref s]) (rest := [.int (Int32.ofNat a)]) rfl (by decide) rfl (Nat.le_of_ble_eq_true rfl) (Nat.le_of_ble_eq_true rfl) (xrck_o (by decide) (by decide) hs0 (by decide)) (Nat.le_of_ble_eq_true rfl) (m_shsize hs0 hK) ?_
      refine At.ic2 (tgt := 102) rfl rfl (fun h => absurd ((iN_le (by omega) (by omega)).mp (of_decide_eq_true h)) (by omega)) (fun _ => ?_)
      refine At.go (q := xm118) rfl 2 (pc' := 24) (L' := [(3, .int (Int32.ofNat a)), (0, .ref g), (1, .ref s), (2, .int lb)]) (st' := [.int (Int32.ofNat a), .ref s]) rfl ?_
      refine At.clp (as := [.ref s, .int (Int32.ofNat a)]) (rest := []) rfl (by decide) rfl (Nat.le_of_ble_eq_true rfl) (Nat.le_of_ble_eq_true rfl) (xrck_o (by decide) (by decide) hs0 (by decide)) (Nat.le_of_ble_eq_true rfl) (m_endOfKey hs0 hK hF he) ?_
      refine At.go (q := xm118) rfl 3 (pc' := 32) (L' := [(5, .int (Int32.ofNat a)), (4, .int (Int32.ofNat (a + 1 + runK es e0 (a + 1)))), (3, .int (Int32.ofNat a)), (0, .ref g), (1, .ref s), (2, .int lb)]) (st' := []) rfl ?_
      refine At.wk (L' := [(5, .int (Int32.ofNat a)), (4, .int (Int32.ofNat (a + 1 + runK es e0 (a + 1)))), (3, .int (Int32.ofNat a)), (0, .ref g), (1, .ref s), (2, .int lb)]) (List.forall_mem_cons.mpr ⟨List.mem_of_getElem? (i := 0) rfl, (List.forall_mem_cons.mpr ⟨List.mem_of_getElem? (i := 1) rfl, (List.forall_mem_cons.mpr ⟨List.mem_of_getElem? (i := 2) rfl, (List.forall_mem_cons.mpr ⟨List.mem_of_getElem? (i := 3) rfl, (List.forall_mem_cons.mpr ⟨List.mem_of_getElem? (i := 4) rfl, (List.forall_mem_cons.mpr ⟨List.mem_of_getElem? (i := 5) rfl, (fun _ h => (List.not_mem_nil h).elim)⟩)⟩)⟩)⟩)⟩)⟩) (show ([5, 4, 3, 0, 1, 2] : List Nat).Nodup by decide) ?_
      refine look_in hs hne hn hbl (by omega) (fun i e h1 h2 h3 => chs_grp hs hB he h1 h2 h3) (runK es e0 (a + 1) + 1) a hp nc ns as (by omega) (Nat.le_refl a) hA hL hE (fun hp1 c1 s1 f1 f2 f3 f4 f5 => ?_)
      obtain ⟨as1, f6, f7⟩ := f2
      refine At.go (q := xm118) rfl 4 (pc' := 95) (L' := [(4, .int (Int32.ofNat (a + 1 + runK es e0 (a + 1)))), (3, .int (Int32.ofNat a)), (0, .ref g), (1, .ref s), (2, .int lb)]) (st' := [.int ((Int32.ofNat a) + 1), .int (Int32.ofNat (a + 1 + runK es e0 (a + 1)))]) rfl ?_
      rw [iN_s]
      refine At.sp rfl (by decide) (g := ([.int (if (Int32.ofNat (a + 1 + runK es e0 (a + 1))) < (Int32.ofNat (a + 1)) then (Int32.ofNat (a + 1)) else (Int32.ofNat (a + 1 + runK es e0 (a + 1))))], hp1)) rfl ?_
      rw [max_l (by omega) (by omega)]
      refine At.go (q := xm118) rfl 2 (pc' := 14) (L' := [(3, .int (Int32.ofNat (a + 1 + runK es e0 (a + 1)))), (4, .int (Int32.ofNat (a + 1 + runK es e0 (a + 1)))), (0, .ref g), (1, .ref s), (2, .int lb)]) (st' := []) rfl ?_
      refine At.wk (L' := [(3, .int (Int32.ofNat (a + 1 + runK es e0 (a + 1)))), (0, .ref g), (1, .ref s), (2, .int lb)]) (List.forall_mem_cons.mpr ⟨List.mem_of_getElem? (i := 0) rfl, (List.forall_mem_cons.mpr ⟨List.mem_of_getElem? (i := 2) rfl, (List.forall_mem_cons.mpr ⟨List.mem_of_getElem? (i := 3) rfl, (List.forall_mem_cons.mpr ⟨List.mem_of_getElem? (i := 4) rfl, (fun _ h => (List.not_mem_nil h).elim)⟩)⟩)⟩)⟩) (show ([3, 4, 0, 1, 2] : List Nat).Nodup by decide) ?_
      refine (ih _ hp1 c1 s1 as1 (by omega) hbl (hB.next hs he) (hA.fr f1 hL hne) f6 f7).mono (fun o h => ?_)
      obtain ⟨hp2, c2, s2, g1, g2, g3, g4, g5, g6⟩ := h
      exact ⟨hp2, c2, s2, g1, FrX.tr f1 g2 (fun x hx => Or.inl hx), g3, by omega, by omega, by omega⟩
/-- look -/
theorem m_look {S : List Int32} {TI : Nat → Tb} {hp : List XC} {g s l k : Nat} {lb : Int32} {lv : Value} {as bs : List Nat} {es : List En} (hs : Srt es) (hne : l ≠ k) (hn : es.length ≤ 30000) (hO : Own hp) (hg0 : hp[g]? = some (.inr (11, [.ref l, lv]))) (hs0 : hp[s]? = some (.inr (10, [.ref k]))) (hL : hLs hp l as) (hK : hLs hp k bs) (hF : hEs hp bs es) (hTab : ∀ e ∈ es, hTb hp e.2.2.2.2.2 e.1 (TI e.2.2.2.2.2) ∧ 1 ≤ (TI e.2.2.2.2.2).2.2.1.length) : Me S 7 118 [.ref g, .ref s, .int lb] hp (fun v hp' c s' => v = none ∧ FrX (fun x => x = l ∨ x = g) hp hp' ∧ hp'[g]? = some (.inr (11, [.ref l, .int lb])) ∧ hSh hp' l (lookE TI es lb) ∧ c + capL hp l ≤ capL hp' l ∧ s' + 4 * capL hp l ≤ 4 * capL hp' l ∧ capL hp' l ≤ max (capL hp l) (2 * es.length + 10)) := by
  obtain ⟨lf, hl0⟩ := hL.ob
  refine At.go (q := xm118) rfl 1 (pc' := 1) (L' := [(0, .ref g), (1, .ref s), (2, .int lb)]) (st' := [.ref g]) rfl ?_
  refine At.gf rfl (by decide) hg0 rfl ?_
  refine At.clm (as := [.ref l]) (rest := []) rfl (by decide) rfl (Nat.le_of_ble_eq_true rfl) (Nat.le_of_ble_eq_true rfl) (xrck_o (by decide) (by decide) hl0 (by decide)) (Nat.le_of_ble_eq_true rfl) (m_clear hL) (fun v hp1 c s1 hv => ?_)
  obtain ⟨rfl, k1, k2, rfl, rfl, k3⟩ := hv
  have hg1 := k1.ob hg0 (by decide) (ob_ne hg0 (by decide) hL)
  refine At.go (q := xm118) rfl 2 (pc' := 9) (L' := [(0, .ref g), (1, .ref s), (2, .int lb)]) (st' := [.int lb, .ref g]) rfl ?_
  refine At.pf rfl hg1 (Nat.le_of_ble_eq_true rfl) xfit_i ?_
  obtain ⟨hq1, ehq1⟩ : ∃ h, h = hp1.set g (.inr (11, [.ref l, .int lb])) := ⟨_, rfl⟩
  refine At.hpe ehq1 ?_
  have fhq1_g : hq1[g]? = some (.inr (11, [.ref l, .int lb])) := by rw [ehq1]; exact xs_eq hg1
  have k4 : FrX (fun x => x = g) hp1 hq1 := by rw [ehq1]; exact FrX.st hg1 rfl rfl rfl rfl (fun fs h => by cases h) (fun ci fs h => by cases h; exact ⟨_, rfl⟩)
  refine At.go (q := xm118) rfl 2 (pc' := 14) (L' := [(3, .int 0), (0, .ref g), (1, .ref s), (2, .int lb)]) (st' := []) rfl ?_
  have hgl : ¬ l = g := fun e => ob_ne hg0 (by decide) hL e.symm
  have hgk : ¬ k = g := fun e => ob_ne hg0 (by decide) hK e.symm
  have hO1 := k1.2.1 hO
  have hL2 := k4.ls hgl hO1 k2
  have hs1 := k4.ob (k1.ob hs0 (by decide) (ob_ne hs0 (by decide) hL)) (by decide) (fun e => xn_cl hs0 hg0 (by decide) e)
  have hA : LkAt TI hq1 g s l k lb bs es := ⟨k4.2.1 hO1, fhq1_g, hs1, k4.ls hgk hO1 (k1.ls (fun e => hne e.symm) hO hK), (hF.fr k1).fr k4, fun e he => ⟨((hTab e he).1.fr k1).fr k4, (hTab e he).2⟩⟩
  refine (look_out hs hne hn es.length 0 hq1 _ _ [] (by omega) (Nat.zero_le _) Bnd.zero hA hL2 ⟨rfl, fun i a e h => by cases h⟩).mono (fun o h => ?_)
  obtain ⟨hp', c, s', g1, g2, g3, g4, g5, g6⟩ := h
  have k5 : capL hq1 l = capL hp1 l := k4.cap hgl hO1 k2
  exact ⟨_, _, _, _, g1, rfl, FrX.tr (FrX.mono k1 (fun x _ hx => Or.inl hx)) (FrX.tr (P := fun x => x = l ∨ x = g) (FrX.mono k4 (fun x _ hx => Or.inr hx)) g2 (fun x hx => Or.inl (Or.inl hx))) (fun x hx => Or.inl hx), g2.ob fhq1_g (by decide) (fun e => hgl e.symm), g3, by omega, by omega, by omega⟩
