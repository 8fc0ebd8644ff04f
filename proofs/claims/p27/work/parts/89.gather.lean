/-! queries: gather (written by wip/p27/c89.py) -/
/-- the rows of a table among some that a label sees -/
def gthP (sr lb : Int32) (e : En) : Bool := decide (e.1 = sr) && (!e.2.2.2.1 && isB e.2.2.1 lb)
theorem gth_y {sr lb : Int32} {es : List En} {i : Nat} {e : En} (he : es[i]? = some e) (h : gthP sr lb e = true) : (es.drop i).filter (gthP sr lb) = e :: (es.drop (i + 1)).filter (gthP sr lb) := by
  rw [xdrop_q (i := i), he, Option.toList_some, List.singleton_append, List.filter_cons, if_pos h]
theorem gth_n {sr lb : Int32} {es : List En} {i : Nat} {e : En} (he : es[i]? = some e) (h : gthP sr lb e = false) : (es.drop i).filter (gthP sr lb) = (es.drop (i + 1)).filter (gthP sr lb) := by
  rw [xdrop_q (i := i), he, Option.toList_some, List.singleton_append, List.filter_cons, if_neg (by rw [h]; decide)]
theorem gth_e {S : List Int32} {q l t v g st vl gl : Nat} {sr lb : Int32} {qf sf tf : List Value} {ss : List Nat} {es : List En} (hne : l ≠ vl) (hqf : qf[0]? = some (.ref st)) (hsf : sf[3]? = some (.int 1)) : ∀ (j i : Nat) (hp : List XC) (as : List Nat) (acc : List En) {nc ns : Nat}, i + j = es.length → Own hp → hp[q]? = some (.inr (7, qf)) → hp[st]? = some (.inr (12, sf)) → hp[v]? = some (.inr (10, [.ref vl])) → hp[g]? = some (.inr (11, [.ref gl, .int lb])) → hp[t]? = some (.inr (13, .int sr :: tf)) → hLs hp l as → hLs hp vl ss → hEs hp as acc → hEs hp ss es → as.length + j ≤ 60000 →
    At S 7 140 31 [(6, .int (Int32.ofNat i)), (5, .int (Int32.ofNat ss.length)), (0, .ref q), (1, .ref l), (2, .ref t), (3, .ref v), (4, .ref g)] [] hp nc ns (fun o => ∃ hp' c s, o = .inl (none, hp', c, s) ∧ FrX (fun x => x = l) hp hp' ∧ hSh hp' l (acc ++ (es.drop i).filter (gthP sr lb)) ∧ c + capL hp l ≤ nc + capL hp' l ∧ s + 4 * capL hp l ≤ ns + 4 * capL hp' l ∧ capL hp' l ≤ max (capL hp l) (2 * (as.length + j) + 10)) := by
  intro j
  induction j with
  | zero =>
    intro i hp as acc nc ns hi hO hq hst hv hg ht hL hSS hE hF hn
    obtain ⟨lf, hl0⟩ := hL.ob
    have hbn := hSS.len
    have hle := hF.1
    refine At.go (q := xm140) rfl 2 (pc' := 35) (L' := [(6, .int (Int32.ofNat i)), (5, .int (Int32.ofNat ss.length)), (0, .ref q), (1, .ref l), (2, .ref t), (3, .ref v), (4, .ref g)]) (st' := [.int (Int32.ofNat ss.length), .int (Int32.ofNat i)]) rfl ?_
    refine At.ic2 (tgt := 121) rfl rfl (fun _ => ?_) (fun h => absurd ((iN_le (by omega) (by omega)).mpr (show ss.length ≤ i by omega)) (of_decide_eq_false h))
    exact At.rt rfl rfl ⟨hp, nc, ns, rfl, FrX.rf, ⟨as, hL, by rw [List.drop_eq_nil_of_le (by omega)]; exact (List.append_nil acc).symm ▸ hE⟩, by omega, by omega, by omega⟩
  | succ j ih =>
    intro i hp as acc nc ns hi hO hq hst hv hg ht hL hSS hE hF hn
    obtain ⟨lf, hl0⟩ := hL.ob
    have hbn := hSS.len
    have hle := hF.1
    have hn2 : as.length ≤ 60000 := by omega
    obtain ⟨e, he⟩ : ∃ e, es[i]? = some e := ⟨_, List.getElem?_eq_getElem (by omega)⟩
    obtain ⟨x, hx0, hX⟩ := hF.get he
    have hX9 := hX
    obtain ⟨c, xf, hx, -, -, hxt⟩ := hX9
    refine At.go (q := xm140) rfl 2 (pc' := 35) (L' := [(6, .int (Int32.ofNat i)), (5, .int (Int32.ofNat ss.length)), (0, .ref q), (1, .ref l), (2, .ref t), (3, .ref v), (4, .ref g)]) (st' := [.int (Int32.ofNat ss.length), .int (Int32.ofNat i)]) rfl ?_
    refine At.ic2 (tgt := 121) rfl rfl (fun h => absurd ((iN_le (by omega) (by omega)).mp (of_decide_eq_true h)) (by omega)) (fun _ => ?_)
    refine At.go (q := xm140) rfl 3 (pc' := 43) (L' := [(6, .int (Int32.ofNat i)), (5, .int (Int32.ofNat ss.length)), (0, .ref q), (1, .ref l), (2, .ref t), (3, .ref v), (4, .ref g)]) (st' := [.ref q]) rfl ?_
    refine At.gf rfl (by decide) hq hqf ?_
    refine At.gf rfl (by decide) hst hsf ?_
    refine At.go (q := xm140) rfl 3 (pc' := 55) (L' := [(6, .int (Int32.ofNat i)), (5, .int (Int32.ofNat ss.length)), (0, .ref q), (1, .ref l), (2, .ref t), (3, .ref v), (4, .ref g)]) (st' := [.int (Int32.ofNat i), .ref v]) rfl ?_
    refine At.clp (as := [.ref v, .int (Int32.ofNat i)]) (rest := []) rfl (by decide) rfl (Nat.le_of_ble_eq_true rfl) (Nat.le_of_ble_eq_true rfl) (xrck_o (by decide) (by decide) hv (by decide)) (Nat.le_of_ble_eq_true rfl) (m_shget hv hSS hx0 hx) ?_
    refine At.go (q := xm140) rfl 6 (pc' := 78) (L' := [(7, .ref x), (6, .int (Int32.ofNat i)), (5, .int (Int32.ofNat ss.length)), (0, .ref q), (1, .ref l), (2, .ref t), (3, .ref v), (4, .ref g)]) (st' := [.ref t, .ref x]) rfl ?_
    refine At.clp (as := [.ref x, .ref t]) (rest := []) rfl (by decide) rfl (Nat.le_of_ble_eq_true rfl) (Nat.le_of_ble_eq_true rfl) (xrck_o (by decide) (by decide) hx (by decide)) (Nat.le_of_ble_eq_true rfl) (m_isOf hx hxt ht) ?_
    refine At.ic1 (tgt := 115) rfl rfl (fun h81 => ?_) (fun h81 => ?_)
    · refine At.go (q := xm140) rfl 2 (pc' := 31) (L' := [(6, .int ((Int32.ofNat i) + 1)), (7, .ref x), (5, .int (Int32.ofNat ss.length)), (0, .ref q), (1, .ref l), (2, .ref t), (3, .ref v), (4, .ref g)]) (st' := []) rfl ?_
      rw [iN_s]
      refine At.wk (L' := [(6, .int (Int32.ofNat (i + 1))), (5, .int (Int32.ofNat ss.length)), (0, .ref q), (1, .ref l), (2, .ref t), (3, .ref v), (4, .ref g)]) (List.forall_mem_cons.mpr ⟨List.mem_of_getElem? (i := 0) rfl, (List.forall_mem_cons.mpr ⟨List.mem_of_getElem? (i := 2) rfl, (List.forall_mem_cons.mpr ⟨List.mem_of_getElem? (i := 3) rfl, (List.forall_mem_cons.mpr ⟨List.mem_of_getElem? (i := 4) rfl, (List.forall_mem_cons.mpr ⟨List.mem_of_getElem? (i := 5) rfl, (List.forall_mem_cons.mpr ⟨List.mem_of_getElem? (i := 6) rfl, (List.forall_mem_cons.mpr ⟨List.mem_of_getElem? (i := 7) rfl, (fun _ h => (List.not_mem_nil h).elim)⟩)⟩)⟩)⟩)⟩)⟩)⟩) (show ([6, 7, 5, 0, 1, 2, 3, 4] : List Nat).Nodup by decide) ?_
      have hp9 : gthP sr lb e = false := by unfold gthP; rw [bI0 (of_decide_eq_true h81), Bool.false_and]
      rw [gth_n he hp9]
      refine (ih (i + 1) hp as acc (by omega) hO hq hst hv hg ht hL hSS hE hF (by omega)).mono (fun o h => ?_)
      obtain ⟨hp', c, s, h1, h2, h3, h4, h5, h6⟩ := h
      exact ⟨hp', c, s, h1, h2, h3, h4, h5, by omega⟩
    · refine At.go (q := xm140) rfl 1 (pc' := 86) (L' := [(7, .ref x), (6, .int (Int32.ofNat i)), (5, .int (Int32.ofNat ss.length)), (0, .ref q), (1, .ref l), (2, .ref t), (3, .ref v), (4, .ref g)]) (st' := [.ref x]) rfl ?_
      refine At.gf rfl (by decide) hx rfl ?_
      refine At.ic1 (tgt := 115) rfl rfl (fun h89 => ?_) (fun h89 => ?_)
      · refine At.go (q := xm140) rfl 2 (pc' := 31) (L' := [(6, .int ((Int32.ofNat i) + 1)), (7, .ref x), (5, .int (Int32.ofNat ss.length)), (0, .ref q), (1, .ref l), (2, .ref t), (3, .ref v), (4, .ref g)]) (st' := []) rfl ?_
        rw [iN_s]
        refine At.wk (L' := [(6, .int (Int32.ofNat (i + 1))), (5, .int (Int32.ofNat ss.length)), (0, .ref q), (1, .ref l), (2, .ref t), (3, .ref v), (4, .ref g)]) (List.forall_mem_cons.mpr ⟨List.mem_of_getElem? (i := 0) rfl, (List.forall_mem_cons.mpr ⟨List.mem_of_getElem? (i := 2) rfl, (List.forall_mem_cons.mpr ⟨List.mem_of_getElem? (i := 3) rfl, (List.forall_mem_cons.mpr ⟨List.mem_of_getElem? (i := 4) rfl, (List.forall_mem_cons.mpr ⟨List.mem_of_getElem? (i := 5) rfl, (List.forall_mem_cons.mpr ⟨List.mem_of_getElem? (i := 6) rfl, (List.forall_mem_cons.mpr ⟨List.mem_of_getElem? (i := 7) rfl, (fun _ h => (List.not_mem_nil h).elim)⟩)⟩)⟩)⟩)⟩)⟩)⟩) (show ([6, 7, 5, 0, 1, 2, 3, 4] : List Nat).Nodup by decide) ?_
        have hp9 : gthP sr lb e = false := by unfold gthP; rw [bI1 (of_decide_eq_true h89), Bool.not_true, Bool.false_and, Bool.and_false]
        rw [gth_n he hp9]
        refine (ih (i + 1) hp as acc (by omega) hO hq hst hv hg ht hL hSS hE hF (by omega)).mono (fun o h => ?_)
        obtain ⟨hp', c, s, h1, h2, h3, h4, h5, h6⟩ := h
        exact ⟨hp', c, s, h1, h2, h3, h4, h5, by omega⟩
      · refine At.go (q := xm140) rfl 1 (pc' := 94) (L' := [(7, .ref x), (6, .int (Int32.ofNat i)), (5, .int (Int32.ofNat ss.length)), (0, .ref q), (1, .ref l), (2, .ref t), (3, .ref v), (4, .ref g)]) (st' := [.ref x]) rfl ?_
        refine At.gf rfl (by decide) hx rfl ?_
        refine At.go (q := xm140) rfl 1 (pc' := 99) (L' := [(7, .ref x), (6, .int (Int32.ofNat i)), (5, .int (Int32.ofNat ss.length)), (0, .ref q), (1, .ref l), (2, .ref t), (3, .ref v), (4, .ref g)]) (st' := [.ref g, .int e.2.2.1]) rfl ?_
        refine At.gf rfl (by decide) hg rfl ?_
        refine At.clp (as := [.int e.2.2.1, .int lb]) (rest := []) rfl (by decide) rfl (Nat.le_of_ble_eq_true rfl) (Nat.le_of_ble_eq_true rfl) rfl (Nat.le_of_ble_eq_true rfl) (m_isBelow e.2.2.1 lb) ?_
        refine At.ic1 (tgt := 115) rfl rfl (fun h105 => ?_) (fun h105 => ?_)
        · refine At.go (q := xm140) rfl 2 (pc' := 31) (L' := [(6, .int ((Int32.ofNat i) + 1)), (7, .ref x), (5, .int (Int32.ofNat ss.length)), (0, .ref q), (1, .ref l), (2, .ref t), (3, .ref v), (4, .ref g)]) (st' := []) rfl ?_
          rw [iN_s]
          refine At.wk (L' := [(6, .int (Int32.ofNat (i + 1))), (5, .int (Int32.ofNat ss.length)), (0, .ref q), (1, .ref l), (2, .ref t), (3, .ref v), (4, .ref g)]) (List.forall_mem_cons.mpr ⟨List.mem_of_getElem? (i := 0) rfl, (List.forall_mem_cons.mpr ⟨List.mem_of_getElem? (i := 2) rfl, (List.forall_mem_cons.mpr ⟨List.mem_of_getElem? (i := 3) rfl, (List.forall_mem_cons.mpr ⟨List.mem_of_getElem? (i := 4) rfl, (List.forall_mem_cons.mpr ⟨List.mem_of_getElem? (i := 5) rfl, (List.forall_mem_cons.mpr ⟨List.mem_of_getElem? (i := 6) rfl, (List.forall_mem_cons.mpr ⟨List.mem_of_getElem? (i := 7) rfl, (fun _ h => (List.not_mem_nil h).elim)⟩)⟩)⟩)⟩)⟩)⟩)⟩) (show ([6, 7, 5, 0, 1, 2, 3, 4] : List Nat).Nodup by decide) ?_
          have hp9 : gthP sr lb e = false := by unfold gthP; rw [bI0 (of_decide_eq_true h105), Bool.and_false, Bool.and_false]
          rw [gth_n he hp9]
          refine (ih (i + 1) hp as acc (by omega) hO hq hst hv hg ht hL hSS hE hF (by omega)).mono (fun o h => ?_)
          obtain ⟨hp', c, s, h1, h2, h3, h4, h5, h6⟩ := h
          exact ⟨hp', c, s, h1, h2, h3, h4, h5, by omega⟩
        · refine At.go (q := xm140) rfl 2 (pc' := 111) (L' := [(7, .ref x), (6, .int (Int32.ofNat i)), (5, .int (Int32.ofNat ss.length)), (0, .ref q), (1, .ref l), (2, .ref t), (3, .ref v), (4, .ref g)]) (st' := [.ref x, .ref l]) rfl ?_
          refine At.clm (as := [.ref l, .ref x]) (rest := []) rfl (by decide) rfl (Nat.le_of_ble_eq_true rfl) (Nat.le_of_ble_eq_true rfl) (xrck_o (by decide) (by decide) hl0 (by decide)) (Nat.le_of_ble_eq_true rfl) (m_add hO hL hX.ob hn2) (fun v9 hp1 c1 s1 hv9 => ?_)
          obtain ⟨rfl, k1, k2, k3, k4, k5⟩ := hv9
          refine At.go (q := xm140) rfl 3 (pc' := 31) (L' := [(6, .int ((Int32.ofNat i) + 1)), (7, .ref x), (5, .int (Int32.ofNat ss.length)), (0, .ref q), (1, .ref l), (2, .ref t), (3, .ref v), (4, .ref g)]) (st' := []) rfl ?_
          rw [iN_s]
          refine At.wk (L' := [(6, .int (Int32.ofNat (i + 1))), (5, .int (Int32.ofNat ss.length)), (0, .ref q), (1, .ref l), (2, .ref t), (3, .ref v), (4, .ref g)]) (List.forall_mem_cons.mpr ⟨List.mem_of_getElem? (i := 0) rfl, (List.forall_mem_cons.mpr ⟨List.mem_of_getElem? (i := 2) rfl, (List.forall_mem_cons.mpr ⟨List.mem_of_getElem? (i := 3) rfl, (List.forall_mem_cons.mpr ⟨List.mem_of_getElem? (i := 4) rfl, (List.forall_mem_cons.mpr ⟨List.mem_of_getElem? (i := 5) rfl, (List.forall_mem_cons.mpr ⟨List.mem_of_getElem? (i := 6) rfl, (List.forall_mem_cons.mpr ⟨List.mem_of_getElem? (i := 7) rfl, (fun _ h => (List.not_mem_nil h).elim)⟩)⟩)⟩)⟩)⟩)⟩)⟩) (show ([6, 7, 5, 0, 1, 2, 3, 4] : List Nat).Nodup by decide) ?_
          have hp9 : gthP sr lb e = true := by unfold gthP; rw [bI1 (of_decide_eq_false h81), bI0 (xne_f h89), bI1 (of_decide_eq_false h105)]; rfl
          rw [gth_y he hp9]
          refine (ih (i + 1) hp1 _ (acc ++ [e]) (by omega) (k1.2.1 hO) (k1.ob hq (by decide) (ob_ne hq (by decide) hL)) (k1.ob hst (by decide) (ob_ne hst (by decide) hL)) (k1.ob hv (by decide) (ob_ne hv (by decide) hL)) (k1.ob hg (by decide) (ob_ne hg (by decide) hL)) (k1.ob ht (by decide) (ob_ne ht (by decide) hL)) k2 (k1.ls (fun h => hne h.symm) hO hSS) ((hE.fr k1).app (hEs.one (hX.fr k1))) (hF.fr k1) (by rw [List.length_append, List.length_singleton]; omega)).mono (fun o h => ?_)
          obtain ⟨hp', c, s, h1, h2, h3, h4, h5, h6⟩ := h
          rw [List.length_append, List.length_singleton] at h6 k5
          rw [List.append_assoc] at h3
          exact ⟨hp', c, s, h1, FrX.tr k1 h2 (fun x hx => Or.inl hx), h3, by omega, by omega, by omega⟩
/-- gather, of all that is below -/
theorem m_gather_e {hp : List XC} {as : List Nat} {S : List Int32} {q l t v g st vl gl : Nat} {sr lb : Int32} {qf sf tf : List Value} {ss : List Nat} {es : List En} (hne : l ≠ vl) (hqf : qf[0]? = some (.ref st)) (hsf : sf[3]? = some (.int 1)) (hO : Own hp) (hq : hp[q]? = some (.inr (7, qf))) (hst : hp[st]? = some (.inr (12, sf))) (hv : hp[v]? = some (.inr (10, [.ref vl]))) (hg : hp[g]? = some (.inr (11, [.ref gl, .int lb]))) (ht : hp[t]? = some (.inr (13, .int sr :: tf))) (hL : hLs hp l as) (hSS : hLs hp vl ss) (hF : hEs hp ss es) (hn : es.length ≤ 60000) : Me S 7 140 [.ref q, .ref l, .ref t, .ref v, .ref g] hp (fun v' hp' c s => v' = none ∧ FrX (fun x => x = l) hp hp' ∧ hSh hp' l (es.filter (gthP sr lb)) ∧ c + capL hp l ≤ capL hp' l ∧ s + 4 * capL hp l ≤ 4 * capL hp' l ∧ capL hp' l ≤ max (capL hp l) (2 * es.length + 10)) := by
  obtain ⟨lf, hl0⟩ := hL.ob
  have hbn := hSS.len
  have hle := hF.1
  refine At.go (q := xm140) rfl 1 (pc' := 1) (L' := [(0, .ref q), (1, .ref l), (2, .ref t), (3, .ref v), (4, .ref g)]) (st' := [.ref l]) rfl ?_
  refine At.clm (as := [.ref l]) (rest := []) rfl (by decide) rfl (Nat.le_of_ble_eq_true rfl) (Nat.le_of_ble_eq_true rfl) (xrck_o (by decide) (by decide) hl0 (by decide)) (Nat.le_of_ble_eq_true rfl) (m_clear hL) (fun v9 hr1 c1 s1 hv9 => ?_)
  obtain ⟨rfl, k1, k2, rfl, rfl, k3⟩ := hv9
  have hq1 := k1.ob hq (by decide) (ob_ne hq (by decide) hL)
  have hst1 := k1.ob hst (by decide) (ob_ne hst (by decide) hL)
  have hv1 := k1.ob hv (by decide) (ob_ne hv (by decide) hL)
  have hg1 := k1.ob hg (by decide) (ob_ne hg (by decide) hL)
  have ht1 := k1.ob ht (by decide) (ob_ne ht (by decide) hL)
  have hSS1 := k1.ls (fun h => hne h.symm) hO hSS
  refine At.go (q := xm140) rfl 1 (pc' := 5) (L' := [(0, .ref q), (1, .ref l), (2, .ref t), (3, .ref v), (4, .ref g)]) (st' := [.ref q]) rfl ?_
  refine At.gf rfl (by decide) hq1 hqf ?_
  refine At.gf rfl (by decide) hst1 hsf ?_
  refine At.go (q := xm140) rfl 2 (pc' := 15) (L' := [(0, .ref q), (1, .ref l), (2, .ref t), (3, .ref v), (4, .ref g)]) (st' := [.ref v]) rfl ?_
  refine At.clp (as := [.ref v]) (rest := []) rfl (by decide) rfl (Nat.le_of_ble_eq_true rfl) (Nat.le_of_ble_eq_true rfl) (xrck_o (by decide) (by decide) hv1 (by decide)) (Nat.le_of_ble_eq_true rfl) (m_shsize hv1 hSS1) ?_
  refine At.go (q := xm140) rfl 4 (pc' := 31) (L' := [(6, .int 0), (5, .int (Int32.ofNat ss.length)), (0, .ref q), (1, .ref l), (2, .ref t), (3, .ref v), (4, .ref g)]) (st' := []) rfl ?_
  refine At.wk (L' := [(6, .int (Int32.ofNat 0)), (5, .int (Int32.ofNat ss.length)), (0, .ref q), (1, .ref l), (2, .ref t), (3, .ref v), (4, .ref g)]) (List.forall_mem_cons.mpr ⟨List.mem_of_getElem? (i := 0) rfl, (List.forall_mem_cons.mpr ⟨List.mem_of_getElem? (i := 1) rfl, (List.forall_mem_cons.mpr ⟨List.mem_of_getElem? (i := 2) rfl, (List.forall_mem_cons.mpr ⟨List.mem_of_getElem? (i := 3) rfl, (List.forall_mem_cons.mpr ⟨List.mem_of_getElem? (i := 4) rfl, (List.forall_mem_cons.mpr ⟨List.mem_of_getElem? (i := 5) rfl, (List.forall_mem_cons.mpr ⟨List.mem_of_getElem? (i := 6) rfl, (fun _ h => (List.not_mem_nil h).elim)⟩)⟩)⟩)⟩)⟩)⟩)⟩) (show ([6, 5, 0, 1, 2, 3, 4] : List Nat).Nodup by decide) ?_
  refine (gth_e hne hqf hsf es.length 0 hr1 [] [] (by omega) (k1.2.1 hO) hq1 hst1 hv1 hg1 ht1 k2 hSS1 ⟨rfl, fun i a e h => by cases h⟩ (hF.fr k1) (by rw [List.length_nil]; omega)).mono (fun o h => ?_)
  obtain ⟨hp', c, s, h1, h2, h3, h4, h5, h6⟩ := h
  rw [List.drop_zero, List.nil_append] at h3
  rw [List.length_nil] at h6
  exact ⟨_, _, _, _, h1, rfl, FrX.tr k1 h2 (fun x hx => Or.inl hx), h3, by omega, by omega, by omega⟩
theorem gth_s {S : List Int32} {q l t v g st vl gl : Nat} {sr lb : Int32} {qf sf tf : List Value} {ss : List Nat} {es : List En} (hne : l ≠ gl) (hqf : qf[0]? = some (.ref st)) (hsf : sf[3]? = some (.int 0)) : ∀ (j i : Nat) (hp : List XC) (as : List Nat) (acc : List En) {nc ns : Nat}, i + j = es.length → Own hp → hp[q]? = some (.inr (7, qf)) → hp[st]? = some (.inr (12, sf)) → hp[v]? = some (.inr (10, [.ref vl])) → hp[g]? = some (.inr (11, [.ref gl, .int lb])) → hp[t]? = some (.inr (13, .int sr :: tf)) → hLs hp l as → hLs hp gl ss → hEs hp as acc → hEs hp ss es → as.length + j ≤ 60000 →
    At S 7 140 31 [(6, .int (Int32.ofNat i)), (5, .int (Int32.ofNat ss.length)), (0, .ref q), (1, .ref l), (2, .ref t), (3, .ref v), (4, .ref g)] [] hp nc ns (fun o => ∃ hp' c s, o = .inl (none, hp', c, s) ∧ FrX (fun x => x = l) hp hp' ∧ hSh hp' l (acc ++ (es.drop i).filter (gthP sr lb)) ∧ c + capL hp l ≤ nc + capL hp' l ∧ s + 4 * capL hp l ≤ ns + 4 * capL hp' l ∧ capL hp' l ≤ max (capL hp l) (2 * (as.length + j) + 10)) := by
  intro j
  induction j with
  | zero =>
    intro i hp as acc nc ns hi hO hq hst hv hg ht hL hSS hE hF hn
    obtain ⟨lf, hl0⟩ := hL.ob
    have hbn := hSS.len
    have hle := hF.1
    refine At.go (q := xm140) rfl 2 (pc' := 35) (L' := [(6, .int (Int32.ofNat i)), (5, .int (Int32.ofNat ss.length)), (0, .ref q), (1, .ref l), (2, .ref t), (3, .ref v), (4, .ref g)]) (st' := [.int (Int32.ofNat ss.length), .int (Int32.ofNat i)]) rfl ?_
    refine At.ic2 (tgt := 121) rfl rfl (fun _ => ?_) (fun h => absurd ((iN_le (by omega) (by omega)).mpr (show ss.length ≤ i by omega)) (of_decide_eq_false h))
    exact At.rt rfl rfl ⟨hp, nc, ns, rfl, FrX.rf, ⟨as, hL, by rw [List.drop_eq_nil_of_le (by omega)]; exact (List.append_nil acc).symm ▸ hE⟩, by omega, by omega, by omega⟩
  | succ j ih =>
    intro i hp as acc nc ns hi hO hq hst hv hg ht hL hSS hE hF hn
    obtain ⟨lf, hl0⟩ := hL.ob
    have hbn := hSS.len
    have hle := hF.1
    have hn2 : as.length ≤ 60000 := by omega
    obtain ⟨e, he⟩ : ∃ e, es[i]? = some e := ⟨_, List.getElem?_eq_getElem (by omega)⟩
    obtain ⟨x, hx0, hX⟩ := hF.get he
    have hX9 := hX
    obtain ⟨c, xf, hx, -, -, hxt⟩ := hX9
    refine At.go (q := xm140) rfl 2 (pc' := 35) (L' := [(6, .int (Int32.ofNat i)), (5, .int (Int32.ofNat ss.length)), (0, .ref q), (1, .ref l), (2, .ref t), (3, .ref v), (4, .ref g)]) (st' := [.int (Int32.ofNat ss.length), .int (Int32.ofNat i)]) rfl ?_
    refine At.ic2 (tgt := 121) rfl rfl (fun h => absurd ((iN_le (by omega) (by omega)).mp (of_decide_eq_true h)) (by omega)) (fun _ => ?_)
    refine At.go (q := xm140) rfl 3 (pc' := 43) (L' := [(6, .int (Int32.ofNat i)), (5, .int (Int32.ofNat ss.length)), (0, .ref q), (1, .ref l), (2, .ref t), (3, .ref v), (4, .ref g)]) (st' := [.ref q]) rfl ?_
    refine At.gf rfl (by decide) hq hqf ?_
    refine At.gf rfl (by decide) hst hsf ?_
    refine At.go (q := xm140) rfl 3 (pc' := 65) (L' := [(6, .int (Int32.ofNat i)), (5, .int (Int32.ofNat ss.length)), (0, .ref q), (1, .ref l), (2, .ref t), (3, .ref v), (4, .ref g)]) (st' := [.int (Int32.ofNat i), .ref g]) rfl ?_
    refine At.clp (as := [.ref g, .int (Int32.ofNat i)]) (rest := []) rfl (by decide) rfl (Nat.le_of_ble_eq_true rfl) (Nat.le_of_ble_eq_true rfl) (xrck_o (by decide) (by decide) hg (by decide)) (Nat.le_of_ble_eq_true rfl) (m_sgget hg hSS hx0 hx) ?_
    refine At.go (q := xm140) rfl 5 (pc' := 78) (L' := [(7, .ref x), (6, .int (Int32.ofNat i)), (5, .int (Int32.ofNat ss.length)), (0, .ref q), (1, .ref l), (2, .ref t), (3, .ref v), (4, .ref g)]) (st' := [.ref t, .ref x]) rfl ?_
    refine At.clp (as := [.ref x, .ref t]) (rest := []) rfl (by decide) rfl (Nat.le_of_ble_eq_true rfl) (Nat.le_of_ble_eq_true rfl) (xrck_o (by decide) (by decide) hx (by decide)) (Nat.le_of_ble_eq_true rfl) (m_isOf hx hxt ht) ?_
    refine At.ic1 (tgt := 115) rfl rfl (fun h81 => ?_) (fun h81 => ?_)
    · refine At.go (q := xm140) rfl 2 (pc' := 31) (L' := [(6, .int ((Int32.ofNat i) + 1)), (7, .ref x), (5, .int (Int32.ofNat ss.length)), (0, .ref q), (1, .ref l), (2, .ref t), (3, .ref v), (4, .ref g)]) (st' := []) rfl ?_
      rw [iN_s]
      refine At.wk (L' := [(6, .int (Int32.ofNat (i + 1))), (5, .int (Int32.ofNat ss.length)), (0, .ref q), (1, .ref l), (2, .ref t), (3, .ref v), (4, .ref g)]) (List.forall_mem_cons.mpr ⟨List.mem_of_getElem? (i := 0) rfl, (List.forall_mem_cons.mpr ⟨List.mem_of_getElem? (i := 2) rfl, (List.forall_mem_cons.mpr ⟨List.mem_of_getElem? (i := 3) rfl, (List.forall_mem_cons.mpr ⟨List.mem_of_getElem? (i := 4) rfl, (List.forall_mem_cons.mpr ⟨List.mem_of_getElem? (i := 5) rfl, (List.forall_mem_cons.mpr ⟨List.mem_of_getElem? (i := 6) rfl, (List.forall_mem_cons.mpr ⟨List.mem_of_getElem? (i := 7) rfl, (fun _ h => (List.not_mem_nil h).elim)⟩)⟩)⟩)⟩)⟩)⟩)⟩) (show ([6, 7, 5, 0, 1, 2, 3, 4] : List Nat).Nodup by decide) ?_
      have hp9 : gthP sr lb e = false := by unfold gthP; rw [bI0 (of_decide_eq_true h81), Bool.false_and]
      rw [gth_n he hp9]
      refine (ih (i + 1) hp as acc (by omega) hO hq hst hv hg ht hL hSS hE hF (by omega)).mono (fun o h => ?_)
      obtain ⟨hp', c, s, h1, h2, h3, h4, h5, h6⟩ := h
      exact ⟨hp', c, s, h1, h2, h3, h4, h5, by omega⟩
    · refine At.go (q := xm140) rfl 1 (pc' := 86) (L' := [(7, .ref x), (6, .int (Int32.ofNat i)), (5, .int (Int32.ofNat ss.length)), (0, .ref q), (1, .ref l), (2, .ref t), (3, .ref v), (4, .ref g)]) (st' := [.ref x]) rfl ?_
      refine At.gf rfl (by decide) hx rfl ?_
      refine At.ic1 (tgt := 115) rfl rfl (fun h89 => ?_) (fun h89 => ?_)
      · refine At.go (q := xm140) rfl 2 (pc' := 31) (L' := [(6, .int ((Int32.ofNat i) + 1)), (7, .ref x), (5, .int (Int32.ofNat ss.length)), (0, .ref q), (1, .ref l), (2, .ref t), (3, .ref v), (4, .ref g)]) (st' := []) rfl ?_
        rw [iN_s]
        refine At.wk (L' := [(6, .int (Int32.ofNat (i + 1))), (5, .int (Int32.ofNat ss.length)), (0, .ref q), (1, .ref l), (2, .ref t), (3, .ref v), (4, .ref g)]) (List.forall_mem_cons.mpr ⟨List.mem_of_getElem? (i := 0) rfl, (List.forall_mem_cons.mpr ⟨List.mem_of_getElem? (i := 2) rfl, (List.forall_mem_cons.mpr ⟨List.mem_of_getElem? (i := 3) rfl, (List.forall_mem_cons.mpr ⟨List.mem_of_getElem? (i := 4) rfl, (List.forall_mem_cons.mpr ⟨List.mem_of_getElem? (i := 5) rfl, (List.forall_mem_cons.mpr ⟨List.mem_of_getElem? (i := 6) rfl, (List.forall_mem_cons.mpr ⟨List.mem_of_getElem? (i := 7) rfl, (fun _ h => (List.not_mem_nil h).elim)⟩)⟩)⟩)⟩)⟩)⟩)⟩) (show ([6, 7, 5, 0, 1, 2, 3, 4] : List Nat).Nodup by decide) ?_
        have hp9 : gthP sr lb e = false := by unfold gthP; rw [bI1 (of_decide_eq_true h89), Bool.not_true, Bool.false_and, Bool.and_false]
        rw [gth_n he hp9]
        refine (ih (i + 1) hp as acc (by omega) hO hq hst hv hg ht hL hSS hE hF (by omega)).mono (fun o h => ?_)
        obtain ⟨hp', c, s, h1, h2, h3, h4, h5, h6⟩ := h
        exact ⟨hp', c, s, h1, h2, h3, h4, h5, by omega⟩
      · refine At.go (q := xm140) rfl 1 (pc' := 94) (L' := [(7, .ref x), (6, .int (Int32.ofNat i)), (5, .int (Int32.ofNat ss.length)), (0, .ref q), (1, .ref l), (2, .ref t), (3, .ref v), (4, .ref g)]) (st' := [.ref x]) rfl ?_
        refine At.gf rfl (by decide) hx rfl ?_
        refine At.go (q := xm140) rfl 1 (pc' := 99) (L' := [(7, .ref x), (6, .int (Int32.ofNat i)), (5, .int (Int32.ofNat ss.length)), (0, .ref q), (1, .ref l), (2, .ref t), (3, .ref v), (4, .ref g)]) (st' := [.ref g, .int e.2.2.1]) rfl ?_
        refine At.gf rfl (by decide) hg rfl ?_
        refine At.clp (as := [.int e.2.2.1, .int lb]) (rest := []) rfl (by decide) rfl (Nat.le_of_ble_eq_true rfl) (Nat.le_of_ble_eq_true rfl) rfl (Nat.le_of_ble_eq_true rfl) (m_isBelow e.2.2.1 lb) ?_
        refine At.ic1 (tgt := 115) rfl rfl (fun h105 => ?_) (fun h105 => ?_)
        · refine At.go (q := xm140) rfl 2 (pc' := 31) (L' := [(6, .int ((Int32.ofNat i) + 1)), (7, .ref x), (5, .int (Int32.ofNat ss.length)), (0, .ref q), (1, .ref l), (2, .ref t), (3, .ref v), (4, .ref g)]) (st' := []) rfl ?_
          rw [iN_s]
          refine At.wk (L' := [(6, .int (Int32.ofNat (i + 1))), (5, .int (Int32.ofNat ss.length)), (0, .ref q), (1, .ref l), (2, .ref t), (3, .ref v), (4, .ref g)]) (List.forall_mem_cons.mpr ⟨List.mem_of_getElem? (i := 0) rfl, (List.forall_mem_cons.mpr ⟨List.mem_of_getElem? (i := 2) rfl, (List.forall_mem_cons.mpr ⟨List.mem_of_getElem? (i := 3) rfl, (List.forall_mem_cons.mpr ⟨List.mem_of_getElem? (i := 4) rfl, (List.forall_mem_cons.mpr ⟨List.mem_of_getElem? (i := 5) rfl, (List.forall_mem_cons.mpr ⟨List.mem_of_getElem? (i := 6) rfl, (List.forall_mem_cons.mpr ⟨List.mem_of_getElem? (i := 7) rfl, (fun _ h => (List.not_mem_nil h).elim)⟩)⟩)⟩)⟩)⟩)⟩)⟩) (show ([6, 7, 5, 0, 1, 2, 3, 4] : List Nat).Nodup by decide) ?_
          have hp9 : gthP sr lb e = false := by unfold gthP; rw [bI0 (of_decide_eq_true h105), Bool.and_false, Bool.and_false]
          rw [gth_n he hp9]
          refine (ih (i + 1) hp as acc (by omega) hO hq hst hv hg ht hL hSS hE hF (by omega)).mono (fun o h => ?_)
          obtain ⟨hp', c, s, h1, h2, h3, h4, h5, h6⟩ := h
          exact ⟨hp', c, s, h1, h2, h3, h4, h5, by omega⟩
        · refine At.go (q := xm140) rfl 2 (pc' := 111) (L' := [(7, .ref x), (6, .int (Int32.ofNat i)), (5, .int (Int32.ofNat ss.length)), (0, .ref q), (1, .ref l), (2, .ref t), (3, .ref v), (4, .ref g)]) (st' := [.ref x, .ref l]) rfl ?_
          refine At.clm (as := [.ref l, .ref x]) (rest := []) rfl (by decide) rfl (Nat.le_of_ble_eq_true rfl) (Nat.le_of_ble_eq_true rfl) (xrck_o (by decide) (by decide) hl0 (by decide)) (Nat.le_of_ble_eq_true rfl) (m_add hO hL hX.ob hn2) (fun v9 hp1 c1 s1 hv9 => ?_)
          obtain ⟨rfl, k1, k2, k3, k4, k5⟩ := hv9
          refine At.go (q := xm140) rfl 3 (pc' := 31) (L' := [(6, .int ((Int32.ofNat i) + 1)), (7, .ref x), (5, .int (Int32.ofNat ss.length)), (0, .ref q), (1, .ref l), (2, .ref t), (3, .ref v), (4, .ref g)]) (st' := []) rfl ?_
          rw [iN_s]
          refine At.wk (L' := [(6, .int (Int32.ofNat (i + 1))), (5, .int (Int32.ofNat ss.length)), (0, .ref q), (1, .ref l), (2, .ref t), (3, .ref v), (4, .ref g)]) (List.forall_mem_cons.mpr ⟨List.mem_of_getElem? (i := 0) rfl, (List.forall_mem_cons.mpr ⟨List.mem_of_getElem? (i := 2) rfl, (List.forall_mem_cons.mpr ⟨List.mem_of_getElem? (i := 3) rfl, (List.forall_mem_cons.mpr ⟨List.mem_of_getElem? (i := 4) rfl, (List.forall_mem_cons.mpr ⟨List.mem_of_getElem? (i := 5) rfl, (List.forall_mem_cons.mpr ⟨List.mem_of_getElem? (i := 6) rfl, (List.forall_mem_cons.mpr ⟨List.mem_of_getElem? (i := 7) rfl, (fun _ h => (List.not_mem_nil h).elim)⟩)⟩)⟩)⟩)⟩)⟩)⟩) (show ([6, 7, 5, 0, 1, 2, 3, 4] : List Nat).Nodup by decide) ?_
          have hp9 : gthP sr lb e = true := by unfold gthP; rw [bI1 (of_decide_eq_false h81), bI0 (xne_f h89), bI1 (of_decide_eq_false h105)]; rfl
          rw [gth_y he hp9]
          refine (ih (i + 1) hp1 _ (acc ++ [e]) (by omega) (k1.2.1 hO) (k1.ob hq (by decide) (ob_ne hq (by decide) hL)) (k1.ob hst (by decide) (ob_ne hst (by decide) hL)) (k1.ob hv (by decide) (ob_ne hv (by decide) hL)) (k1.ob hg (by decide) (ob_ne hg (by decide) hL)) (k1.ob ht (by decide) (ob_ne ht (by decide) hL)) k2 (k1.ls (fun h => hne h.symm) hO hSS) ((hE.fr k1).app (hEs.one (hX.fr k1))) (hF.fr k1) (by rw [List.length_append, List.length_singleton]; omega)).mono (fun o h => ?_)
          obtain ⟨hp', c, s, h1, h2, h3, h4, h5, h6⟩ := h
          rw [List.length_append, List.length_singleton] at h6 k5
          rw [List.append_assoc] at h3
          exact ⟨hp', c, s, h1, FrX.tr k1 h2 (fun x hx => Or.inl hx), h3, by omega, by omega, by omega⟩
/-- gather, of what is seen -/
theorem m_gather_s {hp : List XC} {as : List Nat} {S : List Int32} {q l t v g st vl gl : Nat} {sr lb : Int32} {qf sf tf : List Value} {ss : List Nat} {es : List En} (hne : l ≠ gl) (hqf : qf[0]? = some (.ref st)) (hsf : sf[3]? = some (.int 0)) (hO : Own hp) (hq : hp[q]? = some (.inr (7, qf))) (hst : hp[st]? = some (.inr (12, sf))) (hv : hp[v]? = some (.inr (10, [.ref vl]))) (hg : hp[g]? = some (.inr (11, [.ref gl, .int lb]))) (ht : hp[t]? = some (.inr (13, .int sr :: tf))) (hL : hLs hp l as) (hSS : hLs hp gl ss) (hF : hEs hp ss es) (hn : es.length ≤ 60000) : Me S 7 140 [.ref q, .ref l, .ref t, .ref v, .ref g] hp (fun v' hp' c s => v' = none ∧ FrX (fun x => x = l) hp hp' ∧ hSh hp' l (es.filter (gthP sr lb)) ∧ c + capL hp l ≤ capL hp' l ∧ s + 4 * capL hp l ≤ 4 * capL hp' l ∧ capL hp' l ≤ max (capL hp l) (2 * es.length + 10)) := by
  obtain ⟨lf, hl0⟩ := hL.ob
  have hbn := hSS.len
  have hle := hF.1
  refine At.go (q := xm140) rfl 1 (pc' := 1) (L' := [(0, .ref q), (1, .ref l), (2, .ref t), (3, .ref v), (4, .ref g)]) (st' := [.ref l]) rfl ?_
  refine At.clm (as := [.ref l]) (rest := []) rfl (by decide) rfl (Nat.le_of_ble_eq_true rfl) (Nat.le_of_ble_eq_true rfl) (xrck_o (by decide) (by decide) hl0 (by decide)) (Nat.le_of_ble_eq_true rfl) (m_clear hL) (fun v9 hr1 c1 s1 hv9 => ?_)
  obtain ⟨rfl, k1, k2, rfl, rfl, k3⟩ := hv9
  have hq1 := k1.ob hq (by decide) (ob_ne hq (by decide) hL)
  have hst1 := k1.ob hst (by decide) (ob_ne hst (by decide) hL)
  have hv1 := k1.ob hv (by decide) (ob_ne hv (by decide) hL)
  have hg1 := k1.ob hg (by decide) (ob_ne hg (by decide) hL)
  have ht1 := k1.ob ht (by decide) (ob_ne ht (by decide) hL)
  have hSS1 := k1.ls (fun h => hne h.symm) hO hSS
  refine At.go (q := xm140) rfl 1 (pc' := 5) (L' := [(0, .ref q), (1, .ref l), (2, .ref t), (3, .ref v), (4, .ref g)]) (st' := [.ref q]) rfl ?_
  refine At.gf rfl (by decide) hq1 hqf ?_
  refine At.gf rfl (by decide) hst1 hsf ?_
  refine At.go (q := xm140) rfl 2 (pc' := 23) (L' := [(0, .ref q), (1, .ref l), (2, .ref t), (3, .ref v), (4, .ref g)]) (st' := [.ref g]) rfl ?_
  refine At.clp (as := [.ref g]) (rest := []) rfl (by decide) rfl (Nat.le_of_ble_eq_true rfl) (Nat.le_of_ble_eq_true rfl) (xrck_o (by decide) (by decide) hg1 (by decide)) (Nat.le_of_ble_eq_true rfl) (m_sgsize hg1 hSS1) ?_
  refine At.go (q := xm140) rfl 3 (pc' := 31) (L' := [(6, .int 0), (5, .int (Int32.ofNat ss.length)), (0, .ref q), (1, .ref l), (2, .ref t), (3, .ref v), (4, .ref g)]) (st' := []) rfl ?_
  refine At.wk (L' := [(6, .int (Int32.ofNat 0)), (5, .int (Int32.ofNat ss.length)), (0, .ref q), (1, .ref l), (2, .ref t), (3, .ref v), (4, .ref g)]) (List.forall_mem_cons.mpr ⟨List.mem_of_getElem? (i := 0) rfl, (List.forall_mem_cons.mpr ⟨List.mem_of_getElem? (i := 1) rfl, (List.forall_mem_cons.mpr ⟨List.mem_of_getElem? (i := 2) rfl, (List.forall_mem_cons.mpr ⟨List.mem_of_getElem? (i := 3) rfl, (List.forall_mem_cons.mpr ⟨List.mem_of_getElem? (i := 4) rfl, (List.forall_mem_cons.mpr ⟨List.mem_of_getElem? (i := 5) rfl, (List.forall_mem_cons.mpr ⟨List.mem_of_getElem? (i := 6) rfl, (fun _ h => (List.not_mem_nil h).elim)⟩)⟩)⟩)⟩)⟩)⟩)⟩) (show ([6, 5, 0, 1, 2, 3, 4] : List Nat).Nodup by decide) ?_
  refine (gth_s hne hqf hsf es.length 0 hr1 [] [] (by omega) (k1.2.1 hO) hq1 hst1 hv1 hg1 ht1 k2 hSS1 ⟨rfl, fun i a e h => by cases h⟩ (hF.fr k1) (by rw [List.length_nil]; omega)).mono (fun o h => ?_)
  obtain ⟨hp', c, s, h1, h2, h3, h4, h5, h6⟩ := h
  rw [List.drop_zero, List.nil_append] at h3
  rw [List.length_nil] at h6
  exact ⟨_, _, _, _, h1, rfl, FrX.tr k1 h2 (fun x hx => Or.inl hx), h3, by omega, by omega, by omega⟩
