/-! changes: merge's loops (written by wip/p27/c79.py) -/
theorem mg1 {S : List Int32} {hp : List XC} {ch z r m nc ns : Nat} {k : Nat} {dr : Nat → Bool} {bs : List Nat} {cs : List En} (hK : hLs hp k bs) (hE : hEs hp bs cs) (hdr : ∀ e ∈ cs, ∃ fs : List Value, hp[e.2.2.2.2.2]? = some (.inr (13, fs)) ∧ fs[8]? = some (bv (dr e.2.2.2.2.2))) {Q : XO → Prop} : ∀ (j i : Nat), i + j = cs.length → ((cs.drop i).any (fun e => dr e.2.2.2.2.2) = false → At S 10 254 47 [(4, .ref k), (0, .ref ch), (1, .ref z), (2, .ref r), (3, .ref m)] [] hp nc ns Q) → ((cs.drop i).any (fun e => dr e.2.2.2.2.2) = true → Q (.inl (some (.int 100), hp, nc, ns))) →
    At S 10 254 9 [(5, .int (Int32.ofNat i)), (4, .ref k), (0, .ref ch), (1, .ref z), (2, .ref r), (3, .ref m)] [] hp nc ns Q := by
  obtain ⟨kf, hk0⟩ := hK.ob
  have hbn := hK.len
  have hle := hE.1
  intro j
  induction j with
  | zero =>
    intro i hi hno hyes
    refine At.go (q := xm254) rfl 2 (pc' := 13) (L' := [(5, .int (Int32.ofNat i)), (4, .ref k), (0, .ref ch), (1, .ref z), (2, .ref r), (3, .ref m)]) (st' := [.ref k, .int (Int32.ofNat i)]) rfl ?_
    refine At.clp (as := [.ref k]) (rest := [.int (Int32.ofNat i)]) rfl (by decide) rfl (Nat.le_of_ble_eq_true rfl) (Nat.le_of_ble_eq_true rfl) (xrck_o (by decide) (by decide) hk0 (by decide)) (Nat.le_of_ble_eq_true rfl) (m_size hK) ?_
    refine At.ic2 (tgt := 47) rfl rfl (fun _ => ?_) (fun h => absurd ((iN_le (by omega) (by omega)).mpr (show bs.length ≤ i by omega)) (of_decide_eq_false h))
    refine At.wk (L' := [(4, .ref k), (0, .ref ch), (1, .ref z), (2, .ref r), (3, .ref m)]) (List.forall_mem_cons.mpr ⟨List.mem_of_getElem? (i := 1) rfl, (List.forall_mem_cons.mpr ⟨List.mem_of_getElem? (i := 2) rfl, (List.forall_mem_cons.mpr ⟨List.mem_of_getElem? (i := 3) rfl, (List.forall_mem_cons.mpr ⟨List.mem_of_getElem? (i := 4) rfl, (List.forall_mem_cons.mpr ⟨List.mem_of_getElem? (i := 5) rfl, (fun _ h => (List.not_mem_nil h).elim)⟩)⟩)⟩)⟩)⟩) (show ([5, 4, 0, 1, 2, 3] : List Nat).Nodup by decide) ?_
    exact hno (by rw [List.drop_eq_nil_of_le (by omega)]; rfl)
  | succ j ih =>
    intro i hi hno hyes
    obtain ⟨e, he⟩ : ∃ e, cs[i]? = some e := ⟨_, List.getElem?_eq_getElem (by omega)⟩
    obtain ⟨x, hx0, hX⟩ := hE.get he
    have hX9 := hX
    obtain ⟨c, xf, hx, -, -, hxt⟩ := hX9
    obtain ⟨ff, hD, h8⟩ := hdr e (List.mem_of_getElem? he)
    refine At.go (q := xm254) rfl 2 (pc' := 13) (L' := [(5, .int (Int32.ofNat i)), (4, .ref k), (0, .ref ch), (1, .ref z), (2, .ref r), (3, .ref m)]) (st' := [.ref k, .int (Int32.ofNat i)]) rfl ?_
    refine At.clp (as := [.ref k]) (rest := [.int (Int32.ofNat i)]) rfl (by decide) rfl (Nat.le_of_ble_eq_true rfl) (Nat.le_of_ble_eq_true rfl) (xrck_o (by decide) (by decide) hk0 (by decide)) (Nat.le_of_ble_eq_true rfl) (m_size hK) ?_
    refine At.ic2 (tgt := 47) rfl rfl (fun h => absurd ((iN_le (by omega) (by omega)).mp (of_decide_eq_true h)) (by omega)) (fun _ => ?_)
    refine At.go (q := xm254) rfl 2 (pc' := 23) (L' := [(5, .int (Int32.ofNat i)), (4, .ref k), (0, .ref ch), (1, .ref z), (2, .ref r), (3, .ref m)]) (st' := [.int (Int32.ofNat i), .ref k]) rfl ?_
    refine At.clp (as := [.ref k, .int (Int32.ofNat i)]) (rest := []) rfl (by decide) rfl (Nat.le_of_ble_eq_true rfl) (Nat.le_of_ble_eq_true rfl) (xrck_o (by decide) (by decide) hk0 (by decide)) (Nat.le_of_ble_eq_true rfl) (m_get hK hx0) ?_
    refine At.ca rfl hx (by decide) ?_
    refine At.gf rfl (by decide) hx rfl ?_
    refine At.gf rfl (by decide) hD h8 ?_
    refine At.ic1 (tgt := 41) rfl rfl (fun hb => ?_) (fun hb => ?_)
    · refine At.go (q := xm254) rfl 2 (pc' := 9) (L' := [(5, .int ((Int32.ofNat i) + 1)), (4, .ref k), (0, .ref ch), (1, .ref z), (2, .ref r), (3, .ref m)]) (st' := []) rfl ?_
      rw [iN_s]
      refine At.wk (L' := [(5, .int (Int32.ofNat (i + 1))), (4, .ref k), (0, .ref ch), (1, .ref z), (2, .ref r), (3, .ref m)]) (List.forall_mem_cons.mpr ⟨List.mem_of_getElem? (i := 0) rfl, (List.forall_mem_cons.mpr ⟨List.mem_of_getElem? (i := 1) rfl, (List.forall_mem_cons.mpr ⟨List.mem_of_getElem? (i := 2) rfl, (List.forall_mem_cons.mpr ⟨List.mem_of_getElem? (i := 3) rfl, (List.forall_mem_cons.mpr ⟨List.mem_of_getElem? (i := 4) rfl, (List.forall_mem_cons.mpr ⟨List.mem_of_getElem? (i := 5) rfl, (fun _ h => (List.not_mem_nil h).elim)⟩)⟩)⟩)⟩)⟩)⟩) (show ([5, 4, 0, 1, 2, 3] : List Nat).Nodup by decide) ?_
      have hp9 : (dr e.2.2.2.2.2) = false := bI0 (of_decide_eq_true hb)
      exact ih (i + 1) (by omega) (fun h9 => hno (by rw [xdrop_q (i := i), he, Option.toList_some, List.singleton_append, List.any_cons, hp9, Bool.false_or]; exact h9)) (fun h9 => hyes (by rw [xdrop_q (i := i), he, Option.toList_some, List.singleton_append, List.any_cons, hp9, Bool.false_or]; exact h9))
    · have hp9 : (dr e.2.2.2.2.2) = true := bI1 (of_decide_eq_false hb)
      refine At.go (q := xm254) rfl 1 (pc' := 40) (L' := [(5, .int (Int32.ofNat i)), (4, .ref k), (0, .ref ch), (1, .ref z), (2, .ref r), (3, .ref m)]) (st' := [.int 100]) rfl ?_
      exact At.rt rfl rfl (hyes (by rw [xdrop_q (i := i), he, Option.toList_some, List.singleton_append, List.any_cons, hp9]; rfl))
theorem mg2 {S : List Int32} {hp : List XC} {ch z r m nc ns : Nat} {zl zn zr zc zw zb zi : Int32} {zt za s k : Nat} {bs ms : List Nat} {cs ts : List En} (hz : hp[z]? = some (.inr (9, [.int zl, .ref zt, .int zn, .ref za, .int zr, .int zc, .int zw, .int zb, .ref s, .ref k, .int zi]))) (hK : hLs hp k bs) (hF : hEs hp bs cs) (hM : hLs hp m ms) (hE : hEs hp ms ts) {Q : XO → Prop} : ∀ (j i : Nat), i + j = ts.length → ((ts.drop i).any (fun e => hasCE cs e) = false → At S 10 254 91 [(4, .ref k), (0, .ref ch), (1, .ref z), (2, .ref r), (3, .ref m)] [] hp nc ns Q) → ((ts.drop i).any (fun e => hasCE cs e) = true → Q (.inl (some (.int 120), hp, nc, ns))) →
    At S 10 254 57 [(5, .int (Int32.ofNat i)), (4, .ref k), (0, .ref ch), (1, .ref z), (2, .ref r), (3, .ref m)] [] hp nc ns Q := by
  obtain ⟨mf, hm0⟩ := hM.ob
  have hbn := hM.len
  have hle := hE.1
  intro j
  induction j with
  | zero =>
    intro i hi hno hyes
    refine At.go (q := xm254) rfl 2 (pc' := 60) (L' := [(5, .int (Int32.ofNat i)), (4, .ref k), (0, .ref ch), (1, .ref z), (2, .ref r), (3, .ref m)]) (st' := [.ref m, .int (Int32.ofNat i)]) rfl ?_
    refine At.clp (as := [.ref m]) (rest := [.int (Int32.ofNat i)]) rfl (by decide) rfl (Nat.le_of_ble_eq_true rfl) (Nat.le_of_ble_eq_true rfl) (xrck_o (by decide) (by decide) hm0 (by decide)) (Nat.le_of_ble_eq_true rfl) (m_size hM) ?_
    refine At.ic2 (tgt := 91) rfl rfl (fun _ => ?_) (fun h => absurd ((iN_le (by omega) (by omega)).mpr (show ms.length ≤ i by omega)) (of_decide_eq_false h))
    refine At.wk (L' := [(4, .ref k), (0, .ref ch), (1, .ref z), (2, .ref r), (3, .ref m)]) (List.forall_mem_cons.mpr ⟨List.mem_of_getElem? (i := 1) rfl, (List.forall_mem_cons.mpr ⟨List.mem_of_getElem? (i := 2) rfl, (List.forall_mem_cons.mpr ⟨List.mem_of_getElem? (i := 3) rfl, (List.forall_mem_cons.mpr ⟨List.mem_of_getElem? (i := 4) rfl, (List.forall_mem_cons.mpr ⟨List.mem_of_getElem? (i := 5) rfl, (fun _ h => (List.not_mem_nil h).elim)⟩)⟩)⟩)⟩)⟩) (show ([5, 4, 0, 1, 2, 3] : List Nat).Nodup by decide) ?_
    exact hno (by rw [List.drop_eq_nil_of_le (by omega)]; rfl)
  | succ j ih =>
    intro i hi hno hyes
    obtain ⟨e, he⟩ : ∃ e, ts[i]? = some e := ⟨_, List.getElem?_eq_getElem (by omega)⟩
    obtain ⟨x, hx0, hX⟩ := hE.get he
    have hX9 := hX
    obtain ⟨c, xf, hx, -, -, hxt⟩ := hX9
    refine At.go (q := xm254) rfl 2 (pc' := 60) (L' := [(5, .int (Int32.ofNat i)), (4, .ref k), (0, .ref ch), (1, .ref z), (2, .ref r), (3, .ref m)]) (st' := [.ref m, .int (Int32.ofNat i)]) rfl ?_
    refine At.clp (as := [.ref m]) (rest := [.int (Int32.ofNat i)]) rfl (by decide) rfl (Nat.le_of_ble_eq_true rfl) (Nat.le_of_ble_eq_true rfl) (xrck_o (by decide) (by decide) hm0 (by decide)) (Nat.le_of_ble_eq_true rfl) (m_size hM) ?_
    refine At.ic2 (tgt := 91) rfl rfl (fun h => absurd ((iN_le (by omega) (by omega)).mp (of_decide_eq_true h)) (by omega)) (fun _ => ?_)
    refine At.go (q := xm254) rfl 3 (pc' := 70) (L' := [(5, .int (Int32.ofNat i)), (4, .ref k), (0, .ref ch), (1, .ref z), (2, .ref r), (3, .ref m)]) (st' := [.int (Int32.ofNat i), .ref m, .ref z]) rfl ?_
    refine At.clp (as := [.ref m, .int (Int32.ofNat i)]) (rest := [.ref z]) rfl (by decide) rfl (Nat.le_of_ble_eq_true rfl) (Nat.le_of_ble_eq_true rfl) (xrck_o (by decide) (by decide) hm0 (by decide)) (Nat.le_of_ble_eq_true rfl) (m_get hM hx0) ?_
    refine At.ca rfl hx (by decide) ?_
    refine At.clp (as := [.ref z, .ref x]) (rest := []) rfl (by decide) rfl (Nat.le_of_ble_eq_true rfl) (Nat.le_of_ble_eq_true rfl) (xrck_o (by decide) (by decide) hz (by decide)) (Nat.le_of_ble_eq_true rfl) (m_hasChanged hz hK hF hX) ?_
    refine At.ic1 (tgt := 85) rfl rfl (fun hb => ?_) (fun hb => ?_)
    · refine At.go (q := xm254) rfl 2 (pc' := 57) (L' := [(5, .int ((Int32.ofNat i) + 1)), (4, .ref k), (0, .ref ch), (1, .ref z), (2, .ref r), (3, .ref m)]) (st' := []) rfl ?_
      rw [iN_s]
      refine At.wk (L' := [(5, .int (Int32.ofNat (i + 1))), (4, .ref k), (0, .ref ch), (1, .ref z), (2, .ref r), (3, .ref m)]) (List.forall_mem_cons.mpr ⟨List.mem_of_getElem? (i := 0) rfl, (List.forall_mem_cons.mpr ⟨List.mem_of_getElem? (i := 1) rfl, (List.forall_mem_cons.mpr ⟨List.mem_of_getElem? (i := 2) rfl, (List.forall_mem_cons.mpr ⟨List.mem_of_getElem? (i := 3) rfl, (List.forall_mem_cons.mpr ⟨List.mem_of_getElem? (i := 4) rfl, (List.forall_mem_cons.mpr ⟨List.mem_of_getElem? (i := 5) rfl, (fun _ h => (List.not_mem_nil h).elim)⟩)⟩)⟩)⟩)⟩)⟩) (show ([5, 4, 0, 1, 2, 3] : List Nat).Nodup by decide) ?_
      have hp9 : (hasCE cs e) = false := bI0 (of_decide_eq_true hb)
      exact ih (i + 1) (by omega) (fun h9 => hno (by rw [xdrop_q (i := i), he, Option.toList_some, List.singleton_append, List.any_cons, hp9, Bool.false_or]; exact h9)) (fun h9 => hyes (by rw [xdrop_q (i := i), he, Option.toList_some, List.singleton_append, List.any_cons, hp9, Bool.false_or]; exact h9))
    · have hp9 : (hasCE cs e) = true := bI1 (of_decide_eq_false hb)
      refine At.go (q := xm254) rfl 1 (pc' := 84) (L' := [(5, .int (Int32.ofNat i)), (4, .ref k), (0, .ref ch), (1, .ref z), (2, .ref r), (3, .ref m)]) (st' := [.int 120]) rfl ?_
      exact At.rt rfl rfl (hyes (by rw [xdrop_q (i := i), he, Option.toList_some, List.singleton_append, List.any_cons, hp9]; rfl))
theorem mg4 {S : List Int32} {hp : List XC} {ch z r m nc ns : Nat} {lb al gi : Int32} {d t mm g : Nat} {k l : Nat} {as bs : List Nat} {es cs : List En} (hc : hp[ch]? = some (.inr (3, [.ref d, .ref t, .ref mm, .ref g, .int lb, .int al, .int gi]))) (hd0 : hp[d]? = some (.inr (10, [.ref l]))) (hL : hLs hp l as) (hD : hEs hp as es) (hK : hLs hp k bs) (hE : hEs hp bs cs) {Q : XO → Prop} : ∀ (j i : Nat), i + j = cs.length → ((cs.drop i).any (fun e => decide (12 < cntE es e.1 lb)) = false → At S 10 254 188 [(4, .ref k), (0, .ref ch), (1, .ref z), (2, .ref r), (3, .ref m)] [] hp nc ns Q) → ((cs.drop i).any (fun e => decide (12 < cntE es e.1 lb)) = true → Q (.inl (some (.int 102), hp, nc, ns))) →
    At S 10 254 140 [(5, .int (Int32.ofNat i)), (4, .ref k), (0, .ref ch), (1, .ref z), (2, .ref r), (3, .ref m)] [] hp nc ns Q := by
  obtain ⟨kf, hk0⟩ := hK.ob
  have hbn := hK.len
  have hle := hE.1
  have hbn2 := hL.len
  have hle2 := hD.1
  intro j
  induction j with
  | zero =>
    intro i hi hno hyes
    refine At.go (q := xm254) rfl 2 (pc' := 144) (L' := [(5, .int (Int32.ofNat i)), (4, .ref k), (0, .ref ch), (1, .ref z), (2, .ref r), (3, .ref m)]) (st' := [.ref k, .int (Int32.ofNat i)]) rfl ?_
    refine At.clp (as := [.ref k]) (rest := [.int (Int32.ofNat i)]) rfl (by decide) rfl (Nat.le_of_ble_eq_true rfl) (Nat.le_of_ble_eq_true rfl) (xrck_o (by decide) (by decide) hk0 (by decide)) (Nat.le_of_ble_eq_true rfl) (m_size hK) ?_
    refine At.ic2 (tgt := 188) rfl rfl (fun _ => ?_) (fun h => absurd ((iN_le (by omega) (by omega)).mpr (show bs.length ≤ i by omega)) (of_decide_eq_false h))
    refine At.wk (L' := [(4, .ref k), (0, .ref ch), (1, .ref z), (2, .ref r), (3, .ref m)]) (List.forall_mem_cons.mpr ⟨List.mem_of_getElem? (i := 1) rfl, (List.forall_mem_cons.mpr ⟨List.mem_of_getElem? (i := 2) rfl, (List.forall_mem_cons.mpr ⟨List.mem_of_getElem? (i := 3) rfl, (List.forall_mem_cons.mpr ⟨List.mem_of_getElem? (i := 4) rfl, (List.forall_mem_cons.mpr ⟨List.mem_of_getElem? (i := 5) rfl, (fun _ h => (List.not_mem_nil h).elim)⟩)⟩)⟩)⟩)⟩) (show ([5, 4, 0, 1, 2, 3] : List Nat).Nodup by decide) ?_
    exact hno (by rw [List.drop_eq_nil_of_le (by omega)]; rfl)
  | succ j ih =>
    intro i hi hno hyes
    obtain ⟨e, he⟩ : ∃ e, cs[i]? = some e := ⟨_, List.getElem?_eq_getElem (by omega)⟩
    obtain ⟨x, hx0, hX⟩ := hE.get he
    have hX9 := hX
    obtain ⟨c, xf, hx, -, -, hxt⟩ := hX9
    have hcn : cntE es e.1 lb ≤ es.length := List.countP_le_length
    refine At.go (q := xm254) rfl 2 (pc' := 144) (L' := [(5, .int (Int32.ofNat i)), (4, .ref k), (0, .ref ch), (1, .ref z), (2, .ref r), (3, .ref m)]) (st' := [.ref k, .int (Int32.ofNat i)]) rfl ?_
    refine At.clp (as := [.ref k]) (rest := [.int (Int32.ofNat i)]) rfl (by decide) rfl (Nat.le_of_ble_eq_true rfl) (Nat.le_of_ble_eq_true rfl) (xrck_o (by decide) (by decide) hk0 (by decide)) (Nat.le_of_ble_eq_true rfl) (m_size hK) ?_
    refine At.ic2 (tgt := 188) rfl rfl (fun h => absurd ((iN_le (by omega) (by omega)).mp (of_decide_eq_true h)) (by omega)) (fun _ => ?_)
    refine At.go (q := xm254) rfl 1 (pc' := 151) (L' := [(5, .int (Int32.ofNat i)), (4, .ref k), (0, .ref ch), (1, .ref z), (2, .ref r), (3, .ref m)]) (st' := [.ref ch]) rfl ?_
    refine At.gf rfl (by decide) hc rfl ?_
    refine At.go (q := xm254) rfl 2 (pc' := 158) (L' := [(5, .int (Int32.ofNat i)), (4, .ref k), (0, .ref ch), (1, .ref z), (2, .ref r), (3, .ref m)]) (st' := [.int (Int32.ofNat i), .ref k, .ref d]) rfl ?_
    refine At.clp (as := [.ref k, .int (Int32.ofNat i)]) (rest := [.ref d]) rfl (by decide) rfl (Nat.le_of_ble_eq_true rfl) (Nat.le_of_ble_eq_true rfl) (xrck_o (by decide) (by decide) hk0 (by decide)) (Nat.le_of_ble_eq_true rfl) (m_get hK hx0) ?_
    refine At.ca rfl hx (by decide) ?_
    refine At.gf rfl (by decide) hx rfl ?_
    refine At.go (q := xm254) rfl 1 (pc' := 168) (L' := [(5, .int (Int32.ofNat i)), (4, .ref k), (0, .ref ch), (1, .ref z), (2, .ref r), (3, .ref m)]) (st' := [.ref ch, .ref e.2.2.2.2.2, .ref d]) rfl ?_
    refine At.gf rfl (by decide) hc rfl ?_
    refine At.clp (as := [.ref d, .ref e.2.2.2.2.2, .int lb]) (rest := []) rfl (by decide) rfl (Nat.le_of_ble_eq_true rfl) (Nat.le_of_ble_eq_true rfl) (xrck_o (by decide) (by decide) hd0 (by decide)) (Nat.le_of_ble_eq_true rfl) (m_count hxt hd0 hL hD) ?_
    refine At.go (q := xm254) rfl 1 (pc' := 176) (L' := [(5, .int (Int32.ofNat i)), (4, .ref k), (0, .ref ch), (1, .ref z), (2, .ref r), (3, .ref m)]) (st' := [.int 12, .int (Int32.ofNat (cntE es e.1 lb))]) rfl ?_
    refine At.ic2 (tgt := 182) rfl rfl (fun hb => ?_) (fun hb => ?_)
    · refine At.go (q := xm254) rfl 2 (pc' := 140) (L' := [(5, .int ((Int32.ofNat i) + 1)), (4, .ref k), (0, .ref ch), (1, .ref z), (2, .ref r), (3, .ref m)]) (st' := []) rfl ?_
      rw [iN_s]
      refine At.wk (L' := [(5, .int (Int32.ofNat (i + 1))), (4, .ref k), (0, .ref ch), (1, .ref z), (2, .ref r), (3, .ref m)]) (List.forall_mem_cons.mpr ⟨List.mem_of_getElem? (i := 0) rfl, (List.forall_mem_cons.mpr ⟨List.mem_of_getElem? (i := 1) rfl, (List.forall_mem_cons.mpr ⟨List.mem_of_getElem? (i := 2) rfl, (List.forall_mem_cons.mpr ⟨List.mem_of_getElem? (i := 3) rfl, (List.forall_mem_cons.mpr ⟨List.mem_of_getElem? (i := 4) rfl, (List.forall_mem_cons.mpr ⟨List.mem_of_getElem? (i := 5) rfl, (fun _ h => (List.not_mem_nil h).elim)⟩)⟩)⟩)⟩)⟩)⟩) (show ([5, 4, 0, 1, 2, 3] : List Nat).Nodup by decide) ?_
      have hp9 : (decide (12 < cntE es e.1 lb)) = false := decide_eq_false (fun h => absurd ((iN_le (b := 12) (by omega) (by omega)).mp (of_decide_eq_true hb)) (by omega))
      exact ih (i + 1) (by omega) (fun h9 => hno (by rw [xdrop_q (i := i), he, Option.toList_some, List.singleton_append, List.any_cons, hp9, Bool.false_or]; exact h9)) (fun h9 => hyes (by rw [xdrop_q (i := i), he, Option.toList_some, List.singleton_append, List.any_cons, hp9, Bool.false_or]; exact h9))
    · have hp9 : (decide (12 < cntE es e.1 lb)) = true := decide_eq_true (Nat.lt_of_not_le (fun h => of_decide_eq_false hb ((iN_le (b := 12) (by omega) (by omega)).mpr h)))
      refine At.go (q := xm254) rfl 1 (pc' := 181) (L' := [(5, .int (Int32.ofNat i)), (4, .ref k), (0, .ref ch), (1, .ref z), (2, .ref r), (3, .ref m)]) (st' := [.int 102]) rfl ?_
      exact At.rt rfl rfl (hyes (by rw [xdrop_q (i := i), he, Option.toList_some, List.singleton_append, List.any_cons, hp9]; rfl))
theorem mg5 {S : List Int32} {hp : List XC} {ch z r m nc ns : Nat} {lb al gi : Int32} {d t mm g : Nat} {k l : Nat} {TI : Nat → Tb} {as bs : List Nat} {es cs : List En} (hc : hp[ch]? = some (.inr (3, [.ref d, .ref t, .ref mm, .ref g, .int lb, .int al, .int gi]))) (hd0 : hp[d]? = some (.inr (10, [.ref l]))) (hL : hLs hp l as) (hD : hEs hp as es) (hK : hLs hp k bs) (hE : hEs hp bs cs) (hs : Srt es) (hTab : ∀ e ∈ cs, hTb hp e.2.2.2.2.2 e.1 (TI e.2.2.2.2.2) ∧ 1 ≤ (TI e.2.2.2.2.2).2.2.1.length) (hser : ∀ e ∈ cs, ∀ f ∈ es, f.1 = e.1 → f.2.2.2.2.2 = e.2.2.2.2.2) {Q : XO → Prop} : ∀ (j i : Nat), i + j = cs.length → ((cs.drop i).any (fun e => hasTwsE (TI e.2.2.2.2.2) es e.1 lb) = false → At S 10 254 237 [(4, .ref k), (0, .ref ch), (1, .ref z), (2, .ref r), (3, .ref m)] [] hp nc ns Q) → ((cs.drop i).any (fun e => hasTwsE (TI e.2.2.2.2.2) es e.1 lb) = true → Q (.inl (some (.int 117), hp, nc, ns))) →
    At S 10 254 191 [(5, .int (Int32.ofNat i)), (4, .ref k), (0, .ref ch), (1, .ref z), (2, .ref r), (3, .ref m)] [] hp nc ns Q := by
  obtain ⟨kf, hk0⟩ := hK.ob
  have hbn := hK.len
  have hle := hE.1
  intro j
  induction j with
  | zero =>
    intro i hi hno hyes
    refine At.go (q := xm254) rfl 2 (pc' := 195) (L' := [(5, .int (Int32.ofNat i)), (4, .ref k), (0, .ref ch), (1, .ref z), (2, .ref r), (3, .ref m)]) (st' := [.ref k, .int (Int32.ofNat i)]) rfl ?_
    refine At.clp (as := [.ref k]) (rest := [.int (Int32.ofNat i)]) rfl (by decide) rfl (Nat.le_of_ble_eq_true rfl) (Nat.le_of_ble_eq_true rfl) (xrck_o (by decide) (by decide) hk0 (by decide)) (Nat.le_of_ble_eq_true rfl) (m_size hK) ?_
    refine At.ic2 (tgt := 237) rfl rfl (fun _ => ?_) (fun h => absurd ((iN_le (by omega) (by omega)).mpr (show bs.length ≤ i by omega)) (of_decide_eq_false h))
    refine At.wk (L' := [(4, .ref k), (0, .ref ch), (1, .ref z), (2, .ref r), (3, .ref m)]) (List.forall_mem_cons.mpr ⟨List.mem_of_getElem? (i := 1) rfl, (List.forall_mem_cons.mpr ⟨List.mem_of_getElem? (i := 2) rfl, (List.forall_mem_cons.mpr ⟨List.mem_of_getElem? (i := 3) rfl, (List.forall_mem_cons.mpr ⟨List.mem_of_getElem? (i := 4) rfl, (List.forall_mem_cons.mpr ⟨List.mem_of_getElem? (i := 5) rfl, (fun _ h => (List.not_mem_nil h).elim)⟩)⟩)⟩)⟩)⟩) (show ([5, 4, 0, 1, 2, 3] : List Nat).Nodup by decide) ?_
    exact hno (by rw [List.drop_eq_nil_of_le (by omega)]; rfl)
  | succ j ih =>
    intro i hi hno hyes
    obtain ⟨e, he⟩ : ∃ e, cs[i]? = some e := ⟨_, List.getElem?_eq_getElem (by omega)⟩
    obtain ⟨x, hx0, hX⟩ := hE.get he
    have hX9 := hX
    obtain ⟨c, xf, hx, -, -, hxt⟩ := hX9
    obtain ⟨hT9, hT1⟩ := hTab e (List.mem_of_getElem? he)
    have hsame := hser e (List.mem_of_getElem? he)
    refine At.go (q := xm254) rfl 2 (pc' := 195) (L' := [(5, .int (Int32.ofNat i)), (4, .ref k), (0, .ref ch), (1, .ref z), (2, .ref r), (3, .ref m)]) (st' := [.ref k, .int (Int32.ofNat i)]) rfl ?_
    refine At.clp (as := [.ref k]) (rest := [.int (Int32.ofNat i)]) rfl (by decide) rfl (Nat.le_of_ble_eq_true rfl) (Nat.le_of_ble_eq_true rfl) (xrck_o (by decide) (by decide) hk0 (by decide)) (Nat.le_of_ble_eq_true rfl) (m_size hK) ?_
    refine At.ic2 (tgt := 237) rfl rfl (fun h => absurd ((iN_le (by omega) (by omega)).mp (of_decide_eq_true h)) (by omega)) (fun _ => ?_)
    refine At.go (q := xm254) rfl 1 (pc' := 202) (L' := [(5, .int (Int32.ofNat i)), (4, .ref k), (0, .ref ch), (1, .ref z), (2, .ref r), (3, .ref m)]) (st' := [.ref ch]) rfl ?_
    refine At.gf rfl (by decide) hc rfl ?_
    refine At.go (q := xm254) rfl 2 (pc' := 209) (L' := [(5, .int (Int32.ofNat i)), (4, .ref k), (0, .ref ch), (1, .ref z), (2, .ref r), (3, .ref m)]) (st' := [.int (Int32.ofNat i), .ref k, .ref d]) rfl ?_
    refine At.clp (as := [.ref k, .int (Int32.ofNat i)]) (rest := [.ref d]) rfl (by decide) rfl (Nat.le_of_ble_eq_true rfl) (Nat.le_of_ble_eq_true rfl) (xrck_o (by decide) (by decide) hk0 (by decide)) (Nat.le_of_ble_eq_true rfl) (m_get hK hx0) ?_
    refine At.ca rfl hx (by decide) ?_
    refine At.gf rfl (by decide) hx rfl ?_
    refine At.go (q := xm254) rfl 1 (pc' := 219) (L' := [(5, .int (Int32.ofNat i)), (4, .ref k), (0, .ref ch), (1, .ref z), (2, .ref r), (3, .ref m)]) (st' := [.ref ch, .ref e.2.2.2.2.2, .ref d]) rfl ?_
    refine At.gf rfl (by decide) hc rfl ?_
    refine At.clp (as := [.ref d, .ref e.2.2.2.2.2, .int lb]) (rest := []) rfl (by decide) rfl (Nat.le_of_ble_eq_true rfl) (Nat.le_of_ble_eq_true rfl) (xrck_o (by decide) (by decide) hd0 (by decide)) (Nat.le_of_ble_eq_true rfl) (m_hasTwins hd0 hL hD hT9 hT1 hsame hs) ?_
    refine At.ic1 (tgt := 231) rfl rfl (fun hb => ?_) (fun hb => ?_)
    · refine At.go (q := xm254) rfl 2 (pc' := 191) (L' := [(5, .int ((Int32.ofNat i) + 1)), (4, .ref k), (0, .ref ch), (1, .ref z), (2, .ref r), (3, .ref m)]) (st' := []) rfl ?_
      rw [iN_s]
      refine At.wk (L' := [(5, .int (Int32.ofNat (i + 1))), (4, .ref k), (0, .ref ch), (1, .ref z), (2, .ref r), (3, .ref m)]) (List.forall_mem_cons.mpr ⟨List.mem_of_getElem? (i := 0) rfl, (List.forall_mem_cons.mpr ⟨List.mem_of_getElem? (i := 1) rfl, (List.forall_mem_cons.mpr ⟨List.mem_of_getElem? (i := 2) rfl, (List.forall_mem_cons.mpr ⟨List.mem_of_getElem? (i := 3) rfl, (List.forall_mem_cons.mpr ⟨List.mem_of_getElem? (i := 4) rfl, (List.forall_mem_cons.mpr ⟨List.mem_of_getElem? (i := 5) rfl, (fun _ h => (List.not_mem_nil h).elim)⟩)⟩)⟩)⟩)⟩)⟩) (show ([5, 4, 0, 1, 2, 3] : List Nat).Nodup by decide) ?_
      have hp9 : (hasTwsE (TI e.2.2.2.2.2) es e.1 lb) = false := bI0 (of_decide_eq_true hb)
      exact ih (i + 1) (by omega) (fun h9 => hno (by rw [xdrop_q (i := i), he, Option.toList_some, List.singleton_append, List.any_cons, hp9, Bool.false_or]; exact h9)) (fun h9 => hyes (by rw [xdrop_q (i := i), he, Option.toList_some, List.singleton_append, List.any_cons, hp9, Bool.false_or]; exact h9))
    · have hp9 : (hasTwsE (TI e.2.2.2.2.2) es e.1 lb) = true := bI1 (of_decide_eq_false hb)
      refine At.go (q := xm254) rfl 1 (pc' := 230) (L' := [(5, .int (Int32.ofNat i)), (4, .ref k), (0, .ref ch), (1, .ref z), (2, .ref r), (3, .ref m)]) (st' := [.int 117]) rfl ?_
      exact At.rt rfl rfl (hyes (by rw [xdrop_q (i := i), he, Option.toList_some, List.singleton_append, List.any_cons, hp9]; rfl))
