/-! sights: size, isMetWhole, sumOf; shelves: isNeat (written by wip/p27/c73.py) -/
theorem m_sgsize {S : List Int32} {hp : List XC} {g l : Nat} {lv : Value} {as : List Nat} (hg0 : hp[g]? = some (.inr (11, [.ref l, lv]))) (hL : hLs hp l as) : Pu S 1 138 [.ref g] hp (.int (Int32.ofNat as.length)) := by
  obtain ⟨lf, hl0⟩ := hL.ob
  refine At.go (q := xm138) rfl 1 (pc' := 1) (L' := [(0, .ref g)]) (st' := [.ref g]) rfl ?_
  refine At.gf rfl (by decide) hg0 rfl ?_
  refine At.clp (as := [.ref l]) (rest := []) rfl (by decide) rfl (Nat.le_of_ble_eq_true rfl) (Nat.le_of_ble_eq_true rfl) (xrck_o (by decide) (by decide) hl0 (by decide)) (Nat.le_of_ble_eq_true rfl) (m_size hL) ?_
  exact At.rt rfl (xret_i rfl) rfl
/-- whether all rows of a sight are met -/
def metAll (TI : Nat → Tb) (es : List En) : Bool := es.all (fun e => metE es (TI e.2.2.2.2.2) e)
theorem mw_loop {nc ns : Nat} {S : List Int32} {TI : Nat → Tb} {hp : List XC} {g l : Nat} {lv : Value} {as : List Nat} {es : List En} (hs : Srt es) (hg0 : hp[g]? = some (.inr (11, [.ref l, lv]))) (hL : hLs hp l as) (hE : hEs hp as es) (hTab : ∀ e ∈ es, hTb hp e.2.2.2.2.2 e.1 (TI e.2.2.2.2.2) ∧ 1 ≤ (TI e.2.2.2.2.2).2.2.1.length) : ∀ (j i : Nat), i + j = es.length →
    At S 5 272 2 [(1, .int (Int32.ofNat i)), (0, .ref g)] [] hp nc ns (fun o => o = .inl (some (bv ((es.drop i).all (fun e => metE es (TI e.2.2.2.2.2) e))), hp, nc, ns)) := by
  obtain ⟨lf, hl0⟩ := hL.ob
  have hbn := hL.len
  have hle := hE.1
  intro j
  induction j with
  | zero =>
    intro i hi
    refine At.go (q := xm272) rfl 2 (pc' := 4) (L' := [(1, .int (Int32.ofNat i)), (0, .ref g)]) (st' := [.ref g, .int (Int32.ofNat i)]) rfl ?_
    refine At.gf rfl (by decide) hg0 rfl ?_
    refine At.clp (as := [.ref l]) (rest := [.int (Int32.ofNat i)]) rfl (by decide) rfl (Nat.le_of_ble_eq_true rfl) (Nat.le_of_ble_eq_true rfl) (xrck_o (by decide) (by decide) hl0 (by decide)) (Nat.le_of_ble_eq_true rfl) (m_size hL) ?_
    refine At.ic2 (tgt := 39) rfl rfl (fun _ => ?_) (fun h => absurd ((iN_le (by omega) (by omega)).mpr (show as.length ≤ i by omega)) (of_decide_eq_false h))
    refine At.go (q := xm272) rfl 1 (pc' := 40) (L' := [(1, .int (Int32.ofNat i)), (0, .ref g)]) (st' := [.int 1]) rfl ?_
    exact At.rt rfl rfl (by rw [List.drop_eq_nil_of_le (by omega)]; rfl)
  | succ j ih =>
    intro i hi
    obtain ⟨e, he⟩ : ∃ e, es[i]? = some e := ⟨_, List.getElem?_eq_getElem (by omega)⟩
    obtain ⟨x, hx0, hX⟩ := hE.get he
    have hX9 := hX
    obtain ⟨c, fs, hx, -, -, hxt⟩ := hX9
    obtain ⟨hT, hT1⟩ := hTab e (List.mem_of_getElem? he)
    refine At.go (q := xm272) rfl 2 (pc' := 4) (L' := [(1, .int (Int32.ofNat i)), (0, .ref g)]) (st' := [.ref g, .int (Int32.ofNat i)]) rfl ?_
    refine At.gf rfl (by decide) hg0 rfl ?_
    refine At.clp (as := [.ref l]) (rest := [.int (Int32.ofNat i)]) rfl (by decide) rfl (Nat.le_of_ble_eq_true rfl) (Nat.le_of_ble_eq_true rfl) (xrck_o (by decide) (by decide) hl0 (by decide)) (Nat.le_of_ble_eq_true rfl) (m_size hL) ?_
    refine At.ic2 (tgt := 39) rfl rfl (fun h => absurd ((iN_le (by omega) (by omega)).mp (of_decide_eq_true h)) (by omega)) (fun _ => ?_)
    refine At.go (q := xm272) rfl 2 (pc' := 15) (L' := [(1, .int (Int32.ofNat i)), (0, .ref g)]) (st' := [.ref g, .ref g]) rfl ?_
    refine At.gf rfl (by decide) hg0 rfl ?_
    refine At.go (q := xm272) rfl 1 (pc' := 19) (L' := [(1, .int (Int32.ofNat i)), (0, .ref g)]) (st' := [.int (Int32.ofNat i), .ref l, .ref g]) rfl ?_
    refine At.clp (as := [.ref l, .int (Int32.ofNat i)]) (rest := [.ref g]) rfl (by decide) rfl (Nat.le_of_ble_eq_true rfl) (Nat.le_of_ble_eq_true rfl) (xrck_o (by decide) (by decide) hl0 (by decide)) (Nat.le_of_ble_eq_true rfl) (m_get hL hx0) ?_
    refine At.ca rfl hx (by decide) ?_
    refine At.clp (as := [.ref g, .ref x]) (rest := []) rfl (by decide) rfl (Nat.le_of_ble_eq_true rfl) (Nat.le_of_ble_eq_true rfl) (xrck_o (by decide) (by decide) hg0 (by decide)) (Nat.le_of_ble_eq_true rfl) (m_isMet hg0 hL hE hs hX hT hT1) ?_
    refine At.ic1 (tgt := 33) rfl rfl (fun h28 => ?_) (fun h28 => ?_)
    · refine At.go (q := xm272) rfl 2 (pc' := 2) (L' := [(1, .int ((Int32.ofNat i) + 1)), (0, .ref g)]) (st' := []) rfl ?_
      rw [iN_s]
      refine At.wk (L' := [(1, .int (Int32.ofNat (i + 1))), (0, .ref g)]) (List.forall_mem_cons.mpr ⟨List.mem_of_getElem? (i := 0) rfl, (List.forall_mem_cons.mpr ⟨List.mem_of_getElem? (i := 1) rfl, (fun _ h => (List.not_mem_nil h).elim)⟩)⟩) (show ([1, 0] : List Nat).Nodup by decide) ?_
      rw [xdrop_q (i := i), he, Option.toList_some, List.singleton_append, List.all_cons, bI1 (of_decide_eq_true h28), Bool.true_and]
      exact ih (i + 1) (by omega)
    · refine At.go (q := xm272) rfl 1 (pc' := 32) (L' := [(1, .int (Int32.ofNat i)), (0, .ref g)]) (st' := [.int 0]) rfl ?_
      exact At.rt rfl rfl (by rw [xdrop_q (i := i), he, Option.toList_some, List.singleton_append, List.all_cons, bI0 (xne_f h28)]; rfl)
/-- isMetWhole -/
theorem m_isMetWhole {S : List Int32} {TI : Nat → Tb} {hp : List XC} {g l : Nat} {lv : Value} {as : List Nat} {es : List En} (hs : Srt es) (hg0 : hp[g]? = some (.inr (11, [.ref l, lv]))) (hL : hLs hp l as) (hE : hEs hp as es) (hTab : ∀ e ∈ es, hTb hp e.2.2.2.2.2 e.1 (TI e.2.2.2.2.2) ∧ 1 ≤ (TI e.2.2.2.2.2).2.2.1.length) : Pu S 5 272 [.ref g] hp (bv (metAll TI es)) := by
  refine At.go (q := xm272) rfl 2 (pc' := 2) (L' := [(1, .int 0), (0, .ref g)]) (st' := []) rfl ?_
  exact mw_loop hs hg0 hL hE hTab es.length 0 (by omega)
/-- a sum with the cells of a row behind it -/
def sumC (a : Int64) (cs : List Int32) : Int64 := cs.foldl (fun a c => a * 31 + c.toInt64) a
/-- a sum with a row behind it -/
def sumR (sr : Int32) (a : Int64) (e : En) : Int64 := if e.1 = sr then sumC (a * 31 + e.2.2.1.toInt64) e.2.2.2.2.1 else a
/-- sumOf -/
def sumE (es : List En) (sr : Int32) (a : Int64) : Int64 := es.foldl (sumR sr) a
theorem hold_at {cs : List Int32} {k : Nat} {c : Int32} (hk : k < 2 ^ 31) (h : cs[k]? = some c) : hold cs (Int32.ofNat k) = c := by
  unfold hold
  rw [if_neg (iN_nn hk), iN_tn hk, h]
  rfl
theorem cell_loop {S : List Int32} {hp : List XC} {g t x i nc ns : Nat} {e : En} {c : Nat} {Q : XO → Prop} (hx : hp[x]? = some (.inr (4, [.ref e.2.2.2.2.2, .int e.2.1, .int e.2.2.1, bv e.2.2.2.1, .ref c]))) (hxc : hp[c]? = some (.inl (24, e.2.2.2.2.1.map Value.int))) (hn : e.2.2.2.2.1.length ≤ 1000) : ∀ (j k : Nat) (a : Int64), k + j = e.2.2.2.2.1.length → At S 3 246 92 [(6, .int (Int32.ofNat i)), (4, .long (sumC a (e.2.2.2.2.1.drop k))), (0, .ref g), (1, .ref t)] [] hp nc ns Q →
    At S 3 246 59 [(8, .int (Int32.ofNat k)), (4, .long a), (7, .ref x), (6, .int (Int32.ofNat i)), (0, .ref g), (1, .ref t)] [] hp nc ns Q := by
  intro j
  induction j with
  | zero =>
    intro k a hi hk
    refine At.go (q := xm246) rfl 2 (pc' := 63) (L' := [(8, .int (Int32.ofNat k)), (4, .long a), (7, .ref x), (6, .int (Int32.ofNat i)), (0, .ref g), (1, .ref t)]) (st' := [.ref x, .int (Int32.ofNat k)]) rfl ?_
    refine At.clp (as := [.ref x]) (rest := [.int (Int32.ofNat k)]) rfl (by decide) rfl (Nat.le_of_ble_eq_true rfl) (Nat.le_of_ble_eq_true rfl) (xrck_o (by decide) (by decide) hx (by decide)) (Nat.le_of_ble_eq_true rfl) (m_ewidth hx hxc) ?_
    refine At.ic2 (tgt := 92) rfl rfl (fun _ => ?_) (fun h => absurd ((iN_le (by omega) (by omega)).mpr (show e.2.2.2.2.1.length ≤ k by omega)) (of_decide_eq_false h))
    refine At.wk (L' := [(6, .int (Int32.ofNat i)), (4, .long a), (0, .ref g), (1, .ref t)]) (List.forall_mem_cons.mpr ⟨List.mem_of_getElem? (i := 3) rfl, (List.forall_mem_cons.mpr ⟨List.mem_of_getElem? (i := 1) rfl, (List.forall_mem_cons.mpr ⟨List.mem_of_getElem? (i := 4) rfl, (List.forall_mem_cons.mpr ⟨List.mem_of_getElem? (i := 5) rfl, (fun _ h => (List.not_mem_nil h).elim)⟩)⟩)⟩)⟩) (show ([8, 4, 7, 6, 0, 1] : List Nat).Nodup by decide) ?_
    rw [List.drop_eq_nil_of_le (by omega)] at hk
    exact hk
  | succ j ih =>
    intro k a hi hk
    obtain ⟨c0, hc⟩ : ∃ c0, e.2.2.2.2.1[k]? = some c0 := ⟨_, List.getElem?_eq_getElem (by omega)⟩
    refine At.go (q := xm246) rfl 2 (pc' := 63) (L' := [(8, .int (Int32.ofNat k)), (4, .long a), (7, .ref x), (6, .int (Int32.ofNat i)), (0, .ref g), (1, .ref t)]) (st' := [.ref x, .int (Int32.ofNat k)]) rfl ?_
    refine At.clp (as := [.ref x]) (rest := [.int (Int32.ofNat k)]) rfl (by decide) rfl (Nat.le_of_ble_eq_true rfl) (Nat.le_of_ble_eq_true rfl) (xrck_o (by decide) (by decide) hx (by decide)) (Nat.le_of_ble_eq_true rfl) (m_ewidth hx hxc) ?_
    refine At.ic2 (tgt := 92) rfl rfl (fun h => absurd ((iN_le (by omega) (by omega)).mp (of_decide_eq_true h)) (by omega)) (fun _ => ?_)
    refine At.go (q := xm246) rfl 5 (pc' := 79) (L' := [(8, .int (Int32.ofNat k)), (4, .long a), (7, .ref x), (6, .int (Int32.ofNat i)), (0, .ref g), (1, .ref t)]) (st' := [.int (Int32.ofNat k), .ref x, .long (a * 31)]) rfl ?_
    refine At.clp (as := [.ref x, .int (Int32.ofNat k)]) (rest := [.long (a * 31)]) rfl (by decide) rfl (Nat.le_of_ble_eq_true rfl) (Nat.le_of_ble_eq_true rfl) (xrck_o (by decide) (by decide) hx (by decide)) (Nat.le_of_ble_eq_true rfl) (m_hold hx hxc (by omega) (Int32.ofNat k)) ?_
    refine At.go (q := xm246) rfl 5 (pc' := 59) (L' := [(8, .int ((Int32.ofNat k) + 1)), (4, .long ((a * 31) + (hold e.2.2.2.2.1 (Int32.ofNat k)).toInt64)), (7, .ref x), (6, .int (Int32.ofNat i)), (0, .ref g), (1, .ref t)]) (st' := []) rfl ?_
    rw [iN_s, hold_at (by omega) hc]
    refine At.wk (L' := [(8, .int (Int32.ofNat (k + 1))), (4, .long (a * 31 + c0.toInt64)), (7, .ref x), (6, .int (Int32.ofNat i)), (0, .ref g), (1, .ref t)]) (List.forall_mem_cons.mpr ⟨List.mem_of_getElem? (i := 0) rfl, (List.forall_mem_cons.mpr ⟨List.mem_of_getElem? (i := 1) rfl, (List.forall_mem_cons.mpr ⟨List.mem_of_getElem? (i := 2) rfl, (List.forall_mem_cons.mpr ⟨List.mem_of_getElem? (i := 3) rfl, (List.forall_mem_cons.mpr ⟨List.mem_of_getElem? (i := 4) rfl, (List.forall_mem_cons.mpr ⟨List.mem_of_getElem? (i := 5) rfl, (fun _ h => (List.not_mem_nil h).elim)⟩)⟩)⟩)⟩)⟩)⟩) (show ([8, 4, 7, 6, 0, 1] : List Nat).Nodup by decide) ?_
    rw [xdrop_q (i := k), hc, Option.toList_some, List.singleton_append] at hk
    exact ih (k + 1) _ (by omega) hk
theorem sum_loop {nc ns : Nat} {S : List Int32} {hp : List XC} {g l t : Nat} {lv : Value} {tf : List Value} {sr : Int32} {as : List Nat} {es : List En} (hg0 : hp[g]? = some (.inr (11, [.ref l, lv]))) (ht : hp[t]? = some (.inr (13, .int sr :: tf))) (hL : hLs hp l as) (hE : hEs hp as es) : ∀ (j i : Nat) (a : Int64), i + j = es.length →
    At S 3 246 6 [(6, .int (Int32.ofNat i)), (4, .long a), (0, .ref g), (1, .ref t)] [] hp nc ns (fun o => o = .inl (some (.long ((es.drop i).foldl (sumR sr) a)), hp, nc, ns)) := by
  obtain ⟨lf, hl0⟩ := hL.ob
  have hbn := hL.len
  have hle := hE.1
  intro j
  induction j with
  | zero =>
    intro i a hi
    refine At.go (q := xm246) rfl 2 (pc' := 9) (L' := [(6, .int (Int32.ofNat i)), (4, .long a), (0, .ref g), (1, .ref t)]) (st' := [.ref g, .int (Int32.ofNat i)]) rfl ?_
    refine At.gf rfl (by decide) hg0 rfl ?_
    refine At.clp (as := [.ref l]) (rest := [.int (Int32.ofNat i)]) rfl (by decide) rfl (Nat.le_of_ble_eq_true rfl) (Nat.le_of_ble_eq_true rfl) (xrck_o (by decide) (by decide) hl0 (by decide)) (Nat.le_of_ble_eq_true rfl) (m_size hL) ?_
    refine At.ic2 (tgt := 98) rfl rfl (fun _ => ?_) (fun h => absurd ((iN_le (by omega) (by omega)).mpr (show as.length ≤ i by omega)) (of_decide_eq_false h))
    refine At.go (q := xm246) rfl 1 (pc' := 100) (L' := [(6, .int (Int32.ofNat i)), (4, .long a), (0, .ref g), (1, .ref t)]) (st' := [.long a]) rfl ?_
    exact At.rt rfl rfl (by rw [List.drop_eq_nil_of_le (by omega)]; rfl)
  | succ j ih =>
    intro i a hi
    obtain ⟨e, he⟩ : ∃ e, es[i]? = some e := ⟨_, List.getElem?_eq_getElem (by omega)⟩
    obtain ⟨x, hx0, hX⟩ := hE.get he
    have hX9 := hX
    obtain ⟨c, fs, hx, hxc, hxn, hxt⟩ := hX9
    refine At.go (q := xm246) rfl 2 (pc' := 9) (L' := [(6, .int (Int32.ofNat i)), (4, .long a), (0, .ref g), (1, .ref t)]) (st' := [.ref g, .int (Int32.ofNat i)]) rfl ?_
    refine At.gf rfl (by decide) hg0 rfl ?_
    refine At.clp (as := [.ref l]) (rest := [.int (Int32.ofNat i)]) rfl (by decide) rfl (Nat.le_of_ble_eq_true rfl) (Nat.le_of_ble_eq_true rfl) (xrck_o (by decide) (by decide) hl0 (by decide)) (Nat.le_of_ble_eq_true rfl) (m_size hL) ?_
    refine At.ic2 (tgt := 98) rfl rfl (fun h => absurd ((iN_le (by omega) (by omega)).mp (of_decide_eq_true h)) (by omega)) (fun _ => ?_)
    refine At.go (q := xm246) rfl 1 (pc' := 19) (L' := [(6, .int (Int32.ofNat i)), (4, .long a), (0, .ref g), (1, .ref t)]) (st' := [.ref g]) rfl ?_
    refine At.gf rfl (by decide) hg0 rfl ?_
    refine At.go (q := xm246) rfl 1 (pc' := 24) (L' := [(6, .int (Int32.ofNat i)), (4, .long a), (0, .ref g), (1, .ref t)]) (st' := [.int (Int32.ofNat i), .ref l]) rfl ?_
    refine At.clp (as := [.ref l, .int (Int32.ofNat i)]) (rest := []) rfl (by decide) rfl (Nat.le_of_ble_eq_true rfl) (Nat.le_of_ble_eq_true rfl) (xrck_o (by decide) (by decide) hl0 (by decide)) (Nat.le_of_ble_eq_true rfl) (m_get hL hx0) ?_
    refine At.ca rfl hx (by decide) ?_
    refine At.go (q := xm246) rfl 3 (pc' := 35) (L' := [(7, .ref x), (6, .int (Int32.ofNat i)), (4, .long a), (0, .ref g), (1, .ref t)]) (st' := [.ref t, .ref x]) rfl ?_
    refine At.clp (as := [.ref x, .ref t]) (rest := []) rfl (by decide) rfl (Nat.le_of_ble_eq_true rfl) (Nat.le_of_ble_eq_true rfl) (xrck_o (by decide) (by decide) hx (by decide)) (Nat.le_of_ble_eq_true rfl) (m_isOf hx hxt ht) ?_
    refine At.ic1 (tgt := 92) rfl rfl (fun h38 => ?_) (fun h38 => ?_)
    · refine At.go (q := xm246) rfl 2 (pc' := 6) (L' := [(6, .int ((Int32.ofNat i) + 1)), (7, .ref x), (4, .long a), (0, .ref g), (1, .ref t)]) (st' := []) rfl ?_
      rw [iN_s]
      refine At.wk (L' := [(6, .int (Int32.ofNat (i + 1))), (4, .long a), (0, .ref g), (1, .ref t)]) (List.forall_mem_cons.mpr ⟨List.mem_of_getElem? (i := 0) rfl, (List.forall_mem_cons.mpr ⟨List.mem_of_getElem? (i := 2) rfl, (List.forall_mem_cons.mpr ⟨List.mem_of_getElem? (i := 3) rfl, (List.forall_mem_cons.mpr ⟨List.mem_of_getElem? (i := 4) rfl, (fun _ h => (List.not_mem_nil h).elim)⟩)⟩)⟩)⟩) (show ([6, 7, 4, 0, 1] : List Nat).Nodup by decide) ?_
      have hf : (es.drop i).foldl (sumR sr) a = (es.drop (i + 1)).foldl (sumR sr) a := by
        rw [xdrop_q (i := i), he, Option.toList_some, List.singleton_append, List.foldl_cons]
        have hr : sumR sr a e = a := if_neg (of_decide_eq_false (bI0 (of_decide_eq_true h38)))
        rw [hr]
      rw [hf]
      exact ih (i + 1) _ (by omega)
    · refine At.go (q := xm246) rfl 4 (pc' := 49) (L' := [(7, .ref x), (6, .int (Int32.ofNat i)), (4, .long a), (0, .ref g), (1, .ref t)]) (st' := [.ref x, .long (a * 31)]) rfl ?_
      refine At.gf rfl (by decide) hx rfl ?_
      refine At.go (q := xm246) rfl 5 (pc' := 59) (L' := [(8, .int 0), (4, .long ((a * 31) + e.2.2.1.toInt64)), (7, .ref x), (6, .int (Int32.ofNat i)), (0, .ref g), (1, .ref t)]) (st' := []) rfl ?_
      refine At.wk (L' := [(8, .int (Int32.ofNat 0)), (4, .long (a * 31 + e.2.2.1.toInt64)), (7, .ref x), (6, .int (Int32.ofNat i)), (0, .ref g), (1, .ref t)]) (List.forall_mem_cons.mpr ⟨List.mem_of_getElem? (i := 0) rfl, (List.forall_mem_cons.mpr ⟨List.mem_of_getElem? (i := 1) rfl, (List.forall_mem_cons.mpr ⟨List.mem_of_getElem? (i := 2) rfl, (List.forall_mem_cons.mpr ⟨List.mem_of_getElem? (i := 3) rfl, (List.forall_mem_cons.mpr ⟨List.mem_of_getElem? (i := 4) rfl, (List.forall_mem_cons.mpr ⟨List.mem_of_getElem? (i := 5) rfl, (fun _ h => (List.not_mem_nil h).elim)⟩)⟩)⟩)⟩)⟩)⟩) (show ([8, 4, 7, 6, 0, 1] : List Nat).Nodup by decide) ?_
      refine cell_loop hx hxc hxn e.2.2.2.2.1.length 0 _ (by omega) ?_
      rw [List.drop_zero]
      refine At.go (q := xm246) rfl 2 (pc' := 6) (L' := [(6, .int ((Int32.ofNat i) + 1)), (4, .long (sumC (a * 31 + e.2.2.1.toInt64) e.2.2.2.2.1)), (0, .ref g), (1, .ref t)]) (st' := []) rfl ?_
      rw [iN_s]
      refine At.wk (L' := [(6, .int (Int32.ofNat (i + 1))), (4, .long (sumC (a * 31 + e.2.2.1.toInt64) e.2.2.2.2.1)), (0, .ref g), (1, .ref t)]) (List.forall_mem_cons.mpr ⟨List.mem_of_getElem? (i := 0) rfl, (List.forall_mem_cons.mpr ⟨List.mem_of_getElem? (i := 1) rfl, (List.forall_mem_cons.mpr ⟨List.mem_of_getElem? (i := 2) rfl, (List.forall_mem_cons.mpr ⟨List.mem_of_getElem? (i := 3) rfl, (fun _ h => (List.not_mem_nil h).elim)⟩)⟩)⟩)⟩) (show ([6, 4, 0, 1] : List Nat).Nodup by decide) ?_
      have hf : (es.drop i).foldl (sumR sr) a = (es.drop (i + 1)).foldl (sumR sr) (sumC (a * 31 + e.2.2.1.toInt64) e.2.2.2.2.1) := by
        rw [xdrop_q (i := i), he, Option.toList_some, List.singleton_append, List.foldl_cons]
        have hr : sumR sr a e = (sumC (a * 31 + e.2.2.1.toInt64) e.2.2.2.2.1) := if_pos (of_decide_eq_true (bI1 (of_decide_eq_false h38)))
        rw [hr]
      rw [hf]
      exact ih (i + 1) _ (by omega)
/-- sumOf -/
theorem m_sumOf {S : List Int32} {hp : List XC} {g l t : Nat} {lv : Value} {tf : List Value} {sr : Int32} {as : List Nat} {es : List En} (hg0 : hp[g]? = some (.inr (11, [.ref l, lv]))) (ht : hp[t]? = some (.inr (13, .int sr :: tf))) (hL : hLs hp l as) (hE : hEs hp as es) (a : Int64) : Pu S 3 246 [.ref g, .ref t, .long a] hp (.long (sumE es sr a)) := by
  refine At.go (q := xm246) rfl 4 (pc' := 6) (L' := [(6, .int 0), (4, .long a), (0, .ref g), (1, .ref t), (2, .long a)]) (st' := []) rfl ?_
  refine At.wk (L' := [(6, .int 0), (4, .long a), (0, .ref g), (1, .ref t)]) (List.forall_mem_cons.mpr ⟨List.mem_of_getElem? (i := 0) rfl, (List.forall_mem_cons.mpr ⟨List.mem_of_getElem? (i := 1) rfl, (List.forall_mem_cons.mpr ⟨List.mem_of_getElem? (i := 2) rfl, (List.forall_mem_cons.mpr ⟨List.mem_of_getElem? (i := 3) rfl, (fun _ h => (List.not_mem_nil h).elim)⟩)⟩)⟩)⟩) (show ([6, 4, 0, 1, 2] : List Nat).Nodup by decide) ?_
  exact sum_loop hg0 ht hL hE es.length 0 a (by omega)
/-- whether no table has too many entries at a label -/
def neatE (es : List En) : Bool := es.all (fun e => decide (cntE es e.1 e.2.2.1 ≤ 12))
theorem srt_ne {es : List En} {i : Nat} {b e : En} (hs : Srt es) (h1 : 1 ≤ i) (hb : es[i - 1]? = some b) (he : es[i]? = some e) : ¬ cmpE b.1 b.2.1 b.2.2.1 e.1 e.2.1 e.2.2.1 = 0 := fun h => by
  have h2 := (cmp_zero (p := eP b) (q := eP e)).mp h
  obtain ⟨k1, k2⟩ := List.getElem?_eq_some_iff.mp hb
  obtain ⟨k3, k4⟩ := List.getElem?_eq_some_iff.mp he
  have h3 := List.pairwise_iff_getElem.mp hs (i - 1) i k1 k3 (by omega)
  rw [k2, k4, h2] at h3
  exact ltP_irr _ h3
theorem neat_loop {nc ns : Nat} {S : List Int32} {hp : List XC} {s l : Nat} {as : List Nat} {es : List En} (hs : Srt es) (hs0 : hp[s]? = some (.inr (10, [.ref l]))) (hL : hLs hp l as) (hE : hEs hp as es) : ∀ (j i : Nat), i + j = es.length →
    At S 4 271 2 [(1, .int (Int32.ofNat i)), (0, .ref s)] [] hp nc ns (fun o => o = .inl (some (bv ((es.drop i).all (fun e => decide (cntE es e.1 e.2.2.1 ≤ 12)))), hp, nc, ns)) := by
  obtain ⟨lf, hl0⟩ := hL.ob
  have hbn := hL.len
  have hle := hE.1
  intro j
  induction j with
  | zero =>
    intro i hi
    refine At.go (q := xm271) rfl 2 (pc' := 4) (L' := [(1, .int (Int32.ofNat i)), (0, .ref s)]) (st' := [.ref s, .int (Int32.ofNat i)]) rfl ?_
    refine At.gf rfl (by decide) hs0 rfl ?_
    refine At.clp (as := [.ref l]) (rest := [.int (Int32.ofNat i)]) rfl (by decide) rfl (Nat.le_of_ble_eq_true rfl) (Nat.le_of_ble_eq_true rfl) (xrck_o (by decide) (by decide) hl0 (by decide)) (Nat.le_of_ble_eq_true rfl) (m_size hL) ?_
    refine At.ic2 (tgt := 74) rfl rfl (fun _ => ?_) (fun h => absurd ((iN_le (by omega) (by omega)).mpr (show as.length ≤ i by omega)) (of_decide_eq_false h))
    refine At.go (q := xm271) rfl 1 (pc' := 75) (L' := [(1, .int (Int32.ofNat i)), (0, .ref s)]) (st' := [.int 1]) rfl ?_
    exact At.rt rfl rfl (by rw [List.drop_eq_nil_of_le (by omega)]; rfl)
  | succ j ih =>
    intro i hi
    obtain ⟨e, he⟩ : ∃ e, es[i]? = some e := ⟨_, List.getElem?_eq_getElem (by omega)⟩
    obtain ⟨x, hx0, hX⟩ := hE.get he
    obtain ⟨c, fs, hx, -, -, hxt⟩ := hX
    have hcn : cntE es e.1 e.2.2.1 ≤ es.length := List.countP_le_length
    refine At.go (q := xm271) rfl 2 (pc' := 4) (L' := [(1, .int (Int32.ofNat i)), (0, .ref s)]) (st' := [.ref s, .int (Int32.ofNat i)]) rfl ?_
    refine At.gf rfl (by decide) hs0 rfl ?_
    refine At.clp (as := [.ref l]) (rest := [.int (Int32.ofNat i)]) rfl (by decide) rfl (Nat.le_of_ble_eq_true rfl) (Nat.le_of_ble_eq_true rfl) (xrck_o (by decide) (by decide) hl0 (by decide)) (Nat.le_of_ble_eq_true rfl) (m_size hL) ?_
    refine At.ic2 (tgt := 74) rfl rfl (fun h => absurd ((iN_le (by omega) (by omega)).mp (of_decide_eq_true h)) (by omega)) (fun _ => ?_)
    refine At.go (q := xm271) rfl 1 (pc' := 14) (L' := [(1, .int (Int32.ofNat i)), (0, .ref s)]) (st' := [.ref s]) rfl ?_
    refine At.gf rfl (by decide) hs0 rfl ?_
    refine At.go (q := xm271) rfl 1 (pc' := 18) (L' := [(1, .int (Int32.ofNat i)), (0, .ref s)]) (st' := [.int (Int32.ofNat i), .ref l]) rfl ?_
    refine At.clp (as := [.ref l, .int (Int32.ofNat i)]) (rest := []) rfl (by decide) rfl (Nat.le_of_ble_eq_true rfl) (Nat.le_of_ble_eq_true rfl) (xrck_o (by decide) (by decide) hl0 (by decide)) (Nat.le_of_ble_eq_true rfl) (m_get hL hx0) ?_
    refine At.ca rfl hx (by decide) ?_
    refine At.go (q := xm271) rfl 2 (pc' := 26) (L' := [(2, .ref x), (1, .int (Int32.ofNat i)), (0, .ref s)]) (st' := [.int (Int32.ofNat i)]) rfl ?_
    refine At.ic1 (tgt := 49) rfl rfl (fun h26 => ?_) (fun h26 => ?_)
    · refine At.go (q := xm271) rfl 2 (pc' := 51) (L' := [(2, .ref x), (1, .int (Int32.ofNat i)), (0, .ref s)]) (st' := [.ref x, .ref s]) rfl ?_
      refine At.gf rfl (by decide) hx rfl ?_
      refine At.go (q := xm271) rfl 1 (pc' := 55) (L' := [(2, .ref x), (1, .int (Int32.ofNat i)), (0, .ref s)]) (st' := [.ref x, .ref e.2.2.2.2.2, .ref s]) rfl ?_
      refine At.gf rfl (by decide) hx rfl ?_
      refine At.clp (as := [.ref s, .ref e.2.2.2.2.2, .int e.2.2.1]) (rest := []) rfl (by decide) rfl (Nat.le_of_ble_eq_true rfl) (Nat.le_of_ble_eq_true rfl) (xrck_o (by decide) (by decide) hs0 (by decide)) (Nat.le_of_ble_eq_true rfl) (m_count hxt hs0 hL hE) ?_
      refine At.go (q := xm271) rfl 1 (pc' := 63) (L' := [(2, .ref x), (1, .int (Int32.ofNat i)), (0, .ref s)]) (st' := [.int 12, .int (Int32.ofNat (cntE es e.1 e.2.2.1))]) rfl ?_
      refine At.ic2 (tgt := 68) rfl rfl (fun h63 => ?_) (fun h63 => ?_)
      · refine At.go (q := xm271) rfl 2 (pc' := 2) (L' := [(1, .int ((Int32.ofNat i) + 1)), (2, .ref x), (0, .ref s)]) (st' := []) rfl ?_
        rw [iN_s]
        refine At.wk (L' := [(1, .int (Int32.ofNat (i + 1))), (0, .ref s)]) (List.forall_mem_cons.mpr ⟨List.mem_of_getElem? (i := 0) rfl, (List.forall_mem_cons.mpr ⟨List.mem_of_getElem? (i := 2) rfl, (fun _ h => (List.not_mem_nil h).elim)⟩)⟩) (show ([1, 2, 0] : List Nat).Nodup by decide) ?_
        have hc : cntE es e.1 e.2.2.1 ≤ 12 := (iN_le (b := 12) (by omega) (by omega)).mp (of_decide_eq_true h63)
        rw [xdrop_q (i := i), he, Option.toList_some, List.singleton_append, List.all_cons, decide_eq_true hc, Bool.true_and]
        exact ih (i + 1) (by omega)
      · have hc : ¬ cntE es e.1 e.2.2.1 ≤ 12 := fun h => of_decide_eq_false h63 ((iN_le (b := 12) (by omega) (by omega)).mpr h)
        refine At.go (q := xm271) rfl 1 (pc' := 67) (L' := [(2, .ref x), (1, .int (Int32.ofNat i)), (0, .ref s)]) (st' := [.int 0]) rfl ?_
        exact At.rt rfl rfl (by rw [xdrop_q (i := i), he, Option.toList_some, List.singleton_append, List.all_cons, decide_eq_false hc]; rfl)
    · have hi0 : 1 ≤ i := Nat.lt_of_not_le (fun h => of_decide_eq_false h26 ((iN_le (b := 0) (by omega) (by omega)).mpr (by omega)))
      have hi1 : Int32.ofNat i - 1 = Int32.ofNat (i - 1) := by rw [show (1 : Int32) = Int32.ofNat 1 from rfl, iN_sub hi0]
      obtain ⟨b, hb⟩ : ∃ b, es[i - 1]? = some b := ⟨_, List.getElem?_eq_getElem (by omega)⟩
      obtain ⟨w, hw0, hW⟩ := hE.get hb
      obtain ⟨d, gs, hw, -, -, hwt⟩ := hW
      refine At.go (q := xm271) rfl 1 (pc' := 30) (L' := [(2, .ref x), (1, .int (Int32.ofNat i)), (0, .ref s)]) (st' := [.ref s]) rfl ?_
      refine At.gf rfl (by decide) hs0 rfl ?_
      refine At.go (q := xm271) rfl 3 (pc' := 36) (L' := [(2, .ref x), (1, .int (Int32.ofNat i)), (0, .ref s)]) (st' := [.int ((Int32.ofNat i) - 1), .ref l]) rfl ?_
      refine At.clp (as := [.ref l, .int ((Int32.ofNat i) - 1)]) (rest := []) rfl (by decide) rfl (Nat.le_of_ble_eq_true rfl) (Nat.le_of_ble_eq_true rfl) (xrck_o (by decide) (by decide) hl0 (by decide)) (Nat.le_of_ble_eq_true rfl) ((by rw [hi1]; exact m_get hL hw0)) ?_
      refine At.ca rfl hw (by decide) ?_
      refine At.go (q := xm271) rfl 1 (pc' := 43) (L' := [(2, .ref x), (1, .int (Int32.ofNat i)), (0, .ref s)]) (st' := [.ref x, .ref w]) rfl ?_
      refine At.clp (as := [.ref w, .ref x]) (rest := []) rfl (by decide) rfl (Nat.le_of_ble_eq_true rfl) (Nat.le_of_ble_eq_true rfl) (xrck_o (by decide) (by decide) hw (by decide)) (Nat.le_of_ble_eq_true rfl) (m_isBeside hw hwt hx hxt) ?_
      refine At.ic1 (tgt := 66) rfl rfl (fun h => absurd (h.symm.trans (by rw [decide_eq_false (srt_ne hs hi0 hb he)])) (by decide)) (fun _ => ?_)
      refine At.go (q := xm271) rfl 2 (pc' := 51) (L' := [(2, .ref x), (1, .int (Int32.ofNat i)), (0, .ref s)]) (st' := [.ref x, .ref s]) rfl ?_
      refine At.gf rfl (by decide) hx rfl ?_
      refine At.go (q := xm271) rfl 1 (pc' := 55) (L' := [(2, .ref x), (1, .int (Int32.ofNat i)), (0, .ref s)]) (st' := [.ref x, .ref e.2.2.2.2.2, .ref s]) rfl ?_
      refine At.gf rfl (by decide) hx rfl ?_
      refine At.clp (as := [.ref s, .ref e.2.2.2.2.2, .int e.2.2.1]) (rest := []) rfl (by decide) rfl (Nat.le_of_ble_eq_true rfl) (Nat.le_of_ble_eq_true rfl) (xrck_o (by decide) (by decide) hs0 (by decide)) (Nat.le_of_ble_eq_true rfl) (m_count hxt hs0 hL hE) ?_
      refine At.go (q := xm271) rfl 1 (pc' := 63) (L' := [(2, .ref x), (1, .int (Int32.ofNat i)), (0, .ref s)]) (st' := [.int 12, .int (Int32.ofNat (cntE es e.1 e.2.2.1))]) rfl ?_
      refine At.ic2 (tgt := 68) rfl rfl (fun h63 => ?_) (fun h63 => ?_)
      · refine At.go (q := xm271) rfl 2 (pc' := 2) (L' := [(1, .int ((Int32.ofNat i) + 1)), (2, .ref x), (0, .ref s)]) (st' := []) rfl ?_
        rw [iN_s]
        refine At.wk (L' := [(1, .int (Int32.ofNat (i + 1))), (0, .ref s)]) (List.forall_mem_cons.mpr ⟨List.mem_of_getElem? (i := 0) rfl, (List.forall_mem_cons.mpr ⟨List.mem_of_getElem? (i := 2) rfl, (fun _ h => (List.not_mem_nil h).elim)⟩)⟩) (show ([1, 2, 0] : List Nat).Nodup by decide) ?_
        have hc : cntE es e.1 e.2.2.1 ≤ 12 := (iN_le (b := 12) (by omega) (by omega)).mp (of_decide_eq_true h63)
        rw [xdrop_q (i := i), he, Option.toList_some, List.singleton_append, List.all_cons, decide_eq_true hc, Bool.true_and]
        exact ih (i + 1) (by omega)
      · have hc : ¬ cntE es e.1 e.2.2.1 ≤ 12 := fun h => of_decide_eq_false h63 ((iN_le (b := 12) (by omega) (by omega)).mpr h)
        refine At.go (q := xm271) rfl 1 (pc' := 67) (L' := [(2, .ref x), (1, .int (Int32.ofNat i)), (0, .ref s)]) (st' := [.int 0]) rfl ?_
        exact At.rt rfl rfl (by rw [xdrop_q (i := i), he, Option.toList_some, List.singleton_append, List.all_cons, decide_eq_false hc]; rfl)
/-- isNeat -/
theorem m_isNeat {S : List Int32} {hp : List XC} {s l : Nat} {as : List Nat} {es : List En} (hs : Srt es) (hs0 : hp[s]? = some (.inr (10, [.ref l]))) (hL : hLs hp l as) (hE : hEs hp as es) : Pu S 4 271 [.ref s] hp (bv (neatE es)) := by
  refine At.go (q := xm271) rfl 2 (pc' := 2) (L' := [(1, .int 0), (0, .ref s)]) (st' := []) rfl ?_
  exact neat_loop hs hs0 hL hE es.length 0 (by omega)
