/-! words as they are spelt (written by wip/p27/c976.py) -/
/-- whether a stretch of a text is a word -/
def spl (cs : List Int32) (f e : Nat) (tx : List Int32) : Bool := decide ((cs.drop f).take (e - f) = tx) && decide (f < e)
theorem iN_cl {n : Nat} {x : Int32} (h : Int32.ofNat n = x) (hn : n < 2 ^ 31) : x.toNatClampNeg = n := by
  rw [← h, iN_tn hn]
theorem spl_loop {S : List Int32} {hp : List XC} {k t a f e : Nat} {o9 b9 : Value} {fs9 : List Value} {cs tx : List Int32} (hk : xKC[k]? = some (.inr (16, [o9, .retAddr t, b9]))) (htk : xKC[t]? = some (.inr (0, fs9))) (hlen : Pu S 1 30 [.retAddr t] hp (.int (Int32.ofNat tx.length))) (hch : ∀ (i : Nat) (c : Int32), tx[i]? = some c → Pu S 3 32 [.retAddr t, .int (Int32.ofNat i)] hp (.int c)) (ha : hp[a]? = some (.inl (1, cs.map Value.int))) (hn : cs.length ≤ 1000) (htx : tx.length ≤ 100) (hfe : f + tx.length = e) (hec : e ≤ cs.length) : ∀ (j i : Nat), i + j = tx.length → At S 4 48 28 [(4, .int (Int32.ofNat i)), (0, .retAddr k), (1, .ref a), (2, .int (Int32.ofNat f)), (3, .int (Int32.ofNat e))] [] hp 0 0 (fun o => o = .inl (some (bv (decide ((cs.drop (f + i)).take j = tx.drop i) && decide (f < e))), hp, 0, 0)) := by
  intro j
  induction j with
  | zero =>
    intro i hi
    refine At.go (q := xm48) rfl 2 (pc' := 31) (L' := [(4, .int (Int32.ofNat i)), (0, .retAddr k), (1, .ref a), (2, .int (Int32.ofNat f)), (3, .int (Int32.ofNat e))]) (st' := [.retAddr k, .int (Int32.ofNat i)]) rfl ?_
    refine At.gk rfl (by decide) hk rfl ?_
    refine At.clp (as := [.retAddr t]) (rest := [.int (Int32.ofNat i)]) rfl (by decide) rfl (Nat.le_of_ble_eq_true rfl) (Nat.le_of_ble_eq_true rfl) (xrck_k (by decide) (by decide) htk (by decide)) (Nat.le_of_ble_eq_true rfl) (hlen) ?_
    refine At.ic2 (tgt := 75) rfl rfl (fun _ => ?_) (fun h => absurd (h.symm.trans (decide_eq_true ((iN_le (a := tx.length) (b := i) (by omega) (by omega)).mpr (by omega)))) (by decide))
    refine At.go (q := xm48) rfl 2 (pc' := 77) (L' := [(4, .int (Int32.ofNat i)), (0, .retAddr k), (1, .ref a), (2, .int (Int32.ofNat f)), (3, .int (Int32.ofNat e))]) (st' := [.int (Int32.ofNat f), .int (Int32.ofNat e)]) rfl ?_
    refine At.ic2 (tgt := 84) rfl rfl (fun h77 => ?_) (fun h77 => ?_)
    · refine At.go (q := xm48) rfl 1 (pc' := 85) (L' := [(4, .int (Int32.ofNat i)), (0, .retAddr k), (1, .ref a), (2, .int (Int32.ofNat f)), (3, .int (Int32.ofNat e))]) (st' := [.int 0]) rfl ?_
      exact At.rt rfl rfl (by rw [decide_eq_false (show ¬ f < e from fun h => absurd ((iN_le (a := e) (b := f) (by omega) (by omega)).mp (of_decide_eq_true h77)) (by omega)), Bool.and_false]; rfl)
    · refine At.go (q := xm48) rfl 2 (pc' := 85) (L' := [(4, .int (Int32.ofNat i)), (0, .retAddr k), (1, .ref a), (2, .int (Int32.ofNat f)), (3, .int (Int32.ofNat e))]) (st' := [.int 1]) rfl ?_
      exact At.rt rfl rfl (by rw [decide_eq_true (show f < e from Nat.lt_of_not_le (fun h => of_decide_eq_false h77 ((iN_le (a := e) (b := f) (by omega) (by omega)).mpr h))), List.drop_eq_nil_of_le (show tx.length ≤ i by omega), List.take_zero]; rfl)
  | succ j ih =>
    intro i hi
    obtain ⟨c, hc⟩ : ∃ c, tx[i]? = some c := ⟨_, List.getElem?_eq_getElem (by omega)⟩
    obtain ⟨v, hv⟩ : ∃ v, cs[f + i]? = some v := ⟨_, List.getElem?_eq_getElem (by omega)⟩
    rw [xdrop_q (l := tx) (i := i), hc, xdrop_q (l := cs) (i := f + i), hv, Option.toList_some, Option.toList_some, List.singleton_append, List.singleton_append, List.take_succ_cons]
    refine At.go (q := xm48) rfl 2 (pc' := 31) (L' := [(4, .int (Int32.ofNat i)), (0, .retAddr k), (1, .ref a), (2, .int (Int32.ofNat f)), (3, .int (Int32.ofNat e))]) (st' := [.retAddr k, .int (Int32.ofNat i)]) rfl ?_
    refine At.gk rfl (by decide) hk rfl ?_
    refine At.clp (as := [.retAddr t]) (rest := [.int (Int32.ofNat i)]) rfl (by decide) rfl (Nat.le_of_ble_eq_true rfl) (Nat.le_of_ble_eq_true rfl) (xrck_k (by decide) (by decide) htk (by decide)) (Nat.le_of_ble_eq_true rfl) (hlen) ?_
    refine At.ic2 (tgt := 75) rfl rfl (fun h => absurd (h.symm.trans (decide_eq_false (fun h => absurd ((iN_le (a := tx.length) (b := i) (by omega) (by omega)).mp h) (by omega)))) (by decide)) (fun _ => ?_)
    refine At.go (q := xm48) rfl 4 (pc' := 45) (L' := [(4, .int (Int32.ofNat i)), (0, .retAddr k), (1, .ref a), (2, .int (Int32.ofNat f)), (3, .int (Int32.ofNat e))]) (st' := [.ref a, .int ((Int32.ofNat f) + (Int32.ofNat i))]) rfl ?_
    refine At.ln rfl ha ?_
    rw [show Int32.ofNat f + Int32.ofNat i = Int32.ofNat (f + i) from (Int32.ofNat_add f i).symm, List.length_map]
    refine At.ic2 (tgt := 75) rfl rfl (fun h => absurd ((iN_le (a := cs.length) (b := f + i) (by omega) (by omega)).mp (of_decide_eq_true h)) (by omega)) (fun _ => ?_)
    refine At.go (q := xm48) rfl 1 (pc' := 50) (L' := [(4, .int (Int32.ofNat i)), (0, .retAddr k), (1, .ref a), (2, .int (Int32.ofNat f)), (3, .int (Int32.ofNat e))]) (st' := [.retAddr k]) rfl ?_
    refine At.gk rfl (by decide) hk rfl ?_
    refine At.go (q := xm48) rfl 1 (pc' := 55) (L' := [(4, .int (Int32.ofNat i)), (0, .retAddr k), (1, .ref a), (2, .int (Int32.ofNat f)), (3, .int (Int32.ofNat e))]) (st' := [.int (Int32.ofNat i), .retAddr t]) rfl ?_
    refine At.clp (as := [.retAddr t, .int (Int32.ofNat i)]) (rest := []) rfl (by decide) rfl (Nat.le_of_ble_eq_true rfl) (Nat.le_of_ble_eq_true rfl) (xrck_k (by decide) (by decide) htk (by decide)) (Nat.le_of_ble_eq_true rfl) (hch i c hc) ?_
    refine At.go (q := xm48) rfl 4 (pc' := 63) (L' := [(4, .int (Int32.ofNat i)), (0, .retAddr k), (1, .ref a), (2, .int (Int32.ofNat f)), (3, .int (Int32.ofNat e))]) (st' := [.int ((Int32.ofNat f) + (Int32.ofNat i)), .ref a, .int c]) rfl ?_
    refine At.al rfl ha (by decide) rfl (by rw [show Int32.ofNat f + Int32.ofNat i = Int32.ofNat (f + i) from (Int32.ofNat_add f i).symm]; exact iN_nn (by omega)) (by rw [show Int32.ofNat f + Int32.ofNat i = Int32.ofNat (f + i) from (Int32.ofNat_add f i).symm, iN_tn (by omega), List.getElem?_map, hv]; rfl) ?_
    refine At.ic2 (tgt := 69) rfl rfl (fun h64 => ?_) (fun h64 => ?_)
    · have e64 : c = v := of_decide_eq_true h64
      refine At.go (q := xm48) rfl 2 (pc' := 28) (L' := [(4, .int ((Int32.ofNat i) + 1)), (0, .retAddr k), (1, .ref a), (2, .int (Int32.ofNat f)), (3, .int (Int32.ofNat e))]) (st' := []) rfl ?_
      rw [iN_s]
      refine At.wk (L' := [(4, .int (Int32.ofNat (i + 1))), (0, .retAddr k), (1, .ref a), (2, .int (Int32.ofNat f)), (3, .int (Int32.ofNat e))]) (List.forall_mem_cons.mpr ⟨List.mem_of_getElem? (i := 0) rfl, (List.forall_mem_cons.mpr ⟨List.mem_of_getElem? (i := 1) rfl, (List.forall_mem_cons.mpr ⟨List.mem_of_getElem? (i := 2) rfl, (List.forall_mem_cons.mpr ⟨List.mem_of_getElem? (i := 3) rfl, (List.forall_mem_cons.mpr ⟨List.mem_of_getElem? (i := 4) rfl, (fun _ h => (List.not_mem_nil h).elim)⟩)⟩)⟩)⟩)⟩) (show ([4, 0, 1, 2, 3] : List Nat).Nodup by decide) ?_
      refine (ih (i + 1) (by omega)).mono (fun o h => ?_)
      rw [h, e64, show decide (v :: (cs.drop (f + i + 1)).take j = v :: tx.drop (i + 1)) = decide ((cs.drop (f + (i + 1))).take j = tx.drop (i + 1)) from decide_eq_decide.mpr ⟨fun h => (List.cons.inj h).2, fun h => congrArg (fun z => v :: z) h⟩]
    · refine At.go (q := xm48) rfl 1 (pc' := 68) (L' := [(4, .int (Int32.ofNat i)), (0, .retAddr k), (1, .ref a), (2, .int (Int32.ofNat f)), (3, .int (Int32.ofNat e))]) (st' := [.int 0]) rfl ?_
      exact At.rt rfl rfl (by rw [decide_eq_false (show ¬ (v :: (cs.drop (f + i + 1)).take j = c :: tx.drop (i + 1)) from fun h => of_decide_eq_false h64 (List.cons.inj h).1.symm), Bool.false_and]; rfl)
/-- isSpelt -/
theorem m_isSpelt {S : List Int32} {hp : List XC} {k t a f e : Nat} {o9 b9 : Value} {fs9 : List Value} {cs tx : List Int32} (hk : xKC[k]? = some (.inr (16, [o9, .retAddr t, b9]))) (htk : xKC[t]? = some (.inr (0, fs9))) (hlen : Pu S 1 30 [.retAddr t] hp (.int (Int32.ofNat tx.length))) (hch : ∀ (i : Nat) (c : Int32), tx[i]? = some c → Pu S 3 32 [.retAddr t, .int (Int32.ofNat i)] hp (.int c)) (ha : hp[a]? = some (.inl (1, cs.map Value.int))) (hn : cs.length ≤ 1000) (htx : tx.length ≤ 100) (hfe : f ≤ e) (hec : e ≤ cs.length) : Pu S 4 48 [.retAddr k, .ref a, .int (Int32.ofNat f), .int (Int32.ofNat e)] hp (bv (spl cs f e tx)) := by
  refine At.go (q := xm48) rfl 1 (pc' := 1) (L' := [(0, .retAddr k), (1, .ref a), (2, .int (Int32.ofNat f)), (3, .int (Int32.ofNat e))]) (st' := [.retAddr k]) rfl ?_
  refine At.gk rfl (by decide) hk rfl ?_
  refine At.clp (as := [.retAddr t]) (rest := []) rfl (by decide) rfl (Nat.le_of_ble_eq_true rfl) (Nat.le_of_ble_eq_true rfl) (xrck_k (by decide) (by decide) htk (by decide)) (Nat.le_of_ble_eq_true rfl) (hlen) ?_
  refine At.go (q := xm48) rfl 3 (pc' := 10) (L' := [(0, .retAddr k), (1, .ref a), (2, .int (Int32.ofNat f)), (3, .int (Int32.ofNat e))]) (st' := [.int ((Int32.ofNat e) - (Int32.ofNat f)), .int (Int32.ofNat tx.length)]) rfl ?_
  rw [iN_sub hfe]
  refine At.ic2 (tgt := 23) rfl rfl (fun h10 => ?_) (fun h10 => ?_)
  · refine At.go (q := xm48) rfl 1 (pc' := 24) (L' := [(0, .retAddr k), (1, .ref a), (2, .int (Int32.ofNat f)), (3, .int (Int32.ofNat e))]) (st' := [.int 0]) rfl ?_
    exact At.rt rfl rfl (by unfold spl; rw [decide_eq_false (show ¬ ((cs.drop f).take (e - f) = tx) from fun h => of_decide_eq_true h10 (by rw [← h, List.length_take, List.length_drop, Nat.min_eq_left (by omega)])), Bool.false_and]; rfl)
  · have h11 : tx.length = e - f := iN_inj (by omega) (by omega) (Decidable.not_not.mp (of_decide_eq_false h10))
    refine At.go (q := xm48) rfl 1 (pc' := 14) (L' := [(0, .retAddr k), (1, .ref a), (2, .int (Int32.ofNat f)), (3, .int (Int32.ofNat e))]) (st' := [.int (Int32.ofNat f)]) rfl ?_
    refine At.ic1 (tgt := 23) rfl rfl (fun h => absurd (h.symm.trans (decide_eq_false (iN_nn (by omega)))) (by decide)) (fun _ => ?_)
    refine At.go (q := xm48) rfl 2 (pc' := 19) (L' := [(0, .retAddr k), (1, .ref a), (2, .int (Int32.ofNat f)), (3, .int (Int32.ofNat e))]) (st' := [.ref a, .int (Int32.ofNat e)]) rfl ?_
    refine At.ln rfl ha ?_
    rw [List.length_map]
    refine At.ic2 (tgt := 25) rfl rfl (fun _ => ?_) (fun h => absurd (decide_eq_true ((iN_le (a := e) (b := cs.length) (by omega) (by omega)).mpr hec)) (by rw [show decide (Int32.ofNat e ≤ Int32.ofNat cs.length) = false from h]; decide))
    refine At.go (q := xm48) rfl 2 (pc' := 28) (L' := [(4, .int 0), (0, .retAddr k), (1, .ref a), (2, .int (Int32.ofNat f)), (3, .int (Int32.ofNat e))]) (st' := []) rfl ?_
    refine At.wk (L' := [(4, .int (Int32.ofNat 0)), (0, .retAddr k), (1, .ref a), (2, .int (Int32.ofNat f)), (3, .int (Int32.ofNat e))]) (List.forall_mem_cons.mpr ⟨List.mem_of_getElem? (i := 0) rfl, (List.forall_mem_cons.mpr ⟨List.mem_of_getElem? (i := 1) rfl, (List.forall_mem_cons.mpr ⟨List.mem_of_getElem? (i := 2) rfl, (List.forall_mem_cons.mpr ⟨List.mem_of_getElem? (i := 3) rfl, (List.forall_mem_cons.mpr ⟨List.mem_of_getElem? (i := 4) rfl, (fun _ h => (List.not_mem_nil h).elim)⟩)⟩)⟩)⟩)⟩) (show ([4, 0, 1, 2, 3] : List Nat).Nodup by decide) ?_
    refine (spl_loop hk htk hlen hch ha hn htx (by omega) hec tx.length 0 (by omega)).mono (fun o h => ?_)
    rw [h, Nat.add_zero, List.drop_zero, h11]
    rfl
