/-! shelves: drop (written by wip/p27/c72.py) -/
theorem iN_m1 {n : Nat} (h : n ≤ 1000000) : Int32.ofNat n - 1 < Int32.ofNat n := by
  cases n with
  | zero => decide
  | succ n =>
    rw [show (1 : Int32) = Int32.ofNat 1 from rfl, iN_sub (by omega)]
    exact (iN_lt (by omega) (by omega)).mpr (by omega)
theorem iN_m2 {n : Nat} : Int32.ofNat (n + 1) - 1 = Int32.ofNat n := by
  rw [show (1 : Int32) = Int32.ofNat 1 from rfl, iN_sub (by omega)]
  rfl
theorem i32_neg1 (x : Int32) : x + (-1) = x - 1 := (Int32.sub_eq_add_neg x 1).symm
theorem tk_erase {α : Type} {l : List α} {k j : Nat} (h : k ≤ j) (h2 : j < l.length) : (l.eraseIdx j).take k = l.take k := by
  rw [List.eraseIdx_eq_take_drop_succ, List.take_append_of_le_length (by rw [List.length_take]; omega), List.take_take, Nat.min_eq_left h]
theorem tk_set {α : Type} {l : List α} {k : Nat} {x : α} (h : k < l.length) : (l.set k x).take (k + 1) = l.take k ++ [x] := by
  rw [List.take_succ, List.getElem?_set_self h, List.take_set_of_le (Nat.le_refl _)]
  rfl
/-- what drop leaves of the entries -/
def dropE (es : List En) (sr : Int32) : List En := es.filter (fun e => !decide (e.1 = sr))
theorem rem_loop {S : List Int32} {s l k : Nat} : ∀ (j : Nat) (hp : List XC) (as : List Nat) (es : List En) {nc ns : Nat}, es.length = k + j → hp[s]? = some (.inr (10, [.ref l])) → hLs hp l as → hEs hp as es →
    At S 3 173 67 [(3, .int (Int32.ofNat (k + j) - 1)), (2, .int (Int32.ofNat k)), (0, .ref s)] [] hp nc ns (fun o => ∃ hp', o = .inl (none, hp', nc, ns) ∧ FrX (fun x => x = l) hp hp' ∧ hSh hp' l (es.take k) ∧ capL hp' l = capL hp l) := by
  intro j
  induction j with
  | zero =>
    intro hp as es nc ns hi hs0 hL hE
    obtain ⟨lf, hl0⟩ := hL.ob
    have hbn := hL.len
    have hle := hE.1
    rw [Nat.add_zero]
    refine At.go (q := xm173) rfl 2 (pc' := 69) (L' := [(3, .int (Int32.ofNat k - 1)), (2, .int (Int32.ofNat k)), (0, .ref s)]) (st' := [.int (Int32.ofNat k), .int (Int32.ofNat k - 1)]) rfl ?_
    refine At.ic2 (tgt := 87) rfl rfl (fun _ => ?_) (fun h => absurd (iN_m1 (by omega)) (of_decide_eq_false h))
    exact At.rt rfl rfl ⟨hp, rfl, FrX.rf, ⟨as, hL, by rw [List.take_of_length_le (by omega)]; exact hE⟩, rfl⟩
  | succ j ih =>
    intro hp as es nc ns hi hs0 hL hE
    obtain ⟨lf, hl0⟩ := hL.ob
    have hbn := hL.len
    have hle := hE.1
    obtain ⟨x, hx0⟩ : ∃ x, as[k + j]? = some x := ⟨_, List.getElem?_eq_getElem (by omega)⟩
    rw [show k + (j + 1) = k + j + 1 by omega, iN_m2]
    refine At.go (q := xm173) rfl 2 (pc' := 69) (L' := [(3, .int (Int32.ofNat (k + j))), (2, .int (Int32.ofNat k)), (0, .ref s)]) (st' := [.int (Int32.ofNat k), .int (Int32.ofNat (k + j))]) rfl ?_
    refine At.ic2 (tgt := 87) rfl rfl (fun h => absurd ((iN_lt (by omega) (by omega)).mp (of_decide_eq_true h)) (by omega)) (fun _ => ?_)
    refine At.go (q := xm173) rfl 1 (pc' := 73) (L' := [(3, .int (Int32.ofNat (k + j))), (2, .int (Int32.ofNat k)), (0, .ref s)]) (st' := [.ref s]) rfl ?_
    refine At.gf rfl (by decide) hs0 rfl ?_
    refine At.go (q := xm173) rfl 1 (pc' := 77) (L' := [(3, .int (Int32.ofNat (k + j))), (2, .int (Int32.ofNat k)), (0, .ref s)]) (st' := [.int (Int32.ofNat (k + j)), .ref l]) rfl ?_
    refine At.clm (as := [.ref l, .int (Int32.ofNat (k + j))]) (rest := []) rfl (by decide) rfl (Nat.le_of_ble_eq_true rfl) (Nat.le_of_ble_eq_true rfl) (xrck_o (by decide) (by decide) hl0 (by decide)) (Nat.le_of_ble_eq_true rfl) (m_remove hL hx0) (fun v hp1 c1 s1 hv => ?_)
    obtain ⟨rfl, k1, k2, rfl, rfl, k3⟩ := hv
    refine At.go (q := xm173) rfl 3 (pc' := 67) (L' := [(3, .int ((Int32.ofNat (k + j)) + (-1))), (2, .int (Int32.ofNat k)), (0, .ref s)]) (st' := []) rfl ?_
    rw [i32_neg1]
    refine At.wk (L' := [(3, .int (Int32.ofNat (k + j) - 1)), (2, .int (Int32.ofNat k)), (0, .ref s)]) (List.forall_mem_cons.mpr ⟨List.mem_of_getElem? (i := 0) rfl, (List.forall_mem_cons.mpr ⟨List.mem_of_getElem? (i := 1) rfl, (List.forall_mem_cons.mpr ⟨List.mem_of_getElem? (i := 2) rfl, (fun _ h => (List.not_mem_nil h).elim)⟩)⟩)⟩) (show ([3, 2, 0] : List Nat).Nodup by decide) ?_
    refine (ih hp1 (as.eraseIdx (k + j)) (es.eraseIdx (k + j)) (by rw [List.length_eraseIdx_of_lt (by omega)]; omega) (k1.ob hs0 (by decide) (ob_ne hs0 (by decide) hL)) k2 (hE.erase.fr k1)).mono (fun o h => ?_)
    obtain ⟨hp', h1, h2, h3, h4⟩ := h
    exact ⟨hp', h1, FrX.tr k1 h2 (fun x hx => Or.inl hx), by rw [tk_erase (by omega) (by omega)] at h3; exact h3, h4.trans k3⟩
theorem comp_loop {S : List Int32} {s l t : Nat} {tf : List Value} {sr : Int32} : ∀ (j i k : Nat) (hp : List XC) (as : List Nat) (es : List En) {nc ns : Nat}, i + j = es.length → k ≤ i → hp[s]? = some (.inr (10, [.ref l])) → hp[t]? = some (.inr (13, .int sr :: tf)) → hLs hp l as → hEs hp as es →
    At S 3 173 4 [(3, .int (Int32.ofNat i)), (2, .int (Int32.ofNat k)), (0, .ref s), (1, .ref t)] [] hp nc ns (fun o => ∃ hp', o = .inl (none, hp', nc, ns) ∧ FrX (fun x => x = l) hp hp' ∧ hSh hp' l (es.take k ++ (es.drop i).filter (fun e => !decide (e.1 = sr))) ∧ capL hp' l = capL hp l) := by
  intro j
  induction j with
  | zero =>
    intro i k hp as es nc ns hi hki hs0 ht hL hE
    obtain ⟨lf, hl0⟩ := hL.ob
    have hbn := hL.len
    have hle := hE.1
    refine At.go (q := xm173) rfl 2 (pc' := 6) (L' := [(3, .int (Int32.ofNat i)), (2, .int (Int32.ofNat k)), (0, .ref s), (1, .ref t)]) (st' := [.ref s, .int (Int32.ofNat i)]) rfl ?_
    refine At.gf rfl (by decide) hs0 rfl ?_
    refine At.clp (as := [.ref l]) (rest := [.int (Int32.ofNat i)]) rfl (by decide) rfl (Nat.le_of_ble_eq_true rfl) (Nat.le_of_ble_eq_true rfl) (xrck_o (by decide) (by decide) hl0 (by decide)) (Nat.le_of_ble_eq_true rfl) (m_size hL) ?_
    refine At.ic2 (tgt := 57) rfl rfl (fun _ => ?_) (fun h => absurd ((iN_le (by omega) (by omega)).mpr (show as.length ≤ i by omega)) (of_decide_eq_false h))
    refine At.go (q := xm173) rfl 1 (pc' := 58) (L' := [(3, .int (Int32.ofNat i)), (2, .int (Int32.ofNat k)), (0, .ref s), (1, .ref t)]) (st' := [.ref s]) rfl ?_
    refine At.gf rfl (by decide) hs0 rfl ?_
    refine At.clp (as := [.ref l]) (rest := []) rfl (by decide) rfl (Nat.le_of_ble_eq_true rfl) (Nat.le_of_ble_eq_true rfl) (xrck_o (by decide) (by decide) hl0 (by decide)) (Nat.le_of_ble_eq_true rfl) (m_size hL) ?_
    refine At.go (q := xm173) rfl 3 (pc' := 67) (L' := [(3, .int ((Int32.ofNat as.length) - 1)), (2, .int (Int32.ofNat k)), (0, .ref s), (1, .ref t)]) (st' := []) rfl ?_
    obtain ⟨j9, hj9⟩ : ∃ j9, as.length = k + j9 := ⟨as.length - k, by omega⟩
    rw [hj9]
    refine At.wk (L' := [(3, .int (Int32.ofNat (k + j9) - 1)), (2, .int (Int32.ofNat k)), (0, .ref s)]) (List.forall_mem_cons.mpr ⟨List.mem_of_getElem? (i := 0) rfl, (List.forall_mem_cons.mpr ⟨List.mem_of_getElem? (i := 1) rfl, (List.forall_mem_cons.mpr ⟨List.mem_of_getElem? (i := 2) rfl, (fun _ h => (List.not_mem_nil h).elim)⟩)⟩)⟩) (show ([3, 2, 0, 1] : List Nat).Nodup by decide) ?_
    refine (rem_loop j9 hp as es (by omega) hs0 hL hE).mono (fun o h => ?_)
    obtain ⟨hp', h1, h2, h3, h4⟩ := h
    exact ⟨hp', h1, h2, by rw [List.drop_eq_nil_of_le (by omega)]; exact (List.append_nil _).symm ▸ h3, h4⟩
  | succ j ih =>
    intro i k hp as es nc ns hi hki hs0 ht hL hE
    obtain ⟨lf, hl0⟩ := hL.ob
    have hbn := hL.len
    have hle := hE.1
    obtain ⟨e, he⟩ : ∃ e, es[i]? = some e := ⟨_, List.getElem?_eq_getElem (by omega)⟩
    obtain ⟨x, hx0, hX⟩ := hE.get he
    have hX9 := hX
    obtain ⟨c, fs, hx, -, -, hxt⟩ := hX9
    obtain ⟨w, hw0⟩ : ∃ w, as[k]? = some w := ⟨_, List.getElem?_eq_getElem (by omega)⟩
    refine At.go (q := xm173) rfl 2 (pc' := 6) (L' := [(3, .int (Int32.ofNat i)), (2, .int (Int32.ofNat k)), (0, .ref s), (1, .ref t)]) (st' := [.ref s, .int (Int32.ofNat i)]) rfl ?_
    refine At.gf rfl (by decide) hs0 rfl ?_
    refine At.clp (as := [.ref l]) (rest := [.int (Int32.ofNat i)]) rfl (by decide) rfl (Nat.le_of_ble_eq_true rfl) (Nat.le_of_ble_eq_true rfl) (xrck_o (by decide) (by decide) hl0 (by decide)) (Nat.le_of_ble_eq_true rfl) (m_size hL) ?_
    refine At.ic2 (tgt := 57) rfl rfl (fun h => absurd ((iN_le (by omega) (by omega)).mp (of_decide_eq_true h)) (by omega)) (fun _ => ?_)
    refine At.go (q := xm173) rfl 1 (pc' := 16) (L' := [(3, .int (Int32.ofNat i)), (2, .int (Int32.ofNat k)), (0, .ref s), (1, .ref t)]) (st' := [.ref s]) rfl ?_
    refine At.gf rfl (by decide) hs0 rfl ?_
    refine At.go (q := xm173) rfl 1 (pc' := 20) (L' := [(3, .int (Int32.ofNat i)), (2, .int (Int32.ofNat k)), (0, .ref s), (1, .ref t)]) (st' := [.int (Int32.ofNat i), .ref l]) rfl ?_
    refine At.clp (as := [.ref l, .int (Int32.ofNat i)]) (rest := []) rfl (by decide) rfl (Nat.le_of_ble_eq_true rfl) (Nat.le_of_ble_eq_true rfl) (xrck_o (by decide) (by decide) hl0 (by decide)) (Nat.le_of_ble_eq_true rfl) (m_get hL hx0) ?_
    refine At.ca rfl hx (by decide) ?_
    refine At.go (q := xm173) rfl 3 (pc' := 31) (L' := [(4, .ref x), (3, .int (Int32.ofNat i)), (2, .int (Int32.ofNat k)), (0, .ref s), (1, .ref t)]) (st' := [.ref t, .ref x]) rfl ?_
    refine At.clp (as := [.ref x, .ref t]) (rest := []) rfl (by decide) rfl (Nat.le_of_ble_eq_true rfl) (Nat.le_of_ble_eq_true rfl) (xrck_o (by decide) (by decide) hx (by decide)) (Nat.le_of_ble_eq_true rfl) (m_isOf hx hxt ht) ?_
    refine At.ic1 (tgt := 51) rfl rfl (fun h34 => ?_) (fun h34 => ?_)
    · refine At.go (q := xm173) rfl 2 (pc' := 4) (L' := [(3, .int ((Int32.ofNat i) + 1)), (4, .ref x), (2, .int (Int32.ofNat k)), (0, .ref s), (1, .ref t)]) (st' := []) rfl ?_
      rw [iN_s]
      refine At.wk (L' := [(3, .int (Int32.ofNat (i + 1))), (2, .int (Int32.ofNat k)), (0, .ref s), (1, .ref t)]) (List.forall_mem_cons.mpr ⟨List.mem_of_getElem? (i := 0) rfl, (List.forall_mem_cons.mpr ⟨List.mem_of_getElem? (i := 2) rfl, (List.forall_mem_cons.mpr ⟨List.mem_of_getElem? (i := 3) rfl, (List.forall_mem_cons.mpr ⟨List.mem_of_getElem? (i := 4) rfl, (fun _ h => (List.not_mem_nil h).elim)⟩)⟩)⟩)⟩) (show ([3, 4, 2, 0, 1] : List Nat).Nodup by decide) ?_
      have hf : (es.drop i).filter (fun e => !decide (e.1 = sr)) = (es.drop (i + 1)).filter (fun e => !decide (e.1 = sr)) := by
        rw [xdrop_q (i := i), he, Option.toList_some, List.singleton_append, List.filter_cons, if_neg (by rw [bI1 (of_decide_eq_true h34)]; decide)]
      rw [hf]
      exact ih (i + 1) k hp as es (by omega) (by omega) hs0 ht hL hE
    · refine At.go (q := xm173) rfl 1 (pc' := 38) (L' := [(4, .ref x), (3, .int (Int32.ofNat i)), (2, .int (Int32.ofNat k)), (0, .ref s), (1, .ref t)]) (st' := [.ref s]) rfl ?_
      refine At.gf rfl (by decide) hs0 rfl ?_
      refine At.go (q := xm173) rfl 2 (pc' := 44) (L' := [(4, .ref x), (3, .int (Int32.ofNat i)), (2, .int (Int32.ofNat k)), (0, .ref s), (1, .ref t)]) (st' := [.ref x, .int (Int32.ofNat k), .ref l]) rfl ?_
      refine At.clm (as := [.ref l, .int (Int32.ofNat k), .ref x]) (rest := []) rfl (by decide) rfl (Nat.le_of_ble_eq_true rfl) (Nat.le_of_ble_eq_true rfl) (xrck_o (by decide) (by decide) hl0 (by decide)) (Nat.le_of_ble_eq_true rfl) (m_set hL hX.ob hw0) (fun v hp1 c1 s1 hv => ?_)
      obtain ⟨rfl, k1, k2, rfl, rfl, k3⟩ := hv
      refine At.go (q := xm173) rfl 4 (pc' := 4) (L' := [(3, .int ((Int32.ofNat i) + 1)), (2, .int ((Int32.ofNat k) + 1)), (4, .ref x), (0, .ref s), (1, .ref t)]) (st' := []) rfl ?_
      rw [iN_s, iN_s]
      refine At.wk (L' := [(3, .int (Int32.ofNat (i + 1))), (2, .int (Int32.ofNat (k + 1))), (0, .ref s), (1, .ref t)]) (List.forall_mem_cons.mpr ⟨List.mem_of_getElem? (i := 0) rfl, (List.forall_mem_cons.mpr ⟨List.mem_of_getElem? (i := 1) rfl, (List.forall_mem_cons.mpr ⟨List.mem_of_getElem? (i := 3) rfl, (List.forall_mem_cons.mpr ⟨List.mem_of_getElem? (i := 4) rfl, (fun _ h => (List.not_mem_nil h).elim)⟩)⟩)⟩)⟩) (show ([3, 2, 4, 0, 1] : List Nat).Nodup by decide) ?_
      have hf : es.take k ++ (es.drop i).filter (fun e => !decide (e.1 = sr)) = (es.set k e).take (k + 1) ++ ((es.set k e).drop (i + 1)).filter (fun e => !decide (e.1 = sr)) := by
        rw [xdrop_q (i := i), he, Option.toList_some, List.singleton_append, List.filter_cons, if_pos (by rw [bI0 (xne_f h34)]; rfl), tk_set (by omega), List.drop_set_of_lt (by omega), List.append_assoc]
        rfl
      rw [hf]
      refine (ih (i + 1) (k + 1) hp1 (as.set k x) (es.set k e) (by rw [List.length_set]; omega) (by omega) (k1.ob hs0 (by decide) (ob_ne hs0 (by decide) hL)) (k1.ob ht (by decide) (ob_ne ht (by decide) hL)) k2 ((hE.set hX).fr k1)).mono (fun o h => ?_)
      obtain ⟨hp', h1, h2, h3, h4⟩ := h
      exact ⟨hp', h1, FrX.tr k1 h2 (fun x hx => Or.inl hx), h3, h4.trans k3⟩
/-- drop -/
theorem m_drop {S : List Int32} {hp : List XC} {s l t : Nat} {as : List Nat} {es : List En} {tf : List Value} {sr : Int32} (hs0 : hp[s]? = some (.inr (10, [.ref l]))) (ht : hp[t]? = some (.inr (13, .int sr :: tf))) (hL : hLs hp l as) (hE : hEs hp as es) : Me S 3 173 [.ref s, .ref t] hp (fun v hp' c s => v = none ∧ RSh hp l (dropE es sr) hp' c s) := by
  refine At.go (q := xm173) rfl 4 (pc' := 4) (L' := [(3, .int 0), (2, .int 0), (0, .ref s), (1, .ref t)]) (st' := []) rfl ?_
  refine (comp_loop es.length 0 0 hp as es (by omega) (Nat.le_refl _) hs0 ht hL hE).mono (fun o h => ?_)
  obtain ⟨hp', h1, h2, h3, h4⟩ := h
  exact ⟨_, _, _, _, h1, rfl, h2, h3, by omega, by omega, by rw [h4]; exact Nat.le_max_left _ _⟩
