/-! shelves: fill, count, countBelow (written by wip/p27/c65.py) -/
/-- an object that no list is stays, if it is not of P -/
theorem FrX.ob {P : Nat → Prop} {hp hp' : List XC} {a ci : Nat} {fs : List Value} (f : FrX P hp hp') (h : hp[a]? = some (.inr (ci, fs))) (hc : ci ≠ 2) (hn : ¬ P a) : hp'[a]? = some (.inr (ci, fs)) := f.2.2.1 _ _ h (decide_eq_false hc) (Or.inl hn)
theorem FrX.ar {P : Nat → Prop} {hp hp' : List XC} {a t : Nat} {es : List Value} (f : FrX P hp hp') (h : hp[a]? = some (.inl (t, es))) (hc : t ≠ 7) (hn : ¬ P a) : hp'[a]? = some (.inl (t, es)) := f.2.2.1 _ _ h (decide_eq_false hc) (Or.inl hn)
theorem ob_ne {hp : List XC} {a l ci : Nat} {fs : List Value} {as : List Nat} (h : hp[a]? = some (.inr (ci, fs))) (hc : ci ≠ 2) (hL : hLs hp l as) : ¬ a = l := fun e => by
  obtain ⟨lf, hl⟩ := hL.ob
  exact xn_cl h hl hc e
/-- fill -/
theorem m_fill {S : List Int32} {hp : List XC} {s r l k : Nat} {as bs : List Nat} {fs : List En} (hs0 : hp[s]? = some (.inr (10, [.ref l]))) (hr0 : hp[r]? = some (.inr (10, [.ref k]))) (hne : l ≠ k) (hO : Own hp) (hL : hLs hp l as) (hK : hLs hp k bs) (hF : hEs hp bs fs) (hn : bs.length ≤ 60000) : Me S 8 177 [.ref s, .ref r] hp (fun v hp' c s => v = none ∧ RSh hp l fs hp' c s) := by
  obtain ⟨lf, hl0⟩ := hL.ob
  refine At.go (q := xm177) rfl 1 (pc' := 1) (L' := [(0, .ref s), (1, .ref r)]) (st' := [.ref s]) rfl ?_
  refine At.gf rfl (by decide) hs0 rfl ?_
  refine At.clm (as := [.ref l]) (rest := []) rfl (by decide) rfl (Nat.le_of_ble_eq_true rfl) (Nat.le_of_ble_eq_true rfl) (xrck_o (by decide) (by decide) hl0 (by decide)) (Nat.le_of_ble_eq_true rfl) (m_clear hL) (fun v hp1 c s1 hv => ?_)
  obtain ⟨rfl, k1, k2, rfl, rfl, k3⟩ := hv
  have hs1 := k1.ob hs0 (by decide) (ob_ne hs0 (by decide) hL)
  have hr1 := k1.ob hr0 (by decide) (ob_ne hr0 (by decide) hL)
  refine At.go (q := xm177) rfl 1 (pc' := 8) (L' := [(0, .ref s), (1, .ref r)]) (st' := [.ref s]) rfl ?_
  refine At.gf rfl (by decide) hs1 rfl ?_
  refine At.go (q := xm177) rfl 1 (pc' := 12) (L' := [(0, .ref s), (1, .ref r)]) (st' := [.ref r, .ref l]) rfl ?_
  refine At.gf rfl (by decide) hr1 rfl ?_
  refine At.clm (as := [.ref l, .ref k]) (rest := []) rfl (by decide) rfl (Nat.le_of_ble_eq_true rfl) (Nat.le_of_ble_eq_true rfl) rfl (Nat.le_of_ble_eq_true rfl) (m_addAll hne (k1.2.1 hO) k2 (k1.ls (fun h => hne h.symm) hO hK) (es := []) ⟨rfl, fun i a e h => by cases h⟩ (hF.fr k1) (by simpa using hn)) (fun v hp2 c s1 hv => ?_)
  obtain ⟨rfl, q1, q2, q3, q4, q5⟩ := hv
  exact At.rt rfl rfl ⟨_, _, _, _, rfl, rfl, FrX.tr k1 q1 (fun x hx => Or.inl hx), q2, by omega, by omega, by rw [← k3]; exact q5⟩
theorem cnt_s {es : List En} {i : Nat} {e : En} (f : En → Bool) (he : es[i]? = some e) : (es.take (i + 1)).countP f = (es.take i).countP f + (if f e = true then 1 else 0) := by
  rw [List.take_succ, he, List.countP_append]
  show _ + List.countP f [e] = _
  rw [List.countP_singleton]
theorem cnt_le {es : List En} {i : Nat} (f : En → Bool) : (es.take i).countP f ≤ es.length := Nat.le_trans List.countP_le_length (by rw [List.length_take]; exact Nat.min_le_right _ _)
def cntE (es : List En) (sr lb : Int32) : Nat := es.countP (fun e => decide (e.2.2.1 = lb) && decide (e.1 = sr))

theorem ite0 {b : Bool} (h : (if b = true then (1 : Int32) else 0) = 0) : b = false := by
  cases b with
  | false => rfl
  | true => exact absurd h (by decide)
theorem ite1 {b : Bool} (h : ¬ (if b = true then (1 : Int32) else 0) = 0) : b = true := by
  cases b with
  | false => exact absurd rfl h
  | true => rfl
theorem count_loop {S : List Int32} {hp : List XC} {s l nc ns : Nat} {as : List Nat} {es : List En} {t : Nat} {tf : List Value} {sr lb : Int32} (ht : hp[t]? = some (.inr (13, .int sr :: tf))) (hs0 : hp[s]? = some (.inr (10, [.ref l]))) (hL : hLs hp l as) (hE : hEs hp as es) : ∀ (j i : Nat), i + j = es.length →
    At S 3 185 5 [(4, .int (Int32.ofNat i)), (3, .int (Int32.ofNat ((es.take i).countP (fun e => decide (e.2.2.1 = lb) && decide (e.1 = sr))))), (0, .ref s), (1, .ref t), (2, .int lb)] [] hp nc ns (fun o => o = .inl (some (.int (Int32.ofNat (es.countP (fun e => decide (e.2.2.1 = lb) && decide (e.1 = sr))))), hp, nc, ns)) := by
  obtain ⟨lf, hl0⟩ := hL.ob
  have hbn := hL.len
  have hle := hE.1
  intro j
  induction j with
  | zero =>
    intro i hi
    refine At.go (q := xm185) rfl 2 (pc' := 8) (L' := [(4, .int (Int32.ofNat i)), (3, .int (Int32.ofNat ((es.take i).countP (fun e => decide (e.2.2.1 = lb) && decide (e.1 = sr))))), (0, .ref s), (1, .ref t), (2, .int lb)]) (st' := [.ref s, .int (Int32.ofNat i)]) rfl ?_
    refine At.gf rfl (by decide) hs0 rfl ?_
    refine At.clp (as := [.ref l]) (rest := [.int (Int32.ofNat i)]) rfl (by decide) rfl (Nat.le_of_ble_eq_true rfl) (Nat.le_of_ble_eq_true rfl) (xrck_o (by decide) (by decide) hl0 (by decide)) (Nat.le_of_ble_eq_true rfl) (m_size hL) ?_
    refine At.ic2 (tgt := 64) rfl rfl (fun _ => ?_) (fun h => absurd ((iN_le (by omega) (by omega)).mpr (show as.length ≤ i by omega)) (of_decide_eq_false h))
    refine At.go (q := xm185) rfl 1 (pc' := 65) (L' := [(4, .int (Int32.ofNat i)), (3, .int (Int32.ofNat ((es.take i).countP (fun e => decide (e.2.2.1 = lb) && decide (e.1 = sr))))), (0, .ref s), (1, .ref t), (2, .int lb)]) (st' := [.int (Int32.ofNat ((es.take i).countP (fun e => decide (e.2.2.1 = lb) && decide (e.1 = sr))))]) rfl ?_
    exact At.rt rfl (xret_i rfl) (by rw [List.take_of_length_le (by omega)])
  | succ j ih =>
    intro i hi
    obtain ⟨e, he⟩ : ∃ e, es[i]? = some e := ⟨_, List.getElem?_eq_getElem (by omega)⟩
    obtain ⟨x, hx0, h9⟩ := hE.get he
    obtain ⟨c, fs, hx, hxc, hxl, hxt⟩ := h9
    have hcs := cnt_s (fun e => decide (e.2.2.1 = lb) && decide (e.1 = sr)) he
    have hcl := cnt_le (es := es) (i := i) (fun e => decide (e.2.2.1 = lb) && decide (e.1 = sr))
    refine At.go (q := xm185) rfl 2 (pc' := 8) (L' := [(4, .int (Int32.ofNat i)), (3, .int (Int32.ofNat ((es.take i).countP (fun e => decide (e.2.2.1 = lb) && decide (e.1 = sr))))), (0, .ref s), (1, .ref t), (2, .int lb)]) (st' := [.ref s, .int (Int32.ofNat i)]) rfl ?_
    refine At.gf rfl (by decide) hs0 rfl ?_
    refine At.clp (as := [.ref l]) (rest := [.int (Int32.ofNat i)]) rfl (by decide) rfl (Nat.le_of_ble_eq_true rfl) (Nat.le_of_ble_eq_true rfl) (xrck_o (by decide) (by decide) hl0 (by decide)) (Nat.le_of_ble_eq_true rfl) (m_size hL) ?_
    refine At.ic2 (tgt := 64) rfl rfl (fun h => absurd ((iN_le (by omega) (by omega)).mp (of_decide_eq_true h)) (by omega)) (fun _ => ?_)
    refine At.go (q := xm185) rfl 1 (pc' := 18) (L' := [(4, .int (Int32.ofNat i)), (3, .int (Int32.ofNat ((es.take i).countP (fun e => decide (e.2.2.1 = lb) && decide (e.1 = sr))))), (0, .ref s), (1, .ref t), (2, .int lb)]) (st' := [.ref s]) rfl ?_
    refine At.gf rfl (by decide) hs0 rfl ?_
    refine At.go (q := xm185) rfl 1 (pc' := 23) (L' := [(4, .int (Int32.ofNat i)), (3, .int (Int32.ofNat ((es.take i).countP (fun e => decide (e.2.2.1 = lb) && decide (e.1 = sr))))), (0, .ref s), (1, .ref t), (2, .int lb)]) (st' := [.int (Int32.ofNat i), .ref l]) rfl ?_
    refine At.clp (as := [.ref l, .int (Int32.ofNat i)]) (rest := []) rfl (by decide) rfl (Nat.le_of_ble_eq_true rfl) (Nat.le_of_ble_eq_true rfl) (xrck_o (by decide) (by decide) hl0 (by decide)) (Nat.le_of_ble_eq_true rfl) (m_get hL hx0) ?_
    refine At.ca rfl hx (by decide) ?_
    refine At.gf rfl (by decide) hx rfl ?_
    refine At.go (q := xm185) rfl 1 (pc' := 33) (L' := [(4, .int (Int32.ofNat i)), (3, .int (Int32.ofNat ((es.take i).countP (fun e => decide (e.2.2.1 = lb) && decide (e.1 = sr))))), (0, .ref s), (1, .ref t), (2, .int lb)]) (st' := [.int lb, .int e.2.2.1]) rfl ?_
    refine At.ic2 (tgt := 58) rfl rfl (fun h33 => ?_) (fun h33 => ?_)
    · refine At.go (q := xm185) rfl 2 (pc' := 5) (L' := [(4, .int ((Int32.ofNat i) + 1)), (3, .int (Int32.ofNat ((es.take i).countP (fun e => decide (e.2.2.1 = lb) && decide (e.1 = sr))))), (0, .ref s), (1, .ref t), (2, .int lb)]) (st' := []) rfl ?_
      have hq : (decide (e.2.2.1 = lb) && decide (e.1 = sr)) = false := by rw [decide_eq_false (of_decide_eq_true h33)]; rfl
      rw [if_neg (by rw [hq]; decide)] at hcs
      rw [iN_s]
      have hcz : (es.take i).countP (fun e => decide (e.2.2.1 = lb) && decide (e.1 = sr)) = (es.take (i + 1)).countP (fun e => decide (e.2.2.1 = lb) && decide (e.1 = sr)) := by omega
      rw [hcz]
      refine At.wk (L' := [(4, .int (Int32.ofNat (i + 1))), (3, .int (Int32.ofNat ((es.take (i + 1)).countP (fun e => decide (e.2.2.1 = lb) && decide (e.1 = sr))))), (0, .ref s), (1, .ref t), (2, .int lb)]) (List.forall_mem_cons.mpr ⟨List.mem_of_getElem? (i := 0) rfl, (List.forall_mem_cons.mpr ⟨List.mem_of_getElem? (i := 1) rfl, (List.forall_mem_cons.mpr ⟨List.mem_of_getElem? (i := 2) rfl, (List.forall_mem_cons.mpr ⟨List.mem_of_getElem? (i := 3) rfl, (List.forall_mem_cons.mpr ⟨List.mem_of_getElem? (i := 4) rfl, (fun _ h => (List.not_mem_nil h).elim)⟩)⟩)⟩)⟩)⟩) (show ([4, 3, 0, 1, 2] : List Nat).Nodup by decide) ?_
      exact ih (i + 1) (by omega)
    · refine At.go (q := xm185) rfl 1 (pc' := 37) (L' := [(4, .int (Int32.ofNat i)), (3, .int (Int32.ofNat ((es.take i).countP (fun e => decide (e.2.2.1 = lb) && decide (e.1 = sr))))), (0, .ref s), (1, .ref t), (2, .int lb)]) (st' := [.ref s]) rfl ?_
      refine At.gf rfl (by decide) hs0 rfl ?_
      refine At.go (q := xm185) rfl 1 (pc' := 42) (L' := [(4, .int (Int32.ofNat i)), (3, .int (Int32.ofNat ((es.take i).countP (fun e => decide (e.2.2.1 = lb) && decide (e.1 = sr))))), (0, .ref s), (1, .ref t), (2, .int lb)]) (st' := [.int (Int32.ofNat i), .ref l]) rfl ?_
      refine At.clp (as := [.ref l, .int (Int32.ofNat i)]) (rest := []) rfl (by decide) rfl (Nat.le_of_ble_eq_true rfl) (Nat.le_of_ble_eq_true rfl) (xrck_o (by decide) (by decide) hl0 (by decide)) (Nat.le_of_ble_eq_true rfl) (m_get hL hx0) ?_
      refine At.ca rfl hx (by decide) ?_
      refine At.go (q := xm185) rfl 1 (pc' := 49) (L' := [(4, .int (Int32.ofNat i)), (3, .int (Int32.ofNat ((es.take i).countP (fun e => decide (e.2.2.1 = lb) && decide (e.1 = sr))))), (0, .ref s), (1, .ref t), (2, .int lb)]) (st' := [.ref t, .ref x]) rfl ?_
      refine At.clp (as := [.ref x, .ref t]) (rest := []) rfl (by decide) rfl (Nat.le_of_ble_eq_true rfl) (Nat.le_of_ble_eq_true rfl) (xrck_o (by decide) (by decide) hx (by decide)) (Nat.le_of_ble_eq_true rfl) (m_isOf hx hxt ht) ?_
      refine At.ic1 (tgt := 58) rfl rfl (fun h52 => ?_) (fun h52 => ?_)
      · refine At.go (q := xm185) rfl 2 (pc' := 5) (L' := [(4, .int ((Int32.ofNat i) + 1)), (3, .int (Int32.ofNat ((es.take i).countP (fun e => decide (e.2.2.1 = lb) && decide (e.1 = sr))))), (0, .ref s), (1, .ref t), (2, .int lb)]) (st' := []) rfl ?_
        have hq : (decide (e.2.2.1 = lb) && decide (e.1 = sr)) = false := by rw [ite0 (of_decide_eq_true h52), Bool.and_false]
        rw [if_neg (by rw [hq]; decide)] at hcs
        rw [iN_s]
        have hcz : (es.take i).countP (fun e => decide (e.2.2.1 = lb) && decide (e.1 = sr)) = (es.take (i + 1)).countP (fun e => decide (e.2.2.1 = lb) && decide (e.1 = sr)) := by omega
        rw [hcz]
        refine At.wk (L' := [(4, .int (Int32.ofNat (i + 1))), (3, .int (Int32.ofNat ((es.take (i + 1)).countP (fun e => decide (e.2.2.1 = lb) && decide (e.1 = sr))))), (0, .ref s), (1, .ref t), (2, .int lb)]) (List.forall_mem_cons.mpr ⟨List.mem_of_getElem? (i := 0) rfl, (List.forall_mem_cons.mpr ⟨List.mem_of_getElem? (i := 1) rfl, (List.forall_mem_cons.mpr ⟨List.mem_of_getElem? (i := 2) rfl, (List.forall_mem_cons.mpr ⟨List.mem_of_getElem? (i := 3) rfl, (List.forall_mem_cons.mpr ⟨List.mem_of_getElem? (i := 4) rfl, (fun _ h => (List.not_mem_nil h).elim)⟩)⟩)⟩)⟩)⟩) (show ([4, 3, 0, 1, 2] : List Nat).Nodup by decide) ?_
        exact ih (i + 1) (by omega)
      · refine At.go (q := xm185) rfl 3 (pc' := 5) (L' := [(4, .int ((Int32.ofNat i) + 1)), (3, .int ((Int32.ofNat ((es.take i).countP (fun e => decide (e.2.2.1 = lb) && decide (e.1 = sr)))) + 1)), (0, .ref s), (1, .ref t), (2, .int lb)]) (st' := []) rfl ?_
        have hq : (decide (e.2.2.1 = lb) && decide (e.1 = sr)) = true := by rw [ite1 (of_decide_eq_false h52), decide_eq_true (xne_f h33)]; rfl
        rw [if_pos hq] at hcs
        rw [iN_s, iN_s, ← hcs]
        refine At.wk (L' := [(4, .int (Int32.ofNat (i + 1))), (3, .int (Int32.ofNat ((es.take (i + 1)).countP (fun e => decide (e.2.2.1 = lb) && decide (e.1 = sr))))), (0, .ref s), (1, .ref t), (2, .int lb)]) (List.forall_mem_cons.mpr ⟨List.mem_of_getElem? (i := 0) rfl, (List.forall_mem_cons.mpr ⟨List.mem_of_getElem? (i := 1) rfl, (List.forall_mem_cons.mpr ⟨List.mem_of_getElem? (i := 2) rfl, (List.forall_mem_cons.mpr ⟨List.mem_of_getElem? (i := 3) rfl, (List.forall_mem_cons.mpr ⟨List.mem_of_getElem? (i := 4) rfl, (fun _ h => (List.not_mem_nil h).elim)⟩)⟩)⟩)⟩)⟩) (show ([4, 3, 0, 1, 2] : List Nat).Nodup by decide) ?_
        exact ih (i + 1) (by omega)
/-- count -/
theorem m_count {S : List Int32} {hp : List XC} {s l t : Nat} {as : List Nat} {es : List En} {tf : List Value} {sr lb : Int32} (ht : hp[t]? = some (.inr (13, .int sr :: tf))) (hs0 : hp[s]? = some (.inr (10, [.ref l]))) (hL : hLs hp l as) (hE : hEs hp as es) : Pu S 3 185 [.ref s, .ref t, .int lb] hp (.int (Int32.ofNat (cntE es sr lb))) := by
  refine At.go (q := xm185) rfl 4 (pc' := 5) (L' := [(4, .int 0), (3, .int 0), (0, .ref s), (1, .ref t), (2, .int lb)]) (st' := []) rfl ?_
  exact count_loop ht hs0 hL hE es.length 0 (by omega)
def bI (b : Bool) : Int32 := if b = true then 1 else 0
def fCB (lb : Int32) (vo : Bool) (e : En) : Bool := isB e.2.2.1 lb && (e.2.2.2.1 || !vo)
def cntB (es : List En) (lb : Int32) (vo : Bool) : Nat := es.countP (fCB lb vo)
theorem bI0 {b : Bool} (h : bI b = 0) : b = false := ite0 h
theorem bI1 {b : Bool} (h : ¬ bI b = 0) : b = true := ite1 h
theorem countB_loop {S : List Int32} {hp : List XC} {s l nc ns : Nat} {as : List Nat} {es : List En} {lb : Int32} {vo : Bool} (hs0 : hp[s]? = some (.inr (10, [.ref l]))) (hL : hLs hp l as) (hE : hEs hp as es) : ∀ (j i : Nat), i + j = es.length →
    At S 3 248 5 [(4, .int (Int32.ofNat i)), (3, .int (Int32.ofNat ((es.take i).countP (fCB lb vo)))), (0, .ref s), (1, .int lb), (2, .int (bI vo))] [] hp nc ns (fun o => o = .inl (some (.int (Int32.ofNat (es.countP (fCB lb vo)))), hp, nc, ns)) := by
  obtain ⟨lf, hl0⟩ := hL.ob
  have hbn := hL.len
  have hle := hE.1
  intro j
  induction j with
  | zero =>
    intro i hi
    refine At.go (q := xm248) rfl 2 (pc' := 8) (L' := [(4, .int (Int32.ofNat i)), (3, .int (Int32.ofNat ((es.take i).countP (fCB lb vo)))), (0, .ref s), (1, .int lb), (2, .int (bI vo))]) (st' := [.ref s, .int (Int32.ofNat i)]) rfl ?_
    refine At.gf rfl (by decide) hs0 rfl ?_
    refine At.clp (as := [.ref l]) (rest := [.int (Int32.ofNat i)]) rfl (by decide) rfl (Nat.le_of_ble_eq_true rfl) (Nat.le_of_ble_eq_true rfl) (xrck_o (by decide) (by decide) hl0 (by decide)) (Nat.le_of_ble_eq_true rfl) (m_size hL) ?_
    refine At.ic2 (tgt := 64) rfl rfl (fun _ => ?_) (fun h => absurd ((iN_le (by omega) (by omega)).mpr (show as.length ≤ i by omega)) (of_decide_eq_false h))
    refine At.go (q := xm248) rfl 1 (pc' := 65) (L' := [(4, .int (Int32.ofNat i)), (3, .int (Int32.ofNat ((es.take i).countP (fCB lb vo)))), (0, .ref s), (1, .int lb), (2, .int (bI vo))]) (st' := [.int (Int32.ofNat ((es.take i).countP (fCB lb vo)))]) rfl ?_
    exact At.rt rfl (xret_i rfl) (by rw [List.take_of_length_le (by omega)])
  | succ j ih =>
    intro i hi
    obtain ⟨e, he⟩ : ∃ e, es[i]? = some e := ⟨_, List.getElem?_eq_getElem (by omega)⟩
    obtain ⟨x, hx0, h9⟩ := hE.get he
    obtain ⟨c, fs, hx, hxc, hxl, hxt⟩ := h9
    have hcs := cnt_s (fCB lb vo) he
    have hcl := cnt_le (es := es) (i := i) (fCB lb vo)
    refine At.go (q := xm248) rfl 2 (pc' := 8) (L' := [(4, .int (Int32.ofNat i)), (3, .int (Int32.ofNat ((es.take i).countP (fCB lb vo)))), (0, .ref s), (1, .int lb), (2, .int (bI vo))]) (st' := [.ref s, .int (Int32.ofNat i)]) rfl ?_
    refine At.gf rfl (by decide) hs0 rfl ?_
    refine At.clp (as := [.ref l]) (rest := [.int (Int32.ofNat i)]) rfl (by decide) rfl (Nat.le_of_ble_eq_true rfl) (Nat.le_of_ble_eq_true rfl) (xrck_o (by decide) (by decide) hl0 (by decide)) (Nat.le_of_ble_eq_true rfl) (m_size hL) ?_
    refine At.ic2 (tgt := 64) rfl rfl (fun h => absurd ((iN_le (by omega) (by omega)).mp (of_decide_eq_true h)) (by omega)) (fun _ => ?_)
    refine At.go (q := xm248) rfl 1 (pc' := 18) (L' := [(4, .int (Int32.ofNat i)), (3, .int (Int32.ofNat ((es.take i).countP (fCB lb vo)))), (0, .ref s), (1, .int lb), (2, .int (bI vo))]) (st' := [.ref s]) rfl ?_
    refine At.gf rfl (by decide) hs0 rfl ?_
    refine At.go (q := xm248) rfl 1 (pc' := 23) (L' := [(4, .int (Int32.ofNat i)), (3, .int (Int32.ofNat ((es.take i).countP (fCB lb vo)))), (0, .ref s), (1, .int lb), (2, .int (bI vo))]) (st' := [.int (Int32.ofNat i), .ref l]) rfl ?_
    refine At.clp (as := [.ref l, .int (Int32.ofNat i)]) (rest := []) rfl (by decide) rfl (Nat.le_of_ble_eq_true rfl) (Nat.le_of_ble_eq_true rfl) (xrck_o (by decide) (by decide) hl0 (by decide)) (Nat.le_of_ble_eq_true rfl) (m_get hL hx0) ?_
    refine At.ca rfl hx (by decide) ?_
    refine At.go (q := xm248) rfl 2 (pc' := 33) (L' := [(5, .ref x), (4, .int (Int32.ofNat i)), (3, .int (Int32.ofNat ((es.take i).countP (fCB lb vo)))), (0, .ref s), (1, .int lb), (2, .int (bI vo))]) (st' := [.ref x]) rfl ?_
    refine At.gf rfl (by decide) hx rfl ?_
    refine At.go (q := xm248) rfl 1 (pc' := 37) (L' := [(5, .ref x), (4, .int (Int32.ofNat i)), (3, .int (Int32.ofNat ((es.take i).countP (fCB lb vo)))), (0, .ref s), (1, .int lb), (2, .int (bI vo))]) (st' := [.int lb, .int e.2.2.1]) rfl ?_
    refine At.clp (as := [.int e.2.2.1, .int lb]) (rest := []) rfl (by decide) rfl (Nat.le_of_ble_eq_true rfl) (Nat.le_of_ble_eq_true rfl) rfl (Nat.le_of_ble_eq_true rfl) (m_isBelow e.2.2.1 lb) ?_
    refine At.ic1 (tgt := 58) rfl rfl (fun h40 => ?_) (fun h40 => ?_)
    · refine At.go (q := xm248) rfl 2 (pc' := 5) (L' := [(4, .int ((Int32.ofNat i) + 1)), (5, .ref x), (3, .int (Int32.ofNat ((es.take i).countP (fCB lb vo)))), (0, .ref s), (1, .int lb), (2, .int (bI vo))]) (st' := []) rfl ?_
      have hq : fCB lb vo e = false := by unfold fCB; rw [bI0 (of_decide_eq_true h40), Bool.false_and]
      rw [if_neg (by rw [hq]; decide)] at hcs
      rw [iN_s]
      have hcz : (es.take i).countP (fCB lb vo) = (es.take (i + 1)).countP (fCB lb vo) := by omega
      rw [hcz]
      refine At.wk (L' := [(4, .int (Int32.ofNat (i + 1))), (3, .int (Int32.ofNat ((es.take (i + 1)).countP (fCB lb vo)))), (0, .ref s), (1, .int lb), (2, .int (bI vo))]) (List.forall_mem_cons.mpr ⟨List.mem_of_getElem? (i := 0) rfl, (List.forall_mem_cons.mpr ⟨List.mem_of_getElem? (i := 2) rfl, (List.forall_mem_cons.mpr ⟨List.mem_of_getElem? (i := 3) rfl, (List.forall_mem_cons.mpr ⟨List.mem_of_getElem? (i := 4) rfl, (List.forall_mem_cons.mpr ⟨List.mem_of_getElem? (i := 5) rfl, (fun _ h => (List.not_mem_nil h).elim)⟩)⟩)⟩)⟩)⟩) (show ([4, 5, 3, 0, 1, 2] : List Nat).Nodup by decide) ?_
      exact ih (i + 1) (by omega)
    · refine At.go (q := xm248) rfl 1 (pc' := 45) (L' := [(5, .ref x), (4, .int (Int32.ofNat i)), (3, .int (Int32.ofNat ((es.take i).countP (fCB lb vo)))), (0, .ref s), (1, .int lb), (2, .int (bI vo))]) (st' := [.ref x]) rfl ?_
      refine At.gf rfl (by decide) hx rfl ?_
      refine At.ic1 (tgt := 55) rfl rfl (fun h48 => ?_) (fun h48 => ?_)
      · refine At.go (q := xm248) rfl 3 (pc' := 5) (L' := [(4, .int ((Int32.ofNat i) + 1)), (3, .int ((Int32.ofNat ((es.take i).countP (fCB lb vo))) + 1)), (5, .ref x), (0, .ref s), (1, .int lb), (2, .int (bI vo))]) (st' := []) rfl ?_
        have hq : fCB lb vo e = true := by unfold fCB; rw [bI1 (of_decide_eq_false h40), bI1 (of_decide_eq_true h48)]; rfl
        rw [if_pos hq] at hcs
        rw [iN_s, iN_s, ← hcs]
        refine At.wk (L' := [(4, .int (Int32.ofNat (i + 1))), (3, .int (Int32.ofNat ((es.take (i + 1)).countP (fCB lb vo)))), (0, .ref s), (1, .int lb), (2, .int (bI vo))]) (List.forall_mem_cons.mpr ⟨List.mem_of_getElem? (i := 0) rfl, (List.forall_mem_cons.mpr ⟨List.mem_of_getElem? (i := 1) rfl, (List.forall_mem_cons.mpr ⟨List.mem_of_getElem? (i := 3) rfl, (List.forall_mem_cons.mpr ⟨List.mem_of_getElem? (i := 4) rfl, (List.forall_mem_cons.mpr ⟨List.mem_of_getElem? (i := 5) rfl, (fun _ h => (List.not_mem_nil h).elim)⟩)⟩)⟩)⟩)⟩) (show ([4, 3, 5, 0, 1, 2] : List Nat).Nodup by decide) ?_
        exact ih (i + 1) (by omega)
      · refine At.go (q := xm248) rfl 1 (pc' := 52) (L' := [(5, .ref x), (4, .int (Int32.ofNat i)), (3, .int (Int32.ofNat ((es.take i).countP (fCB lb vo)))), (0, .ref s), (1, .int lb), (2, .int (bI vo))]) (st' := [.int (bI vo)]) rfl ?_
        refine At.ic1 (tgt := 58) rfl rfl (fun h52 => ?_) (fun h52 => ?_)
        · refine At.go (q := xm248) rfl 2 (pc' := 5) (L' := [(4, .int ((Int32.ofNat i) + 1)), (5, .ref x), (3, .int (Int32.ofNat ((es.take i).countP (fCB lb vo)))), (0, .ref s), (1, .int lb), (2, .int (bI vo))]) (st' := []) rfl ?_
          have hq : fCB lb vo e = false := by unfold fCB; rw [bI0 (xne_f h48), bI1 (of_decide_eq_true h52), Bool.false_or, Bool.not_true, Bool.and_false]
          rw [if_neg (by rw [hq]; decide)] at hcs
          rw [iN_s]
          have hcz : (es.take i).countP (fCB lb vo) = (es.take (i + 1)).countP (fCB lb vo) := by omega
          rw [hcz]
          refine At.wk (L' := [(4, .int (Int32.ofNat (i + 1))), (3, .int (Int32.ofNat ((es.take (i + 1)).countP (fCB lb vo)))), (0, .ref s), (1, .int lb), (2, .int (bI vo))]) (List.forall_mem_cons.mpr ⟨List.mem_of_getElem? (i := 0) rfl, (List.forall_mem_cons.mpr ⟨List.mem_of_getElem? (i := 2) rfl, (List.forall_mem_cons.mpr ⟨List.mem_of_getElem? (i := 3) rfl, (List.forall_mem_cons.mpr ⟨List.mem_of_getElem? (i := 4) rfl, (List.forall_mem_cons.mpr ⟨List.mem_of_getElem? (i := 5) rfl, (fun _ h => (List.not_mem_nil h).elim)⟩)⟩)⟩)⟩)⟩) (show ([4, 5, 3, 0, 1, 2] : List Nat).Nodup by decide) ?_
          exact ih (i + 1) (by omega)
        · refine At.go (q := xm248) rfl 3 (pc' := 5) (L' := [(4, .int ((Int32.ofNat i) + 1)), (3, .int ((Int32.ofNat ((es.take i).countP (fCB lb vo))) + 1)), (5, .ref x), (0, .ref s), (1, .int lb), (2, .int (bI vo))]) (st' := []) rfl ?_
          have hq : fCB lb vo e = true := by unfold fCB; rw [bI1 (of_decide_eq_false h40), bI0 (xne_f h52)]; cases e.2.2.2.1 <;> rfl
          rw [if_pos hq] at hcs
          rw [iN_s, iN_s, ← hcs]
          refine At.wk (L' := [(4, .int (Int32.ofNat (i + 1))), (3, .int (Int32.ofNat ((es.take (i + 1)).countP (fCB lb vo)))), (0, .ref s), (1, .int lb), (2, .int (bI vo))]) (List.forall_mem_cons.mpr ⟨List.mem_of_getElem? (i := 0) rfl, (List.forall_mem_cons.mpr ⟨List.mem_of_getElem? (i := 1) rfl, (List.forall_mem_cons.mpr ⟨List.mem_of_getElem? (i := 3) rfl, (List.forall_mem_cons.mpr ⟨List.mem_of_getElem? (i := 4) rfl, (List.forall_mem_cons.mpr ⟨List.mem_of_getElem? (i := 5) rfl, (fun _ h => (List.not_mem_nil h).elim)⟩)⟩)⟩)⟩)⟩) (show ([4, 3, 5, 0, 1, 2] : List Nat).Nodup by decide) ?_
          exact ih (i + 1) (by omega)
/-- countBelow -/
theorem m_countBelow {S : List Int32} {hp : List XC} {s l : Nat} {as : List Nat} {es : List En} {lb : Int32} {vo : Bool} (hs0 : hp[s]? = some (.inr (10, [.ref l]))) (hL : hLs hp l as) (hE : hEs hp as es) : Pu S 3 248 [.ref s, .int lb, bv vo] hp (.int (Int32.ofNat (cntB es lb vo))) := by
  refine At.go (q := xm248) rfl 4 (pc' := 5) (L' := [(4, .int 0), (3, .int 0), (0, .ref s), (1, .int lb), (2, .int (bI vo))]) (st' := []) rfl ?_
  exact countB_loop hs0 hL hE es.length 0 (by omega)
