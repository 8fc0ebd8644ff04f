/-! tables by their names (written by wip/p27/c988.py) -/
/-- Reader.value -/
theorem m_rvalue {S : List Int32} {hp : List XC} {r va n i : Nat} {kv pv r4 r5 r6 : Value} {es : List Value} {v : Int32} (hr : hp[r]? = some (.inr (8, [kv, .ref va, pv, .int (Int32.ofNat n), r4, r5, r6]))) (hva : hp[va]? = some (.inl (12, es))) (hi : i < n) (hn : n ≤ 1000) (hel : es.length ≤ 1000) (hv : es[i]? = some (.int v)) : Pu S 0 62 [.ref r, .int (Int32.ofNat i)] hp (.int v) := by
  have hls := (List.getElem?_eq_some_iff.mp hv).1
  refine At.go (q := xm62) rfl 1 (pc' := 1) (L' := [(0, .ref r), (1, .int (Int32.ofNat i))]) (st' := [.int (Int32.ofNat i)]) rfl ?_
  refine At.ic1 (tgt := 30) rfl rfl (fun h => absurd (h.symm.trans (decide_eq_false (iN_nn (by omega)))) (by decide)) (fun _ => ?_)
  refine At.go (q := xm62) rfl 2 (pc' := 6) (L' := [(0, .ref r), (1, .int (Int32.ofNat i))]) (st' := [.ref r, .int (Int32.ofNat i)]) rfl ?_
  refine At.gf rfl (by decide) hr rfl ?_
  refine At.ic2 (tgt := 30) rfl rfl (fun h => absurd (h.symm.trans (decide_eq_false (fun h => absurd ((iN_le (a := n) (b := i) (by omega) (by omega)).mp h) (by omega)))) (by decide)) (fun _ => ?_)
  refine At.go (q := xm62) rfl 2 (pc' := 14) (L' := [(0, .ref r), (1, .int (Int32.ofNat i))]) (st' := [.ref r, .int (Int32.ofNat i)]) rfl ?_
  refine At.gf rfl (by decide) hr rfl ?_
  refine At.ln rfl hva ?_
  refine At.ic2 (tgt := 30) rfl rfl (fun h => absurd (h.symm.trans (decide_eq_false (fun h => absurd ((iN_le (a := es.length) (b := i) (by omega) (by omega)).mp h) (by omega)))) (by decide)) (fun _ => ?_)
  refine At.go (q := xm62) rfl 1 (pc' := 22) (L' := [(0, .ref r), (1, .int (Int32.ofNat i))]) (st' := [.ref r]) rfl ?_
  refine At.gf rfl (by decide) hr rfl ?_
  refine At.go (q := xm62) rfl 1 (pc' := 26) (L' := [(0, .ref r), (1, .int (Int32.ofNat i))]) (st' := [.int (Int32.ofNat i), .ref va]) rfl ?_
  refine At.al rfl hva (by decide) rfl (iN_nn (by omega)) (by rw [iN_tn (by omega)]; exact hv) ?_
  refine At.go (q := xm62) rfl 1 (pc' := 31) (L' := [(0, .ref r), (1, .int (Int32.ofNat i))]) (st' := [.int v]) rfl ?_
  exact At.rt rfl (xret_i rfl) rfl
/-- which of some tables (names, labels) is meant, from the last one back -/
def tnE (ts : List (Int32 × Int32)) (nm by9 : Int32) : Nat → Option Nat
  | 0 => none
  | k + 1 => match ts[k]? with
    | some q => if q.1 = nm ∧ isB q.2 by9 = true then some k else tnE ts nm by9 k
    | none => none
/-- the tables' names and labels -/
def hTn (hp : List XC) (as : List Nat) (ts : List (Int32 × Int32)) : Prop := as.length = ts.length ∧ ∀ (i a : Nat) (q : Int32 × Int32), as[i]? = some a → ts[i]? = some q → ∃ (sr : Int32) (tf : List Value), hp[a]? = some (.inr (13, .int sr :: .int q.1 :: .int q.2 :: tf))
theorem tn_some {S : List Int32} {d : Nat} {hp : List XC} {m s l tk : Nat} {by9 nm : Int32} {mf : List Value} {as : List Nat} {ts : List (Int32 × Int32)} {Q : XO → Prop} (hm : hp[m]? = some (.inr (6, .ref s :: .ref l :: .int by9 :: mf))) (hL : hLs hp l as) (hT : hTn hp as ts) {j t : Nat} (ht : as[j]? = some t) (hQ : At S (d + 3) 83 65 [] [.ref t] hp 0 0 Q) : ∀ (k : Nat), k ≤ ts.length → tnE ts nm by9 k = some j → At S (d + 3) 83 22 [(3, .int (Int32.ofNat k - 1)), (0, .ref m), (1, .int (Int32.ofNat tk)), (2, .int nm)] [] hp 0 0 Q := by
  have hbn := hL.len
  have hl9 := hT.1
  intro k
  induction k with
  | zero =>
    intro hk he
    cases he
  | succ k ih =>
    intro hk he
    obtain ⟨q, hq⟩ : ∃ q, ts[k]? = some q := ⟨_, List.getElem?_eq_getElem (by omega)⟩
    obtain ⟨a, ha⟩ : ∃ a, as[k]? = some a := ⟨_, List.getElem?_eq_getElem (by omega)⟩
    obtain ⟨sr, tf, hta⟩ := hT.2 k a q ha hq
    rw [tnE, hq] at he
    dsimp only at he
    rw [iN_m2]
    obtain ⟨lf, hl0⟩ := hL.ob
    refine At.go (q := xm83) rfl 1 (pc' := 23) (L' := [(3, .int (Int32.ofNat k)), (0, .ref m), (1, .int (Int32.ofNat tk)), (2, .int nm)]) (st' := [.int (Int32.ofNat k)]) rfl ?_
    refine At.ic1 (tgt := 72) rfl rfl (fun h => absurd (h.symm.trans (decide_eq_false (iN_nn (by omega)))) (by decide)) (fun _ => ?_)
    refine At.go (q := xm83) rfl 1 (pc' := 27) (L' := [(3, .int (Int32.ofNat k)), (0, .ref m), (1, .int (Int32.ofNat tk)), (2, .int nm)]) (st' := [.ref m]) rfl ?_
    refine At.gf rfl (by decide) hm rfl ?_
    refine At.go (q := xm83) rfl 1 (pc' := 31) (L' := [(3, .int (Int32.ofNat k)), (0, .ref m), (1, .int (Int32.ofNat tk)), (2, .int nm)]) (st' := [.int (Int32.ofNat k), .ref l]) rfl ?_
    refine At.clp (as := [.ref l, .int (Int32.ofNat k)]) (rest := []) rfl (by decide) rfl (Nat.le_of_ble_eq_true rfl) (Nat.le_of_ble_eq_true rfl) (xrck_o (by decide) (by decide) hl0 (by decide)) (Nat.le_of_ble_eq_true rfl) (m_get hL ha) ?_
    refine At.ca rfl hta (by decide) ?_
    refine At.go (q := xm83) rfl 2 (pc' := 41) (L' := [(4, .ref a), (3, .int (Int32.ofNat k)), (0, .ref m), (1, .int (Int32.ofNat tk)), (2, .int nm)]) (st' := [.ref a]) rfl ?_
    refine At.gf rfl (by decide) hta rfl ?_
    refine At.go (q := xm83) rfl 1 (pc' := 45) (L' := [(4, .ref a), (3, .int (Int32.ofNat k)), (0, .ref m), (1, .int (Int32.ofNat tk)), (2, .int nm)]) (st' := [.int nm, .int q.1]) rfl ?_
    refine At.ic2 (tgt := 66) rfl rfl (fun h45 => ?_) (fun h45 => ?_)
    · refine At.go (q := xm83) rfl 2 (pc' := 22) (L' := [(3, .int ((Int32.ofNat k) + (-1))), (4, .ref a), (0, .ref m), (1, .int (Int32.ofNat tk)), (2, .int nm)]) (st' := []) rfl ?_
      rw [show Int32.ofNat k + (-1) = Int32.ofNat k - 1 from (Int32.sub_eq_add_neg _ _).symm]
      refine At.wk (L' := [(3, .int (Int32.ofNat k - 1)), (0, .ref m), (1, .int (Int32.ofNat tk)), (2, .int nm)]) (List.forall_mem_cons.mpr ⟨List.mem_of_getElem? (i := 0) rfl, (List.forall_mem_cons.mpr ⟨List.mem_of_getElem? (i := 2) rfl, (List.forall_mem_cons.mpr ⟨List.mem_of_getElem? (i := 3) rfl, (List.forall_mem_cons.mpr ⟨List.mem_of_getElem? (i := 4) rfl, (fun _ h => (List.not_mem_nil h).elim)⟩)⟩)⟩)⟩) (show ([3, 4, 0, 1, 2] : List Nat).Nodup by decide) ?_
      rw [if_neg (fun h => of_decide_eq_true h45 h.1)] at he
      exact ih (by omega) he
    · refine At.go (q := xm83) rfl 1 (pc' := 50) (L' := [(4, .ref a), (3, .int (Int32.ofNat k)), (0, .ref m), (1, .int (Int32.ofNat tk)), (2, .int nm)]) (st' := [.ref a]) rfl ?_
      refine At.gf rfl (by decide) hta rfl ?_
      refine At.go (q := xm83) rfl 1 (pc' := 54) (L' := [(4, .ref a), (3, .int (Int32.ofNat k)), (0, .ref m), (1, .int (Int32.ofNat tk)), (2, .int nm)]) (st' := [.ref m, .int q.2]) rfl ?_
      refine At.gf rfl (by decide) hm rfl ?_
      refine At.clp (as := [.int q.2, .int by9]) (rest := []) rfl (by decide) rfl (Nat.le_of_ble_eq_true rfl) (Nat.le_of_ble_eq_true rfl) rfl (Nat.le_of_ble_eq_true rfl) (m_isBelow q.2 by9) ?_
      refine At.ic1 (tgt := 66) rfl rfl (fun h60 => ?_) (fun h60 => ?_)
      · refine At.go (q := xm83) rfl 2 (pc' := 22) (L' := [(3, .int ((Int32.ofNat k) + (-1))), (4, .ref a), (0, .ref m), (1, .int (Int32.ofNat tk)), (2, .int nm)]) (st' := []) rfl ?_
        rw [show Int32.ofNat k + (-1) = Int32.ofNat k - 1 from (Int32.sub_eq_add_neg _ _).symm]
        refine At.wk (L' := [(3, .int (Int32.ofNat k - 1)), (0, .ref m), (1, .int (Int32.ofNat tk)), (2, .int nm)]) (List.forall_mem_cons.mpr ⟨List.mem_of_getElem? (i := 0) rfl, (List.forall_mem_cons.mpr ⟨List.mem_of_getElem? (i := 2) rfl, (List.forall_mem_cons.mpr ⟨List.mem_of_getElem? (i := 3) rfl, (List.forall_mem_cons.mpr ⟨List.mem_of_getElem? (i := 4) rfl, (fun _ h => (List.not_mem_nil h).elim)⟩)⟩)⟩)⟩) (show ([3, 4, 0, 1, 2] : List Nat).Nodup by decide) ?_
        rw [if_neg (fun h => by rw [bI0 (of_decide_eq_true h60)] at h; exact absurd h.2 (by decide))] at he
        exact ih (by omega) he
      · refine At.go (q := xm83) rfl 1 (pc' := 65) (L' := [(4, .ref a), (3, .int (Int32.ofNat k)), (0, .ref m), (1, .int (Int32.ofNat tk)), (2, .int nm)]) (st' := [.ref a]) rfl ?_
        rw [if_pos ⟨xne_f h45, bI1 (of_decide_eq_false h60)⟩] at he
        cases he
        cases ha.symm.trans ht
        exact At.wk (L' := []) (fun _ h => (List.not_mem_nil h).elim) (show ([4, 3, 0, 1, 2] : List Nat).Nodup by decide) hQ
theorem tn_some0 {S : List Int32} {d : Nat} {hp : List XC} {m s l tk : Nat} {by9 nm : Int32} {mf : List Value} {as : List Nat} {ts : List (Int32 × Int32)} {Q : XO → Prop} (hm : hp[m]? = some (.inr (6, .ref s :: .ref l :: .int by9 :: mf))) (hL : hLs hp l as) (hT : hTn hp as ts) {r : Nat} {sf rf : List Value} (hs : hp[s]? = some (.inr (12, .ref r :: sf))) (hr0 : hp[r]? = some (.inr (8, rf))) (hval : Pu S 0 62 [.ref r, .int (Int32.ofNat tk)] hp (.int nm)) {j t : Nat} (ht : as[j]? = some t) (hQ : At S (d + 3) 83 65 [] [.ref t] hp 0 0 Q) (he : tnE ts nm by9 ts.length = some j) : At S (d + 3) 83 0 (lv_args 0 [.ref m, .int (Int32.ofNat tk)]) [] hp 0 0 Q := by
  obtain ⟨lf, hl0⟩ := hL.ob
  refine At.go (q := xm83) rfl 1 (pc' := 1) (L' := [(0, .ref m), (1, .int (Int32.ofNat tk))]) (st' := [.ref m]) rfl ?_
  refine At.gf rfl (by decide) hm rfl ?_
  refine At.gf rfl (by decide) hs rfl ?_
  refine At.go (q := xm83) rfl 1 (pc' := 8) (L' := [(0, .ref m), (1, .int (Int32.ofNat tk))]) (st' := [.int (Int32.ofNat tk), .ref r]) rfl ?_
  refine At.clp (as := [.ref r, .int (Int32.ofNat tk)]) (rest := []) rfl (by decide) rfl (Nat.le_of_ble_eq_true rfl) (Nat.le_of_ble_eq_true rfl) (xrck_o (by decide) (by decide) hr0 (by decide)) (Nat.le_of_ble_eq_true rfl) (hval) ?_
  refine At.go (q := xm83) rfl 2 (pc' := 13) (L' := [(2, .int nm), (0, .ref m), (1, .int (Int32.ofNat tk))]) (st' := [.ref m]) rfl ?_
  refine At.gf rfl (by decide) hm rfl ?_
  refine At.clp (as := [.ref l]) (rest := []) rfl (by decide) rfl (Nat.le_of_ble_eq_true rfl) (Nat.le_of_ble_eq_true rfl) (xrck_o (by decide) (by decide) hl0 (by decide)) (Nat.le_of_ble_eq_true rfl) (m_size hL) ?_
  refine At.go (q := xm83) rfl 3 (pc' := 22) (L' := [(3, .int ((Int32.ofNat as.length) - 1)), (2, .int nm), (0, .ref m), (1, .int (Int32.ofNat tk))]) (st' := []) rfl ?_
  rw [show as.length = ts.length from hT.1]
  refine At.wk (L' := [(3, .int (Int32.ofNat ts.length - 1)), (0, .ref m), (1, .int (Int32.ofNat tk)), (2, .int nm)]) (List.forall_mem_cons.mpr ⟨List.mem_of_getElem? (i := 0) rfl, (List.forall_mem_cons.mpr ⟨List.mem_of_getElem? (i := 2) rfl, (List.forall_mem_cons.mpr ⟨List.mem_of_getElem? (i := 3) rfl, (List.forall_mem_cons.mpr ⟨List.mem_of_getElem? (i := 1) rfl, (fun _ h => (List.not_mem_nil h).elim)⟩)⟩)⟩)⟩) (show ([3, 2, 0, 1] : List Nat).Nodup by decide) ?_
  exact tn_some hm hL hT ht hQ ts.length (Nat.le_refl _) he
theorem tn_none {S : List Int32} {d : Nat} {hp : List XC} {m s l tk : Nat} {by9 nm : Int32} {mf : List Value} {as : List Nat} {ts : List (Int32 × Int32)} {Q : XO → Prop} (hm : hp[m]? = some (.inr (6, .ref s :: .ref l :: .int by9 :: mf))) (hL : hLs hp l as) (hT : hTn hp as ts) (hQ : At S (d + 3) 83 72 [(0, .ref m), (1, .int (Int32.ofNat tk))] [] hp 0 0 Q) : ∀ (k : Nat), k ≤ ts.length → tnE ts nm by9 k = none → At S (d + 3) 83 22 [(3, .int (Int32.ofNat k - 1)), (0, .ref m), (1, .int (Int32.ofNat tk)), (2, .int nm)] [] hp 0 0 Q := by
  have hbn := hL.len
  have hl9 := hT.1
  intro k
  induction k with
  | zero =>
    intro hk he
    refine At.go (q := xm83) rfl 1 (pc' := 23) (L' := [(3, .int (Int32.ofNat 0 - 1)), (0, .ref m), (1, .int (Int32.ofNat tk)), (2, .int nm)]) (st' := [.int (Int32.ofNat 0 - 1)]) rfl ?_
    refine At.ic1 (tgt := 72) rfl rfl (fun _ => ?_) (fun h => absurd h (by decide))
    exact At.wk (L' := [(0, .ref m), (1, .int (Int32.ofNat tk))]) (List.forall_mem_cons.mpr ⟨List.mem_of_getElem? (i := 1) rfl, (List.forall_mem_cons.mpr ⟨List.mem_of_getElem? (i := 2) rfl, (fun _ h => (List.not_mem_nil h).elim)⟩)⟩) (show ([3, 0, 1, 2] : List Nat).Nodup by decide) hQ
  | succ k ih =>
    intro hk he
    obtain ⟨q, hq⟩ : ∃ q, ts[k]? = some q := ⟨_, List.getElem?_eq_getElem (by omega)⟩
    obtain ⟨a, ha⟩ : ∃ a, as[k]? = some a := ⟨_, List.getElem?_eq_getElem (by omega)⟩
    obtain ⟨sr, tf, hta⟩ := hT.2 k a q ha hq
    rw [tnE, hq] at he
    dsimp only at he
    rw [iN_m2]
    obtain ⟨lf, hl0⟩ := hL.ob
    refine At.go (q := xm83) rfl 1 (pc' := 23) (L' := [(3, .int (Int32.ofNat k)), (0, .ref m), (1, .int (Int32.ofNat tk)), (2, .int nm)]) (st' := [.int (Int32.ofNat k)]) rfl ?_
    refine At.ic1 (tgt := 72) rfl rfl (fun h => absurd (h.symm.trans (decide_eq_false (iN_nn (by omega)))) (by decide)) (fun _ => ?_)
    refine At.go (q := xm83) rfl 1 (pc' := 27) (L' := [(3, .int (Int32.ofNat k)), (0, .ref m), (1, .int (Int32.ofNat tk)), (2, .int nm)]) (st' := [.ref m]) rfl ?_
    refine At.gf rfl (by decide) hm rfl ?_
    refine At.go (q := xm83) rfl 1 (pc' := 31) (L' := [(3, .int (Int32.ofNat k)), (0, .ref m), (1, .int (Int32.ofNat tk)), (2, .int nm)]) (st' := [.int (Int32.ofNat k), .ref l]) rfl ?_
    refine At.clp (as := [.ref l, .int (Int32.ofNat k)]) (rest := []) rfl (by decide) rfl (Nat.le_of_ble_eq_true rfl) (Nat.le_of_ble_eq_true rfl) (xrck_o (by decide) (by decide) hl0 (by decide)) (Nat.le_of_ble_eq_true rfl) (m_get hL ha) ?_
    refine At.ca rfl hta (by decide) ?_
    refine At.go (q := xm83) rfl 2 (pc' := 41) (L' := [(4, .ref a), (3, .int (Int32.ofNat k)), (0, .ref m), (1, .int (Int32.ofNat tk)), (2, .int nm)]) (st' := [.ref a]) rfl ?_
    refine At.gf rfl (by decide) hta rfl ?_
    refine At.go (q := xm83) rfl 1 (pc' := 45) (L' := [(4, .ref a), (3, .int (Int32.ofNat k)), (0, .ref m), (1, .int (Int32.ofNat tk)), (2, .int nm)]) (st' := [.int nm, .int q.1]) rfl ?_
    refine At.ic2 (tgt := 66) rfl rfl (fun h45 => ?_) (fun h45 => ?_)
    · refine At.go (q := xm83) rfl 2 (pc' := 22) (L' := [(3, .int ((Int32.ofNat k) + (-1))), (4, .ref a), (0, .ref m), (1, .int (Int32.ofNat tk)), (2, .int nm)]) (st' := []) rfl ?_
      rw [show Int32.ofNat k + (-1) = Int32.ofNat k - 1 from (Int32.sub_eq_add_neg _ _).symm]
      refine At.wk (L' := [(3, .int (Int32.ofNat k - 1)), (0, .ref m), (1, .int (Int32.ofNat tk)), (2, .int nm)]) (List.forall_mem_cons.mpr ⟨List.mem_of_getElem? (i := 0) rfl, (List.forall_mem_cons.mpr ⟨List.mem_of_getElem? (i := 2) rfl, (List.forall_mem_cons.mpr ⟨List.mem_of_getElem? (i := 3) rfl, (List.forall_mem_cons.mpr ⟨List.mem_of_getElem? (i := 4) rfl, (fun _ h => (List.not_mem_nil h).elim)⟩)⟩)⟩)⟩) (show ([3, 4, 0, 1, 2] : List Nat).Nodup by decide) ?_
      rw [if_neg (fun h => of_decide_eq_true h45 h.1)] at he
      exact ih (by omega) he
    · refine At.go (q := xm83) rfl 1 (pc' := 50) (L' := [(4, .ref a), (3, .int (Int32.ofNat k)), (0, .ref m), (1, .int (Int32.ofNat tk)), (2, .int nm)]) (st' := [.ref a]) rfl ?_
      refine At.gf rfl (by decide) hta rfl ?_
      refine At.go (q := xm83) rfl 1 (pc' := 54) (L' := [(4, .ref a), (3, .int (Int32.ofNat k)), (0, .ref m), (1, .int (Int32.ofNat tk)), (2, .int nm)]) (st' := [.ref m, .int q.2]) rfl ?_
      refine At.gf rfl (by decide) hm rfl ?_
      refine At.clp (as := [.int q.2, .int by9]) (rest := []) rfl (by decide) rfl (Nat.le_of_ble_eq_true rfl) (Nat.le_of_ble_eq_true rfl) rfl (Nat.le_of_ble_eq_true rfl) (m_isBelow q.2 by9) ?_
      refine At.ic1 (tgt := 66) rfl rfl (fun h60 => ?_) (fun h60 => ?_)
      · refine At.go (q := xm83) rfl 2 (pc' := 22) (L' := [(3, .int ((Int32.ofNat k) + (-1))), (4, .ref a), (0, .ref m), (1, .int (Int32.ofNat tk)), (2, .int nm)]) (st' := []) rfl ?_
        rw [show Int32.ofNat k + (-1) = Int32.ofNat k - 1 from (Int32.sub_eq_add_neg _ _).symm]
        refine At.wk (L' := [(3, .int (Int32.ofNat k - 1)), (0, .ref m), (1, .int (Int32.ofNat tk)), (2, .int nm)]) (List.forall_mem_cons.mpr ⟨List.mem_of_getElem? (i := 0) rfl, (List.forall_mem_cons.mpr ⟨List.mem_of_getElem? (i := 2) rfl, (List.forall_mem_cons.mpr ⟨List.mem_of_getElem? (i := 3) rfl, (List.forall_mem_cons.mpr ⟨List.mem_of_getElem? (i := 4) rfl, (fun _ h => (List.not_mem_nil h).elim)⟩)⟩)⟩)⟩) (show ([3, 4, 0, 1, 2] : List Nat).Nodup by decide) ?_
        rw [if_neg (fun h => by rw [bI0 (of_decide_eq_true h60)] at h; exact absurd h.2 (by decide))] at he
        exact ih (by omega) he
      · refine At.go (q := xm83) rfl 1 (pc' := 65) (L' := [(4, .ref a), (3, .int (Int32.ofNat k)), (0, .ref m), (1, .int (Int32.ofNat tk)), (2, .int nm)]) (st' := [.ref a]) rfl ?_
        rw [if_pos ⟨xne_f h45, bI1 (of_decide_eq_false h60)⟩] at he
        cases he
theorem tn_none0 {S : List Int32} {d : Nat} {hp : List XC} {m s l tk : Nat} {by9 nm : Int32} {mf : List Value} {as : List Nat} {ts : List (Int32 × Int32)} {Q : XO → Prop} (hm : hp[m]? = some (.inr (6, .ref s :: .ref l :: .int by9 :: mf))) (hL : hLs hp l as) (hT : hTn hp as ts) {r : Nat} {sf rf : List Value} (hs : hp[s]? = some (.inr (12, .ref r :: sf))) (hr0 : hp[r]? = some (.inr (8, rf))) (hval : Pu S 0 62 [.ref r, .int (Int32.ofNat tk)] hp (.int nm)) (hQ : At S (d + 3) 83 72 [(0, .ref m), (1, .int (Int32.ofNat tk))] [] hp 0 0 Q) (he : tnE ts nm by9 ts.length = none) : At S (d + 3) 83 0 (lv_args 0 [.ref m, .int (Int32.ofNat tk)]) [] hp 0 0 Q := by
  obtain ⟨lf, hl0⟩ := hL.ob
  refine At.go (q := xm83) rfl 1 (pc' := 1) (L' := [(0, .ref m), (1, .int (Int32.ofNat tk))]) (st' := [.ref m]) rfl ?_
  refine At.gf rfl (by decide) hm rfl ?_
  refine At.gf rfl (by decide) hs rfl ?_
  refine At.go (q := xm83) rfl 1 (pc' := 8) (L' := [(0, .ref m), (1, .int (Int32.ofNat tk))]) (st' := [.int (Int32.ofNat tk), .ref r]) rfl ?_
  refine At.clp (as := [.ref r, .int (Int32.ofNat tk)]) (rest := []) rfl (by decide) rfl (Nat.le_of_ble_eq_true rfl) (Nat.le_of_ble_eq_true rfl) (xrck_o (by decide) (by decide) hr0 (by decide)) (Nat.le_of_ble_eq_true rfl) (hval) ?_
  refine At.go (q := xm83) rfl 2 (pc' := 13) (L' := [(2, .int nm), (0, .ref m), (1, .int (Int32.ofNat tk))]) (st' := [.ref m]) rfl ?_
  refine At.gf rfl (by decide) hm rfl ?_
  refine At.clp (as := [.ref l]) (rest := []) rfl (by decide) rfl (Nat.le_of_ble_eq_true rfl) (Nat.le_of_ble_eq_true rfl) (xrck_o (by decide) (by decide) hl0 (by decide)) (Nat.le_of_ble_eq_true rfl) (m_size hL) ?_
  refine At.go (q := xm83) rfl 3 (pc' := 22) (L' := [(3, .int ((Int32.ofNat as.length) - 1)), (2, .int nm), (0, .ref m), (1, .int (Int32.ofNat tk))]) (st' := []) rfl ?_
  rw [show as.length = ts.length from hT.1]
  refine At.wk (L' := [(3, .int (Int32.ofNat ts.length - 1)), (0, .ref m), (1, .int (Int32.ofNat tk)), (2, .int nm)]) (List.forall_mem_cons.mpr ⟨List.mem_of_getElem? (i := 0) rfl, (List.forall_mem_cons.mpr ⟨List.mem_of_getElem? (i := 2) rfl, (List.forall_mem_cons.mpr ⟨List.mem_of_getElem? (i := 3) rfl, (List.forall_mem_cons.mpr ⟨List.mem_of_getElem? (i := 1) rfl, (fun _ h => (List.not_mem_nil h).elim)⟩)⟩)⟩)⟩) (show ([3, 2, 0, 1] : List Nat).Nodup by decide) ?_
  exact tn_none hm hL hT hQ ts.length (Nat.le_refl _) he
