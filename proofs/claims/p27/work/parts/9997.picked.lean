/-! queries: rows that are picked (written by wip/p27/c9997.py) -/
theorem m_pickedAt {S : List Int32} {hp : List XC} {q i : Nat} {st mn l1 l2 pa n li ln : Nat} {kp off so dn lc wd : Int32} {ps : List Int32} {v : Int32} (hq : hp[q]? = some (.inr (7, [.ref st, .ref mn, .ref l1, .ref l2, .ref pa, .int (Int32.ofNat n), .ref li, .int kp, .int off, .int so, .int dn, .ref ln, .int lc, .int wd]))) (hpa : hp[pa]? = some (.inl (18, ps.map Value.int))) (hv : ps[i]? = some v) (hi : i < n) (hn : ps.length ≤ 100000) (hn2 : n ≤ ps.length) : Pu S 0 152 [.ref q, .int (Int32.ofNat i)] hp (.int v) := by
  have hls := (List.getElem?_eq_some_iff.mp hv).1
  refine At.go (q := xm152) rfl 1 (pc' := 1) (L' := [(0, .ref q), (1, .int (Int32.ofNat i))]) (st' := [.int (Int32.ofNat i)]) rfl ?_
  refine At.ic1 (tgt := 30) rfl rfl (fun h => absurd (h.symm.trans (decide_eq_false (iN_nn (by omega)))) (by decide)) (fun _ => ?_)
  refine At.go (q := xm152) rfl 2 (pc' := 6) (L' := [(0, .ref q), (1, .int (Int32.ofNat i))]) (st' := [.ref q, .int (Int32.ofNat i)]) rfl ?_
  refine At.gf rfl (by decide) hq rfl ?_
  refine At.ic2 (tgt := 30) rfl rfl (fun h => absurd (h.symm.trans (decide_eq_false (fun h => absurd ((iN_le (a := n) (b := i) (by omega) (by omega)).mp h) (by omega)))) (by decide)) (fun _ => ?_)
  refine At.go (q := xm152) rfl 2 (pc' := 14) (L' := [(0, .ref q), (1, .int (Int32.ofNat i))]) (st' := [.ref q, .int (Int32.ofNat i)]) rfl ?_
  refine At.gf rfl (by decide) hq rfl ?_
  refine At.ln rfl hpa ?_
  refine At.ic2 (tgt := 30) rfl rfl (fun h => absurd (h.symm.trans (decide_eq_false (fun h => absurd ((iN_le (a := ps.length) (b := i) (by omega) (by omega)).mp (by rw [List.length_map] at h; exact h)) (by omega)))) (by decide)) (fun _ => ?_)
  refine At.go (q := xm152) rfl 1 (pc' := 22) (L' := [(0, .ref q), (1, .int (Int32.ofNat i))]) (st' := [.ref q]) rfl ?_
  refine At.gf rfl (by decide) hq rfl ?_
  refine At.go (q := xm152) rfl 1 (pc' := 26) (L' := [(0, .ref q), (1, .int (Int32.ofNat i))]) (st' := [.int (Int32.ofNat i), .ref pa]) rfl ?_
  refine At.al rfl hpa (by decide) rfl (iN_nn (by omega)) (by rw [iN_tn (by omega), List.getElem?_map, hv]; rfl) ?_
  refine At.go (q := xm152) rfl 1 (pc' := 31) (L' := [(0, .ref q), (1, .int (Int32.ofNat i))]) (st' := [.int v]) rfl ?_
  exact At.rt rfl (xret_i rfl) rfl
theorem At.rm {S : List Int32} {d Y pc : Nat} {L : List (Nat × Value)} {st : List Value} {hp : List XC} {nc ns : Nat} {Q : XO → Prop} {x y : Int32} (hC : xmC (xMT Y) pc = some (0, .irem, 0, 0, .null, [])) (hy : ¬ y = 0) (kk : At S d Y (pc + 1) L (.int (x - x / y * y) :: st) hp nc ns Q) : At S d Y pc L (.int y :: .int x :: st) hp nc ns Q := by
  refine At.low hC (show 0 < 20 by decide) (g := (pc + 1, L, .int (x - x / y * y) :: st, hp, 0, 0)) ?_ kk
  show (xpu .irem (.int y :: .int x :: st)).map _ = _
  unfold xpu
  dsimp only
  rw [if_neg hy]
  rfl
theorem iN_d1 (p : Nat) : Int32.ofNat p / 1 = Int32.ofNat p := Int32.div_one
theorem iN_div {a b : Nat} (ha : a < 2 ^ 31) (hb : b < 2 ^ 31) : Int32.ofNat a / Int32.ofNat b = Int32.ofNat (a / b) := (Int32.ofNat_div ha hb).symm
theorem iN_rem {i n j : Nat} (hj : j < n) (h : i * n + j < 2 ^ 31) (hn : n < 2 ^ 31) : Int32.ofNat (i * n + j) / Int32.ofNat n = Int32.ofNat i ∧ Int32.ofNat (i * n + j) - Int32.ofNat (i * n + j) / Int32.ofNat n * Int32.ofNat n = Int32.ofNat j := by
  have hd : (i * n + j) / n = i := by
    rw [Nat.mul_comm, Nat.mul_add_div (by omega), Nat.div_eq_of_lt hj, Nat.add_zero]
  have h1 : Int32.ofNat (i * n + j) / Int32.ofNat n = Int32.ofNat i := by rw [iN_div h hn, hd]
  refine ⟨h1, ?_⟩
  rw [h1, ← Int32.ofNat_mul, iN_sub (Nat.le_add_right _ _), Nat.add_sub_cancel_left]
theorem m_first0 {S : List Int32} {hp : List XC} {q : Nat} {st mn l1 l2 pa n li ln : Nat} {kp off so dn lc wd : Int32} {jn : Int32} {sf : List Value} {as bs : List Nat} (hq : hp[q]? = some (.inr (7, [.ref st, .ref mn, .ref l1, .ref l2, .ref pa, .int (Int32.ofNat n), .ref li, .int kp, .int off, .int so, .int dn, .ref ln, .int lc, .int wd]))) (hst : hp[st]? = some (.inr (12, sf))) (hj : sf[6]? = some (.int jn)) (hL1 : hLs hp l1 as) (hL2 : hLs hp l2 bs) (hneg : jn < 0) {i a : Nat} {ef : List Value} (ha : as[i]? = some a) (hao : hp[a]? = some (.inr (4, ef))) : Pu S 3 153 [.ref q, .int (Int32.ofNat i)] hp (.ref a) := by
  obtain ⟨f1, h10⟩ := hL1.ob
  obtain ⟨f2, h20⟩ := hL2.ob
  have hb1 := hL1.len
  have hb2 := hL2.len
  have hi := (List.getElem?_eq_some_iff.mp ha).1
  refine At.go (q := xm153) rfl 1 (pc' := 1) (L' := [(0, .ref q), (1, .int (Int32.ofNat i))]) (st' := [.ref q]) rfl ?_
  refine At.gf rfl (by decide) hq rfl ?_
  refine At.gf rfl (by decide) hst hj ?_
  refine At.ic1 (tgt := 14) rfl rfl (fun h => absurd (of_decide_eq_true h) (Int32.not_le.mpr hneg)) (fun _ => ?_)
  refine At.go (q := xm153) rfl 6 (pc' := 27) (L' := [(2, .int 1), (0, .ref q), (1, .int (Int32.ofNat i))]) (st' := [.int (Int32.ofNat i)]) rfl ?_
  refine At.ic1 (tgt := 36) rfl rfl (fun h => absurd (h.symm.trans (decide_eq_false (iN_nn (by omega)))) (by decide)) (fun _ => ?_)
  refine At.go (q := xm153) rfl 2 (pc' := 32) (L' := [(2, .int 1), (0, .ref q), (1, .int (Int32.ofNat i))]) (st' := [.int 1, .int (Int32.ofNat i)]) rfl ?_
  refine At.dv rfl (by decide) ?_
  rw [iN_d1]
  refine At.go (q := xm153) rfl 3 (pc' := 39) (L' := [(3, .int (Int32.ofNat i)), (2, .int 1), (0, .ref q), (1, .int (Int32.ofNat i))]) (st' := [.int (Int32.ofNat i)]) rfl ?_
  refine At.ic1 (tgt := 67) rfl rfl (fun h => absurd (h.symm.trans (decide_eq_false (iN_nn (by omega)))) (by decide)) (fun _ => ?_)
  refine At.go (q := xm153) rfl 2 (pc' := 44) (L' := [(3, .int (Int32.ofNat i)), (2, .int 1), (0, .ref q), (1, .int (Int32.ofNat i))]) (st' := [.ref q, .int (Int32.ofNat i)]) rfl ?_
  refine At.gf rfl (by decide) hq rfl ?_
  refine At.clp (as := [.ref l1]) (rest := [.int (Int32.ofNat i)]) rfl (by decide) rfl (Nat.le_of_ble_eq_true rfl) (Nat.le_of_ble_eq_true rfl) (xrck_o (by decide) (by decide) h10 (by decide)) (Nat.le_of_ble_eq_true rfl) (m_size hL1) ?_
  refine At.ic2 (tgt := 67) rfl rfl (fun h => absurd (h.symm.trans (decide_eq_false (fun h => absurd ((iN_le (a := as.length) (b := i) (by omega) (by omega)).mp h) (by omega)))) (by decide)) (fun _ => ?_)
  refine At.go (q := xm153) rfl 1 (pc' := 54) (L' := [(3, .int (Int32.ofNat i)), (2, .int 1), (0, .ref q), (1, .int (Int32.ofNat i))]) (st' := [.ref q]) rfl ?_
  refine At.gf rfl (by decide) hq rfl ?_
  refine At.go (q := xm153) rfl 1 (pc' := 58) (L' := [(3, .int (Int32.ofNat i)), (2, .int 1), (0, .ref q), (1, .int (Int32.ofNat i))]) (st' := [.int (Int32.ofNat i), .ref l1]) rfl ?_
  refine At.clp (as := [.ref l1, .int (Int32.ofNat i)]) (rest := []) rfl (by decide) rfl (Nat.le_of_ble_eq_true rfl) (Nat.le_of_ble_eq_true rfl) (xrck_o (by decide) (by decide) h10 (by decide)) (Nat.le_of_ble_eq_true rfl) (m_get hL1 ha) ?_
  refine At.ca rfl hao (by decide) ?_
  refine At.go (q := xm153) rfl 1 (pc' := 68) (L' := [(3, .int (Int32.ofNat i)), (2, .int 1), (0, .ref q), (1, .int (Int32.ofNat i))]) (st' := [.ref a]) rfl ?_
  exact At.rt rfl rfl rfl
theorem m_firstN {S : List Int32} {hp : List XC} {q : Nat} {st mn l1 l2 pa n li ln : Nat} {kp off so dn lc wd : Int32} {jn : Int32} {sf : List Value} {as bs : List Nat} (hq : hp[q]? = some (.inr (7, [.ref st, .ref mn, .ref l1, .ref l2, .ref pa, .int (Int32.ofNat n), .ref li, .int kp, .int off, .int so, .int dn, .ref ln, .int lc, .int wd]))) (hst : hp[st]? = some (.inr (12, sf))) (hj : sf[6]? = some (.int jn)) (hL1 : hLs hp l1 as) (hL2 : hLs hp l2 bs) : Pu S 3 153 [.ref q, .int (-1)] hp .null := by
  obtain ⟨f1, h10⟩ := hL1.ob
  obtain ⟨f2, h20⟩ := hL2.ob
  have hb1 := hL1.len
  have hb2 := hL2.len
  refine At.go (q := xm153) rfl 1 (pc' := 1) (L' := [(0, .ref q), (1, .int (-1))]) (st' := [.ref q]) rfl ?_
  refine At.gf rfl (by decide) hq rfl ?_
  refine At.gf rfl (by decide) hst hj ?_
  refine At.ic1 (tgt := 14) rfl rfl (fun h7 => ?_) (fun h7 => ?_)
  · refine At.go (q := xm153) rfl 1 (pc' := 15) (L' := [(0, .ref q), (1, .int (-1))]) (st' := [.ref q]) rfl ?_
    refine At.gf rfl (by decide) hq rfl ?_
    refine At.clp (as := [.ref l2]) (rest := []) rfl (by decide) rfl (Nat.le_of_ble_eq_true rfl) (Nat.le_of_ble_eq_true rfl) (xrck_o (by decide) (by decide) h20 (by decide)) (Nat.le_of_ble_eq_true rfl) (m_size hL2) ?_
    refine At.go (q := xm153) rfl 2 (pc' := 23) (L' := [(2, .int (Int32.ofNat bs.length)), (0, .ref q), (1, .int (-1))]) (st' := [.int (Int32.ofNat bs.length)]) rfl ?_
    refine At.ic1 (tgt := 36) rfl rfl (fun _ => ?_) (fun _ => ?_)
    · refine At.go (q := xm153) rfl 5 (pc' := 68) (L' := [(3, .int (-1)), (2, .int (Int32.ofNat bs.length)), (0, .ref q), (1, .int (-1))]) (st' := [.null]) rfl ?_
      exact At.rt rfl rfl rfl
    · refine At.go (q := xm153) rfl 7 (pc' := 68) (L' := [(3, .int (-1)), (2, .int (Int32.ofNat bs.length)), (0, .ref q), (1, .int (-1))]) (st' := [.null]) rfl ?_
      exact At.rt rfl rfl rfl
  · refine At.go (q := xm153) rfl 12 (pc' := 68) (L' := [(3, .int (-1)), (2, .int 1), (0, .ref q), (1, .int (-1))]) (st' := [.null]) rfl ?_
    exact At.rt rfl rfl rfl
theorem m_firstJ {S : List Int32} {hp : List XC} {q : Nat} {st mn l1 l2 pa n li ln : Nat} {kp off so dn lc wd : Int32} {jn : Int32} {sf : List Value} {as bs : List Nat} (hq : hp[q]? = some (.inr (7, [.ref st, .ref mn, .ref l1, .ref l2, .ref pa, .int (Int32.ofNat n), .ref li, .int kp, .int off, .int so, .int dn, .ref ln, .int lc, .int wd]))) (hst : hp[st]? = some (.inr (12, sf))) (hj : sf[6]? = some (.int jn)) (hL1 : hLs hp l1 as) (hL2 : hLs hp l2 bs) (hnn : ¬ jn < 0) {i j a : Nat} {ef : List Value} (hj9 : j < bs.length) (ha : as[i]? = some a) (hao : hp[a]? = some (.inr (4, ef))) (hbig : i * bs.length + j < 2 ^ 31) : Pu S 3 153 [.ref q, .int (Int32.ofNat (i * bs.length + j))] hp (.ref a) := by
  obtain ⟨f1, h10⟩ := hL1.ob
  obtain ⟨f2, h20⟩ := hL2.ob
  have hb1 := hL1.len
  have hb2 := hL2.len
  have hi := (List.getElem?_eq_some_iff.mp ha).1
  have hnz : ¬ Int32.ofNat bs.length = 0 := fun h => by have := iN_inj (b := 0) (by omega) (by omega) h; omega
  refine At.go (q := xm153) rfl 1 (pc' := 1) (L' := [(0, .ref q), (1, .int (Int32.ofNat (i * bs.length + j)))]) (st' := [.ref q]) rfl ?_
  refine At.gf rfl (by decide) hq rfl ?_
  refine At.gf rfl (by decide) hst hj ?_
  refine At.ic1 (tgt := 14) rfl rfl (fun _ => ?_) (fun h => absurd (Int32.not_lt.mp hnn) (fun q => of_decide_eq_false h q))
  refine At.go (q := xm153) rfl 1 (pc' := 15) (L' := [(0, .ref q), (1, .int (Int32.ofNat (i * bs.length + j)))]) (st' := [.ref q]) rfl ?_
  refine At.gf rfl (by decide) hq rfl ?_
  refine At.clp (as := [.ref l2]) (rest := []) rfl (by decide) rfl (Nat.le_of_ble_eq_true rfl) (Nat.le_of_ble_eq_true rfl) (xrck_o (by decide) (by decide) h20 (by decide)) (Nat.le_of_ble_eq_true rfl) (m_size hL2) ?_
  refine At.go (q := xm153) rfl 2 (pc' := 23) (L' := [(2, .int (Int32.ofNat bs.length)), (0, .ref q), (1, .int (Int32.ofNat (i * bs.length + j)))]) (st' := [.int (Int32.ofNat bs.length)]) rfl ?_
  refine At.ic1 (tgt := 36) rfl rfl (fun h => absurd (h.symm.trans (decide_eq_false (fun h => absurd ((iN_le (a := bs.length) (b := 0) (by omega) (by omega)).mp h) (by omega)))) (by decide)) (fun _ => ?_)
  refine At.go (q := xm153) rfl 1 (pc' := 27) (L' := [(2, .int (Int32.ofNat bs.length)), (0, .ref q), (1, .int (Int32.ofNat (i * bs.length + j)))]) (st' := [.int (Int32.ofNat (i * bs.length + j))]) rfl ?_
  refine At.ic1 (tgt := 36) rfl rfl (fun h => absurd (h.symm.trans (decide_eq_false (iN_nn hbig))) (by decide)) (fun _ => ?_)
  refine At.go (q := xm153) rfl 2 (pc' := 32) (L' := [(2, .int (Int32.ofNat bs.length)), (0, .ref q), (1, .int (Int32.ofNat (i * bs.length + j)))]) (st' := [.int (Int32.ofNat bs.length), .int (Int32.ofNat (i * bs.length + j))]) rfl ?_
  refine At.dv rfl hnz ?_
  rw [(iN_rem hj9 hbig (by omega)).1]
  refine At.go (q := xm153) rfl 3 (pc' := 39) (L' := [(3, .int (Int32.ofNat i)), (2, .int (Int32.ofNat bs.length)), (0, .ref q), (1, .int (Int32.ofNat (i * bs.length + j)))]) (st' := [.int (Int32.ofNat i)]) rfl ?_
  refine At.ic1 (tgt := 67) rfl rfl (fun h => absurd (h.symm.trans (decide_eq_false (iN_nn (by omega)))) (by decide)) (fun _ => ?_)
  refine At.go (q := xm153) rfl 2 (pc' := 44) (L' := [(3, .int (Int32.ofNat i)), (2, .int (Int32.ofNat bs.length)), (0, .ref q), (1, .int (Int32.ofNat (i * bs.length + j)))]) (st' := [.ref q, .int (Int32.ofNat i)]) rfl ?_
  refine At.gf rfl (by decide) hq rfl ?_
  refine At.clp (as := [.ref l1]) (rest := [.int (Int32.ofNat i)]) rfl (by decide) rfl (Nat.le_of_ble_eq_true rfl) (Nat.le_of_ble_eq_true rfl) (xrck_o (by decide) (by decide) h10 (by decide)) (Nat.le_of_ble_eq_true rfl) (m_size hL1) ?_
  refine At.ic2 (tgt := 67) rfl rfl (fun h => absurd (h.symm.trans (decide_eq_false (fun h => absurd ((iN_le (a := as.length) (b := i) (by omega) (by omega)).mp h) (by omega)))) (by decide)) (fun _ => ?_)
  refine At.go (q := xm153) rfl 1 (pc' := 54) (L' := [(3, .int (Int32.ofNat i)), (2, .int (Int32.ofNat bs.length)), (0, .ref q), (1, .int (Int32.ofNat (i * bs.length + j)))]) (st' := [.ref q]) rfl ?_
  refine At.gf rfl (by decide) hq rfl ?_
  refine At.go (q := xm153) rfl 1 (pc' := 58) (L' := [(3, .int (Int32.ofNat i)), (2, .int (Int32.ofNat bs.length)), (0, .ref q), (1, .int (Int32.ofNat (i * bs.length + j)))]) (st' := [.int (Int32.ofNat i), .ref l1]) rfl ?_
  refine At.clp (as := [.ref l1, .int (Int32.ofNat i)]) (rest := []) rfl (by decide) rfl (Nat.le_of_ble_eq_true rfl) (Nat.le_of_ble_eq_true rfl) (xrck_o (by decide) (by decide) h10 (by decide)) (Nat.le_of_ble_eq_true rfl) (m_get hL1 ha) ?_
  refine At.ca rfl hao (by decide) ?_
  refine At.go (q := xm153) rfl 1 (pc' := 68) (L' := [(3, .int (Int32.ofNat i)), (2, .int (Int32.ofNat bs.length)), (0, .ref q), (1, .int (Int32.ofNat (i * bs.length + j)))]) (st' := [.ref a]) rfl ?_
  exact At.rt rfl rfl rfl
theorem m_second0 {S : List Int32} {hp : List XC} {q : Nat} {st mn l1 l2 pa n li ln : Nat} {kp off so dn lc wd : Int32} {jn : Int32} {sf : List Value} {as bs : List Nat} (hq : hp[q]? = some (.inr (7, [.ref st, .ref mn, .ref l1, .ref l2, .ref pa, .int (Int32.ofNat n), .ref li, .int kp, .int off, .int so, .int dn, .ref ln, .int lc, .int wd]))) (hst : hp[st]? = some (.inr (12, sf))) (hj : sf[6]? = some (.int jn)) (hL1 : hLs hp l1 as) (hL2 : hLs hp l2 bs) (hneg : jn < 0) (x : Int32) : Pu S 3 154 [.ref q, .int x] hp .null := by
  obtain ⟨f1, h10⟩ := hL1.ob
  obtain ⟨f2, h20⟩ := hL2.ob
  have hb1 := hL1.len
  have hb2 := hL2.len
  refine At.go (q := xm154) rfl 1 (pc' := 1) (L' := [(0, .ref q), (1, .int x)]) (st' := [.ref q]) rfl ?_
  refine At.gf rfl (by decide) hq rfl ?_
  refine At.gf rfl (by decide) hst hj ?_
  refine At.ic1 (tgt := 14) rfl rfl (fun h => absurd (of_decide_eq_true h) (Int32.not_le.mpr hneg)) (fun _ => ?_)
  refine At.go (q := xm154) rfl 10 (pc' := 68) (L' := [(3, .int (-1)), (2, .int 0), (0, .ref q), (1, .int x)]) (st' := [.null]) rfl ?_
  exact At.rt rfl rfl rfl
theorem m_secondN {S : List Int32} {hp : List XC} {q : Nat} {st mn l1 l2 pa n li ln : Nat} {kp off so dn lc wd : Int32} {jn : Int32} {sf : List Value} {as bs : List Nat} (hq : hp[q]? = some (.inr (7, [.ref st, .ref mn, .ref l1, .ref l2, .ref pa, .int (Int32.ofNat n), .ref li, .int kp, .int off, .int so, .int dn, .ref ln, .int lc, .int wd]))) (hst : hp[st]? = some (.inr (12, sf))) (hj : sf[6]? = some (.int jn)) (hL1 : hLs hp l1 as) (hL2 : hLs hp l2 bs) : Pu S 3 154 [.ref q, .int (-1)] hp .null := by
  obtain ⟨f1, h10⟩ := hL1.ob
  obtain ⟨f2, h20⟩ := hL2.ob
  have hb1 := hL1.len
  have hb2 := hL2.len
  refine At.go (q := xm154) rfl 1 (pc' := 1) (L' := [(0, .ref q), (1, .int (-1))]) (st' := [.ref q]) rfl ?_
  refine At.gf rfl (by decide) hq rfl ?_
  refine At.gf rfl (by decide) hst hj ?_
  refine At.ic1 (tgt := 14) rfl rfl (fun h7 => ?_) (fun h7 => ?_)
  · refine At.go (q := xm154) rfl 1 (pc' := 15) (L' := [(0, .ref q), (1, .int (-1))]) (st' := [.ref q]) rfl ?_
    refine At.gf rfl (by decide) hq rfl ?_
    refine At.clp (as := [.ref l2]) (rest := []) rfl (by decide) rfl (Nat.le_of_ble_eq_true rfl) (Nat.le_of_ble_eq_true rfl) (xrck_o (by decide) (by decide) h20 (by decide)) (Nat.le_of_ble_eq_true rfl) (m_size hL2) ?_
    refine At.go (q := xm154) rfl 2 (pc' := 23) (L' := [(2, .int (Int32.ofNat bs.length)), (0, .ref q), (1, .int (-1))]) (st' := [.int (Int32.ofNat bs.length)]) rfl ?_
    refine At.ic1 (tgt := 36) rfl rfl (fun _ => ?_) (fun _ => ?_)
    · refine At.go (q := xm154) rfl 5 (pc' := 68) (L' := [(3, .int (-1)), (2, .int (Int32.ofNat bs.length)), (0, .ref q), (1, .int (-1))]) (st' := [.null]) rfl ?_
      exact At.rt rfl rfl rfl
    · refine At.go (q := xm154) rfl 7 (pc' := 68) (L' := [(3, .int (-1)), (2, .int (Int32.ofNat bs.length)), (0, .ref q), (1, .int (-1))]) (st' := [.null]) rfl ?_
      exact At.rt rfl rfl rfl
  · refine At.go (q := xm154) rfl 10 (pc' := 68) (L' := [(3, .int (-1)), (2, .int 0), (0, .ref q), (1, .int (-1))]) (st' := [.null]) rfl ?_
    exact At.rt rfl rfl rfl
theorem m_secondJ {S : List Int32} {hp : List XC} {q : Nat} {st mn l1 l2 pa n li ln : Nat} {kp off so dn lc wd : Int32} {jn : Int32} {sf : List Value} {as bs : List Nat} (hq : hp[q]? = some (.inr (7, [.ref st, .ref mn, .ref l1, .ref l2, .ref pa, .int (Int32.ofNat n), .ref li, .int kp, .int off, .int so, .int dn, .ref ln, .int lc, .int wd]))) (hst : hp[st]? = some (.inr (12, sf))) (hj : sf[6]? = some (.int jn)) (hL1 : hLs hp l1 as) (hL2 : hLs hp l2 bs) (hnn : ¬ jn < 0) {i j a : Nat} {ef : List Value} (hj9 : j < bs.length) (ha : bs[j]? = some a) (hao : hp[a]? = some (.inr (4, ef))) (hbig : i * bs.length + j < 2 ^ 31) : Pu S 3 154 [.ref q, .int (Int32.ofNat (i * bs.length + j))] hp (.ref a) := by
  obtain ⟨f1, h10⟩ := hL1.ob
  obtain ⟨f2, h20⟩ := hL2.ob
  have hb1 := hL1.len
  have hb2 := hL2.len
  have hi := (List.getElem?_eq_some_iff.mp ha).1
  have hnz : ¬ Int32.ofNat bs.length = 0 := fun h => by have := iN_inj (b := 0) (by omega) (by omega) h; omega
  refine At.go (q := xm154) rfl 1 (pc' := 1) (L' := [(0, .ref q), (1, .int (Int32.ofNat (i * bs.length + j)))]) (st' := [.ref q]) rfl ?_
  refine At.gf rfl (by decide) hq rfl ?_
  refine At.gf rfl (by decide) hst hj ?_
  refine At.ic1 (tgt := 14) rfl rfl (fun _ => ?_) (fun h => absurd (Int32.not_lt.mp hnn) (fun q => of_decide_eq_false h q))
  refine At.go (q := xm154) rfl 1 (pc' := 15) (L' := [(0, .ref q), (1, .int (Int32.ofNat (i * bs.length + j)))]) (st' := [.ref q]) rfl ?_
  refine At.gf rfl (by decide) hq rfl ?_
  refine At.clp (as := [.ref l2]) (rest := []) rfl (by decide) rfl (Nat.le_of_ble_eq_true rfl) (Nat.le_of_ble_eq_true rfl) (xrck_o (by decide) (by decide) h20 (by decide)) (Nat.le_of_ble_eq_true rfl) (m_size hL2) ?_
  refine At.go (q := xm154) rfl 2 (pc' := 23) (L' := [(2, .int (Int32.ofNat bs.length)), (0, .ref q), (1, .int (Int32.ofNat (i * bs.length + j)))]) (st' := [.int (Int32.ofNat bs.length)]) rfl ?_
  refine At.ic1 (tgt := 36) rfl rfl (fun h => absurd (h.symm.trans (decide_eq_false (fun h => absurd ((iN_le (a := bs.length) (b := 0) (by omega) (by omega)).mp h) (by omega)))) (by decide)) (fun _ => ?_)
  refine At.go (q := xm154) rfl 1 (pc' := 27) (L' := [(2, .int (Int32.ofNat bs.length)), (0, .ref q), (1, .int (Int32.ofNat (i * bs.length + j)))]) (st' := [.int (Int32.ofNat (i * bs.length + j))]) rfl ?_
  refine At.ic1 (tgt := 36) rfl rfl (fun h => absurd (h.symm.trans (decide_eq_false (iN_nn hbig))) (by decide)) (fun _ => ?_)
  refine At.go (q := xm154) rfl 2 (pc' := 32) (L' := [(2, .int (Int32.ofNat bs.length)), (0, .ref q), (1, .int (Int32.ofNat (i * bs.length + j)))]) (st' := [.int (Int32.ofNat bs.length), .int (Int32.ofNat (i * bs.length + j))]) rfl ?_
  refine At.rm rfl hnz ?_
  rw [(iN_rem hj9 hbig (by omega)).2]
  refine At.go (q := xm154) rfl 3 (pc' := 39) (L' := [(3, .int (Int32.ofNat j)), (2, .int (Int32.ofNat bs.length)), (0, .ref q), (1, .int (Int32.ofNat (i * bs.length + j)))]) (st' := [.int (Int32.ofNat j)]) rfl ?_
  refine At.ic1 (tgt := 67) rfl rfl (fun h => absurd (h.symm.trans (decide_eq_false (iN_nn (by omega)))) (by decide)) (fun _ => ?_)
  refine At.go (q := xm154) rfl 2 (pc' := 44) (L' := [(3, .int (Int32.ofNat j)), (2, .int (Int32.ofNat bs.length)), (0, .ref q), (1, .int (Int32.ofNat (i * bs.length + j)))]) (st' := [.ref q, .int (Int32.ofNat j)]) rfl ?_
  refine At.gf rfl (by decide) hq rfl ?_
  refine At.clp (as := [.ref l2]) (rest := [.int (Int32.ofNat j)]) rfl (by decide) rfl (Nat.le_of_ble_eq_true rfl) (Nat.le_of_ble_eq_true rfl) (xrck_o (by decide) (by decide) h20 (by decide)) (Nat.le_of_ble_eq_true rfl) (m_size hL2) ?_
  refine At.ic2 (tgt := 67) rfl rfl (fun h => absurd (h.symm.trans (decide_eq_false (fun h => absurd ((iN_le (a := bs.length) (b := j) (by omega) (by omega)).mp h) (by omega)))) (by decide)) (fun _ => ?_)
  refine At.go (q := xm154) rfl 1 (pc' := 54) (L' := [(3, .int (Int32.ofNat j)), (2, .int (Int32.ofNat bs.length)), (0, .ref q), (1, .int (Int32.ofNat (i * bs.length + j)))]) (st' := [.ref q]) rfl ?_
  refine At.gf rfl (by decide) hq rfl ?_
  refine At.go (q := xm154) rfl 1 (pc' := 58) (L' := [(3, .int (Int32.ofNat j)), (2, .int (Int32.ofNat bs.length)), (0, .ref q), (1, .int (Int32.ofNat (i * bs.length + j)))]) (st' := [.int (Int32.ofNat j), .ref l2]) rfl ?_
  refine At.clp (as := [.ref l2, .int (Int32.ofNat j)]) (rest := []) rfl (by decide) rfl (Nat.le_of_ble_eq_true rfl) (Nat.le_of_ble_eq_true rfl) (xrck_o (by decide) (by decide) h20 (by decide)) (Nat.le_of_ble_eq_true rfl) (m_get hL2 ha) ?_
  refine At.ca rfl hao (by decide) ?_
  refine At.go (q := xm154) rfl 1 (pc' := 68) (L' := [(3, .int (Int32.ofNat j)), (2, .int (Int32.ofNat bs.length)), (0, .ref q), (1, .int (Int32.ofNat (i * bs.length + j)))]) (st' := [.ref a]) rfl ?_
  exact At.rt rfl rfl rfl
