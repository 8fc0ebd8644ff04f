/-! queries: rows and lines compared (written by wip/p27/c99991.py) -/
/-- how a number stands to another one -/
def cmpI (a b : Int32) : Int32 := if a < b then -1 else if a = b then 0 else 1
theorem m_icmp {S : List Int32} {hp : List XC} (a b : Int32) : Pu S 0 162 [.int a, .int b] hp (.int (cmpI a b)) := by
  refine At.go (q := xm162) rfl 2 (pc' := 2) (L' := [(0, .int a), (1, .int b)]) (st' := [.int b, .int a]) rfl ?_
  refine At.ic2 (tgt := 9) rfl rfl (fun h2 => ?_) (fun h2 => ?_)
  · have hn : ¬ a < b := Int32.not_lt.mpr (of_decide_eq_true h2)
    refine At.go (q := xm162) rfl 2 (pc' := 11) (L' := [(0, .int a), (1, .int b)]) (st' := [.int b, .int a]) rfl ?_
    refine At.ic2 (tgt := 18) rfl rfl (fun h11 => ?_) (fun h11 => ?_)
    · refine At.go (q := xm162) rfl 1 (pc' := 19) (L' := [(0, .int a), (1, .int b)]) (st' := [.int 1]) rfl ?_
      exact At.rt rfl (xret_i rfl) (by unfold cmpI; rw [if_neg hn, if_neg (of_decide_eq_true h11)])
    · refine At.go (q := xm162) rfl 2 (pc' := 19) (L' := [(0, .int a), (1, .int b)]) (st' := [.int 0]) rfl ?_
      exact At.rt rfl (xret_i rfl) (by unfold cmpI; rw [if_neg hn, if_pos (xne_f h11)])
  · refine At.go (q := xm162) rfl 2 (pc' := 19) (L' := [(0, .int a), (1, .int b)]) (st' := [.int (-1)]) rfl ?_
    exact At.rt rfl (xret_i rfl) (by unfold cmpI; rw [if_pos (Int32.not_le.mp (of_decide_eq_false h2))])
theorem m_compareBy0 {S : List Int32} {hp : List XC} {q st mn l1 l2 pa li ln : Nat} {pn kp off so dn lc wd : Int32} {mc j a1 a2 : Nat} {sf mf ces : List Value} {e1 e2 : En} {x1 x2 : Int32} (hq : hp[q]? = some (.inr (7, [.ref st, .ref mn, .ref l1, .ref l2, .ref pa, .int pn, .ref li, .int kp, .int off, .int so, .int dn, .ref ln, .int lc, .int wd]))) (hst : hp[st]? = some (.inr (12, sf))) (h15 : sf[15]? = some (.int 1)) (hm : hp[mn]? = some (.inr (6, mf))) (hm9 : mf[9]? = some (.ref mc)) (hmc : hp[mc]? = some (.inl (17, ces))) (hcv : ces[0]? = some (.int (Int32.ofNat j))) (hcl : ces.length ≤ 1000) (hj : j ≤ 100000) (hE1 : hEn hp a1 e1) (hE2 : hEn hp a2 e2) (hf1 : Pu S 3 153 [.ref q, .int x1] hp (.ref a1)) (hs1 : Pu S 3 154 [.ref q, .int x1] hp (.null)) (hf2 : Pu S 3 153 [.ref q, .int x2] hp (.ref a2)) (hs2 : Pu S 3 154 [.ref q, .int x2] hp (.null)) : Pu S 4 161 [.ref q, .int x1, .int x2] hp (.int (cmpI (cellE e1.2.2.2.2.1 [] j) (cellE e2.2.2.2.2.1 [] j))) := by
  refine At.go (q := xm161) rfl 4 (pc' := 4) (L' := [(3, .int 0), (0, .ref q), (1, .int x1), (2, .int x2)]) (st' := [.ref q, .int 0]) rfl ?_
  refine At.gf rfl (by decide) hq rfl ?_
  refine At.gf rfl (by decide) hst h15 ?_
  refine At.ic2 (tgt := 72) rfl rfl (fun h => absurd (h.symm.trans (by decide : xcm .ge (0 : Int32) 1 = false)) (by decide)) (fun _ => ?_)
  refine At.go (q := xm161) rfl 1 (pc' := 14) (L' := [(3, .int 0), (0, .ref q), (1, .int x1), (2, .int x2)]) (st' := [.ref q]) rfl ?_
  refine At.gf rfl (by decide) hq rfl ?_
  refine At.go (q := xm161) rfl 1 (pc' := 18) (L' := [(3, .int 0), (0, .ref q), (1, .int x1), (2, .int x2)]) (st' := [.int 0, .ref mn]) rfl ?_
  refine At.clp (as := [.ref mn, .int 0]) (rest := []) rfl (by decide) rfl (Nat.le_of_ble_eq_true rfl) (Nat.le_of_ble_eq_true rfl) (xrck_o (by decide) (by decide) hm (by decide)) (Nat.le_of_ble_eq_true rfl) (m_mcolumn hm hm9 hmc (i := 0) hcv hcl) ?_
  refine At.go (q := xm161) rfl 3 (pc' := 25) (L' := [(4, .int (Int32.ofNat j)), (3, .int 0), (0, .ref q), (1, .int x1), (2, .int x2)]) (st' := [.int x1, .ref q]) rfl ?_
  refine At.clp (as := [.ref q, .int x1]) (rest := []) rfl (by decide) rfl (Nat.le_of_ble_eq_true rfl) (Nat.le_of_ble_eq_true rfl) (xrck_o (by decide) (by decide) hq (by decide)) (Nat.le_of_ble_eq_true rfl) (hf1) ?_
  refine At.go (q := xm161) rfl 2 (pc' := 30) (L' := [(4, .int (Int32.ofNat j)), (3, .int 0), (0, .ref q), (1, .int x1), (2, .int x2)]) (st' := [.int x1, .ref q, .ref a1]) rfl ?_
  refine At.clp (as := [.ref q, .int x1]) (rest := [.ref a1]) rfl (by decide) rfl (Nat.le_of_ble_eq_true rfl) (Nat.le_of_ble_eq_true rfl) (xrck_o (by decide) (by decide) hq (by decide)) (Nat.le_of_ble_eq_true rfl) (hs1) ?_
  refine At.go (q := xm161) rfl 1 (pc' := 35) (L' := [(4, .int (Int32.ofNat j)), (3, .int 0), (0, .ref q), (1, .int x1), (2, .int x2)]) (st' := [.int (Int32.ofNat j), .null, .ref a1]) rfl ?_
  refine At.clp (as := [.ref a1, .null, .int (Int32.ofNat j)]) (rest := []) rfl (by decide) rfl (Nat.le_of_ble_eq_true rfl) (Nat.le_of_ble_eq_true rfl) rfl (Nat.le_of_ble_eq_true rfl) (m_cellOf1 hE1 hj) ?_
  refine At.go (q := xm161) rfl 2 (pc' := 40) (L' := [(4, .int (Int32.ofNat j)), (3, .int 0), (0, .ref q), (1, .int x1), (2, .int x2)]) (st' := [.int x2, .ref q, .int (cellE e1.2.2.2.2.1 [] j)]) rfl ?_
  refine At.clp (as := [.ref q, .int x2]) (rest := [.int (cellE e1.2.2.2.2.1 [] j)]) rfl (by decide) rfl (Nat.le_of_ble_eq_true rfl) (Nat.le_of_ble_eq_true rfl) (xrck_o (by decide) (by decide) hq (by decide)) (Nat.le_of_ble_eq_true rfl) (hf2) ?_
  refine At.go (q := xm161) rfl 2 (pc' := 45) (L' := [(4, .int (Int32.ofNat j)), (3, .int 0), (0, .ref q), (1, .int x1), (2, .int x2)]) (st' := [.int x2, .ref q, .ref a2, .int (cellE e1.2.2.2.2.1 [] j)]) rfl ?_
  refine At.clp (as := [.ref q, .int x2]) (rest := [.ref a2, .int (cellE e1.2.2.2.2.1 [] j)]) rfl (by decide) rfl (Nat.le_of_ble_eq_true rfl) (Nat.le_of_ble_eq_true rfl) (xrck_o (by decide) (by decide) hq (by decide)) (Nat.le_of_ble_eq_true rfl) (hs2) ?_
  refine At.go (q := xm161) rfl 1 (pc' := 50) (L' := [(4, .int (Int32.ofNat j)), (3, .int 0), (0, .ref q), (1, .int x1), (2, .int x2)]) (st' := [.int (Int32.ofNat j), .null, .ref a2, .int (cellE e1.2.2.2.2.1 [] j)]) rfl ?_
  refine At.clp (as := [.ref a2, .null, .int (Int32.ofNat j)]) (rest := [.int (cellE e1.2.2.2.2.1 [] j)]) rfl (by decide) rfl (Nat.le_of_ble_eq_true rfl) (Nat.le_of_ble_eq_true rfl) rfl (Nat.le_of_ble_eq_true rfl) (m_cellOf1 hE2 hj) ?_
  refine At.clp (as := [.int (cellE e1.2.2.2.2.1 [] j), .int (cellE e2.2.2.2.2.1 [] j)]) (rest := []) rfl (by decide) rfl (Nat.le_of_ble_eq_true rfl) (Nat.le_of_ble_eq_true rfl) rfl (Nat.le_of_ble_eq_true rfl) (m_icmp (cellE e1.2.2.2.2.1 [] j) (cellE e2.2.2.2.2.1 [] j)) ?_
  refine At.go (q := xm161) rfl 2 (pc' := 60) (L' := [(5, .int (cmpI (cellE e1.2.2.2.2.1 [] j) (cellE e2.2.2.2.2.1 [] j))), (4, .int (Int32.ofNat j)), (3, .int 0), (0, .ref q), (1, .int x1), (2, .int x2)]) (st' := [.int (cmpI (cellE e1.2.2.2.2.1 [] j) (cellE e2.2.2.2.2.1 [] j))]) rfl ?_
  refine At.ic1 (tgt := 66) rfl rfl (fun h60 => ?_) (fun h60 => ?_)
  · refine At.go (q := xm161) rfl 4 (pc' := 4) (L' := [(3, .int (0 + 1)), (5, .int (cmpI (cellE e1.2.2.2.2.1 [] j) (cellE e2.2.2.2.2.1 [] j))), (4, .int (Int32.ofNat j)), (0, .ref q), (1, .int x1), (2, .int x2)]) (st' := [.ref q, .int (0 + 1)]) rfl ?_
    refine At.gf rfl (by decide) hq rfl ?_
    refine At.gf rfl (by decide) hst h15 ?_
    refine At.ic2 (tgt := 72) rfl rfl (fun _ => ?_) (fun h => absurd (h.symm.trans (by decide : xcm .ge ((0 : Int32) + 1) 1 = true)) (by decide))
    refine At.go (q := xm161) rfl 1 (pc' := 73) (L' := [(3, .int (0 + 1)), (5, .int (cmpI (cellE e1.2.2.2.2.1 [] j) (cellE e2.2.2.2.2.1 [] j))), (4, .int (Int32.ofNat j)), (0, .ref q), (1, .int x1), (2, .int x2)]) (st' := [.int 0]) rfl ?_
    exact At.rt rfl (xret_i rfl) (by rw [of_decide_eq_true h60])
  · refine At.go (q := xm161) rfl 1 (pc' := 65) (L' := [(5, .int (cmpI (cellE e1.2.2.2.2.1 [] j) (cellE e2.2.2.2.2.1 [] j))), (4, .int (Int32.ofNat j)), (3, .int 0), (0, .ref q), (1, .int x1), (2, .int x2)]) (st' := [.int (cmpI (cellE e1.2.2.2.2.1 [] j) (cellE e2.2.2.2.2.1 [] j))]) rfl ?_
    exact At.rt rfl (xret_i rfl) rfl
theorem m_compareByJ {S : List Int32} {hp : List XC} {q st mn l1 l2 pa li ln : Nat} {pn kp off so dn lc wd : Int32} {mc j a1 a2 : Nat} {sf mf ces : List Value} {e1 e2 : En} {x1 x2 : Int32} {w1 w2 : Nat} {g1 g2 : En} (hG1 : hEn hp w1 g1) (hG2 : hEn hp w2 g2) (hq : hp[q]? = some (.inr (7, [.ref st, .ref mn, .ref l1, .ref l2, .ref pa, .int pn, .ref li, .int kp, .int off, .int so, .int dn, .ref ln, .int lc, .int wd]))) (hst : hp[st]? = some (.inr (12, sf))) (h15 : sf[15]? = some (.int 1)) (hm : hp[mn]? = some (.inr (6, mf))) (hm9 : mf[9]? = some (.ref mc)) (hmc : hp[mc]? = some (.inl (17, ces))) (hcv : ces[0]? = some (.int (Int32.ofNat j))) (hcl : ces.length ≤ 1000) (hj : j ≤ 100000) (hE1 : hEn hp a1 e1) (hE2 : hEn hp a2 e2) (hf1 : Pu S 3 153 [.ref q, .int x1] hp (.ref a1)) (hs1 : Pu S 3 154 [.ref q, .int x1] hp (.ref w1)) (hf2 : Pu S 3 153 [.ref q, .int x2] hp (.ref a2)) (hs2 : Pu S 3 154 [.ref q, .int x2] hp (.ref w2)) : Pu S 4 161 [.ref q, .int x1, .int x2] hp (.int (cmpI (cellE e1.2.2.2.2.1 g1.2.2.2.2.1 j) (cellE e2.2.2.2.2.1 g2.2.2.2.2.1 j))) := by
  refine At.go (q := xm161) rfl 4 (pc' := 4) (L' := [(3, .int 0), (0, .ref q), (1, .int x1), (2, .int x2)]) (st' := [.ref q, .int 0]) rfl ?_
  refine At.gf rfl (by decide) hq rfl ?_
  refine At.gf rfl (by decide) hst h15 ?_
  refine At.ic2 (tgt := 72) rfl rfl (fun h => absurd (h.symm.trans (by decide : xcm .ge (0 : Int32) 1 = false)) (by decide)) (fun _ => ?_)
  refine At.go (q := xm161) rfl 1 (pc' := 14) (L' := [(3, .int 0), (0, .ref q), (1, .int x1), (2, .int x2)]) (st' := [.ref q]) rfl ?_
  refine At.gf rfl (by decide) hq rfl ?_
  refine At.go (q := xm161) rfl 1 (pc' := 18) (L' := [(3, .int 0), (0, .ref q), (1, .int x1), (2, .int x2)]) (st' := [.int 0, .ref mn]) rfl ?_
  refine At.clp (as := [.ref mn, .int 0]) (rest := []) rfl (by decide) rfl (Nat.le_of_ble_eq_true rfl) (Nat.le_of_ble_eq_true rfl) (xrck_o (by decide) (by decide) hm (by decide)) (Nat.le_of_ble_eq_true rfl) (m_mcolumn hm hm9 hmc (i := 0) hcv hcl) ?_
  refine At.go (q := xm161) rfl 3 (pc' := 25) (L' := [(4, .int (Int32.ofNat j)), (3, .int 0), (0, .ref q), (1, .int x1), (2, .int x2)]) (st' := [.int x1, .ref q]) rfl ?_
  refine At.clp (as := [.ref q, .int x1]) (rest := []) rfl (by decide) rfl (Nat.le_of_ble_eq_true rfl) (Nat.le_of_ble_eq_true rfl) (xrck_o (by decide) (by decide) hq (by decide)) (Nat.le_of_ble_eq_true rfl) (hf1) ?_
  refine At.go (q := xm161) rfl 2 (pc' := 30) (L' := [(4, .int (Int32.ofNat j)), (3, .int 0), (0, .ref q), (1, .int x1), (2, .int x2)]) (st' := [.int x1, .ref q, .ref a1]) rfl ?_
  refine At.clp (as := [.ref q, .int x1]) (rest := [.ref a1]) rfl (by decide) rfl (Nat.le_of_ble_eq_true rfl) (Nat.le_of_ble_eq_true rfl) (xrck_o (by decide) (by decide) hq (by decide)) (Nat.le_of_ble_eq_true rfl) (hs1) ?_
  refine At.go (q := xm161) rfl 1 (pc' := 35) (L' := [(4, .int (Int32.ofNat j)), (3, .int 0), (0, .ref q), (1, .int x1), (2, .int x2)]) (st' := [.int (Int32.ofNat j), .ref w1, .ref a1]) rfl ?_
  refine At.clp (as := [.ref a1, .ref w1, .int (Int32.ofNat j)]) (rest := []) rfl (by decide) rfl (Nat.le_of_ble_eq_true rfl) (Nat.le_of_ble_eq_true rfl) rfl (Nat.le_of_ble_eq_true rfl) (m_cellOf2 hE1 hj hG1) ?_
  refine At.go (q := xm161) rfl 2 (pc' := 40) (L' := [(4, .int (Int32.ofNat j)), (3, .int 0), (0, .ref q), (1, .int x1), (2, .int x2)]) (st' := [.int x2, .ref q, .int (cellE e1.2.2.2.2.1 g1.2.2.2.2.1 j)]) rfl ?_
  refine At.clp (as := [.ref q, .int x2]) (rest := [.int (cellE e1.2.2.2.2.1 g1.2.2.2.2.1 j)]) rfl (by decide) rfl (Nat.le_of_ble_eq_true rfl) (Nat.le_of_ble_eq_true rfl) (xrck_o (by decide) (by decide) hq (by decide)) (Nat.le_of_ble_eq_true rfl) (hf2) ?_
  refine At.go (q := xm161) rfl 2 (pc' := 45) (L' := [(4, .int (Int32.ofNat j)), (3, .int 0), (0, .ref q), (1, .int x1), (2, .int x2)]) (st' := [.int x2, .ref q, .ref a2, .int (cellE e1.2.2.2.2.1 g1.2.2.2.2.1 j)]) rfl ?_
  refine At.clp (as := [.ref q, .int x2]) (rest := [.ref a2, .int (cellE e1.2.2.2.2.1 g1.2.2.2.2.1 j)]) rfl (by decide) rfl (Nat.le_of_ble_eq_true rfl) (Nat.le_of_ble_eq_true rfl) (xrck_o (by decide) (by decide) hq (by decide)) (Nat.le_of_ble_eq_true rfl) (hs2) ?_
  refine At.go (q := xm161) rfl 1 (pc' := 50) (L' := [(4, .int (Int32.ofNat j)), (3, .int 0), (0, .ref q), (1, .int x1), (2, .int x2)]) (st' := [.int (Int32.ofNat j), .ref w2, .ref a2, .int (cellE e1.2.2.2.2.1 g1.2.2.2.2.1 j)]) rfl ?_
  refine At.clp (as := [.ref a2, .ref w2, .int (Int32.ofNat j)]) (rest := [.int (cellE e1.2.2.2.2.1 g1.2.2.2.2.1 j)]) rfl (by decide) rfl (Nat.le_of_ble_eq_true rfl) (Nat.le_of_ble_eq_true rfl) rfl (Nat.le_of_ble_eq_true rfl) (m_cellOf2 hE2 hj hG2) ?_
  refine At.clp (as := [.int (cellE e1.2.2.2.2.1 g1.2.2.2.2.1 j), .int (cellE e2.2.2.2.2.1 g2.2.2.2.2.1 j)]) (rest := []) rfl (by decide) rfl (Nat.le_of_ble_eq_true rfl) (Nat.le_of_ble_eq_true rfl) rfl (Nat.le_of_ble_eq_true rfl) (m_icmp (cellE e1.2.2.2.2.1 g1.2.2.2.2.1 j) (cellE e2.2.2.2.2.1 g2.2.2.2.2.1 j)) ?_
  refine At.go (q := xm161) rfl 2 (pc' := 60) (L' := [(5, .int (cmpI (cellE e1.2.2.2.2.1 g1.2.2.2.2.1 j) (cellE e2.2.2.2.2.1 g2.2.2.2.2.1 j))), (4, .int (Int32.ofNat j)), (3, .int 0), (0, .ref q), (1, .int x1), (2, .int x2)]) (st' := [.int (cmpI (cellE e1.2.2.2.2.1 g1.2.2.2.2.1 j) (cellE e2.2.2.2.2.1 g2.2.2.2.2.1 j))]) rfl ?_
  refine At.ic1 (tgt := 66) rfl rfl (fun h60 => ?_) (fun h60 => ?_)
  · refine At.go (q := xm161) rfl 4 (pc' := 4) (L' := [(3, .int (0 + 1)), (5, .int (cmpI (cellE e1.2.2.2.2.1 g1.2.2.2.2.1 j) (cellE e2.2.2.2.2.1 g2.2.2.2.2.1 j))), (4, .int (Int32.ofNat j)), (0, .ref q), (1, .int x1), (2, .int x2)]) (st' := [.ref q, .int (0 + 1)]) rfl ?_
    refine At.gf rfl (by decide) hq rfl ?_
    refine At.gf rfl (by decide) hst h15 ?_
    refine At.ic2 (tgt := 72) rfl rfl (fun _ => ?_) (fun h => absurd (h.symm.trans (by decide : xcm .ge ((0 : Int32) + 1) 1 = true)) (by decide))
    refine At.go (q := xm161) rfl 1 (pc' := 73) (L' := [(3, .int (0 + 1)), (5, .int (cmpI (cellE e1.2.2.2.2.1 g1.2.2.2.2.1 j) (cellE e2.2.2.2.2.1 g2.2.2.2.2.1 j))), (4, .int (Int32.ofNat j)), (0, .ref q), (1, .int x1), (2, .int x2)]) (st' := [.int 0]) rfl ?_
    exact At.rt rfl (xret_i rfl) (by rw [of_decide_eq_true h60])
  · refine At.go (q := xm161) rfl 1 (pc' := 65) (L' := [(5, .int (cmpI (cellE e1.2.2.2.2.1 g1.2.2.2.2.1 j) (cellE e2.2.2.2.2.1 g2.2.2.2.2.1 j))), (4, .int (Int32.ofNat j)), (3, .int 0), (0, .ref q), (1, .int x1), (2, .int x2)]) (st' := [.int (cmpI (cellE e1.2.2.2.2.1 g1.2.2.2.2.1 j) (cellE e2.2.2.2.2.1 g2.2.2.2.2.1 j))]) rfl ?_
    exact At.rt rfl (xret_i rfl) rfl
/-- how a line stands to another one, by all its numbers -/
def lexC : List Int32 → List Int32 → Int32
  | a :: as, b :: bs => if a = b then lexC as bs else if a < b then -1 else 1
  | _, _ => 0
/-- how a line stands to one that is kept -/
def cmpL (so : Option Nat) (dn : Int32) (a b : List Int32) : Int32 := match so with
  | none => lexC a b
  | some k => if (a[k]?).getD 0 = (b[k]?).getD 0 then lexC a b else if (if (a[k]?).getD 0 < (b[k]?).getD 0 then (1 : Int32) else 0) = dn then 1 else -1
theorem lex_at {a b : List Int32} {k : Nat} {x z : Int32} (ha : a[k]? = some x) (hb : b[k]? = some z) : lexC (a.drop k) (b.drop k) = if x = z then lexC (a.drop (k + 1)) (b.drop (k + 1)) else if x < z then -1 else 1 := by
  rw [xdrop_q (l := a) (i := k), xdrop_q (l := b) (i := k), ha, hb]
  rfl
theorem cl_loop {S : List Int32} {hp : List XC} {q st mn l1 l2 pa li ln w i : Nat} {pn kp off dn lc : Int32} {la lb : List Int32} {so : Int32} (hq : hp[q]? = some (.inr (7, [.ref st, .ref mn, .ref l1, .ref l2, .ref pa, .int pn, .ref li, .int kp, .int off, .int so, .int dn, .ref ln, .int lc, .int (Int32.ofNat w)]))) (hli : hp[li]? = some (.inl (19, la.map Value.int))) (hln : hp[ln]? = some (.inl (20, lb.map Value.int))) (hla : la.length ≤ 1000) (hlb : lb.length ≤ 100000) (hw : w ≤ la.length) (hfit : i * w + w ≤ lb.length) : ∀ (j k : Nat), k + j = w → At S 0 158 111 [(3, .int (Int32.ofNat k)), (0, .ref q), (2, .int (Int32.ofNat (i * w)))] [] hp 0 0 (fun o => o = .inl (some (.int (lexC ((la.take w).drop k) (((lb.drop (i * w)).take w).drop k))), hp, 0, 0)) := by
  intro j
  induction j with
  | zero =>
    intro k hk
    refine At.go (q := xm158) rfl 2 (pc' := 113) (L' := [(3, .int (Int32.ofNat k)), (0, .ref q), (2, .int (Int32.ofNat (i * w)))]) (st' := [.ref q, .int (Int32.ofNat k)]) rfl ?_
    refine At.gf rfl (by decide) hq rfl ?_
    refine At.ic2 (tgt := 165) rfl rfl (fun _ => ?_) (fun h => absurd (h.symm.trans (decide_eq_true ((iN_le (a := w) (b := k) (by omega) (by omega)).mpr (by omega)))) (by decide))
    refine At.go (q := xm158) rfl 1 (pc' := 166) (L' := [(3, .int (Int32.ofNat k)), (0, .ref q), (2, .int (Int32.ofNat (i * w)))]) (st' := [.int 0]) rfl ?_
    exact At.rt rfl (xret_i rfl) (by rw [List.drop_eq_nil_of_le (show (la.take w).length ≤ k by rw [List.length_take]; omega)]; rfl)
  | succ j ih =>
    intro k hk
    obtain ⟨x, hx⟩ : ∃ x, la[k]? = some x := ⟨_, List.getElem?_eq_getElem (by omega)⟩
    obtain ⟨z, hz⟩ : ∃ z, lb[i * w + k]? = some z := ⟨_, List.getElem?_eq_getElem (by omega)⟩
    have hx2 : (la.take w)[k]? = some x := by rw [List.getElem?_take, if_pos (by omega)]; exact hx
    have hz2 : ((lb.drop (i * w)).take w)[k]? = some z := by rw [List.getElem?_take, if_pos (by omega), List.getElem?_drop]; exact hz
    have hadd : Int32.ofNat (i * w) + Int32.ofNat k = Int32.ofNat (i * w + k) := (Int32.ofNat_add _ _).symm
    rw [lex_at hx2 hz2]
    refine At.go (q := xm158) rfl 2 (pc' := 113) (L' := [(3, .int (Int32.ofNat k)), (0, .ref q), (2, .int (Int32.ofNat (i * w)))]) (st' := [.ref q, .int (Int32.ofNat k)]) rfl ?_
    refine At.gf rfl (by decide) hq rfl ?_
    refine At.ic2 (tgt := 165) rfl rfl (fun h => absurd (h.symm.trans (decide_eq_false (fun h => absurd ((iN_le (a := w) (b := k) (by omega) (by omega)).mp h) (by omega)))) (by decide)) (fun _ => ?_)
    refine At.go (q := xm158) rfl 1 (pc' := 120) (L' := [(3, .int (Int32.ofNat k)), (0, .ref q), (2, .int (Int32.ofNat (i * w)))]) (st' := [.ref q]) rfl ?_
    refine At.gf rfl (by decide) hq rfl ?_
    refine At.go (q := xm158) rfl 1 (pc' := 124) (L' := [(3, .int (Int32.ofNat k)), (0, .ref q), (2, .int (Int32.ofNat (i * w)))]) (st' := [.int (Int32.ofNat k), .ref li]) rfl ?_
    refine At.al rfl hli (by decide) rfl (iN_nn (by omega)) (by rw [iN_tn (by omega), List.getElem?_map, hx]; rfl) ?_
    refine At.go (q := xm158) rfl 1 (pc' := 126) (L' := [(3, .int (Int32.ofNat k)), (0, .ref q), (2, .int (Int32.ofNat (i * w)))]) (st' := [.ref q, .int x]) rfl ?_
    refine At.gf rfl (by decide) hq rfl ?_
    refine At.go (q := xm158) rfl 3 (pc' := 132) (L' := [(3, .int (Int32.ofNat k)), (0, .ref q), (2, .int (Int32.ofNat (i * w)))]) (st' := [.int ((Int32.ofNat (i * w)) + (Int32.ofNat k)), .ref ln, .int x]) rfl ?_
    refine At.al rfl hln (by decide) rfl (by rw [hadd]; exact iN_nn (by omega)) (by rw [hadd, iN_tn (by omega), List.getElem?_map, hz]; rfl) ?_
    refine At.ic2 (tgt := 159) rfl rfl (fun h133 => ?_) (fun h133 => ?_)
    · refine At.go (q := xm158) rfl 2 (pc' := 111) (L' := [(3, .int ((Int32.ofNat k) + 1)), (0, .ref q), (2, .int (Int32.ofNat (i * w)))]) (st' := []) rfl ?_
      rw [iN_s, if_pos (of_decide_eq_true h133)]
      refine At.wk (L' := [(3, .int (Int32.ofNat (k + 1))), (0, .ref q), (2, .int (Int32.ofNat (i * w)))]) (List.forall_mem_cons.mpr ⟨List.mem_of_getElem? (i := 0) rfl, (List.forall_mem_cons.mpr ⟨List.mem_of_getElem? (i := 1) rfl, (List.forall_mem_cons.mpr ⟨List.mem_of_getElem? (i := 2) rfl, (fun _ h => (List.not_mem_nil h).elim)⟩)⟩)⟩) (show ([3, 0, 2] : List Nat).Nodup by decide) ?_
      exact ih (k + 1) (by omega)
    · refine At.go (q := xm158) rfl 1 (pc' := 137) (L' := [(3, .int (Int32.ofNat k)), (0, .ref q), (2, .int (Int32.ofNat (i * w)))]) (st' := [.ref q]) rfl ?_
      refine At.gf rfl (by decide) hq rfl ?_
      refine At.go (q := xm158) rfl 1 (pc' := 141) (L' := [(3, .int (Int32.ofNat k)), (0, .ref q), (2, .int (Int32.ofNat (i * w)))]) (st' := [.int (Int32.ofNat k), .ref li]) rfl ?_
      refine At.al rfl hli (by decide) rfl (iN_nn (by omega)) (by rw [iN_tn (by omega), List.getElem?_map, hx]; rfl) ?_
      refine At.go (q := xm158) rfl 1 (pc' := 143) (L' := [(3, .int (Int32.ofNat k)), (0, .ref q), (2, .int (Int32.ofNat (i * w)))]) (st' := [.ref q, .int x]) rfl ?_
      refine At.gf rfl (by decide) hq rfl ?_
      refine At.go (q := xm158) rfl 3 (pc' := 149) (L' := [(3, .int (Int32.ofNat k)), (0, .ref q), (2, .int (Int32.ofNat (i * w)))]) (st' := [.int ((Int32.ofNat (i * w)) + (Int32.ofNat k)), .ref ln, .int x]) rfl ?_
      refine At.al rfl hln (by decide) rfl (by rw [hadd]; exact iN_nn (by omega)) (by rw [hadd, iN_tn (by omega), List.getElem?_map, hz]; rfl) ?_
      refine At.ic2 (tgt := 157) rfl rfl (fun h150 => ?_) (fun h150 => ?_)
      · refine At.go (q := xm158) rfl 1 (pc' := 158) (L' := [(3, .int (Int32.ofNat k)), (0, .ref q), (2, .int (Int32.ofNat (i * w)))]) (st' := [.int 1]) rfl ?_
        exact At.rt rfl (xret_i rfl) (by rw [if_neg (of_decide_eq_false h133), if_neg (Int32.not_lt.mpr (of_decide_eq_true h150))])
      · refine At.go (q := xm158) rfl 2 (pc' := 158) (L' := [(3, .int (Int32.ofNat k)), (0, .ref q), (2, .int (Int32.ofNat (i * w)))]) (st' := [.int (-1)]) rfl ?_
        exact At.rt rfl (xret_i rfl) (by rw [if_neg (of_decide_eq_false h133), if_pos (Int32.not_le.mp (of_decide_eq_false h150))])
theorem m_compareLineN {S : List Int32} {hp : List XC} {q st mn l1 l2 pa li ln w i : Nat} {pn kp off dn lc : Int32} {la lb : List Int32} (hq : hp[q]? = some (.inr (7, [.ref st, .ref mn, .ref l1, .ref l2, .ref pa, .int pn, .ref li, .int kp, .int off, .int (-1), .int dn, .ref ln, .int lc, .int (Int32.ofNat w)]))) (hli : hp[li]? = some (.inl (19, la.map Value.int))) (hln : hp[ln]? = some (.inl (20, lb.map Value.int))) (hla : la.length ≤ 1000) (hlb : lb.length ≤ 100000) (hw : w ≤ la.length) (hfit : i * w + w ≤ lb.length) : Pu S 0 158 [.ref q, .int (Int32.ofNat i)] hp (.int (cmpL none dn (la.take w) ((lb.drop (i * w)).take w))) := by
  refine At.go (q := xm158) rfl 2 (pc' := 2) (L' := [(0, .ref q), (1, .int (Int32.ofNat i))]) (st' := [.ref q, .int (Int32.ofNat i)]) rfl ?_
  refine At.gf rfl (by decide) hq rfl ?_
  refine At.go (q := xm158) rfl 1 (pc' := 6) (L' := [(0, .ref q), (1, .int (Int32.ofNat i))]) (st' := [.int ((Int32.ofNat i) * (Int32.ofNat w))]) rfl ?_
  rw [show Int32.ofNat i * Int32.ofNat w = Int32.ofNat (i * w) from (Int32.ofNat_mul _ _).symm]
  refine At.go (q := xm158) rfl 2 (pc' := 8) (L' := [(2, .int (Int32.ofNat (i * w))), (0, .ref q), (1, .int (Int32.ofNat i))]) (st' := [.int (Int32.ofNat (i * w))]) rfl ?_
  refine At.ic1 (tgt := 25) rfl rfl (fun h => absurd (h.symm.trans (decide_eq_false (iN_nn (by omega)))) (by decide)) (fun _ => ?_)
  refine At.go (q := xm158) rfl 2 (pc' := 13) (L' := [(2, .int (Int32.ofNat (i * w))), (0, .ref q), (1, .int (Int32.ofNat i))]) (st' := [.ref q, .int (Int32.ofNat (i * w))]) rfl ?_
  refine At.gf rfl (by decide) hq rfl ?_
  refine At.go (q := xm158) rfl 2 (pc' := 18) (L' := [(2, .int (Int32.ofNat (i * w))), (0, .ref q), (1, .int (Int32.ofNat i))]) (st' := [.ref q, .int ((Int32.ofNat (i * w)) + (Int32.ofNat w))]) rfl ?_
  refine At.gf rfl (by decide) hq rfl ?_
  refine At.ln rfl hln ?_
  rw [List.length_map, show Int32.ofNat (i * w) + Int32.ofNat w = Int32.ofNat (i * w + w) from (Int32.ofNat_add _ _).symm]
  refine At.ic2 (tgt := 27) rfl rfl (fun _ => ?_) (fun h => absurd (decide_eq_true ((iN_le (a := i * w + w) (b := lb.length) (by omega) (by omega)).mpr hfit)) (by rw [show decide (Int32.ofNat (i * w + w) ≤ Int32.ofNat lb.length) = false from h]; decide))
  refine At.go (q := xm158) rfl 1 (pc' := 28) (L' := [(2, .int (Int32.ofNat (i * w))), (0, .ref q), (1, .int (Int32.ofNat i))]) (st' := [.ref q]) rfl ?_
  refine At.gf rfl (by decide) hq rfl ?_
  refine At.go (q := xm158) rfl 3 (pc' := 111) (L' := [(3, .int 0), (2, .int (Int32.ofNat (i * w))), (0, .ref q), (1, .int (Int32.ofNat i))]) (st' := []) rfl ?_
  refine At.wk (L' := [(3, .int (Int32.ofNat 0)), (0, .ref q), (2, .int (Int32.ofNat (i * w)))]) (List.forall_mem_cons.mpr ⟨List.mem_of_getElem? (i := 0) rfl, (List.forall_mem_cons.mpr ⟨List.mem_of_getElem? (i := 2) rfl, (List.forall_mem_cons.mpr ⟨List.mem_of_getElem? (i := 1) rfl, (fun _ h => (List.not_mem_nil h).elim)⟩)⟩)⟩) (show ([3, 2, 0, 1] : List Nat).Nodup by decide) ?_
  refine (cl_loop hq hli hln hla hlb hw hfit w 0 (Nat.zero_add _)).mono (fun o ho => ?_)
  rw [ho, List.drop_zero, List.drop_zero]
  rfl
theorem m_compareLineS {S : List Int32} {hp : List XC} {q st mn l1 l2 pa li ln w i : Nat} {pn kp off dn lc : Int32} {la lb : List Int32} {k : Nat} (hq : hp[q]? = some (.inr (7, [.ref st, .ref mn, .ref l1, .ref l2, .ref pa, .int pn, .ref li, .int kp, .int off, .int (Int32.ofNat k), .int dn, .ref ln, .int lc, .int (Int32.ofNat w)]))) (hli : hp[li]? = some (.inl (19, la.map Value.int))) (hln : hp[ln]? = some (.inl (20, lb.map Value.int))) (hla : la.length ≤ 1000) (hlb : lb.length ≤ 100000) (hw : w ≤ la.length) (hfit : i * w + w ≤ lb.length) (hkw : k < w) : Pu S 0 158 [.ref q, .int (Int32.ofNat i)] hp (.int (cmpL (some k) dn (la.take w) ((lb.drop (i * w)).take w))) := by
  refine At.go (q := xm158) rfl 2 (pc' := 2) (L' := [(0, .ref q), (1, .int (Int32.ofNat i))]) (st' := [.ref q, .int (Int32.ofNat i)]) rfl ?_
  refine At.gf rfl (by decide) hq rfl ?_
  refine At.go (q := xm158) rfl 1 (pc' := 6) (L' := [(0, .ref q), (1, .int (Int32.ofNat i))]) (st' := [.int ((Int32.ofNat i) * (Int32.ofNat w))]) rfl ?_
  rw [show Int32.ofNat i * Int32.ofNat w = Int32.ofNat (i * w) from (Int32.ofNat_mul _ _).symm]
  obtain ⟨x, hx⟩ : ∃ x, la[k]? = some x := ⟨_, List.getElem?_eq_getElem (by omega)⟩
  obtain ⟨z, hz⟩ : ∃ z, lb[i * w + k]? = some z := ⟨_, List.getElem?_eq_getElem (by omega)⟩
  have hx2 : (la.take w)[k]? = some x := by rw [List.getElem?_take, if_pos (by omega)]; exact hx
  have hz2 : ((lb.drop (i * w)).take w)[k]? = some z := by rw [List.getElem?_take, if_pos (by omega), List.getElem?_drop]; exact hz
  have hadd : Int32.ofNat (i * w) + Int32.ofNat k = Int32.ofNat (i * w + k) := (Int32.ofNat_add _ _).symm
  refine At.go (q := xm158) rfl 2 (pc' := 8) (L' := [(2, .int (Int32.ofNat (i * w))), (0, .ref q), (1, .int (Int32.ofNat i))]) (st' := [.int (Int32.ofNat (i * w))]) rfl ?_
  refine At.ic1 (tgt := 25) rfl rfl (fun h => absurd (h.symm.trans (decide_eq_false (iN_nn (by omega)))) (by decide)) (fun _ => ?_)
  refine At.go (q := xm158) rfl 2 (pc' := 13) (L' := [(2, .int (Int32.ofNat (i * w))), (0, .ref q), (1, .int (Int32.ofNat i))]) (st' := [.ref q, .int (Int32.ofNat (i * w))]) rfl ?_
  refine At.gf rfl (by decide) hq rfl ?_
  refine At.go (q := xm158) rfl 2 (pc' := 18) (L' := [(2, .int (Int32.ofNat (i * w))), (0, .ref q), (1, .int (Int32.ofNat i))]) (st' := [.ref q, .int ((Int32.ofNat (i * w)) + (Int32.ofNat w))]) rfl ?_
  refine At.gf rfl (by decide) hq rfl ?_
  refine At.ln rfl hln ?_
  rw [List.length_map, show Int32.ofNat (i * w) + Int32.ofNat w = Int32.ofNat (i * w + w) from (Int32.ofNat_add _ _).symm]
  refine At.ic2 (tgt := 27) rfl rfl (fun _ => ?_) (fun h => absurd (decide_eq_true ((iN_le (a := i * w + w) (b := lb.length) (by omega) (by omega)).mpr hfit)) (by rw [show decide (Int32.ofNat (i * w + w) ≤ Int32.ofNat lb.length) = false from h]; decide))
  refine At.go (q := xm158) rfl 1 (pc' := 28) (L' := [(2, .int (Int32.ofNat (i * w))), (0, .ref q), (1, .int (Int32.ofNat i))]) (st' := [.ref q]) rfl ?_
  refine At.gf rfl (by decide) hq rfl ?_
  refine At.ic1 (tgt := 109) rfl rfl (fun h => absurd (h.symm.trans (decide_eq_false (iN_nn (by omega)))) (by decide)) (fun _ => ?_)
  refine At.go (q := xm158) rfl 1 (pc' := 35) (L' := [(2, .int (Int32.ofNat (i * w))), (0, .ref q), (1, .int (Int32.ofNat i))]) (st' := [.ref q]) rfl ?_
  refine At.gf rfl (by decide) hq rfl ?_
  refine At.go (q := xm158) rfl 1 (pc' := 39) (L' := [(2, .int (Int32.ofNat (i * w))), (0, .ref q), (1, .int (Int32.ofNat i))]) (st' := [.ref q, .int (Int32.ofNat k)]) rfl ?_
  refine At.gf rfl (by decide) hq rfl ?_
  refine At.ic2 (tgt := 109) rfl rfl (fun h => absurd (h.symm.trans (decide_eq_false (fun h => absurd ((iN_le (a := w) (b := k) (by omega) (by omega)).mp h) (by omega)))) (by decide)) (fun _ => ?_)
  refine At.go (q := xm158) rfl 1 (pc' := 46) (L' := [(2, .int (Int32.ofNat (i * w))), (0, .ref q), (1, .int (Int32.ofNat i))]) (st' := [.ref q]) rfl ?_
  refine At.gf rfl (by decide) hq rfl ?_
  refine At.go (q := xm158) rfl 1 (pc' := 50) (L' := [(2, .int (Int32.ofNat (i * w))), (0, .ref q), (1, .int (Int32.ofNat i))]) (st' := [.ref q, .ref li]) rfl ?_
  refine At.gf rfl (by decide) hq rfl ?_
  refine At.al rfl hli (by decide) rfl (iN_nn (by omega)) (by rw [iN_tn (by omega), List.getElem?_map, hx]; rfl) ?_
  refine At.go (q := xm158) rfl 1 (pc' := 55) (L' := [(2, .int (Int32.ofNat (i * w))), (0, .ref q), (1, .int (Int32.ofNat i))]) (st' := [.ref q, .int x]) rfl ?_
  refine At.gf rfl (by decide) hq rfl ?_
  refine At.go (q := xm158) rfl 2 (pc' := 60) (L' := [(2, .int (Int32.ofNat (i * w))), (0, .ref q), (1, .int (Int32.ofNat i))]) (st' := [.ref q, .int (Int32.ofNat (i * w)), .ref ln, .int x]) rfl ?_
  refine At.gf rfl (by decide) hq rfl ?_
  refine At.go (q := xm158) rfl 1 (pc' := 64) (L' := [(2, .int (Int32.ofNat (i * w))), (0, .ref q), (1, .int (Int32.ofNat i))]) (st' := [.int ((Int32.ofNat (i * w)) + (Int32.ofNat k)), .ref ln, .int x]) rfl ?_
  refine At.al rfl hln (by decide) rfl (by rw [hadd]; exact iN_nn (by omega)) (by rw [hadd, iN_tn (by omega), List.getElem?_map, hz]; rfl) ?_
  refine At.ic2 (tgt := 109) rfl rfl (fun h65 => ?_) (fun h65 => ?_)
  · refine At.go (q := xm158) rfl 2 (pc' := 111) (L' := [(3, .int 0), (2, .int (Int32.ofNat (i * w))), (0, .ref q), (1, .int (Int32.ofNat i))]) (st' := []) rfl ?_
    refine At.wk (L' := [(3, .int (Int32.ofNat 0)), (0, .ref q), (2, .int (Int32.ofNat (i * w)))]) (List.forall_mem_cons.mpr ⟨List.mem_of_getElem? (i := 0) rfl, (List.forall_mem_cons.mpr ⟨List.mem_of_getElem? (i := 2) rfl, (List.forall_mem_cons.mpr ⟨List.mem_of_getElem? (i := 1) rfl, (fun _ h => (List.not_mem_nil h).elim)⟩)⟩)⟩) (show ([3, 2, 0, 1] : List Nat).Nodup by decide) ?_
    refine (cl_loop hq hli hln hla hlb hw hfit w 0 (Nat.zero_add _)).mono (fun o ho => ?_)
    rw [ho, List.drop_zero, List.drop_zero]
    unfold cmpL
    dsimp only
    rw [hx2, hz2, Option.getD_some, Option.getD_some, if_pos (of_decide_eq_true h65)]
  · refine At.go (q := xm158) rfl 1 (pc' := 69) (L' := [(2, .int (Int32.ofNat (i * w))), (0, .ref q), (1, .int (Int32.ofNat i))]) (st' := [.ref q]) rfl ?_
    refine At.gf rfl (by decide) hq rfl ?_
    refine At.go (q := xm158) rfl 1 (pc' := 73) (L' := [(2, .int (Int32.ofNat (i * w))), (0, .ref q), (1, .int (Int32.ofNat i))]) (st' := [.ref q, .ref li]) rfl ?_
    refine At.gf rfl (by decide) hq rfl ?_
    refine At.al rfl hli (by decide) rfl (iN_nn (by omega)) (by rw [iN_tn (by omega), List.getElem?_map, hx]; rfl) ?_
    refine At.go (q := xm158) rfl 1 (pc' := 78) (L' := [(2, .int (Int32.ofNat (i * w))), (0, .ref q), (1, .int (Int32.ofNat i))]) (st' := [.ref q, .int x]) rfl ?_
    refine At.gf rfl (by decide) hq rfl ?_
    refine At.go (q := xm158) rfl 2 (pc' := 83) (L' := [(2, .int (Int32.ofNat (i * w))), (0, .ref q), (1, .int (Int32.ofNat i))]) (st' := [.ref q, .int (Int32.ofNat (i * w)), .ref ln, .int x]) rfl ?_
    refine At.gf rfl (by decide) hq rfl ?_
    refine At.go (q := xm158) rfl 1 (pc' := 87) (L' := [(2, .int (Int32.ofNat (i * w))), (0, .ref q), (1, .int (Int32.ofNat i))]) (st' := [.int ((Int32.ofNat (i * w)) + (Int32.ofNat k)), .ref ln, .int x]) rfl ?_
    refine At.al rfl hln (by decide) rfl (by rw [hadd]; exact iN_nn (by omega)) (by rw [hadd, iN_tn (by omega), List.getElem?_map, hz]; rfl) ?_
    refine At.ic2 (tgt := 95) rfl rfl (fun h88 => ?_) (fun h88 => ?_)
    · have hv : (if x < z then (1 : Int32) else 0) = 0 := if_neg (Int32.not_lt.mpr (of_decide_eq_true h88))
      refine At.go (q := xm158) rfl 2 (pc' := 97) (L' := [(2, .int (Int32.ofNat (i * w))), (0, .ref q), (1, .int (Int32.ofNat i))]) (st' := [.ref q, .int 0]) rfl ?_
      refine At.gf rfl (by decide) hq rfl ?_
      refine At.ic2 (tgt := 107) rfl rfl (fun h100 => ?_) (fun h100 => ?_)
      · refine At.go (q := xm158) rfl 1 (pc' := 108) (L' := [(2, .int (Int32.ofNat (i * w))), (0, .ref q), (1, .int (Int32.ofNat i))]) (st' := [.int (-1)]) rfl ?_
        exact At.rt rfl (xret_i rfl) (by unfold cmpL; dsimp only; rw [hx2, hz2, Option.getD_some, Option.getD_some, if_neg (of_decide_eq_false h65), hv, if_neg (of_decide_eq_true h100)])
      · refine At.go (q := xm158) rfl 2 (pc' := 108) (L' := [(2, .int (Int32.ofNat (i * w))), (0, .ref q), (1, .int (Int32.ofNat i))]) (st' := [.int 1]) rfl ?_
        exact At.rt rfl (xret_i rfl) (by unfold cmpL; dsimp only; rw [hx2, hz2, Option.getD_some, Option.getD_some, if_neg (of_decide_eq_false h65), hv, if_pos (xne_f h100)])
    · have hv : (if x < z then (1 : Int32) else 0) = 1 := if_pos (Int32.not_le.mp (of_decide_eq_false h88))
      refine At.go (q := xm158) rfl 3 (pc' := 97) (L' := [(2, .int (Int32.ofNat (i * w))), (0, .ref q), (1, .int (Int32.ofNat i))]) (st' := [.ref q, .int 1]) rfl ?_
      refine At.gf rfl (by decide) hq rfl ?_
      refine At.ic2 (tgt := 107) rfl rfl (fun h100 => ?_) (fun h100 => ?_)
      · refine At.go (q := xm158) rfl 1 (pc' := 108) (L' := [(2, .int (Int32.ofNat (i * w))), (0, .ref q), (1, .int (Int32.ofNat i))]) (st' := [.int (-1)]) rfl ?_
        exact At.rt rfl (xret_i rfl) (by unfold cmpL; dsimp only; rw [hx2, hz2, Option.getD_some, Option.getD_some, if_neg (of_decide_eq_false h65), hv, if_neg (of_decide_eq_true h100)])
      · refine At.go (q := xm158) rfl 2 (pc' := 108) (L' := [(2, .int (Int32.ofNat (i * w))), (0, .ref q), (1, .int (Int32.ofNat i))]) (st' := [.int 1]) rfl ?_
        exact At.rt rfl (xret_i rfl) (by unfold cmpL; dsimp only; rw [hx2, hz2, Option.getD_some, Option.getD_some, if_neg (of_decide_eq_false h65), hv, if_pos (xne_f h100)])
