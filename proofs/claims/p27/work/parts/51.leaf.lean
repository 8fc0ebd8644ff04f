/-! leaves: labels, entries, lists (written by wip/p27/c51.py) -/
def isB (a b : Int32) : Bool := decide (a >>> (4 &&& 31) ≤ b >>> (4 &&& 31)) && decide ((a &&& 15) &&& (b ^^^ (-1)) = 0)
theorem nlt_of {x y : Int32} (h : xcm .gt x y = false) : x ≤ y := by
  have h := of_decide_eq_false h
  exact Int32.not_lt.mp h
theorem xne_f {x y : Int32} (h : xcm .ne x y = false) : x = y := Decidable.not_not.mp (of_decide_eq_false h)
theorem xret_i {r : Option FieldType} {x : Int32} (h : r = some .int) : xret r .ireturn [.int x] = some (some (.int x)) := by
  subst h
  unfold xret
  dsimp only
  exact if_pos rfl
theorem m_isBelow {S : List Int32} {hp : List XC} (a b : Int32) : Pu S 0 88 [.int a, .int b] hp (bv (isB a b)) := by
  refine At.go (q := xm88) rfl 6 (pc' := 6) (L' := [(0, .int a), (1, .int b)]) (st' := [.int (b >>> (4 &&& 31)), .int (a >>> (4 &&& 31))]) rfl ?_
  refine At.ic2 (tgt := 24) rfl rfl (fun h6 => ?_) (fun h6 => ?_)
  · refine At.go (q := xm88) rfl 1 (pc' := 25) (L' := [(0, .int a), (1, .int b)]) (st' := [.int 0]) rfl ?_
    exact At.rt rfl rfl (by unfold isB; rw [decide_eq_false (Int32.not_le.mpr (of_decide_eq_true h6))]; rfl)
  · refine At.go (q := xm88) rfl 7 (pc' := 17) (L' := [(0, .int a), (1, .int b)]) (st' := [.int ((a &&& 15) &&& (b ^^^ (-1)))]) rfl ?_
    refine At.ic1 (tgt := 24) rfl rfl (fun h17 => ?_) (fun h17 => ?_)
    · refine At.go (q := xm88) rfl 1 (pc' := 25) (L' := [(0, .int a), (1, .int b)]) (st' := [.int 0]) rfl ?_
      exact At.rt rfl rfl (by unfold isB; rw [decide_eq_false (of_decide_eq_true h17), Bool.and_false]; rfl)
    · refine At.go (q := xm88) rfl 2 (pc' := 25) (L' := [(0, .int a), (1, .int b)]) (st' := [.int 1]) rfl ?_
      exact At.rt rfl rfl (by unfold isB; rw [decide_eq_true (nlt_of h6), decide_eq_true (xne_f h17)]; rfl)
/-- how an entry's place stands to another one: before, at, behind -/
def cmpE (s1 k1 l1 s2 k2 l2 : Int32) : Int32 := if s1 ≠ s2 then (if s1 < s2 then -1 else 1) else if k1 ≠ k2 then (if k1 < k2 then -1 else 1) else if l1 = l2 then 0 else if l1 < l2 then -1 else 1
theorem m_compare {S : List Int32} {hp : List XC} {a t c : Nat} {k1 l1 s1 : Int32} {ve : Value} {fs : List Value} (ho : hp[a]? = some (.inr (4, [.ref t, .int k1, .int l1, ve, .ref c]))) (ht : hp[t]? = some (.inr (13, .int s1 :: fs))) (s2 k2 l2 : Int32) : Pu S 0 128 [.ref a, .int s2, .int k2, .int l2] hp (.int (cmpE s1 k1 l1 s2 k2 l2)) := by
  refine At.go (q := xm128) rfl 1 (pc' := 1) (L' := [(0, .ref a), (1, .int s2), (2, .int k2), (3, .int l2)]) (st' := [.ref a]) rfl ?_
  refine At.gf rfl (by decide) ho rfl ?_
  refine At.gf rfl (by decide) ht rfl ?_
  refine At.go (q := xm128) rfl 1 (pc' := 8) (L' := [(0, .ref a), (1, .int s2), (2, .int k2), (3, .int l2)]) (st' := [.int s2, .int s1]) rfl ?_
  refine At.ic2 (tgt := 28) rfl rfl (fun h8 => ?_) (fun h8 => ?_)
  · refine At.go (q := xm128) rfl 1 (pc' := 29) (L' := [(0, .ref a), (1, .int s2), (2, .int k2), (3, .int l2)]) (st' := [.ref a]) rfl ?_
    refine At.gf rfl (by decide) ho rfl ?_
    refine At.go (q := xm128) rfl 1 (pc' := 33) (L' := [(0, .ref a), (1, .int s2), (2, .int k2), (3, .int l2)]) (st' := [.int k2, .int k1]) rfl ?_
    refine At.ic2 (tgt := 50) rfl rfl (fun h33 => ?_) (fun h33 => ?_)
    · refine At.go (q := xm128) rfl 1 (pc' := 51) (L' := [(0, .ref a), (1, .int s2), (2, .int k2), (3, .int l2)]) (st' := [.ref a]) rfl ?_
      refine At.gf rfl (by decide) ho rfl ?_
      refine At.go (q := xm128) rfl 1 (pc' := 55) (L' := [(0, .ref a), (1, .int s2), (2, .int k2), (3, .int l2)]) (st' := [.int l2, .int l1]) rfl ?_
      refine At.ic2 (tgt := 62) rfl rfl (fun h55 => ?_) (fun h55 => ?_)
      · refine At.go (q := xm128) rfl 1 (pc' := 63) (L' := [(0, .ref a), (1, .int s2), (2, .int k2), (3, .int l2)]) (st' := [.ref a]) rfl ?_
        refine At.gf rfl (by decide) ho rfl ?_
        refine At.go (q := xm128) rfl 1 (pc' := 67) (L' := [(0, .ref a), (1, .int s2), (2, .int k2), (3, .int l2)]) (st' := [.int l2, .int l1]) rfl ?_
        refine At.ic2 (tgt := 74) rfl rfl (fun h67 => ?_) (fun h67 => ?_)
        · refine At.go (q := xm128) rfl 1 (pc' := 75) (L' := [(0, .ref a), (1, .int s2), (2, .int k2), (3, .int l2)]) (st' := [.int 1]) rfl ?_
          exact At.rt rfl rfl (by simp_all [cmpE, xcm])
        · refine At.go (q := xm128) rfl 2 (pc' := 75) (L' := [(0, .ref a), (1, .int s2), (2, .int k2), (3, .int l2)]) (st' := [.int (-1)]) rfl ?_
          exact At.rt rfl rfl (by simp_all [cmpE, xcm])
      · refine At.go (q := xm128) rfl 2 (pc' := 75) (L' := [(0, .ref a), (1, .int s2), (2, .int k2), (3, .int l2)]) (st' := [.int 0]) rfl ?_
        exact At.rt rfl rfl (by simp_all [cmpE, xcm])
    · refine At.go (q := xm128) rfl 1 (pc' := 37) (L' := [(0, .ref a), (1, .int s2), (2, .int k2), (3, .int l2)]) (st' := [.ref a]) rfl ?_
      refine At.gf rfl (by decide) ho rfl ?_
      refine At.go (q := xm128) rfl 1 (pc' := 41) (L' := [(0, .ref a), (1, .int s2), (2, .int k2), (3, .int l2)]) (st' := [.int k2, .int k1]) rfl ?_
      refine At.ic2 (tgt := 48) rfl rfl (fun h41 => ?_) (fun h41 => ?_)
      · refine At.go (q := xm128) rfl 1 (pc' := 49) (L' := [(0, .ref a), (1, .int s2), (2, .int k2), (3, .int l2)]) (st' := [.int 1]) rfl ?_
        exact At.rt rfl rfl (by simp_all [cmpE, xcm])
      · refine At.go (q := xm128) rfl 2 (pc' := 49) (L' := [(0, .ref a), (1, .int s2), (2, .int k2), (3, .int l2)]) (st' := [.int (-1)]) rfl ?_
        exact At.rt rfl rfl (by simp_all [cmpE, xcm])
  · refine At.go (q := xm128) rfl 1 (pc' := 12) (L' := [(0, .ref a), (1, .int s2), (2, .int k2), (3, .int l2)]) (st' := [.ref a]) rfl ?_
    refine At.gf rfl (by decide) ho rfl ?_
    refine At.gf rfl (by decide) ht rfl ?_
    refine At.go (q := xm128) rfl 1 (pc' := 19) (L' := [(0, .ref a), (1, .int s2), (2, .int k2), (3, .int l2)]) (st' := [.int s2, .int s1]) rfl ?_
    refine At.ic2 (tgt := 26) rfl rfl (fun h19 => ?_) (fun h19 => ?_)
    · refine At.go (q := xm128) rfl 1 (pc' := 27) (L' := [(0, .ref a), (1, .int s2), (2, .int k2), (3, .int l2)]) (st' := [.int 1]) rfl ?_
      exact At.rt rfl rfl (by simp_all [cmpE, xcm])
    · refine At.go (q := xm128) rfl 2 (pc' := 27) (L' := [(0, .ref a), (1, .int s2), (2, .int k2), (3, .int l2)]) (st' := [.int (-1)]) rfl ?_
      exact At.rt rfl rfl (by simp_all [cmpE, xcm])
theorem m_isOf {S : List Int32} {hp : List XC} {a t c u : Nat} {k1 l1 s1 s2 : Int32} {ve : Value} {fs gs : List Value} (ho : hp[a]? = some (.inr (4, [.ref t, .int k1, .int l1, ve, .ref c]))) (ht : hp[t]? = some (.inr (13, .int s1 :: fs))) (hu : hp[u]? = some (.inr (13, .int s2 :: gs))) : Pu S 0 122 [.ref a, .ref u] hp (bv (decide (s1 = s2))) := by
  refine At.go (q := xm122) rfl 3 (pc' := 5) (L' := [(0, .ref a), (1, .ref u)]) (st' := [.ref a]) rfl ?_
  refine At.gf rfl (by decide) ho rfl ?_
  refine At.gf rfl (by decide) ht rfl ?_
  refine At.go (q := xm122) rfl 1 (pc' := 12) (L' := [(0, .ref a), (1, .ref u)]) (st' := [.ref u, .int s1]) rfl ?_
  refine At.gf rfl (by decide) hu rfl ?_
  refine At.ic2 (tgt := 22) rfl rfl (fun h15 => ?_) (fun h15 => ?_)
  · refine At.go (q := xm122) rfl 1 (pc' := 23) (L' := [(0, .ref a), (1, .ref u)]) (st' := [.int 0]) rfl ?_
    exact At.rt rfl rfl (by simp_all [bv, xcm])
  · refine At.go (q := xm122) rfl 2 (pc' := 23) (L' := [(0, .ref a), (1, .ref u)]) (st' := [.int 1]) rfl ?_
    exact At.rt rfl rfl (by simp_all [bv, xcm])
theorem m_isOf0 {S : List Int32} {hp : List XC} {a : Nat} : Pu S 0 122 [.ref a, .null] hp (bv false) := by
  refine At.go (q := xm122) rfl 3 (pc' := 23) (L' := [(0, .ref a), (1, .null)]) (st' := [.int 0]) rfl ?_
  exact At.rt rfl rfl rfl
/-- a row's number in a column, or nothing -/
def hold (cs : List Int32) (j : Int32) : Int32 := if j < 0 then -1000000000 else (cs[j.toNatClampNeg]?).getD (-1000000000)
theorem hold_in {cs : List Int32} {j : Int32} (h0 : ¬ j < 0) (hj : j.toNatClampNeg < cs.length) : (cs.map Value.int)[j.toNatClampNeg]? = some (.int (hold cs j)) := by
  unfold hold
  rw [if_neg h0, List.getElem?_map, List.getElem?_eq_getElem hj]
  rfl
theorem hold_out {cs : List Int32} {j : Int32} (h0 : ¬ j < 0) (hj : cs.length ≤ j.toNatClampNeg) : hold cs j = -1000000000 := by
  unfold hold
  rw [if_neg h0, List.getElem?_eq_none hj]
  rfl
theorem iN_ge {j : Int32} {n : Nat} (h0 : ¬ j < 0) (hn : n < 2 ^ 31) : Int32.ofNat n ≤ j ↔ n ≤ j.toNatClampNeg := by
  have e := Int32.ofNat_toNatClampNeg j (Int32.not_lt.mp h0)
  have h := iN_le hn (Int32.toNatClampNeg_lt j)
  rw [e] at h
  exact h
theorem iN_ge' {j : Int32} {n : Nat} (h0 : ¬ j < 0) (hn : n < 2 ^ 31) : ¬ (Int32.ofNat n ≤ j) ↔ j.toNatClampNeg < n := by
  rw [iN_ge h0 hn, Nat.not_le]
theorem m_hold {S : List Int32} {hp : List XC} {a t c : Nat} {k1 l1 ve : Value} {cs : List Int32} (ho : hp[a]? = some (.inr (4, [.ref t, k1, l1, ve, .ref c]))) (hc : hp[c]? = some (.inl (24, cs.map Value.int))) (hn : cs.length < 2 ^ 31) (j : Int32) : Pu S 0 126 [.ref a, .int j] hp (.int (hold cs j)) := by
  refine At.go (q := xm126) rfl 1 (pc' := 1) (L' := [(0, .ref a), (1, .int j)]) (st' := [.int j]) rfl ?_
  refine At.ic1 (tgt := 22) rfl rfl (fun h1 => ?_) (fun h1 => ?_)
  · refine At.go (q := xm126) rfl 1 (pc' := 24) (L' := [(0, .ref a), (1, .int j)]) (st' := [.int (-1000000000)]) rfl ?_
    exact At.rt rfl rfl (by first | (have h9 := of_decide_eq_true h1; unfold hold; rw [if_pos h9]; done) | (rw [hold_out (of_decide_eq_false h1) ((iN_ge (of_decide_eq_false h1) hn).mp (by rw [← List.length_map (f := Value.int)]; exact of_decide_eq_true h10))]; done))
  · refine At.go (q := xm126) rfl 2 (pc' := 6) (L' := [(0, .ref a), (1, .int j)]) (st' := [.ref a, .int j]) rfl ?_
    refine At.gf rfl (by decide) ho rfl ?_
    refine At.ln rfl hc ?_
    refine At.ic2 (tgt := 22) rfl rfl (fun h10 => ?_) (fun h10 => ?_)
    · refine At.go (q := xm126) rfl 1 (pc' := 24) (L' := [(0, .ref a), (1, .int j)]) (st' := [.int (-1000000000)]) rfl ?_
      exact At.rt rfl rfl (by first | (have h9 := of_decide_eq_true h1; unfold hold; rw [if_pos h9]; done) | (rw [hold_out (of_decide_eq_false h1) ((iN_ge (of_decide_eq_false h1) hn).mp (by rw [← List.length_map (f := Value.int)]; exact of_decide_eq_true h10))]; done))
    · refine At.go (q := xm126) rfl 1 (pc' := 14) (L' := [(0, .ref a), (1, .int j)]) (st' := [.ref a]) rfl ?_
      refine At.gf rfl (by decide) ho rfl ?_
      refine At.go (q := xm126) rfl 1 (pc' := 18) (L' := [(0, .ref a), (1, .int j)]) (st' := [.int j, .ref c]) rfl ?_
      refine At.al rfl hc (by decide) rfl (of_decide_eq_false h1) (hold_in (of_decide_eq_false h1) ((iN_ge' (of_decide_eq_false h1) hn).mp (by rw [← List.length_map (f := Value.int)]; exact of_decide_eq_false h10))) ?_
      refine At.go (q := xm126) rfl 1 (pc' := 24) (L' := [(0, .ref a), (1, .int j)]) (st' := [.int (hold cs j)]) rfl ?_
      exact At.rt rfl (xret_i rfl) rfl
theorem m_ewidth {S : List Int32} {hp : List XC} {a t c : Nat} {k1 l1 ve : Value} {cs : List Int32} (ho : hp[a]? = some (.inr (4, [.ref t, k1, l1, ve, .ref c]))) (hc : hp[c]? = some (.inl (24, cs.map Value.int))) : Pu S 0 247 [.ref a] hp (.int (Int32.ofNat cs.length)) := by
  refine At.go (q := xm247) rfl 1 (pc' := 1) (L' := [(0, .ref a)]) (st' := [.ref a]) rfl ?_
  refine At.gf rfl (by decide) ho rfl ?_
  refine At.ln rfl hc ?_
  exact At.rt rfl (xret_i rfl) (by rw [List.length_map])
theorem m_isBeside {S : List Int32} {hp : List XC} {a t c b u c2 : Nat} {k1 l1 s1 k2 l2 s2 : Int32} {ve vf : Value} {fs gs : List Value} (ho : hp[a]? = some (.inr (4, [.ref t, .int k1, .int l1, ve, .ref c]))) (ht : hp[t]? = some (.inr (13, .int s1 :: fs))) (hb : hp[b]? = some (.inr (4, [.ref u, .int k2, .int l2, vf, .ref c2]))) (hu : hp[u]? = some (.inr (13, .int s2 :: gs))) : Pu S 1 184 [.ref a, .ref b] hp (bv (decide (cmpE s1 k1 l1 s2 k2 l2 = 0))) := by
  refine At.go (q := xm184) rfl 2 (pc' := 2) (L' := [(0, .ref a), (1, .ref b)]) (st' := [.ref b, .ref a]) rfl ?_
  refine At.gf rfl (by decide) hb rfl ?_
  refine At.gf rfl (by decide) hu rfl ?_
  refine At.go (q := xm184) rfl 1 (pc' := 9) (L' := [(0, .ref a), (1, .ref b)]) (st' := [.ref b, .int s2, .ref a]) rfl ?_
  refine At.gf rfl (by decide) hb rfl ?_
  refine At.go (q := xm184) rfl 1 (pc' := 13) (L' := [(0, .ref a), (1, .ref b)]) (st' := [.ref b, .int k2, .int s2, .ref a]) rfl ?_
  refine At.gf rfl (by decide) hb rfl ?_
  refine At.clp (as := [.ref a, .int s2, .int k2, .int l2]) (rest := []) rfl (by decide) rfl (Nat.le_of_ble_eq_true rfl) (Nat.le_of_ble_eq_true rfl) (xrck_o (by decide) (by decide) ho (by decide)) (Nat.le_of_ble_eq_true rfl) (m_compare ho ht s2 k2 l2) ?_
  refine At.ic1 (tgt := 26) rfl rfl (fun h19 => ?_) (fun h19 => ?_)
  · refine At.go (q := xm184) rfl 1 (pc' := 27) (L' := [(0, .ref a), (1, .ref b)]) (st' := [.int 0]) rfl ?_
    exact At.rt rfl rfl (by simp_all [bv, xcm])
  · refine At.go (q := xm184) rfl 2 (pc' := 27) (L' := [(0, .ref a), (1, .ref b)]) (st' := [.int 1]) rfl ?_
    exact At.rt rfl rfl (by simp_all [bv, xcm])
theorem m_size {S : List Int32} {hp : List XC} {l : Nat} {as : List Nat} (hL : hLs hp l as) : Pu S 0 84 [.ref l] hp (.int (Int32.ofNat as.length)) := by
  obtain ⟨-, mc, ⟨rfl, h1⟩ | ⟨e, m, h1, h2, h3⟩⟩ := hL
  · refine At.go (q := xm84) rfl 1 (pc' := 1) (L' := [(0, .ref l)]) (st' := [.ref l]) rfl ?_
    refine At.gf rfl (by decide) h1 rfl ?_
    exact At.rt rfl rfl rfl
  · refine At.go (q := xm84) rfl 1 (pc' := 1) (L' := [(0, .ref l)]) (st' := [.ref l]) rfl ?_
    refine At.gf rfl (by decide) h1 rfl ?_
    exact At.rt rfl (xret_i rfl) rfl
theorem m_chk0 {S : List Int32} {hp : List XC} {k n : Nat} (hk : k < n) (hn : n < 2 ^ 31) : Pu S 0 36 [.int (Int32.ofNat k), .int (Int32.ofNat n), .null] hp (.int (Int32.ofNat k)) := by
  refine At.go (q := xm36) rfl 1 (pc' := 1) (L' := [(0, .int (Int32.ofNat k)), (1, .int (Int32.ofNat n)), (2, .null)]) (st' := [.int (Int32.ofNat k)]) rfl ?_
  refine At.ic1 (tgt := 9) rfl rfl (fun h => absurd (h.symm.trans (decide_eq_false (iN_nn (Nat.lt_trans hk hn)))) (by decide)) (fun _ => ?_)
  refine At.go (q := xm36) rfl 2 (pc' := 6) (L' := [(0, .int (Int32.ofNat k)), (1, .int (Int32.ofNat n)), (2, .null)]) (st' := [.int (Int32.ofNat n), .int (Int32.ofNat k)]) rfl ?_
  refine At.ic2 (tgt := 16) rfl rfl (fun _ => ?_) (fun h => absurd (h.symm.trans (decide_eq_true ((iN_lt (Nat.lt_trans hk hn) hn).mpr hk))) (by decide))
  refine At.go (q := xm36) rfl 1 (pc' := 17) (L' := [(0, .int (Int32.ofNat k)), (1, .int (Int32.ofNat n)), (2, .null)]) (st' := [.int (Int32.ofNat k)]) rfl ?_
  exact At.rt rfl (xret_i rfl) rfl
theorem m_chk {S : List Int32} {hp : List XC} {k n : Nat} (hk : k < n) (hn : n < 2 ^ 31) : Pu S 1 86 [.int (Int32.ofNat k), .int (Int32.ofNat n)] hp (.int (Int32.ofNat k)) := by
  refine At.go (q := xm86) rfl 3 (pc' := 3) (L' := [(0, .int (Int32.ofNat k)), (1, .int (Int32.ofNat n))]) (st' := [.null, .int (Int32.ofNat n), .int (Int32.ofNat k)]) rfl ?_
  refine At.clp (as := [.int (Int32.ofNat k), .int (Int32.ofNat n), .null]) (rest := []) rfl (by decide) rfl (Nat.le_of_ble_eq_true rfl) (Nat.le_of_ble_eq_true rfl) rfl (Nat.le_of_ble_eq_true rfl) (m_chk0 hk hn) ?_
  exact At.rt rfl (xret_i rfl) rfl
theorem m_elem {S : List Int32} {hp : List XC} {l k e a m : Nat} {mc : Int32} {as : List Nat} (hk : k < 2 ^ 31) (h1 : hp[l]? = some (.inr (2, [.int mc, .ref e, .int (Int32.ofNat as.length)]))) (h2 : hp[e]? = some (.inl (7, as.map Value.ref ++ List.replicate m .null))) (hv : (as.map Value.ref ++ List.replicate m .null)[k]? = some (.ref a)) : Pu S 0 87 [.ref l, .int (Int32.ofNat k)] hp (.ref a) := by
  refine At.go (q := xm87) rfl 1 (pc' := 1) (L' := [(0, .ref l), (1, .int (Int32.ofNat k))]) (st' := [.ref l]) rfl ?_
  refine At.gf rfl (by decide) h1 rfl ?_
  refine At.go (q := xm87) rfl 1 (pc' := 5) (L' := [(0, .ref l), (1, .int (Int32.ofNat k))]) (st' := [.int (Int32.ofNat k), .ref e]) rfl ?_
  refine At.ql rfl h2 (by decide) rfl (iN_nn hk) (by rw [iN_tn hk]; exact hv) rfl ?_
  exact At.rt rfl rfl rfl
theorem xl_at {as : List Nat} {m k a : Nat} (hv : as[k]? = some a) : (as.map Value.ref ++ List.replicate m .null)[k]? = some (.ref a) := by
  rw [List.getElem?_append_left (by rw [List.length_map]; exact (List.getElem?_eq_some_iff.mp hv).1), List.getElem?_map, hv]
  rfl
theorem m_get {S : List Int32} {hp : List XC} {l k a : Nat} {as : List Nat} (hL : hLs hp l as) (hv : as[k]? = some a) : Pu S 2 85 [.ref l, .int (Int32.ofNat k)] hp (.ref a) := by
  have hk := (List.getElem?_eq_some_iff.mp hv).1
  obtain ⟨-, mc, ⟨h9, -⟩ | ⟨e, m, h1, h2, h3⟩⟩ := hL
  · subst h9; cases hv
  have hn : as.length < 2 ^ 31 := by omega
  refine At.go (q := xm85) rfl 2 (pc' := 2) (L' := [(0, .ref l), (1, .int (Int32.ofNat k))]) (st' := [.ref l, .int (Int32.ofNat k)]) rfl ?_
  refine At.gf rfl (by decide) h1 rfl ?_
  refine At.clp (as := [.int (Int32.ofNat k), .int (Int32.ofNat as.length)]) (rest := []) rfl (by decide) rfl (Nat.le_of_ble_eq_true rfl) (Nat.le_of_ble_eq_true rfl) rfl (Nat.le_of_ble_eq_true rfl) (m_chk hk hn) ?_
  refine At.go (q := xm85) rfl 3 (pc' := 11) (L' := [(0, .ref l), (1, .int (Int32.ofNat k))]) (st' := [.int (Int32.ofNat k), .ref l]) rfl ?_
  refine At.clp (as := [.ref l, .int (Int32.ofNat k)]) (rest := []) rfl (by decide) rfl (Nat.le_of_ble_eq_true rfl) (Nat.le_of_ble_eq_true rfl) (xrck_o (by decide) (by decide) h1 (by decide)) (Nat.le_of_ble_eq_true rfl) (m_elem (Nat.lt_trans hk hn) h1 h2 (xl_at hv)) ?_
  exact At.rt rfl rfl rfl
