/-! queries: sortPicked (written by wip/p27/c99993.py) -/
theorem sinkE_len {key : Int32 → Int32} {size : Nat} : ∀ (f a : Nat) (ps : List Int32), (sinkE key size f a ps).length = ps.length
  | 0, _, _ => rfl
  | f + 1, a, ps => by
    unfold sinkE
    split
    · split
      · rw [sinkE_len f, List.length_set, List.length_set]
      · rfl
    · rfl
/-- the first ones are all such -/
def allV (V : Int32 → Prop) (n : Nat) (ps : List Int32) : Prop := ∀ (i : Nat) (v : Int32), i < n → ps[i]? = some v → V v
theorem allV.set {V : Int32 → Prop} {n k : Nat} {ps : List Int32} {x : Int32} (h : allV V n ps) (hx : V x) : allV V n (ps.set k x) := fun i v hi hv => by
  rw [List.getElem?_set] at hv
  split at hv
  · split at hv
    · cases hv; exact hx
    · cases hv
  · exact h i v hi hv
theorem allV.get {V : Int32 → Prop} {n k : Nat} {ps : List Int32} (h : allV V n ps) (hk : k < n) (hn : n ≤ ps.length) : V ((ps[k]?).getD 0) := by
  obtain ⟨v, hv⟩ : ∃ v, ps[k]? = some v := ⟨_, List.getElem?_eq_getElem (by omega)⟩
  rw [hv]
  exact h k v hk hv
theorem sinkC_lt {key : Int32 → Int32} {size a : Nat} {ps : List Int32} (h : 2 * a + 1 < size) : a < sinkC key size a ps ∧ sinkC key size a ps < size := by
  unfold sinkC
  split
  · rename_i q; exact ⟨by omega, q.1⟩
  · exact ⟨by omega, h⟩
theorem sinkE_V {key : Int32 → Int32} {size n : Nat} {V : Int32 → Prop} (hs : size ≤ n) : ∀ (f a : Nat) (ps : List Int32), n ≤ ps.length → allV V n ps → allV V n (sinkE key size f a ps)
  | 0, _, _, _, h => h
  | f + 1, a, ps, hn, h => by
    unfold sinkE
    split
    · rename_i hc
      obtain ⟨h1, h2⟩ := sinkC_lt (key := key) (ps := ps) hc
      split
      · exact sinkE_V hs f _ _ (by rw [List.length_set, List.length_set]; exact hn) ((h.set (h.get (by omega) hn)).set (h.get (by omega) hn))
      · exact h
    · exact h
/-- a heap is made -/
def bldE (key : Int32 → Int32) (n : Nat) : Nat → List Int32 → List Int32
  | 0, ps => ps
  | k + 1, ps => bldE key n k (sinkE key n n k ps)
/-- and taken apart, the greatest first -/
def outE (key : Int32 → Int32) : Nat → List Int32 → List Int32
  | 0, ps => ps
  | i + 1, ps => outE key i (sinkE key (i + 1) (i + 1) 0 ((ps.set 0 ((ps[i + 1]?).getD 0)).set (i + 1) ((ps[0]?).getD 0)))
def sortE (key : Int32 → Int32) (n : Nat) (ps : List Int32) : List Int32 := outE key (n - 1) (bldE key n (n / 2) ps)
theorem bldE_len {key : Int32 → Int32} {n : Nat} : ∀ (k : Nat) (ps : List Int32), (bldE key n k ps).length = ps.length
  | 0, _ => rfl
  | k + 1, ps => by rw [bldE, bldE_len k, sinkE_len]
theorem bldE_V {key : Int32 → Int32} {n : Nat} {V : Int32 → Prop} : ∀ (k : Nat) (ps : List Int32), n ≤ ps.length → allV V n ps → allV V n (bldE key n k ps)
  | 0, _, _, h => h
  | k + 1, ps, hn, h => bldE_V k _ (by rw [sinkE_len]; exact hn) (sinkE_V (Nat.le_refl _) _ _ _ hn h)
theorem bld_loop {S : List Int32} {hq : List XC} {q st mn l1 l2 pa li ln n : Nat} {kp off so dn lc wd : Int32} {key : Int32 → Int32} {V : Int32 → Prop} {p0 : List Int32} (hq0 : hq[q]? = some (.inr (7, [.ref st, .ref mn, .ref l1, .ref l2, .ref pa, .int (Int32.ofNat n), .ref li, .int kp, .int off, .int so, .int dn, .ref ln, .int lc, .int wd]))) (hpa0 : hq[pa]? = some (.inl (18, p0.map Value.int))) (hcmp : ∀ (ps : List Int32) (x1 x2 : Int32), V x1 → V x2 → Pu S 4 161 [.ref q, .int x1, .int x2] (hPs hq pa ps) (.int (cmpI (key x1) (key x2)))) {Q : XO → Prop} {nc ns : Nat} : ∀ (k : Nat) (ps : List Int32), k ≤ 20000 → n ≤ ps.length → ps.length ≤ 40000 → allV V n ps → At S 6 159 28 [(0, .ref q)] [] (hPs hq pa (bldE key n k ps)) nc ns Q → At S 6 159 9 [(1, .int (Int32.ofNat k - 1)), (0, .ref q)] [] (hPs hq pa ps) nc ns Q := by
  intro k
  induction k with
  | zero =>
    intro ps hk hn hl hV hK
    refine At.go (q := xm159) rfl 1 (pc' := 10) (L' := [(1, .int (Int32.ofNat 0 - 1)), (0, .ref q)]) (st' := [.int (Int32.ofNat 0 - 1)]) rfl ?_
    refine At.ic1 (tgt := 28) rfl rfl (fun _ => ?_) (fun h => absurd h (by decide))
    refine At.wk (L' := [(0, .ref q)]) (List.forall_mem_cons.mpr ⟨List.mem_of_getElem? (i := 1) rfl, (fun _ h => (List.not_mem_nil h).elim)⟩) (show ([1, 0] : List Nat).Nodup by decide) ?_
    exact hK
  | succ k ih =>
    intro ps hk hn hl hV hK
    have hq1 : (hPs hq pa ps)[q]? = some (.inr (7, [.ref st, .ref mn, .ref l1, .ref l2, .ref pa, .int (Int32.ofNat n), .ref li, .int kp, .int off, .int so, .int dn, .ref ln, .int lc, .int wd])) := xs_ne (xn_ar hpa0 hq0) hq0
    have hpa1 : (hPs hq pa ps)[pa]? = some (.inl (18, ps.map Value.int)) := xs_eq hpa0
    rw [iN_m2]
    refine At.go (q := xm159) rfl 1 (pc' := 10) (L' := [(1, .int (Int32.ofNat k)), (0, .ref q)]) (st' := [.int (Int32.ofNat k)]) rfl ?_
    refine At.ic1 (tgt := 28) rfl rfl (fun h => absurd (h.symm.trans (decide_eq_false (iN_nn (by omega)))) (by decide)) (fun _ => ?_)
    refine At.go (q := xm159) rfl 3 (pc' := 16) (L' := [(1, .int (Int32.ofNat k)), (0, .ref q)]) (st' := [.ref q, .int (Int32.ofNat k), .ref q]) rfl ?_
    refine At.gf rfl (by decide) hq1 rfl ?_
    refine At.clm (as := [.ref q, .int (Int32.ofNat k), .int (Int32.ofNat n)]) (rest := []) rfl (by decide) rfl (Nat.le_of_ble_eq_true rfl) (Nat.le_of_ble_eq_true rfl) (xrck_o (by decide) (by decide) hq1 (by decide)) (Nat.le_of_ble_eq_true rfl) (m_sink hq0 hpa0 hcmp (size := n) hn hl (by omega) hV) (fun v9 hp1 c1 s1 hv9 => ?_)
    obtain ⟨rfl, rfl, rfl, rfl⟩ := hv9
    refine At.go (q := xm159) rfl 2 (pc' := 9) (L' := [(1, .int ((Int32.ofNat k) + (-1))), (0, .ref q)]) (st' := []) rfl ?_
    rw [show Int32.ofNat k + (-1) = Int32.ofNat k - 1 from (Int32.sub_eq_add_neg _ _).symm]
    refine At.wk (L' := [(1, .int (Int32.ofNat k - 1)), (0, .ref q)]) (List.forall_mem_cons.mpr ⟨List.mem_of_getElem? (i := 0) rfl, (List.forall_mem_cons.mpr ⟨List.mem_of_getElem? (i := 1) rfl, (fun _ h => (List.not_mem_nil h).elim)⟩)⟩) (show ([1, 0] : List Nat).Nodup by decide) ?_
    exact ih (sinkE key n n k ps) (by omega) (by rw [sinkE_len]; exact hn) (by rw [sinkE_len]; exact hl) (sinkE_V (Nat.le_refl _) _ _ _ hn hV) hK
theorem out_loop {S : List Int32} {hq : List XC} {q st mn l1 l2 pa li ln n : Nat} {kp off so dn lc wd : Int32} {key : Int32 → Int32} {V : Int32 → Prop} {p0 : List Int32} (hq0 : hq[q]? = some (.inr (7, [.ref st, .ref mn, .ref l1, .ref l2, .ref pa, .int (Int32.ofNat n), .ref li, .int kp, .int off, .int so, .int dn, .ref ln, .int lc, .int wd]))) (hpa0 : hq[pa]? = some (.inl (18, p0.map Value.int))) (hcmp : ∀ (ps : List Int32) (x1 x2 : Int32), V x1 → V x2 → Pu S 4 161 [.ref q, .int x1, .int x2] (hPs hq pa ps) (.int (cmpI (key x1) (key x2)))) {Q : XO → Prop} {nc ns : Nat} : ∀ (i : Nat) (ps : List Int32), i + 1 ≤ n → n ≤ ps.length → ps.length ≤ 40000 → allV V n ps → Q (.inl (none, hPs hq pa (outE key i ps), nc, ns)) → At S 6 159 35 [(1, .int (Int32.ofNat i)), (0, .ref q)] [] (hPs hq pa ps) nc ns Q := by
  intro i
  induction i with
  | zero =>
    intro ps hi hn hl hV hK
    refine At.go (q := xm159) rfl 1 (pc' := 36) (L' := [(1, .int (Int32.ofNat 0)), (0, .ref q)]) (st' := [.int (Int32.ofNat 0)]) rfl ?_
    refine At.ic1 (tgt := 86) rfl rfl (fun _ => ?_) (fun h => absurd h (by decide))
    exact At.rt rfl rfl hK
  | succ i ih =>
    intro ps hi hn hl hV hK
    have hq1 : (hPs hq pa ps)[q]? = some (.inr (7, [.ref st, .ref mn, .ref l1, .ref l2, .ref pa, .int (Int32.ofNat n), .ref li, .int kp, .int off, .int so, .int dn, .ref ln, .int lc, .int wd])) := xs_ne (xn_ar hpa0 hq0) hq0
    have hpa1 : (hPs hq pa ps)[pa]? = some (.inl (18, ps.map Value.int)) := xs_eq hpa0
    obtain ⟨v0, hv0⟩ : ∃ v, ps[0]? = some v := ⟨_, List.getElem?_eq_getElem (by omega)⟩
    obtain ⟨vi, hvi⟩ : ∃ v, ps[i + 1]? = some v := ⟨_, List.getElem?_eq_getElem (by omega)⟩
    unfold outE at hK
    rw [hv0, hvi, Option.getD_some, Option.getD_some] at hK
    refine At.go (q := xm159) rfl 1 (pc' := 36) (L' := [(1, .int (Int32.ofNat (i + 1))), (0, .ref q)]) (st' := [.int (Int32.ofNat (i + 1))]) rfl ?_
    refine At.ic1 (tgt := 86) rfl rfl (fun h => absurd (of_decide_eq_true h) (fun h => absurd ((iN_le (a := i + 1) (b := 0) (by omega) (by omega)).mp h) (by omega))) (fun _ => ?_)
    refine At.go (q := xm159) rfl 2 (pc' := 41) (L' := [(1, .int (Int32.ofNat (i + 1))), (0, .ref q)]) (st' := [.ref q, .int (Int32.ofNat (i + 1))]) rfl ?_
    refine At.gf rfl (by decide) hq1 rfl ?_
    refine At.ln rfl hpa1 ?_
    rw [List.length_map]
    refine At.ic2 (tgt := 86) rfl rfl (fun h => absurd ((iN_le (a := ps.length) (b := i + 1) (by omega) (by omega)).mp (of_decide_eq_true h)) (by omega)) (fun _ => ?_)
    refine At.go (q := xm159) rfl 1 (pc' := 49) (L' := [(1, .int (Int32.ofNat (i + 1))), (0, .ref q)]) (st' := [.ref q]) rfl ?_
    refine At.gf rfl (by decide) hq1 rfl ?_
    refine At.go (q := xm159) rfl 1 (pc' := 53) (L' := [(1, .int (Int32.ofNat (i + 1))), (0, .ref q)]) (st' := [.int 0, .ref pa]) rfl ?_
    refine At.al rfl hpa1 (by decide) rfl (by decide) (by rw [List.getElem?_map, show (0 : Int32).toNatClampNeg = 0 from rfl, hv0]; rfl) ?_
    refine At.go (q := xm159) rfl 2 (pc' := 56) (L' := [(2, .int v0), (1, .int (Int32.ofNat (i + 1))), (0, .ref q)]) (st' := [.ref q]) rfl ?_
    refine At.gf rfl (by decide) hq1 rfl ?_
    refine At.go (q := xm159) rfl 2 (pc' := 61) (L' := [(2, .int v0), (1, .int (Int32.ofNat (i + 1))), (0, .ref q)]) (st' := [.ref q, .int 0, .ref pa]) rfl ?_
    refine At.gf rfl (by decide) hq1 rfl ?_
    refine At.go (q := xm159) rfl 1 (pc' := 65) (L' := [(2, .int v0), (1, .int (Int32.ofNat (i + 1))), (0, .ref q)]) (st' := [.int (Int32.ofNat (i + 1)), .ref pa, .int 0, .ref pa]) rfl ?_
    refine At.al rfl hpa1 (by decide) rfl (iN_nn (by omega)) (by rw [iN_tn (by omega), List.getElem?_map, hvi]; rfl) ?_
    refine At.as (j := 0) rfl hpa1 (by decide) rfl (by decide) (by rw [List.length_map, show (0 : Int32).toNatClampNeg = 0 from rfl]; omega) ?_
    have e1 : (hPs hq pa ps).set pa (.inl (18, (ps.map Value.int).set 0 (.int vi))) = hPs hq pa (ps.set 0 vi) := by unfold hPs; rw [List.set_set, ← List.map_set]
    show At S 6 159 67 _ [] ((hPs hq pa ps).set pa (.inl (18, (ps.map Value.int).set 0 (.int vi)))) _ _ _
    rw [e1]
    have hq2 : (hPs hq pa (ps.set 0 vi))[q]? = some (.inr (7, [.ref st, .ref mn, .ref l1, .ref l2, .ref pa, .int (Int32.ofNat n), .ref li, .int kp, .int off, .int so, .int dn, .ref ln, .int lc, .int wd])) := xs_ne (xn_ar hpa0 hq0) hq0
    have hpa2 : (hPs hq pa (ps.set 0 vi))[pa]? = some (.inl (18, (ps.set 0 vi).map Value.int)) := xs_eq hpa0
    refine At.go (q := xm159) rfl 1 (pc' := 68) (L' := [(2, .int v0), (1, .int (Int32.ofNat (i + 1))), (0, .ref q)]) (st' := [.ref q]) rfl ?_
    refine At.gf rfl (by decide) hq2 rfl ?_
    refine At.go (q := xm159) rfl 2 (pc' := 73) (L' := [(2, .int v0), (1, .int (Int32.ofNat (i + 1))), (0, .ref q)]) (st' := [.int v0, .int (Int32.ofNat (i + 1)), .ref pa]) rfl ?_
    refine At.as (j := Int32.ofNat (i + 1)) rfl hpa2 (by decide) rfl (iN_nn (by omega)) (by rw [iN_tn (by omega), List.length_map, List.length_set]; omega) ?_
    rw [iN_tn (by omega)]
    have e2 : (hPs hq pa (ps.set 0 vi)).set pa (.inl (18, ((ps.set 0 vi).map Value.int).set (i + 1) (.int v0))) = hPs hq pa ((ps.set 0 vi).set (i + 1) v0) := by unfold hPs; rw [List.set_set, ← List.map_set]
    show At S 6 159 74 _ [] ((hPs hq pa (ps.set 0 vi)).set pa (.inl (18, ((ps.set 0 vi).map Value.int).set (i + 1) (.int v0)))) _ _ _
    rw [e2]
    have hV2 : allV V n ((ps.set 0 vi).set (i + 1) v0) := (hV.set (hV (i + 1) vi (by omega) hvi)).set (hV 0 v0 (by omega) hv0)
    have hl2 : ((ps.set 0 vi).set (i + 1) v0).length = ps.length := by rw [List.length_set, List.length_set]
    have hq3 : (hPs hq pa ((ps.set 0 vi).set (i + 1) v0))[q]? = some (.inr (7, [.ref st, .ref mn, .ref l1, .ref l2, .ref pa, .int (Int32.ofNat n), .ref li, .int kp, .int off, .int so, .int dn, .ref ln, .int lc, .int wd])) := xs_ne (xn_ar hpa0 hq0) hq0
    refine At.go (q := xm159) rfl 3 (pc' := 77) (L' := [(2, .int v0), (1, .int (Int32.ofNat (i + 1))), (0, .ref q)]) (st' := [.int (Int32.ofNat (i + 1)), .int 0, .ref q]) rfl ?_
    refine At.clm (as := [.ref q, .int 0, .int (Int32.ofNat (i + 1))]) (rest := []) rfl (by decide) rfl (Nat.le_of_ble_eq_true rfl) (Nat.le_of_ble_eq_true rfl) (xrck_o (by decide) (by decide) hq3 (by decide)) (Nat.le_of_ble_eq_true rfl) (m_sink (a := 0) hq0 hpa0 hcmp (size := i + 1) (by rw [hl2]; omega) (by rw [hl2]; exact hl) (by omega) (fun k v hk hv => hV2 k v (by omega) hv)) (fun v9 hp1 c1 s1 hv9 => ?_)
    obtain ⟨rfl, rfl, rfl, rfl⟩ := hv9
    refine At.go (q := xm159) rfl 2 (pc' := 35) (L' := [(1, .int ((Int32.ofNat (i + 1)) + (-1))), (2, .int v0), (0, .ref q)]) (st' := []) rfl ?_
    rw [show Int32.ofNat (i + 1) + (-1) = Int32.ofNat i from by rw [← iN_m2 (n := i)]; exact (Int32.sub_eq_add_neg _ _).symm]
    refine At.wk (L' := [(1, .int (Int32.ofNat i)), (0, .ref q)]) (List.forall_mem_cons.mpr ⟨List.mem_of_getElem? (i := 0) rfl, (List.forall_mem_cons.mpr ⟨List.mem_of_getElem? (i := 2) rfl, (fun _ h => (List.not_mem_nil h).elim)⟩)⟩) (show ([1, 2, 0] : List Nat).Nodup by decide) ?_
    exact ih _ (by omega) (by rw [sinkE_len, hl2]; exact hn) (by rw [sinkE_len, hl2]; exact hl) (sinkE_V (by omega) _ _ _ (by rw [hl2]; exact hn) hV2) hK
/-- sortPicked -/
theorem m_sortPicked {S : List Int32} {hq : List XC} {q st mn l1 l2 pa li ln n : Nat} {kp off so dn lc wd : Int32} {key : Int32 → Int32} {V : Int32 → Prop} {p0 : List Int32} (hq0 : hq[q]? = some (.inr (7, [.ref st, .ref mn, .ref l1, .ref l2, .ref pa, .int (Int32.ofNat n), .ref li, .int kp, .int off, .int so, .int dn, .ref ln, .int lc, .int wd]))) (hpa0 : hq[pa]? = some (.inl (18, p0.map Value.int))) (hcmp : ∀ (ps : List Int32) (x1 x2 : Int32), V x1 → V x2 → Pu S 4 161 [.ref q, .int x1, .int x2] (hPs hq pa ps) (.int (cmpI (key x1) (key x2)))) {ps : List Int32} (hn : n ≤ ps.length) (hl : ps.length ≤ 40000) (hV : allV V n ps) : Me S 6 159 [.ref q] (hPs hq pa ps) (fun v hp' c s => v = none ∧ hp' = hPs hq pa (sortE key n ps) ∧ c = 0 ∧ s = 0) := by
  have hq1 : (hPs hq pa ps)[q]? = some (.inr (7, [.ref st, .ref mn, .ref l1, .ref l2, .ref pa, .int (Int32.ofNat n), .ref li, .int kp, .int off, .int so, .int dn, .ref ln, .int lc, .int wd])) := xs_ne (xn_ar hpa0 hq0) hq0
  have hpa1 : (hPs hq pa ps)[pa]? = some (.inl (18, ps.map Value.int)) := xs_eq hpa0
  refine At.go (q := xm159) rfl 1 (pc' := 1) (L' := [(0, .ref q)]) (st' := [.ref q]) rfl ?_
  refine At.gf rfl (by decide) hq1 rfl ?_
  refine At.go (q := xm159) rfl 1 (pc' := 5) (L' := [(0, .ref q)]) (st' := [.int 2, .int (Int32.ofNat n)]) rfl ?_
  refine At.dv rfl (by decide) ?_
  refine At.go (q := xm159) rfl 2 (pc' := 8) (L' := [(0, .ref q)]) (st' := [.int (((Int32.ofNat n) / 2) - 1)]) rfl ?_
  rw [show Int32.ofNat n / 2 = Int32.ofNat (n / 2) from by rw [show (2 : Int32) = Int32.ofNat 2 from rfl, iN_div (by omega) (by decide)]]
  refine At.go (q := xm159) rfl 1 (pc' := 9) (L' := [(1, .int (Int32.ofNat (n / 2) - 1)), (0, .ref q)]) (st' := []) rfl ?_
  refine At.wk (L' := [(1, .int (Int32.ofNat (n / 2) - 1)), (0, .ref q)]) (List.forall_mem_cons.mpr ⟨List.mem_of_getElem? (i := 0) rfl, (List.forall_mem_cons.mpr ⟨List.mem_of_getElem? (i := 1) rfl, (fun _ h => (List.not_mem_nil h).elim)⟩)⟩) (show ([1, 0] : List Nat).Nodup by decide) ?_
  refine bld_loop hq0 hpa0 hcmp (n / 2) ps (by omega) hn hl hV ?_
  have hq9 : (hPs hq pa (bldE key n (n / 2) ps))[q]? = some (.inr (7, [.ref st, .ref mn, .ref l1, .ref l2, .ref pa, .int (Int32.ofNat n), .ref li, .int kp, .int off, .int so, .int dn, .ref ln, .int lc, .int wd])) := xs_ne (xn_ar hpa0 hq0) hq0
  refine At.go (q := xm159) rfl 1 (pc' := 29) (L' := [(0, .ref q)]) (st' := [.ref q]) rfl ?_
  refine At.gf rfl (by decide) hq9 rfl ?_
  refine At.go (q := xm159) rfl 3 (pc' := 35) (L' := [(1, .int ((Int32.ofNat n) - 1)), (0, .ref q)]) (st' := []) rfl ?_
  cases hnz : n with
  | zero =>
    subst hnz
    refine At.go (q := xm159) rfl 1 (pc' := 36) (L' := [(1, .int (Int32.ofNat 0 - 1)), (0, .ref q)]) (st' := [.int (Int32.ofNat 0 - 1)]) rfl ?_
    refine At.ic1 (tgt := 86) rfl rfl (fun _ => ?_) (fun h => absurd h (by decide))
    exact At.rt rfl rfl ⟨_, _, _, _, rfl, rfl, rfl, rfl, rfl⟩
  | succ j =>
    subst hnz
    rw [iN_m2]
    refine At.wk (L' := [(1, .int (Int32.ofNat j)), (0, .ref q)]) (List.forall_mem_cons.mpr ⟨List.mem_of_getElem? (i := 0) rfl, (List.forall_mem_cons.mpr ⟨List.mem_of_getElem? (i := 1) rfl, (fun _ h => (List.not_mem_nil h).elim)⟩)⟩) (show ([1, 0] : List Nat).Nodup by decide) ?_
    refine out_loop hq0 hpa0 hcmp j _ (Nat.le_refl _) (by rw [bldE_len]; exact hn) (by rw [bldE_len]; exact hl) (bldE_V _ _ hn hV) ?_
    exact ⟨_, _, _, _, rfl, rfl, rfl, rfl, rfl⟩
