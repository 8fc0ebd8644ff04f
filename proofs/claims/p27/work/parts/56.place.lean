/-! lists: add at a place, remove, set (written by wip/p27/c56.py) -/
/-- a method that leaves the heap as it was and answers nothing -/
def Pv (S : List Int32) (d y : Nat) (as : List Value) (hp : List XC) : Prop := At S d y 0 (lv_args 0 as) [] hp 0 0 (fun o => o = .inl (none, hp, 0, 0))
theorem At.clv {S : List Int32} {d Y pc : Nat} {L : List (Nat × Value)} {hp : List XC} {nc ns : Nat} {Q : XO → Prop} {e : XI} {d' : Nat} {as rest : List Value} (hC : xmC (xMT Y) pc = some e) (hk : 30 ≤ e.1 ∧ e.1 < 40) (hlen : as.length = e.2.2.2.1) (hs1 : xsum rest ≤ 8) (hs2 : xsum as ≤ xmL (xMT e.2.2.1)) (hr : xrck xKC hp e.1 e.2.2.2.2.2 as = true) (hd : d' + 1 ≤ d) (hcal : Pv S d' e.2.2.1 as hp) (k1 : At S d Y (pc + 3) L rest hp nc ns Q) : At S d Y pc L (as.reverse ++ rest) hp nc ns Q := by
  refine At.cl hC hk hlen hs1 hs2 hr hd hcal (fun v' hp' c s h => ?_) (fun E hp' c s h => ?_)
  · cases h
    exact k1
  · cases h
theorem xcpl_q {e0 e1 : List Value} {sp dp n : Nat} (h0 : sp + n ≤ e0.length) (h1 : dp + n ≤ e1.length) (j : Nat) : (xcpl e0 e1 sp dp n)[j]? = if dp ≤ j ∧ j < dp + n then e0[sp + (j - dp)]? else e1[j]? := by
  unfold xcpl
  by_cases a : j < dp
  · rw [if_neg (by omega), List.getElem?_append_left (by rw [List.length_take]; omega), List.getElem?_take, if_pos a]
  · rw [List.getElem?_append_right (by rw [List.length_take]; omega), List.length_take, Nat.min_eq_left (by omega)]
    by_cases b : j < dp + n
    · rw [if_pos ⟨by omega, b⟩, List.getElem?_append_left (by rw [List.length_take, List.length_drop]; omega), List.getElem?_take, if_pos (by omega), List.getElem?_drop]
    · rw [if_neg (by omega), List.getElem?_append_right (by rw [List.length_take, List.length_drop]; omega), List.length_take, List.length_drop, Nat.min_eq_left (by omega), List.getElem?_drop]
      exact congrArg (fun i => e1[i]?) (by omega)
theorem xlst_q {as : List Nat} {m j : Nat} : (as.map Value.ref ++ List.replicate m Value.null)[j]? = if j < as.length then (as[j]?).map Value.ref else if j < as.length + m then some .null else none := by
  by_cases h : j < as.length
  · rw [if_pos h, List.getElem?_append_left (by rw [List.length_map]; exact h), List.getElem?_map]
  · rw [if_neg h, List.getElem?_append_right (by rw [List.length_map]; omega), List.length_map, List.getElem?_replicate]
    by_cases h2 : j < as.length + m
    · rw [if_pos (by omega), if_pos h2]
    · rw [if_neg (by omega), if_neg h2]
/-- one more element at a place -/
def insAt (as : List Nat) (k a : Nat) : List Nat := as.take k ++ a :: as.drop k
theorem insAt_len {as : List Nat} {k a : Nat} : (insAt as k a).length = as.length + 1 := by
  unfold insAt
  rw [List.length_append, List.length_cons, List.length_take, List.length_drop]
  omega
theorem insAt_q {as : List Nat} {k a j : Nat} (hk : k ≤ as.length) : (insAt as k a)[j]? = if j < k then as[j]? else if j = k then some a else as[j - 1]? := by
  unfold insAt
  by_cases h : j < k
  · rw [if_pos h, List.getElem?_append_left (by rw [List.length_take]; omega), List.getElem?_take, if_pos h]
  · rw [if_neg h, List.getElem?_append_right (by rw [List.length_take]; omega), List.length_take, Nat.min_eq_left hk]
    by_cases h2 : j = k
    · rw [if_pos h2, h2, Nat.sub_self]; rfl
    · rw [if_neg h2, show j - k = (j - k - 1) + 1 by omega, List.getElem?_cons_succ, List.getElem?_drop]
      exact congrArg (fun i => as[i]?) (by omega)
theorem insAt_m {as : List Nat} {k a b : Nat} (h : b ∈ insAt as k a) : b ∈ as ∨ b = a := by
  rcases List.mem_append.mp h with h | h
  · exact Or.inl (List.mem_of_mem_take h)
  · rcases List.mem_cons.mp h with h | h
    · exact Or.inr h
    · exact Or.inl (List.mem_of_mem_drop h)
theorem xins_at {as : List Nat} {m k a : Nat} (hk : k ≤ as.length) (hm : 1 ≤ m) : (xcpl (as.map Value.ref ++ List.replicate m Value.null) (as.map Value.ref ++ List.replicate m Value.null) k (k + 1) (as.length - k)).set k (.ref a) = (insAt as k a).map Value.ref ++ List.replicate (m - 1) Value.null := by
  refine List.ext_getElem? (fun j => ?_)
  have hl : (xcpl (as.map Value.ref ++ List.replicate m Value.null) (as.map Value.ref ++ List.replicate m Value.null) k (k + 1) (as.length - k)).length = as.length + m := by
    rw [xcpl_len (by rw [xlst]; omega) (by rw [xlst]; omega), xlst]
  rw [List.getElem?_set, hl, xcpl_q (by rw [xlst]; omega) (by rw [xlst]; omega), xlst_q, xlst_q, xlst_q, insAt_len, insAt_q hk]
  by_cases h1 : k = j
  · subst h1
    rw [if_pos rfl, if_pos (by omega), if_pos (by omega), if_neg (by omega), if_pos rfl]
    rfl
  · rw [if_neg h1]
    by_cases h2 : j < k
    · rw [if_neg (by omega), if_pos (by omega), if_pos (by omega), if_pos h2]
    · by_cases h3 : j < as.length + 1
      · rw [if_pos ⟨by omega, by omega⟩, if_pos (by omega), if_pos h3, if_neg h2, if_neg (by omega)]
        exact congrArg (fun i => (as[i]?).map Value.ref) (by omega)
      · rw [if_neg (by omega), if_neg (by omega), if_neg h3]
        by_cases h4 : j < as.length + m
        · rw [if_pos h4, if_pos (by omega)]
        · rw [if_neg h4, if_neg (by omega)]
theorem xrem_at {as : List Nat} {m k : Nat} (hk : k < as.length) : (if as.length - 1 > k then xcpl (as.map Value.ref ++ List.replicate m Value.null) (as.map Value.ref ++ List.replicate m Value.null) (k + 1) k (as.length - 1 - k) else as.map Value.ref ++ List.replicate m Value.null).set (as.length - 1) .null = (as.eraseIdx k).map Value.ref ++ List.replicate (m + 1) Value.null := by
  refine List.ext_getElem? (fun j => ?_)
  have e1 : (as.eraseIdx k).length = as.length - 1 := List.length_eraseIdx_of_lt hk
  have hl : (if as.length - 1 > k then xcpl (as.map Value.ref ++ List.replicate m Value.null) (as.map Value.ref ++ List.replicate m Value.null) (k + 1) k (as.length - 1 - k) else as.map Value.ref ++ List.replicate m Value.null).length = as.length + m := by
    split
    · rw [xcpl_len (by rw [xlst]; omega) (by rw [xlst]; omega), xlst]
    · exact xlst
  rw [List.getElem?_set, hl, xlst_q, e1, List.getElem?_eraseIdx]
  by_cases h1 : as.length - 1 = j
  · rw [if_pos h1, if_pos (by omega), if_neg (by omega), if_pos (by omega)]
  · rw [if_neg h1]
    split
    · rename_i h2
      rw [xcpl_q (by rw [xlst]; omega) (by rw [xlst]; omega), xlst_q, xlst_q]
      by_cases h3 : j < k
      · rw [if_neg (by omega), if_pos (by omega), if_pos (by omega), if_pos h3]
      · by_cases h4 : j < as.length - 1
        · rw [if_pos ⟨by omega, by omega⟩, if_pos (by omega), if_pos h4, if_neg h3]
          exact congrArg (fun i => (as[i]?).map Value.ref) (by omega)
        · rw [if_neg (by omega), if_neg (by omega), if_neg h4]
          by_cases h5 : j < as.length + m
          · rw [if_pos h5, if_pos (by omega)]
          · rw [if_neg h5, if_neg (by omega)]
    · rename_i h2
      rw [xlst_q]
      by_cases h4 : j < as.length - 1
      · rw [if_pos (by omega), if_pos h4, if_pos (by omega)]
      · rw [if_neg (by omega), if_neg h4]
        by_cases h5 : j < as.length + m
        · rw [if_pos h5, if_pos (by omega)]
        · rw [if_neg h5, if_neg (by omega)]
theorem m_rangeAdd {S : List Int32} {hp : List XC} {l k n : Nat} {mc ev : Value} (h1 : hp[l]? = some (.inr (2, [mc, ev, .int (Int32.ofNat n)]))) (hk : k ≤ n) (hn : n ≤ 100000) : Pv S 0 169 [.ref l, .int (Int32.ofNat k)] hp := by
  refine At.go (q := xm169) rfl 2 (pc' := 2) (L' := [(0, .ref l), (1, .int (Int32.ofNat k))]) (st' := [.ref l, .int (Int32.ofNat k)]) rfl ?_
  refine At.gf rfl (by decide) h1 rfl ?_
  refine At.ic2 (tgt := 12) rfl rfl (fun h => absurd (h.symm.trans (decide_eq_false (fun h => absurd ((iN_lt (by omega) (by omega)).mp h) (by omega)))) (by decide)) (fun _ => ?_)
  refine At.go (q := xm169) rfl 1 (pc' := 9) (L' := [(0, .ref l), (1, .int (Int32.ofNat k))]) (st' := [.int (Int32.ofNat k)]) rfl ?_
  refine At.ic1 (tgt := 25) rfl rfl (fun _ => ?_) (fun h => absurd (h.symm.trans (decide_eq_true (Int32.zero_le_ofNat_of_lt (by omega)))) (by decide))
  exact At.rt rfl rfl rfl
