/-! texts: beginnings (written by wip/p27/c999999999999.py) -/
theorem xret_bo {r : Option FieldType} (h : r = some .boolean) (b : Bool) : xret r .ireturn [.int (bI b)] = some (some (.int (bI b))) := by
  subst h
  cases b <;> rfl
def mmF : List Nat → List Nat → Nat → Int32
  | _, [], _ => -1
  | [], _ :: _, i => Int32.ofNat i
  | c :: cs, p :: ps, i => if c = p then mmF cs ps (i + 1) else Int32.ofNat i
theorem mmF_neg : ∀ (cs ps : List Nat) (i : Nat), ps.length ≤ cs.length → i + ps.length ≤ 1000 → (mmF cs ps i < 0 ↔ cs.take ps.length = ps)
  | cs, [], i, _, _ => by
    unfold mmF
    exact iff_of_true (by decide) (List.take_zero)
  | [], _ :: _, _, h, _ => absurd h (Nat.not_succ_le_zero _)
  | c :: cs, p :: ps, i, h, hi => by
    rw [List.length_cons, List.length_cons] at h
    rw [List.length_cons] at hi
    unfold mmF
    rw [List.length_cons, List.take_succ_cons]
    by_cases e : c = p
    · rw [if_pos e, mmF_neg cs ps (i + 1) (by omega) (by omega), e]
      exact ⟨fun h9 => by rw [h9], fun h9 => (List.cons.inj h9).2⟩
    · rw [if_neg e]
      exact iff_of_false (iN_nn (by omega)) (fun h9 => e (List.cons.inj h9).1)
theorem mmF_d {cs ps : List Nat} {i c p : Nat} (hc : cs[i]? = some c) (hp : ps[i]? = some p) : mmF (cs.drop i) (ps.drop i) i = if c = p then mmF (cs.drop (i + 1)) (ps.drop (i + 1)) (i + 1) else Int32.ofNat i := by
  have h1 := (List.getElem?_eq_some_iff.mp hc)
  have h2 := (List.getElem?_eq_some_iff.mp hp)
  obtain ⟨l1, e1⟩ := h1
  obtain ⟨l2, e2⟩ := h2
  rw [List.drop_eq_getElem_cons l1, List.drop_eq_getElem_cons l2, e1, e2]
  rfl
theorem b_eq {a b : Nat} (ha : a < 128) (hb : b < 128) : Int32.ofNat a = Int32.ofNat b ↔ a = b := iN_eq (by omega) (by omega)
theorem mm_loop_r {S : List Int32} {hp : List XC} {cs : List Nat} {va : Nat} (h2 : hp[va]? = some (.inl (2, bL cs))) {ps : List Nat} {vq : Nat} (k2 : xKC[vq]? = some (.inl (2, bL ps))) (hd : cOk cs) (hcl : cs.length ≤ 1000) (he : cOk ps) (hpl : ps.length ≤ cs.length) (hp7 : ps.length ≤ 7) : ∀ (f i : Nat), i + f = ps.length → At S 0 240 70 [(5, .int (Int32.ofNat i)), (0, .ref va), (1, .int 0), (2, .retAddr vq), (3, .int 0), (4, .int (Int32.ofNat ps.length))] [] hp 0 0 (fun o => o = .inl (some (.int (mmF (cs.drop i) (ps.drop i) i)), hp, 0, 0))
  | 0, i, hi => by
    refine At.go (q := xm240) rfl 2 (pc' := 74) (L' := [(5, .int (Int32.ofNat i)), (0, .ref va), (1, .int 0), (2, .retAddr vq), (3, .int 0), (4, .int (Int32.ofNat ps.length))]) (st' := [.int (Int32.ofNat ps.length), .int (Int32.ofNat i)]) rfl ?_
    refine At.ic2 (tgt := 101) rfl rfl (fun _ => ?_) (fun h => absurd (h.symm.trans (decide_eq_true (Int32.not_lt.mp (fun h => absurd ((iN_lt (by omega) (by omega)).mp h) (by omega))))) (by decide))
    refine At.go (q := xm240) rfl 1 (pc' := 102) (L' := [(5, .int (Int32.ofNat i)), (0, .ref va), (1, .int 0), (2, .retAddr vq), (3, .int 0), (4, .int (Int32.ofNat ps.length))]) (st' := [.int (-1)]) rfl ?_
    rw [List.drop_of_length_le (show ps.length ≤ i by omega)]
    exact At.rt rfl (xret_i rfl) (by unfold mmF; rfl)
  | f + 1, i, hi => by
    obtain ⟨c, hc⟩ : ∃ c, cs[i]? = some c := ⟨_, List.getElem?_eq_getElem (by omega)⟩
    obtain ⟨p9, hp9⟩ : ∃ c, ps[i]? = some c := ⟨_, List.getElem?_eq_getElem (by omega)⟩
    have hc8 := hd c (List.mem_of_getElem? hc)
    have hp8 := he p9 (List.mem_of_getElem? hp9)
    refine At.go (q := xm240) rfl 2 (pc' := 74) (L' := [(5, .int (Int32.ofNat i)), (0, .ref va), (1, .int 0), (2, .retAddr vq), (3, .int 0), (4, .int (Int32.ofNat ps.length))]) (st' := [.int (Int32.ofNat ps.length), .int (Int32.ofNat i)]) rfl ?_
    refine At.ic2 (tgt := 101) rfl rfl (fun h => absurd (h.symm.trans (decide_eq_false (fun h => absurd ((iN_lt (a := i) (b := ps.length) (by omega) (by omega)).mpr (by omega)) (Int32.not_lt.mpr h)))) (by decide)) (fun _ => ?_)
    refine At.go (q := xm240) rfl 4 (pc' := 82) (L' := [(5, .int (Int32.ofNat i)), (0, .ref va), (1, .int 0), (2, .retAddr vq), (3, .int 0), (4, .int (Int32.ofNat ps.length))]) (st' := [.int (0 + (Int32.ofNat i)), .ref va]) rfl ?_
    rw [show (0 : Int32) + Int32.ofNat i = Int32.ofNat i from Int32.zero_add _]
    refine At.al rfl h2 (by decide) rfl (iN_nn (by omega)) (by rw [iN_tn (by omega)]; exact bL_at hc) ?_
    refine At.go (q := xm240) rfl 4 (pc' := 88) (L' := [(5, .int (Int32.ofNat i)), (0, .ref va), (1, .int 0), (2, .retAddr vq), (3, .int 0), (4, .int (Int32.ofNat ps.length))]) (st' := [.int (0 + (Int32.ofNat i)), .retAddr vq, .int (Int32.ofNat c)]) rfl ?_
    rw [show (0 : Int32) + Int32.ofNat i = Int32.ofNat i from Int32.zero_add _]
    refine At.ak rfl k2 (by decide) rfl (iN_nn (by omega)) (by rw [iN_tn (by omega)]; exact bL_at hp9) ?_
    rw [mmF_d hc hp9]
    by_cases hq : c = p9
    · rw [if_pos hq]
      refine At.ic2 (tgt := 95) rfl rfl (fun _ => ?_) (fun h => absurd (h.symm.trans (decide_eq_true ((b_eq hc8 hp8).mpr hq))) (by decide))
      refine At.go (q := xm240) rfl 2 (pc' := 70) (L' := [(5, .int ((Int32.ofNat i) + 1)), (0, .ref va), (1, .int 0), (2, .retAddr vq), (3, .int 0), (4, .int (Int32.ofNat ps.length))]) (st' := []) rfl ?_
      rw [iN_s]
      exact mm_loop_r h2 k2 hd hcl he hpl hp7 f (i + 1) (by omega)
    · rw [if_neg hq]
      refine At.ic2 (tgt := 95) rfl rfl (fun h => absurd (h.symm.trans (decide_eq_false (fun e => hq ((b_eq hc8 hp8).mp e)))) (by decide)) (fun _ => ?_)
      refine At.go (q := xm240) rfl 1 (pc' := 94) (L' := [(5, .int (Int32.ofNat i)), (0, .ref va), (1, .int 0), (2, .retAddr vq), (3, .int 0), (4, .int (Int32.ofNat ps.length))]) (st' := [.int (Int32.ofNat i)]) rfl ?_
      exact At.rt rfl (xret_i rfl) rfl
theorem m_mism_r {S : List Int32} {hp : List XC} {cs : List Nat} {va : Nat} (h2 : hp[va]? = some (.inl (2, bL cs))) {ps : List Nat} {vq : Nat} (k2 : xKC[vq]? = some (.inl (2, bL ps))) (hd : cOk cs) (hcl : cs.length ≤ 1000) (he : cOk ps) (hpl : ps.length ≤ cs.length) (hp7 : ps.length ≤ 7) : Pu S 0 240 [.ref va, .int 0, .retAddr vq, .int 0, .int (Int32.ofNat ps.length)] hp (.int (mmF cs ps 0)) := by
  refine At.go (q := xm240) rfl 4 (pc' := 7) (L' := [(5, .int 0), (0, .ref va), (1, .int 0), (2, .retAddr vq), (3, .int 0), (4, .int (Int32.ofNat ps.length))]) (st' := [.int 7, .int (Int32.ofNat ps.length)]) rfl ?_
  refine At.ic2 (tgt := 70) rfl rfl (fun _ => ?_) (fun h => absurd (h.symm.trans (decide_eq_true ((iN_le (b := 7) (by omega) (by omega)).mpr hp7))) (by decide))
  exact mm_loop_r h2 k2 hd hcl he hpl hp7 ps.length 0 (by omega)
theorem m_sw2_r {S : List Int32} {hp : List XC} {cs : List Nat} {t va : Nat} {r : List Value} (h1 : hp[t]? = some (.inr (0, .ref va :: .int 0 :: r))) (h2 : hp[va]? = some (.inl (2, bL cs))) {ps : List Nat} {q vq : Nat} {r9 : List Value} (k1 : xKC[q]? = some (.inr (0, .retAddr vq :: .int 0 :: r9))) (k2 : xKC[vq]? = some (.inl (2, bL ps))) (hd : cOk cs) (hcl : cs.length ≤ 1000) (he : cOk ps) (hpl : ps.length ≤ cs.length) (hp7 : ps.length ≤ 7) : Pu S 2 239 [.ref t, .retAddr q, .int 0] hp (.int (bI (decide (cs.take ps.length = ps)))) := by
  refine At.go (q := xm239) rfl 4 (pc' := 6) (L' := [(0, .ref t), (1, .retAddr q), (2, .int 0)]) (st' := [.ref t, .int 0]) rfl ?_
  refine At.clp (as := [.ref t]) (rest := [.int 0]) rfl (by decide) rfl (Nat.le_of_ble_eq_true rfl) (Nat.le_of_ble_eq_true rfl) (xrck_o (by decide) (by decide) h1 (by decide)) (Nat.le_of_ble_eq_true rfl) (m_slen_r h1 h2 hcl) ?_
  refine At.go (q := xm239) rfl 1 (pc' := 10) (L' := [(0, .ref t), (1, .retAddr q), (2, .int 0)]) (st' := [.retAddr q, .int (Int32.ofNat cs.length), .int 0]) rfl ?_
  refine At.clp (as := [.retAddr q]) (rest := [.int (Int32.ofNat cs.length), .int 0]) rfl (by decide) rfl (Nat.le_of_ble_eq_true rfl) (Nat.le_of_ble_eq_true rfl) (xrck_k (by decide) (by decide) k1 (by decide)) (Nat.le_of_ble_eq_true rfl) (m_slen_k k1 k2 (by omega)) ?_
  refine At.go (q := xm239) rfl 1 (pc' := 14) (L' := [(0, .ref t), (1, .retAddr q), (2, .int 0)]) (st' := [.int ((Int32.ofNat cs.length) - (Int32.ofNat ps.length)), .int 0]) rfl ?_
  rw [iN_sub hpl]
  refine At.ic2 (tgt := 19) rfl rfl (fun _ => ?_) (fun h => absurd (h.symm.trans (decide_eq_true (Int32.not_lt.mp (iN_nn (by omega))))) (by decide))
  refine At.go (q := xm239) rfl 1 (pc' := 20) (L' := [(0, .ref t), (1, .retAddr q), (2, .int 0)]) (st' := [.ref t]) rfl ?_
  refine At.gf rfl (by decide) h1 rfl ?_
  refine At.go (q := xm239) rfl 2 (pc' := 25) (L' := [(3, .ref va), (0, .ref t), (1, .retAddr q), (2, .int 0)]) (st' := [.retAddr q]) rfl ?_
  refine At.gk rfl (by decide) k1 rfl ?_
  refine At.go (q := xm239) rfl 4 (pc' := 35) (L' := [(5, .int 0), (4, .retAddr vq), (3, .ref va), (0, .ref t), (1, .retAddr q), (2, .int 0)]) (st' := [.retAddr vq]) rfl ?_
  refine At.lk rfl k2 ?_
  rw [bL_len]
  refine At.go (q := xm239) rfl 2 (pc' := 39) (L' := [(6, .int (Int32.ofNat ps.length)), (5, .int 0), (4, .retAddr vq), (3, .ref va), (0, .ref t), (1, .retAddr q), (2, .int 0)]) (st' := [.ref t]) rfl ?_
  refine At.clp (as := [.ref t]) (rest := []) rfl (by decide) rfl (Nat.le_of_ble_eq_true rfl) (Nat.le_of_ble_eq_true rfl) (xrck_o (by decide) (by decide) h1 (by decide)) (Nat.le_of_ble_eq_true rfl) (m_coder_r h1 h2) ?_
  refine At.go (q := xm239) rfl 3 (pc' := 47) (L' := [(7, .int 0), (6, .int (Int32.ofNat ps.length)), (5, .int 0), (4, .retAddr vq), (3, .ref va), (0, .ref t), (1, .retAddr q), (2, .int 0)]) (st' := [.retAddr q, .int 0]) rfl ?_
  refine At.clp (as := [.retAddr q]) (rest := [.int 0]) rfl (by decide) rfl (Nat.le_of_ble_eq_true rfl) (Nat.le_of_ble_eq_true rfl) (xrck_k (by decide) (by decide) k1 (by decide)) (Nat.le_of_ble_eq_true rfl) (m_coder_k k1 k2) ?_
  refine At.ic2 (tgt := 82) rfl rfl (fun h => absurd (h.symm.trans (show xcm .ne 0 0 = false from rfl)) (by decide)) (fun _ => ?_)
  refine At.go (q := xm239) rfl 2 (pc' := 56) (L' := [(7, .int 0), (6, .int (Int32.ofNat ps.length)), (5, .int 0), (4, .retAddr vq), (3, .ref va), (0, .ref t), (1, .retAddr q), (2, .int 0)]) (st' := [.int 1, .int 0]) rfl ?_
  refine At.ic2 (tgt := 63) rfl rfl (fun _ => ?_) (fun h => absurd (h.symm.trans (show xcm .ne 0 1 = true from rfl)) (by decide))
  refine At.go (q := xm239) rfl 5 (pc' := 70) (L' := [(7, .int 0), (6, .int (Int32.ofNat ps.length)), (5, .int 0), (4, .retAddr vq), (3, .ref va), (0, .ref t), (1, .retAddr q), (2, .int 0)]) (st' := [.int (Int32.ofNat ps.length), .int 0, .retAddr vq, .int 0, .ref va]) rfl ?_
  refine At.clp (as := [.ref va, .int 0, .retAddr vq, .int 0, .int (Int32.ofNat ps.length)]) (rest := []) rfl (by decide) rfl (Nat.le_of_ble_eq_true rfl) (Nat.le_of_ble_eq_true rfl) rfl (Nat.le_of_ble_eq_true rfl) (m_mism_r h2 k2 hd hcl he hpl hp7) ?_
  by_cases hq : cs.take ps.length = ps
  · rw [decide_eq_true hq]
    refine At.ic1 (tgt := 80) rfl rfl (fun h => absurd (h.symm.trans (decide_eq_false (Int32.not_le.mpr ((mmF_neg cs ps 0 hpl (by omega)).mpr hq)))) (by decide)) (fun _ => ?_)
    refine At.go (q := xm239) rfl 2 (pc' := 81) (L' := [(7, .int 0), (6, .int (Int32.ofNat ps.length)), (5, .int 0), (4, .retAddr vq), (3, .ref va), (0, .ref t), (1, .retAddr q), (2, .int 0)]) (st' := [.int 1]) rfl ?_
    exact At.rt rfl rfl rfl
  · rw [decide_eq_false hq]
    refine At.ic1 (tgt := 80) rfl rfl (fun _ => ?_) (fun h => absurd (h.symm.trans (decide_eq_true (Int32.not_lt.mp (fun h => hq ((mmF_neg cs ps 0 hpl (by omega)).mp h))))) (by decide))
    refine At.go (q := xm239) rfl 1 (pc' := 81) (L' := [(7, .int 0), (6, .int (Int32.ofNat ps.length)), (5, .int 0), (4, .retAddr vq), (3, .ref va), (0, .ref t), (1, .retAddr q), (2, .int 0)]) (st' := [.int 0]) rfl ?_
    exact At.rt rfl rfl rfl
theorem m_sw_r {S : List Int32} {hp : List XC} {cs : List Nat} {t va : Nat} {r : List Value} (h1 : hp[t]? = some (.inr (0, .ref va :: .int 0 :: r))) (h2 : hp[va]? = some (.inl (2, bL cs))) {ps : List Nat} {q vq : Nat} {r9 : List Value} (k1 : xKC[q]? = some (.inr (0, .retAddr vq :: .int 0 :: r9))) (k2 : xKC[vq]? = some (.inl (2, bL ps))) (hd : cOk cs) (hcl : cs.length ≤ 1000) (he : cOk ps) (hpl : ps.length ≤ cs.length) (hp7 : ps.length ≤ 7) : Pu S 3 238 [.ref t, .retAddr q] hp (.int (bI (decide (cs.take ps.length = ps)))) := by
  refine At.go (q := xm238) rfl 3 (pc' := 3) (L' := [(0, .ref t), (1, .retAddr q)]) (st' := [.int 0, .retAddr q, .ref t]) rfl ?_
  refine At.clp (as := [.ref t, .retAddr q, .int 0]) (rest := []) rfl (by decide) rfl (Nat.le_of_ble_eq_true rfl) (Nat.le_of_ble_eq_true rfl) (xrck_o (by decide) (by decide) h1 (by decide)) (Nat.le_of_ble_eq_true rfl) (m_sw2_r h1 h2 k1 k2 hd hcl he hpl hp7) ?_
  exact At.rt rfl (xret_bo rfl _) rfl
theorem mm_loop_k {S : List Int32} {hp : List XC} {cs : List Nat} {vk : Nat} (h2 : xKC[vk]? = some (.inl (2, bL cs))) {ps : List Nat} {vq : Nat} (k2 : xKC[vq]? = some (.inl (2, bL ps))) (hd : cOk cs) (hcl : cs.length ≤ 1000) (he : cOk ps) (hpl : ps.length ≤ cs.length) (hp7 : ps.length ≤ 7) : ∀ (f i : Nat), i + f = ps.length → At S 0 240 70 [(5, .int (Int32.ofNat i)), (0, .retAddr vk), (1, .int 0), (2, .retAddr vq), (3, .int 0), (4, .int (Int32.ofNat ps.length))] [] hp 0 0 (fun o => o = .inl (some (.int (mmF (cs.drop i) (ps.drop i) i)), hp, 0, 0))
  | 0, i, hi => by
    refine At.go (q := xm240) rfl 2 (pc' := 74) (L' := [(5, .int (Int32.ofNat i)), (0, .retAddr vk), (1, .int 0), (2, .retAddr vq), (3, .int 0), (4, .int (Int32.ofNat ps.length))]) (st' := [.int (Int32.ofNat ps.length), .int (Int32.ofNat i)]) rfl ?_
    refine At.ic2 (tgt := 101) rfl rfl (fun _ => ?_) (fun h => absurd (h.symm.trans (decide_eq_true (Int32.not_lt.mp (fun h => absurd ((iN_lt (by omega) (by omega)).mp h) (by omega))))) (by decide))
    refine At.go (q := xm240) rfl 1 (pc' := 102) (L' := [(5, .int (Int32.ofNat i)), (0, .retAddr vk), (1, .int 0), (2, .retAddr vq), (3, .int 0), (4, .int (Int32.ofNat ps.length))]) (st' := [.int (-1)]) rfl ?_
    rw [List.drop_of_length_le (show ps.length ≤ i by omega)]
    exact At.rt rfl (xret_i rfl) (by unfold mmF; rfl)
  | f + 1, i, hi => by
    obtain ⟨c, hc⟩ : ∃ c, cs[i]? = some c := ⟨_, List.getElem?_eq_getElem (by omega)⟩
    obtain ⟨p9, hp9⟩ : ∃ c, ps[i]? = some c := ⟨_, List.getElem?_eq_getElem (by omega)⟩
    have hc8 := hd c (List.mem_of_getElem? hc)
    have hp8 := he p9 (List.mem_of_getElem? hp9)
    refine At.go (q := xm240) rfl 2 (pc' := 74) (L' := [(5, .int (Int32.ofNat i)), (0, .retAddr vk), (1, .int 0), (2, .retAddr vq), (3, .int 0), (4, .int (Int32.ofNat ps.length))]) (st' := [.int (Int32.ofNat ps.length), .int (Int32.ofNat i)]) rfl ?_
    refine At.ic2 (tgt := 101) rfl rfl (fun h => absurd (h.symm.trans (decide_eq_false (fun h => absurd ((iN_lt (a := i) (b := ps.length) (by omega) (by omega)).mpr (by omega)) (Int32.not_lt.mpr h)))) (by decide)) (fun _ => ?_)
    refine At.go (q := xm240) rfl 4 (pc' := 82) (L' := [(5, .int (Int32.ofNat i)), (0, .retAddr vk), (1, .int 0), (2, .retAddr vq), (3, .int 0), (4, .int (Int32.ofNat ps.length))]) (st' := [.int (0 + (Int32.ofNat i)), .retAddr vk]) rfl ?_
    rw [show (0 : Int32) + Int32.ofNat i = Int32.ofNat i from Int32.zero_add _]
    refine At.ak rfl h2 (by decide) rfl (iN_nn (by omega)) (by rw [iN_tn (by omega)]; exact bL_at hc) ?_
    refine At.go (q := xm240) rfl 4 (pc' := 88) (L' := [(5, .int (Int32.ofNat i)), (0, .retAddr vk), (1, .int 0), (2, .retAddr vq), (3, .int 0), (4, .int (Int32.ofNat ps.length))]) (st' := [.int (0 + (Int32.ofNat i)), .retAddr vq, .int (Int32.ofNat c)]) rfl ?_
    rw [show (0 : Int32) + Int32.ofNat i = Int32.ofNat i from Int32.zero_add _]
    refine At.ak rfl k2 (by decide) rfl (iN_nn (by omega)) (by rw [iN_tn (by omega)]; exact bL_at hp9) ?_
    rw [mmF_d hc hp9]
    by_cases hq : c = p9
    · rw [if_pos hq]
      refine At.ic2 (tgt := 95) rfl rfl (fun _ => ?_) (fun h => absurd (h.symm.trans (decide_eq_true ((b_eq hc8 hp8).mpr hq))) (by decide))
      refine At.go (q := xm240) rfl 2 (pc' := 70) (L' := [(5, .int ((Int32.ofNat i) + 1)), (0, .retAddr vk), (1, .int 0), (2, .retAddr vq), (3, .int 0), (4, .int (Int32.ofNat ps.length))]) (st' := []) rfl ?_
      rw [iN_s]
      exact mm_loop_k h2 k2 hd hcl he hpl hp7 f (i + 1) (by omega)
    · rw [if_neg hq]
      refine At.ic2 (tgt := 95) rfl rfl (fun h => absurd (h.symm.trans (decide_eq_false (fun e => hq ((b_eq hc8 hp8).mp e)))) (by decide)) (fun _ => ?_)
      refine At.go (q := xm240) rfl 1 (pc' := 94) (L' := [(5, .int (Int32.ofNat i)), (0, .retAddr vk), (1, .int 0), (2, .retAddr vq), (3, .int 0), (4, .int (Int32.ofNat ps.length))]) (st' := [.int (Int32.ofNat i)]) rfl ?_
      exact At.rt rfl (xret_i rfl) rfl
theorem m_mism_k {S : List Int32} {hp : List XC} {cs : List Nat} {vk : Nat} (h2 : xKC[vk]? = some (.inl (2, bL cs))) {ps : List Nat} {vq : Nat} (k2 : xKC[vq]? = some (.inl (2, bL ps))) (hd : cOk cs) (hcl : cs.length ≤ 1000) (he : cOk ps) (hpl : ps.length ≤ cs.length) (hp7 : ps.length ≤ 7) : Pu S 0 240 [.retAddr vk, .int 0, .retAddr vq, .int 0, .int (Int32.ofNat ps.length)] hp (.int (mmF cs ps 0)) := by
  refine At.go (q := xm240) rfl 4 (pc' := 7) (L' := [(5, .int 0), (0, .retAddr vk), (1, .int 0), (2, .retAddr vq), (3, .int 0), (4, .int (Int32.ofNat ps.length))]) (st' := [.int 7, .int (Int32.ofNat ps.length)]) rfl ?_
  refine At.ic2 (tgt := 70) rfl rfl (fun _ => ?_) (fun h => absurd (h.symm.trans (decide_eq_true ((iN_le (b := 7) (by omega) (by omega)).mpr hp7))) (by decide))
  exact mm_loop_k h2 k2 hd hcl he hpl hp7 ps.length 0 (by omega)
theorem m_sw2_k {S : List Int32} {hp : List XC} {cs : List Nat} {k vk : Nat} {r : List Value} (h1 : xKC[k]? = some (.inr (0, .retAddr vk :: .int 0 :: r))) (h2 : xKC[vk]? = some (.inl (2, bL cs))) {ps : List Nat} {q vq : Nat} {r9 : List Value} (k1 : xKC[q]? = some (.inr (0, .retAddr vq :: .int 0 :: r9))) (k2 : xKC[vq]? = some (.inl (2, bL ps))) (hd : cOk cs) (hcl : cs.length ≤ 1000) (he : cOk ps) (hpl : ps.length ≤ cs.length) (hp7 : ps.length ≤ 7) : Pu S 2 239 [.retAddr k, .retAddr q, .int 0] hp (.int (bI (decide (cs.take ps.length = ps)))) := by
  refine At.go (q := xm239) rfl 4 (pc' := 6) (L' := [(0, .retAddr k), (1, .retAddr q), (2, .int 0)]) (st' := [.retAddr k, .int 0]) rfl ?_
  refine At.clp (as := [.retAddr k]) (rest := [.int 0]) rfl (by decide) rfl (Nat.le_of_ble_eq_true rfl) (Nat.le_of_ble_eq_true rfl) (xrck_k (by decide) (by decide) h1 (by decide)) (Nat.le_of_ble_eq_true rfl) (m_slen_k h1 h2 hcl) ?_
  refine At.go (q := xm239) rfl 1 (pc' := 10) (L' := [(0, .retAddr k), (1, .retAddr q), (2, .int 0)]) (st' := [.retAddr q, .int (Int32.ofNat cs.length), .int 0]) rfl ?_
  refine At.clp (as := [.retAddr q]) (rest := [.int (Int32.ofNat cs.length), .int 0]) rfl (by decide) rfl (Nat.le_of_ble_eq_true rfl) (Nat.le_of_ble_eq_true rfl) (xrck_k (by decide) (by decide) k1 (by decide)) (Nat.le_of_ble_eq_true rfl) (m_slen_k k1 k2 (by omega)) ?_
  refine At.go (q := xm239) rfl 1 (pc' := 14) (L' := [(0, .retAddr k), (1, .retAddr q), (2, .int 0)]) (st' := [.int ((Int32.ofNat cs.length) - (Int32.ofNat ps.length)), .int 0]) rfl ?_
  rw [iN_sub hpl]
  refine At.ic2 (tgt := 19) rfl rfl (fun _ => ?_) (fun h => absurd (h.symm.trans (decide_eq_true (Int32.not_lt.mp (iN_nn (by omega))))) (by decide))
  refine At.go (q := xm239) rfl 1 (pc' := 20) (L' := [(0, .retAddr k), (1, .retAddr q), (2, .int 0)]) (st' := [.retAddr k]) rfl ?_
  refine At.gk rfl (by decide) h1 rfl ?_
  refine At.go (q := xm239) rfl 2 (pc' := 25) (L' := [(3, .retAddr vk), (0, .retAddr k), (1, .retAddr q), (2, .int 0)]) (st' := [.retAddr q]) rfl ?_
  refine At.gk rfl (by decide) k1 rfl ?_
  refine At.go (q := xm239) rfl 4 (pc' := 35) (L' := [(5, .int 0), (4, .retAddr vq), (3, .retAddr vk), (0, .retAddr k), (1, .retAddr q), (2, .int 0)]) (st' := [.retAddr vq]) rfl ?_
  refine At.lk rfl k2 ?_
  rw [bL_len]
  refine At.go (q := xm239) rfl 2 (pc' := 39) (L' := [(6, .int (Int32.ofNat ps.length)), (5, .int 0), (4, .retAddr vq), (3, .retAddr vk), (0, .retAddr k), (1, .retAddr q), (2, .int 0)]) (st' := [.retAddr k]) rfl ?_
  refine At.clp (as := [.retAddr k]) (rest := []) rfl (by decide) rfl (Nat.le_of_ble_eq_true rfl) (Nat.le_of_ble_eq_true rfl) (xrck_k (by decide) (by decide) h1 (by decide)) (Nat.le_of_ble_eq_true rfl) (m_coder_k h1 h2) ?_
  refine At.go (q := xm239) rfl 3 (pc' := 47) (L' := [(7, .int 0), (6, .int (Int32.ofNat ps.length)), (5, .int 0), (4, .retAddr vq), (3, .retAddr vk), (0, .retAddr k), (1, .retAddr q), (2, .int 0)]) (st' := [.retAddr q, .int 0]) rfl ?_
  refine At.clp (as := [.retAddr q]) (rest := [.int 0]) rfl (by decide) rfl (Nat.le_of_ble_eq_true rfl) (Nat.le_of_ble_eq_true rfl) (xrck_k (by decide) (by decide) k1 (by decide)) (Nat.le_of_ble_eq_true rfl) (m_coder_k k1 k2) ?_
  refine At.ic2 (tgt := 82) rfl rfl (fun h => absurd (h.symm.trans (show xcm .ne 0 0 = false from rfl)) (by decide)) (fun _ => ?_)
  refine At.go (q := xm239) rfl 2 (pc' := 56) (L' := [(7, .int 0), (6, .int (Int32.ofNat ps.length)), (5, .int 0), (4, .retAddr vq), (3, .retAddr vk), (0, .retAddr k), (1, .retAddr q), (2, .int 0)]) (st' := [.int 1, .int 0]) rfl ?_
  refine At.ic2 (tgt := 63) rfl rfl (fun _ => ?_) (fun h => absurd (h.symm.trans (show xcm .ne 0 1 = true from rfl)) (by decide))
  refine At.go (q := xm239) rfl 5 (pc' := 70) (L' := [(7, .int 0), (6, .int (Int32.ofNat ps.length)), (5, .int 0), (4, .retAddr vq), (3, .retAddr vk), (0, .retAddr k), (1, .retAddr q), (2, .int 0)]) (st' := [.int (Int32.ofNat ps.length), .int 0, .retAddr vq, .int 0, .retAddr vk]) rfl ?_
  refine At.clp (as := [.retAddr vk, .int 0, .retAddr vq, .int 0, .int (Int32.ofNat ps.length)]) (rest := []) rfl (by decide) rfl (Nat.le_of_ble_eq_true rfl) (Nat.le_of_ble_eq_true rfl) rfl (Nat.le_of_ble_eq_true rfl) (m_mism_k h2 k2 hd hcl he hpl hp7) ?_
  by_cases hq : cs.take ps.length = ps
  · rw [decide_eq_true hq]
    refine At.ic1 (tgt := 80) rfl rfl (fun h => absurd (h.symm.trans (decide_eq_false (Int32.not_le.mpr ((mmF_neg cs ps 0 hpl (by omega)).mpr hq)))) (by decide)) (fun _ => ?_)
    refine At.go (q := xm239) rfl 2 (pc' := 81) (L' := [(7, .int 0), (6, .int (Int32.ofNat ps.length)), (5, .int 0), (4, .retAddr vq), (3, .retAddr vk), (0, .retAddr k), (1, .retAddr q), (2, .int 0)]) (st' := [.int 1]) rfl ?_
    exact At.rt rfl rfl rfl
  · rw [decide_eq_false hq]
    refine At.ic1 (tgt := 80) rfl rfl (fun _ => ?_) (fun h => absurd (h.symm.trans (decide_eq_true (Int32.not_lt.mp (fun h => hq ((mmF_neg cs ps 0 hpl (by omega)).mp h))))) (by decide))
    refine At.go (q := xm239) rfl 1 (pc' := 81) (L' := [(7, .int 0), (6, .int (Int32.ofNat ps.length)), (5, .int 0), (4, .retAddr vq), (3, .retAddr vk), (0, .retAddr k), (1, .retAddr q), (2, .int 0)]) (st' := [.int 0]) rfl ?_
    exact At.rt rfl rfl rfl
theorem m_sw_k {S : List Int32} {hp : List XC} {cs : List Nat} {k vk : Nat} {r : List Value} (h1 : xKC[k]? = some (.inr (0, .retAddr vk :: .int 0 :: r))) (h2 : xKC[vk]? = some (.inl (2, bL cs))) {ps : List Nat} {q vq : Nat} {r9 : List Value} (k1 : xKC[q]? = some (.inr (0, .retAddr vq :: .int 0 :: r9))) (k2 : xKC[vq]? = some (.inl (2, bL ps))) (hd : cOk cs) (hcl : cs.length ≤ 1000) (he : cOk ps) (hpl : ps.length ≤ cs.length) (hp7 : ps.length ≤ 7) : Pu S 3 238 [.retAddr k, .retAddr q] hp (.int (bI (decide (cs.take ps.length = ps)))) := by
  refine At.go (q := xm238) rfl 3 (pc' := 3) (L' := [(0, .retAddr k), (1, .retAddr q)]) (st' := [.int 0, .retAddr q, .retAddr k]) rfl ?_
  refine At.clp (as := [.retAddr k, .retAddr q, .int 0]) (rest := []) rfl (by decide) rfl (Nat.le_of_ble_eq_true rfl) (Nat.le_of_ble_eq_true rfl) (xrck_k (by decide) (by decide) h1 (by decide)) (Nat.le_of_ble_eq_true rfl) (m_sw2_k h1 h2 k1 k2 hd hcl he hpl hp7) ?_
  exact At.rt rfl (xret_bo rfl _) rfl
theorem m_starts {S : List Int32} {hp : List XC} {v : Value} {cs ps : List Nat} {q vq : Nat} {r9 : List Value} (h : hTx hp v cs) (k1 : xKC[q]? = some (.inr (0, .retAddr vq :: .int 0 :: r9))) (k2 : xKC[vq]? = some (.inl (2, bL ps))) (he : cOk ps) (hpl : ps.length ≤ cs.length) (hp7 : ps.length ≤ 7) : Pu S 3 238 [v, .retAddr q] hp (.int (bI (decide (cs.take ps.length = ps)))) := by
  obtain ⟨h1, h2, ⟨a, va, r, rfl, h3, h4⟩ | ⟨k, vk, r, rfl, h3, h4⟩⟩ := h
  · exact m_sw_r h3 h4 k1 k2 h1 h2 he hpl hp7
  · exact m_sw_k h3 h4 k1 k2 h1 h2 he hpl hp7
