/-! the law says a text to a house (by hand) -/
theorem mS_mS {M : HM} {i : Nat} {s t : SM} : mS (mS M i s) i t = mS M i t := by
  have e : (fun j => if j = i then t else (mS M i s).2.2.2.1 j) = (fun j => if j = i then t else M.2.2.2.1 j) := funext fun j => by
    by_cases h : j = i
    · rw [if_pos h, if_pos h]
    · rw [if_neg h, if_neg h]
      exact mS_ne h
  show (M.1, M.2.1, M.2.2.1, (fun j => if j = i then t else (mS M i s).2.2.2.1 j), M.2.2.2.2) = _
  rw [e]
  rfl
def tyF (s : SM) (cs : List Nat) : SM := cs.foldl (fun s c => sTyp s (Int32.ofNat c)) s
theorem hTn9.ck {hp : List XC} {ow : Nat → Nat} {v : Value} {cs : List Nat} {k : Nat} {xs : List Nat} {as : List Value} (h : hTn9 hp ow v cs) (h1 : ¬ (k = 31 ∨ k = 36 ∨ k = 38)) (h2 : ¬ (k = 32 ∨ k = 37)) (h3 : 0 ∈ xs) : xrck xKC hp k xs (v :: as) = true := by
  obtain ⟨⟨-, -, ⟨a, va, r, e, g1, g2⟩ | ⟨q, vk, r, e, g1, g2⟩⟩, -⟩ := h
  · rw [e]; exact xrck_o h1 h2 g1 h3
  · rw [e]; exact xrck_k h1 h2 g1 h3
theorem ch_fit : ∀ c, c < 127 → xfit (xTy 1) (.int (Int32.ofNat c)) = true := by decide
theorem sy_loopR {S : List Int32} {k : Nat} {A : Nat → Nat} {M : HM} {rf : Int32} {i : Nat} {tv : Nat} {cs : List Nat} {Q : XO → Prop} (hi : i < 8) (hk : k + 1000 ≤ 3000) (hcs : ∀ c ∈ cs, 32 ≤ c ∧ c ≤ 126) (hl : cs.length < 120) : ∀ (f j : Nat) (hp : List XC) (ow : Nat → Nat) (np nl nc ns : Nat) (s : SM), j + f = cs.length → HR hp ow k A (mS M i s) rf np nl → s.2.2.2.2.2.2.2.1 = j → hTn9 hp ow (.ref tv) cs → (∀ hp2 c2 s2, HSt hp hp2 ow k A (mS M i (tyF s (cs.drop j))) rf np nl c2 s2 0 0 → Q (.inl (none, hp2, nc + c2, ns + s2))) → At S 4 28 8 [(3, .int (Int32.ofNat j)), (0, .ref (A 0)), (1, .int (Int32.ofNat i)), (2, .ref tv)] [] hp nc ns Q
  | 0, j, hp, ow, np, nl, nc, ns, s, hf, h, hj, hT, hQ => by
    refine At.go (q := xm28) rfl 2 (pc' := 10) (L' := [(3, .int (Int32.ofNat j)), (0, .ref (A 0)), (1, .int (Int32.ofNat i)), (2, .ref tv)]) (st' := [.ref tv, .int (Int32.ofNat j)]) rfl ?_
    refine At.clp (as := [.ref tv]) (rest := [.int (Int32.ofNat j)]) rfl (by decide) rfl (Nat.le_of_ble_eq_true rfl) (Nat.le_of_ble_eq_true rfl) (hTn9.ck hT (by decide) (by decide) (by decide)) (Nat.le_of_ble_eq_true rfl) (m_tlen hT.1) ?_
    refine At.ic2 (tgt := 33) rfl rfl (fun _ => ?_) (fun h9 => absurd (h9.symm.trans (decide_eq_true (Int32.not_lt.mp (fun h => by
      have := (iN_lt (by omega) (by omega)).mp h
      omega)))) (by decide))
    refine At.rt rfl rfl ?_
    have e := hQ hp 0 0 (by
      rw [List.drop_eq_nil_of_le (by omega)]
      exact ⟨ow, np, nl, fun _ _ => rfl, h, FrX.rf, by omega, by omega⟩)
    exact e
  | f + 1, j, hp, ow, np, nl, nc, ns, s, hf, h, hj, hT, hQ => by
    obtain ⟨c, hc⟩ : ∃ c, cs[j]? = some c := ⟨_, List.getElem?_eq_getElem (by omega)⟩
    obtain ⟨b1, b2⟩ := hcs c (List.mem_of_getElem? hc)
    refine At.go (q := xm28) rfl 2 (pc' := 10) (L' := [(3, .int (Int32.ofNat j)), (0, .ref (A 0)), (1, .int (Int32.ofNat i)), (2, .ref tv)]) (st' := [.ref tv, .int (Int32.ofNat j)]) rfl ?_
    refine At.clp (as := [.ref tv]) (rest := [.int (Int32.ofNat j)]) rfl (by decide) rfl (Nat.le_of_ble_eq_true rfl) (Nat.le_of_ble_eq_true rfl) (hTn9.ck hT (by decide) (by decide) (by decide)) (Nat.le_of_ble_eq_true rfl) (m_tlen hT.1) ?_
    refine At.ic2 (tgt := 33) rfl rfl (fun h9 => absurd (h9.symm.trans (decide_eq_false (fun h => absurd ((iN_lt (a := j) (b := cs.length) (by omega) (by omega)).mpr (by omega)) (Int32.not_lt.mpr h)))) (by decide)) (fun _ => ?_)
    refine At.go (q := xm28) rfl 4 (pc' := 20) (L' := [(3, .int (Int32.ofNat j)), (0, .ref (A 0)), (1, .int (Int32.ofNat i)), (2, .ref tv)]) (st' := [.int (Int32.ofNat j), .ref tv, .int (Int32.ofNat i), .ref (A 0)]) rfl ?_
    refine At.clp (as := [.ref tv, .int (Int32.ofNat j)]) (rest := [.int (Int32.ofNat i), .ref (A 0)]) rfl (by decide) rfl (Nat.le_of_ble_eq_true rfl) (Nat.le_of_ble_eq_true rfl) (hTn9.ck hT (by decide) (by decide) (by decide)) (Nat.le_of_ble_eq_true rfl) (m_tat hT.1 hc) ?_
    have hlt : ((mS M i s).2.2.2.1 i).2.2.2.2.2.2.2.1 < 120 := by rw [mS_at, hj]; omega
    have hty := h_type (S := S) h (x := Int32.ofNat c) hi (fun h9 => by
      have := (iN_lt (a := c) (b := 32) (by omega) (by omega)).mp h9
      omega) (fun h9 => by
      have := (iN_lt (a := 126) (b := c) (by omega) (by omega)).mp h9
      omega) (ch_fit c (by omega)) hlt
    have h0 := h.2.2.1
    refine At.clm (as := [.ref (A 0), .int (Int32.ofNat i), .int (Int32.ofNat c)]) (rest := []) rfl (by decide) rfl (Nat.le_of_ble_eq_true rfl) (Nat.le_of_ble_eq_true rfl) (xrck_o (by decide) (by decide) h0 (by decide)) (Nat.le_of_ble_eq_true rfl) hty (fun v9 h1 c1 s1 hv9 => ?_)
    obtain ⟨hv, ow1, np1, nl1, w1, hR1, f1, u1, u2⟩ := hv9
    rw [hv, mS_at, mS_mS] at *
    refine At.go (q := xm28) rfl 3 (pc' := 8) (L' := [(3, .int (Int32.ofNat j + 1)), (0, .ref (A 0)), (1, .int (Int32.ofNat i)), (2, .ref tv)]) (st' := []) rfl ?_
    rw [iN_s]
    refine sy_loopR hi hk hcs hl f (j + 1) h1 ow1 np1 nl1 (nc + c1) (ns + s1) (sTyp s (Int32.ofNat c)) (by omega) hR1 (by show s.2.2.2.2.2.2.2.1 + 1 = _; rw [hj]) (hT.fr (f1.mono (fun x _ hx => by omega)) w1) (fun hp2 c2 s2 h9 => ?_)
    have e := hQ hp2 (c1 + c2) (s1 + s2) (by
      have e9 : cs.drop j = c :: cs.drop (j + 1) := by
        obtain ⟨p1, p2⟩ := List.getElem?_eq_some_iff.mp hc
        rw [← p2]
        exact List.drop_eq_getElem_cons p1
      rw [e9]
      exact HSt.tr (K1 := 0) (J1 := 0) (K2 := 0) (J2 := 0) w1 f1 u1 u2 h9)
    rw [Nat.add_assoc, Nat.add_assoc]
    exact e
theorem sy_loopK {S : List Int32} {k : Nat} {A : Nat → Nat} {M : HM} {rf : Int32} {i : Nat} {tv : Nat} {cs : List Nat} {Q : XO → Prop} (hi : i < 8) (hk : k + 1000 ≤ 3000) (hcs : ∀ c ∈ cs, 32 ≤ c ∧ c ≤ 126) (hl : cs.length < 120) : ∀ (f j : Nat) (hp : List XC) (ow : Nat → Nat) (np nl nc ns : Nat) (s : SM), j + f = cs.length → HR hp ow k A (mS M i s) rf np nl → s.2.2.2.2.2.2.2.1 = j → hTn9 hp ow (.retAddr tv) cs → (∀ hp2 c2 s2, HSt hp hp2 ow k A (mS M i (tyF s (cs.drop j))) rf np nl c2 s2 0 0 → Q (.inl (none, hp2, nc + c2, ns + s2))) → At S 4 28 8 [(3, .int (Int32.ofNat j)), (0, .ref (A 0)), (1, .int (Int32.ofNat i)), (2, .retAddr tv)] [] hp nc ns Q
  | 0, j, hp, ow, np, nl, nc, ns, s, hf, h, hj, hT, hQ => by
    refine At.go (q := xm28) rfl 2 (pc' := 10) (L' := [(3, .int (Int32.ofNat j)), (0, .ref (A 0)), (1, .int (Int32.ofNat i)), (2, .retAddr tv)]) (st' := [.retAddr tv, .int (Int32.ofNat j)]) rfl ?_
    refine At.clp (as := [.retAddr tv]) (rest := [.int (Int32.ofNat j)]) rfl (by decide) rfl (Nat.le_of_ble_eq_true rfl) (Nat.le_of_ble_eq_true rfl) (hTn9.ck hT (by decide) (by decide) (by decide)) (Nat.le_of_ble_eq_true rfl) (m_tlen hT.1) ?_
    refine At.ic2 (tgt := 33) rfl rfl (fun _ => ?_) (fun h9 => absurd (h9.symm.trans (decide_eq_true (Int32.not_lt.mp (fun h => by
      have := (iN_lt (by omega) (by omega)).mp h
      omega)))) (by decide))
    refine At.rt rfl rfl ?_
    have e := hQ hp 0 0 (by
      rw [List.drop_eq_nil_of_le (by omega)]
      exact ⟨ow, np, nl, fun _ _ => rfl, h, FrX.rf, by omega, by omega⟩)
    exact e
  | f + 1, j, hp, ow, np, nl, nc, ns, s, hf, h, hj, hT, hQ => by
    obtain ⟨c, hc⟩ : ∃ c, cs[j]? = some c := ⟨_, List.getElem?_eq_getElem (by omega)⟩
    obtain ⟨b1, b2⟩ := hcs c (List.mem_of_getElem? hc)
    refine At.go (q := xm28) rfl 2 (pc' := 10) (L' := [(3, .int (Int32.ofNat j)), (0, .ref (A 0)), (1, .int (Int32.ofNat i)), (2, .retAddr tv)]) (st' := [.retAddr tv, .int (Int32.ofNat j)]) rfl ?_
    refine At.clp (as := [.retAddr tv]) (rest := [.int (Int32.ofNat j)]) rfl (by decide) rfl (Nat.le_of_ble_eq_true rfl) (Nat.le_of_ble_eq_true rfl) (hTn9.ck hT (by decide) (by decide) (by decide)) (Nat.le_of_ble_eq_true rfl) (m_tlen hT.1) ?_
    refine At.ic2 (tgt := 33) rfl rfl (fun h9 => absurd (h9.symm.trans (decide_eq_false (fun h => absurd ((iN_lt (a := j) (b := cs.length) (by omega) (by omega)).mpr (by omega)) (Int32.not_lt.mpr h)))) (by decide)) (fun _ => ?_)
    refine At.go (q := xm28) rfl 4 (pc' := 20) (L' := [(3, .int (Int32.ofNat j)), (0, .ref (A 0)), (1, .int (Int32.ofNat i)), (2, .retAddr tv)]) (st' := [.int (Int32.ofNat j), .retAddr tv, .int (Int32.ofNat i), .ref (A 0)]) rfl ?_
    refine At.clp (as := [.retAddr tv, .int (Int32.ofNat j)]) (rest := [.int (Int32.ofNat i), .ref (A 0)]) rfl (by decide) rfl (Nat.le_of_ble_eq_true rfl) (Nat.le_of_ble_eq_true rfl) (hTn9.ck hT (by decide) (by decide) (by decide)) (Nat.le_of_ble_eq_true rfl) (m_tat hT.1 hc) ?_
    have hlt : ((mS M i s).2.2.2.1 i).2.2.2.2.2.2.2.1 < 120 := by rw [mS_at, hj]; omega
    have hty := h_type (S := S) h (x := Int32.ofNat c) hi (fun h9 => by
      have := (iN_lt (a := c) (b := 32) (by omega) (by omega)).mp h9
      omega) (fun h9 => by
      have := (iN_lt (a := 126) (b := c) (by omega) (by omega)).mp h9
      omega) (ch_fit c (by omega)) hlt
    have h0 := h.2.2.1
    refine At.clm (as := [.ref (A 0), .int (Int32.ofNat i), .int (Int32.ofNat c)]) (rest := []) rfl (by decide) rfl (Nat.le_of_ble_eq_true rfl) (Nat.le_of_ble_eq_true rfl) (xrck_o (by decide) (by decide) h0 (by decide)) (Nat.le_of_ble_eq_true rfl) hty (fun v9 h1 c1 s1 hv9 => ?_)
    obtain ⟨hv, ow1, np1, nl1, w1, hR1, f1, u1, u2⟩ := hv9
    rw [hv, mS_at, mS_mS] at *
    refine At.go (q := xm28) rfl 3 (pc' := 8) (L' := [(3, .int (Int32.ofNat j + 1)), (0, .ref (A 0)), (1, .int (Int32.ofNat i)), (2, .retAddr tv)]) (st' := []) rfl ?_
    rw [iN_s]
    refine sy_loopK hi hk hcs hl f (j + 1) h1 ow1 np1 nl1 (nc + c1) (ns + s1) (sTyp s (Int32.ofNat c)) (by omega) hR1 (by show s.2.2.2.2.2.2.2.1 + 1 = _; rw [hj]) (hT.fr (f1.mono (fun x _ hx => by omega)) w1) (fun hp2 c2 s2 h9 => ?_)
    have e := hQ hp2 (c1 + c2) (s1 + s2) (by
      have e9 : cs.drop j = c :: cs.drop (j + 1) := by
        obtain ⟨p1, p2⟩ := List.getElem?_eq_some_iff.mp hc
        rw [← p2]
        exact List.drop_eq_getElem_cons p1
      rw [e9]
      exact HSt.tr (K1 := 0) (J1 := 0) (K2 := 0) (J2 := 0) w1 f1 u1 u2 h9)
    rw [Nat.add_assoc, Nat.add_assoc]
    exact e
theorem m_says {S : List Int32} {k : Nat} {A : Nat → Nat} {M : HM} {rf : Int32} {i : Nat} {v : Value} {cs : List Nat} {hp : List XC} {ow : Nat → Nat} {np nl : Nat} (h : HR hp ow k A M rf np nl) (hi : i < 8) (hk : k + 1000 ≤ 3000) (hT : hTn9 hp ow v cs) (hcs : ∀ c ∈ cs, 32 ≤ c ∧ c ≤ 126) (hl : cs.length < 120) : Me S 5 28 [.ref (A 0), .int (Int32.ofNat i), v] hp (fun v' hp' c s => v' = none ∧ HSt hp hp' ow k A (mS M i (tyF (sLen (M.2.2.2.1 i) 0) cs)) rf np nl c s 0 0) := by
  have h0 := h.2.2.1
  have key : ∀ v : Value, hTn9 hp ow v cs → (∀ (hp1 : List XC) (ow1 : Nat → Nat) (np1 nl1 c1 s1 : Nat), HR hp1 ow1 k A (mS M i (sLen (M.2.2.2.1 i) 0)) rf np1 nl1 → hTn9 hp1 ow1 v cs → ∀ Q : XO → Prop, (∀ hp2 c2 s2, HSt hp1 hp2 ow1 k A (mS M i (tyF (sLen (M.2.2.2.1 i) 0) cs)) rf np1 nl1 c2 s2 0 0 → Q (.inl (none, hp2, c1 + c2, s1 + s2))) → At S 5 28 5 [(0, .ref (A 0)), (1, .int (Int32.ofNat i)), (2, v)] [.int (Int32.ofNat (M.2.2.2.1 i).2.2.2.2.2.2.2.1)] hp1 c1 s1 Q) → At S 5 28 2 [(0, .ref (A 0)), (1, .int (Int32.ofNat i)), (2, v)] [.int (Int32.ofNat i), .ref (A 0)] hp 0 0 (fun o => ∃ v' hp' c s, o = .inl (v', hp', c, s) ∧ v' = none ∧ HSt hp hp' ow k A (mS M i (tyF (sLen (M.2.2.2.1 i) 0) cs)) rf np nl c s 0 0) := fun v hT kk => by
    refine At.clm (as := [.ref (A 0), .int (Int32.ofNat i)]) (rest := []) rfl (by decide) rfl (Nat.le_of_ble_eq_true rfl) (Nat.le_of_ble_eq_true rfl) (xrck_o (by decide) (by decide) h0 (by decide)) (Nat.le_of_ble_eq_true rfl) (h_erase (S := S) h hi) (fun v9 h1 c1 s1 hv9 => ?_)
    obtain ⟨hv, ow1, np1, nl1, w1, hR1, f1, u1, u2⟩ := hv9
    rw [hv]
    refine kk h1 ow1 np1 nl1 (0 + c1) (0 + s1) hR1 (hT.fr (f1.mono (fun x _ hx => by omega)) w1) _ (fun hp2 c2 s2 h9 => ⟨none, hp2, _, _, rfl, rfl, ?_⟩)
    rw [Nat.zero_add, Nat.zero_add]
    exact HSt.tr (K1 := 0) (J1 := 0) (K2 := 0) (J2 := 0) w1 f1 u1 u2 h9
  rcases hT.1.2.2 with ⟨a, va, r, e, -⟩ | ⟨a, vk, r, e, -⟩
  · subst e
    refine At.go (q := xm28) rfl 2 (pc' := 2) (L' := [(0, .ref (A 0)), (1, .int (Int32.ofNat i)), (2, .ref a)]) (st' := [.int (Int32.ofNat i), .ref (A 0)]) rfl ?_
    refine key _ hT (fun hp1 ow1 np1 nl1 c1 s1 hR hT1 Q hQ => ?_)
    refine At.go (q := xm28) rfl 3 (pc' := 8) (L' := [(3, .int (Int32.ofNat 0)), (0, .ref (A 0)), (1, .int (Int32.ofNat i)), (2, .ref a)]) (st' := []) rfl ?_
    exact At.deep (Nat.le_succ 4) (sy_loopR hi hk hcs hl cs.length 0 hp1 ow1 np1 nl1 c1 s1 (sLen (M.2.2.2.1 i) 0) (Nat.zero_add _) hR rfl hT1 hQ)
  · subst e
    refine At.go (q := xm28) rfl 2 (pc' := 2) (L' := [(0, .ref (A 0)), (1, .int (Int32.ofNat i)), (2, .retAddr a)]) (st' := [.int (Int32.ofNat i), .ref (A 0)]) rfl ?_
    refine key _ hT (fun hp1 ow1 np1 nl1 c1 s1 hR hT1 Q hQ => ?_)
    refine At.go (q := xm28) rfl 3 (pc' := 8) (L' := [(3, .int (Int32.ofNat 0)), (0, .ref (A 0)), (1, .int (Int32.ofNat i)), (2, .retAddr a)]) (st' := []) rfl ?_
    exact At.deep (Nat.le_succ 4) (sy_loopK hi hk hcs hl cs.length 0 hp1 ow1 np1 nl1 c1 s1 (sLen (M.2.2.2.1 i) 0) (Nat.zero_add _) hR rfl hT1 hQ)
