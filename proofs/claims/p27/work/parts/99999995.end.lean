/-! the house: a transaction's end, soundness (written by wip/p27/c99999995.py) -/
theorem i_pl {n m : Nat} : Int32.ofNat n * 4 + Int32.ofNat m = Int32.ofNat (n * 4 + m) := by rw [Int32.ofNat_add, Int32.ofNat_mul]; rfl
theorem isLb_n {n : Nat} (h : n < 64) : isLb (Int32.ofNat n) = true := by
  unfold isLb
  rw [decide_eq_true (iN_nn (by omega)), decide_eq_true (show Int32.ofNat n < 64 from (iN_lt (a := n) (b := 64) (by omega) (by omega)).mpr h)]
  rfl
theorem m_tal0 {S : List Int32} {hp : List XC} {n : Nat} (h : n < 64) : Pu S 1 114 [.int (Int32.ofNat n), .int 100] hp (.int (Int32.ofNat (n * 4 + 0))) := by
  have := m_tally0 (S := S) (hp := hp) (isLb_n h)
  rw [show Int32.ofNat n * 4 + 0 = Int32.ofNat (n * 4 + 0) from i_pl] at this
  exact this
theorem m_tal1 {S : List Int32} {hp : List XC} {n : Nat} (h : n < 64) : Pu S 1 114 [.int (Int32.ofNat n), .int 114] hp (.int (Int32.ofNat (n * 4 + 1))) := by
  have := m_tally1 (S := S) (hp := hp) (isLb_n h)
  rw [show Int32.ofNat n * 4 + 1 = Int32.ofNat (n * 4 + 1) from i_pl] at this
  exact this
theorem m_tal2 {S : List Int32} {hp : List XC} {n : Nat} (h : n < 64) : Pu S 1 114 [.int (Int32.ofNat n), .int 102] hp (.int (Int32.ofNat (n * 4 + 2))) := by
  have := m_tally2 (S := S) (hp := hp) (isLb_n h)
  rw [show Int32.ofNat n * 4 + 2 = Int32.ofNat (n * 4 + 2) from i_pl] at this
  exact this
theorem m_tal3 {S : List Int32} {hp : List XC} {n : Nat} (h : n < 64) : Pu S 1 114 [.int (Int32.ofNat n), .int 99] hp (.int (Int32.ofNat (n * 4 + 3))) := by
  have := m_tally3 (S := S) (hp := hp) (isLb_n h)
  rw [show Int32.ofNat n * 4 + 3 = Int32.ofNat (n * 4 + 3) from i_pl] at this
  exact this
/-- which tables are dropped -/
def DRq (ts : List TQ) (t : Nat) : Bool := match ts.find? (fun q => decide (q.1.1 = t)) with
  | some q => q.2.2.2.2.2
  | none => false
theorem DRq_at {ts : List TQ} (hu : ∀ p ∈ ts, ∀ q ∈ ts, p.1.1 = q.1.1 ∨ p.1.2.1 = q.1.2.1 → p = q) {q : TQ} (hq : q ∈ ts) : DRq ts q.1.1 = q.2.2.2.2.2 := by
  unfold DRq
  cases h : ts.find? (fun p => decide (p.1.1 = q.1.1)) with
  | none => exact absurd (decide_eq_true (rfl : q.1.1 = q.1.1)) (List.find?_eq_none.mp h q hq)
  | some p =>
    have h1 := List.find?_some h
    have h2 := List.mem_of_find?_eq_some h
    rw [hu p h2 q hq (Or.inl (of_decide_eq_true h1))]
def addT (ts : List Int32) (t : Nat) : List Int32 := ts.set t ((ts[t]?).getD 0 + 1)
/-- why a transaction's end is refused, or 0 -/
def endR (M : HM) (i : Nat) : Int32 := mergeC (mgP1 (DRq M.2.2.2.2.2.2) (M.2.2.2.1 i).2.2.2.2.1) (mgP2 (M.2.2.2.1 i).2.2.2.2.1 M.2.2.1 (M.2.2.2.1 i).2.2.2.2.2.1) (mgP3 (bringAll M.2.1 (M.2.2.2.1 i).2.2.2.1 (M.2.2.2.1 i).2.2.2.2.1) (M.2.2.2.1 i).2.2.2.2.1 (M.2.2.2.1 i).1) (mgP4 (TIq M.2.2.2.2.2.2) (bringAll M.2.1 (M.2.2.2.1 i).2.2.2.1 (M.2.2.2.1 i).2.2.2.2.1) (M.2.2.2.1 i).2.2.2.2.1 (M.2.2.2.1 i).1)
theorem endR_c (M : HM) (i : Nat) : endR M i = 0 ∨ endR M i = 100 ∨ endR M i = 120 ∨ endR M i = 102 ∨ endR M i = 117 := by
  unfold endR mergeC
  split
  · exact Or.inr (Or.inl rfl)
  split
  · exact Or.inr (Or.inr (Or.inl rfl))
  split
  · exact Or.inr (Or.inr (Or.inr (Or.inl rfl)))
  split
  · exact Or.inr (Or.inr (Or.inr (Or.inr rfl)))
  · exact Or.inl rfl
theorem endR_0 {M : HM} {i : Nat} (h : endR M i = 0) : (mgP1 (DRq M.2.2.2.2.2.2) (M.2.2.2.1 i).2.2.2.2.1 || mgP2 (M.2.2.2.1 i).2.2.2.2.1 M.2.2.1 (M.2.2.2.1 i).2.2.2.2.2.1) = false := by
  unfold endR mergeC at h
  cases h1 : mgP1 (DRq M.2.2.2.2.2.2) (M.2.2.2.1 i).2.2.2.2.1 with
  | true => rw [h1, if_pos rfl] at h; exact absurd h (by decide)
  | false =>
    cases h2 : mgP2 (M.2.2.2.1 i).2.2.2.2.1 M.2.2.1 (M.2.2.2.1 i).2.2.2.2.2.1 with
    | true => rw [h1, h2, if_neg (by decide), if_pos rfl] at h; exact absurd h (by decide)
    | false => rfl
def sRea (s : SM) (r : Int32) : SM := (s.1, r, s.2.2)
theorem fil2_len {α : Type} {p q : α → Bool} (h : ∀ x, p x = true → q x = true → False) : ∀ xs : List α, (xs.filter p).length + (xs.filter q).length ≤ xs.length
  | [] => Nat.le_refl _
  | x :: xs => by
    have ih := fil2_len h xs
    rw [List.filter_cons, List.filter_cons, List.length_cons]
    cases hp : p x with
    | true =>
      cases hq : q x with
      | true => exact (h x hp hq).elim
      | false => rw [if_pos rfl, if_neg (by decide), List.length_cons]; omega
    | false =>
      rw [if_neg (by decide)]
      split
      · rw [List.length_cons]; omega
      · omega
theorem store_len9 (es : List En) (e : En) : (storeE es e).length ≤ es.length + 1 := by
  unfold storeE
  rw [List.length_append, List.length_cons]
  have := fil2_len (p := fun f => ltB (eP f) (eP e)) (q := fun f => ltB (eP e) (eP f)) (fun x h1 h2 => ltP_as (ltB_iff.mp h1) (ltB_iff.mp h2)) es
  omega
theorem bringE_len9 (es fs : List En) (p : Pl) : (bringE es fs p).length ≤ es.length + 1 := by
  unfold bringE
  split
  · unfold takeE; exact Nat.le_trans (List.length_filter_le _ _) (Nat.le_add_right _ _)
  · exact store_len9 _ _
theorem bringAll_len (es own : List En) : ∀ cs : List En, (bringAll es own cs).length ≤ es.length + cs.length := by
  intro cs
  induction cs generalizing es with
  | nil => exact Nat.le_refl _
  | cons c cs ih =>
    have h1 := ih (bringE es own (eP c))
    have h2 := bringE_len9 es own (eP c)
    show (bringAll (bringE es own (eP c)) own cs).length ≤ _
    rw [List.length_cons]
    omega
theorem HSt.plus {hp hp' : List XC} {ow : Nat → Nat} {k : Nat} {A : Nat → Nat} {M' : HM} {rf' : Int32} {np nl c s Kc Ks : Nat} (h : HSt hp hp' ow k A M' rf' np nl c s Kc Ks) : HSt hp hp' ow k A M' rf' np nl (c + 1) (s + 6) (Kc + 1) (Ks + 6) := by
  obtain ⟨ow', np', nl', a1, a2, a3, a4, a5⟩ := h
  exact ⟨ow', np', nl', a1, a2, a3, by omega, by omega⟩
theorem h_end0 {S : List Int32} {hp : List XC} {ow : Nat → Nat} {k : Nat} {A : Nat → Nat} {M : HM} {rf : Int32} {np nl : Nat} (h : HR hp ow k A M rf np nl) {i ln : Nat} (hi : i < 8) (hb : (M.2.2.2.1 i).2.2.1 = true) (hln : (M.2.2.2.1 i).1 = Int32.ofNat ln) (hl64 : ln < 64) (hsF : Srt (M.2.2.2.1 i).2.2.2.1) (hsA : Srt M.2.1) (hEc : EnT M.2.2.2.2.2.2 (M.2.2.2.1 i).2.2.2.2.1) (hlen : M.2.1.length + (M.2.2.2.1 i).2.2.2.2.1.length ≤ 3000) (hle : M.2.2.1.length + (M.2.2.2.1 i).2.2.2.2.1.length ≤ 3000) (hn0 : (M.2.2.2.1 i).2.2.2.2.2.1 ≤ M.2.2.1.length) (hser : ∀ e ∈ (M.2.2.2.1 i).2.2.2.2.1, ∀ f ∈ (bringAll M.2.1 (M.2.2.2.1 i).2.2.2.1 (M.2.2.2.1 i).2.2.2.2.1), f.1 = e.1 → f.2.2.2.2.2 = e.2.2.2.2.2) (hr0 : endR M i = 0) : Me S 11 253 [.ref (A 0), .int (Int32.ofNat i)] hp (fun v hp' c s => v = some (.int (Int32.ofNat (M.2.2.2.1 i).2.2.2.2.1.length)) ∧ HSt hp hp' ow k A (mTally (mEnded (mShelf (mS M i (sGiv (M.2.2.2.1 i))) (bringAll M.2.1 (M.2.2.2.1 i).2.2.2.1 (M.2.2.2.1 i).2.2.2.2.1)) (M.2.2.1 ++ (M.2.2.2.1 i).2.2.2.2.1)) (addT M.2.2.2.2.1 (ln * 4 + 3))) 0 np nl c s 0 0) := by
  obtain ⟨hO, how, h0, h1, h3, hD, hF, hE, hT, ⟨lv9, hG⟩, hC, hL9, hQ, hW, hS, hTq9, htd, hcap⟩ := id h
  obtain ⟨za, ab, a1, a2, a3, a4, a5, a6, a7, a8, a9, a10, a11, a12, a13, a14⟩ := hS i hi
  have hT2 := hT.2
  have hTc := h.tab hEc
  obtain ⟨es1, hE1, hE2⟩ := hE
  obtain ⟨fs1, hF1, hF2⟩ := hF
  obtain ⟨sa1, l1, l2⟩ := a13
  obtain ⟨ca1, l3, l4⟩ := a14
  obtain ⟨⟨clb, cal, cgi, hC1⟩, hC2, clv, hC3⟩ := hC
  obtain ⟨des, das, hd1, hd2⟩ := hL9 15 (by decide)
  obtain ⟨tes, tas, ht1, ht2⟩ := hL9 12 (by decide)
  obtain ⟨mes, mas, hm1, hm2⟩ := hL9 13 (by decide)
  have hel := hE2.1
  have hfl := hF2.1
  have hcl := l4.1
  obtain ⟨cfs, hCo⟩ := l3.ob
  have ne : ∀ a b, a < 77 → b < 77 → a ≠ b → A a ≠ A b := fun a b ha hb hab e => by have u := (how a ha).1; rw [e, (how b hb).1] at u; omega
  have hdr : ∀ e ∈ (M.2.2.2.1 i).2.2.2.2.1, ∃ fs : List Value, hp[e.2.2.2.2.2]? = some (.inr (13, fs)) ∧ fs[8]? = some (bv (DRq M.2.2.2.2.2.2 e.2.2.2.2.2)) := fun e he => by
    obtain ⟨q, hq, e1, e2, e3⟩ := hEc e he
    obtain ⟨b1, b2, b3, b4, b5, fs, b6, b7, b8, b9⟩ := hTq9 q hq
    rw [← e1, DRq_at htd hq]
    exact ⟨fs, b6, b8⟩
  have hb1 := a1
  rw [hb] at hb1
  obtain ⟨Z, hZ⟩ : ∃ Z : Nat → Prop, Z = fun n => n = k + 7 ∨ n = k + 15 ∨ n = k + 12 ∨ n = k + 13 ∨ n = k + 0 ∨ n = k + 9 ∨ n = k + 4 ∨ n = k + (20 + i) ∨ n = k + (44 + i) ∨ n = k + (52 + i) ∨ n = k + 5 := ⟨_, rfl⟩
  have hz : ∀ n, Z n → n = k + 7 ∨ n = k + 15 ∨ n = k + 12 ∨ n = k + 13 ∨ n = k + 0 ∨ n = k + 9 ∨ n = k + 4 ∨ n = k + (20 + i) ∨ n = k + (44 + i) ∨ n = k + (52 + i) ∨ n = k + 5 := fun n z9 => by rw [hZ] at z9; exact z9
  have hzi : ∀ n, (n = k + 7 ∨ n = k + 15 ∨ n = k + 12 ∨ n = k + 13 ∨ n = k + 0 ∨ n = k + 9 ∨ n = k + 4 ∨ n = k + (20 + i) ∨ n = k + (44 + i) ∨ n = k + (52 + i) ∨ n = k + 5) → Z n := fun n z9 => by rw [hZ]; exact z9
  have hzk : ∀ n, Z n → k ≤ n ∧ n < k + 1000 := fun n z => by have z9 := hz n z; omega
  refine At.go (q := xm253) rfl 2 (pc' := 2) (L' := [(0, .ref (A 0)), (1, .int (Int32.ofNat i))]) (st' := [.int (Int32.ofNat i), .ref (A 0)]) rfl ?_
  refine At.clp (as := [.ref (A 0), .int (Int32.ofNat i)]) (rest := []) rfl (by decide) rfl (Nat.le_of_ble_eq_true rfl) (Nat.le_of_ble_eq_true rfl) (xrck_o (by decide) (by decide) h0 (by decide)) (Nat.le_of_ble_eq_true rfl) (m_sessionOf h0 rfl h1 (by rw [List.length_map, List.length_range]; decide) (by rw [List.getElem?_map, List.getElem?_range hi]; rfl)) ?_
  refine At.go (q := xm253) rfl 2 (pc' := 7) (L' := [(2, .ref (A (20 + i))), (0, .ref (A 0)), (1, .int (Int32.ofNat i))]) (st' := [.ref (A (20 + i))]) rfl ?_
  refine At.gf rfl (by decide) hb1 rfl ?_
  refine At.go (q := xm253) rfl 2 (pc' := 22) (L' := [(2, .ref (A (20 + i))), (0, .ref (A 0)), (1, .int (Int32.ofNat i))]) (st' := [.ref (A (20 + i))]) rfl ?_
  refine At.gf rfl (by decide) hb1 rfl ?_
  refine At.clp (as := [.ref (A (52 + i))]) (rest := []) rfl (by decide) rfl (Nat.le_of_ble_eq_true rfl) (Nat.le_of_ble_eq_true rfl) (xrck_o (by decide) (by decide) hCo (by decide)) (Nat.le_of_ble_eq_true rfl) (m_size l3) ?_
  refine At.go (q := xm253) rfl 3 (pc' := 31) (L' := [(3, .int (Int32.ofNat ca1.length)), (2, .ref (A (20 + i))), (0, .ref (A 0)), (1, .int (Int32.ofNat i))]) (st' := [.ref (A 0), .ref (A 0)]) rfl ?_
  refine At.gf rfl (by decide) h0 rfl ?_
  refine At.go (q := xm253) rfl 2 (pc' := 36) (L' := [(3, .int (Int32.ofNat ca1.length)), (2, .ref (A (20 + i))), (0, .ref (A 0)), (1, .int (Int32.ofNat i))]) (st' := [.ref (A 0), .ref (A (20 + i)), .ref (A 7), .ref (A 0)]) rfl ?_
  refine At.gf rfl (by decide) h0 rfl ?_
  refine At.go (q := xm253) rfl 1 (pc' := 40) (L' := [(3, .int (Int32.ofNat ca1.length)), (2, .ref (A (20 + i))), (0, .ref (A 0)), (1, .int (Int32.ofNat i))]) (st' := [.ref (A 0), .ref (A 3), .ref (A (20 + i)), .ref (A 7), .ref (A 0)]) rfl ?_
  refine At.gf rfl (by decide) h0 rfl ?_
  refine At.clm (as := [.ref (A 7), .ref (A (20 + i)), .ref (A 3), .ref (A 4)]) (rest := [.ref (A 0)]) rfl (by decide) rfl (Nat.le_of_ble_eq_true rfl) (Nat.le_of_ble_eq_true rfl) (xrck_o (by decide) (by decide) hC1 (by decide)) (Nat.le_of_ble_eq_true rfl) (m_merge (TI := TIq M.2.2.2.2.2.2) (dr := DRq M.2.2.2.2.2.2) hC1 a1 hC2 a2 h3 hO hd1 ht1 hm1 l3 l1 hF1 hE1 l4 l2 hF2 hE2 hsF hsA (ne 15 9 (by decide) (by decide) (by decide)) (ne 15 12 (by decide) (by decide) (by decide)) (ne 15 13 (by decide) (by decide) (by decide)) (ne 12 13 (by decide) (by decide) (by decide)) (ne (52 + i) 15 (by omega) (by omega) (by omega)) (ne (52 + i) 12 (by omega) (by omega) (by omega)) (ne (52 + i) 13 (by omega) (by omega) (by omega)) (ne (44 + i) 15 (by omega) (by omega) (by omega)) (ne (44 + i) 12 (by omega) (by omega) (by omega)) (ne (44 + i) 13 (by omega) (by omega) (by omega)) (by omega) (by omega) hn0 hdr hTc hser) (fun v9 g1 c1 s1 hv9 => ?_)
  obtain ⟨rfl, f1, m1, m2, m3, m4, m5, m6, m7⟩ := hv9
  rw [show mergeC (mgP1 (DRq M.2.2.2.2.2.2) (M.2.2.2.1 i).2.2.2.2.1) (mgP2 (M.2.2.2.1 i).2.2.2.2.1 M.2.2.1 (M.2.2.2.1 i).2.2.2.2.2.1) (mgP3 (bringAll M.2.1 (M.2.2.2.1 i).2.2.2.1 (M.2.2.2.1 i).2.2.2.2.1) (M.2.2.2.1 i).2.2.2.2.1 (M.2.2.2.1 i).1) (mgP4 (TIq M.2.2.2.2.2.2) (bringAll M.2.1 (M.2.2.2.1 i).2.2.2.1 (M.2.2.2.1 i).2.2.2.2.1) (M.2.2.2.1 i).2.2.2.2.1 (M.2.2.2.1 i).1) = endR M i from rfl]
  have hC1' : ∃ lb al gi : Int32, g1[A 7]? = some (.inr (3, [.ref (A 11), .ref (A 12), .ref (A 13), .ref (A 14), .int lb, .int al, .int gi])) := by
    cases hp9 : (mgP1 (DRq M.2.2.2.2.2.2) (M.2.2.2.1 i).2.2.2.2.1 || mgP2 (M.2.2.2.1 i).2.2.2.2.1 M.2.2.1 (M.2.2.2.1 i).2.2.2.2.2.1) with
    | true => rw [m1 hp9]; exact ⟨_, _, _, hC1⟩
    | false => exact ⟨_, _, _, (m2 hp9).1⟩
  have hD' : ∃ es, hSh g1 (A 15) es := by
    cases hp9 : (mgP1 (DRq M.2.2.2.2.2.2) (M.2.2.2.1 i).2.2.2.2.1 || mgP2 (M.2.2.2.1 i).2.2.2.2.1 M.2.2.1 (M.2.2.2.1 i).2.2.2.2.2.1) with
    | true => rw [m1 hp9]; exact ⟨_, _, hd1, hd2⟩
    | false => exact ⟨_, (m2 hp9).2.1⟩
  have hTt : ∃ es, hSh g1 (A 12) es := by
    cases hp9 : (mgP1 (DRq M.2.2.2.2.2.2) (M.2.2.2.1 i).2.2.2.2.1 || mgP2 (M.2.2.2.1 i).2.2.2.2.1 M.2.2.1 (M.2.2.2.1 i).2.2.2.2.2.1) with
    | true => rw [m1 hp9]; exact ⟨_, _, ht1, ht2⟩
    | false => exact ⟨[], [], (m2 hp9).2.2.1, rfl, fun j a e h => by cases h⟩
  have hTm : ∃ es, hSh g1 (A 13) es := by
    cases hp9 : (mgP1 (DRq M.2.2.2.2.2.2) (M.2.2.2.1 i).2.2.2.2.1 || mgP2 (M.2.2.2.1 i).2.2.2.2.1 M.2.2.1 (M.2.2.2.1 i).2.2.2.2.2.1) with
    | true => rw [m1 hp9]; exact ⟨_, _, hm1, hm2⟩
    | false => exact ⟨[], [], (m2 hp9).2.2.2, rfl, fun j a e h => by cases h⟩
  obtain ⟨lb', al', gi', hC1'⟩ := hC1'
  obtain ⟨des', das', hd1', hd2'⟩ := hD'
  obtain ⟨tes', tas', ht1', ht2'⟩ := hTt
  obtain ⟨mes', mas', hm1', hm2'⟩ := hTm
  have tH_1 := f1.ob h0 (by decide) (fun e => by have u := (how (0) (by omega)).1; have e9 : A 0 = A 7 ∨ A 0 = A 15 ∨ A 0 = A 12 ∨ A 0 = A 13 := e; rcases e9 with e9 | e9 | e9 | e9 <;> (rw [e9, (how _ (by omega)).1] at u; omega))
  have tz_1 := f1.ob a1 (by decide) (fun e => by have u := (how ((20 + i)) (by omega)).1; have e9 : A (20 + i) = A 7 ∨ A (20 + i) = A 15 ∨ A (20 + i) = A 12 ∨ A (20 + i) = A 13 := e; rcases e9 with e9 | e9 | e9 | e9 <;> (rw [e9, (how _ (by omega)).1] at u; omega))
  have tso_1 := f1.ob a2 (by decide) (fun e => by have u := (how ((36 + i)) (by omega)).1; have e9 : A (36 + i) = A 7 ∨ A (36 + i) = A 15 ∨ A (36 + i) = A 12 ∨ A (36 + i) = A 13 := e; rcases e9 with e9 | e9 | e9 | e9 <;> (rw [e9, (how _ (by omega)).1] at u; omega))
  have tx_1 := f1.2.2.1 _ _ a3 rfl (Or.inl (fun e => by have u := (how ((28 + i)) (by omega)).1; have e9 : A (28 + i) = A 7 ∨ A (28 + i) = A 15 ∨ A (28 + i) = A 12 ∨ A (28 + i) = A 13 := e; rcases e9 with e9 | e9 | e9 | e9 <;> (rw [e9, (how _ (by omega)).1] at u; omega)))
  have tS3_1 := f1.ob h3 (by decide) (fun e => by have u := (how (3) (by omega)).1; have e9 : A 3 = A 7 ∨ A 3 = A 15 ∨ A 3 = A 12 ∨ A 3 = A 13 := e; rcases e9 with e9 | e9 | e9 | e9 <;> (rw [e9, (how _ (by omega)).1] at u; omega))
  have tD2_1 := f1.ob hC2 (by decide) (fun e => by have u := (how (11) (by omega)).1; have e9 : A 11 = A 7 ∨ A 11 = A 15 ∨ A 11 = A 12 ∨ A 11 = A 13 := e; rcases e9 with e9 | e9 | e9 | e9 <;> (rw [e9, (how _ (by omega)).1] at u; omega))
  have tFL_1 := f1.ls (fun e => by have u := (how (9) (by omega)).1; have e9 : A 9 = A 7 ∨ A 9 = A 15 ∨ A 9 = A 12 ∨ A 9 = A 13 := e; rcases e9 with e9 | e9 | e9 | e9 <;> (rw [e9, (how _ (by omega)).1] at u; omega)) hO hF1
  have tFE_1 := hF2.fr f1
  have tEL_1 := f1.ls (fun e => by have u := (how (4) (by omega)).1; have e9 : A 4 = A 7 ∨ A 4 = A 15 ∨ A 4 = A 12 ∨ A 4 = A 13 := e; rcases e9 with e9 | e9 | e9 | e9 <;> (rw [e9, (how _ (by omega)).1] at u; omega)) hO hE1
  have tEE_1 := hE2.fr f1
  have tsL_1 := f1.ls (fun e => by have u := (how ((44 + i)) (by omega)).1; have e9 : A (44 + i) = A 7 ∨ A (44 + i) = A 15 ∨ A (44 + i) = A 12 ∨ A (44 + i) = A 13 := e; rcases e9 with e9 | e9 | e9 | e9 <;> (rw [e9, (how _ (by omega)).1] at u; omega)) hO l1
  have tsE_1 := l2.fr f1
  have tcL_1 := f1.ls (fun e => by have u := (how ((52 + i)) (by omega)).1; have e9 : A (52 + i) = A 7 ∨ A (52 + i) = A 15 ∨ A (52 + i) = A 12 ∨ A (52 + i) = A 13 := e; rcases e9 with e9 | e9 | e9 | e9 <;> (rw [e9, (how _ (by omega)).1] at u; omega)) hO l3
  have tcE_1 := l4.fr f1
  have tT_1 := f1.2.2.1 _ _ hT.1 rfl (Or.inl (fun e => by have u := (how (5) (by omega)).1; have e9 : A 5 = A 7 ∨ A 5 = A 15 ∨ A 5 = A 12 ∨ A 5 = A 13 := e; rcases e9 with e9 | e9 | e9 | e9 <;> (rw [e9, (how _ (by omega)).1] at u; omega)))
  have c9_1 := (f1.cap (fun e => by have u := (how (9) (by omega)).1; have e9 : A 9 = A 7 ∨ A 9 = A 15 ∨ A 9 = A 12 ∨ A 9 = A 13 := e; rcases e9 with e9 | e9 | e9 | e9 <;> (rw [e9, (how _ (by omega)).1] at u; omega)) hO hF1).trans rfl
  have c4_1 := (f1.cap (fun e => by have u := (how (4) (by omega)).1; have e9 : A 4 = A 7 ∨ A 4 = A 15 ∨ A 4 = A 12 ∨ A 4 = A 13 := e; rcases e9 with e9 | e9 | e9 | e9 <;> (rw [e9, (how _ (by omega)).1] at u; omega)) hO hE1).trans rfl
  have c44_1 := (f1.cap (fun e => by have u := (how ((44 + i)) (by omega)).1; have e9 : A (44 + i) = A 7 ∨ A (44 + i) = A 15 ∨ A (44 + i) = A 12 ∨ A (44 + i) = A 13 := e; rcases e9 with e9 | e9 | e9 | e9 <;> (rw [e9, (how _ (by omega)).1] at u; omega)) hO l1).trans rfl
  have c52_1 := (f1.cap (fun e => by have u := (how ((52 + i)) (by omega)).1; have e9 : A (52 + i) = A 7 ∨ A (52 + i) = A 15 ∨ A (52 + i) = A 12 ∨ A (52 + i) = A 13 := e; rcases e9 with e9 | e9 | e9 | e9 <;> (rw [e9, (how _ (by omega)).1] at u; omega)) hO l3).trans rfl
  have tO1 := f1.2.1 hO
  have fZ1 : FrX (fun a => Z (ow a)) hp g1 := f1.mono (fun x _ e => by
    have e9 : x = A 7 ∨ x = A 15 ∨ x = A 12 ∨ x = A 13 := e
    show Z (ow x)
    rcases e9 with e9 | e9 | e9 | e9
    · rw [e9, (how _ (by omega)).1]; exact hzi _ (by omega)
    · rw [e9, (how _ (by omega)).1]; exact hzi _ (by omega)
    · rw [e9, (how _ (by omega)).1]; exact hzi _ (by omega)
    · rw [e9, (how _ (by omega)).1]; exact hzi _ (by omega))
  obtain ⟨n1, ⟨das9, hd9, hde9⟩, n3, n4⟩ := m2 (endR_0 hr0)
  refine At.pf rfl tH_1 (Nat.le_of_ble_eq_true rfl) (by rcases endR_c M i with e | e | e | e | e <;> rw [e] <;> decide) ?_
  obtain ⟨g2, eg2⟩ : ∃ z, z = g1.set (A 0) (.inr (14, [.ref (A 1), .ref (A 2), .ref (A 3), .ref (A 4), .ref (A 5), .ref (A 60), .ref (A 75), .ref (A 6), .ref (A 7), .ref (A 8), .int M.2.2.2.2.2.1, .int (endR M i)])) := ⟨_, rfl⟩
  refine At.hpe eg2 ?_
  have f2 : FrX (fun x => x = A 0) g1 g2 := by rw [eg2]; exact FrX.so tH_1 (by decide) rfl (by decide)
  have hH2 : g2[A 0]? = some (.inr (14, [.ref (A 1), .ref (A 2), .ref (A 3), .ref (A 4), .ref (A 5), .ref (A 60), .ref (A 75), .ref (A 6), .ref (A 7), .ref (A 8), .int M.2.2.2.2.2.1, .int (endR M i)])) := by rw [eg2]; exact xs_eq tH_1
  have tz_2 := f2.ob tz_1 (by decide) (fun e => by have u := (how ((20 + i)) (by omega)).1; have e9 : A (20 + i) = A 0 := e; rw [e9, (how _ (by omega)).1] at u; omega)
  have tso_2 := f2.ob tso_1 (by decide) (fun e => by have u := (how ((36 + i)) (by omega)).1; have e9 : A (36 + i) = A 0 := e; rw [e9, (how _ (by omega)).1] at u; omega)
  have tx_2 := f2.2.2.1 _ _ tx_1 rfl (Or.inl (fun e => by have u := (how ((28 + i)) (by omega)).1; have e9 : A (28 + i) = A 0 := e; rw [e9, (how _ (by omega)).1] at u; omega))
  have tS3_2 := f2.ob tS3_1 (by decide) (fun e => by have u := (how (3) (by omega)).1; have e9 : A 3 = A 0 := e; rw [e9, (how _ (by omega)).1] at u; omega)
  have tD2_2 := f2.ob tD2_1 (by decide) (fun e => by have u := (how (11) (by omega)).1; have e9 : A 11 = A 0 := e; rw [e9, (how _ (by omega)).1] at u; omega)
  have tFL_2 := f2.ls (fun e => by have u := (how (9) (by omega)).1; have e9 : A 9 = A 0 := e; rw [e9, (how _ (by omega)).1] at u; omega) tO1 tFL_1
  have tFE_2 := tFE_1.fr f2
  have tEL_2 := f2.ls (fun e => by have u := (how (4) (by omega)).1; have e9 : A 4 = A 0 := e; rw [e9, (how _ (by omega)).1] at u; omega) tO1 tEL_1
  have tEE_2 := tEE_1.fr f2
  have tsL_2 := f2.ls (fun e => by have u := (how ((44 + i)) (by omega)).1; have e9 : A (44 + i) = A 0 := e; rw [e9, (how _ (by omega)).1] at u; omega) tO1 tsL_1
  have tsE_2 := tsE_1.fr f2
  have tcL_2 := f2.ls (fun e => by have u := (how ((52 + i)) (by omega)).1; have e9 : A (52 + i) = A 0 := e; rw [e9, (how _ (by omega)).1] at u; omega) tO1 tcL_1
  have tcE_2 := tcE_1.fr f2
  have tT_2 := f2.2.2.1 _ _ tT_1 rfl (Or.inl (fun e => by have u := (how (5) (by omega)).1; have e9 : A 5 = A 0 := e; rw [e9, (how _ (by omega)).1] at u; omega))
  have c9_2 := (f2.cap (fun e => by have u := (how (9) (by omega)).1; have e9 : A 9 = A 0 := e; rw [e9, (how _ (by omega)).1] at u; omega) tO1 tFL_1).trans c9_1
  have c4_2 := (f2.cap (fun e => by have u := (how (4) (by omega)).1; have e9 : A 4 = A 0 := e; rw [e9, (how _ (by omega)).1] at u; omega) tO1 tEL_1).trans c4_1
  have c44_2 := (f2.cap (fun e => by have u := (how ((44 + i)) (by omega)).1; have e9 : A (44 + i) = A 0 := e; rw [e9, (how _ (by omega)).1] at u; omega) tO1 tsL_1).trans c44_1
  have c52_2 := (f2.cap (fun e => by have u := (how ((52 + i)) (by omega)).1; have e9 : A (52 + i) = A 0 := e; rw [e9, (how _ (by omega)).1] at u; omega) tO1 tcL_1).trans c52_1
  have tC_2 := f2.ob hC1' (by decide) (fun e => by have u := (how (7) (by omega)).1; have e9 : A 7 = A 0 := e; rw [e9, (how _ (by omega)).1] at u; omega)
  have tdL_2 := f2.ls (fun e => by have u := (how (15) (by omega)).1; have e9 : A 15 = A 0 := e; rw [e9, (how _ (by omega)).1] at u; omega) tO1 hd9
  have tdE_2 := hde9.fr f2
  have tta_2 := f2.ls (fun e => by have u := (how (12) (by omega)).1; have e9 : A 12 = A 0 := e; rw [e9, (how _ (by omega)).1] at u; omega) tO1 ht1'
  have ttaE_2 := ht2'.fr f2
  have tmm_2 := f2.ls (fun e => by have u := (how (13) (by omega)).1; have e9 : A 13 = A 0 := e; rw [e9, (how _ (by omega)).1] at u; omega) tO1 hm1'
  have tmmE_2 := hm2'.fr f2
  have q15_2 := (f2.cap (fun e => by have u := (how (15) (by omega)).1; have e9 : A 15 = A 0 := e; rw [e9, (how _ (by omega)).1] at u; omega) tO1 hd9).trans rfl
  have q12_2 := (f2.cap (fun e => by have u := (how (12) (by omega)).1; have e9 : A 12 = A 0 := e; rw [e9, (how _ (by omega)).1] at u; omega) tO1 ht1').trans rfl
  have q13_2 := (f2.cap (fun e => by have u := (how (13) (by omega)).1; have e9 : A 13 = A 0 := e; rw [e9, (how _ (by omega)).1] at u; omega) tO1 hm1').trans rfl
  have tO2 := f2.2.1 tO1
  have fZ2 : FrX (fun a => Z (ow a)) g1 g2 := f2.mono (fun x _ e => by
    have e9 : x = A 0 := e
    show Z (ow x)
    rw [e9, (how _ (by omega)).1]; exact hzi _ (by omega))
  have FT2 := FrX.tr fZ1 fZ2 (fun x hx => Or.inl hx)
  refine At.go (q := xm253) rfl 1 (pc' := 50) (L' := [(3, .int (Int32.ofNat ca1.length)), (2, .ref (A (20 + i))), (0, .ref (A 0)), (1, .int (Int32.ofNat i))]) (st' := [.ref (A 0)]) rfl ?_
  refine At.gf rfl (by decide) hH2 rfl ?_
  refine At.ic1 (tgt := 81) rfl rfl (fun h => absurd (h.symm.trans (decide_eq_false (fun e => e hr0))) (by decide)) (fun _ => ?_)
  refine At.go (q := xm253) rfl 1 (pc' := 57) (L' := [(3, .int (Int32.ofNat ca1.length)), (2, .ref (A (20 + i))), (0, .ref (A 0)), (1, .int (Int32.ofNat i))]) (st' := [.ref (A 0)]) rfl ?_
  refine At.gf rfl (by decide) hH2 rfl ?_
  refine At.go (q := xm253) rfl 1 (pc' := 61) (L' := [(3, .int (Int32.ofNat ca1.length)), (2, .ref (A (20 + i))), (0, .ref (A 0)), (1, .int (Int32.ofNat i))]) (st' := [.ref (A 0), .ref (A 3)]) rfl ?_
  refine At.gf rfl (by decide) hH2 rfl ?_
  refine At.gf rfl (by decide) tC_2 rfl ?_
  refine At.clm (as := [.ref (A 3), .ref (A 11)]) (rest := []) rfl (by decide) rfl (Nat.le_of_ble_eq_true rfl) (Nat.le_of_ble_eq_true rfl) (xrck_o (by decide) (by decide) tS3_2 (by decide)) (Nat.le_of_ble_eq_true rfl) (m_fill tS3_2 tD2_2 (ne 9 15 (by decide) (by decide) (by decide)) tO2 tFL_2 tdL_2 tdE_2 (by have := hde9.1; have := bringAll_len M.2.1 (M.2.2.2.1 i).2.2.2.1 (M.2.2.2.1 i).2.2.2.2.1; omega)) (fun v9 g3 c3 s3 hv9 => ?_)
  obtain ⟨rfl, f3, ⟨fas3, r1, r2⟩, r3, r4, r5⟩ := hv9
  have tz_3 := f3.ob tz_2 (by decide) (fun e => by have u := (how ((20 + i)) (by omega)).1; have e9 : A (20 + i) = A 9 := e; rw [e9, (how _ (by omega)).1] at u; omega)
  have tso_3 := f3.ob tso_2 (by decide) (fun e => by have u := (how ((36 + i)) (by omega)).1; have e9 : A (36 + i) = A 9 := e; rw [e9, (how _ (by omega)).1] at u; omega)
  have tx_3 := f3.2.2.1 _ _ tx_2 rfl (Or.inl (fun e => by have u := (how ((28 + i)) (by omega)).1; have e9 : A (28 + i) = A 9 := e; rw [e9, (how _ (by omega)).1] at u; omega))
  have tS3_3 := f3.ob tS3_2 (by decide) (fun e => by have u := (how (3) (by omega)).1; have e9 : A 3 = A 9 := e; rw [e9, (how _ (by omega)).1] at u; omega)
  have tD2_3 := f3.ob tD2_2 (by decide) (fun e => by have u := (how (11) (by omega)).1; have e9 : A 11 = A 9 := e; rw [e9, (how _ (by omega)).1] at u; omega)
  have tEL_3 := f3.ls (fun e => by have u := (how (4) (by omega)).1; have e9 : A 4 = A 9 := e; rw [e9, (how _ (by omega)).1] at u; omega) tO2 tEL_2
  have tEE_3 := tEE_2.fr f3
  have tsL_3 := f3.ls (fun e => by have u := (how ((44 + i)) (by omega)).1; have e9 : A (44 + i) = A 9 := e; rw [e9, (how _ (by omega)).1] at u; omega) tO2 tsL_2
  have tsE_3 := tsE_2.fr f3
  have tcL_3 := f3.ls (fun e => by have u := (how ((52 + i)) (by omega)).1; have e9 : A (52 + i) = A 9 := e; rw [e9, (how _ (by omega)).1] at u; omega) tO2 tcL_2
  have tcE_3 := tcE_2.fr f3
  have tT_3 := f3.2.2.1 _ _ tT_2 rfl (Or.inl (fun e => by have u := (how (5) (by omega)).1; have e9 : A 5 = A 9 := e; rw [e9, (how _ (by omega)).1] at u; omega))
  have c4_3 := (f3.cap (fun e => by have u := (how (4) (by omega)).1; have e9 : A 4 = A 9 := e; rw [e9, (how _ (by omega)).1] at u; omega) tO2 tEL_2).trans c4_2
  have c44_3 := (f3.cap (fun e => by have u := (how ((44 + i)) (by omega)).1; have e9 : A (44 + i) = A 9 := e; rw [e9, (how _ (by omega)).1] at u; omega) tO2 tsL_2).trans c44_2
  have c52_3 := (f3.cap (fun e => by have u := (how ((52 + i)) (by omega)).1; have e9 : A (52 + i) = A 9 := e; rw [e9, (how _ (by omega)).1] at u; omega) tO2 tcL_2).trans c52_2
  have tC_3 := f3.ob tC_2 (by decide) (fun e => by have u := (how (7) (by omega)).1; have e9 : A 7 = A 9 := e; rw [e9, (how _ (by omega)).1] at u; omega)
  have tdL_3 := f3.ls (fun e => by have u := (how (15) (by omega)).1; have e9 : A 15 = A 9 := e; rw [e9, (how _ (by omega)).1] at u; omega) tO2 tdL_2
  have tdE_3 := tdE_2.fr f3
  have tta_3 := f3.ls (fun e => by have u := (how (12) (by omega)).1; have e9 : A 12 = A 9 := e; rw [e9, (how _ (by omega)).1] at u; omega) tO2 tta_2
  have ttaE_3 := ttaE_2.fr f3
  have tmm_3 := f3.ls (fun e => by have u := (how (13) (by omega)).1; have e9 : A 13 = A 9 := e; rw [e9, (how _ (by omega)).1] at u; omega) tO2 tmm_2
  have tmmE_3 := tmmE_2.fr f3
  have q15_3 := (f3.cap (fun e => by have u := (how (15) (by omega)).1; have e9 : A 15 = A 9 := e; rw [e9, (how _ (by omega)).1] at u; omega) tO2 tdL_2).trans q15_2
  have q12_3 := (f3.cap (fun e => by have u := (how (12) (by omega)).1; have e9 : A 12 = A 9 := e; rw [e9, (how _ (by omega)).1] at u; omega) tO2 tta_2).trans q12_2
  have q13_3 := (f3.cap (fun e => by have u := (how (13) (by omega)).1; have e9 : A 13 = A 9 := e; rw [e9, (how _ (by omega)).1] at u; omega) tO2 tmm_2).trans q13_2
  have tH_3 := f3.ob hH2 (by decide) (fun e => by have u := (how (0) (by omega)).1; have e9 : A 0 = A 9 := e; rw [e9, (how _ (by omega)).1] at u; omega)
  have tO3 := f3.2.1 tO2
  have fZ3 : FrX (fun a => Z (ow a)) g2 g3 := f3.mono (fun x _ e => by
    have e9 : x = A 9 := e
    show Z (ow x)
    rw [e9, (how _ (by omega)).1]; exact hzi _ (by omega))
  have FT3 := FrX.tr FT2 fZ3 (fun x hx => Or.inl hx)
  refine At.go (q := xm253) rfl 1 (pc' := 71) (L' := [(3, .int (Int32.ofNat ca1.length)), (2, .ref (A (20 + i))), (0, .ref (A 0)), (1, .int (Int32.ofNat i))]) (st' := [.ref (A 0)]) rfl ?_
  refine At.gf rfl (by decide) tH_3 rfl ?_
  refine At.go (q := xm253) rfl 1 (pc' := 75) (L' := [(3, .int (Int32.ofNat ca1.length)), (2, .ref (A (20 + i))), (0, .ref (A 0)), (1, .int (Int32.ofNat i))]) (st' := [.ref (A (20 + i)), .ref (A 4)]) rfl ?_
  refine At.gf rfl (by decide) tz_3 rfl ?_
  refine At.clm (as := [.ref (A 4), .ref (A (52 + i))]) (rest := []) rfl (by decide) rfl (Nat.le_of_ble_eq_true rfl) (Nat.le_of_ble_eq_true rfl) rfl (Nat.le_of_ble_eq_true rfl) (m_addAll (ne 4 (52 + i) (by decide) (by omega) (by omega)) tO3 tEL_3 tcL_3 tEE_3 tcE_3 (by omega)) (fun v9 g4 c4 s4 hv9 => ?_)
  obtain ⟨rfl, f4, ⟨eas4, r6, r7⟩, r8, r9, r10⟩ := hv9
  have tz_4 := f4.ob tz_3 (by decide) (fun e => by have u := (how ((20 + i)) (by omega)).1; have e9 : A (20 + i) = A 4 := e; rw [e9, (how _ (by omega)).1] at u; omega)
  have tso_4 := f4.ob tso_3 (by decide) (fun e => by have u := (how ((36 + i)) (by omega)).1; have e9 : A (36 + i) = A 4 := e; rw [e9, (how _ (by omega)).1] at u; omega)
  have tx_4 := f4.2.2.1 _ _ tx_3 rfl (Or.inl (fun e => by have u := (how ((28 + i)) (by omega)).1; have e9 : A (28 + i) = A 4 := e; rw [e9, (how _ (by omega)).1] at u; omega))
  have tS3_4 := f4.ob tS3_3 (by decide) (fun e => by have u := (how (3) (by omega)).1; have e9 : A 3 = A 4 := e; rw [e9, (how _ (by omega)).1] at u; omega)
  have tD2_4 := f4.ob tD2_3 (by decide) (fun e => by have u := (how (11) (by omega)).1; have e9 : A 11 = A 4 := e; rw [e9, (how _ (by omega)).1] at u; omega)
  have tsL_4 := f4.ls (fun e => by have u := (how ((44 + i)) (by omega)).1; have e9 : A (44 + i) = A 4 := e; rw [e9, (how _ (by omega)).1] at u; omega) tO3 tsL_3
  have tsE_4 := tsE_3.fr f4
  have tcL_4 := f4.ls (fun e => by have u := (how ((52 + i)) (by omega)).1; have e9 : A (52 + i) = A 4 := e; rw [e9, (how _ (by omega)).1] at u; omega) tO3 tcL_3
  have tcE_4 := tcE_3.fr f4
  have tT_4 := f4.2.2.1 _ _ tT_3 rfl (Or.inl (fun e => by have u := (how (5) (by omega)).1; have e9 : A 5 = A 4 := e; rw [e9, (how _ (by omega)).1] at u; omega))
  have c44_4 := (f4.cap (fun e => by have u := (how ((44 + i)) (by omega)).1; have e9 : A (44 + i) = A 4 := e; rw [e9, (how _ (by omega)).1] at u; omega) tO3 tsL_3).trans c44_3
  have c52_4 := (f4.cap (fun e => by have u := (how ((52 + i)) (by omega)).1; have e9 : A (52 + i) = A 4 := e; rw [e9, (how _ (by omega)).1] at u; omega) tO3 tcL_3).trans c52_3
  have tC_4 := f4.ob tC_3 (by decide) (fun e => by have u := (how (7) (by omega)).1; have e9 : A 7 = A 4 := e; rw [e9, (how _ (by omega)).1] at u; omega)
  have tdL_4 := f4.ls (fun e => by have u := (how (15) (by omega)).1; have e9 : A 15 = A 4 := e; rw [e9, (how _ (by omega)).1] at u; omega) tO3 tdL_3
  have tdE_4 := tdE_3.fr f4
  have tta_4 := f4.ls (fun e => by have u := (how (12) (by omega)).1; have e9 : A 12 = A 4 := e; rw [e9, (how _ (by omega)).1] at u; omega) tO3 tta_3
  have ttaE_4 := ttaE_3.fr f4
  have tmm_4 := f4.ls (fun e => by have u := (how (13) (by omega)).1; have e9 : A 13 = A 4 := e; rw [e9, (how _ (by omega)).1] at u; omega) tO3 tmm_3
  have tmmE_4 := tmmE_3.fr f4
  have q15_4 := (f4.cap (fun e => by have u := (how (15) (by omega)).1; have e9 : A 15 = A 4 := e; rw [e9, (how _ (by omega)).1] at u; omega) tO3 tdL_3).trans q15_3
  have q12_4 := (f4.cap (fun e => by have u := (how (12) (by omega)).1; have e9 : A 12 = A 4 := e; rw [e9, (how _ (by omega)).1] at u; omega) tO3 tta_3).trans q12_3
  have q13_4 := (f4.cap (fun e => by have u := (how (13) (by omega)).1; have e9 : A 13 = A 4 := e; rw [e9, (how _ (by omega)).1] at u; omega) tO3 tmm_3).trans q13_3
  have tH_4 := f4.ob tH_3 (by decide) (fun e => by have u := (how (0) (by omega)).1; have e9 : A 0 = A 4 := e; rw [e9, (how _ (by omega)).1] at u; omega)
  have tFL_4 := f4.ls (fun e => by have u := (how (9) (by omega)).1; have e9 : A 9 = A 4 := e; rw [e9, (how _ (by omega)).1] at u; omega) tO3 r1
  have tFE_4 := r2.fr f4
  have c9b_4 := (f4.cap (fun e => by have u := (how (9) (by omega)).1; have e9 : A 9 = A 4 := e; rw [e9, (how _ (by omega)).1] at u; omega) tO3 r1).trans rfl
  have tO4 := f4.2.1 tO3
  have fZ4 : FrX (fun a => Z (ow a)) g3 g4 := f4.mono (fun x _ e => by
    have e9 : x = A 4 := e
    show Z (ow x)
    rw [e9, (how _ (by omega)).1]; exact hzi _ (by omega))
  have FT4 := FrX.tr FT3 fZ4 (fun x hx => Or.inl hx)
  refine At.go (q := xm253) rfl 1 (pc' := 82) (L' := [(3, .int (Int32.ofNat ca1.length)), (2, .ref (A (20 + i))), (0, .ref (A 0)), (1, .int (Int32.ofNat i))]) (st' := [.ref (A (20 + i))]) rfl ?_
  refine At.clm (as := [.ref (A (20 + i))]) (rest := []) rfl (by decide) rfl (Nat.le_of_ble_eq_true rfl) (Nat.le_of_ble_eq_true rfl) (xrck_o (by decide) (by decide) tz_4 (by decide)) (Nat.le_of_ble_eq_true rfl) (m_stopBusy (ne (44 + i) (52 + i) (by omega) (by omega) (by omega)) tso_4 tO4 tsL_4 tcL_4 tz_4) (fun v9 g5 c5 s5 hv9 => ?_)
  obtain ⟨rfl, f5, u1, u2, u3, rfl, rfl, u4, u5⟩ := hv9
  have tso_5 := f5.ob tso_4 (by decide) (fun e => by have u := (how ((36 + i)) (by omega)).1; have e9 : A (36 + i) = A (20 + i) ∨ A (36 + i) = A (44 + i) ∨ A (36 + i) = A (52 + i) := e; rcases e9 with e9 | e9 | e9 <;> (rw [e9, (how _ (by omega)).1] at u; omega))
  have tx_5 := f5.2.2.1 _ _ tx_4 rfl (Or.inl (fun e => by have u := (how ((28 + i)) (by omega)).1; have e9 : A (28 + i) = A (20 + i) ∨ A (28 + i) = A (44 + i) ∨ A (28 + i) = A (52 + i) := e; rcases e9 with e9 | e9 | e9 <;> (rw [e9, (how _ (by omega)).1] at u; omega)))
  have tS3_5 := f5.ob tS3_4 (by decide) (fun e => by have u := (how (3) (by omega)).1; have e9 : A 3 = A (20 + i) ∨ A 3 = A (44 + i) ∨ A 3 = A (52 + i) := e; rcases e9 with e9 | e9 | e9 <;> (rw [e9, (how _ (by omega)).1] at u; omega))
  have tD2_5 := f5.ob tD2_4 (by decide) (fun e => by have u := (how (11) (by omega)).1; have e9 : A 11 = A (20 + i) ∨ A 11 = A (44 + i) ∨ A 11 = A (52 + i) := e; rcases e9 with e9 | e9 | e9 <;> (rw [e9, (how _ (by omega)).1] at u; omega))
  have tT_5 := f5.2.2.1 _ _ tT_4 rfl (Or.inl (fun e => by have u := (how (5) (by omega)).1; have e9 : A 5 = A (20 + i) ∨ A 5 = A (44 + i) ∨ A 5 = A (52 + i) := e; rcases e9 with e9 | e9 | e9 <;> (rw [e9, (how _ (by omega)).1] at u; omega)))
  have tC_5 := f5.ob tC_4 (by decide) (fun e => by have u := (how (7) (by omega)).1; have e9 : A 7 = A (20 + i) ∨ A 7 = A (44 + i) ∨ A 7 = A (52 + i) := e; rcases e9 with e9 | e9 | e9 <;> (rw [e9, (how _ (by omega)).1] at u; omega))
  have tdL_5 := f5.ls (fun e => by have u := (how (15) (by omega)).1; have e9 : A 15 = A (20 + i) ∨ A 15 = A (44 + i) ∨ A 15 = A (52 + i) := e; rcases e9 with e9 | e9 | e9 <;> (rw [e9, (how _ (by omega)).1] at u; omega)) tO4 tdL_4
  have tdE_5 := tdE_4.fr f5
  have tta_5 := f5.ls (fun e => by have u := (how (12) (by omega)).1; have e9 : A 12 = A (20 + i) ∨ A 12 = A (44 + i) ∨ A 12 = A (52 + i) := e; rcases e9 with e9 | e9 | e9 <;> (rw [e9, (how _ (by omega)).1] at u; omega)) tO4 tta_4
  have ttaE_5 := ttaE_4.fr f5
  have tmm_5 := f5.ls (fun e => by have u := (how (13) (by omega)).1; have e9 : A 13 = A (20 + i) ∨ A 13 = A (44 + i) ∨ A 13 = A (52 + i) := e; rcases e9 with e9 | e9 | e9 <;> (rw [e9, (how _ (by omega)).1] at u; omega)) tO4 tmm_4
  have tmmE_5 := tmmE_4.fr f5
  have q15_5 := (f5.cap (fun e => by have u := (how (15) (by omega)).1; have e9 : A 15 = A (20 + i) ∨ A 15 = A (44 + i) ∨ A 15 = A (52 + i) := e; rcases e9 with e9 | e9 | e9 <;> (rw [e9, (how _ (by omega)).1] at u; omega)) tO4 tdL_4).trans q15_4
  have q12_5 := (f5.cap (fun e => by have u := (how (12) (by omega)).1; have e9 : A 12 = A (20 + i) ∨ A 12 = A (44 + i) ∨ A 12 = A (52 + i) := e; rcases e9 with e9 | e9 | e9 <;> (rw [e9, (how _ (by omega)).1] at u; omega)) tO4 tta_4).trans q12_4
  have q13_5 := (f5.cap (fun e => by have u := (how (13) (by omega)).1; have e9 : A 13 = A (20 + i) ∨ A 13 = A (44 + i) ∨ A 13 = A (52 + i) := e; rcases e9 with e9 | e9 | e9 <;> (rw [e9, (how _ (by omega)).1] at u; omega)) tO4 tmm_4).trans q13_4
  have tH_5 := f5.ob tH_4 (by decide) (fun e => by have u := (how (0) (by omega)).1; have e9 : A 0 = A (20 + i) ∨ A 0 = A (44 + i) ∨ A 0 = A (52 + i) := e; rcases e9 with e9 | e9 | e9 <;> (rw [e9, (how _ (by omega)).1] at u; omega))
  have tFL_5 := f5.ls (fun e => by have u := (how (9) (by omega)).1; have e9 : A 9 = A (20 + i) ∨ A 9 = A (44 + i) ∨ A 9 = A (52 + i) := e; rcases e9 with e9 | e9 | e9 <;> (rw [e9, (how _ (by omega)).1] at u; omega)) tO4 tFL_4
  have tFE_5 := tFE_4.fr f5
  have c9b_5 := (f5.cap (fun e => by have u := (how (9) (by omega)).1; have e9 : A 9 = A (20 + i) ∨ A 9 = A (44 + i) ∨ A 9 = A (52 + i) := e; rcases e9 with e9 | e9 | e9 <;> (rw [e9, (how _ (by omega)).1] at u; omega)) tO4 tFL_4).trans c9b_4
  have tEL_5 := f5.ls (fun e => by have u := (how (4) (by omega)).1; have e9 : A 4 = A (20 + i) ∨ A 4 = A (44 + i) ∨ A 4 = A (52 + i) := e; rcases e9 with e9 | e9 | e9 <;> (rw [e9, (how _ (by omega)).1] at u; omega)) tO4 r6
  have tEE_5 := r7.fr f5
  have c4b_5 := (f5.cap (fun e => by have u := (how (4) (by omega)).1; have e9 : A 4 = A (20 + i) ∨ A 4 = A (44 + i) ∨ A 4 = A (52 + i) := e; rcases e9 with e9 | e9 | e9 <;> (rw [e9, (how _ (by omega)).1] at u; omega)) tO4 r6).trans rfl
  have tO5 := f5.2.1 tO4
  have fZ5 : FrX (fun a => Z (ow a)) g4 g5 := f5.mono (fun x _ e => by
    have e9 : x = A (20 + i) ∨ x = A (44 + i) ∨ x = A (52 + i) := e
    show Z (ow x)
    rcases e9 with e9 | e9 | e9
    · rw [e9, (how _ (by omega)).1]; exact hzi _ (by omega)
    · rw [e9, (how _ (by omega)).1]; exact hzi _ (by omega)
    · rw [e9, (how _ (by omega)).1]; exact hzi _ (by omega))
  have FT5 := FrX.tr FT4 fZ5 (fun x hx => Or.inl hx)
  rw [hln] at u1
  have htl : ln * 4 + 3 < M.2.2.2.2.1.length := by omega
  have htv : M.2.2.2.2.1[ln * 4 + 3]? = some ((M.2.2.2.2.1[ln * 4 + 3]?).getD 0) := by rw [List.getElem?_eq_getElem htl]; rfl
  refine At.go (q := xm253) rfl 3 (pc' := 88) (L' := [(3, .int (Int32.ofNat ca1.length)), (2, .ref (A (20 + i))), (0, .ref (A 0)), (1, .int (Int32.ofNat i))]) (st' := [.ref (A 0), .ref (A (20 + i)), .ref (A 0)]) rfl ?_
  refine At.gf rfl (by decide) tH_5 rfl ?_
  refine At.ic1 (tgt := 99) rfl rfl (fun h => absurd (h.symm.trans (decide_eq_false (fun e => e hr0))) (by decide)) (fun _ => ?_)
  refine At.go (q := xm253) rfl 2 (pc' := 101) (L' := [(3, .int (Int32.ofNat ca1.length)), (2, .ref (A (20 + i))), (0, .ref (A 0)), (1, .int (Int32.ofNat i))]) (st' := [.int 99, .ref (A (20 + i)), .ref (A 0)]) rfl ?_
  refine At.clm (as := [.ref (A 0), .ref (A (20 + i)), .int 99]) (rest := []) rfl (by decide) rfl (Nat.le_of_ble_eq_true rfl) (Nat.le_of_ble_eq_true rfl) (xrck_o (by decide) (by decide) tH_5 (by decide)) (Nat.le_of_ble_eq_true rfl) (m_count0 tH_5 rfl rfl u1 tT_5 (by omega) htv (m_tal3 hl64) hr0) (fun v9 g6 c6 s6 hv9 => ?_)
  obtain ⟨rfl, f6, w1, w2, rfl, rfl⟩ := hv9
  have tso_6 := f6.ob tso_5 (by decide) (fun e => by have u := (how ((36 + i)) (by omega)).1; have e9 : A (36 + i) = A (20 + i) ∨ A (36 + i) = A 5 := e; rcases e9 with e9 | e9 <;> (rw [e9, (how _ (by omega)).1] at u; omega))
  have tx_6 := f6.2.2.1 _ _ tx_5 rfl (Or.inl (fun e => by have u := (how ((28 + i)) (by omega)).1; have e9 : A (28 + i) = A (20 + i) ∨ A (28 + i) = A 5 := e; rcases e9 with e9 | e9 <;> (rw [e9, (how _ (by omega)).1] at u; omega)))
  have tS3_6 := f6.ob tS3_5 (by decide) (fun e => by have u := (how (3) (by omega)).1; have e9 : A 3 = A (20 + i) ∨ A 3 = A 5 := e; rcases e9 with e9 | e9 <;> (rw [e9, (how _ (by omega)).1] at u; omega))
  have tD2_6 := f6.ob tD2_5 (by decide) (fun e => by have u := (how (11) (by omega)).1; have e9 : A 11 = A (20 + i) ∨ A 11 = A 5 := e; rcases e9 with e9 | e9 <;> (rw [e9, (how _ (by omega)).1] at u; omega))
  have tC_6 := f6.ob tC_5 (by decide) (fun e => by have u := (how (7) (by omega)).1; have e9 : A 7 = A (20 + i) ∨ A 7 = A 5 := e; rcases e9 with e9 | e9 <;> (rw [e9, (how _ (by omega)).1] at u; omega))
  have tdL_6 := f6.ls (fun e => by have u := (how (15) (by omega)).1; have e9 : A 15 = A (20 + i) ∨ A 15 = A 5 := e; rcases e9 with e9 | e9 <;> (rw [e9, (how _ (by omega)).1] at u; omega)) tO5 tdL_5
  have tdE_6 := tdE_5.fr f6
  have tta_6 := f6.ls (fun e => by have u := (how (12) (by omega)).1; have e9 : A 12 = A (20 + i) ∨ A 12 = A 5 := e; rcases e9 with e9 | e9 <;> (rw [e9, (how _ (by omega)).1] at u; omega)) tO5 tta_5
  have ttaE_6 := ttaE_5.fr f6
  have tmm_6 := f6.ls (fun e => by have u := (how (13) (by omega)).1; have e9 : A 13 = A (20 + i) ∨ A 13 = A 5 := e; rcases e9 with e9 | e9 <;> (rw [e9, (how _ (by omega)).1] at u; omega)) tO5 tmm_5
  have tmmE_6 := tmmE_5.fr f6
  have q15_6 := (f6.cap (fun e => by have u := (how (15) (by omega)).1; have e9 : A 15 = A (20 + i) ∨ A 15 = A 5 := e; rcases e9 with e9 | e9 <;> (rw [e9, (how _ (by omega)).1] at u; omega)) tO5 tdL_5).trans q15_5
  have q12_6 := (f6.cap (fun e => by have u := (how (12) (by omega)).1; have e9 : A 12 = A (20 + i) ∨ A 12 = A 5 := e; rcases e9 with e9 | e9 <;> (rw [e9, (how _ (by omega)).1] at u; omega)) tO5 tta_5).trans q12_5
  have q13_6 := (f6.cap (fun e => by have u := (how (13) (by omega)).1; have e9 : A 13 = A (20 + i) ∨ A 13 = A 5 := e; rcases e9 with e9 | e9 <;> (rw [e9, (how _ (by omega)).1] at u; omega)) tO5 tmm_5).trans q13_5
  have tH_6 := f6.ob tH_5 (by decide) (fun e => by have u := (how (0) (by omega)).1; have e9 : A 0 = A (20 + i) ∨ A 0 = A 5 := e; rcases e9 with e9 | e9 <;> (rw [e9, (how _ (by omega)).1] at u; omega))
  have tFL_6 := f6.ls (fun e => by have u := (how (9) (by omega)).1; have e9 : A 9 = A (20 + i) ∨ A 9 = A 5 := e; rcases e9 with e9 | e9 <;> (rw [e9, (how _ (by omega)).1] at u; omega)) tO5 tFL_5
  have tFE_6 := tFE_5.fr f6
  have c9b_6 := (f6.cap (fun e => by have u := (how (9) (by omega)).1; have e9 : A 9 = A (20 + i) ∨ A 9 = A 5 := e; rcases e9 with e9 | e9 <;> (rw [e9, (how _ (by omega)).1] at u; omega)) tO5 tFL_5).trans c9b_5
  have tEL_6 := f6.ls (fun e => by have u := (how (4) (by omega)).1; have e9 : A 4 = A (20 + i) ∨ A 4 = A 5 := e; rcases e9 with e9 | e9 <;> (rw [e9, (how _ (by omega)).1] at u; omega)) tO5 tEL_5
  have tEE_6 := tEE_5.fr f6
  have c4b_6 := (f6.cap (fun e => by have u := (how (4) (by omega)).1; have e9 : A 4 = A (20 + i) ∨ A 4 = A 5 := e; rcases e9 with e9 | e9 <;> (rw [e9, (how _ (by omega)).1] at u; omega)) tO5 tEL_5).trans c4b_5
  have tsL_6 := f6.ls (fun e => by have u := (how ((44 + i)) (by omega)).1; have e9 : A (44 + i) = A (20 + i) ∨ A (44 + i) = A 5 := e; rcases e9 with e9 | e9 <;> (rw [e9, (how _ (by omega)).1] at u; omega)) tO5 u2
  have tcL_6 := f6.ls (fun e => by have u := (how ((52 + i)) (by omega)).1; have e9 : A (52 + i) = A (20 + i) ∨ A (52 + i) = A 5 := e; rcases e9 with e9 | e9 <;> (rw [e9, (how _ (by omega)).1] at u; omega)) tO5 u3
  have c44b_6 := (f6.cap (fun e => by have u := (how ((44 + i)) (by omega)).1; have e9 : A (44 + i) = A (20 + i) ∨ A (44 + i) = A 5 := e; rcases e9 with e9 | e9 <;> (rw [e9, (how _ (by omega)).1] at u; omega)) tO5 u2).trans rfl
  have c52b_6 := (f6.cap (fun e => by have u := (how ((52 + i)) (by omega)).1; have e9 : A (52 + i) = A (20 + i) ∨ A (52 + i) = A 5 := e; rcases e9 with e9 | e9 <;> (rw [e9, (how _ (by omega)).1] at u; omega)) tO5 u3).trans rfl
  have tO6 := f6.2.1 tO5
  have fZ6 : FrX (fun a => Z (ow a)) g5 g6 := f6.mono (fun x _ e => by
    have e9 : x = A (20 + i) ∨ x = A 5 := e
    show Z (ow x)
    rcases e9 with e9 | e9
    · rw [e9, (how _ (by omega)).1]; exact hzi _ (by omega)
    · rw [e9, (how _ (by omega)).1]; exact hzi _ (by omega))
  have FT6 := FrX.tr FT5 fZ6 (fun x hx => Or.inl hx)
  refine At.go (q := xm253) rfl 1 (pc' := 105) (L' := [(3, .int (Int32.ofNat ca1.length)), (2, .ref (A (20 + i))), (0, .ref (A 0)), (1, .int (Int32.ofNat i))]) (st' := [.ref (A 0)]) rfl ?_
  refine At.gf rfl (by decide) tH_6 rfl ?_
  refine At.ic1 (tgt := 119) rfl rfl (fun _ => ?_) (fun h => absurd (h.symm.trans (decide_eq_true hr0)) (by decide))
  refine At.go (q := xm253) rfl 1 (pc' := 120) (L' := [(3, .int (Int32.ofNat ca1.length)), (2, .ref (A (20 + i))), (0, .ref (A 0)), (1, .int (Int32.ofNat i))]) (st' := [.int (Int32.ofNat ca1.length)]) rfl ?_
  have hc9 := hcap 9 (by decide)
  have hc4 := hcap 4 (by decide)
  have hc15 := hcap 15 (by decide)
  have hc12 := hcap 12 (by decide)
  have hc13 := hcap 13 (by decide)
  have hc44 := hcap (44 + i) ((by decide : ∀ i, i < 8 → 44 + i ∈ lsI) i hi)
  have hc52 := hcap (52 + i) ((by decide : ∀ i, i < 8 → 52 + i ∈ lsI) i hi)
  have hba := bringAll_len M.2.1 (M.2.2.2.1 i).2.2.2.1 (M.2.2.2.1 i).2.2.2.2.1
  have xq15 := q15_6
  have xq12 := q12_6
  have xq13 := q13_6
  have xc44b := c44b_6
  have xc52b := c52b_6
  have xc44 := c44_4
  have xc52 := c52_4
  have xc9b := c9b_6
  have xc4b := c4b_6
  have xc9 := c9_2
  have xc4 := c4_3
  rw [List.length_append] at r10
  have hR : HR g6 ow k A (mTally (mEnded (mShelf (mS M i (sGiv (M.2.2.2.1 i))) (bringAll M.2.1 (M.2.2.2.1 i).2.2.2.1 (M.2.2.2.1 i).2.2.2.2.1)) (M.2.2.1 ++ (M.2.2.2.1 i).2.2.2.2.1)) (addT M.2.2.2.2.1 (ln * 4 + 3))) (endR M i) np nl := h.upd (Z := Z) FT6 (fun _ _ => rfl) (fun z => by have z9 := hz _ z; omega) (fun z => by have z9 := hz _ z; omega) (Or.inr tH_6) (Or.inl ⟨(fun z => by have z9 := hz _ z; omega), rfl⟩) (Or.inr ⟨_, tFL_6, tFE_6⟩) (Or.inr ⟨_, tEL_6, tEE_6⟩) (Or.inr ⟨w2, by show (addT M.2.2.2.2.1 _).length = 256; unfold addT; rw [List.length_set]; exact hT2⟩) (Or.inl (fun z => by have z9 := hz _ z; omega)) (Or.inr ⟨⟨_, _, _, tC_6⟩, tD2_6, clv, FT6.ob hC3 (by decide) (nz (how 14 (by decide)).1 (fun z => by have z9 := hz _ z; omega))⟩) (fun j hj => if e : j = 15 then Or.inr (by rw [e]; exact ⟨_, _, tdL_6, tdE_6⟩) else if e : j = 12 then Or.inr (by rw [e]; exact ⟨_, _, tta_6, ttaE_6⟩) else if e : j = 13 then Or.inr (by rw [e]; exact ⟨_, _, tmm_6, tmmE_6⟩) else Or.inl (fun z => by simp only [List.mem_cons, List.not_mem_nil, or_false] at hj; have z9 := hz _ z; omega)) (Or.inl ⟨(fun z => by have z9 := hz _ z; omega), (fun z => by have z9 := hz _ z; omega), (fun z => by have z9 := hz _ z; omega), (fun z => by have z9 := hz _ z; omega), rfl, rfl⟩) (Or.inl (fun j j1 j2 z => by have z9 := hz _ z; omega)) (fun j hj => if e : j = i then by subst e; exact Or.inr (by rw [show (mTally (mEnded (mShelf (mS M j (sGiv (M.2.2.2.1 j))) (bringAll M.2.1 (M.2.2.2.1 j).2.2.2.1 (M.2.2.2.1 j).2.2.2.2.1)) (M.2.2.1 ++ (M.2.2.2.1 j).2.2.2.2.1)) (addT M.2.2.2.2.1 (ln * 4 + 3))).2.2.2.1 j = sGiv (M.2.2.2.1 j) from if_pos rfl]; exact ⟨za, ab, (by rw [show (sGiv (M.2.2.2.1 j)).1 = Int32.ofNat ln from hln]; exact w1), tso_6, tx_6, a4, a5, FT6.2.2.1 _ _ a6 rfl (Or.inl (nz a12 (fun z => by have z9 := hz _ z; omega))), a7, a8, a9, a10, a11, a12, ⟨[], tsL_6, rfl, fun q a e h => by cases h⟩, ⟨[], tcL_6, rfl, fun q a e h => by cases h⟩⟩) else Or.inl ⟨(fun z => by have z9 := hz _ z; omega), (fun z => by have z9 := hz _ z; omega), (fun z => by have z9 := hz _ z; omega), (fun z => by have z9 := hz _ z; omega), (fun z => by have z9 := hz _ z; omega), (fun z => by have z9 := hz _ z; omega), mS_ne (M := M) e⟩) (Or.inl ⟨(fun z => by have z9 := hz _ z; omega), (fun z => by have z9 := hz _ z; omega), (fun z => by have z9 := hz _ z; omega), (fun z => by have z9 := hz _ z; omega), rfl⟩) (fun j hj => if e : j = 9 then Or.inr (by rw [e]; omega) else if e : j = 4 then Or.inr (by rw [e]; omega) else if e : j = 15 then Or.inr (by rw [e]; omega) else if e : j = 12 then Or.inr (by rw [e]; omega) else if e : j = 13 then Or.inr (by rw [e]; omega) else if e : j = 44 + i then Or.inr (by rw [e]; omega) else if e : j = 52 + i then Or.inr (by rw [e]; omega) else Or.inl (fun z => by have j9 := lsI_c j hj; have z9 := hz _ z; omega))
  have hst9 : HSt hp g6 ow k A (mTally (mEnded (mShelf (mS M i (sGiv (M.2.2.2.1 i))) (bringAll M.2.1 (M.2.2.2.1 i).2.2.2.1 (M.2.2.2.1 i).2.2.2.2.1)) (M.2.2.1 ++ (M.2.2.2.1 i).2.2.2.2.1)) (addT M.2.2.2.2.1 (ln * 4 + 3))) (endR M i) np nl (0 + c1 + c3 + c4) (0 + s1 + s3 + s4) 0 0 := HSt.of h FT6 hzk hR [9, 4, 15, 12, 13, 44 + i, 52 + i] ((by decide : ∀ i, i < 8 → ([9, 4, 15, 12, 13, 44 + i, 52 + i] : List Nat).Sublist lsI) i hi) (fun j z hj => by have j9 := lsI_c j hj; have z9 := hz _ z; simp only [List.mem_cons, List.not_mem_nil, or_false]; omega) (by simp only [sumL, List.map_cons, List.map_nil, List.sum_cons, List.sum_nil]; omega) (by simp only [sumL, List.map_cons, List.map_nil, List.sum_cons, List.sum_nil]; omega)
  exact At.rt rfl (xret_i rfl) ⟨_, _, _, _, rfl, by rw [hcl], by rw [hr0] at hst9; exact hst9⟩
theorem h_end1 {S : List Int32} {hp : List XC} {ow : Nat → Nat} {k : Nat} {A : Nat → Nat} {M : HM} {rf : Int32} {np nl : Nat} (h : HR hp ow k A M rf np nl) {i ln : Nat} (hi : i < 8) (hb : (M.2.2.2.1 i).2.2.1 = true) (hln : (M.2.2.2.1 i).1 = Int32.ofNat ln) (hl64 : ln < 64) (hsF : Srt (M.2.2.2.1 i).2.2.2.1) (hsA : Srt M.2.1) (hEc : EnT M.2.2.2.2.2.2 (M.2.2.2.1 i).2.2.2.2.1) (hlen : M.2.1.length + (M.2.2.2.1 i).2.2.2.2.1.length ≤ 3000) (hle : M.2.2.1.length + (M.2.2.2.1 i).2.2.2.2.1.length ≤ 3000) (hn0 : (M.2.2.2.1 i).2.2.2.2.2.1 ≤ M.2.2.1.length) (hser : ∀ e ∈ (M.2.2.2.1 i).2.2.2.2.1, ∀ f ∈ (bringAll M.2.1 (M.2.2.2.1 i).2.2.2.1 (M.2.2.2.1 i).2.2.2.2.1), f.1 = e.1 → f.2.2.2.2.2 = e.2.2.2.2.2) (hr1 : ¬ endR M i = 0) : Th S 11 253 [.ref (A 0), .int (Int32.ofNat i)] hp 3 (fun hp' c s => HSt hp hp' ow k A (mTally (mS M i (sGiv (sRea (M.2.2.2.1 i) (endR M i)))) (addT M.2.2.2.2.1 (ln * 4 + 1))) (endR M i) np nl c s 1 6) := by
  obtain ⟨hO, how, h0, h1, h3, hD, hF, hE, hT, ⟨lv9, hG⟩, hC, hL9, hQ, hW, hS, hTq9, htd, hcap⟩ := id h
  obtain ⟨za, ab, a1, a2, a3, a4, a5, a6, a7, a8, a9, a10, a11, a12, a13, a14⟩ := hS i hi
  have hT2 := hT.2
  have hTc := h.tab hEc
  obtain ⟨es1, hE1, hE2⟩ := hE
  obtain ⟨fs1, hF1, hF2⟩ := hF
  obtain ⟨sa1, l1, l2⟩ := a13
  obtain ⟨ca1, l3, l4⟩ := a14
  obtain ⟨⟨clb, cal, cgi, hC1⟩, hC2, clv, hC3⟩ := hC
  obtain ⟨des, das, hd1, hd2⟩ := hL9 15 (by decide)
  obtain ⟨tes, tas, ht1, ht2⟩ := hL9 12 (by decide)
  obtain ⟨mes, mas, hm1, hm2⟩ := hL9 13 (by decide)
  have hel := hE2.1
  have hfl := hF2.1
  have hcl := l4.1
  obtain ⟨cfs, hCo⟩ := l3.ob
  have ne : ∀ a b, a < 77 → b < 77 → a ≠ b → A a ≠ A b := fun a b ha hb hab e => by have u := (how a ha).1; rw [e, (how b hb).1] at u; omega
  have hdr : ∀ e ∈ (M.2.2.2.1 i).2.2.2.2.1, ∃ fs : List Value, hp[e.2.2.2.2.2]? = some (.inr (13, fs)) ∧ fs[8]? = some (bv (DRq M.2.2.2.2.2.2 e.2.2.2.2.2)) := fun e he => by
    obtain ⟨q, hq, e1, e2, e3⟩ := hEc e he
    obtain ⟨b1, b2, b3, b4, b5, fs, b6, b7, b8, b9⟩ := hTq9 q hq
    rw [← e1, DRq_at htd hq]
    exact ⟨fs, b6, b8⟩
  have hb1 := a1
  rw [hb] at hb1
  obtain ⟨Z, hZ⟩ : ∃ Z : Nat → Prop, Z = fun n => n = k + 7 ∨ n = k + 15 ∨ n = k + 12 ∨ n = k + 13 ∨ n = k + 0 ∨ n = k + 9 ∨ n = k + 4 ∨ n = k + (20 + i) ∨ n = k + (44 + i) ∨ n = k + (52 + i) ∨ n = k + 5 := ⟨_, rfl⟩
  have hz : ∀ n, Z n → n = k + 7 ∨ n = k + 15 ∨ n = k + 12 ∨ n = k + 13 ∨ n = k + 0 ∨ n = k + 9 ∨ n = k + 4 ∨ n = k + (20 + i) ∨ n = k + (44 + i) ∨ n = k + (52 + i) ∨ n = k + 5 := fun n z9 => by rw [hZ] at z9; exact z9
  have hzi : ∀ n, (n = k + 7 ∨ n = k + 15 ∨ n = k + 12 ∨ n = k + 13 ∨ n = k + 0 ∨ n = k + 9 ∨ n = k + 4 ∨ n = k + (20 + i) ∨ n = k + (44 + i) ∨ n = k + (52 + i) ∨ n = k + 5) → Z n := fun n z9 => by rw [hZ]; exact z9
  have hzk : ∀ n, Z n → k ≤ n ∧ n < k + 1000 := fun n z => by have z9 := hz n z; omega
  refine At.go (q := xm253) rfl 2 (pc' := 2) (L' := [(0, .ref (A 0)), (1, .int (Int32.ofNat i))]) (st' := [.int (Int32.ofNat i), .ref (A 0)]) rfl ?_
  refine At.clp (as := [.ref (A 0), .int (Int32.ofNat i)]) (rest := []) rfl (by decide) rfl (Nat.le_of_ble_eq_true rfl) (Nat.le_of_ble_eq_true rfl) (xrck_o (by decide) (by decide) h0 (by decide)) (Nat.le_of_ble_eq_true rfl) (m_sessionOf h0 rfl h1 (by rw [List.length_map, List.length_range]; decide) (by rw [List.getElem?_map, List.getElem?_range hi]; rfl)) ?_
  refine At.go (q := xm253) rfl 2 (pc' := 7) (L' := [(2, .ref (A (20 + i))), (0, .ref (A 0)), (1, .int (Int32.ofNat i))]) (st' := [.ref (A (20 + i))]) rfl ?_
  refine At.gf rfl (by decide) hb1 rfl ?_
  refine At.go (q := xm253) rfl 2 (pc' := 22) (L' := [(2, .ref (A (20 + i))), (0, .ref (A 0)), (1, .int (Int32.ofNat i))]) (st' := [.ref (A (20 + i))]) rfl ?_
  refine At.gf rfl (by decide) hb1 rfl ?_
  refine At.clp (as := [.ref (A (52 + i))]) (rest := []) rfl (by decide) rfl (Nat.le_of_ble_eq_true rfl) (Nat.le_of_ble_eq_true rfl) (xrck_o (by decide) (by decide) hCo (by decide)) (Nat.le_of_ble_eq_true rfl) (m_size l3) ?_
  refine At.go (q := xm253) rfl 3 (pc' := 31) (L' := [(3, .int (Int32.ofNat ca1.length)), (2, .ref (A (20 + i))), (0, .ref (A 0)), (1, .int (Int32.ofNat i))]) (st' := [.ref (A 0), .ref (A 0)]) rfl ?_
  refine At.gf rfl (by decide) h0 rfl ?_
  refine At.go (q := xm253) rfl 2 (pc' := 36) (L' := [(3, .int (Int32.ofNat ca1.length)), (2, .ref (A (20 + i))), (0, .ref (A 0)), (1, .int (Int32.ofNat i))]) (st' := [.ref (A 0), .ref (A (20 + i)), .ref (A 7), .ref (A 0)]) rfl ?_
  refine At.gf rfl (by decide) h0 rfl ?_
  refine At.go (q := xm253) rfl 1 (pc' := 40) (L' := [(3, .int (Int32.ofNat ca1.length)), (2, .ref (A (20 + i))), (0, .ref (A 0)), (1, .int (Int32.ofNat i))]) (st' := [.ref (A 0), .ref (A 3), .ref (A (20 + i)), .ref (A 7), .ref (A 0)]) rfl ?_
  refine At.gf rfl (by decide) h0 rfl ?_
  refine At.clm (as := [.ref (A 7), .ref (A (20 + i)), .ref (A 3), .ref (A 4)]) (rest := [.ref (A 0)]) rfl (by decide) rfl (Nat.le_of_ble_eq_true rfl) (Nat.le_of_ble_eq_true rfl) (xrck_o (by decide) (by decide) hC1 (by decide)) (Nat.le_of_ble_eq_true rfl) (m_merge (TI := TIq M.2.2.2.2.2.2) (dr := DRq M.2.2.2.2.2.2) hC1 a1 hC2 a2 h3 hO hd1 ht1 hm1 l3 l1 hF1 hE1 l4 l2 hF2 hE2 hsF hsA (ne 15 9 (by decide) (by decide) (by decide)) (ne 15 12 (by decide) (by decide) (by decide)) (ne 15 13 (by decide) (by decide) (by decide)) (ne 12 13 (by decide) (by decide) (by decide)) (ne (52 + i) 15 (by omega) (by omega) (by omega)) (ne (52 + i) 12 (by omega) (by omega) (by omega)) (ne (52 + i) 13 (by omega) (by omega) (by omega)) (ne (44 + i) 15 (by omega) (by omega) (by omega)) (ne (44 + i) 12 (by omega) (by omega) (by omega)) (ne (44 + i) 13 (by omega) (by omega) (by omega)) (by omega) (by omega) hn0 hdr hTc hser) (fun v9 g1 c1 s1 hv9 => ?_)
  obtain ⟨rfl, f1, m1, m2, m3, m4, m5, m6, m7⟩ := hv9
  rw [show mergeC (mgP1 (DRq M.2.2.2.2.2.2) (M.2.2.2.1 i).2.2.2.2.1) (mgP2 (M.2.2.2.1 i).2.2.2.2.1 M.2.2.1 (M.2.2.2.1 i).2.2.2.2.2.1) (mgP3 (bringAll M.2.1 (M.2.2.2.1 i).2.2.2.1 (M.2.2.2.1 i).2.2.2.2.1) (M.2.2.2.1 i).2.2.2.2.1 (M.2.2.2.1 i).1) (mgP4 (TIq M.2.2.2.2.2.2) (bringAll M.2.1 (M.2.2.2.1 i).2.2.2.1 (M.2.2.2.1 i).2.2.2.2.1) (M.2.2.2.1 i).2.2.2.2.1 (M.2.2.2.1 i).1) = endR M i from rfl]
  have hC1' : ∃ lb al gi : Int32, g1[A 7]? = some (.inr (3, [.ref (A 11), .ref (A 12), .ref (A 13), .ref (A 14), .int lb, .int al, .int gi])) := by
    cases hp9 : (mgP1 (DRq M.2.2.2.2.2.2) (M.2.2.2.1 i).2.2.2.2.1 || mgP2 (M.2.2.2.1 i).2.2.2.2.1 M.2.2.1 (M.2.2.2.1 i).2.2.2.2.2.1) with
    | true => rw [m1 hp9]; exact ⟨_, _, _, hC1⟩
    | false => exact ⟨_, _, _, (m2 hp9).1⟩
  have hD' : ∃ es, hSh g1 (A 15) es := by
    cases hp9 : (mgP1 (DRq M.2.2.2.2.2.2) (M.2.2.2.1 i).2.2.2.2.1 || mgP2 (M.2.2.2.1 i).2.2.2.2.1 M.2.2.1 (M.2.2.2.1 i).2.2.2.2.2.1) with
    | true => rw [m1 hp9]; exact ⟨_, _, hd1, hd2⟩
    | false => exact ⟨_, (m2 hp9).2.1⟩
  have hTt : ∃ es, hSh g1 (A 12) es := by
    cases hp9 : (mgP1 (DRq M.2.2.2.2.2.2) (M.2.2.2.1 i).2.2.2.2.1 || mgP2 (M.2.2.2.1 i).2.2.2.2.1 M.2.2.1 (M.2.2.2.1 i).2.2.2.2.2.1) with
    | true => rw [m1 hp9]; exact ⟨_, _, ht1, ht2⟩
    | false => exact ⟨[], [], (m2 hp9).2.2.1, rfl, fun j a e h => by cases h⟩
  have hTm : ∃ es, hSh g1 (A 13) es := by
    cases hp9 : (mgP1 (DRq M.2.2.2.2.2.2) (M.2.2.2.1 i).2.2.2.2.1 || mgP2 (M.2.2.2.1 i).2.2.2.2.1 M.2.2.1 (M.2.2.2.1 i).2.2.2.2.2.1) with
    | true => rw [m1 hp9]; exact ⟨_, _, hm1, hm2⟩
    | false => exact ⟨[], [], (m2 hp9).2.2.2, rfl, fun j a e h => by cases h⟩
  obtain ⟨lb', al', gi', hC1'⟩ := hC1'
  obtain ⟨des', das', hd1', hd2'⟩ := hD'
  obtain ⟨tes', tas', ht1', ht2'⟩ := hTt
  obtain ⟨mes', mas', hm1', hm2'⟩ := hTm
  have tH_1 := f1.ob h0 (by decide) (fun e => by have u := (how (0) (by omega)).1; have e9 : A 0 = A 7 ∨ A 0 = A 15 ∨ A 0 = A 12 ∨ A 0 = A 13 := e; rcases e9 with e9 | e9 | e9 | e9 <;> (rw [e9, (how _ (by omega)).1] at u; omega))
  have tz_1 := f1.ob a1 (by decide) (fun e => by have u := (how ((20 + i)) (by omega)).1; have e9 : A (20 + i) = A 7 ∨ A (20 + i) = A 15 ∨ A (20 + i) = A 12 ∨ A (20 + i) = A 13 := e; rcases e9 with e9 | e9 | e9 | e9 <;> (rw [e9, (how _ (by omega)).1] at u; omega))
  have tso_1 := f1.ob a2 (by decide) (fun e => by have u := (how ((36 + i)) (by omega)).1; have e9 : A (36 + i) = A 7 ∨ A (36 + i) = A 15 ∨ A (36 + i) = A 12 ∨ A (36 + i) = A 13 := e; rcases e9 with e9 | e9 | e9 | e9 <;> (rw [e9, (how _ (by omega)).1] at u; omega))
  have tx_1 := f1.2.2.1 _ _ a3 rfl (Or.inl (fun e => by have u := (how ((28 + i)) (by omega)).1; have e9 : A (28 + i) = A 7 ∨ A (28 + i) = A 15 ∨ A (28 + i) = A 12 ∨ A (28 + i) = A 13 := e; rcases e9 with e9 | e9 | e9 | e9 <;> (rw [e9, (how _ (by omega)).1] at u; omega)))
  have tS3_1 := f1.ob h3 (by decide) (fun e => by have u := (how (3) (by omega)).1; have e9 : A 3 = A 7 ∨ A 3 = A 15 ∨ A 3 = A 12 ∨ A 3 = A 13 := e; rcases e9 with e9 | e9 | e9 | e9 <;> (rw [e9, (how _ (by omega)).1] at u; omega))
  have tD2_1 := f1.ob hC2 (by decide) (fun e => by have u := (how (11) (by omega)).1; have e9 : A 11 = A 7 ∨ A 11 = A 15 ∨ A 11 = A 12 ∨ A 11 = A 13 := e; rcases e9 with e9 | e9 | e9 | e9 <;> (rw [e9, (how _ (by omega)).1] at u; omega))
  have tFL_1 := f1.ls (fun e => by have u := (how (9) (by omega)).1; have e9 : A 9 = A 7 ∨ A 9 = A 15 ∨ A 9 = A 12 ∨ A 9 = A 13 := e; rcases e9 with e9 | e9 | e9 | e9 <;> (rw [e9, (how _ (by omega)).1] at u; omega)) hO hF1
  have tFE_1 := hF2.fr f1
  have tEL_1 := f1.ls (fun e => by have u := (how (4) (by omega)).1; have e9 : A 4 = A 7 ∨ A 4 = A 15 ∨ A 4 = A 12 ∨ A 4 = A 13 := e; rcases e9 with e9 | e9 | e9 | e9 <;> (rw [e9, (how _ (by omega)).1] at u; omega)) hO hE1
  have tEE_1 := hE2.fr f1
  have tsL_1 := f1.ls (fun e => by have u := (how ((44 + i)) (by omega)).1; have e9 : A (44 + i) = A 7 ∨ A (44 + i) = A 15 ∨ A (44 + i) = A 12 ∨ A (44 + i) = A 13 := e; rcases e9 with e9 | e9 | e9 | e9 <;> (rw [e9, (how _ (by omega)).1] at u; omega)) hO l1
  have tsE_1 := l2.fr f1
  have tcL_1 := f1.ls (fun e => by have u := (how ((52 + i)) (by omega)).1; have e9 : A (52 + i) = A 7 ∨ A (52 + i) = A 15 ∨ A (52 + i) = A 12 ∨ A (52 + i) = A 13 := e; rcases e9 with e9 | e9 | e9 | e9 <;> (rw [e9, (how _ (by omega)).1] at u; omega)) hO l3
  have tcE_1 := l4.fr f1
  have tT_1 := f1.2.2.1 _ _ hT.1 rfl (Or.inl (fun e => by have u := (how (5) (by omega)).1; have e9 : A 5 = A 7 ∨ A 5 = A 15 ∨ A 5 = A 12 ∨ A 5 = A 13 := e; rcases e9 with e9 | e9 | e9 | e9 <;> (rw [e9, (how _ (by omega)).1] at u; omega)))
  have c9_1 := (f1.cap (fun e => by have u := (how (9) (by omega)).1; have e9 : A 9 = A 7 ∨ A 9 = A 15 ∨ A 9 = A 12 ∨ A 9 = A 13 := e; rcases e9 with e9 | e9 | e9 | e9 <;> (rw [e9, (how _ (by omega)).1] at u; omega)) hO hF1).trans rfl
  have c4_1 := (f1.cap (fun e => by have u := (how (4) (by omega)).1; have e9 : A 4 = A 7 ∨ A 4 = A 15 ∨ A 4 = A 12 ∨ A 4 = A 13 := e; rcases e9 with e9 | e9 | e9 | e9 <;> (rw [e9, (how _ (by omega)).1] at u; omega)) hO hE1).trans rfl
  have c44_1 := (f1.cap (fun e => by have u := (how ((44 + i)) (by omega)).1; have e9 : A (44 + i) = A 7 ∨ A (44 + i) = A 15 ∨ A (44 + i) = A 12 ∨ A (44 + i) = A 13 := e; rcases e9 with e9 | e9 | e9 | e9 <;> (rw [e9, (how _ (by omega)).1] at u; omega)) hO l1).trans rfl
  have c52_1 := (f1.cap (fun e => by have u := (how ((52 + i)) (by omega)).1; have e9 : A (52 + i) = A 7 ∨ A (52 + i) = A 15 ∨ A (52 + i) = A 12 ∨ A (52 + i) = A 13 := e; rcases e9 with e9 | e9 | e9 | e9 <;> (rw [e9, (how _ (by omega)).1] at u; omega)) hO l3).trans rfl
  have tO1 := f1.2.1 hO
  have fZ1 : FrX (fun a => Z (ow a)) hp g1 := f1.mono (fun x _ e => by
    have e9 : x = A 7 ∨ x = A 15 ∨ x = A 12 ∨ x = A 13 := e
    show Z (ow x)
    rcases e9 with e9 | e9 | e9 | e9
    · rw [e9, (how _ (by omega)).1]; exact hzi _ (by omega)
    · rw [e9, (how _ (by omega)).1]; exact hzi _ (by omega)
    · rw [e9, (how _ (by omega)).1]; exact hzi _ (by omega)
    · rw [e9, (how _ (by omega)).1]; exact hzi _ (by omega))
  refine At.pf rfl tH_1 (Nat.le_of_ble_eq_true rfl) (by rcases endR_c M i with e | e | e | e | e <;> rw [e] <;> decide) ?_
  obtain ⟨g2, eg2⟩ : ∃ z, z = g1.set (A 0) (.inr (14, [.ref (A 1), .ref (A 2), .ref (A 3), .ref (A 4), .ref (A 5), .ref (A 60), .ref (A 75), .ref (A 6), .ref (A 7), .ref (A 8), .int M.2.2.2.2.2.1, .int (endR M i)])) := ⟨_, rfl⟩
  refine At.hpe eg2 ?_
  have f2 : FrX (fun x => x = A 0) g1 g2 := by rw [eg2]; exact FrX.so tH_1 (by decide) rfl (by decide)
  have hH2 : g2[A 0]? = some (.inr (14, [.ref (A 1), .ref (A 2), .ref (A 3), .ref (A 4), .ref (A 5), .ref (A 60), .ref (A 75), .ref (A 6), .ref (A 7), .ref (A 8), .int M.2.2.2.2.2.1, .int (endR M i)])) := by rw [eg2]; exact xs_eq tH_1
  have tz_2 := f2.ob tz_1 (by decide) (fun e => by have u := (how ((20 + i)) (by omega)).1; have e9 : A (20 + i) = A 0 := e; rw [e9, (how _ (by omega)).1] at u; omega)
  have tso_2 := f2.ob tso_1 (by decide) (fun e => by have u := (how ((36 + i)) (by omega)).1; have e9 : A (36 + i) = A 0 := e; rw [e9, (how _ (by omega)).1] at u; omega)
  have tx_2 := f2.2.2.1 _ _ tx_1 rfl (Or.inl (fun e => by have u := (how ((28 + i)) (by omega)).1; have e9 : A (28 + i) = A 0 := e; rw [e9, (how _ (by omega)).1] at u; omega))
  have tS3_2 := f2.ob tS3_1 (by decide) (fun e => by have u := (how (3) (by omega)).1; have e9 : A 3 = A 0 := e; rw [e9, (how _ (by omega)).1] at u; omega)
  have tD2_2 := f2.ob tD2_1 (by decide) (fun e => by have u := (how (11) (by omega)).1; have e9 : A 11 = A 0 := e; rw [e9, (how _ (by omega)).1] at u; omega)
  have tFL_2 := f2.ls (fun e => by have u := (how (9) (by omega)).1; have e9 : A 9 = A 0 := e; rw [e9, (how _ (by omega)).1] at u; omega) tO1 tFL_1
  have tFE_2 := tFE_1.fr f2
  have tEL_2 := f2.ls (fun e => by have u := (how (4) (by omega)).1; have e9 : A 4 = A 0 := e; rw [e9, (how _ (by omega)).1] at u; omega) tO1 tEL_1
  have tEE_2 := tEE_1.fr f2
  have tsL_2 := f2.ls (fun e => by have u := (how ((44 + i)) (by omega)).1; have e9 : A (44 + i) = A 0 := e; rw [e9, (how _ (by omega)).1] at u; omega) tO1 tsL_1
  have tsE_2 := tsE_1.fr f2
  have tcL_2 := f2.ls (fun e => by have u := (how ((52 + i)) (by omega)).1; have e9 : A (52 + i) = A 0 := e; rw [e9, (how _ (by omega)).1] at u; omega) tO1 tcL_1
  have tcE_2 := tcE_1.fr f2
  have tT_2 := f2.2.2.1 _ _ tT_1 rfl (Or.inl (fun e => by have u := (how (5) (by omega)).1; have e9 : A 5 = A 0 := e; rw [e9, (how _ (by omega)).1] at u; omega))
  have c9_2 := (f2.cap (fun e => by have u := (how (9) (by omega)).1; have e9 : A 9 = A 0 := e; rw [e9, (how _ (by omega)).1] at u; omega) tO1 tFL_1).trans c9_1
  have c4_2 := (f2.cap (fun e => by have u := (how (4) (by omega)).1; have e9 : A 4 = A 0 := e; rw [e9, (how _ (by omega)).1] at u; omega) tO1 tEL_1).trans c4_1
  have c44_2 := (f2.cap (fun e => by have u := (how ((44 + i)) (by omega)).1; have e9 : A (44 + i) = A 0 := e; rw [e9, (how _ (by omega)).1] at u; omega) tO1 tsL_1).trans c44_1
  have c52_2 := (f2.cap (fun e => by have u := (how ((52 + i)) (by omega)).1; have e9 : A (52 + i) = A 0 := e; rw [e9, (how _ (by omega)).1] at u; omega) tO1 tcL_1).trans c52_1
  have tC_2 := f2.ob hC1' (by decide) (fun e => by have u := (how (7) (by omega)).1; have e9 : A 7 = A 0 := e; rw [e9, (how _ (by omega)).1] at u; omega)
  have tdL_2 := f2.ls (fun e => by have u := (how (15) (by omega)).1; have e9 : A 15 = A 0 := e; rw [e9, (how _ (by omega)).1] at u; omega) tO1 hd1'
  have tdE_2 := hd2'.fr f2
  have tta_2 := f2.ls (fun e => by have u := (how (12) (by omega)).1; have e9 : A 12 = A 0 := e; rw [e9, (how _ (by omega)).1] at u; omega) tO1 ht1'
  have ttaE_2 := ht2'.fr f2
  have tmm_2 := f2.ls (fun e => by have u := (how (13) (by omega)).1; have e9 : A 13 = A 0 := e; rw [e9, (how _ (by omega)).1] at u; omega) tO1 hm1'
  have tmmE_2 := hm2'.fr f2
  have q15_2 := (f2.cap (fun e => by have u := (how (15) (by omega)).1; have e9 : A 15 = A 0 := e; rw [e9, (how _ (by omega)).1] at u; omega) tO1 hd1').trans rfl
  have q12_2 := (f2.cap (fun e => by have u := (how (12) (by omega)).1; have e9 : A 12 = A 0 := e; rw [e9, (how _ (by omega)).1] at u; omega) tO1 ht1').trans rfl
  have q13_2 := (f2.cap (fun e => by have u := (how (13) (by omega)).1; have e9 : A 13 = A 0 := e; rw [e9, (how _ (by omega)).1] at u; omega) tO1 hm1').trans rfl
  have tO2 := f2.2.1 tO1
  have fZ2 : FrX (fun a => Z (ow a)) g1 g2 := f2.mono (fun x _ e => by
    have e9 : x = A 0 := e
    show Z (ow x)
    rw [e9, (how _ (by omega)).1]; exact hzi _ (by omega))
  have FT2 := FrX.tr fZ1 fZ2 (fun x hx => Or.inl hx)
  refine At.go (q := xm253) rfl 1 (pc' := 50) (L' := [(3, .int (Int32.ofNat ca1.length)), (2, .ref (A (20 + i))), (0, .ref (A 0)), (1, .int (Int32.ofNat i))]) (st' := [.ref (A 0)]) rfl ?_
  refine At.gf rfl (by decide) hH2 rfl ?_
  refine At.ic1 (tgt := 81) rfl rfl (fun _ => ?_) (fun h => absurd (h.symm.trans (decide_eq_true hr1)) (by decide))
  refine At.go (q := xm253) rfl 1 (pc' := 82) (L' := [(3, .int (Int32.ofNat ca1.length)), (2, .ref (A (20 + i))), (0, .ref (A 0)), (1, .int (Int32.ofNat i))]) (st' := [.ref (A (20 + i))]) rfl ?_
  refine At.clm (as := [.ref (A (20 + i))]) (rest := []) rfl (by decide) rfl (Nat.le_of_ble_eq_true rfl) (Nat.le_of_ble_eq_true rfl) (xrck_o (by decide) (by decide) tz_2 (by decide)) (Nat.le_of_ble_eq_true rfl) (m_stopBusy (ne (44 + i) (52 + i) (by omega) (by omega) (by omega)) tso_2 tO2 tsL_2 tcL_2 tz_2) (fun v9 g5 c5 s5 hv9 => ?_)
  obtain ⟨rfl, f5, u1, u2, u3, rfl, rfl, u4, u5⟩ := hv9
  have tso_3 := f5.ob tso_2 (by decide) (fun e => by have u := (how ((36 + i)) (by omega)).1; have e9 : A (36 + i) = A (20 + i) ∨ A (36 + i) = A (44 + i) ∨ A (36 + i) = A (52 + i) := e; rcases e9 with e9 | e9 | e9 <;> (rw [e9, (how _ (by omega)).1] at u; omega))
  have tx_3 := f5.2.2.1 _ _ tx_2 rfl (Or.inl (fun e => by have u := (how ((28 + i)) (by omega)).1; have e9 : A (28 + i) = A (20 + i) ∨ A (28 + i) = A (44 + i) ∨ A (28 + i) = A (52 + i) := e; rcases e9 with e9 | e9 | e9 <;> (rw [e9, (how _ (by omega)).1] at u; omega)))
  have tS3_3 := f5.ob tS3_2 (by decide) (fun e => by have u := (how (3) (by omega)).1; have e9 : A 3 = A (20 + i) ∨ A 3 = A (44 + i) ∨ A 3 = A (52 + i) := e; rcases e9 with e9 | e9 | e9 <;> (rw [e9, (how _ (by omega)).1] at u; omega))
  have tD2_3 := f5.ob tD2_2 (by decide) (fun e => by have u := (how (11) (by omega)).1; have e9 : A 11 = A (20 + i) ∨ A 11 = A (44 + i) ∨ A 11 = A (52 + i) := e; rcases e9 with e9 | e9 | e9 <;> (rw [e9, (how _ (by omega)).1] at u; omega))
  have tFL_3 := f5.ls (fun e => by have u := (how (9) (by omega)).1; have e9 : A 9 = A (20 + i) ∨ A 9 = A (44 + i) ∨ A 9 = A (52 + i) := e; rcases e9 with e9 | e9 | e9 <;> (rw [e9, (how _ (by omega)).1] at u; omega)) tO2 tFL_2
  have tFE_3 := tFE_2.fr f5
  have tEL_3 := f5.ls (fun e => by have u := (how (4) (by omega)).1; have e9 : A 4 = A (20 + i) ∨ A 4 = A (44 + i) ∨ A 4 = A (52 + i) := e; rcases e9 with e9 | e9 | e9 <;> (rw [e9, (how _ (by omega)).1] at u; omega)) tO2 tEL_2
  have tEE_3 := tEE_2.fr f5
  have tT_3 := f5.2.2.1 _ _ tT_2 rfl (Or.inl (fun e => by have u := (how (5) (by omega)).1; have e9 : A 5 = A (20 + i) ∨ A 5 = A (44 + i) ∨ A 5 = A (52 + i) := e; rcases e9 with e9 | e9 | e9 <;> (rw [e9, (how _ (by omega)).1] at u; omega)))
  have c9_3 := (f5.cap (fun e => by have u := (how (9) (by omega)).1; have e9 : A 9 = A (20 + i) ∨ A 9 = A (44 + i) ∨ A 9 = A (52 + i) := e; rcases e9 with e9 | e9 | e9 <;> (rw [e9, (how _ (by omega)).1] at u; omega)) tO2 tFL_2).trans c9_2
  have c4_3 := (f5.cap (fun e => by have u := (how (4) (by omega)).1; have e9 : A 4 = A (20 + i) ∨ A 4 = A (44 + i) ∨ A 4 = A (52 + i) := e; rcases e9 with e9 | e9 | e9 <;> (rw [e9, (how _ (by omega)).1] at u; omega)) tO2 tEL_2).trans c4_2
  have tC_3 := f5.ob tC_2 (by decide) (fun e => by have u := (how (7) (by omega)).1; have e9 : A 7 = A (20 + i) ∨ A 7 = A (44 + i) ∨ A 7 = A (52 + i) := e; rcases e9 with e9 | e9 | e9 <;> (rw [e9, (how _ (by omega)).1] at u; omega))
  have tdL_3 := f5.ls (fun e => by have u := (how (15) (by omega)).1; have e9 : A 15 = A (20 + i) ∨ A 15 = A (44 + i) ∨ A 15 = A (52 + i) := e; rcases e9 with e9 | e9 | e9 <;> (rw [e9, (how _ (by omega)).1] at u; omega)) tO2 tdL_2
  have tdE_3 := tdE_2.fr f5
  have tta_3 := f5.ls (fun e => by have u := (how (12) (by omega)).1; have e9 : A 12 = A (20 + i) ∨ A 12 = A (44 + i) ∨ A 12 = A (52 + i) := e; rcases e9 with e9 | e9 | e9 <;> (rw [e9, (how _ (by omega)).1] at u; omega)) tO2 tta_2
  have ttaE_3 := ttaE_2.fr f5
  have tmm_3 := f5.ls (fun e => by have u := (how (13) (by omega)).1; have e9 : A 13 = A (20 + i) ∨ A 13 = A (44 + i) ∨ A 13 = A (52 + i) := e; rcases e9 with e9 | e9 | e9 <;> (rw [e9, (how _ (by omega)).1] at u; omega)) tO2 tmm_2
  have tmmE_3 := tmmE_2.fr f5
  have q15_3 := (f5.cap (fun e => by have u := (how (15) (by omega)).1; have e9 : A 15 = A (20 + i) ∨ A 15 = A (44 + i) ∨ A 15 = A (52 + i) := e; rcases e9 with e9 | e9 | e9 <;> (rw [e9, (how _ (by omega)).1] at u; omega)) tO2 tdL_2).trans q15_2
  have q12_3 := (f5.cap (fun e => by have u := (how (12) (by omega)).1; have e9 : A 12 = A (20 + i) ∨ A 12 = A (44 + i) ∨ A 12 = A (52 + i) := e; rcases e9 with e9 | e9 | e9 <;> (rw [e9, (how _ (by omega)).1] at u; omega)) tO2 tta_2).trans q12_2
  have q13_3 := (f5.cap (fun e => by have u := (how (13) (by omega)).1; have e9 : A 13 = A (20 + i) ∨ A 13 = A (44 + i) ∨ A 13 = A (52 + i) := e; rcases e9 with e9 | e9 | e9 <;> (rw [e9, (how _ (by omega)).1] at u; omega)) tO2 tmm_2).trans q13_2
  have tH_3 := f5.ob hH2 (by decide) (fun e => by have u := (how (0) (by omega)).1; have e9 : A 0 = A (20 + i) ∨ A 0 = A (44 + i) ∨ A 0 = A (52 + i) := e; rcases e9 with e9 | e9 | e9 <;> (rw [e9, (how _ (by omega)).1] at u; omega))
  have tO3 := f5.2.1 tO2
  have fZ3 : FrX (fun a => Z (ow a)) g2 g5 := f5.mono (fun x _ e => by
    have e9 : x = A (20 + i) ∨ x = A (44 + i) ∨ x = A (52 + i) := e
    show Z (ow x)
    rcases e9 with e9 | e9 | e9
    · rw [e9, (how _ (by omega)).1]; exact hzi _ (by omega)
    · rw [e9, (how _ (by omega)).1]; exact hzi _ (by omega)
    · rw [e9, (how _ (by omega)).1]; exact hzi _ (by omega))
  have FT3 := FrX.tr FT2 fZ3 (fun x hx => Or.inl hx)
  rw [hln] at u1
  have htl : ln * 4 + 1 < M.2.2.2.2.1.length := by omega
  have htv : M.2.2.2.2.1[ln * 4 + 1]? = some ((M.2.2.2.2.1[ln * 4 + 1]?).getD 0) := by rw [List.getElem?_eq_getElem htl]; rfl
  refine At.go (q := xm253) rfl 3 (pc' := 88) (L' := [(3, .int (Int32.ofNat ca1.length)), (2, .ref (A (20 + i))), (0, .ref (A 0)), (1, .int (Int32.ofNat i))]) (st' := [.ref (A 0), .ref (A (20 + i)), .ref (A 0)]) rfl ?_
  refine At.gf rfl (by decide) tH_3 rfl ?_
  refine At.ic1 (tgt := 99) rfl rfl (fun _ => ?_) (fun h => absurd (h.symm.trans (decide_eq_true hr1)) (by decide))
  refine At.go (q := xm253) rfl 1 (pc' := 101) (L' := [(3, .int (Int32.ofNat ca1.length)), (2, .ref (A (20 + i))), (0, .ref (A 0)), (1, .int (Int32.ofNat i))]) (st' := [.int 114, .ref (A (20 + i)), .ref (A 0)]) rfl ?_
  refine At.clm (as := [.ref (A 0), .ref (A (20 + i)), .int 114]) (rest := []) rfl (by decide) rfl (Nat.le_of_ble_eq_true rfl) (Nat.le_of_ble_eq_true rfl) (xrck_o (by decide) (by decide) tH_3 (by decide)) (Nat.le_of_ble_eq_true rfl) (m_count1 tH_3 rfl rfl u1 tT_3 (by omega) htv (m_tal1 hl64) hr1 (by rcases endR_c M i with e | e | e | e | e <;> rw [e] <;> decide)) (fun v9 g6 c6 s6 hv9 => ?_)
  obtain ⟨rfl, f6, w1, w2, rfl, rfl⟩ := hv9
  have tso_4 := f6.ob tso_3 (by decide) (fun e => by have u := (how ((36 + i)) (by omega)).1; have e9 : A (36 + i) = A (20 + i) ∨ A (36 + i) = A 5 := e; rcases e9 with e9 | e9 <;> (rw [e9, (how _ (by omega)).1] at u; omega))
  have tx_4 := f6.2.2.1 _ _ tx_3 rfl (Or.inl (fun e => by have u := (how ((28 + i)) (by omega)).1; have e9 : A (28 + i) = A (20 + i) ∨ A (28 + i) = A 5 := e; rcases e9 with e9 | e9 <;> (rw [e9, (how _ (by omega)).1] at u; omega)))
  have tS3_4 := f6.ob tS3_3 (by decide) (fun e => by have u := (how (3) (by omega)).1; have e9 : A 3 = A (20 + i) ∨ A 3 = A 5 := e; rcases e9 with e9 | e9 <;> (rw [e9, (how _ (by omega)).1] at u; omega))
  have tD2_4 := f6.ob tD2_3 (by decide) (fun e => by have u := (how (11) (by omega)).1; have e9 : A 11 = A (20 + i) ∨ A 11 = A 5 := e; rcases e9 with e9 | e9 <;> (rw [e9, (how _ (by omega)).1] at u; omega))
  have tFL_4 := f6.ls (fun e => by have u := (how (9) (by omega)).1; have e9 : A 9 = A (20 + i) ∨ A 9 = A 5 := e; rcases e9 with e9 | e9 <;> (rw [e9, (how _ (by omega)).1] at u; omega)) tO3 tFL_3
  have tFE_4 := tFE_3.fr f6
  have tEL_4 := f6.ls (fun e => by have u := (how (4) (by omega)).1; have e9 : A 4 = A (20 + i) ∨ A 4 = A 5 := e; rcases e9 with e9 | e9 <;> (rw [e9, (how _ (by omega)).1] at u; omega)) tO3 tEL_3
  have tEE_4 := tEE_3.fr f6
  have c9_4 := (f6.cap (fun e => by have u := (how (9) (by omega)).1; have e9 : A 9 = A (20 + i) ∨ A 9 = A 5 := e; rcases e9 with e9 | e9 <;> (rw [e9, (how _ (by omega)).1] at u; omega)) tO3 tFL_3).trans c9_3
  have c4_4 := (f6.cap (fun e => by have u := (how (4) (by omega)).1; have e9 : A 4 = A (20 + i) ∨ A 4 = A 5 := e; rcases e9 with e9 | e9 <;> (rw [e9, (how _ (by omega)).1] at u; omega)) tO3 tEL_3).trans c4_3
  have tC_4 := f6.ob tC_3 (by decide) (fun e => by have u := (how (7) (by omega)).1; have e9 : A 7 = A (20 + i) ∨ A 7 = A 5 := e; rcases e9 with e9 | e9 <;> (rw [e9, (how _ (by omega)).1] at u; omega))
  have tdL_4 := f6.ls (fun e => by have u := (how (15) (by omega)).1; have e9 : A 15 = A (20 + i) ∨ A 15 = A 5 := e; rcases e9 with e9 | e9 <;> (rw [e9, (how _ (by omega)).1] at u; omega)) tO3 tdL_3
  have tdE_4 := tdE_3.fr f6
  have tta_4 := f6.ls (fun e => by have u := (how (12) (by omega)).1; have e9 : A 12 = A (20 + i) ∨ A 12 = A 5 := e; rcases e9 with e9 | e9 <;> (rw [e9, (how _ (by omega)).1] at u; omega)) tO3 tta_3
  have ttaE_4 := ttaE_3.fr f6
  have tmm_4 := f6.ls (fun e => by have u := (how (13) (by omega)).1; have e9 : A 13 = A (20 + i) ∨ A 13 = A 5 := e; rcases e9 with e9 | e9 <;> (rw [e9, (how _ (by omega)).1] at u; omega)) tO3 tmm_3
  have tmmE_4 := tmmE_3.fr f6
  have q15_4 := (f6.cap (fun e => by have u := (how (15) (by omega)).1; have e9 : A 15 = A (20 + i) ∨ A 15 = A 5 := e; rcases e9 with e9 | e9 <;> (rw [e9, (how _ (by omega)).1] at u; omega)) tO3 tdL_3).trans q15_3
  have q12_4 := (f6.cap (fun e => by have u := (how (12) (by omega)).1; have e9 : A 12 = A (20 + i) ∨ A 12 = A 5 := e; rcases e9 with e9 | e9 <;> (rw [e9, (how _ (by omega)).1] at u; omega)) tO3 tta_3).trans q12_3
  have q13_4 := (f6.cap (fun e => by have u := (how (13) (by omega)).1; have e9 : A 13 = A (20 + i) ∨ A 13 = A 5 := e; rcases e9 with e9 | e9 <;> (rw [e9, (how _ (by omega)).1] at u; omega)) tO3 tmm_3).trans q13_3
  have tH_4 := f6.ob tH_3 (by decide) (fun e => by have u := (how (0) (by omega)).1; have e9 : A 0 = A (20 + i) ∨ A 0 = A 5 := e; rcases e9 with e9 | e9 <;> (rw [e9, (how _ (by omega)).1] at u; omega))
  have tsL_4 := f6.ls (fun e => by have u := (how ((44 + i)) (by omega)).1; have e9 : A (44 + i) = A (20 + i) ∨ A (44 + i) = A 5 := e; rcases e9 with e9 | e9 <;> (rw [e9, (how _ (by omega)).1] at u; omega)) tO3 u2
  have tcL_4 := f6.ls (fun e => by have u := (how ((52 + i)) (by omega)).1; have e9 : A (52 + i) = A (20 + i) ∨ A (52 + i) = A 5 := e; rcases e9 with e9 | e9 <;> (rw [e9, (how _ (by omega)).1] at u; omega)) tO3 u3
  have c44b_4 := (f6.cap (fun e => by have u := (how ((44 + i)) (by omega)).1; have e9 : A (44 + i) = A (20 + i) ∨ A (44 + i) = A 5 := e; rcases e9 with e9 | e9 <;> (rw [e9, (how _ (by omega)).1] at u; omega)) tO3 u2).trans rfl
  have c52b_4 := (f6.cap (fun e => by have u := (how ((52 + i)) (by omega)).1; have e9 : A (52 + i) = A (20 + i) ∨ A (52 + i) = A 5 := e; rcases e9 with e9 | e9 <;> (rw [e9, (how _ (by omega)).1] at u; omega)) tO3 u3).trans rfl
  have tO4 := f6.2.1 tO3
  have fZ4 : FrX (fun a => Z (ow a)) g5 g6 := f6.mono (fun x _ e => by
    have e9 : x = A (20 + i) ∨ x = A 5 := e
    show Z (ow x)
    rcases e9 with e9 | e9
    · rw [e9, (how _ (by omega)).1]; exact hzi _ (by omega)
    · rw [e9, (how _ (by omega)).1]; exact hzi _ (by omega))
  have FT4 := FrX.tr FT3 fZ4 (fun x hx => Or.inl hx)
  refine At.go (q := xm253) rfl 1 (pc' := 105) (L' := [(3, .int (Int32.ofNat ca1.length)), (2, .ref (A (20 + i))), (0, .ref (A 0)), (1, .int (Int32.ofNat i))]) (st' := [.ref (A 0)]) rfl ?_
  refine At.gf rfl (by decide) tH_4 rfl ?_
  refine At.ic1 (tgt := 119) rfl rfl (fun h => absurd (h.symm.trans (decide_eq_false hr1)) (by decide)) (fun _ => ?_)
  have hc9 := hcap 9 (by decide)
  have hc4 := hcap 4 (by decide)
  have hc15 := hcap 15 (by decide)
  have hc12 := hcap 12 (by decide)
  have hc13 := hcap 13 (by decide)
  have hc44 := hcap (44 + i) ((by decide : ∀ i, i < 8 → 44 + i ∈ lsI) i hi)
  have hc52 := hcap (52 + i) ((by decide : ∀ i, i < 8 → 52 + i ∈ lsI) i hi)
  have hba := bringAll_len M.2.1 (M.2.2.2.1 i).2.2.2.1 (M.2.2.2.1 i).2.2.2.2.1
  have xq15 := q15_4
  have xq12 := q12_4
  have xq13 := q13_4
  have xc44b := c44b_4
  have xc52b := c52b_4
  have xc44 := c44_2
  have xc52 := c52_2
  have xc9 := c9_4
  have xc4 := c4_4
  have hR : HR g6 ow k A (mTally (mS M i (sGiv (sRea (M.2.2.2.1 i) (endR M i)))) (addT M.2.2.2.2.1 (ln * 4 + 1))) (endR M i) np nl := h.upd (Z := Z) FT4 (fun _ _ => rfl) (fun z => by have z9 := hz _ z; omega) (fun z => by have z9 := hz _ z; omega) (Or.inr tH_4) (Or.inl ⟨(fun z => by have z9 := hz _ z; omega), rfl⟩) (Or.inr ⟨_, tFL_4, tFE_4⟩) (Or.inr ⟨_, tEL_4, tEE_4⟩) (Or.inr ⟨w2, by show (addT M.2.2.2.2.1 _).length = 256; unfold addT; rw [List.length_set]; exact hT2⟩) (Or.inl (fun z => by have z9 := hz _ z; omega)) (Or.inr ⟨⟨_, _, _, tC_4⟩, tD2_4, clv, FT4.ob hC3 (by decide) (nz (how 14 (by decide)).1 (fun z => by have z9 := hz _ z; omega))⟩) (fun j hj => if e : j = 15 then Or.inr (by rw [e]; exact ⟨_, _, tdL_4, tdE_4⟩) else if e : j = 12 then Or.inr (by rw [e]; exact ⟨_, _, tta_4, ttaE_4⟩) else if e : j = 13 then Or.inr (by rw [e]; exact ⟨_, _, tmm_4, tmmE_4⟩) else Or.inl (fun z => by simp only [List.mem_cons, List.not_mem_nil, or_false] at hj; have z9 := hz _ z; omega)) (Or.inl ⟨(fun z => by have z9 := hz _ z; omega), (fun z => by have z9 := hz _ z; omega), (fun z => by have z9 := hz _ z; omega), (fun z => by have z9 := hz _ z; omega), rfl, rfl⟩) (Or.inl (fun j j1 j2 z => by have z9 := hz _ z; omega)) (fun j hj => if e : j = i then by subst e; exact Or.inr (by rw [show (mTally (mS M j (sGiv (sRea (M.2.2.2.1 j) (endR M j)))) (addT M.2.2.2.2.1 (ln * 4 + 1))).2.2.2.1 j = sGiv (sRea (M.2.2.2.1 j) (endR M j)) from if_pos rfl]; exact ⟨za, ab, (by rw [show (sGiv (sRea (M.2.2.2.1 j) (endR M j))).1 = Int32.ofNat ln from hln]; exact w1), tso_4, tx_4, a4, a5, FT4.2.2.1 _ _ a6 rfl (Or.inl (nz a12 (fun z => by have z9 := hz _ z; omega))), a7, a8, a9, a10, a11, a12, ⟨[], tsL_4, rfl, fun q a e h => by cases h⟩, ⟨[], tcL_4, rfl, fun q a e h => by cases h⟩⟩) else Or.inl ⟨(fun z => by have z9 := hz _ z; omega), (fun z => by have z9 := hz _ z; omega), (fun z => by have z9 := hz _ z; omega), (fun z => by have z9 := hz _ z; omega), (fun z => by have z9 := hz _ z; omega), (fun z => by have z9 := hz _ z; omega), mS_ne (M := M) e⟩) (Or.inl ⟨(fun z => by have z9 := hz _ z; omega), (fun z => by have z9 := hz _ z; omega), (fun z => by have z9 := hz _ z; omega), (fun z => by have z9 := hz _ z; omega), rfl⟩) (fun j hj => if e : j = 9 then Or.inr (by rw [e]; omega) else if e : j = 4 then Or.inr (by rw [e]; omega) else if e : j = 15 then Or.inr (by rw [e]; omega) else if e : j = 12 then Or.inr (by rw [e]; omega) else if e : j = 13 then Or.inr (by rw [e]; omega) else if e : j = 44 + i then Or.inr (by rw [e]; omega) else if e : j = 52 + i then Or.inr (by rw [e]; omega) else Or.inl (fun z => by have j9 := lsI_c j hj; have z9 := hz _ z; omega))
  have hst9 : HSt hp g6 ow k A (mTally (mS M i (sGiv (sRea (M.2.2.2.1 i) (endR M i)))) (addT M.2.2.2.2.1 (ln * 4 + 1))) (endR M i) np nl (0 + c1) (0 + s1) 0 0 := HSt.of h FT4 hzk hR [9, 4, 15, 12, 13, 44 + i, 52 + i] ((by decide : ∀ i, i < 8 → ([9, 4, 15, 12, 13, 44 + i, 52 + i] : List Nat).Sublist lsI) i hi) (fun j z hj => by have j9 := lsI_c j hj; have z9 := hz _ z; simp only [List.mem_cons, List.not_mem_nil, or_false]; omega) (by simp only [sumL, List.map_cons, List.map_nil, List.sum_cons, List.sum_nil]; omega) (by simp only [sumL, List.map_cons, List.map_nil, List.sum_cons, List.sum_nil]; omega)
  exact At.tw rfl (by decide) (Nat.le_of_ble_eq_true rfl) ⟨_, _, _, rfl, hst9.plus⟩
