/-! the law says a text and runs it; what it is told (by c99999999999999998.py) -/
/-- what a statement tells: a count, a fault, a refusal's reason -/
def tdV (r : RM) : Int32 := if r.2.1 = 0 then r.1 else -1000 - r.2.1
theorem m_doneR {S : List Int32} {k : Nat} {A : Nat → Nat} {M : HM} {rf : Int32} {i ln tv : Nat} {cs : List Nat} {hp : List XC} {ow : Nat → Nat} {np nl : Nat} {P : RM → Prop} (h : HR hp ow k A M rf np nl) (hi : i < 8) (hk : k + 1000 ≤ 3000) (hT : hTn9 hp ow (.ref tv) cs) (hcs : ∀ c ∈ cs, 32 ≤ c ∧ c ≤ 126) (hl : cs.length < 120) (hrun : ∀ (g : List XC) (ow1 : Nat → Nat) (np1 nl1 : Nat), HR g ow1 k A (mS M i (tyF (sLen (M.2.2.2.1 i) 0) cs)) rf np1 nl1 → At S 12 40 0 [(0, .ref (A 0)), (1, .int (Int32.ofNat i))] [] g 0 0 (QR g ow1 k A np1 nl1 99 50000 P)) (hP : ∀ r, P r → Rsn i r) : Me S 13 27 [.ref (A 0), .int (Int32.ofNat i), .ref tv] hp (fun v' hp' c s => ∃ r, P r ∧ v' = some (.int (tdV r)) ∧ HSt hp hp' ow k A r.2.2 r.2.1 np nl c s 99 50000) := by
  have h0 := h.2.2.1
  refine At.go (q := xm27) rfl 3 (pc' := 3) (L' := [(0, .ref (A 0)), (1, .int (Int32.ofNat i)), (2, .ref tv)]) (st' := [.ref tv, .int (Int32.ofNat i), .ref (A 0)]) rfl ?_
  refine At.clm (as := [.ref (A 0), .int (Int32.ofNat i), .ref tv]) (rest := []) rfl (by decide) rfl (Nat.le_of_ble_eq_true rfl) (Nat.le_of_ble_eq_true rfl) rfl (Nat.le_of_ble_eq_true rfl) (m_says (S := S) h hi hk hT hcs hl) (fun v9 h1 c1 s1 hv9 => ?_)
  obtain ⟨hv, ow1, np1, nl1, w1, hR1, f1, u1, u2⟩ := hv9
  rw [hv]
  have h01 := hR1.2.2.1
  refine At.go (q := xm27) rfl 2 (pc' := 8) (L' := [(0, .ref (A 0)), (1, .int (Int32.ofNat i)), (2, .ref tv)]) (st' := [.int (Int32.ofNat i), .ref (A 0)]) rfl ?_
  refine At.cl (as := [.ref (A 0), .int (Int32.ofNat i)]) (rest := []) rfl (by decide) rfl (Nat.le_of_ble_eq_true rfl) (Nat.le_of_ble_eq_true rfl) (xrck_o (by decide) (by decide) h01 (by decide)) (Nat.le_of_ble_eq_true rfl) (hrun h1 ow1 np1 nl1 hR1) (fun v2 h2 c2 s2 hq => ?_) (fun E h2 c2 s2 hq => ?_)
  · obtain ⟨r, hp', c, s, p1, p2, ⟨p3, p4⟩ | ⟨p3, p4⟩⟩ := hq
    · cases p4
      refine At.rt rfl (xret_i rfl) ⟨_, _, _, _, rfl, r, p1, ?_, ?_⟩
      · show some (Value.int r.1) = some (.int (tdV r))
        unfold tdV
        rw [if_pos p3]
      · rw [Nat.zero_add, Nat.zero_add]
        have e := HSt.tr (K1 := 0) (J1 := 0) w1 f1 u1 u2 p2
        rw [Nat.zero_add, Nat.zero_add] at e
        exact e
    · cases p4
  · obtain ⟨r, hp', c, s, p1, p2, ⟨p3, p4⟩ | ⟨p3, p4⟩⟩ := hq
    · cases p4
    · cases p4
      refine Or.inr ⟨(12, 3, 1), rfl, ?_⟩
      obtain ⟨q1, q2⟩ := hP r p1 p3
      obtain ⟨ow2, np2, nl2, w2, hR2, f2, u3, u4⟩ := id p2
      have h02 := hR2.2.2.1
      have hre := h_reason (S := S) hR2 hi (by rw [q1]; exact p3) (by rw [q1]; exact q2)
      rw [q1] at hre
      refine At.go (q := xm27) rfl 3 (pc' := 18) (L' := [(0, .ref (A 0)), (1, .int (Int32.ofNat i)), (2, .ref tv)]) (st' := [.int (Int32.ofNat i), .ref (A 0), .int (-1000)]) rfl ?_
      refine At.clp (as := [.ref (A 0), .int (Int32.ofNat i)]) (rest := [.int (-1000)]) rfl (by decide) rfl (Nat.le_of_ble_eq_true rfl) (Nat.le_of_ble_eq_true rfl) (xrck_o (by decide) (by decide) h02 (by decide)) (Nat.le_of_ble_eq_true rfl) hre ?_
      refine At.go (q := xm27) rfl 1 (pc' := 22) (L' := [(0, .ref (A 0)), (1, .int (Int32.ofNat i)), (2, .ref tv)]) (st' := [.int (-1000 - r.2.1)]) rfl ?_
      refine At.rt rfl (xret_i rfl) ⟨_, _, _, _, rfl, r, p1, ?_, ?_⟩
      · show some (Value.int (-1000 - r.2.1)) = some (.int (tdV r))
        unfold tdV
        rw [if_neg p3]
      · rw [Nat.zero_add, Nat.zero_add]
        have e := HSt.tr (K1 := 0) (J1 := 0) w1 f1 u1 u2 p2
        rw [Nat.zero_add, Nat.zero_add] at e
        exact e
theorem m_doneK {S : List Int32} {k : Nat} {A : Nat → Nat} {M : HM} {rf : Int32} {i ln tv : Nat} {cs : List Nat} {hp : List XC} {ow : Nat → Nat} {np nl : Nat} {P : RM → Prop} (h : HR hp ow k A M rf np nl) (hi : i < 8) (hk : k + 1000 ≤ 3000) (hT : hTn9 hp ow (.retAddr tv) cs) (hcs : ∀ c ∈ cs, 32 ≤ c ∧ c ≤ 126) (hl : cs.length < 120) (hrun : ∀ (g : List XC) (ow1 : Nat → Nat) (np1 nl1 : Nat), HR g ow1 k A (mS M i (tyF (sLen (M.2.2.2.1 i) 0) cs)) rf np1 nl1 → At S 12 40 0 [(0, .ref (A 0)), (1, .int (Int32.ofNat i))] [] g 0 0 (QR g ow1 k A np1 nl1 99 50000 P)) (hP : ∀ r, P r → Rsn i r) : Me S 13 27 [.ref (A 0), .int (Int32.ofNat i), .retAddr tv] hp (fun v' hp' c s => ∃ r, P r ∧ v' = some (.int (tdV r)) ∧ HSt hp hp' ow k A r.2.2 r.2.1 np nl c s 99 50000) := by
  have h0 := h.2.2.1
  refine At.go (q := xm27) rfl 3 (pc' := 3) (L' := [(0, .ref (A 0)), (1, .int (Int32.ofNat i)), (2, .retAddr tv)]) (st' := [.retAddr tv, .int (Int32.ofNat i), .ref (A 0)]) rfl ?_
  refine At.clm (as := [.ref (A 0), .int (Int32.ofNat i), .retAddr tv]) (rest := []) rfl (by decide) rfl (Nat.le_of_ble_eq_true rfl) (Nat.le_of_ble_eq_true rfl) rfl (Nat.le_of_ble_eq_true rfl) (m_says (S := S) h hi hk hT hcs hl) (fun v9 h1 c1 s1 hv9 => ?_)
  obtain ⟨hv, ow1, np1, nl1, w1, hR1, f1, u1, u2⟩ := hv9
  rw [hv]
  have h01 := hR1.2.2.1
  refine At.go (q := xm27) rfl 2 (pc' := 8) (L' := [(0, .ref (A 0)), (1, .int (Int32.ofNat i)), (2, .retAddr tv)]) (st' := [.int (Int32.ofNat i), .ref (A 0)]) rfl ?_
  refine At.cl (as := [.ref (A 0), .int (Int32.ofNat i)]) (rest := []) rfl (by decide) rfl (Nat.le_of_ble_eq_true rfl) (Nat.le_of_ble_eq_true rfl) (xrck_o (by decide) (by decide) h01 (by decide)) (Nat.le_of_ble_eq_true rfl) (hrun h1 ow1 np1 nl1 hR1) (fun v2 h2 c2 s2 hq => ?_) (fun E h2 c2 s2 hq => ?_)
  · obtain ⟨r, hp', c, s, p1, p2, ⟨p3, p4⟩ | ⟨p3, p4⟩⟩ := hq
    · cases p4
      refine At.rt rfl (xret_i rfl) ⟨_, _, _, _, rfl, r, p1, ?_, ?_⟩
      · show some (Value.int r.1) = some (.int (tdV r))
        unfold tdV
        rw [if_pos p3]
      · rw [Nat.zero_add, Nat.zero_add]
        have e := HSt.tr (K1 := 0) (J1 := 0) w1 f1 u1 u2 p2
        rw [Nat.zero_add, Nat.zero_add] at e
        exact e
    · cases p4
  · obtain ⟨r, hp', c, s, p1, p2, ⟨p3, p4⟩ | ⟨p3, p4⟩⟩ := hq
    · cases p4
    · cases p4
      refine Or.inr ⟨(12, 3, 1), rfl, ?_⟩
      obtain ⟨q1, q2⟩ := hP r p1 p3
      obtain ⟨ow2, np2, nl2, w2, hR2, f2, u3, u4⟩ := id p2
      have h02 := hR2.2.2.1
      have hre := h_reason (S := S) hR2 hi (by rw [q1]; exact p3) (by rw [q1]; exact q2)
      rw [q1] at hre
      refine At.go (q := xm27) rfl 3 (pc' := 18) (L' := [(0, .ref (A 0)), (1, .int (Int32.ofNat i)), (2, .retAddr tv)]) (st' := [.int (Int32.ofNat i), .ref (A 0), .int (-1000)]) rfl ?_
      refine At.clp (as := [.ref (A 0), .int (Int32.ofNat i)]) (rest := [.int (-1000)]) rfl (by decide) rfl (Nat.le_of_ble_eq_true rfl) (Nat.le_of_ble_eq_true rfl) (xrck_o (by decide) (by decide) h02 (by decide)) (Nat.le_of_ble_eq_true rfl) hre ?_
      refine At.go (q := xm27) rfl 1 (pc' := 22) (L' := [(0, .ref (A 0)), (1, .int (Int32.ofNat i)), (2, .retAddr tv)]) (st' := [.int (-1000 - r.2.1)]) rfl ?_
      refine At.rt rfl (xret_i rfl) ⟨_, _, _, _, rfl, r, p1, ?_, ?_⟩
      · show some (Value.int (-1000 - r.2.1)) = some (.int (tdV r))
        unfold tdV
        rw [if_neg p3]
      · rw [Nat.zero_add, Nat.zero_add]
        have e := HSt.tr (K1 := 0) (J1 := 0) w1 f1 u1 u2 p2
        rw [Nat.zero_add, Nat.zero_add] at e
        exact e
theorem m_done {S : List Int32} {k : Nat} {A : Nat → Nat} {M : HM} {rf : Int32} {i ln : Nat} {v : Value} {cs : List Nat} {hp : List XC} {ow : Nat → Nat} {np nl : Nat} {P : RM → Prop} (h : HR hp ow k A M rf np nl) (hi : i < 8) (hk : k + 1000 ≤ 3000) (hT : hTn9 hp ow v cs) (hcs : ∀ c ∈ cs, 32 ≤ c ∧ c ≤ 126) (hl : cs.length < 120) (hrun : ∀ (g : List XC) (ow1 : Nat → Nat) (np1 nl1 : Nat), HR g ow1 k A (mS M i (tyF (sLen (M.2.2.2.1 i) 0) cs)) rf np1 nl1 → At S 12 40 0 [(0, .ref (A 0)), (1, .int (Int32.ofNat i))] [] g 0 0 (QR g ow1 k A np1 nl1 99 50000 P)) (hP : ∀ r, P r → Rsn i r) : Me S 13 27 [.ref (A 0), .int (Int32.ofNat i), v] hp (fun v' hp' c s => ∃ r, P r ∧ v' = some (.int (tdV r)) ∧ HSt hp hp' ow k A r.2.2 r.2.1 np nl c s 99 50000) := by
  rcases hT.1.2.2 with ⟨a, va, r, e, -⟩ | ⟨a, vk, r, e, -⟩
  · subst e
    exact m_doneR (ln := ln) h hi hk hT hcs hl hrun hP
  · subst e
    exact m_doneK (ln := ln) h hi hk hT hcs hl hrun hP
