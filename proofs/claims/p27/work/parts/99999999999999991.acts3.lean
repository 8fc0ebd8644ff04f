/-! the law's acts: a text is said and run (by c99999999999999991.py) -/
theorem sw_dR {a tv : Nat} {x : Int32} : ∀ h : Nat, 3 ≤ h → h < 12 → xps xm250 5 0 [(0, .ref a), (1, .int x), (2, .int (Int32.ofNat h)), (3, .ref tv)] [] = some (64, [(0, .ref a), (1, .int x), (2, .int (Int32.ofNat h)), (3, .ref tv)], [.ref tv, .int x, .ref a])
  | 0, h1, _ => by omega
  | 1, h1, _ => by omega
  | 2, h1, _ => by omega
  | 3, _, _ => rfl
  | 4, _, _ => rfl
  | 5, _, _ => rfl
  | 6, _, _ => rfl
  | 7, _, _ => rfl
  | 8, _, _ => rfl
  | 9, _, _ => rfl
  | 10, _, _ => rfl
  | 11, _, _ => rfl
  | n + 12, _, h2 => by omega
theorem a_txtR {S : List Int32} {k : Nat} {A : Nat → Nat} {M : HM} {rf : Int32} {i ln tv how : Nat} {cs : List Nat} {hp : List XC} {ow : Nat → Nat} {np nl : Nat} {P : RM → Prop} (h : HR hp ow k A M rf np nl) (hi : i < 8) (hk : k + 1000 ≤ 3000) (hT : hTn9 hp ow (.ref tv) cs) (hcs : ∀ c ∈ cs, 32 ≤ c ∧ c ≤ 126) (hl : cs.length < 120) (hrun : ∀ (g : List XC) (ow1 : Nat → Nat) (np1 nl1 : Nat), HR g ow1 k A (mS M i (tyF (sLen (M.2.2.2.1 i) 0) cs)) rf np1 nl1 → At S 12 40 0 [(0, .ref (A 0)), (1, .int (Int32.ofNat i))] [] g 0 0 (QR g ow1 k A np1 nl1 99 50000 P)) (hP : ∀ r, P r → Rsn i r) (h1 : 3 ≤ how) (h2 : how < 12) : Me S 14 250 [.ref (A 0), .int (Int32.ofNat i), .int (Int32.ofNat how), .ref tv] hp (fun v' hp' c s => ∃ r, P r ∧ v' = some (.long (tdV r).toInt64) ∧ HSt hp hp' ow k A r.2.2 r.2.1 np nl c s 99 50000) := by
  refine At.go (q := xm250) rfl 5 (pc' := 64) (L' := [(0, .ref (A 0)), (1, .int (Int32.ofNat i)), (2, .int (Int32.ofNat how)), (3, .ref tv)]) (st' := [.ref tv, .int (Int32.ofNat i), .ref (A 0)]) (sw_dR how h1 h2) ?_
  refine At.clm (as := [.ref (A 0), .int (Int32.ofNat i), .ref tv]) (rest := []) rfl (by decide) rfl (Nat.le_of_ble_eq_true rfl) (Nat.le_of_ble_eq_true rfl) rfl (Nat.le_of_ble_eq_true rfl) (m_doneR (ln := ln) (S := S) h hi hk hT hcs hl hrun hP) (fun v9 g c1 s1 hv9 => ?_)
  obtain ⟨r, e1, e2, e3⟩ := hv9
  rw [e2]
  refine At.go (q := xm250) rfl 1 (pc' := 68) (L' := [(0, .ref (A 0)), (1, .int (Int32.ofNat i)), (2, .int (Int32.ofNat how)), (3, .ref tv)]) (st' := [.long (tdV r).toInt64]) rfl ?_
  exact At.rt rfl rfl ⟨_, _, _, _, rfl, r, e1, rfl, by rw [Nat.zero_add, Nat.zero_add]; exact e3⟩
theorem sw_dK {a tv : Nat} {x : Int32} : ∀ h : Nat, 3 ≤ h → h < 12 → xps xm250 5 0 [(0, .ref a), (1, .int x), (2, .int (Int32.ofNat h)), (3, .retAddr tv)] [] = some (64, [(0, .ref a), (1, .int x), (2, .int (Int32.ofNat h)), (3, .retAddr tv)], [.retAddr tv, .int x, .ref a])
  | 0, h1, _ => by omega
  | 1, h1, _ => by omega
  | 2, h1, _ => by omega
  | 3, _, _ => rfl
  | 4, _, _ => rfl
  | 5, _, _ => rfl
  | 6, _, _ => rfl
  | 7, _, _ => rfl
  | 8, _, _ => rfl
  | 9, _, _ => rfl
  | 10, _, _ => rfl
  | 11, _, _ => rfl
  | n + 12, _, h2 => by omega
theorem a_txtK {S : List Int32} {k : Nat} {A : Nat → Nat} {M : HM} {rf : Int32} {i ln tv how : Nat} {cs : List Nat} {hp : List XC} {ow : Nat → Nat} {np nl : Nat} {P : RM → Prop} (h : HR hp ow k A M rf np nl) (hi : i < 8) (hk : k + 1000 ≤ 3000) (hT : hTn9 hp ow (.retAddr tv) cs) (hcs : ∀ c ∈ cs, 32 ≤ c ∧ c ≤ 126) (hl : cs.length < 120) (hrun : ∀ (g : List XC) (ow1 : Nat → Nat) (np1 nl1 : Nat), HR g ow1 k A (mS M i (tyF (sLen (M.2.2.2.1 i) 0) cs)) rf np1 nl1 → At S 12 40 0 [(0, .ref (A 0)), (1, .int (Int32.ofNat i))] [] g 0 0 (QR g ow1 k A np1 nl1 99 50000 P)) (hP : ∀ r, P r → Rsn i r) (h1 : 3 ≤ how) (h2 : how < 12) : Me S 14 250 [.ref (A 0), .int (Int32.ofNat i), .int (Int32.ofNat how), .retAddr tv] hp (fun v' hp' c s => ∃ r, P r ∧ v' = some (.long (tdV r).toInt64) ∧ HSt hp hp' ow k A r.2.2 r.2.1 np nl c s 99 50000) := by
  refine At.go (q := xm250) rfl 5 (pc' := 64) (L' := [(0, .ref (A 0)), (1, .int (Int32.ofNat i)), (2, .int (Int32.ofNat how)), (3, .retAddr tv)]) (st' := [.retAddr tv, .int (Int32.ofNat i), .ref (A 0)]) (sw_dK how h1 h2) ?_
  refine At.clm (as := [.ref (A 0), .int (Int32.ofNat i), .retAddr tv]) (rest := []) rfl (by decide) rfl (Nat.le_of_ble_eq_true rfl) (Nat.le_of_ble_eq_true rfl) rfl (Nat.le_of_ble_eq_true rfl) (m_doneK (ln := ln) (S := S) h hi hk hT hcs hl hrun hP) (fun v9 g c1 s1 hv9 => ?_)
  obtain ⟨r, e1, e2, e3⟩ := hv9
  rw [e2]
  refine At.go (q := xm250) rfl 1 (pc' := 68) (L' := [(0, .ref (A 0)), (1, .int (Int32.ofNat i)), (2, .int (Int32.ofNat how)), (3, .retAddr tv)]) (st' := [.long (tdV r).toInt64]) rfl ?_
  exact At.rt rfl rfl ⟨_, _, _, _, rfl, r, e1, rfl, by rw [Nat.zero_add, Nat.zero_add]; exact e3⟩
