/-! the house: small steps (written by wip/p27/c99999992.py) -/
def sLen (s : SM) (n : Nat) : SM := (s.1, s.2.1, s.2.2.1, s.2.2.2.1, s.2.2.2.2.1, s.2.2.2.2.2.1, s.2.2.2.2.2.2.1, n, s.2.2.2.2.2.2.2.2)
theorem h_erase {S : List Int32} {hp : List XC} {ow : Nat → Nat} {k : Nat} {A : Nat → Nat} {M : HM} {rf : Int32} {np nl : Nat} (h : HR hp ow k A M rf np nl) {i : Nat} (hi : i < 8) : Me S 1 29 [.ref (A 0), .int (Int32.ofNat i)] hp (fun v hp' c s => v = some (.int (Int32.ofNat (M.2.2.2.1 i).2.2.2.2.2.2.2.1)) ∧ HSt hp hp' ow k A (mS M i (sLen (M.2.2.2.1 i) 0)) rf np nl c s 0 0) := by
  obtain ⟨hO, how, h0, h1, h3, hD, hF, hE, hT, ⟨lv9, hG⟩, hC, hL9, hQ, hW, hS, hTq9, htd, hcap⟩ := id h
  obtain ⟨za, ab, a1, a2, a3, a4, a5, a6, a7, a8, a9, a10, a11, a12, a13, a14⟩ := hS i hi
  refine me_imp (m_herase h0 rfl h1 (by rw [List.length_map, List.length_range]; decide) (by rw [List.getElem?_map, List.getElem?_range hi]; rfl) a1) (fun v hp' c s hv => ?_)
  obtain ⟨v1, f, g1, rfl, rfl⟩ := hv
  obtain ⟨Z, hZ⟩ : ∃ Z : Nat → Prop, Z = fun n => n = k + (20 + i) := ⟨_, rfl⟩
  have hz : ∀ n, Z n → n = k + (20 + i) := fun n z9 => by rw [hZ] at z9; exact z9
  have hzi : ∀ n, (n = k + (20 + i)) → Z n := fun n z9 => by rw [hZ]; exact z9
  have hzk : ∀ n, Z n → k ≤ n ∧ n < k + 1000 := fun n z => by have z9 := hz n z; omega
  have f' : FrX (fun a => Z (ow a)) hp hp' := f.mono (fun x _ e => by
    have e9 : x = A (20 + i) := e
    show Z (ow x)
    rw [e9, (how _ (by omega)).1]; exact hzi _ (by omega))
  exact ⟨v1, HSt.of h f' hzk (h.upd (Z := Z) f' (fun _ _ => rfl) (fun z => by have z9 := hz _ z; omega) (fun z => by have z9 := hz _ z; omega) (Or.inl ⟨(fun z => by have z9 := hz _ z; omega), rfl, rfl⟩) (Or.inl ⟨(fun z => by have z9 := hz _ z; omega), rfl⟩) (Or.inl ⟨(fun z => by have z9 := hz _ z; omega), rfl⟩) (Or.inl ⟨(fun z => by have z9 := hz _ z; omega), rfl⟩) (Or.inl ⟨(fun z => by have z9 := hz _ z; omega), rfl⟩) (Or.inl (fun z => by have z9 := hz _ z; omega)) (Or.inl ⟨(fun z => by have z9 := hz _ z; omega), (fun z => by have z9 := hz _ z; omega), (fun z => by have z9 := hz _ z; omega)⟩) (fun j hj => Or.inl (fun z => by simp only [List.mem_cons, List.not_mem_nil, or_false] at hj; have z9 := hz _ z; omega)) (Or.inl ⟨(fun z => by have z9 := hz _ z; omega), (fun z => by have z9 := hz _ z; omega), (fun z => by have z9 := hz _ z; omega), (fun z => by have z9 := hz _ z; omega), rfl, rfl⟩) (Or.inl (fun j j1 j2 z => by have z9 := hz _ z; omega)) (fun j hj => if e : j = i then by subst e; exact Or.inr (by rw [mS_at]; exact ⟨za, ab, g1, f'.ob a2 (by decide) (nz (how _ (by omega)).1 (fun z => by have z9 := hz _ z; omega)), f'.2.2.1 _ _ a3 rfl (Or.inl (nz (how _ (by omega)).1 (fun z => by have z9 := hz _ z; omega))), a4, Nat.zero_le _, f'.2.2.1 _ _ a6 rfl (Or.inl (nz a12 (fun z => by have z9 := hz _ z; omega))), a7, a8, a9, a10, a11, a12, a13.fr f' hO (nz (how _ (by omega)).1 (fun z => by have z9 := hz _ z; omega)), a14.fr f' hO (nz (how _ (by omega)).1 (fun z => by have z9 := hz _ z; omega))⟩) else Or.inl ⟨(fun z => by have z9 := hz _ z; omega), (fun z => by have z9 := hz _ z; omega), (fun z => by have z9 := hz _ z; omega), (fun z => by have z9 := hz _ z; omega), (fun z => by have z9 := hz _ z; omega), (fun z => by have z9 := hz _ z; omega), mS_ne e⟩) (Or.inl ⟨(fun z => by have z9 := hz _ z; omega), (fun z => by have z9 := hz _ z; omega), (fun z => by have z9 := hz _ z; omega), (fun z => by have z9 := hz _ z; omega), rfl⟩) (fun j hj => Or.inl (fun z => by have j9 := lsI_c j hj; have z9 := hz _ z; omega))) [] (List.nil_sublist _) (fun j z hj => by have j9 := lsI_c j hj; have z9 := hz _ z; omega) (Nat.le_refl _) (Nat.le_refl _)⟩
theorem h_enter {S : List Int32} {hp : List XC} {ow : Nat → Nat} {k : Nat} {A : Nat → Nat} {M : HM} {rf : Int32} {np nl : Nat} (h : HR hp ow k A M rf np nl) {i : Nat} {lb : Int32} (hi : i < 8) (hlb : isLb lb = true) : Me S 4 19 [.ref (A 0), .int (Int32.ofNat i), .int lb] hp (fun v hp' c s => v = some (.int (M.2.2.2.1 i).1) ∧ HSt hp hp' ow k A (mS M i (lb, 0, false, [], [], (M.2.2.2.1 i).2.2.2.2.2.1, (0, 0, []), 0, (M.2.2.2.1 i).2.2.2.2.2.2.2.2)) rf np nl c s 0 0) := by
  obtain ⟨hO, how, h0, h1, h3, hD, hF, hE, hT, ⟨lv9, hG⟩, hC, hL9, hQ, hW, hS, hTq9, htd, hcap⟩ := id h
  obtain ⟨za, ab, a1, a2, a3, a4, a5, a6, a7, a8, a9, a10, a11, a12, a13, a14⟩ := hS i hi
  obtain ⟨as1, l1, l2⟩ := a13
  obtain ⟨as2, l3, l4⟩ := a14
  have hne : ¬ A (44 + i) = A (52 + i) := fun e => by have e1 := (how (44 + i) (by omega)).1; rw [e, (how (52 + i) (by omega)).1] at e1; omega
  refine me_imp (m_henter h0 rfl h1 (by rw [List.length_map, List.length_range]; decide) (by rw [List.getElem?_map, List.getElem?_range hi]; rfl) a1 hne a2 hO l1 l3 hlb) (fun v hp' c s hv => ?_)
  obtain ⟨v1, f, g1, g2, g3, rfl, rfl, g4, g5⟩ := hv
  obtain ⟨Z, hZ⟩ : ∃ Z : Nat → Prop, Z = fun n => n = k + (20 + i) ∨ n = k + (44 + i) ∨ n = k + (52 + i) := ⟨_, rfl⟩
  have hz : ∀ n, Z n → n = k + (20 + i) ∨ n = k + (44 + i) ∨ n = k + (52 + i) := fun n z9 => by rw [hZ] at z9; exact z9
  have hzi : ∀ n, (n = k + (20 + i) ∨ n = k + (44 + i) ∨ n = k + (52 + i)) → Z n := fun n z9 => by rw [hZ]; exact z9
  have hzk : ∀ n, Z n → k ≤ n ∧ n < k + 1000 := fun n z => by have z9 := hz n z; omega
  have f' : FrX (fun a => Z (ow a)) hp hp' := f.mono (fun x _ e => by
    have e9 : x = A (20 + i) ∨ x = A (44 + i) ∨ x = A (52 + i) := e
    show Z (ow x)
    rcases e9 with e9 | e9 | e9
    · rw [e9, (how _ (by omega)).1]; exact hzi _ (by omega)
    · rw [e9, (how _ (by omega)).1]; exact hzi _ (by omega)
    · rw [e9, (how _ (by omega)).1]; exact hzi _ (by omega))
  have hsl : ([44 + i, 52 + i] : List Nat).Sublist lsI := (by decide : ∀ i, i < 8 → ([44 + i, 52 + i] : List Nat).Sublist lsI) i hi
  exact ⟨v1, HSt.of h f' hzk (h.upd (Z := Z) f' (fun _ _ => rfl) (fun z => by have z9 := hz _ z; omega) (fun z => by have z9 := hz _ z; omega) (Or.inl ⟨(fun z => by have z9 := hz _ z; omega), rfl, rfl⟩) (Or.inl ⟨(fun z => by have z9 := hz _ z; omega), rfl⟩) (Or.inl ⟨(fun z => by have z9 := hz _ z; omega), rfl⟩) (Or.inl ⟨(fun z => by have z9 := hz _ z; omega), rfl⟩) (Or.inl ⟨(fun z => by have z9 := hz _ z; omega), rfl⟩) (Or.inl (fun z => by have z9 := hz _ z; omega)) (Or.inl ⟨(fun z => by have z9 := hz _ z; omega), (fun z => by have z9 := hz _ z; omega), (fun z => by have z9 := hz _ z; omega)⟩) (fun j hj => Or.inl (fun z => by simp only [List.mem_cons, List.not_mem_nil, or_false] at hj; have z9 := hz _ z; omega)) (Or.inl ⟨(fun z => by have z9 := hz _ z; omega), (fun z => by have z9 := hz _ z; omega), (fun z => by have z9 := hz _ z; omega), (fun z => by have z9 := hz _ z; omega), rfl, rfl⟩) (Or.inl (fun j j1 j2 z => by have z9 := hz _ z; omega)) (fun j hj => if e : j = i then by subst e; exact Or.inr (by rw [mS_at]; exact ⟨za, ab, g1, f'.ob a2 (by decide) (nz (how _ (by omega)).1 (fun z => by have z9 := hz _ z; omega)), f'.2.2.1 _ _ a3 rfl (Or.inl (nz (how _ (by omega)).1 (fun z => by have z9 := hz _ z; omega))), a4, Nat.zero_le _, f'.2.2.1 _ _ a6 rfl (Or.inl (nz a12 (fun z => by have z9 := hz _ z; omega))), a7, List.take_zero, Nat.zero_le _, Nat.zero_le _, Nat.zero_le _, a12, ⟨[], g2, rfl, fun j a e h => by cases h⟩, ⟨[], g3, rfl, fun j a e h => by cases h⟩⟩) else Or.inl ⟨(fun z => by have z9 := hz _ z; omega), (fun z => by have z9 := hz _ z; omega), (fun z => by have z9 := hz _ z; omega), (fun z => by have z9 := hz _ z; omega), (fun z => by have z9 := hz _ z; omega), (fun z => by have z9 := hz _ z; omega), mS_ne e⟩) (Or.inl ⟨(fun z => by have z9 := hz _ z; omega), (fun z => by have z9 := hz _ z; omega), (fun z => by have z9 := hz _ z; omega), (fun z => by have z9 := hz _ z; omega), rfl⟩) (fun j hj => if e : j = 44 + i then Or.inr (by rw [e, g4, ← e]; exact hcap j hj) else if e' : j = 52 + i then Or.inr (by rw [e', g5, ← e']; exact hcap j hj) else Or.inl (fun z => by have j9 := lsI_c j hj; have z9 := hz _ z; omega))) [44 + i, 52 + i] hsl (fun j z hj => by have j9 := lsI_c j hj; have z9 := hz _ z; simp only [List.mem_cons, List.not_mem_nil, or_false]; omega) (by simp only [sumL, List.map_cons, List.map_nil, List.sum_cons, List.sum_nil]; omega) (by simp only [sumL, List.map_cons, List.map_nil, List.sum_cons, List.sum_nil]; omega)⟩
theorem m_isTyped {S : List Int32} {hp : List XC} {x : Int32} (hlo : ¬ x < 32) (hhi : ¬ 126 < x) : Pu S 0 38 [.int x] hp (.int 1) := by
  refine At.go (q := xm38) rfl 2 (pc' := 3) (L' := [(0, .int x)]) (st' := [.int 32, .int x]) rfl ?_
  refine At.ic2 (tgt := 16) rfl rfl (fun h => absurd (h.symm.trans (decide_eq_false hlo)) (by decide)) (fun _ => ?_)
  refine At.go (q := xm38) rfl 2 (pc' := 9) (L' := [(0, .int x)]) (st' := [.int 126, .int x]) rfl ?_
  refine At.ic2 (tgt := 16) rfl rfl (fun h => absurd (h.symm.trans (decide_eq_false hhi)) (by decide)) (fun _ => ?_)
  refine At.go (q := xm38) rfl 2 (pc' := 17) (L' := [(0, .int x)]) (st' := [.int 1]) rfl ?_
  exact At.rt rfl rfl rfl
def sTyp (s : SM) (x : Int32) : SM := (s.1, s.2.1, s.2.2.1, s.2.2.2.1, s.2.2.2.2.1, s.2.2.2.2.2.1, s.2.2.2.2.2.2.1, s.2.2.2.2.2.2.2.1 + 1, s.2.2.2.2.2.2.2.2.set s.2.2.2.2.2.2.2.1 x)
theorem h_type {S : List Int32} {hp : List XC} {ow : Nat → Nat} {k : Nat} {A : Nat → Nat} {M : HM} {rf : Int32} {np nl : Nat} (h : HR hp ow k A M rf np nl) {i : Nat} {x : Int32} (hi : i < 8) (hlo : ¬ x < 32) (hhi : ¬ 126 < x) (hx : xfit (xTy 1) (.int x) = true) (hl : (M.2.2.2.1 i).2.2.2.2.2.2.2.1 < 120) : Me S 2 37 [.ref (A 0), .int (Int32.ofNat i), .int x] hp (fun v hp' c s => v = some (.int (Int32.ofNat ((M.2.2.2.1 i).2.2.2.2.2.2.2.1 + 1))) ∧ HSt hp hp' ow k A (mS M i (sTyp (M.2.2.2.1 i) x)) rf np nl c s 0 0) := by
  obtain ⟨hO, how, h0, h1, h3, hD, hF, hE, hT, ⟨lv9, hG⟩, hC, hL9, hQ, hW, hS, hTq9, htd, hcap⟩ := id h
  obtain ⟨za, ab, a1, a2, a3, a4, a5, a6, a7, a8, a9, a10, a11, a12, a13, a14⟩ := hS i hi
  refine At.go (q := xm37) rfl 2 (pc' := 2) (L' := [(0, .ref (A 0)), (1, .int (Int32.ofNat i)), (2, .int x)]) (st' := [.int (Int32.ofNat i), .ref (A 0)]) rfl ?_
  refine At.clp (as := [.ref (A 0), .int (Int32.ofNat i)]) (rest := []) rfl (by decide) rfl (Nat.le_of_ble_eq_true rfl) (Nat.le_of_ble_eq_true rfl) (xrck_o (by decide) (by decide) h0 (by decide)) (Nat.le_of_ble_eq_true rfl) (m_sessionOf h0 rfl h1 (by rw [List.length_map, List.length_range]; decide) (by rw [List.getElem?_map, List.getElem?_range hi]; rfl)) ?_
  refine At.go (q := xm37) rfl 2 (pc' := 7) (L' := [(3, .ref (A (20 + i))), (0, .ref (A 0)), (1, .int (Int32.ofNat i)), (2, .int x)]) (st' := [.int x]) rfl ?_
  refine At.clp (as := [.int x]) (rest := []) rfl (by decide) rfl (Nat.le_of_ble_eq_true rfl) (Nat.le_of_ble_eq_true rfl) rfl (Nat.le_of_ble_eq_true rfl) (m_isTyped hlo hhi) ?_
  refine At.go (q := xm37) rfl 2 (pc' := 22) (L' := [(3, .ref (A (20 + i))), (0, .ref (A 0)), (1, .int (Int32.ofNat i)), (2, .int x)]) (st' := [.ref (A (20 + i))]) rfl ?_
  refine At.gf rfl (by decide) a1 rfl ?_
  refine At.go (q := xm37) rfl 1 (pc' := 27) (L' := [(3, .ref (A (20 + i))), (0, .ref (A 0)), (1, .int (Int32.ofNat i)), (2, .int x)]) (st' := [.int 120, .int (Int32.ofNat (M.2.2.2.1 i).2.2.2.2.2.2.2.1)]) rfl ?_
  refine At.ic2 (tgt := 38) rfl rfl (fun _ => ?_) (fun h => absurd (h.symm.trans (decide_eq_true ((iN_lt (a := (M.2.2.2.1 i).2.2.2.2.2.2.2.1) (b := 120) (by omega) (by omega)).mpr hl))) (by decide))
  refine At.go (q := xm37) rfl 2 (pc' := 40) (L' := [(3, .ref (A (20 + i))), (0, .ref (A 0)), (1, .int (Int32.ofNat i)), (2, .int x)]) (st' := [.int x, .ref (A (20 + i))]) rfl ?_
  refine At.clm (as := [.ref (A (20 + i)), .int x]) (rest := []) rfl (by decide) rfl (Nat.le_of_ble_eq_true rfl) (Nat.le_of_ble_eq_true rfl) (xrck_o (by decide) (by decide) a1 (by decide)) (Nat.le_of_ble_eq_true rfl) (m_sadd a1 a3 (by rw [List.length_map]; omega) (by rw [List.length_map]; omega)) (fun v9 hp' c9 s9 hv9 => ?_)
  obtain ⟨rfl, f, g1, g2, rfl, rfl⟩ := hv9
  refine At.go (q := xm37) rfl 1 (pc' := 44) (L' := [(3, .ref (A (20 + i))), (0, .ref (A 0)), (1, .int (Int32.ofNat i)), (2, .int x)]) (st' := [.ref (A (20 + i))]) rfl ?_
  refine At.gf rfl (by decide) g1 rfl ?_
  obtain ⟨Z, hZ⟩ : ∃ Z : Nat → Prop, Z = fun n => n = k + (20 + i) ∨ n = k + (28 + i) := ⟨_, rfl⟩
  have hz : ∀ n, Z n → n = k + (20 + i) ∨ n = k + (28 + i) := fun n z9 => by rw [hZ] at z9; exact z9
  have hzi : ∀ n, (n = k + (20 + i) ∨ n = k + (28 + i)) → Z n := fun n z9 => by rw [hZ]; exact z9
  have hzk : ∀ n, Z n → k ≤ n ∧ n < k + 1000 := fun n z => by have z9 := hz n z; omega
  have f' : FrX (fun a => Z (ow a)) hp hp' := f.mono (fun x _ e => by
    have e9 : x = A (20 + i) ∨ x = A (28 + i) := e
    show Z (ow x)
    rcases e9 with e9 | e9
    · rw [e9, (how _ (by omega)).1]; exact hzi _ (by omega)
    · rw [e9, (how _ (by omega)).1]; exact hzi _ (by omega))
  rw [wnar hx, ← List.map_set] at g2
  exact At.rt rfl (xret_i rfl) ⟨_, _, _, _, rfl, rfl, HSt.of h f' hzk (h.upd (Z := Z) f' (fun _ _ => rfl) (fun z => by have z9 := hz _ z; omega) (fun z => by have z9 := hz _ z; omega) (Or.inl ⟨(fun z => by have z9 := hz _ z; omega), rfl, rfl⟩) (Or.inl ⟨(fun z => by have z9 := hz _ z; omega), rfl⟩) (Or.inl ⟨(fun z => by have z9 := hz _ z; omega), rfl⟩) (Or.inl ⟨(fun z => by have z9 := hz _ z; omega), rfl⟩) (Or.inl ⟨(fun z => by have z9 := hz _ z; omega), rfl⟩) (Or.inl (fun z => by have z9 := hz _ z; omega)) (Or.inl ⟨(fun z => by have z9 := hz _ z; omega), (fun z => by have z9 := hz _ z; omega), (fun z => by have z9 := hz _ z; omega)⟩) (fun j hj => Or.inl (fun z => by simp only [List.mem_cons, List.not_mem_nil, or_false] at hj; have z9 := hz _ z; omega)) (Or.inl ⟨(fun z => by have z9 := hz _ z; omega), (fun z => by have z9 := hz _ z; omega), (fun z => by have z9 := hz _ z; omega), (fun z => by have z9 := hz _ z; omega), rfl, rfl⟩) (Or.inl (fun j j1 j2 z => by have z9 := hz _ z; omega)) (fun j hj => if e : j = i then by subst e; exact Or.inr (by rw [mS_at]; exact ⟨za, ab, g1, f'.ob a2 (by decide) (nz (how _ (by omega)).1 (fun z => by have z9 := hz _ z; omega)), g2, by rw [show (sTyp (M.2.2.2.1 j) x).2.2.2.2.2.2.2.2 = (M.2.2.2.1 j).2.2.2.2.2.2.2.2.set (M.2.2.2.1 j).2.2.2.2.2.2.2.1 x from rfl, List.length_set]; exact a4, hl, f'.2.2.1 _ _ a6 rfl (Or.inl (nz a12 (fun z => by have z9 := hz _ z; omega))), a7, a8, a9, a10, a11, a12, a13.fr f' hO (nz (how _ (by omega)).1 (fun z => by have z9 := hz _ z; omega)), a14.fr f' hO (nz (how _ (by omega)).1 (fun z => by have z9 := hz _ z; omega))⟩) else Or.inl ⟨(fun z => by have z9 := hz _ z; omega), (fun z => by have z9 := hz _ z; omega), (fun z => by have z9 := hz _ z; omega), (fun z => by have z9 := hz _ z; omega), (fun z => by have z9 := hz _ z; omega), (fun z => by have z9 := hz _ z; omega), mS_ne e⟩) (Or.inl ⟨(fun z => by have z9 := hz _ z; omega), (fun z => by have z9 := hz _ z; omega), (fun z => by have z9 := hz _ z; omega), (fun z => by have z9 := hz _ z; omega), rfl⟩) (fun j hj => Or.inl (fun z => by have j9 := lsI_c j hj; have z9 := hz _ z; omega))) [] (List.nil_sublist _) (fun j z hj => by have j9 := lsI_c j hj; have z9 := hz _ z; omega) (Nat.le_refl _) (Nat.le_refl _)⟩
def vwE (M : HM) (i : Nat) : List En := if (M.2.2.2.1 i).2.2.1 = true then (M.2.2.2.1 i).2.2.2.1 else M.2.1
def vwO (M : HM) (i : Nat) : Nat := if (M.2.2.2.1 i).2.2.1 = true then 36 + i else 3
def vwL (M : HM) (i : Nat) : Nat := if (M.2.2.2.1 i).2.2.1 = true then 44 + i else 9
theorem HR.view {hp : List XC} {ow : Nat → Nat} {k : Nat} {A : Nat → Nat} {M : HM} {rf : Int32} {np nl : Nat} (h : HR hp ow k A M rf np nl) {i : Nat} (hi : i < 8) : hp[A (vwO M i)]? = some (.inr (10, [.ref (A (vwL M i))])) ∧ hSh hp (A (vwL M i)) (vwE M i) := by
  obtain ⟨hO, how, h0, h1, h3, hD, hF, hE, hT, ⟨lv9, hG⟩, hC, hL9, hQ, hW, hS, hTq9, htd, hcap⟩ := id h
  obtain ⟨za, ab, a1, a2, a3, a4, a5, a6, a7, a8, a9, a10, a11, a12, a13, a14⟩ := hS i hi
  unfold vwO vwL vwE
  cases (M.2.2.2.1 i).2.2.1 with
  | true => rw [if_pos rfl, if_pos rfl, if_pos rfl]; exact ⟨a2, a13⟩
  | false => rw [if_neg (by decide), if_neg (by decide), if_neg (by decide)]; exact ⟨h3, hF⟩
theorem vwL_c {M : HM} {i : Nat} (hi : i < 8) : vwL M i = 44 + i ∨ vwL M i = 9 := by
  unfold vwL
  split
  · exact Or.inl rfl
  · exact Or.inr rfl
theorem vwO_c {M : HM} {i : Nat} (hi : i < 8) : vwO M i = 36 + i ∨ vwO M i = 3 := by
  unfold vwO
  split
  · exact Or.inl rfl
  · exact Or.inr rfl
theorem h_view {S : List Int32} {hp : List XC} {ow : Nat → Nat} {k : Nat} {A : Nat → Nat} {M : HM} {rf : Int32} {np nl : Nat} (h : HR hp ow k A M rf np nl) {i : Nat} (hi : i < 8) : Pu S 0 117 [.ref (A 0), .ref (A (20 + i))] hp (.ref (A (vwO M i))) := by
  obtain ⟨hO, how, h0, h1, h3, hD, hF, hE, hT, ⟨lv9, hG⟩, hC, hL9, hQ, hW, hS, hTq9, htd, hcap⟩ := id h
  obtain ⟨za, ab, a1, a2, a3, a4, a5, a6, a7, a8, a9, a10, a11, a12, a13, a14⟩ := hS i hi
  unfold vwO
  cases hb : (M.2.2.2.1 i).2.2.1 with
  | true =>
    rw [hb] at a1
    rw [if_pos rfl]
    refine At.go (q := xm117) rfl 1 (pc' := 1) (L' := [(0, .ref (A 0)), (1, .ref (A (20 + i)))]) (st' := [.ref (A (20 + i))]) rfl ?_
    refine At.gf rfl (by decide) a1 rfl ?_
    refine At.go (q := xm117) rfl 2 (pc' := 8) (L' := [(0, .ref (A 0)), (1, .ref (A (20 + i)))]) (st' := [.ref (A (20 + i))]) rfl ?_
    refine At.gf rfl (by decide) a1 rfl ?_
    refine At.go (q := xm117) rfl 1 (pc' := 18) (L' := [(0, .ref (A 0)), (1, .ref (A (20 + i)))]) (st' := [.ref (A (36 + i))]) rfl ?_
    exact At.rt rfl rfl rfl
  | false =>
    rw [hb] at a1
    rw [if_neg (by decide)]
    refine At.go (q := xm117) rfl 1 (pc' := 1) (L' := [(0, .ref (A 0)), (1, .ref (A (20 + i)))]) (st' := [.ref (A (20 + i))]) rfl ?_
    refine At.gf rfl (by decide) a1 rfl ?_
    refine At.go (q := xm117) rfl 2 (pc' := 15) (L' := [(0, .ref (A 0)), (1, .ref (A (20 + i)))]) (st' := [.ref (A 0)]) rfl ?_
    refine At.gf rfl (by decide) h0 rfl ?_
    exact At.rt rfl rfl rfl
/-- the tables by their objects -/
def TIq (ts : List TQ) (t : Nat) : Tb := match ts.find? (fun q => decide (q.1.1 = t)) with
  | some q => q.2.2.1
  | none => (0, 0, [], [], [])
/-- entries of tables that there are -/
def EnT (ts : List TQ) (es : List En) : Prop := ∀ e ∈ es, ∃ q ∈ ts, q.1.1 = e.2.2.2.2.2 ∧ q.2.1 = e.1 ∧ 1 ≤ q.2.2.1.2.2.1.length
theorem TIq_at {ts : List TQ} (hu : ∀ p ∈ ts, ∀ q ∈ ts, p.1.1 = q.1.1 ∨ p.1.2.1 = q.1.2.1 → p = q) {q : TQ} (hq : q ∈ ts) : TIq ts q.1.1 = q.2.2.1 := by
  unfold TIq
  cases h : ts.find? (fun p => decide (p.1.1 = q.1.1)) with
  | none => exact absurd (decide_eq_true (rfl : q.1.1 = q.1.1)) (List.find?_eq_none.mp h q hq)
  | some p =>
    have h1 := List.find?_some h
    have h2 := List.mem_of_find?_eq_some h
    rw [hu p h2 q hq (Or.inl (of_decide_eq_true h1))]
theorem HR.tab {hp : List XC} {ow : Nat → Nat} {k : Nat} {A : Nat → Nat} {M : HM} {rf : Int32} {np nl : Nat} (h : HR hp ow k A M rf np nl) {es : List En} (hEt : EnT M.2.2.2.2.2.2 es) : ∀ e ∈ es, hTb hp e.2.2.2.2.2 e.1 (TIq M.2.2.2.2.2.2 e.2.2.2.2.2) ∧ 1 ≤ (TIq M.2.2.2.2.2.2 e.2.2.2.2.2).2.2.1.length := fun e he => by
  obtain ⟨hO, how, h0, h1, h3, hD, hF, hE, hT, ⟨lv9, hG⟩, hC, hL9, hQ, hW, hS, hTq9, htd, hcap⟩ := id h
  obtain ⟨q, hq, e1, e2, e3⟩ := hEt e he
  rw [← e1, TIq_at htd hq, ← e2]
  exact ⟨(hTq9 q hq).1, e3⟩
theorem m_lookFor {S : List Int32} {hp : List XC} {ow : Nat → Nat} {k : Nat} {A : Nat → Nat} {M : HM} {rf : Int32} {np nl : Nat} (h : HR hp ow k A M rf np nl) {i : Nat} (hi : i < 8) (hsr : Srt (vwE M i)) (hEt : EnT M.2.2.2.2.2.2 (vwE M i)) (hlen : (vwE M i).length ≤ 3000) : Me S 8 116 [.ref (A 0), .ref (A (20 + i))] hp (fun v hp' c s => v = some (.int (Int32.ofNat (lookE (TIq M.2.2.2.2.2.2) (vwE M i) (M.2.2.2.1 i).1).length)) ∧ FrX (fun x => x = A 10 ∨ x = A 6) hp hp' ∧ hp'[A 6]? = some (.inr (11, [.ref (A 10), .int (M.2.2.2.1 i).1])) ∧ hSh hp' (A 10) (lookE (TIq M.2.2.2.2.2.2) (vwE M i) (M.2.2.2.1 i).1) ∧ c + capL hp (A 10) ≤ capL hp' (A 10) ∧ s + 4 * capL hp (A 10) ≤ 4 * capL hp' (A 10) ∧ capL hp' (A 10) ≤ max (capL hp (A 10)) (2 * (vwE M i).length + 10)) := by
  have hV := h_view (S := S) h hi
  obtain ⟨hvo, vas, hvl, hve⟩ := h.view hi
  have hT9 := h.tab hEt
  obtain ⟨hO, how, h0, h1, h3, hD, hF, hE, hT, ⟨lv9, hG⟩, hC, hL9, hQ, hW, hS, hTq9, htd, hcap⟩ := id h
  obtain ⟨za, ab, a1, a2, a3, a4, a5, a6, a7, a8, a9, a10, a11, a12, a13, a14⟩ := hS i hi
  obtain ⟨ges, gas, hgl, hge⟩ := hL9 10 (by decide)
  have hne : A 10 ≠ A (vwL M i) := fun e => by have e1 := (how 10 (by omega)).1; have c9 := vwL_c (M := M) hi; rw [e, (how (vwL M i) (by omega)).1] at e1; omega
  refine At.go (q := xm116) rfl 1 (pc' := 1) (L' := [(0, .ref (A 0)), (1, .ref (A (20 + i)))]) (st' := [.ref (A 0)]) rfl ?_
  refine At.gf rfl (by decide) h0 rfl ?_
  refine At.go (q := xm116) rfl 2 (pc' := 6) (L' := [(0, .ref (A 0)), (1, .ref (A (20 + i)))]) (st' := [.ref (A (20 + i)), .ref (A 0), .ref (A 6)]) rfl ?_
  refine At.clp (as := [.ref (A 0), .ref (A (20 + i))]) (rest := [.ref (A 6)]) rfl (by decide) rfl (Nat.le_of_ble_eq_true rfl) (Nat.le_of_ble_eq_true rfl) (xrck_o (by decide) (by decide) h0 (by decide)) (Nat.le_of_ble_eq_true rfl) (hV) ?_
  refine At.go (q := xm116) rfl 1 (pc' := 10) (L' := [(0, .ref (A 0)), (1, .ref (A (20 + i)))]) (st' := [.ref (A (20 + i)), .ref (A (vwO M i)), .ref (A 6)]) rfl ?_
  refine At.gf rfl (by decide) a1 rfl ?_
  refine At.clm (as := [.ref (A 6), .ref (A (vwO M i)), .int (M.2.2.2.1 i).1]) (rest := []) rfl (by decide) rfl (Nat.le_of_ble_eq_true rfl) (Nat.le_of_ble_eq_true rfl) (xrck_o (by decide) (by decide) hG (by decide)) (Nat.le_of_ble_eq_true rfl) (m_look hsr hne (by omega) hO hG hvo hgl hvl hve hT9) (fun v9 hp' c9 s9 hv9 => ?_)
  obtain ⟨rfl, f, g1, ⟨las, g2, g3⟩, g4, g5, g6⟩ := hv9
  have h0' := f.ob h0 (by decide) (fun e => by rcases e with e | e <;> (have e1 := (how 0 (by omega)).1; rw [e, (how _ (by omega)).1] at e1; omega))
  have hll := g3.1
  refine At.go (q := xm116) rfl 1 (pc' := 17) (L' := [(0, .ref (A 0)), (1, .ref (A (20 + i)))]) (st' := [.ref (A 0)]) rfl ?_
  refine At.gf rfl (by decide) h0' rfl ?_
  refine At.clp (as := [.ref (A 6)]) (rest := []) rfl (by decide) rfl (Nat.le_of_ble_eq_true rfl) (Nat.le_of_ble_eq_true rfl) (xrck_o (by decide) (by decide) g1 (by decide)) (Nat.le_of_ble_eq_true rfl) (m_sgsize g1 g2) ?_
  exact At.rt rfl (xret_i rfl) ⟨_, _, _, _, rfl, by rw [hll], f, g1, ⟨las, g2, g3⟩, by omega, by omega, g6⟩
/-- after a look nothing else has changed -/
theorem HR.looked {hp : List XC} {ow : Nat → Nat} {k : Nat} {A : Nat → Nat} {M : HM} {rf : Int32} {np nl : Nat} {h' : List XC} (h : HR hp ow k A M rf np nl) {lb : Int32} {ls : List En} {c s n : Nat} (f : FrX (fun x => x = A 10 ∨ x = A 6) hp h') (g1 : h'[A 6]? = some (.inr (11, [.ref (A 10), .int lb]))) (g2 : hSh h' (A 10) ls) (g3 : c + capL hp (A 10) ≤ capL h' (A 10)) (g4 : s + 4 * capL hp (A 10) ≤ 4 * capL h' (A 10)) (g5 : capL h' (A 10) ≤ max (capL hp (A 10)) (2 * n + 10)) (hn : n ≤ 3000) : HR h' ow k A M rf np nl ∧ FrX (fun a => k ≤ ow a ∧ ow a < k + 1000) hp h' ∧ c + capsH hp A ≤ capsH h' A ∧ s + 4 * capsH hp A ≤ 4 * capsH h' A := by
  obtain ⟨hO, how, h0, h1, h3, hD, hF, hE, hT, ⟨lv9, hG⟩, hC, hL9, hQ, hW, hS, hTq9, htd, hcap⟩ := id h
  obtain ⟨Z, hZ⟩ : ∃ Z : Nat → Prop, Z = fun n => n = k + 10 ∨ n = k + 6 := ⟨_, rfl⟩
  have hz : ∀ n, Z n → n = k + 10 ∨ n = k + 6 := fun n z9 => by rw [hZ] at z9; exact z9
  have hzi : ∀ n, (n = k + 10 ∨ n = k + 6) → Z n := fun n z9 => by rw [hZ]; exact z9
  have hzk : ∀ n, Z n → k ≤ n ∧ n < k + 1000 := fun n z => by have z9 := hz n z; omega
  have f' : FrX (fun a => Z (ow a)) hp h' := f.mono (fun x _ e => by
    have e9 : x = A 10 ∨ x = A 6 := e
    show Z (ow x)
    rcases e9 with e9 | e9
    · rw [e9, (how _ (by omega)).1]; exact hzi _ (by omega)
    · rw [e9, (how _ (by omega)).1]; exact hzi _ (by omega))
  have hc10 := hcap 10 (by decide)
  have hR : HR h' ow k A M rf np nl := h.upd (Z := Z) f' (fun _ _ => rfl) (fun z => by have z9 := hz _ z; omega) (fun z => by have z9 := hz _ z; omega) (Or.inl ⟨(fun z => by have z9 := hz _ z; omega), rfl, rfl⟩) (Or.inl ⟨(fun z => by have z9 := hz _ z; omega), rfl⟩) (Or.inl ⟨(fun z => by have z9 := hz _ z; omega), rfl⟩) (Or.inl ⟨(fun z => by have z9 := hz _ z; omega), rfl⟩) (Or.inl ⟨(fun z => by have z9 := hz _ z; omega), rfl⟩) (Or.inr ⟨_, g1⟩) (Or.inl ⟨(fun z => by have z9 := hz _ z; omega), (fun z => by have z9 := hz _ z; omega), (fun z => by have z9 := hz _ z; omega)⟩) (fun j hj => if e : j = 10 then Or.inr (by rw [e]; exact ⟨_, g2⟩) else Or.inl (fun z => by simp only [List.mem_cons, List.not_mem_nil, or_false] at hj; have z9 := hz _ z; omega)) (Or.inl ⟨(fun z => by have z9 := hz _ z; omega), (fun z => by have z9 := hz _ z; omega), (fun z => by have z9 := hz _ z; omega), (fun z => by have z9 := hz _ z; omega), rfl, rfl⟩) (Or.inl (fun j j1 j2 z => by have z9 := hz _ z; omega)) (fun j hj => Or.inl ⟨(fun z => by have z9 := hz _ z; omega), (fun z => by have z9 := hz _ z; omega), (fun z => by have z9 := hz _ z; omega), (fun z => by have z9 := hz _ z; omega), (fun z => by have z9 := hz _ z; omega), (fun z => by have z9 := hz _ z; omega), rfl⟩) (Or.inl ⟨(fun z => by have z9 := hz _ z; omega), (fun z => by have z9 := hz _ z; omega), (fun z => by have z9 := hz _ z; omega), (fun z => by have z9 := hz _ z; omega), rfl⟩) (fun j hj => if e : j = 10 then Or.inr (by rw [e]; omega) else Or.inl (fun z => by have j9 := lsI_c j hj; have z9 := hz _ z; omega))
  have e := h.caps f' [10] (by decide) (fun j z hj => by have j9 := lsI_c j hj; have z9 := hz _ z; simp only [List.mem_cons, List.not_mem_nil, or_false]; omega)
  simp only [sumL, List.map_cons, List.map_nil, List.sum_cons, List.sum_nil] at e
  exact ⟨hR, f'.mono (fun x _ hx => hzk _ hx), by omega, by omega⟩
theorem h_seen {S : List Int32} {hp : List XC} {ow : Nat → Nat} {k : Nat} {A : Nat → Nat} {M : HM} {rf : Int32} {np nl : Nat} (h : HR hp ow k A M rf np nl) {i : Nat} (hi : i < 8) (hsr : Srt (vwE M i)) (hEt : EnT M.2.2.2.2.2.2 (vwE M i)) (hlen : (vwE M i).length ≤ 3000) : Me S 9 258 [.ref (A 0), .int (Int32.ofNat i)] hp (fun v hp' c s => v = some (.int (Int32.ofNat (lookE (TIq M.2.2.2.2.2.2) (vwE M i) (M.2.2.2.1 i).1).length)) ∧ HSt hp hp' ow k A M rf np nl c s 0 0) := by
  obtain ⟨hO, how, h0, h1, h3, hD, hF, hE, hT, ⟨lv9, hG⟩, hC, hL9, hQ, hW, hS, hTq9, htd, hcap⟩ := id h
  refine At.go (q := xm258) rfl 3 (pc' := 3) (L' := [(0, .ref (A 0)), (1, .int (Int32.ofNat i))]) (st' := [.int (Int32.ofNat i), .ref (A 0), .ref (A 0)]) rfl ?_
  refine At.clp (as := [.ref (A 0), .int (Int32.ofNat i)]) (rest := [.ref (A 0)]) rfl (by decide) rfl (Nat.le_of_ble_eq_true rfl) (Nat.le_of_ble_eq_true rfl) (xrck_o (by decide) (by decide) h0 (by decide)) (Nat.le_of_ble_eq_true rfl) (m_sessionOf h0 rfl h1 (by rw [List.length_map, List.length_range]; decide) (by rw [List.getElem?_map, List.getElem?_range hi]; rfl)) ?_
  refine At.clm (as := [.ref (A 0), .ref (A (20 + i))]) (rest := []) rfl (by decide) rfl (Nat.le_of_ble_eq_true rfl) (Nat.le_of_ble_eq_true rfl) (xrck_o (by decide) (by decide) h0 (by decide)) (Nat.le_of_ble_eq_true rfl) (m_lookFor h hi hsr hEt hlen) (fun v9 hp' c9 s9 hv9 => ?_)
  obtain ⟨rfl, f, g1, g2, g4, g5, g6⟩ := hv9
  obtain ⟨r1, r2, r3, r4⟩ := h.looked f g1 g2 g4 g5 g6 hlen
  exact At.rt rfl (xret_i rfl) ⟨_, _, _, _, rfl, rfl, ow, np, nl, fun _ _ => rfl, r1, r2, by omega, by omega⟩
