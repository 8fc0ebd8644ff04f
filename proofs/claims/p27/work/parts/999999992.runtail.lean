/-! the house: what is done is counted, and told (written by wip/p27/c999999992.py) -/
theorem m_ord5 {S : List Int32} {hp : List XC} : Pu S 0 54 [.retAddr 5] hp (.int 5) := by
  refine At.go (q := xm54) rfl 1 (pc' := 1) (L' := [(0, .retAddr 5)]) (st' := [.retAddr 5]) rfl ?_
  refine At.gk rfl (by decide) rfl rfl ?_
  exact At.rt rfl (xret_i rfl) rfl
theorem m_ord20 {S : List Int32} {hp : List XC} : Pu S 0 54 [.retAddr 20] hp (.int 20) := by
  refine At.go (q := xm54) rfl 1 (pc' := 1) (L' := [(0, .retAddr 20)]) (st' := [.retAddr 20]) rfl ?_
  refine At.gk rfl (by decide) rfl rfl ?_
  exact At.rt rfl (xret_i rfl) rfl
theorem m_ord21 {S : List Int32} {hp : List XC} : Pu S 0 54 [.retAddr 21] hp (.int 21) := by
  refine At.go (q := xm54) rfl 1 (pc' := 1) (L' := [(0, .retAddr 21)]) (st' := [.retAddr 21]) rfl ?_
  refine At.gk rfl (by decide) rfl rfl ?_
  exact At.rt rfl (xret_i rfl) rfl
theorem m_ord27 {S : List Int32} {hp : List XC} : Pu S 0 54 [.retAddr 27] hp (.int 27) := by
  refine At.go (q := xm54) rfl 1 (pc' := 1) (L' := [(0, .retAddr 27)]) (st' := [.retAddr 27]) rfl ?_
  refine At.gk rfl (by decide) rfl rfl ?_
  exact At.rt rfl (xret_i rfl) rfl
theorem m_ord16 {S : List Int32} {hp : List XC} : Pu S 0 54 [.retAddr 16] hp (.int 16) := by
  refine At.go (q := xm54) rfl 1 (pc' := 1) (L' := [(0, .retAddr 16)]) (st' := [.retAddr 16]) rfl ?_
  refine At.gk rfl (by decide) rfl rfl ?_
  exact At.rt rfl (xret_i rfl) rfl
theorem m_ord18 {S : List Int32} {hp : List XC} : Pu S 0 54 [.retAddr 18] hp (.int 18) := by
  refine At.go (q := xm54) rfl 1 (pc' := 1) (L' := [(0, .retAddr 18)]) (st' := [.retAddr 18]) rfl ?_
  refine At.gk rfl (by decide) rfl rfl ?_
  exact At.rt rfl (xret_i rfl) rfl
theorem m_ord19 {S : List Int32} {hp : List XC} : Pu S 0 54 [.retAddr 19] hp (.int 19) := by
  refine At.go (q := xm54) rfl 1 (pc' := 1) (L' := [(0, .retAddr 19)]) (st' := [.retAddr 19]) rfl ?_
  refine At.gk rfl (by decide) rfl rfl ?_
  exact At.rt rfl (xret_i rfl) rfl
theorem h_cnt0 {S : List Int32} {hp : List XC} {ow : Nat → Nat} {k : Nat} {A : Nat → Nat} {M : HM} {rf : Int32} {np nl : Nat} (h : HR hp ow k A M rf np nl) {i ln : Nat} (hi : i < 8) (hln : (M.2.2.2.1 i).1 = Int32.ofNat ln) (hl64 : ln < 64) (hrf : rf = 0) : Me S 2 113 [.ref (A 0), .ref (A (20 + i)), .int 100] hp (fun v hp' c s => v = none ∧ HSt hp hp' ow k A (mTally M (addT M.2.2.2.2.1 (ln * 4 + 0))) rf np nl c s 0 0) := by
  obtain ⟨hO, how, h0, h1, h3, hD, hF, hE, hT, ⟨lv9, hG⟩, hC, hL9, hQ, hW, hS, hTq9, htd, hcap⟩ := id h
  obtain ⟨za, ab, a1, a2, a3, a4, a5, a6, a7, a8, a9, a10, a11, a12, a13, a14⟩ := hS i hi
  have hT2 := hT.2
  have htl : ln * 4 + 0 < M.2.2.2.2.1.length := by omega
  have htv : M.2.2.2.2.1[ln * 4 + 0]? = some ((M.2.2.2.2.1[ln * 4 + 0]?).getD 0) := by rw [List.getElem?_eq_getElem htl]; rfl
  have a1' := a1
  rw [hln] at a1'
  refine me_imp (m_count0 h0 rfl rfl a1' hT.1 (by omega) htv (m_tal0 hl64) hrf) (fun v hp' c s hv => ?_)
  obtain ⟨v1, f, g1, g2, rfl, rfl⟩ := hv
  obtain ⟨Z, hZ⟩ : ∃ Z : Nat → Prop, Z = fun n => n = k + (20 + i) ∨ n = k + 5 := ⟨_, rfl⟩
  have hz : ∀ n, Z n → n = k + (20 + i) ∨ n = k + 5 := fun n z9 => by rw [hZ] at z9; exact z9
  have hzi : ∀ n, (n = k + (20 + i) ∨ n = k + 5) → Z n := fun n z9 => by rw [hZ]; exact z9
  have hzk : ∀ n, Z n → k ≤ n ∧ n < k + 1000 := fun n z => by have z9 := hz n z; omega
  have f' : FrX (fun a => Z (ow a)) hp hp' := f.mono (fun x _ e => by
    have e9 : x = A (20 + i) ∨ x = A 5 := e
    show Z (ow x)
    rcases e9 with e9 | e9
    · rw [e9, (how _ (by omega)).1]; exact hzi _ (by omega)
    · rw [e9, (how _ (by omega)).1]; exact hzi _ (by omega))
  exact ⟨v1, HSt.of h f' hzk (h.upd (Z := Z) f' (fun _ _ => rfl) (fun z => by have z9 := hz _ z; omega) (fun z => by have z9 := hz _ z; omega) (Or.inl ⟨(fun z => by have z9 := hz _ z; omega), rfl, rfl⟩) (Or.inl ⟨(fun z => by have z9 := hz _ z; omega), rfl⟩) (Or.inl ⟨(fun z => by have z9 := hz _ z; omega), rfl⟩) (Or.inl ⟨(fun z => by have z9 := hz _ z; omega), rfl⟩) (Or.inr ⟨g2, by show (addT M.2.2.2.2.1 _).length = 256; unfold addT; rw [List.length_set]; exact hT2⟩) (Or.inl (fun z => by have z9 := hz _ z; omega)) (Or.inl ⟨(fun z => by have z9 := hz _ z; omega), (fun z => by have z9 := hz _ z; omega), (fun z => by have z9 := hz _ z; omega)⟩) (fun j hj => Or.inl (fun z => by simp only [List.mem_cons, List.not_mem_nil, or_false] at hj; have z9 := hz _ z; omega)) (Or.inl ⟨(fun z => by have z9 := hz _ z; omega), (fun z => by have z9 := hz _ z; omega), (fun z => by have z9 := hz _ z; omega), (fun z => by have z9 := hz _ z; omega), rfl, rfl⟩) (Or.inl (fun j j1 j2 z => by have z9 := hz _ z; omega)) (fun j hj => if e : j = i then by subst e; exact Or.inr ⟨za, ab, (by have u := g1; rw [← hln] at u; exact u), f'.ob a2 (by decide) (nz (how _ (by omega)).1 (fun z => by have z9 := hz _ z; omega)), f'.2.2.1 _ _ a3 rfl (Or.inl (nz (how _ (by omega)).1 (fun z => by have z9 := hz _ z; omega))), a4, a5, f'.2.2.1 _ _ a6 rfl (Or.inl (nz a12 (fun z => by have z9 := hz _ z; omega))), a7, a8, a9, a10, a11, a12, a13.fr f' hO (nz (how _ (by omega)).1 (fun z => by have z9 := hz _ z; omega)), a14.fr f' hO (nz (how _ (by omega)).1 (fun z => by have z9 := hz _ z; omega))⟩ else Or.inl ⟨(fun z => by have z9 := hz _ z; omega), (fun z => by have z9 := hz _ z; omega), (fun z => by have z9 := hz _ z; omega), (fun z => by have z9 := hz _ z; omega), (fun z => by have z9 := hz _ z; omega), (fun z => by have z9 := hz _ z; omega), rfl⟩) (Or.inl ⟨(fun z => by have z9 := hz _ z; omega), (fun z => by have z9 := hz _ z; omega), (fun z => by have z9 := hz _ z; omega), (fun z => by have z9 := hz _ z; omega), rfl⟩) (fun j hj => Or.inl (fun z => by have j9 := lsI_c j hj; have z9 := hz _ z; omega))) [] (List.nil_sublist _) (fun j z hj => by have j9 := lsI_c j hj; have z9 := hz _ z; omega) (Nat.le_refl _) (Nat.le_refl _)⟩
theorem h_cnt2 {S : List Int32} {hp : List XC} {ow : Nat → Nat} {k : Nat} {A : Nat → Nat} {M : HM} {rf : Int32} {np nl : Nat} (h : HR hp ow k A M rf np nl) {i ln : Nat} (hi : i < 8) (hln : (M.2.2.2.1 i).1 = Int32.ofNat ln) (hl64 : ln < 64) (hrf : rf = 0) : Me S 2 113 [.ref (A 0), .ref (A (20 + i)), .int 102] hp (fun v hp' c s => v = none ∧ HSt hp hp' ow k A (mTally M (addT M.2.2.2.2.1 (ln * 4 + 2))) rf np nl c s 0 0) := by
  obtain ⟨hO, how, h0, h1, h3, hD, hF, hE, hT, ⟨lv9, hG⟩, hC, hL9, hQ, hW, hS, hTq9, htd, hcap⟩ := id h
  obtain ⟨za, ab, a1, a2, a3, a4, a5, a6, a7, a8, a9, a10, a11, a12, a13, a14⟩ := hS i hi
  have hT2 := hT.2
  have htl : ln * 4 + 2 < M.2.2.2.2.1.length := by omega
  have htv : M.2.2.2.2.1[ln * 4 + 2]? = some ((M.2.2.2.2.1[ln * 4 + 2]?).getD 0) := by rw [List.getElem?_eq_getElem htl]; rfl
  have a1' := a1
  rw [hln] at a1'
  refine me_imp (m_count0 h0 rfl rfl a1' hT.1 (by omega) htv (m_tal2 hl64) hrf) (fun v hp' c s hv => ?_)
  obtain ⟨v1, f, g1, g2, rfl, rfl⟩ := hv
  obtain ⟨Z, hZ⟩ : ∃ Z : Nat → Prop, Z = fun n => n = k + (20 + i) ∨ n = k + 5 := ⟨_, rfl⟩
  have hz : ∀ n, Z n → n = k + (20 + i) ∨ n = k + 5 := fun n z9 => by rw [hZ] at z9; exact z9
  have hzi : ∀ n, (n = k + (20 + i) ∨ n = k + 5) → Z n := fun n z9 => by rw [hZ]; exact z9
  have hzk : ∀ n, Z n → k ≤ n ∧ n < k + 1000 := fun n z => by have z9 := hz n z; omega
  have f' : FrX (fun a => Z (ow a)) hp hp' := f.mono (fun x _ e => by
    have e9 : x = A (20 + i) ∨ x = A 5 := e
    show Z (ow x)
    rcases e9 with e9 | e9
    · rw [e9, (how _ (by omega)).1]; exact hzi _ (by omega)
    · rw [e9, (how _ (by omega)).1]; exact hzi _ (by omega))
  exact ⟨v1, HSt.of h f' hzk (h.upd (Z := Z) f' (fun _ _ => rfl) (fun z => by have z9 := hz _ z; omega) (fun z => by have z9 := hz _ z; omega) (Or.inl ⟨(fun z => by have z9 := hz _ z; omega), rfl, rfl⟩) (Or.inl ⟨(fun z => by have z9 := hz _ z; omega), rfl⟩) (Or.inl ⟨(fun z => by have z9 := hz _ z; omega), rfl⟩) (Or.inl ⟨(fun z => by have z9 := hz _ z; omega), rfl⟩) (Or.inr ⟨g2, by show (addT M.2.2.2.2.1 _).length = 256; unfold addT; rw [List.length_set]; exact hT2⟩) (Or.inl (fun z => by have z9 := hz _ z; omega)) (Or.inl ⟨(fun z => by have z9 := hz _ z; omega), (fun z => by have z9 := hz _ z; omega), (fun z => by have z9 := hz _ z; omega)⟩) (fun j hj => Or.inl (fun z => by simp only [List.mem_cons, List.not_mem_nil, or_false] at hj; have z9 := hz _ z; omega)) (Or.inl ⟨(fun z => by have z9 := hz _ z; omega), (fun z => by have z9 := hz _ z; omega), (fun z => by have z9 := hz _ z; omega), (fun z => by have z9 := hz _ z; omega), rfl, rfl⟩) (Or.inl (fun j j1 j2 z => by have z9 := hz _ z; omega)) (fun j hj => if e : j = i then by subst e; exact Or.inr ⟨za, ab, (by have u := g1; rw [← hln] at u; exact u), f'.ob a2 (by decide) (nz (how _ (by omega)).1 (fun z => by have z9 := hz _ z; omega)), f'.2.2.1 _ _ a3 rfl (Or.inl (nz (how _ (by omega)).1 (fun z => by have z9 := hz _ z; omega))), a4, a5, f'.2.2.1 _ _ a6 rfl (Or.inl (nz a12 (fun z => by have z9 := hz _ z; omega))), a7, a8, a9, a10, a11, a12, a13.fr f' hO (nz (how _ (by omega)).1 (fun z => by have z9 := hz _ z; omega)), a14.fr f' hO (nz (how _ (by omega)).1 (fun z => by have z9 := hz _ z; omega))⟩ else Or.inl ⟨(fun z => by have z9 := hz _ z; omega), (fun z => by have z9 := hz _ z; omega), (fun z => by have z9 := hz _ z; omega), (fun z => by have z9 := hz _ z; omega), (fun z => by have z9 := hz _ z; omega), (fun z => by have z9 := hz _ z; omega), rfl⟩) (Or.inl ⟨(fun z => by have z9 := hz _ z; omega), (fun z => by have z9 := hz _ z; omega), (fun z => by have z9 := hz _ z; omega), (fun z => by have z9 := hz _ z; omega), rfl⟩) (fun j hj => Or.inl (fun z => by have j9 := lsI_c j hj; have z9 := hz _ z; omega))) [] (List.nil_sublist _) (fun j z hj => by have j9 := lsI_c j hj; have z9 := hz _ z; omega) (Nat.le_refl _) (Nat.le_refl _)⟩
theorem h_cnt1 {S : List Int32} {hp : List XC} {ow : Nat → Nat} {k : Nat} {A : Nat → Nat} {M : HM} {rf : Int32} {np nl : Nat} (h : HR hp ow k A M rf np nl) {i ln : Nat} (hi : i < 8) (hln : (M.2.2.2.1 i).1 = Int32.ofNat ln) (hl64 : ln < 64) (hrf : ¬ rf = 0) (hfit : xfit (xFT 9 6) (.int rf) = true) : Me S 2 113 [.ref (A 0), .ref (A (20 + i)), .int 114] hp (fun v hp' c s => v = none ∧ HSt hp hp' ow k A (mTally (mS M i (sRea (M.2.2.2.1 i) rf)) (addT M.2.2.2.2.1 (ln * 4 + 1))) rf np nl c s 0 0) := by
  obtain ⟨hO, how, h0, h1, h3, hD, hF, hE, hT, ⟨lv9, hG⟩, hC, hL9, hQ, hW, hS, hTq9, htd, hcap⟩ := id h
  obtain ⟨za, ab, a1, a2, a3, a4, a5, a6, a7, a8, a9, a10, a11, a12, a13, a14⟩ := hS i hi
  have hT2 := hT.2
  have htl : ln * 4 + 1 < M.2.2.2.2.1.length := by omega
  have htv : M.2.2.2.2.1[ln * 4 + 1]? = some ((M.2.2.2.2.1[ln * 4 + 1]?).getD 0) := by rw [List.getElem?_eq_getElem htl]; rfl
  have a1' := a1
  rw [hln] at a1'
  refine me_imp (m_count1 h0 rfl rfl a1' hT.1 (by omega) htv (m_tal1 hl64) hrf hfit) (fun v hp' c s hv => ?_)
  obtain ⟨v1, f, g1, g2, rfl, rfl⟩ := hv
  obtain ⟨Z, hZ⟩ : ∃ Z : Nat → Prop, Z = fun n => n = k + (20 + i) ∨ n = k + 5 := ⟨_, rfl⟩
  have hz : ∀ n, Z n → n = k + (20 + i) ∨ n = k + 5 := fun n z9 => by rw [hZ] at z9; exact z9
  have hzi : ∀ n, (n = k + (20 + i) ∨ n = k + 5) → Z n := fun n z9 => by rw [hZ]; exact z9
  have hzk : ∀ n, Z n → k ≤ n ∧ n < k + 1000 := fun n z => by have z9 := hz n z; omega
  have f' : FrX (fun a => Z (ow a)) hp hp' := f.mono (fun x _ e => by
    have e9 : x = A (20 + i) ∨ x = A 5 := e
    show Z (ow x)
    rcases e9 with e9 | e9
    · rw [e9, (how _ (by omega)).1]; exact hzi _ (by omega)
    · rw [e9, (how _ (by omega)).1]; exact hzi _ (by omega))
  exact ⟨v1, HSt.of h f' hzk (h.upd (Z := Z) f' (fun _ _ => rfl) (fun z => by have z9 := hz _ z; omega) (fun z => by have z9 := hz _ z; omega) (Or.inl ⟨(fun z => by have z9 := hz _ z; omega), rfl, rfl⟩) (Or.inl ⟨(fun z => by have z9 := hz _ z; omega), rfl⟩) (Or.inl ⟨(fun z => by have z9 := hz _ z; omega), rfl⟩) (Or.inl ⟨(fun z => by have z9 := hz _ z; omega), rfl⟩) (Or.inr ⟨g2, by show (addT M.2.2.2.2.1 _).length = 256; unfold addT; rw [List.length_set]; exact hT2⟩) (Or.inl (fun z => by have z9 := hz _ z; omega)) (Or.inl ⟨(fun z => by have z9 := hz _ z; omega), (fun z => by have z9 := hz _ z; omega), (fun z => by have z9 := hz _ z; omega)⟩) (fun j hj => Or.inl (fun z => by simp only [List.mem_cons, List.not_mem_nil, or_false] at hj; have z9 := hz _ z; omega)) (Or.inl ⟨(fun z => by have z9 := hz _ z; omega), (fun z => by have z9 := hz _ z; omega), (fun z => by have z9 := hz _ z; omega), (fun z => by have z9 := hz _ z; omega), rfl, rfl⟩) (Or.inl (fun j j1 j2 z => by have z9 := hz _ z; omega)) (fun j hj => if e : j = i then by subst e; exact Or.inr (by rw [show (mTally (mS M j (sRea (M.2.2.2.1 j) rf)) (addT M.2.2.2.2.1 (ln * 4 + 1))).2.2.2.1 j = sRea (M.2.2.2.1 j) rf from if_pos rfl]; exact ⟨za, ab, (by have u := g1; rw [← hln] at u; exact u), f'.ob a2 (by decide) (nz (how _ (by omega)).1 (fun z => by have z9 := hz _ z; omega)), f'.2.2.1 _ _ a3 rfl (Or.inl (nz (how _ (by omega)).1 (fun z => by have z9 := hz _ z; omega))), a4, a5, f'.2.2.1 _ _ a6 rfl (Or.inl (nz a12 (fun z => by have z9 := hz _ z; omega))), a7, a8, a9, a10, a11, a12, a13.fr f' hO (nz (how _ (by omega)).1 (fun z => by have z9 := hz _ z; omega)), a14.fr f' hO (nz (how _ (by omega)).1 (fun z => by have z9 := hz _ z; omega))⟩) else Or.inl ⟨(fun z => by have z9 := hz _ z; omega), (fun z => by have z9 := hz _ z; omega), (fun z => by have z9 := hz _ z; omega), (fun z => by have z9 := hz _ z; omega), (fun z => by have z9 := hz _ z; omega), (fun z => by have z9 := hz _ z; omega), mS_ne (M := M) e⟩) (Or.inl ⟨(fun z => by have z9 := hz _ z; omega), (fun z => by have z9 := hz _ z; omega), (fun z => by have z9 := hz _ z; omega), (fun z => by have z9 := hz _ z; omega), rfl⟩) (fun j hj => Or.inl (fun z => by have j9 := lsI_c j hj; have z9 := hz _ z; omega))) [] (List.nil_sublist _) (fun j z hj => by have j9 := lsI_c j hj; have z9 := hz _ z; omega) (Nat.le_refl _) (Nat.le_refl _)⟩
theorem run_f {S : List Int32} {hp : List XC} {ow : Nat → Nat} {k : Nat} {A : Nat → Nat} {M : HM} {np nl : Nat} {i ln f : Nat} {Q : XO → Prop} (h : HR hp ow k A M 0 np nl) (hi : i < 8) (hln : (M.2.2.2.1 i).1 = Int32.ofNat ln) (hl64 : ln < 64) (hf0 : (0 : Int32) ≤ Int32.ofNat f) (hK : ∀ hp' c s, HSt hp hp' ow k A (mTally M (addT M.2.2.2.2.1 (ln * 4 + 2))) 0 np nl c s 0 0 → Q (.inl (some (.int (-1 - Int32.ofNat f)), hp', c, s))) : At S 12 40 66 [(3, .int (Int32.ofNat f)), (2, .ref (A (20 + i))), (0, .ref (A 0))] [] hp 0 0 Q := by
  obtain ⟨hO, how, h0, h1, h3, hD, hF, hE, hT, ⟨lv9, hG⟩, hC, hL9, hQ, hW, hS, hTq9, htd, hcap⟩ := id h
  refine At.go (q := xm40) rfl 1 (pc' := 67) (L' := [(3, .int (Int32.ofNat f)), (2, .ref (A (20 + i))), (0, .ref (A 0))]) (st' := [.int (Int32.ofNat f)]) rfl ?_
  refine At.ic1 (tgt := 81) rfl rfl (fun h => absurd (h.symm.trans (decide_eq_false (Int32.not_lt.mpr hf0))) (by decide)) (fun _ => ?_)
  refine At.go (q := xm40) rfl 3 (pc' := 74) (L' := [(3, .int (Int32.ofNat f)), (2, .ref (A (20 + i))), (0, .ref (A 0))]) (st' := [.int 102, .ref (A (20 + i)), .ref (A 0)]) rfl ?_
  refine At.clm (as := [.ref (A 0), .ref (A (20 + i)), .int 102]) (rest := []) rfl (by decide) rfl (Nat.le_of_ble_eq_true rfl) (Nat.le_of_ble_eq_true rfl) (xrck_o (by decide) (by decide) h0 (by decide)) (Nat.le_of_ble_eq_true rfl) (h_cnt2 h hi hln hl64 rfl) (fun v9 hp' c9 s9 hv9 => ?_)
  obtain ⟨rfl, hst⟩ := hv9
  refine At.go (q := xm40) rfl 3 (pc' := 80) (L' := [(3, .int (Int32.ofNat f)), (2, .ref (A (20 + i))), (0, .ref (A 0))]) (st' := [.int ((-1) - (Int32.ofNat f))]) rfl ?_
  exact At.rt rfl (xret_i rfl) (by rw [Nat.zero_add, Nat.zero_add]; exact hK _ _ _ hst)
theorem run_g {S : List Int32} {hp : List XC} {ow : Nat → Nat} {k : Nat} {A : Nat → Nat} {M : HM} {np nl : Nat} {i ln vb : Nat} {sf9 : List Value} {told rf2 : Int32} {M2 : HM} {Kc Ks : Nat} {Q : XO → Prop} (h : HR hp ow k A M 0 np nl) (hi : i < 8) (hln : (M2.2.2.2.1 i).1 = Int32.ofNat ln) (hl64 : ln < 64) (hst : hp[A 60]? = some (.inr (12, sf9))) (hvb9 : sf9[2]? = some (.retAddr vb)) (hvb : vb = 5) (hin : Me S 11 115 [.ref (A 0), .ref (A (20 + i))] hp (fun v hp' c s => v = some (.int told) ∧ HSt hp hp' ow k A M2 rf2 np nl c s Kc Ks)) (hfit : xfit (xFT 9 6) (.int rf2) = true) (hK0 : rf2 = 0 → ∀ hp' c s, HSt hp hp' ow k A (mTally M2 (addT M2.2.2.2.2.1 (ln * 4 + 0))) 0 np nl c s Kc Ks → Q (.inl (some (.int told), hp', c, s))) (hK1 : ¬ rf2 = 0 → ∀ hp' c s, HSt hp hp' ow k A (mTally (mS M2 i (sRea (M2.2.2.2.1 i) rf2)) (addT M2.2.2.2.2.1 (ln * 4 + 1))) rf2 np nl c s (Kc + 1) (Ks + 6) → Q (.inr (3, hp', c, s))) : At S 12 40 66 [(3, .int (Int32.ofNat 4294967295)), (2, .ref (A (20 + i))), (0, .ref (A 0))] [] hp 0 0 Q := by
  obtain ⟨hO, how, h0, h1, h3, hD, hF, hE, hT, ⟨lv9, hG⟩, hC, hL9, hQ, hW, hS, hTq9, htd, hcap⟩ := id h
  subst hvb
  refine At.go (q := xm40) rfl 1 (pc' := 67) (L' := [(3, .int (Int32.ofNat 4294967295)), (2, .ref (A (20 + i))), (0, .ref (A 0))]) (st' := [.int (Int32.ofNat 4294967295)]) rfl ?_
  refine At.ic1 (tgt := 81) rfl rfl (fun _ => ?_) (fun h => absurd (h.symm.trans (show decide (Int32.ofNat 4294967295 < 0) = true by decide)) (by decide))
  refine At.go (q := xm40) rfl 2 (pc' := 85) (L' := [(3, .int (Int32.ofNat 4294967295)), (2, .ref (A (20 + i))), (0, .ref (A 0))]) (st' := [.ref (A 0), .retAddr 222]) rfl ?_
  refine At.gf rfl (by decide) h0 rfl ?_
  refine At.gf rfl (by decide) hst hvb9 ?_
  refine At.clp (as := [.retAddr 5]) (rest := [.retAddr 222]) rfl (by decide) rfl (Nat.le_of_ble_eq_true rfl) (Nat.le_of_ble_eq_true rfl) (xrck_k (by decide) (by decide) rfl (by decide)) (Nat.le_of_ble_eq_true rfl) (m_ord5) ?_
  refine At.ak (j := 5) (x := 1) rfl rfl (by decide) rfl (by decide) rfl ?_
  refine At.go (q := xm40) rfl 1 (pc' := 124) (L' := [(3, .int (Int32.ofNat 4294967295)), (2, .ref (A (20 + i))), (0, .ref (A 0))]) (st' := []) rfl ?_
  refine At.go (q := xm40) rfl 2 (pc' := 126) (L' := [(3, .int (Int32.ofNat 4294967295)), (2, .ref (A (20 + i))), (0, .ref (A 0))]) (st' := [.ref (A (20 + i)), .ref (A 0)]) rfl ?_
  refine At.clm (as := [.ref (A 0), .ref (A (20 + i))]) (rest := []) rfl (by decide) rfl (Nat.le_of_ble_eq_true rfl) (Nat.le_of_ble_eq_true rfl) (xrck_o (by decide) (by decide) h0 (by decide)) (Nat.le_of_ble_eq_true rfl) (hin) (fun v9 hp1 c1 s1 hv9 => ?_)
  obtain ⟨rfl, ow1, np1, nl1, hw1, hR1, f1, e1, e2⟩ := hv9
  have k0 := hR1.2.2.1
  refine At.go (q := xm40) rfl 5 (pc' := 174) (L' := [(4, .int told), (3, .int (Int32.ofNat 4294967295)), (2, .ref (A (20 + i))), (0, .ref (A 0))]) (st' := [.ref (A 0), .ref (A (20 + i)), .ref (A 0)]) rfl ?_
  refine At.gf rfl (by decide) k0 rfl ?_
  refine At.ic1 (tgt := 185) rfl rfl (fun h177 => ?_) (fun h177 => ?_)
  · have hn0 : ¬ rf2 = 0 := of_decide_eq_true h177
    refine At.go (q := xm40) rfl 1 (pc' := 187) (L' := [(4, .int told), (3, .int (Int32.ofNat 4294967295)), (2, .ref (A (20 + i))), (0, .ref (A 0))]) (st' := [.int 114, .ref (A (20 + i)), .ref (A 0)]) rfl ?_
    refine At.clm (as := [.ref (A 0), .ref (A (20 + i)), .int 114]) (rest := []) rfl (by decide) rfl (Nat.le_of_ble_eq_true rfl) (Nat.le_of_ble_eq_true rfl) (xrck_o (by decide) (by decide) k0 (by decide)) (Nat.le_of_ble_eq_true rfl) (h_cnt1 hR1 hi hln hl64 hn0 hfit) (fun v9 hp2 c2 s2 hv9 => ?_)
    obtain ⟨rfl, hs2⟩ := hv9
    have hs2' := hs2
    obtain ⟨ow2, np2, nl2, hw2, hR2, f2, u1, u2⟩ := hs2'
    have k2 := hR2.2.2.1
    refine At.go (q := xm40) rfl 1 (pc' := 191) (L' := [(4, .int told), (3, .int (Int32.ofNat 4294967295)), (2, .ref (A (20 + i))), (0, .ref (A 0))]) (st' := [.ref (A 0)]) rfl ?_
    refine At.gf rfl (by decide) k2 rfl ?_
    refine At.ic1 (tgt := 205) rfl rfl (fun h => absurd (h.symm.trans (decide_eq_false hn0)) (by decide)) (fun _ => ?_)
    exact At.tw rfl (by decide) (Nat.le_of_ble_eq_true rfl) (hK1 hn0 _ _ _ (by have := HSt.plus (HSt.tr hw1 f1 e1 e2 hs2); rw [Nat.zero_add, Nat.zero_add]; exact this))
  · have h00 : rf2 = 0 := Decidable.not_not.mp (of_decide_eq_false h177)
    refine At.go (q := xm40) rfl 2 (pc' := 187) (L' := [(4, .int told), (3, .int (Int32.ofNat 4294967295)), (2, .ref (A (20 + i))), (0, .ref (A 0))]) (st' := [.int 100, .ref (A (20 + i)), .ref (A 0)]) rfl ?_
    refine At.clm (as := [.ref (A 0), .ref (A (20 + i)), .int 100]) (rest := []) rfl (by decide) rfl (Nat.le_of_ble_eq_true rfl) (Nat.le_of_ble_eq_true rfl) (xrck_o (by decide) (by decide) k0 (by decide)) (Nat.le_of_ble_eq_true rfl) (h_cnt0 hR1 hi hln hl64 h00) (fun v9 hp2 c2 s2 hv9 => ?_)
    obtain ⟨rfl, hs2⟩ := hv9
    have hs2' := hs2
    obtain ⟨ow2, np2, nl2, hw2, hR2, f2, u1, u2⟩ := hs2'
    have k2 := hR2.2.2.1
    refine At.go (q := xm40) rfl 1 (pc' := 191) (L' := [(4, .int told), (3, .int (Int32.ofNat 4294967295)), (2, .ref (A (20 + i))), (0, .ref (A 0))]) (st' := [.ref (A 0)]) rfl ?_
    refine At.gf rfl (by decide) k2 rfl ?_
    refine At.ic1 (tgt := 205) rfl rfl (fun _ => ?_) (fun h => absurd (h.symm.trans (decide_eq_true h00)) (by decide))
    refine At.go (q := xm40) rfl 1 (pc' := 207) (L' := [(4, .int told), (3, .int (Int32.ofNat 4294967295)), (2, .ref (A (20 + i))), (0, .ref (A 0))]) (st' := [.int told]) rfl ?_
    exact At.rt rfl (xret_i rfl) (hK0 h00 _ _ _ (by have := (HSt.tr hw1 f1 e1 e2 hs2); rw [h00] at this; rw [Nat.zero_add, Nat.zero_add]; exact this))
theorem run_t {S : List Int32} {hp : List XC} {ow : Nat → Nat} {k : Nat} {A : Nat → Nat} {M : HM} {np nl : Nat} {i ln vb : Nat} {sf9 : List Value} {told rf2 : Int32} {M2 : HM} {Kc Ks : Nat} {Q : XO → Prop} (h : HR hp ow k A M 0 np nl) (hi : i < 8) (hln : (M2.2.2.2.1 i).1 = Int32.ofNat ln) (hl64 : ln < 64) (hst : hp[A 60]? = some (.inr (12, sf9))) (hvb9 : sf9[2]? = some (.retAddr vb)) (hvb : vb = 20) (hin : Me S 11 164 [.ref (A 0), .ref (A (20 + i))] hp (fun v hp' c s => v = some (.int told) ∧ HSt hp hp' ow k A M2 rf2 np nl c s Kc Ks)) (hfit : xfit (xFT 9 6) (.int rf2) = true) (hK0 : rf2 = 0 → ∀ hp' c s, HSt hp hp' ow k A (mTally M2 (addT M2.2.2.2.2.1 (ln * 4 + 0))) 0 np nl c s Kc Ks → Q (.inl (some (.int told), hp', c, s))) (hK1 : ¬ rf2 = 0 → ∀ hp' c s, HSt hp hp' ow k A (mTally (mS M2 i (sRea (M2.2.2.2.1 i) rf2)) (addT M2.2.2.2.2.1 (ln * 4 + 1))) rf2 np nl c s (Kc + 1) (Ks + 6) → Q (.inr (3, hp', c, s))) : At S 12 40 66 [(3, .int (Int32.ofNat 4294967295)), (2, .ref (A (20 + i))), (0, .ref (A 0))] [] hp 0 0 Q := by
  obtain ⟨hO, how, h0, h1, h3, hD, hF, hE, hT, ⟨lv9, hG⟩, hC, hL9, hQ, hW, hS, hTq9, htd, hcap⟩ := id h
  subst hvb
  refine At.go (q := xm40) rfl 1 (pc' := 67) (L' := [(3, .int (Int32.ofNat 4294967295)), (2, .ref (A (20 + i))), (0, .ref (A 0))]) (st' := [.int (Int32.ofNat 4294967295)]) rfl ?_
  refine At.ic1 (tgt := 81) rfl rfl (fun _ => ?_) (fun h => absurd (h.symm.trans (show decide (Int32.ofNat 4294967295 < 0) = true by decide)) (by decide))
  refine At.go (q := xm40) rfl 2 (pc' := 85) (L' := [(3, .int (Int32.ofNat 4294967295)), (2, .ref (A (20 + i))), (0, .ref (A 0))]) (st' := [.ref (A 0), .retAddr 222]) rfl ?_
  refine At.gf rfl (by decide) h0 rfl ?_
  refine At.gf rfl (by decide) hst hvb9 ?_
  refine At.clp (as := [.retAddr 20]) (rest := [.retAddr 222]) rfl (by decide) rfl (Nat.le_of_ble_eq_true rfl) (Nat.le_of_ble_eq_true rfl) (xrck_k (by decide) (by decide) rfl (by decide)) (Nat.le_of_ble_eq_true rfl) (m_ord20) ?_
  refine At.ak (j := 20) (x := 2) rfl rfl (by decide) rfl (by decide) rfl ?_
  refine At.go (q := xm40) rfl 1 (pc' := 134) (L' := [(3, .int (Int32.ofNat 4294967295)), (2, .ref (A (20 + i))), (0, .ref (A 0))]) (st' := []) rfl ?_
  refine At.go (q := xm40) rfl 2 (pc' := 136) (L' := [(3, .int (Int32.ofNat 4294967295)), (2, .ref (A (20 + i))), (0, .ref (A 0))]) (st' := [.ref (A (20 + i)), .ref (A 0)]) rfl ?_
  refine At.clm (as := [.ref (A 0), .ref (A (20 + i))]) (rest := []) rfl (by decide) rfl (Nat.le_of_ble_eq_true rfl) (Nat.le_of_ble_eq_true rfl) (xrck_o (by decide) (by decide) h0 (by decide)) (Nat.le_of_ble_eq_true rfl) (hin) (fun v9 hp1 c1 s1 hv9 => ?_)
  obtain ⟨rfl, ow1, np1, nl1, hw1, hR1, f1, e1, e2⟩ := hv9
  have k0 := hR1.2.2.1
  refine At.go (q := xm40) rfl 5 (pc' := 174) (L' := [(4, .int told), (3, .int (Int32.ofNat 4294967295)), (2, .ref (A (20 + i))), (0, .ref (A 0))]) (st' := [.ref (A 0), .ref (A (20 + i)), .ref (A 0)]) rfl ?_
  refine At.gf rfl (by decide) k0 rfl ?_
  refine At.ic1 (tgt := 185) rfl rfl (fun h177 => ?_) (fun h177 => ?_)
  · have hn0 : ¬ rf2 = 0 := of_decide_eq_true h177
    refine At.go (q := xm40) rfl 1 (pc' := 187) (L' := [(4, .int told), (3, .int (Int32.ofNat 4294967295)), (2, .ref (A (20 + i))), (0, .ref (A 0))]) (st' := [.int 114, .ref (A (20 + i)), .ref (A 0)]) rfl ?_
    refine At.clm (as := [.ref (A 0), .ref (A (20 + i)), .int 114]) (rest := []) rfl (by decide) rfl (Nat.le_of_ble_eq_true rfl) (Nat.le_of_ble_eq_true rfl) (xrck_o (by decide) (by decide) k0 (by decide)) (Nat.le_of_ble_eq_true rfl) (h_cnt1 hR1 hi hln hl64 hn0 hfit) (fun v9 hp2 c2 s2 hv9 => ?_)
    obtain ⟨rfl, hs2⟩ := hv9
    have hs2' := hs2
    obtain ⟨ow2, np2, nl2, hw2, hR2, f2, u1, u2⟩ := hs2'
    have k2 := hR2.2.2.1
    refine At.go (q := xm40) rfl 1 (pc' := 191) (L' := [(4, .int told), (3, .int (Int32.ofNat 4294967295)), (2, .ref (A (20 + i))), (0, .ref (A 0))]) (st' := [.ref (A 0)]) rfl ?_
    refine At.gf rfl (by decide) k2 rfl ?_
    refine At.ic1 (tgt := 205) rfl rfl (fun h => absurd (h.symm.trans (decide_eq_false hn0)) (by decide)) (fun _ => ?_)
    exact At.tw rfl (by decide) (Nat.le_of_ble_eq_true rfl) (hK1 hn0 _ _ _ (by have := HSt.plus (HSt.tr hw1 f1 e1 e2 hs2); rw [Nat.zero_add, Nat.zero_add]; exact this))
  · have h00 : rf2 = 0 := Decidable.not_not.mp (of_decide_eq_false h177)
    refine At.go (q := xm40) rfl 2 (pc' := 187) (L' := [(4, .int told), (3, .int (Int32.ofNat 4294967295)), (2, .ref (A (20 + i))), (0, .ref (A 0))]) (st' := [.int 100, .ref (A (20 + i)), .ref (A 0)]) rfl ?_
    refine At.clm (as := [.ref (A 0), .ref (A (20 + i)), .int 100]) (rest := []) rfl (by decide) rfl (Nat.le_of_ble_eq_true rfl) (Nat.le_of_ble_eq_true rfl) (xrck_o (by decide) (by decide) k0 (by decide)) (Nat.le_of_ble_eq_true rfl) (h_cnt0 hR1 hi hln hl64 h00) (fun v9 hp2 c2 s2 hv9 => ?_)
    obtain ⟨rfl, hs2⟩ := hv9
    have hs2' := hs2
    obtain ⟨ow2, np2, nl2, hw2, hR2, f2, u1, u2⟩ := hs2'
    have k2 := hR2.2.2.1
    refine At.go (q := xm40) rfl 1 (pc' := 191) (L' := [(4, .int told), (3, .int (Int32.ofNat 4294967295)), (2, .ref (A (20 + i))), (0, .ref (A 0))]) (st' := [.ref (A 0)]) rfl ?_
    refine At.gf rfl (by decide) k2 rfl ?_
    refine At.ic1 (tgt := 205) rfl rfl (fun _ => ?_) (fun h => absurd (h.symm.trans (decide_eq_true h00)) (by decide))
    refine At.go (q := xm40) rfl 1 (pc' := 207) (L' := [(4, .int told), (3, .int (Int32.ofNat 4294967295)), (2, .ref (A (20 + i))), (0, .ref (A 0))]) (st' := [.int told]) rfl ?_
    exact At.rt rfl (xret_i rfl) (hK0 h00 _ _ _ (by have := (HSt.tr hw1 f1 e1 e2 hs2); rw [h00] at this; rw [Nat.zero_add, Nat.zero_add]; exact this))
theorem run_d {S : List Int32} {hp : List XC} {ow : Nat → Nat} {k : Nat} {A : Nat → Nat} {M : HM} {np nl : Nat} {i ln vb : Nat} {sf9 : List Value} {told rf2 : Int32} {M2 : HM} {Kc Ks : Nat} {Q : XO → Prop} (h : HR hp ow k A M 0 np nl) (hi : i < 8) (hln : (M2.2.2.2.1 i).1 = Int32.ofNat ln) (hl64 : ln < 64) (hst : hp[A 60]? = some (.inr (12, sf9))) (hvb9 : sf9[2]? = some (.retAddr vb)) (hvb : vb = 21) (hin : Me S 11 170 [.ref (A 0), .ref (A (20 + i))] hp (fun v hp' c s => v = some (.int told) ∧ HSt hp hp' ow k A M2 rf2 np nl c s Kc Ks)) (hfit : xfit (xFT 9 6) (.int rf2) = true) (hK0 : rf2 = 0 → ∀ hp' c s, HSt hp hp' ow k A (mTally M2 (addT M2.2.2.2.2.1 (ln * 4 + 0))) 0 np nl c s Kc Ks → Q (.inl (some (.int told), hp', c, s))) (hK1 : ¬ rf2 = 0 → ∀ hp' c s, HSt hp hp' ow k A (mTally (mS M2 i (sRea (M2.2.2.2.1 i) rf2)) (addT M2.2.2.2.2.1 (ln * 4 + 1))) rf2 np nl c s (Kc + 1) (Ks + 6) → Q (.inr (3, hp', c, s))) : At S 12 40 66 [(3, .int (Int32.ofNat 4294967295)), (2, .ref (A (20 + i))), (0, .ref (A 0))] [] hp 0 0 Q := by
  obtain ⟨hO, how, h0, h1, h3, hD, hF, hE, hT, ⟨lv9, hG⟩, hC, hL9, hQ, hW, hS, hTq9, htd, hcap⟩ := id h
  subst hvb
  refine At.go (q := xm40) rfl 1 (pc' := 67) (L' := [(3, .int (Int32.ofNat 4294967295)), (2, .ref (A (20 + i))), (0, .ref (A 0))]) (st' := [.int (Int32.ofNat 4294967295)]) rfl ?_
  refine At.ic1 (tgt := 81) rfl rfl (fun _ => ?_) (fun h => absurd (h.symm.trans (show decide (Int32.ofNat 4294967295 < 0) = true by decide)) (by decide))
  refine At.go (q := xm40) rfl 2 (pc' := 85) (L' := [(3, .int (Int32.ofNat 4294967295)), (2, .ref (A (20 + i))), (0, .ref (A 0))]) (st' := [.ref (A 0), .retAddr 222]) rfl ?_
  refine At.gf rfl (by decide) h0 rfl ?_
  refine At.gf rfl (by decide) hst hvb9 ?_
  refine At.clp (as := [.retAddr 21]) (rest := [.retAddr 222]) rfl (by decide) rfl (Nat.le_of_ble_eq_true rfl) (Nat.le_of_ble_eq_true rfl) (xrck_k (by decide) (by decide) rfl (by decide)) (Nat.le_of_ble_eq_true rfl) (m_ord21) ?_
  refine At.ak (j := 21) (x := 3) rfl rfl (by decide) rfl (by decide) rfl ?_
  refine At.go (q := xm40) rfl 1 (pc' := 144) (L' := [(3, .int (Int32.ofNat 4294967295)), (2, .ref (A (20 + i))), (0, .ref (A 0))]) (st' := []) rfl ?_
  refine At.go (q := xm40) rfl 2 (pc' := 146) (L' := [(3, .int (Int32.ofNat 4294967295)), (2, .ref (A (20 + i))), (0, .ref (A 0))]) (st' := [.ref (A (20 + i)), .ref (A 0)]) rfl ?_
  refine At.clm (as := [.ref (A 0), .ref (A (20 + i))]) (rest := []) rfl (by decide) rfl (Nat.le_of_ble_eq_true rfl) (Nat.le_of_ble_eq_true rfl) (xrck_o (by decide) (by decide) h0 (by decide)) (Nat.le_of_ble_eq_true rfl) (hin) (fun v9 hp1 c1 s1 hv9 => ?_)
  obtain ⟨rfl, ow1, np1, nl1, hw1, hR1, f1, e1, e2⟩ := hv9
  have k0 := hR1.2.2.1
  refine At.go (q := xm40) rfl 5 (pc' := 174) (L' := [(4, .int told), (3, .int (Int32.ofNat 4294967295)), (2, .ref (A (20 + i))), (0, .ref (A 0))]) (st' := [.ref (A 0), .ref (A (20 + i)), .ref (A 0)]) rfl ?_
  refine At.gf rfl (by decide) k0 rfl ?_
  refine At.ic1 (tgt := 185) rfl rfl (fun h177 => ?_) (fun h177 => ?_)
  · have hn0 : ¬ rf2 = 0 := of_decide_eq_true h177
    refine At.go (q := xm40) rfl 1 (pc' := 187) (L' := [(4, .int told), (3, .int (Int32.ofNat 4294967295)), (2, .ref (A (20 + i))), (0, .ref (A 0))]) (st' := [.int 114, .ref (A (20 + i)), .ref (A 0)]) rfl ?_
    refine At.clm (as := [.ref (A 0), .ref (A (20 + i)), .int 114]) (rest := []) rfl (by decide) rfl (Nat.le_of_ble_eq_true rfl) (Nat.le_of_ble_eq_true rfl) (xrck_o (by decide) (by decide) k0 (by decide)) (Nat.le_of_ble_eq_true rfl) (h_cnt1 hR1 hi hln hl64 hn0 hfit) (fun v9 hp2 c2 s2 hv9 => ?_)
    obtain ⟨rfl, hs2⟩ := hv9
    have hs2' := hs2
    obtain ⟨ow2, np2, nl2, hw2, hR2, f2, u1, u2⟩ := hs2'
    have k2 := hR2.2.2.1
    refine At.go (q := xm40) rfl 1 (pc' := 191) (L' := [(4, .int told), (3, .int (Int32.ofNat 4294967295)), (2, .ref (A (20 + i))), (0, .ref (A 0))]) (st' := [.ref (A 0)]) rfl ?_
    refine At.gf rfl (by decide) k2 rfl ?_
    refine At.ic1 (tgt := 205) rfl rfl (fun h => absurd (h.symm.trans (decide_eq_false hn0)) (by decide)) (fun _ => ?_)
    exact At.tw rfl (by decide) (Nat.le_of_ble_eq_true rfl) (hK1 hn0 _ _ _ (by have := HSt.plus (HSt.tr hw1 f1 e1 e2 hs2); rw [Nat.zero_add, Nat.zero_add]; exact this))
  · have h00 : rf2 = 0 := Decidable.not_not.mp (of_decide_eq_false h177)
    refine At.go (q := xm40) rfl 2 (pc' := 187) (L' := [(4, .int told), (3, .int (Int32.ofNat 4294967295)), (2, .ref (A (20 + i))), (0, .ref (A 0))]) (st' := [.int 100, .ref (A (20 + i)), .ref (A 0)]) rfl ?_
    refine At.clm (as := [.ref (A 0), .ref (A (20 + i)), .int 100]) (rest := []) rfl (by decide) rfl (Nat.le_of_ble_eq_true rfl) (Nat.le_of_ble_eq_true rfl) (xrck_o (by decide) (by decide) k0 (by decide)) (Nat.le_of_ble_eq_true rfl) (h_cnt0 hR1 hi hln hl64 h00) (fun v9 hp2 c2 s2 hv9 => ?_)
    obtain ⟨rfl, hs2⟩ := hv9
    have hs2' := hs2
    obtain ⟨ow2, np2, nl2, hw2, hR2, f2, u1, u2⟩ := hs2'
    have k2 := hR2.2.2.1
    refine At.go (q := xm40) rfl 1 (pc' := 191) (L' := [(4, .int told), (3, .int (Int32.ofNat 4294967295)), (2, .ref (A (20 + i))), (0, .ref (A 0))]) (st' := [.ref (A 0)]) rfl ?_
    refine At.gf rfl (by decide) k2 rfl ?_
    refine At.ic1 (tgt := 205) rfl rfl (fun _ => ?_) (fun h => absurd (h.symm.trans (decide_eq_true h00)) (by decide))
    refine At.go (q := xm40) rfl 1 (pc' := 207) (L' := [(4, .int told), (3, .int (Int32.ofNat 4294967295)), (2, .ref (A (20 + i))), (0, .ref (A 0))]) (st' := [.int told]) rfl ?_
    exact At.rt rfl (xret_i rfl) (hK0 h00 _ _ _ (by have := (HSt.tr hw1 f1 e1 e2 hs2); rw [h00] at this; rw [Nat.zero_add, Nat.zero_add]; exact this))
theorem run_l {S : List Int32} {hp : List XC} {ow : Nat → Nat} {k : Nat} {A : Nat → Nat} {M : HM} {np nl : Nat} {i ln vb : Nat} {sf9 : List Value} {told rf2 : Int32} {M2 : HM} {Kc Ks : Nat} {Q : XO → Prop} (h : HR hp ow k A M 0 np nl) (hi : i < 8) (hln : (M2.2.2.2.1 i).1 = Int32.ofNat ln) (hl64 : ln < 64) (hst : hp[A 60]? = some (.inr (12, sf9))) (hvb9 : sf9[2]? = some (.retAddr vb)) (hvb : vb = 27) (hin : Me S 11 175 [.ref (A 0), .ref (A (20 + i))] hp (fun v hp' c s => v = some (.int told) ∧ HSt hp hp' ow k A M2 rf2 np nl c s Kc Ks)) (hfit : xfit (xFT 9 6) (.int rf2) = true) (hK0 : rf2 = 0 → ∀ hp' c s, HSt hp hp' ow k A (mTally M2 (addT M2.2.2.2.2.1 (ln * 4 + 0))) 0 np nl c s Kc Ks → Q (.inl (some (.int told), hp', c, s))) (hK1 : ¬ rf2 = 0 → ∀ hp' c s, HSt hp hp' ow k A (mTally (mS M2 i (sRea (M2.2.2.2.1 i) rf2)) (addT M2.2.2.2.2.1 (ln * 4 + 1))) rf2 np nl c s (Kc + 1) (Ks + 6) → Q (.inr (3, hp', c, s))) : At S 12 40 66 [(3, .int (Int32.ofNat 4294967295)), (2, .ref (A (20 + i))), (0, .ref (A 0))] [] hp 0 0 Q := by
  obtain ⟨hO, how, h0, h1, h3, hD, hF, hE, hT, ⟨lv9, hG⟩, hC, hL9, hQ, hW, hS, hTq9, htd, hcap⟩ := id h
  subst hvb
  refine At.go (q := xm40) rfl 1 (pc' := 67) (L' := [(3, .int (Int32.ofNat 4294967295)), (2, .ref (A (20 + i))), (0, .ref (A 0))]) (st' := [.int (Int32.ofNat 4294967295)]) rfl ?_
  refine At.ic1 (tgt := 81) rfl rfl (fun _ => ?_) (fun h => absurd (h.symm.trans (show decide (Int32.ofNat 4294967295 < 0) = true by decide)) (by decide))
  refine At.go (q := xm40) rfl 2 (pc' := 85) (L' := [(3, .int (Int32.ofNat 4294967295)), (2, .ref (A (20 + i))), (0, .ref (A 0))]) (st' := [.ref (A 0), .retAddr 222]) rfl ?_
  refine At.gf rfl (by decide) h0 rfl ?_
  refine At.gf rfl (by decide) hst hvb9 ?_
  refine At.clp (as := [.retAddr 27]) (rest := [.retAddr 222]) rfl (by decide) rfl (Nat.le_of_ble_eq_true rfl) (Nat.le_of_ble_eq_true rfl) (xrck_k (by decide) (by decide) rfl (by decide)) (Nat.le_of_ble_eq_true rfl) (m_ord27) ?_
  refine At.ak (j := 27) (x := 4) rfl rfl (by decide) rfl (by decide) rfl ?_
  refine At.go (q := xm40) rfl 1 (pc' := 154) (L' := [(3, .int (Int32.ofNat 4294967295)), (2, .ref (A (20 + i))), (0, .ref (A 0))]) (st' := []) rfl ?_
  refine At.go (q := xm40) rfl 2 (pc' := 156) (L' := [(3, .int (Int32.ofNat 4294967295)), (2, .ref (A (20 + i))), (0, .ref (A 0))]) (st' := [.ref (A (20 + i)), .ref (A 0)]) rfl ?_
  refine At.clm (as := [.ref (A 0), .ref (A (20 + i))]) (rest := []) rfl (by decide) rfl (Nat.le_of_ble_eq_true rfl) (Nat.le_of_ble_eq_true rfl) (xrck_o (by decide) (by decide) h0 (by decide)) (Nat.le_of_ble_eq_true rfl) (hin) (fun v9 hp1 c1 s1 hv9 => ?_)
  obtain ⟨rfl, ow1, np1, nl1, hw1, hR1, f1, e1, e2⟩ := hv9
  have k0 := hR1.2.2.1
  refine At.go (q := xm40) rfl 5 (pc' := 174) (L' := [(4, .int told), (3, .int (Int32.ofNat 4294967295)), (2, .ref (A (20 + i))), (0, .ref (A 0))]) (st' := [.ref (A 0), .ref (A (20 + i)), .ref (A 0)]) rfl ?_
  refine At.gf rfl (by decide) k0 rfl ?_
  refine At.ic1 (tgt := 185) rfl rfl (fun h177 => ?_) (fun h177 => ?_)
  · have hn0 : ¬ rf2 = 0 := of_decide_eq_true h177
    refine At.go (q := xm40) rfl 1 (pc' := 187) (L' := [(4, .int told), (3, .int (Int32.ofNat 4294967295)), (2, .ref (A (20 + i))), (0, .ref (A 0))]) (st' := [.int 114, .ref (A (20 + i)), .ref (A 0)]) rfl ?_
    refine At.clm (as := [.ref (A 0), .ref (A (20 + i)), .int 114]) (rest := []) rfl (by decide) rfl (Nat.le_of_ble_eq_true rfl) (Nat.le_of_ble_eq_true rfl) (xrck_o (by decide) (by decide) k0 (by decide)) (Nat.le_of_ble_eq_true rfl) (h_cnt1 hR1 hi hln hl64 hn0 hfit) (fun v9 hp2 c2 s2 hv9 => ?_)
    obtain ⟨rfl, hs2⟩ := hv9
    have hs2' := hs2
    obtain ⟨ow2, np2, nl2, hw2, hR2, f2, u1, u2⟩ := hs2'
    have k2 := hR2.2.2.1
    refine At.go (q := xm40) rfl 1 (pc' := 191) (L' := [(4, .int told), (3, .int (Int32.ofNat 4294967295)), (2, .ref (A (20 + i))), (0, .ref (A 0))]) (st' := [.ref (A 0)]) rfl ?_
    refine At.gf rfl (by decide) k2 rfl ?_
    refine At.ic1 (tgt := 205) rfl rfl (fun h => absurd (h.symm.trans (decide_eq_false hn0)) (by decide)) (fun _ => ?_)
    exact At.tw rfl (by decide) (Nat.le_of_ble_eq_true rfl) (hK1 hn0 _ _ _ (by have := HSt.plus (HSt.tr hw1 f1 e1 e2 hs2); rw [Nat.zero_add, Nat.zero_add]; exact this))
  · have h00 : rf2 = 0 := Decidable.not_not.mp (of_decide_eq_false h177)
    refine At.go (q := xm40) rfl 2 (pc' := 187) (L' := [(4, .int told), (3, .int (Int32.ofNat 4294967295)), (2, .ref (A (20 + i))), (0, .ref (A 0))]) (st' := [.int 100, .ref (A (20 + i)), .ref (A 0)]) rfl ?_
    refine At.clm (as := [.ref (A 0), .ref (A (20 + i)), .int 100]) (rest := []) rfl (by decide) rfl (Nat.le_of_ble_eq_true rfl) (Nat.le_of_ble_eq_true rfl) (xrck_o (by decide) (by decide) k0 (by decide)) (Nat.le_of_ble_eq_true rfl) (h_cnt0 hR1 hi hln hl64 h00) (fun v9 hp2 c2 s2 hv9 => ?_)
    obtain ⟨rfl, hs2⟩ := hv9
    have hs2' := hs2
    obtain ⟨ow2, np2, nl2, hw2, hR2, f2, u1, u2⟩ := hs2'
    have k2 := hR2.2.2.1
    refine At.go (q := xm40) rfl 1 (pc' := 191) (L' := [(4, .int told), (3, .int (Int32.ofNat 4294967295)), (2, .ref (A (20 + i))), (0, .ref (A 0))]) (st' := [.ref (A 0)]) rfl ?_
    refine At.gf rfl (by decide) k2 rfl ?_
    refine At.ic1 (tgt := 205) rfl rfl (fun _ => ?_) (fun h => absurd (h.symm.trans (decide_eq_true h00)) (by decide))
    refine At.go (q := xm40) rfl 1 (pc' := 207) (L' := [(4, .int told), (3, .int (Int32.ofNat 4294967295)), (2, .ref (A (20 + i))), (0, .ref (A 0))]) (st' := [.int told]) rfl ?_
    exact At.rt rfl (xret_i rfl) (hK0 h00 _ _ _ (by have := (HSt.tr hw1 f1 e1 e2 hs2); rw [h00] at this; rw [Nat.zero_add, Nat.zero_add]; exact this))
theorem run_a {S : List Int32} {hp : List XC} {ow : Nat → Nat} {k : Nat} {A : Nat → Nat} {M : HM} {np nl : Nat} {i ln vb : Nat} {sf9 : List Value} {told rf2 : Int32} {M2 : HM} {Kc Ks : Nat} {Q : XO → Prop} (h : HR hp ow k A M 0 np nl) (hi : i < 8) (hln : (M2.2.2.2.1 i).1 = Int32.ofNat ln) (hl64 : ln < 64) (hst : hp[A 60]? = some (.inr (12, sf9))) (hvb9 : sf9[2]? = some (.retAddr vb)) (hvb : vb = 16 ∨ vb = 18 ∨ vb = 19) (hin : Me S 11 190 [.ref (A 0), .ref (A (20 + i))] hp (fun v hp' c s => v = some (.int told) ∧ HSt hp hp' ow k A M2 rf2 np nl c s Kc Ks)) (hfit : xfit (xFT 9 6) (.int rf2) = true) (hK0 : rf2 = 0 → ∀ hp' c s, HSt hp hp' ow k A (mTally M2 (addT M2.2.2.2.2.1 (ln * 4 + 0))) 0 np nl c s Kc Ks → Q (.inl (some (.int told), hp', c, s))) (hK1 : ¬ rf2 = 0 → ∀ hp' c s, HSt hp hp' ow k A (mTally (mS M2 i (sRea (M2.2.2.2.1 i) rf2)) (addT M2.2.2.2.2.1 (ln * 4 + 1))) rf2 np nl c s (Kc + 1) (Ks + 6) → Q (.inr (3, hp', c, s))) : At S 12 40 66 [(3, .int (Int32.ofNat 4294967295)), (2, .ref (A (20 + i))), (0, .ref (A 0))] [] hp 0 0 Q := by
  obtain ⟨hO, how, h0, h1, h3, hD, hF, hE, hT, ⟨lv9, hG⟩, hC, hL9, hQ, hW, hS, hTq9, htd, hcap⟩ := id h
  rcases hvb with rfl | rfl | rfl
  · refine At.go (q := xm40) rfl 1 (pc' := 67) (L' := [(3, .int (Int32.ofNat 4294967295)), (2, .ref (A (20 + i))), (0, .ref (A 0))]) (st' := [.int (Int32.ofNat 4294967295)]) rfl ?_
    refine At.ic1 (tgt := 81) rfl rfl (fun _ => ?_) (fun h => absurd (h.symm.trans (show decide (Int32.ofNat 4294967295 < 0) = true by decide)) (by decide))
    refine At.go (q := xm40) rfl 2 (pc' := 85) (L' := [(3, .int (Int32.ofNat 4294967295)), (2, .ref (A (20 + i))), (0, .ref (A 0))]) (st' := [.ref (A 0), .retAddr 222]) rfl ?_
    refine At.gf rfl (by decide) h0 rfl ?_
    refine At.gf rfl (by decide) hst hvb9 ?_
    refine At.clp (as := [.retAddr 16]) (rest := [.retAddr 222]) rfl (by decide) rfl (Nat.le_of_ble_eq_true rfl) (Nat.le_of_ble_eq_true rfl) (xrck_k (by decide) (by decide) rfl (by decide)) (Nat.le_of_ble_eq_true rfl) (m_ord16) ?_
    refine At.ak (j := 16) (x := 21) rfl rfl (by decide) rfl (by decide) rfl ?_
    refine At.go (q := xm40) rfl 1 (pc' := 164) (L' := [(3, .int (Int32.ofNat 4294967295)), (2, .ref (A (20 + i))), (0, .ref (A 0))]) (st' := []) rfl ?_
    refine At.go (q := xm40) rfl 2 (pc' := 166) (L' := [(3, .int (Int32.ofNat 4294967295)), (2, .ref (A (20 + i))), (0, .ref (A 0))]) (st' := [.ref (A (20 + i)), .ref (A 0)]) rfl ?_
    refine At.clm (as := [.ref (A 0), .ref (A (20 + i))]) (rest := []) rfl (by decide) rfl (Nat.le_of_ble_eq_true rfl) (Nat.le_of_ble_eq_true rfl) (xrck_o (by decide) (by decide) h0 (by decide)) (Nat.le_of_ble_eq_true rfl) (hin) (fun v9 hp1 c1 s1 hv9 => ?_)
    obtain ⟨rfl, ow1, np1, nl1, hw1, hR1, f1, e1, e2⟩ := hv9
    have k0 := hR1.2.2.1
    refine At.go (q := xm40) rfl 4 (pc' := 174) (L' := [(4, .int told), (3, .int (Int32.ofNat 4294967295)), (2, .ref (A (20 + i))), (0, .ref (A 0))]) (st' := [.ref (A 0), .ref (A (20 + i)), .ref (A 0)]) rfl ?_
    refine At.gf rfl (by decide) k0 rfl ?_
    refine At.ic1 (tgt := 185) rfl rfl (fun h177 => ?_) (fun h177 => ?_)
    · have hn0 : ¬ rf2 = 0 := of_decide_eq_true h177
      refine At.go (q := xm40) rfl 1 (pc' := 187) (L' := [(4, .int told), (3, .int (Int32.ofNat 4294967295)), (2, .ref (A (20 + i))), (0, .ref (A 0))]) (st' := [.int 114, .ref (A (20 + i)), .ref (A 0)]) rfl ?_
      refine At.clm (as := [.ref (A 0), .ref (A (20 + i)), .int 114]) (rest := []) rfl (by decide) rfl (Nat.le_of_ble_eq_true rfl) (Nat.le_of_ble_eq_true rfl) (xrck_o (by decide) (by decide) k0 (by decide)) (Nat.le_of_ble_eq_true rfl) (h_cnt1 hR1 hi hln hl64 hn0 hfit) (fun v9 hp2 c2 s2 hv9 => ?_)
      obtain ⟨rfl, hs2⟩ := hv9
      have hs2' := hs2
      obtain ⟨ow2, np2, nl2, hw2, hR2, f2, u1, u2⟩ := hs2'
      have k2 := hR2.2.2.1
      refine At.go (q := xm40) rfl 1 (pc' := 191) (L' := [(4, .int told), (3, .int (Int32.ofNat 4294967295)), (2, .ref (A (20 + i))), (0, .ref (A 0))]) (st' := [.ref (A 0)]) rfl ?_
      refine At.gf rfl (by decide) k2 rfl ?_
      refine At.ic1 (tgt := 205) rfl rfl (fun h => absurd (h.symm.trans (decide_eq_false hn0)) (by decide)) (fun _ => ?_)
      exact At.tw rfl (by decide) (Nat.le_of_ble_eq_true rfl) (hK1 hn0 _ _ _ (by have := HSt.plus (HSt.tr hw1 f1 e1 e2 hs2); rw [Nat.zero_add, Nat.zero_add]; exact this))
    · have h00 : rf2 = 0 := Decidable.not_not.mp (of_decide_eq_false h177)
      refine At.go (q := xm40) rfl 2 (pc' := 187) (L' := [(4, .int told), (3, .int (Int32.ofNat 4294967295)), (2, .ref (A (20 + i))), (0, .ref (A 0))]) (st' := [.int 100, .ref (A (20 + i)), .ref (A 0)]) rfl ?_
      refine At.clm (as := [.ref (A 0), .ref (A (20 + i)), .int 100]) (rest := []) rfl (by decide) rfl (Nat.le_of_ble_eq_true rfl) (Nat.le_of_ble_eq_true rfl) (xrck_o (by decide) (by decide) k0 (by decide)) (Nat.le_of_ble_eq_true rfl) (h_cnt0 hR1 hi hln hl64 h00) (fun v9 hp2 c2 s2 hv9 => ?_)
      obtain ⟨rfl, hs2⟩ := hv9
      have hs2' := hs2
      obtain ⟨ow2, np2, nl2, hw2, hR2, f2, u1, u2⟩ := hs2'
      have k2 := hR2.2.2.1
      refine At.go (q := xm40) rfl 1 (pc' := 191) (L' := [(4, .int told), (3, .int (Int32.ofNat 4294967295)), (2, .ref (A (20 + i))), (0, .ref (A 0))]) (st' := [.ref (A 0)]) rfl ?_
      refine At.gf rfl (by decide) k2 rfl ?_
      refine At.ic1 (tgt := 205) rfl rfl (fun _ => ?_) (fun h => absurd (h.symm.trans (decide_eq_true h00)) (by decide))
      refine At.go (q := xm40) rfl 1 (pc' := 207) (L' := [(4, .int told), (3, .int (Int32.ofNat 4294967295)), (2, .ref (A (20 + i))), (0, .ref (A 0))]) (st' := [.int told]) rfl ?_
      exact At.rt rfl (xret_i rfl) (hK0 h00 _ _ _ (by have := (HSt.tr hw1 f1 e1 e2 hs2); rw [h00] at this; rw [Nat.zero_add, Nat.zero_add]; exact this))
  · refine At.go (q := xm40) rfl 1 (pc' := 67) (L' := [(3, .int (Int32.ofNat 4294967295)), (2, .ref (A (20 + i))), (0, .ref (A 0))]) (st' := [.int (Int32.ofNat 4294967295)]) rfl ?_
    refine At.ic1 (tgt := 81) rfl rfl (fun _ => ?_) (fun h => absurd (h.symm.trans (show decide (Int32.ofNat 4294967295 < 0) = true by decide)) (by decide))
    refine At.go (q := xm40) rfl 2 (pc' := 85) (L' := [(3, .int (Int32.ofNat 4294967295)), (2, .ref (A (20 + i))), (0, .ref (A 0))]) (st' := [.ref (A 0), .retAddr 222]) rfl ?_
    refine At.gf rfl (by decide) h0 rfl ?_
    refine At.gf rfl (by decide) hst hvb9 ?_
    refine At.clp (as := [.retAddr 18]) (rest := [.retAddr 222]) rfl (by decide) rfl (Nat.le_of_ble_eq_true rfl) (Nat.le_of_ble_eq_true rfl) (xrck_k (by decide) (by decide) rfl (by decide)) (Nat.le_of_ble_eq_true rfl) (m_ord18) ?_
    refine At.ak (j := 18) (x := 22) rfl rfl (by decide) rfl (by decide) rfl ?_
    refine At.go (q := xm40) rfl 1 (pc' := 164) (L' := [(3, .int (Int32.ofNat 4294967295)), (2, .ref (A (20 + i))), (0, .ref (A 0))]) (st' := []) rfl ?_
    refine At.go (q := xm40) rfl 2 (pc' := 166) (L' := [(3, .int (Int32.ofNat 4294967295)), (2, .ref (A (20 + i))), (0, .ref (A 0))]) (st' := [.ref (A (20 + i)), .ref (A 0)]) rfl ?_
    refine At.clm (as := [.ref (A 0), .ref (A (20 + i))]) (rest := []) rfl (by decide) rfl (Nat.le_of_ble_eq_true rfl) (Nat.le_of_ble_eq_true rfl) (xrck_o (by decide) (by decide) h0 (by decide)) (Nat.le_of_ble_eq_true rfl) (hin) (fun v9 hp1 c1 s1 hv9 => ?_)
    obtain ⟨rfl, ow1, np1, nl1, hw1, hR1, f1, e1, e2⟩ := hv9
    have k0 := hR1.2.2.1
    refine At.go (q := xm40) rfl 4 (pc' := 174) (L' := [(4, .int told), (3, .int (Int32.ofNat 4294967295)), (2, .ref (A (20 + i))), (0, .ref (A 0))]) (st' := [.ref (A 0), .ref (A (20 + i)), .ref (A 0)]) rfl ?_
    refine At.gf rfl (by decide) k0 rfl ?_
    refine At.ic1 (tgt := 185) rfl rfl (fun h177 => ?_) (fun h177 => ?_)
    · have hn0 : ¬ rf2 = 0 := of_decide_eq_true h177
      refine At.go (q := xm40) rfl 1 (pc' := 187) (L' := [(4, .int told), (3, .int (Int32.ofNat 4294967295)), (2, .ref (A (20 + i))), (0, .ref (A 0))]) (st' := [.int 114, .ref (A (20 + i)), .ref (A 0)]) rfl ?_
      refine At.clm (as := [.ref (A 0), .ref (A (20 + i)), .int 114]) (rest := []) rfl (by decide) rfl (Nat.le_of_ble_eq_true rfl) (Nat.le_of_ble_eq_true rfl) (xrck_o (by decide) (by decide) k0 (by decide)) (Nat.le_of_ble_eq_true rfl) (h_cnt1 hR1 hi hln hl64 hn0 hfit) (fun v9 hp2 c2 s2 hv9 => ?_)
      obtain ⟨rfl, hs2⟩ := hv9
      have hs2' := hs2
      obtain ⟨ow2, np2, nl2, hw2, hR2, f2, u1, u2⟩ := hs2'
      have k2 := hR2.2.2.1
      refine At.go (q := xm40) rfl 1 (pc' := 191) (L' := [(4, .int told), (3, .int (Int32.ofNat 4294967295)), (2, .ref (A (20 + i))), (0, .ref (A 0))]) (st' := [.ref (A 0)]) rfl ?_
      refine At.gf rfl (by decide) k2 rfl ?_
      refine At.ic1 (tgt := 205) rfl rfl (fun h => absurd (h.symm.trans (decide_eq_false hn0)) (by decide)) (fun _ => ?_)
      exact At.tw rfl (by decide) (Nat.le_of_ble_eq_true rfl) (hK1 hn0 _ _ _ (by have := HSt.plus (HSt.tr hw1 f1 e1 e2 hs2); rw [Nat.zero_add, Nat.zero_add]; exact this))
    · have h00 : rf2 = 0 := Decidable.not_not.mp (of_decide_eq_false h177)
      refine At.go (q := xm40) rfl 2 (pc' := 187) (L' := [(4, .int told), (3, .int (Int32.ofNat 4294967295)), (2, .ref (A (20 + i))), (0, .ref (A 0))]) (st' := [.int 100, .ref (A (20 + i)), .ref (A 0)]) rfl ?_
      refine At.clm (as := [.ref (A 0), .ref (A (20 + i)), .int 100]) (rest := []) rfl (by decide) rfl (Nat.le_of_ble_eq_true rfl) (Nat.le_of_ble_eq_true rfl) (xrck_o (by decide) (by decide) k0 (by decide)) (Nat.le_of_ble_eq_true rfl) (h_cnt0 hR1 hi hln hl64 h00) (fun v9 hp2 c2 s2 hv9 => ?_)
      obtain ⟨rfl, hs2⟩ := hv9
      have hs2' := hs2
      obtain ⟨ow2, np2, nl2, hw2, hR2, f2, u1, u2⟩ := hs2'
      have k2 := hR2.2.2.1
      refine At.go (q := xm40) rfl 1 (pc' := 191) (L' := [(4, .int told), (3, .int (Int32.ofNat 4294967295)), (2, .ref (A (20 + i))), (0, .ref (A 0))]) (st' := [.ref (A 0)]) rfl ?_
      refine At.gf rfl (by decide) k2 rfl ?_
      refine At.ic1 (tgt := 205) rfl rfl (fun _ => ?_) (fun h => absurd (h.symm.trans (decide_eq_true h00)) (by decide))
      refine At.go (q := xm40) rfl 1 (pc' := 207) (L' := [(4, .int told), (3, .int (Int32.ofNat 4294967295)), (2, .ref (A (20 + i))), (0, .ref (A 0))]) (st' := [.int told]) rfl ?_
      exact At.rt rfl (xret_i rfl) (hK0 h00 _ _ _ (by have := (HSt.tr hw1 f1 e1 e2 hs2); rw [h00] at this; rw [Nat.zero_add, Nat.zero_add]; exact this))
  · refine At.go (q := xm40) rfl 1 (pc' := 67) (L' := [(3, .int (Int32.ofNat 4294967295)), (2, .ref (A (20 + i))), (0, .ref (A 0))]) (st' := [.int (Int32.ofNat 4294967295)]) rfl ?_
    refine At.ic1 (tgt := 81) rfl rfl (fun _ => ?_) (fun h => absurd (h.symm.trans (show decide (Int32.ofNat 4294967295 < 0) = true by decide)) (by decide))
    refine At.go (q := xm40) rfl 2 (pc' := 85) (L' := [(3, .int (Int32.ofNat 4294967295)), (2, .ref (A (20 + i))), (0, .ref (A 0))]) (st' := [.ref (A 0), .retAddr 222]) rfl ?_
    refine At.gf rfl (by decide) h0 rfl ?_
    refine At.gf rfl (by decide) hst hvb9 ?_
    refine At.clp (as := [.retAddr 19]) (rest := [.retAddr 222]) rfl (by decide) rfl (Nat.le_of_ble_eq_true rfl) (Nat.le_of_ble_eq_true rfl) (xrck_k (by decide) (by decide) rfl (by decide)) (Nat.le_of_ble_eq_true rfl) (m_ord19) ?_
    refine At.ak (j := 19) (x := 23) rfl rfl (by decide) rfl (by decide) rfl ?_
    refine At.go (q := xm40) rfl 1 (pc' := 164) (L' := [(3, .int (Int32.ofNat 4294967295)), (2, .ref (A (20 + i))), (0, .ref (A 0))]) (st' := []) rfl ?_
    refine At.go (q := xm40) rfl 2 (pc' := 166) (L' := [(3, .int (Int32.ofNat 4294967295)), (2, .ref (A (20 + i))), (0, .ref (A 0))]) (st' := [.ref (A (20 + i)), .ref (A 0)]) rfl ?_
    refine At.clm (as := [.ref (A 0), .ref (A (20 + i))]) (rest := []) rfl (by decide) rfl (Nat.le_of_ble_eq_true rfl) (Nat.le_of_ble_eq_true rfl) (xrck_o (by decide) (by decide) h0 (by decide)) (Nat.le_of_ble_eq_true rfl) (hin) (fun v9 hp1 c1 s1 hv9 => ?_)
    obtain ⟨rfl, ow1, np1, nl1, hw1, hR1, f1, e1, e2⟩ := hv9
    have k0 := hR1.2.2.1
    refine At.go (q := xm40) rfl 4 (pc' := 174) (L' := [(4, .int told), (3, .int (Int32.ofNat 4294967295)), (2, .ref (A (20 + i))), (0, .ref (A 0))]) (st' := [.ref (A 0), .ref (A (20 + i)), .ref (A 0)]) rfl ?_
    refine At.gf rfl (by decide) k0 rfl ?_
    refine At.ic1 (tgt := 185) rfl rfl (fun h177 => ?_) (fun h177 => ?_)
    · have hn0 : ¬ rf2 = 0 := of_decide_eq_true h177
      refine At.go (q := xm40) rfl 1 (pc' := 187) (L' := [(4, .int told), (3, .int (Int32.ofNat 4294967295)), (2, .ref (A (20 + i))), (0, .ref (A 0))]) (st' := [.int 114, .ref (A (20 + i)), .ref (A 0)]) rfl ?_
      refine At.clm (as := [.ref (A 0), .ref (A (20 + i)), .int 114]) (rest := []) rfl (by decide) rfl (Nat.le_of_ble_eq_true rfl) (Nat.le_of_ble_eq_true rfl) (xrck_o (by decide) (by decide) k0 (by decide)) (Nat.le_of_ble_eq_true rfl) (h_cnt1 hR1 hi hln hl64 hn0 hfit) (fun v9 hp2 c2 s2 hv9 => ?_)
      obtain ⟨rfl, hs2⟩ := hv9
      have hs2' := hs2
      obtain ⟨ow2, np2, nl2, hw2, hR2, f2, u1, u2⟩ := hs2'
      have k2 := hR2.2.2.1
      refine At.go (q := xm40) rfl 1 (pc' := 191) (L' := [(4, .int told), (3, .int (Int32.ofNat 4294967295)), (2, .ref (A (20 + i))), (0, .ref (A 0))]) (st' := [.ref (A 0)]) rfl ?_
      refine At.gf rfl (by decide) k2 rfl ?_
      refine At.ic1 (tgt := 205) rfl rfl (fun h => absurd (h.symm.trans (decide_eq_false hn0)) (by decide)) (fun _ => ?_)
      exact At.tw rfl (by decide) (Nat.le_of_ble_eq_true rfl) (hK1 hn0 _ _ _ (by have := HSt.plus (HSt.tr hw1 f1 e1 e2 hs2); rw [Nat.zero_add, Nat.zero_add]; exact this))
    · have h00 : rf2 = 0 := Decidable.not_not.mp (of_decide_eq_false h177)
      refine At.go (q := xm40) rfl 2 (pc' := 187) (L' := [(4, .int told), (3, .int (Int32.ofNat 4294967295)), (2, .ref (A (20 + i))), (0, .ref (A 0))]) (st' := [.int 100, .ref (A (20 + i)), .ref (A 0)]) rfl ?_
      refine At.clm (as := [.ref (A 0), .ref (A (20 + i)), .int 100]) (rest := []) rfl (by decide) rfl (Nat.le_of_ble_eq_true rfl) (Nat.le_of_ble_eq_true rfl) (xrck_o (by decide) (by decide) k0 (by decide)) (Nat.le_of_ble_eq_true rfl) (h_cnt0 hR1 hi hln hl64 h00) (fun v9 hp2 c2 s2 hv9 => ?_)
      obtain ⟨rfl, hs2⟩ := hv9
      have hs2' := hs2
      obtain ⟨ow2, np2, nl2, hw2, hR2, f2, u1, u2⟩ := hs2'
      have k2 := hR2.2.2.1
      refine At.go (q := xm40) rfl 1 (pc' := 191) (L' := [(4, .int told), (3, .int (Int32.ofNat 4294967295)), (2, .ref (A (20 + i))), (0, .ref (A 0))]) (st' := [.ref (A 0)]) rfl ?_
      refine At.gf rfl (by decide) k2 rfl ?_
      refine At.ic1 (tgt := 205) rfl rfl (fun _ => ?_) (fun h => absurd (h.symm.trans (decide_eq_true h00)) (by decide))
      refine At.go (q := xm40) rfl 1 (pc' := 207) (L' := [(4, .int told), (3, .int (Int32.ofNat 4294967295)), (2, .ref (A (20 + i))), (0, .ref (A 0))]) (st' := [.int told]) rfl ?_
      exact At.rt rfl (xret_i rfl) (hK0 h00 _ _ _ (by have := (HSt.tr hw1 f1 e1 e2 hs2); rw [h00] at this; rw [Nat.zero_add, Nat.zero_add]; exact this))
