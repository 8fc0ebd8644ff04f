/-! the house: a new table (written by wip/p27/c99999999990.py) -/
theorem HSt.newT {g g' : List XC} {ow ow' : Nat → Nat} {k : Nat} {A : Nat → Nat} {M : HM} {rf : Int32} {np nl c s : Nat} {q' : TQ} (h : HR g ow k A M rf np nl) (f : FrX (fun _ => False) g g') (hw : ∀ a, a < g.length → ow' a = ow a) (hq : hTq g' ow' k q') (h1 : g.length ≤ q'.1.1) (h2 : g.length ≤ q'.1.2.1) : HSt g g' ow k A (mTabs M (M.2.2.2.2.2.2 ++ [q'])) rf np nl c s c s := by
  obtain ⟨hO, how, h0, h1b, h3, hD, hF, hE, hT, ⟨lv9, hG⟩, hC, hL9, hQ, hW, hS, hTq9, htd, hcap⟩ := id h
  obtain ⟨Z, hZ⟩ : ∃ Z : Nat → Prop, Z = fun n => n = k + 999 := ⟨_, rfl⟩
  have hz : ∀ n, Z n → n = k + 999 := fun n z9 => by rw [hZ] at z9; exact z9
  have hzk : ∀ n, Z n → k ≤ n ∧ n < k + 1000 := fun n z => by have z9 := hz n z; omega
  have f' : FrX (fun a => Z (ow a)) g g' := f.mono (fun x _ e => e.elim)
  have old : ∀ p ∈ M.2.2.2.2.2.2, p.1.1 < g.length ∧ p.1.2.1 < g.length := fun p hp => by
    obtain ⟨b1, b2, b3, b4, b5, fs, b6, -⟩ := hTq9 p hp
    exact ⟨(List.getElem?_eq_some_iff.mp b6).1, (List.getElem?_eq_some_iff.mp b2).1⟩
  have hTn : ∀ p ∈ (mTabs M (M.2.2.2.2.2.2 ++ [q'])).2.2.2.2.2.2, hTq g' ow' k p := fun p hp => by
    rcases List.mem_append.mp (show p ∈ M.2.2.2.2.2.2 ++ [q'] from hp) with hp | hp
    · exact hTq.fr (Z := Z) (hTq9 p hp) f' hw (fun z => by have z9 := hz _ z; omega) (fun z => by have z9 := hz _ z; omega) (fun z => by have z9 := hz _ z; omega) (fun z => by have z9 := hz _ z; omega)
    · rw [List.mem_singleton.mp hp]; exact hq
  have hTd : ∀ p ∈ (mTabs M (M.2.2.2.2.2.2 ++ [q'])).2.2.2.2.2.2, ∀ r ∈ (mTabs M (M.2.2.2.2.2.2 ++ [q'])).2.2.2.2.2.2, p.1.1 = r.1.1 ∨ p.1.2.1 = r.1.2.1 → p = r := fun p hp r hr he => by
    rcases List.mem_append.mp (show p ∈ M.2.2.2.2.2.2 ++ [q'] from hp) with hp | hp
    · rcases List.mem_append.mp (show r ∈ M.2.2.2.2.2.2 ++ [q'] from hr) with hr | hr
      · exact htd p hp r hr he
      · have e := List.mem_singleton.mp hr; rw [e] at he; have u := old p hp; exfalso; rcases he with he | he <;> omega
    · have e := List.mem_singleton.mp hp
      rcases List.mem_append.mp (show r ∈ M.2.2.2.2.2.2 ++ [q'] from hr) with hr | hr
      · rw [e] at he; have u := old r hr; exfalso; rcases he with he | he <;> omega
      · rw [e, List.mem_singleton.mp hr]
  have ec := h.caps f' [] (by decide) (fun j z hj => by have j9 := lsI_c j hj; have z9 := hz _ z; omega)
  simp only [sumL, List.map_nil, List.sum_nil] at ec
  exact ⟨ow', np, nl, hw, h.upd (Z := Z) f' hw (fun z => by have z9 := hz _ z; omega) (fun z => by have z9 := hz _ z; omega) (Or.inl ⟨(fun z => by have z9 := hz _ z; omega), rfl, rfl⟩) (Or.inl ⟨(fun z => by have z9 := hz _ z; omega), rfl⟩) (Or.inl ⟨(fun z => by have z9 := hz _ z; omega), rfl⟩) (Or.inl ⟨(fun z => by have z9 := hz _ z; omega), rfl⟩) (Or.inl ⟨(fun z => by have z9 := hz _ z; omega), rfl⟩) (Or.inl (fun z => by have z9 := hz _ z; omega)) (Or.inl ⟨(fun z => by have z9 := hz _ z; omega), (fun z => by have z9 := hz _ z; omega), (fun z => by have z9 := hz _ z; omega)⟩) (fun j hj => Or.inl (fun z => by simp only [List.mem_cons, List.not_mem_nil, or_false] at hj; have z9 := hz _ z; omega)) (Or.inl ⟨(fun z => by have z9 := hz _ z; omega), (fun z => by have z9 := hz _ z; omega), (fun z => by have z9 := hz _ z; omega), (fun z => by have z9 := hz _ z; omega), rfl, rfl⟩) (Or.inl (fun j j1 j2 z => by have z9 := hz _ z; omega)) (fun j hj => Or.inl ⟨(fun z => by have z9 := hz _ z; omega), (fun z => by have z9 := hz _ z; omega), (fun z => by have z9 := hz _ z; omega), (fun z => by have z9 := hz _ z; omega), (fun z => by have z9 := hz _ z; omega), (fun z => by have z9 := hz _ z; omega), rfl⟩) (Or.inr ⟨hTn, hTd⟩) (fun j hj => Or.inl (fun z => by have j9 := lsI_c j hj; have z9 := hz _ z; omega)), f'.mono (fun x _ e => hzk _ e), by omega, by omega⟩
