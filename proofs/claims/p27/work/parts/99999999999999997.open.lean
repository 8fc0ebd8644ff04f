/-! whether a transaction is open (by hand) -/
theorem h_isOpen {S : List Int32} {hp : List XC} {ow : Nat → Nat} {k : Nat} {A : Nat → Nat} {M : HM} {rf : Int32} {np nl i : Nat} (h : HR hp ow k A M rf np nl) (hi : i < 8) : Pu S 1 267 [.ref (A 0), .int (Int32.ofNat i)] hp (.int (bI (M.2.2.2.1 i).2.2.1)) := by
  obtain ⟨hO, how, h0, h1, h3, hD, hF, hE, hT, ⟨lv9, hG⟩, hC, hL9, hQ, hW, hS, hTq9, htd, hcap⟩ := id h
  obtain ⟨za, ab, a1, a2, a3, a4, a5, a6, a7, a8, a9, a10, a11, a12, a13, a14⟩ := hS i hi
  exact m_hisOpen h0 rfl h1 (by rw [List.length_map, List.length_range]; decide) (by rw [List.getElem?_map, List.getElem?_range hi]; rfl) a1
/-- what low sessions are told is alike -/
theorem lo_anL {w : Int32 → Bool} {f : Int32 → Int32} {g : Nat → Nat} {M N : HM} {i : Nat} (R : Rel w f g M N) (hi : i < 8) (hl : w (M.2.2.2.1 i).1 = true) : anL (N.2.2.2.1 i) = anL (M.2.2.2.1 i) := by
  unfold anL
  rw [lo_ans R hi hl]
