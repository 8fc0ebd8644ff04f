/-! the house: the law's tables (written by wip/p27/c99999999991.py) -/
theorem eh_at {ρ σ : Nat → Nat} {ω : Nat → Value} {g g' : List XC} {N : List WC} (eh : g' = g ++ N.map (wtc ρ σ ω)) {j : Nat} {c : WC} (hj : N[j]? = some c) : g'[g.length + j]? = some (wtc ρ σ ω c) := by
  rw [eh, List.getElem?_append_right (Nat.le_add_right _ _), Nat.add_sub_cancel_left, List.getElem?_map, hj]
  rfl
/-- a new table's serial and label -/
def nSr (σ : Nat → Nat) : Int32 := Int32.ofNat (wg ((List.range 400).map Nat.succ) (σ 20))
def nLb (σ : Nat → Nat) : Int32 := Int32.ofNat (wg [0, 1, 16, 17] (σ 10))
def tQ_tan (n : Nat) (σ : Nat → Nat) : TQ := ((n + 0, n + 1, 0), nSr σ, (14348907, nLb σ, [157837977, 315675954], [22, 24], [none, none]), false, List.replicate 64 0, false)
def tO_tan (ow : Nat → Nat) (k n : Nat) : Nat → Nat := fun a => if a < n then ow a else if a = n + 0 then k + 300 else if a = n + 1 then k + 301 else k + 304
theorem hq_tan {g g' : List XC} {ρ σ : Nat → Nat} {ω : Nat → Value} {ow : Nat → Nat} {k : Nat} (eh : g' = g ++ nW_tan.map (wtc ρ σ ω)) (hr : ∀ j, ρ (18 + j) = g.length + j) : hTq g' (tO_tan ow k g.length) k (tQ_tan g.length σ) := by
  have c0 : g'[g.length + 0]? = some (.inr (13, [.int (nSr σ), .int 14348907, .int (nLb σ), .ref (ρ 20), .ref (ρ 21), .ref (ρ 22), .null, .ref (ρ 19), .int 0])) := eh_at eh (j := 0) rfl
  rw [show ρ 20 = g.length + 2 from hr 2, show ρ 21 = g.length + 3 from hr 3, show ρ 22 = g.length + 4 from hr 4, show ρ 19 = g.length + 1 from hr 1] at c0
  have c1 : g'[g.length + 1]? = some (.inl (22, (List.replicate 64 (0 : Int32)).map Value.int)) := eh_at eh (j := 1) rfl
  have c2 : g'[g.length + 2]? = some (.inl (23, ([157837977, 315675954] : List Int32).map Value.int)) := eh_at eh (j := 2) rfl
  have c3 : g'[g.length + 3]? = some (.inl (29, ([22, 24] : List Nat).map Value.retAddr)) := eh_at eh (j := 3) rfl
  have c4 : g'[g.length + 4]? = some (.inl (6, ([none, none] : List (Option (Nat × Int32))).map oref)) := eh_at eh (j := 4) rfl
  have o0 : tO_tan ow k g.length (g.length + 0) = k + 300 := by unfold tO_tan; rw [if_neg (by omega), if_pos rfl]
  have o1 : tO_tan ow k g.length (g.length + 1) = k + 301 := by unfold tO_tan; rw [if_neg (by omega), if_neg (by omega), if_pos rfl]
  have o2 : tO_tan ow k g.length (g.length + 2) = k + 304 := by unfold tO_tan; rw [if_neg (by omega), if_neg (by omega), if_neg (by omega)]
  have o3 : tO_tan ow k g.length (g.length + 3) = k + 304 := by unfold tO_tan; rw [if_neg (by omega), if_neg (by omega), if_neg (by omega)]
  have o4 : tO_tan ow k g.length (g.length + 4) = k + 304 := by unfold tO_tan; rw [if_neg (by omega), if_neg (by omega), if_neg (by omega)]
  have href : ∀ (i : Nat) (r9 : Nat × Int32), ([none, none] : List (Option (Nat × Int32)))[i]? = some (some r9) → ∃ fs, g'[r9.1]? = some (.inr (13, .int r9.2 :: fs)) := fun i r9 hr9 => by
    have hi : i = 0 ∨ i = 1 := by have := (List.getElem?_eq_some_iff.mp hr9).1; simp only [List.length_cons, List.length_nil] at this; omega
    rcases hi with e | e <;> (subst e; cases hr9)
  exact ⟨⟨_, _, _, _, _, _, c0, c2, c3, c4, rfl, rfl, (show ([157837977, 315675954] : List Int32).length ≤ 100 by decide), (show ∀ k ∈ ([22, 24] : List Nat), k < 51 by decide), href⟩, c1, List.length_replicate, o0, o1, _, c0, rfl, rfl, ⟨_, _, _, rfl, rfl, rfl, o2, o3, o4⟩, Or.inl ⟨rfl, rfl⟩⟩
def tQ_tau (n : Nat) (σ : Nat → Nat) : TQ := ((n + 6, n + 7, n + 4), nSr σ, (14348907, nLb σ, [157837977, 315675954], [22, 25], [none, none]), true, List.replicate 64 0, false)
def tO_tau (ow : Nat → Nat) (k n : Nat) : Nat → Nat := fun a => if a < n then ow a else if a = n + 6 then k + 300 else if a = n + 7 then k + 301 else if a = n + 4 then k + 303 else if a < n + 6 then k + 302 else k + 304
theorem hq_tau {g g' : List XC} {ρ σ : Nat → Nat} {ω : Nat → Value} {ow : Nat → Nat} {k : Nat} (eh : g' = g ++ nW_tau.map (wtc ρ σ ω)) (hr : ∀ j, ρ (18 + j) = g.length + j) : hTq g' (tO_tau ow k g.length) k (tQ_tau g.length σ) := by
  have c0 : g'[g.length + 6]? = some (.inr (13, [.int (nSr σ), .int 14348907, .int (nLb σ), .ref (ρ 26), .ref (ρ 27), .ref (ρ 28), .ref (ρ 18), .ref (ρ 25), .int 0])) := eh_at eh (j := 6) rfl
  rw [show ρ 26 = g.length + 8 from hr 8, show ρ 27 = g.length + 9 from hr 9, show ρ 28 = g.length + 10 from hr 10, show ρ 18 = g.length + 0 from hr 0, show ρ 25 = g.length + 7 from hr 7] at c0
  have c1 : g'[g.length + 7]? = some (.inl (22, (List.replicate 64 (0 : Int32)).map Value.int)) := eh_at eh (j := 7) rfl
  have c2 : g'[g.length + 8]? = some (.inl (23, ([157837977, 315675954] : List Int32).map Value.int)) := eh_at eh (j := 8) rfl
  have c3 : g'[g.length + 9]? = some (.inl (29, ([22, 25] : List Nat).map Value.retAddr)) := eh_at eh (j := 9) rfl
  have c4 : g'[g.length + 10]? = some (.inl (6, ([none, none] : List (Option (Nat × Int32))).map oref)) := eh_at eh (j := 10) rfl
  have o0 : tO_tau ow k g.length (g.length + 6) = k + 300 := by unfold tO_tau; rw [if_neg (by omega), if_pos rfl]
  have o1 : tO_tau ow k g.length (g.length + 7) = k + 301 := by unfold tO_tau; rw [if_neg (by omega), if_neg (by omega), if_pos rfl]
  have o2 : tO_tau ow k g.length (g.length + 8) = k + 304 := by unfold tO_tau; rw [if_neg (by omega), if_neg (by omega), if_neg (by omega), if_neg (by omega), if_neg (by omega)]
  have o3 : tO_tau ow k g.length (g.length + 9) = k + 304 := by unfold tO_tau; rw [if_neg (by omega), if_neg (by omega), if_neg (by omega), if_neg (by omega), if_neg (by omega)]
  have o4 : tO_tau ow k g.length (g.length + 10) = k + 304 := by unfold tO_tau; rw [if_neg (by omega), if_neg (by omega), if_neg (by omega), if_neg (by omega), if_neg (by omega)]
  have href : ∀ (i : Nat) (r9 : Nat × Int32), ([none, none] : List (Option (Nat × Int32)))[i]? = some (some r9) → ∃ fs, g'[r9.1]? = some (.inr (13, .int r9.2 :: fs)) := fun i r9 hr9 => by
    have hi : i = 0 ∨ i = 1 := by have := (List.getElem?_eq_some_iff.mp hr9).1; simp only [List.length_cons, List.length_nil] at this; omega
    rcases hi with e | e <;> (subst e; cases hr9)
  have d0 : g'[g.length + 0]? = some (.inr (5, [.ref (ρ 19), .ref (ρ 20), .ref (ρ 21), .ref (ρ 22), .ref (ρ 23), .int 0, .int (Int32.ofNat osCK.length)])) := eh_at eh (j := 0) rfl
  rw [show ρ 19 = g.length + 1 from hr 1, show ρ 20 = g.length + 2 from hr 2, show ρ 21 = g.length + 3 from hr 3, show ρ 22 = g.length + 4 from hr 4, show ρ 23 = g.length + 5 from hr 5] at d0
  have d1 : g'[g.length + 1]? = some (.inl (27, [.retAddr 3, .retAddr 2, .retAddr 41])) := eh_at eh (j := 1) rfl
  have d2 : g'[g.length + 2]? = some (.inl (14, ([1, 9, 0] : List Int32).map Value.int)) := eh_at eh (j := 2) rfl
  have d4 : g'[g.length + 4]? = some (.inl (16, ([0, 0, 0] : List Int32).map Value.int)) := eh_at eh (j := 4) rfl
  have p0 : tO_tau ow k g.length (g.length + 0) = k + 302 := by unfold tO_tau; rw [if_neg (by omega), if_neg (by omega), if_neg (by omega), if_neg (by omega), if_pos (by omega)]
  have p1 : tO_tau ow k g.length (g.length + 1) = k + 302 := by unfold tO_tau; rw [if_neg (by omega), if_neg (by omega), if_neg (by omega), if_neg (by omega), if_pos (by omega)]
  have p2 : tO_tau ow k g.length (g.length + 2) = k + 302 := by unfold tO_tau; rw [if_neg (by omega), if_neg (by omega), if_neg (by omega), if_neg (by omega), if_pos (by omega)]
  have p4 : tO_tau ow k g.length (g.length + 4) = k + 303 := by unfold tO_tau; rw [if_neg (by omega), if_neg (by omega), if_neg (by omega), if_pos rfl]
  have hF : hFo g' (g.length + 0) (g.length + 1) (g.length + 2) (g.length + 3) (g.length + 4) (g.length + 5) (.int 0) [.retAddr 3, .retAddr 2, .retAddr 41] [1, 9, 0] osCK := ⟨d0, d1, d2, fun i q hq => by
    have hi : i = 0 ∨ i = 1 ∨ i = 2 := by have := (List.getElem?_eq_some_iff.mp hq).1; have e : osCK.length = 3 := rfl; omega
    rcases hi with e | e | e <;> (subst e; cases hq; exact ⟨rfl, rfl⟩), by decide, by decide, by decide⟩
  exact ⟨⟨_, _, _, _, _, _, c0, c2, c3, c4, rfl, rfl, (show ([157837977, 315675954] : List Int32).length ≤ 100 by decide), (show ∀ k ∈ ([22, 25] : List Nat), k < 51 by decide), href⟩, c1, List.length_replicate, o0, o1, _, c0, rfl, rfl, ⟨_, _, _, rfl, rfl, rfl, o2, o3, o4⟩, Or.inr ⟨rfl, _, _, _, _, _, _, _, _, [0, 0, 0], rfl, hF, d4, rfl, p0, p1, p2, p4⟩⟩
def tQ_tb (n : Nat) (σ : Nat → Nat) (r : Nat) (rs : Int32) : TQ := ((n + 0, n + 1, 0), nSr σ, (28697814, nLb σ, [157837977, 258280326, 315675954], [23, 26, 24], [none, some (r, rs), none]), false, List.replicate 64 0, false)
def tO_tb (ow : Nat → Nat) (k n : Nat) : Nat → Nat := fun a => if a < n then ow a else if a = n + 0 then k + 300 else if a = n + 1 then k + 301 else k + 304
theorem hq_tb {g g' : List XC} {ρ σ : Nat → Nat} {ω : Nat → Value} {ow : Nat → Nat} {k : Nat} (eh : g' = g ++ nW_tb.map (wtc ρ σ ω)) (hr : ∀ j, ρ (22 + j) = g.length + j) {r : Nat} {rs : Int32} {rfs : List Value} (hr18 : ρ 18 = r) (hrf : g'[r]? = some (.inr (13, .int rs :: rfs))) : hTq g' (tO_tb ow k g.length) k (tQ_tb g.length σ r rs) := by
  have c0 : g'[g.length + 0]? = some (.inr (13, [.int (nSr σ), .int 28697814, .int (nLb σ), .ref (ρ 24), .ref (ρ 25), .ref (ρ 26), .null, .ref (ρ 23), .int 0])) := eh_at eh (j := 0) rfl
  rw [show ρ 24 = g.length + 2 from hr 2, show ρ 25 = g.length + 3 from hr 3, show ρ 26 = g.length + 4 from hr 4, show ρ 23 = g.length + 1 from hr 1] at c0
  have c1 : g'[g.length + 1]? = some (.inl (22, (List.replicate 64 (0 : Int32)).map Value.int)) := eh_at eh (j := 1) rfl
  have c2 : g'[g.length + 2]? = some (.inl (23, ([157837977, 258280326, 315675954] : List Int32).map Value.int)) := eh_at eh (j := 2) rfl
  have c3 : g'[g.length + 3]? = some (.inl (29, ([23, 26, 24] : List Nat).map Value.retAddr)) := eh_at eh (j := 3) rfl
  have c4 : g'[g.length + 4]? = some (.inl (6, [.null, .ref (ρ 18), .null])) := eh_at eh (j := 4) rfl
  rw [hr18] at c4
  have o0 : tO_tb ow k g.length (g.length + 0) = k + 300 := by unfold tO_tb; rw [if_neg (by omega), if_pos rfl]
  have o1 : tO_tb ow k g.length (g.length + 1) = k + 301 := by unfold tO_tb; rw [if_neg (by omega), if_neg (by omega), if_pos rfl]
  have o2 : tO_tb ow k g.length (g.length + 2) = k + 304 := by unfold tO_tb; rw [if_neg (by omega), if_neg (by omega), if_neg (by omega)]
  have o3 : tO_tb ow k g.length (g.length + 3) = k + 304 := by unfold tO_tb; rw [if_neg (by omega), if_neg (by omega), if_neg (by omega)]
  have o4 : tO_tb ow k g.length (g.length + 4) = k + 304 := by unfold tO_tb; rw [if_neg (by omega), if_neg (by omega), if_neg (by omega)]
  have href : ∀ (i : Nat) (r9 : Nat × Int32), ([none, some (r, rs), none] : List (Option (Nat × Int32)))[i]? = some (some r9) → ∃ fs, g'[r9.1]? = some (.inr (13, .int r9.2 :: fs)) := fun i r9 hr9 => by
    have hi : i = 0 ∨ i = 1 ∨ i = 2 := by have := (List.getElem?_eq_some_iff.mp hr9).1; simp only [List.length_cons, List.length_nil] at this; omega
    rcases hi with e | e | e <;> (subst e; cases hr9)
    exact ⟨_, hrf⟩
  exact ⟨⟨_, _, _, _, _, _, c0, c2, c3, c4, rfl, rfl, (show ([157837977, 258280326, 315675954] : List Int32).length ≤ 100 by decide), (show ∀ k ∈ ([23, 26, 24] : List Nat), k < 51 by decide), href⟩, c1, List.length_replicate, o0, o1, _, c0, rfl, rfl, ⟨_, _, _, rfl, rfl, rfl, o2, o3, o4⟩, Or.inl ⟨rfl, rfl⟩⟩
