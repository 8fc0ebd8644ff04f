/-! the house: the tables that a statement means (by hand) -/
def tbA (T : Tb) : Prop := T.1 = 14348907 ∧ T.2.2.1 = [157837977, 315675954] ∧ (T.2.2.2.1 = [22, 24] ∨ T.2.2.2.1 = [22, 25]) ∧ T.2.2.2.2 = [none, none]
def tbB (T : Tb) : Prop := T.1 = 28697814 ∧ T.2.2.1 = [157837977, 258280326, 315675954] ∧ T.2.2.2.1 = [23, 26, 24] ∧ ∃ r, T.2.2.2.2 = [none, some r, none]
/-- the cells of a table are its own -/
def hTc (hp : List XC) (t ca ka ra : Nat) (sr nm lb : Int32) (chk ga dv : Value) : Prop := hp[t]? = some (.inr (13, [.int sr, .int nm, .int lb, .ref ca, .ref ka, .ref ra, chk, ga, dv])) ∧ chk.category = 1 ∧ ga.category = 1 ∧ dv.category = 1
section
variable {hp : List XC} {ow : Nat → Nat} {k : Nat}
theorem hTq.cells {q : TQ} (h : hTq hp ow k q) : ∃ (ca ka ra : Nat) (chk ga dv : Value), hTc hp q.1.1 ca ka ra q.2.1 q.2.2.1.1 q.2.2.1.2.1 chk ga dv ∧ hp[ca]? = some (.inl (23, q.2.2.1.2.2.1.map Value.int)) ∧ hp[ka]? = some (.inl (29, q.2.2.1.2.2.2.1.map Value.retAddr)) ∧ hp[ra]? = some (.inl (6, q.2.2.1.2.2.2.2.map oref)) ∧ ow q.1.1 = k + 300 ∧ ow ca = k + 304 ∧ ow ka = k + 304 ∧ ow ra = k + 304 := by
  obtain ⟨⟨ca, ka, ra, ga, chk, dv, u1, u2, u3, u4, -⟩, b2, b3, b4, b5, fs, b6, b7, b8, ⟨ca', ka', ra', r1, r2, r3, r4, r5, r6⟩, b9⟩ := h
  cases u1.symm.trans b6
  cases r1
  cases r2
  cases r3
  cases b7
  cases b8
  refine ⟨ca, ka, ra, chk, _, _, ⟨u1, ?_, rfl, rfl⟩, u2, u3, u4, b4, r4, r5, r6⟩
  rcases b9 with ⟨-, e⟩ | ⟨-, cf, oa, aa, pa, wa, ws, es, gs, vs, e, -⟩
  · cases e; rfl
  · cases e; rfl
end
def tnv (nm : Nat → Value) (j : Nat) (ω : Nat → Value) : Value := if 910010 ≤ j ∧ j < 910040 then nm (j - 910010) else ω j
theorem hLs.cells {hp : List XC} {l : Nat} {as : List Nat} (h : hLs hp l as) : ∃ v0 v1 v2 : Value, hp[l]? = some (.inr (2, [v0, v1, v2])) ∧ v0.category = 1 ∧ v1.category = 1 ∧ v2.category = 1 := by
  obtain ⟨-, mc, ⟨-, h9⟩ | ⟨e, m, h9, -⟩⟩ := h
  · exact ⟨_, _, _, h9, rfl, rfl, rfl⟩
  · exact ⟨_, _, _, h9, rfl, rfl, rfl⟩
/-- what binding wants to know of the tables that are meant -/
def BT (hp : List XC) (A ta : Nat → Nat) (σ : Nat → Nat) (ω ω' : Nat → Value) (T : List WC) (ck : List (Nat × WC)) (std : List Nat) : Prop :=
  (∀ a b, a < T.length → b < T.length → ta a = ta b → a = b) ∧ (∀ a, a < T.length → ta a < hp.length) ∧ (∀ a b, a < 77 → b < T.length → A a ≠ ta b) ∧ (∀ j, (ω' j).category = 1) ∧ (∀ j, j < 910010 → ω j = ω' j) ∧
  hp[A 2]? = some (.inr (2, [ω' 910010, ω' 910011, ω' 910012])) ∧ (∀ (m : Nat) (c : WC), T[m]? = some c → hp[ta m]? = some (wtc (rhoB A ta T.length hp.length) σ ω' c)) ∧ (∀ c ∈ T, ∀ es, c ≠ .inl (7, es)) ∧ (∀ q ∈ ck, hp[rhoB A ta T.length hp.length q.1]? = some (wtc (rhoB A ta T.length hp.length) σ ω' q.2)) ∧ (∃ q ∈ ck, q.1 = 17) ∧ ∀ a ∈ std, (∀ m, m < T.length → ta m ≠ a) ∨ ∃ q ∈ ck, a = rhoB A ta T.length hp.length q.1
section
variable {hp : List XC} {ow : Nat → Nat} {k : Nat} {A : Nat → Nat} {σ : Nat → Nat} {ω : Nat → Value} {std : List Nat}
theorem BT0 (hD : hLs hp (A 2) std) (hω : ∀ j, (ω j).category = 1) : ∃ ω', BT hp A (fun _ => 0) σ ω ω' [] bC0 std := by
  obtain ⟨v0, v1, v2, h1, c0, c1, c2⟩ := hD.cells
  refine ⟨fun j => if j = 910010 then v0 else if j = 910011 then v1 else if j = 910012 then v2 else ω j, fun a b ha => absurd ha (Nat.not_lt_zero _), fun a ha => absurd ha (Nat.not_lt_zero _), fun a b _ hb => absurd hb (Nat.not_lt_zero _), fun j => ?_, fun j hj => ?_, h1, fun m c hc => (by cases hc), fun c hc => (List.not_mem_nil hc).elim, fun q hq => ?_, ⟨_, List.mem_cons_self, rfl⟩, fun a _ => Or.inl (fun m hm => absurd hm (Nat.not_lt_zero _))⟩
  · dsimp only
    split
    · exact c0
    split
    · exact c1
    split
    · exact c2
    · exact hω j
  · dsimp only
    rw [if_neg (by omega), if_neg (by omega), if_neg (by omega)]
  · rw [List.mem_singleton.mp hq]
    exact h1
/-- one table: the values of its cells -/
def ω1 (ω : Nat → Value) (v0 v1 v2 : Value) (sr nm lb : Int32) (chk ga dv x26 x27 : Value) (j : Nat) : Value := if j < 910010 then ω j else if j = 910010 then v0 else if j = 910011 then v1 else if j = 910012 then v2 else if j = 910020 then .int sr else if j = 910021 then .int nm else if j = 910022 then .int lb else if j = 910023 then chk else if j = 910024 then ga else if j = 910025 then dv else if j = 910026 then x26 else if j = 910027 then x27 else .null
theorem ω1_cat {v0 v1 v2 : Value} {sr nm lb : Int32} {chk ga dv x26 x27 : Value} (hω : ∀ j, (ω j).category = 1) (c0 : v0.category = 1) (c1 : v1.category = 1) (c2 : v2.category = 1) (t2 : chk.category = 1) (t3 : ga.category = 1) (t4 : dv.category = 1) (c26 : x26.category = 1) (c27 : x27.category = 1) (j : Nat) : (ω1 ω v0 v1 v2 sr nm lb chk ga dv x26 x27 j).category = 1 := by
  unfold ω1
  split
  · exact hω j
  split
  · exact c0
  split
  · exact c1
  split
  · exact c2
  split
  · rfl
  split
  · rfl
  split
  · rfl
  split
  · exact t2
  split
  · exact t3
  split
  · exact t4
  split
  · exact c26
  split
  · exact c27
  · rfl
theorem BT1 {T : List WC} {x26 x27 : Value} (hD : hLs hp (A 2) std) (hω : ∀ j, (ω j).category = 1) (how : ∀ j, j < 77 → ow (A j) = k + j ∧ A j < hp.length) {q : TQ} (hq : hTq hp ow k q) (hs : q.1.1 ∈ std) (hso : ∀ a ∈ std, ∃ fs, hp[a]? = some (.inr (13, fs))) (c26 : x26.category = 1) (c27 : x27.category = 1)
    (hT : ∃ es kes res, T = [wO 13 [wU 910020, wU 910021, wU 910022, wA 19, wA 20, wA 21, wU 910023, wU 910024, wU 910025], wX 23 es, wX 29 kes, wX 6 res] ∧ (∀ (ρ : Nat → Nat) (ω' : Nat → Value), ω' 910026 = x26 → ω' 910027 = x27 → es.map (wt ρ σ ω') = q.2.2.1.2.2.1.map Value.int ∧ kes.map (wt ρ σ ω') = q.2.2.1.2.2.2.1.map Value.retAddr ∧ res.map (wt ρ σ ω') = q.2.2.1.2.2.2.2.map oref)) :
    ∃ ta ω', BT hp A ta σ ω ω' T bC1 std ∧ ta 0 = q.1.1 := by
  obtain ⟨v0, v1, v2, h1, c0, c1, c2⟩ := hD.cells
  obtain ⟨ca, ka, ra, chk, ga, dv, ⟨t1, t2, t3, t4⟩, t5, t6, t7, o1, o2, o3, o4⟩ := hq.cells
  obtain ⟨es, kes, res, hTe, hE⟩ := hT
  have hl : T.length = 4 := by rw [hTe]; rfl
  obtain ⟨ta, hta⟩ : ∃ ta : Nat → Nat, ta = fun m => if m = 0 then q.1.1 else if m = 1 then ca else if m = 2 then ka else ra := ⟨_, rfl⟩
  have a0 : ta 0 = q.1.1 := by rw [hta]; rfl
  have a1 : ta 1 = ca := by rw [hta]; rfl
  have a2 : ta 2 = ka := by rw [hta]; rfl
  have a3 : ta 3 = ra := by rw [hta]; rfl
  have hAn : ∀ (j x : Nat), j < 77 → (ow x = k + 300 ∨ ow x = k + 304) → A j ≠ x := fun j x hj hx e => by
    have := (how j hj).1
    rw [e] at this
    omega
  have cs : ∀ m, m < T.length → m = 0 ∨ m = 1 ∨ m = 2 ∨ m = 3 := fun m hm => by rw [hl] at hm; omega
  have hlt : ∀ a b, a < b → b < T.length → ta a ≠ ta b := fun a b hab hb => by
    rw [hl] at hb
    have : (a = 0 ∧ b = 1) ∨ (a = 0 ∧ b = 2) ∨ (a = 0 ∧ b = 3) ∨ (a = 1 ∧ b = 2) ∨ (a = 1 ∧ b = 3) ∨ (a = 2 ∧ b = 3) := by omega
    rcases this with ⟨e1, e2⟩ | ⟨e1, e2⟩ | ⟨e1, e2⟩ | ⟨e1, e2⟩ | ⟨e1, e2⟩ | ⟨e1, e2⟩
    · rw [e1, e2, a0, a1]; exact xn_ra t1 t5
    · rw [e1, e2, a0, a2]; exact xn_ra t1 t6
    · rw [e1, e2, a0, a3]; exact xn_ra t1 t7
    · rw [e1, e2, a1, a2]; exact xn_kd t5 t6 (by decide)
    · rw [e1, e2, a1, a3]; exact xn_kd t5 t7 (by decide)
    · rw [e1, e2, a2, a3]; exact xn_kd t6 t7 (by decide)
  obtain ⟨w, hw⟩ : ∃ w : Nat → Value, w = ω1 ω v0 v1 v2 q.2.1 q.2.2.1.1 q.2.2.1.2.1 chk ga dv x26 x27 := ⟨_, rfl⟩
  have wc : ∀ j, (w j).category = 1 := fun j => by
    rw [hw]
    exact ω1_cat hω c0 c1 c2 t2 t3 t4 c26 c27 j
  have wl : ∀ j, j < 910010 → ω j = w j := fun j hj => by rw [hw]; unfold ω1; rw [if_pos hj]
  have w10 : w 910010 = v0 := by rw [hw]; rfl
  have w11 : w 910011 = v1 := by rw [hw]; rfl
  have w12 : w 910012 = v2 := by rw [hw]; rfl
  have w20 : w 910020 = .int q.2.1 := by rw [hw]; rfl
  have w21 : w 910021 = .int q.2.2.1.1 := by rw [hw]; rfl
  have w22 : w 910022 = .int q.2.2.1.2.1 := by rw [hw]; rfl
  have w23 : w 910023 = chk := by rw [hw]; rfl
  have w24 : w 910024 = ga := by rw [hw]; rfl
  have w25 : w 910025 = dv := by rw [hw]; rfl
  have w26 : w 910026 = x26 := by rw [hw]; rfl
  have w27 : w 910027 = x27 := by rw [hw]; rfl
  obtain ⟨ρ, hρ⟩ : ∃ ρ, ρ = rhoB A ta T.length hp.length := ⟨_, rfl⟩
  have r17 : ρ 17 = A 2 := by rw [hρ]; rfl
  have r18 : ρ 18 = ta 0 := by rw [hρ, hl]; rfl
  have r19 : ρ 19 = ta 1 := by rw [hρ, hl]; rfl
  have r20 : ρ 20 = ta 2 := by rw [hρ, hl]; rfl
  have r21 : ρ 21 = ta 3 := by rw [hρ, hl]; rfl
  have e9 := hE ρ w w26 w27
  have ob : wtc ρ σ w (wO 13 [wU 910020, wU 910021, wU 910022, wA 19, wA 20, wA 21, wU 910023, wU 910024, wU 910025]) = .inr (13, [.int q.2.1, .int q.2.2.1.1, .int q.2.2.1.2.1, .ref ca, .ref ka, .ref ra, chk, ga, dv]) := by
    show (Sum.inr (13, [w 910020, w 910021, w 910022, .ref (ρ 19), .ref (ρ 20), .ref (ρ 21), w 910023, w 910024, w 910025]) : XC) = _
    rw [w20, w21, w22, w23, w24, w25, r19, r20, r21, a1, a2, a3]
  have lo : wtc ρ σ w (wO 2 [wU 910010, wU 910011, wU 910012]) = .inr (2, [v0, v1, v2]) := by
    show (Sum.inr (2, [w 910010, w 910011, w 910012]) : XC) = _
    rw [w10, w11, w12]
  refine ⟨ta, w, ⟨fun a b ha hb e => ?_, fun a ha => ?_, fun a b ha hb => ?_, wc, wl, ?_, fun m c hc => ?_, fun c hc es' => ?_, fun p hp9 => ?_, ⟨_, List.mem_cons_self, rfl⟩, fun a ha => ?_⟩, a0⟩
  · rcases Nat.lt_trichotomy a b with h | h | h
    · exact absurd e (hlt a b h hb)
    · exact h
    · exact absurd e.symm (hlt b a h ha)
  · rcases cs a ha with e | e | e | e
    · rw [e, a0]; exact (List.getElem?_eq_some_iff.mp t1).1
    · rw [e, a1]; exact (List.getElem?_eq_some_iff.mp t5).1
    · rw [e, a2]; exact (List.getElem?_eq_some_iff.mp t6).1
    · rw [e, a3]; exact (List.getElem?_eq_some_iff.mp t7).1
  · rcases cs b hb with e | e | e | e
    · rw [e, a0]; exact hAn a _ ha (Or.inl o1)
    · rw [e, a1]; exact hAn a _ ha (Or.inr o2)
    · rw [e, a2]; exact hAn a _ ha (Or.inr o3)
    · rw [e, a3]; exact hAn a _ ha (Or.inr o4)
  · rw [w10, w11, w12]; exact h1
  · rw [← hρ]
    have hm := (List.getElem?_eq_some_iff.mp hc).1
    rw [hTe] at hc
    rcases cs m hm with e | e | e | e
    · rw [e] at hc ⊢
      cases hc
      rw [a0, t1, ob]
    · rw [e] at hc ⊢
      cases hc
      rw [a1, t5, ← e9.1]
      rfl
    · rw [e] at hc ⊢
      cases hc
      rw [a2, t6, ← e9.2.1]
      rfl
    · rw [e] at hc ⊢
      cases hc
      rw [a3, t7, ← e9.2.2]
      rfl
  · rw [hTe] at hc
    rcases List.mem_cons.mp hc with e | hc
    · rw [e]; intro e; cases e
    rcases List.mem_cons.mp hc with e | hc
    · rw [e]; intro e; exact absurd (congrArg Prod.fst (Sum.inl.inj e)) (show ¬ (23 : Nat) = 7 by decide)
    rcases List.mem_cons.mp hc with e | hc
    · rw [e]; intro e; exact absurd (congrArg Prod.fst (Sum.inl.inj e)) (show ¬ (29 : Nat) = 7 by decide)
    rcases List.mem_cons.mp hc with e | hc
    · rw [e]; intro e; exact absurd (congrArg Prod.fst (Sum.inl.inj e)) (show ¬ (6 : Nat) = 7 by decide)
    cases hc
  · rw [← hρ]
    rcases List.mem_cons.mp hp9 with e | hp9
    · rw [e]
      show hp[ρ 17]? = some (wtc ρ σ w (wO 2 [wU 910010, wU 910011, wU 910012]))
      rw [r17, lo]
      exact h1
    rcases List.mem_cons.mp hp9 with e | hp9
    · rw [e]
      show hp[ρ 18]? = some (wtc ρ σ w (wO 13 [wU 910020, wU 910021, wU 910022, wA 19, wA 20, wA 21, wU 910023, wU 910024, wU 910025]))
      rw [r18, a0, ob]
      exact t1
    cases hp9
  · rw [← hρ]
    by_cases e : a = q.1.1
    · refine Or.inr ⟨_, List.mem_cons_of_mem _ List.mem_cons_self, ?_⟩
      show a = ρ 18
      rw [r18, a0, e]
    · refine Or.inl (fun m hm e2 => ?_)
      obtain ⟨fs, hf⟩ := hso a ha
      rcases cs m hm with e3 | e3 | e3 | e3
      · rw [e3, a0] at e2; exact e e2.symm
      · rw [e3, a1] at e2; rw [← e2, t5] at hf; cases hf
      · rw [e3, a2] at e2; rw [← e2, t6] at hf; cases hf
      · rw [e3, a3] at e2; rw [← e2, t7] at hf; cases hf
end
