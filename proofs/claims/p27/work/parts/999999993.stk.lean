/-! the house: small lemmas for queries and changes (by hand) -/
theorem wGen_13 : wGen[13]? = some (wX 16 (wub 12000 0)) := rfl
def wno (B j : Nat) (v : WV) : Bool := match v with
  | (.inr (.inr (.inr (.inr (.inr n))))) => !(Nat.ble B n && Nat.ble (n + 1) j)
  | _ => true
theorem wGen_n13 : ((List.range 17).all (fun h => Nat.beq h 13 || (match wGen[h]? with
  | some (.inl q) => q.2.all (wno 12000 13000)
  | some (.inr q) => q.2.all (wno 12000 13000)
  | none => false))) = true := by decide +kernel
theorem wno_s {ρ σ : Nat → Nat} {ω ω' : Nat → Value} {B j : Nat} (he : ∀ n, ¬ (B ≤ n ∧ n < j) → ω n = ω' n) {v : WV} (h : wno B j v = true) : wt ρ σ ω v = wt ρ σ ω' v := by
  match v, h with
  | (.inl _), _ => rfl
  | (.inr (.inl _)), _ => rfl
  | (.inr (.inr (.inl _))), _ => rfl
  | (.inr (.inr (.inr (.inl ())))), _ => rfl
  | (.inr (.inr (.inr (.inr (.inl _))))), _ => rfl
  | (.inr (.inr (.inr (.inr (.inr n))))), h =>
    refine he n (fun hn => ?_)
    have h' : (!(Nat.ble B n && Nat.ble (n + 1) j)) = true := h
    rw [Nat.ble_eq_true_of_le hn.1, Nat.ble_eq_true_of_le hn.2] at h'
    cases h'
/-- a formula's stack was written: as little is known as before -/
theorem hSc.stk {hp hp' : List XC} {A : Nat → Nat} {vs : List Int32} (h : hSc hp A) (he : ∀ j, j < 17 → j ≠ 13 → ∀ c, hp[A (60 + j)]? = some c → xL7 c = false → hp'[A (60 + j)]? = some c) (hs : hp'[A 73]? = some (.inl (16, vs.map Value.int))) (hl : vs.length = 120) : hSc hp' A := by
  obtain ⟨ω, o1, o2, o3⟩ := h
  obtain ⟨ω', hω'⟩ : ∃ ω' : Nat → Value, ω' = fun j => if 12000 ≤ j ∧ j < 13000 then .int ((vs[j - 12000]?).getD 0) else ω j := ⟨_, rfl⟩
  have e1 : ∀ j, ¬ (12000 ≤ j ∧ j < 13000) → ω j = ω' j := fun j hj => by rw [hω']; exact (if_neg hj).symm
  have e2 : ∀ j, 12000 ≤ j ∧ j < 13000 → ω' j = .int ((vs[j - 12000]?).getD 0) := fun j hj => by rw [hω']; exact if_pos hj
  refine ⟨ω', fun j => ?_, fun j hj => ?_, fun h c hc => ?_⟩
  · by_cases hj : 12000 ≤ j ∧ j < 13000
    · rw [e2 j hj]; rfl
    · rw [← e1 j hj]; exact o1 j
  · by_cases hj2 : 12000 ≤ j ∧ j < 13000
    · exact ⟨_, e2 j hj2⟩
    · rw [← e1 j hj2]; exact o2 j hj
  · have hlt := (List.getElem?_eq_some_iff.mp hc).1
    rw [wGen_len] at hlt
    by_cases h13 : h = 13
    · subst h13
      rw [wGen_13] at hc
      cases hc
      rw [hs]
      refine congrArg (fun l => some (Sum.inl (16, l) : XC)) ?_
      show vs.map Value.int = (wub 12000 0).map (wt _ _ ω')
      unfold wub
      rw [List.map_map]
      refine List.ext_getElem? (fun j => ?_)
      rw [List.getElem?_map, List.getElem?_map]
      by_cases hj : j < 120
      · rw [List.getElem?_range' (show j < 120 - 0 by omega), List.getElem?_eq_getElem (show j < vs.length by omega), Option.map_some, Option.map_some]
        show _ = some (ω' (12000 + (0 + 1 * j)))
        rw [e2 _ (by omega), show 12000 + (0 + 1 * j) - 12000 = j by omega, List.getElem?_eq_getElem (show j < vs.length by omega)]
        rfl
      · rw [List.getElem?_eq_none (by omega), List.getElem?_eq_none (by rw [List.length_range']; omega)]
        rfl
    · have hx := List.all_eq_true.mp wGen_ok c (List.mem_of_getElem? hc)
      have ho := o3 h c hc
      have h7 : xL7 (wtc (fun h => A (60 + h)) (fun _ => 0) ω c) = false := by
        rcases c with q | q
        · have hx' : (!decide (q.1 = 7)) = true := hx
          show decide (q.1 = 7) = false
          revert hx'
          generalize decide (q.1 = 7) = b
          intro h9
          cases b with
          | false => rfl
          | true => cases h9
        · have hx' : (!decide (q.1 = 2)) = true := hx
          show decide (q.1 = 2) = false
          revert hx'
          generalize decide (q.1 = 2) = b
          intro h9
          cases b with
          | false => rfl
          | true => cases h9
      rw [he h hlt h13 _ ho h7]
      refine congrArg some ?_
      have hn := List.all_eq_true.mp wGen_n13 h (List.mem_range.mpr hlt)
      rw [hc, show Nat.beq h 13 = false from by cases hb : Nat.beq h 13 with | false => rfl | true => exact absurd (Nat.eq_of_beq_eq_true hb) h13] at hn
      rcases c with q | q
      · exact congrArg (fun l => (Sum.inl (q.1, l) : XC)) (List.map_congr_left (fun v hv => wno_s e1 (List.all_eq_true.mp hn v hv)))
      · exact congrArg (fun l => (Sum.inr (q.1, l) : XC)) (List.map_congr_left (fun v hv => wno_s e1 (List.all_eq_true.mp hn v hv)))
theorem LinR.tail {lb : List Int32} {w : Nat} {l : List Int32} {ks : List (List Int32)} (h : LinR lb w (l :: ks)) : lb.take w = l ∧ LinR (lb.drop w) w ks := by
  obtain ⟨h1, h2⟩ := h
  rw [List.length_cons, Nat.succ_mul] at h1
  refine ⟨?_, by rw [List.length_drop]; omega, fun i l' hl => ?_⟩
  · have := h2 0 l rfl
    rw [Nat.zero_mul, List.drop_zero] at this
    exact this
  · have := h2 (i + 1) l' hl
    rw [List.drop_drop, show w + i * w = (i + 1) * w by rw [Nat.succ_mul, Nat.add_comm]]
    exact this
/-- the kept lines, one behind another -/
theorem LinR.flat {w : Nat} : ∀ {ks : List (List Int32)} {lb : List Int32}, LinR lb w ks → lb.take (ks.length * w) = ks.flatten
  | [], lb, _ => by rw [List.length_nil, Nat.zero_mul, List.take_zero]; rfl
  | l :: ks, lb, h => by
    obtain ⟨h1, h2⟩ := h.tail
    have ih := h2.flat
    rw [List.length_cons, Nat.succ_mul, Nat.add_comm, List.take_add, h1, ih, List.flatten_cons]
