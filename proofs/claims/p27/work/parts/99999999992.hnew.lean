/-! the house: newTable for the law's tables (written by wip/p27/c99999999992.py) -/
theorem HR.tsn {hp : List XC} {ow : Nat → Nat} {k : Nat} {A : Nat → Nat} {M : HM} {rf : Int32} {np nl : Nat} (h : HR hp ow k A M rf np nl) (hSt : StT M.2.2.2.2.2.2 M.1) : hTn hp M.1 (tsM M) := by
  refine ⟨by unfold tsM; rw [List.length_map], fun j a q hj hq => ?_⟩
  unfold tsM at hq
  rw [List.getElem?_map, hj] at hq
  cases hq
  obtain ⟨tf, ht⟩ := h.std hSt (List.mem_of_getElem? hj)
  exact ⟨_, _, ht⟩
theorem h_new_tan {S : List Int32} {g : List XC} {ow : Nat → Nat} {k : Nat} {A ρ σ : Nat → Nat} {ω : Nat → Value} {M : HM} {rf : Int32} {np nl : Nat} (h : HR g ow k A M rf np nl) (hSt : StT M.2.2.2.2.2.2 M.1) (hω : ∀ j, (ω j).category = 1) (hr17 : ρ 17 = A 2) (hW : WH A ρ σ ω bW_tan_ g) : Me S 9 165 [.ref (A 75), .int (nSr σ)] g (fun v g' c s => v = some (.ref (tQ_tan g.length σ).1.1) ∧ HSt g g' ow k A (mTabs M (M.2.2.2.2.2.2 ++ [tQ_tan g.length σ])) rf np nl c s 5 79) := by
  have hTn9 := h.tsn hSt
  have how := h.2.1
  have hD := h.2.2.2.2.2.1
  obtain ⟨ω', hB⟩ := BT0 (σ := σ) hD hω
  have hA : ∀ a b, a < 77 → b < 77 → A a = A b → a = b := fun a b ha hb e => by have u := (how a ha).1; rw [e, (how b hb).1] at u; omega
  refine me_imp (h_newW (S := S) (T := []) (N := nW_tan) (ta := fun _ => 0) nw_tan (by decide) hW hr17 (fun m hm => by cases hm) hB (by decide +kernel) (by rfl) (by decide +kernel) (by decide +kernel) (by decide +kernel) hA (fun a ha => (how a ha).2) hD hTn9 (fun p hp => by cases hp)) (fun v g' c s hv => ?_)
  obtain ⟨v1, f, H', rfl, rfl, eh⟩ := hv
  have hr : ∀ j, rhoB A (fun _ => 0) ([] : List WC).length g.length (18 + j) = g.length + j := fun j => by
    unfold rhoB
    rw [if_neg (by omega), if_neg (by omega), if_neg (by show ¬ 18 + j < 18 + 0; omega)]
    show g.length + (18 + j - (18 + 0)) = _
    omega
  refine ⟨v1.trans (by rw [show (18 : Nat) = 18 + 0 from rfl, hr]; rfl), HSt.newT h f (fun a ha => if_pos ha) (hq_tan (ow := ow) (k := k) eh hr) (Nat.le_add_right _ _) (Nat.le_add_right _ _)⟩
theorem h_new_tau {S : List Int32} {g : List XC} {ow : Nat → Nat} {k : Nat} {A ρ σ : Nat → Nat} {ω : Nat → Value} {M : HM} {rf : Int32} {np nl : Nat} (h : HR g ow k A M rf np nl) (hSt : StT M.2.2.2.2.2.2 M.1) (hω : ∀ j, (ω j).category = 1) (hr17 : ρ 17 = A 2) (hW : WH A ρ σ ω bW_tau_ g) : Me S 9 165 [.ref (A 75), .int (nSr σ)] g (fun v g' c s => v = some (.ref (tQ_tau g.length σ).1.1) ∧ HSt g g' ow k A (mTabs M (M.2.2.2.2.2.2 ++ [tQ_tau g.length σ])) rf np nl c s 11 101) := by
  have hTn9 := h.tsn hSt
  have how := h.2.1
  have hD := h.2.2.2.2.2.1
  obtain ⟨ω', hB⟩ := BT0 (σ := σ) hD hω
  have hA : ∀ a b, a < 77 → b < 77 → A a = A b → a = b := fun a b ha hb e => by have u := (how a ha).1; rw [e, (how b hb).1] at u; omega
  refine me_imp (h_newW (S := S) (T := []) (N := nW_tau) (ta := fun _ => 0) nw_tau (by decide) hW hr17 (fun m hm => by cases hm) hB (by decide +kernel) (by rfl) (by decide +kernel) (by decide +kernel) (by decide +kernel) hA (fun a ha => (how a ha).2) hD hTn9 (fun p hp => by cases hp)) (fun v g' c s hv => ?_)
  obtain ⟨v1, f, H', rfl, rfl, eh⟩ := hv
  have hr : ∀ j, rhoB A (fun _ => 0) ([] : List WC).length g.length (18 + j) = g.length + j := fun j => by
    unfold rhoB
    rw [if_neg (by omega), if_neg (by omega), if_neg (by show ¬ 18 + j < 18 + 0; omega)]
    show g.length + (18 + j - (18 + 0)) = _
    omega
  refine ⟨v1.trans (by rw [show (24 : Nat) = 18 + 6 from rfl, hr]; rfl), HSt.newT h f (fun a ha => if_pos ha) (hq_tau (ow := ow) (k := k) eh hr) (Nat.le_add_right _ _) (Nat.le_add_right _ _)⟩
