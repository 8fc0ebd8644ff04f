/-! the house: a bound world once more, at a later heap (by hand) -/
/-- digits are allowed, places below a bound, what is not known below the list's -/
def wnG (B : Nat) (v : WV) : Bool := match v with
  | (.inl _) => true
  | (.inr (.inl n)) => Nat.ble (n + 1) B
  | (.inr (.inr (.inl _))) => true
  | (.inr (.inr (.inr (.inl _)))) => true
  | (.inr (.inr (.inr (.inr (.inl _))))) => true
  | (.inr (.inr (.inr (.inr (.inr n))))) => Nat.ble (n + 1) 910010
def wnGC (B : Nat) (c : WC) : Bool := match c with
  | .inl q => q.2.all (wnG B)
  | .inr q => q.2.all (wnG B)
section
variable {ρ ρ' σ : Nat → Nat} {ω ω' : Nat → Value}
theorem wnG_s {B : Nat} (hρ : ∀ n, n < B → ρ n = ρ' n) (hω : ∀ j, j < 910010 → ω j = ω' j) {v : WV} (h : wnG B v = true) : wt ρ σ ω v = wt ρ' σ ω' v := by
  match v, h with
  | (.inl _), _ => rfl
  | (.inr (.inl n)), h => exact congrArg Value.ref (hρ n (Nat.le_of_ble_eq_true h))
  | (.inr (.inr (.inl _))), _ => rfl
  | (.inr (.inr (.inr (.inl _)))), _ => rfl
  | (.inr (.inr (.inr (.inr (.inl (_, _)))))), _ => rfl
  | (.inr (.inr (.inr (.inr (.inr n))))), h => exact hω n (Nat.le_of_ble_eq_true h)
theorem wnGC_s {B : Nat} (hρ : ∀ n, n < B → ρ n = ρ' n) (hω : ∀ j, j < 910010 → ω j = ω' j) {c : WC} (h : wnGC B c = true) : wtc ρ σ ω c = wtc ρ' σ ω' c := by
  rcases c with q | q
  · exact congrArg (fun l => (Sum.inl (q.1, l) : XC)) (List.map_congr_left (fun v hv => wnG_s hρ hω (List.all_eq_true.mp h v hv)))
  · exact congrArg (fun l => (Sum.inr (q.1, l) : XC)) (List.map_congr_left (fun v hv => wnG_s hρ hω (List.all_eq_true.mp h v hv)))
end
/-- a bound world is there as a whole, with the standing list and the tables that were named -/
theorem WH.wr {A ta ρ σ : Nat → Nat} {ω ω' : Nat → Value} {W T : List WC} {ck : List (Nat × WC)} {hp : List XC} {std : List Nat} (hW : WH A ρ σ ω W hp) (hr17 : ρ 17 = A 2) (hrt : ∀ m, m < T.length → ρ (18 + m) = ta m) (hB : BT hp A ta σ ω ω' T ck std) (hl : W.length = 18 + T.length) (h17 : W[17]? = wM0[2]?) (hT : W.drop 18 = T) (hG : (W.take 17).all (wnGC (18 + T.length)) = true) : WR (rhoB A ta T.length hp.length) σ ω' W hp := by
  obtain ⟨b1, b2, b3, b4, b5, b6, b7, b8, b9, b10, b11⟩ := hB
  obtain ⟨w1, w2, w3⟩ := hW
  refine ⟨fun h c hc => ?_, fun h hh => ?_⟩
  · by_cases h1 : h < 17
    · have e1 : rhoB A ta T.length hp.length h = A (60 + h) := if_pos h1
      have hm : c ∈ W.take 17 := List.mem_of_getElem? (by rw [List.getElem?_take, if_pos h1]; exact hc)
      have hrho : ∀ n, n < 18 + T.length → ρ n = rhoB A ta T.length hp.length n := fun n hn => by
        unfold rhoB
        by_cases n1 : n < 17
        · rw [if_pos n1]; exact w2 n n1
        · by_cases n2 : n = 17
          · rw [if_neg n1, if_pos n2, n2]; exact hr17
          · rw [if_neg n1, if_neg n2, if_pos hn, ← hrt (n - 18) (by omega), show 18 + (n - 18) = n by omega]
      rw [e1, w3 h c h1 hc, wnGC_s (ρ' := rhoB A ta T.length hp.length) (ω' := ω') hrho b5 (List.all_eq_true.mp hG c hm)]
    · by_cases h2 : h = 17
      · subst h2
        rw [h17] at hc
        cases hc
        exact b6
      · have e1 : rhoB A ta T.length hp.length h = ta (h - 18) := by
          have hlt := (List.getElem?_eq_some_iff.mp hc).1
          unfold rhoB
          rw [if_neg (by omega), if_neg (by omega), if_pos (by omega)]
        rw [e1]
        refine b7 (h - 18) c ?_
        rw [← hT, List.getElem?_drop, show 18 + (h - 18) = h by omega]
        exact hc
  · rw [hl] at hh ⊢
    unfold rhoB
    rw [if_neg (by omega), if_neg (by omega), if_neg (by omega)]
