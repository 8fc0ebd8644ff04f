/-! the house: texts are read in its statement (by hand) -/
/-- a value that stands for the same with other unknowns of low numbers -/
def wnd (B : Nat) (v : WV) : Bool := match v with
  | (.inl _) => true
  | (.inr (.inl n)) => Nat.ble (n + 1) B
  | (.inr (.inr (.inl _))) => true
  | (.inr (.inr (.inr (.inl ())))) => true
  | (.inr (.inr (.inr (.inr (.inl _))))) => true
  | (.inr (.inr (.inr (.inr (.inr j))))) => Nat.ble 1000 j && Nat.ble (j + 1) 910010
def wndC (B : Nat) (c : WC) : Bool := match c with
  | .inl q => q.2.all (wnd B)
  | .inr q => q.2.all (wnd B)
/-- no digits -/
def wnx (v : WV) : Bool := match v with
  | (.inr (.inr (.inr (.inr (.inl _))))) => false
  | _ => true
def wnxC (c : WC) : Bool := match c with
  | .inl q => q.2.all wnx
  | .inr q => q.2.all wnx
section
variable {ρ ρ' σ σ' : Nat → Nat} {ω ω' : Nat → Value}
theorem wnd_s {B : Nat} (hρ : ∀ n, n < B → ρ n = ρ' n) (hω : ∀ j, 1000 ≤ j → j < 910010 → ω j = ω' j) {v : WV} (h : wnd B v = true) : wt ρ σ ω v = wt ρ' σ ω' v := by
  match v, h with
  | (.inl _), _ => rfl
  | (.inr (.inl n)), h => exact congrArg Value.ref (hρ n (Nat.le_of_ble_eq_true h))
  | (.inr (.inr (.inl _))), _ => rfl
  | (.inr (.inr (.inr (.inl ())))), _ => rfl
  | (.inr (.inr (.inr (.inr (.inl _))))), _ => rfl
  | (.inr (.inr (.inr (.inr (.inr j))))), h =>
    have h2 := Bool.and_eq_true_iff.mp h
    exact hω j (Nat.le_of_ble_eq_true h2.1) (Nat.le_of_ble_eq_true h2.2)
theorem wndC_s {B : Nat} (hρ : ∀ n, n < B → ρ n = ρ' n) (hω : ∀ j, 1000 ≤ j → j < 910010 → ω j = ω' j) {c : WC} (h : wndC B c = true) : wtc ρ σ ω c = wtc ρ' σ ω' c := by
  rcases c with q | q
  · exact congrArg (fun l => (Sum.inl (q.1, l) : XC)) (List.map_congr_left (fun v hv => wnd_s hρ hω (List.all_eq_true.mp h v hv)))
  · exact congrArg (fun l => (Sum.inr (q.1, l) : XC)) (List.map_congr_left (fun v hv => wnd_s hρ hω (List.all_eq_true.mp h v hv)))
theorem wnx_s {v : WV} (h : wnx v = true) : wt ρ σ ω v = wt ρ σ' ω v := by
  match v, h with
  | (.inl _), _ => rfl
  | (.inr (.inl _)), _ => rfl
  | (.inr (.inr (.inl _))), _ => rfl
  | (.inr (.inr (.inr (.inl ())))), _ => rfl
  | (.inr (.inr (.inr (.inr (.inr _))))), _ => rfl
theorem wnxC_s {c : WC} (h : wnxC c = true) : wtc ρ σ ω c = wtc ρ σ' ω c := by
  rcases c with q | q
  · exact congrArg (fun l => (Sum.inl (q.1, l) : XC)) (List.map_congr_left (fun v hv => wnx_s (List.all_eq_true.mp h v hv)))
  · exact congrArg (fun l => (Sum.inr (q.1, l) : XC)) (List.map_congr_left (fun v hv => wnx_s (List.all_eq_true.mp h v hv)))
end
theorem wGen_nd : wGen.all (fun c => wndC 17 c && wnxC c) = true := by decide +kernel
theorem wGen_nd15 : (wGen.take 15).all (wndC 15) = true := by decide +kernel
theorem wGen_at {h : Nat} {c : WC} (hc : wGen[h]? = some c) : wndC 17 c = true ∧ wnxC c = true := Bool.and_eq_true_iff.mp (List.all_eq_true.mp wGen_nd c (List.mem_of_getElem? hc))
/-- a text: numbers and digits alone -/
def wtx (v : WV) : Bool := match v with
  | (.inl _) => true
  | (.inr (.inr (.inr (.inr (.inl _))))) => true
  | _ => false
theorem wtx_s {ρ ρ' σ : Nat → Nat} {ω ω' : Nat → Value} {v : WV} (h : wtx v = true) : wt ρ σ ω v = wt ρ' σ ω' v := by
  match v, h with
  | (.inl _), _ => rfl
  | (.inr (.inr (.inr (.inr (.inl _))))), _ => rfl
/-- what a text stands for -/
def wtT (σ : Nat → Nat) (t : List WV) : List Value := t.map (wt (fun _ => 0) σ (fun _ => .null))
theorem wtT_s {ρ σ : Nat → Nat} {ω : Nat → Value} {t : List WV} (h : t.all wtx = true) : t.map (wt ρ σ ω) = wtT σ t := List.map_congr_left (fun v hv => wtx_s (List.all_eq_true.mp h v hv))
def rhoR (A : Nat → Nat) (i n : Nat) (h : Nat) : Nat := if h < 15 then A (60 + h) else if h = 15 then A (28 + i) else n + (h - 16)
theorem rhoR_inj {A : Nat → Nat} {i n : Nat} (hi : i < 8) (hA : ∀ a b, a < 77 → b < 77 → A a = A b → a = b) (hl : ∀ a, a < 77 → A a < n) : ∀ a b, rhoR A i n a = rhoR A i n b → a = b := fun a b e => by
  have hx := hl (28 + i) (by omega)
  unfold rhoR at e
  by_cases a1 : a < 15
  · have ha := hl (60 + a) (by omega)
    rw [if_pos a1] at e
    by_cases b1 : b < 15
    · rw [if_pos b1] at e
      have := hA _ _ (by omega) (by omega) e
      omega
    rw [if_neg b1] at e
    by_cases b2 : b = 15
    · rw [if_pos b2] at e
      have := hA _ _ (by omega) (by omega) e
      omega
    rw [if_neg b2] at e
    omega
  rw [if_neg a1] at e
  by_cases a2 : a = 15
  · rw [if_pos a2] at e
    by_cases b1 : b < 15
    · rw [if_pos b1] at e
      have := hA _ _ (by omega) (by omega) e
      omega
    rw [if_neg b1] at e
    by_cases b2 : b = 15
    · omega
    rw [if_neg b2] at e
    omega
  rw [if_neg a2] at e
  by_cases b1 : b < 15
  · have hb := hl (60 + b) (by omega)
    rw [if_pos b1] at e
    omega
  rw [if_neg b1] at e
  by_cases b2 : b = 15
  · rw [if_pos b2] at e
    omega
  rw [if_neg b2] at e
  omega
theorem wRd_take (t : List WV) : (wRd t).take 15 = wGen.take 15 := rfl
theorem wRd_len (t : List WV) : (wRd t).length = 16 := rfl
theorem wR_at {A : Nat → Nat} {i n h : Nat} (hh : h < 15) : A (60 + h) = rhoR A i n h := (if_pos hh).symm
theorem take15 {W : List WC} {h : Nat} {c : WC} (hh : h < 15) (hc : W[h]? = some c) : c ∈ W.take 15 := List.mem_of_getElem? (i := h) (by rw [List.getElem?_take, if_pos hh]; exact hc)
/-- a text is read -/
theorem h_read {S : List Int32} {hp : List XC} {A : Nat → Nat} {i : Nat} (hi : i < 8) (hA : ∀ a b, a < 77 → b < 77 → A a = A b → a = b) (hl : ∀ a, a < 77 → A a < hp.length) (hW : hSc hp A) {tx : List Int32} (htx : hp[A (28 + i)]? = some (.inl (1, tx.map Value.int))) (h120 : tx.length = 120) {t : List WV} {W : List WC} (hE : wrdE t W = true) (hB : wfrB (List.range 15) (wRd t) W = true) (hN : (W.take 15).all (wndC 15) = true) (htw : t.all wtx = true) (ht120 : t.length ≤ 120) {σ : Nat → Nat} (ht : (tx.take t.length).map Value.int = wtT σ t) :
    Me S 9 41 [.ref (A 60), .ref (A (28 + i)), .int (Int32.ofNat t.length)] hp (fun v hp' c s => v = none ∧ FrX (fun a => ∃ h, h < 15 ∧ A (60 + h) = a) hp hp' ∧ c = 0 ∧ s = 0 ∧ ∃ ω : Nat → Value, (∀ j, (ω j).category = 1) ∧ (∀ j, wIid j = true → ∃ x, ω j = .int x) ∧ (∀ (h : Nat) (c : WC), 15 ≤ h → wGen[h]? = some c → hp'[A (60 + h)]? = some (wtc (fun h => A (60 + h)) σ ω c)) ∧ ∀ (h : Nat) (c : WC), h < 15 → W[h]? = some c → hp'[A (60 + h)]? = some (wtc (fun h => A (60 + h)) σ ω c)) := by
  obtain ⟨ω, o1, o3, o2⟩ := hW
  obtain ⟨ω', hω'⟩ : ∃ ω' : Nat → Value, ω' = fun j => if j < 1000 then .int ((tx[j]?).getD 0) else ω j := ⟨_, rfl⟩
  have w1 : ∀ j, (ω' j).category = 1 := fun j => by
    rw [hω']
    dsimp only
    split
    · rfl
    · exact o1 j
  have w2 : ∀ j, 1000 ≤ j → ω j = ω' j := fun j hj => by rw [hω']; exact (if_neg (by omega)).symm
  have w3 : ∀ j, j < 1000 → ω' j = .int ((tx[j]?).getD 0) := fun j hj => by rw [hω']; exact if_pos hj
  have w4 : ∀ j, wIid j = true → ∃ x, ω' j = .int x := fun j hj => by
    by_cases h9 : j < 1000
    · exact ⟨_, w3 j h9⟩
    · rw [← w2 j (by omega)]
      exact o3 j hj
  have hinj := rhoR_inj hi hA hl
  have hcell : ∀ (h : Nat) (c : WC), h < 15 → wGen[h]? = some c → hp[A (60 + h)]? = some (wtc (rhoR A i hp.length) σ ω' c) := fun h c hh hc => by
    rw [o2 h c hc, wnxC_s (σ' := σ) (wGen_at hc).2, wndC_s (B := 15) (fun n hn => wR_at hn) (fun j h1 _ => w2 j h1) (List.all_eq_true.mp wGen_nd15 c (take15 hh hc))]
  have hT : tx.map Value.int = (t ++ wub 0 t.length).map (wt (rhoR A i hp.length) σ ω') := by
    rw [List.map_append, wtT_s htw, ← ht]
    have e1 : (wub 0 t.length).map (wt (rhoR A i hp.length) σ ω') = (tx.drop t.length).map Value.int := by
      unfold wub
      rw [List.map_map]
      refine List.ext_getElem? (fun j => ?_)
      rw [List.getElem?_map, List.getElem?_map, List.getElem?_drop]
      by_cases hj : j < 120 - t.length
      · rw [List.getElem?_range' hj, Option.map_some]
        have e2 : tx[t.length + j]? = some (tx[t.length + j]'(by omega)) := List.getElem?_eq_getElem _
        rw [e2]
        show some (ω' (0 + (t.length + 1 * j))) = _
        rw [w3 _ (by omega), show 0 + (t.length + 1 * j) = t.length + j by omega, e2]
        rfl
      · rw [List.getElem?_eq_none (by rw [List.length_range']; omega), List.getElem?_eq_none (by omega)]
        rfl
    rw [e1, ← List.map_append, List.take_append_drop]
  have H : WR (rhoR A i hp.length) σ ω' (wRd t) hp := by
    refine ⟨fun h c hc => ?_, fun h hh => ?_⟩
    · by_cases h1 : h < 15
      · rw [show rhoR A i hp.length h = A (60 + h) from if_pos h1]
        refine hcell h c h1 ?_
        have e1 : (wRd t)[h]? = ((wRd t).take 15)[h]? := by rw [List.getElem?_take, if_pos h1]
        rw [e1, wRd_take, List.getElem?_take, if_pos h1] at hc
        exact hc
      · have hlt := (List.getElem?_eq_some_iff.mp hc).1
        rw [wRd_len] at hlt
        have h2 : h = 15 := by omega
        subst h2
        rw [show rhoR A i hp.length 15 = A (28 + i) from rfl, htx]
        cases hc
        exact congrArg (fun l => some (Sum.inl (1, l) : XC)) hT
    · rw [wRd_len] at hh ⊢
      unfold rhoR
      rw [if_neg (by omega), if_neg (by omega)]
  obtain ⟨L, hw⟩ := wrd_s hE
  have key := wrun_me (S := S) hinj w1 (wst_s (S := S) (fun j hj => ⟨_, w3 j hj⟩) hp) (as := [wA 0, wA 15, wI t.length]) hw H
  refine me_imp key (fun v hp' c s hv => ?_)
  obtain ⟨v1, H', F', v4, v5⟩ := hv
  have fr := wfr_s hinj (by decide) (fun h hh => by rw [wRd_len]; have := List.mem_range.mp hh; omega) H H' F' hB
  have fr2 : FrX (fun a => ∃ h, h < 15 ∧ A (60 + h) = a) hp hp' := fr.mono (fun x _ e => by
    obtain ⟨h, hh, e⟩ := e
    have h15 := List.mem_range.mp hh
    exact ⟨h, h15, (wR_at h15).trans e⟩)
  refine ⟨v1, fr2, v4, v5, ω', w1, w4, fun h c hh hc => ?_, fun h c hh hc => ?_⟩
  · have hlt := (List.getElem?_eq_some_iff.mp hc).1
    rw [wGen_len] at hlt
    have hx := List.all_eq_true.mp wGen_ok c (List.mem_of_getElem? hc)
    have e1 : hp[A (60 + h)]? = some (wtc (fun h => A (60 + h)) σ ω' c) := by
      rw [o2 h c hc, wnxC_s (σ' := σ) (wGen_at hc).2, wndC_s (B := 17) (fun n hn => rfl) (fun j h1 _ => w2 j h1) (wGen_at hc).1]
    refine fr2.2.2.1 _ _ e1 ?_ (Or.inl (fun e => ?_))
    · rcases c with q | q
      · have hx' : (!decide (q.1 = 7)) = true := hx
        show decide (q.1 = 7) = false
        revert hx'
        generalize decide (q.1 = 7) = b
        intro h9
        cases b with
        | false => rfl
        | true => cases h9
      · have hx' : (!decide (q.1 = 2)) = true := hx
        show decide (q.1 = 2) = false
        revert hx'
        generalize decide (q.1 = 2) = b
        intro h9
        cases b with
        | false => rfl
        | true => cases h9
    · obtain ⟨h9, k1, k2⟩ := e
      have := hA _ _ (by omega) (by omega) k2
      omega
  · have h9 := H'.1 h c hc
    rw [show rhoR A i hp.length h = A (60 + h) from if_pos hh] at h9
    rw [h9, wndC_s (B := 15) (ρ' := fun h => A (60 + h)) (fun n hn => (wR_at hn).symm) (fun j _ _ => rfl) (List.all_eq_true.mp hN c (take15 hh hc))]
