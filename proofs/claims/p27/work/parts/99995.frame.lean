/-! small worlds: what they leave alone -/
/-- a cell of the heap that may be changed to another one -/
def plC (c c' : XC) : Prop := xL7 c = false ∧ xL7 c' = false ∧ xim c = false ∧ (∀ fs, c ≠ .inr (13, fs)) ∧ ∀ ci fs, c = .inr (ci, fs) → ∃ gs, c' = .inr (ci, gs)
def setAll (hp : List XC) : List (Nat × XC) → List XC
  | [] => hp
  | q :: qs => setAll (hp.set q.1 q.2) qs
theorem setAll_ne {b : Nat} : ∀ (qs : List (Nat × XC)) (hp : List XC), (∀ q ∈ qs, q.1 ≠ b) → (setAll hp qs)[b]? = hp[b]?
  | [], _, _ => rfl
  | q :: qs, hp, h => by
    rw [setAll, setAll_ne qs _ (fun x hx => h x (List.mem_cons_of_mem _ hx)), List.getElem?_set_ne (h q List.mem_cons_self)]
theorem setAll_len : ∀ (qs : List (Nat × XC)) (hp : List XC), (setAll hp qs).length = hp.length
  | [], _ => rfl
  | q :: qs, hp => by rw [setAll, setAll_len qs, List.length_set]
theorem setAll_eq {a : Nat} {c : XC} : ∀ (qs : List (Nat × XC)) (hp : List XC), (qs.map Prod.fst).Nodup → (a, c) ∈ qs → a < hp.length → (setAll hp qs)[a]? = some c
  | [], _, _, h, _ => by cases h
  | q :: qs, hp, hn, h, ha => by
    rw [List.map_cons, List.nodup_cons] at hn
    rw [setAll]
    rcases List.mem_cons.mp h with e | e
    · subst e
      rw [setAll_ne qs _ (fun x hx e => hn.1 (List.mem_map.mpr ⟨x, hx, e⟩))]
      exact List.getElem?_set_self ha
    · exact setAll_eq qs _ hn.2 e (by rw [List.length_set]; exact ha)
theorem setAll_fr : ∀ (qs : List (Nat × XC)) (hp : List XC), (qs.map Prod.fst).Nodup → (∀ q ∈ qs, ∃ c, hp[q.1]? = some c ∧ plC c q.2) → FrX (fun a => ∃ q ∈ qs, q.1 = a) hp (setAll hp qs)
  | [], _, _, _ => FrX.rf
  | q :: qs, hp, hn, h => by
    rw [List.map_cons, List.nodup_cons] at hn
    obtain ⟨c, hc, p1, p2, p3, p4, p5⟩ := h q List.mem_cons_self
    have f1 : FrX (fun a => ∃ x ∈ q :: qs, x.1 = a) hp (hp.set q.1 q.2) := FrX.st hc ⟨q, List.mem_cons_self, rfl⟩ p1 p2 p3 (fun fs e => absurd e (p4 fs)) p5
    have f2 := setAll_fr qs (hp.set q.1 q.2) hn.2 (fun x hx => by
      obtain ⟨c2, h2, h3⟩ := h x (List.mem_cons_of_mem _ hx)
      exact ⟨c2, by rw [List.getElem?_set_ne (fun e => hn.1 (by rw [e]; exact List.mem_map_of_mem hx))]; exact h2, h3⟩)
    exact FrX.tr f1 f2 (fun x hx => by
      obtain ⟨z, hz, e⟩ := hx
      exact Or.inl ⟨z, List.mem_cons_of_mem _ hz, e⟩)
theorem plK_l {k : Nat} {es : List Value} (h : ¬ k = 7) : xL7 (.inl (k, es)) = false := decide_eq_false h
theorem plO_l {k : Nat} {fs : List Value} (h : ¬ k = 2) : xL7 (.inr (k, fs)) = false := decide_eq_false h
theorem plK_i {k : Nat} {es : List Value} (h1 : ¬ k = 6) (h2 : ¬ k = 23) (h3 : ¬ k = 24) (h4 : ¬ k = 29) : xim (.inl (k, es)) = false := by
  show (decide (k = 24) || decide (k = 23) || decide (k = 29) || decide (k = 6)) = false
  rw [decide_eq_false h1, decide_eq_false h2, decide_eq_false h3, decide_eq_false h4]
  rfl
theorem plO_i {k : Nat} {fs : List Value} (h : ¬ k = 4) : xim (.inr (k, fs)) = false := decide_eq_false h
/-- the same for cells of a world -/
def wpl (c c' : WC) : Bool := match c, c' with
  | .inl p, .inl q => Nat.beq p.1 q.1 && !(List.elem p.1 [6, 7, 23, 24, 29])
  | .inr p, .inr q => Nat.beq p.1 q.1 && !(List.elem p.1 [2, 4, 13])
  | _, _ => false
section WFR
variable {ρ σ σ' : Nat → Nat} {ω ω' : Nat → Value}
theorem wpl_s {c c' : WC} (h : wpl c c' = true) : plC (wtc ρ σ ω c) (wtc ρ σ' ω' c') := by
  unfold wpl at h
  split at h
  · rename_i p q
    obtain ⟨k, es⟩ := p
    obtain ⟨k2, es2⟩ := q
    rw [Bool.and_eq_true] at h
    have h1 : k = k2 := Nat.eq_of_beq_eq_true h.1
    subst h1
    have h2 : ¬ k ∈ ([6, 7, 23, 24, 29] : List Nat) := fun e => by
      have := h.2
      rw [show List.elem k [6, 7, 23, 24, 29] = true from List.elem_eq_true_of_mem e] at this
      cases this
    simp only [List.mem_cons, List.not_mem_nil, or_false, not_or] at h2
    obtain ⟨a1, a2, a3, a4, a5⟩ := h2
    refine ⟨plK_l a2, plK_l a2, plK_i a1 a3 a4 a5, ?_, ?_⟩
    · intro fs e; unfold wtc at e; cases e
    · intro ci fs e; unfold wtc at e; cases e
  · rename_i p q
    obtain ⟨k, es⟩ := p
    obtain ⟨k2, es2⟩ := q
    rw [Bool.and_eq_true] at h
    have h1 : k = k2 := Nat.eq_of_beq_eq_true h.1
    subst h1
    have h2 : ¬ k ∈ ([2, 4, 13] : List Nat) := fun e => by
      have := h.2
      rw [show List.elem k [2, 4, 13] = true from List.elem_eq_true_of_mem e] at this
      cases this
    simp only [List.mem_cons, List.not_mem_nil, or_false, not_or] at h2
    obtain ⟨a1, a2, a3⟩ := h2
    refine ⟨plO_l a1, plO_l a1, plO_i a2, ?_, ?_⟩
    · intro fs e; unfold wtc at e; cases e; exact a3 rfl
    · intro ci fs e; unfold wtc at e; cases e; exact ⟨_, rfl⟩
  · cases h
/-- the cells that may have changed -/
def wfrB (ch : List Nat) (W W' : List WC) : Bool := Nat.beq W.length W'.length && (List.range W.length).all (fun h => match (W[h]? : Option WC), (W'[h]? : Option WC) with
  | some c, some c' => bif List.elem h ch then wpl c c' else wceq c c'
  | _, _ => false)
theorem wfr_s (hρ : ∀ a b, ρ a = ρ b → a = b) {W W' : List WC} {hp hp' : List XC} {ch : List Nat} (hn : ch.Nodup) (hch : ∀ h ∈ ch, h < W.length) (H : WR ρ σ ω W hp) (H' : WR ρ σ ω W' hp') (F : WF ρ hp hp') (hb : wfrB ch W W' = true) : FrX (fun a => ∃ h ∈ ch, ρ h = a) hp hp' := by
  unfold wfrB at hb
  rw [Bool.and_eq_true] at hb
  have hl : W.length = W'.length := Nat.eq_of_beq_eq_true hb.1
  have hlen : hp.length = hp'.length := by
    have h1 := H.2 W.length (Nat.le_refl _)
    have h2 := H'.2 W.length (by omega)
    rw [h1] at h2
    omega
  have cell : ∀ h, h < W.length → ∃ c c', W[h]? = some c ∧ W'[h]? = some c' ∧ (bif List.elem h ch then wpl c c' else wceq c c') = true := by
    intro h hh
    have := List.all_eq_true.mp hb.2 h (List.mem_range.mpr hh)
    split at this
    · rename_i c c' e1 e2
      exact ⟨c, c', e1, e2, this⟩
    · cases this
  have key : ∀ h ∈ ch, ∃ c c', hp[ρ h]? = some c ∧ hp'[ρ h]? = some c' ∧ plC c c' := by
    intro h hh
    obtain ⟨c, c', e1, e2, e3⟩ := cell h (hch h hh)
    rw [show List.elem h ch = true from List.elem_eq_true_of_mem hh] at e3
    exact ⟨_, _, H.1 _ _ e1, H'.1 _ _ e2, wpl_s e3⟩
  have hset : hp' = setAll hp (ch.map (fun h => (ρ h, (hp'[ρ h]?).getD (.inl (0, []))))) := by
    refine List.ext_getElem? (fun a => ?_)
    by_cases ha : ∃ h ∈ ch, ρ h = a
    · obtain ⟨h, hh, rfl⟩ := ha
      obtain ⟨c, c', e1, e2, -⟩ := key h hh
      rw [setAll_eq (a := ρ h) (c := c') _ _ ?_ ?_ (List.getElem?_eq_some_iff.mp e1).1, e2]
      · rw [List.map_map]
        exact List.Pairwise.map _ (fun x z hxz e => hxz (hρ _ _ e)) hn
      · exact List.mem_map.mpr ⟨h, hh, by rw [e2]; rfl⟩
    · rw [setAll_ne _ _ (fun q hq e => by
        obtain ⟨h, hh, rfl⟩ := List.mem_map.mp hq
        exact ha ⟨h, hh, e⟩)]
      by_cases hi : ∃ h, ρ h = a
      · obtain ⟨h, rfl⟩ := hi
        by_cases hlt : h < W.length
        · obtain ⟨c, c', e1, e2, e3⟩ := cell h hlt
          have : List.elem h ch = false := by
            cases hz : List.elem h ch with
            | false => rfl
            | true => exact absurd ⟨h, List.mem_of_elem_eq_true hz, rfl⟩ ha
          rw [this] at e3
          rw [H.1 _ _ e1, H'.1 _ _ e2, wceq_s e3]
        · rw [H.2 h (by omega), List.getElem?_eq_none (by omega), List.getElem?_eq_none (by omega)]
      · exact F a (fun h e => hi ⟨h, e⟩)
  have fin := setAll_fr (ch.map (fun h => (ρ h, (hp'[ρ h]?).getD (.inl (0, []))))) hp (by
    rw [List.map_map]
    exact List.Pairwise.map _ (fun x z hxz e => hxz (hρ _ _ e)) hn) (fun q hq => by
      obtain ⟨h, hh, rfl⟩ := List.mem_map.mp hq
      obtain ⟨c, c', e1, e2, e3⟩ := key h hh
      exact ⟨c, e1, by rw [e2]; exact e3⟩)
  rw [← hset] at fin
  exact fin.mono (fun a _ ha => by
    obtain ⟨q, hq, e⟩ := ha
    obtain ⟨h, hh, rfl⟩ := List.mem_map.mp hq
    exact ⟨h, hh, e⟩)
end WFR
