/-! the house: statements are bound (by hand) -/
/-- no list's array -/
def wk7 (c : WC) : Bool := match c with
  | .inl q => !(Nat.beq q.1 7)
  | .inr q => !(Nat.beq q.1 13)
def rhoB (A : Nat → Nat) (ta : Nat → Nat) (m n : Nat) (h : Nat) : Nat := if h < 17 then A (60 + h) else if h = 17 then A 2 else if h < 18 + m then ta (h - 18) else n + (h - (18 + m))
theorem rhoB_inj {A ta : Nat → Nat} {m n : Nat} (hA : ∀ a b, a < 77 → b < 77 → A a = A b → a = b) (hl : ∀ a, a < 77 → A a < n) (ht : ∀ a b, a < m → b < m → ta a = ta b → a = b) (htl : ∀ a, a < m → ta a < n) (hAt : ∀ a b, a < 77 → b < m → A a ≠ ta b) : ∀ a b, rhoB A ta m n a = rhoB A ta m n b → a = b := by
  have key : ∀ a, (a < 18 ∧ ∃ x, x < 77 ∧ rhoB A ta m n a = A x ∧ (∀ b y, b < 18 → y < 77 → rhoB A ta m n b = A y → x = y → a = b)) ∨ (18 ≤ a ∧ a < 18 + m ∧ rhoB A ta m n a = ta (a - 18)) ∨ (18 + m ≤ a ∧ rhoB A ta m n a = n + (a - (18 + m))) := fun a => by
    by_cases h1 : a < 17
    · refine Or.inl ⟨by omega, 60 + a, by omega, if_pos h1, fun b y hb hy e1 e2 => ?_⟩
      unfold rhoB at e1
      by_cases b1 : b < 17
      · rw [if_pos b1] at e1
        have := hA _ _ (by omega) hy e1
        omega
      · rw [if_neg b1, if_pos (by omega)] at e1
        have := hA _ _ (by omega) hy e1
        omega
    by_cases h2 : a = 17
    · refine Or.inl ⟨by omega, 2, by omega, by unfold rhoB; rw [if_neg h1, if_pos h2], fun b y hb hy e1 e2 => ?_⟩
      unfold rhoB at e1
      by_cases b1 : b < 17
      · rw [if_pos b1] at e1
        have := hA _ _ (by omega) hy e1
        omega
      · omega
    by_cases h3 : a < 18 + m
    · exact Or.inr (Or.inl ⟨by omega, h3, by unfold rhoB; rw [if_neg h1, if_neg h2, if_pos h3]⟩)
    · exact Or.inr (Or.inr ⟨by omega, by unfold rhoB; rw [if_neg h1, if_neg h2, if_neg h3]⟩)
  intro a b e
  rcases key a with ⟨a1, x, a2, a3, a4⟩ | ⟨a1, a2, a3⟩ | ⟨a1, a2⟩
  · rcases key b with ⟨b1, y, b2, b3, b4⟩ | ⟨b1, b2, b3⟩ | ⟨b1, b2⟩
    · rw [a3, b3] at e
      exact a4 b y b1 b2 b3 (hA _ _ a2 b2 e)
    · rw [a3, b3] at e
      exact absurd e (hAt _ _ a2 (by omega))
    · have := hl x a2
      omega
  · rcases key b with ⟨b1, y, b2, b3, b4⟩ | ⟨b1, b2, b3⟩ | ⟨b1, b2⟩
    · rw [a3, b3] at e
      exact absurd e.symm (hAt _ _ b2 (by omega))
    · rw [a3, b3] at e
      have := ht _ _ (by omega) (by omega) e
      omega
    · have := htl (a - 18) (by omega)
      omega
  · rcases key b with ⟨b1, y, b2, b3, b4⟩ | ⟨b1, b2, b3⟩ | ⟨b1, b2⟩
    · have := hl y b2
      omega
    · have := htl (b - 18) (by omega)
      omega
    · omega
theorem wM0_c : ∀ h, h < 2 → wM0[h]? = wGen[15 + h]? := fun h hh => by
  have hz : h = 0 ∨ h = 1 := by omega
  rcases hz with hz | hz
  · rw [hz]; rfl
  · rw [hz]; rfl
/-- a statement is bound; T: the cells of the tables that it means, ck: those that must stand -/
theorem h_bind {S : List Int32} {hp : List XC} {A ta : Nat → Nat} {σ : Nat → Nat} {ω ω' : Nat → Value} {R W T : List WC} {tb : List (Nat × WV × Option Nat)} {ck : List (Nat × WC)} {ret : WV} {std : List Nat} {ts : List (Int32 × Int32)}
    (hE : wbdE tb T ck R ret W = true) (hB : wfrB (List.range 17) (R.take 15 ++ (wM0 ++ T)) W = true) (hN : (R.take 15).all (wndC 15) = true) (hR7 : (R.take 15).all wk7 = true) (hRl : 15 ≤ R.length)
    (hA : ∀ a b, a < 77 → b < 77 → A a = A b → a = b) (hl : ∀ a, a < 77 → A a < hp.length) (ht : ∀ a b, a < T.length → b < T.length → ta a = ta b → a = b) (htl : ∀ a, a < T.length → ta a < hp.length) (hAt : ∀ a b, a < 77 → b < T.length → A a ≠ ta b)
    (w1 : ∀ j, (ω' j).category = 1) (hω : ∀ j, 1000 ≤ j → j < 910010 → ω j = ω' j)
    (h15 : ∀ (h : Nat) (c : WC), 15 ≤ h → wGen[h]? = some c → hp[A (60 + h)]? = some (wtc (fun h => A (60 + h)) σ ω c)) (hR : ∀ (h : Nat) (c : WC), h < 15 → R[h]? = some c → hp[A (60 + h)]? = some (wtc (fun h => A (60 + h)) σ ω c))
    (hli : hp[A 2]? = some (.inr (2, [ω' 910010, ω' 910011, ω' 910012]))) (hT : ∀ (m : Nat) (c : WC), T[m]? = some c → hp[ta m]? = some (wtc (rhoB A ta T.length hp.length) σ ω' c))
    (hT7 : ∀ c ∈ T, ∀ es, c ≠ .inl (7, es)) (hD : hLs hp (A 2) std) (hTn9 : hTn hp std ts) (hck : ∀ q ∈ ck, hp[rhoB A ta T.length hp.length q.1]? = some (wtc (rhoB A ta T.length hp.length) σ ω' q.2)) (hck17 : ∃ q ∈ ck, q.1 = 17) (hst : ∀ a ∈ std, (∀ m, m < T.length → ta m ≠ a) ∨ ∃ q ∈ ck, a = rhoB A ta T.length hp.length q.1)
    (Hb : ∀ p ∈ tb, ∃ nm, wt (rhoB A ta T.length hp.length) σ ω' p.2.1 = .int nm ∧ (match p.2.2 with
      | some h => ∃ j, tnE ts nm (Int32.ofNat (wg [0, 1, 16, 17] (σ 10))) ts.length = some j ∧ std[j]? = some (rhoB A ta T.length hp.length h)
      | none => tnE ts nm (Int32.ofNat (wg [0, 1, 16, 17] (σ 10))) ts.length = none)) :
    Me S 8 76 [.ref (A 75), .ref (A 60), .ref (A 2), .int (Int32.ofNat (wg [0, 1, 16, 17] (σ 10)))] hp (fun v hp' c s => v = some (wt (rhoB A ta T.length hp.length) σ ω' ret) ∧ FrX (fun a => ∃ h, h < 17 ∧ A (60 + h) = a) hp hp' ∧ c = 0 ∧ s = 0 ∧ ∀ (h : Nat) (c : WC), h < 17 → W[h]? = some c → hp'[A (60 + h)]? = some (wtc (rhoB A ta T.length hp.length) σ ω' c)) := by
  obtain ⟨ρ, hρ⟩ : ∃ ρ, ρ = rhoB A ta T.length hp.length := ⟨_, rfl⟩
  have hinj := rhoB_inj (m := T.length) (n := hp.length) hA hl ht htl hAt
  rw [← hρ] at hT hck hst Hb hinj ⊢
  have r17 : ∀ h, h < 17 → ρ h = A (60 + h) := fun h hh => by rw [hρ]; exact if_pos hh
  have rl : ρ 17 = A 2 := by rw [hρ]; rfl
  have rt : ∀ m, m < T.length → ρ (18 + m) = ta m := fun m hm => by
    rw [hρ]
    unfold rhoB
    rw [if_neg (by omega), if_neg (by omega), if_pos (by omega), show 18 + m - 18 = m by omega]
  have rn : ∀ h, 18 + T.length ≤ h → ρ h = hp.length + (h - (18 + T.length)) := fun h hh => by
    rw [hρ]
    unfold rhoB
    rw [if_neg (by omega), if_neg (by omega), if_neg (by omega)]
  have hWl : (R.take 15 ++ (wM0 ++ T)).length = 18 + T.length := by
    rw [List.length_append, List.length_append, List.length_take, show wM0.length = 3 from rfl]
    omega
  have hcell : ∀ (h : Nat) (c : WC), (R.take 15 ++ (wM0 ++ T))[h]? = some c → hp[ρ h]? = some (wtc ρ σ ω' c) := fun h c hc => by
    have htk : (R.take 15).length = 15 := by rw [List.length_take]; omega
    by_cases h1 : h < 15
    · rw [List.getElem?_append_left (by omega), List.getElem?_take, if_pos h1] at hc
      rw [r17 h (by omega), hR h c h1 hc, wndC_s (B := 15) (fun n hn => (r17 n (by omega)).symm) hω (List.all_eq_true.mp hN c (take15 h1 hc))]
    rw [List.getElem?_append_right (by omega), htk] at hc
    by_cases h2 : h < 17
    · rw [List.getElem?_append_left (show h - 15 < wM0.length from by rw [show wM0.length = 3 from rfl]; omega), wM0_c (h - 15) (by omega), show 15 + (h - 15) = h by omega] at hc
      rw [r17 h h2, h15 h c (by omega) hc, wndC_s (B := 17) (fun n hn => (r17 n hn).symm) hω (wGen_at hc).1]
    by_cases h3 : h = 17
    · subst h3
      rw [rl, hli]
      cases hc
      rfl
    rw [List.getElem?_append_right (show wM0.length ≤ h - 15 from by rw [show wM0.length = 3 from rfl]; omega), show wM0.length = 3 from rfl] at hc
    have hm := (List.getElem?_eq_some_iff.mp hc).1
    have e1 := rt (h - 15 - 3) hm
    rw [show 18 + (h - 15 - 3) = h by omega] at e1
    rw [e1]
    exact hT _ c hc
  have H : WR ρ σ ω' (R.take 15 ++ (wM0 ++ T)) hp := ⟨hcell, fun h hh => by rw [hWl] at hh ⊢; exact rn h hh⟩
  have hck9 : ∀ hp2 : List XC, (∀ a c, ((∀ h, ρ h ≠ a) ∨ ∃ q ∈ ck, a = ρ q.1) → hp[a]? = some c → hp2[a]? = some c) → hLs hp2 (ρ 17) std ∧ hTn hp2 std ts := fun hp2 hk => by
    -- what no world's cell is
    have off : ∀ (a : Nat) (c : XC), hp[a]? = some c → (∀ k es, c = .inl (k, es) → k = 7) → (∀ k fs, c = .inr (k, fs) → k = 13) → (∀ m, m < T.length → ta m ≠ a) → ∀ h, ρ h ≠ a := fun a c hc k1 k2 k3 h e => by
      by_cases h0 : h < 18 + T.length
      · obtain ⟨d, hd⟩ : ∃ d, (R.take 15 ++ (wM0 ++ T))[h]? = some d := ⟨_, List.getElem?_eq_getElem (by omega)⟩
        have e2 := hcell h d hd
        rw [e, hc] at e2
        have e3 := Option.some.inj e2
        by_cases h1 : h < 15
        · rw [List.getElem?_append_left (by rw [List.length_take]; omega)] at hd
          have u := List.all_eq_true.mp hR7 d (List.mem_of_getElem? hd)
          rcases d with q | q
          · have := k1 _ _ e3
            have u' : (!(Nat.beq q.1 7)) = true := u
            rw [this] at u'
            cases u'
          · have := k2 _ _ e3
            have u' : (!(Nat.beq q.1 13)) = true := u
            rw [this] at u'
            cases u'
        by_cases h2 : h < 18
        · have htk : (R.take 15).length = 15 := by rw [List.length_take]; omega
          rw [List.getElem?_append_right (by omega), htk, List.getElem?_append_left (show h - 15 < wM0.length from by rw [show wM0.length = 3 from rfl]; omega)] at hd
          have hz : h - 15 = 0 ∨ h - 15 = 1 ∨ h - 15 = 2 := by omega
          rcases hz with hz | hz | hz
          · rw [hz] at hd
            cases hd
            exact absurd (k2 _ _ e3) (by decide)
          · rw [hz] at hd
            cases hd
            exact absurd (k1 _ _ e3) (by decide)
          · rw [hz] at hd
            cases hd
            exact absurd (k2 _ _ e3) (by decide)
        · have e4 := rt (h - 18) (by omega)
          rw [show 18 + (h - 18) = h by omega, e] at e4
          exact k3 (h - 18) (by omega) e4.symm
      · have e4 := rn h (by omega)
        rw [e] at e4
        have := (List.getElem?_eq_some_iff.mp hc).1
        omega
    have kt : ∀ a ∈ std, ∀ c, hp[a]? = some c → (∀ k es, c = .inl (k, es) → k = 7) → (∀ k fs, c = .inr (k, fs) → k = 13) → hp2[a]? = some c := fun a ha c hc k1 k2 => by
      rcases hst a ha with h | h
      · exact hk a c (Or.inl (off a c hc k1 k2 h)) hc
      · exact hk a c (Or.inr h) hc
    have hobj : ∀ a ∈ std, ∃ fs, hp[a]? = some (.inr (13, fs)) := fun a ha => by
      obtain ⟨j, hj⟩ := List.getElem?_of_mem ha
      have hjl := (List.getElem?_eq_some_iff.mp hj).1
      obtain ⟨sr, tf, h1⟩ := hTn9.2 j a (ts[j]'(by rw [← hTn9.1]; exact hjl)) hj (List.getElem?_eq_getElem _)
      exact ⟨_, h1⟩
    have kobj : ∀ a ∈ std, ∀ fs, hp[a]? = some (.inr (13, fs)) → hp2[a]? = some (.inr (13, fs)) := fun a ha fs hf => kt a ha _ hf (fun k es e => by cases e) (fun k fs e => by cases e; rfl)
    have kl : ∀ c, hp[A 2]? = some c → hp2[A 2]? = some c := fun c hc => by
      obtain ⟨q, hq, e⟩ := hck17
      exact hk (A 2) c (Or.inr ⟨q, hq, by rw [e, rl]⟩) hc
    refine ⟨?_, hTn9.1, fun i a q h1 h2 => ?_⟩
    · rw [rl]
      obtain ⟨u1, mc, u2⟩ := hD
      refine ⟨fun a ha => ?_, mc, ?_⟩
      · obtain ⟨fs, hf⟩ := hobj a ha
        exact ⟨13, fs, kobj a ha fs hf, by decide⟩
      · rcases u2 with ⟨u3, u4⟩ | ⟨e, m, u3, u4, u5⟩
        · exact Or.inl ⟨u3, kl _ u4⟩
        · refine Or.inr ⟨e, m, kl _ u3, hk e _ (Or.inl (off e _ u4 (fun k es q => by cases q; rfl) (fun k fs q => by cases q) (fun m' hm' q => ?_))) u4, u5⟩
          obtain ⟨d, hd⟩ : ∃ d, T[m']? = some d := ⟨_, List.getElem?_eq_getElem hm'⟩
          have e2 := hT m' d hd
          rw [q, u4] at e2
          have e3 := Option.some.inj e2
          rcases d with d | d
          · have e4 : (7 : Nat) = d.1 := congrArg Prod.fst (Sum.inl.inj e3)
            exact hT7 _ (List.mem_of_getElem? hd) d.2 (by rw [e4])
          · cases e3
    · obtain ⟨sr, tf, h3⟩ := hTn9.2 i a q h1 h2
      exact ⟨sr, tf, kobj a (List.mem_of_getElem? h1) _ h3⟩
  obtain ⟨L, hw⟩ := wrd_s hE
  have key := wrun_me (S := S) hinj w1 (wbt_s (S := S) hinj (lb9 := Int32.ofNat (wg [0, 1, 16, 17] (σ 10))) rfl hck9 hck Hb) (as := [wA 15, wA 0, wA 17, wLb]) hw H
  have ea : ([wA 15, wA 0, wA 17, wLb] : List WV).map (wt ρ σ ω') = [.ref (A 75), .ref (A 60), .ref (A 2), .int (Int32.ofNat (wg [0, 1, 16, 17] (σ 10)))] := by
    show [Value.ref (ρ 15), .ref (ρ 0), .ref (ρ 17), .int (Int32.ofNat (wg [0, 1, 16, 17] (σ 10)))] = _
    rw [r17 15 (by decide), r17 0 (by decide), rl]
  rw [ea] at key
  refine me_imp key (fun v hp' c s hv => ?_)
  obtain ⟨v1, H', F', v4, v5⟩ := hv
  have fr := wfr_s hinj (by decide) (fun h hh => by rw [hWl]; have := List.mem_range.mp hh; omega) H H' F' hB
  refine ⟨v1, fr.mono (fun x _ e => ?_), v4, v5, fun h c hh hc => ?_⟩
  · obtain ⟨h, hh, e⟩ := e
    have h17 := List.mem_range.mp hh
    exact ⟨h, h17, (r17 h h17).symm.trans e⟩
  · have := H'.1 h c hc
    rw [r17 h hh] at this
    exact this
