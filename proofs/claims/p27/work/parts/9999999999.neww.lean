/-! the house: newTable in the bound world (by hand) -/
def wk2 (c : WC) : Bool := match c with
  | .inl _ => true
  | .inr q => !(Nat.beq q.1 2)
theorem FrX.nws {P : Nat → Prop} : ∀ {l hp : List XC}, (∀ c ∈ l, ∀ (a n : Value) (e : Nat), c ≠ .inr (2, [a, .ref e, n])) → FrX P hp (hp ++ l)
  | [], hp, _ => by rw [List.append_nil]; exact FrX.rf
  | c :: l, hp, h => by
    have e : hp ++ c :: l = (hp ++ [c]) ++ l := by rw [List.append_assoc]; rfl
    rw [e]
    exact FrX.tr (FrX.nw (fun a n e => h c List.mem_cons_self a n e)) (FrX.nws (fun d hd => h d (List.mem_cons_of_mem _ hd))) (fun x hx => Or.inl hx)
/-- a world that only grew: so did the heap -/
theorem wgrow {ρ σ : Nat → Nat} {ω : Nat → Value} {W N : List WC} {hp hp' : List XC} (H : WR ρ σ ω W hp) (H' : WR ρ σ ω (W ++ N) hp') (F : WF ρ hp hp') : hp' = hp ++ N.map (wtc ρ σ ω) := by
  have e1 := H.2 (W ++ N).length (by rw [List.length_append]; omega)
  have e2 := H'.2 (W ++ N).length (Nat.le_refl _)
  rw [List.length_append] at e1 e2
  have hlen : hp'.length = hp.length + N.length := by omega
  refine List.ext_getElem? (fun a => ?_)
  by_cases ha : a < hp.length
  · rw [List.getElem?_append_left ha]
    by_cases hx : ∃ h, ρ h = a
    · obtain ⟨h, e⟩ := hx
      have hh : h < W.length := Decidable.byContradiction (fun q => by have := H.2 h (by omega); omega)
      have hc : W[h]? = some W[h] := List.getElem?_eq_getElem hh
      rw [← e, H.1 h _ hc, H'.1 h _ (by rw [List.getElem?_append_left hh]; exact hc)]
    · exact F a (fun h e => hx ⟨h, e⟩)
  · by_cases hb : a < hp'.length
    · have hn : a - hp.length < N.length := by omega
      have hr := H.2 (W.length + (a - hp.length)) (by omega)
      have hc : (W ++ N)[W.length + (a - hp.length)]? = some N[a - hp.length] := by
        rw [List.getElem?_append_right (by omega), show W.length + (a - hp.length) - W.length = a - hp.length by omega]
        exact List.getElem?_eq_getElem hn
      have hq := H'.1 _ _ hc
      rw [show ρ (W.length + (a - hp.length)) = a by omega] at hq
      rw [hq, List.getElem?_append_right (by omega), List.getElem?_map, List.getElem?_eq_getElem hn]
      rfl
    · rw [List.getElem?_eq_none (by omega), List.getElem?_eq_none (by rw [List.length_append, List.length_map]; omega)]
theorem h_newW {S : List Int32} {hp : List XC} {A ta ρ0 σ : Nat → Nat} {ω ω' : Nat → Value} {W T N : List WC} {tb : List (Nat × WV × Option Nat)} {ck : List (Nat × WC)} {std : List Nat} {ts : List (Int32 × Int32)} {t c9 s9 : Nat}
    (hE : wrd (wrun (wbt tb wLb ck) 9000 9 165 300000 0 (wargs 0 [wA 15, nwS]) [] W 0 0) 100000 [wA t] (W ++ N) c9 s9 = true) (hN : N.all wk2 = true)
    (hW : WH A ρ0 σ ω W hp) (hr17 : ρ0 17 = A 2) (hrt : ∀ m, m < T.length → ρ0 (18 + m) = ta m) (hB : BT hp A ta σ ω ω' T ck std) (hl : W.length = 18 + T.length) (h17 : W[17]? = wM0[2]?) (hT9 : W.drop 18 = T) (hG : (W.take 17).all (wnGC (18 + T.length)) = true) (hk7 : (W.take 18).all wk7 = true)
    (hA : ∀ a b, a < 77 → b < 77 → A a = A b → a = b) (hlA : ∀ a, a < 77 → A a < hp.length) (hD : hLs hp (A 2) std) (hTn9 : hTn hp std ts)
    (Hb : ∀ p ∈ tb, ∃ nm, wt (rhoB A ta T.length hp.length) σ ω' p.2.1 = .int nm ∧ (match p.2.2 with
      | some h => ∃ j, tnE ts nm (Int32.ofNat (wg [0, 1, 16, 17] (σ 10))) ts.length = some j ∧ std[j]? = some (rhoB A ta T.length hp.length h)
      | none => tnE ts nm (Int32.ofNat (wg [0, 1, 16, 17] (σ 10))) ts.length = none)) :
    Me S 9 165 [.ref (A 75), .int (Int32.ofNat (wg ((List.range 400).map Nat.succ) (σ 20)))] hp (fun v hp' c s => v = some (.ref (rhoB A ta T.length hp.length t)) ∧ FrX (fun _ => False) hp hp' ∧ WR (rhoB A ta T.length hp.length) σ ω' (W ++ N) hp' ∧ c = c9 ∧ s = s9 ∧ hp' = hp ++ N.map (wtc (rhoB A ta T.length hp.length) σ ω')) := by
  have H := hW.wr hr17 hrt hB hl h17 hT9 hG
  obtain ⟨ht, htl, hAt, w1, hω, hli, hT, hT7, hck, hck17, hst⟩ := hB
  obtain ⟨ρ, hρ⟩ : ∃ ρ, ρ = rhoB A ta T.length hp.length := ⟨_, rfl⟩
  have hinj := rhoB_inj (m := T.length) (n := hp.length) hA hlA ht htl hAt
  rw [← hρ] at hT hck hst Hb hinj H ⊢
  have rl : ρ 17 = A 2 := by rw [hρ]; rfl
  have r15 : ρ 15 = A 75 := by rw [hρ]; rfl
  have rt : ∀ m, m < T.length → ρ (18 + m) = ta m := fun m hm => by
    rw [hρ]
    unfold rhoB
    rw [if_neg (by omega), if_neg (by omega), if_pos (by omega), show 18 + m - 18 = m by omega]
  have rn : ∀ h, 18 + T.length ≤ h → ρ h = hp.length + (h - (18 + T.length)) := fun h hh => by
    rw [hρ]
    unfold rhoB
    rw [if_neg (by omega), if_neg (by omega), if_neg (by omega)]
  have hck9 : ∀ hp2 : List XC, (∀ a c, ((∀ h, ρ h ≠ a) ∨ ∃ q ∈ ck, a = ρ q.1) → hp[a]? = some c → hp2[a]? = some c) → hLs hp2 (ρ 17) std ∧ hTn hp2 std ts := fun hp2 hk => by
    have off : ∀ (a : Nat) (c : XC), hp[a]? = some c → (∀ k es, c = .inl (k, es) → k = 7) → (∀ k fs, c = .inr (k, fs) → k = 13) → (∀ m, m < T.length → ta m ≠ a) → ∀ h, ρ h ≠ a := fun a c hc k1 k2 k3 h e => by
      by_cases h0 : h < 18
      · obtain ⟨d, hd⟩ : ∃ d, W[h]? = some d := ⟨_, List.getElem?_eq_getElem (by omega)⟩
        have e2 := H.1 h d hd
        rw [e, hc] at e2
        have e3 := Option.some.inj e2
        have u := List.all_eq_true.mp hk7 d (List.mem_of_getElem? (i := h) (by rw [List.getElem?_take, if_pos h0]; exact hd))
        rcases d with q | q
        · have := k1 _ _ e3
          have u' : (!(Nat.beq q.1 7)) = true := u
          rw [this] at u'
          cases u'
        · have := k2 _ _ e3
          have u' : (!(Nat.beq q.1 13)) = true := u
          rw [this] at u'
          cases u'
      · by_cases h1 : h < 18 + T.length
        · have e4 := rt (h - 18) (by omega)
          rw [show 18 + (h - 18) = h by omega, e] at e4
          exact k3 (h - 18) (by omega) e4.symm
        · have e4 := rn h (by omega)
          rw [e] at e4
          have := (List.getElem?_eq_some_iff.mp hc).1
          omega
    have kt : ∀ a ∈ std, ∀ c, hp[a]? = some c → (∀ k es, c = .inl (k, es) → k = 7) → (∀ k fs, c = .inr (k, fs) → k = 13) → hp2[a]? = some c := fun a ha c hc k1 k2 => by
      rcases hst a ha with h | h
      · exact hk a c (Or.inl (off a c hc k1 k2 h)) hc
      · exact hk a c (Or.inr h) hc
    have hobj : ∀ a ∈ std, ∃ fs, hp[a]? = some (.inr (13, fs)) := fun a ha => by
      obtain ⟨j, hj⟩ := List.getElem?_of_mem ha
      have hjl := (List.getElem?_eq_some_iff.mp hj).1
      obtain ⟨sr, tf, h1⟩ := hTn9.2 j a (ts[j]'(by rw [← hTn9.1]; exact hjl)) hj (List.getElem?_eq_getElem _)
      exact ⟨_, h1⟩
    have kobj : ∀ a ∈ std, ∀ fs, hp[a]? = some (.inr (13, fs)) → hp2[a]? = some (.inr (13, fs)) := fun a ha fs hf => kt a ha _ hf (fun k es e => by cases e) (fun k fs e => by cases e; rfl)
    have kl : ∀ c, hp[A 2]? = some c → hp2[A 2]? = some c := fun c hc => by
      obtain ⟨q, hq, e⟩ := hck17
      exact hk (A 2) c (Or.inr ⟨q, hq, by rw [e, rl]⟩) hc
    refine ⟨?_, hTn9.1, fun i a q h1 h2 => ?_⟩
    · rw [rl]
      obtain ⟨u1, mc, u2⟩ := hD
      refine ⟨fun a ha => ?_, mc, ?_⟩
      · obtain ⟨fs, hf⟩ := hobj a ha
        exact ⟨13, fs, kobj a ha fs hf, by decide⟩
      · rcases u2 with ⟨u3, u4⟩ | ⟨e, m, u3, u4, u5⟩
        · exact Or.inl ⟨u3, kl _ u4⟩
        · refine Or.inr ⟨e, m, kl _ u3, hk e _ (Or.inl (off e _ u4 (fun k es q => by cases q; rfl) (fun k fs q => by cases q) (fun m' hm' q => ?_))) u4, u5⟩
          obtain ⟨d, hd⟩ : ∃ d, T[m']? = some d := ⟨_, List.getElem?_eq_getElem hm'⟩
          have e2 := hT m' d hd
          rw [q, u4] at e2
          have e3 := Option.some.inj e2
          rcases d with d | d
          · have e4 : (7 : Nat) = d.1 := congrArg Prod.fst (Sum.inl.inj e3)
            exact hT7 _ (List.mem_of_getElem? hd) d.2 (by rw [e4])
          · cases e3
    · obtain ⟨sr, tf, h3⟩ := hTn9.2 i a q h1 h2
      exact ⟨sr, tf, kobj a (List.mem_of_getElem? h1) _ h3⟩
  obtain ⟨L, hw⟩ := wrd_s hE
  have key := wrun_me (S := S) hinj w1 (wbt_s (S := S) hinj (lb9 := Int32.ofNat (wg [0, 1, 16, 17] (σ 10))) rfl hck9 hck Hb) (as := [wA 15, nwS]) hw H
  have ea : ([wA 15, nwS] : List WV).map (wt ρ σ ω') = [.ref (A 75), .int (Int32.ofNat (wg ((List.range 400).map Nat.succ) (σ 20)))] := by
    show [Value.ref (ρ 15), .int (Int32.ofNat (wg ((List.range 400).map Nat.succ) (σ 20)))] = _
    rw [r15]
  rw [ea] at key
  refine me_imp key (fun v hp' c s hv => ?_)
  obtain ⟨v1, H', F', v4, v5⟩ := hv
  have eh := wgrow H H' F'
  have fr : FrX (fun _ => False) hp hp' := by
    rw [eh]
    refine FrX.nws (fun c hc a n e hx => ?_)
    obtain ⟨d, hd, rfl⟩ := List.mem_map.mp hc
    have u := List.all_eq_true.mp hN d hd
    rcases d with q | q
    · cases hx
    · have e3 : q.1 = 2 := congrArg Prod.fst (Sum.inr.inj hx)
      have u' : (!(Nat.beq q.1 2)) = true := u
      rw [e3] at u'
      cases u'
  exact ⟨v1, fr, H', v4, v5, eh⟩
