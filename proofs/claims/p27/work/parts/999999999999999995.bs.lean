/-! a builder's steps; two houses and the law stand behind them (by hand) -/
def Bst (A B : Nat → Nat) (L la io : Nat) (h0 hp : List XC) (ow0 : Nat → Nat) (M N : HM) (lbs ops : List Int32) (top : Int32) (dt pc ps c s K J b : Nat) (cs : List Nat) : Prop := ∃ (ow' : Nat → Nat) (pc' ps' a m : Nat), (∀ x, x < h0.length → ow' x = ow0 x) ∧ W2 A B L la io hp ow' M N lbs ops top dt pc' ps' ∧ FrX (fun x => ow0 x < 3000) h0 hp ∧ hSB hp b a cs m ∧ ow' b = 3001 ∧ ow' a = 3001 ∧ h0.length ≤ b ∧ h0.length ≤ a ∧ c + pc ≤ pc' + K ∧ s + ps ≤ ps' + J
def BsT (A B : Nat → Nat) (L la io : Nat) (h0 hp : List XC) (ow0 : Nat → Nat) (M N : HM) (lbs ops : List Int32) (top : Int32) (dt pc ps c s K J b : Nat) (cs : List Nat) (t : Value) (ds : List Nat) : Prop := ∃ (ow' : Nat → Nat) (pc' ps' a m : Nat), (∀ x, x < h0.length → ow' x = ow0 x) ∧ W2 A B L la io hp ow' M N lbs ops top dt pc' ps' ∧ FrX (fun x => ow0 x < 3000) h0 hp ∧ hSB hp b a cs m ∧ ow' b = 3001 ∧ ow' a = 3001 ∧ h0.length ≤ b ∧ h0.length ≤ a ∧ c + pc ≤ pc' + K ∧ s + ps ≤ ps' + J ∧ hTn9 hp ow' t ds
def S2T (A B : Nat → Nat) (L la io : Nat) (h0 hp : List XC) (ow0 : Nat → Nat) (M N : HM) (lbs ops : List Int32) (top : Int32) (dt pc ps c s K J : Nat) (t : Value) (ds : List Nat) : Prop := ∃ (ow' : Nat → Nat) (pc' ps' : Nat), (∀ x, x < h0.length → ow' x = ow0 x) ∧ W2 A B L la io hp ow' M N lbs ops top dt pc' ps' ∧ FrX (fun x => ow0 x < 3000) h0 hp ∧ hTn9 hp ow' t ds ∧ c + pc ≤ pc' + K ∧ s + ps ≤ ps' + J
theorem hSB.ltb {hp : List XC} {b a m : Nat} {cs : List Nat} (h : hSB hp b a cs m) : b < hp.length := by
  obtain ⟨-, -, mv, hb, -⟩ := h
  exact (List.getElem?_eq_some_iff.mp hb).1
theorem hSB.lta {hp : List XC} {b a m : Nat} {cs : List Nat} (h : hSB hp b a cs m) : a < hp.length := by
  obtain ⟨-, -, mv, -, ha⟩ := h
  exact (List.getElem?_eq_some_iff.mp ha).1
theorem hSB.fr {P : Nat → Prop} {hp hp' : List XC} {b a m : Nat} {cs : List Nat} (h : hSB hp b a cs m) (f : FrX P hp hp') (hb : ¬ P b) (ha : ¬ P a) : hSB hp' b a cs m := by
  obtain ⟨h1, h2, mv, h3, h4⟩ := h
  exact ⟨h1, h2, mv, f.ob h3 (by decide) hb, f.ar h4 (by decide) ha⟩
/-- a constant -/
theorem hTnK {hp : List XC} {ow : Nat → Nat} {k vk : Nat} {r : List Value} {ds : List Nat} (h1 : xKC[k]? = some (.inr (0, .retAddr vk :: .int 0 :: r))) (h2 : xKC[vk]? = some (.inl (2, bL ds))) (h : ds.all (fun c => Nat.ble c 127) = true) (hl : ds.length ≤ 1000) : hTn9 hp ow (.retAddr k) ds := ⟨⟨fun c hc => by
  have := Nat.le_of_ble_eq_true (List.all_eq_true.mp h c hc)
  omega, hl, Or.inr ⟨k, vk, r, rfl, h1, h2⟩⟩, Or.inl ⟨k, rfl⟩⟩
section
variable {S : List Int32} {A B : Nat → Nat} {L la io : Nat} {h0 hp hp' hp1 hp2 : List XC} {ow0 : Nat → Nat} {M N : HM} {lbs ops : List Int32} {top : Int32} {dt pc ps c s K J b c2 s2 : Nat} {cs ds : List Nat} {t : Value}
theorem bs_r {cs' : List Nat} {ow' : Nat → Nat} {pc' ps' a m k9 : Nat} (hw : ∀ x, x < h0.length → ow' x = ow0 x) (W : W2 A B L la io hp ow' M N lbs ops top dt pc' ps') (f : FrX (fun x => ow0 x < 3000) h0 hp) (hB : hSB hp b a cs m) (ob : ow' b = 3001) (oa : ow' a = 3001) (lb : h0.length ≤ b) (la9 : h0.length ≤ a) (e1 : c + pc ≤ pc' + K) (e2 : s + ps ≤ ps' + J) (h : RSB hp b a cs' k9 hp' c2 s2) : Bst A B L la io h0 hp' ow0 M N lbs ops top dt pc ps (c + c2) (s + s2) (K + 1) (J + 300) b cs' := by
  obtain ⟨a', m', g1, g2, g3, g4, g5, g6⟩ := h
  have hbl := hB.ltb
  have hal := hB.lta
  have l0 := f.1
  obtain ⟨ow2, how2⟩ : ∃ w : Nat → Nat, w = fun x => if x < hp.length then ow' x else 3001 := ⟨_, rfl⟩
  have hlt : ∀ x, x < hp.length → ow2 x = ow' x := fun x hx => by rw [how2]; exact if_pos hx
  have hge : ∀ x, hp.length ≤ x → ow2 x = 3001 := fun x hx => by rw [how2]; exact if_neg (Nat.not_lt.mpr hx)
  have f9 : FrX (fun x => (fun n => n = 3001) (ow' x)) hp hp' := g3.mono (fun x _ hx => by
    rcases hx with hx | hx
    · show ow' x = 3001
      rw [hx]; exact ob
    · show ow' x = 3001
      rw [hx]; exact oa)
  have W' := W2.off (Z := fun n => n = 3001) W f9 hlt (fun n hn h9 => by
    have h9' : n = 3001 := h9
    omega)
  refine ⟨ow2, pc', ps', a', m', fun x hx => by rw [hlt x (Nat.lt_of_lt_of_le hx l0)]; exact hw x hx, W', FrX.tr f g3 (fun x hx => ?_), g1, by rw [hlt b hbl]; exact ob, ?_, lb, ?_, by omega, by omega⟩
  · rcases hx with hx | hx
    · exact Or.inr (by rw [hx]; exact lb)
    · exact Or.inr (by rw [hx]; exact la9)
  · rcases g4 with e | e
    · rw [e, hlt a hal]; exact oa
    · exact hge _ e
  · rcases g4 with e | e
    · rw [e]; exact la9
    · exact Nat.le_trans l0 e
theorem bs_app (h : BsT A B L la io h0 hp ow0 M N lbs ops top dt pc ps c s K J b cs t ds) (hl : cs.length + ds.length ≤ 140) : Me S 5 207 [.ref b, t] hp (fun v hp' c2 s2 => v = some (.ref b) ∧ Bst A B L la io h0 hp' ow0 M N lbs ops top dt pc ps (c + c2) (s + s2) (K + 1) (J + 300) b (cs ++ ds)) := by
  obtain ⟨ow', pc', ps', a, m, hw, W, f, hB, ob, oa, lb, la9, e1, e2, hT⟩ := h
  have key : Me S 5 207 [.ref b, t] hp (fun v hp' c s => v = some (.ref b) ∧ RSB hp b a (cs ++ ds) 0 hp' c s) := by
    obtain ⟨⟨hok, hl9, ⟨ta, va, r, rfl, k1, k2⟩ | ⟨tk, vk, r, rfl, k1, k2⟩⟩, hn⟩ := hT
    · have hne : ¬ va = a := fun e => by
        obtain ⟨k, e9⟩ | ⟨a9, va9, r9, e9, g1, g2, g3⟩ := hn
        · cases e9
        · cases e9
          rw [k1] at g1
          cases g1
          rw [e, oa] at g3
          exact absurd g3 (by decide)
      exact m_app_r hB k1 k2 hne hok hl9 hl
    · exact m_app_k hB k1 k2 hok hl9 hl
  exact me_imp key (fun v hp' c2 s2 h => ⟨h.1, bs_r hw W f hB ob oa lb la9 e1 e2 h.2⟩)
theorem bs_appD {d : Nat} (h : Bst A B L la io h0 hp ow0 M N lbs ops top dt pc ps c s K J b cs) (hd : d < 10) (hl : cs.length + 1 ≤ 140) : Me S 5 232 [.ref b, .int (Int32.ofNat d)] hp (fun v hp' c2 s2 => v = some (.ref b) ∧ Bst A B L la io h0 hp' ow0 M N lbs ops top dt pc ps (c + c2) (s + s2) (K + 1) (J + 300) b (cs ++ [48 + d])) := by
  obtain ⟨ow', pc', ps', a, m, hw, W, f, hB, ob, oa, lb, la9, e1, e2⟩ := h
  exact me_imp (m_appD hB hd hl) (fun v hp' c2 s2 h => ⟨h.1, bs_r hw W f hB ob oa lb la9 e1 e2 h.2⟩)
theorem bs_app6 (h : Bst A B L la io h0 hp ow0 M N lbs ops top dt pc ps c s K J b cs) (hl : cs.length + 2 ≤ 140) : Me S 5 232 [.ref b, .int 16] hp (fun v hp' c2 s2 => v = some (.ref b) ∧ Bst A B L la io h0 hp' ow0 M N lbs ops top dt pc ps (c + c2) (s + s2) (K + 1) (J + 300) b (cs ++ [49, 54])) := by
  obtain ⟨ow', pc', ps', a, m, hw, W, f, hB, ob, oa, lb, la9, e1, e2⟩ := h
  exact me_imp (m_app6 hB hl) (fun v hp' c2 s2 h => ⟨h.1, bs_r hw W f hB ob oa lb la9 e1 e2 h.2⟩)
theorem bs_toS (h : Bst A B L la io h0 hp ow0 M N lbs ops top dt pc ps c s K J b cs) : Me S 6 223 [.ref b] hp (fun v hp' c2 s2 => v = some (.ref hp.length) ∧ S2T A B L la io h0 hp' ow0 M N lbs ops top dt pc ps (c + c2) (s + s2) (K + 2) (J + 310) (.ref hp.length) cs) := by
  obtain ⟨ow', pc', ps', a, m, hw, W, f, hB, ob, oa, lb, la9, e1, e2⟩ := h
  refine me_imp (m_toT hB) (fun v hp' c2 s2 k => ?_)
  obtain ⟨rfl, g1, ⟨va, r, g2, g3⟩, g4, g5, g6⟩ := k
  have l0 := f.1
  obtain ⟨ow2, how2⟩ : ∃ w : Nat → Nat, w = fun x => if x < hp.length then ow' x else 3000 := ⟨_, rfl⟩
  have hlt : ∀ x, x < hp.length → ow2 x = ow' x := fun x hx => by rw [how2]; exact if_pos hx
  have hge : ∀ x, hp.length ≤ x → ow2 x = 3000 := fun x hx => by rw [how2]; exact if_neg (Nat.not_lt.mpr hx)
  have W' := W2.off (Z := fun _ => False) W g4 hlt (fun n hn h9 => h9)
  exact ⟨rfl, ow2, pc', ps', fun x hx => by rw [hlt x (Nat.lt_of_lt_of_le hx l0)]; exact hw x hx, W', FrX.tr f g4 (fun x hx => False.elim hx), ⟨g1, Or.inr ⟨hp.length, va, r, rfl, g3, hge _ (Nat.le_refl _), hge _ g2⟩⟩, by omega, by omega⟩
/-- a step that writes what is named below 3000 leaves a builder as it was -/
theorem bs_st {dt2 K2 J2 : Nat} {ow' : Nat → Nat} {pc' ps' a m : Nat} (hw : ∀ x, x < h0.length → ow' x = ow0 x) (f : FrX (fun x => ow0 x < 3000) h0 hp) (hB : hSB hp b a cs m) (ob : ow' b = 3001) (oa : ow' a = 3001) (lb : h0.length ≤ b) (la9 : h0.length ≤ a) (e1 : c + pc ≤ pc' + K) (e2 : s + ps ≤ ps' + J) (k : S2T A B L la io hp hp' ow' M N lbs ops top dt2 pc' ps' c2 s2 K2 J2 t ds) : BsT A B L la io h0 hp' ow0 M N lbs ops top dt2 pc ps (c + c2) (s + s2) (K + K2) (J + J2) b cs t ds := by
  obtain ⟨ow2, pc2, ps2, w2, W', f2, hT, e3, e4⟩ := k
  have l0 := f.1
  refine ⟨ow2, pc2, ps2, a, m, fun x hx => (w2 x (Nat.lt_of_lt_of_le hx l0)).trans (hw x hx), W', FrX.tr f f2 (fun x hx => ?_), hB.fr f2 (fun h9 => ?_) (fun h9 => ?_), by rw [w2 b hB.ltb]; exact ob, by rw [w2 a hB.lta]; exact oa, lb, la9, by omega, by omega, hT⟩
  · rcases Nat.lt_or_ge x h0.length with hl | hl
    · have hx' : ow' x < 3000 := hx
      rw [hw x hl] at hx'
      exact Or.inl hx'
    · exact Or.inr hl
  · have h9' : ow' b < 3000 := h9
    omega
  · have h9' : ow' a < 3000 := h9
    omega
theorem S2.tx {ow' : Nat → Nat} (k : S2 A B L la io hp hp' ow' M N lbs ops top dt pc ps c s K J) (hT : ∀ hp ow, hTn9 hp ow t ds) : S2T A B L la io hp hp' ow' M N lbs ops top dt pc ps c s K J t ds := by
  obtain ⟨ow2, pc2, ps2, w2, W', f2, e3, e4⟩ := k
  exact ⟨ow2, pc2, ps2, w2, W', f2, hT _ _, e3, e4⟩
theorem BsT.nb (h : BsT A B L la io h0 hp ow0 M N lbs ops top dt pc ps c s K J b cs t ds) : Bst A B L la io h0 hp ow0 M N lbs ops top dt pc ps c s K J b cs := by
  obtain ⟨ow', pc', ps', a, m, hw, W, f, hB, ob, oa, lb, la9, e1, e2, -⟩ := h
  exact ⟨ow', pc', ps', a, m, hw, W, f, hB, ob, oa, lb, la9, e1, e2⟩
theorem Bst.k (h : Bst A B L la io h0 hp ow0 M N lbs ops top dt pc ps c s K J b cs) (hT : ∀ hp ow, hTn9 hp ow t ds) : BsT A B L la io h0 hp ow0 M N lbs ops top dt pc ps c s K J b cs t ds := by
  obtain ⟨ow', pc', ps', a, m, hw, W, f, hB, ob, oa, lb, la9, e1, e2⟩ := h
  exact ⟨ow', pc', ps', a, m, hw, W, f, hB, ob, oa, lb, la9, e1, e2, hT _ _⟩
theorem bs_s2 {dt2 K2 J2 : Nat} {ow' : Nat → Nat} {pc' ps' a m : Nat} (hw : ∀ x, x < h0.length → ow' x = ow0 x) (f : FrX (fun x => ow0 x < 3000) h0 hp) (hB : hSB hp b a cs m) (ob : ow' b = 3001) (oa : ow' a = 3001) (lb : h0.length ≤ b) (la9 : h0.length ≤ a) (e1 : c + pc ≤ pc' + K) (e2 : s + ps ≤ ps' + J) (k : S2 A B L la io hp hp' ow' M N lbs ops top dt2 pc' ps' c2 s2 K2 J2) : Bst A B L la io h0 hp' ow0 M N lbs ops top dt2 pc ps (c + c2) (s + s2) (K + K2) (J + J2) b cs := by
  obtain ⟨ow2, pc2, ps2, w2, W', f2, e3, e4⟩ := k
  have l0 := f.1
  refine ⟨ow2, pc2, ps2, a, m, fun x hx => (w2 x (Nat.lt_of_lt_of_le hx l0)).trans (hw x hx), W', FrX.tr f f2 (fun x hx => ?_), hB.fr f2 (fun h9 => ?_) (fun h9 => ?_), by rw [w2 b hB.ltb]; exact ob, by rw [w2 a hB.lta]; exact oa, lb, la9, by omega, by omega⟩
  · rcases Nat.lt_or_ge x h0.length with hl | hl
    · have hx' : ow' x < 3000 := hx
      rw [hw x hl] at hx'
      exact Or.inl hx'
    · exact Or.inr hl
  · have h9' : ow' b < 3000 := h9
    omega
  · have h9' : ow' a < 3000 := h9
    omega
theorem bs_draw {m9 : Nat} (h : Bst A B L la io h0 hp ow0 M N lbs ops top dt pc ps c s K J b cs) (hd : dt + 1 ≤ 100000) (hS : S.length ≤ 1000) (hm : 0 < m9) (hm2 : m9 ≤ 1000) : Me S 1 15 [.ref L, .int (Int32.ofNat m9)] hp (fun v hp' c2 s2 => ∃ n, n < m9 ∧ v = some (.int (Int32.ofNat n)) ∧ Bst A B L la io h0 hp' ow0 M N lbs ops top (dt + 1) pc ps (c + c2) (s + s2) K J b cs) := by
  obtain ⟨ow', pc', ps', a, m, hw, W, f, hB, ob, oa, lb, la9, e1, e2⟩ := h
  refine me_imp (m_draw W hd hS hm hm2) (fun v hp' c2 s2 k => ?_)
  obtain ⟨n, h1, h2, k9⟩ := k
  exact ⟨n, h1, h2, bs_s2 hw f hB ob oa lb la9 e1 e2 k9⟩
theorem s2_draw {m9 : Nat} (h : S2 A B L la io h0 hp ow0 M N lbs ops top dt pc ps c s K J) (hd : dt + 1 ≤ 100000) (hS : S.length ≤ 1000) (hm : 0 < m9) (hm2 : m9 ≤ 1000) : Me S 1 15 [.ref L, .int (Int32.ofNat m9)] hp (fun v hp' c2 s2 => ∃ n, n < m9 ∧ v = some (.int (Int32.ofNat n)) ∧ S2 A B L la io h0 hp' ow0 M N lbs ops top (dt + 1) pc ps (c + c2) (s + s2) K J) := by
  obtain ⟨ow', pc', ps', hw, W, f, e1, e2⟩ := h
  refine me_imp (m_draw W hd hS hm hm2) (fun v hp' c2 s2 k => ?_)
  obtain ⟨n, h1, h2, ow2, pc2, ps2, w2, W', f2, e3, e4⟩ := k
  refine ⟨n, h1, h2, ow2, pc2, ps2, fun x hx => (w2 x (Nat.lt_of_lt_of_le hx f.1)).trans (hw x hx), W', FrX.tr f f2 (fun x hx => ?_), by omega, by omega⟩
  rcases Nat.lt_or_ge x h0.length with hl | hl
  · have hx' : ow' x < 3000 := hx
    rw [hw x hl] at hx'
    exact Or.inl hx'
  · exact Or.inr hl
/-- a text that a method of the law answers, behind a builder -/
theorem bs_call {y9 d9 dt2 K2 J2 : Nat} {P : List Nat → Prop} (h : Bst A B L la io h0 hp ow0 M N lbs ops top dt pc ps c s K J b cs) (hm : ∀ (hp : List XC) (ow : Nat → Nat) (pc ps : Nat), W2 A B L la io hp ow M N lbs ops top dt pc ps → Me S d9 y9 [.ref L] hp (fun v hp' c s => ∃ t ds, v = some t ∧ P ds ∧ S2T A B L la io hp hp' ow M N lbs ops top dt2 pc ps c s K2 J2 t ds)) : Me S d9 y9 [.ref L] hp (fun v hp' c2 s2 => ∃ t ds, v = some t ∧ P ds ∧ BsT A B L la io h0 hp' ow0 M N lbs ops top dt2 pc ps (c + c2) (s + s2) (K + K2) (J + J2) b cs t ds) := by
  obtain ⟨ow', pc', ps', a, m, hw, W, f, hB, ob, oa, lb, la9, e1, e2⟩ := h
  refine me_imp (hm hp ow' pc' ps' W) (fun v hp' c2 s2 k => ?_)
  obtain ⟨t, ds, h1, h2, k9⟩ := k
  exact ⟨t, ds, h1, h2, bs_st hw f hB ob oa lb la9 e1 e2 k9⟩
theorem bs_new (h : S2 A B L la io h0 hp ow0 M N lbs ops top dt pc ps c s K J) (e : hp1 = hp ++ [.inr (1, xDF 1)]) (hB : hSB hp2 hp.length hp1.length [] 16) (f2 : FrX (fun x => x = hp.length) hp1 hp2) (hc : c2 ≤ 1) (hs : s2 ≤ 16) : Bst A B L la io h0 hp2 ow0 M N lbs ops top dt pc ps (c + 1 + c2) (s + (xDF 1).length + s2) (K + 2) (J + 20) hp.length [] := by
  obtain ⟨ow', pc', ps', hw, W, f, e1, e2⟩ := h
  have l0 := f.1
  have l1 : hp1.length = hp.length + 1 := by rw [e, List.length_append]; rfl
  have x4 : (xDF 1).length = 4 := rfl
  have f1 : FrX (fun _ => False) hp hp1 := by rw [e]; exact FrX.xo (by decide)
  have f3 : FrX (fun _ => False) hp hp2 := FrX.tr f1 f2 (fun x hx => Or.inr (by
    have hx' : x = hp.length := hx
    omega))
  obtain ⟨ow2, how2⟩ : ∃ w : Nat → Nat, w = fun x => if x < hp.length then ow' x else 3001 := ⟨_, rfl⟩
  have hlt : ∀ x, x < hp.length → ow2 x = ow' x := fun x hx => by rw [how2]; exact if_pos hx
  have hge : ∀ x, hp.length ≤ x → ow2 x = 3001 := fun x hx => by rw [how2]; exact if_neg (Nat.not_lt.mpr hx)
  have W' := W2.off (Z := fun _ => False) W f3 hlt (fun n hn h9 => h9)
  exact ⟨ow2, pc', ps', hp1.length, 16, fun x hx => by rw [hlt x (Nat.lt_of_lt_of_le hx l0)]; exact hw x hx, W', FrX.tr f f3 (fun x hx => False.elim hx), hB, hge _ (Nat.le_refl _), hge _ (by omega), l0, by omega, by omega, by omega⟩
theorem W2.dtm {ow : Nat → Nat} {dt2 : Nat} (W : W2 A B L la io hp ow M N lbs ops top dt pc ps) (h : dt ≤ dt2) (h2 : dt2 ≤ 100000) : W2 A B L la io hp ow M N lbs ops top dt2 pc ps := by
  obtain ⟨rx, ry, px, lx, py, ly, hx, hy, hl, e1, e2⟩ := W
  obtain ⟨⟨t, sd, h1, h9, h3⟩, h4⟩ := hl
  exact ⟨rx, ry, px, lx, py, ly, hx, hy, ⟨⟨t, sd, Nat.le_trans h1 h, h2, h3⟩, h4⟩, e1, e2⟩
theorem S2T.mono {ow : Nat → Nat} {dt2 K2 J2 : Nat} (h : S2T A B L la io hp hp' ow M N lbs ops top dt pc ps c s K J t ds) (h1 : dt ≤ dt2) (h2 : dt2 ≤ 100000) (h3 : K ≤ K2) (h4 : J ≤ J2) : S2T A B L la io hp hp' ow M N lbs ops top dt2 pc ps c s K2 J2 t ds := by
  obtain ⟨ow', pc', ps', a1, a2, a3, a4, a5, a6⟩ := h
  exact ⟨ow', pc', ps', a1, a2.dtm h1 h2, a3, a4, by omega, by omega⟩
theorem S2.dtm {ow : Nat → Nat} {dt2 K2 J2 : Nat} (h : S2 A B L la io hp hp' ow M N lbs ops top dt pc ps c s K J) (h1 : dt ≤ dt2) (h2 : dt2 ≤ 100000) (h3 : K ≤ K2) (h4 : J ≤ J2) : S2 A B L la io hp hp' ow M N lbs ops top dt2 pc ps c s K2 J2 := by
  obtain ⟨ow', pc', ps', a1, a2, a3, a5, a6⟩ := h
  exact ⟨ow', pc', ps', a1, a2.dtm h1 h2, a3, by omega, by omega⟩
end
