/-! rows that are set or cut, one behind another (written by wip/p27/c9994.py) -/
theorem notPo {hp : List XC} {ch l t mm sa a ci : Nat} {cf fs : List Value} {as ta ma : List Nat} {vs : List Value} (hc : hp[ch]? = some (.inr (3, cf))) (hL : hLs hp l as) (hT : hLs hp t ta) (hM : hLs hp mm ma) (hsa : hp[sa]? = some (.inl (16, vs))) (ha : hp[a]? = some (.inr (ci, fs))) (h3 : ci ≠ 3) (h2 : ci ≠ 2) : ¬ (a = ch ∨ a = l ∨ a = t ∨ a = mm ∨ a = sa) := by
  obtain ⟨lf, hl0⟩ := hL.ob
  obtain ⟨tf, ht0⟩ := hT.ob
  obtain ⟨mf, hm0⟩ := hM.ob
  exact fun e => e.elim (fun e => xn_cl ha hc h3 e) (fun e => e.elim (fun e => xn_cl ha hl0 h2 e) (fun e => e.elim (fun e => xn_cl ha ht0 h2 e) (fun e => e.elim (fun e => xn_cl ha hm0 h2 e) (fun e => xn_ra ha hsa e))))
theorem notPa {hp : List XC} {ch l t mm sa a k : Nat} {cf es : List Value} {as ta ma : List Nat} {vs : List Value} (hc : hp[ch]? = some (.inr (3, cf))) (hL : hLs hp l as) (hT : hLs hp t ta) (hM : hLs hp mm ma) (hsa : hp[sa]? = some (.inl (16, vs))) (ha : hp[a]? = some (.inl (k, es))) (h3 : k ≠ 16) : ¬ (a = ch ∨ a = l ∨ a = t ∨ a = mm ∨ a = sa) := by
  obtain ⟨lf, hl0⟩ := hL.ob
  obtain ⟨tf, ht0⟩ := hT.ob
  obtain ⟨mf, hm0⟩ := hM.ob
  exact fun e => e.elim (fun e => xn_ar ha hc e) (fun e => e.elim (fun e => xn_ar ha hl0 e) (fun e => e.elim (fun e => xn_ar ha ht0 e) (fun e => e.elim (fun e => xn_ar ha hm0 e) (fun e => xn_kd ha hsa h3 e))))
/-- what stands still while rows are altered -/
def AltS (TI : Nat → Tb) (hp : List XC) (d l g k m mc s c ka fa oa aa pa sa wa tb if0 if1 items vb : Nat) (kd fr : Nat → Nat) (ws glv : Value) (es9 mf ces sf : List Value) (gs : List Int32) (os : List (Nat × Int32)) (sr : Int32) (ks : List Nat) (ls : List En) : Prop :=
  hp[d]? = some (.inr (10, [.ref l])) ∧ hp[g]? = some (.inr (11, [.ref k, glv])) ∧ hLs hp k ks ∧ hEs hp ks ls ∧ hp[m]? = some (.inr (6, mf)) ∧ hp[mc]? = some (.inl (17, ces)) ∧ hSt hp s c ka fa if0 if1 items vb kd fr ∧ hp[s]? = some (.inr (12, sf)) ∧ hFo hp c oa aa pa sa wa ws es9 gs os ∧ (∃ tf, hp[tb]? = some (.inr (13, .int sr :: tf))) ∧ ∀ e ∈ ls, hTb hp e.2.2.2.2.2 e.1 (TI e.2.2.2.2.2)
section ALT
variable {TI : Nat → Tb} {hp hp' : List XC} {d l g k m mc s c ka fa oa aa pa sa wa tb if0 if1 items vb ch t mm : Nat} {kd fro : Nat → Nat} {ws glv : Value} {es9 mf ces sf cf vs : List Value} {gs : List Int32} {os : List (Nat × Int32)} {sr : Int32} {ks as ta ma : List Nat} {ls : List En}
theorem AltS.fr (h : AltS TI hp d l g k m mc s c ka fa oa aa pa sa wa tb if0 if1 items vb kd fro ws glv es9 mf ces sf gs os sr ks ls) (f : FrX (fun x => x = ch ∨ x = l ∨ x = t ∨ x = mm ∨ x = sa) hp hp') (hO : Own hp) (hc : hp[ch]? = some (.inr (3, cf))) (hL : hLs hp l as) (hT : hLs hp t ta) (hM : hLs hp mm ma) (hsa : hp[sa]? = some (.inl (16, vs))) (hkl : ¬ k = l) (hkt : ¬ k = t) (hkm : ¬ k = mm) : AltS TI hp' d l g k m mc s c ka fa oa aa pa sa wa tb if0 if1 items vb kd fro ws glv es9 mf ces sf gs os sr ks ls := by
  obtain ⟨a1, a2, a3, a4, a5, a6, a7, a8, a9, ⟨tf, a10⟩, a11⟩ := h
  obtain ⟨kf, hk0⟩ := a3.ob
  have a77 := a7
  obtain ⟨sf9, kes, fes, k0, k1, k2, k3, k4, k5, k6, k7, k8, k9, -⟩ := a77
  obtain ⟨v8, ht8⟩ := f.2.2.2.2.1 _ _ a10
  exact ⟨f.ob a1 (by decide) (notPo hc hL hT hM hsa a1 (by decide) (by decide)), f.ob a2 (by decide) (notPo hc hL hT hM hsa a2 (by decide) (by decide)), f.ls (fun e => e.elim (fun e => xn_cl hk0 hc (by decide) e) (fun e => e.elim hkl (fun e => e.elim hkt (fun e => e.elim hkm (fun e => xn_ra hk0 hsa e))))) hO a3, a4.fr f, f.ob a5 (by decide) (notPo hc hL hT hM hsa a5 (by decide) (by decide)), f.2.2.1 _ _ a6 rfl (Or.inl (notPa hc hL hT hM hsa a6 (by decide))), a7.fr f (notPo hc hL hT hM hsa k0 (by decide) (by decide)) (notPa hc hL hT hM hsa k8 (by decide)) (notPa hc hL hT hM hsa k9 (by decide)), f.ob a8 (by decide) (notPo hc hL hT hM hsa a8 (by decide) (by decide)), a9.fr f (notPo hc hL hT hM hsa a9.ho (by decide) (by decide)) (notPa hc hL hT hM hsa a9.hoa (by decide)) (notPa hc hL hT hM hsa a9.haa (by decide)), ⟨_, ht8⟩, fun e he => (a11 e he).fr f⟩
end ALT
/-- which rows are altered: of one key the first that is met, from the last row back -/
def altP (sr : Int32) (mnt : En → Bool) : Option Int32 → List En → List En
  | _, [] => []
  | lk, r :: rs => if r.1 = sr ∧ ¬ lk = some r.2.1 ∧ mnt r = true then r :: altP sr mnt (some r.2.1) rs else altP sr mnt lk rs
/-- entries, what is touched, what is made -/
abbrev A3 : Type := List En × List En × List En
def stepC (lb : Int32) (a : A3) (r : En) : A3 := (cutE a.1 r lb, a.2.1 ++ cutT a.1 r lb, a.2.2)
def stepS (row : En → En) (a : A3) (r : En) : A3 := (storeE a.1 (row r), a.2.1 ++ [row r], a.2.2 ++ [row r])
/-- a change as it stands after some rows were altered -/
def AltR (hp hp' : List XC) (ch l t mm sa d g : Nat) (lb gi : Int32) (al n N : Nat) (a : A3) (p c s : Nat) : Prop :=
  FrX (fun x => x = ch ∨ x = l ∨ x = t ∨ x = mm ∨ x = sa) hp hp' ∧ hp'[ch]? = some (.inr (3, [.ref d, .ref t, .ref mm, .ref g, .int lb, .int (Int32.ofNat al), .int gi])) ∧ hSh hp' l a.1 ∧ hSh hp' t a.2.1 ∧ hSh hp' mm a.2.2 ∧ (∃ vs : List Int32, vs.length = N ∧ hp'[sa]? = some (.inl (16, vs.map Value.int))) ∧ capL hp l ≤ capL hp' l ∧ capL hp t ≤ capL hp' t ∧ capL hp mm ≤ capL hp' mm ∧ c + (capL hp l + capL hp t + capL hp mm) ≤ 2 * p + (capL hp' l + capL hp' t + capL hp' mm) ∧ s + 4 * (capL hp l + capL hp t + capL hp mm) ≤ 1005 * p + 4 * (capL hp' l + capL hp' t + capL hp' mm) ∧ capL hp' l ≤ max (capL hp l) (4 * n + 10) ∧ capL hp' t ≤ max (capL hp t) (4 * n + 10) ∧ capL hp' mm ≤ max (capL hp mm) (4 * n + 10)
