/-! numbers, lists in the heap, what a method leaves as it was -/
theorem iN_lt {a b : Nat} (ha : a < 2 ^ 31) (hb : b < 2 ^ 31) : Int32.ofNat a < Int32.ofNat b ↔ a < b := Int32.ofNat_lt_iff_lt ha hb
theorem iN_le {a b : Nat} (ha : a < 2 ^ 31) (hb : b < 2 ^ 31) : Int32.ofNat a ≤ Int32.ofNat b ↔ a ≤ b := Int32.ofNat_le_iff_le ha hb
theorem iN_nn {a : Nat} (ha : a < 2 ^ 31) : ¬ Int32.ofNat a < 0 := by
  rw [Int32.not_lt]
  exact Int32.zero_le_ofNat_of_lt ha
theorem iN_tn {a : Nat} (ha : a < 2 ^ 31) : (Int32.ofNat a).toNatClampNeg = a := Int32.toNatClampNeg_ofNat_of_lt ha
theorem iN_s (a : Nat) : Int32.ofNat a + 1 = Int32.ofNat (a + 1) := (Int32.ofNat_add a 1).symm
theorem iN_inj {a b : Nat} (ha : a < 2 ^ 31) (hb : b < 2 ^ 31) (h : Int32.ofNat a = Int32.ofNat b) : a = b := by
  rw [← iN_tn ha, ← iN_tn hb, h]
theorem iN_eq {a b : Nat} (ha : a < 2 ^ 31) (hb : b < 2 ^ 31) : Int32.ofNat a = Int32.ofNat b ↔ a = b := ⟨iN_inj ha hb, fun h => by rw [h]⟩
theorem iN_sub {a b : Nat} (h : b ≤ a) : Int32.ofNat a - Int32.ofNat b = Int32.ofNat (a - b) := (Int32.ofNat_sub a b h).symm
/-- a truth value -/
def bv (b : Bool) : Value := .int (if b = true then 1 else 0)
/-- whether a cell is a list or a list's array -/
def xL7 : XC → Bool
  | .inl q => decide (q.1 = 7)
  | .inr q => decide (q.1 = 2)
/-- cells that are never written once they are made: entries, their numbers, the parts of tables -/
def xim : XC → Bool
  | .inl q => decide (q.1 = 24) || decide (q.1 = 23) || decide (q.1 = 29) || decide (q.1 = 6)
  | .inr q => decide (q.1 = 4)
/-- the length of a list's array -/
def capL (hp : List XC) (l : Nat) : Nat := match hp[l]? with
  | some (.inr (_, [_, .ref e, _])) => (match hp[e]? with
    | some (.inl (_, es)) => es.length
    | _ => 0)
  | _ => 0
theorem capL_e {hp : List XC} {l e t : Nat} {x n : Value} {es : List Value} (h1 : hp[l]? = some (.inr (2, [x, .ref e, n]))) (h2 : hp[e]? = some (.inl (t, es))) : capL hp l = es.length := by
  unfold capL
  rw [h1]
  dsimp only
  rw [h2]
theorem capL_0 {hp : List XC} {l k : Nat} {x n : Value} (h1 : hp[l]? = some (.inr (2, [x, .retAddr k, n]))) : capL hp l = 0 := by
  unfold capL
  rw [h1]
/-- an object of any class -/
def hOb (hp : List XC) (a : Nat) : Prop := ∃ (ci : Nat) (fs : List Value), hp[a]? = some (.inr (ci, fs)) ∧ ci ≤ 16
/-- a list of objects -/
def hLs (hp : List XC) (l : Nat) (as : List Nat) : Prop := (∀ a ∈ as, hOb hp a) ∧ ∃ mc : Int32, (as = [] ∧ hp[l]? = some (.inr (2, [.int mc, .retAddr 225, .int 0]))) ∨ ∃ (e m : Nat), hp[l]? = some (.inr (2, [.int mc, .ref e, .int (Int32.ofNat as.length)])) ∧ hp[e]? = some (.inl (7, as.map Value.ref ++ List.replicate m .null)) ∧ as.length + m ≤ 100000
theorem hLs.lt {hp : List XC} {l : Nat} {as : List Nat} (h : hLs hp l as) : l < hp.length := by
  obtain ⟨-, mc, ⟨-, h9⟩ | ⟨e, m, h9, -⟩⟩ := h
  · exact (List.getElem?_eq_some_iff.mp h9).1
  · exact (List.getElem?_eq_some_iff.mp h9).1
theorem hLs.len {hp : List XC} {l : Nat} {as : List Nat} (h : hLs hp l as) : as.length ≤ 100000 := by
  obtain ⟨-, mc, ⟨h8, h9⟩ | ⟨e, m, -, -, h9⟩⟩ := h
  · rw [h8]; exact Nat.zero_le _
  · exact Nat.le_trans (Nat.le_add_right _ _) h9
/-- no two lists share an array -/
def Own (hp : List XC) : Prop := (∀ (l l' : Nat) (a a' n n' : Value) (e : Nat), hp[l]? = some (.inr (2, [a, .ref e, n])) → hp[l']? = some (.inr (2, [a', .ref e, n'])) → l = l') ∧ ∀ (l : Nat) (a n : Value) (e : Nat), hp[l]? = some (.inr (2, [a, .ref e, n])) → e < hp.length
/-- at most P is written, no cell that is never written, and each object keeps its class -/
def FrX (P : Nat → Prop) (hp hp' : List XC) : Prop :=
  hp.length ≤ hp'.length ∧ (Own hp → Own hp') ∧ (∀ (b : Nat) (c : XC), hp[b]? = some c → xL7 c = false → (¬ P b ∨ xim c = true) → hp'[b]? = some c) ∧ (∀ (b : Nat) (as : List Nat), ¬ P b → Own hp → hLs hp b as → hLs hp' b as ∧ capL hp' b = capL hp b) ∧ (∀ (b : Nat) (fs : List Value), hp[b]? = some (.inr (13, fs)) → ∃ v, hp'[b]? = some (.inr (13, fs.set 8 v))) ∧ ∀ (b ci : Nat) (fs : List Value), hp[b]? = some (.inr (ci, fs)) → ∃ gs, hp'[b]? = some (.inr (ci, gs))
theorem xset_same {fs : List Value} {k : Nat} : ∃ v, fs.set k v = fs := by
  cases h : fs[k]? with
  | none => exact ⟨.null, List.set_eq_of_length_le (List.getElem?_eq_none_iff.mp h)⟩
  | some v =>
    refine ⟨v, List.ext_getElem? (fun j => ?_)⟩
    rw [List.getElem?_set]
    split
    · rename_i e
      subst e
      rw [if_pos (List.getElem?_eq_some_iff.mp h).1, h]
    · rfl
theorem hOb.mv {hp hp' : List XC} {a : Nat} (h : hOb hp a) (hc : ∀ (b ci : Nat) (fs : List Value), hp[b]? = some (.inr (ci, fs)) → ∃ gs, hp'[b]? = some (.inr (ci, gs))) : hOb hp' a := by
  obtain ⟨ci, fs, h1, h2⟩ := h
  obtain ⟨gs, h3⟩ := hc _ _ _ h1
  exact ⟨ci, gs, h3, h2⟩
theorem FrX.rf {P : Nat → Prop} {hp : List XC} : FrX P hp hp := ⟨Nat.le_refl _, id, fun _ _ h _ _ => h, fun _ _ _ _ h => ⟨h, rfl⟩, fun b fs h => by
  obtain ⟨v, hv⟩ := xset_same (fs := fs) (k := 8)
  exact ⟨v, by rw [hv]; exact h⟩, fun b ci fs h => ⟨fs, h⟩⟩
theorem FrX.tr {P Q : Nat → Prop} {a b c : List XC} (h1 : FrX P a b) (h2 : FrX Q b c) (hQ : ∀ x, Q x → P x ∨ a.length ≤ x) : FrX P a c := by
  obtain ⟨l1, o1, v1, s1, t1, c1⟩ := h1
  obtain ⟨l2, o2, v2, s2, t2, c2⟩ := h2
  refine ⟨Nat.le_trans l1 l2, fun h => o2 (o1 h), fun x y hx h7 hP => ?_, fun x vs hP hO hx => ?_, fun x fs hx => ?_, fun x ci fs hx => ?_⟩
  · have hb := v1 x y hx h7 hP
    refine v2 x y hb h7 (hP.imp (fun hn hq => ?_) id)
    rcases hQ x hq with h | h
    · exact hn h
    · exact Nat.not_le.mpr (List.getElem?_eq_some_iff.mp hx).1 h
  · obtain ⟨hb, hc⟩ := s1 x vs hP hO hx
    obtain ⟨hb2, hc2⟩ := s2 x vs (fun hq => by
      rcases hQ x hq with h | h
      · exact hP h
      · exact Nat.not_le.mpr hx.lt h) (o1 hO) hb
    exact ⟨hb2, hc2.trans hc⟩
  · obtain ⟨v, hv⟩ := t1 x fs hx
    obtain ⟨w, hw⟩ := t2 x _ hv
    exact ⟨w, by rw [hw, List.set_set]⟩
  · obtain ⟨gs, hg⟩ := c1 x ci fs hx
    exact c2 x ci gs hg
theorem FrX.mono {P Q : Nat → Prop} {a b : List XC} (h : FrX P a b) (hPQ : ∀ x, x < a.length → P x → Q x) : FrX Q a b := by
  obtain ⟨l1, o1, v1, s1, t1, c1⟩ := h
  exact ⟨l1, o1, fun x y hx h7 hP => v1 x y hx h7 (hP.imp (fun hn hp => hn (hPQ x (List.getElem?_eq_some_iff.mp hx).1 hp)) id), fun x vs hP hO hx => s1 x vs (fun hp => hP (hPQ x hx.lt hp)) hO hx, t1, c1⟩
/-- what a heap holds behind a write -/
theorem xset_key {hp : List XC} {a : Nat} {c' : XC} (ha : a < hp.length) (b : Nat) (y : XC) (hb : (hp.set a c')[b]? = some y) : (b = a ∧ y = c') ∨ (b ≠ a ∧ hp[b]? = some y) := by
  rw [List.getElem?_set] at hb
  split at hb
  · rename_i e
    subst e
    try rw [if_pos ha] at hb
    exact Or.inl ⟨rfl, (Option.some.inj hb).symm⟩
  · rename_i e
    exact Or.inr ⟨fun q => e q.symm, hb⟩
theorem xset_cls {hp : List XC} {a : Nat} {c c' : XC} (h : hp[a]? = some c) (hcl : ∀ ci fs, c = .inr (ci, fs) → ∃ gs, c' = .inr (ci, gs)) (b ci : Nat) (fs : List Value) (hb : hp[b]? = some (.inr (ci, fs))) : ∃ gs, (hp.set a c')[b]? = some (.inr (ci, gs)) := by
  by_cases e : a = b
  · subst e
    cases h.symm.trans hb
    obtain ⟨gs, hg⟩ := hcl ci fs rfl
    exact ⟨gs, by rw [xs_eq h, hg]⟩
  · exact ⟨fs, xs_ne e hb⟩
/-- a write to a cell that is no list's -/
theorem FrX.st {P : Nat → Prop} {hp : List XC} {a : Nat} {c c' : XC} (h : hp[a]? = some c) (hP : P a) (h7 : xL7 c = false) (h8 : xL7 c' = false) (hi : xim c = false) (ht : ∀ fs, c = .inr (13, fs) → ∃ v, c' = .inr (13, fs.set 8 v)) (hcl : ∀ ci fs, c = .inr (ci, fs) → ∃ gs, c' = .inr (ci, gs)) : FrX P hp (hp.set a c') := by
  have ha := (List.getElem?_eq_some_iff.mp h).1
  have kl : ∀ (b : Nat) (q : List Value), (hp.set a c')[b]? = some (.inr (2, q)) → hp[b]? = some (.inr (2, q)) := fun b q hb => by
    rcases xset_key ha b _ hb with ⟨-, e⟩ | ⟨-, e⟩
    · rw [← e] at h8; cases h8
    · exact e
  have kn : ∀ (b : Nat) (y : XC), hp[b]? = some y → xL7 y = true → (hp.set a c')[b]? = some y := fun b y hb h9 => by
    refine xs_ne (fun e => ?_) hb
    subst e
    cases h.symm.trans hb
    rw [h7] at h9
    cases h9
  have kc := xset_cls h hcl
  refine ⟨by rw [List.length_set]; exact Nat.le_refl _, fun hO => ⟨fun l l' x x' n n' e q1 q2 => hO.1 l l' x x' n n' e (kl _ _ q1) (kl _ _ q2), fun l x n e q1 => by rw [List.length_set]; exact hO.2 l x n e (kl _ _ q1)⟩, fun b y hb h9 hn => ?_, fun b vs hn hO hb => ?_, fun b fs hb => ?_, kc⟩
  · refine xs_ne (fun e => ?_) hb
    subst e
    cases h.symm.trans hb
    rcases hn with hn | hn
    · exact hn hP
    · rw [hi] at hn; cases hn
  · obtain ⟨q0, mc, ⟨hv, q1⟩ | ⟨e, es, q1, q2, q3⟩⟩ := hb
    · exact ⟨⟨fun x hx => (q0 x hx).mv kc, mc, Or.inl ⟨hv, kn _ _ q1 rfl⟩⟩, by rw [capL_0 (kn _ _ q1 rfl), capL_0 q1]⟩
    · exact ⟨⟨fun x hx => (q0 x hx).mv kc, mc, Or.inr ⟨e, es, kn _ _ q1 rfl, kn _ _ q2 rfl, q3⟩⟩, by rw [capL_e (kn _ _ q1 rfl) (kn _ _ q2 rfl), capL_e q1 q2]⟩
  · by_cases e : a = b
    · subst e
      cases h.symm.trans hb
      obtain ⟨v, hv⟩ := ht fs rfl
      exact ⟨v, by rw [← hv]; exact xs_eq h⟩
    · obtain ⟨v, hv⟩ := xset_same (fs := fs) (k := 8)
      exact ⟨v, by rw [hv]; exact xs_ne e hb⟩
/-- a write to a list's array -/
theorem FrX.la {hp : List XC} {l e : Nat} {a n : Value} {es es' : List Value} (h : hp[l]? = some (.inr (2, [a, .ref e, n]))) (he : hp[e]? = some (.inl (7, es))) : FrX (fun x => x = l) hp (hp.set e (.inl (7, es'))) := by
  have ha := (List.getElem?_eq_some_iff.mp he).1
  have kl : ∀ (b : Nat) (q : Nat × List Value), (hp.set e (.inl (7, es')))[b]? = some (.inr q) → hp[b]? = some (.inr q) := fun b q hb => by
    rcases xset_key ha b _ hb with ⟨-, e⟩ | ⟨-, e⟩
    · cases e
    · exact e
  have kn : ∀ (b : Nat) (q : Nat × List Value), hp[b]? = some (.inr q) → (hp.set e (.inl (7, es')))[b]? = some (.inr q) := fun b q hb => xs_ne (xn_ar he hb) hb
  have kc : ∀ (b ci : Nat) (fs : List Value), hp[b]? = some (.inr (ci, fs)) → ∃ gs, (hp.set e (.inl (7, es')))[b]? = some (.inr (ci, gs)) := fun b ci fs hb => ⟨fs, kn _ _ hb⟩
  refine ⟨by rw [List.length_set]; exact Nat.le_refl _, fun hO => ⟨fun l l' x x' n n' e q1 q2 => hO.1 l l' x x' n n' e (kl _ _ q1) (kl _ _ q2), fun l x n e q1 => by rw [List.length_set]; exact hO.2 l x n e (kl _ _ q1)⟩, fun b y hb h9 _ => ?_, fun b vs hn hO hb => ?_, fun b fs hb => ?_, kc⟩
  · refine xs_ne (fun q => ?_) hb
    subst q
    cases he.symm.trans hb
    cases h9
  · obtain ⟨q0, mc, ⟨hv, q1⟩ | ⟨e2, m, q1, q2, q3⟩⟩ := hb
    · exact ⟨⟨fun x hx => (q0 x hx).mv kc, mc, Or.inl ⟨hv, kn _ _ q1⟩⟩, by rw [capL_0 (kn _ _ q1), capL_0 q1]⟩
    · have q4 : (hp.set e (.inl (7, es')))[e2]? = _ := xs_ne (fun q => by
        subst q
        exact hn (hO.1 _ _ _ _ _ _ _ q1 h)) q2
      exact ⟨⟨fun x hx => (q0 x hx).mv kc, mc, Or.inr ⟨e2, m, kn _ _ q1, q4, q3⟩⟩, by rw [capL_e (kn _ _ q1) q4, capL_e q1 q2]⟩
  · obtain ⟨v, hv⟩ := xset_same (fs := fs) (k := 8)
    exact ⟨v, by rw [hv]; exact kn _ _ hb⟩
/-- a write to a list itself -/
theorem FrX.lo {hp : List XC} {l : Nat} {fs : List Value} {a' v' n' : Value} (h : hp[l]? = some (.inr (2, fs))) (hv : (∃ a n, fs = [a, v', n]) ∨ (∀ e, v' ≠ .ref e) ∨ ∃ e, v' = .ref e ∧ e < hp.length ∧ ∀ (l' : Nat) (a n : Value), hp[l']? ≠ some (.inr (2, [a, .ref e, n]))) : FrX (fun x => x = l) hp (hp.set l (.inr (2, [a', v', n']))) := by
  have ha := (List.getElem?_eq_some_iff.mp h).1
  have kc := xset_cls (c' := .inr (2, [a', v', n'])) h (fun ci fs hc => by cases hc; exact ⟨_, rfl⟩)
  have kn : ∀ (b : Nat) (y : XC), b ≠ l → hp[b]? = some y → (hp.set l (.inr (2, [a', v', n'])))[b]? = some y := fun b y hn hb => xs_ne (fun q => hn q.symm) hb
  have ko : ∀ (l' : Nat) (a n : Value) (e : Nat), (hp.set l (.inr (2, [a', v', n'])))[l']? = some (.inr (2, [a, .ref e, n])) → (l' ≠ l ∧ hp[l']? = some (.inr (2, [a, .ref e, n]))) ∨ (l' = l ∧ v' = .ref e) := fun l' a n e hb => by
    rcases xset_key ha l' _ hb with ⟨q1, q2⟩ | ⟨q1, q2⟩
    · cases q2; exact Or.inr ⟨q1, rfl⟩
    · exact Or.inl ⟨q1, q2⟩
  refine ⟨by rw [List.length_set]; exact Nat.le_refl _, fun hO => ⟨fun l1 l2 x x' n n' e q1 q2 => ?_, fun l1 x n e q1 => ?_⟩, fun b y hb h9 _ => ?_, fun b vs hn hO hb => ?_, fun b gs hb => ?_, kc⟩
  · rcases ko _ _ _ _ q1 with ⟨e1, q1⟩ | ⟨e1, q1⟩
    · rcases ko _ _ _ _ q2 with ⟨e2, q2⟩ | ⟨e2, q2⟩
      · exact hO.1 _ _ _ _ _ _ _ q1 q2
      · rcases hv with ⟨a, n, rfl⟩ | hv | ⟨e', hv, -, hf⟩
        · rw [q2] at h; rw [e2]; exact hO.1 _ _ _ _ _ _ _ q1 h
        · exact absurd q2 (hv e)
        · cases hv.symm.trans q2; exact absurd q1 (hf _ _ _)
    · rcases ko _ _ _ _ q2 with ⟨e2, q2⟩ | ⟨e2, q2⟩
      · rcases hv with ⟨a, n, rfl⟩ | hv | ⟨e', hv, -, hf⟩
        · rw [q1] at h; rw [e1]; exact hO.1 _ _ _ _ _ _ _ h q2
        · exact absurd q1 (hv e)
        · cases hv.symm.trans q1; exact absurd q2 (hf _ _ _)
      · rw [e1, e2]
  · rw [List.length_set]
    rcases ko _ _ _ _ q1 with ⟨e1, q1⟩ | ⟨e1, q1⟩
    · exact hO.2 _ _ _ _ q1
    · rcases hv with ⟨a, n, rfl⟩ | hv | ⟨e', hv, hl, -⟩
      · rw [q1] at h; exact hO.2 _ _ _ _ h
      · exact absurd q1 (hv e)
      · cases hv.symm.trans q1; exact hl
  · refine kn _ _ (fun q => ?_) hb
    subst q
    cases h.symm.trans hb
    cases h9
  · obtain ⟨q0, mc, ⟨hv, q1⟩ | ⟨e2, m, q1, q2, q3⟩⟩ := hb
    · exact ⟨⟨fun x hx => (q0 x hx).mv kc, mc, Or.inl ⟨hv, kn _ _ hn q1⟩⟩, by rw [capL_0 (kn _ _ hn q1), capL_0 q1]⟩
    · exact ⟨⟨fun x hx => (q0 x hx).mv kc, mc, Or.inr ⟨e2, m, kn _ _ hn q1, xs_ne (xn_ra h q2) q2, q3⟩⟩, by rw [capL_e (kn _ _ hn q1) (xs_ne (xn_ra h q2) q2), capL_e q1 q2]⟩
  · obtain ⟨v, hv⟩ := xset_same (fs := gs) (k := 8)
    refine ⟨v, ?_⟩
    rw [hv]
    refine kn _ _ (fun q => ?_) hb
    subst q
    cases h.symm.trans hb
/-- a cell that is new -/
theorem FrX.nw {P : Nat → Prop} {hp : List XC} {c : XC} (hc : ∀ (a n : Value) (e : Nat), c ≠ .inr (2, [a, .ref e, n])) : FrX P hp (hp ++ [c]) := by
  have key : ∀ (b : Nat) (y : XC), (hp ++ [c])[b]? = some y → hp[b]? = some y ∨ y = c := fun b y hb => by
    rcases Nat.lt_or_ge b hp.length with h | h
    · rw [List.getElem?_append_left h] at hb; exact Or.inl hb
    · rw [List.getElem?_append_right h] at hb
      exact Or.inr (List.mem_singleton.mp (List.mem_of_getElem? hb))
  have kl : ∀ (b : Nat) (x n : Value) (e : Nat), (hp ++ [c])[b]? = some (.inr (2, [x, .ref e, n])) → hp[b]? = some (.inr (2, [x, .ref e, n])) := fun b x n e hb => by
    rcases key b _ hb with h | h
    · exact h
    · exact absurd h.symm (hc _ _ _)
  refine ⟨by rw [List.length_append]; exact Nat.le_add_right _ _, fun hO => ⟨fun l l' x x' n n' e q1 q2 => hO.1 l l' x x' n n' e (kl _ _ _ _ q1) (kl _ _ _ _ q2), fun l x n e q1 => by rw [List.length_append]; exact Nat.lt_of_lt_of_le (hO.2 l x n e (kl _ _ _ _ q1)) (Nat.le_add_right _ _)⟩, fun b y hb _ _ => xa_lt hb, fun b vs _ _ hb => ?_, fun b fs hb => ?_, fun b ci fs hb => ⟨fs, xa_lt hb⟩⟩
  · obtain ⟨q0, mc, ⟨hv, q1⟩ | ⟨e, es, q1, q2, q3⟩⟩ := hb
    · exact ⟨⟨fun x hx => (q0 x hx).mv (fun b ci fs hb => ⟨fs, xa_lt hb⟩), mc, Or.inl ⟨hv, xa_lt q1⟩⟩, by rw [capL_0 (xa_lt q1), capL_0 q1]⟩
    · exact ⟨⟨fun x hx => (q0 x hx).mv (fun b ci fs hb => ⟨fs, xa_lt hb⟩), mc, Or.inr ⟨e, es, xa_lt q1, xa_lt q2, q3⟩⟩, by rw [capL_e (xa_lt q1) (xa_lt q2), capL_e q1 q2]⟩
  · obtain ⟨v, hv⟩ := xset_same (fs := fs) (k := 8)
    exact ⟨v, by rw [hv]; exact xa_lt hb⟩
theorem FrX.ls {P : Nat → Prop} {hp hp' : List XC} {l : Nat} {as : List Nat} (f : FrX P hp hp') (hn : ¬ P l) (hO : Own hp) (hL : hLs hp l as) : hLs hp' l as := (f.2.2.2.1 l as hn hO hL).1
theorem FrX.cap {P : Nat → Prop} {hp hp' : List XC} {l : Nat} {as : List Nat} (f : FrX P hp hp') (hn : ¬ P l) (hO : Own hp) (hL : hLs hp l as) : capL hp' l = capL hp l := (f.2.2.2.1 l as hn hO hL).2
