/-! queries: what holds from line to line (written by wip/p27/c9999994.py) -/
section
variable {S : List Int32} {q st mn l1 l2 pa li ln0 c ka fa oa aa pa9 sa wa if0 if1 items vb mc N kp w n l0 nc0 ns0 : Nat} {kd fr : Nat → Nat} {ws : Value} {es9 mf sf ces : List Value} {gs : List Int32} {os : List (Nat × Int32)} {as bs : List Nat} {e1 e2 : List En} {so : Option Nat} {dn : Int32} {h0 : List XC} {ps : List Int32}
def soI (so : Option Nat) : Int32 := match so with
  | none => -1
  | some k => Int32.ofNat k
/-- what a query may write -/
def Q9P (q sa li ln pa : Nat) : Nat → Prop := fun x => x = q ∨ x = sa ∨ x = li ∨ x = ln ∨ x = pa
/-- cells that are no part of what a query reads -/
def Kq9 (hp : List XC) (P : Nat → Prop) : Prop := ∀ x, P x → ∀ c, hp[x]? = some c → (∃ fs, c = .inr (7, fs)) ∨ ∃ k es, c = .inl (k, es) ∧ (k = 16 ∨ k = 18 ∨ k = 19 ∨ k = 20)
theorem Kq9.ob {hp : List XC} {P : Nat → Prop} (h : Kq9 hp P) {a ci : Nat} {fs : List Value} (ha : hp[a]? = some (.inr (ci, fs))) (hc : ci ≠ 7) : ¬ P a := fun hP => by
  rcases h a hP _ ha with ⟨gs, e⟩ | ⟨k, es, e, -⟩
  · cases e; exact hc rfl
  · cases e
theorem Kq9.ar {hp : List XC} {P : Nat → Prop} (h : Kq9 hp P) {a k : Nat} {es : List Value} (ha : hp[a]? = some (.inl (k, es))) (hc : k ≠ 16 ∧ k ≠ 18 ∧ k ≠ 19 ∧ k ≠ 20) : ¬ P a := fun hP => by
  rcases h a hP _ ha with ⟨gs, e⟩ | ⟨k, es, e, h9⟩
  · cases e
  · cases e
    rcases h9 with h9 | h9 | h9 | h9
    · exact hc.1 h9
    · exact hc.2.1 h9
    · exact hc.2.2.1 h9
    · exact hc.2.2.2 h9
theorem Kq9.one {hp : List XC} {a : Nat} {c : XC} (h : hp[a]? = some c) (hc : (∃ fs, c = .inr (7, fs)) ∨ ∃ k es, c = .inl (k, es) ∧ (k = 16 ∨ k = 18 ∨ k = 19 ∨ k = 20)) : Kq9 hp (fun x => x = a) := fun x hx c' h' => by
  subst hx
  cases h.symm.trans h'
  exact hc
theorem Kq9.two {hp : List XC} {P Q : Nat → Prop} (h1 : Kq9 hp P) (h2 : Kq9 hp Q) : Kq9 hp (fun x => P x ∨ Q x) := fun x hx => hx.elim (h1 x) (h2 x)
theorem PkS.fk  {P : Nat → Prop} {hp hp' : List XC} (h : PkS hp st mn l1 l2 c ka fa oa aa pa9 sa wa if0 if1 items vb kd fr ws es9 mf sf gs os as bs e1 e2) (f : FrX P hp hp') (hO : Own hp) (hk : Kq9 hp P) : PkS hp' st mn l1 l2 c ka fa oa aa pa9 sa wa if0 if1 items vb kd fr ws es9 mf sf gs os as bs e1 e2 := by
  obtain ⟨a1, a2, a3, a4, a5, a6, a7, a8⟩ := h
  have a11 := a1
  obtain ⟨sf9, kes, fes, k0, k1, k2, k3, k4, k5, k6, k7, k8, k9, -⟩ := a11
  obtain ⟨f1, h10⟩ := a4.ob
  obtain ⟨f2, h20⟩ := a6.ob
  exact ⟨a1.fr f (hk.ob k0 (by decide)) (hk.ar k8 (by decide)) (hk.ar k9 (by decide)), f.ob a2 (by decide) (hk.ob a2 (by decide)), a3.fr f (hk.ob a3.ho (by decide)) (hk.ar a3.hoa (by decide)) (hk.ar a3.haa (by decide)), f.ls (hk.ob h10 (by decide)) hO a4, a5.fr f, f.ls (hk.ob h20 (by decide)) hO a6, a7.fr f, f.ob a8 (by decide) (hk.ob a8 (by decide))⟩
/-- what stands still, but for a formula's stack -/
def QB (hp : List XC) (st mn l1 l2 c ka fa oa aa pa9 sa wa if0 if1 items vb mc N : Nat) (kd fr : Nat → Nat) (ws : Value) (es9 mf sf ces : List Value) (gs : List Int32) (os : List (Nat × Int32)) (as bs : List Nat) (e1 e2 : List En) : Prop := PkS hp st mn l1 l2 c ka fa oa aa pa9 sa wa if0 if1 items vb kd fr ws es9 mf sf gs os as bs e1 e2 ∧ Own hp ∧ hp[mc]? = some (.inl (17, ces)) ∧ ∃ vs : List Int32, vs.length = N ∧ hp[sa]? = some (.inl (16, vs.map Value.int))
theorem QB.fk  {P : Nat → Prop} {hp hp' : List XC} (h : QB hp st mn l1 l2 c ka fa oa aa pa9 sa wa if0 if1 items vb mc N kd fr ws es9 mf sf ces gs os as bs e1 e2) (f : FrX P hp hp') (hk : Kq9 hp P) (hsa : ¬ P sa) : QB hp' st mn l1 l2 c ka fa oa aa pa9 sa wa if0 if1 items vb mc N kd fr ws es9 mf sf ces gs os as bs e1 e2 := by
  obtain ⟨b1, b2, b3, vs, b4, b5⟩ := h
  exact ⟨b1.fk f b2 hk, f.2.1 b2, f.2.2.1 _ _ b3 rfl (Or.inl (hk.ar b3 (by decide))), vs, b4, f.2.2.1 _ _ b5 rfl (Or.inl hsa)⟩
theorem QB.stk  {hp : List XC} {vs vs' : List Int32} (h : QB hp st mn l1 l2 c ka fa oa aa pa9 sa wa if0 if1 items vb mc N kd fr ws es9 mf sf ces gs os as bs e1 e2) (hs : hp[sa]? = some (.inl (16, vs.map Value.int))) (hl : vs'.length = N) : QB (hp.set sa (.inl (16, vs'.map Value.int))) st mn l1 l2 c ka fa oa aa pa9 sa wa if0 if1 items vb mc N kd fr ws es9 mf sf ces gs os as bs e1 e2 ∧ FrX (fun x => x = sa) hp (hp.set sa (.inl (16, vs'.map Value.int))) := by
  obtain ⟨b1, b2, b3, us, b4, b5⟩ := h
  have f : FrX (fun x => x = sa) hp (hp.set sa (.inl (16, vs'.map Value.int))) := FrX.st hs rfl rfl rfl rfl (fun fs h => by cases h) (fun ci fs h => by cases h)
  have hk : Kq9 hp (fun x => x = sa) := Kq9.one hs (Or.inr ⟨_, _, rfl, Or.inl rfl⟩)
  exact ⟨⟨b1.fk f b2 hk, f.2.1 b2, f.2.2.1 _ _ b3 rfl (Or.inl (hk.ar b3 (by decide))), vs', hl, xs_eq hs⟩, f⟩
abbrev QT : Type := List (List Int32) × Nat
/-- between two lines -/
def QK (q st mn l1 l2 pa li ln0 c ka fa oa aa pa9 sa wa if0 if1 items vb mc N kp w n l0 nc0 ns0 : Nat) (kd fr : Nat → Nat) (ws : Value) (es9 mf sf ces : List Value) (gs : List Int32) (os : List (Nat × Int32)) (as bs : List Nat) (e1 e2 : List En) (so : Option Nat) (dn : Int32) (h0 : List XC) (ps : List Int32) (ln : Nat) (lb la : List Int32) (t : QT) (h : List XC) (nc ns : Nat) : Prop := QB h st mn l1 l2 c ka fa oa aa pa9 sa wa if0 if1 items vb mc N kd fr ws es9 mf sf ces gs os as bs e1 e2 ∧ FrX (Q9P q sa li ln0 pa) h0 h ∧ h[q]? = some (.inr (7, [.ref st, .ref mn, .ref l1, .ref l2, .ref pa, .int (Int32.ofNat n), .ref li, .int (Int32.ofNat kp), .int (Int32.ofNat t.2), .int (soI so), .int dn, .ref ln, .int (Int32.ofNat t.1.length), .int (Int32.ofNat w)])) ∧ h[pa]? = some (.inl (18, ps.map Value.int)) ∧ h[li]? = some (.inl (19, la.map Value.int)) ∧ h[ln]? = some (.inl (20, lb.map Value.int)) ∧ LinR lb w t.1 ∧ t.1.length ≤ kp ∧ lb.length ≤ max l0 900 ∧ (ln = ln0 ∨ h0.length ≤ ln) ∧ nc + l0 ≤ nc0 + lb.length ∧ ns + 900 * l0 ≤ ns0 + 900 * lb.length
def QJ (L q st mn l1 l2 pa li ln0 c ka fa oa aa pa9 sa wa if0 if1 items vb mc N kp w n l0 nc0 ns0 : Nat) (kd fr : Nat → Nat) (ws : Value) (es9 mf sf ces : List Value) (gs : List Int32) (os : List (Nat × Int32)) (as bs : List Nat) (e1 e2 : List En) (so : Option Nat) (dn : Int32) (h0 : List XC) (ps : List Int32) (X : List Int32 → Prop) (t : QT) (h : List XC) (nc ns : Nat) : Prop := ∃ (ln : Nat) (lb la : List Int32), la.length = L ∧ X (la.take w) ∧ QK q st mn l1 l2 pa li ln0 c ka fa oa aa pa9 sa wa if0 if1 items vb mc N kp w n l0 nc0 ns0 kd fr ws es9 mf sf ces gs os as bs e1 e2 so dn h0 ps ln lb la t h nc ns
/-- a line is offered -/
theorem q_offer  {L : Nat} {line : List Int32} {t : QT} {h : List XC} {nc ns : Nat} (hj : QJ L q st mn l1 l2 pa li ln0 c ka fa oa aa pa9 sa wa if0 if1 items vb mc N kp w n l0 nc0 ns0 kd fr ws es9 mf sf ces gs os as bs e1 e2 so dn h0 ps (fun l => l = line) t h nc ns) (hwL : w ≤ L) (hL : L ≤ 1000) (hkw : kp * w ≤ 450) (hkp : kp ≤ 18000) (hl0 : l0 ≤ 18000) (hso : ∀ k, so = some k → k < w) : Me S 2 157 [.ref q] h (fun v h' c9 s9 => v = none ∧ QJ L q st mn l1 l2 pa li ln0 c ka fa oa aa pa9 sa wa if0 if1 items vb mc N kp w n l0 nc0 ns0 kd fr ws es9 mf sf ces gs os as bs e1 e2 so dn h0 ps (fun _ => True) (insK so dn kp t.1 line, t.2 + 1) h' (nc + c9) (ns + s9)) := by
  obtain ⟨ln, lb, la, hla, hX, k1, k2, k3, k4, k5, k6, k7, k8, k9, k10, k11, k12⟩ := hj
  have hk0 : Kq9 h (fun x => x = q) := Kq9.one k3 (Or.inl ⟨_, rfl⟩)
  have hkl : Kq9 h (fun x => x = ln) := Kq9.one k6 (Or.inr ⟨_, _, rfl, Or.inr (Or.inr (Or.inr rfl))⟩)
  obtain ⟨b1, b2, b3, vs, b4, b5⟩ := k1
  have k1' : QB h st mn l1 l2 c ka fa oa aa pa9 sa wa if0 if1 items vb mc N kd fr ws es9 mf sf ces gs os as bs e1 e2 := ⟨b1, b2, b3, vs, b4, b5⟩
  obtain ⟨h1, eh1⟩ : ∃ z, z = h.set q (.inr (7, [.ref st, .ref mn, .ref l1, .ref l2, .ref pa, .int (Int32.ofNat n), .ref li, .int (Int32.ofNat kp), .int (Int32.ofNat t.2 + 1), .int (soI so), .int dn, .ref ln, .int (Int32.ofNat t.1.length), .int (Int32.ofNat w)])) := ⟨_, rfl⟩
  have f1 : FrX (fun x => x = q) h h1 := by rw [eh1]; exact FrX.so k3 (by decide) rfl (by decide)
  have hq1 : h1[q]? = some (.inr (7, [.ref st, .ref mn, .ref l1, .ref l2, .ref pa, .int (Int32.ofNat n), .ref li, .int (Int32.ofNat kp), .int (Int32.ofNat t.2 + 1), .int (soI so), .int dn, .ref ln, .int (Int32.ofNat t.1.length), .int (Int32.ofNat w)])) := by rw [eh1]; exact xs_eq k3
  have hli1 := f1.2.2.1 _ _ k5 rfl (Or.inl (fun e => xn_ar k5 k3 e))
  have hln1 := f1.2.2.1 _ _ k6 rfl (Or.inl (fun e => xn_ar k6 k3 e))
  have hpa1 := f1.2.2.1 _ _ k4 rfl (Or.inl (fun e => xn_ar k4 k3 e))
  have hlk := Nat.mul_le_mul_right w k8
  have hcl : ∀ i, i < t.1.length → Pu S 0 158 [.ref q, .int (Int32.ofNat i)] h1 (.int (cmpL so dn line ((t.1[i]?).getD []))) := fun i hi => by
    have hil := Nat.mul_le_mul_right w (show i + 1 ≤ t.1.length from hi)
    rw [Nat.succ_mul] at hil
    have h71 := k7.1
    obtain ⟨l, hl⟩ : ∃ l, t.1[i]? = some l := ⟨_, List.getElem?_eq_getElem hi⟩
    rw [hl]
    show Pu S 0 158 [.ref q, .int (Int32.ofNat i)] h1 (.int (cmpL so dn line l))
    rw [← hX, ← k7.2 i l hl]
    cases hso9 : so with
    | none =>
      rw [hso9] at hq1
      exact m_compareLineN hq1 hli1 hln1 (by omega) (by omega) (by omega) (by omega)
    | some k =>
      rw [hso9] at hq1
      exact m_compareLineS hq1 hli1 hln1 (by omega) (by omega) (by omega) (by omega) (hso k hso9)
  refine m_offer k3 eh1 k5 k6 (by omega) (by omega) (by omega) hkp k8 (by omega) k7.1 hcl (fun hge => ?_) (fun hlt m hm hp' ln' lb' c8 s8 F g1 g2 g3 g4 g5 => ?_)
  · refine ⟨_, _, _, _, rfl, rfl, ln, lb, la, hla, trivial, k1'.fk f1 hk0 (fun e => xn_ar b5 k3 e), FrX.tr k2 f1 (fun x hx => Or.inl (Or.inl hx)), ?_, hpa1, hli1, hln1, ?_, ?_, k9, k10, k11, k12⟩
    · rw [show insK so dn kp t.1 line = t.1 from if_pos hge, ← iN_s]; exact hq1
    · rw [show insK so dn kp t.1 line = t.1 from if_pos hge]; exact k7
    · rw [show insK so dn kp t.1 line = t.1 from if_pos hge]; exact k8
  · have hng : ¬ kp ≤ insP so dn t.1 line := Nat.not_le.mpr hlt
    have hlen := insK_len hng
    rw [← hm] at hlen
    have hk9 : Kq9 h (fun x => x = q ∨ x = ln) := hk0.two hkl
    have hmk : m ≤ kp := by rw [hm]; split <;> omega
    have hmw := Nat.mul_le_mul_right w hmk
    refine ⟨_, _, _, _, rfl, rfl, ln', lb', la, hla, trivial, k1'.fk F hk9 (fun e => e.elim (fun e => xn_ar b5 k3 e) (fun e => xn_kd b5 k6 (by decide) e)), FrX.tr k2 F (fun x hx => hx.elim (fun e => Or.inl (Or.inl e)) (fun e => k10.elim (fun e' => Or.inl (Or.inr (Or.inr (Or.inr (Or.inl (e.trans e')))))) (fun e' => Or.inr (by omega)))), ?_, ?_, ?_, g2, ?_, ?_, ?_, ?_, ?_, ?_⟩
    · show hp'[q]? = some (.inr (7, [.ref st, .ref mn, .ref l1, .ref l2, .ref pa, .int (Int32.ofNat n), .ref li, .int (Int32.ofNat kp), .int (Int32.ofNat (t.2 + 1)), .int (soI so), .int dn, .ref ln', .int (Int32.ofNat (insK so dn kp t.1 line).length), .int (Int32.ofNat w)]))
      rw [hlen, ← iN_s]; exact g1
    · exact F.2.2.1 _ _ k4 rfl (Or.inl (fun e => e.elim (fun e => xn_ar k4 k3 e) (fun e => xn_kd k4 k6 (by decide) e)))
    · exact F.2.2.1 _ _ k5 rfl (Or.inl (fun e => e.elim (fun e => xn_ar k5 k3 e) (fun e => xn_kd k5 k6 (by decide) e)))
    · show LinR lb' w (insK so dn kp t.1 line)
      rw [show insK so dn kp t.1 line = (t.1.take (insP so dn t.1 line) ++ line :: t.1.drop (insP so dn t.1 line)).take m from by unfold insK; rw [if_neg hng, ← hm], ← hX]
      rw [← hX] at hlt g3
      exact LinR.ins (kp := kp) k7 (olP_le _ _) g3
    · show (insK so dn kp t.1 line).length ≤ kp
      rw [hlen]; exact hmk
    · rcases g5 with ⟨_, _, e⟩ | ⟨_, _, e1, e2, e3, e4⟩ <;> omega
    · rcases g4 with e | e
      · exact k10.imp (fun e' => e.trans e') (fun e' => by omega)
      · exact Or.inr (Nat.le_trans k2.1 e)
    · rcases g5 with ⟨_, _, e⟩ | ⟨_, _, e1, e2, e3, e4⟩ <;> omega
    · rcases g5 with ⟨_, _, e⟩ | ⟨_, _, e1, e2, e3, e4⟩ <;> omega
/-- what a formula's stack leaves -/
theorem QK.stk  {ln : Nat} {lb la vs vs' : List Int32} {t : QT} {h : List XC} {nc ns : Nat} (k : QK q st mn l1 l2 pa li ln0 c ka fa oa aa pa9 sa wa if0 if1 items vb mc N kp w n l0 nc0 ns0 kd fr ws es9 mf sf ces gs os as bs e1 e2 so dn h0 ps ln lb la t h nc ns) (hs : h[sa]? = some (.inl (16, vs.map Value.int))) (hl : vs'.length = N) : QK q st mn l1 l2 pa li ln0 c ka fa oa aa pa9 sa wa if0 if1 items vb mc N kp w n l0 nc0 ns0 kd fr ws es9 mf sf ces gs os as bs e1 e2 so dn h0 ps ln lb la t (h.set sa (.inl (16, vs'.map Value.int))) nc ns := by
  obtain ⟨k1, k2, k3, k4, k5, k6, k7, k8, k9, k10, k11, k12⟩ := k
  obtain ⟨u1, f⟩ := k1.stk (vs' := vs') hs hl
  exact ⟨u1, FrX.tr k2 f (fun x hx => Or.inl (Or.inr (Or.inl hx))), f.ob k3 (by decide) (fun e => xn_ra k3 hs e), f.2.2.1 _ _ k4 rfl (Or.inl (fun e => xn_kd k4 hs (by decide) e)), f.2.2.1 _ _ k5 rfl (Or.inl (fun e => xn_kd k5 hs (by decide) e)), f.2.2.1 _ _ k6 rfl (Or.inl (fun e => xn_kd k6 hs (by decide) e)), k7, k8, k9, k10, k11, k12⟩
theorem QK.lin  {ln : Nat} {lb la la' : List Int32} {t : QT} {h : List XC} {nc ns : Nat} (k : QK q st mn l1 l2 pa li ln0 c ka fa oa aa pa9 sa wa if0 if1 items vb mc N kp w n l0 nc0 ns0 kd fr ws es9 mf sf ces gs os as bs e1 e2 so dn h0 ps ln lb la t h nc ns) : QK q st mn l1 l2 pa li ln0 c ka fa oa aa pa9 sa wa if0 if1 items vb mc N kp w n l0 nc0 ns0 kd fr ws es9 mf sf ces gs os as bs e1 e2 so dn h0 ps ln lb la' t (h.set li (.inl (19, la'.map Value.int))) nc ns := by
  obtain ⟨k1, k2, k3, k4, k5, k6, k7, k8, k9, k10, k11, k12⟩ := k
  have b5 := k1.2.2.2
  obtain ⟨vs, b4, b5⟩ := b5
  have f : FrX (fun x => x = li) h (h.set li (.inl (19, la'.map Value.int))) := FrX.st k5 rfl rfl rfl rfl (fun fs h => by cases h) (fun ci fs h => by cases h)
  have hk : Kq9 h (fun x => x = li) := Kq9.one k5 (Or.inr ⟨_, _, rfl, Or.inr (Or.inr (Or.inl rfl))⟩)
  exact ⟨k1.fk f hk (fun e => xn_kd b5 k5 (by decide) e), FrX.tr k2 f (fun x hx => Or.inl (Or.inr (Or.inr (Or.inl hx)))), f.ob k3 (by decide) (fun e => xn_ra k3 k5 e), f.2.2.1 _ _ k4 rfl (Or.inl (fun e => xn_kd k4 k5 (by decide) e)), xs_eq k5, f.2.2.1 _ _ k6 rfl (Or.inl (fun e => xn_kd k6 k5 (by decide) e)), k7, k8, k9, k10, k11, k12⟩
end
