/-! an answer's lines fill it (by hand) -/
def AnS (s : SM) : Prop := s.2.2.2.2.2.2.1.2.2.length = s.2.2.2.2.2.2.1.1 * s.2.2.2.2.2.2.1.2.1 ∧ s.2.2.2.2.2.2.1.1 ≤ 150 ∧ s.2.2.2.2.2.2.1.2.1 ≤ 3
def AnM (M : HM) : Prop := ∀ i, AnS (M.2.2.2.1 i)
def QLk (kp w9 : Nat) (t : QT) : Prop := (∀ l ∈ t.1, l.length = w9) ∧ t.1.length ≤ kp
theorem ofG_inv {σ : Type} {em : σ → Nat → Nat → σ} {J : σ → Prop} (h : ∀ t a b, J t → J (em t a b)) : ∀ f i t, J t → J (ofG em f i t)
  | 0, _, _, k => k
  | f + 1, i, t, k => ofG_inv h f (i + 1) (em t i (i + 1)) (h t i (i + 1) k)
theorem grG_inv {σ : Type} {em : σ → Nat → Nat → σ} {C : Nat → Nat → Int32} {n : Nat} {J : σ → Prop} (h : ∀ t a b, J t → J (em t a b)) : ∀ f a t, J t → J (grG em C n f a t)
  | 0, _, _, k => k
  | f + 1, a, t, k => by
    unfold grG
    split
    · exact grG_inv h f _ _ (h _ _ _ k)
    · exact k
theorem insK_inv {so : Option Nat} {dn : Int32} {kp w9 : Nat} {ks : List (List Int32)} {l : List Int32} (h : ∀ x ∈ ks, x.length = w9) (h2 : ks.length ≤ kp) (hl : l.length = w9) : (∀ x ∈ insK so dn kp ks l, x.length = w9) ∧ (insK so dn kp ks l).length ≤ kp := by
  by_cases hp : kp ≤ insP so dn ks l
  · have e : insK so dn kp ks l = ks := if_pos hp
    rw [e]
    exact ⟨h, h2⟩
  · refine ⟨fun x hx => ?_, ?_⟩
    · unfold insK at hx
      rw [if_neg hp] at hx
      rcases List.mem_append.mp (List.mem_of_mem_take hx) with h9 | h9
      · exact h x (List.mem_of_mem_take h9)
      · rcases List.mem_cons.mp h9 with h8 | h8
        · rw [h8]; exact hl
        · exact h x (List.mem_of_mem_drop h8)
    · rw [insK_len hp]
      split <;> omega
section
variable {so : Option Nat} {dn : Int32} {kp w9 if0 if1 items col : Nat} {kd fr : Nat → Nat} {os : List (Nat × Int32)} {fc sc : Int32} {es fs : List En}
theorem emA_inv {rv : Int32 → RV} {pk : Nat → Int32} : ∀ t a b, QLk kp w9 t → QLk kp w9 (emA so dn kp rv pk w9 t a b) := fun t a b h => insK_inv h.1 h.2 (by unfold lineA; rw [List.length_map, List.length_range])
theorem emB_inv {seg : Nat → List (Nat × Int32)} {rv : Int32 → RV} {pk : Nat → Int32} : ∀ t a b, QLk kp w9 t → QLk kp w9 (emB so dn kp kd seg rv pk w9 t a b) := fun t a b h => insK_inv h.1 h.2 (by unfold lineB; rw [List.length_map, List.length_range])
theorem ql_0 : QLk kp w9 ([], 0) := ⟨fun l hl => (List.not_mem_nil hl).elim, Nat.zero_le _⟩
theorem q0A_w : QLk kp w9 (q0A so dn kp w9 if0 if1 os es) := ofG_inv emA_inv _ _ _ ql_0
theorem q0B_w : QLk kp w9 (q0B so dn kp w9 if0 if1 items kd fr os es) := ofG_inv emB_inv _ _ _ ql_0
theorem q0G_w : QLk kp w9 (q0G so dn kp w9 if0 if1 items kd fr os es) := emB_inv _ _ _ ql_0
theorem q0N_w : QLk kp w9 (q0N so dn kp w9 if0 if1 items col kd fr os es) := grG_inv emB_inv _ _ _ ql_0
theorem qJB_w : QLk kp w9 (qJB so dn kp w9 if0 if1 items kd fr os fc sc es fs) := ofG_inv emB_inv _ _ _ ql_0
theorem qJN_w : QLk kp w9 (qJN so dn kp w9 if0 if1 items col kd fr os fc sc es fs) := grG_inv emB_inv _ _ _ ql_0
end
theorem flat_len {w9 : Nat} : ∀ L : List (List Int32), (∀ l ∈ L, l.length = w9) → L.flatten.length = L.length * w9
  | [], _ => (Nat.zero_mul _).symm
  | l :: L, h => by
    rw [List.flatten_cons, List.length_append, flat_len L (fun x hx => h x (List.mem_cons_of_mem _ hx)), h l List.mem_cons_self, List.length_cons, Nat.succ_mul, Nat.add_comm]
section
variable {M : HM} {c d i ln : Nat} {q q1 : TQ} {nm nm2 : Int32}
theorem an_s {s : SM} (h : AnM M) (hs : AnS s) : AnM (mS M i s) := fun j => by
  by_cases e : j = i
  · subst e
    rw [mS_at]
    exact hs
  · rw [mS_ne e]
    exact h j
theorem an_kM {D ts : List En} (h : AnM M) : AnM (keepM M i D ts) := by
  unfold keepM
  split
  · exact an_s h (h i)
  · exact h
theorem an_kG {D ts : List En} {gv : Bool} {t : Nat} (h : AnM M) : AnM (keepG M i D ts gv t ln) := by
  unfold keepG
  split
  · exact an_kM h
  · exact an_kM h
theorem an_put {gv : Bool} {vl : Nat → Int32} (h : AnM M) : AnM (putM M i ln q gv vl).2.2 := by
  unfold putM
  split
  · split
    · exact an_kG h
    · exact h
  · exact h
theorem an_alt {st : A3 → En → A3} {al : List En} (h : AnM M) : AnM (altM M i ln q st al).2.2 := by
  unfold altM
  split
  · exact an_kG h
  · exact h
theorem an_low {key other : Int32} (h : AnM M) : AnM (lowM M i q key other).2.2 := by
  unfold lowM
  split
  · split
    · exact h
    · exact h
  · exact h
theorem an_dr (h : AnM M) : AnM (drM M i q).2.2 := by
  unfold drM
  split
  · split
    · exact h
    · intro j
      show AnS (if 0 ≤ j ∧ j < 8 then sDrp (M.2.2.2.1 j) q.2.1 else M.2.2.2.1 j)
      split
      · exact h j
      · exact h j
  · exact h
theorem an_mk (h : AnM M) : AnM (mkM M i nm q1).2.2 := by
  unfold mkM
  split
  · exact h
  · exact h
theorem an_get {kp w9 : Nat} {top : Int32} {t : QT} (h : AnM M) (ht : QLk kp w9 t) (hk : kp ≤ 150) (hw : w9 ≤ 3) : AnM (getM M i w9 top t).2.2 := by
  unfold getM
  split
  · exact an_s h ⟨flat_len t.1 ht.1, Nat.le_trans ht.2 hk, hw⟩
  · exact h
theorem an_cnt {r : RM} (h : AnM r.2.2) : AnM (cntR r i ln).2.2 := by
  unfold cntR
  split
  · exact h
  · exact an_s h (h i)
def FAn (F : MF) : Prop := ∀ (M : HM) (i ln : Nat) (r : RM), AnM M → F M i ln r → AnM r.2.2
theorem fan_f1 {fl : Nat} {G : GT} (h : ∀ (q : TQ) (M : HM) (i ln : Nat), AnM M → AnM (G q M i ln).2.2) : FAn (f1 nm fl G) := fun M i ln r hM hF => by
  cases e : tnM M (M.2.2.2.1 i).1 nm with
  | none => rw [f1_N e hF]; exact hM
  | some t =>
    obtain ⟨q, hq, q1, hr⟩ := f1_S e hF
    rw [hr]
    exact an_cnt (h q M i ln hM)
theorem fan_f2 {fl f9 : Nat} {G : GT2} (h : ∀ (q q2 : TQ) (M : HM) (i ln : Nat), AnM M → AnM (G q q2 M i ln).2.2) : FAn (f2 nm nm2 fl f9 G) := fun M i ln r hM hF => by
  rcases f2_cs hF with ⟨e, hr⟩ | ⟨t, e, e2, hr⟩ | ⟨t, t2, e, e2, q, hq, q2, hq2, e3, e4, hr⟩
  · rw [hr]; exact hM
  · rw [hr]; exact hM
  · rw [hr]; exact an_cnt (h q q2 M i ln hM)
theorem fan_fF {fl : Nat} : FAn (fF fl) := fun M i ln r hM hF => by
  rw [show r = fltR M ln fl from hF]; exact hM
theorem fan_fA : FAn fA := fun M i ln r hM hF => by
  obtain ⟨n, hn, hr⟩ := hF
  rw [hr]; exact an_cnt (an_mk hM)
theorem fan_fU : FAn fU := fun M i ln r hM hF => by
  obtain ⟨n, hn, hr⟩ := hF
  rw [hr]; exact an_cnt (an_mk hM)
theorem fan_fB {fl : Nat} : FAn (fB fl) := fun M i ln r hM hF => by
  rcases fB_cs hF with ⟨e, hr⟩ | ⟨t, e, q, hq, q1, n, hn, hr⟩
  · rw [hr]; exact hM
  · rw [hr]; exact an_cnt (an_mk hM)
theorem fan_pbad (σ : Nat → Nat) : FAn (F_pbad σ) := fun M i ln r hM hF => by
  rcases pbad_cs hF with ⟨e, hr⟩ | ⟨e, hr⟩
  · rw [hr]; exact hM
  · rw [hr]; exact hM
end
