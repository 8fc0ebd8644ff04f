/-! queries: a line is offered (written by wip/p27/c99997.py) -/
/-- the place among n kept lines that a line takes, by how it stands to each -/
def olP (C : Nat → Int32) : Nat → Nat
  | 0 => 0
  | n + 1 => if C n < 0 then olP C n else n + 1
theorem olP_le (C : Nat → Int32) : ∀ n, olP C n ≤ n := by
  intro n
  induction n with
  | zero => exact Nat.le_refl _
  | succ n ih =>
    unfold olP
    by_cases h : C n < 0
    · rw [if_pos h]; omega
    · rw [if_neg h]; omega
theorem of_loop {S : List Int32} {hp : List XC} {C : Nat → Int32} {q m0 nc ns : Nat} {Q : XO → Prop} {fs : List Value} (hq : hp[q]? = some (.inr (7, fs))) (hcl : ∀ i, i < m0 → Pu S 0 158 [.ref q, .int (Int32.ofNat i)] hp (.int (C i))) (hm0 : m0 < 2 ^ 31) : ∀ i, i ≤ m0 → At S 2 157 35 [(1, .int (Int32.ofNat (olP C i))), (0, .ref q)] [] hp nc ns Q → At S 2 157 15 [(1, .int (Int32.ofNat i)), (0, .ref q)] [] hp nc ns Q := by
  intro i
  induction i with
  | zero =>
    intro hi hK
    refine At.go (q := xm157) rfl 1 (pc' := 16) (L' := [(1, .int (Int32.ofNat 0)), (0, .ref q)]) (st' := [.int (Int32.ofNat 0)]) rfl ?_
    refine At.ic1 (tgt := 35) rfl rfl (fun _ => ?_) (fun h => absurd (h.symm.trans (by decide : xcm .le (Int32.ofNat 0) 0 = true)) (by decide))
    exact hK
  | succ i ih =>
    intro hi hK
    have hd : Int32.ofNat (i + 1) - 1 = Int32.ofNat i := iN_sub (a := i + 1) (b := 1) (by omega)
    have hd2 : Int32.ofNat (i + 1) + (-1) = Int32.ofNat i := (Int32.sub_eq_add_neg _ _).symm.trans hd
    refine At.go (q := xm157) rfl 1 (pc' := 16) (L' := [(1, .int (Int32.ofNat (i + 1))), (0, .ref q)]) (st' := [.int (Int32.ofNat (i + 1))]) rfl ?_
    refine At.ic1 (tgt := 35) rfl rfl (fun h => absurd (h.symm.trans (decide_eq_false (fun h => absurd ((iN_le (a := i + 1) (b := 0) (by omega) (by omega)).mp h) (by omega)))) (by decide)) (fun _ => ?_)
    refine At.go (q := xm157) rfl 4 (pc' := 23) (L' := [(1, .int (Int32.ofNat (i + 1))), (0, .ref q)]) (st' := [.int ((Int32.ofNat (i + 1)) - 1), .ref q]) rfl ?_
    rw [hd]
    refine At.clp (as := [.ref q, .int (Int32.ofNat i)]) (rest := []) rfl (by decide) rfl (Nat.le_of_ble_eq_true rfl) (Nat.le_of_ble_eq_true rfl) (xrck_o (by decide) (by decide) hq (by decide)) (Nat.le_of_ble_eq_true rfl) (hcl i (by omega)) ?_
    refine At.ic1 (tgt := 35) rfl rfl (fun h26 => ?_) (fun h26 => ?_)
    · have hn : ¬ C i < 0 := Int32.not_lt.mpr (of_decide_eq_true h26)
      rw [show olP C (i + 1) = i + 1 from if_neg hn] at hK
      exact hK
    · have hn : C i < 0 := Int32.not_le.mp (of_decide_eq_false h26)
      rw [show olP C (i + 1) = olP C i from if_pos hn] at hK
      refine At.go (q := xm157) rfl 2 (pc' := 15) (L' := [(1, .int ((Int32.ofNat (i + 1)) + (-1))), (0, .ref q)]) (st' := []) rfl ?_
      rw [hd2]
      refine At.wk (L' := [(1, .int (Int32.ofNat i)), (0, .ref q)]) (List.forall_mem_cons.mpr ⟨List.mem_of_getElem? (i := 0) rfl, (List.forall_mem_cons.mpr ⟨List.mem_of_getElem? (i := 1) rfl, (fun _ h => (List.not_mem_nil h).elim)⟩)⟩) (show ([1, 0] : List Nat).Nodup by decide) ?_
      exact ih (by omega) hK
theorem m_offer {S : List Int32} {hp h1 : List XC} {q st mn l1 l2 pa li ln kp w m0 : Nat} {pn off so dn : Int32} {la lb : List Int32} {C : Nat → Int32} {nc ns : Nat} {Q : XO → Prop} (hq : hp[q]? = some (.inr (7, [.ref st, .ref mn, .ref l1, .ref l2, .ref pa, .int pn, .ref li, .int (Int32.ofNat kp), .int off, .int so, .int dn, .ref ln, .int (Int32.ofNat m0), .int (Int32.ofNat w)]))) (eh1 : h1 = hp.set q (.inr (7, [.ref st, .ref mn, .ref l1, .ref l2, .ref pa, .int pn, .ref li, .int (Int32.ofNat kp), .int (off + 1), .int so, .int dn, .ref ln, .int (Int32.ofNat m0), .int (Int32.ofNat w)]))) (hli : hp[li]? = some (.inl (19, la.map Value.int))) (hln : hp[ln]? = some (.inl (20, lb.map Value.int))) (hla : w ≤ la.length) (hla2 : la.length ≤ 1000) (hlb : lb.length ≤ 18000) (hkp : kp ≤ 18000) (hmk : m0 ≤ kp) (hkw : kp * w ≤ 18000) (hfit : m0 * w ≤ lb.length) (hcl : ∀ i, i < m0 → Pu S 0 158 [.ref q, .int (Int32.ofNat i)] h1 (.int (C i))) (hK0 : kp ≤ olP C m0 → Q (.inl (none, h1, nc, ns))) (hK : olP C m0 < kp → ∀ (m : Nat), m = (if m0 < kp then m0 + 1 else m0) → ∀ (hp' : List XC) (ln' : Nat) (lb' : List Int32) (c s : Nat), FrX (fun x => x = q ∨ x = ln) hp hp' → hp'[q]? = some (.inr (7, [.ref st, .ref mn, .ref l1, .ref l2, .ref pa, .int pn, .ref li, .int (Int32.ofNat kp), .int (off + 1), .int so, .int dn, .ref ln', .int (Int32.ofNat m), .int (Int32.ofNat w)])) → hp'[ln']? = some (.inl (20, lb'.map Value.int)) → InsR lb lb' la (olP C m0) w (m * w) → (ln' = ln ∨ hp.length ≤ ln') → ((c = 0 ∧ s = 0 ∧ lb'.length = lb.length) ∨ (c = 1 ∧ s = lb'.length ∧ lb.length < m * w ∧ m * w ≤ lb'.length ∧ lb'.length ≤ 2 * (m * w) ∧ lb'.length ≤ 18000)) → Q (.inl (none, hp', nc + c, ns + s))) : At S 2 157 0 [(0, .ref q)] [] hp nc ns Q := by
  refine At.go (q := xm157) rfl 2 (pc' := 2) (L' := [(0, .ref q)]) (st' := [.ref q, .ref q]) rfl ?_
  refine At.gf rfl (by decide) hq rfl ?_
  refine At.go (q := xm157) rfl 2 (pc' := 7) (L' := [(0, .ref q)]) (st' := [.int (off + 1), .ref q]) rfl ?_
  refine At.pf rfl hq (Nat.le_of_ble_eq_true rfl) xfit_i ?_
  refine At.hpe eh1 ?_
  have f1 : FrX (fun x => x = q) hp h1 := by rw [eh1]; exact FrX.so hq (by decide) rfl (by decide)
  have hq1 : h1[q]? = some (.inr (7, [.ref st, .ref mn, .ref l1, .ref l2, .ref pa, .int pn, .ref li, .int (Int32.ofNat kp), .int (off + 1), .int so, .int dn, .ref ln, .int (Int32.ofNat m0), .int (Int32.ofNat w)])) := by rw [eh1]; exact xs_eq hq
  have hli1 := f1.2.2.1 _ _ hli rfl (Or.inl (fun e => xn_ar hli hq e))
  have hln1 := f1.2.2.1 _ _ hln rfl (Or.inl (fun e => xn_ar hln hq e))
  refine At.go (q := xm157) rfl 1 (pc' := 11) (L' := [(0, .ref q)]) (st' := [.ref q]) rfl ?_
  refine At.gf rfl (by decide) hq1 rfl ?_
  refine At.go (q := xm157) rfl 1 (pc' := 15) (L' := [(1, .int (Int32.ofNat m0)), (0, .ref q)]) (st' := []) rfl ?_
  refine At.wk (L' := [(1, .int (Int32.ofNat m0)), (0, .ref q)]) (List.forall_mem_cons.mpr ⟨List.mem_of_getElem? (i := 0) rfl, (List.forall_mem_cons.mpr ⟨List.mem_of_getElem? (i := 1) rfl, (fun _ h => (List.not_mem_nil h).elim)⟩)⟩) (show ([1, 0] : List Nat).Nodup by decide) ?_
  refine of_loop hq1 hcl (by omega) m0 (Nat.le_refl _) ?_
  have hP0 := olP_le C m0
  obtain ⟨P, hP⟩ : ∃ P, P = olP C m0 := ⟨_, rfl⟩
  rw [← hP] at hK0 hK hP0 ⊢
  have f1l : h1.length = hp.length := by rw [eh1, List.length_set]
  refine At.go (q := xm157) rfl 2 (pc' := 37) (L' := [(1, .int (Int32.ofNat P)), (0, .ref q)]) (st' := [.ref q, .int (Int32.ofNat P)]) rfl ?_
  refine At.gf rfl (by decide) hq1 rfl ?_
  refine At.ic2 (tgt := 44) rfl rfl (fun h40 => ?_) (fun h40 => ?_)
  · have hlt : P < kp := (iN_lt (by omega) (by omega)).mp (of_decide_eq_true h40)
    refine At.go (q := xm157) rfl 1 (pc' := 45) (L' := [(1, .int (Int32.ofNat P)), (0, .ref q)]) (st' := [.ref q]) rfl ?_
    refine At.gf rfl (by decide) hq1 rfl ?_
    refine At.go (q := xm157) rfl 1 (pc' := 49) (L' := [(1, .int (Int32.ofNat P)), (0, .ref q)]) (st' := [.ref q, .int (Int32.ofNat m0)]) rfl ?_
    refine At.gf rfl (by decide) hq1 rfl ?_
    refine At.ic2 (tgt := 65) rfl rfl (fun h52 => ?_) (fun h52 => ?_)
    · have hf : kp ≤ m0 := (iN_le (by omega) (by omega)).mp (of_decide_eq_true h52)
      have hw1 : m0 * w ≤ kp * w := Nat.mul_le_mul_right _ hmk
      have hw2 : (m0 - 1) * w ≤ m0 * w := Nat.mul_le_mul_right _ (Nat.sub_le _ _)
      refine offer_ins hq1 hli1 hln1 hla hla2 hlb (show P < m0 by omega) (by omega) (by omega) ?_
      intro hp' ln' lb' c s F g1 g2 g3 g4 g5
      exact hK hlt m0 (if_neg (by omega)).symm hp' ln' lb' c s (FrX.tr (f1.mono (fun x _ h => Or.inl h)) F (fun x h => Or.inl h)) g1 g2 g3 (by rw [f1l] at g4; exact g4) g5
    · have hf : m0 < kp := Nat.lt_of_not_le (fun h => of_decide_eq_false h52 ((iN_le (by omega) (by omega)).mpr h))
      have hw1 : (m0 + 1) * w ≤ kp * w := Nat.mul_le_mul_right _ hf
      refine At.go (q := xm157) rfl 2 (pc' := 57) (L' := [(1, .int (Int32.ofNat P)), (0, .ref q)]) (st' := [.ref q, .ref q]) rfl ?_
      refine At.gf rfl (by decide) hq1 rfl ?_
      refine At.go (q := xm157) rfl 2 (pc' := 62) (L' := [(1, .int (Int32.ofNat P)), (0, .ref q)]) (st' := [.int (Int32.ofNat m0 + 1), .ref q]) rfl ?_
      rw [iN_s]
      refine At.pf rfl hq1 (Nat.le_of_ble_eq_true rfl) xfit_i ?_
      obtain ⟨h2, eh2⟩ : ∃ h, h = h1.set q (.inr (7, [.ref st, .ref mn, .ref l1, .ref l2, .ref pa, .int pn, .ref li, .int (Int32.ofNat kp), .int (off + 1), .int so, .int dn, .ref ln, .int (Int32.ofNat (m0 + 1)), .int (Int32.ofNat w)])) := ⟨_, rfl⟩
      refine At.hpe eh2 ?_
      have f2 : FrX (fun x => x = q) h1 h2 := by rw [eh2]; exact FrX.so hq1 (by decide) rfl (by decide)
      have hq2 : h2[q]? = some (.inr (7, [.ref st, .ref mn, .ref l1, .ref l2, .ref pa, .int pn, .ref li, .int (Int32.ofNat kp), .int (off + 1), .int so, .int dn, .ref ln, .int (Int32.ofNat (m0 + 1)), .int (Int32.ofNat w)])) := by rw [eh2]; exact xs_eq hq1
      have hli2 := f2.2.2.1 _ _ hli1 rfl (Or.inl (fun e => xn_ar hli1 hq1 e))
      have hln2 := f2.2.2.1 _ _ hln1 rfl (Or.inl (fun e => xn_ar hln1 hq1 e))
      have f12 : FrX (fun x => x = q) hp h2 := FrX.tr f1 f2 (fun x h => Or.inl h)
      have f2l : h2.length = hp.length := by rw [eh2, eh1, List.length_set, List.length_set]
      refine offer_ins hq2 hli2 hln2 hla hla2 hlb (show P < m0 + 1 by omega) (by omega) (by rw [Nat.add_sub_cancel]; exact hfit) ?_
      intro hp' ln' lb' c s F g1 g2 g3 g4 g5
      exact hK hlt (m0 + 1) (if_pos hf).symm hp' ln' lb' c s (FrX.tr (f12.mono (fun x _ h => Or.inl h)) F (fun x h => Or.inl h)) g1 g2 g3 (by rw [f2l] at g4; exact g4) g5
  · have hge : kp ≤ P := Nat.le_of_not_lt (fun h => of_decide_eq_false h40 ((iN_lt (by omega) (by omega)).mpr h))
    exact At.rt rfl rfl (hK0 hge)
