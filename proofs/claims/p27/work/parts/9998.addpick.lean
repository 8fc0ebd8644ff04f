/-! queries: a row is picked (written by wip/p27/c9998.py) -/
/-- what picking a row leaves -/
def PkR (hp hp' : List XC) (q : Nat) (st mn l1 l2 pa n li ln : Nat) (kp off so dn lc wd : Int32) (ps : List Int32) (xs : List Int32) (c s : Nat) : Prop :=
  ∃ (pa' : Nat) (ps' : List Int32), FrX (fun x => x = q ∨ x = pa) hp hp' ∧ hp'[q]? = some (.inr (7, [.ref st, .ref mn, .ref l1, .ref l2, .ref pa', .int (Int32.ofNat (n + xs.length)), .ref li, .int kp, .int off, .int so, .int dn, .ref ln, .int lc, .int wd])) ∧ hp'[pa']? = some (.inl (18, ps'.map Value.int)) ∧ ps'.take (n + xs.length) = ps.take n ++ xs ∧ n + xs.length ≤ ps'.length ∧ ps'.length ≤ max ps.length (2 * (n + xs.length) + 1) ∧ ps.length ≤ ps'.length ∧ c + ps.length ≤ ps'.length ∧ s + 2 * ps.length ≤ 2 * ps'.length ∧ (pa' = pa ∨ hp.length ≤ pa')
/-- addPicked -/
theorem m_addPicked {S : List Int32} {hp : List XC} {q : Nat} {st mn l1 l2 pa n li ln : Nat} {kp off so dn lc wd : Int32} {ps : List Int32} (v : Int32) (hq : hp[q]? = some (.inr (7, [.ref st, .ref mn, .ref l1, .ref l2, .ref pa, .int (Int32.ofNat n), .ref li, .int kp, .int off, .int so, .int dn, .ref ln, .int lc, .int wd]))) (hpa : hp[pa]? = some (.inl (18, ps.map Value.int))) (hn : n ≤ ps.length) (hl : ps.length ≤ 40000) : Me S 1 148 [.ref q, .int v] hp (fun r hp' c s => r = none ∧ PkR hp hp' q st mn l1 l2 pa n li ln kp off so dn lc wd ps [v] c s) := by
  refine At.go (q := xm148) rfl 1 (pc' := 1) (L' := [(0, .ref q), (1, .int v)]) (st' := [.ref q]) rfl ?_
  refine At.gf rfl (by decide) hq rfl ?_
  refine At.go (q := xm148) rfl 1 (pc' := 5) (L' := [(0, .ref q), (1, .int v)]) (st' := [.ref q, .int (Int32.ofNat n)]) rfl ?_
  refine At.gf rfl (by decide) hq rfl ?_
  refine At.ln rfl hpa ?_
  rw [List.length_map]
  refine At.ic2 (tgt := 44) rfl rfl (fun h9 => ?_) (fun h9 => ?_)
  · have hlt : n < ps.length := by
      rcases Nat.lt_or_ge n ps.length with h | h
      · exact h
      · exact absurd (show n = ps.length by omega) (fun e => of_decide_eq_true h9 (by rw [e]))
    refine At.go (q := xm148) rfl 1 (pc' := 45) (L' := [(0, .ref q), (1, .int v)]) (st' := [.ref q]) rfl ?_
    refine At.gf rfl (by decide) hq rfl ?_
    refine At.ic1 (tgt := 83) rfl rfl (fun h => absurd (h.symm.trans (decide_eq_false (iN_nn (by omega)))) (by decide)) (fun _ => ?_)
    refine At.go (q := xm148) rfl 1 (pc' := 52) (L' := [(0, .ref q), (1, .int v)]) (st' := [.ref q]) rfl ?_
    refine At.gf rfl (by decide) hq rfl ?_
    refine At.go (q := xm148) rfl 1 (pc' := 56) (L' := [(0, .ref q), (1, .int v)]) (st' := [.ref q, .int (Int32.ofNat n)]) rfl ?_
    refine At.gf rfl (by decide) hq rfl ?_
    refine At.ln rfl hpa ?_
    refine At.ic2 (tgt := 83) rfl rfl (fun h => absurd (h.symm.trans (decide_eq_false (fun h => absurd ((iN_le (a := ps.length) (b := n) (by omega) (by omega)).mp (by rw [List.length_map] at h; exact h)) (by omega)))) (by decide)) (fun _ => ?_)
    refine At.go (q := xm148) rfl 1 (pc' := 64) (L' := [(0, .ref q), (1, .int v)]) (st' := [.ref q]) rfl ?_
    refine At.gf rfl (by decide) hq rfl ?_
    refine At.go (q := xm148) rfl 1 (pc' := 68) (L' := [(0, .ref q), (1, .int v)]) (st' := [.ref q, .ref pa]) rfl ?_
    refine At.gf rfl (by decide) hq rfl ?_
    refine At.go (q := xm148) rfl 1 (pc' := 72) (L' := [(0, .ref q), (1, .int v)]) (st' := [.int v, .int (Int32.ofNat n), .ref pa]) rfl ?_
    refine At.as (j := Int32.ofNat n) rfl hpa (by decide) rfl (iN_nn (by omega)) (by rw [iN_tn (by omega), List.length_map]; omega) ?_
    rw [iN_tn (by omega)]
    obtain ⟨h8, eh8⟩ : ∃ h, h = hp.set pa (.inl (18, (ps.map Value.int).set n (.int v))) := ⟨_, rfl⟩
    refine At.hpe eh8 ?_
    have f8 : FrX (fun x => x = pa) hp h8 := by rw [eh8]; exact FrX.st hpa rfl rfl rfl rfl (fun fs h => by cases h) (fun ci fs h => by cases h)
    have hq8 : h8[q]? = some (.inr (7, [.ref st, .ref mn, .ref l1, .ref l2, .ref pa, .int (Int32.ofNat n), .ref li, .int kp, .int off, .int so, .int dn, .ref ln, .int lc, .int wd])) := f8.ob hq (by decide) (fun e => xn_ra hq hpa e)
    have hpa8 : h8[pa]? = some (.inl (18, (ps.set n v).map Value.int)) := by rw [eh8, List.map_set]; exact xs_eq hpa
    refine At.go (q := xm148) rfl 2 (pc' := 75) (L' := [(0, .ref q), (1, .int v)]) (st' := [.ref q, .ref q]) rfl ?_
    refine At.gf rfl (by decide) hq8 rfl ?_
    refine At.go (q := xm148) rfl 2 (pc' := 80) (L' := [(0, .ref q), (1, .int v)]) (st' := [.int ((Int32.ofNat n) + 1), .ref q]) rfl ?_
    refine At.pf rfl hq8 (Nat.le_of_ble_eq_true rfl) xfit_i ?_
    rw [iN_s]
    obtain ⟨hz, ehz⟩ : ∃ h, h = h8.set q (.inr (7, [.ref st, .ref mn, .ref l1, .ref l2, .ref pa, .int (Int32.ofNat (n + 1)), .ref li, .int kp, .int off, .int so, .int dn, .ref ln, .int lc, .int wd])) := ⟨_, rfl⟩
    refine At.hpe ehz ?_
    have f9 : FrX (fun x => x = q) h8 hz := by rw [ehz]; exact FrX.so hq8 (by decide) rfl (by decide)
    have hqz : hz[q]? = some (.inr (7, [.ref st, .ref mn, .ref l1, .ref l2, .ref pa, .int (Int32.ofNat (n + 1)), .ref li, .int kp, .int off, .int so, .int dn, .ref ln, .int lc, .int wd])) := by rw [ehz]; exact xs_eq hq8
    have hpa9 := f9.2.2.1 _ _ hpa8 rfl (Or.inl (fun e => xn_ar hpa8 hq8 e))
    have hl9 : (ps.set n v).length = ps.length := List.length_set
    exact At.rt rfl rfl ⟨_, _, _, _, rfl, rfl, pa, ps.set n v, FrX.tr (f8.mono (fun x _ h => Or.inr h)) f9 (fun x h => Or.inl (Or.inl h)), hqz, hpa9, stk_push rfl hlt, by rw [List.length_singleton, hl9]; omega, by rw [List.length_singleton, hl9]; omega, by rw [hl9]; omega, by rw [hl9]; omega, by rw [hl9]; omega, Or.inl rfl⟩
  · have hln : n = ps.length := iN_inj (by omega) (by omega) (xne_f h9)
    refine At.go (q := xm148) rfl 1 (pc' := 13) (L' := [(0, .ref q), (1, .int v)]) (st' := [.ref q]) rfl ?_
    refine At.gf rfl (by decide) hq rfl ?_
    refine At.ln rfl hpa ?_
    refine At.go (q := xm148) rfl 4 (pc' := 21) (L' := [(0, .ref q), (1, .int v)]) (st' := [.int (((Int32.ofNat (ps.map Value.int).length) * 2) + 1)]) rfl ?_
    rw [List.length_map, show Int32.ofNat ps.length * 2 + 1 = Int32.ofNat (ps.length * 2 + 1) from by rw [Int32.ofNat_add, Int32.ofNat_mul]; rfl]
    refine At.na (t := 18) rfl (iN_nn (by omega)) (by rw [iN_tn (by omega)]; omega) (by decide) ?_
    rw [iN_tn (by omega)]
    obtain ⟨h1, eh1⟩ : ∃ h, h = hp ++ [.inl (18, List.replicate (ps.length * 2 + 1) (.int 0))] := ⟨_, rfl⟩
    refine At.hpe eh1 ?_
    have f1 : FrX (fun _ => False) hp h1 := by rw [eh1]; exact FrX.nw (fun a n e h => by cases h)
    have hq1 := f1.ob hq (by decide) (fun h => h)
    have hpa1 := f1.2.2.1 _ _ hpa rfl (Or.inl (fun h => h))
    have hna1 : h1[hp.length]? = some (.inl (18, List.replicate (ps.length * 2 + 1) (.int 0))) := by rw [eh1]; exact List.getElem?_concat_length
    refine At.go (q := xm148) rfl 2 (pc' := 25) (L' := [(2, .ref hp.length), (0, .ref q), (1, .int v)]) (st' := [.ref q]) rfl ?_
    refine At.gf rfl (by decide) hq1 rfl ?_
    refine At.go (q := xm148) rfl 4 (pc' := 32) (L' := [(2, .ref hp.length), (0, .ref q), (1, .int v)]) (st' := [.ref q, .int 0, .ref hp.length, .int 0, .ref pa]) rfl ?_
    refine At.gf rfl (by decide) hq1 rfl ?_
    refine At.ln rfl hpa1 ?_
    rw [List.length_map]
    refine At.cpi (sp := 0) (dp := 0) (n := ps.length) rfl (by decide) hpa1 hna1 (by decide) (by decide) rfl rfl (by rw [List.length_map]; omega) (by rw [List.length_replicate]; omega) (by rw [List.length_map]; omega) (by rw [List.length_replicate]; omega) (by decide) ?_
    have ecp : xcpl (ps.map Value.int) (List.replicate (ps.length * 2 + 1) (.int 0)) 0 0 ps.length = (ps ++ List.replicate (ps.length + 1) 0).map Value.int := by
      unfold xcpl
      rw [List.take_zero, List.nil_append, List.drop_zero, List.take_of_length_le (by rw [List.length_map]; exact Nat.le_refl _), Nat.zero_add, List.drop_replicate, List.map_append, List.map_replicate, show ps.length * 2 + 1 - ps.length = ps.length + 1 by omega]
    rw [ecp]
    obtain ⟨h2, eh2⟩ : ∃ h, h = h1.set hp.length (.inl (18, (ps ++ List.replicate (ps.length + 1) 0).map Value.int)) := ⟨_, rfl⟩
    refine At.hpe eh2 ?_
    have f2 : FrX (fun x => x = hp.length) h1 h2 := by rw [eh2]; exact FrX.st hna1 rfl rfl rfl rfl (fun fs h => by cases h) (fun ci fs h => by cases h)
    have hq2 := f2.ob hq1 (by decide) (fun e => xn_ra hq1 hna1 e)
    have hna2 : h2[hp.length]? = some (.inl (18, (ps ++ List.replicate (ps.length + 1) 0).map Value.int)) := by rw [eh2]; exact xs_eq hna1
    refine At.go (q := xm148) rfl 2 (pc' := 41) (L' := [(2, .ref hp.length), (0, .ref q), (1, .int v)]) (st' := [.ref hp.length, .ref q]) rfl ?_
    refine At.pf rfl hq2 (Nat.le_of_ble_eq_true rfl) rfl ?_
    obtain ⟨h3, eh3⟩ : ∃ h, h = h2.set q (.inr (7, [.ref st, .ref mn, .ref l1, .ref l2, .ref hp.length, .int (Int32.ofNat n), .ref li, .int kp, .int off, .int so, .int dn, .ref ln, .int lc, .int wd])) := ⟨_, rfl⟩
    refine At.hpe eh3 ?_
    have f3 : FrX (fun x => x = q) h2 h3 := by rw [eh3]; exact FrX.so hq2 (by decide) rfl (by decide)
    have hq3 : h3[q]? = some (.inr (7, [.ref st, .ref mn, .ref l1, .ref l2, .ref hp.length, .int (Int32.ofNat n), .ref li, .int kp, .int off, .int so, .int dn, .ref ln, .int lc, .int wd])) := by rw [eh3]; exact xs_eq hq2
    have hna3 := f3.2.2.1 _ _ hna2 rfl (Or.inl (fun e => xn_ar hna2 hq2 e))
    have hlen3 : (ps ++ List.replicate (ps.length + 1) (0 : Int32)).length = 2 * ps.length + 1 := by rw [List.length_append, List.length_replicate]; omega
    have f03 : FrX (fun x => x = q ∨ x = pa) hp h3 := FrX.tr (FrX.tr (f1.mono (fun x _ h => h.elim)) f2 (fun x h => Or.inr (by rw [h]; exact Nat.le_refl _))) f3 (fun x h => Or.inl (Or.inl h))
    refine At.go (q := xm148) rfl 1 (pc' := 45) (L' := [(2, .ref hp.length), (0, .ref q), (1, .int v)]) (st' := [.ref q]) rfl ?_
    refine At.gf rfl (by decide) hq3 rfl ?_
    refine At.ic1 (tgt := 83) rfl rfl (fun h => absurd (h.symm.trans (decide_eq_false (iN_nn (by omega)))) (by decide)) (fun _ => ?_)
    refine At.go (q := xm148) rfl 1 (pc' := 52) (L' := [(2, .ref hp.length), (0, .ref q), (1, .int v)]) (st' := [.ref q]) rfl ?_
    refine At.gf rfl (by decide) hq3 rfl ?_
    refine At.go (q := xm148) rfl 1 (pc' := 56) (L' := [(2, .ref hp.length), (0, .ref q), (1, .int v)]) (st' := [.ref q, .int (Int32.ofNat n)]) rfl ?_
    refine At.gf rfl (by decide) hq3 rfl ?_
    refine At.ln rfl hna3 ?_
    refine At.ic2 (tgt := 83) rfl rfl (fun h => absurd (h.symm.trans (decide_eq_false (fun h => absurd ((iN_le (a := (ps ++ List.replicate (ps.length + 1) 0).length) (b := n) (by omega) (by omega)).mp (by rw [List.length_map] at h; exact h)) (by omega)))) (by decide)) (fun _ => ?_)
    refine At.go (q := xm148) rfl 1 (pc' := 64) (L' := [(2, .ref hp.length), (0, .ref q), (1, .int v)]) (st' := [.ref q]) rfl ?_
    refine At.gf rfl (by decide) hq3 rfl ?_
    refine At.go (q := xm148) rfl 1 (pc' := 68) (L' := [(2, .ref hp.length), (0, .ref q), (1, .int v)]) (st' := [.ref q, .ref hp.length]) rfl ?_
    refine At.gf rfl (by decide) hq3 rfl ?_
    refine At.go (q := xm148) rfl 1 (pc' := 72) (L' := [(2, .ref hp.length), (0, .ref q), (1, .int v)]) (st' := [.int v, .int (Int32.ofNat n), .ref hp.length]) rfl ?_
    refine At.as (j := Int32.ofNat n) rfl hna3 (by decide) rfl (iN_nn (by omega)) (by rw [iN_tn (by omega), List.length_map]; omega) ?_
    rw [iN_tn (by omega)]
    obtain ⟨h8, eh8⟩ : ∃ h, h = h3.set hp.length (.inl (18, ((ps ++ List.replicate (ps.length + 1) 0).map Value.int).set n (.int v))) := ⟨_, rfl⟩
    refine At.hpe eh8 ?_
    have f8 : FrX (fun x => x = hp.length) h3 h8 := by rw [eh8]; exact FrX.st hna3 rfl rfl rfl rfl (fun fs h => by cases h) (fun ci fs h => by cases h)
    have hq8 : h8[q]? = some (.inr (7, [.ref st, .ref mn, .ref l1, .ref l2, .ref hp.length, .int (Int32.ofNat n), .ref li, .int kp, .int off, .int so, .int dn, .ref ln, .int lc, .int wd])) := f8.ob hq3 (by decide) (fun e => xn_ra hq3 hna3 e)
    have hpa8 : h8[hp.length]? = some (.inl (18, ((ps ++ List.replicate (ps.length + 1) 0).set n v).map Value.int)) := by rw [eh8, List.map_set]; exact xs_eq hna3
    refine At.go (q := xm148) rfl 2 (pc' := 75) (L' := [(2, .ref hp.length), (0, .ref q), (1, .int v)]) (st' := [.ref q, .ref q]) rfl ?_
    refine At.gf rfl (by decide) hq8 rfl ?_
    refine At.go (q := xm148) rfl 2 (pc' := 80) (L' := [(2, .ref hp.length), (0, .ref q), (1, .int v)]) (st' := [.int ((Int32.ofNat n) + 1), .ref q]) rfl ?_
    refine At.pf rfl hq8 (Nat.le_of_ble_eq_true rfl) xfit_i ?_
    rw [iN_s]
    obtain ⟨hz, ehz⟩ : ∃ h, h = h8.set q (.inr (7, [.ref st, .ref mn, .ref l1, .ref l2, .ref hp.length, .int (Int32.ofNat (n + 1)), .ref li, .int kp, .int off, .int so, .int dn, .ref ln, .int lc, .int wd])) := ⟨_, rfl⟩
    refine At.hpe ehz ?_
    have f9 : FrX (fun x => x = q) h8 hz := by rw [ehz]; exact FrX.so hq8 (by decide) rfl (by decide)
    have hqz : hz[q]? = some (.inr (7, [.ref st, .ref mn, .ref l1, .ref l2, .ref hp.length, .int (Int32.ofNat (n + 1)), .ref li, .int kp, .int off, .int so, .int dn, .ref ln, .int lc, .int wd])) := by rw [ehz]; exact xs_eq hq8
    have hpa9 := f9.2.2.1 _ _ hpa8 rfl (Or.inl (fun e => xn_ar hpa8 hq8 e))
    have hl9 : ((ps ++ List.replicate (ps.length + 1) 0).set n v).length = (ps ++ List.replicate (ps.length + 1) 0).length := List.length_set
    exact At.rt rfl rfl ⟨_, _, _, _, rfl, rfl, hp.length, (ps ++ List.replicate (ps.length + 1) 0).set n v, FrX.tr (FrX.tr f03 f8 (fun x h => Or.inr (by rw [h]; exact Nat.le_refl _))) f9 (fun x h => Or.inl (Or.inl h)), hqz, hpa9, stk_push (by rw [hln, List.take_left, List.take_length]) (by omega), by rw [List.length_singleton, hl9]; omega, by rw [List.length_singleton, hl9]; omega, by rw [hl9]; omega, by rw [hl9]; omega, by rw [hl9]; omega, Or.inr (Nat.le_refl _)⟩
