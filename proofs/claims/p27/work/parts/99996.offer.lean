/-! queries: a line is put among those that are kept (written by wip/p27/c99996.py) -/
theorem i_min {a b : Nat} (ha : a < 2 ^ 31) (hb : b < 2 ^ 31) : (if Int32.ofNat a < Int32.ofNat b then Int32.ofNat a else Int32.ofNat b) = Int32.ofNat (min a b) := by
  by_cases h : a < b
  · rw [if_pos ((iN_lt ha hb).mpr h), Nat.min_eq_left (by omega)]
  · rw [if_neg (fun q => h ((iN_lt ha hb).mp q)), Nat.min_eq_right (by omega)]
/-- what stands in the kept lines behind an insertion -/
def InsR (lb lb' la : List Int32) (P w n : Nat) : Prop := n ≤ lb'.length ∧ ∀ i, i < n → lb'[i]? = if i < P * w then lb[i]? else if i < P * w + w then la[i - P * w]? else lb[i - w]?
/-- a copy between lists of numbers -/
def xcpl9 (e0 e1 : List Int32) (sp dp n : Nat) : List Int32 := e1.take dp ++ ((e0.drop sp).take n ++ e1.drop (dp + n))
theorem xcpl9_m {e0 e1 : List Int32} {sp dp n : Nat} : xcpl (e0.map Value.int) (e1.map Value.int) sp dp n = (xcpl9 e0 e1 sp dp n).map Value.int := by
  unfold xcpl xcpl9
  rw [List.map_append, List.map_append, List.map_take, List.map_take, List.map_drop, List.map_drop]
theorem xcpl9_at {e0 e1 : List Int32} {sp dp n i : Nat} (h0 : sp + n ≤ e0.length) (h1 : dp + n ≤ e1.length) : (xcpl9 e0 e1 sp dp n)[i]? = if i < dp then e1[i]? else if i < dp + n then e0[sp + (i - dp)]? else e1[i]? := by
  unfold xcpl9
  by_cases a : i < dp
  · rw [if_pos a, List.getElem?_append_left (by rw [List.length_take]; omega), List.getElem?_take, if_pos a]
  · rw [if_neg a, List.getElem?_append_right (by rw [List.length_take]; omega), List.length_take, Nat.min_eq_left (by omega)]
    by_cases b : i < dp + n
    · rw [if_pos b, List.getElem?_append_left (by rw [List.length_take, List.length_drop]; omega), List.getElem?_take, if_pos (by omega), List.getElem?_drop]
    · rw [if_neg b, List.getElem?_append_right (by rw [List.length_take, List.length_drop]; omega), List.length_take, List.length_drop, Nat.min_eq_left (by omega), List.getElem?_drop]
      congr 1
      omega
theorem ins_ok {lb la : List Int32} {P w n v : Nat} (hla : w ≤ la.length) (hn : n ≤ lb.length) (hv : P * w + w + v = n) : InsR lb (xcpl9 la (xcpl9 lb lb (P * w) (P * w + w) v) 0 (P * w) w) la P w n := by
  have hl1 : (xcpl9 lb lb (P * w) (P * w + w) v).length = lb.length := by
    unfold xcpl9
    rw [List.length_append, List.length_append, List.length_take, List.length_take, List.length_drop, List.length_drop]
    omega
  have hl2 : (xcpl9 la (xcpl9 lb lb (P * w) (P * w + w) v) 0 (P * w) w).length = lb.length := by
    unfold xcpl9 at hl1 ⊢
    rw [List.length_append, List.length_append, List.length_take, List.length_take, List.length_drop, List.length_drop, hl1]
    omega
  refine ⟨by omega, fun i hi => ?_⟩
  have g2 : (xcpl9 la (xcpl9 lb lb (P * w) (P * w + w) v) 0 (P * w) w)[i]? = if i < P * w then (xcpl9 lb lb (P * w) (P * w + w) v)[i]? else if i < P * w + w then la[i - P * w]? else (xcpl9 lb lb (P * w) (P * w + w) v)[i]? := by
    rw [xcpl9_at (by omega) (by omega), Nat.zero_add]
  rw [g2]
  by_cases h1 : i < P * w
  · rw [if_pos h1, if_pos h1, xcpl9_at (by omega) (by omega), if_pos (by omega)]
  · rw [if_neg h1, if_neg h1]
    by_cases h2 : i < P * w + w
    · rw [if_pos h2, if_pos h2]
    · rw [if_neg h2, if_neg h2, xcpl9_at (by omega) (by omega), if_neg (by omega), if_pos (by omega)]
      congr 1
      omega
theorem offer_ins {S : List Int32} {hp : List XC} {q st mn l1 l2 pa li ln kp w m : Nat} {pn off so dn : Int32} {la lb : List Int32} {P nc ns : Nat} {Q : XO → Prop} (hq : hp[q]? = some (.inr (7, [.ref st, .ref mn, .ref l1, .ref l2, .ref pa, .int pn, .ref li, .int (Int32.ofNat kp), .int off, .int so, .int dn, .ref ln, .int (Int32.ofNat m), .int (Int32.ofNat w)]))) (hli : hp[li]? = some (.inl (19, la.map Value.int))) (hln : hp[ln]? = some (.inl (20, lb.map Value.int))) (hla : w ≤ la.length) (hla2 : la.length ≤ 1000) (hlb : lb.length ≤ 18000) (hP : P < m) (hmw : m * w ≤ 18000) (hold : (m - 1) * w ≤ lb.length) (hK : ∀ (hp' : List XC) (ln' : Nat) (lb' : List Int32) (c s : Nat), FrX (fun x => x = q ∨ x = ln) hp hp' → hp'[q]? = some (.inr (7, [.ref st, .ref mn, .ref l1, .ref l2, .ref pa, .int pn, .ref li, .int (Int32.ofNat kp), .int off, .int so, .int dn, .ref ln', .int (Int32.ofNat m), .int (Int32.ofNat w)])) → hp'[ln']? = some (.inl (20, lb'.map Value.int)) → InsR lb lb' la P w (m * w) → (ln' = ln ∨ hp.length ≤ ln') → ((c = 0 ∧ s = 0 ∧ lb'.length = lb.length) ∨ (c = 1 ∧ s = lb'.length ∧ lb.length < m * w ∧ m * w ≤ lb'.length ∧ lb'.length ≤ 2 * (m * w) ∧ lb'.length ≤ 18000)) → Q (.inl (none, hp', nc + c, ns + s))) : At S 2 157 65 [(1, .int (Int32.ofNat P)), (0, .ref q)] [] hp nc ns Q := by
  have hPm : P * w + w ≤ m * w := by
    have h1 : (P + 1) * w ≤ m * w := Nat.mul_le_mul_right _ hP
    rw [Nat.succ_mul] at h1
    exact h1
  have hm1 : (m - 1) * w + w = m * w := by
    rw [← Nat.succ_mul, show (m - 1).succ = m by omega]
  refine At.go (q := xm157) rfl 1 (pc' := 66) (L' := [(1, .int (Int32.ofNat P)), (0, .ref q)]) (st' := [.ref q]) rfl ?_
  refine At.gf rfl (by decide) hq rfl ?_
  refine At.go (q := xm157) rfl 1 (pc' := 70) (L' := [(1, .int (Int32.ofNat P)), (0, .ref q)]) (st' := [.ref q, .int (Int32.ofNat m)]) rfl ?_
  refine At.gf rfl (by decide) hq rfl ?_
  refine At.go (q := xm157) rfl 1 (pc' := 74) (L' := [(1, .int (Int32.ofNat P)), (0, .ref q)]) (st' := [.int ((Int32.ofNat m) * (Int32.ofNat w))]) rfl ?_
  rw [show Int32.ofNat m * Int32.ofNat w = Int32.ofNat (m * w) from (Int32.ofNat_mul _ _).symm]
  refine At.go (q := xm157) rfl 3 (pc' := 77) (L' := [(2, .int (Int32.ofNat (m * w))), (1, .int (Int32.ofNat P)), (0, .ref q)]) (st' := [.ref q, .int (Int32.ofNat (m * w))]) rfl ?_
  refine At.gf rfl (by decide) hq rfl ?_
  refine At.ln rfl hln ?_
  rw [List.length_map]
  refine At.ic2 (tgt := 121) rfl rfl (fun h81 => ?_) (fun h81 => ?_)
  · have hfit : m * w ≤ lb.length := (iN_le (by omega) (by omega)).mp (of_decide_eq_true h81)
    refine At.go (q := xm157) rfl 2 (pc' := 123) (L' := [(2, .int (Int32.ofNat (m * w))), (1, .int (Int32.ofNat P)), (0, .ref q)]) (st' := [.ref q, .int (Int32.ofNat P)]) rfl ?_
    refine At.gf rfl (by decide) hq rfl ?_
    refine At.go (q := xm157) rfl 1 (pc' := 127) (L' := [(2, .int (Int32.ofNat (m * w))), (1, .int (Int32.ofNat P)), (0, .ref q)]) (st' := [.int ((Int32.ofNat P) * (Int32.ofNat w))]) rfl ?_
    rw [show Int32.ofNat P * Int32.ofNat w = Int32.ofNat (P * w) from (Int32.ofNat_mul _ _).symm]
    refine At.go (q := xm157) rfl 5 (pc' := 132) (L' := [(3, .int (Int32.ofNat (P * w))), (2, .int (Int32.ofNat (m * w))), (1, .int (Int32.ofNat P)), (0, .ref q)]) (st' := [.ref q, .int ((Int32.ofNat (m * w)) - (Int32.ofNat (P * w)))]) rfl ?_
    refine At.gf rfl (by decide) hq rfl ?_
    refine At.go (q := xm157) rfl 1 (pc' := 136) (L' := [(3, .int (Int32.ofNat (P * w))), (2, .int (Int32.ofNat (m * w))), (1, .int (Int32.ofNat P)), (0, .ref q)]) (st' := [.int (((Int32.ofNat (m * w)) - (Int32.ofNat (P * w))) - (Int32.ofNat w))]) rfl ?_
    rw [show Int32.ofNat (m * w) - Int32.ofNat (P * w) - Int32.ofNat w = Int32.ofNat (m * w - P * w - w) from by rw [iN_sub (by omega), iN_sub (by omega)]]
    refine At.go (q := xm157) rfl 2 (pc' := 139) (L' := [(4, .int (Int32.ofNat (m * w - P * w - w))), (3, .int (Int32.ofNat (P * w))), (2, .int (Int32.ofNat (m * w))), (1, .int (Int32.ofNat P)), (0, .ref q)]) (st' := [.int (Int32.ofNat (P * w))]) rfl ?_
    refine At.ic1 (tgt := 193) rfl rfl (fun h => absurd (h.symm.trans (decide_eq_false (iN_nn (by omega)))) (by decide)) (fun _ => ?_)
    refine At.go (q := xm157) rfl 1 (pc' := 144) (L' := [(4, .int (Int32.ofNat (m * w - P * w - w))), (3, .int (Int32.ofNat (P * w))), (2, .int (Int32.ofNat (m * w))), (1, .int (Int32.ofNat P)), (0, .ref q)]) (st' := [.int (Int32.ofNat (m * w - P * w - w))]) rfl ?_
    refine At.ic1 (tgt := 193) rfl rfl (fun h => absurd (h.symm.trans (decide_eq_false (iN_nn (by omega)))) (by decide)) (fun _ => ?_)
    refine At.go (q := xm157) rfl 2 (pc' := 149) (L' := [(4, .int (Int32.ofNat (m * w - P * w - w))), (3, .int (Int32.ofNat (P * w))), (2, .int (Int32.ofNat (m * w))), (1, .int (Int32.ofNat P)), (0, .ref q)]) (st' := [.ref q, .int (Int32.ofNat (m * w))]) rfl ?_
    refine At.gf rfl (by decide) hq rfl ?_
    refine At.ln rfl hln ?_
    rw [List.length_map]
    refine At.ic2 (tgt := 193) rfl rfl (fun h => absurd (of_decide_eq_true h) (fun h => absurd ((iN_lt (a := lb.length) (b := m * w) (by omega) (by omega)).mp h) (by omega))) (fun _ => ?_)
    refine At.go (q := xm157) rfl 1 (pc' := 157) (L' := [(4, .int (Int32.ofNat (m * w - P * w - w))), (3, .int (Int32.ofNat (P * w))), (2, .int (Int32.ofNat (m * w))), (1, .int (Int32.ofNat P)), (0, .ref q)]) (st' := [.ref q]) rfl ?_
    refine At.gf rfl (by decide) hq rfl ?_
    refine At.go (q := xm157) rfl 2 (pc' := 162) (L' := [(4, .int (Int32.ofNat (m * w - P * w - w))), (3, .int (Int32.ofNat (P * w))), (2, .int (Int32.ofNat (m * w))), (1, .int (Int32.ofNat P)), (0, .ref q)]) (st' := [.ref q, .int (Int32.ofNat (P * w)), .ref ln]) rfl ?_
    refine At.gf rfl (by decide) hq rfl ?_
    refine At.go (q := xm157) rfl 2 (pc' := 167) (L' := [(4, .int (Int32.ofNat (m * w - P * w - w))), (3, .int (Int32.ofNat (P * w))), (2, .int (Int32.ofNat (m * w))), (1, .int (Int32.ofNat P)), (0, .ref q)]) (st' := [.ref q, .int (Int32.ofNat (P * w)), .ref ln, .int (Int32.ofNat (P * w)), .ref ln]) rfl ?_
    refine At.gf rfl (by decide) hq rfl ?_
    refine At.go (q := xm157) rfl 2 (pc' := 173) (L' := [(4, .int (Int32.ofNat (m * w - P * w - w))), (3, .int (Int32.ofNat (P * w))), (2, .int (Int32.ofNat (m * w))), (1, .int (Int32.ofNat P)), (0, .ref q)]) (st' := [.int (Int32.ofNat (m * w - P * w - w)), .int ((Int32.ofNat (P * w)) + (Int32.ofNat w)), .ref ln, .int (Int32.ofNat (P * w)), .ref ln]) rfl ?_
    rw [show Int32.ofNat (P * w) + Int32.ofNat w = Int32.ofNat (P * w + w) from (Int32.ofNat_add _ _).symm]
    refine At.cpi (sp := P * w) (dp := P * w + w) (n := m * w - P * w - w) rfl (by decide) hln hln (by decide) (by decide) rfl rfl (by rw [List.length_map]; omega) (by rw [List.length_map]; omega) (by rw [List.length_map]; omega) (by rw [List.length_map]; omega) (by decide) ?_
    rw [xcpl9_m]
    obtain ⟨k1, ek1⟩ : ∃ h, h = hp.set ln (.inl (20, (xcpl9 lb lb (P * w) (P * w + w) (m * w - P * w - w)).map Value.int)) := ⟨_, rfl⟩
    refine At.hpe ek1 ?_
    have g1 : FrX (fun x => x = ln) hp k1 := by rw [ek1]; exact FrX.st hln rfl rfl rfl rfl (fun fs h => by cases h) (fun ci fs h => by cases h)
    have kq1 := g1.ob hq (by decide) (fun e => xn_ra hq hln e)
    have kli1 := g1.2.2.1 _ _ hli rfl (Or.inl (fun e => xn_kd hli hln (by decide) e))
    have kln1 : k1[ln]? = some (.inl (20, (xcpl9 lb lb (P * w) (P * w + w) (m * w - P * w - w)).map Value.int)) := by rw [ek1]; exact xs_eq hln
    have kl1 : (xcpl9 lb lb (P * w) (P * w + w) (m * w - P * w - w)).length = lb.length := by
      unfold xcpl9
      rw [List.length_append, List.length_append, List.length_take, List.length_take, List.length_drop, List.length_drop]
      omega
    refine At.go (q := xm157) rfl 1 (pc' := 177) (L' := [(4, .int (Int32.ofNat (m * w - P * w - w))), (3, .int (Int32.ofNat (P * w))), (2, .int (Int32.ofNat (m * w))), (1, .int (Int32.ofNat P)), (0, .ref q)]) (st' := [.ref q]) rfl ?_
    refine At.gf rfl (by decide) kq1 rfl ?_
    refine At.go (q := xm157) rfl 2 (pc' := 182) (L' := [(4, .int (Int32.ofNat (m * w - P * w - w))), (3, .int (Int32.ofNat (P * w))), (2, .int (Int32.ofNat (m * w))), (1, .int (Int32.ofNat P)), (0, .ref q)]) (st' := [.ref q, .int 0, .ref li]) rfl ?_
    refine At.gf rfl (by decide) kq1 rfl ?_
    refine At.go (q := xm157) rfl 2 (pc' := 187) (L' := [(4, .int (Int32.ofNat (m * w - P * w - w))), (3, .int (Int32.ofNat (P * w))), (2, .int (Int32.ofNat (m * w))), (1, .int (Int32.ofNat P)), (0, .ref q)]) (st' := [.ref q, .int (Int32.ofNat (P * w)), .ref ln, .int 0, .ref li]) rfl ?_
    refine At.gf rfl (by decide) kq1 rfl ?_
    refine At.cpi (sp := 0) (dp := P * w) (n := w) rfl (by decide) kli1 kln1 (by decide) (by decide) rfl rfl (by rw [List.length_map]; omega) (by rw [List.length_map, kl1]; omega) (by rw [List.length_map]; omega) (by rw [List.length_map, kl1]; omega) (by decide) ?_
    rw [xcpl9_m]
    obtain ⟨k2, ek2⟩ : ∃ h, h = k1.set ln (.inl (20, (xcpl9 la (xcpl9 lb lb (P * w) (P * w + w) (m * w - P * w - w)) 0 (P * w) w).map Value.int)) := ⟨_, rfl⟩
    refine At.hpe ek2 ?_
    have g2 : FrX (fun x => x = ln) k1 k2 := by rw [ek2]; exact FrX.st kln1 rfl rfl rfl rfl (fun fs h => by cases h) (fun ci fs h => by cases h)
    have kq2 := g2.ob kq1 (by decide) (fun e => xn_ra kq1 kln1 e)
    have kln2 : k2[ln]? = some (.inl (20, (xcpl9 la (xcpl9 lb lb (P * w) (P * w + w) (m * w - P * w - w)) 0 (P * w) w).map Value.int)) := by rw [ek2]; exact xs_eq kln1
    have kl2 : (xcpl9 la (xcpl9 lb lb (P * w) (P * w + w) (m * w - P * w - w)) 0 (P * w) w).length = lb.length := by
      unfold xcpl9 at kl1 ⊢
      rw [List.length_append, List.length_append, List.length_take, List.length_take, List.length_drop, List.length_drop, kl1]
      omega
    obtain ⟨lr, hr⟩ : ∃ z, z = xcpl9 la (xcpl9 lb lb (P * w) (P * w + w) (m * w - P * w - w)) 0 (P * w) w := ⟨_, rfl⟩
    rw [← hr] at kln2 kl2
    have hins : InsR lb lr la P w (m * w) := by rw [hr]; exact ins_ok (v := m * w - P * w - w) hla (by omega) (by omega)
    exact At.rt rfl rfl (hK k2 ln lr 0 0 (FrX.tr (g1.mono (fun x _ h => Or.inr h)) g2 (fun x h => Or.inl (Or.inr h))) kq2 kln2 hins (Or.inl rfl) (Or.inl ⟨rfl, rfl, kl2⟩))
  · have hfit : lb.length < m * w := Nat.lt_of_not_le (fun h => of_decide_eq_false h81 ((iN_le (by omega) (by omega)).mpr h))
    refine At.go (q := xm157) rfl 4 (pc' := 90) (L' := [(2, .int (Int32.ofNat (m * w))), (1, .int (Int32.ofNat P)), (0, .ref q)]) (st' := [.int 18000, .int ((Int32.ofNat (m * w)) * 2)]) rfl ?_
    refine At.sp rfl (by decide) (g := ([.int (if 18000 < ((Int32.ofNat (m * w)) * 2) then 18000 else ((Int32.ofNat (m * w)) * 2))], hp)) rfl ?_
    rw [show Int32.ofNat (m * w) * 2 = Int32.ofNat (m * w * 2) from (Int32.ofNat_mul (m * w) 2).symm, show (18000 : Int32) = Int32.ofNat 18000 from rfl, i_min (by omega) (by omega)]
    obtain ⟨M, hM⟩ : ∃ M, M = min 18000 (m * w * 2) := ⟨_, rfl⟩
    rw [← hM]
    have hM1 : m * w ≤ M := by omega
    have hM2 : M ≤ 18000 := by omega
    have hM3 : M ≤ 2 * (m * w) := by omega
    refine At.na (t := 20) rfl (iN_nn (by omega)) (by rw [iN_tn (by omega)]; omega) (by decide) ?_
    rw [iN_tn (by omega)]
    obtain ⟨h1, eh1⟩ : ∃ h, h = hp ++ [.inl (20, List.replicate M (.int 0))] := ⟨_, rfl⟩
    refine At.hpe eh1 ?_
    have f1 : FrX (fun _ => False) hp h1 := by rw [eh1]; exact FrX.nw (fun a n e h => by cases h)
    have hq1 := f1.ob hq (by decide) (fun h => h)
    have hli1 := f1.2.2.1 _ _ hli rfl (Or.inl (fun h => h))
    have hln1 := f1.2.2.1 _ _ hln rfl (Or.inl (fun h => h))
    have hna1 : h1[hp.length]? = some (.inl (20, (List.replicate M (0 : Int32)).map Value.int)) := by rw [eh1, List.map_replicate]; exact List.getElem?_concat_length
    refine At.go (q := xm157) rfl 2 (pc' := 97) (L' := [(3, .ref hp.length), (2, .int (Int32.ofNat (m * w))), (1, .int (Int32.ofNat P)), (0, .ref q)]) (st' := [.ref q]) rfl ?_
    refine At.gf rfl (by decide) hq1 rfl ?_
    refine At.go (q := xm157) rfl 4 (pc' := 104) (L' := [(3, .ref hp.length), (2, .int (Int32.ofNat (m * w))), (1, .int (Int32.ofNat P)), (0, .ref q)]) (st' := [.ref q, .int 0, .ref hp.length, .int 0, .ref ln]) rfl ?_
    refine At.gf rfl (by decide) hq1 rfl ?_
    refine At.ln rfl hln1 ?_
    refine At.go (q := xm157) rfl 1 (pc' := 109) (L' := [(3, .ref hp.length), (2, .int (Int32.ofNat (m * w))), (1, .int (Int32.ofNat P)), (0, .ref q)]) (st' := [.ref hp.length, .int (Int32.ofNat (lb.map Value.int).length), .int 0, .ref hp.length, .int 0, .ref ln]) rfl ?_
    refine At.ln rfl hna1 ?_
    refine At.sp rfl (by decide) (g := ([.int (if (Int32.ofNat ((List.replicate M (0 : Int32)).map Value.int).length) < (Int32.ofNat (lb.map Value.int).length) then (Int32.ofNat ((List.replicate M (0 : Int32)).map Value.int).length) else (Int32.ofNat (lb.map Value.int).length)), .int 0, .ref hp.length, .int 0, .ref ln], h1)) rfl ?_
    rw [List.length_map, List.length_map, List.length_replicate, i_min (by omega) (by omega), Nat.min_eq_right (by omega)]
    refine At.cpi (sp := 0) (dp := 0) (n := lb.length) rfl (by decide) hln1 hna1 (by decide) (by decide) rfl rfl (by rw [List.length_map]; omega) (by rw [List.length_map, List.length_replicate]; omega) (by rw [List.length_map]; omega) (by rw [List.length_map, List.length_replicate]; omega) (by decide) ?_
    have ecp : xcpl9 lb (List.replicate M 0) 0 0 lb.length = lb ++ List.replicate (M - lb.length) 0 := by
      unfold xcpl9
      rw [List.take_zero, List.nil_append, List.drop_zero, List.take_length, Nat.zero_add, List.drop_replicate]
    rw [xcpl9_m, ecp]
    obtain ⟨h2, eh2⟩ : ∃ h, h = h1.set hp.length (.inl (20, (lb ++ List.replicate (M - lb.length) 0).map Value.int)) := ⟨_, rfl⟩
    refine At.hpe eh2 ?_
    have f2 : FrX (fun x => x = hp.length) h1 h2 := by rw [eh2]; exact FrX.st hna1 rfl rfl rfl rfl (fun fs h => by cases h) (fun ci fs h => by cases h)
    have hq2 := f2.ob hq1 (by decide) (fun e => xn_ra hq1 hna1 e)
    have hli2 := f2.2.2.1 _ _ hli1 rfl (Or.inl (fun e => xn_kd hli1 hna1 (by decide) e))
    have hna2 : h2[hp.length]? = some (.inl (20, (lb ++ List.replicate (M - lb.length) 0).map Value.int)) := by rw [eh2]; exact xs_eq hna1
    refine At.go (q := xm157) rfl 2 (pc' := 118) (L' := [(3, .ref hp.length), (2, .int (Int32.ofNat (m * w))), (1, .int (Int32.ofNat P)), (0, .ref q)]) (st' := [.ref hp.length, .ref q]) rfl ?_
    refine At.pf rfl hq2 (Nat.le_of_ble_eq_true rfl) rfl ?_
    obtain ⟨h3, eh3⟩ : ∃ h, h = h2.set q (.inr (7, [.ref st, .ref mn, .ref l1, .ref l2, .ref pa, .int pn, .ref li, .int (Int32.ofNat kp), .int off, .int so, .int dn, .ref hp.length, .int (Int32.ofNat m), .int (Int32.ofNat w)])) := ⟨_, rfl⟩
    refine At.hpe eh3 ?_
    have f3 : FrX (fun x => x = q) h2 h3 := by rw [eh3]; exact FrX.so hq2 (by decide) rfl (by decide)
    have hq3 : h3[q]? = some (.inr (7, [.ref st, .ref mn, .ref l1, .ref l2, .ref pa, .int pn, .ref li, .int (Int32.ofNat kp), .int off, .int so, .int dn, .ref hp.length, .int (Int32.ofNat m), .int (Int32.ofNat w)])) := by rw [eh3]; exact xs_eq hq2
    have hli3 := f3.2.2.1 _ _ hli2 rfl (Or.inl (fun e => xn_ar hli2 hq2 e))
    have hna3 := f3.2.2.1 _ _ hna2 rfl (Or.inl (fun e => xn_ar hna2 hq2 e))
    have hlM : (lb ++ List.replicate (M - lb.length) (0 : Int32)).length = M := by rw [List.length_append, List.length_replicate]; omega
    have f03 : FrX (fun x => x = q ∨ x = ln) hp h3 := FrX.tr (FrX.tr (f1.mono (fun x _ h => h.elim)) f2 (fun x h => Or.inr (by rw [h]; exact Nat.le_refl _))) f3 (fun x h => Or.inl (Or.inl h))
    obtain ⟨lz, hz⟩ : ∃ z, z = lb ++ List.replicate (M - lb.length) (0 : Int32) := ⟨_, rfl⟩
    rw [← hz] at hna3 hlM
    have hzj : ∀ j, j < lb.length → lz[j]? = lb[j]? := fun j hj => by rw [hz, List.getElem?_append_left hj]
    refine At.go (q := xm157) rfl 2 (pc' := 123) (L' := [(3, .ref hp.length), (2, .int (Int32.ofNat (m * w))), (1, .int (Int32.ofNat P)), (0, .ref q)]) (st' := [.ref q, .int (Int32.ofNat P)]) rfl ?_
    refine At.gf rfl (by decide) hq3 rfl ?_
    refine At.go (q := xm157) rfl 1 (pc' := 127) (L' := [(3, .ref hp.length), (2, .int (Int32.ofNat (m * w))), (1, .int (Int32.ofNat P)), (0, .ref q)]) (st' := [.int ((Int32.ofNat P) * (Int32.ofNat w))]) rfl ?_
    rw [show Int32.ofNat P * Int32.ofNat w = Int32.ofNat (P * w) from (Int32.ofNat_mul _ _).symm]
    refine At.go (q := xm157) rfl 5 (pc' := 132) (L' := [(3, .int (Int32.ofNat (P * w))), (2, .int (Int32.ofNat (m * w))), (1, .int (Int32.ofNat P)), (0, .ref q)]) (st' := [.ref q, .int ((Int32.ofNat (m * w)) - (Int32.ofNat (P * w)))]) rfl ?_
    refine At.gf rfl (by decide) hq3 rfl ?_
    refine At.go (q := xm157) rfl 1 (pc' := 136) (L' := [(3, .int (Int32.ofNat (P * w))), (2, .int (Int32.ofNat (m * w))), (1, .int (Int32.ofNat P)), (0, .ref q)]) (st' := [.int (((Int32.ofNat (m * w)) - (Int32.ofNat (P * w))) - (Int32.ofNat w))]) rfl ?_
    rw [show Int32.ofNat (m * w) - Int32.ofNat (P * w) - Int32.ofNat w = Int32.ofNat (m * w - P * w - w) from by rw [iN_sub (by omega), iN_sub (by omega)]]
    refine At.go (q := xm157) rfl 2 (pc' := 139) (L' := [(4, .int (Int32.ofNat (m * w - P * w - w))), (3, .int (Int32.ofNat (P * w))), (2, .int (Int32.ofNat (m * w))), (1, .int (Int32.ofNat P)), (0, .ref q)]) (st' := [.int (Int32.ofNat (P * w))]) rfl ?_
    refine At.ic1 (tgt := 193) rfl rfl (fun h => absurd (h.symm.trans (decide_eq_false (iN_nn (by omega)))) (by decide)) (fun _ => ?_)
    refine At.go (q := xm157) rfl 1 (pc' := 144) (L' := [(4, .int (Int32.ofNat (m * w - P * w - w))), (3, .int (Int32.ofNat (P * w))), (2, .int (Int32.ofNat (m * w))), (1, .int (Int32.ofNat P)), (0, .ref q)]) (st' := [.int (Int32.ofNat (m * w - P * w - w))]) rfl ?_
    refine At.ic1 (tgt := 193) rfl rfl (fun h => absurd (h.symm.trans (decide_eq_false (iN_nn (by omega)))) (by decide)) (fun _ => ?_)
    refine At.go (q := xm157) rfl 2 (pc' := 149) (L' := [(4, .int (Int32.ofNat (m * w - P * w - w))), (3, .int (Int32.ofNat (P * w))), (2, .int (Int32.ofNat (m * w))), (1, .int (Int32.ofNat P)), (0, .ref q)]) (st' := [.ref q, .int (Int32.ofNat (m * w))]) rfl ?_
    refine At.gf rfl (by decide) hq3 rfl ?_
    refine At.ln rfl hna3 ?_
    rw [List.length_map]
    refine At.ic2 (tgt := 193) rfl rfl (fun h => absurd (of_decide_eq_true h) (fun h => absurd ((iN_lt (a := lz.length) (b := m * w) (by omega) (by omega)).mp h) (by omega))) (fun _ => ?_)
    refine At.go (q := xm157) rfl 1 (pc' := 157) (L' := [(4, .int (Int32.ofNat (m * w - P * w - w))), (3, .int (Int32.ofNat (P * w))), (2, .int (Int32.ofNat (m * w))), (1, .int (Int32.ofNat P)), (0, .ref q)]) (st' := [.ref q]) rfl ?_
    refine At.gf rfl (by decide) hq3 rfl ?_
    refine At.go (q := xm157) rfl 2 (pc' := 162) (L' := [(4, .int (Int32.ofNat (m * w - P * w - w))), (3, .int (Int32.ofNat (P * w))), (2, .int (Int32.ofNat (m * w))), (1, .int (Int32.ofNat P)), (0, .ref q)]) (st' := [.ref q, .int (Int32.ofNat (P * w)), .ref hp.length]) rfl ?_
    refine At.gf rfl (by decide) hq3 rfl ?_
    refine At.go (q := xm157) rfl 2 (pc' := 167) (L' := [(4, .int (Int32.ofNat (m * w - P * w - w))), (3, .int (Int32.ofNat (P * w))), (2, .int (Int32.ofNat (m * w))), (1, .int (Int32.ofNat P)), (0, .ref q)]) (st' := [.ref q, .int (Int32.ofNat (P * w)), .ref hp.length, .int (Int32.ofNat (P * w)), .ref hp.length]) rfl ?_
    refine At.gf rfl (by decide) hq3 rfl ?_
    refine At.go (q := xm157) rfl 2 (pc' := 173) (L' := [(4, .int (Int32.ofNat (m * w - P * w - w))), (3, .int (Int32.ofNat (P * w))), (2, .int (Int32.ofNat (m * w))), (1, .int (Int32.ofNat P)), (0, .ref q)]) (st' := [.int (Int32.ofNat (m * w - P * w - w)), .int ((Int32.ofNat (P * w)) + (Int32.ofNat w)), .ref hp.length, .int (Int32.ofNat (P * w)), .ref hp.length]) rfl ?_
    rw [show Int32.ofNat (P * w) + Int32.ofNat w = Int32.ofNat (P * w + w) from (Int32.ofNat_add _ _).symm]
    refine At.cpi (sp := P * w) (dp := P * w + w) (n := m * w - P * w - w) rfl (by decide) hna3 hna3 (by decide) (by decide) rfl rfl (by rw [List.length_map]; omega) (by rw [List.length_map]; omega) (by rw [List.length_map]; omega) (by rw [List.length_map]; omega) (by decide) ?_
    rw [xcpl9_m]
    obtain ⟨k1, ek1⟩ : ∃ h, h = h3.set hp.length (.inl (20, (xcpl9 lz lz (P * w) (P * w + w) (m * w - P * w - w)).map Value.int)) := ⟨_, rfl⟩
    refine At.hpe ek1 ?_
    have g1 : FrX (fun x => x = hp.length) h3 k1 := by rw [ek1]; exact FrX.st hna3 rfl rfl rfl rfl (fun fs h => by cases h) (fun ci fs h => by cases h)
    have kq1 := g1.ob hq3 (by decide) (fun e => xn_ra hq3 hna3 e)
    have kli1 := g1.2.2.1 _ _ hli3 rfl (Or.inl (fun e => xn_kd hli3 hna3 (by decide) e))
    have kln1 : k1[hp.length]? = some (.inl (20, (xcpl9 lz lz (P * w) (P * w + w) (m * w - P * w - w)).map Value.int)) := by rw [ek1]; exact xs_eq hna3
    have kl1 : (xcpl9 lz lz (P * w) (P * w + w) (m * w - P * w - w)).length = lz.length := by
      unfold xcpl9
      rw [List.length_append, List.length_append, List.length_take, List.length_take, List.length_drop, List.length_drop]
      omega
    refine At.go (q := xm157) rfl 1 (pc' := 177) (L' := [(4, .int (Int32.ofNat (m * w - P * w - w))), (3, .int (Int32.ofNat (P * w))), (2, .int (Int32.ofNat (m * w))), (1, .int (Int32.ofNat P)), (0, .ref q)]) (st' := [.ref q]) rfl ?_
    refine At.gf rfl (by decide) kq1 rfl ?_
    refine At.go (q := xm157) rfl 2 (pc' := 182) (L' := [(4, .int (Int32.ofNat (m * w - P * w - w))), (3, .int (Int32.ofNat (P * w))), (2, .int (Int32.ofNat (m * w))), (1, .int (Int32.ofNat P)), (0, .ref q)]) (st' := [.ref q, .int 0, .ref li]) rfl ?_
    refine At.gf rfl (by decide) kq1 rfl ?_
    refine At.go (q := xm157) rfl 2 (pc' := 187) (L' := [(4, .int (Int32.ofNat (m * w - P * w - w))), (3, .int (Int32.ofNat (P * w))), (2, .int (Int32.ofNat (m * w))), (1, .int (Int32.ofNat P)), (0, .ref q)]) (st' := [.ref q, .int (Int32.ofNat (P * w)), .ref hp.length, .int 0, .ref li]) rfl ?_
    refine At.gf rfl (by decide) kq1 rfl ?_
    refine At.cpi (sp := 0) (dp := P * w) (n := w) rfl (by decide) kli1 kln1 (by decide) (by decide) rfl rfl (by rw [List.length_map]; omega) (by rw [List.length_map, kl1]; omega) (by rw [List.length_map]; omega) (by rw [List.length_map, kl1]; omega) (by decide) ?_
    rw [xcpl9_m]
    obtain ⟨k2, ek2⟩ : ∃ h, h = k1.set hp.length (.inl (20, (xcpl9 la (xcpl9 lz lz (P * w) (P * w + w) (m * w - P * w - w)) 0 (P * w) w).map Value.int)) := ⟨_, rfl⟩
    refine At.hpe ek2 ?_
    have g2 : FrX (fun x => x = hp.length) k1 k2 := by rw [ek2]; exact FrX.st kln1 rfl rfl rfl rfl (fun fs h => by cases h) (fun ci fs h => by cases h)
    have kq2 := g2.ob kq1 (by decide) (fun e => xn_ra kq1 kln1 e)
    have kln2 : k2[hp.length]? = some (.inl (20, (xcpl9 la (xcpl9 lz lz (P * w) (P * w + w) (m * w - P * w - w)) 0 (P * w) w).map Value.int)) := by rw [ek2]; exact xs_eq kln1
    have kl2 : (xcpl9 la (xcpl9 lz lz (P * w) (P * w + w) (m * w - P * w - w)) 0 (P * w) w).length = lz.length := by
      unfold xcpl9 at kl1 ⊢
      rw [List.length_append, List.length_append, List.length_take, List.length_take, List.length_drop, List.length_drop, kl1]
      omega
    obtain ⟨lr, hr⟩ : ∃ z, z = xcpl9 la (xcpl9 lz lz (P * w) (P * w + w) (m * w - P * w - w)) 0 (P * w) w := ⟨_, rfl⟩
    rw [← hr] at kln2 kl2
    have hins : InsR lz lr la P w (m * w) := by rw [hr]; exact ins_ok (v := m * w - P * w - w) hla (by omega) (by omega)
    have hins2 : InsR lb lr la P w (m * w) := ⟨hins.1, fun i hi => by
      rw [hins.2 i hi]
      by_cases a : i < P * w
      · rw [if_pos a, if_pos a, hzj i (by omega)]
      · rw [if_neg a, if_neg a]
        by_cases b : i < P * w + w
        · rw [if_pos b, if_pos b]
        · rw [if_neg b, if_neg b, hzj (i - w) (by omega)]⟩
    have e1 : lr.length = M := kl2.trans hlM
    have F1 : FrX (fun x => x = q ∨ x = ln) hp k1 := FrX.tr f03 g1 (fun x h => Or.inr (Nat.le_of_eq h.symm))
    have F2 : FrX (fun x => x = q ∨ x = ln) hp k2 := FrX.tr F1 g2 (fun x h => Or.inr (Nat.le_of_eq h.symm))
    have hcs : (1 = 0 ∧ M = 0 ∧ lr.length = lb.length) ∨ (1 = 1 ∧ M = lr.length ∧ lb.length < m * w ∧ m * w ≤ lr.length ∧ lr.length ≤ 2 * (m * w) ∧ lr.length ≤ 18000) := by rw [e1]; exact Or.inr ⟨rfl, rfl, hfit, hM1, hM3, hM2⟩
    have hfin := hK k2 hp.length lr 1 M F2 kq2 kln2 hins2 (Or.inr (Nat.le_refl _)) hcs
    exact At.rt rfl rfl hfin
