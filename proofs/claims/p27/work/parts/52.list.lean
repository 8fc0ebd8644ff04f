/-! lists: what changes them (written by wip/p27/c52.py) -/
theorem At.hpe {S : List Int32} {d Y pc : Nat} {L : List (Nat × Value)} {st : List Value} {hp hp1 : List XC} {nc ns : Nat} {Q : XO → Prop} (e : hp1 = hp) (kk : At S d Y pc L st hp1 nc ns Q) : At S d Y pc L st hp nc ns Q := e ▸ kk
theorem xfit_i {x : Int32} : xfit .int (.int x) = true := by
  unfold xfit
  rw [Bool.and_eq_true]
  exact ⟨decide_eq_true rfl, rfl⟩
theorem xlst {as : List Nat} {m : Nat} : ((as.map Value.ref ++ List.replicate m Value.null)).length = as.length + m := by
  rw [List.length_append, List.length_map, List.length_replicate]
theorem xset_self {hp : List XC} {a : Nat} {c : XC} (h : hp[a]? = some c) : hp.set a c = hp := by
  refine List.ext_getElem? (fun j => ?_)
  rw [List.getElem?_set]
  split
  · rename_i e
    subst e
    rw [if_pos (List.getElem?_eq_some_iff.mp h).1, h]
  · rfl
/-- the loop of clear -/
theorem clear_loop {S : List Int32} {l e n : Nat} {nc ns : Nat} (hn : n ≤ 100000) : ∀ (j k : Nat) (hp : List XC) (es : List Value), k + j = n → hp[e]? = some (.inl (7, es)) → n ≤ es.length → (∀ i, i < k → es[i]? = some .null) →
    At S 0 25 27 [(3, .int (Int32.ofNat k)), (2, .int (Int32.ofNat n)), (1, .ref e), (0, .ref l)] [] hp nc ns (fun o => ∃ es', o = .inl (none, hp.set e (.inl (7, es')), nc, ns) ∧ es'.length = es.length ∧ (∀ i, i < n → es'[i]? = some .null) ∧ ∀ i, n ≤ i → es'[i]? = es[i]?) := by
  intro j
  induction j with
  | zero =>
    intro k hp es hk he hle hz
    refine At.go (q := xm25) rfl 2 (pc' := 29) (L' := [(3, .int (Int32.ofNat k)), (2, .int (Int32.ofNat n)), (1, .ref e), (0, .ref l)]) (st' := [.int (Int32.ofNat n), .int (Int32.ofNat k)]) rfl ?_
    refine At.ic2 (tgt := 42) rfl rfl (fun h29 => ?_) (fun h29 => ?_)
    · refine At.rt rfl rfl ⟨es, ?_, rfl, fun i hi => hz i (by omega), fun i _ => rfl⟩
      rw [xset_self he]
    · have h9 := of_decide_eq_false h29
      rw [iN_le (by omega) (by omega)] at h9
      omega
  | succ j ih =>
    intro k hp es hk he hle hz
    refine At.go (q := xm25) rfl 2 (pc' := 29) (L' := [(3, .int (Int32.ofNat k)), (2, .int (Int32.ofNat n)), (1, .ref e), (0, .ref l)]) (st' := [.int (Int32.ofNat n), .int (Int32.ofNat k)]) rfl ?_
    refine At.ic2 (tgt := 42) rfl rfl (fun h29 => ?_) (fun h29 => ?_)
    · have h9 := of_decide_eq_true h29
      rw [iN_le (by omega) (by omega)] at h9
      omega
    · refine At.go (q := xm25) rfl 3 (pc' := 35) (L' := [(3, .int (Int32.ofNat k)), (2, .int (Int32.ofNat n)), (1, .ref e), (0, .ref l)]) (st' := [.null, .int (Int32.ofNat k), .ref e]) rfl ?_
      refine At.qs rfl he (by decide) rfl (iN_nn (by omega)) (by rw [iN_tn (by omega)]; omega) (Or.inl rfl) ?_
      rw [iN_tn (by omega)]
      refine At.go (q := xm25) rfl 2 (pc' := 27) (L' := [(3, .int (Int32.ofNat k + 1)), (2, .int (Int32.ofNat n)), (1, .ref e), (0, .ref l)]) (st' := []) rfl ?_
      rw [iN_s]
      refine (ih (k + 1) _ (es.set k .null) (by omega) (xs_eq he) (by rw [List.length_set]; exact hle) (fun i hi => ?_)).mono (fun o h => ?_)
      · rw [List.getElem?_set]
        split
        · rw [if_pos (by omega)]
        · exact hz i (by omega)
      · obtain ⟨es', h1, h2, h3, h4⟩ := h
        refine ⟨es', by rw [h1, List.set_set], by rw [h2, List.length_set], h3, fun i hi => ?_⟩
        rw [h4 i hi, List.getElem?_set, if_neg (by omega)]
/-- clear() -/
theorem m_clear {S : List Int32} {hp : List XC} {l : Nat} {as : List Nat} (hL : hLs hp l as) : Me S 0 25 [.ref l] hp (fun v hp' c s => v = none ∧ FrX (fun x => x = l) hp hp' ∧ hLs hp' l [] ∧ c = 0 ∧ s = 0 ∧ capL hp' l = capL hp l) := by
  obtain ⟨hob, mc, ⟨rfl, h1⟩ | ⟨e, m, h1, h2, h3⟩⟩ := hL
  · refine At.go (q := xm25) rfl 2 (pc' := 2) (L' := [(0, .ref l)]) (st' := [.ref l, .ref l]) rfl ?_
    refine At.gf rfl (by decide) h1 rfl ?_
    refine At.go (q := xm25) rfl 2 (pc' := 7) (L' := [(0, .ref l)]) (st' := [.int (mc + 1), .ref l]) rfl ?_
    refine At.pf rfl h1 (Nat.le_of_ble_eq_true rfl) xfit_i ?_
    obtain ⟨hp1, ehp1⟩ : ∃ h, h = hp.set l (.inr (2, [.int (mc + 1), .retAddr 225, .int 0])) := ⟨_, rfl⟩
    refine At.hpe ehp1 ?_
    have fhp1_l : hp1[l]? = some (.inr (2, [.int (mc + 1), .retAddr 225, .int 0])) := by rw [ehp1]; exact xs_eq h1
    refine At.go (q := xm25) rfl 1 (pc' := 11) (L' := [(0, .ref l)]) (st' := [.ref l]) rfl ?_
    refine At.gf rfl (by decide) fhp1_l rfl ?_
    refine At.go (q := xm25) rfl 2 (pc' := 16) (L' := [(1, .retAddr 225), (0, .ref l)]) (st' := [.ref l]) rfl ?_
    refine At.gf rfl (by decide) fhp1_l rfl ?_
    refine At.go (q := xm25) rfl 4 (pc' := 23) (L' := [(2, .int 0), (1, .retAddr 225), (0, .ref l)]) (st' := [.int 0, .ref l, .int 0]) rfl ?_
    refine At.pf rfl fhp1_l (Nat.le_of_ble_eq_true rfl) rfl ?_
    obtain ⟨hp2, ehp2⟩ : ∃ h, h = hp1.set l (.inr (2, [.int (mc + 1), .retAddr 225, .int 0])) := ⟨_, rfl⟩
    refine At.hpe ehp2 ?_
    have fhp2_l : hp2[l]? = some (.inr (2, [.int (mc + 1), .retAddr 225, .int 0])) := by rw [ehp2]; exact xs_eq fhp1_l
    refine At.go (q := xm25) rfl 3 (pc' := 29) (L' := [(3, .int 0), (2, .int 0), (1, .retAddr 225), (0, .ref l)]) (st' := [.int 0, .int 0]) rfl ?_
    refine At.ic2 (tgt := 42) rfl rfl (fun _ => ?_) (fun h => absurd (h.symm.trans rfl) (by decide))
    refine At.rt rfl rfl ⟨none, _, 0, 0, rfl, rfl, ?_, ⟨fun a ha => (by cases ha), mc + 1, Or.inl ⟨rfl, fhp2_l⟩⟩, rfl, rfl, by rw [capL_0 fhp2_l, capL_0 h1]⟩
    refine FrX.tr (Q := fun x => x = l) (b := hp1) ?_ ?_ (fun x hx => Or.inl hx)
    · rw [ehp1]; exact FrX.lo h1 (Or.inr (Or.inl (fun e h => by cases h)))
    · rw [ehp2]; exact FrX.lo fhp1_l (Or.inr (Or.inl (fun e h => by cases h)))
  · refine At.go (q := xm25) rfl 2 (pc' := 2) (L' := [(0, .ref l)]) (st' := [.ref l, .ref l]) rfl ?_
    refine At.gf rfl (by decide) h1 rfl ?_
    refine At.go (q := xm25) rfl 2 (pc' := 7) (L' := [(0, .ref l)]) (st' := [.int (mc + 1), .ref l]) rfl ?_
    refine At.pf rfl h1 (Nat.le_of_ble_eq_true rfl) xfit_i ?_
    obtain ⟨hp1, ehp1⟩ : ∃ h, h = hp.set l (.inr (2, [.int (mc + 1), .ref e, .int (Int32.ofNat as.length)])) := ⟨_, rfl⟩
    refine At.hpe ehp1 ?_
    have fhp1_l : hp1[l]? = some (.inr (2, [.int (mc + 1), .ref e, .int (Int32.ofNat as.length)])) := by rw [ehp1]; exact xs_eq h1
    have fhp1_e : hp1[e]? = some (.inl (7, (as.map Value.ref ++ List.replicate m .null))) := by rw [ehp1]; exact xs_ne (xn_ra h1 h2) h2
    refine At.go (q := xm25) rfl 1 (pc' := 11) (L' := [(0, .ref l)]) (st' := [.ref l]) rfl ?_
    refine At.gf rfl (by decide) fhp1_l rfl ?_
    refine At.go (q := xm25) rfl 2 (pc' := 16) (L' := [(1, .ref e), (0, .ref l)]) (st' := [.ref l]) rfl ?_
    refine At.gf rfl (by decide) fhp1_l rfl ?_
    refine At.go (q := xm25) rfl 4 (pc' := 23) (L' := [(2, .int (Int32.ofNat as.length)), (1, .ref e), (0, .ref l)]) (st' := [.int 0, .ref l, .int 0]) rfl ?_
    refine At.pf rfl fhp1_l (Nat.le_of_ble_eq_true rfl) rfl ?_
    obtain ⟨hp2, ehp2⟩ : ∃ h, h = hp1.set l (.inr (2, [.int (mc + 1), .ref e, .int 0])) := ⟨_, rfl⟩
    refine At.hpe ehp2 ?_
    have fhp2_l : hp2[l]? = some (.inr (2, [.int (mc + 1), .ref e, .int 0])) := by rw [ehp2]; exact xs_eq fhp1_l
    have fhp2_e : hp2[e]? = some (.inl (7, (as.map Value.ref ++ List.replicate m .null))) := by rw [ehp2]; exact xs_ne (xn_ra fhp1_l fhp1_e) fhp1_e
    refine At.go (q := xm25) rfl 1 (pc' := 27) (L' := [(3, .int 0), (2, .int (Int32.ofNat as.length)), (1, .ref e), (0, .ref l)]) (st' := []) rfl ?_
    refine (clear_loop (by omega) as.length 0 hp2 _ (by omega) fhp2_e (by rw [xlst]; omega) (fun i hi => absurd hi (Nat.not_lt_zero i))).mono (fun o h => ?_)
    obtain ⟨es', g1, g2, g3, g4⟩ := h
    refine ⟨none, _, 0, 0, g1, rfl, ?_, ⟨fun a ha => (by cases ha), mc + 1, Or.inr ⟨e, as.length + m, xs_ne (xn_ar fhp2_e fhp2_l) fhp2_l, ?_, by rw [List.length_nil]; omega⟩⟩, rfl, rfl, by rw [capL_e (xs_ne (xn_ar fhp2_e fhp2_l) fhp2_l) (xs_eq fhp2_e), capL_e h1 h2, g2]⟩
    · refine FrX.tr (Q := fun x => x = l) (b := hp1) ?_ (FrX.tr (P := fun x => x = l) (Q := fun x => x = l) (b := hp2) ?_ (FrX.la fhp2_l fhp2_e) (fun x hx => Or.inl hx)) (fun x hx => Or.inl hx)
      · rw [ehp1]; exact FrX.lo h1 (Or.inl ⟨_, _, rfl⟩)
      · rw [ehp2]; exact FrX.lo fhp1_l (Or.inl ⟨_, _, rfl⟩)
    · rw [xs_eq fhp2_e]
      refine congrArg (fun q => some (Sum.inl (7, q))) (List.ext_getElem? (fun i => ?_))
      rw [List.map_nil, List.nil_append, List.getElem?_replicate]
      rcases Nat.lt_or_ge i as.length with hi | hi
      · rw [g3 i hi, if_pos (by omega)]
      · rw [g4 i hi, List.getElem?_append_right (by rw [List.length_map]; exact hi), List.length_map, List.getElem?_replicate]
        split
        · rw [if_pos (by omega)]
        · rw [if_neg (by omega)]
