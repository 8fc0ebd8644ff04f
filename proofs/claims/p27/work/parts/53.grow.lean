/-! lists that grow (written by wip/p27/c53.py) -/
theorem xsp7 : ∀ ci, ci ≤ 16 → (ci, 7) ∈ xSP := by decide
theorem xcpo_o {S : List Int32} {hp : List XC} {v : Value} (h : v = .null ∨ ∃ a, v = .ref a ∧ hOb hp a) : xcpo (xZ S) hp 7 v = true := by
  rcases h with rfl | ⟨a, rfl, ci, fs, h1, h2⟩
  · rfl
  · show (match xcls xKC hp (.ref a) with
      | some ci => decide ((ci, 7) ∈ xSP)
      | none => false) = true
    unfold xcls
    dsimp only
    rw [h1]
    exact decide_eq_true (xsp7 ci h2)
/-- copying objects -/
theorem At.cpo {S : List Int32} {d Y pc : Nat} {L : List (Nat × Value)} {st : List Value} {hp : List XC} {nc ns : Nat} {Q : XO → Prop} {a0 a1 sp dp n : Nat} {e0 e1 : List Value} (hC : xmC (xMT Y) pc = some (20, .nop, 0, 0, .null, [])) (hd : 1 ≤ d) (h0 : hp[a0]? = some (.inl (7, e0))) (h1 : hp[a1]? = some (.inl (7, e1))) (hsp : sp + n ≤ e0.length) (hdp : dp + n ≤ e1.length) (hl0 : e0.length < 2 ^ 31) (hl1 : e1.length < 2 ^ 31) (he : ∀ v ∈ e0, v = .null ∨ ∃ a, v = .ref a ∧ hOb hp a) (hs : xsum st ≤ 8) (kk : At S d Y (pc + 3) L st (hp.set a1 (.inl (7, xcpl e0 e1 sp dp n))) nc ns Q) : At S d Y pc L (.int (Int32.ofNat n) :: .int (Int32.ofNat dp) :: .ref a1 :: .int (Int32.ofNat sp) :: .ref a0 :: st) hp nc ns Q := by
  refine At.sp hC ⟨by decide, by decide⟩ (g := (st, hp.set a1 (.inl (7, xcpl e0 e1 sp dp n)))) ?_ kk
  have key : xcpy (xZ S) hp (.int (Int32.ofNat n) :: .int (Int32.ofNat dp) :: .ref a1 :: .int (Int32.ofNat sp) :: .ref a0 :: st) = some (hp.set a1 (.inl (7, xcpl e0 e1 sp dp n)), st) := by
    unfold xcpy
    dsimp only
    rw [h0, h1]
    dsimp only
    rw [iN_tn (show n < 2 ^ 31 by omega), iN_tn (show sp < 2 ^ 31 by omega), iN_tn (show dp < 2 ^ 31 by omega)]
    exact if_pos ⟨(by decide : 7 < 30), (by decide : 7 < 30), rfl, fun h => absurd h (show ¬ refKind (xTy 7) = false by decide), iN_nn (by omega), iN_nn (by omega), iN_nn (by omega), hsp, hdp, List.all_eq_true.mpr (fun v hv => xcpo_o (he v (List.mem_of_mem_drop (List.mem_of_mem_take hv))))⟩
  unfold xspec
  rw [if_neg (by omega)]
  dsimp only
  rw [key]
  dsimp only
  exact if_pos hs
/-- copying numbers -/
theorem At.cpi {S : List Int32} {d Y pc : Nat} {L : List (Nat × Value)} {st : List Value} {hp : List XC} {nc ns : Nat} {Q : XO → Prop} {a0 a1 t0 t1 sp dp n : Nat} {e0 e1 : List Value} (hC : xmC (xMT Y) pc = some (20, .nop, 0, 0, .null, [])) (hd : 1 ≤ d) (h0 : hp[a0]? = some (.inl (t0, e0))) (h1 : hp[a1]? = some (.inl (t1, e1))) (ht0 : t0 < xnt9) (ht1 : t1 < xnt9) (hi0 : xTy t0 = .int) (hi1 : xTy t1 = .int) (hsp : sp + n ≤ e0.length) (hdp : dp + n ≤ e1.length) (hl0 : e0.length < 2 ^ 31) (hl1 : e1.length < 2 ^ 31) (hs : xsum st ≤ 8) (kk : At S d Y (pc + 3) L st (hp.set a1 (.inl (t1, xcpl e0 e1 sp dp n))) nc ns Q) : At S d Y pc L (.int (Int32.ofNat n) :: .int (Int32.ofNat dp) :: .ref a1 :: .int (Int32.ofNat sp) :: .ref a0 :: st) hp nc ns Q := by
  refine At.sp hC ⟨by decide, by decide⟩ (g := (st, hp.set a1 (.inl (t1, xcpl e0 e1 sp dp n)))) ?_ kk
  have key : xcpy (xZ S) hp (.int (Int32.ofNat n) :: .int (Int32.ofNat dp) :: .ref a1 :: .int (Int32.ofNat sp) :: .ref a0 :: st) = some (hp.set a1 (.inl (t1, xcpl e0 e1 sp dp n)), st) := by
    unfold xcpy
    dsimp only
    rw [h0, h1]
    dsimp only
    rw [iN_tn (show n < 2 ^ 31 by omega), iN_tn (show sp < 2 ^ 31 by omega), iN_tn (show dp < 2 ^ 31 by omega)]
    have q0 : (xZ S).1 t0 = .int := hi0
    have q1 : (xZ S).1 t1 = .int := hi1
    refine if_pos ⟨ht0, ht1, by rw [q0, q1], fun _ => by rw [q0, q1], iN_nn (by omega), iN_nn (by omega), iN_nn (by omega), hsp, hdp, List.all_eq_true.mpr (fun v hv => ?_)⟩
    unfold xcpo
    rw [q1]
    rfl
  unfold xspec
  rw [if_neg (by omega)]
  dsimp only
  rw [key]
  dsimp only
  exact if_pos hs
/-- getClass() of a list's array -/
theorem At.gc {S : List Int32} {d Y pc : Nat} {L : List (Nat × Value)} {st : List Value} {hp : List XC} {nc ns : Nat} {Q : XO → Prop} {a : Nat} {es : List Value} (hC : xmC (xMT Y) pc = some (24, .nop, 7, 227, .null, [])) (hd : 1 ≤ d) (h0 : hp[a]? = some (.inl (7, es))) (hs : xsum st ≤ 8) (kk : At S d Y (pc + 3) L (.retAddr 227 :: st) hp nc ns Q) : At S d Y pc L (.ref a :: st) hp nc ns Q := by
  refine At.sp hC ⟨by decide, by decide⟩ (g := (.retAddr 227 :: st, hp)) ?_ kk
  unfold xspec
  rw [if_neg (by omega)]
  dsimp only
  rw [h0]
  dsimp only
  exact if_pos ⟨hs, rfl, (by decide : 7 < 30)⟩
theorem xmax1 {n : Nat} (hn : n < 2 ^ 31) : (if (1 : Int32) < Int32.ofNat n then Int32.ofNat n else 1) = Int32.ofNat (max 1 n) := by
  have h1 : (1 : Int32) = Int32.ofNat 1 := rfl
  rw [h1]
  by_cases h : 1 < n
  · rw [if_pos ((iN_lt (by decide) hn).mpr h), Nat.max_eq_right (by omega)]
  · rw [if_neg (fun q => h ((iN_lt (by decide) hn).mp q)), Nat.max_eq_left (by omega)]
theorem xmin_l {a b : Nat} (ha : a < 2 ^ 31) (hb : b < 2 ^ 31) : (if Int32.ofNat b < Int32.ofNat a then Int32.ofNat b else Int32.ofNat a) = Int32.ofNat (min a b) := by
  by_cases h : b < a
  · rw [if_pos ((iN_lt hb ha).mpr h), Nat.min_eq_right (by omega)]
  · rw [if_neg (fun q => h ((iN_lt hb ha).mp q)), Nat.min_eq_left (by omega)]
theorem m_newLength {S : List Int32} {hp : List XC} {n k : Nat} (hn : n + max 1 k ≤ 100000) : Pu S 1 134 [.int (Int32.ofNat n), .int 1, .int (Int32.ofNat k)] hp (.int (Int32.ofNat (n + max 1 k))) := by
  refine At.go (q := xm134) rfl 3 (pc' := 3) (L' := [(0, .int (Int32.ofNat n)), (1, .int 1), (2, .int (Int32.ofNat k))]) (st' := [.int (Int32.ofNat k), .int 1, .int (Int32.ofNat n)]) rfl ?_
  refine At.sp rfl (by decide) (g := ([.int (if (1 : Int32) < (Int32.ofNat k) then (Int32.ofNat k) else (1 : Int32)), .int (Int32.ofNat n)], hp)) rfl ?_
  rw [xmax1 (by omega)]
  refine At.go (q := xm134) rfl 1 (pc' := 7) (L' := [(0, .int (Int32.ofNat n)), (1, .int 1), (2, .int (Int32.ofNat k))]) (st' := [.int ((Int32.ofNat n) + (Int32.ofNat (max 1 k)))]) rfl ?_
  rw [← Int32.ofNat_add]
  refine At.go (q := xm134) rfl 3 (pc' := 10) (L' := [(3, .int (Int32.ofNat (n + max 1 k))), (0, .int (Int32.ofNat n)), (1, .int 1), (2, .int (Int32.ofNat k))]) (st' := [.int (Int32.ofNat (n + max 1 k)), .int 0]) rfl ?_
  refine At.ic2 (tgt := 21) rfl rfl (fun h => absurd (h.symm.trans (decide_eq_false (fun h => absurd ((iN_le (b := 0) (by omega) (by decide)).mp h) (by omega)))) (by decide)) (fun _ => ?_)
  refine At.go (q := xm134) rfl 2 (pc' := 16) (L' := [(3, .int (Int32.ofNat (n + max 1 k))), (0, .int (Int32.ofNat n)), (1, .int 1), (2, .int (Int32.ofNat k))]) (st' := [.int 2147483639, .int (Int32.ofNat (n + max 1 k))]) rfl ?_
  refine At.ic2 (tgt := 21) rfl rfl (fun h => absurd (h.symm.trans (decide_eq_false (fun h => absurd ((iN_lt (a := 2147483639) (by decide) (by omega)).mp h) (by omega)))) (by decide)) (fun _ => ?_)
  refine At.go (q := xm134) rfl 1 (pc' := 20) (L' := [(3, .int (Int32.ofNat (n + max 1 k))), (0, .int (Int32.ofNat n)), (1, .int 1), (2, .int (Int32.ofNat k))]) (st' := [.int (Int32.ofNat (n + max 1 k))]) rfl ?_
  exact At.rt rfl (xret_i rfl) rfl
theorem m_copyOf3 {S : List Int32} {hp : List XC} {e k : Nat} {es : List Value} (h0 : hp[e]? = some (.inl (7, es))) (hk : es.length ≤ k) (hk2 : k ≤ 100000) (he : ∀ v ∈ es, v = .null ∨ ∃ a, v = .ref a ∧ hOb hp a) : Me S 1 137 [.ref e, .int (Int32.ofNat k), .retAddr 227] hp (fun v hp' c s => v = some (.ref hp.length) ∧ hp' = hp ++ [.inl (7, es ++ List.replicate (k - es.length) .null)] ∧ c = 1 ∧ s = k) := by
  refine At.go (q := xm137) rfl 2 (pc' := 3) (L' := [(0, .ref e), (1, .int (Int32.ofNat k)), (2, .retAddr 227)]) (st' := [.retAddr 227, .retAddr 227]) rfl ?_
  refine At.acn (tgt := 13) (b := true) rfl rfl rfl (fun h => absurd h (by decide)) (fun _ => ?_)
  refine At.go (q := xm137) rfl 1 (pc' := 7) (L' := [(0, .ref e), (1, .int (Int32.ofNat k)), (2, .retAddr 227)]) (st' := [.int (Int32.ofNat k)]) rfl ?_
  refine At.nq rfl (iN_nn (by omega)) (by rw [iN_tn (by omega)]; exact hk2) (by decide) ?_
  rw [iN_tn (by omega)]
  obtain ⟨hp1, ehp1⟩ : ∃ h, h = hp ++ [.inl (7, List.replicate k .null)] := ⟨_, rfl⟩
  refine At.hpe ehp1 ?_
  have fhp1_e : hp1[e]? = some (.inl (7, es)) := by rw [ehp1]; exact xa_lt h0
  have fhp1_hp_length : hp1[hp.length]? = some (.inl (7, (List.replicate k .null))) := by rw [ehp1]; exact xa_eq
  refine At.go (q := xm137) rfl 7 (pc' := 30) (L' := [(3, .ref hp.length), (0, .ref e), (1, .int (Int32.ofNat k)), (2, .retAddr 227)]) (st' := [.ref e, .int 0, .ref hp.length, .int 0, .ref e]) rfl ?_
  refine At.ln rfl fhp1_e ?_
  refine At.go (q := xm137) rfl 1 (pc' := 32) (L' := [(3, .ref hp.length), (0, .ref e), (1, .int (Int32.ofNat k)), (2, .retAddr 227)]) (st' := [.int (Int32.ofNat k), .int (Int32.ofNat es.length), .int 0, .ref hp.length, .int 0, .ref e]) rfl ?_
  refine At.sp rfl (by decide) (g := ([.int (if (Int32.ofNat k) < (Int32.ofNat es.length) then (Int32.ofNat k) else (Int32.ofNat es.length)), .int 0, .ref hp.length, .int 0, .ref e], hp1)) rfl ?_
  rw [xmin_l (by omega) (by omega), Nat.min_eq_left hk]
  refine At.cpo (sp := 0) (dp := 0) rfl (by decide) fhp1_e fhp1_hp_length (by omega) (by rw [List.length_replicate]; omega) (by omega) (by rw [List.length_replicate]; omega) (fun v hv => (he v hv).imp id (fun ⟨a, h1, h2⟩ => ⟨a, h1, h2.mv (fun b ci fs hb => ⟨fs, by rw [ehp1]; exact xa_lt hb⟩)⟩)) (Nat.le_of_ble_eq_true rfl) ?_
  refine At.go (q := xm137) rfl 1 (pc' := 39) (L' := [(3, .ref hp.length), (0, .ref e), (1, .int (Int32.ofNat k)), (2, .retAddr 227)]) (st' := [.ref hp.length]) rfl ?_
  refine At.rt rfl rfl ⟨_, _, _, _, rfl, rfl, ?_, Nat.zero_add 1, Nat.zero_add k⟩
  rw [ehp1, List.set_append_right _ _ (Nat.le_refl _), Nat.sub_self]
  refine congrArg (fun q => hp ++ [(Sum.inl (7, q) : XC)]) ?_
  unfold xcpl
  rw [List.drop_zero, List.take_length, List.take_zero, List.nil_append, Nat.zero_add, List.drop_replicate]
theorem m_copyOf {S : List Int32} {hp : List XC} {e k : Nat} {es : List Value} (h0 : hp[e]? = some (.inl (7, es))) (hk : es.length ≤ k) (hk2 : k ≤ 100000) (he : ∀ v ∈ es, v = .null ∨ ∃ a, v = .ref a ∧ hOb hp a) : Me S 2 136 [.ref e, .int (Int32.ofNat k)] hp (fun v hp' c s => v = some (.ref hp.length) ∧ hp' = hp ++ [.inl (7, es ++ List.replicate (k - es.length) .null)] ∧ c = 1 ∧ s = k) := by
  refine At.go (q := xm136) rfl 3 (pc' := 3) (L' := [(0, .ref e), (1, .int (Int32.ofNat k))]) (st' := [.ref e, .int (Int32.ofNat k), .ref e]) rfl ?_
  refine At.gc rfl (by decide) h0 (Nat.le_of_ble_eq_true rfl) ?_
  refine At.clm (as := [.ref e, .int (Int32.ofNat k), .retAddr 227]) (rest := []) rfl (by decide) rfl (Nat.le_of_ble_eq_true rfl) (Nat.le_of_ble_eq_true rfl) rfl (Nat.le_of_ble_eq_true rfl) (m_copyOf3 h0 hk hk2 he) (fun v hp1 c s hv => ?_)
  obtain ⟨rfl, rfl, hc, hs⟩ := hv
  exact At.rt rfl rfl ⟨_, _, _, _, rfl, rfl, rfl, by omega, by omega⟩
