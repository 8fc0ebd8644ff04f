/-! the law's acted: what stands behind a choice (by gal.py) -/
/-- what holds of the two houses and the law between two acts -/
def LI (top : Int32) (M N : HM) (lbs ops : List Int32) (c d x : Nat) : Prop := (∃ f g, Rel (fun l => isB l top) f g M N) ∧ WfH M c d ∧ WfH N c d ∧ LzM M ∧ LzM N ∧ (∀ i, i < 8 → lbs[i]? = some (M.2.2.2.1 i).1) ∧ (∀ i, i < 8 → i ≠ x → ops[i]? = some (bI (M.2.2.2.1 i).2.2.1))
theorem tr_w {top : Int32} : ∀ l lb, (fun l => isB l top) lb = true → isB l lb = true → (fun l => isB l top) l = true := fun _ _ h1 h2 => isB_tr9 h2 h1
def AcR (A B : Nat → Nat) (L la io : Nat) (h0 : List XC) (ow0 : Nat → Nat) (top : Int32) (dt pc ps c d : Nat) : XO → Prop := fun o => ∃ hp' c9 s9, o = .inl (some (.int 1), hp', c9, s9) ∧ ∃ M' N' lbs' ops', LI top M' N' lbs' ops' c d 8 ∧ S2 A B L la io h0 hp' ow0 M' N' lbs' ops' top dt pc ps c9 s9 260 110000
theorem set_at {l : List Int32} {i j : Nat} {x : Int32} (hi : i < l.length) : (l.set i x)[j]? = if j = i then some x else l[j]? := by
  rw [List.getElem?_set]
  by_cases h : j = i
  · rw [if_pos h, if_pos h.symm, if_pos hi]
  · rw [if_neg h, if_neg (fun e => h e.symm)]
theorem nar_bI (b : Bool) : vp_nar (xTy 3) (bI b) = bI b := by cases b <;> rfl
theorem bI_ne {b : Bool} (h : xcm .eq (bI b) 0 = false) : b = true := by
  cases b with
  | true => rfl
  | false => exact absurd h (by decide)
theorem bI_eq {b : Bool} (h : xcm .eq (bI b) 0 = true) : b = false := by
  cases b with
  | false => rfl
  | true => exact absurd h (by decide)
theorem bI_nn {b : Bool} (h : xcm .ne (bI b) 0 = true) : b = true := by
  cases b with
  | true => rfl
  | false => exact absurd h (by decide)
theorem bI_nf {b : Bool} (h : xcm .ne (bI b) 0 = false) : b = false := by
  cases b with
  | false => rfl
  | true => exact absurd h (by decide)
/-- the law's picture of what is open, behind an act -/
theorem li_op {top : Int32} {M N : HM} {lbs ops : List Int32} {c d i : Nat} (h : LI top M N lbs ops c d i) (hi : i < 8) (ho : ops.length = 8) : LI top M N lbs (ops.set i (bI (M.2.2.2.1 i).2.2.1)) c d 8 ∧ (ops.set i (bI (M.2.2.2.1 i).2.2.1))[i]? = some (bI (M.2.2.2.1 i).2.2.1) := by
  obtain ⟨h1, h2, h3, h4, h5, h6, h7⟩ := h
  refine ⟨⟨h1, h2, h3, h4, h5, h6, fun j hj _ => ?_⟩, ?_⟩
  · rw [set_at (by omega)]
    by_cases e : j = i
    · rw [if_pos e, e]
    · rw [if_neg e]
      exact h7 j hj e
  · rw [set_at (by omega), if_pos rfl]
theorem how0 {n : Nat} (h : xcm .ne (Int32.ofNat n) 0 = false) (hn : n < 12 := by omega) : n = 0 := by
  have h9 : ∀ n, n < 12 → xcm .ne (Int32.ofNat n) 0 = false → n = 0 := by decide
  exact h9 n hn h
theorem ac_372 {S : List Int32} {A B : Nat → Nat} {L la io : Nat} {h0 hp : List XC} {ow0 : Nat → Nat} {M N : HM} {lbs ops : List Int32} {top : Int32} {dt pc ps nc ns K J : Nat} {i how c d dtF : Nat} {x5 x9 : Int32} {tw : Int64} (hI : LI top M N lbs ops c d 8) (hi : i < 8) (hh : how < 12) (hK : K ≤ 260) (hJ : J ≤ 110000) (ho9 : ops[i]? = some x9) (hop : ¬ how = 0 ∨ tw < 0 ∨ x9 = 1) (B0 : S2T A B L la io h0 hp ow0 M N lbs ops top dt pc ps nc ns K J (.retAddr 75) []) (hdt : dt ≤ dtF) (hdF : dtF ≤ 100000) : At S 15 203 372 [(0, .ref L), (1, .int (Int32.ofNat i)), (2, .int (Int32.ofNat how)), (5, .int x5), (13, .long tw), (15, .int 1)] [] hp nc ns (AcR A B L la io h0 ow0 top dtF pc ps c d) := by
  obtain ⟨tt0, sd0, fx0, fy0, gL0, gla0, gio0, gx0, gy0, gl8, go8⟩ := S2T.lk B0
  refine At.go (q := xm203) rfl 3 (pc' := 379) (L' := [(0, .ref L), (1, .int (Int32.ofNat i)), (2, .int (Int32.ofNat how)), (5, .int x5), (13, .long tw), (15, .int 1)]) (st' := [.int x5]) rfl ?_
  refine At.ic1 (tgt := 402) rfl rfl (fun h379 => ?_) (fun h379 => ?_)
  · refine At.go (q := xm203) rfl 2 (pc' := 407) (L' := [(0, .ref L), (1, .int (Int32.ofNat i)), (2, .int (Int32.ofNat how)), (5, .int x5), (13, .long tw), (15, .int 1)]) (st' := [.int 1]) rfl ?_
    exact At.rt rfl rfl ⟨_, _, _, rfl, M, N, lbs, ops, hI, S2.dtm (S2T.to2 B0) hdt hdF hK hJ⟩
  · refine At.go (q := xm203) rfl 3 (pc' := 386) (L' := [(0, .ref L), (1, .int (Int32.ofNat i)), (2, .int (Int32.ofNat how)), (5, .int x5), (13, .long tw), (15, .int 1)]) (st' := [.int (lg_cmp tw 0)]) rfl ?_
    refine At.ic1 (tgt := 402) rfl rfl (fun h386 => ?_) (fun h386 => ?_)
    · refine At.go (q := xm203) rfl 2 (pc' := 407) (L' := [(0, .ref L), (1, .int (Int32.ofNat i)), (2, .int (Int32.ofNat how)), (5, .int x5), (13, .long tw), (15, .int 1)]) (st' := [.int 1]) rfl ?_
      exact At.rt rfl rfl ⟨_, _, _, rfl, M, N, lbs, ops, hI, S2.dtm (S2T.to2 B0) hdt hdF hK hJ⟩
    · refine At.go (q := xm203) rfl 1 (pc' := 390) (L' := [(0, .ref L), (1, .int (Int32.ofNat i)), (2, .int (Int32.ofNat how)), (5, .int x5), (13, .long tw), (15, .int 1)]) (st' := [.int (Int32.ofNat how)]) rfl ?_
      refine At.ic1 (tgt := 402) rfl rfl (fun h390 => ?_) (fun h390 => ?_)
      · refine At.go (q := xm203) rfl 2 (pc' := 407) (L' := [(0, .ref L), (1, .int (Int32.ofNat i)), (2, .int (Int32.ofNat how)), (5, .int x5), (13, .long tw), (15, .int 1)]) (st' := [.int 1]) rfl ?_
        exact At.rt rfl rfl ⟨_, _, _, rfl, M, N, lbs, ops, hI, S2.dtm (S2T.to2 B0) hdt hdF hK hJ⟩
      · refine At.go (q := xm203) rfl 1 (pc' := 394) (L' := [(0, .ref L), (1, .int (Int32.ofNat i)), (2, .int (Int32.ofNat how)), (5, .int x5), (13, .long tw), (15, .int 1)]) (st' := [.ref L]) rfl ?_
        refine At.gf rfl (by decide) gL0 rfl ?_
        refine At.go (q := xm203) rfl 1 (pc' := 398) (L' := [(0, .ref L), (1, .int (Int32.ofNat i)), (2, .int (Int32.ofNat how)), (5, .int x5), (13, .long tw), (15, .int 1)]) (st' := [.int (Int32.ofNat i), .ref io]) rfl ?_
        refine At.al rfl gio0 (by decide) rfl (iN_nn (by omega)) (by rw [iN_tn (by omega), List.getElem?_map, ho9]; rfl) ?_
        refine At.ic1 (tgt := 406) rfl rfl (fun h399 => ?_) (fun h399 => ?_)
        · refine At.go (q := xm203) rfl 1 (pc' := 407) (L' := [(0, .ref L), (1, .int (Int32.ofNat i)), (2, .int (Int32.ofNat how)), (5, .int x5), (13, .long tw), (15, .int 1)]) (st' := [.int 0]) rfl ?_
          exfalso
          rcases hop with k | k | k
          · exact k (how0 h390)
          · exact lgc_nn (of_decide_eq_false h386) k
          · rw [k] at h399; exact absurd h399 (by decide)
        · refine At.go (q := xm203) rfl 2 (pc' := 407) (L' := [(0, .ref L), (1, .int (Int32.ofNat i)), (2, .int (Int32.ofNat how)), (5, .int x5), (13, .long tw), (15, .int 1)]) (st' := [.int 1]) rfl ?_
          exact At.rt rfl rfl ⟨_, _, _, rfl, M, N, lbs, ops, hI, S2.dtm (S2T.to2 B0) hdt hdF hK hJ⟩
theorem ac_358 {S : List Int32} {A B : Nat → Nat} {L la io : Nat} {h0 hp : List XC} {ow0 : Nat → Nat} {M N : HM} {lbs ops : List Int32} {top : Int32} {dt pc ps nc ns K J : Nat} {i how c d dtF : Nat} {x5 : Int32} {tw : Int64} (hI : LI top M N lbs ops c d i) (hi : i < 8) (hh : how < 12) (hK : K ≤ 260) (hJ : J ≤ 110000) (hop : ¬ how = 0 ∨ tw < 0 ∨ (M.2.2.2.1 i).2.2.1 = true) (B0 : S2T A B L la io h0 hp ow0 M N lbs ops top dt pc ps nc ns K J (.retAddr 75) []) (hdt : dt ≤ dtF) (hdF : dtF ≤ 100000) : At S 15 203 358 [(0, .ref L), (1, .int (Int32.ofNat i)), (2, .int (Int32.ofNat how)), (5, .int x5), (13, .long tw), (15, .int 1)] [] hp nc ns (AcR A B L la io h0 ow0 top dtF pc ps c d) := by
  obtain ⟨tt0, sd0, fx0, fy0, gL0, gla0, gio0, gx0, gy0, gl8, go8⟩ := S2T.lk B0
  refine At.go (q := xm203) rfl 1 (pc' := 359) (L' := [(0, .ref L), (1, .int (Int32.ofNat i)), (2, .int (Int32.ofNat how)), (5, .int x5), (13, .long tw), (15, .int 1)]) (st' := [.ref L]) rfl ?_
  refine At.gf rfl (by decide) gL0 rfl ?_
  refine At.go (q := xm203) rfl 2 (pc' := 364) (L' := [(0, .ref L), (1, .int (Int32.ofNat i)), (2, .int (Int32.ofNat how)), (5, .int x5), (13, .long tw), (15, .int 1)]) (st' := [.ref L, .int (Int32.ofNat i), .ref io]) rfl ?_
  refine At.gf rfl (by decide) gL0 rfl ?_
  refine At.go (q := xm203) rfl 1 (pc' := 368) (L' := [(0, .ref L), (1, .int (Int32.ofNat i)), (2, .int (Int32.ofNat how)), (5, .int x5), (13, .long tw), (15, .int 1)]) (st' := [.int (Int32.ofNat i), .ref (A 0), .int (Int32.ofNat i), .ref io]) rfl ?_
  refine At.clp (as := [.ref (A 0), .int (Int32.ofNat i)]) (rest := [.int (Int32.ofNat i), .ref io]) rfl (by decide) rfl (Nat.le_of_ble_eq_true rfl) (Nat.le_of_ble_eq_true rfl) (xrck_o (by decide) (by decide) gx0 (by decide)) (Nat.le_of_ble_eq_true rfl) (S2T.pu B0 (fun ow pc ps W => W.xp (fun _ _ _ h => h_isOpen h hi))) ?_
  refine At.as rfl gio0 (by decide) rfl (iN_nn (by omega)) (by rw [iN_tn (by omega), List.length_map, go8]; omega) ?_
  rw [iN_tn (show i < 2 ^ 31 by omega), show vp_nar (xTy 3) (bI (M.2.2.2.1 i).2.2.1) = (bI (M.2.2.2.1 i).2.2.1) from nar_bI _]
  have B1 := S2T.seto (i := i) (x := (bI (M.2.2.2.1 i).2.2.1)) B0
  obtain ⟨hp1, eh1⟩ : ∃ h, h = hp.set io (.inl (3, (ops.map Value.int).set i (.int (bI (M.2.2.2.1 i).2.2.1)))) := ⟨_, rfl⟩
  refine At.hpe eh1 ?_
  rw [← eh1] at B1
  obtain ⟨tt1, sd1, fx1, fy1, gL1, gla1, gio1, gx1, gy1, gl8, go8⟩ := S2T.lk B1
  obtain ⟨hI2, ho2⟩ := li_op hI hi (by rw [List.length_set] at go8; exact go8)
  exact ac_372 hI2 hi hh hK hJ ho2 (hop.imp id (fun k => k.imp id (fun k => by rw [k]; rfl))) B1 hdt hdF
theorem ac_331 {S : List Int32} {A B : Nat → Nat} {L la io : Nat} {h0 hp : List XC} {ow0 : Nat → Nat} {M N : HM} {lbs ops : List Int32} {top : Int32} {dt pc ps nc ns K J : Nat} {i how c d dtF : Nat} {x10 : Int32} {x5 : Int32} {tw wd : Int64} {w : Nat} (hI : LI top M N lbs ops c d i) (hd : d ≤ 30) (hi : i < 8) (hh : how < 12) (hw8 : w < 8) (hK : K ≤ 260) (hJ : J ≤ 110000) (hop : ¬ how = 0 ∨ tw < 0 ∨ (M.2.2.2.1 i).2.2.1 = true) (h10 : x10 = 0 ∨ ckE M w = wd) (B0 : S2T A B L la io h0 hp ow0 M N lbs ops top dt pc ps nc ns K J (.retAddr 75) []) (hdt : dt ≤ dtF) (hdF : dtF ≤ 100000) : At S 15 203 331 [(0, .ref L), (1, .int (Int32.ofNat i)), (2, .int (Int32.ofNat how)), (5, .int x5), (7, .int (Int32.ofNat w)), (8, .long wd), (10, .int x10), (13, .long tw)] [] hp nc ns (AcR A B L la io h0 ow0 top dtF pc ps c d) := by
  by_cases hx : x10 = 0
  · subst hx
    obtain ⟨tt0, sd0, fx0, fy0, gL0, gla0, gio0, gx0, gy0, gl8, go8⟩ := S2T.lk B0
    refine At.go (q := xm203) rfl 5 (pc' := 358) (L' := [(15, .int 1), (0, .ref L), (1, .int (Int32.ofNat i)), (2, .int (Int32.ofNat how)), (5, .int x5), (7, .int (Int32.ofNat w)), (8, .long wd), (10, .int 0), (13, .long tw)]) (st' := []) rfl ?_
    refine At.wk (L' := [(0, .ref L), (1, .int (Int32.ofNat i)), (2, .int (Int32.ofNat how)), (5, .int x5), (13, .long tw), (15, .int 1)]) (List.forall_mem_cons.mpr ⟨List.mem_of_getElem? (i := 1) rfl, (List.forall_mem_cons.mpr ⟨List.mem_of_getElem? (i := 2) rfl, (List.forall_mem_cons.mpr ⟨List.mem_of_getElem? (i := 3) rfl, (List.forall_mem_cons.mpr ⟨List.mem_of_getElem? (i := 4) rfl, (List.forall_mem_cons.mpr ⟨List.mem_of_getElem? (i := 8) rfl, (List.forall_mem_cons.mpr ⟨List.mem_of_getElem? (i := 0) rfl, (fun _ h => (List.not_mem_nil h).elim)⟩)⟩)⟩)⟩)⟩)⟩) (show ([15, 0, 1, 2, 5, 7, 8, 10, 13] : List Nat).Nodup by decide) ?_
    exact ac_358 hI hi hh hK hJ hop B0 hdt hdF
  · obtain ⟨tt0, sd0, fx0, fy0, gL0, gla0, gio0, gx0, gy0, gl8, go8⟩ := S2T.lk B0
    have hck : ckE M w = wd := h10.resolve_left hx
    refine At.go (q := xm203) rfl 1 (pc' := 333) (L' := [(0, .ref L), (1, .int (Int32.ofNat i)), (2, .int (Int32.ofNat how)), (5, .int x5), (7, .int (Int32.ofNat w)), (8, .long wd), (10, .int x10), (13, .long tw)]) (st' := [.int x10]) rfl ?_
    refine At.ic1 (tgt := 351) rfl rfl (fun h9 => absurd (of_decide_eq_true h9) hx) (fun _ => ?_)
    refine At.go (q := xm203) rfl 1 (pc' := 337) (L' := [(0, .ref L), (1, .int (Int32.ofNat i)), (2, .int (Int32.ofNat how)), (5, .int x5), (7, .int (Int32.ofNat w)), (8, .long wd), (10, .int x10), (13, .long tw)]) (st' := [.ref L]) rfl ?_
    refine At.gf rfl (by decide) gL0 rfl ?_
    refine At.go (q := xm203) rfl 1 (pc' := 342) (L' := [(0, .ref L), (1, .int (Int32.ofNat i)), (2, .int (Int32.ofNat how)), (5, .int x5), (7, .int (Int32.ofNat w)), (8, .long wd), (10, .int x10), (13, .long tw)]) (st' := [.int (Int32.ofNat w), .ref (A 0)]) rfl ?_
    refine At.clm (as := [.ref (A 0), .int (Int32.ofNat w)]) (rest := []) rfl (by decide) rfl (Nat.le_of_ble_eq_true rfl) (Nat.le_of_ble_eq_true rfl) (xrck_o (by decide) (by decide) gx0 (by decide)) (Nat.le_of_ble_eq_true rfl) (S2T.same B0 (K2 := 0) (J2 := 0) (fun ow pc ps W => q_ckx W hI.2.1 (by omega) hw8 hI.2.2.2.1 hck)) (fun v hp1 c1 s1 hv => ?_)
    obtain ⟨rfl, B1⟩ := hv
    obtain ⟨tt1, sd1, fx1, fy1, gL1, gla1, gio1, gx1, gy1, gl8, go8⟩ := S2T.lk B1
    refine At.go (q := xm203) rfl 2 (pc' := 348) (L' := [(0, .ref L), (1, .int (Int32.ofNat i)), (2, .int (Int32.ofNat how)), (5, .int x5), (7, .int (Int32.ofNat w)), (8, .long wd), (10, .int x10), (13, .long tw)]) (st' := [.int (lg_cmp wd wd)]) rfl ?_
    rw [lgc_self]
    refine At.go (q := xm203) rfl 4 (pc' := 358) (L' := [(15, .int 1), (0, .ref L), (1, .int (Int32.ofNat i)), (2, .int (Int32.ofNat how)), (5, .int x5), (7, .int (Int32.ofNat w)), (8, .long wd), (10, .int x10), (13, .long tw)]) (st' := []) rfl ?_
    refine At.wk (L' := [(0, .ref L), (1, .int (Int32.ofNat i)), (2, .int (Int32.ofNat how)), (5, .int x5), (13, .long tw), (15, .int 1)]) (List.forall_mem_cons.mpr ⟨List.mem_of_getElem? (i := 1) rfl, (List.forall_mem_cons.mpr ⟨List.mem_of_getElem? (i := 2) rfl, (List.forall_mem_cons.mpr ⟨List.mem_of_getElem? (i := 3) rfl, (List.forall_mem_cons.mpr ⟨List.mem_of_getElem? (i := 4) rfl, (List.forall_mem_cons.mpr ⟨List.mem_of_getElem? (i := 8) rfl, (List.forall_mem_cons.mpr ⟨List.mem_of_getElem? (i := 0) rfl, (fun _ h => (List.not_mem_nil h).elim)⟩)⟩)⟩)⟩)⟩)⟩) (show ([15, 0, 1, 2, 5, 7, 8, 10, 13] : List Nat).Nodup by decide) ?_
    exact ac_358 hI hi hh hK hJ hop B1 hdt hdF
theorem ac_307 {S : List Int32} {A B : Nat → Nat} {L la io : Nat} {h0 hp : List XC} {ow0 : Nat → Nat} {M N : HM} {lbs ops : List Int32} {top : Int32} {dt pc ps nc ns K J : Nat} {i how c d dtF : Nat} {x10 x16 : Int32} {bf : Int64} {x5 : Int32} {tw wd : Int64} {w : Nat} (hI : LI top M N lbs ops c d i) (hd : d ≤ 30) (hi : i < 8) (hh : how < 12) (hw8 : w < 8) (hK : K ≤ 260) (hJ : J ≤ 110000) (hop : ¬ how = 0 ∨ tw < 0 ∨ (M.2.2.2.1 i).2.2.1 = true) (h10 : x10 = 0 ∨ ckE M w = wd) (h16 : x16 = 0 ∨ ckE M i = bf) (B0 : S2T A B L la io h0 hp ow0 M N lbs ops top dt pc ps nc ns K J (.retAddr 75) []) (hdt : dt ≤ dtF) (hdF : dtF ≤ 100000) : At S 15 203 307 [(0, .ref L), (1, .int (Int32.ofNat i)), (2, .int (Int32.ofNat how)), (5, .int x5), (7, .int (Int32.ofNat w)), (8, .long wd), (10, .int x10), (11, .long bf), (13, .long tw), (15, .int 1), (16, .int x16)] [] hp nc ns (AcR A B L la io h0 ow0 top dtF pc ps c d) := by
  by_cases hx : x16 = 0
  · subst hx
    obtain ⟨tt0, sd0, fx0, fy0, gL0, gla0, gio0, gx0, gy0, gl8, go8⟩ := S2T.lk B0
    refine At.go (q := xm203) rfl 4 (pc' := 331) (L' := [(0, .ref L), (1, .int (Int32.ofNat i)), (2, .int (Int32.ofNat how)), (5, .int x5), (7, .int (Int32.ofNat w)), (8, .long wd), (10, .int x10), (11, .long bf), (13, .long tw), (15, .int 1), (16, .int 0)]) (st' := []) rfl ?_
    refine At.wk (L' := [(0, .ref L), (1, .int (Int32.ofNat i)), (2, .int (Int32.ofNat how)), (5, .int x5), (7, .int (Int32.ofNat w)), (8, .long wd), (10, .int x10), (13, .long tw)]) (List.forall_mem_cons.mpr ⟨List.mem_of_getElem? (i := 0) rfl, (List.forall_mem_cons.mpr ⟨List.mem_of_getElem? (i := 1) rfl, (List.forall_mem_cons.mpr ⟨List.mem_of_getElem? (i := 2) rfl, (List.forall_mem_cons.mpr ⟨List.mem_of_getElem? (i := 3) rfl, (List.forall_mem_cons.mpr ⟨List.mem_of_getElem? (i := 4) rfl, (List.forall_mem_cons.mpr ⟨List.mem_of_getElem? (i := 5) rfl, (List.forall_mem_cons.mpr ⟨List.mem_of_getElem? (i := 6) rfl, (List.forall_mem_cons.mpr ⟨List.mem_of_getElem? (i := 8) rfl, (fun _ h => (List.not_mem_nil h).elim)⟩)⟩)⟩)⟩)⟩)⟩)⟩)⟩) (show ([0, 1, 2, 5, 7, 8, 10, 11, 13, 15, 16] : List Nat).Nodup by decide) ?_
    exact ac_331 hI hd hi hh hw8 hK hJ hop h10 B0 hdt hdF
  · obtain ⟨tt0, sd0, fx0, fy0, gL0, gla0, gio0, gx0, gy0, gl8, go8⟩ := S2T.lk B0
    have hbf : ckE M i = bf := h16.resolve_left hx
    refine At.go (q := xm203) rfl 3 (pc' := 314) (L' := [(0, .ref L), (1, .int (Int32.ofNat i)), (2, .int (Int32.ofNat how)), (5, .int x5), (7, .int (Int32.ofNat w)), (8, .long wd), (10, .int x10), (11, .long bf), (13, .long tw), (15, .int 1), (16, .int x16)]) (st' := [.int x16]) rfl ?_
    refine At.ic1 (tgt := 331) rfl rfl (fun h9 => absurd (of_decide_eq_true h9) hx) (fun _ => ?_)
    refine At.go (q := xm203) rfl 1 (pc' := 318) (L' := [(0, .ref L), (1, .int (Int32.ofNat i)), (2, .int (Int32.ofNat how)), (5, .int x5), (7, .int (Int32.ofNat w)), (8, .long wd), (10, .int x10), (11, .long bf), (13, .long tw), (15, .int 1), (16, .int x16)]) (st' := [.ref L]) rfl ?_
    refine At.gf rfl (by decide) gL0 rfl ?_
    refine At.go (q := xm203) rfl 1 (pc' := 322) (L' := [(0, .ref L), (1, .int (Int32.ofNat i)), (2, .int (Int32.ofNat how)), (5, .int x5), (7, .int (Int32.ofNat w)), (8, .long wd), (10, .int x10), (11, .long bf), (13, .long tw), (15, .int 1), (16, .int x16)]) (st' := [.int (Int32.ofNat i), .ref (A 0)]) rfl ?_
    refine At.clm (as := [.ref (A 0), .int (Int32.ofNat i)]) (rest := []) rfl (by decide) rfl (Nat.le_of_ble_eq_true rfl) (Nat.le_of_ble_eq_true rfl) (xrck_o (by decide) (by decide) gx0 (by decide)) (Nat.le_of_ble_eq_true rfl) (S2T.same B0 (K2 := 0) (J2 := 0) (fun ow pc ps W => q_ckx W hI.2.1 (by omega) hi hI.2.2.2.1 hbf)) (fun v hp1 c1 s1 hv => ?_)
    obtain ⟨rfl, B1⟩ := hv
    obtain ⟨tt1, sd1, fx1, fy1, gL1, gla1, gio1, gx1, gy1, gl8, go8⟩ := S2T.lk B1
    refine At.go (q := xm203) rfl 2 (pc' := 328) (L' := [(0, .ref L), (1, .int (Int32.ofNat i)), (2, .int (Int32.ofNat how)), (5, .int x5), (7, .int (Int32.ofNat w)), (8, .long wd), (10, .int x10), (11, .long bf), (13, .long tw), (15, .int 1), (16, .int x16)]) (st' := [.int (lg_cmp bf bf)]) rfl ?_
    rw [lgc_self]
    refine At.go (q := xm203) rfl 1 (pc' := 331) (L' := [(0, .ref L), (1, .int (Int32.ofNat i)), (2, .int (Int32.ofNat how)), (5, .int x5), (7, .int (Int32.ofNat w)), (8, .long wd), (10, .int x10), (11, .long bf), (13, .long tw), (15, .int 1), (16, .int x16)]) (st' := []) rfl ?_
    refine At.wk (L' := [(0, .ref L), (1, .int (Int32.ofNat i)), (2, .int (Int32.ofNat how)), (5, .int x5), (7, .int (Int32.ofNat w)), (8, .long wd), (10, .int x10), (13, .long tw)]) (List.forall_mem_cons.mpr ⟨List.mem_of_getElem? (i := 0) rfl, (List.forall_mem_cons.mpr ⟨List.mem_of_getElem? (i := 1) rfl, (List.forall_mem_cons.mpr ⟨List.mem_of_getElem? (i := 2) rfl, (List.forall_mem_cons.mpr ⟨List.mem_of_getElem? (i := 3) rfl, (List.forall_mem_cons.mpr ⟨List.mem_of_getElem? (i := 4) rfl, (List.forall_mem_cons.mpr ⟨List.mem_of_getElem? (i := 5) rfl, (List.forall_mem_cons.mpr ⟨List.mem_of_getElem? (i := 6) rfl, (List.forall_mem_cons.mpr ⟨List.mem_of_getElem? (i := 8) rfl, (fun _ h => (List.not_mem_nil h).elim)⟩)⟩)⟩)⟩)⟩)⟩)⟩)⟩) (show ([0, 1, 2, 5, 7, 8, 10, 11, 13, 15, 16] : List Nat).Nodup by decide) ?_
    exact ac_331 hI hd hi hh hw8 hK hJ hop h10 B1 hdt hdF
theorem how3 {n : Nat} (h : xcm .le (Int32.ofNat n) 2 = false) (hn : n < 12 := by omega) : 3 ≤ n := by
  have h9 : ∀ n, n < 12 → xcm .le (Int32.ofNat n) 2 = false → 3 ≤ n := by decide
  exact h9 n hn h
theorem lgc_ge {a : Int64} (h : xcm .ge (lg_cmp a 0) 0 = false) : a < 0 := lgc_neg (Int32.not_le.mp (of_decide_eq_false h))
theorem ac_288 {S : List Int32} {A B : Nat → Nat} {L la io : Nat} {h0 hp : List XC} {ow0 : Nat → Nat} {M N : HM} {lbs ops : List Int32} {top : Int32} {dt pc ps nc ns K J : Nat} {i how c d dtF : Nat} {x10 : Int32} {bf : Int64} {x5 : Int32} {tw wd : Int64} {w : Nat} (hI : LI top M N lbs ops c d i) (hd : d ≤ 30) (hi : i < 8) (hh : how < 12) (hw8 : w < 8) (hK : K ≤ 260) (hJ : J ≤ 110000) (hop : ¬ how = 0 ∨ tw < 0 ∨ (M.2.2.2.1 i).2.2.1 = true) (h10 : x10 = 0 ∨ ckE M w = wd) (htd : 3 ≤ how → tw < 0 → ckE M i = bf) (B0 : S2T A B L la io h0 hp ow0 M N lbs ops top dt pc ps nc ns K J (.retAddr 75) []) (hdt : dt ≤ dtF) (hdF : dtF ≤ 100000) : At S 15 203 288 [(0, .ref L), (1, .int (Int32.ofNat i)), (2, .int (Int32.ofNat how)), (5, .int x5), (7, .int (Int32.ofNat w)), (8, .long wd), (10, .int x10), (11, .long bf), (13, .long tw), (15, .int 1)] [] hp nc ns (AcR A B L la io h0 ow0 top dtF pc ps c d) := by
  obtain ⟨tt0, sd0, fx0, fy0, gL0, gla0, gio0, gx0, gy0, gl8, go8⟩ := S2T.lk B0
  refine At.go (q := xm203) rfl 3 (pc' := 292) (L' := [(0, .ref L), (1, .int (Int32.ofNat i)), (2, .int (Int32.ofNat how)), (5, .int x5), (7, .int (Int32.ofNat w)), (8, .long wd), (10, .int x10), (11, .long bf), (13, .long tw), (15, .int 1)]) (st' := [.int (lg_cmp tw 0)]) rfl ?_
  refine At.ic1 (tgt := 304) rfl rfl (fun h292 => ?_) (fun h292 => ?_)
  · refine At.go (q := xm203) rfl 2 (pc' := 307) (L' := [(16, .int 0), (0, .ref L), (1, .int (Int32.ofNat i)), (2, .int (Int32.ofNat how)), (5, .int x5), (7, .int (Int32.ofNat w)), (8, .long wd), (10, .int x10), (11, .long bf), (13, .long tw), (15, .int 1)]) (st' := []) rfl ?_
    refine At.wk (L' := [(0, .ref L), (1, .int (Int32.ofNat i)), (2, .int (Int32.ofNat how)), (5, .int x5), (7, .int (Int32.ofNat w)), (8, .long wd), (10, .int x10), (11, .long bf), (13, .long tw), (15, .int 1), (16, .int 0)]) (List.forall_mem_cons.mpr ⟨List.mem_of_getElem? (i := 1) rfl, (List.forall_mem_cons.mpr ⟨List.mem_of_getElem? (i := 2) rfl, (List.forall_mem_cons.mpr ⟨List.mem_of_getElem? (i := 3) rfl, (List.forall_mem_cons.mpr ⟨List.mem_of_getElem? (i := 4) rfl, (List.forall_mem_cons.mpr ⟨List.mem_of_getElem? (i := 5) rfl, (List.forall_mem_cons.mpr ⟨List.mem_of_getElem? (i := 6) rfl, (List.forall_mem_cons.mpr ⟨List.mem_of_getElem? (i := 7) rfl, (List.forall_mem_cons.mpr ⟨List.mem_of_getElem? (i := 8) rfl, (List.forall_mem_cons.mpr ⟨List.mem_of_getElem? (i := 9) rfl, (List.forall_mem_cons.mpr ⟨List.mem_of_getElem? (i := 10) rfl, (List.forall_mem_cons.mpr ⟨List.mem_of_getElem? (i := 0) rfl, (fun _ h => (List.not_mem_nil h).elim)⟩)⟩)⟩)⟩)⟩)⟩)⟩)⟩)⟩)⟩)⟩) (show ([16, 0, 1, 2, 5, 7, 8, 10, 11, 13, 15] : List Nat).Nodup by decide) ?_
    exact ac_307 hI hd hi hh hw8 hK hJ hop h10 (Or.inl rfl) B0 hdt hdF
  · refine At.go (q := xm203) rfl 2 (pc' := 297) (L' := [(0, .ref L), (1, .int (Int32.ofNat i)), (2, .int (Int32.ofNat how)), (5, .int x5), (7, .int (Int32.ofNat w)), (8, .long wd), (10, .int x10), (11, .long bf), (13, .long tw), (15, .int 1)]) (st' := [.int 2, .int (Int32.ofNat how)]) rfl ?_
    refine At.ic2 (tgt := 304) rfl rfl (fun h297 => ?_) (fun h297 => ?_)
    · refine At.go (q := xm203) rfl 2 (pc' := 307) (L' := [(16, .int 0), (0, .ref L), (1, .int (Int32.ofNat i)), (2, .int (Int32.ofNat how)), (5, .int x5), (7, .int (Int32.ofNat w)), (8, .long wd), (10, .int x10), (11, .long bf), (13, .long tw), (15, .int 1)]) (st' := []) rfl ?_
      refine At.wk (L' := [(0, .ref L), (1, .int (Int32.ofNat i)), (2, .int (Int32.ofNat how)), (5, .int x5), (7, .int (Int32.ofNat w)), (8, .long wd), (10, .int x10), (11, .long bf), (13, .long tw), (15, .int 1), (16, .int 0)]) (List.forall_mem_cons.mpr ⟨List.mem_of_getElem? (i := 1) rfl, (List.forall_mem_cons.mpr ⟨List.mem_of_getElem? (i := 2) rfl, (List.forall_mem_cons.mpr ⟨List.mem_of_getElem? (i := 3) rfl, (List.forall_mem_cons.mpr ⟨List.mem_of_getElem? (i := 4) rfl, (List.forall_mem_cons.mpr ⟨List.mem_of_getElem? (i := 5) rfl, (List.forall_mem_cons.mpr ⟨List.mem_of_getElem? (i := 6) rfl, (List.forall_mem_cons.mpr ⟨List.mem_of_getElem? (i := 7) rfl, (List.forall_mem_cons.mpr ⟨List.mem_of_getElem? (i := 8) rfl, (List.forall_mem_cons.mpr ⟨List.mem_of_getElem? (i := 9) rfl, (List.forall_mem_cons.mpr ⟨List.mem_of_getElem? (i := 10) rfl, (List.forall_mem_cons.mpr ⟨List.mem_of_getElem? (i := 0) rfl, (fun _ h => (List.not_mem_nil h).elim)⟩)⟩)⟩)⟩)⟩)⟩)⟩)⟩)⟩)⟩)⟩) (show ([16, 0, 1, 2, 5, 7, 8, 10, 11, 13, 15] : List Nat).Nodup by decide) ?_
      exact ac_307 hI hd hi hh hw8 hK hJ hop h10 (Or.inl rfl) B0 hdt hdF
    · refine At.go (q := xm203) rfl 3 (pc' := 307) (L' := [(16, .int 1), (0, .ref L), (1, .int (Int32.ofNat i)), (2, .int (Int32.ofNat how)), (5, .int x5), (7, .int (Int32.ofNat w)), (8, .long wd), (10, .int x10), (11, .long bf), (13, .long tw), (15, .int 1)]) (st' := []) rfl ?_
      refine At.wk (L' := [(0, .ref L), (1, .int (Int32.ofNat i)), (2, .int (Int32.ofNat how)), (5, .int x5), (7, .int (Int32.ofNat w)), (8, .long wd), (10, .int x10), (11, .long bf), (13, .long tw), (15, .int 1), (16, .int 1)]) (List.forall_mem_cons.mpr ⟨List.mem_of_getElem? (i := 1) rfl, (List.forall_mem_cons.mpr ⟨List.mem_of_getElem? (i := 2) rfl, (List.forall_mem_cons.mpr ⟨List.mem_of_getElem? (i := 3) rfl, (List.forall_mem_cons.mpr ⟨List.mem_of_getElem? (i := 4) rfl, (List.forall_mem_cons.mpr ⟨List.mem_of_getElem? (i := 5) rfl, (List.forall_mem_cons.mpr ⟨List.mem_of_getElem? (i := 6) rfl, (List.forall_mem_cons.mpr ⟨List.mem_of_getElem? (i := 7) rfl, (List.forall_mem_cons.mpr ⟨List.mem_of_getElem? (i := 8) rfl, (List.forall_mem_cons.mpr ⟨List.mem_of_getElem? (i := 9) rfl, (List.forall_mem_cons.mpr ⟨List.mem_of_getElem? (i := 10) rfl, (List.forall_mem_cons.mpr ⟨List.mem_of_getElem? (i := 0) rfl, (fun _ h => (List.not_mem_nil h).elim)⟩)⟩)⟩)⟩)⟩)⟩)⟩)⟩)⟩)⟩)⟩) (show ([16, 0, 1, 2, 5, 7, 8, 10, 11, 13, 15] : List Nat).Nodup by decide) ?_
      exact ac_307 hI hd hi hh hw8 hK hJ hop h10 (Or.inr (htd (how3 h297) (lgc_ge h292))) B0 hdt hdF
