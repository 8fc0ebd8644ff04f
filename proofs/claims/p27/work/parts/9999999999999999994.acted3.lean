/-! the law's acted, whole (by gal.py) -/
theorem w_isLow {S : List Int32} {A B : Nat → Nat} {L la io i : Nat} {hp : List XC} {ow : Nat → Nat} {M N : HM} {lbs ops : List Int32} {top : Int32} {dt pc ps c d x : Nat} (W : W2 A B L la io hp ow M N lbs ops top dt pc ps) (hI : LI top M N lbs ops c d x) (ht : isT3 top) (hi : i < 8) : Pu S 0 26 [.ref L, .int (Int32.ofNat i)] hp (.int (bI (isB (M.2.2.2.1 i).1 top))) := m_isLow W hi (hI.2.2.2.2.2.1 i hi) (hI.2.1.1.lab hi) ht
theorem l4_n {x : Int32} (h : isL4 x = true) : ∃ n, n < 64 ∧ x = Int32.ofNat n := by
  rcases isL4_c h with e | e | e | e
  · exact ⟨0, by decide, e⟩
  · exact ⟨1, by decide, e⟩
  · exact ⟨16, by decide, e⟩
  · exact ⟨17, by decide, e⟩
/-- a session enters under another label, in both houses -/
theorem li_ent {top lb : Int32} {M N : HM} {lbs ops : List Int32} {c d i : Nat} (hI : LI top M N lbs ops c d 8) (hi : i < 8) (hlb : isL4 lb = true) (hl8 : lbs.length = 8) (ho8 : ops.length = 8) : LI top (entM M i lb) (entM N i lb) (lbs.set i lb) (ops.set i 0) c d 8 := by
  obtain ⟨⟨f, g, R⟩, h2, h3, h4, h5, h6, h7⟩ := hI
  refine ⟨⟨f, g, lo_ent R⟩, wfh_ent h2 hi hlb, wfh_ent h3 hi hlb, lz_s h4 rfl, lz_s h5 rfl, fun j hj => ?_, fun j hj hne => ?_⟩
  · rw [set_at (by omega)]
    by_cases e : j = i
    · rw [if_pos e, e]
      show some lb = some ((mS M i (lb, 0, false, [], [], (M.2.2.2.1 i).2.2.2.2.2.1, (0, 0, []), 0, (M.2.2.2.1 i).2.2.2.2.2.2.2.2)).2.2.2.1 i).1
      rw [mS_at]
    · rw [if_neg e, h6 j hj]
      show some (M.2.2.2.1 j).1 = some ((mS M i (lb, 0, false, [], [], (M.2.2.2.1 i).2.2.2.2.2.1, (0, 0, []), 0, (M.2.2.2.1 i).2.2.2.2.2.2.2.2)).2.2.2.1 j).1
      rw [mS_ne e]
  · rw [set_at (by omega)]
    by_cases e : j = i
    · rw [if_pos e, e]
      show some (0 : Int32) = some (bI ((mS M i (lb, 0, false, [], [], (M.2.2.2.1 i).2.2.2.2.2.1, (0, 0, []), 0, (M.2.2.2.1 i).2.2.2.2.2.2.2.2)).2.2.2.1 i).2.2.1)
      rw [mS_at]
      rfl
    · rw [if_neg e, h7 j hj hne]
      show some (bI (M.2.2.2.1 j).2.2.1) = some (bI ((mS M i (lb, 0, false, [], [], (M.2.2.2.1 i).2.2.2.2.2.1, (0, 0, []), 0, (M.2.2.2.1 i).2.2.2.2.2.2.2.2)).2.2.2.1 j).2.2.1)
      rw [mS_ne e]
theorem w_entx {S : List Int32} {A B : Nat → Nat} {L la io i : Nat} {hp : List XC} {ow : Nat → Nat} {M N : HM} {lbs ops : List Int32} {top lb x : Int32} {dt pc ps : Nat} (W : W2 A B L la io hp ow M N lbs ops top dt pc ps) (hi : i < 8) (hlb : isL4 lb = true) (hx : (M.2.2.2.1 i).1 = x) : Me S 4 19 [.ref (A 0), .int (Int32.ofNat i), .int lb] hp (fun v hp' c s => ∃ M2 N2, (v = some (.int x) ∧ M2 = entM M i lb ∧ N2 = N) ∧ S2 A B L la io hp hp' ow M2 N2 lbs ops top dt pc ps c s 0 0) :=
  me_imp (W.x (P := fun v M' => v = some (.int x) ∧ M' = entM M i lb) (fun rx px lx h => me_imp (h_enter h hi (l4_lb hlb)) (fun v hp' c s k => by
    rw [hx] at k
    exact ⟨_, _, ⟨k.1, rfl⟩, k.2⟩))) (fun v hp' c s k => by
    obtain ⟨M', ⟨k1, k2⟩, k3⟩ := k
    exact ⟨_, _, ⟨k1, k2, rfl⟩, k3⟩)
theorem w_enty {S : List Int32} {A B : Nat → Nat} {L la io i : Nat} {hp : List XC} {ow : Nat → Nat} {M N : HM} {lbs ops : List Int32} {top lb x : Int32} {dt pc ps : Nat} (W : W2 A B L la io hp ow M N lbs ops top dt pc ps) (hi : i < 8) (hlb : isL4 lb = true) (hx : (N.2.2.2.1 i).1 = x) : Me S 4 19 [.ref (B 0), .int (Int32.ofNat i), .int lb] hp (fun v hp' c s => ∃ M2 N2, (v = some (.int x) ∧ M2 = M ∧ N2 = entM N i lb) ∧ S2 A B L la io hp hp' ow M2 N2 lbs ops top dt pc ps c s 0 0) :=
  me_imp (W.y (P := fun v M' => v = some (.int x) ∧ M' = entM N i lb) (fun rx px lx h => me_imp (h_enter h hi (l4_lb hlb)) (fun v hp' c s k => by
    rw [hx] at k
    exact ⟨_, _, ⟨k.1, rfl⟩, k.2⟩))) (fun v hp' c s k => by
    obtain ⟨M', ⟨k1, k2⟩, k3⟩ := k
    exact ⟨_, _, ⟨k1, rfl, k2⟩, k3⟩)
theorem ac_51 {S : List Int32} {A B : Nat → Nat} {L la io : Nat} {h0 hp : List XC} {ow0 : Nat → Nat} {M N : HM} {lbs ops : List Int32} {top : Int32} {dt pc ps nc ns K J : Nat} {i c d dtF : Nat} {lb : Int32} (hI : LI top M N lbs ops c d 8) (hi : i < 8) (hlb : isL4 lb = true) (hK : K ≤ 60) (hJ : J ≤ 9000) (B0 : S2T A B L la io h0 hp ow0 M N lbs ops top dt pc ps nc ns K J (.retAddr 75) []) (hdt : dt ≤ dtF) (hdF : dtF ≤ 100000) : At S 15 203 51 [(0, .ref L), (1, .int (Int32.ofNat i)), (3, .int lb)] [] hp nc ns (AcR A B L la io h0 ow0 top dtF pc ps (c + 1) (d + 1)) := by
  obtain ⟨f0, g0, R0⟩ := hI.1
  obtain ⟨tt0, sd0, fx0, fy0, gL0, gla0, gio0, gx0, gy0, gl8a, go8a⟩ := S2T.lk B0
  refine At.go (q := xm203) rfl 1 (pc' := 52) (L' := [(0, .ref L), (1, .int (Int32.ofNat i)), (3, .int lb)]) (st' := [.ref L]) rfl ?_
  refine At.gf rfl (by decide) gL0 rfl ?_
  refine At.go (q := xm203) rfl 2 (pc' := 57) (L' := [(0, .ref L), (1, .int (Int32.ofNat i)), (3, .int lb)]) (st' := [.int lb, .int (Int32.ofNat i), .ref la]) rfl ?_
  refine At.as rfl gla0 (by decide) rfl (iN_nn (by omega)) (by rw [iN_tn (by omega), List.length_map, gl8a]; omega) ?_
  rw [iN_tn (show i < 2 ^ 31 by omega), show vp_nar (xTy 0) lb = lb from rfl]
  have B1 := S2T.setl (i := i) (x := lb) B0
  obtain ⟨hp1, eh1⟩ : ∃ h, h = hp.set la (.inl (0, (lbs.map Value.int).set i (.int lb))) := ⟨_, rfl⟩
  refine At.hpe eh1 ?_
  rw [← eh1] at B1
  obtain ⟨tt1, sd1, fx1, fy1, gL1, gla1, gio1, gx1, gy1, gl8, go8⟩ := S2T.lk B1
  refine At.go (q := xm203) rfl 1 (pc' := 59) (L' := [(0, .ref L), (1, .int (Int32.ofNat i)), (3, .int lb)]) (st' := [.ref L]) rfl ?_
  refine At.gf rfl (by decide) gL1 rfl ?_
  refine At.go (q := xm203) rfl 2 (pc' := 64) (L' := [(0, .ref L), (1, .int (Int32.ofNat i)), (3, .int lb)]) (st' := [.int 0, .int (Int32.ofNat i), .ref io]) rfl ?_
  refine At.as rfl gio1 (by decide) rfl (iN_nn (by omega)) (by rw [iN_tn (by omega), List.length_map, go8a]; omega) ?_
  rw [iN_tn (show i < 2 ^ 31 by omega), show vp_nar (xTy 3) 0 = 0 from rfl]
  have B2 := S2T.seto (i := i) (x := 0) B1
  obtain ⟨hp2, eh2⟩ : ∃ h, h = hp1.set io (.inl (3, (ops.map Value.int).set i (.int 0))) := ⟨_, rfl⟩
  refine At.hpe eh2 ?_
  rw [← eh2] at B2
  obtain ⟨tt2, sd2, fx2, fy2, gL2, gla2, gio2, gx2, gy2, gl8, go8⟩ := S2T.lk B2
  refine At.go (q := xm203) rfl 1 (pc' := 66) (L' := [(0, .ref L), (1, .int (Int32.ofNat i)), (3, .int lb)]) (st' := [.ref L]) rfl ?_
  refine At.gf rfl (by decide) gL2 rfl ?_
  refine At.go (q := xm203) rfl 2 (pc' := 71) (L' := [(0, .ref L), (1, .int (Int32.ofNat i)), (3, .int lb)]) (st' := [.int lb, .int (Int32.ofNat i), .ref (A 0)]) rfl ?_
  refine At.clm (as := [.ref (A 0), .int (Int32.ofNat i), .int lb]) (rest := []) rfl (by decide) rfl (Nat.le_of_ble_eq_true rfl) (Nat.le_of_ble_eq_true rfl) (xrck_o (by decide) (by decide) gx2 (by decide)) (Nat.le_of_ble_eq_true rfl) (S2T.thn B2 (P := fun v M2 N2 => v = some (.int (M.2.2.2.1 i).1) ∧ M2 = (entM M i lb) ∧ N2 = N) (K2 := 0) (J2 := 0) (fun ow pc ps W hT => w_entx W hi hlb rfl)) (fun v hp3 c3 s3 hv => ?_)
  obtain ⟨M3, N3, ⟨rfl, eM, eN⟩, B3⟩ := hv
  rw [eM, eN] at B3
  clear eM eN
  obtain ⟨tt3, sd3, fx3, fy3, gL3, gla3, gio3, gx3, gy3, gl8, go8⟩ := S2T.lk B3
  refine At.go (q := xm203) rfl 1 (pc' := 75) (L' := [(0, .ref L), (1, .int (Int32.ofNat i)), (3, .int lb)]) (st' := [.ref L, .int (M.2.2.2.1 i).1]) rfl ?_
  refine At.gf rfl (by decide) gL3 rfl ?_
  refine At.go (q := xm203) rfl 2 (pc' := 80) (L' := [(0, .ref L), (1, .int (Int32.ofNat i)), (3, .int lb)]) (st' := [.int lb, .int (Int32.ofNat i), .ref (B 0), .int (M.2.2.2.1 i).1]) rfl ?_
  refine At.clm (as := [.ref (B 0), .int (Int32.ofNat i), .int lb]) (rest := [.int (M.2.2.2.1 i).1]) rfl (by decide) rfl (Nat.le_of_ble_eq_true rfl) (Nat.le_of_ble_eq_true rfl) (xrck_o (by decide) (by decide) gy3 (by decide)) (Nat.le_of_ble_eq_true rfl) (S2T.thn B3 (P := fun v M2 N2 => v = some (.int (M.2.2.2.1 i).1) ∧ M2 = (entM M i lb) ∧ N2 = (entM N i lb)) (K2 := 0) (J2 := 0) (fun ow pc ps W hT => w_enty W hi hlb (R0.lab hi))) (fun v hp4 c4 s4 hv => ?_)
  obtain ⟨M4, N4, ⟨rfl, eM, eN⟩, B4⟩ := hv
  rw [eM, eN] at B4
  clear eM eN
  obtain ⟨tt4, sd4, fx4, fy4, gL4, gla4, gio4, gx4, gy4, gl8, go8⟩ := S2T.lk B4
  refine At.ic2 (tgt := 90) rfl rfl (fun h => absurd h (by simp [xcm])) (fun _ => ?_)
  refine At.go (q := xm203) rfl 2 (pc' := 91) (L' := [(0, .ref L), (1, .int (Int32.ofNat i)), (3, .int lb)]) (st' := [.int 1]) rfl ?_
  obtain ⟨k1, k2, k3, k4, k5, k6, k7⟩ := li_ent hI hi hlb gl8a go8a
  exact At.rt rfl rfl ⟨_, _, _, rfl, _, _, _, _, ⟨k1, k2.mono (by omega) (by omega), k3.mono (by omega) (by omega), k4, k5, k6, k7⟩, S2.dtm (S2T.to2 B4) hdt hdF (by omega) (by omega)⟩
theorem ac_92 {S : List Int32} {A B : Nat → Nat} {L la io : Nat} {h0 hp : List XC} {ow0 : Nat → Nat} {M N : HM} {lbs ops : List Int32} {top : Int32} {dt pc ps nc ns K J : Nat} {i how c d dtF ln : Nat} (hI : LI top M N lbs ops c d 8) (hd : d ≤ 29) (hc : c + 1 < 400) (hi : i < 8) (hh : how < 11) (hln : (M.2.2.2.1 i).1 = Int32.ofNat ln) (hl64 : ln < 64) (hS : S.length ≤ 1000) (ht : isT3 top) (hK : K ≤ 0) (hJ : J ≤ 0) (B0 : S2T A B L la io h0 hp ow0 M N lbs ops top dt pc ps nc ns K J (.retAddr 75) []) (hdt : dt + 10 ≤ dtF) (hdF : dtF ≤ 100000) : At S 15 203 92 [(0, .ref L), (1, .int (Int32.ofNat i)), (2, .int (Int32.ofNat how))] [] hp nc ns (AcR A B L la io h0 ow0 top dtF pc ps (c + 1) (d + 1)) := by
  obtain ⟨tt0, sd0, fx0, fy0, gL0, gla0, gio0, gx0, gy0, gl8, go8⟩ := S2T.lk B0
  refine At.go (q := xm203) rfl 2 (pc' := 94) (L' := [(0, .ref L), (1, .int (Int32.ofNat i)), (2, .int (Int32.ofNat how))]) (st' := [.int (Int32.ofNat i), .ref L]) rfl ?_
  refine At.clp (as := [.ref L, .int (Int32.ofNat i)]) (rest := []) rfl (by decide) rfl (Nat.le_of_ble_eq_true rfl) (Nat.le_of_ble_eq_true rfl) (xrck_o (by decide) (by decide) gL0 (by decide)) (Nat.le_of_ble_eq_true rfl) (S2T.pu B0 (fun ow pc ps W => w_isLow W hI ht hi)) ?_
  refine At.go (q := xm203) rfl 3 (pc' := 100) (L' := [(3, .int (bI (isB (M.2.2.2.1 i).1 top))), (0, .ref L), (1, .int (Int32.ofNat i)), (2, .int (Int32.ofNat how))]) (st' := [.int (bI (isB (M.2.2.2.1 i).1 top)), .ref L]) rfl ?_
  refine At.clm (as := [.ref L, .int (bI (isB (M.2.2.2.1 i).1 top))]) (rest := []) rfl (by decide) rfl (Nat.le_of_ble_eq_true rfl) (Nat.le_of_ble_eq_true rfl) (xrck_o (by decide) (by decide) gL0 (by decide)) (Nat.le_of_ble_eq_true rfl) (S2T.get B0 (fun ow pc ps W => m_stmt W (by omega) hS)) (fun v hp1 c1 s1 hv => ?_)
  obtain ⟨t9, ds, rfl, ⟨F, hcs, hdl, h5, hRun, hRs, hWf, hLo, hTl, hLz, hBz, hHi, hDT⟩, B1⟩ := hv
  obtain ⟨tt1, sd1, fx1, fy1, gL1, gla1, gio1, gx1, gy1, gl8, go8⟩ := S2T.lk B1
  obtain ⟨ow9, hT9⟩ := S2T.tx B1
  obtain ⟨⟨-, -, ⟨tv, va9, r9, e9, -, -⟩ | ⟨tv, va9, r9, e9, -, -⟩⟩, -⟩ := id hT9
  · subst e9
    refine At.go (q := xm203) rfl 1 (pc' := 105) (L' := [(4, .ref tv), (3, .int (bI (isB (M.2.2.2.1 i).1 top))), (0, .ref L), (1, .int (Int32.ofNat i)), (2, .int (Int32.ofNat how))]) (st' := []) rfl ?_
    refine At.wk (L' := [(0, .ref L), (1, .int (Int32.ofNat i)), (2, .int (Int32.ofNat how)), (3, .int (bI (isB (M.2.2.2.1 i).1 top))), (4, .ref tv)]) (List.forall_mem_cons.mpr ⟨List.mem_of_getElem? (i := 2) rfl, (List.forall_mem_cons.mpr ⟨List.mem_of_getElem? (i := 3) rfl, (List.forall_mem_cons.mpr ⟨List.mem_of_getElem? (i := 4) rfl, (List.forall_mem_cons.mpr ⟨List.mem_of_getElem? (i := 1) rfl, (List.forall_mem_cons.mpr ⟨List.mem_of_getElem? (i := 0) rfl, (fun _ h => (List.not_mem_nil h).elim)⟩)⟩)⟩)⟩)⟩) (show ([4, 3, 0, 1, 2] : List Nat).Nodup by decide) ?_
    exact ac_105R hI hd hc hi hh hln hl64 hS hcs hdl h5 hRun hRs hWf hLo hTl hLz hBz hHi rfl hDT (by omega) (by omega) B1 (by omega) hdF
  · subst e9
    refine At.go (q := xm203) rfl 1 (pc' := 105) (L' := [(4, .retAddr tv), (3, .int (bI (isB (M.2.2.2.1 i).1 top))), (0, .ref L), (1, .int (Int32.ofNat i)), (2, .int (Int32.ofNat how))]) (st' := []) rfl ?_
    refine At.wk (L' := [(0, .ref L), (1, .int (Int32.ofNat i)), (2, .int (Int32.ofNat how)), (3, .int (bI (isB (M.2.2.2.1 i).1 top))), (4, .retAddr tv)]) (List.forall_mem_cons.mpr ⟨List.mem_of_getElem? (i := 2) rfl, (List.forall_mem_cons.mpr ⟨List.mem_of_getElem? (i := 3) rfl, (List.forall_mem_cons.mpr ⟨List.mem_of_getElem? (i := 4) rfl, (List.forall_mem_cons.mpr ⟨List.mem_of_getElem? (i := 1) rfl, (List.forall_mem_cons.mpr ⟨List.mem_of_getElem? (i := 0) rfl, (fun _ h => (List.not_mem_nil h).elim)⟩)⟩)⟩)⟩)⟩) (show ([4, 3, 0, 1, 2] : List Nat).Nodup by decide) ?_
    exact ac_105K hI hd hc hi hh hln hl64 hS hcs hdl h5 hRun hRs hWf hLo hTl hLz hBz hHi rfl hDT (by omega) (by omega) B1 (by omega) hdF
theorem lb_01 {n : Nat} (h : n < 2) : isL4 (Int32.ofNat n) = true := by
  have h9 : ∀ n, n < 2 → isL4 (Int32.ofNat n) = true := by decide
  exact h9 n h
theorem fin9 {S : List Int32} {A B : Nat → Nat} {L la io d9 y9 p9 : Nat} {L9 : List (Nat × Value)} {st9 : List Value} {hp h0 : List XC} {ow0 : Nat → Nat} {top : Int32} {dt pc ps c d nc ns : Nat} (h : At S d9 y9 p9 L9 st9 hp nc ns (AcR A B L la io h0 ow0 top dt pc ps c d)) : At S d9 y9 p9 L9 st9 hp nc ns (fun o => ∃ v hp' c9 s9, o = .inl (v, hp', c9, s9) ∧ v = some (.int 1) ∧ ∃ M' N' lbs' ops', LI top M' N' lbs' ops' c d 8 ∧ S2 A B L la io h0 hp' ow0 M' N' lbs' ops' top dt pc ps c9 s9 260 110000) := At.mono h (fun o ho => by
  obtain ⟨hp', c9, s9, e, k⟩ := ho
  exact ⟨_, hp', c9, s9, e, rfl, k⟩)
theorem m_acted {S : List Int32} {A B : Nat → Nat} {L la io : Nat} {hp : List XC} {ow : Nat → Nat} {M N : HM} {lbs ops : List Int32} {top : Int32} {dt pc ps c d : Nat} (W : W2 A B L la io hp ow M N lbs ops top dt pc ps) (hI : LI top M N lbs ops c d 8) (ht : isT3 top) (hd : d ≤ 29) (hc : c + 1 < 400) (hdt : dt + 20 ≤ 100000) (hS : S.length ≤ 1000) : Me S 15 203 [.ref L] hp (fun v hp' c9 s9 => v = some (.int 1) ∧ ∃ M' N' lbs' ops', LI top M' N' lbs' ops' (c + 1) (d + 1) 8 ∧ S2 A B L la io hp hp' ow M' N' lbs' ops' top (dt + 20) pc ps c9 s9 260 110000) := by
  have B0 := S2T.of W
  obtain ⟨tt0, sd0, fx0, fy0, gL0, gla0, gio0, gx0, gy0, gl8, go8⟩ := S2T.lk B0
  refine At.go (q := xm203) rfl 2 (pc' := 2) (L' := [(0, .ref L)]) (st' := [.int 5, .ref L]) rfl ?_
  refine At.clm (as := [.ref L, .int 5]) (rest := []) rfl (by decide) rfl (Nat.le_of_ble_eq_true rfl) (Nat.le_of_ble_eq_true rfl) (xrck_o (by decide) (by decide) gL0 (by decide)) (Nat.le_of_ble_eq_true rfl) (S2T.draw B0 (m9 := 5) (by omega) hS (by decide) (by decide)) (fun v hp1 c1 s1 hv => ?_)
  obtain ⟨⟨n1, hn1, rfl⟩, B1⟩ := hv
  obtain ⟨tt1, sd1, fx1, fy1, gL1, gla1, gio1, gx1, gy1, gl8, go8⟩ := S2T.lk B1
  refine At.go (q := xm203) rfl 3 (pc' := 9) (L' := [(1, .int (Int32.ofNat n1)), (0, .ref L)]) (st' := [.int 12, .ref L]) rfl ?_
  refine At.clm (as := [.ref L, .int 12]) (rest := []) rfl (by decide) rfl (Nat.le_of_ble_eq_true rfl) (Nat.le_of_ble_eq_true rfl) (xrck_o (by decide) (by decide) gL1 (by decide)) (Nat.le_of_ble_eq_true rfl) (S2T.draw B1 (m9 := 12) (by omega) hS (by decide) (by decide)) (fun v hp2 c2 s2 hv => ?_)
  obtain ⟨⟨n2, hn2, rfl⟩, B2⟩ := hv
  obtain ⟨tt2, sd2, fx2, fy2, gL2, gla2, gio2, gx2, gy2, gl8, go8⟩ := S2T.lk B2
  refine At.go (q := xm203) rfl 3 (pc' := 16) (L' := [(2, .int (Int32.ofNat n2)), (1, .int (Int32.ofNat n1)), (0, .ref L)]) (st' := [.int 11, .int (Int32.ofNat n2)]) rfl ?_
  refine At.ic2 (tgt := 92) rfl rfl (fun h16 => ?_) (fun h16 => ?_)
  · refine At.wk (L' := [(0, .ref L), (1, .int (Int32.ofNat n1)), (2, .int (Int32.ofNat n2))]) (List.forall_mem_cons.mpr ⟨List.mem_of_getElem? (i := 2) rfl, (List.forall_mem_cons.mpr ⟨List.mem_of_getElem? (i := 1) rfl, (List.forall_mem_cons.mpr ⟨List.mem_of_getElem? (i := 0) rfl, (fun _ h => (List.not_mem_nil h).elim)⟩)⟩)⟩) (show ([2, 1, 0] : List Nat).Nodup by decide) ?_
    obtain ⟨ln, hl64, hln⟩ := l4_n (hI.2.1.1.lab (show n1 < 8 by omega))
    have hne : ¬ n2 = 11 := fun e => by rw [e] at h16; exact absurd h16 (by decide)
    exact fin9 (ac_92 hI hd hc (by omega) (by omega) hln hl64 hS ht (Nat.le_refl 0) (Nat.le_refl 0) B2 (dtF := dt + 20) (by omega) (by omega))
  · refine At.go (q := xm203) rfl 2 (pc' := 21) (L' := [(2, .int (Int32.ofNat n2)), (1, .int (Int32.ofNat n1)), (0, .ref L)]) (st' := [.int 3, .ref L]) rfl ?_
    refine At.clm (as := [.ref L, .int 3]) (rest := []) rfl (by decide) rfl (Nat.le_of_ble_eq_true rfl) (Nat.le_of_ble_eq_true rfl) (xrck_o (by decide) (by decide) gL2 (by decide)) (Nat.le_of_ble_eq_true rfl) (S2T.draw B2 (m9 := 3) (by omega) hS (by decide) (by decide)) (fun v hp3 c3 s3 hv => ?_)
    obtain ⟨⟨n3, hn3, rfl⟩, B3⟩ := hv
    obtain ⟨tt3, sd3, fx3, fy3, gL3, gla3, gio3, gx3, gy3, gl8, go8⟩ := S2T.lk B3
    refine At.ic1 (tgt := 32) rfl rfl (fun h24 => ?_) (fun h24 => ?_)
    · refine At.go (q := xm203) rfl 2 (pc' := 34) (L' := [(2, .int (Int32.ofNat n2)), (1, .int (Int32.ofNat n1)), (0, .ref L)]) (st' := [.int 2, .ref L]) rfl ?_
      refine At.clm (as := [.ref L, .int 2]) (rest := []) rfl (by decide) rfl (Nat.le_of_ble_eq_true rfl) (Nat.le_of_ble_eq_true rfl) (xrck_o (by decide) (by decide) gL3 (by decide)) (Nat.le_of_ble_eq_true rfl) (S2T.draw B3 (m9 := 2) (by omega) hS (by decide) (by decide)) (fun v hp4 c4 s4 hv => ?_)
      obtain ⟨⟨n4, hn4, rfl⟩, B4⟩ := hv
      obtain ⟨tt4, sd4, fx4, fy4, gL4, gla4, gio4, gx4, gy4, gl8, go8⟩ := S2T.lk B4
      refine At.ic1 (tgt := 45) rfl rfl (fun h37 => ?_) (fun h37 => ?_)
      · refine At.go (q := xm203) rfl 2 (pc' := 47) (L' := [(2, .int (Int32.ofNat n2)), (1, .int (Int32.ofNat n1)), (0, .ref L)]) (st' := [.int 2, .ref L]) rfl ?_
        refine At.clm (as := [.ref L, .int 2]) (rest := []) rfl (by decide) rfl (Nat.le_of_ble_eq_true rfl) (Nat.le_of_ble_eq_true rfl) (xrck_o (by decide) (by decide) gL4 (by decide)) (Nat.le_of_ble_eq_true rfl) (S2T.draw B4 (m9 := 2) (by omega) hS (by decide) (by decide)) (fun v hp5 c5 s5 hv => ?_)
        obtain ⟨⟨n5, hn5, rfl⟩, B5⟩ := hv
        obtain ⟨tt5, sd5, fx5, fy5, gL5, gla5, gio5, gx5, gy5, gl8, go8⟩ := S2T.lk B5
        refine At.go (q := xm203) rfl 1 (pc' := 51) (L' := [(3, .int (Int32.ofNat n5)), (2, .int (Int32.ofNat n2)), (1, .int (Int32.ofNat n1)), (0, .ref L)]) (st' := []) rfl ?_
        refine At.wk (L' := [(0, .ref L), (1, .int (Int32.ofNat n1)), (3, .int (Int32.ofNat n5))]) (List.forall_mem_cons.mpr ⟨List.mem_of_getElem? (i := 3) rfl, (List.forall_mem_cons.mpr ⟨List.mem_of_getElem? (i := 2) rfl, (List.forall_mem_cons.mpr ⟨List.mem_of_getElem? (i := 0) rfl, (fun _ h => (List.not_mem_nil h).elim)⟩)⟩)⟩) (show ([3, 2, 1, 0] : List Nat).Nodup by decide) ?_
        exact fin9 (ac_51 hI (by omega) (lb_01 hn5) (by omega) (by omega) B5 (dtF := dt + 20) (by omega) (by omega))
      · refine At.go (q := xm203) rfl 3 (pc' := 51) (L' := [(3, .int 16), (2, .int (Int32.ofNat n2)), (1, .int (Int32.ofNat n1)), (0, .ref L)]) (st' := []) rfl ?_
        refine At.wk (L' := [(0, .ref L), (1, .int (Int32.ofNat n1)), (3, .int 16)]) (List.forall_mem_cons.mpr ⟨List.mem_of_getElem? (i := 3) rfl, (List.forall_mem_cons.mpr ⟨List.mem_of_getElem? (i := 2) rfl, (List.forall_mem_cons.mpr ⟨List.mem_of_getElem? (i := 0) rfl, (fun _ h => (List.not_mem_nil h).elim)⟩)⟩)⟩) (show ([3, 2, 1, 0] : List Nat).Nodup by decide) ?_
        exact fin9 (ac_51 hI (by omega) (by decide) (by omega) (by omega) B4 (dtF := dt + 20) (by omega) (by omega))
    · refine At.go (q := xm203) rfl 3 (pc' := 51) (L' := [(3, .int 17), (2, .int (Int32.ofNat n2)), (1, .int (Int32.ofNat n1)), (0, .ref L)]) (st' := []) rfl ?_
      refine At.wk (L' := [(0, .ref L), (1, .int (Int32.ofNat n1)), (3, .int 17)]) (List.forall_mem_cons.mpr ⟨List.mem_of_getElem? (i := 3) rfl, (List.forall_mem_cons.mpr ⟨List.mem_of_getElem? (i := 2) rfl, (List.forall_mem_cons.mpr ⟨List.mem_of_getElem? (i := 0) rfl, (fun _ h => (List.not_mem_nil h).elim)⟩)⟩)⟩) (show ([3, 2, 1, 0] : List Nat).Nodup by decide) ?_
      exact fin9 (ac_51 hI (by omega) (by decide) (by omega) (by omega) B3 (dtF := dt + 20) (by omega) (by omega))
