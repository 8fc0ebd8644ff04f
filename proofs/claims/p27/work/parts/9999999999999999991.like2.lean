/-! the law's areLike, whole (by gal.py) -/
theorem m_like {S : List Int32} {A B : Nat → Nat} {L la io i ln c9 d9 c8 d8 : Nat} {hp : List XC} {ow : Nat → Nat} {M N : HM} {lbs ops : List Int32} {top : Int32} {dt pc ps : Nat} {w : Int32 → Bool} {f : Int32 → Int32} {g : Nat → Nat} (W : W2 A B L la io hp ow M N lbs ops top dt pc ps) (hdt : dt ≤ 100000) (hw : ∀ l lb, w lb = true → isB l lb = true → w l = true) (R : Rel w f g M N) (hM : WfH M c9 d9) (hN : WfH N c8 d8) (hdM : d9 ≤ 30) (hdN : d8 ≤ 30) (hi : i < 8) (hzM : LzM M) (hzN : LzM N) (hl : w (M.2.2.2.1 i).1 = true) (hx : lbs[i]? = some (M.2.2.2.1 i).1) (hln : (M.2.2.2.1 i).1 = Int32.ofNat ln) (hl64 : ln < 64) : Me S 10 257 [.ref L, .int (Int32.ofNat i)] hp (fun v hp' c s => v = some (.int 1) ∧ S2 A B L la io hp hp' ow M N lbs ops top dt pc ps c s 0 0) := by
  have B0 := S2T.of W
  obtain ⟨tt0, sd0, fx0, fy0, gL0, gla0, gio0, gx0, gy0, gl8, go8⟩ := S2T.lk B0
  refine At.go (q := xm257) rfl 1 (pc' := 1) (L' := [(0, .ref L), (1, .int (Int32.ofNat i))]) (st' := [.ref L]) rfl ?_
  refine At.gf rfl (by decide) gL0 rfl ?_
  refine At.go (q := xm257) rfl 1 (pc' := 5) (L' := [(0, .ref L), (1, .int (Int32.ofNat i))]) (st' := [.int (Int32.ofNat i), .ref (A 0)]) rfl ?_
  refine At.clm (as := [.ref (A 0), .int (Int32.ofNat i)]) (rest := []) rfl (by decide) rfl (Nat.le_of_ble_eq_true rfl) (Nat.le_of_ble_eq_true rfl) (xrck_o (by decide) (by decide) gx0 (by decide)) (Nat.le_of_ble_eq_true rfl) (S2T.same B0 (K2 := 0) (J2 := 0) (fun ow pc ps W => q_seenx W hM hdM hi)) (fun v hp1 c1 s1 hv => ?_)
  obtain ⟨rfl, B1⟩ := hv
  obtain ⟨tt1, sd1, fx1, fy1, gL1, gla1, gio1, gx1, gy1, gl8, go8⟩ := S2T.lk B1
  refine At.go (q := xm257) rfl 1 (pc' := 9) (L' := [(0, .ref L), (1, .int (Int32.ofNat i))]) (st' := [.ref L, .int (Int32.ofNat (lookE (TIq M.2.2.2.2.2.2) (vwE M i) (M.2.2.2.1 i).1).length)]) rfl ?_
  refine At.gf rfl (by decide) gL1 rfl ?_
  refine At.go (q := xm257) rfl 1 (pc' := 13) (L' := [(0, .ref L), (1, .int (Int32.ofNat i))]) (st' := [.int (Int32.ofNat i), .ref (B 0), .int (Int32.ofNat (lookE (TIq M.2.2.2.2.2.2) (vwE M i) (M.2.2.2.1 i).1).length)]) rfl ?_
  refine At.clm (as := [.ref (B 0), .int (Int32.ofNat i)]) (rest := [.int (Int32.ofNat (lookE (TIq M.2.2.2.2.2.2) (vwE M i) (M.2.2.2.1 i).1).length)]) rfl (by decide) rfl (Nat.le_of_ble_eq_true rfl) (Nat.le_of_ble_eq_true rfl) (xrck_o (by decide) (by decide) gy1 (by decide)) (Nat.le_of_ble_eq_true rfl) (S2T.same B1 (K2 := 0) (J2 := 0) (fun ow pc ps W => q_seeny W hN hdN hi (lo_seen hw R hM.1 hN.1 hi hl))) (fun v hp2 c2 s2 hv => ?_)
  obtain ⟨rfl, B2⟩ := hv
  obtain ⟨tt2, sd2, fx2, fy2, gL2, gla2, gio2, gx2, gy2, gl8, go8⟩ := S2T.lk B2
  refine At.ic2 (tgt := 101) rfl rfl (fun h => absurd h (by simp [xcm])) (fun _ => ?_)
  refine At.go (q := xm257) rfl 1 (pc' := 20) (L' := [(0, .ref L), (1, .int (Int32.ofNat i))]) (st' := [.ref L]) rfl ?_
  refine At.gf rfl (by decide) gL2 rfl ?_
  refine At.go (q := xm257) rfl 1 (pc' := 24) (L' := [(0, .ref L), (1, .int (Int32.ofNat i))]) (st' := [.int (Int32.ofNat i), .ref (A 0)]) rfl ?_
  refine At.clm (as := [.ref (A 0), .int (Int32.ofNat i)]) (rest := []) rfl (by decide) rfl (Nat.le_of_ble_eq_true rfl) (Nat.le_of_ble_eq_true rfl) (xrck_o (by decide) (by decide) gx2 (by decide)) (Nat.le_of_ble_eq_true rfl) (S2T.same B2 (K2 := 0) (J2 := 0) (fun ow pc ps W => q_ckx W hM hdM hi hzM rfl)) (fun v hp3 c3 s3 hv => ?_)
  obtain ⟨rfl, B3⟩ := hv
  obtain ⟨tt3, sd3, fx3, fy3, gL3, gla3, gio3, gx3, gy3, gl8, go8⟩ := S2T.lk B3
  refine At.go (q := xm257) rfl 1 (pc' := 28) (L' := [(0, .ref L), (1, .int (Int32.ofNat i))]) (st' := [.ref L, .long (ckE M i)]) rfl ?_
  refine At.gf rfl (by decide) gL3 rfl ?_
  refine At.go (q := xm257) rfl 1 (pc' := 32) (L' := [(0, .ref L), (1, .int (Int32.ofNat i))]) (st' := [.int (Int32.ofNat i), .ref (B 0), .long (ckE M i)]) rfl ?_
  refine At.clm (as := [.ref (B 0), .int (Int32.ofNat i)]) (rest := [.long (ckE M i)]) rfl (by decide) rfl (Nat.le_of_ble_eq_true rfl) (Nat.le_of_ble_eq_true rfl) (xrck_o (by decide) (by decide) gy3 (by decide)) (Nat.le_of_ble_eq_true rfl) (S2T.same B3 (K2 := 0) (J2 := 0) (fun ow pc ps W => q_cky W hN hdN hi hzN (lo_ck hw R hM.1 hN.1 hi hl))) (fun v hp4 c4 s4 hv => ?_)
  obtain ⟨rfl, B4⟩ := hv
  obtain ⟨tt4, sd4, fx4, fy4, gL4, gla4, gio4, gx4, gy4, gl8, go8⟩ := S2T.lk B4
  refine At.go (q := xm257) rfl 1 (pc' := 36) (L' := [(0, .ref L), (1, .int (Int32.ofNat i))]) (st' := [.int (lg_cmp (ckE M i) (ckE M i))]) rfl ?_
  rw [lgc_self]
  refine At.go (q := xm257) rfl 2 (pc' := 40) (L' := [(0, .ref L), (1, .int (Int32.ofNat i))]) (st' := [.ref L]) rfl ?_
  refine At.gf rfl (by decide) gL4 rfl ?_
  refine At.go (q := xm257) rfl 1 (pc' := 44) (L' := [(0, .ref L), (1, .int (Int32.ofNat i))]) (st' := [.int (Int32.ofNat i), .ref (A 0)]) rfl ?_
  refine At.clp (as := [.ref (A 0), .int (Int32.ofNat i)]) (rest := []) rfl (by decide) rfl (Nat.le_of_ble_eq_true rfl) (Nat.le_of_ble_eq_true rfl) (xrck_o (by decide) (by decide) gx4 (by decide)) (Nat.le_of_ble_eq_true rfl) (S2T.pu B4 (fun ow pc ps W => W.xp (fun _ _ _ h => h_tables h hi hM.1.1))) ?_
  refine At.go (q := xm257) rfl 1 (pc' := 48) (L' := [(0, .ref L), (1, .int (Int32.ofNat i))]) (st' := [.ref L, .int (Int32.ofNat (tbsE M.2.2.2.2.2.2 M.1 (M.2.2.2.1 i).1))]) rfl ?_
  refine At.gf rfl (by decide) gL4 rfl ?_
  refine At.go (q := xm257) rfl 1 (pc' := 52) (L' := [(0, .ref L), (1, .int (Int32.ofNat i))]) (st' := [.int (Int32.ofNat i), .ref (B 0), .int (Int32.ofNat (tbsE M.2.2.2.2.2.2 M.1 (M.2.2.2.1 i).1))]) rfl ?_
  refine At.clp (as := [.ref (B 0), .int (Int32.ofNat i)]) (rest := [.int (Int32.ofNat (tbsE M.2.2.2.2.2.2 M.1 (M.2.2.2.1 i).1))]) rfl (by decide) rfl (Nat.le_of_ble_eq_true rfl) (Nat.le_of_ble_eq_true rfl) (xrck_o (by decide) (by decide) gy4 (by decide)) (Nat.le_of_ble_eq_true rfl) (S2T.pu B4 (fun ow pc ps W => W.yp (fun _ _ _ h => by have e := h_tables (S := S) h hi hN.1.1; rw [R.lab hi, lo_tbs hw R hM.1 hN.1 hl] at e; exact e))) ?_
  refine At.ic2 (tgt := 101) rfl rfl (fun h => absurd h (by simp [xcm])) (fun _ => ?_)
  refine At.go (q := xm257) rfl 1 (pc' := 59) (L' := [(0, .ref L), (1, .int (Int32.ofNat i))]) (st' := [.ref L]) rfl ?_
  refine At.gf rfl (by decide) gL4 rfl ?_
  refine At.go (q := xm257) rfl 1 (pc' := 63) (L' := [(0, .ref L), (1, .int (Int32.ofNat i))]) (st' := [.int (Int32.ofNat i), .ref (A 0)]) rfl ?_
  refine At.clp (as := [.ref (A 0), .int (Int32.ofNat i)]) (rest := []) rfl (by decide) rfl (Nat.le_of_ble_eq_true rfl) (Nat.le_of_ble_eq_true rfl) rfl (Nat.le_of_ble_eq_true rfl) (S2T.pu B4 (fun ow pc ps W => W.xp (fun _ _ _ h => m_answer h hi))) ?_
  refine At.go (q := xm257) rfl 1 (pc' := 67) (L' := [(0, .ref L), (1, .int (Int32.ofNat i))]) (st' := [.ref L, .long (anL (M.2.2.2.1 i))]) rfl ?_
  refine At.gf rfl (by decide) gL4 rfl ?_
  refine At.go (q := xm257) rfl 1 (pc' := 71) (L' := [(0, .ref L), (1, .int (Int32.ofNat i))]) (st' := [.int (Int32.ofNat i), .ref (B 0), .long (anL (M.2.2.2.1 i))]) rfl ?_
  refine At.clp (as := [.ref (B 0), .int (Int32.ofNat i)]) (rest := [.long (anL (M.2.2.2.1 i))]) rfl (by decide) rfl (Nat.le_of_ble_eq_true rfl) (Nat.le_of_ble_eq_true rfl) rfl (Nat.le_of_ble_eq_true rfl) (S2T.pu B4 (fun ow pc ps W => W.yp (fun _ _ _ h => by have e := m_answer (S := S) h hi; rw [lo_anL R hi hl] at e; exact e))) ?_
  refine At.go (q := xm257) rfl 1 (pc' := 75) (L' := [(0, .ref L), (1, .int (Int32.ofNat i))]) (st' := [.int (lg_cmp (anL (M.2.2.2.1 i)) (anL (M.2.2.2.1 i)))]) rfl ?_
  rw [lgc_self]
  refine At.go (q := xm257) rfl 2 (pc' := 79) (L' := [(0, .ref L), (1, .int (Int32.ofNat i))]) (st' := [.ref L]) rfl ?_
  refine At.gf rfl (by decide) gL4 rfl ?_
  refine At.go (q := xm257) rfl 1 (pc' := 83) (L' := [(0, .ref L), (1, .int (Int32.ofNat i))]) (st' := [.int (Int32.ofNat i), .ref (A 0)]) rfl ?_
  refine At.clp (as := [.ref (A 0), .int (Int32.ofNat i)]) (rest := []) rfl (by decide) rfl (Nat.le_of_ble_eq_true rfl) (Nat.le_of_ble_eq_true rfl) (xrck_o (by decide) (by decide) gx4 (by decide)) (Nat.le_of_ble_eq_true rfl) (S2T.pu B4 (fun ow pc ps W => W.xp (fun _ _ _ h => h_isOpen h hi))) ?_
  refine At.go (q := xm257) rfl 1 (pc' := 87) (L' := [(0, .ref L), (1, .int (Int32.ofNat i))]) (st' := [.ref L, .int (bI (M.2.2.2.1 i).2.2.1)]) rfl ?_
  refine At.gf rfl (by decide) gL4 rfl ?_
  refine At.go (q := xm257) rfl 1 (pc' := 91) (L' := [(0, .ref L), (1, .int (Int32.ofNat i))]) (st' := [.int (Int32.ofNat i), .ref (B 0), .int (bI (M.2.2.2.1 i).2.2.1)]) rfl ?_
  refine At.clp (as := [.ref (B 0), .int (Int32.ofNat i)]) (rest := [.int (bI (M.2.2.2.1 i).2.2.1)]) rfl (by decide) rfl (Nat.le_of_ble_eq_true rfl) (Nat.le_of_ble_eq_true rfl) (xrck_o (by decide) (by decide) gy4 (by decide)) (Nat.le_of_ble_eq_true rfl) (S2T.pu B4 (fun ow pc ps W => W.yp (fun _ _ _ h => by have e := h_isOpen (S := S) h hi; rw [R.busy hi hl] at e; exact e))) ?_
  refine At.ic2 (tgt := 101) rfl rfl (fun h => absurd h (by simp [xcm])) (fun _ => ?_)
  refine At.go (q := xm257) rfl 2 (pc' := 102) (L' := [(0, .ref L), (1, .int (Int32.ofNat i))]) (st' := [.int 1]) rfl ?_
  have hlnN : (N.2.2.2.1 i).1 = Int32.ofNat ln := (R.lab hi).trans hln
  exact At.mono (At.deep (by decide : 3 ≤ 10) (lk_aud hi gL4 gla4 hx gx4 gy4 (S2T.pu B4 (fun ow pc ps W => W.xp (fun _ _ _ h => h_aud (j := 0) h hi hM.1 hln hl64 (by decide)))) (S2T.pu B4 (fun ow pc ps W => W.yp (fun _ _ _ h => by have e := h_aud (S := S) (j := 0) h hi hN.1 hlnN hl64 (by decide); rw [R.lab hi, lo_aud R hln hl64 hl (by decide)] at e; exact e))) (S2T.pu B4 (fun ow pc ps W => W.xp (fun _ _ _ h => h_aud (j := 1) h hi hM.1 hln hl64 (by decide)))) (S2T.pu B4 (fun ow pc ps W => W.yp (fun _ _ _ h => by have e := h_aud (S := S) (j := 1) h hi hN.1 hlnN hl64 (by decide); rw [R.lab hi, lo_aud R hln hl64 hl (by decide)] at e; exact e))) (S2T.pu B4 (fun ow pc ps W => W.xp (fun _ _ _ h => h_aud (j := 2) h hi hM.1 hln hl64 (by decide)))) (S2T.pu B4 (fun ow pc ps W => W.yp (fun _ _ _ h => by have e := h_aud (S := S) (j := 2) h hi hN.1 hlnN hl64 (by decide); rw [R.lab hi, lo_aud R hln hl64 hl (by decide)] at e; exact e))) (S2T.pu B4 (fun ow pc ps W => W.xp (fun _ _ _ h => h_aud (j := 3) h hi hM.1 hln hl64 (by decide)))) (S2T.pu B4 (fun ow pc ps W => W.yp (fun _ _ _ h => by have e := h_aud (S := S) (j := 3) h hi hN.1 hlnN hl64 (by decide); rw [R.lab hi, lo_aud R hln hl64 hl (by decide)] at e; exact e))))) (fun o ho => ⟨_, _, _, _, ho, rfl, S2.dtm (S2T.to2 B4) (Nat.le_refl _) hdt (by omega) (by omega)⟩)
