/-! a method of one house, from two houses and the law to the same (by hand) -/
section
variable {S : List Int32} {A B : Nat → Nat} {L la io : Nat} {hp : List XC} {ow : Nat → Nat} {M N : HM} {lbs ops : List Int32} {top : Int32} {dt pc ps d yy K J : Nat} {as : List Value} {P : Option Value → HM → Prop}
theorem W2.x (W : W2 A B L la io hp ow M N lbs ops top dt pc ps) (hm : ∀ rx px lx, HR hp ow 0 A M rx px lx → Me S d yy as hp (fun v hp' c s => ∃ M' rf, P v M' ∧ HSt hp hp' ow 0 A M' rf px lx c s K J)) : Me S d yy as hp (fun v hp' c s => ∃ M', P v M' ∧ S2 A B L la io hp hp' ow M' N lbs ops top dt pc ps c s K J) := by
  obtain ⟨rx, ry, px, lx, py, ly, hx, hy, hl, e1, e2⟩ := W
  refine me_imp (hm rx px lx hx) (fun v hp' c s h => ?_)
  obtain ⟨M', rf, h1, h2⟩ := h
  rw [e1, e2]
  exact ⟨M', h1, W2.stx hx hy hl h2⟩
theorem W2.y (W : W2 A B L la io hp ow M N lbs ops top dt pc ps) (hm : ∀ ry py ly, HR hp ow 1000 B N ry py ly → Me S d yy as hp (fun v hp' c s => ∃ N' rf, P v N' ∧ HSt hp hp' ow 1000 B N' rf py ly c s K J)) : Me S d yy as hp (fun v hp' c s => ∃ N', P v N' ∧ S2 A B L la io hp hp' ow M N' lbs ops top dt pc ps c s K J) := by
  obtain ⟨rx, ry, px, lx, py, ly, hx, hy, hl, e1, e2⟩ := W
  refine me_imp (hm ry py ly hy) (fun v hp' c s h => ?_)
  obtain ⟨N', rf, h1, h2⟩ := h
  rw [e1, e2]
  exact ⟨N', h1, W2.sty hx hy hl h2⟩
/-- what a method of one house answers that writes nothing -/
theorem W2.xp {v : Value} (W : W2 A B L la io hp ow M N lbs ops top dt pc ps) (hm : ∀ rx px lx, HR hp ow 0 A M rx px lx → Pu S d yy as hp v) : Pu S d yy as hp v := by
  obtain ⟨rx, ry, px, lx, py, ly, hx, -⟩ := W
  exact hm rx px lx hx
theorem W2.yp {v : Value} (W : W2 A B L la io hp ow M N lbs ops top dt pc ps) (hm : ∀ ry py ly, HR hp ow 1000 B N ry py ly → Pu S d yy as hp v) : Pu S d yy as hp v := by
  obtain ⟨rx, ry, px, lx, py, ly, hx, hy, -⟩ := W
  exact hm ry py ly hy
theorem x_seen {c9 d9 i : Nat} (W : W2 A B L la io hp ow M N lbs ops top dt pc ps) (hW : WfM M c9 d9) (hd : d9 ≤ 30) (hi : i < 8) : Me S 9 258 [.ref (A 0), .int (Int32.ofNat i)] hp (fun v hp' c s => ∃ M', (v = some (.int (Int32.ofNat (lookE (TIq M.2.2.2.2.2.2) (vwE M i) (M.2.2.2.1 i).1).length)) ∧ M' = M) ∧ S2 A B L la io hp hp' ow M' N lbs ops top dt pc ps c s 0 0) :=
  W.x (P := fun v M' => v = some (.int (Int32.ofNat (lookE (TIq M.2.2.2.2.2.2) (vwE M i) (M.2.2.2.1 i).1).length)) ∧ M' = M) (fun rx px lx h => me_imp (h_seen h hi (hW.v hi hd).1 (hW.v hi hd).2.1 (Nat.le_trans (hW.v hi hd).2.2.1 (by decide))) (fun v hp' c s k => ⟨M, rx, ⟨k.1, rfl⟩, k.2⟩))
theorem x_ck {c9 d9 i : Nat} (W : W2 A B L la io hp ow M N lbs ops top dt pc ps) (hW : WfM M c9 d9) (hd : d9 ≤ 30) (hi : i < 8) (h0 : (M.2.2.2.1 i).2.2.2.2.2.2.2.1 = 0) : Me S 9 244 [.ref (A 0), .int (Int32.ofNat i)] hp (fun v hp' c s => ∃ M', (v = some (.long (ckE M i)) ∧ M' = M) ∧ S2 A B L la io hp hp' ow M' N lbs ops top dt pc ps c s 0 0) :=
  W.x (P := fun v M' => v = some (.long (ckE M i)) ∧ M' = M) (fun rx px lx h => me_imp (h_checksum h hi (hW.v hi hd).1 (hW.v hi hd).2.1 (Nat.le_trans (hW.v hi hd).2.2.1 (by decide)) hW.1 h0) (fun v hp' c s k => ⟨M, rx, ⟨k.1, rfl⟩, k.2⟩))
theorem y_seen {c9 d9 i : Nat} (W : W2 A B L la io hp ow M N lbs ops top dt pc ps) (hW : WfM N c9 d9) (hd : d9 ≤ 30) (hi : i < 8) : Me S 9 258 [.ref (B 0), .int (Int32.ofNat i)] hp (fun v hp' c s => ∃ N', (v = some (.int (Int32.ofNat (lookE (TIq N.2.2.2.2.2.2) (vwE N i) (N.2.2.2.1 i).1).length)) ∧ N' = N) ∧ S2 A B L la io hp hp' ow M N' lbs ops top dt pc ps c s 0 0) :=
  W.y (P := fun v N' => v = some (.int (Int32.ofNat (lookE (TIq N.2.2.2.2.2.2) (vwE N i) (N.2.2.2.1 i).1).length)) ∧ N' = N) (fun rx px lx h => me_imp (h_seen h hi (hW.v hi hd).1 (hW.v hi hd).2.1 (Nat.le_trans (hW.v hi hd).2.2.1 (by decide))) (fun v hp' c s k => ⟨N, rx, ⟨k.1, rfl⟩, k.2⟩))
theorem y_ck {c9 d9 i : Nat} (W : W2 A B L la io hp ow M N lbs ops top dt pc ps) (hW : WfM N c9 d9) (hd : d9 ≤ 30) (hi : i < 8) (h0 : (N.2.2.2.1 i).2.2.2.2.2.2.2.1 = 0) : Me S 9 244 [.ref (B 0), .int (Int32.ofNat i)] hp (fun v hp' c s => ∃ N', (v = some (.long (ckE N i)) ∧ N' = N) ∧ S2 A B L la io hp hp' ow M N' lbs ops top dt pc ps c s 0 0) :=
  W.y (P := fun v N' => v = some (.long (ckE N i)) ∧ N' = N) (fun rx px lx h => me_imp (h_checksum h hi (hW.v hi hd).1 (hW.v hi hd).2.1 (Nat.le_trans (hW.v hi hd).2.2.1 (by decide)) hW.1 h0) (fun v hp' c s k => ⟨N, rx, ⟨k.1, rfl⟩, k.2⟩))
end
