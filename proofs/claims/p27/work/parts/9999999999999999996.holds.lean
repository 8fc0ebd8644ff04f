/-! the law's holdsAll (by gho.py) -/
section
variable {S : List Int32} {A B : Nat → Nat} {L la io : Nat} {h0 hp : List XC} {ow0 ow : Nat → Nat} {M N : HM} {lbs ops : List Int32} {top : Int32} {dt pc ps c s K J : Nat} {ds : List Nat} {t : Value}
/-- which label is told -/
theorem W2.sett {tt sd x : Int32} (W : W2 A B L la io hp ow M N lbs ops top dt pc ps) (hL : hp[L]? = some (.inr (15, [.retAddr 226, .int tt, .int sd, .ref (A 0), .ref (B 0), .ref la, .ref io, .int top]))) : S2 A B L la io hp (hp.set L (.inr (15, [.retAddr 226, .int tt, .int sd, .ref (A 0), .ref (B 0), .ref la, .ref io, .int x]))) ow M N lbs ops x dt pc ps 0 0 0 0 := by
  obtain ⟨rx, ry, px, lx, py, ly, hx, hy, ⟨⟨t, sd9, h1, h2, h3⟩, h4, h5, h6, h7, o1, o2, o3⟩, e1, e2⟩ := W
  rw [hL] at h3
  cases h3
  have f : FrX (fun a => a = L) hp (hp.set L (.inr (15, [.retAddr 226, .int (Int32.ofNat t), .int sd, .ref (A 0), .ref (B 0), .ref la, .ref io, .int x]))) := FrX.so hL (by decide) rfl (by decide)
  have f9 : FrX (fun a => (fun n => n = 2000) (ow a)) hp (hp.set L (.inr (15, [.retAddr 226, .int (Int32.ofNat t), .int sd, .ref (A 0), .ref (B 0), .ref la, .ref io, .int x]))) := f.mono (fun a _ ha => by
    show ow a = 2000
    rw [show a = L from ha]
    exact o1)
  obtain ⟨hx', ex⟩ := hx.off f9 (fun _ _ => rfl) (fun n h1 h2 h9 => by have h9' : n = 2000 := h9; omega)
  obtain ⟨hy', ey⟩ := hy.off f9 (fun _ _ => rfl) (fun n h1 h2 h9 => by have h9' : n = 2000 := h9; omega)
  refine ⟨ow, pc, ps, fun _ _ => rfl, ⟨rx, ry, px, lx, py, ly, hx', hy', ⟨⟨t, sd, h1, h2, xs_eq hL⟩, f.ar h4 (by decide) (fun e => ?_), h5, f.ar h6 (by decide) (fun e => ?_), h7, o1, o2, o3⟩, by rw [ex, ey]; exact e1, by rw [ex, ey]; exact e2⟩, f.mono (fun a _ ha => ?_), by omega, by omega⟩
  · have e9 : la = L := e
    rw [e9, o1] at o2
    exact absurd o2 (by decide)
  · have e9 : io = L := e
    rw [e9, o1] at o3
    exact absurd o3 (by decide)
  · show ow a < 3000
    rw [show a = L from ha, o1]
    decide
theorem S2T.sett {tt sd x : Int32} (h : S2T A B L la io h0 hp ow0 M N lbs ops top dt pc ps c s K J t ds) (hL : hp[L]? = some (.inr (15, [.retAddr 226, .int tt, .int sd, .ref (A 0), .ref (B 0), .ref la, .ref io, .int top]))) : S2T A B L la io h0 (hp.set L (.inr (15, [.retAddr 226, .int tt, .int sd, .ref (A 0), .ref (B 0), .ref la, .ref io, .int x]))) ow0 M N lbs ops x dt pc ps c s K J t ds := by
  obtain ⟨ow', pc', ps', hw, W, f, hT, e1, e2⟩ := h
  exact S2T.cmp hw f hT e1 e2 (W.sett (x := x) hL)
/-- what the houses can have cost -/
theorem sum_le {f : Nat → Nat} {n : Nat} : ∀ l : List Nat, (∀ j ∈ l, f j ≤ n) → sumL f l ≤ l.length * n
  | [], _ => Nat.zero_le _
  | a :: l, h => by
    have h1 := sum_le l (fun j hj => h j (List.mem_cons_of_mem _ hj))
    have h2 := h a List.mem_cons_self
    unfold sumL at h1 ⊢
    rw [List.map_cons, List.sum_cons, List.length_cons, Nat.succ_mul]
    omega
theorem HR.cap {k : Nat} {rf : Int32} {np nl : Nat} (h : HR hp ow k A M rf np nl) : capsH hp A ≤ 182000 ∧ np ≤ 7000 ∧ nl ≤ 900 := by
  obtain ⟨hO, how, h0, h1, h3, hD, hF, hE, hT, ⟨lv9, hG⟩, hC, hL9, hQ, hW, hS, hTq9, htd, hcap⟩ := id h
  obtain ⟨q0, q1, pa, ln, pn, kp, off, so, dn, lc, wd, pss, lb, la, a1, a2, a3, a4, a5, a6, a7, a8, a9, a10, a11⟩ := hQ
  have h9 := sum_le lsI hcap
  exact ⟨h9, a4, a9⟩
theorem W2.cap (W : W2 A B L la io hp ow M N lbs ops top dt pc ps) : pc ≤ 379800 ∧ ps ≤ 3132000 := by
  obtain ⟨rx, ry, px, lx, py, ly, hx, hy, hl, e1, e2⟩ := W
  obtain ⟨x1, x2, x3⟩ := hx.cap
  obtain ⟨y1, y2, y3⟩ := hy.cap
  omega
end
/-- the first statement of the low sessions -/
theorem li_tan {top : Int32} {M N : HM} {lbs ops : List Int32} {c i ln : Nat} {r r' : RM} (hI : LI top M N lbs ops c 0 8) (hi : i < 8) (hc : c + 1 ≤ 1000) (hln : (M.2.2.2.1 i).1 = Int32.ofNat ln) (hl64 : ln < 64) (hl : isB (M.2.2.2.1 i).1 top = true) (h1 : F_tan (sg 0 0 0 0 0 0) (ml M i [116, 97, 98, 108, 101, 32, 97, 40, 107, 32, 107, 101, 121, 44, 118, 32, 110, 117, 109, 41]) i ln r) (h2 : F_tan (sg 0 0 0 0 0 0) (ml N i [116, 97, 98, 108, 101, 32, 97, 40, 107, 32, 107, 101, 121, 44, 118, 32, 110, 117, 109, 41]) i ln r') : tdV r' = tdV r ∧ LI top r.2.2 r'.2.2 lbs ops (c + 1) 0 8 := by
  obtain ⟨⟨f, g, R⟩, k2, k3, k4, k5, k6, k7⟩ := hI
  have hlnN := (R.lab hi).trans hln
  have w1 := f0_fA (ml_wf (cs := [116, 97, 98, 108, 101, 32, 97, 40, 107, 32, 107, 101, 121, 44, 118, 32, 110, 117, 109, 41]) k2 hi) hi hc h1
  have w2 := f0_fA (ml_wf (cs := [116, 97, 98, 108, 101, 32, 97, 40, 107, 32, 107, 101, 121, 44, 118, 32, 110, 117, 109, 41]) k3 hi) hi hc h2
  obtain ⟨-, b1⟩ := (fok_tan (sg 0 0 0 0 0 0)).1 (ml M i [116, 97, 98, 108, 101, 32, 97, 40, 107, 32, 107, 101, 121, 44, 118, 32, 110, 117, 109, 41]) i ln c 0 r (ml_wf k2 hi) hi (by rw [ml_lab]; exact hln) hl64 hc h1
  obtain ⟨f', g', e1, e2, R'⟩ := (fok_tan (sg 0 0 0 0 0 0)).2.1 (fun l => isB l top) f g (ml M i [116, 97, 98, 108, 101, 32, 97, 40, 107, 32, 107, 101, 121, 44, 118, 32, 110, 117, 109, 41]) (ml N i [116, 97, 98, 108, 101, 32, 97, 40, 107, 32, 107, 101, 121, 44, 118, 32, 110, 117, 109, 41]) i ln c 0 c 0 r r' tr_w ((lo_said R hi).l1 hi) (ml_wf k2 hi) (ml_wf k3 hi) hi (by rw [ml_lab]; exact hln) hl64 (by rw [ml_lab]; exact hl) hc hc h1 h2
  have z := flz_tan (sg 0 0 0 0 0 0) (ml M i [116, 97, 98, 108, 101, 32, 97, 40, 107, 32, 107, 101, 121, 44, 118, 32, 110, 117, 109, 41]) i ln r (ml_lz k4) h1
  have z2 := flz_tan (sg 0 0 0 0 0 0) (ml N i [116, 97, 98, 108, 101, 32, 97, 40, 107, 32, 107, 101, 121, 44, 118, 32, 110, 117, 109, 41]) i ln r' (ml_lz k5) h2
  have b := fbz_tan (sg 0 0 0 0 0 0) (fun j => (M.2.2.2.1 j).2.2.1) (ml M i [116, 97, 98, 108, 101, 32, 97, 40, 107, 32, 107, 101, 121, 44, 118, 32, 110, 117, 109, 41]) i ln r ml_bz h1
  refine ⟨?_, ⟨f', g', R'⟩, w1, w2, z, z2, fun j hj => ?_, fun j hj hne => ?_⟩
  · unfold tdV
    rw [e1, e2]
  · rw [b1 j, ml_lbk j]
    exact k6 j hj
  · rw [b j]
    exact k7 j hj hne
theorem HSu.st9 {hp hp' : List XC} {ow : Nat → Nat} {k : Nat} {A : Nat → Nat} {M : HM} {rf : Int32} {np nl c s : Nat} (h : HSu hp hp' ow k A M rf np nl c s 0 0) : HSt hp hp' ow k A M rf np nl c s 0 0 := HSu.st h (Nat.le_refl _) (Nat.le_refl _)
theorem w_snd {S : List Int32} {A B : Nat → Nat} {L la io : Nat} {hp : List XC} {ow : Nat → Nat} {M N : HM} {lbs ops : List Int32} {top : Int32} {dt pc ps c d : Nat} (W : W2 A B L la io hp ow M N lbs ops top dt pc ps) (hW : WfH M c d) (hd : d ≤ 30) : Me S 10 270 [.ref (A 0)] hp (fun v hp' c s => v = some (.int 1) ∧ S2 A B L la io hp hp' ow M N lbs ops top dt pc ps c s 0 0) :=
  me_imp (W.x (P := fun v M' => v = some (.int 1) ∧ M' = M) (fun rx px lx h => me_imp (h_sound h (fun j hj => hW.1.snd hd hj)) (fun v hp' c s k => ⟨_, _, ⟨k.1, rfl⟩, k.2.st9⟩))) (fun v hp' c s k => by
    obtain ⟨M', ⟨k1, k2⟩, k3⟩ := k
    rw [k2] at k3
    exact ⟨k1, k3⟩)
def HoR (S : List Int32) (A B : Nat → Nat) (L la io : Nat) (h0 : List XC) (ow0 : Nat → Nat) (pc ps : Nat) : XO → Prop := fun o => ∃ hp' c9 s9, o = .inl (some (.int 1), hp', c9, s9) ∧ ∃ M' N' lbs' ops' top' dt', S2 A B L la io h0 hp' ow0 M' N' lbs' ops' top' dt' pc ps c9 s9 9000 3900000
theorem ho_263 {S : List Int32} {A B : Nat → Nat} {L la io : Nat} {h0 hp : List XC} {ow0 : Nat → Nat} {M N : HM} {lbs ops : List Int32} {top : Int32} {dt pc ps nc ns K J : Nat} {c d : Nat} (hI : LI top M N lbs ops c d 8) (hd : d ≤ 30) (hc : c < 400) (hdF : dt ≤ 100000) (hK : K ≤ 8600) (hJ : J ≤ 3700000) (B0 : S2T A B L la io h0 hp ow0 M N lbs ops top dt pc ps nc ns K J (.retAddr 75) []) : At S 17 14 263 [(0, .ref L), (2, .int 1)] [] hp nc ns (HoR S A B L la io h0 ow0 pc ps) := by
  obtain ⟨ln, hl64, hln⟩ := l4_n (hI.2.1.1.lab (show 3 < 8 by decide))
  obtain ⟨tt0, sd0, fx0, fy0, gL0, gla0, gio0, gx0, gy0, gl8, go8⟩ := S2T.lk B0
  refine At.go (q := xm14) rfl 4 (pc' := 269) (L' := [(0, .ref L), (2, .int 1)]) (st' := [.int 3, .ref L]) rfl ?_
  refine At.clm (as := [.ref L, .int 3]) (rest := []) rfl (by decide) rfl (Nat.le_of_ble_eq_true rfl) (Nat.le_of_ble_eq_true rfl) (xrck_o (by decide) (by decide) gL0 (by decide)) (Nat.le_of_ble_eq_true rfl) (S2T.thn B0 (P := fun v M2 N2 => v = some (.int 1) ∧ WfH M2 c d ∧ N2 = N) (K2 := 297) (J2 := 150000) (fun ow pc ps W hT => me_imp (m_met (i := 3) W (by omega) hI.2.1 hd (by omega) (by decide) hln hl64) (fun v hp' c s k => by obtain ⟨k1, M2, k2, k3⟩ := k; exact ⟨M2, N, ⟨k1, k2, rfl⟩, k3⟩))) (fun v hp1 c1 s1 hv => ?_)
  obtain ⟨M3, N9, ⟨rfl, hW3, eN⟩, B1⟩ := hv
  rw [eN] at B1
  clear eN
  obtain ⟨tt1, sd1, fx1, fy1, gL1, gla1, gio1, gx1, gy1, gl8, go8⟩ := S2T.lk B1
  refine At.go (q := xm14) rfl 2 (pc' := 276) (L' := [(0, .ref L), (2, .int 1)]) (st' := [.ref L]) rfl ?_
  refine At.gf rfl (by decide) gL1 rfl ?_
  refine At.clm (as := [.ref (A 0)]) (rest := []) rfl (by decide) rfl (Nat.le_of_ble_eq_true rfl) (Nat.le_of_ble_eq_true rfl) (xrck_o (by decide) (by decide) gx1 (by decide)) (Nat.le_of_ble_eq_true rfl) (S2T.same B1 (P := fun v => v = some (.int 1)) (K2 := 0) (J2 := 0) (fun ow pc ps W => w_snd W hW3 hd)) (fun v hp2 c2 s2 hv => ?_)
  obtain ⟨rfl, B2⟩ := hv
  obtain ⟨tt2, sd2, fx2, fy2, gL2, gla2, gio2, gx2, gy2, gl8, go8⟩ := S2T.lk B2
  refine At.go (q := xm14) rfl 3 (pc' := 290) (L' := [(0, .ref L), (2, .int 1)]) (st' := [.int 1]) rfl ?_
  exact At.rt rfl rfl ⟨_, _, _, rfl, _, _, _, _, _, _, S2.dtm (S2T.to2 B2) (Nat.le_refl _) hdF (by omega) (by omega)⟩
theorem ho_226 {S : List Int32} {A B : Nat → Nat} {L la io : Nat} {h0 : List XC} {ow0 : Nat → Nat} {M N : HM} {lbs ops : List Int32} {top : Int32} {dt pc ps c d : Nat} (hI : LI top M N lbs ops c d 8) (ht : isT3 top) (hd : d ≤ 30) (hc : c < 400) (hdF : dt ≤ 100000) : ∀ (f i : Nat), i + f = 5 → ∀ {hp : List XC} {nc ns K J : Nat}, S2T A B L la io h0 hp ow0 M N lbs ops top dt pc ps nc ns K J (.retAddr 75) [] → K ≤ 8600 → J ≤ 3700000 → At S 17 14 226 [(0, .ref L), (2, .int 1), (3, .int (Int32.ofNat i))] [] hp nc ns (HoR S A B L la io h0 ow0 pc ps) := by
  intro f
  induction f with
  | zero =>
    intro i hf hp nc ns K J B0 hK hJ
    obtain rfl : i = 5 := by omega
    obtain ⟨tt0, sd0, fx0, fy0, gL0, gla0, gio0, gx0, gy0, gl8, go8⟩ := S2T.lk B0
    refine At.go (q := xm14) rfl 2 (pc' := 228) (L' := [(0, .ref L), (2, .int 1), (3, .int (Int32.ofNat 5))]) (st' := [.int 5, .int (Int32.ofNat 5)]) rfl ?_
    refine At.ic2 (tgt := 263) rfl rfl (fun _ => ?_) (fun h => absurd h (by decide))
    refine At.wk (L' := [(0, .ref L), (2, .int 1)]) (List.forall_mem_cons.mpr ⟨List.mem_of_getElem? (i := 0) rfl, (List.forall_mem_cons.mpr ⟨List.mem_of_getElem? (i := 1) rfl, (fun _ h => (List.not_mem_nil h).elim)⟩)⟩) (show ([0, 2, 3] : List Nat).Nodup by decide) ?_
    exact ho_263 hI hd hc hdF hK hJ B0
  | succ f ih =>
    intro i hf hp nc ns K J B0 hK hJ
    have hi : i < 8 := by omega
    obtain ⟨tt0, sd0, fx0, fy0, gL0, gla0, gio0, gx0, gy0, gl8, go8⟩ := S2T.lk B0
    refine At.go (q := xm14) rfl 2 (pc' := 228) (L' := [(0, .ref L), (2, .int 1), (3, .int (Int32.ofNat i))]) (st' := [.int 5, .int (Int32.ofNat i)]) rfl ?_
    refine At.ic2 (tgt := 263) rfl rfl (fun h => absurd (of_decide_eq_true h) (Int32.not_le.mpr ((iN_lt (a := i) (b := 5) (by omega) (by omega)).mpr (by omega)))) (fun _ => ?_)
    refine At.go (q := xm14) rfl 4 (pc' := 237) (L' := [(0, .ref L), (2, .int 1), (3, .int (Int32.ofNat i))]) (st' := [.int (Int32.ofNat i), .ref L]) rfl ?_
    refine At.clp (as := [.ref L, .int (Int32.ofNat i)]) (rest := []) rfl (by decide) rfl (Nat.le_of_ble_eq_true rfl) (Nat.le_of_ble_eq_true rfl) (xrck_o (by decide) (by decide) gL0 (by decide)) (Nat.le_of_ble_eq_true rfl) (S2T.pu B0 (fun ow pc ps W => w_isLow W hI ht hi)) ?_
    refine At.ic1 (tgt := 251) rfl rfl (fun h240 => ?_) (fun h240 => ?_)
    · refine At.go (q := xm14) rfl 5 (pc' := 226) (L' := [(3, .int ((Int32.ofNat i) + 1)), (2, .int 1), (0, .ref L)]) (st' := []) rfl ?_
      rw [iN_s]
      refine At.wk (L' := [(0, .ref L), (2, .int 1), (3, .int (Int32.ofNat (i + 1)))]) (List.forall_mem_cons.mpr ⟨List.mem_of_getElem? (i := 2) rfl, (List.forall_mem_cons.mpr ⟨List.mem_of_getElem? (i := 1) rfl, (List.forall_mem_cons.mpr ⟨List.mem_of_getElem? (i := 0) rfl, (fun _ h => (List.not_mem_nil h).elim)⟩)⟩)⟩) (show ([3, 2, 0] : List Nat).Nodup by decide) ?_
      exact ih (i + 1) (by omega) B0 (by omega) (by omega)
    · have hl1 : (fun l => isB l top) (M.2.2.2.1 i).1 = true := bI_ne h240
      obtain ⟨f1, g1, R1⟩ := hI.1
      obtain ⟨ln, hl64, hln⟩ := l4_n (hI.2.1.1.lab hi)
      refine At.go (q := xm14) rfl 2 (pc' := 245) (L' := [(0, .ref L), (2, .int 1), (3, .int (Int32.ofNat i))]) (st' := [.int (Int32.ofNat i), .ref L]) rfl ?_
      refine At.clm (as := [.ref L, .int (Int32.ofNat i)]) (rest := []) rfl (by decide) rfl (Nat.le_of_ble_eq_true rfl) (Nat.le_of_ble_eq_true rfl) (xrck_o (by decide) (by decide) gL0 (by decide)) (Nat.le_of_ble_eq_true rfl) (S2T.same B0 (P := fun v => v = some (.int 1)) (K2 := 0) (J2 := 0) (fun ow pc ps W => m_like W (by omega) tr_w R1 hI.2.1 hI.2.2.1 hd hd hi hI.2.2.2.1 hI.2.2.2.2.1 hl1 (hI.2.2.2.2.2.1 i hi) hln hl64)) (fun v hp1 c1 s1 hv => ?_)
      obtain ⟨rfl, B1⟩ := hv
      obtain ⟨tt1, sd1, fx1, fy1, gL1, gla1, gio1, gx1, gy1, gl8, go8⟩ := S2T.lk B1
      refine At.go (q := xm14) rfl 6 (pc' := 226) (L' := [(3, .int ((Int32.ofNat i) + 1)), (2, .int 1), (0, .ref L)]) (st' := []) rfl ?_
      rw [iN_s]
      refine At.wk (L' := [(0, .ref L), (2, .int 1), (3, .int (Int32.ofNat (i + 1)))]) (List.forall_mem_cons.mpr ⟨List.mem_of_getElem? (i := 2) rfl, (List.forall_mem_cons.mpr ⟨List.mem_of_getElem? (i := 1) rfl, (List.forall_mem_cons.mpr ⟨List.mem_of_getElem? (i := 0) rfl, (fun _ h => (List.not_mem_nil h).elim)⟩)⟩)⟩) (show ([3, 2, 0] : List Nat).Nodup by decide) ?_
      exact ih (i + 1) (by omega) B1 (by omega) (by omega)
theorem S2T.get9 {S : List Int32} {A B : Nat → Nat} {L la io : Nat} {h0 hp : List XC} {ow0 : Nat → Nat} {M N : HM} {lbs ops : List Int32} {top : Int32} {dt pc ps c s K J c9 d9 dt2 K2 J2 d8 y8 : Nat} {as : List Value} {ds : List Nat} {t : Value} (h : S2T A B L la io h0 hp ow0 M N lbs ops top dt pc ps c s K J t ds) (hm : ∀ ow pc ps, W2 A B L la io hp ow M N lbs ops top dt pc ps → Me S d8 y8 as hp (fun v hp' c s => v = some (.int 1) ∧ ∃ M' N' lbs' ops', LI top M' N' lbs' ops' c9 d9 8 ∧ S2 A B L la io hp hp' ow M' N' lbs' ops' top dt2 pc ps c s K2 J2)) : Me S d8 y8 as hp (fun v hp' c2 s2 => v = some (.int 1) ∧ ∃ M' N' lbs' ops', LI top M' N' lbs' ops' c9 d9 8 ∧ S2T A B L la io h0 hp' ow0 M' N' lbs' ops' top dt2 pc ps (c + c2) (s + s2) (K + K2) (J + J2) t ds) := by
  obtain ⟨ow', pc', ps', hw, W, f, hT, e1, e2⟩ := h
  refine me_imp (hm ow' pc' ps' W) (fun v hp' c2 s2 k => ?_)
  obtain ⟨k1, M1, N1, lbs1, ops1, k2, k3⟩ := k
  exact ⟨k1, M1, N1, lbs1, ops1, k2, S2T.cmp hw f hT e1 e2 k3⟩
theorem ofn_dec {n : Nat} : Int32.ofNat (n + 1) + (-1) = Int32.ofNat n := by
  rw [i32_neg1]
  exact iN_m2
theorem ho_205 {S : List Int32} {A B : Nat → Nat} {L la io : Nat} {h0 : List XC} {ow0 : Nat → Nat} {top : Int32} {pc ps : Nat} (ht : isT3 top) (hS : S.length ≤ 1000) : ∀ (n : Nat), n ≤ 29 → ∀ {M N : HM} {lbs ops : List Int32} {dt c d : Nat} {hp : List XC} {nc ns K J : Nat}, LI top M N lbs ops c d 8 → d + n ≤ 30 → c + n < 400 → dt + 20 * n ≤ 100000 → S2T A B L la io h0 hp ow0 M N lbs ops top dt pc ps nc ns K J (.retAddr 75) [] → K + 260 * n ≤ 8600 → J + 110000 * n ≤ 3700000 → At S 17 14 205 [(0, .ref L), (2, .int 1), (3, .int (Int32.ofNat n))] [] hp nc ns (HoR S A B L la io h0 ow0 pc ps) := by
  intro n
  induction n with
  | zero =>
    intro hn M N lbs ops dt c d hp nc ns K J hI hd hc hdF B0 hK hJ
    replace hd : d ≤ 30 := by omega
    replace hc : c < 400 := by omega
    replace hdF : dt ≤ 100000 := by omega
    replace hK : K ≤ 8600 := by omega
    replace hJ : J ≤ 3700000 := by omega
    obtain ⟨tt0, sd0, fx0, fy0, gL0, gla0, gio0, gx0, gy0, gl8, go8⟩ := S2T.lk B0
    refine At.go (q := xm14) rfl 1 (pc' := 206) (L' := [(0, .ref L), (2, .int 1), (3, .int (Int32.ofNat 0))]) (st' := [.int (Int32.ofNat 0)]) rfl ?_
    refine At.ic1 (tgt := 224) rfl rfl (fun _ => ?_) (fun h => absurd h (by decide))
    refine At.go (q := xm14) rfl 2 (pc' := 226) (L' := [(3, .int 0), (0, .ref L), (2, .int 1)]) (st' := []) rfl ?_
    refine At.wk (L' := [(0, .ref L), (2, .int 1), (3, .int 0)]) (List.forall_mem_cons.mpr ⟨List.mem_of_getElem? (i := 1) rfl, (List.forall_mem_cons.mpr ⟨List.mem_of_getElem? (i := 2) rfl, (List.forall_mem_cons.mpr ⟨List.mem_of_getElem? (i := 0) rfl, (fun _ h => (List.not_mem_nil h).elim)⟩)⟩)⟩) (show ([3, 0, 2] : List Nat).Nodup by decide) ?_
    exact ho_226 hI ht hd hc hdF 5 0 rfl B0 hK hJ
  | succ n ih =>
    intro hn M N lbs ops dt c d hp nc ns K J hI hd hc hdF B0 hK hJ
    obtain ⟨tt0, sd0, fx0, fy0, gL0, gla0, gio0, gx0, gy0, gl8, go8⟩ := S2T.lk B0
    refine At.go (q := xm14) rfl 1 (pc' := 206) (L' := [(0, .ref L), (2, .int 1), (3, .int (Int32.ofNat (n + 1)))]) (st' := [.int (Int32.ofNat (n + 1))]) rfl ?_
    refine At.ic1 (tgt := 224) rfl rfl (fun h => absurd (of_decide_eq_true h) (Int32.not_le.mpr ((iN_lt (a := 0) (b := n + 1) (by omega) (by omega)).mpr (by omega)))) (fun _ => ?_)
    refine At.go (q := xm14) rfl 3 (pc' := 214) (L' := [(0, .ref L), (2, .int 1), (3, .int (Int32.ofNat (n + 1)))]) (st' := [.ref L]) rfl ?_
    refine At.clm (as := [.ref L]) (rest := []) rfl (by decide) rfl (Nat.le_of_ble_eq_true rfl) (Nat.le_of_ble_eq_true rfl) (xrck_o (by decide) (by decide) gL0 (by decide)) (Nat.le_of_ble_eq_true rfl) (S2T.get9 B0 (fun ow pc ps W => m_acted W hI ht (by omega) (by omega) (by omega) hS)) (fun v hp1 c1 s1 hv => ?_)
    obtain ⟨rfl, M1, N1, lbs1, ops1, hI1, B1⟩ := hv
    obtain ⟨tt1, sd1, fx1, fy1, gL1, gla1, gio1, gx1, gy1, gl8, go8⟩ := S2T.lk B1
    refine At.go (q := xm14) rfl 3 (pc' := 205) (L' := [(3, .int ((Int32.ofNat (n + 1)) + (-1))), (2, .int 1), (0, .ref L)]) (st' := []) rfl ?_
    rw [ofn_dec]
    refine At.wk (L' := [(0, .ref L), (2, .int 1), (3, .int (Int32.ofNat n))]) (List.forall_mem_cons.mpr ⟨List.mem_of_getElem? (i := 2) rfl, (List.forall_mem_cons.mpr ⟨List.mem_of_getElem? (i := 1) rfl, (List.forall_mem_cons.mpr ⟨List.mem_of_getElem? (i := 0) rfl, (fun _ h => (List.not_mem_nil h).elim)⟩)⟩)⟩) (show ([3, 2, 0] : List Nat).Nodup by decide) ?_
    exact ih (by omega) hI1 (by omega) (by omega) (by omega) B1 (by omega) (by omega)
theorem ho_195 {S : List Int32} {A B : Nat → Nat} {L la io : Nat} {h0 hp : List XC} {ow0 : Nat → Nat} {M N : HM} {lbs ops : List Int32} {top : Int32} {dt pc ps nc ns K J : Nat} {c : Nat} (hI : LI top M N lbs ops c 0 8) (ht : isT3 top) (hS : S.length ≤ 1000) (hc : c ≤ 5) (hdF : dt ≤ 1000) (hK : K ≤ 1000) (hJ : J ≤ 500000) (B0 : S2T A B L la io h0 hp ow0 M N lbs ops top dt pc ps nc ns K J (.retAddr 75) []) : At S 17 14 195 [(0, .ref L), (2, .int 1)] [] hp nc ns (HoR S A B L la io h0 ow0 pc ps) := by
  obtain ⟨tt0, sd0, fx0, fy0, gL0, gla0, gio0, gx0, gy0, gl8, go8⟩ := S2T.lk B0
  refine At.go (q := xm14) rfl 3 (pc' := 200) (L' := [(0, .ref L), (2, .int 1)]) (st' := [.int 16, .ref L, .int 14]) rfl ?_
  refine At.clm (as := [.ref L, .int 16]) (rest := [.int 14]) rfl (by decide) rfl (Nat.le_of_ble_eq_true rfl) (Nat.le_of_ble_eq_true rfl) (xrck_o (by decide) (by decide) gL0 (by decide)) (Nat.le_of_ble_eq_true rfl) (S2T.draw B0 (m9 := 16) (by omega) hS (by decide) (by decide)) (fun v hp1 c1 s1 hv => ?_)
  obtain ⟨⟨n1, hn1, rfl⟩, B1⟩ := hv
  obtain ⟨tt1, sd1, fx1, fy1, gL1, gla1, gio1, gx1, gy1, gl8, go8⟩ := S2T.lk B1
  refine At.go (q := xm14) rfl 2 (pc' := 205) (L' := [(3, .int (14 + (Int32.ofNat n1))), (0, .ref L), (2, .int 1)]) (st' := []) rfl ?_
  rw [show (14 : Int32) + Int32.ofNat n1 = Int32.ofNat (14 + n1) from (Int32.ofNat_add 14 n1).symm]
  refine At.wk (L' := [(0, .ref L), (2, .int 1), (3, .int (Int32.ofNat (14 + n1)))]) (List.forall_mem_cons.mpr ⟨List.mem_of_getElem? (i := 1) rfl, (List.forall_mem_cons.mpr ⟨List.mem_of_getElem? (i := 2) rfl, (List.forall_mem_cons.mpr ⟨List.mem_of_getElem? (i := 0) rfl, (fun _ h => (List.not_mem_nil h).elim)⟩)⟩)⟩) (show ([3, 0, 2] : List Nat).Nodup by decide) ?_
  exact ho_205 ht hS (14 + n1) (by omega) hI (by omega) (by omega) (by omega) B1 (by omega) (by omega)
theorem tan_run : TxRun [116, 97, 98, 108, 101, 32, 97, 40, 107, 32, 107, 101, 121, 44, 118, 32, 110, 117, 109, 41] (F_tan (sg 0 0 0 0 0 0)) := by
  have e := eqT_lit (σ := (sg 0 0 0 0 0 0)) [116, 97, 98, 108, 101, 32, 97, 40, 107, 32, 107, 101, 121, 44, 118, 32, 110, 117, 109, 41] (by decide)
  exact tx_run (rt := rt_tan) (fun _ _ _ _ _ _ _ _ _ _ _ h hi hV hC hT hlab hmd hsl hshf ht hlen => sh_tan h hi hV hC hT hlab hmd hsl hshf ht hlen) fup_tan e (by decide) (by decide)
theorem ho_143 {S : List Int32} {A B : Nat → Nat} {L la io : Nat} {h0 : List XC} {ow0 : Nat → Nat} {lbs ops : List Int32} {top : Int32} {dt pc ps : Nat} (ht : isT3 top) (hS : S.length ≤ 1000) (hdF : dt ≤ 1000) : ∀ (f i : Nat), i + f = 5 → ∀ {M N : HM} {c : Nat} {hp : List XC} {nc ns K J : Nat}, LI top M N lbs ops c 0 8 → c + f ≤ 5 → S2T A B L la io h0 hp ow0 M N lbs ops top dt pc ps nc ns K J (.retAddr 75) [] → K + 198 * f ≤ 1000 → J + 100000 * f ≤ 500000 → At S 17 14 143 [(0, .ref L), (2, .int 1), (3, .int (Int32.ofNat i))] [] hp nc ns (HoR S A B L la io h0 ow0 pc ps) := by
  intro f
  induction f with
  | zero =>
    intro i hf M N c hp nc ns K J hI hc B0 hK hJ
    obtain rfl : i = 5 := by omega
    obtain ⟨tt0, sd0, fx0, fy0, gL0, gla0, gio0, gx0, gy0, gl8, go8⟩ := S2T.lk B0
    refine At.go (q := xm14) rfl 2 (pc' := 145) (L' := [(0, .ref L), (2, .int 1), (3, .int (Int32.ofNat 5))]) (st' := [.int 5, .int (Int32.ofNat 5)]) rfl ?_
    refine At.ic2 (tgt := 195) rfl rfl (fun _ => ?_) (fun h => absurd h (by decide))
    refine At.wk (L' := [(0, .ref L), (2, .int 1)]) (List.forall_mem_cons.mpr ⟨List.mem_of_getElem? (i := 0) rfl, (List.forall_mem_cons.mpr ⟨List.mem_of_getElem? (i := 1) rfl, (fun _ h => (List.not_mem_nil h).elim)⟩)⟩) (show ([0, 2, 3] : List Nat).Nodup by decide) ?_
    exact ho_195 hI ht hS (by omega) hdF (by omega) (by omega) B0
  | succ f ih =>
    intro i hf M N c hp nc ns K J hI hc B0 hK hJ
    have hi : i < 8 := by omega
    obtain ⟨tt0, sd0, fx0, fy0, gL0, gla0, gio0, gx0, gy0, gl8, go8⟩ := S2T.lk B0
    refine At.go (q := xm14) rfl 2 (pc' := 145) (L' := [(0, .ref L), (2, .int 1), (3, .int (Int32.ofNat i))]) (st' := [.int 5, .int (Int32.ofNat i)]) rfl ?_
    refine At.ic2 (tgt := 195) rfl rfl (fun h => absurd (of_decide_eq_true h) (Int32.not_le.mpr ((iN_lt (a := i) (b := 5) (by omega) (by omega)).mpr (by omega)))) (fun _ => ?_)
    refine At.go (q := xm14) rfl 4 (pc' := 154) (L' := [(0, .ref L), (2, .int 1), (3, .int (Int32.ofNat i))]) (st' := [.int (Int32.ofNat i), .ref L]) rfl ?_
    refine At.clp (as := [.ref L, .int (Int32.ofNat i)]) (rest := []) rfl (by decide) rfl (Nat.le_of_ble_eq_true rfl) (Nat.le_of_ble_eq_true rfl) (xrck_o (by decide) (by decide) gL0 (by decide)) (Nat.le_of_ble_eq_true rfl) (S2T.pu B0 (fun ow pc ps W => w_isLow W hI ht hi)) ?_
    refine At.ic1 (tgt := 189) rfl rfl (fun h157 => ?_) (fun h157 => ?_)
    · refine At.go (q := xm14) rfl 2 (pc' := 143) (L' := [(3, .int ((Int32.ofNat i) + 1)), (0, .ref L), (2, .int 1)]) (st' := []) rfl ?_
      rw [iN_s]
      refine At.wk (L' := [(0, .ref L), (2, .int 1), (3, .int (Int32.ofNat (i + 1)))]) (List.forall_mem_cons.mpr ⟨List.mem_of_getElem? (i := 1) rfl, (List.forall_mem_cons.mpr ⟨List.mem_of_getElem? (i := 2) rfl, (List.forall_mem_cons.mpr ⟨List.mem_of_getElem? (i := 0) rfl, (fun _ h => (List.not_mem_nil h).elim)⟩)⟩)⟩) (show ([3, 0, 2] : List Nat).Nodup by decide) ?_
      exact ih (i + 1) (by omega) hI (by omega) B0 (by omega) (by omega)
    · have hl1 : isB (M.2.2.2.1 i).1 top = true := bI_ne h157
      obtain ⟨f1, g1, R1⟩ := hI.1
      obtain ⟨ln, hl64, hln⟩ := l4_n (hI.2.1.1.lab hi)
      have hlnN := (R1.lab hi).trans hln
      refine At.go (q := xm14) rfl 1 (pc' := 161) (L' := [(0, .ref L), (2, .int 1), (3, .int (Int32.ofNat i))]) (st' := [.ref L]) rfl ?_
      refine At.gf rfl (by decide) gL0 rfl ?_
      refine At.go (q := xm14) rfl 2 (pc' := 167) (L' := [(0, .ref L), (2, .int 1), (3, .int (Int32.ofNat i))]) (st' := [.retAddr 51, .int (Int32.ofNat i), .ref (A 0)]) rfl ?_
      refine At.clm (as := [.ref (A 0), .int (Int32.ofNat i), .retAddr 51]) (rest := []) rfl (by decide) rfl (Nat.le_of_ble_eq_true rfl) (Nat.le_of_ble_eq_true rfl) rfl (Nat.le_of_ble_eq_true rfl) (S2T.thn B0 (P := fun v M2 N2 => ∃ r, F_tan (sg 0 0 0 0 0 0) (ml M i [116, 97, 98, 108, 101, 32, 97, 40, 107, 32, 107, 101, 121, 44, 118, 32, 110, 117, 109, 41]) i ln r ∧ v = some (.int (tdV r)) ∧ M2 = r.2.2 ∧ N2 = N) (K2 := 99) (J2 := 50000) (fun ow pc ps W hT => w_donex W hi (fun _ _ => hTnK (vk := 52) rfl rfl (ds := [116, 97, 98, 108, 101, 32, 97, 40, 107, 32, 107, 101, 121, 44, 118, 32, 110, 117, 109, 41]) (by decide) (by decide)) (eqT_lit (σ := (sg 0 0 0 0 0 0)) [116, 97, 98, 108, 101, 32, 97, 40, 107, 32, 107, 101, 121, 44, 118, 32, 110, 117, 109, 41] (by decide)).2.1 (by decide) tan_run (frs_tan (sg 0 0 0 0 0 0)) hI.2.1 (by omega) (by omega) hln hl64)) (fun v hp1 c1 s1 hv => ?_)
      obtain ⟨M9, N9, ⟨r1, hF1, rfl, eM, eN⟩, B1⟩ := hv
      rw [eM, eN] at B1
      clear eM eN
      obtain ⟨tt1, sd1, fx1, fy1, gL1, gla1, gio1, gx1, gy1, gl8, go8⟩ := S2T.lk B1
      refine At.go (q := xm14) rfl 1 (pc' := 171) (L' := [(0, .ref L), (2, .int 1), (3, .int (Int32.ofNat i))]) (st' := [.ref L, .int (tdV r1)]) rfl ?_
      refine At.gf rfl (by decide) gL1 rfl ?_
      refine At.go (q := xm14) rfl 2 (pc' := 177) (L' := [(0, .ref L), (2, .int 1), (3, .int (Int32.ofNat i))]) (st' := [.retAddr 51, .int (Int32.ofNat i), .ref (B 0), .int (tdV r1)]) rfl ?_
      refine At.clm (as := [.ref (B 0), .int (Int32.ofNat i), .retAddr 51]) (rest := [.int (tdV r1)]) rfl (by decide) rfl (Nat.le_of_ble_eq_true rfl) (Nat.le_of_ble_eq_true rfl) rfl (Nat.le_of_ble_eq_true rfl) (S2T.thn B1 (P := fun v M2 N2 => ∃ r, F_tan (sg 0 0 0 0 0 0) (ml N i [116, 97, 98, 108, 101, 32, 97, 40, 107, 32, 107, 101, 121, 44, 118, 32, 110, 117, 109, 41]) i ln r ∧ v = some (.int (tdV r)) ∧ N2 = r.2.2 ∧ M2 = r1.2.2) (K2 := 99) (J2 := 50000) (fun ow pc ps W hT => w_doney W hi (fun _ _ => hTnK (vk := 52) rfl rfl (ds := [116, 97, 98, 108, 101, 32, 97, 40, 107, 32, 107, 101, 121, 44, 118, 32, 110, 117, 109, 41]) (by decide) (by decide)) (eqT_lit (σ := (sg 0 0 0 0 0 0)) [116, 97, 98, 108, 101, 32, 97, 40, 107, 32, 107, 101, 121, 44, 118, 32, 110, 117, 109, 41] (by decide)).2.1 (by decide) tan_run (frs_tan (sg 0 0 0 0 0 0)) hI.2.2.1 (by omega) (by omega) hlnN hl64)) (fun v hp2 c2 s2 hv => ?_)
      obtain ⟨M9, N9, ⟨r2, hF2, rfl, eN, eM⟩, B2⟩ := hv
      rw [eM, eN] at B2
      clear eM eN
      obtain ⟨tt2, sd2, fx2, fy2, gL2, gla2, gio2, gx2, gy2, gl8, go8⟩ := S2T.lk B2
      obtain ⟨e9, hI2⟩ := li_tan hI hi (by omega) hln hl64 hl1 hF1 hF2
      rw [e9]
      refine At.ic2 (tgt := 187) rfl rfl (fun h => absurd h (by simp [xcm])) (fun _ => ?_)
      refine At.go (q := xm14) rfl 5 (pc' := 143) (L' := [(3, .int ((Int32.ofNat i) + 1)), (2, .int 1), (0, .ref L)]) (st' := []) rfl ?_
      rw [iN_s]
      refine At.wk (L' := [(0, .ref L), (2, .int 1), (3, .int (Int32.ofNat (i + 1)))]) (List.forall_mem_cons.mpr ⟨List.mem_of_getElem? (i := 2) rfl, (List.forall_mem_cons.mpr ⟨List.mem_of_getElem? (i := 1) rfl, (List.forall_mem_cons.mpr ⟨List.mem_of_getElem? (i := 0) rfl, (fun _ h => (List.not_mem_nil h).elim)⟩)⟩)⟩) (show ([3, 2, 0] : List Nat).Nodup by decide) ?_
      exact ih (i + 1) (by omega) hI2 (by omega) B2 (by omega) (by omega)
theorem ent_ne {M : HM} {i j : Nat} {lb : Int32} (h : j ≠ i) : (entM M i lb).2.2.2.1 j = M.2.2.2.1 j := mS_ne h
theorem t3_l4 {x : Int32} (h : isT3 x) : isL4 x = true := by
  rcases h with h | h | h <;> (rw [h]; decide)
theorem ho_39_5 {S : List Int32} {A B : Nat → Nat} {L la io : Nat} {h0 hp : List XC} {ow0 : Nat → Nat} {M N : HM} {lbs ops : List Int32} {top : Int32} {dt pc ps nc ns K J : Nat} (ht : isT3 top) (hS : S.length ≤ 1000) (hdF : dt ≤ 1000) (hI : LI top M N lbs ops 0 0 8) (B0 : S2T A B L la io h0 hp ow0 M N lbs ops top dt pc ps nc ns K J (.retAddr 75) []) (hK : K ≤ 0) (hJ : J ≤ 0) : At S 17 14 39 [(0, .ref L), (2, .int 1), (3, .int (Int32.ofNat 5))] [] hp nc ns (HoR S A B L la io h0 ow0 pc ps) := by
  obtain ⟨tt0, sd0, fx0, fy0, gL0, gla0, gio0, gx0, gy0, gl8, go8⟩ := S2T.lk B0
  refine At.go (q := xm14) rfl 2 (pc' := 41) (L' := [(0, .ref L), (2, .int 1), (3, .int (Int32.ofNat 5))]) (st' := [.int 5, .int (Int32.ofNat 5)]) rfl ?_
  refine At.ic2 (tgt := 141) rfl rfl (fun _ => ?_) (fun h => absurd h (by decide))
  refine At.go (q := xm14) rfl 2 (pc' := 143) (L' := [(3, .int 0), (0, .ref L), (2, .int 1)]) (st' := []) rfl ?_
  refine At.wk (L' := [(0, .ref L), (2, .int 1), (3, .int 0)]) (List.forall_mem_cons.mpr ⟨List.mem_of_getElem? (i := 1) rfl, (List.forall_mem_cons.mpr ⟨List.mem_of_getElem? (i := 2) rfl, (List.forall_mem_cons.mpr ⟨List.mem_of_getElem? (i := 0) rfl, (fun _ h => (List.not_mem_nil h).elim)⟩)⟩)⟩) (show ([3, 0, 2] : List Nat).Nodup by decide) ?_
  exact ho_143 ht hS hdF 5 0 rfl hI (by decide) B0 (by omega) (by omega)
theorem ho_39_4 {S : List Int32} {A B : Nat → Nat} {L la io : Nat} {h0 hp : List XC} {ow0 : Nat → Nat} {M N : HM} {lbs : List Int32} {top : Int32} {dt pc ps nc ns K J : Nat} (ht : isT3 top) (hS : S.length ≤ 1000) (hdF : dt ≤ 1000) (hI : LI top M N lbs (List.replicate 8 (0 : Int32)) 0 0 8) (hz : ∀ j, 4 ≤ j → j < 8 → (M.2.2.2.1 j).1 = 0) (B0 : S2T A B L la io h0 hp ow0 M N lbs (List.replicate 8 (0 : Int32)) top dt pc ps nc ns K J (.retAddr 75) []) (hK : K ≤ 0) (hJ : J ≤ 0) : At S 17 14 39 [(0, .ref L), (2, .int 1), (3, .int (Int32.ofNat 4))] [] hp nc ns (HoR S A B L la io h0 ow0 pc ps) := by
  obtain ⟨f0, g0, R0⟩ := hI.1
  obtain ⟨tt0, sd0, fx0, fy0, gL0, gla0, gio0, gx0, gy0, gl8a, go8a⟩ := S2T.lk B0
  refine At.go (q := xm14) rfl 2 (pc' := 41) (L' := [(0, .ref L), (2, .int 1), (3, .int (Int32.ofNat 4))]) (st' := [.int 5, .int (Int32.ofNat 4)]) rfl ?_
  refine At.ic2 (tgt := 141) rfl rfl (fun h => absurd h (by decide)) (fun _ => ?_)
  refine At.go (q := xm14) rfl 3 (pc' := 49) (L' := [(0, .ref L), (2, .int 1), (3, .int (Int32.ofNat 4))]) (st' := [.ref L]) rfl ?_
  refine At.gf rfl (by decide) gL0 rfl ?_
  refine At.go (q := xm14) rfl 2 (pc' := 54) (L' := [(0, .ref L), (2, .int 1), (3, .int (Int32.ofNat 4))]) (st' := [.int (Int32.ofNat 4), .int (Int32.ofNat 4), .ref la]) rfl ?_
  refine At.ic1 (tgt := 61) rfl rfl (fun _ => ?_) (fun h => absurd h (by decide))
  refine At.go (q := xm14) rfl 2 (pc' := 63) (L' := [(0, .ref L), (2, .int 1), (3, .int (Int32.ofNat 4))]) (st' := [.int 1, .int (Int32.ofNat 4), .int (Int32.ofNat 4), .ref la]) rfl ?_
  refine At.ic2 (tgt := 71) rfl rfl (fun _ => ?_) (fun h => absurd h (by decide))
  refine At.go (q := xm14) rfl 2 (pc' := 73) (L' := [(0, .ref L), (2, .int 1), (3, .int (Int32.ofNat 4))]) (st' := [.int 2, .int (Int32.ofNat 4), .int (Int32.ofNat 4), .ref la]) rfl ?_
  refine At.ic2 (tgt := 83) rfl rfl (fun _ => ?_) (fun h => absurd h (by decide))
  refine At.go (q := xm14) rfl 2 (pc' := 85) (L' := [(0, .ref L), (2, .int 1), (3, .int (Int32.ofNat 4))]) (st' := [.int 3, .int (Int32.ofNat 4), .int (Int32.ofNat 4), .ref la]) rfl ?_
  refine At.ic2 (tgt := 93) rfl rfl (fun _ => ?_) (fun h => absurd h (by decide))
  refine At.go (q := xm14) rfl 1 (pc' := 94) (L' := [(0, .ref L), (2, .int 1), (3, .int (Int32.ofNat 4))]) (st' := [.int 0, .int (Int32.ofNat 4), .ref la]) rfl ?_
  refine At.as rfl gla0 (by decide) rfl (iN_nn (by omega)) (by rw [iN_tn (by decide), List.length_map, gl8a]; decide) ?_
  rw [iN_tn (show 4 < 2 ^ 31 by decide), show vp_nar (xTy 0) 0 = 0 from rfl]
  have B1 := S2T.setl (i := 4) (x := 0) B0
  obtain ⟨hp1, eh1⟩ : ∃ h, h = hp.set la (.inl (0, (lbs.map Value.int).set 4 (.int 0))) := ⟨_, rfl⟩
  refine At.hpe eh1 ?_
  rw [← eh1] at B1
  obtain ⟨tt1, sd1, fx1, fy1, gL1, gla1, gio1, gx1, gy1, gl8, go8⟩ := S2T.lk B1
  refine At.go (q := xm14) rfl 1 (pc' := 96) (L' := [(0, .ref L), (2, .int 1), (3, .int (Int32.ofNat 4))]) (st' := [.ref L]) rfl ?_
  refine At.gf rfl (by decide) gL1 rfl ?_
  refine At.go (q := xm14) rfl 2 (pc' := 101) (L' := [(0, .ref L), (2, .int 1), (3, .int (Int32.ofNat 4))]) (st' := [.ref L, .int (Int32.ofNat 4), .ref (A 0)]) rfl ?_
  refine At.gf rfl (by decide) gL1 rfl ?_
  refine At.go (q := xm14) rfl 1 (pc' := 105) (L' := [(0, .ref L), (2, .int 1), (3, .int (Int32.ofNat 4))]) (st' := [.int (Int32.ofNat 4), .ref la, .int (Int32.ofNat 4), .ref (A 0)]) rfl ?_
  refine At.al rfl gla1 (by decide) rfl (iN_nn (by omega)) (by rw [iN_tn (by omega), List.getElem?_map, (show (lbs.set 4 0)[4]? = some 0 from by rw [set_at (by omega), if_pos rfl])]; rfl) ?_
  refine At.clm (as := [.ref (A 0), .int (Int32.ofNat 4), .int 0]) (rest := []) rfl (by decide) rfl (Nat.le_of_ble_eq_true rfl) (Nat.le_of_ble_eq_true rfl) (xrck_o (by decide) (by decide) gx1 (by decide)) (Nat.le_of_ble_eq_true rfl) (S2T.thn B1 (P := fun v M2 N2 => v = some (.int 0) ∧ M2 = (entM M 4 0) ∧ N2 = N) (K2 := 0) (J2 := 0) (fun ow pc ps W hT => w_entx W (by decide) (by decide) (hz 4 (by decide) (by decide)))) (fun v hp2 c2 s2 hv => ?_)
  obtain ⟨M2, N2, ⟨rfl, eM, eN⟩, B2⟩ := hv
  rw [eM, eN] at B2
  clear eM eN
  obtain ⟨tt2, sd2, fx2, fy2, gL2, gla2, gio2, gx2, gy2, gl8, go8⟩ := S2T.lk B2
  refine At.go (q := xm14) rfl 2 (pc' := 113) (L' := [(0, .ref L), (2, .int 1), (3, .int (Int32.ofNat 4))]) (st' := [.ref L]) rfl ?_
  refine At.gf rfl (by decide) gL2 rfl ?_
  refine At.go (q := xm14) rfl 2 (pc' := 118) (L' := [(0, .ref L), (2, .int 1), (3, .int (Int32.ofNat 4))]) (st' := [.ref L, .int (Int32.ofNat 4), .ref (B 0)]) rfl ?_
  refine At.gf rfl (by decide) gL2 rfl ?_
  refine At.go (q := xm14) rfl 1 (pc' := 122) (L' := [(0, .ref L), (2, .int 1), (3, .int (Int32.ofNat 4))]) (st' := [.int (Int32.ofNat 4), .ref la, .int (Int32.ofNat 4), .ref (B 0)]) rfl ?_
  refine At.al rfl gla2 (by decide) rfl (iN_nn (by omega)) (by rw [iN_tn (by omega), List.getElem?_map, (show (lbs.set 4 0)[4]? = some 0 from by rw [set_at (by omega), if_pos rfl])]; rfl) ?_
  refine At.clm (as := [.ref (B 0), .int (Int32.ofNat 4), .int 0]) (rest := []) rfl (by decide) rfl (Nat.le_of_ble_eq_true rfl) (Nat.le_of_ble_eq_true rfl) (xrck_o (by decide) (by decide) gy2 (by decide)) (Nat.le_of_ble_eq_true rfl) (S2T.thn B2 (P := fun v M2 N2 => v = some (.int 0) ∧ M2 = (entM M 4 0) ∧ N2 = (entM N 4 0)) (K2 := 0) (J2 := 0) (fun ow pc ps W hT => w_enty W (by decide) (by decide) ((R0.lab (by decide)).trans (hz 4 (by decide) (by decide))))) (fun v hp3 c3 s3 hv => ?_)
  obtain ⟨M3, N3, ⟨rfl, eM, eN⟩, B3⟩ := hv
  rw [eM, eN] at B3
  clear eM eN
  obtain ⟨tt3, sd3, fx3, fy3, gL3, gla3, gio3, gx3, gy3, gl8, go8⟩ := S2T.lk B3
  refine At.go (q := xm14) rfl 6 (pc' := 39) (L' := [(3, .int ((Int32.ofNat 4) + 1)), (2, .int 1), (0, .ref L)]) (st' := []) rfl ?_
  have hI2 := li_ent hI (show 4 < 8 by decide) (show isL4 0 = true by decide) gl8a go8a
  have hz2 : ∀ j, 5 ≤ j → j < 8 → ((entM M 4 0).2.2.2.1 j).1 = 0 := fun j h1 h2 => by rw [ent_ne (by omega)]; exact hz j (by omega) h2
  rw [show Int32.ofNat 4 + 1 = Int32.ofNat 5 from rfl]
  refine At.wk (L' := [(0, .ref L), (2, .int 1), (3, .int (Int32.ofNat 5))]) (List.forall_mem_cons.mpr ⟨List.mem_of_getElem? (i := 2) rfl, (List.forall_mem_cons.mpr ⟨List.mem_of_getElem? (i := 1) rfl, (List.forall_mem_cons.mpr ⟨List.mem_of_getElem? (i := 0) rfl, (fun _ h => (List.not_mem_nil h).elim)⟩)⟩)⟩) (show ([3, 2, 0] : List Nat).Nodup by decide) ?_
  exact ho_39_5 ht hS hdF hI2 B3 hK hJ
theorem ho_39_3 {S : List Int32} {A B : Nat → Nat} {L la io : Nat} {h0 hp : List XC} {ow0 : Nat → Nat} {M N : HM} {lbs : List Int32} {top : Int32} {dt pc ps nc ns K J : Nat} (ht : isT3 top) (hS : S.length ≤ 1000) (hdF : dt ≤ 1000) (hI : LI top M N lbs (List.replicate 8 (0 : Int32)) 0 0 8) (hz : ∀ j, 3 ≤ j → j < 8 → (M.2.2.2.1 j).1 = 0) (B0 : S2T A B L la io h0 hp ow0 M N lbs (List.replicate 8 (0 : Int32)) top dt pc ps nc ns K J (.retAddr 75) []) (hK : K ≤ 0) (hJ : J ≤ 0) : At S 17 14 39 [(0, .ref L), (2, .int 1), (3, .int (Int32.ofNat 3))] [] hp nc ns (HoR S A B L la io h0 ow0 pc ps) := by
  obtain ⟨f0, g0, R0⟩ := hI.1
  obtain ⟨tt0, sd0, fx0, fy0, gL0, gla0, gio0, gx0, gy0, gl8a, go8a⟩ := S2T.lk B0
  refine At.go (q := xm14) rfl 2 (pc' := 41) (L' := [(0, .ref L), (2, .int 1), (3, .int (Int32.ofNat 3))]) (st' := [.int 5, .int (Int32.ofNat 3)]) rfl ?_
  refine At.ic2 (tgt := 141) rfl rfl (fun h => absurd h (by decide)) (fun _ => ?_)
  refine At.go (q := xm14) rfl 3 (pc' := 49) (L' := [(0, .ref L), (2, .int 1), (3, .int (Int32.ofNat 3))]) (st' := [.ref L]) rfl ?_
  refine At.gf rfl (by decide) gL0 rfl ?_
  refine At.go (q := xm14) rfl 2 (pc' := 54) (L' := [(0, .ref L), (2, .int 1), (3, .int (Int32.ofNat 3))]) (st' := [.int (Int32.ofNat 3), .int (Int32.ofNat 3), .ref la]) rfl ?_
  refine At.ic1 (tgt := 61) rfl rfl (fun _ => ?_) (fun h => absurd h (by decide))
  refine At.go (q := xm14) rfl 2 (pc' := 63) (L' := [(0, .ref L), (2, .int 1), (3, .int (Int32.ofNat 3))]) (st' := [.int 1, .int (Int32.ofNat 3), .int (Int32.ofNat 3), .ref la]) rfl ?_
  refine At.ic2 (tgt := 71) rfl rfl (fun _ => ?_) (fun h => absurd h (by decide))
  refine At.go (q := xm14) rfl 2 (pc' := 73) (L' := [(0, .ref L), (2, .int 1), (3, .int (Int32.ofNat 3))]) (st' := [.int 2, .int (Int32.ofNat 3), .int (Int32.ofNat 3), .ref la]) rfl ?_
  refine At.ic2 (tgt := 83) rfl rfl (fun _ => ?_) (fun h => absurd h (by decide))
  refine At.go (q := xm14) rfl 2 (pc' := 85) (L' := [(0, .ref L), (2, .int 1), (3, .int (Int32.ofNat 3))]) (st' := [.int 3, .int (Int32.ofNat 3), .int (Int32.ofNat 3), .ref la]) rfl ?_
  refine At.ic2 (tgt := 93) rfl rfl (fun h => absurd h (by decide)) (fun _ => ?_)
  refine At.go (q := xm14) rfl 2 (pc' := 94) (L' := [(0, .ref L), (2, .int 1), (3, .int (Int32.ofNat 3))]) (st' := [.int 17, .int (Int32.ofNat 3), .ref la]) rfl ?_
  refine At.as rfl gla0 (by decide) rfl (iN_nn (by omega)) (by rw [iN_tn (by decide), List.length_map, gl8a]; decide) ?_
  rw [iN_tn (show 3 < 2 ^ 31 by decide), show vp_nar (xTy 0) 17 = 17 from rfl]
  have B1 := S2T.setl (i := 3) (x := 17) B0
  obtain ⟨hp1, eh1⟩ : ∃ h, h = hp.set la (.inl (0, (lbs.map Value.int).set 3 (.int 17))) := ⟨_, rfl⟩
  refine At.hpe eh1 ?_
  rw [← eh1] at B1
  obtain ⟨tt1, sd1, fx1, fy1, gL1, gla1, gio1, gx1, gy1, gl8, go8⟩ := S2T.lk B1
  refine At.go (q := xm14) rfl 1 (pc' := 96) (L' := [(0, .ref L), (2, .int 1), (3, .int (Int32.ofNat 3))]) (st' := [.ref L]) rfl ?_
  refine At.gf rfl (by decide) gL1 rfl ?_
  refine At.go (q := xm14) rfl 2 (pc' := 101) (L' := [(0, .ref L), (2, .int 1), (3, .int (Int32.ofNat 3))]) (st' := [.ref L, .int (Int32.ofNat 3), .ref (A 0)]) rfl ?_
  refine At.gf rfl (by decide) gL1 rfl ?_
  refine At.go (q := xm14) rfl 1 (pc' := 105) (L' := [(0, .ref L), (2, .int 1), (3, .int (Int32.ofNat 3))]) (st' := [.int (Int32.ofNat 3), .ref la, .int (Int32.ofNat 3), .ref (A 0)]) rfl ?_
  refine At.al rfl gla1 (by decide) rfl (iN_nn (by omega)) (by rw [iN_tn (by omega), List.getElem?_map, (show (lbs.set 3 17)[3]? = some 17 from by rw [set_at (by omega), if_pos rfl])]; rfl) ?_
  refine At.clm (as := [.ref (A 0), .int (Int32.ofNat 3), .int 17]) (rest := []) rfl (by decide) rfl (Nat.le_of_ble_eq_true rfl) (Nat.le_of_ble_eq_true rfl) (xrck_o (by decide) (by decide) gx1 (by decide)) (Nat.le_of_ble_eq_true rfl) (S2T.thn B1 (P := fun v M2 N2 => v = some (.int 0) ∧ M2 = (entM M 3 17) ∧ N2 = N) (K2 := 0) (J2 := 0) (fun ow pc ps W hT => w_entx W (by decide) (by decide) (hz 3 (by decide) (by decide)))) (fun v hp2 c2 s2 hv => ?_)
  obtain ⟨M2, N2, ⟨rfl, eM, eN⟩, B2⟩ := hv
  rw [eM, eN] at B2
  clear eM eN
  obtain ⟨tt2, sd2, fx2, fy2, gL2, gla2, gio2, gx2, gy2, gl8, go8⟩ := S2T.lk B2
  refine At.go (q := xm14) rfl 2 (pc' := 113) (L' := [(0, .ref L), (2, .int 1), (3, .int (Int32.ofNat 3))]) (st' := [.ref L]) rfl ?_
  refine At.gf rfl (by decide) gL2 rfl ?_
  refine At.go (q := xm14) rfl 2 (pc' := 118) (L' := [(0, .ref L), (2, .int 1), (3, .int (Int32.ofNat 3))]) (st' := [.ref L, .int (Int32.ofNat 3), .ref (B 0)]) rfl ?_
  refine At.gf rfl (by decide) gL2 rfl ?_
  refine At.go (q := xm14) rfl 1 (pc' := 122) (L' := [(0, .ref L), (2, .int 1), (3, .int (Int32.ofNat 3))]) (st' := [.int (Int32.ofNat 3), .ref la, .int (Int32.ofNat 3), .ref (B 0)]) rfl ?_
  refine At.al rfl gla2 (by decide) rfl (iN_nn (by omega)) (by rw [iN_tn (by omega), List.getElem?_map, (show (lbs.set 3 17)[3]? = some 17 from by rw [set_at (by omega), if_pos rfl])]; rfl) ?_
  refine At.clm (as := [.ref (B 0), .int (Int32.ofNat 3), .int 17]) (rest := []) rfl (by decide) rfl (Nat.le_of_ble_eq_true rfl) (Nat.le_of_ble_eq_true rfl) (xrck_o (by decide) (by decide) gy2 (by decide)) (Nat.le_of_ble_eq_true rfl) (S2T.thn B2 (P := fun v M2 N2 => v = some (.int 0) ∧ M2 = (entM M 3 17) ∧ N2 = (entM N 3 17)) (K2 := 0) (J2 := 0) (fun ow pc ps W hT => w_enty W (by decide) (by decide) ((R0.lab (by decide)).trans (hz 3 (by decide) (by decide))))) (fun v hp3 c3 s3 hv => ?_)
  obtain ⟨M3, N3, ⟨rfl, eM, eN⟩, B3⟩ := hv
  rw [eM, eN] at B3
  clear eM eN
  obtain ⟨tt3, sd3, fx3, fy3, gL3, gla3, gio3, gx3, gy3, gl8, go8⟩ := S2T.lk B3
  refine At.go (q := xm14) rfl 6 (pc' := 39) (L' := [(3, .int ((Int32.ofNat 3) + 1)), (2, .int 1), (0, .ref L)]) (st' := []) rfl ?_
  have hI2 := li_ent hI (show 3 < 8 by decide) (show isL4 17 = true by decide) gl8a go8a
  have hz2 : ∀ j, 4 ≤ j → j < 8 → ((entM M 3 17).2.2.2.1 j).1 = 0 := fun j h1 h2 => by rw [ent_ne (by omega)]; exact hz j (by omega) h2
  rw [show Int32.ofNat 3 + 1 = Int32.ofNat 4 from rfl]
  refine At.wk (L' := [(0, .ref L), (2, .int 1), (3, .int (Int32.ofNat 4))]) (List.forall_mem_cons.mpr ⟨List.mem_of_getElem? (i := 2) rfl, (List.forall_mem_cons.mpr ⟨List.mem_of_getElem? (i := 1) rfl, (List.forall_mem_cons.mpr ⟨List.mem_of_getElem? (i := 0) rfl, (fun _ h => (List.not_mem_nil h).elim)⟩)⟩)⟩) (show ([3, 2, 0] : List Nat).Nodup by decide) ?_
  exact ho_39_4 ht hS hdF hI2 hz2 B3 hK hJ
theorem ho_39_2 {S : List Int32} {A B : Nat → Nat} {L la io : Nat} {h0 hp : List XC} {ow0 : Nat → Nat} {M N : HM} {lbs : List Int32} {top : Int32} {dt pc ps nc ns K J : Nat} (ht : isT3 top) (hS : S.length ≤ 1000) (hdF : dt ≤ 1000) (hI : LI top M N lbs (List.replicate 8 (0 : Int32)) 0 0 8) (hz : ∀ j, 2 ≤ j → j < 8 → (M.2.2.2.1 j).1 = 0) (B0 : S2T A B L la io h0 hp ow0 M N lbs (List.replicate 8 (0 : Int32)) top dt pc ps nc ns K J (.retAddr 75) []) (hK : K ≤ 0) (hJ : J ≤ 0) : At S 17 14 39 [(0, .ref L), (2, .int 1), (3, .int (Int32.ofNat 2))] [] hp nc ns (HoR S A B L la io h0 ow0 pc ps) := by
  obtain ⟨f0, g0, R0⟩ := hI.1
  obtain ⟨tt0, sd0, fx0, fy0, gL0, gla0, gio0, gx0, gy0, gl8a, go8a⟩ := S2T.lk B0
  refine At.go (q := xm14) rfl 2 (pc' := 41) (L' := [(0, .ref L), (2, .int 1), (3, .int (Int32.ofNat 2))]) (st' := [.int 5, .int (Int32.ofNat 2)]) rfl ?_
  refine At.ic2 (tgt := 141) rfl rfl (fun h => absurd h (by decide)) (fun _ => ?_)
  refine At.go (q := xm14) rfl 3 (pc' := 49) (L' := [(0, .ref L), (2, .int 1), (3, .int (Int32.ofNat 2))]) (st' := [.ref L]) rfl ?_
  refine At.gf rfl (by decide) gL0 rfl ?_
  refine At.go (q := xm14) rfl 2 (pc' := 54) (L' := [(0, .ref L), (2, .int 1), (3, .int (Int32.ofNat 2))]) (st' := [.int (Int32.ofNat 2), .int (Int32.ofNat 2), .ref la]) rfl ?_
  refine At.ic1 (tgt := 61) rfl rfl (fun _ => ?_) (fun h => absurd h (by decide))
  refine At.go (q := xm14) rfl 2 (pc' := 63) (L' := [(0, .ref L), (2, .int 1), (3, .int (Int32.ofNat 2))]) (st' := [.int 1, .int (Int32.ofNat 2), .int (Int32.ofNat 2), .ref la]) rfl ?_
  refine At.ic2 (tgt := 71) rfl rfl (fun _ => ?_) (fun h => absurd h (by decide))
  refine At.go (q := xm14) rfl 2 (pc' := 73) (L' := [(0, .ref L), (2, .int 1), (3, .int (Int32.ofNat 2))]) (st' := [.int 2, .int (Int32.ofNat 2), .int (Int32.ofNat 2), .ref la]) rfl ?_
  refine At.ic2 (tgt := 83) rfl rfl (fun h => absurd h (by decide)) (fun _ => ?_)
  refine At.go (q := xm14) rfl 1 (pc' := 77) (L' := [(0, .ref L), (2, .int 1), (3, .int (Int32.ofNat 2))]) (st' := [.ref L, .int (Int32.ofNat 2), .ref la]) rfl ?_
  refine At.gf rfl (by decide) gL0 rfl ?_
  refine At.go (q := xm14) rfl 1 (pc' := 94) (L' := [(0, .ref L), (2, .int 1), (3, .int (Int32.ofNat 2))]) (st' := [.int top, .int (Int32.ofNat 2), .ref la]) rfl ?_
  refine At.as rfl gla0 (by decide) rfl (iN_nn (by omega)) (by rw [iN_tn (by decide), List.length_map, gl8a]; decide) ?_
  rw [iN_tn (show 2 < 2 ^ 31 by decide), show vp_nar (xTy 0) top = top from rfl]
  have B1 := S2T.setl (i := 2) (x := top) B0
  obtain ⟨hp1, eh1⟩ : ∃ h, h = hp.set la (.inl (0, (lbs.map Value.int).set 2 (.int top))) := ⟨_, rfl⟩
  refine At.hpe eh1 ?_
  rw [← eh1] at B1
  obtain ⟨tt1, sd1, fx1, fy1, gL1, gla1, gio1, gx1, gy1, gl8, go8⟩ := S2T.lk B1
  refine At.go (q := xm14) rfl 1 (pc' := 96) (L' := [(0, .ref L), (2, .int 1), (3, .int (Int32.ofNat 2))]) (st' := [.ref L]) rfl ?_
  refine At.gf rfl (by decide) gL1 rfl ?_
  refine At.go (q := xm14) rfl 2 (pc' := 101) (L' := [(0, .ref L), (2, .int 1), (3, .int (Int32.ofNat 2))]) (st' := [.ref L, .int (Int32.ofNat 2), .ref (A 0)]) rfl ?_
  refine At.gf rfl (by decide) gL1 rfl ?_
  refine At.go (q := xm14) rfl 1 (pc' := 105) (L' := [(0, .ref L), (2, .int 1), (3, .int (Int32.ofNat 2))]) (st' := [.int (Int32.ofNat 2), .ref la, .int (Int32.ofNat 2), .ref (A 0)]) rfl ?_
  refine At.al rfl gla1 (by decide) rfl (iN_nn (by omega)) (by rw [iN_tn (by omega), List.getElem?_map, (show (lbs.set 2 top)[2]? = some top from by rw [set_at (by omega), if_pos rfl])]; rfl) ?_
  refine At.clm (as := [.ref (A 0), .int (Int32.ofNat 2), .int top]) (rest := []) rfl (by decide) rfl (Nat.le_of_ble_eq_true rfl) (Nat.le_of_ble_eq_true rfl) (xrck_o (by decide) (by decide) gx1 (by decide)) (Nat.le_of_ble_eq_true rfl) (S2T.thn B1 (P := fun v M2 N2 => v = some (.int 0) ∧ M2 = (entM M 2 top) ∧ N2 = N) (K2 := 0) (J2 := 0) (fun ow pc ps W hT => w_entx W (by decide) (t3_l4 ht) (hz 2 (by decide) (by decide)))) (fun v hp2 c2 s2 hv => ?_)
  obtain ⟨M2, N2, ⟨rfl, eM, eN⟩, B2⟩ := hv
  rw [eM, eN] at B2
  clear eM eN
  obtain ⟨tt2, sd2, fx2, fy2, gL2, gla2, gio2, gx2, gy2, gl8, go8⟩ := S2T.lk B2
  refine At.go (q := xm14) rfl 2 (pc' := 113) (L' := [(0, .ref L), (2, .int 1), (3, .int (Int32.ofNat 2))]) (st' := [.ref L]) rfl ?_
  refine At.gf rfl (by decide) gL2 rfl ?_
  refine At.go (q := xm14) rfl 2 (pc' := 118) (L' := [(0, .ref L), (2, .int 1), (3, .int (Int32.ofNat 2))]) (st' := [.ref L, .int (Int32.ofNat 2), .ref (B 0)]) rfl ?_
  refine At.gf rfl (by decide) gL2 rfl ?_
  refine At.go (q := xm14) rfl 1 (pc' := 122) (L' := [(0, .ref L), (2, .int 1), (3, .int (Int32.ofNat 2))]) (st' := [.int (Int32.ofNat 2), .ref la, .int (Int32.ofNat 2), .ref (B 0)]) rfl ?_
  refine At.al rfl gla2 (by decide) rfl (iN_nn (by omega)) (by rw [iN_tn (by omega), List.getElem?_map, (show (lbs.set 2 top)[2]? = some top from by rw [set_at (by omega), if_pos rfl])]; rfl) ?_
  refine At.clm (as := [.ref (B 0), .int (Int32.ofNat 2), .int top]) (rest := []) rfl (by decide) rfl (Nat.le_of_ble_eq_true rfl) (Nat.le_of_ble_eq_true rfl) (xrck_o (by decide) (by decide) gy2 (by decide)) (Nat.le_of_ble_eq_true rfl) (S2T.thn B2 (P := fun v M2 N2 => v = some (.int 0) ∧ M2 = (entM M 2 top) ∧ N2 = (entM N 2 top)) (K2 := 0) (J2 := 0) (fun ow pc ps W hT => w_enty W (by decide) (t3_l4 ht) ((R0.lab (by decide)).trans (hz 2 (by decide) (by decide))))) (fun v hp3 c3 s3 hv => ?_)
  obtain ⟨M3, N3, ⟨rfl, eM, eN⟩, B3⟩ := hv
  rw [eM, eN] at B3
  clear eM eN
  obtain ⟨tt3, sd3, fx3, fy3, gL3, gla3, gio3, gx3, gy3, gl8, go8⟩ := S2T.lk B3
  refine At.go (q := xm14) rfl 6 (pc' := 39) (L' := [(3, .int ((Int32.ofNat 2) + 1)), (2, .int 1), (0, .ref L)]) (st' := []) rfl ?_
  have hI2 := li_ent hI (show 2 < 8 by decide) (t3_l4 ht) gl8a go8a
  have hz2 : ∀ j, 3 ≤ j → j < 8 → ((entM M 2 top).2.2.2.1 j).1 = 0 := fun j h1 h2 => by rw [ent_ne (by omega)]; exact hz j (by omega) h2
  rw [show Int32.ofNat 2 + 1 = Int32.ofNat 3 from rfl]
  refine At.wk (L' := [(0, .ref L), (2, .int 1), (3, .int (Int32.ofNat 3))]) (List.forall_mem_cons.mpr ⟨List.mem_of_getElem? (i := 2) rfl, (List.forall_mem_cons.mpr ⟨List.mem_of_getElem? (i := 1) rfl, (List.forall_mem_cons.mpr ⟨List.mem_of_getElem? (i := 0) rfl, (fun _ h => (List.not_mem_nil h).elim)⟩)⟩)⟩) (show ([3, 2, 0] : List Nat).Nodup by decide) ?_
  exact ho_39_3 ht hS hdF hI2 hz2 B3 hK hJ
theorem ho_39_1 {S : List Int32} {A B : Nat → Nat} {L la io : Nat} {h0 hp : List XC} {ow0 : Nat → Nat} {M N : HM} {lbs : List Int32} {top : Int32} {dt pc ps nc ns K J : Nat} (ht : isT3 top) (hS : S.length ≤ 1000) (hdF : dt ≤ 1000) (hI : LI top M N lbs (List.replicate 8 (0 : Int32)) 0 0 8) (hz : ∀ j, 1 ≤ j → j < 8 → (M.2.2.2.1 j).1 = 0) (B0 : S2T A B L la io h0 hp ow0 M N lbs (List.replicate 8 (0 : Int32)) top dt pc ps nc ns K J (.retAddr 75) []) (hK : K ≤ 0) (hJ : J ≤ 0) : At S 17 14 39 [(0, .ref L), (2, .int 1), (3, .int (Int32.ofNat 1))] [] hp nc ns (HoR S A B L la io h0 ow0 pc ps) := by
  obtain ⟨f0, g0, R0⟩ := hI.1
  obtain ⟨tt0, sd0, fx0, fy0, gL0, gla0, gio0, gx0, gy0, gl8a, go8a⟩ := S2T.lk B0
  refine At.go (q := xm14) rfl 2 (pc' := 41) (L' := [(0, .ref L), (2, .int 1), (3, .int (Int32.ofNat 1))]) (st' := [.int 5, .int (Int32.ofNat 1)]) rfl ?_
  refine At.ic2 (tgt := 141) rfl rfl (fun h => absurd h (by decide)) (fun _ => ?_)
  refine At.go (q := xm14) rfl 3 (pc' := 49) (L' := [(0, .ref L), (2, .int 1), (3, .int (Int32.ofNat 1))]) (st' := [.ref L]) rfl ?_
  refine At.gf rfl (by decide) gL0 rfl ?_
  refine At.go (q := xm14) rfl 2 (pc' := 54) (L' := [(0, .ref L), (2, .int 1), (3, .int (Int32.ofNat 1))]) (st' := [.int (Int32.ofNat 1), .int (Int32.ofNat 1), .ref la]) rfl ?_
  refine At.ic1 (tgt := 61) rfl rfl (fun _ => ?_) (fun h => absurd h (by decide))
  refine At.go (q := xm14) rfl 2 (pc' := 63) (L' := [(0, .ref L), (2, .int 1), (3, .int (Int32.ofNat 1))]) (st' := [.int 1, .int (Int32.ofNat 1), .int (Int32.ofNat 1), .ref la]) rfl ?_
  refine At.ic2 (tgt := 71) rfl rfl (fun h => absurd h (by decide)) (fun _ => ?_)
  refine At.go (q := xm14) rfl 2 (pc' := 94) (L' := [(0, .ref L), (2, .int 1), (3, .int (Int32.ofNat 1))]) (st' := [.int 16, .int (Int32.ofNat 1), .ref la]) rfl ?_
  refine At.as rfl gla0 (by decide) rfl (iN_nn (by omega)) (by rw [iN_tn (by decide), List.length_map, gl8a]; decide) ?_
  rw [iN_tn (show 1 < 2 ^ 31 by decide), show vp_nar (xTy 0) 16 = 16 from rfl]
  have B1 := S2T.setl (i := 1) (x := 16) B0
  obtain ⟨hp1, eh1⟩ : ∃ h, h = hp.set la (.inl (0, (lbs.map Value.int).set 1 (.int 16))) := ⟨_, rfl⟩
  refine At.hpe eh1 ?_
  rw [← eh1] at B1
  obtain ⟨tt1, sd1, fx1, fy1, gL1, gla1, gio1, gx1, gy1, gl8, go8⟩ := S2T.lk B1
  refine At.go (q := xm14) rfl 1 (pc' := 96) (L' := [(0, .ref L), (2, .int 1), (3, .int (Int32.ofNat 1))]) (st' := [.ref L]) rfl ?_
  refine At.gf rfl (by decide) gL1 rfl ?_
  refine At.go (q := xm14) rfl 2 (pc' := 101) (L' := [(0, .ref L), (2, .int 1), (3, .int (Int32.ofNat 1))]) (st' := [.ref L, .int (Int32.ofNat 1), .ref (A 0)]) rfl ?_
  refine At.gf rfl (by decide) gL1 rfl ?_
  refine At.go (q := xm14) rfl 1 (pc' := 105) (L' := [(0, .ref L), (2, .int 1), (3, .int (Int32.ofNat 1))]) (st' := [.int (Int32.ofNat 1), .ref la, .int (Int32.ofNat 1), .ref (A 0)]) rfl ?_
  refine At.al rfl gla1 (by decide) rfl (iN_nn (by omega)) (by rw [iN_tn (by omega), List.getElem?_map, (show (lbs.set 1 16)[1]? = some 16 from by rw [set_at (by omega), if_pos rfl])]; rfl) ?_
  refine At.clm (as := [.ref (A 0), .int (Int32.ofNat 1), .int 16]) (rest := []) rfl (by decide) rfl (Nat.le_of_ble_eq_true rfl) (Nat.le_of_ble_eq_true rfl) (xrck_o (by decide) (by decide) gx1 (by decide)) (Nat.le_of_ble_eq_true rfl) (S2T.thn B1 (P := fun v M2 N2 => v = some (.int 0) ∧ M2 = (entM M 1 16) ∧ N2 = N) (K2 := 0) (J2 := 0) (fun ow pc ps W hT => w_entx W (by decide) (by decide) (hz 1 (by decide) (by decide)))) (fun v hp2 c2 s2 hv => ?_)
  obtain ⟨M2, N2, ⟨rfl, eM, eN⟩, B2⟩ := hv
  rw [eM, eN] at B2
  clear eM eN
  obtain ⟨tt2, sd2, fx2, fy2, gL2, gla2, gio2, gx2, gy2, gl8, go8⟩ := S2T.lk B2
  refine At.go (q := xm14) rfl 2 (pc' := 113) (L' := [(0, .ref L), (2, .int 1), (3, .int (Int32.ofNat 1))]) (st' := [.ref L]) rfl ?_
  refine At.gf rfl (by decide) gL2 rfl ?_
  refine At.go (q := xm14) rfl 2 (pc' := 118) (L' := [(0, .ref L), (2, .int 1), (3, .int (Int32.ofNat 1))]) (st' := [.ref L, .int (Int32.ofNat 1), .ref (B 0)]) rfl ?_
  refine At.gf rfl (by decide) gL2 rfl ?_
  refine At.go (q := xm14) rfl 1 (pc' := 122) (L' := [(0, .ref L), (2, .int 1), (3, .int (Int32.ofNat 1))]) (st' := [.int (Int32.ofNat 1), .ref la, .int (Int32.ofNat 1), .ref (B 0)]) rfl ?_
  refine At.al rfl gla2 (by decide) rfl (iN_nn (by omega)) (by rw [iN_tn (by omega), List.getElem?_map, (show (lbs.set 1 16)[1]? = some 16 from by rw [set_at (by omega), if_pos rfl])]; rfl) ?_
  refine At.clm (as := [.ref (B 0), .int (Int32.ofNat 1), .int 16]) (rest := []) rfl (by decide) rfl (Nat.le_of_ble_eq_true rfl) (Nat.le_of_ble_eq_true rfl) (xrck_o (by decide) (by decide) gy2 (by decide)) (Nat.le_of_ble_eq_true rfl) (S2T.thn B2 (P := fun v M2 N2 => v = some (.int 0) ∧ M2 = (entM M 1 16) ∧ N2 = (entM N 1 16)) (K2 := 0) (J2 := 0) (fun ow pc ps W hT => w_enty W (by decide) (by decide) ((R0.lab (by decide)).trans (hz 1 (by decide) (by decide))))) (fun v hp3 c3 s3 hv => ?_)
  obtain ⟨M3, N3, ⟨rfl, eM, eN⟩, B3⟩ := hv
  rw [eM, eN] at B3
  clear eM eN
  obtain ⟨tt3, sd3, fx3, fy3, gL3, gla3, gio3, gx3, gy3, gl8, go8⟩ := S2T.lk B3
  refine At.go (q := xm14) rfl 6 (pc' := 39) (L' := [(3, .int ((Int32.ofNat 1) + 1)), (2, .int 1), (0, .ref L)]) (st' := []) rfl ?_
  have hI2 := li_ent hI (show 1 < 8 by decide) (show isL4 16 = true by decide) gl8a go8a
  have hz2 : ∀ j, 2 ≤ j → j < 8 → ((entM M 1 16).2.2.2.1 j).1 = 0 := fun j h1 h2 => by rw [ent_ne (by omega)]; exact hz j (by omega) h2
  rw [show Int32.ofNat 1 + 1 = Int32.ofNat 2 from rfl]
  refine At.wk (L' := [(0, .ref L), (2, .int 1), (3, .int (Int32.ofNat 2))]) (List.forall_mem_cons.mpr ⟨List.mem_of_getElem? (i := 2) rfl, (List.forall_mem_cons.mpr ⟨List.mem_of_getElem? (i := 1) rfl, (List.forall_mem_cons.mpr ⟨List.mem_of_getElem? (i := 0) rfl, (fun _ h => (List.not_mem_nil h).elim)⟩)⟩)⟩) (show ([3, 2, 0] : List Nat).Nodup by decide) ?_
  exact ho_39_2 ht hS hdF hI2 hz2 B3 hK hJ
theorem ho_39_0 {S : List Int32} {A B : Nat → Nat} {L la io : Nat} {h0 hp : List XC} {ow0 : Nat → Nat} {M N : HM} {lbs : List Int32} {top : Int32} {dt pc ps nc ns K J : Nat} (ht : isT3 top) (hS : S.length ≤ 1000) (hdF : dt ≤ 1000) (hI : LI top M N lbs (List.replicate 8 (0 : Int32)) 0 0 8) (hz : ∀ j, 0 ≤ j → j < 8 → (M.2.2.2.1 j).1 = 0) (B0 : S2T A B L la io h0 hp ow0 M N lbs (List.replicate 8 (0 : Int32)) top dt pc ps nc ns K J (.retAddr 75) []) (hK : K ≤ 0) (hJ : J ≤ 0) : At S 17 14 39 [(0, .ref L), (2, .int 1), (3, .int (Int32.ofNat 0))] [] hp nc ns (HoR S A B L la io h0 ow0 pc ps) := by
  obtain ⟨f0, g0, R0⟩ := hI.1
  obtain ⟨tt0, sd0, fx0, fy0, gL0, gla0, gio0, gx0, gy0, gl8a, go8a⟩ := S2T.lk B0
  refine At.go (q := xm14) rfl 2 (pc' := 41) (L' := [(0, .ref L), (2, .int 1), (3, .int (Int32.ofNat 0))]) (st' := [.int 5, .int (Int32.ofNat 0)]) rfl ?_
  refine At.ic2 (tgt := 141) rfl rfl (fun h => absurd h (by decide)) (fun _ => ?_)
  refine At.go (q := xm14) rfl 3 (pc' := 49) (L' := [(0, .ref L), (2, .int 1), (3, .int (Int32.ofNat 0))]) (st' := [.ref L]) rfl ?_
  refine At.gf rfl (by decide) gL0 rfl ?_
  refine At.go (q := xm14) rfl 2 (pc' := 54) (L' := [(0, .ref L), (2, .int 1), (3, .int (Int32.ofNat 0))]) (st' := [.int (Int32.ofNat 0), .int (Int32.ofNat 0), .ref la]) rfl ?_
  refine At.ic1 (tgt := 61) rfl rfl (fun h => absurd h (by decide)) (fun _ => ?_)
  refine At.go (q := xm14) rfl 2 (pc' := 94) (L' := [(0, .ref L), (2, .int 1), (3, .int (Int32.ofNat 0))]) (st' := [.int 0, .int (Int32.ofNat 0), .ref la]) rfl ?_
  refine At.as rfl gla0 (by decide) rfl (iN_nn (by omega)) (by rw [iN_tn (by decide), List.length_map, gl8a]; decide) ?_
  rw [iN_tn (show 0 < 2 ^ 31 by decide), show vp_nar (xTy 0) 0 = 0 from rfl]
  have B1 := S2T.setl (i := 0) (x := 0) B0
  obtain ⟨hp1, eh1⟩ : ∃ h, h = hp.set la (.inl (0, (lbs.map Value.int).set 0 (.int 0))) := ⟨_, rfl⟩
  refine At.hpe eh1 ?_
  rw [← eh1] at B1
  obtain ⟨tt1, sd1, fx1, fy1, gL1, gla1, gio1, gx1, gy1, gl8, go8⟩ := S2T.lk B1
  refine At.go (q := xm14) rfl 1 (pc' := 96) (L' := [(0, .ref L), (2, .int 1), (3, .int (Int32.ofNat 0))]) (st' := [.ref L]) rfl ?_
  refine At.gf rfl (by decide) gL1 rfl ?_
  refine At.go (q := xm14) rfl 2 (pc' := 101) (L' := [(0, .ref L), (2, .int 1), (3, .int (Int32.ofNat 0))]) (st' := [.ref L, .int (Int32.ofNat 0), .ref (A 0)]) rfl ?_
  refine At.gf rfl (by decide) gL1 rfl ?_
  refine At.go (q := xm14) rfl 1 (pc' := 105) (L' := [(0, .ref L), (2, .int 1), (3, .int (Int32.ofNat 0))]) (st' := [.int (Int32.ofNat 0), .ref la, .int (Int32.ofNat 0), .ref (A 0)]) rfl ?_
  refine At.al rfl gla1 (by decide) rfl (iN_nn (by omega)) (by rw [iN_tn (by omega), List.getElem?_map, (show (lbs.set 0 0)[0]? = some 0 from by rw [set_at (by omega), if_pos rfl])]; rfl) ?_
  refine At.clm (as := [.ref (A 0), .int (Int32.ofNat 0), .int 0]) (rest := []) rfl (by decide) rfl (Nat.le_of_ble_eq_true rfl) (Nat.le_of_ble_eq_true rfl) (xrck_o (by decide) (by decide) gx1 (by decide)) (Nat.le_of_ble_eq_true rfl) (S2T.thn B1 (P := fun v M2 N2 => v = some (.int 0) ∧ M2 = (entM M 0 0) ∧ N2 = N) (K2 := 0) (J2 := 0) (fun ow pc ps W hT => w_entx W (by decide) (by decide) (hz 0 (by decide) (by decide)))) (fun v hp2 c2 s2 hv => ?_)
  obtain ⟨M2, N2, ⟨rfl, eM, eN⟩, B2⟩ := hv
  rw [eM, eN] at B2
  clear eM eN
  obtain ⟨tt2, sd2, fx2, fy2, gL2, gla2, gio2, gx2, gy2, gl8, go8⟩ := S2T.lk B2
  refine At.go (q := xm14) rfl 2 (pc' := 113) (L' := [(0, .ref L), (2, .int 1), (3, .int (Int32.ofNat 0))]) (st' := [.ref L]) rfl ?_
  refine At.gf rfl (by decide) gL2 rfl ?_
  refine At.go (q := xm14) rfl 2 (pc' := 118) (L' := [(0, .ref L), (2, .int 1), (3, .int (Int32.ofNat 0))]) (st' := [.ref L, .int (Int32.ofNat 0), .ref (B 0)]) rfl ?_
  refine At.gf rfl (by decide) gL2 rfl ?_
  refine At.go (q := xm14) rfl 1 (pc' := 122) (L' := [(0, .ref L), (2, .int 1), (3, .int (Int32.ofNat 0))]) (st' := [.int (Int32.ofNat 0), .ref la, .int (Int32.ofNat 0), .ref (B 0)]) rfl ?_
  refine At.al rfl gla2 (by decide) rfl (iN_nn (by omega)) (by rw [iN_tn (by omega), List.getElem?_map, (show (lbs.set 0 0)[0]? = some 0 from by rw [set_at (by omega), if_pos rfl])]; rfl) ?_
  refine At.clm (as := [.ref (B 0), .int (Int32.ofNat 0), .int 0]) (rest := []) rfl (by decide) rfl (Nat.le_of_ble_eq_true rfl) (Nat.le_of_ble_eq_true rfl) (xrck_o (by decide) (by decide) gy2 (by decide)) (Nat.le_of_ble_eq_true rfl) (S2T.thn B2 (P := fun v M2 N2 => v = some (.int 0) ∧ M2 = (entM M 0 0) ∧ N2 = (entM N 0 0)) (K2 := 0) (J2 := 0) (fun ow pc ps W hT => w_enty W (by decide) (by decide) ((R0.lab (by decide)).trans (hz 0 (by decide) (by decide))))) (fun v hp3 c3 s3 hv => ?_)
  obtain ⟨M3, N3, ⟨rfl, eM, eN⟩, B3⟩ := hv
  rw [eM, eN] at B3
  clear eM eN
  obtain ⟨tt3, sd3, fx3, fy3, gL3, gla3, gio3, gx3, gy3, gl8, go8⟩ := S2T.lk B3
  refine At.go (q := xm14) rfl 6 (pc' := 39) (L' := [(3, .int ((Int32.ofNat 0) + 1)), (2, .int 1), (0, .ref L)]) (st' := []) rfl ?_
  have hI2 := li_ent hI (show 0 < 8 by decide) (show isL4 0 = true by decide) gl8a go8a
  have hz2 : ∀ j, 1 ≤ j → j < 8 → ((entM M 0 0).2.2.2.1 j).1 = 0 := fun j h1 h2 => by rw [ent_ne (by omega)]; exact hz j (by omega) h2
  rw [show Int32.ofNat 0 + 1 = Int32.ofNat 1 from rfl]
  refine At.wk (L' := [(0, .ref L), (2, .int 1), (3, .int (Int32.ofNat 1))]) (List.forall_mem_cons.mpr ⟨List.mem_of_getElem? (i := 2) rfl, (List.forall_mem_cons.mpr ⟨List.mem_of_getElem? (i := 1) rfl, (List.forall_mem_cons.mpr ⟨List.mem_of_getElem? (i := 0) rfl, (fun _ h => (List.not_mem_nil h).elim)⟩)⟩)⟩) (show ([3, 2, 0] : List Nat).Nodup by decide) ?_
  exact ho_39_1 ht hS hdF hI2 hz2 B3 hK hJ
theorem ho_5 {S : List Int32} {A B : Nat → Nat} {L la io : Nat} {h0 hp : List XC} {ow0 : Nat → Nat} {M N : HM} {top : Int32} {dt pc ps nc ns K J : Nat} (hS : S.length ≤ 1000) (hdF : dt ≤ 900) (hI : ∀ top, LI top M N (List.replicate 8 (0 : Int32)) (List.replicate 8 (0 : Int32)) 0 0 8) (hz : ∀ j, 0 ≤ j → j < 8 → (M.2.2.2.1 j).1 = 0) (B0 : S2T A B L la io h0 hp ow0 M N (List.replicate 8 (0 : Int32)) (List.replicate 8 (0 : Int32)) top dt pc ps nc ns 0 0 (.retAddr 75) []) : At S 17 14 5 [(0, .ref L), (1, .retAddr 226)] [] hp nc ns (HoR S A B L la io h0 ow0 pc ps) := by
  obtain ⟨tt0, sd0, fx0, fy0, gL0, gla0, gio0, gx0, gy0, gl8, go8⟩ := S2T.lk B0
  refine At.go (q := xm14) rfl 3 (pc' := 8) (L' := [(0, .ref L), (1, .retAddr 226)]) (st' := [.int 3, .ref L, .ref L]) rfl ?_
  refine At.clm (as := [.ref L, .int 3]) (rest := [.ref L]) rfl (by decide) rfl (Nat.le_of_ble_eq_true rfl) (Nat.le_of_ble_eq_true rfl) (xrck_o (by decide) (by decide) gL0 (by decide)) (Nat.le_of_ble_eq_true rfl) (S2T.draw B0 (m9 := 3) (by omega) hS (by decide) (by decide)) (fun v hp1 c1 s1 hv => ?_)
  obtain ⟨⟨n1, hn1, rfl⟩, B1⟩ := hv
  obtain ⟨tt1, sd1, fx1, fy1, gL1, gla1, gio1, gx1, gy1, gl8, go8⟩ := S2T.lk B1
  refine At.ic1 (tgt := 18) rfl rfl (fun h11 => ?_) (fun h11 => ?_)
  · refine At.go (q := xm14) rfl 2 (pc' := 20) (L' := [(0, .ref L), (1, .retAddr 226)]) (st' := [.int 2, .ref L, .ref L]) rfl ?_
    refine At.clm (as := [.ref L, .int 2]) (rest := [.ref L]) rfl (by decide) rfl (Nat.le_of_ble_eq_true rfl) (Nat.le_of_ble_eq_true rfl) (xrck_o (by decide) (by decide) gL1 (by decide)) (Nat.le_of_ble_eq_true rfl) (S2T.draw B1 (m9 := 2) (by omega) hS (by decide) (by decide)) (fun v hp2 c2 s2 hv => ?_)
    obtain ⟨⟨n2, hn2, rfl⟩, B2⟩ := hv
    obtain ⟨tt2, sd2, fx2, fy2, gL2, gla2, gio2, gx2, gy2, gl8, go8⟩ := S2T.lk B2
    refine At.ic1 (tgt := 30) rfl rfl (fun h23 => ?_) (fun h23 => ?_)
    · refine At.go (q := xm14) rfl 1 (pc' := 32) (L' := [(0, .ref L), (1, .retAddr 226)]) (st' := [.int 16, .ref L]) rfl ?_
      refine At.pf rfl gL2 (Nat.le_of_ble_eq_true rfl) rfl ?_
      have B3 := S2T.sett (x := 16) B2 gL2
      obtain ⟨hp3, eh3⟩ : ∃ h, h = hp2.set L (.inr (15, [.retAddr 226, .int tt2, .int sd2, .ref (A 0), .ref (B 0), .ref la, .ref io, .int 16])) := ⟨_, rfl⟩
      refine At.hpe eh3 ?_
      rw [← eh3] at B3
      obtain ⟨tt3, sd3, fx3, fy3, gL3, gla3, gio3, gx3, gy3, gl8, go8⟩ := S2T.lk B3
      refine At.go (q := xm14) rfl 4 (pc' := 39) (L' := [(3, .int 0), (2, .int 1), (0, .ref L), (1, .retAddr 226)]) (st' := []) rfl ?_
      refine At.wk (L' := [(0, .ref L), (2, .int 1), (3, .int 0)]) (List.forall_mem_cons.mpr ⟨List.mem_of_getElem? (i := 2) rfl, (List.forall_mem_cons.mpr ⟨List.mem_of_getElem? (i := 1) rfl, (List.forall_mem_cons.mpr ⟨List.mem_of_getElem? (i := 0) rfl, (fun _ h => (List.not_mem_nil h).elim)⟩)⟩)⟩) (show ([3, 2, 0, 1] : List Nat).Nodup by decide) ?_
      exact ho_39_0 (Or.inr (Or.inr rfl)) hS (by omega) (hI 16) hz B3 (Nat.le_refl 0) (Nat.le_refl 0)
    · refine At.go (q := xm14) rfl 2 (pc' := 32) (L' := [(0, .ref L), (1, .retAddr 226)]) (st' := [.int 1, .ref L]) rfl ?_
      refine At.pf rfl gL2 (Nat.le_of_ble_eq_true rfl) rfl ?_
      have B3 := S2T.sett (x := 1) B2 gL2
      obtain ⟨hp3, eh3⟩ : ∃ h, h = hp2.set L (.inr (15, [.retAddr 226, .int tt2, .int sd2, .ref (A 0), .ref (B 0), .ref la, .ref io, .int 1])) := ⟨_, rfl⟩
      refine At.hpe eh3 ?_
      rw [← eh3] at B3
      obtain ⟨tt3, sd3, fx3, fy3, gL3, gla3, gio3, gx3, gy3, gl8, go8⟩ := S2T.lk B3
      refine At.go (q := xm14) rfl 4 (pc' := 39) (L' := [(3, .int 0), (2, .int 1), (0, .ref L), (1, .retAddr 226)]) (st' := []) rfl ?_
      refine At.wk (L' := [(0, .ref L), (2, .int 1), (3, .int 0)]) (List.forall_mem_cons.mpr ⟨List.mem_of_getElem? (i := 2) rfl, (List.forall_mem_cons.mpr ⟨List.mem_of_getElem? (i := 1) rfl, (List.forall_mem_cons.mpr ⟨List.mem_of_getElem? (i := 0) rfl, (fun _ h => (List.not_mem_nil h).elim)⟩)⟩)⟩) (show ([3, 2, 0, 1] : List Nat).Nodup by decide) ?_
      exact ho_39_0 (Or.inr (Or.inl rfl)) hS (by omega) (hI 1) hz B3 (Nat.le_refl 0) (Nat.le_refl 0)
  · refine At.go (q := xm14) rfl 2 (pc' := 32) (L' := [(0, .ref L), (1, .retAddr 226)]) (st' := [.int 0, .ref L]) rfl ?_
    refine At.pf rfl gL1 (Nat.le_of_ble_eq_true rfl) rfl ?_
    have B2 := S2T.sett (x := 0) B1 gL1
    obtain ⟨hp2, eh2⟩ : ∃ h, h = hp1.set L (.inr (15, [.retAddr 226, .int tt1, .int sd1, .ref (A 0), .ref (B 0), .ref la, .ref io, .int 0])) := ⟨_, rfl⟩
    refine At.hpe eh2 ?_
    rw [← eh2] at B2
    obtain ⟨tt2, sd2, fx2, fy2, gL2, gla2, gio2, gx2, gy2, gl8, go8⟩ := S2T.lk B2
    refine At.go (q := xm14) rfl 4 (pc' := 39) (L' := [(3, .int 0), (2, .int 1), (0, .ref L), (1, .retAddr 226)]) (st' := []) rfl ?_
    refine At.wk (L' := [(0, .ref L), (2, .int 1), (3, .int 0)]) (List.forall_mem_cons.mpr ⟨List.mem_of_getElem? (i := 2) rfl, (List.forall_mem_cons.mpr ⟨List.mem_of_getElem? (i := 1) rfl, (List.forall_mem_cons.mpr ⟨List.mem_of_getElem? (i := 0) rfl, (fun _ h => (List.not_mem_nil h).elim)⟩)⟩)⟩) (show ([3, 2, 0, 1] : List Nat).Nodup by decide) ?_
    exact ho_39_0 (Or.inl rfl) hS (by omega) (hI 0) hz B2 (Nat.le_refl 0) (Nat.le_refl 0)
