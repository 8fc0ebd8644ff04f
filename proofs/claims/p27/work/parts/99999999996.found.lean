/-! the house: tables found by their names; new tables (by hand) -/
theorem tnE_at {ts : List (Int32 × Int32)} {nm by9 : Int32} : ∀ {n j : Nat}, tnE ts nm by9 n = some j → j < n ∧ ∃ q, ts[j]? = some q ∧ q.1 = nm ∧ isB q.2 by9 = true
  | 0, _, h => by cases h
  | n + 1, j, h => by
    rw [tnE] at h
    cases hq : ts[n]? with
    | none => rw [hq] at h; cases h
    | some q =>
      rw [hq] at h
      by_cases hc : q.1 = nm ∧ isB q.2 by9 = true
      · have h' : some n = some j := by rw [← h]; exact (if_pos hc).symm
        cases h'
        exact ⟨Nat.lt_succ_self _, q, hq, hc⟩
      · have h' : tnE ts nm by9 n = some j := by rw [← h]; exact (if_neg hc).symm
        obtain ⟨a, b⟩ := tnE_at h'
        exact ⟨Nat.lt_succ_of_lt a, b⟩
/-- the table of a name, for a label -/
def tnM (M : HM) (lb nm : Int32) : Option Nat := match tnE (tsM M) nm lb (tsM M).length with
  | some j => M.1[j]?
  | none => none
theorem tsM_len {M : HM} : (tsM M).length = M.1.length := by unfold tsM; rw [List.length_map]
theorem tnM_none {M : HM} {lb nm : Int32} (h : tnM M lb nm = none) : tnE (tsM M) nm lb (tsM M).length = none := by
  unfold tnM at h
  cases e : tnE (tsM M) nm lb (tsM M).length with
  | none => rfl
  | some j =>
    rw [e] at h
    have hj := (tnE_at e).1
    rw [tsM_len] at hj
    have h' : M.1[j]? = none := h
    have := List.getElem?_eq_none_iff.mp h'
    omega
theorem tnM_some {M : HM} {lb nm : Int32} {t : Nat} (h : tnM M lb nm = some t) : ∃ j, tnE (tsM M) nm lb (tsM M).length = some j ∧ M.1[j]? = some t ∧ t ∈ M.1 ∧ (TIq M.2.2.2.2.2.2 t).1 = nm ∧ isB (TIq M.2.2.2.2.2.2 t).2.1 lb = true := by
  unfold tnM at h
  cases e : tnE (tsM M) nm lb (tsM M).length with
  | none => rw [e] at h; cases h
  | some j =>
    rw [e] at h
    have h' : M.1[j]? = some t := h
    obtain ⟨hj, q, hq, q1, q2⟩ := tnE_at e
    unfold tsM at hq
    rw [List.getElem?_map, h'] at hq
    cases hq
    exact ⟨j, rfl, h', List.mem_of_getElem? h', q1, q2⟩
/-- all tables are the law's -/
def WfT (M : HM) : Prop := ∀ q ∈ M.2.2.2.2.2.2, tbA q.2.2.1 ∨ tbB q.2.2.1
theorem WfT.a {M : HM} (h : WfT M) {q : TQ} (hq : q ∈ M.2.2.2.2.2.2) (hn : q.2.2.1.1 = 14348907) : tbA q.2.2.1 := by
  rcases h q hq with e | e
  · exact e
  · rw [e.1] at hn
    exact absurd hn (by decide)
theorem WfT.b {M : HM} (h : WfT M) {q : TQ} (hq : q ∈ M.2.2.2.2.2.2) (hn : q.2.2.1.1 = 28697814) : tbB q.2.2.1 := by
  rcases h q hq with e | e
  · rw [e.1] at hn
    exact absurd hn (by decide)
  · exact e
/-- what is found is one of the house's tables -/
theorem HR.found {hp : List XC} {ow : Nat → Nat} {k : Nat} {A : Nat → Nat} {M : HM} {rf : Int32} {np nl : Nat} (h : HR hp ow k A M rf np nl) (hSt : StT M.2.2.2.2.2.2 M.1) {lb nm : Int32} {t : Nat} (ht : tnM M lb nm = some t) : ∃ q ∈ M.2.2.2.2.2.2, q.1.1 = t ∧ t ∈ M.1 ∧ q.2.2.1.1 = nm ∧ isB q.2.2.1.2.1 lb = true ∧ ∃ j, tnE (tsM M) nm lb (tsM M).length = some j ∧ M.1[j]? = some t := by
  obtain ⟨j, e1, e2, e3, e4, e5⟩ := tnM_some ht
  obtain ⟨q, hq, hqt⟩ := hSt t e3
  have htd : ∀ p ∈ M.2.2.2.2.2.2, ∀ q ∈ M.2.2.2.2.2.2, p.1.1 = q.1.1 ∨ p.1.2.1 = q.1.2.1 → p = q := h.2.2.2.2.2.2.2.2.2.2.2.2.2.2.2.2.1
  have e6 := TIq_at htd hq
  rw [hqt] at e6
  rw [e6] at e4 e5
  exact ⟨q, hq, hqt, e3, e4, e5, j, e1, e2⟩
section
variable {hp : List XC} {ow : Nat → Nat} {k : Nat} {A : Nat → Nat} {σ : Nat → Nat} {ω : Nat → Value} {std : List Nat}
theorem BTa (hD : hLs hp (A 2) std) (hω : ∀ j, (ω j).category = 1) (how : ∀ j, j < 77 → ow (A j) = k + j ∧ A j < hp.length) {q : TQ} (hq : hTq hp ow k q) (hs : q.1.1 ∈ std) (hso : ∀ a ∈ std, ∃ fs, hp[a]? = some (.inr (13, fs))) (ht : tbA q.2.2.1) : ∃ ta ω', BT hp A ta σ ω ω' bT0 bC1 std ∧ ta 0 = q.1.1 := by
  obtain ⟨n1, c1, k1, r1⟩ := ht
  rcases k1 with k1 | k1
  · exact BT1 (x26 := .retAddr 24) (x27 := .null) hD hω how hq hs hso rfl rfl ⟨_, _, _, rfl, fun ρ ω' e1 e2 => ⟨by rw [c1]; rfl, by rw [k1]; show [Value.retAddr 22, ω' 910026] = _; rw [e1]; rfl, by rw [r1]; rfl⟩⟩
  · exact BT1 (x26 := .retAddr 25) (x27 := .null) hD hω how hq hs hso rfl rfl ⟨_, _, _, rfl, fun ρ ω' e1 e2 => ⟨by rw [c1]; rfl, by rw [k1]; show [Value.retAddr 22, ω' 910026] = _; rw [e1]; rfl, by rw [r1]; rfl⟩⟩
theorem BTb (hD : hLs hp (A 2) std) (hω : ∀ j, (ω j).category = 1) (how : ∀ j, j < 77 → ow (A j) = k + j ∧ A j < hp.length) {q : TQ} (hq : hTq hp ow k q) (hs : q.1.1 ∈ std) (hso : ∀ a ∈ std, ∃ fs, hp[a]? = some (.inr (13, fs))) (ht : tbB q.2.2.1) : ∃ ta ω', BT hp A ta σ ω ω' bT1 bC1 std ∧ ta 0 = q.1.1 := by
  obtain ⟨n1, c1, k1, r, r1⟩ := ht
  exact BT1 (x26 := .null) (x27 := .ref r.1) hD hω how hq hs hso rfl rfl ⟨_, _, _, rfl, fun ρ ω' e1 e2 => ⟨by rw [c1]; rfl, by rw [k1]; rfl, by rw [r1]; show [Value.null, ω' 910027, Value.null] = _; rw [e2]; rfl⟩⟩
theorem BTba (hD : hLs hp (A 2) std) (hω : ∀ j, (ω j).category = 1) (how : ∀ j, j < 77 → ow (A j) = k + j ∧ A j < hp.length) {p q : TQ} (hp9 : hTq hp ow k p) (hq9 : hTq hp ow k q) (hso : ∀ a ∈ std, ∃ fs, hp[a]? = some (.inr (13, fs))) (hb : tbB p.2.2.1) (ha : tbA q.2.2.1) (hne : p.1.1 ≠ q.1.1) : ∃ ta ω', BT hp A ta σ ω ω' bT2 bC2 std ∧ ta 0 = p.1.1 ∧ ta 4 = q.1.1 := by
  obtain ⟨n1, c1, k1, r, r1⟩ := hb
  obtain ⟨m1, d1, l1, s1⟩ := ha
  have hlen : p.2.2.1.2.2.1.length ≠ q.2.2.1.2.2.1.length := by rw [c1, d1]; decide
  rcases l1 with l1 | l1
  · exact BT2 (x27 := .ref r.1) (x36 := .retAddr 24) hD hω how hp9 hq9 hne hlen hso rfl rfl ⟨_, _, _, _, _, _, rfl, fun ρ ω' e1 e2 => ⟨⟨by rw [c1]; rfl, by rw [k1]; rfl, by rw [r1]; show [Value.null, ω' 910027, Value.null] = _; rw [e1]; rfl⟩, by rw [d1]; rfl, by rw [l1]; show [Value.retAddr 22, ω' 910036] = _; rw [e2]; rfl, by rw [s1]; rfl⟩⟩
  · exact BT2 (x27 := .ref r.1) (x36 := .retAddr 25) hD hω how hp9 hq9 hne hlen hso rfl rfl ⟨_, _, _, _, _, _, rfl, fun ρ ω' e1 e2 => ⟨⟨by rw [c1]; rfl, by rw [k1]; rfl, by rw [r1]; show [Value.null, ω' 910027, Value.null] = _; rw [e1]; rfl⟩, by rw [d1]; rfl, by rw [l1]; show [Value.retAddr 22, ω' 910036] = _; rw [e2]; rfl, by rw [s1]; rfl⟩⟩
end
theorem WH.rho {A ρ ρ' σ : Nat → Nat} {ω : Nat → Value} {W : List WC} {hp : List XC} (H : WH A ρ σ ω W hp) (hr : ∀ n, n < 18 → ρ n = ρ' n) (hG : (W.take 17).all (wnGC 18) = true) : WH A ρ' σ ω W hp := by
  refine ⟨H.1, fun n hn => by rw [← hr n (by omega)]; exact H.2.1 n hn, fun h c hh hc => ?_⟩
  have hm : c ∈ W.take 17 := List.mem_of_getElem? (by rw [List.getElem?_take, if_pos hh]; exact hc)
  rw [H.2.2 h c hh hc, wnGC_s (B := 18) (ρ' := ρ') (ω' := ω) hr (fun _ _ => rfl) (List.all_eq_true.mp hG c hm)]
theorem StT.obj {hp : List XC} {ow : Nat → Nat} {k : Nat} {A : Nat → Nat} {M : HM} {rf : Int32} {np nl : Nat} (h : HR hp ow k A M rf np nl) (hSt : StT M.2.2.2.2.2.2 M.1) : ∀ a ∈ M.1, ∃ fs, hp[a]? = some (.inr (13, fs)) := fun a ha => by
  obtain ⟨tf, h9⟩ := h.std hSt ha
  exact ⟨_, h9⟩
theorem h_new_tb {S : List Int32} {g : List XC} {ow : Nat → Nat} {k : Nat} {A ρ σ : Nat → Nat} {ω : Nat → Value} {M : HM} {rf : Int32} {np nl : Nat} (h : HR g ow k A M rf np nl) (hSt : StT M.2.2.2.2.2.2 M.1) (hω : ∀ j, (ω j).category = 1) (hr17 : ρ 17 = A 2) (hW : WH A ρ σ ω bW_tb_a g) {q : TQ} (hq : q ∈ M.2.2.2.2.2.2) (hqa : tbA q.2.2.1) (hqs : q.1.1 ∈ M.1) (hj : ∃ j, tnE (tsM M) 14348907 (Int32.ofNat (wg [0, 1, 16, 17] (σ 10))) (tsM M).length = some j ∧ M.1[j]? = some q.1.1) : Me S 9 165 [.ref (A 75), .int (nSr σ)] g (fun v g' c s => v = some (.ref (tQ_tb g.length σ q.1.1 q.2.1).1.1) ∧ HSt g g' ow k A (mTabs M (M.2.2.2.2.2.2 ++ [tQ_tb g.length σ q.1.1 q.2.1])) rf np nl c s 5 82) := by
  have hTn9 := h.tsn hSt
  have how := h.2.1
  have hD := h.2.2.2.2.2.1
  have hTq9 : ∀ q ∈ M.2.2.2.2.2.2, hTq g ow k q := h.2.2.2.2.2.2.2.2.2.2.2.2.2.2.2.1
  obtain ⟨ta, ω', hB, hta⟩ := BTa (σ := σ) hD hω how (hTq9 q hq) hqs (StT.obj h hSt) hqa
  have hA : ∀ a b, a < 77 → b < 77 → A a = A b → a = b := fun a b ha hb e => by have u := (how a ha).1; rw [e, (how b hb).1] at u; omega
  have hW2 : WH A (fun n => if n < 18 then ρ n else ta (n - 18)) σ ω bW_tb_a g := hW.rho (fun n hn => (if_pos hn).symm) (by decide +kernel)
  refine me_imp (h_newW (S := S) (T := bT0) (N := nW_tb) (ta := ta) nw_tb (by decide) hW2 ((if_pos (by decide)).trans hr17) (fun m hm => by show (if 18 + m < 18 then _ else _) = _; rw [if_neg (by omega), show 18 + m - 18 = m by omega]) hB (by decide +kernel) (by rfl) (by rfl) (by decide +kernel) (by decide +kernel) hA (fun a ha => (how a ha).2) hD hTn9 (fun p hp => ?_)) (fun v g' c s hv => ?_)
  · rw [List.mem_singleton.mp hp]
    obtain ⟨j, j1, j2⟩ := hj
    refine ⟨14348907, rfl, j, j1, j2.trans ?_⟩
    show some q.1.1 = some (ta 0)
    rw [hta]
  · obtain ⟨v1, f, H', rfl, rfl, eh⟩ := hv
    have hr : ∀ j, rhoB A ta bT0.length g.length (22 + j) = g.length + j := fun j => by
      unfold rhoB
      rw [if_neg (by omega), if_neg (by omega), if_neg (by show ¬ 22 + j < 18 + 4; omega)]
      show g.length + (22 + j - (18 + 4)) = _
      omega
    have hr18 : rhoB A ta bT0.length g.length 18 = q.1.1 := by rw [← hta]; rfl
    obtain ⟨ca, ka, ra, ga, chk, dv, t1, -⟩ := (hTq9 q hq).1
    have hrf : g'[q.1.1]? = some (.inr (13, .int q.2.1 :: [.int q.2.2.1.1, .int q.2.2.1.2.1, .ref ca, .ref ka, .ref ra, chk, .ref ga, dv])) := f.ob t1 (by decide) (fun x => x)
    refine ⟨v1.trans (by rw [show (22 : Nat) = 22 + 0 from rfl, hr]; rfl), HSt.newT h f (fun a ha => if_pos ha) (hq_tb (ow := ow) (k := k) eh hr hr18 hrf) (Nat.le_add_right _ _) (Nat.le_add_right _ _)⟩
/-- a token's number -/
def rvB (W : List WC) (j : Nat) : Bool := wcO W 1 8 7 && (wveq (wfl W 1 1) (wA 8) && (wisI (wfl W 1 3) && (Nat.ble (j + 1) (wna (wfl W 1 3)) && (Nat.ble (wna (wfl W 1 3)) 120 && (wcX W 8 12 120 && wisD (wfl W 8 j))))))
theorem WH.rval {S : List Int32} {A ρ σ : Nat → Nat} {ω : Nat → Value} {W : List WC} {hp : List XC} {d j : Nat} (H : WH A ρ σ ω W hp) (hb : rvB W j = true) : Pu S d 62 [.ref (A 61), .int (Int32.ofNat j)] hp (.int (wti σ (wfl W 8 j))) := by
  unfold rvB at hb
  simp only [Bool.and_eq_true] at hb
  obtain ⟨b1, b2, b3, b4, b5, b6, b7⟩ := hb
  obtain ⟨rf, r1, r2, r3⟩ := wO_at H (by decide) b1
  obtain ⟨es, e1, e2, e3⟩ := wX_at H (by decide) b6
  have e4 := Nat.le_of_ble_eq_true b4
  have e5 := Nat.le_of_ble_eq_true b5
  match rf, r2, r3, r1 with
  | [x0, x1, x2, x3, x4, x5, x6], r2, r3, r1 =>
    have y1 : x1 = .ref (A 68) := by
      have := r3 1 (by decide)
      rw [wveq_s b2] at this
      have h2 : some x1 = some (Value.ref (ρ 8)) := this
      rw [H.2.1 8 (by decide)] at h2
      exact Option.some.inj h2
    have y3 : x3 = .int (Int32.ofNat (wna (wfl W 1 3))) := by
      have := r3 3 (by decide)
      rw [wisI_s b3] at this
      exact Option.some.inj this
    rw [y1, y3] at r1
    exact At.deep (Nat.zero_le d) (m_rvalue r1 e1 (by omega) (by omega) (by omega) (by rw [e3 j (by omega), wisD_s b7]))
def mkB (nm ta : Nat) (W : List WC) : Bool := stfB W && (wveq (wfl W 0 2) (wK 20) && (wveq (wfl W 0 0) (wA 1) && (wveq (wfl W 0 5) (wI ta) && (rvB W ta && (wveq (wfl W 8 ta) (wI nm) && wFrB W)))))
/-- the numbers for a new table -/
def MdS (M : HM) (σ : Nat → Nat) : Prop := M.2.2.2.2.2.1 + 1 = nSr σ
theorem v_mk {S : List Int32} {g : List XC} {ow : Nat → Nat} {k : Nat} {A : Nat → Nat} {M : HM} {np nl i ln : Nat} {ρ σ : Nat → Nat} {ω : Nat → Value} {W : List WC} {nm ta K J : Nat} {q' : TQ} (h : HR g ow k A M 0 np nl) (hi : i < 8) (hln : (M.2.2.2.1 i).1 = Int32.ofNat ln) (hl64 : ln < 64) (hV : WfV M i) (H : WH A ρ σ ω W g) (hb : mkB nm ta W = true) (hnew : ∀ g2 : List XC, g2.length = g.length → HR g2 ow k A (mMade M (M.2.2.2.2.2.1 + 1)) 0 np nl → WH A ρ σ ω W g2 → Me S 9 165 [.ref (A 75), .int (M.2.2.2.2.2.1 + 1)] g2 (fun v g' c s => v = some (.ref q'.1.1) ∧ HSt g2 g' ow k A (mTabs (mMade M (M.2.2.2.2.2.1 + 1)) (M.2.2.2.2.2.2 ++ [q'])) 0 np nl c s K J)) (hpl : (mkR M i (Int32.ofNat nm)).2.2 ≤ M.1.length) : At S 12 40 66 [(3, .int (Int32.ofNat 4294967295)), (2, .ref (A (20 + i))), (0, .ref (A 0))] [] g 0 0 (QR g ow k A np nl (K + 1) (J + 6) (fun r => r = cntR (mkM M i (Int32.ofNat nm) q') i ln)) := by
  unfold mkB at hb
  simp only [Bool.and_eq_true] at hb
  obtain ⟨b1, bv, b2, b3, b4, b5, b6⟩ := hb
  obtain ⟨sf, mf, ces, ws, es, gs, hS9, s3, m3, c3, c2⟩ := H.stf b1
  obtain ⟨hsr, hEt, hlen, hSt, hst9, hend, hch, hsame, hwid⟩ := hV
  have h2v : sf[2]? = some (.retAddr 20) := by rw [s3 2 (by decide), wveq_s bv]; rfl
  have hmf : g[A 75]? = some (.inr (6, mf)) := hS9.2.2.2.2.1
  have hs0 : sf[0]? = some (.ref (A 61)) := by rw [s3 0 (by decide), wveq_s b2]; show some (Value.ref (ρ 1)) = _; rw [H.2.1 1 (by decide)]
  have hs5 : sf[5]? = some (.int (Int32.ofNat ta)) := by rw [s3 5 (by decide), wveq_s b3]; rfl
  obtain ⟨rfs, r1, -, -⟩ := wO_at H (by decide) (show wcO W 1 8 7 = true from by
    have b9 := b4
    unfold rvB at b9
    exact (Bool.and_eq_true_iff.mp b9).1)
  have hval : Pu S 3 62 [.ref (A 61), .int (Int32.ofNat ta)] g (.int (Int32.ofNat nm)) := by
    have := H.rval (S := S) (d := 3) b4
    rw [wveq_s b5] at this
    exact this
  have how := h.2.1
  have hA0 : ∀ n, n < 17 → ¬ A (60 + n) = A 0 := fun n hn e => by have u := (how (60 + n) (by omega)).1; rw [e, (how 0 (by decide)).1] at u; omega
  by_cases hx : (mkR M i (Int32.ofNat nm)).2.1 = true
  · have e9 : mkM M i (Int32.ofNat nm) q' = (0, 116, M) := if_pos (Or.inl hx)
    rw [e9]
    exact run_t (vb := 20) h hi hln hl64 hS9.2.1 h2v rfl (h_makex h hi hSt hS9.2.1 hs0 hs5 r1 hval hx) (by decide) (fun e => absurd e (by decide)) (fun e hp' c s h9 => QR.k1 (by decide) h9 (by omega) (by omega))
  have hx' := Bool.eq_false_iff.mpr hx
  by_cases hy : 3 ≤ (mkR M i (Int32.ofNat nm)).1
  · have e9 : mkM M i (Int32.ofNat nm) q' = (0, 116, M) := if_pos (Or.inr (Or.inl hy))
    rw [e9]
    exact run_t (vb := 20) h hi hln hl64 hS9.2.1 h2v rfl (h_makey h hi hSt hS9.2.1 hs0 hs5 r1 hval hx' hy) (by decide) (fun e => absurd e (by decide)) (fun e hp' c s h9 => QR.k1 (by decide) h9 (by omega) (by omega))
  by_cases hz : (M.2.2.2.1 i).2.2.1 = true
  · have e9 : mkM M i (Int32.ofNat nm) q' = (0, 116, M) := if_pos (Or.inr (Or.inr hz))
    rw [e9]
    exact run_t (vb := 20) h hi hln hl64 hS9.2.1 h2v rfl (h_makez h hi hSt hS9.2.1 hs0 hs5 r1 hval hx' (by show (mkR M i (Int32.ofNat nm)).1 < 3; omega) hz) (by decide) (fun e => absurd e (by decide)) (fun e hp' c s h9 => QR.k1 (by decide) h9 (by omega) (by omega))
  have e9 : mkM M i (Int32.ofNat nm) q' = (Int32.ofNat ((mkR M i (Int32.ofNat nm)).1 + 1), 0, mStd (mTabs (mMade M (M.2.2.2.2.2.1 + 1)) (M.2.2.2.2.2.2 ++ [q'])) (insAt M.1 (mkR M i (Int32.ofNat nm)).2.2 q'.1.1)) := if_neg (fun e => by
    rcases e with e | e | e
    · exact hx e
    · exact hy e
    · exact hz e)
  rw [e9]
  exact run_t (vb := 20) (M2 := mStd (mTabs (mMade M (M.2.2.2.2.2.1 + 1)) (M.2.2.2.2.2.2 ++ [q'])) (insAt M.1 (mkR M i (Int32.ofNat nm)).2.2 q'.1.1)) h hi hln hl64 hS9.2.1 h2v rfl (h_makek (q' := q') h hi hSt hS9.2.1 hs0 hs5 r1 hval hmf hx' (by show (mkR M i (Int32.ofNat nm)).1 < 3; omega) (Bool.eq_false_iff.mpr hz) hst9 hpl (fun g2 r2 e2 f2 => hnew g2 (by rw [e2, List.length_set]) r2 (H.fr f2 hA0 b6))) (by decide) (fun e hp' c s h9 => QR.k0 rfl h9 (by omega) (by omega)) (fun e => absurd rfl e)
