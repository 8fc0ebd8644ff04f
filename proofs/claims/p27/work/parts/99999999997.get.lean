/-! the house: queries are done (written by wip/p27/c99999999997.py) -/
/-- what a query tells, as a function of the rows that it is put to -/
def q0A (so : Option Nat) (dn : Int32) (kp w if0 if1 : Nat) (os : List (Nat × Int32)) (e1 : List En) : QT := ofG (emA so dn kp (rv0 e1) (pkL (xs0 if0 if1 os e1)) w) (plJ (onE if0 if1 os) 0 e1).length 0 ([], 0)
def q0B (so : Option Nat) (dn : Int32) (kp w if0 if1 items : Nat) (kd fr : Nat → Nat) (os : List (Nat × Int32)) (e1 : List En) : QT := ofG (emB so dn kp kd (segK os items if0 fr) (rv0 e1) (pkL (xs0 if0 if1 os e1)) w) (plJ (onE if0 if1 os) 0 e1).length 0 ([], 0)
def q0G (so : Option Nat) (dn : Int32) (kp w if0 if1 items : Nat) (kd fr : Nat → Nat) (os : List (Nat × Int32)) (e1 : List En) : QT := (emB so dn kp kd (segK os items if0 fr) (rv0 e1) (pkL (xs0 if0 if1 os e1)) w) ([], 0) 0 (plJ (onE if0 if1 os) 0 e1).length
def keyQ (rv : Int32 → RV) (col : Nat) (v : Int32) : Int32 := cellE (rv v).2.1 (rv v).2.2 col
def gNQ (so : Option Nat) (dn : Int32) (kp w if0 items col : Nat) (kd fr : Nat → Nat) (os : List (Nat × Int32)) (rv : Int32 → RV) (xs : List Int32) (n : Nat) : QT := grG (emB so dn kp kd (segK os items if0 fr) rv (pkL (sortE (keyQ rv col) n xs)) w) (fun i j => cmpI (keyQ rv col (pkL (sortE (keyQ rv col) n xs) i)) (keyQ rv col (pkL (sortE (keyQ rv col) n xs) j))) n n 0 ([], 0)
def q0N (so : Option Nat) (dn : Int32) (kp w if0 if1 items col : Nat) (kd fr : Nat → Nat) (os : List (Nat × Int32)) (e1 : List En) : QT := gNQ so dn kp w if0 items col kd fr os (rv0 e1) (xs0 if0 if1 os e1) (plJ (onE if0 if1 os) 0 e1).length
def qJB (so : Option Nat) (dn : Int32) (kp w if0 if1 items : Nat) (kd fr : Nat → Nat) (os : List (Nat × Int32)) (fc sc : Int32) (e1 e2 : List En) : QT := ofG (emB so dn kp kd (segK os items if0 fr) (rvJ e1 e2) (pkL (xsJ if0 if1 os fc sc e1 e2)) w) (plJ (prE if0 if1 os fc sc e2) 0 e1).length 0 ([], 0)
def qJN (so : Option Nat) (dn : Int32) (kp w if0 if1 items col : Nat) (kd fr : Nat → Nat) (os : List (Nat × Int32)) (fc sc : Int32) (e1 e2 : List En) : QT := gNQ so dn kp w if0 items col kd fr os (rvJ e1 e2) (xsJ if0 if1 os fc sc e1 e2) (plJ (prE if0 if1 os fc sc e2) 0 e1).length
theorem pl0_len {if0 if1 : Nat} {os : List (Nat × Int32)} {e1 : List En} : (plJ (onE if0 if1 os) 0 e1).length ≤ e1.length := by
  have := plJ_len (f := onE if0 if1 os) (m := 1) (fun i e => onE_len i e) 0 e1
  omega
theorem plP_len {if0 if1 : Nat} {os : List (Nat × Int32)} {fc sc : Int32} {e1 e2 : List En} : (plJ (prE if0 if1 os fc sc e2) 0 e1).length ≤ e1.length * e2.length :=
  plJ_len (f := prE if0 if1 os fc sc e2) (m := e2.length) (fun i e => prE_len) 0 e1
theorem gthE_len {b : Bool} {ves ges : List En} {sr lb : Int32} : (gthE b ves ges sr lb).length ≤ (if b = true then ves else ges).length := List.length_filter_le _ _

def getB (b : Bool) (W : List WC) : Bool := oneB W && (wnmB W && (wFrB W && (wveq (wfl W 0 2) (wK 5) && (wveq (wfl W 0 0) (wA 1) && (wveq (wfl W 15 0) (wA 0) && (wcO W 1 8 7 && (wveq (wfl W 0 3) (wI (if b = true then 1 else 0)) && (Nat.ble (wif1 W) (wfn W) && (Nat.ble (wif1 W) (wif0 W) || wrs W (wif0 W) (wif1 W))))))))))
def ordN (W : List WC) : Bool := wveq (wfl W 0 9) (wI 4294967295)
def rkB (W : List WC) (j : Nat) : Bool := wcO W 1 8 7 && (wveq (wfl W 1 0) (wA 7) && (wisI (wfl W 1 3) && (Nat.ble (j + 1) (wna (wfl W 1 3)) && (Nat.ble (wna (wfl W 1 3)) 120 && (wcX W 7 26 120 && wveq (wfl W 7 j) (wK 14))))))
def ordD (o k : Nat) (W : List WC) : Bool := wveq (wfl W 0 9) (wI (o + 1)) && (rvB W (o + 1) && (wveq (wfl W 8 (o + 1)) (wI (k + 1)) && (rkB W o && Nat.ble o 150)))
def topN (W : List WC) : Bool := wveq (wfl W 0 10) (wI 4294967295)
def topT (o : Nat) (W : List WC) : Bool := wveq (wfl W 0 10) (wI o) && (rvB W o && Nat.ble o 200)
def allB (W : List WC) : Bool := wisI (wfl W 0 4) && (Nat.ble (wna (wfl W 0 4)) 200 && (Nat.beq (wits W) 0 && wveq (wfl W 15 6) (wI 0)))
def itmB (w : Nat) (W : List WC) : Bool := wveq (wfl W 0 4) (wI 4294967295) && (Nat.beq (wits W) w && (Nat.ble w 3 && (List.range w).all (fun k => Nat.ble (wkd W k) 50 && (Nat.ble (wfr W k) (itTo (wits W) (wif0 W) (wfn W) k false (wfr W)) && (Nat.ble (itTo (wits W) (wif0 W) (wfn W) k false (wfr W)) (wfn W) && wrs W (wfr W k) (itTo (wits W) (wif0 W) (wfn W) k false (wfr W)))))))
def joN (W : List WC) : Bool := wveq (wfl W 0 6) (wI 4294967295) && wveq (wfl W 15 5) wZ
def joJ (j fc sc : Nat) (W : List WC) : Bool := wveq (wfl W 0 6) (wI j) && (Nat.ble j 200 && (wveq (wfl W 15 5) (wA 22) && (wveq (wfl W 15 7) (wI fc) && wveq (wfl W 15 8) (wI sc))))
def grN (W : List WC) : Bool := wveq (wfl W 15 6) (wI 0)
def gr0 (w : Nat) (W : List WC) : Bool := wveq (wfl W 15 6) (wI 1) && (wveq (wfl W 0 15) (wI 0) && (List.range w).all (fun k => !(Nat.beq (wkd W k) 3)))
def gr1 (col : Nat) (W : List WC) : Bool := wveq (wfl W 15 6) (wI 1) && (wveq (wfl W 0 15) (wI 1) && (wveq (wfl W 15 9) (wA 16) && (wveq (wfl W 16 0) (wI col) && Nat.ble col 1000)))
theorem m_rkind26 {S : List Int32} {hp : List XC} {r ka n i kw : Nat} {vv pv r4 r5 r6 : Value} {es : List Value} (hr : hp[r]? = some (.inr (8, [.ref ka, vv, pv, .int (Int32.ofNat n), r4, r5, r6]))) (hka : hp[ka]? = some (.inl (26, es))) (hi : i < n) (hn : n ≤ 1000) (hel : es.length ≤ 1000) (hv : es[i]? = some (.retAddr kw)) : Pu S 0 52 [.ref r, .int (Int32.ofNat i)] hp (.retAddr kw) := by
  have hls := (List.getElem?_eq_some_iff.mp hv).1
  refine At.go (q := xm52) rfl 1 (pc' := 1) (L' := [(0, .ref r), (1, .int (Int32.ofNat i))]) (st' := [.int (Int32.ofNat i)]) rfl ?_
  refine At.ic1 (tgt := 30) rfl rfl (fun h => absurd (h.symm.trans (decide_eq_false (iN_nn (by omega)))) (by decide)) (fun _ => ?_)
  refine At.go (q := xm52) rfl 2 (pc' := 6) (L' := [(0, .ref r), (1, .int (Int32.ofNat i))]) (st' := [.ref r, .int (Int32.ofNat i)]) rfl ?_
  refine At.gf rfl (by decide) hr rfl ?_
  refine At.ic2 (tgt := 30) rfl rfl (fun h => absurd (h.symm.trans (decide_eq_false (fun h => absurd ((iN_le (a := n) (b := i) (by omega) (by omega)).mp h) (by omega)))) (by decide)) (fun _ => ?_)
  refine At.go (q := xm52) rfl 2 (pc' := 14) (L' := [(0, .ref r), (1, .int (Int32.ofNat i))]) (st' := [.ref r, .int (Int32.ofNat i)]) rfl ?_
  refine At.gf rfl (by decide) hr rfl ?_
  refine At.ln rfl hka ?_
  refine At.ic2 (tgt := 30) rfl rfl (fun h => absurd (h.symm.trans (decide_eq_false (fun h => absurd ((iN_le (a := es.length) (b := i) (by omega) (by omega)).mp h) (by omega)))) (by decide)) (fun _ => ?_)
  refine At.go (q := xm52) rfl 1 (pc' := 22) (L' := [(0, .ref r), (1, .int (Int32.ofNat i))]) (st' := [.ref r]) rfl ?_
  refine At.gf rfl (by decide) hr rfl ?_
  refine At.go (q := xm52) rfl 1 (pc' := 26) (L' := [(0, .ref r), (1, .int (Int32.ofNat i))]) (st' := [.int (Int32.ofNat i), .ref ka]) rfl ?_
  refine At.ql rfl hka (by decide) rfl (iN_nn (by omega)) (by rw [iN_tn (by omega)]; exact hv) rfl ?_
  refine At.go (q := xm52) rfl 1 (pc' := 33) (L' := [(0, .ref r), (1, .int (Int32.ofNat i))]) (st' := [.retAddr kw]) rfl ?_
  exact At.rt rfl rfl rfl
theorem anE_0 {off top : Int32} (h : ¬ anE off top = 1) : anE off top = 0 := by
  unfold anE at h ⊢
  by_cases hc : (150 : Int32) < (if top < off then top else off)
  · exact if_pos hc
  · exact absurd (if_neg hc) h
theorem i_neg {n : Nat} (h : n ≤ 200) : ¬ Int32.ofNat n < 0 := iN_nn (by omega)
theorem WH.rkind {S : List Int32} {A ρ σ : Nat → Nat} {ω : Nat → Value} {W : List WC} {hp : List XC} {j : Nat} (H : WH A ρ σ ω W hp) (hb : rkB W j = true) : Pu S 0 52 [.ref (A 61), .int (Int32.ofNat j)] hp (.retAddr 14) := by
  unfold rkB at hb
  simp only [Bool.and_eq_true] at hb
  obtain ⟨b1, b2, b3, b4, b5, b6, b7⟩ := hb
  obtain ⟨rf, r1, r2, r3⟩ := wO_at H (by decide) b1
  obtain ⟨es, e1, e2, e3⟩ := wX_at H (by decide) b6
  have e4 := Nat.le_of_ble_eq_true b4
  have e5 := Nat.le_of_ble_eq_true b5
  match rf, r2, r3, r1 with
  | [x0, x1, x2, x3, x4, x5, x6], r2, r3, r1 =>
    have y1 : x0 = .ref (A 67) := by
      have := r3 0 (by decide)
      rw [wveq_s b2] at this
      have h2 : some x0 = some (Value.ref (ρ 7)) := this
      rw [H.2.1 7 (by decide)] at h2
      exact Option.some.inj h2
    have y3 : x3 = .int (Int32.ofNat (wna (wfl W 1 3))) := by
      have := r3 3 (by decide)
      rw [wisI_s b3] at this
      exact Option.some.inj this
    rw [y1, y3] at r1
    exact m_rkind26 r1 e1 (by omega) (by omega) (by omega) (by rw [e3 j (by omega), wveq_s b7]; rfl)

theorem v_0A {S : List Int32} {g : List XC} {ow : Nat → Nat} {k : Nat} {A : Nat → Nat} {M : HM} {np nl i ln : Nat} {ρ σ : Nat → Nat} {ω : Nat → Value} {W : List WC} {q : TQ} {b : Bool} {w : Nat} (h : HR g ow k A M 0 np nl) (hi : i < 8) (hln : (M.2.2.2.1 i).1 = Int32.ofNat ln) (hl64 : ln < 64) (hV : WfV M i) (H : WH A ρ σ ω W g) (hq : q ∈ M.2.2.2.2.2.2) (h18 : ρ 18 = q.1.1) (hbo : ordN W = true) (hbt : topN W = true) (hbg : getB b W = true) (hba : allB W = true) (hw : q.2.2.1.2.2.1.length = w) (hw3 : w ≤ 3) (hbj : joN W = true) : At S 12 40 66 [(3, .int (Int32.ofNat 4294967295)), (2, .ref (A (20 + i))), (0, .ref (A 0))] [] g 0 0 (QR g ow k A np nl 2 906 (fun r => r = cntR (getM M i w 999999999 (q0A none (bI (decide ((0 : Nat) = 14))) 150 w (wif0 W) (wif1 W) (wos σ W) (gthE b (vwE M i) (lookE (TIq M.2.2.2.2.2.2) (vwE M i) (M.2.2.2.1 i).1) q.2.1 (M.2.2.2.1 i).1))) i ln)) := by
  unfold getB at hbg
  simp only [Bool.and_eq_true] at hbg
  obtain ⟨n1, n2, n3, n4, n5, n6, n7, n8, n9, n10⟩ := hbg
  have bf := bf_120 (Bool.and_eq_true_iff.mp n1).1
  obtain ⟨hsr, hEt, hlen, hSt, hst9, hend, hch, hsame, hwid⟩ := hV
  have hll := look_len (TI := TIq M.2.2.2.2.2.2) (es := vwE M i) (lb := (M.2.2.2.1 i).1)
  obtain ⟨sf0, mf0, ces0, ws0, es0, gs0, hS0, hm40, s30, m30, c30, c20⟩ := one_s H n1 h18
  have h2v : sf0[2]? = some (.retAddr 5) := by rw [s30 2 (by decide), wveq_s n4]; rfl
  have how := h.2.1
  have hne : ∀ a b, a < 77 → b < 77 → A a = A b → a = b := fun a b ha hb e => by have u := (how a ha).1; rw [e, (how b hb).1] at u; omega
  unfold allB at hba
  simp only [Bool.and_eq_true] at hba
  obtain ⟨a1, a2, a3, a4⟩ := hba
  have a3 := Nat.eq_of_beq_eq_true a3
  have hw3' : w ≤ 3 := hw3
  have o1 := hbo
  unfold ordN at o1
  have t1 := hbt
  unfold topN at t1
  obtain ⟨j1, j3⟩ := Bool.and_eq_true_iff.mp hbj
  have hgl9 := gthE_len (b := b) (ves := vwE M i) (ges := (lookE (TIq M.2.2.2.2.2.2) (vwE M i) (M.2.2.2.1 i).1)) (sr := q.2.1) (lb := (M.2.2.2.1 i).1)
  have hgl8 : (gthE b (vwE M i) (lookE (TIq M.2.2.2.2.2.2) (vwE M i) (M.2.2.2.1 i).1) q.2.1 (M.2.2.2.1 i).1).length ≤ 600 := by cases b with
    | true => exact Nat.le_trans hgl9 hlen
    | false => exact Nat.le_trans hgl9 (Nat.le_trans hll hlen)
  have hnpk : (plJ (onE (wif0 W) (wif1 W) (wos σ W)) 0 (gthE b (vwE M i) (lookE (TIq M.2.2.2.2.2.2) (vwE M i) (M.2.2.2.1 i).1) q.2.1 (M.2.2.2.1 i).1)).length ≤ 3400 := Nat.le_trans pl0_len (by omega)
  obtain ⟨tq, htq⟩ : ∃ tq, tq = q0A none (bI (decide ((0 : Nat) = 14))) 150 w (wif0 W) (wif1 W) (wos σ W) (gthE b (vwE M i) (lookE (TIq M.2.2.2.2.2.2) (vwE M i) (M.2.2.2.1 i).1) q.2.1 (M.2.2.2.1 i).1) := ⟨_, rfl⟩
  have hkw450 : (150 : Nat) * w ≤ 450 := by omega
  have hans : ∀ (h1 : List XC) (q0 q1 : Value) (pa ln : Nat) (pn kp0 off0 so0 dn0 lc0 wd0 : Int32) (ps lbs las : List Int32), FrX (fun x => x = A 10 ∨ x = A 6) g h1 → HR h1 ow k A M 0 np nl → h1[A 6]? = some (.inr (11, [.ref (A 10), .int (M.2.2.2.1 i).1])) → hSh h1 (A 10) (lookE (TIq M.2.2.2.2.2.2) (vwE M i) (M.2.2.2.1 i).1) → h1[A 8]? = some (.inr (7, [q0, q1, .ref (A 17), .ref (A 18), .ref pa, .int pn, .ref (A 19), .int kp0, .int off0, .int so0, .int dn0, .ref ln, .int lc0, .int wd0])) → h1[pa]? = some (.inl (18, ps.map Value.int)) → ps.length = np → h1[A 19]? = some (.inl (19, las.map Value.int)) → las.length = 120 → h1[ln]? = some (.inl (20, lbs.map Value.int)) → lbs.length = nl → Me S 8 139 [.ref (A 8), .ref (A 60), .ref (A 75), .ref (A (vwO M i)), .ref (A 6)] h1 (fun v hp' c s => v = some (.int (anE (Int32.ofNat tq.2) 999999999)) ∧ AnR h1 hp' (A 8) (A 60) (A 75) (A 17) (A 18) pa (A 19) ln (A 73) 150 w 120 120 np nl (plJ (onE (wif0 W) (wif1 W) (wos σ W)) 0 (gthE b (vwE M i) (lookE (TIq M.2.2.2.2.2.2) (vwE M i) (M.2.2.2.1 i).1) q.2.1 (M.2.2.2.1 i).1)).length ((vwE M i).length + (lookE (TIq M.2.2.2.2.2.2) (vwE M i) (M.2.2.2.1 i).1).length) tq c s) := by
    intro h1 q0 q1 pa ln pn kp0 off0 so0 dn0 lc0 wd0 ps lbs las f1 hR1 g6 g10 g8' gpa gpn gli glal gln gll
    have H1 : WH A ρ σ ω W h1 := H.fr f1 (fun n hn e => by rcases e with e | e <;> (have := hne _ _ (by omega) (by decide) e; omega)) n3
    obtain ⟨sf, mf, ces, ws, es, gs, hS9, hm4, s3, m3, c3, c2⟩ := one_s H1 n1 h18
    obtain ⟨hS, hst, hF, ⟨vs, hsa, hvN⟩, hmf, hmc⟩ := hS9
    have H2 : ∀ h, FrX (fun x => x = A 8) h1 h → WH A ρ σ ω W h := fun h f => H1.fr f (fun n hn e => by have := hne _ _ (by omega) (by decide) e; omega) n3
    obtain ⟨hO, how1, h0, hh1, h3, hD, hFF, hE, hT, ⟨lv9, hG⟩, hC, hL9, hQ, hW9, hSS, hTq9, htd, hcap⟩ := id hR1
    obtain ⟨rf, hr, -, -⟩ := wO_at H1 (by decide) n7
    obtain ⟨e17, he17⟩ := hL9 17 (by decide)
    obtain ⟨as0, hL1, -⟩ := he17
    obtain ⟨e18, he18⟩ := hL9 18 (by decide)
    obtain ⟨bs0, hL2, -⟩ := he18
    obtain ⟨hv, ss, hVL, hVe⟩ := hR1.view hi
    obtain ⟨gs9, hGl, hGe⟩ := g10
    obtain ⟨ca, ka, ra, ga, chk, dv, ht, -⟩ := (hTq9 q hq).1
    obtain ⟨zq0, zq1, zpa, zln, zpn, zkp, zoff, zso, zdn, zlc, zwd, zps, zlb, zla, y1, y2, y3, y4, y5, y6, y7, y8, y9, y10, y11⟩ := hQ
    have hvw := vwL_c (M := M) (i := i) hi
    have hm5 : mf[5]? = some .null := by rw [m3 5 (by decide), wveq_s j3]; rfl
    have := m_ans0uA (S := S) (hq := g8') (hst := hst) (hm := hmf) (hli := gli) (hla := glal) (hwL := (by omega)) (hL := (by decide)) (hr := hr) (hs0 := (by rw [s3 0 (by decide), wveq_s n5]; show some (Value.ref (ρ 1)) = _; rw [H1.2.1 1 (by decide)])) (oa := Int32.ofNat 4294967295) (so := none) (kw := 0) (hs9 := (by rw [s3 9 (by decide), wveq_s o1]; rfl)) (hord := (Or.inl ⟨by decide, rfl⟩)) (hkw := (fun h f => m_rkindN (by decide))) (hk51 := (by decide)) (hso9 := (fun k e => by cases e)) (tp := Int32.ofNat 4294967295) (top := 999999999) (kp := 150) (hs10 := (by rw [s3 10 (by decide), wveq_s t1]; rfl)) (htop := (Or.inl ⟨by decide, rfl, rfl⟩)) (haw := (fun h f => by have H3 := H2 h f; obtain ⟨sf3, mf3, ces3, ws3, es3, gs3, k9, k4, k3, km3, kc3, kc2⟩ := one_s H3 n1 h18; have := m_aw1 (S := S) k9.2.2.2.2.1 (by rw [km3 0 (by decide), wveq_s n6]; show some (Value.ref (ρ 0)) = _; rw [H3.2.1 0 (by decide)]) k9.2.1 (by rw [k3 4 (by decide), wisI_s a1]) (i_neg (Nat.le_of_ble_eq_true a2)) k4 (by rw [km3 5 (by decide), wveq_s j3]; rfl) ((hTq9 q hq).1.fr f); rw [hw] at this; exact this)) (hm4 := hm4) (ht := ht) (b := b) (hs3 := (by rw [s3 3 (by decide), wveq_s n8]; cases b <;> rfl)) (hs4 := (by rw [s3 4 (by decide), wisI_s a1])) (hjn := (by rw [s3 6 (by decide), wveq_s j1]; rfl)) (hS := hS) (hF := hF) (hsa := hsa) (hvN := hvN) (hmc := hmc) (hv := hv) (hg := g6) (hL1 := hL1) (hL2 := hL2) (hV := hVL) (hVe := hVe) (hGl := hGl) (hGe := hGe) (hl12 := (fun e => by have := hne _ _ (by omega) (by omega) e; omega)) (hl1v := (fun e => by have := hne _ _ (by omega) (by omega) e; omega)) (hl1g := (fun e => by have := hne _ _ (by omega) (by omega) e; omega)) (hl2v := (fun e => by have := hne _ _ (by omega) (by omega) e; omega)) (hl2g := (fun e => by have := hne _ _ (by omega) (by omega) e; omega)) (hO := hO) (hpa := gpa) (hpl := (by omega)) (hln := gln) (hlb := (by omega)) (hkw9 := hkw450) (hN := (by rw [wos_len]; omega)) (hN2 := (by decide)) (hnm := (wnmb_s n2)) (hnn := (by omega)) (hif := (by rw [wos_len]; exact Nat.le_of_ble_eq_true n9)) (hsi := (fun hlt => by rcases (Bool.or_eq_true _ _).mp n10 with e | e; exact absurd (Nat.le_of_ble_eq_true e) (by omega); exact wrs_ok e)) (hneg := (by decide)) (hm5 := (by rw [m3 5 (by decide), wveq_s j3]; rfl)) (hbg := (by omega)) (haa := (i_neg (Nat.le_of_ble_eq_true a2))) (hkd3 := a3) (hw9 := (by omega)) (hm6 := (by rw [m3 6 (by decide), wveq_s a4]; rfl))
    rw [gpn, gll] at this
    rw [htq]
    exact this
  by_cases ha : anE (Int32.ofNat tq.2) 999999999 = 1
  · have e9 : getM M i w 999999999 (q0A none (bI (decide ((0 : Nat) = 14))) 150 w (wif0 W) (wif1 W) (wos σ W) (gthE b (vwE M i) (lookE (TIq M.2.2.2.2.2.2) (vwE M i) (M.2.2.2.1 i).1) q.2.1 (M.2.2.2.1 i).1)) = (Int32.ofNat tq.1.length, 0, mS M i (sAns (M.2.2.2.1 i) tq.1.length w tq.1.flatten)) := by rw [← htq]; exact if_pos ha
    rw [e9]
    exact run_g (vb := 5) (M2 := mS M i (sAns (M.2.2.2.1 i) tq.1.length w tq.1.flatten)) h hi (by rw [mS_at]; exact hln) hl64 hS0.2.1 h2v rfl (h_ask1 (kp := 150) (w9 := w) (npk := (plJ (onE (wif0 W) (wif1 W) (wos σ W)) 0 (gthE b (vwE M i) (lookE (TIq M.2.2.2.2.2.2) (vwE M i) (M.2.2.2.1 i).1) q.2.1 (M.2.2.2.1 i).1)).length) (t := tq) (top := 999999999) h hi hsr hEt (by omega) (by omega) (by decide) hkw450 (by omega) hnpk ha hans) (by decide) (fun e hp' c s h9 => QR.k0 rfl h9 (by decide) (by decide)) (fun e => absurd rfl e)
  · have ha0 : anE (Int32.ofNat tq.2) 999999999 = 0 := anE_0 ha
    have e9 : getM M i w 999999999 (q0A none (bI (decide ((0 : Nat) = 14))) 150 w (wif0 W) (wif1 W) (wos σ W) (gthE b (vwE M i) (lookE (TIq M.2.2.2.2.2.2) (vwE M i) (M.2.2.2.1 i).1) q.2.1 (M.2.2.2.1 i).1)) = (0, 109, M) := by rw [← htq]; exact if_neg ha
    rw [e9]
    exact run_g (vb := 5) h hi hln hl64 hS0.2.1 h2v rfl (h_ask0 (kp := 150) (w9 := w) (npk := (plJ (onE (wif0 W) (wif1 W) (wos σ W)) 0 (gthE b (vwE M i) (lookE (TIq M.2.2.2.2.2.2) (vwE M i) (M.2.2.2.1 i).1) q.2.1 (M.2.2.2.1 i).1)).length) (t := tq) (top := 999999999) h hi hsr hEt (by omega) (by omega) (by decide) hkw450 (by omega) hnpk ha0 hans) (by decide) (fun e => absurd e (by decide)) (fun e hp' c s h9 => QR.k1 (by decide) h9 (by decide) (by decide))
theorem v_0AD {S : List Int32} {g : List XC} {ow : Nat → Nat} {k : Nat} {A : Nat → Nat} {M : HM} {np nl i ln : Nat} {ρ σ : Nat → Nat} {ω : Nat → Value} {W : List WC} {q : TQ} {o ko : Nat} {b : Bool} {w : Nat} (h : HR g ow k A M 0 np nl) (hi : i < 8) (hln : (M.2.2.2.1 i).1 = Int32.ofNat ln) (hl64 : ln < 64) (hV : WfV M i) (H : WH A ρ σ ω W g) (hq : q ∈ M.2.2.2.2.2.2) (h18 : ρ 18 = q.1.1) (hbo : ordD o ko W = true) (hbt : topN W = true) (hbg : getB b W = true) (hba : allB W = true) (hw : q.2.2.1.2.2.1.length = w) (hw3 : w ≤ 3) (hko : ko < w) (hbj : joN W = true) : At S 12 40 66 [(3, .int (Int32.ofNat 4294967295)), (2, .ref (A (20 + i))), (0, .ref (A 0))] [] g 0 0 (QR g ow k A np nl 2 906 (fun r => r = cntR (getM M i w 999999999 (q0A (some ko) (bI (decide ((14 : Nat) = 14))) 150 w (wif0 W) (wif1 W) (wos σ W) (gthE b (vwE M i) (lookE (TIq M.2.2.2.2.2.2) (vwE M i) (M.2.2.2.1 i).1) q.2.1 (M.2.2.2.1 i).1))) i ln)) := by
  unfold getB at hbg
  simp only [Bool.and_eq_true] at hbg
  obtain ⟨n1, n2, n3, n4, n5, n6, n7, n8, n9, n10⟩ := hbg
  have bf := bf_120 (Bool.and_eq_true_iff.mp n1).1
  obtain ⟨hsr, hEt, hlen, hSt, hst9, hend, hch, hsame, hwid⟩ := hV
  have hll := look_len (TI := TIq M.2.2.2.2.2.2) (es := vwE M i) (lb := (M.2.2.2.1 i).1)
  obtain ⟨sf0, mf0, ces0, ws0, es0, gs0, hS0, hm40, s30, m30, c30, c20⟩ := one_s H n1 h18
  have h2v : sf0[2]? = some (.retAddr 5) := by rw [s30 2 (by decide), wveq_s n4]; rfl
  have how := h.2.1
  have hne : ∀ a b, a < 77 → b < 77 → A a = A b → a = b := fun a b ha hb e => by have u := (how a ha).1; rw [e, (how b hb).1] at u; omega
  unfold allB at hba
  simp only [Bool.and_eq_true] at hba
  obtain ⟨a1, a2, a3, a4⟩ := hba
  have a3 := Nat.eq_of_beq_eq_true a3
  have hw3' : w ≤ 3 := hw3
  unfold ordD at hbo
  simp only [Bool.and_eq_true] at hbo
  obtain ⟨o1, o3, o4, o5, o6⟩ := hbo
  have o6 := Nat.le_of_ble_eq_true o6
  have t1 := hbt
  unfold topN at t1
  obtain ⟨j1, j3⟩ := Bool.and_eq_true_iff.mp hbj
  have hgl9 := gthE_len (b := b) (ves := vwE M i) (ges := (lookE (TIq M.2.2.2.2.2.2) (vwE M i) (M.2.2.2.1 i).1)) (sr := q.2.1) (lb := (M.2.2.2.1 i).1)
  have hgl8 : (gthE b (vwE M i) (lookE (TIq M.2.2.2.2.2.2) (vwE M i) (M.2.2.2.1 i).1) q.2.1 (M.2.2.2.1 i).1).length ≤ 600 := by cases b with
    | true => exact Nat.le_trans hgl9 hlen
    | false => exact Nat.le_trans hgl9 (Nat.le_trans hll hlen)
  have hnpk : (plJ (onE (wif0 W) (wif1 W) (wos σ W)) 0 (gthE b (vwE M i) (lookE (TIq M.2.2.2.2.2.2) (vwE M i) (M.2.2.2.1 i).1) q.2.1 (M.2.2.2.1 i).1)).length ≤ 3400 := Nat.le_trans pl0_len (by omega)
  obtain ⟨tq, htq⟩ : ∃ tq, tq = q0A (some ko) (bI (decide ((14 : Nat) = 14))) 150 w (wif0 W) (wif1 W) (wos σ W) (gthE b (vwE M i) (lookE (TIq M.2.2.2.2.2.2) (vwE M i) (M.2.2.2.1 i).1) q.2.1 (M.2.2.2.1 i).1) := ⟨_, rfl⟩
  have hkw450 : (150 : Nat) * w ≤ 450 := by omega
  have hans : ∀ (h1 : List XC) (q0 q1 : Value) (pa ln : Nat) (pn kp0 off0 so0 dn0 lc0 wd0 : Int32) (ps lbs las : List Int32), FrX (fun x => x = A 10 ∨ x = A 6) g h1 → HR h1 ow k A M 0 np nl → h1[A 6]? = some (.inr (11, [.ref (A 10), .int (M.2.2.2.1 i).1])) → hSh h1 (A 10) (lookE (TIq M.2.2.2.2.2.2) (vwE M i) (M.2.2.2.1 i).1) → h1[A 8]? = some (.inr (7, [q0, q1, .ref (A 17), .ref (A 18), .ref pa, .int pn, .ref (A 19), .int kp0, .int off0, .int so0, .int dn0, .ref ln, .int lc0, .int wd0])) → h1[pa]? = some (.inl (18, ps.map Value.int)) → ps.length = np → h1[A 19]? = some (.inl (19, las.map Value.int)) → las.length = 120 → h1[ln]? = some (.inl (20, lbs.map Value.int)) → lbs.length = nl → Me S 8 139 [.ref (A 8), .ref (A 60), .ref (A 75), .ref (A (vwO M i)), .ref (A 6)] h1 (fun v hp' c s => v = some (.int (anE (Int32.ofNat tq.2) 999999999)) ∧ AnR h1 hp' (A 8) (A 60) (A 75) (A 17) (A 18) pa (A 19) ln (A 73) 150 w 120 120 np nl (plJ (onE (wif0 W) (wif1 W) (wos σ W)) 0 (gthE b (vwE M i) (lookE (TIq M.2.2.2.2.2.2) (vwE M i) (M.2.2.2.1 i).1) q.2.1 (M.2.2.2.1 i).1)).length ((vwE M i).length + (lookE (TIq M.2.2.2.2.2.2) (vwE M i) (M.2.2.2.1 i).1).length) tq c s) := by
    intro h1 q0 q1 pa ln pn kp0 off0 so0 dn0 lc0 wd0 ps lbs las f1 hR1 g6 g10 g8' gpa gpn gli glal gln gll
    have H1 : WH A ρ σ ω W h1 := H.fr f1 (fun n hn e => by rcases e with e | e <;> (have := hne _ _ (by omega) (by decide) e; omega)) n3
    obtain ⟨sf, mf, ces, ws, es, gs, hS9, hm4, s3, m3, c3, c2⟩ := one_s H1 n1 h18
    obtain ⟨hS, hst, hF, ⟨vs, hsa, hvN⟩, hmf, hmc⟩ := hS9
    have H2 : ∀ h, FrX (fun x => x = A 8) h1 h → WH A ρ σ ω W h := fun h f => H1.fr f (fun n hn e => by have := hne _ _ (by omega) (by decide) e; omega) n3
    obtain ⟨hO, how1, h0, hh1, h3, hD, hFF, hE, hT, ⟨lv9, hG⟩, hC, hL9, hQ, hW9, hSS, hTq9, htd, hcap⟩ := id hR1
    obtain ⟨rf, hr, -, -⟩ := wO_at H1 (by decide) n7
    obtain ⟨e17, he17⟩ := hL9 17 (by decide)
    obtain ⟨as0, hL1, -⟩ := he17
    obtain ⟨e18, he18⟩ := hL9 18 (by decide)
    obtain ⟨bs0, hL2, -⟩ := he18
    obtain ⟨hv, ss, hVL, hVe⟩ := hR1.view hi
    obtain ⟨gs9, hGl, hGe⟩ := g10
    obtain ⟨ca, ka, ra, ga, chk, dv, ht, -⟩ := (hTq9 q hq).1
    obtain ⟨zq0, zq1, zpa, zln, zpn, zkp, zoff, zso, zdn, zlc, zwd, zps, zlb, zla, y1, y2, y3, y4, y5, y6, y7, y8, y9, y10, y11⟩ := hQ
    have hvw := vwL_c (M := M) (i := i) hi
    have hm5 : mf[5]? = some .null := by rw [m3 5 (by decide), wveq_s j3]; rfl
    have := m_ans0uA (S := S) (hq := g8') (hst := hst) (hm := hmf) (hli := gli) (hla := glal) (hwL := (by omega)) (hL := (by decide)) (hr := hr) (hs0 := (by rw [s3 0 (by decide), wveq_s n5]; show some (Value.ref (ρ 1)) = _; rw [H1.2.1 1 (by decide)])) (oa := Int32.ofNat (o + 1)) (so := some ko) (kw := 14) (hs9 := (by rw [s3 9 (by decide), wveq_s o1]; rfl)) (hord := (Or.inr ⟨i_neg (by have := o6; omega), ko, Int32.ofNat (ko + 1), rfl, iN_m2, fun h f => by have := (H2 h f).rval (S := S) (d := 0) o3; rw [wveq_s o4] at this; exact this⟩)) (hkw := (fun h f => by rw [iN_m2]; exact (H2 h f).rkind o5)) (hk51 := (by decide)) (hso9 := (fun k e => by cases e; exact hko)) (tp := Int32.ofNat 4294967295) (top := 999999999) (kp := 150) (hs10 := (by rw [s3 10 (by decide), wveq_s t1]; rfl)) (htop := (Or.inl ⟨by decide, rfl, rfl⟩)) (haw := (fun h f => by have H3 := H2 h f; obtain ⟨sf3, mf3, ces3, ws3, es3, gs3, k9, k4, k3, km3, kc3, kc2⟩ := one_s H3 n1 h18; have := m_aw1 (S := S) k9.2.2.2.2.1 (by rw [km3 0 (by decide), wveq_s n6]; show some (Value.ref (ρ 0)) = _; rw [H3.2.1 0 (by decide)]) k9.2.1 (by rw [k3 4 (by decide), wisI_s a1]) (i_neg (Nat.le_of_ble_eq_true a2)) k4 (by rw [km3 5 (by decide), wveq_s j3]; rfl) ((hTq9 q hq).1.fr f); rw [hw] at this; exact this)) (hm4 := hm4) (ht := ht) (b := b) (hs3 := (by rw [s3 3 (by decide), wveq_s n8]; cases b <;> rfl)) (hs4 := (by rw [s3 4 (by decide), wisI_s a1])) (hjn := (by rw [s3 6 (by decide), wveq_s j1]; rfl)) (hS := hS) (hF := hF) (hsa := hsa) (hvN := hvN) (hmc := hmc) (hv := hv) (hg := g6) (hL1 := hL1) (hL2 := hL2) (hV := hVL) (hVe := hVe) (hGl := hGl) (hGe := hGe) (hl12 := (fun e => by have := hne _ _ (by omega) (by omega) e; omega)) (hl1v := (fun e => by have := hne _ _ (by omega) (by omega) e; omega)) (hl1g := (fun e => by have := hne _ _ (by omega) (by omega) e; omega)) (hl2v := (fun e => by have := hne _ _ (by omega) (by omega) e; omega)) (hl2g := (fun e => by have := hne _ _ (by omega) (by omega) e; omega)) (hO := hO) (hpa := gpa) (hpl := (by omega)) (hln := gln) (hlb := (by omega)) (hkw9 := hkw450) (hN := (by rw [wos_len]; omega)) (hN2 := (by decide)) (hnm := (wnmb_s n2)) (hnn := (by omega)) (hif := (by rw [wos_len]; exact Nat.le_of_ble_eq_true n9)) (hsi := (fun hlt => by rcases (Bool.or_eq_true _ _).mp n10 with e | e; exact absurd (Nat.le_of_ble_eq_true e) (by omega); exact wrs_ok e)) (hneg := (by decide)) (hm5 := (by rw [m3 5 (by decide), wveq_s j3]; rfl)) (hbg := (by omega)) (haa := (i_neg (Nat.le_of_ble_eq_true a2))) (hkd3 := a3) (hw9 := (by omega)) (hm6 := (by rw [m3 6 (by decide), wveq_s a4]; rfl))
    rw [gpn, gll] at this
    rw [htq]
    exact this
  by_cases ha : anE (Int32.ofNat tq.2) 999999999 = 1
  · have e9 : getM M i w 999999999 (q0A (some ko) (bI (decide ((14 : Nat) = 14))) 150 w (wif0 W) (wif1 W) (wos σ W) (gthE b (vwE M i) (lookE (TIq M.2.2.2.2.2.2) (vwE M i) (M.2.2.2.1 i).1) q.2.1 (M.2.2.2.1 i).1)) = (Int32.ofNat tq.1.length, 0, mS M i (sAns (M.2.2.2.1 i) tq.1.length w tq.1.flatten)) := by rw [← htq]; exact if_pos ha
    rw [e9]
    exact run_g (vb := 5) (M2 := mS M i (sAns (M.2.2.2.1 i) tq.1.length w tq.1.flatten)) h hi (by rw [mS_at]; exact hln) hl64 hS0.2.1 h2v rfl (h_ask1 (kp := 150) (w9 := w) (npk := (plJ (onE (wif0 W) (wif1 W) (wos σ W)) 0 (gthE b (vwE M i) (lookE (TIq M.2.2.2.2.2.2) (vwE M i) (M.2.2.2.1 i).1) q.2.1 (M.2.2.2.1 i).1)).length) (t := tq) (top := 999999999) h hi hsr hEt (by omega) (by omega) (by decide) hkw450 (by omega) hnpk ha hans) (by decide) (fun e hp' c s h9 => QR.k0 rfl h9 (by decide) (by decide)) (fun e => absurd rfl e)
  · have ha0 : anE (Int32.ofNat tq.2) 999999999 = 0 := anE_0 ha
    have e9 : getM M i w 999999999 (q0A (some ko) (bI (decide ((14 : Nat) = 14))) 150 w (wif0 W) (wif1 W) (wos σ W) (gthE b (vwE M i) (lookE (TIq M.2.2.2.2.2.2) (vwE M i) (M.2.2.2.1 i).1) q.2.1 (M.2.2.2.1 i).1)) = (0, 109, M) := by rw [← htq]; exact if_neg ha
    rw [e9]
    exact run_g (vb := 5) h hi hln hl64 hS0.2.1 h2v rfl (h_ask0 (kp := 150) (w9 := w) (npk := (plJ (onE (wif0 W) (wif1 W) (wos σ W)) 0 (gthE b (vwE M i) (lookE (TIq M.2.2.2.2.2.2) (vwE M i) (M.2.2.2.1 i).1) q.2.1 (M.2.2.2.1 i).1)).length) (t := tq) (top := 999999999) h hi hsr hEt (by omega) (by omega) (by decide) hkw450 (by omega) hnpk ha0 hans) (by decide) (fun e => absurd e (by decide)) (fun e hp' c s h9 => QR.k1 (by decide) h9 (by decide) (by decide))
theorem v_0B {S : List Int32} {g : List XC} {ow : Nat → Nat} {k : Nat} {A : Nat → Nat} {M : HM} {np nl i ln : Nat} {ρ σ : Nat → Nat} {ω : Nat → Value} {W : List WC} {q : TQ} {b : Bool} {w : Nat} (h : HR g ow k A M 0 np nl) (hi : i < 8) (hln : (M.2.2.2.1 i).1 = Int32.ofNat ln) (hl64 : ln < 64) (hV : WfV M i) (H : WH A ρ σ ω W g) (hq : q ∈ M.2.2.2.2.2.2) (h18 : ρ 18 = q.1.1) (hbo : ordN W = true) (hbt : topN W = true) (hbg : getB b W = true) (hbi : itmB w W = true) (hbj : joN W = true) (hbr : grN W = true) : At S 12 40 66 [(3, .int (Int32.ofNat 4294967295)), (2, .ref (A (20 + i))), (0, .ref (A 0))] [] g 0 0 (QR g ow k A np nl 2 906 (fun r => r = cntR (getM M i w 999999999 (q0B none (bI (decide ((0 : Nat) = 14))) 150 w (wif0 W) (wif1 W) (wits W) (wkd W) (wfr W) (wos σ W) (gthE b (vwE M i) (lookE (TIq M.2.2.2.2.2.2) (vwE M i) (M.2.2.2.1 i).1) q.2.1 (M.2.2.2.1 i).1))) i ln)) := by
  unfold getB at hbg
  simp only [Bool.and_eq_true] at hbg
  obtain ⟨n1, n2, n3, n4, n5, n6, n7, n8, n9, n10⟩ := hbg
  have bf := bf_120 (Bool.and_eq_true_iff.mp n1).1
  obtain ⟨hsr, hEt, hlen, hSt, hst9, hend, hch, hsame, hwid⟩ := hV
  have hll := look_len (TI := TIq M.2.2.2.2.2.2) (es := vwE M i) (lb := (M.2.2.2.1 i).1)
  obtain ⟨sf0, mf0, ces0, ws0, es0, gs0, hS0, hm40, s30, m30, c30, c20⟩ := one_s H n1 h18
  have h2v : sf0[2]? = some (.retAddr 5) := by rw [s30 2 (by decide), wveq_s n4]; rfl
  have how := h.2.1
  have hne : ∀ a b, a < 77 → b < 77 → A a = A b → a = b := fun a b ha hb e => by have u := (how a ha).1; rw [e, (how b hb).1] at u; omega
  unfold itmB at hbi
  simp only [Bool.and_eq_true] at hbi
  obtain ⟨i1, i2, i3, i4⟩ := hbi
  have i2 := Nat.eq_of_beq_eq_true i2
  have i3 := Nat.le_of_ble_eq_true i3
  have hw3' : w ≤ 3 := i3
  have o1 := hbo
  unfold ordN at o1
  have t1 := hbt
  unfold topN at t1
  obtain ⟨j1, j3⟩ := Bool.and_eq_true_iff.mp hbj
  have hgl9 := gthE_len (b := b) (ves := vwE M i) (ges := (lookE (TIq M.2.2.2.2.2.2) (vwE M i) (M.2.2.2.1 i).1)) (sr := q.2.1) (lb := (M.2.2.2.1 i).1)
  have hgl8 : (gthE b (vwE M i) (lookE (TIq M.2.2.2.2.2.2) (vwE M i) (M.2.2.2.1 i).1) q.2.1 (M.2.2.2.1 i).1).length ≤ 600 := by cases b with
    | true => exact Nat.le_trans hgl9 hlen
    | false => exact Nat.le_trans hgl9 (Nat.le_trans hll hlen)
  have hnpk : (plJ (onE (wif0 W) (wif1 W) (wos σ W)) 0 (gthE b (vwE M i) (lookE (TIq M.2.2.2.2.2.2) (vwE M i) (M.2.2.2.1 i).1) q.2.1 (M.2.2.2.1 i).1)).length ≤ 3400 := Nat.le_trans pl0_len (by omega)
  obtain ⟨tq, htq⟩ : ∃ tq, tq = q0B none (bI (decide ((0 : Nat) = 14))) 150 w (wif0 W) (wif1 W) (wits W) (wkd W) (wfr W) (wos σ W) (gthE b (vwE M i) (lookE (TIq M.2.2.2.2.2.2) (vwE M i) (M.2.2.2.1 i).1) q.2.1 (M.2.2.2.1 i).1) := ⟨_, rfl⟩
  have hkw450 : (150 : Nat) * w ≤ 450 := by omega
  have hans : ∀ (h1 : List XC) (q0 q1 : Value) (pa ln : Nat) (pn kp0 off0 so0 dn0 lc0 wd0 : Int32) (ps lbs las : List Int32), FrX (fun x => x = A 10 ∨ x = A 6) g h1 → HR h1 ow k A M 0 np nl → h1[A 6]? = some (.inr (11, [.ref (A 10), .int (M.2.2.2.1 i).1])) → hSh h1 (A 10) (lookE (TIq M.2.2.2.2.2.2) (vwE M i) (M.2.2.2.1 i).1) → h1[A 8]? = some (.inr (7, [q0, q1, .ref (A 17), .ref (A 18), .ref pa, .int pn, .ref (A 19), .int kp0, .int off0, .int so0, .int dn0, .ref ln, .int lc0, .int wd0])) → h1[pa]? = some (.inl (18, ps.map Value.int)) → ps.length = np → h1[A 19]? = some (.inl (19, las.map Value.int)) → las.length = 120 → h1[ln]? = some (.inl (20, lbs.map Value.int)) → lbs.length = nl → Me S 8 139 [.ref (A 8), .ref (A 60), .ref (A 75), .ref (A (vwO M i)), .ref (A 6)] h1 (fun v hp' c s => v = some (.int (anE (Int32.ofNat tq.2) 999999999)) ∧ AnR h1 hp' (A 8) (A 60) (A 75) (A 17) (A 18) pa (A 19) ln (A 73) 150 w 120 120 np nl (plJ (onE (wif0 W) (wif1 W) (wos σ W)) 0 (gthE b (vwE M i) (lookE (TIq M.2.2.2.2.2.2) (vwE M i) (M.2.2.2.1 i).1) q.2.1 (M.2.2.2.1 i).1)).length ((vwE M i).length + (lookE (TIq M.2.2.2.2.2.2) (vwE M i) (M.2.2.2.1 i).1).length) tq c s) := by
    intro h1 q0 q1 pa ln pn kp0 off0 so0 dn0 lc0 wd0 ps lbs las f1 hR1 g6 g10 g8' gpa gpn gli glal gln gll
    have H1 : WH A ρ σ ω W h1 := H.fr f1 (fun n hn e => by rcases e with e | e <;> (have := hne _ _ (by omega) (by decide) e; omega)) n3
    obtain ⟨sf, mf, ces, ws, es, gs, hS9, hm4, s3, m3, c3, c2⟩ := one_s H1 n1 h18
    obtain ⟨hS, hst, hF, ⟨vs, hsa, hvN⟩, hmf, hmc⟩ := hS9
    have H2 : ∀ h, FrX (fun x => x = A 8) h1 h → WH A ρ σ ω W h := fun h f => H1.fr f (fun n hn e => by have := hne _ _ (by omega) (by decide) e; omega) n3
    obtain ⟨hO, how1, h0, hh1, h3, hD, hFF, hE, hT, ⟨lv9, hG⟩, hC, hL9, hQ, hW9, hSS, hTq9, htd, hcap⟩ := id hR1
    obtain ⟨rf, hr, -, -⟩ := wO_at H1 (by decide) n7
    obtain ⟨e17, he17⟩ := hL9 17 (by decide)
    obtain ⟨as0, hL1, -⟩ := he17
    obtain ⟨e18, he18⟩ := hL9 18 (by decide)
    obtain ⟨bs0, hL2, -⟩ := he18
    obtain ⟨hv, ss, hVL, hVe⟩ := hR1.view hi
    obtain ⟨gs9, hGl, hGe⟩ := g10
    obtain ⟨ca, ka, ra, ga, chk, dv, ht, -⟩ := (hTq9 q hq).1
    obtain ⟨zq0, zq1, zpa, zln, zpn, zkp, zoff, zso, zdn, zlc, zwd, zps, zlb, zla, y1, y2, y3, y4, y5, y6, y7, y8, y9, y10, y11⟩ := hQ
    have hvw := vwL_c (M := M) (i := i) hi
    have aw9 : ∀ h, FrX (fun x => x = A 8) h1 h → Pu S 1 106 [.ref (A 75)] h (.int (Int32.ofNat w)) := fun h f => by
      have H3 := H2 h f
      obtain ⟨sf3, mf3, ces3, ws3, es3, gs3, k9, k4, k3, km3, kc3, kc2⟩ := one_s H3 n1 h18
      have b3 : sf3[14]? = some (.int (Int32.ofNat (wits W))) := by
        obtain ⟨sf8, kes8, fes8, z1, z2, z3, z4, z5, z6, z7⟩ := k9.1
        cases z1.symm.trans k9.2.1
        exact z6
      have := m_awI (S := S) k9.2.2.2.2.1 (by rw [km3 0 (by decide), wveq_s n6]; show some (Value.ref (ρ 0)) = _; rw [H3.2.1 0 (by decide)]) k9.2.1 (by rw [k3 4 (by decide), wveq_s i1]; rfl) b3 (by decide)
      rw [i2] at this
      exact this
    have hkd9 : ∀ k, k < wits W → wkd W k ≤ 50 ∧ wfr W k ≤ itTo (wits W) (wif0 W) (wos σ W).length k false (wfr W) ∧ itTo (wits W) (wif0 W) (wos σ W).length k false (wfr W) ≤ (wos σ W).length ∧ resOk (segK (wos σ W) (wits W) (wif0 W) (wfr W) k) = true := fun k hk => by
      have e := List.all_eq_true.mp i4 k (List.mem_range.mpr (by omega))
      simp only [Bool.and_eq_true] at e
      obtain ⟨e1, e2, e3, e4⟩ := e
      unfold segK
      rw [wos_len]
      exact ⟨Nat.le_of_ble_eq_true e1, Nat.le_of_ble_eq_true e2, Nat.le_of_ble_eq_true e3, wrs_ok e4⟩
    have := m_ans0uB (S := S) (hq := g8') (hst := hst) (hm := hmf) (hli := gli) (hla := glal) (hwL := (by omega)) (hL := (by decide)) (hr := hr) (hs0 := (by rw [s3 0 (by decide), wveq_s n5]; show some (Value.ref (ρ 1)) = _; rw [H1.2.1 1 (by decide)])) (oa := Int32.ofNat 4294967295) (so := none) (kw := 0) (hs9 := (by rw [s3 9 (by decide), wveq_s o1]; rfl)) (hord := (Or.inl ⟨by decide, rfl⟩)) (hkw := (fun h f => m_rkindN (by decide))) (hk51 := (by decide)) (hso9 := (fun k e => by cases e)) (tp := Int32.ofNat 4294967295) (top := 999999999) (kp := 150) (hs10 := (by rw [s3 10 (by decide), wveq_s t1]; rfl)) (htop := (Or.inl ⟨by decide, rfl, rfl⟩)) (haw := aw9) (hm4 := hm4) (ht := ht) (b := b) (hs3 := (by rw [s3 3 (by decide), wveq_s n8]; cases b <;> rfl)) (hs4 := (by rw [s3 4 (by decide), wveq_s i1]; rfl)) (hjn := (by rw [s3 6 (by decide), wveq_s j1]; rfl)) (hS := hS) (hF := hF) (hsa := hsa) (hvN := hvN) (hmc := hmc) (hv := hv) (hg := g6) (hL1 := hL1) (hL2 := hL2) (hV := hVL) (hVe := hVe) (hGl := hGl) (hGe := hGe) (hl12 := (fun e => by have := hne _ _ (by omega) (by omega) e; omega)) (hl1v := (fun e => by have := hne _ _ (by omega) (by omega) e; omega)) (hl1g := (fun e => by have := hne _ _ (by omega) (by omega) e; omega)) (hl2v := (fun e => by have := hne _ _ (by omega) (by omega) e; omega)) (hl2g := (fun e => by have := hne _ _ (by omega) (by omega) e; omega)) (hO := hO) (hpa := gpa) (hpl := (by omega)) (hln := gln) (hlb := (by omega)) (hkw9 := hkw450) (hN := (by rw [wos_len]; omega)) (hN2 := (by decide)) (hnm := (wnmb_s n2)) (hnn := (by omega)) (hif := (by rw [wos_len]; exact Nat.le_of_ble_eq_true n9)) (hsi := (fun hlt => by rcases (Bool.or_eq_true _ _).mp n10 with e | e; exact absurd (Nat.le_of_ble_eq_true e) (by omega); exact wrs_ok e)) (hneg := (by decide)) (hm5 := (by rw [m3 5 (by decide), wveq_s j3]; rfl)) (hbg := (by omega)) (haa := (by decide)) (hwi := i2.symm) (hkd := (fun k hk => by have := (hkd9 k hk).1; omega)) (hvb := (by show wkn (wfl W 0 2) = 5; rw [wveq_s n4]; rfl)) (hseg := (fun k hk => (hkd9 k hk).2)) (hm6 := (by rw [m3 6 (by decide), wveq_s hbr]; rfl))
    rw [gpn, gll] at this
    rw [htq]
    exact this
  by_cases ha : anE (Int32.ofNat tq.2) 999999999 = 1
  · have e9 : getM M i w 999999999 (q0B none (bI (decide ((0 : Nat) = 14))) 150 w (wif0 W) (wif1 W) (wits W) (wkd W) (wfr W) (wos σ W) (gthE b (vwE M i) (lookE (TIq M.2.2.2.2.2.2) (vwE M i) (M.2.2.2.1 i).1) q.2.1 (M.2.2.2.1 i).1)) = (Int32.ofNat tq.1.length, 0, mS M i (sAns (M.2.2.2.1 i) tq.1.length w tq.1.flatten)) := by rw [← htq]; exact if_pos ha
    rw [e9]
    exact run_g (vb := 5) (M2 := mS M i (sAns (M.2.2.2.1 i) tq.1.length w tq.1.flatten)) h hi (by rw [mS_at]; exact hln) hl64 hS0.2.1 h2v rfl (h_ask1 (kp := 150) (w9 := w) (npk := (plJ (onE (wif0 W) (wif1 W) (wos σ W)) 0 (gthE b (vwE M i) (lookE (TIq M.2.2.2.2.2.2) (vwE M i) (M.2.2.2.1 i).1) q.2.1 (M.2.2.2.1 i).1)).length) (t := tq) (top := 999999999) h hi hsr hEt (by omega) (by omega) (by decide) hkw450 (by omega) hnpk ha hans) (by decide) (fun e hp' c s h9 => QR.k0 rfl h9 (by decide) (by decide)) (fun e => absurd rfl e)
  · have ha0 : anE (Int32.ofNat tq.2) 999999999 = 0 := anE_0 ha
    have e9 : getM M i w 999999999 (q0B none (bI (decide ((0 : Nat) = 14))) 150 w (wif0 W) (wif1 W) (wits W) (wkd W) (wfr W) (wos σ W) (gthE b (vwE M i) (lookE (TIq M.2.2.2.2.2.2) (vwE M i) (M.2.2.2.1 i).1) q.2.1 (M.2.2.2.1 i).1)) = (0, 109, M) := by rw [← htq]; exact if_neg ha
    rw [e9]
    exact run_g (vb := 5) h hi hln hl64 hS0.2.1 h2v rfl (h_ask0 (kp := 150) (w9 := w) (npk := (plJ (onE (wif0 W) (wif1 W) (wos σ W)) 0 (gthE b (vwE M i) (lookE (TIq M.2.2.2.2.2.2) (vwE M i) (M.2.2.2.1 i).1) q.2.1 (M.2.2.2.1 i).1)).length) (t := tq) (top := 999999999) h hi hsr hEt (by omega) (by omega) (by decide) hkw450 (by omega) hnpk ha0 hans) (by decide) (fun e => absurd e (by decide)) (fun e hp' c s h9 => QR.k1 (by decide) h9 (by decide) (by decide))
theorem v_0G {S : List Int32} {g : List XC} {ow : Nat → Nat} {k : Nat} {A : Nat → Nat} {M : HM} {np nl i ln : Nat} {ρ σ : Nat → Nat} {ω : Nat → Value} {W : List WC} {q : TQ} {b : Bool} {w : Nat} (h : HR g ow k A M 0 np nl) (hi : i < 8) (hln : (M.2.2.2.1 i).1 = Int32.ofNat ln) (hl64 : ln < 64) (hV : WfV M i) (H : WH A ρ σ ω W g) (hq : q ∈ M.2.2.2.2.2.2) (h18 : ρ 18 = q.1.1) (hbo : ordN W = true) (hbt : topN W = true) (hbg : getB b W = true) (hbi : itmB w W = true) (hbj : joN W = true) (hbr : gr0 w W = true) : At S 12 40 66 [(3, .int (Int32.ofNat 4294967295)), (2, .ref (A (20 + i))), (0, .ref (A 0))] [] g 0 0 (QR g ow k A np nl 2 906 (fun r => r = cntR (getM M i w 999999999 (q0G none (bI (decide ((0 : Nat) = 14))) 150 w (wif0 W) (wif1 W) (wits W) (wkd W) (wfr W) (wos σ W) (gthE b (vwE M i) (lookE (TIq M.2.2.2.2.2.2) (vwE M i) (M.2.2.2.1 i).1) q.2.1 (M.2.2.2.1 i).1))) i ln)) := by
  unfold getB at hbg
  simp only [Bool.and_eq_true] at hbg
  obtain ⟨n1, n2, n3, n4, n5, n6, n7, n8, n9, n10⟩ := hbg
  have bf := bf_120 (Bool.and_eq_true_iff.mp n1).1
  obtain ⟨hsr, hEt, hlen, hSt, hst9, hend, hch, hsame, hwid⟩ := hV
  have hll := look_len (TI := TIq M.2.2.2.2.2.2) (es := vwE M i) (lb := (M.2.2.2.1 i).1)
  obtain ⟨sf0, mf0, ces0, ws0, es0, gs0, hS0, hm40, s30, m30, c30, c20⟩ := one_s H n1 h18
  have h2v : sf0[2]? = some (.retAddr 5) := by rw [s30 2 (by decide), wveq_s n4]; rfl
  have how := h.2.1
  have hne : ∀ a b, a < 77 → b < 77 → A a = A b → a = b := fun a b ha hb e => by have u := (how a ha).1; rw [e, (how b hb).1] at u; omega
  unfold itmB at hbi
  simp only [Bool.and_eq_true] at hbi
  obtain ⟨i1, i2, i3, i4⟩ := hbi
  have i2 := Nat.eq_of_beq_eq_true i2
  have i3 := Nat.le_of_ble_eq_true i3
  have hw3' : w ≤ 3 := i3
  have o1 := hbo
  unfold ordN at o1
  have t1 := hbt
  unfold topN at t1
  obtain ⟨j1, j3⟩ := Bool.and_eq_true_iff.mp hbj
  unfold gr0 at hbr
  simp only [Bool.and_eq_true] at hbr
  obtain ⟨r1, r2, r3⟩ := hbr
  have hgl9 := gthE_len (b := b) (ves := vwE M i) (ges := (lookE (TIq M.2.2.2.2.2.2) (vwE M i) (M.2.2.2.1 i).1)) (sr := q.2.1) (lb := (M.2.2.2.1 i).1)
  have hgl8 : (gthE b (vwE M i) (lookE (TIq M.2.2.2.2.2.2) (vwE M i) (M.2.2.2.1 i).1) q.2.1 (M.2.2.2.1 i).1).length ≤ 600 := by cases b with
    | true => exact Nat.le_trans hgl9 hlen
    | false => exact Nat.le_trans hgl9 (Nat.le_trans hll hlen)
  have hnpk : (plJ (onE (wif0 W) (wif1 W) (wos σ W)) 0 (gthE b (vwE M i) (lookE (TIq M.2.2.2.2.2.2) (vwE M i) (M.2.2.2.1 i).1) q.2.1 (M.2.2.2.1 i).1)).length ≤ 3400 := Nat.le_trans pl0_len (by omega)
  obtain ⟨tq, htq⟩ : ∃ tq, tq = q0G none (bI (decide ((0 : Nat) = 14))) 150 w (wif0 W) (wif1 W) (wits W) (wkd W) (wfr W) (wos σ W) (gthE b (vwE M i) (lookE (TIq M.2.2.2.2.2.2) (vwE M i) (M.2.2.2.1 i).1) q.2.1 (M.2.2.2.1 i).1) := ⟨_, rfl⟩
  have hkw450 : (150 : Nat) * w ≤ 450 := by omega
  have hans : ∀ (h1 : List XC) (q0 q1 : Value) (pa ln : Nat) (pn kp0 off0 so0 dn0 lc0 wd0 : Int32) (ps lbs las : List Int32), FrX (fun x => x = A 10 ∨ x = A 6) g h1 → HR h1 ow k A M 0 np nl → h1[A 6]? = some (.inr (11, [.ref (A 10), .int (M.2.2.2.1 i).1])) → hSh h1 (A 10) (lookE (TIq M.2.2.2.2.2.2) (vwE M i) (M.2.2.2.1 i).1) → h1[A 8]? = some (.inr (7, [q0, q1, .ref (A 17), .ref (A 18), .ref pa, .int pn, .ref (A 19), .int kp0, .int off0, .int so0, .int dn0, .ref ln, .int lc0, .int wd0])) → h1[pa]? = some (.inl (18, ps.map Value.int)) → ps.length = np → h1[A 19]? = some (.inl (19, las.map Value.int)) → las.length = 120 → h1[ln]? = some (.inl (20, lbs.map Value.int)) → lbs.length = nl → Me S 8 139 [.ref (A 8), .ref (A 60), .ref (A 75), .ref (A (vwO M i)), .ref (A 6)] h1 (fun v hp' c s => v = some (.int (anE (Int32.ofNat tq.2) 999999999)) ∧ AnR h1 hp' (A 8) (A 60) (A 75) (A 17) (A 18) pa (A 19) ln (A 73) 150 w 120 120 np nl (plJ (onE (wif0 W) (wif1 W) (wos σ W)) 0 (gthE b (vwE M i) (lookE (TIq M.2.2.2.2.2.2) (vwE M i) (M.2.2.2.1 i).1) q.2.1 (M.2.2.2.1 i).1)).length ((vwE M i).length + (lookE (TIq M.2.2.2.2.2.2) (vwE M i) (M.2.2.2.1 i).1).length) tq c s) := by
    intro h1 q0 q1 pa ln pn kp0 off0 so0 dn0 lc0 wd0 ps lbs las f1 hR1 g6 g10 g8' gpa gpn gli glal gln gll
    have H1 : WH A ρ σ ω W h1 := H.fr f1 (fun n hn e => by rcases e with e | e <;> (have := hne _ _ (by omega) (by decide) e; omega)) n3
    obtain ⟨sf, mf, ces, ws, es, gs, hS9, hm4, s3, m3, c3, c2⟩ := one_s H1 n1 h18
    obtain ⟨hS, hst, hF, ⟨vs, hsa, hvN⟩, hmf, hmc⟩ := hS9
    have H2 : ∀ h, FrX (fun x => x = A 8) h1 h → WH A ρ σ ω W h := fun h f => H1.fr f (fun n hn e => by have := hne _ _ (by omega) (by decide) e; omega) n3
    obtain ⟨hO, how1, h0, hh1, h3, hD, hFF, hE, hT, ⟨lv9, hG⟩, hC, hL9, hQ, hW9, hSS, hTq9, htd, hcap⟩ := id hR1
    obtain ⟨rf, hr, -, -⟩ := wO_at H1 (by decide) n7
    obtain ⟨e17, he17⟩ := hL9 17 (by decide)
    obtain ⟨as0, hL1, -⟩ := he17
    obtain ⟨e18, he18⟩ := hL9 18 (by decide)
    obtain ⟨bs0, hL2, -⟩ := he18
    obtain ⟨hv, ss, hVL, hVe⟩ := hR1.view hi
    obtain ⟨gs9, hGl, hGe⟩ := g10
    obtain ⟨ca, ka, ra, ga, chk, dv, ht, -⟩ := (hTq9 q hq).1
    obtain ⟨zq0, zq1, zpa, zln, zpn, zkp, zoff, zso, zdn, zlc, zwd, zps, zlb, zla, y1, y2, y3, y4, y5, y6, y7, y8, y9, y10, y11⟩ := hQ
    have hvw := vwL_c (M := M) (i := i) hi
    have aw9 : ∀ h, FrX (fun x => x = A 8) h1 h → Pu S 1 106 [.ref (A 75)] h (.int (Int32.ofNat w)) := fun h f => by
      have H3 := H2 h f
      obtain ⟨sf3, mf3, ces3, ws3, es3, gs3, k9, k4, k3, km3, kc3, kc2⟩ := one_s H3 n1 h18
      have b3 : sf3[14]? = some (.int (Int32.ofNat (wits W))) := by
        obtain ⟨sf8, kes8, fes8, z1, z2, z3, z4, z5, z6, z7⟩ := k9.1
        cases z1.symm.trans k9.2.1
        exact z6
      have := m_awI (S := S) k9.2.2.2.2.1 (by rw [km3 0 (by decide), wveq_s n6]; show some (Value.ref (ρ 0)) = _; rw [H3.2.1 0 (by decide)]) k9.2.1 (by rw [k3 4 (by decide), wveq_s i1]; rfl) b3 (by decide)
      rw [i2] at this
      exact this
    have hkd9 : ∀ k, k < wits W → wkd W k ≤ 50 ∧ wfr W k ≤ itTo (wits W) (wif0 W) (wos σ W).length k false (wfr W) ∧ itTo (wits W) (wif0 W) (wos σ W).length k false (wfr W) ≤ (wos σ W).length ∧ resOk (segK (wos σ W) (wits W) (wif0 W) (wfr W) k) = true := fun k hk => by
      have e := List.all_eq_true.mp i4 k (List.mem_range.mpr (by omega))
      simp only [Bool.and_eq_true] at e
      obtain ⟨e1, e2, e3, e4⟩ := e
      unfold segK
      rw [wos_len]
      exact ⟨Nat.le_of_ble_eq_true e1, Nat.le_of_ble_eq_true e2, Nat.le_of_ble_eq_true e3, wrs_ok e4⟩
    have := m_ans0g0 (S := S) (hq := g8') (hst := hst) (hm := hmf) (hli := gli) (hla := glal) (hwL := (by omega)) (hL := (by decide)) (hr := hr) (hs0 := (by rw [s3 0 (by decide), wveq_s n5]; show some (Value.ref (ρ 1)) = _; rw [H1.2.1 1 (by decide)])) (oa := Int32.ofNat 4294967295) (so := none) (kw := 0) (hs9 := (by rw [s3 9 (by decide), wveq_s o1]; rfl)) (hord := (Or.inl ⟨by decide, rfl⟩)) (hkw := (fun h f => m_rkindN (by decide))) (hk51 := (by decide)) (hso9 := (fun k e => by cases e)) (tp := Int32.ofNat 4294967295) (top := 999999999) (kp := 150) (hs10 := (by rw [s3 10 (by decide), wveq_s t1]; rfl)) (htop := (Or.inl ⟨by decide, rfl, rfl⟩)) (haw := aw9) (hm4 := hm4) (ht := ht) (b := b) (hs3 := (by rw [s3 3 (by decide), wveq_s n8]; cases b <;> rfl)) (hs4 := (by rw [s3 4 (by decide), wveq_s i1]; rfl)) (hjn := (by rw [s3 6 (by decide), wveq_s j1]; rfl)) (hS := hS) (hF := hF) (hsa := hsa) (hvN := hvN) (hmc := hmc) (hv := hv) (hg := g6) (hL1 := hL1) (hL2 := hL2) (hV := hVL) (hVe := hVe) (hGl := hGl) (hGe := hGe) (hl12 := (fun e => by have := hne _ _ (by omega) (by omega) e; omega)) (hl1v := (fun e => by have := hne _ _ (by omega) (by omega) e; omega)) (hl1g := (fun e => by have := hne _ _ (by omega) (by omega) e; omega)) (hl2v := (fun e => by have := hne _ _ (by omega) (by omega) e; omega)) (hl2g := (fun e => by have := hne _ _ (by omega) (by omega) e; omega)) (hO := hO) (hpa := gpa) (hpl := (by omega)) (hln := gln) (hlb := (by omega)) (hkw9 := hkw450) (hN := (by rw [wos_len]; omega)) (hN2 := (by decide)) (hnm := (wnmb_s n2)) (hnn := (by omega)) (hif := (by rw [wos_len]; exact Nat.le_of_ble_eq_true n9)) (hsi := (fun hlt => by rcases (Bool.or_eq_true _ _).mp n10 with e | e; exact absurd (Nat.le_of_ble_eq_true e) (by omega); exact wrs_ok e)) (hneg := (by decide)) (hm5 := (by rw [m3 5 (by decide), wveq_s j3]; rfl)) (hbg := (by omega)) (haa := (by decide)) (hwi := i2.symm) (hkd := (fun k hk => by have := (hkd9 k hk).1; omega)) (hvb := (by show wkn (wfl W 0 2) = 5; rw [wveq_s n4]; rfl)) (hseg := (fun k hk => (hkd9 k hk).2)) (hm6 := (by rw [m3 6 (by decide), wveq_s r1]; rfl)) (hs15 := (by rw [s3 15 (by decide), wveq_s r2]; rfl)) (hno := (fun k hk e => by have e2 := List.all_eq_true.mp r3 k (List.mem_range.mpr (by omega)); rw [e] at e2; cases e2))
    rw [gpn, gll] at this
    rw [htq]
    exact this
  by_cases ha : anE (Int32.ofNat tq.2) 999999999 = 1
  · have e9 : getM M i w 999999999 (q0G none (bI (decide ((0 : Nat) = 14))) 150 w (wif0 W) (wif1 W) (wits W) (wkd W) (wfr W) (wos σ W) (gthE b (vwE M i) (lookE (TIq M.2.2.2.2.2.2) (vwE M i) (M.2.2.2.1 i).1) q.2.1 (M.2.2.2.1 i).1)) = (Int32.ofNat tq.1.length, 0, mS M i (sAns (M.2.2.2.1 i) tq.1.length w tq.1.flatten)) := by rw [← htq]; exact if_pos ha
    rw [e9]
    exact run_g (vb := 5) (M2 := mS M i (sAns (M.2.2.2.1 i) tq.1.length w tq.1.flatten)) h hi (by rw [mS_at]; exact hln) hl64 hS0.2.1 h2v rfl (h_ask1 (kp := 150) (w9 := w) (npk := (plJ (onE (wif0 W) (wif1 W) (wos σ W)) 0 (gthE b (vwE M i) (lookE (TIq M.2.2.2.2.2.2) (vwE M i) (M.2.2.2.1 i).1) q.2.1 (M.2.2.2.1 i).1)).length) (t := tq) (top := 999999999) h hi hsr hEt (by omega) (by omega) (by decide) hkw450 (by omega) hnpk ha hans) (by decide) (fun e hp' c s h9 => QR.k0 rfl h9 (by decide) (by decide)) (fun e => absurd rfl e)
  · have ha0 : anE (Int32.ofNat tq.2) 999999999 = 0 := anE_0 ha
    have e9 : getM M i w 999999999 (q0G none (bI (decide ((0 : Nat) = 14))) 150 w (wif0 W) (wif1 W) (wits W) (wkd W) (wfr W) (wos σ W) (gthE b (vwE M i) (lookE (TIq M.2.2.2.2.2.2) (vwE M i) (M.2.2.2.1 i).1) q.2.1 (M.2.2.2.1 i).1)) = (0, 109, M) := by rw [← htq]; exact if_neg ha
    rw [e9]
    exact run_g (vb := 5) h hi hln hl64 hS0.2.1 h2v rfl (h_ask0 (kp := 150) (w9 := w) (npk := (plJ (onE (wif0 W) (wif1 W) (wos σ W)) 0 (gthE b (vwE M i) (lookE (TIq M.2.2.2.2.2.2) (vwE M i) (M.2.2.2.1 i).1) q.2.1 (M.2.2.2.1 i).1)).length) (t := tq) (top := 999999999) h hi hsr hEt (by omega) (by omega) (by decide) hkw450 (by omega) hnpk ha0 hans) (by decide) (fun e => absurd e (by decide)) (fun e hp' c s h9 => QR.k1 (by decide) h9 (by decide) (by decide))
theorem v_0N {S : List Int32} {g : List XC} {ow : Nat → Nat} {k : Nat} {A : Nat → Nat} {M : HM} {np nl i ln : Nat} {ρ σ : Nat → Nat} {ω : Nat → Value} {W : List WC} {q : TQ} {b : Bool} {w : Nat} {col : Nat} (h : HR g ow k A M 0 np nl) (hi : i < 8) (hln : (M.2.2.2.1 i).1 = Int32.ofNat ln) (hl64 : ln < 64) (hV : WfV M i) (H : WH A ρ σ ω W g) (hq : q ∈ M.2.2.2.2.2.2) (h18 : ρ 18 = q.1.1) (hbo : ordN W = true) (hbt : topN W = true) (hbg : getB b W = true) (hbi : itmB w W = true) (hbj : joN W = true) (hbr : gr1 col W = true) : At S 12 40 66 [(3, .int (Int32.ofNat 4294967295)), (2, .ref (A (20 + i))), (0, .ref (A 0))] [] g 0 0 (QR g ow k A np nl 2 906 (fun r => r = cntR (getM M i w 999999999 (q0N none (bI (decide ((0 : Nat) = 14))) 150 w (wif0 W) (wif1 W) (wits W) col (wkd W) (wfr W) (wos σ W) (gthE b (vwE M i) (lookE (TIq M.2.2.2.2.2.2) (vwE M i) (M.2.2.2.1 i).1) q.2.1 (M.2.2.2.1 i).1))) i ln)) := by
  unfold getB at hbg
  simp only [Bool.and_eq_true] at hbg
  obtain ⟨n1, n2, n3, n4, n5, n6, n7, n8, n9, n10⟩ := hbg
  have bf := bf_120 (Bool.and_eq_true_iff.mp n1).1
  obtain ⟨hsr, hEt, hlen, hSt, hst9, hend, hch, hsame, hwid⟩ := hV
  have hll := look_len (TI := TIq M.2.2.2.2.2.2) (es := vwE M i) (lb := (M.2.2.2.1 i).1)
  obtain ⟨sf0, mf0, ces0, ws0, es0, gs0, hS0, hm40, s30, m30, c30, c20⟩ := one_s H n1 h18
  have h2v : sf0[2]? = some (.retAddr 5) := by rw [s30 2 (by decide), wveq_s n4]; rfl
  have how := h.2.1
  have hne : ∀ a b, a < 77 → b < 77 → A a = A b → a = b := fun a b ha hb e => by have u := (how a ha).1; rw [e, (how b hb).1] at u; omega
  unfold itmB at hbi
  simp only [Bool.and_eq_true] at hbi
  obtain ⟨i1, i2, i3, i4⟩ := hbi
  have i2 := Nat.eq_of_beq_eq_true i2
  have i3 := Nat.le_of_ble_eq_true i3
  have hw3' : w ≤ 3 := i3
  have o1 := hbo
  unfold ordN at o1
  have t1 := hbt
  unfold topN at t1
  obtain ⟨j1, j3⟩ := Bool.and_eq_true_iff.mp hbj
  unfold gr1 at hbr
  simp only [Bool.and_eq_true] at hbr
  obtain ⟨r1, r2, r3, r4, r5⟩ := hbr
  have r5 := Nat.le_of_ble_eq_true r5
  have hgl9 := gthE_len (b := b) (ves := vwE M i) (ges := (lookE (TIq M.2.2.2.2.2.2) (vwE M i) (M.2.2.2.1 i).1)) (sr := q.2.1) (lb := (M.2.2.2.1 i).1)
  have hgl8 : (gthE b (vwE M i) (lookE (TIq M.2.2.2.2.2.2) (vwE M i) (M.2.2.2.1 i).1) q.2.1 (M.2.2.2.1 i).1).length ≤ 600 := by cases b with
    | true => exact Nat.le_trans hgl9 hlen
    | false => exact Nat.le_trans hgl9 (Nat.le_trans hll hlen)
  have hnpk : (plJ (onE (wif0 W) (wif1 W) (wos σ W)) 0 (gthE b (vwE M i) (lookE (TIq M.2.2.2.2.2.2) (vwE M i) (M.2.2.2.1 i).1) q.2.1 (M.2.2.2.1 i).1)).length ≤ 3400 := Nat.le_trans pl0_len (by omega)
  obtain ⟨tq, htq⟩ : ∃ tq, tq = q0N none (bI (decide ((0 : Nat) = 14))) 150 w (wif0 W) (wif1 W) (wits W) col (wkd W) (wfr W) (wos σ W) (gthE b (vwE M i) (lookE (TIq M.2.2.2.2.2.2) (vwE M i) (M.2.2.2.1 i).1) q.2.1 (M.2.2.2.1 i).1) := ⟨_, rfl⟩
  have hkw450 : (150 : Nat) * w ≤ 450 := by omega
  have hans : ∀ (h1 : List XC) (q0 q1 : Value) (pa ln : Nat) (pn kp0 off0 so0 dn0 lc0 wd0 : Int32) (ps lbs las : List Int32), FrX (fun x => x = A 10 ∨ x = A 6) g h1 → HR h1 ow k A M 0 np nl → h1[A 6]? = some (.inr (11, [.ref (A 10), .int (M.2.2.2.1 i).1])) → hSh h1 (A 10) (lookE (TIq M.2.2.2.2.2.2) (vwE M i) (M.2.2.2.1 i).1) → h1[A 8]? = some (.inr (7, [q0, q1, .ref (A 17), .ref (A 18), .ref pa, .int pn, .ref (A 19), .int kp0, .int off0, .int so0, .int dn0, .ref ln, .int lc0, .int wd0])) → h1[pa]? = some (.inl (18, ps.map Value.int)) → ps.length = np → h1[A 19]? = some (.inl (19, las.map Value.int)) → las.length = 120 → h1[ln]? = some (.inl (20, lbs.map Value.int)) → lbs.length = nl → Me S 8 139 [.ref (A 8), .ref (A 60), .ref (A 75), .ref (A (vwO M i)), .ref (A 6)] h1 (fun v hp' c s => v = some (.int (anE (Int32.ofNat tq.2) 999999999)) ∧ AnR h1 hp' (A 8) (A 60) (A 75) (A 17) (A 18) pa (A 19) ln (A 73) 150 w 120 120 np nl (plJ (onE (wif0 W) (wif1 W) (wos σ W)) 0 (gthE b (vwE M i) (lookE (TIq M.2.2.2.2.2.2) (vwE M i) (M.2.2.2.1 i).1) q.2.1 (M.2.2.2.1 i).1)).length ((vwE M i).length + (lookE (TIq M.2.2.2.2.2.2) (vwE M i) (M.2.2.2.1 i).1).length) tq c s) := by
    intro h1 q0 q1 pa ln pn kp0 off0 so0 dn0 lc0 wd0 ps lbs las f1 hR1 g6 g10 g8' gpa gpn gli glal gln gll
    have H1 : WH A ρ σ ω W h1 := H.fr f1 (fun n hn e => by rcases e with e | e <;> (have := hne _ _ (by omega) (by decide) e; omega)) n3
    obtain ⟨sf, mf, ces, ws, es, gs, hS9, hm4, s3, m3, c3, c2⟩ := one_s H1 n1 h18
    obtain ⟨hS, hst, hF, ⟨vs, hsa, hvN⟩, hmf, hmc⟩ := hS9
    have H2 : ∀ h, FrX (fun x => x = A 8) h1 h → WH A ρ σ ω W h := fun h f => H1.fr f (fun n hn e => by have := hne _ _ (by omega) (by decide) e; omega) n3
    obtain ⟨hO, how1, h0, hh1, h3, hD, hFF, hE, hT, ⟨lv9, hG⟩, hC, hL9, hQ, hW9, hSS, hTq9, htd, hcap⟩ := id hR1
    obtain ⟨rf, hr, -, -⟩ := wO_at H1 (by decide) n7
    obtain ⟨e17, he17⟩ := hL9 17 (by decide)
    obtain ⟨as0, hL1, -⟩ := he17
    obtain ⟨e18, he18⟩ := hL9 18 (by decide)
    obtain ⟨bs0, hL2, -⟩ := he18
    obtain ⟨hv, ss, hVL, hVe⟩ := hR1.view hi
    obtain ⟨gs9, hGl, hGe⟩ := g10
    obtain ⟨ca, ka, ra, ga, chk, dv, ht, -⟩ := (hTq9 q hq).1
    obtain ⟨zq0, zq1, zpa, zln, zpn, zkp, zoff, zso, zdn, zlc, zwd, zps, zlb, zla, y1, y2, y3, y4, y5, y6, y7, y8, y9, y10, y11⟩ := hQ
    have hvw := vwL_c (M := M) (i := i) hi
    have aw9 : ∀ h, FrX (fun x => x = A 8) h1 h → Pu S 1 106 [.ref (A 75)] h (.int (Int32.ofNat w)) := fun h f => by
      have H3 := H2 h f
      obtain ⟨sf3, mf3, ces3, ws3, es3, gs3, k9, k4, k3, km3, kc3, kc2⟩ := one_s H3 n1 h18
      have b3 : sf3[14]? = some (.int (Int32.ofNat (wits W))) := by
        obtain ⟨sf8, kes8, fes8, z1, z2, z3, z4, z5, z6, z7⟩ := k9.1
        cases z1.symm.trans k9.2.1
        exact z6
      have := m_awI (S := S) k9.2.2.2.2.1 (by rw [km3 0 (by decide), wveq_s n6]; show some (Value.ref (ρ 0)) = _; rw [H3.2.1 0 (by decide)]) k9.2.1 (by rw [k3 4 (by decide), wveq_s i1]; rfl) b3 (by decide)
      rw [i2] at this
      exact this
    have hkd9 : ∀ k, k < wits W → wkd W k ≤ 50 ∧ wfr W k ≤ itTo (wits W) (wif0 W) (wos σ W).length k false (wfr W) ∧ itTo (wits W) (wif0 W) (wos σ W).length k false (wfr W) ≤ (wos σ W).length ∧ resOk (segK (wos σ W) (wits W) (wif0 W) (wfr W) k) = true := fun k hk => by
      have e := List.all_eq_true.mp i4 k (List.mem_range.mpr (by omega))
      simp only [Bool.and_eq_true] at e
      obtain ⟨e1, e2, e3, e4⟩ := e
      unfold segK
      rw [wos_len]
      exact ⟨Nat.le_of_ble_eq_true e1, Nat.le_of_ble_eq_true e2, Nat.le_of_ble_eq_true e3, wrs_ok e4⟩
    have := m_ans0gN (S := S) (hq := g8') (hst := hst) (hm := hmf) (hli := gli) (hla := glal) (hwL := (by omega)) (hL := (by decide)) (hr := hr) (hs0 := (by rw [s3 0 (by decide), wveq_s n5]; show some (Value.ref (ρ 1)) = _; rw [H1.2.1 1 (by decide)])) (oa := Int32.ofNat 4294967295) (so := none) (kw := 0) (hs9 := (by rw [s3 9 (by decide), wveq_s o1]; rfl)) (hord := (Or.inl ⟨by decide, rfl⟩)) (hkw := (fun h f => m_rkindN (by decide))) (hk51 := (by decide)) (hso9 := (fun k e => by cases e)) (tp := Int32.ofNat 4294967295) (top := 999999999) (kp := 150) (hs10 := (by rw [s3 10 (by decide), wveq_s t1]; rfl)) (htop := (Or.inl ⟨by decide, rfl, rfl⟩)) (haw := aw9) (hm4 := hm4) (ht := ht) (b := b) (hs3 := (by rw [s3 3 (by decide), wveq_s n8]; cases b <;> rfl)) (hs4 := (by rw [s3 4 (by decide), wveq_s i1]; rfl)) (hjn := (by rw [s3 6 (by decide), wveq_s j1]; rfl)) (hS := hS) (hF := hF) (hsa := hsa) (hvN := hvN) (hmc := hmc) (hv := hv) (hg := g6) (hL1 := hL1) (hL2 := hL2) (hV := hVL) (hVe := hVe) (hGl := hGl) (hGe := hGe) (hl12 := (fun e => by have := hne _ _ (by omega) (by omega) e; omega)) (hl1v := (fun e => by have := hne _ _ (by omega) (by omega) e; omega)) (hl1g := (fun e => by have := hne _ _ (by omega) (by omega) e; omega)) (hl2v := (fun e => by have := hne _ _ (by omega) (by omega) e; omega)) (hl2g := (fun e => by have := hne _ _ (by omega) (by omega) e; omega)) (hO := hO) (hpa := gpa) (hpl := (by omega)) (hln := gln) (hlb := (by omega)) (hkw9 := hkw450) (hN := (by rw [wos_len]; omega)) (hN2 := (by decide)) (hnm := (wnmb_s n2)) (hnn := (by omega)) (hif := (by rw [wos_len]; exact Nat.le_of_ble_eq_true n9)) (hsi := (fun hlt => by rcases (Bool.or_eq_true _ _).mp n10 with e | e; exact absurd (Nat.le_of_ble_eq_true e) (by omega); exact wrs_ok e)) (hneg := (by decide)) (hm5 := (by rw [m3 5 (by decide), wveq_s j3]; rfl)) (hbg := (by omega)) (haa := (by decide)) (hwi := i2.symm) (hkd := (fun k hk => by have := (hkd9 k hk).1; omega)) (hvb := (by show wkn (wfl W 0 2) = 5; rw [wveq_s n4]; rfl)) (hseg := (fun k hk => (hkd9 k hk).2)) (hm6 := (by rw [m3 6 (by decide), wveq_s r1]; rfl)) (hs15 := (by rw [s3 15 (by decide), wveq_s r2]; rfl)) (hm9 := (by rw [m3 9 (by decide), wveq_s r3]; show some (Value.ref (ρ 16)) = _; rw [H1.2.1 16 (by decide)])) (col := col) (hcv := (by rw [c3 0 (by decide), wveq_s r4]; rfl)) (hcl := (by rw [c2]; decide)) (hcol := (by omega))
    rw [gpn, gll] at this
    rw [htq]
    exact this
  by_cases ha : anE (Int32.ofNat tq.2) 999999999 = 1
  · have e9 : getM M i w 999999999 (q0N none (bI (decide ((0 : Nat) = 14))) 150 w (wif0 W) (wif1 W) (wits W) col (wkd W) (wfr W) (wos σ W) (gthE b (vwE M i) (lookE (TIq M.2.2.2.2.2.2) (vwE M i) (M.2.2.2.1 i).1) q.2.1 (M.2.2.2.1 i).1)) = (Int32.ofNat tq.1.length, 0, mS M i (sAns (M.2.2.2.1 i) tq.1.length w tq.1.flatten)) := by rw [← htq]; exact if_pos ha
    rw [e9]
    exact run_g (vb := 5) (M2 := mS M i (sAns (M.2.2.2.1 i) tq.1.length w tq.1.flatten)) h hi (by rw [mS_at]; exact hln) hl64 hS0.2.1 h2v rfl (h_ask1 (kp := 150) (w9 := w) (npk := (plJ (onE (wif0 W) (wif1 W) (wos σ W)) 0 (gthE b (vwE M i) (lookE (TIq M.2.2.2.2.2.2) (vwE M i) (M.2.2.2.1 i).1) q.2.1 (M.2.2.2.1 i).1)).length) (t := tq) (top := 999999999) h hi hsr hEt (by omega) (by omega) (by decide) hkw450 (by omega) hnpk ha hans) (by decide) (fun e hp' c s h9 => QR.k0 rfl h9 (by decide) (by decide)) (fun e => absurd rfl e)
  · have ha0 : anE (Int32.ofNat tq.2) 999999999 = 0 := anE_0 ha
    have e9 : getM M i w 999999999 (q0N none (bI (decide ((0 : Nat) = 14))) 150 w (wif0 W) (wif1 W) (wits W) col (wkd W) (wfr W) (wos σ W) (gthE b (vwE M i) (lookE (TIq M.2.2.2.2.2.2) (vwE M i) (M.2.2.2.1 i).1) q.2.1 (M.2.2.2.1 i).1)) = (0, 109, M) := by rw [← htq]; exact if_neg ha
    rw [e9]
    exact run_g (vb := 5) h hi hln hl64 hS0.2.1 h2v rfl (h_ask0 (kp := 150) (w9 := w) (npk := (plJ (onE (wif0 W) (wif1 W) (wos σ W)) 0 (gthE b (vwE M i) (lookE (TIq M.2.2.2.2.2.2) (vwE M i) (M.2.2.2.1 i).1) q.2.1 (M.2.2.2.1 i).1)).length) (t := tq) (top := 999999999) h hi hsr hEt (by omega) (by omega) (by decide) hkw450 (by omega) hnpk ha0 hans) (by decide) (fun e => absurd e (by decide)) (fun e hp' c s h9 => QR.k1 (by decide) h9 (by decide) (by decide))
theorem v_0NT {S : List Int32} {g : List XC} {ow : Nat → Nat} {k : Nat} {A : Nat → Nat} {M : HM} {np nl i ln : Nat} {ρ σ : Nat → Nat} {ω : Nat → Value} {W : List WC} {q : TQ} {o2 kt : Nat} {b : Bool} {w : Nat} {col : Nat} (h : HR g ow k A M 0 np nl) (hi : i < 8) (hln : (M.2.2.2.1 i).1 = Int32.ofNat ln) (hl64 : ln < 64) (hV : WfV M i) (H : WH A ρ σ ω W g) (hq : q ∈ M.2.2.2.2.2.2) (h18 : ρ 18 = q.1.1) (hbo : ordN W = true) (hbt : topT o2 W = true) (hkt : wti σ (wfl W 8 o2) = Int32.ofNat kt) (hk150 : kt ≤ 150) (hbg : getB b W = true) (hbi : itmB w W = true) (hbj : joN W = true) (hbr : gr1 col W = true) : At S 12 40 66 [(3, .int (Int32.ofNat 4294967295)), (2, .ref (A (20 + i))), (0, .ref (A 0))] [] g 0 0 (QR g ow k A np nl 2 906 (fun r => r = cntR (getM M i w (Int32.ofNat kt) (q0N none (bI (decide ((0 : Nat) = 14))) kt w (wif0 W) (wif1 W) (wits W) col (wkd W) (wfr W) (wos σ W) (gthE b (vwE M i) (lookE (TIq M.2.2.2.2.2.2) (vwE M i) (M.2.2.2.1 i).1) q.2.1 (M.2.2.2.1 i).1))) i ln)) := by
  unfold getB at hbg
  simp only [Bool.and_eq_true] at hbg
  obtain ⟨n1, n2, n3, n4, n5, n6, n7, n8, n9, n10⟩ := hbg
  have bf := bf_120 (Bool.and_eq_true_iff.mp n1).1
  obtain ⟨hsr, hEt, hlen, hSt, hst9, hend, hch, hsame, hwid⟩ := hV
  have hll := look_len (TI := TIq M.2.2.2.2.2.2) (es := vwE M i) (lb := (M.2.2.2.1 i).1)
  obtain ⟨sf0, mf0, ces0, ws0, es0, gs0, hS0, hm40, s30, m30, c30, c20⟩ := one_s H n1 h18
  have h2v : sf0[2]? = some (.retAddr 5) := by rw [s30 2 (by decide), wveq_s n4]; rfl
  have how := h.2.1
  have hne : ∀ a b, a < 77 → b < 77 → A a = A b → a = b := fun a b ha hb e => by have u := (how a ha).1; rw [e, (how b hb).1] at u; omega
  unfold itmB at hbi
  simp only [Bool.and_eq_true] at hbi
  obtain ⟨i1, i2, i3, i4⟩ := hbi
  have i2 := Nat.eq_of_beq_eq_true i2
  have i3 := Nat.le_of_ble_eq_true i3
  have hw3' : w ≤ 3 := i3
  have o1 := hbo
  unfold ordN at o1
  unfold topT at hbt
  simp only [Bool.and_eq_true] at hbt
  obtain ⟨t1, t3, t6⟩ := hbt
  have t6 := Nat.le_of_ble_eq_true t6
  obtain ⟨j1, j3⟩ := Bool.and_eq_true_iff.mp hbj
  unfold gr1 at hbr
  simp only [Bool.and_eq_true] at hbr
  obtain ⟨r1, r2, r3, r4, r5⟩ := hbr
  have r5 := Nat.le_of_ble_eq_true r5
  have hgl9 := gthE_len (b := b) (ves := vwE M i) (ges := (lookE (TIq M.2.2.2.2.2.2) (vwE M i) (M.2.2.2.1 i).1)) (sr := q.2.1) (lb := (M.2.2.2.1 i).1)
  have hgl8 : (gthE b (vwE M i) (lookE (TIq M.2.2.2.2.2.2) (vwE M i) (M.2.2.2.1 i).1) q.2.1 (M.2.2.2.1 i).1).length ≤ 600 := by cases b with
    | true => exact Nat.le_trans hgl9 hlen
    | false => exact Nat.le_trans hgl9 (Nat.le_trans hll hlen)
  have hnpk : (plJ (onE (wif0 W) (wif1 W) (wos σ W)) 0 (gthE b (vwE M i) (lookE (TIq M.2.2.2.2.2.2) (vwE M i) (M.2.2.2.1 i).1) q.2.1 (M.2.2.2.1 i).1)).length ≤ 3400 := Nat.le_trans pl0_len (by omega)
  obtain ⟨tq, htq⟩ : ∃ tq, tq = q0N none (bI (decide ((0 : Nat) = 14))) kt w (wif0 W) (wif1 W) (wits W) col (wkd W) (wfr W) (wos σ W) (gthE b (vwE M i) (lookE (TIq M.2.2.2.2.2.2) (vwE M i) (M.2.2.2.1 i).1) q.2.1 (M.2.2.2.1 i).1) := ⟨_, rfl⟩
  have hkw450 : (kt : Nat) * w ≤ 450 := Nat.le_trans (Nat.mul_le_mul hk150 hw3') (by decide)
  have hans : ∀ (h1 : List XC) (q0 q1 : Value) (pa ln : Nat) (pn kp0 off0 so0 dn0 lc0 wd0 : Int32) (ps lbs las : List Int32), FrX (fun x => x = A 10 ∨ x = A 6) g h1 → HR h1 ow k A M 0 np nl → h1[A 6]? = some (.inr (11, [.ref (A 10), .int (M.2.2.2.1 i).1])) → hSh h1 (A 10) (lookE (TIq M.2.2.2.2.2.2) (vwE M i) (M.2.2.2.1 i).1) → h1[A 8]? = some (.inr (7, [q0, q1, .ref (A 17), .ref (A 18), .ref pa, .int pn, .ref (A 19), .int kp0, .int off0, .int so0, .int dn0, .ref ln, .int lc0, .int wd0])) → h1[pa]? = some (.inl (18, ps.map Value.int)) → ps.length = np → h1[A 19]? = some (.inl (19, las.map Value.int)) → las.length = 120 → h1[ln]? = some (.inl (20, lbs.map Value.int)) → lbs.length = nl → Me S 8 139 [.ref (A 8), .ref (A 60), .ref (A 75), .ref (A (vwO M i)), .ref (A 6)] h1 (fun v hp' c s => v = some (.int (anE (Int32.ofNat tq.2) (Int32.ofNat kt))) ∧ AnR h1 hp' (A 8) (A 60) (A 75) (A 17) (A 18) pa (A 19) ln (A 73) kt w 120 120 np nl (plJ (onE (wif0 W) (wif1 W) (wos σ W)) 0 (gthE b (vwE M i) (lookE (TIq M.2.2.2.2.2.2) (vwE M i) (M.2.2.2.1 i).1) q.2.1 (M.2.2.2.1 i).1)).length ((vwE M i).length + (lookE (TIq M.2.2.2.2.2.2) (vwE M i) (M.2.2.2.1 i).1).length) tq c s) := by
    intro h1 q0 q1 pa ln pn kp0 off0 so0 dn0 lc0 wd0 ps lbs las f1 hR1 g6 g10 g8' gpa gpn gli glal gln gll
    have H1 : WH A ρ σ ω W h1 := H.fr f1 (fun n hn e => by rcases e with e | e <;> (have := hne _ _ (by omega) (by decide) e; omega)) n3
    obtain ⟨sf, mf, ces, ws, es, gs, hS9, hm4, s3, m3, c3, c2⟩ := one_s H1 n1 h18
    obtain ⟨hS, hst, hF, ⟨vs, hsa, hvN⟩, hmf, hmc⟩ := hS9
    have H2 : ∀ h, FrX (fun x => x = A 8) h1 h → WH A ρ σ ω W h := fun h f => H1.fr f (fun n hn e => by have := hne _ _ (by omega) (by decide) e; omega) n3
    obtain ⟨hO, how1, h0, hh1, h3, hD, hFF, hE, hT, ⟨lv9, hG⟩, hC, hL9, hQ, hW9, hSS, hTq9, htd, hcap⟩ := id hR1
    obtain ⟨rf, hr, -, -⟩ := wO_at H1 (by decide) n7
    obtain ⟨e17, he17⟩ := hL9 17 (by decide)
    obtain ⟨as0, hL1, -⟩ := he17
    obtain ⟨e18, he18⟩ := hL9 18 (by decide)
    obtain ⟨bs0, hL2, -⟩ := he18
    obtain ⟨hv, ss, hVL, hVe⟩ := hR1.view hi
    obtain ⟨gs9, hGl, hGe⟩ := g10
    obtain ⟨ca, ka, ra, ga, chk, dv, ht, -⟩ := (hTq9 q hq).1
    obtain ⟨zq0, zq1, zpa, zln, zpn, zkp, zoff, zso, zdn, zlc, zwd, zps, zlb, zla, y1, y2, y3, y4, y5, y6, y7, y8, y9, y10, y11⟩ := hQ
    have hvw := vwL_c (M := M) (i := i) hi
    have aw9 : ∀ h, FrX (fun x => x = A 8) h1 h → Pu S 1 106 [.ref (A 75)] h (.int (Int32.ofNat w)) := fun h f => by
      have H3 := H2 h f
      obtain ⟨sf3, mf3, ces3, ws3, es3, gs3, k9, k4, k3, km3, kc3, kc2⟩ := one_s H3 n1 h18
      have b3 : sf3[14]? = some (.int (Int32.ofNat (wits W))) := by
        obtain ⟨sf8, kes8, fes8, z1, z2, z3, z4, z5, z6, z7⟩ := k9.1
        cases z1.symm.trans k9.2.1
        exact z6
      have := m_awI (S := S) k9.2.2.2.2.1 (by rw [km3 0 (by decide), wveq_s n6]; show some (Value.ref (ρ 0)) = _; rw [H3.2.1 0 (by decide)]) k9.2.1 (by rw [k3 4 (by decide), wveq_s i1]; rfl) b3 (by decide)
      rw [i2] at this
      exact this
    have hkd9 : ∀ k, k < wits W → wkd W k ≤ 50 ∧ wfr W k ≤ itTo (wits W) (wif0 W) (wos σ W).length k false (wfr W) ∧ itTo (wits W) (wif0 W) (wos σ W).length k false (wfr W) ≤ (wos σ W).length ∧ resOk (segK (wos σ W) (wits W) (wif0 W) (wfr W) k) = true := fun k hk => by
      have e := List.all_eq_true.mp i4 k (List.mem_range.mpr (by omega))
      simp only [Bool.and_eq_true] at e
      obtain ⟨e1, e2, e3, e4⟩ := e
      unfold segK
      rw [wos_len]
      exact ⟨Nat.le_of_ble_eq_true e1, Nat.le_of_ble_eq_true e2, Nat.le_of_ble_eq_true e3, wrs_ok e4⟩
    have := m_ans0gN (S := S) (hq := g8') (hst := hst) (hm := hmf) (hli := gli) (hla := glal) (hwL := (by omega)) (hL := (by decide)) (hr := hr) (hs0 := (by rw [s3 0 (by decide), wveq_s n5]; show some (Value.ref (ρ 1)) = _; rw [H1.2.1 1 (by decide)])) (oa := Int32.ofNat 4294967295) (so := none) (kw := 0) (hs9 := (by rw [s3 9 (by decide), wveq_s o1]; rfl)) (hord := (Or.inl ⟨by decide, rfl⟩)) (hkw := (fun h f => m_rkindN (by decide))) (hk51 := (by decide)) (hso9 := (fun k e => by cases e)) (tp := Int32.ofNat o2) (top := Int32.ofNat kt) (kp := kt) (hs10 := (by rw [s3 10 (by decide), wveq_s t1]; rfl)) (htop := (Or.inr ⟨i_neg t6, rfl, hk150, fun h f => by have := (H2 h f).rval (S := S) (d := 0) t3; rw [hkt] at this; exact this⟩)) (haw := aw9) (hm4 := hm4) (ht := ht) (b := b) (hs3 := (by rw [s3 3 (by decide), wveq_s n8]; cases b <;> rfl)) (hs4 := (by rw [s3 4 (by decide), wveq_s i1]; rfl)) (hjn := (by rw [s3 6 (by decide), wveq_s j1]; rfl)) (hS := hS) (hF := hF) (hsa := hsa) (hvN := hvN) (hmc := hmc) (hv := hv) (hg := g6) (hL1 := hL1) (hL2 := hL2) (hV := hVL) (hVe := hVe) (hGl := hGl) (hGe := hGe) (hl12 := (fun e => by have := hne _ _ (by omega) (by omega) e; omega)) (hl1v := (fun e => by have := hne _ _ (by omega) (by omega) e; omega)) (hl1g := (fun e => by have := hne _ _ (by omega) (by omega) e; omega)) (hl2v := (fun e => by have := hne _ _ (by omega) (by omega) e; omega)) (hl2g := (fun e => by have := hne _ _ (by omega) (by omega) e; omega)) (hO := hO) (hpa := gpa) (hpl := (by omega)) (hln := gln) (hlb := (by omega)) (hkw9 := hkw450) (hN := (by rw [wos_len]; omega)) (hN2 := (by decide)) (hnm := (wnmb_s n2)) (hnn := (by omega)) (hif := (by rw [wos_len]; exact Nat.le_of_ble_eq_true n9)) (hsi := (fun hlt => by rcases (Bool.or_eq_true _ _).mp n10 with e | e; exact absurd (Nat.le_of_ble_eq_true e) (by omega); exact wrs_ok e)) (hneg := (by decide)) (hm5 := (by rw [m3 5 (by decide), wveq_s j3]; rfl)) (hbg := (by omega)) (haa := (by decide)) (hwi := i2.symm) (hkd := (fun k hk => by have := (hkd9 k hk).1; omega)) (hvb := (by show wkn (wfl W 0 2) = 5; rw [wveq_s n4]; rfl)) (hseg := (fun k hk => (hkd9 k hk).2)) (hm6 := (by rw [m3 6 (by decide), wveq_s r1]; rfl)) (hs15 := (by rw [s3 15 (by decide), wveq_s r2]; rfl)) (hm9 := (by rw [m3 9 (by decide), wveq_s r3]; show some (Value.ref (ρ 16)) = _; rw [H1.2.1 16 (by decide)])) (col := col) (hcv := (by rw [c3 0 (by decide), wveq_s r4]; rfl)) (hcl := (by rw [c2]; decide)) (hcol := (by omega))
    rw [gpn, gll] at this
    rw [htq]
    exact this
  by_cases ha : anE (Int32.ofNat tq.2) (Int32.ofNat kt) = 1
  · have e9 : getM M i w (Int32.ofNat kt) (q0N none (bI (decide ((0 : Nat) = 14))) kt w (wif0 W) (wif1 W) (wits W) col (wkd W) (wfr W) (wos σ W) (gthE b (vwE M i) (lookE (TIq M.2.2.2.2.2.2) (vwE M i) (M.2.2.2.1 i).1) q.2.1 (M.2.2.2.1 i).1)) = (Int32.ofNat tq.1.length, 0, mS M i (sAns (M.2.2.2.1 i) tq.1.length w tq.1.flatten)) := by rw [← htq]; exact if_pos ha
    rw [e9]
    exact run_g (vb := 5) (M2 := mS M i (sAns (M.2.2.2.1 i) tq.1.length w tq.1.flatten)) h hi (by rw [mS_at]; exact hln) hl64 hS0.2.1 h2v rfl (h_ask1 (kp := kt) (w9 := w) (npk := (plJ (onE (wif0 W) (wif1 W) (wos σ W)) 0 (gthE b (vwE M i) (lookE (TIq M.2.2.2.2.2.2) (vwE M i) (M.2.2.2.1 i).1) q.2.1 (M.2.2.2.1 i).1)).length) (t := tq) (top := (Int32.ofNat kt)) h hi hsr hEt (by omega) (by omega) hk150 hkw450 (by omega) hnpk ha hans) (by decide) (fun e hp' c s h9 => QR.k0 rfl h9 (by decide) (by decide)) (fun e => absurd rfl e)
  · have ha0 : anE (Int32.ofNat tq.2) (Int32.ofNat kt) = 0 := anE_0 ha
    have e9 : getM M i w (Int32.ofNat kt) (q0N none (bI (decide ((0 : Nat) = 14))) kt w (wif0 W) (wif1 W) (wits W) col (wkd W) (wfr W) (wos σ W) (gthE b (vwE M i) (lookE (TIq M.2.2.2.2.2.2) (vwE M i) (M.2.2.2.1 i).1) q.2.1 (M.2.2.2.1 i).1)) = (0, 109, M) := by rw [← htq]; exact if_neg ha
    rw [e9]
    exact run_g (vb := 5) h hi hln hl64 hS0.2.1 h2v rfl (h_ask0 (kp := kt) (w9 := w) (npk := (plJ (onE (wif0 W) (wif1 W) (wos σ W)) 0 (gthE b (vwE M i) (lookE (TIq M.2.2.2.2.2.2) (vwE M i) (M.2.2.2.1 i).1) q.2.1 (M.2.2.2.1 i).1)).length) (t := tq) (top := (Int32.ofNat kt)) h hi hsr hEt (by omega) (by omega) hk150 hkw450 (by omega) hnpk ha0 hans) (by decide) (fun e => absurd e (by decide)) (fun e hp' c s h9 => QR.k1 (by decide) h9 (by decide) (by decide))
theorem v_JB {S : List Int32} {g : List XC} {ow : Nat → Nat} {k : Nat} {A : Nat → Nat} {M : HM} {np nl i ln : Nat} {ρ σ : Nat → Nat} {ω : Nat → Value} {W : List WC} {q : TQ} {b : Bool} {w : Nat} {j fc sc : Nat} {q2 : TQ} (h : HR g ow k A M 0 np nl) (hi : i < 8) (hln : (M.2.2.2.1 i).1 = Int32.ofNat ln) (hl64 : ln < 64) (hV : WfV M i) (H : WH A ρ σ ω W g) (hq : q ∈ M.2.2.2.2.2.2) (h18 : ρ 18 = q.1.1) (hbo : ordN W = true) (hbt : topN W = true) (hbg : getB b W = true) (hbi : itmB w W = true) (hbj : joJ j fc sc W = true) (hq2 : q2 ∈ M.2.2.2.2.2.2) (h22 : ρ 22 = q2.1.1) (hbr : grN W = true) (hsq : (gthE b (vwE M i) (lookE (TIq M.2.2.2.2.2.2) (vwE M i) (M.2.2.2.1 i).1) q.2.1 (M.2.2.2.1 i).1).length * (gthE b (vwE M i) (lookE (TIq M.2.2.2.2.2.2) (vwE M i) (M.2.2.2.1 i).1) q2.2.1 (M.2.2.2.1 i).1).length ≤ 3400) : At S 12 40 66 [(3, .int (Int32.ofNat 4294967295)), (2, .ref (A (20 + i))), (0, .ref (A 0))] [] g 0 0 (QR g ow k A np nl 2 906 (fun r => r = cntR (getM M i w 999999999 (qJB none (bI (decide ((0 : Nat) = 14))) 150 w (wif0 W) (wif1 W) (wits W) (wkd W) (wfr W) (wos σ W) (Int32.ofNat fc) (Int32.ofNat sc) (gthE b (vwE M i) (lookE (TIq M.2.2.2.2.2.2) (vwE M i) (M.2.2.2.1 i).1) q.2.1 (M.2.2.2.1 i).1) (gthE b (vwE M i) (lookE (TIq M.2.2.2.2.2.2) (vwE M i) (M.2.2.2.1 i).1) q2.2.1 (M.2.2.2.1 i).1))) i ln)) := by
  unfold getB at hbg
  simp only [Bool.and_eq_true] at hbg
  obtain ⟨n1, n2, n3, n4, n5, n6, n7, n8, n9, n10⟩ := hbg
  have bf := bf_120 (Bool.and_eq_true_iff.mp n1).1
  obtain ⟨hsr, hEt, hlen, hSt, hst9, hend, hch, hsame, hwid⟩ := hV
  have hll := look_len (TI := TIq M.2.2.2.2.2.2) (es := vwE M i) (lb := (M.2.2.2.1 i).1)
  obtain ⟨sf0, mf0, ces0, ws0, es0, gs0, hS0, hm40, s30, m30, c30, c20⟩ := one_s H n1 h18
  have h2v : sf0[2]? = some (.retAddr 5) := by rw [s30 2 (by decide), wveq_s n4]; rfl
  have how := h.2.1
  have hne : ∀ a b, a < 77 → b < 77 → A a = A b → a = b := fun a b ha hb e => by have u := (how a ha).1; rw [e, (how b hb).1] at u; omega
  unfold itmB at hbi
  simp only [Bool.and_eq_true] at hbi
  obtain ⟨i1, i2, i3, i4⟩ := hbi
  have i2 := Nat.eq_of_beq_eq_true i2
  have i3 := Nat.le_of_ble_eq_true i3
  have hw3' : w ≤ 3 := i3
  have o1 := hbo
  unfold ordN at o1
  have t1 := hbt
  unfold topN at t1
  unfold joJ at hbj
  simp only [Bool.and_eq_true] at hbj
  obtain ⟨j1, j2, j3, j4, j5⟩ := hbj
  have j2 := Nat.le_of_ble_eq_true j2
  have hgl9 := gthE_len (b := b) (ves := vwE M i) (ges := (lookE (TIq M.2.2.2.2.2.2) (vwE M i) (M.2.2.2.1 i).1)) (sr := q.2.1) (lb := (M.2.2.2.1 i).1)
  have hgl8 : (gthE b (vwE M i) (lookE (TIq M.2.2.2.2.2.2) (vwE M i) (M.2.2.2.1 i).1) q.2.1 (M.2.2.2.1 i).1).length ≤ 600 := by cases b with
    | true => exact Nat.le_trans hgl9 hlen
    | false => exact Nat.le_trans hgl9 (Nat.le_trans hll hlen)
  have hnpk : (plJ (prE (wif0 W) (wif1 W) (wos σ W) (Int32.ofNat fc) (Int32.ofNat sc) (gthE b (vwE M i) (lookE (TIq M.2.2.2.2.2.2) (vwE M i) (M.2.2.2.1 i).1) q2.2.1 (M.2.2.2.1 i).1)) 0 (gthE b (vwE M i) (lookE (TIq M.2.2.2.2.2.2) (vwE M i) (M.2.2.2.1 i).1) q.2.1 (M.2.2.2.1 i).1)).length ≤ 3400 := Nat.le_trans plP_len hsq
  obtain ⟨tq, htq⟩ : ∃ tq, tq = qJB none (bI (decide ((0 : Nat) = 14))) 150 w (wif0 W) (wif1 W) (wits W) (wkd W) (wfr W) (wos σ W) (Int32.ofNat fc) (Int32.ofNat sc) (gthE b (vwE M i) (lookE (TIq M.2.2.2.2.2.2) (vwE M i) (M.2.2.2.1 i).1) q.2.1 (M.2.2.2.1 i).1) (gthE b (vwE M i) (lookE (TIq M.2.2.2.2.2.2) (vwE M i) (M.2.2.2.1 i).1) q2.2.1 (M.2.2.2.1 i).1) := ⟨_, rfl⟩
  have hkw450 : (150 : Nat) * w ≤ 450 := by omega
  have hans : ∀ (h1 : List XC) (q0 q1 : Value) (pa ln : Nat) (pn kp0 off0 so0 dn0 lc0 wd0 : Int32) (ps lbs las : List Int32), FrX (fun x => x = A 10 ∨ x = A 6) g h1 → HR h1 ow k A M 0 np nl → h1[A 6]? = some (.inr (11, [.ref (A 10), .int (M.2.2.2.1 i).1])) → hSh h1 (A 10) (lookE (TIq M.2.2.2.2.2.2) (vwE M i) (M.2.2.2.1 i).1) → h1[A 8]? = some (.inr (7, [q0, q1, .ref (A 17), .ref (A 18), .ref pa, .int pn, .ref (A 19), .int kp0, .int off0, .int so0, .int dn0, .ref ln, .int lc0, .int wd0])) → h1[pa]? = some (.inl (18, ps.map Value.int)) → ps.length = np → h1[A 19]? = some (.inl (19, las.map Value.int)) → las.length = 120 → h1[ln]? = some (.inl (20, lbs.map Value.int)) → lbs.length = nl → Me S 8 139 [.ref (A 8), .ref (A 60), .ref (A 75), .ref (A (vwO M i)), .ref (A 6)] h1 (fun v hp' c s => v = some (.int (anE (Int32.ofNat tq.2) 999999999)) ∧ AnR h1 hp' (A 8) (A 60) (A 75) (A 17) (A 18) pa (A 19) ln (A 73) 150 w 120 120 np nl (plJ (prE (wif0 W) (wif1 W) (wos σ W) (Int32.ofNat fc) (Int32.ofNat sc) (gthE b (vwE M i) (lookE (TIq M.2.2.2.2.2.2) (vwE M i) (M.2.2.2.1 i).1) q2.2.1 (M.2.2.2.1 i).1)) 0 (gthE b (vwE M i) (lookE (TIq M.2.2.2.2.2.2) (vwE M i) (M.2.2.2.1 i).1) q.2.1 (M.2.2.2.1 i).1)).length ((vwE M i).length + (lookE (TIq M.2.2.2.2.2.2) (vwE M i) (M.2.2.2.1 i).1).length) tq c s) := by
    intro h1 q0 q1 pa ln pn kp0 off0 so0 dn0 lc0 wd0 ps lbs las f1 hR1 g6 g10 g8' gpa gpn gli glal gln gll
    have H1 : WH A ρ σ ω W h1 := H.fr f1 (fun n hn e => by rcases e with e | e <;> (have := hne _ _ (by omega) (by decide) e; omega)) n3
    obtain ⟨sf, mf, ces, ws, es, gs, hS9, hm4, s3, m3, c3, c2⟩ := one_s H1 n1 h18
    obtain ⟨hS, hst, hF, ⟨vs, hsa, hvN⟩, hmf, hmc⟩ := hS9
    have H2 : ∀ h, FrX (fun x => x = A 8) h1 h → WH A ρ σ ω W h := fun h f => H1.fr f (fun n hn e => by have := hne _ _ (by omega) (by decide) e; omega) n3
    obtain ⟨hO, how1, h0, hh1, h3, hD, hFF, hE, hT, ⟨lv9, hG⟩, hC, hL9, hQ, hW9, hSS, hTq9, htd, hcap⟩ := id hR1
    obtain ⟨rf, hr, -, -⟩ := wO_at H1 (by decide) n7
    obtain ⟨e17, he17⟩ := hL9 17 (by decide)
    obtain ⟨as0, hL1, -⟩ := he17
    obtain ⟨e18, he18⟩ := hL9 18 (by decide)
    obtain ⟨bs0, hL2, -⟩ := he18
    obtain ⟨hv, ss, hVL, hVe⟩ := hR1.view hi
    obtain ⟨gs9, hGl, hGe⟩ := g10
    obtain ⟨ca, ka, ra, ga, chk, dv, ht, -⟩ := (hTq9 q hq).1
    obtain ⟨ca2, ka2, ra2, ga2, chk2, dv2, ht2, -⟩ := (hTq9 q2 hq2).1
    obtain ⟨zq0, zq1, zpa, zln, zpn, zkp, zoff, zso, zdn, zlc, zwd, zps, zlb, zla, y1, y2, y3, y4, y5, y6, y7, y8, y9, y10, y11⟩ := hQ
    have hvw := vwL_c (M := M) (i := i) hi
    have aw9 : ∀ h, FrX (fun x => x = A 8) h1 h → Pu S 1 106 [.ref (A 75)] h (.int (Int32.ofNat w)) := fun h f => by
      have H3 := H2 h f
      obtain ⟨sf3, mf3, ces3, ws3, es3, gs3, k9, k4, k3, km3, kc3, kc2⟩ := one_s H3 n1 h18
      have b3 : sf3[14]? = some (.int (Int32.ofNat (wits W))) := by
        obtain ⟨sf8, kes8, fes8, z1, z2, z3, z4, z5, z6, z7⟩ := k9.1
        cases z1.symm.trans k9.2.1
        exact z6
      have := m_awI (S := S) k9.2.2.2.2.1 (by rw [km3 0 (by decide), wveq_s n6]; show some (Value.ref (ρ 0)) = _; rw [H3.2.1 0 (by decide)]) k9.2.1 (by rw [k3 4 (by decide), wveq_s i1]; rfl) b3 (by decide)
      rw [i2] at this
      exact this
    have hkd9 : ∀ k, k < wits W → wkd W k ≤ 50 ∧ wfr W k ≤ itTo (wits W) (wif0 W) (wos σ W).length k false (wfr W) ∧ itTo (wits W) (wif0 W) (wos σ W).length k false (wfr W) ≤ (wos σ W).length ∧ resOk (segK (wos σ W) (wits W) (wif0 W) (wfr W) k) = true := fun k hk => by
      have e := List.all_eq_true.mp i4 k (List.mem_range.mpr (by omega))
      simp only [Bool.and_eq_true] at e
      obtain ⟨e1, e2, e3, e4⟩ := e
      unfold segK
      rw [wos_len]
      exact ⟨Nat.le_of_ble_eq_true e1, Nat.le_of_ble_eq_true e2, Nat.le_of_ble_eq_true e3, wrs_ok e4⟩
    have := m_ansJuB (S := S) (hq := g8') (hst := hst) (hm := hmf) (hli := gli) (hla := glal) (hwL := (by omega)) (hL := (by decide)) (hr := hr) (hs0 := (by rw [s3 0 (by decide), wveq_s n5]; show some (Value.ref (ρ 1)) = _; rw [H1.2.1 1 (by decide)])) (oa := Int32.ofNat 4294967295) (so := none) (kw := 0) (hs9 := (by rw [s3 9 (by decide), wveq_s o1]; rfl)) (hord := (Or.inl ⟨by decide, rfl⟩)) (hkw := (fun h f => m_rkindN (by decide))) (hk51 := (by decide)) (hso9 := (fun k e => by cases e)) (tp := Int32.ofNat 4294967295) (top := 999999999) (kp := 150) (hs10 := (by rw [s3 10 (by decide), wveq_s t1]; rfl)) (htop := (Or.inl ⟨by decide, rfl, rfl⟩)) (haw := aw9) (hm4 := hm4) (ht := ht) (b := b) (hs3 := (by rw [s3 3 (by decide), wveq_s n8]; cases b <;> rfl)) (hs4 := (by rw [s3 4 (by decide), wveq_s i1]; rfl)) (hjn := (by rw [s3 6 (by decide), wveq_s j1]; rfl)) (hS := hS) (hF := hF) (hsa := hsa) (hvN := hvN) (hmc := hmc) (hv := hv) (hg := g6) (hL1 := hL1) (hL2 := hL2) (hV := hVL) (hVe := hVe) (hGl := hGl) (hGe := hGe) (hl12 := (fun e => by have := hne _ _ (by omega) (by omega) e; omega)) (hl1v := (fun e => by have := hne _ _ (by omega) (by omega) e; omega)) (hl1g := (fun e => by have := hne _ _ (by omega) (by omega) e; omega)) (hl2v := (fun e => by have := hne _ _ (by omega) (by omega) e; omega)) (hl2g := (fun e => by have := hne _ _ (by omega) (by omega) e; omega)) (hO := hO) (hpa := gpa) (hpl := (by omega)) (hln := gln) (hlb := (by omega)) (hkw9 := hkw450) (hN := (by rw [wos_len]; omega)) (hN2 := (by decide)) (hnm := (wnmb_s n2)) (hnn := (by omega)) (hif := (by rw [wos_len]; exact Nat.le_of_ble_eq_true n9)) (hsi := (fun hlt => by rcases (Bool.or_eq_true _ _).mp n10 with e | e; exact absurd (Nat.le_of_ble_eq_true e) (by omega); exact wrs_ok e)) (hnn9 := (i_neg j2)) (hm5 := (by rw [m3 5 (by decide), wveq_s j3]; show some (Value.ref (ρ 22)) = _; rw [h22])) (ht2 := ht2) (fc := Int32.ofNat fc) (sc := Int32.ofNat sc) (hfc := (by rw [m3 7 (by decide), wveq_s j4]; rfl)) (hsc := (by rw [m3 8 (by decide), wveq_s j5]; rfl)) (hbg := (by omega)) (haa := (by decide)) (hwi := i2.symm) (hkd := (fun k hk => by have := (hkd9 k hk).1; omega)) (hvb := (by show wkn (wfl W 0 2) = 5; rw [wveq_s n4]; rfl)) (hseg := (fun k hk => (hkd9 k hk).2)) (hm6 := (by rw [m3 6 (by decide), wveq_s hbr]; rfl))
    rw [gpn, gll] at this
    rw [htq]
    exact this
  by_cases ha : anE (Int32.ofNat tq.2) 999999999 = 1
  · have e9 : getM M i w 999999999 (qJB none (bI (decide ((0 : Nat) = 14))) 150 w (wif0 W) (wif1 W) (wits W) (wkd W) (wfr W) (wos σ W) (Int32.ofNat fc) (Int32.ofNat sc) (gthE b (vwE M i) (lookE (TIq M.2.2.2.2.2.2) (vwE M i) (M.2.2.2.1 i).1) q.2.1 (M.2.2.2.1 i).1) (gthE b (vwE M i) (lookE (TIq M.2.2.2.2.2.2) (vwE M i) (M.2.2.2.1 i).1) q2.2.1 (M.2.2.2.1 i).1)) = (Int32.ofNat tq.1.length, 0, mS M i (sAns (M.2.2.2.1 i) tq.1.length w tq.1.flatten)) := by rw [← htq]; exact if_pos ha
    rw [e9]
    exact run_g (vb := 5) (M2 := mS M i (sAns (M.2.2.2.1 i) tq.1.length w tq.1.flatten)) h hi (by rw [mS_at]; exact hln) hl64 hS0.2.1 h2v rfl (h_ask1 (kp := 150) (w9 := w) (npk := (plJ (prE (wif0 W) (wif1 W) (wos σ W) (Int32.ofNat fc) (Int32.ofNat sc) (gthE b (vwE M i) (lookE (TIq M.2.2.2.2.2.2) (vwE M i) (M.2.2.2.1 i).1) q2.2.1 (M.2.2.2.1 i).1)) 0 (gthE b (vwE M i) (lookE (TIq M.2.2.2.2.2.2) (vwE M i) (M.2.2.2.1 i).1) q.2.1 (M.2.2.2.1 i).1)).length) (t := tq) (top := 999999999) h hi hsr hEt (by omega) (by omega) (by decide) hkw450 (by omega) hnpk ha hans) (by decide) (fun e hp' c s h9 => QR.k0 rfl h9 (by decide) (by decide)) (fun e => absurd rfl e)
  · have ha0 : anE (Int32.ofNat tq.2) 999999999 = 0 := anE_0 ha
    have e9 : getM M i w 999999999 (qJB none (bI (decide ((0 : Nat) = 14))) 150 w (wif0 W) (wif1 W) (wits W) (wkd W) (wfr W) (wos σ W) (Int32.ofNat fc) (Int32.ofNat sc) (gthE b (vwE M i) (lookE (TIq M.2.2.2.2.2.2) (vwE M i) (M.2.2.2.1 i).1) q.2.1 (M.2.2.2.1 i).1) (gthE b (vwE M i) (lookE (TIq M.2.2.2.2.2.2) (vwE M i) (M.2.2.2.1 i).1) q2.2.1 (M.2.2.2.1 i).1)) = (0, 109, M) := by rw [← htq]; exact if_neg ha
    rw [e9]
    exact run_g (vb := 5) h hi hln hl64 hS0.2.1 h2v rfl (h_ask0 (kp := 150) (w9 := w) (npk := (plJ (prE (wif0 W) (wif1 W) (wos σ W) (Int32.ofNat fc) (Int32.ofNat sc) (gthE b (vwE M i) (lookE (TIq M.2.2.2.2.2.2) (vwE M i) (M.2.2.2.1 i).1) q2.2.1 (M.2.2.2.1 i).1)) 0 (gthE b (vwE M i) (lookE (TIq M.2.2.2.2.2.2) (vwE M i) (M.2.2.2.1 i).1) q.2.1 (M.2.2.2.1 i).1)).length) (t := tq) (top := 999999999) h hi hsr hEt (by omega) (by omega) (by decide) hkw450 (by omega) hnpk ha0 hans) (by decide) (fun e => absurd e (by decide)) (fun e hp' c s h9 => QR.k1 (by decide) h9 (by decide) (by decide))
theorem v_JN {S : List Int32} {g : List XC} {ow : Nat → Nat} {k : Nat} {A : Nat → Nat} {M : HM} {np nl i ln : Nat} {ρ σ : Nat → Nat} {ω : Nat → Value} {W : List WC} {q : TQ} {b : Bool} {w : Nat} {j fc sc : Nat} {q2 : TQ} {col : Nat} (h : HR g ow k A M 0 np nl) (hi : i < 8) (hln : (M.2.2.2.1 i).1 = Int32.ofNat ln) (hl64 : ln < 64) (hV : WfV M i) (H : WH A ρ σ ω W g) (hq : q ∈ M.2.2.2.2.2.2) (h18 : ρ 18 = q.1.1) (hbo : ordN W = true) (hbt : topN W = true) (hbg : getB b W = true) (hbi : itmB w W = true) (hbj : joJ j fc sc W = true) (hq2 : q2 ∈ M.2.2.2.2.2.2) (h22 : ρ 22 = q2.1.1) (hbr : gr1 col W = true) (hsq : (gthE b (vwE M i) (lookE (TIq M.2.2.2.2.2.2) (vwE M i) (M.2.2.2.1 i).1) q.2.1 (M.2.2.2.1 i).1).length * (gthE b (vwE M i) (lookE (TIq M.2.2.2.2.2.2) (vwE M i) (M.2.2.2.1 i).1) q2.2.1 (M.2.2.2.1 i).1).length ≤ 3400) : At S 12 40 66 [(3, .int (Int32.ofNat 4294967295)), (2, .ref (A (20 + i))), (0, .ref (A 0))] [] g 0 0 (QR g ow k A np nl 2 906 (fun r => r = cntR (getM M i w 999999999 (qJN none (bI (decide ((0 : Nat) = 14))) 150 w (wif0 W) (wif1 W) (wits W) col (wkd W) (wfr W) (wos σ W) (Int32.ofNat fc) (Int32.ofNat sc) (gthE b (vwE M i) (lookE (TIq M.2.2.2.2.2.2) (vwE M i) (M.2.2.2.1 i).1) q.2.1 (M.2.2.2.1 i).1) (gthE b (vwE M i) (lookE (TIq M.2.2.2.2.2.2) (vwE M i) (M.2.2.2.1 i).1) q2.2.1 (M.2.2.2.1 i).1))) i ln)) := by
  unfold getB at hbg
  simp only [Bool.and_eq_true] at hbg
  obtain ⟨n1, n2, n3, n4, n5, n6, n7, n8, n9, n10⟩ := hbg
  have bf := bf_120 (Bool.and_eq_true_iff.mp n1).1
  obtain ⟨hsr, hEt, hlen, hSt, hst9, hend, hch, hsame, hwid⟩ := hV
  have hll := look_len (TI := TIq M.2.2.2.2.2.2) (es := vwE M i) (lb := (M.2.2.2.1 i).1)
  obtain ⟨sf0, mf0, ces0, ws0, es0, gs0, hS0, hm40, s30, m30, c30, c20⟩ := one_s H n1 h18
  have h2v : sf0[2]? = some (.retAddr 5) := by rw [s30 2 (by decide), wveq_s n4]; rfl
  have how := h.2.1
  have hne : ∀ a b, a < 77 → b < 77 → A a = A b → a = b := fun a b ha hb e => by have u := (how a ha).1; rw [e, (how b hb).1] at u; omega
  unfold itmB at hbi
  simp only [Bool.and_eq_true] at hbi
  obtain ⟨i1, i2, i3, i4⟩ := hbi
  have i2 := Nat.eq_of_beq_eq_true i2
  have i3 := Nat.le_of_ble_eq_true i3
  have hw3' : w ≤ 3 := i3
  have o1 := hbo
  unfold ordN at o1
  have t1 := hbt
  unfold topN at t1
  unfold joJ at hbj
  simp only [Bool.and_eq_true] at hbj
  obtain ⟨j1, j2, j3, j4, j5⟩ := hbj
  have j2 := Nat.le_of_ble_eq_true j2
  unfold gr1 at hbr
  simp only [Bool.and_eq_true] at hbr
  obtain ⟨r1, r2, r3, r4, r5⟩ := hbr
  have r5 := Nat.le_of_ble_eq_true r5
  have hgl9 := gthE_len (b := b) (ves := vwE M i) (ges := (lookE (TIq M.2.2.2.2.2.2) (vwE M i) (M.2.2.2.1 i).1)) (sr := q.2.1) (lb := (M.2.2.2.1 i).1)
  have hgl8 : (gthE b (vwE M i) (lookE (TIq M.2.2.2.2.2.2) (vwE M i) (M.2.2.2.1 i).1) q.2.1 (M.2.2.2.1 i).1).length ≤ 600 := by cases b with
    | true => exact Nat.le_trans hgl9 hlen
    | false => exact Nat.le_trans hgl9 (Nat.le_trans hll hlen)
  have hnpk : (plJ (prE (wif0 W) (wif1 W) (wos σ W) (Int32.ofNat fc) (Int32.ofNat sc) (gthE b (vwE M i) (lookE (TIq M.2.2.2.2.2.2) (vwE M i) (M.2.2.2.1 i).1) q2.2.1 (M.2.2.2.1 i).1)) 0 (gthE b (vwE M i) (lookE (TIq M.2.2.2.2.2.2) (vwE M i) (M.2.2.2.1 i).1) q.2.1 (M.2.2.2.1 i).1)).length ≤ 3400 := Nat.le_trans plP_len hsq
  obtain ⟨tq, htq⟩ : ∃ tq, tq = qJN none (bI (decide ((0 : Nat) = 14))) 150 w (wif0 W) (wif1 W) (wits W) col (wkd W) (wfr W) (wos σ W) (Int32.ofNat fc) (Int32.ofNat sc) (gthE b (vwE M i) (lookE (TIq M.2.2.2.2.2.2) (vwE M i) (M.2.2.2.1 i).1) q.2.1 (M.2.2.2.1 i).1) (gthE b (vwE M i) (lookE (TIq M.2.2.2.2.2.2) (vwE M i) (M.2.2.2.1 i).1) q2.2.1 (M.2.2.2.1 i).1) := ⟨_, rfl⟩
  have hkw450 : (150 : Nat) * w ≤ 450 := by omega
  have hans : ∀ (h1 : List XC) (q0 q1 : Value) (pa ln : Nat) (pn kp0 off0 so0 dn0 lc0 wd0 : Int32) (ps lbs las : List Int32), FrX (fun x => x = A 10 ∨ x = A 6) g h1 → HR h1 ow k A M 0 np nl → h1[A 6]? = some (.inr (11, [.ref (A 10), .int (M.2.2.2.1 i).1])) → hSh h1 (A 10) (lookE (TIq M.2.2.2.2.2.2) (vwE M i) (M.2.2.2.1 i).1) → h1[A 8]? = some (.inr (7, [q0, q1, .ref (A 17), .ref (A 18), .ref pa, .int pn, .ref (A 19), .int kp0, .int off0, .int so0, .int dn0, .ref ln, .int lc0, .int wd0])) → h1[pa]? = some (.inl (18, ps.map Value.int)) → ps.length = np → h1[A 19]? = some (.inl (19, las.map Value.int)) → las.length = 120 → h1[ln]? = some (.inl (20, lbs.map Value.int)) → lbs.length = nl → Me S 8 139 [.ref (A 8), .ref (A 60), .ref (A 75), .ref (A (vwO M i)), .ref (A 6)] h1 (fun v hp' c s => v = some (.int (anE (Int32.ofNat tq.2) 999999999)) ∧ AnR h1 hp' (A 8) (A 60) (A 75) (A 17) (A 18) pa (A 19) ln (A 73) 150 w 120 120 np nl (plJ (prE (wif0 W) (wif1 W) (wos σ W) (Int32.ofNat fc) (Int32.ofNat sc) (gthE b (vwE M i) (lookE (TIq M.2.2.2.2.2.2) (vwE M i) (M.2.2.2.1 i).1) q2.2.1 (M.2.2.2.1 i).1)) 0 (gthE b (vwE M i) (lookE (TIq M.2.2.2.2.2.2) (vwE M i) (M.2.2.2.1 i).1) q.2.1 (M.2.2.2.1 i).1)).length ((vwE M i).length + (lookE (TIq M.2.2.2.2.2.2) (vwE M i) (M.2.2.2.1 i).1).length) tq c s) := by
    intro h1 q0 q1 pa ln pn kp0 off0 so0 dn0 lc0 wd0 ps lbs las f1 hR1 g6 g10 g8' gpa gpn gli glal gln gll
    have H1 : WH A ρ σ ω W h1 := H.fr f1 (fun n hn e => by rcases e with e | e <;> (have := hne _ _ (by omega) (by decide) e; omega)) n3
    obtain ⟨sf, mf, ces, ws, es, gs, hS9, hm4, s3, m3, c3, c2⟩ := one_s H1 n1 h18
    obtain ⟨hS, hst, hF, ⟨vs, hsa, hvN⟩, hmf, hmc⟩ := hS9
    have H2 : ∀ h, FrX (fun x => x = A 8) h1 h → WH A ρ σ ω W h := fun h f => H1.fr f (fun n hn e => by have := hne _ _ (by omega) (by decide) e; omega) n3
    obtain ⟨hO, how1, h0, hh1, h3, hD, hFF, hE, hT, ⟨lv9, hG⟩, hC, hL9, hQ, hW9, hSS, hTq9, htd, hcap⟩ := id hR1
    obtain ⟨rf, hr, -, -⟩ := wO_at H1 (by decide) n7
    obtain ⟨e17, he17⟩ := hL9 17 (by decide)
    obtain ⟨as0, hL1, -⟩ := he17
    obtain ⟨e18, he18⟩ := hL9 18 (by decide)
    obtain ⟨bs0, hL2, -⟩ := he18
    obtain ⟨hv, ss, hVL, hVe⟩ := hR1.view hi
    obtain ⟨gs9, hGl, hGe⟩ := g10
    obtain ⟨ca, ka, ra, ga, chk, dv, ht, -⟩ := (hTq9 q hq).1
    obtain ⟨ca2, ka2, ra2, ga2, chk2, dv2, ht2, -⟩ := (hTq9 q2 hq2).1
    obtain ⟨zq0, zq1, zpa, zln, zpn, zkp, zoff, zso, zdn, zlc, zwd, zps, zlb, zla, y1, y2, y3, y4, y5, y6, y7, y8, y9, y10, y11⟩ := hQ
    have hvw := vwL_c (M := M) (i := i) hi
    have aw9 : ∀ h, FrX (fun x => x = A 8) h1 h → Pu S 1 106 [.ref (A 75)] h (.int (Int32.ofNat w)) := fun h f => by
      have H3 := H2 h f
      obtain ⟨sf3, mf3, ces3, ws3, es3, gs3, k9, k4, k3, km3, kc3, kc2⟩ := one_s H3 n1 h18
      have b3 : sf3[14]? = some (.int (Int32.ofNat (wits W))) := by
        obtain ⟨sf8, kes8, fes8, z1, z2, z3, z4, z5, z6, z7⟩ := k9.1
        cases z1.symm.trans k9.2.1
        exact z6
      have := m_awI (S := S) k9.2.2.2.2.1 (by rw [km3 0 (by decide), wveq_s n6]; show some (Value.ref (ρ 0)) = _; rw [H3.2.1 0 (by decide)]) k9.2.1 (by rw [k3 4 (by decide), wveq_s i1]; rfl) b3 (by decide)
      rw [i2] at this
      exact this
    have hkd9 : ∀ k, k < wits W → wkd W k ≤ 50 ∧ wfr W k ≤ itTo (wits W) (wif0 W) (wos σ W).length k false (wfr W) ∧ itTo (wits W) (wif0 W) (wos σ W).length k false (wfr W) ≤ (wos σ W).length ∧ resOk (segK (wos σ W) (wits W) (wif0 W) (wfr W) k) = true := fun k hk => by
      have e := List.all_eq_true.mp i4 k (List.mem_range.mpr (by omega))
      simp only [Bool.and_eq_true] at e
      obtain ⟨e1, e2, e3, e4⟩ := e
      unfold segK
      rw [wos_len]
      exact ⟨Nat.le_of_ble_eq_true e1, Nat.le_of_ble_eq_true e2, Nat.le_of_ble_eq_true e3, wrs_ok e4⟩
    have := m_ansJgN (S := S) (hq := g8') (hst := hst) (hm := hmf) (hli := gli) (hla := glal) (hwL := (by omega)) (hL := (by decide)) (hr := hr) (hs0 := (by rw [s3 0 (by decide), wveq_s n5]; show some (Value.ref (ρ 1)) = _; rw [H1.2.1 1 (by decide)])) (oa := Int32.ofNat 4294967295) (so := none) (kw := 0) (hs9 := (by rw [s3 9 (by decide), wveq_s o1]; rfl)) (hord := (Or.inl ⟨by decide, rfl⟩)) (hkw := (fun h f => m_rkindN (by decide))) (hk51 := (by decide)) (hso9 := (fun k e => by cases e)) (tp := Int32.ofNat 4294967295) (top := 999999999) (kp := 150) (hs10 := (by rw [s3 10 (by decide), wveq_s t1]; rfl)) (htop := (Or.inl ⟨by decide, rfl, rfl⟩)) (haw := aw9) (hm4 := hm4) (ht := ht) (b := b) (hs3 := (by rw [s3 3 (by decide), wveq_s n8]; cases b <;> rfl)) (hs4 := (by rw [s3 4 (by decide), wveq_s i1]; rfl)) (hjn := (by rw [s3 6 (by decide), wveq_s j1]; rfl)) (hS := hS) (hF := hF) (hsa := hsa) (hvN := hvN) (hmc := hmc) (hv := hv) (hg := g6) (hL1 := hL1) (hL2 := hL2) (hV := hVL) (hVe := hVe) (hGl := hGl) (hGe := hGe) (hl12 := (fun e => by have := hne _ _ (by omega) (by omega) e; omega)) (hl1v := (fun e => by have := hne _ _ (by omega) (by omega) e; omega)) (hl1g := (fun e => by have := hne _ _ (by omega) (by omega) e; omega)) (hl2v := (fun e => by have := hne _ _ (by omega) (by omega) e; omega)) (hl2g := (fun e => by have := hne _ _ (by omega) (by omega) e; omega)) (hO := hO) (hpa := gpa) (hpl := (by omega)) (hln := gln) (hlb := (by omega)) (hkw9 := hkw450) (hN := (by rw [wos_len]; omega)) (hN2 := (by decide)) (hnm := (wnmb_s n2)) (hnn := (by omega)) (hif := (by rw [wos_len]; exact Nat.le_of_ble_eq_true n9)) (hsi := (fun hlt => by rcases (Bool.or_eq_true _ _).mp n10 with e | e; exact absurd (Nat.le_of_ble_eq_true e) (by omega); exact wrs_ok e)) (hnn9 := (i_neg j2)) (hm5 := (by rw [m3 5 (by decide), wveq_s j3]; show some (Value.ref (ρ 22)) = _; rw [h22])) (ht2 := ht2) (fc := Int32.ofNat fc) (sc := Int32.ofNat sc) (hfc := (by rw [m3 7 (by decide), wveq_s j4]; rfl)) (hsc := (by rw [m3 8 (by decide), wveq_s j5]; rfl)) (hbg := (by omega)) (haa := (by decide)) (hwi := i2.symm) (hkd := (fun k hk => by have := (hkd9 k hk).1; omega)) (hvb := (by show wkn (wfl W 0 2) = 5; rw [wveq_s n4]; rfl)) (hseg := (fun k hk => (hkd9 k hk).2)) (hm6 := (by rw [m3 6 (by decide), wveq_s r1]; rfl)) (hs15 := (by rw [s3 15 (by decide), wveq_s r2]; rfl)) (hm9 := (by rw [m3 9 (by decide), wveq_s r3]; show some (Value.ref (ρ 16)) = _; rw [H1.2.1 16 (by decide)])) (col := col) (hcv := (by rw [c3 0 (by decide), wveq_s r4]; rfl)) (hcl := (by rw [c2]; decide)) (hcol := (by omega))
    rw [gpn, gll] at this
    rw [htq]
    exact this
  by_cases ha : anE (Int32.ofNat tq.2) 999999999 = 1
  · have e9 : getM M i w 999999999 (qJN none (bI (decide ((0 : Nat) = 14))) 150 w (wif0 W) (wif1 W) (wits W) col (wkd W) (wfr W) (wos σ W) (Int32.ofNat fc) (Int32.ofNat sc) (gthE b (vwE M i) (lookE (TIq M.2.2.2.2.2.2) (vwE M i) (M.2.2.2.1 i).1) q.2.1 (M.2.2.2.1 i).1) (gthE b (vwE M i) (lookE (TIq M.2.2.2.2.2.2) (vwE M i) (M.2.2.2.1 i).1) q2.2.1 (M.2.2.2.1 i).1)) = (Int32.ofNat tq.1.length, 0, mS M i (sAns (M.2.2.2.1 i) tq.1.length w tq.1.flatten)) := by rw [← htq]; exact if_pos ha
    rw [e9]
    exact run_g (vb := 5) (M2 := mS M i (sAns (M.2.2.2.1 i) tq.1.length w tq.1.flatten)) h hi (by rw [mS_at]; exact hln) hl64 hS0.2.1 h2v rfl (h_ask1 (kp := 150) (w9 := w) (npk := (plJ (prE (wif0 W) (wif1 W) (wos σ W) (Int32.ofNat fc) (Int32.ofNat sc) (gthE b (vwE M i) (lookE (TIq M.2.2.2.2.2.2) (vwE M i) (M.2.2.2.1 i).1) q2.2.1 (M.2.2.2.1 i).1)) 0 (gthE b (vwE M i) (lookE (TIq M.2.2.2.2.2.2) (vwE M i) (M.2.2.2.1 i).1) q.2.1 (M.2.2.2.1 i).1)).length) (t := tq) (top := 999999999) h hi hsr hEt (by omega) (by omega) (by decide) hkw450 (by omega) hnpk ha hans) (by decide) (fun e hp' c s h9 => QR.k0 rfl h9 (by decide) (by decide)) (fun e => absurd rfl e)
  · have ha0 : anE (Int32.ofNat tq.2) 999999999 = 0 := anE_0 ha
    have e9 : getM M i w 999999999 (qJN none (bI (decide ((0 : Nat) = 14))) 150 w (wif0 W) (wif1 W) (wits W) col (wkd W) (wfr W) (wos σ W) (Int32.ofNat fc) (Int32.ofNat sc) (gthE b (vwE M i) (lookE (TIq M.2.2.2.2.2.2) (vwE M i) (M.2.2.2.1 i).1) q.2.1 (M.2.2.2.1 i).1) (gthE b (vwE M i) (lookE (TIq M.2.2.2.2.2.2) (vwE M i) (M.2.2.2.1 i).1) q2.2.1 (M.2.2.2.1 i).1)) = (0, 109, M) := by rw [← htq]; exact if_neg ha
    rw [e9]
    exact run_g (vb := 5) h hi hln hl64 hS0.2.1 h2v rfl (h_ask0 (kp := 150) (w9 := w) (npk := (plJ (prE (wif0 W) (wif1 W) (wos σ W) (Int32.ofNat fc) (Int32.ofNat sc) (gthE b (vwE M i) (lookE (TIq M.2.2.2.2.2.2) (vwE M i) (M.2.2.2.1 i).1) q2.2.1 (M.2.2.2.1 i).1)) 0 (gthE b (vwE M i) (lookE (TIq M.2.2.2.2.2.2) (vwE M i) (M.2.2.2.1 i).1) q.2.1 (M.2.2.2.1 i).1)).length) (t := tq) (top := 999999999) h hi hsr hEt (by omega) (by omega) (by decide) hkw450 (by omega) hnpk ha0 hans) (by decide) (fun e => absurd e (by decide)) (fun e hp' c s h9 => QR.k1 (by decide) h9 (by decide) (by decide))
