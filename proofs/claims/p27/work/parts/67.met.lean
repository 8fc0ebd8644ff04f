/-! tables; what is met (written by wip/p27/c67.py) -/
/-- a table: its name, label, columns, kinds (Words), references (table, serial) -/
abbrev Tb : Type := Int32 × Int32 × List Int32 × List Nat × List (Option (Nat × Int32))
def oref : Option (Nat × Int32) → Value
  | some r => .ref r.1
  | none => .null
def hTb (hp : List XC) (t : Nat) (sr : Int32) (T : Tb) : Prop := ∃ (ca ka ra ga : Nat) (chk dv : Value), hp[t]? = some (.inr (13, [.int sr, .int T.1, .int T.2.1, .ref ca, .ref ka, .ref ra, chk, .ref ga, dv])) ∧ hp[ca]? = some (.inl (23, T.2.2.1.map Value.int)) ∧ hp[ka]? = some (.inl (29, T.2.2.2.1.map Value.retAddr)) ∧ hp[ra]? = some (.inl (6, T.2.2.2.2.map oref)) ∧ T.2.2.2.1.length = T.2.2.1.length ∧ T.2.2.2.2.length = T.2.2.1.length ∧ T.2.2.1.length ≤ 100 ∧ (∀ k ∈ T.2.2.2.1, k < 51) ∧ ∀ (i : Nat) (r : Nat × Int32), T.2.2.2.2[i]? = some (some r) → ∃ fs, hp[r.1]? = some (.inr (13, .int r.2 :: fs))
theorem hTb.fr {P : Nat → Prop} {hp hp' : List XC} {t : Nat} {sr : Int32} {T : Tb} (h : hTb hp t sr T) (f : FrX P hp hp') : hTb hp' t sr T := by
  obtain ⟨ca, ka, ra, ga, chk, dv, h1, h2, h3, h4, h5, h6, h7, h70, h8⟩ := h
  obtain ⟨v, h9⟩ := f.2.2.2.2.1 _ _ h1
  refine ⟨ca, ka, ra, ga, chk, v, h9, f.2.2.1 _ _ h2 rfl (Or.inr rfl), f.2.2.1 _ _ h3 rfl (Or.inr rfl), f.2.2.1 _ _ h4 rfl (Or.inr rfl), h5, h6, h7, h70, fun i r hr => ?_⟩
  obtain ⟨fs, h10⟩ := h8 i r hr
  obtain ⟨w, h11⟩ := f.2.2.2.2.1 _ _ h10
  exact ⟨fs.set 7 w, h11⟩
theorem m_width {S : List Int32} {hp : List XC} {t : Nat} {sr : Int32} {T : Tb} (hT : hTb hp t sr T) : Pu S 0 102 [.ref t] hp (.int (Int32.ofNat T.2.2.1.length)) := by
  obtain ⟨ca, ka, ra, ga, chk, dv, ht, hca, hka, hra, hl1, hl2, hl3, hk51, hrf⟩ := hT
  refine At.go (q := xm102) rfl 1 (pc' := 1) (L' := [(0, .ref t)]) (st' := [.ref t]) rfl ?_
  refine At.gf rfl (by decide) ht rfl ?_
  refine At.ln rfl hca ?_
  exact At.rt rfl (xret_i rfl) (by rw [List.length_map])
theorem oref_r (o : Option (Nat × Int32)) : xisr (oref o) = true := by cases o <;> rfl
theorem m_refOf0 {S : List Int32} {hp : List XC} {t : Nat} {sr : Int32} {T : Tb} (hT : hTb hp t sr T) {i : Nat} (hr : T.2.2.2.2[i]? = some none) : Pu S 0 125 [.ref t, .int (Int32.ofNat i)] hp .null := by
  obtain ⟨ca, ka, ra, ga, chk, dv, ht, hca, hka, hra, hl1, hl2, hl3, hk51, hrf⟩ := hT
  have hi := (List.getElem?_eq_some_iff.mp hr).1
  refine At.go (q := xm125) rfl 1 (pc' := 1) (L' := [(0, .ref t), (1, .int (Int32.ofNat i))]) (st' := [.int (Int32.ofNat i)]) rfl ?_
  refine At.ic1 (tgt := 22) rfl rfl (fun h => absurd (h.symm.trans (decide_eq_false (iN_nn (by omega)))) (by decide)) (fun _ => ?_)
  refine At.go (q := xm125) rfl 2 (pc' := 6) (L' := [(0, .ref t), (1, .int (Int32.ofNat i))]) (st' := [.ref t, .int (Int32.ofNat i)]) rfl ?_
  refine At.gf rfl (by decide) ht rfl ?_
  refine At.ln rfl hra ?_
  refine At.ic2 (tgt := 22) rfl rfl (fun h => absurd (h.symm.trans (decide_eq_false (fun h => absurd ((iN_le (a := T.2.2.2.2.length) (b := i) (by omega) (by omega)).mp (by rw [List.length_map] at h; exact h)) (by omega)))) (by decide)) (fun _ => ?_)
  refine At.go (q := xm125) rfl 1 (pc' := 14) (L' := [(0, .ref t), (1, .int (Int32.ofNat i))]) (st' := [.ref t]) rfl ?_
  refine At.gf rfl (by decide) ht rfl ?_
  refine At.go (q := xm125) rfl 1 (pc' := 18) (L' := [(0, .ref t), (1, .int (Int32.ofNat i))]) (st' := [.int (Int32.ofNat i), .ref ra]) rfl ?_
  refine At.ql rfl hra (by decide) rfl (iN_nn (by omega)) (by rw [iN_tn (by omega), List.getElem?_map, hr]; rfl) rfl ?_
  refine At.go (q := xm125) rfl 1 (pc' := 23) (L' := [(0, .ref t), (1, .int (Int32.ofNat i))]) (st' := [.null]) rfl ?_
  exact At.rt rfl rfl rfl
theorem m_refOf {S : List Int32} {hp : List XC} {t : Nat} {sr : Int32} {T : Tb} (hT : hTb hp t sr T) {i : Nat} {r : Nat × Int32} (hr : T.2.2.2.2[i]? = some (some r)) : Pu S 0 125 [.ref t, .int (Int32.ofNat i)] hp (.ref r.1) := by
  obtain ⟨ca, ka, ra, ga, chk, dv, ht, hca, hka, hra, hl1, hl2, hl3, hk51, hrf⟩ := hT
  have hi := (List.getElem?_eq_some_iff.mp hr).1
  refine At.go (q := xm125) rfl 1 (pc' := 1) (L' := [(0, .ref t), (1, .int (Int32.ofNat i))]) (st' := [.int (Int32.ofNat i)]) rfl ?_
  refine At.ic1 (tgt := 22) rfl rfl (fun h => absurd (h.symm.trans (decide_eq_false (iN_nn (by omega)))) (by decide)) (fun _ => ?_)
  refine At.go (q := xm125) rfl 2 (pc' := 6) (L' := [(0, .ref t), (1, .int (Int32.ofNat i))]) (st' := [.ref t, .int (Int32.ofNat i)]) rfl ?_
  refine At.gf rfl (by decide) ht rfl ?_
  refine At.ln rfl hra ?_
  refine At.ic2 (tgt := 22) rfl rfl (fun h => absurd (h.symm.trans (decide_eq_false (fun h => absurd ((iN_le (a := T.2.2.2.2.length) (b := i) (by omega) (by omega)).mp (by rw [List.length_map] at h; exact h)) (by omega)))) (by decide)) (fun _ => ?_)
  refine At.go (q := xm125) rfl 1 (pc' := 14) (L' := [(0, .ref t), (1, .int (Int32.ofNat i))]) (st' := [.ref t]) rfl ?_
  refine At.gf rfl (by decide) ht rfl ?_
  refine At.go (q := xm125) rfl 1 (pc' := 18) (L' := [(0, .ref t), (1, .int (Int32.ofNat i))]) (st' := [.int (Int32.ofNat i), .ref ra]) rfl ?_
  refine At.ql rfl hra (by decide) rfl (iN_nn (by omega)) (by rw [iN_tn (by omega), List.getElem?_map, hr]; rfl) rfl ?_
  refine At.go (q := xm125) rfl 1 (pc' := 23) (L' := [(0, .ref t), (1, .int (Int32.ofNat i))]) (st' := [.ref r.1]) rfl ?_
  exact At.rt rfl rfl rfl
theorem m_sgget {S : List Int32} {hp : List XC} {g l : Nat} {lbv : Value} {as : List Nat} {i a : Nat} {gs : List Value} (hg0 : hp[g]? = some (.inr (11, [.ref l, lbv]))) (hL : hLs hp l as) (hv : as[i]? = some a) (ho : hp[a]? = some (.inr (4, gs))) : Pu S 3 129 [.ref g, .int (Int32.ofNat i)] hp (.ref a) := by
  obtain ⟨lf, hl0⟩ := hL.ob
  have hi := (List.getElem?_eq_some_iff.mp hv).1
  have hn := hL.len
  refine At.go (q := xm129) rfl 1 (pc' := 1) (L' := [(0, .ref g), (1, .int (Int32.ofNat i))]) (st' := [.int (Int32.ofNat i)]) rfl ?_
  refine At.ic1 (tgt := 29) rfl rfl (fun h => absurd (h.symm.trans (decide_eq_false (iN_nn (by omega)))) (by decide)) (fun _ => ?_)
  refine At.go (q := xm129) rfl 2 (pc' := 6) (L' := [(0, .ref g), (1, .int (Int32.ofNat i))]) (st' := [.ref g, .int (Int32.ofNat i)]) rfl ?_
  refine At.gf rfl (by decide) hg0 rfl ?_
  refine At.clp (as := [.ref l]) (rest := [.int (Int32.ofNat i)]) rfl (by decide) rfl (Nat.le_of_ble_eq_true rfl) (Nat.le_of_ble_eq_true rfl) (xrck_o (by decide) (by decide) hl0 (by decide)) (Nat.le_of_ble_eq_true rfl) (m_size hL) ?_
  refine At.ic2 (tgt := 29) rfl rfl (fun h => absurd (h.symm.trans (decide_eq_false (fun h => absurd ((iN_le (by omega) (by omega)).mp h) (by omega)))) (by decide)) (fun _ => ?_)
  refine At.go (q := xm129) rfl 1 (pc' := 16) (L' := [(0, .ref g), (1, .int (Int32.ofNat i))]) (st' := [.ref g]) rfl ?_
  refine At.gf rfl (by decide) hg0 rfl ?_
  refine At.go (q := xm129) rfl 1 (pc' := 20) (L' := [(0, .ref g), (1, .int (Int32.ofNat i))]) (st' := [.int (Int32.ofNat i), .ref l]) rfl ?_
  refine At.clp (as := [.ref l, .int (Int32.ofNat i)]) (rest := []) rfl (by decide) rfl (Nat.le_of_ble_eq_true rfl) (Nat.le_of_ble_eq_true rfl) (xrck_o (by decide) (by decide) hl0 (by decide)) (Nat.le_of_ble_eq_true rfl) (m_get hL hv) ?_
  refine At.ca rfl ho (by decide) ?_
  refine At.go (q := xm129) rfl 1 (pc' := 30) (L' := [(0, .ref g), (1, .int (Int32.ofNat i))]) (st' := [.ref a]) rfl ?_
  exact At.rt rfl rfl rfl
theorem m_sgget0 {S : List Int32} {hp : List XC} {g l : Nat} {lbv : Value} {as : List Nat} {i : Nat} (hg0 : hp[g]? = some (.inr (11, [.ref l, lbv]))) (hL : hLs hp l as) (hi : as.length ≤ i) (hi2 : i ≤ 1000000) : Pu S 3 129 [.ref g, .int (Int32.ofNat i)] hp .null := by
  obtain ⟨lf, hl0⟩ := hL.ob
  have hn := hL.len
  refine At.go (q := xm129) rfl 1 (pc' := 1) (L' := [(0, .ref g), (1, .int (Int32.ofNat i))]) (st' := [.int (Int32.ofNat i)]) rfl ?_
  refine At.ic1 (tgt := 29) rfl rfl (fun h => absurd (h.symm.trans (decide_eq_false (iN_nn (by omega)))) (by decide)) (fun _ => ?_)
  refine At.go (q := xm129) rfl 2 (pc' := 6) (L' := [(0, .ref g), (1, .int (Int32.ofNat i))]) (st' := [.ref g, .int (Int32.ofNat i)]) rfl ?_
  refine At.gf rfl (by decide) hg0 rfl ?_
  refine At.clp (as := [.ref l]) (rest := [.int (Int32.ofNat i)]) rfl (by decide) rfl (Nat.le_of_ble_eq_true rfl) (Nat.le_of_ble_eq_true rfl) (xrck_o (by decide) (by decide) hl0 (by decide)) (Nat.le_of_ble_eq_true rfl) (m_size hL) ?_
  refine At.ic2 (tgt := 29) rfl rfl (fun _ => ?_) (fun h => absurd (h.symm.trans (decide_eq_true ((iN_le (by omega) (by omega)).mpr hi))) (by decide))
  refine At.go (q := xm129) rfl 1 (pc' := 30) (L' := [(0, .ref g), (1, .int (Int32.ofNat i))]) (st' := [.null]) rfl ?_
  exact At.rt rfl rfl rfl
/-- whether a row of a key is there -/
def hasK (es : List En) (s k : Int32) : Bool := match es[plc es (s, k, 0)]? with
  | some f => decide (f.2.1 = k) && decide (f.1 = s)
  | none => false
/-- whether what a column refers to is there -/
def okAt (es : List En) (rs : List (Option (Nat × Int32))) (cs : List Int32) (j : Nat) : Bool := match rs[j]? with
  | some (some r) => decide (hold cs (Int32.ofNat j) = -1000000000) || hasK es r.2 (hold cs (Int32.ofNat j))
  | _ => true
def metFrom (es : List En) (rs : List (Option (Nat × Int32))) (cs : List Int32) (i n : Nat) : Bool := (List.range' i n).all (okAt es rs cs)
theorem metFrom_s {es : List En} {rs : List (Option (Nat × Int32))} {cs : List Int32} {i n : Nat} : metFrom es rs cs i (n + 1) = (okAt es rs cs i && metFrom es rs cs (i + 1) n) := by
  unfold metFrom
  rw [List.range'_succ, List.all_cons]
theorem okAt_n {es : List En} {rs : List (Option (Nat × Int32))} {cs : List Int32} {i : Nat} (h : rs[i]? = some none) : okAt es rs cs i = true := by
  unfold okAt
  rw [h]
theorem okAt_r {es : List En} {rs : List (Option (Nat × Int32))} {cs : List Int32} {i : Nat} {r : Nat × Int32} (h : rs[i]? = some (some r)) : okAt es rs cs i = (decide (hold cs (Int32.ofNat i) = -1000000000) || hasK es r.2 (hold cs (Int32.ofNat i))) := by
  unfold okAt
  rw [h]
theorem hasK_s {es : List En} {s k : Int32} {f : En} (h : es[plc es (s, k, 0)]? = some f) : hasK es s k = (decide (f.2.1 = k) && decide (f.1 = s)) := by
  unfold hasK
  rw [h]
theorem hasK_n {es : List En} {s k : Int32} (h : es[plc es (s, k, 0)]? = none) : hasK es s k = false := by
  unfold hasK
  rw [h]
theorem met_loop {nc ns : Nat} {S : List Int32} {hp : List XC} {g l x : Nat} {lbv : Value} {as : List Nat} {es : List En} {e : En} {T : Tb} (hg0 : hp[g]? = some (.inr (11, [.ref l, lbv]))) (hL : hLs hp l as) (hE : hEs hp as es) (hs : Srt es) (hX : hEn hp x e) (hT : hTb hp e.2.2.2.2.2 e.1 T) : ∀ (j i : Nat), i + j = T.2.2.1.length → 1 ≤ i →
    At S 4 124 2 [(2, .int (Int32.ofNat i)), (0, .ref g), (1, .ref x)] [] hp nc ns (fun o => o = .inl (some (bv (metFrom es T.2.2.2.2 e.2.2.2.2.1 i j)), hp, nc, ns)) := by
  obtain ⟨lf, hl0⟩ := hL.ob
  have hbn := hL.len
  have hle := hE.1
  have hrf := hT
  obtain ⟨ca, ka, ra, ga, chk, dv, hxt, -, -, -, -, hl2, hl3, -, hrf⟩ := hrf
  obtain ⟨c, fs, hx, hxc, hxl, -⟩ := hX
  intro j
  induction j with
  | zero =>
    intro i hi h1
    refine At.go (q := xm124) rfl 2 (pc' := 4) (L' := [(2, .int (Int32.ofNat i)), (0, .ref g), (1, .ref x)]) (st' := [.ref x, .int (Int32.ofNat i)]) rfl ?_
    refine At.gf rfl (by decide) hx rfl ?_
    refine At.clp (as := [.ref e.2.2.2.2.2]) (rest := [.int (Int32.ofNat i)]) rfl (by decide) rfl (Nat.le_of_ble_eq_true rfl) (Nat.le_of_ble_eq_true rfl) (xrck_o (by decide) (by decide) hxt (by decide)) (Nat.le_of_ble_eq_true rfl) (m_width hT) ?_
    refine At.ic2 (tgt := 95) rfl rfl (fun _ => ?_) (fun h => absurd ((iN_le (by omega) (by omega)).mpr (show T.2.2.1.length ≤ i by omega)) (of_decide_eq_false h))
    refine At.go (q := xm124) rfl 1 (pc' := 96) (L' := [(2, .int (Int32.ofNat i)), (0, .ref g), (1, .ref x)]) (st' := [.int 1]) rfl ?_
    exact At.rt rfl rfl rfl
  | succ j ih =>
    intro i hi h1
    obtain ⟨rv, hrv⟩ : ∃ rv, T.2.2.2.2[i]? = some rv := ⟨_, List.getElem?_eq_getElem (by omega)⟩
    cases rv with
    | none =>
      have hr := hrv
      refine At.go (q := xm124) rfl 2 (pc' := 4) (L' := [(2, .int (Int32.ofNat i)), (0, .ref g), (1, .ref x)]) (st' := [.ref x, .int (Int32.ofNat i)]) rfl ?_
      refine At.gf rfl (by decide) hx rfl ?_
      refine At.clp (as := [.ref e.2.2.2.2.2]) (rest := [.int (Int32.ofNat i)]) rfl (by decide) rfl (Nat.le_of_ble_eq_true rfl) (Nat.le_of_ble_eq_true rfl) (xrck_o (by decide) (by decide) hxt (by decide)) (Nat.le_of_ble_eq_true rfl) (m_width hT) ?_
      refine At.ic2 (tgt := 95) rfl rfl (fun h => absurd ((iN_le (by omega) (by omega)).mp (of_decide_eq_true h)) (by omega)) (fun _ => ?_)
      have hok := okAt_n (es := es) (cs := e.2.2.2.2.1) hr
      refine At.go (q := xm124) rfl 1 (pc' := 14) (L' := [(2, .int (Int32.ofNat i)), (0, .ref g), (1, .ref x)]) (st' := [.ref x]) rfl ?_
      refine At.gf rfl (by decide) hx rfl ?_
      refine At.go (q := xm124) rfl 1 (pc' := 18) (L' := [(2, .int (Int32.ofNat i)), (0, .ref g), (1, .ref x)]) (st' := [.int (Int32.ofNat i), .ref e.2.2.2.2.2]) rfl ?_
      refine At.clp (as := [.ref e.2.2.2.2.2, .int (Int32.ofNat i)]) (rest := []) rfl (by decide) rfl (Nat.le_of_ble_eq_true rfl) (Nat.le_of_ble_eq_true rfl) (xrck_o (by decide) (by decide) hxt (by decide)) (Nat.le_of_ble_eq_true rfl) (m_refOf0 hT hr) ?_
      refine At.go (q := xm124) rfl 3 (pc' := 24) (L' := [(3, .null), (2, .int (Int32.ofNat i)), (0, .ref g), (1, .ref x)]) (st' := [.int (Int32.ofNat i), .ref x]) rfl ?_
      refine At.clp (as := [.ref x, .int (Int32.ofNat i)]) (rest := []) rfl (by decide) rfl (Nat.le_of_ble_eq_true rfl) (Nat.le_of_ble_eq_true rfl) (xrck_o (by decide) (by decide) hx (by decide)) (Nat.le_of_ble_eq_true rfl) (m_hold hx hxc (by omega) (Int32.ofNat i)) ?_
      refine At.go (q := xm124) rfl 3 (pc' := 89) (L' := [(4, .int (hold e.2.2.2.2.1 (Int32.ofNat i))), (3, .null), (2, .int (Int32.ofNat i)), (0, .ref g), (1, .ref x)]) (st' := []) rfl ?_
      refine At.go (q := xm124) rfl 2 (pc' := 2) (L' := [(2, .int ((Int32.ofNat i) + 1)), (4, .int (hold e.2.2.2.2.1 (Int32.ofNat i))), (3, .null), (0, .ref g), (1, .ref x)]) (st' := []) rfl ?_
      rw [iN_s]
      refine At.wk (L' := [(2, .int (Int32.ofNat (i + 1))), (0, .ref g), (1, .ref x)]) (List.forall_mem_cons.mpr ⟨List.mem_of_getElem? (i := 0) rfl, (List.forall_mem_cons.mpr ⟨List.mem_of_getElem? (i := 3) rfl, (List.forall_mem_cons.mpr ⟨List.mem_of_getElem? (i := 4) rfl, (fun _ h => (List.not_mem_nil h).elim)⟩)⟩)⟩) (show ([2, 4, 3, 0, 1] : List Nat).Nodup by decide) ?_
      rw [metFrom_s, hok, Bool.true_and]
      exact ih (i + 1) (by omega) (by omega)
    | some r =>
      have hr := hrv
      refine At.go (q := xm124) rfl 2 (pc' := 4) (L' := [(2, .int (Int32.ofNat i)), (0, .ref g), (1, .ref x)]) (st' := [.ref x, .int (Int32.ofNat i)]) rfl ?_
      refine At.gf rfl (by decide) hx rfl ?_
      refine At.clp (as := [.ref e.2.2.2.2.2]) (rest := [.int (Int32.ofNat i)]) rfl (by decide) rfl (Nat.le_of_ble_eq_true rfl) (Nat.le_of_ble_eq_true rfl) (xrck_o (by decide) (by decide) hxt (by decide)) (Nat.le_of_ble_eq_true rfl) (m_width hT) ?_
      refine At.ic2 (tgt := 95) rfl rfl (fun h => absurd ((iN_le (by omega) (by omega)).mp (of_decide_eq_true h)) (by omega)) (fun _ => ?_)
      obtain ⟨rf, hrt⟩ := hrf i r hr
      refine At.go (q := xm124) rfl 1 (pc' := 14) (L' := [(2, .int (Int32.ofNat i)), (0, .ref g), (1, .ref x)]) (st' := [.ref x]) rfl ?_
      refine At.gf rfl (by decide) hx rfl ?_
      refine At.go (q := xm124) rfl 1 (pc' := 18) (L' := [(2, .int (Int32.ofNat i)), (0, .ref g), (1, .ref x)]) (st' := [.int (Int32.ofNat i), .ref e.2.2.2.2.2]) rfl ?_
      refine At.clp (as := [.ref e.2.2.2.2.2, .int (Int32.ofNat i)]) (rest := []) rfl (by decide) rfl (Nat.le_of_ble_eq_true rfl) (Nat.le_of_ble_eq_true rfl) (xrck_o (by decide) (by decide) hxt (by decide)) (Nat.le_of_ble_eq_true rfl) (m_refOf hT hr) ?_
      refine At.go (q := xm124) rfl 3 (pc' := 24) (L' := [(3, .ref r.1), (2, .int (Int32.ofNat i)), (0, .ref g), (1, .ref x)]) (st' := [.int (Int32.ofNat i), .ref x]) rfl ?_
      refine At.clp (as := [.ref x, .int (Int32.ofNat i)]) (rest := []) rfl (by decide) rfl (Nat.le_of_ble_eq_true rfl) (Nat.le_of_ble_eq_true rfl) (xrck_o (by decide) (by decide) hx (by decide)) (Nat.le_of_ble_eq_true rfl) (m_hold hx hxc (by omega) (Int32.ofNat i)) ?_
      refine At.go (q := xm124) rfl 5 (pc' := 37) (L' := [(4, .int (hold e.2.2.2.2.1 (Int32.ofNat i))), (3, .ref r.1), (2, .int (Int32.ofNat i)), (0, .ref g), (1, .ref x)]) (st' := [.int (-1000000000), .int (hold e.2.2.2.2.1 (Int32.ofNat i))]) rfl ?_
      refine At.ic2 (tgt := 43) rfl rfl (fun h37 => ?_) (fun h37 => ?_)
      · have hk : (hold e.2.2.2.2.1 (Int32.ofNat i)) ≠ -1000000000 := of_decide_eq_true h37
        cases hf : es[plc es (r.2, (hold e.2.2.2.2.1 (Int32.ofNat i)), 0)]? with
        | none =>
          have hi9 : as.length ≤ plc es (r.2, (hold e.2.2.2.2.1 (Int32.ofNat i)), 0) := by rw [hE.1]; exact List.getElem?_eq_none_iff.mp hf
          refine At.go (q := xm124) rfl 2 (pc' := 45) (L' := [(4, .int (hold e.2.2.2.2.1 (Int32.ofNat i))), (3, .ref r.1), (2, .int (Int32.ofNat i)), (0, .ref g), (1, .ref x)]) (st' := [.ref g, .ref g]) rfl ?_
          refine At.gf rfl (by decide) hg0 rfl ?_
          refine At.go (q := xm124) rfl 1 (pc' := 49) (L' := [(4, .int (hold e.2.2.2.2.1 (Int32.ofNat i))), (3, .ref r.1), (2, .int (Int32.ofNat i)), (0, .ref g), (1, .ref x)]) (st' := [.ref r.1, .ref l, .ref g]) rfl ?_
          refine At.gf rfl (by decide) hrt rfl ?_
          refine At.go (q := xm124) rfl 2 (pc' := 55) (L' := [(4, .int (hold e.2.2.2.2.1 (Int32.ofNat i))), (3, .ref r.1), (2, .int (Int32.ofNat i)), (0, .ref g), (1, .ref x)]) (st' := [.int 0, .int (hold e.2.2.2.2.1 (Int32.ofNat i)), .int r.2, .ref l, .ref g]) rfl ?_
          refine At.clp (as := [.ref l, .int r.2, .int (hold e.2.2.2.2.1 (Int32.ofNat i)), .int 0]) (rest := [.ref g]) rfl (by decide) rfl (Nat.le_of_ble_eq_true rfl) (Nat.le_of_ble_eq_true rfl) rfl (Nat.le_of_ble_eq_true rfl) (m_placeIn hL hE hs (r.2, (hold e.2.2.2.2.1 (Int32.ofNat i)), 0)) ?_
          refine At.clp (as := [.ref g, .int (Int32.ofNat (plc es (r.2, (hold e.2.2.2.2.1 (Int32.ofNat i)), 0)))]) (rest := []) rfl (by decide) rfl (Nat.le_of_ble_eq_true rfl) (Nat.le_of_ble_eq_true rfl) (xrck_o (by decide) (by decide) hg0 (by decide)) (Nat.le_of_ble_eq_true rfl) (m_sgget0 hg0 hL hi9 (by have := plc_le (es := es) (p := (r.2, (hold e.2.2.2.2.1 (Int32.ofNat i)), 0)); have := hL.len; have := hE.1; omega)) ?_
          refine At.go (q := xm124) rfl 4 (pc' := 88) (L' := [(5, .null), (4, .int (hold e.2.2.2.2.1 (Int32.ofNat i))), (3, .ref r.1), (2, .int (Int32.ofNat i)), (0, .ref g), (1, .ref x)]) (st' := [.int 0]) rfl ?_
          exact At.rt rfl rfl (by rw [metFrom_s, okAt_r hr, hasK_n hf, decide_eq_false hk]; rfl)
        | some f =>
          obtain ⟨w, hw0, h9⟩ := hE.get hf
          obtain ⟨d, gs, hw, -, -, hwt⟩ := h9
          refine At.go (q := xm124) rfl 2 (pc' := 45) (L' := [(4, .int (hold e.2.2.2.2.1 (Int32.ofNat i))), (3, .ref r.1), (2, .int (Int32.ofNat i)), (0, .ref g), (1, .ref x)]) (st' := [.ref g, .ref g]) rfl ?_
          refine At.gf rfl (by decide) hg0 rfl ?_
          refine At.go (q := xm124) rfl 1 (pc' := 49) (L' := [(4, .int (hold e.2.2.2.2.1 (Int32.ofNat i))), (3, .ref r.1), (2, .int (Int32.ofNat i)), (0, .ref g), (1, .ref x)]) (st' := [.ref r.1, .ref l, .ref g]) rfl ?_
          refine At.gf rfl (by decide) hrt rfl ?_
          refine At.go (q := xm124) rfl 2 (pc' := 55) (L' := [(4, .int (hold e.2.2.2.2.1 (Int32.ofNat i))), (3, .ref r.1), (2, .int (Int32.ofNat i)), (0, .ref g), (1, .ref x)]) (st' := [.int 0, .int (hold e.2.2.2.2.1 (Int32.ofNat i)), .int r.2, .ref l, .ref g]) rfl ?_
          refine At.clp (as := [.ref l, .int r.2, .int (hold e.2.2.2.2.1 (Int32.ofNat i)), .int 0]) (rest := [.ref g]) rfl (by decide) rfl (Nat.le_of_ble_eq_true rfl) (Nat.le_of_ble_eq_true rfl) rfl (Nat.le_of_ble_eq_true rfl) (m_placeIn hL hE hs (r.2, (hold e.2.2.2.2.1 (Int32.ofNat i)), 0)) ?_
          refine At.clp (as := [.ref g, .int (Int32.ofNat (plc es (r.2, (hold e.2.2.2.2.1 (Int32.ofNat i)), 0)))]) (rest := []) rfl (by decide) rfl (Nat.le_of_ble_eq_true rfl) (Nat.le_of_ble_eq_true rfl) (xrck_o (by decide) (by decide) hg0 (by decide)) (Nat.le_of_ble_eq_true rfl) (m_sgget hg0 hL hw0 hw) ?_
          refine At.go (q := xm124) rfl 4 (pc' := 70) (L' := [(5, .ref w), (4, .int (hold e.2.2.2.2.1 (Int32.ofNat i))), (3, .ref r.1), (2, .int (Int32.ofNat i)), (0, .ref g), (1, .ref x)]) (st' := [.ref w]) rfl ?_
          refine At.gf rfl (by decide) hw rfl ?_
          refine At.go (q := xm124) rfl 1 (pc' := 75) (L' := [(5, .ref w), (4, .int (hold e.2.2.2.2.1 (Int32.ofNat i))), (3, .ref r.1), (2, .int (Int32.ofNat i)), (0, .ref g), (1, .ref x)]) (st' := [.int (hold e.2.2.2.2.1 (Int32.ofNat i)), .int f.2.1]) rfl ?_
          refine At.ic2 (tgt := 87) rfl rfl (fun h75 => ?_) (fun h75 => ?_)
          · refine At.go (q := xm124) rfl 1 (pc' := 88) (L' := [(5, .ref w), (4, .int (hold e.2.2.2.2.1 (Int32.ofNat i))), (3, .ref r.1), (2, .int (Int32.ofNat i)), (0, .ref g), (1, .ref x)]) (st' := [.int 0]) rfl ?_
            exact At.rt rfl rfl (by rw [metFrom_s, okAt_r hr, hasK_s hf, decide_eq_false hk, decide_eq_false (of_decide_eq_true h75)]; rfl)
          · refine At.go (q := xm124) rfl 2 (pc' := 81) (L' := [(5, .ref w), (4, .int (hold e.2.2.2.2.1 (Int32.ofNat i))), (3, .ref r.1), (2, .int (Int32.ofNat i)), (0, .ref g), (1, .ref x)]) (st' := [.ref r.1, .ref w]) rfl ?_
            refine At.clp (as := [.ref w, .ref r.1]) (rest := []) rfl (by decide) rfl (Nat.le_of_ble_eq_true rfl) (Nat.le_of_ble_eq_true rfl) (xrck_o (by decide) (by decide) hw (by decide)) (Nat.le_of_ble_eq_true rfl) (m_isOf hw hwt hrt) ?_
            refine At.ic1 (tgt := 89) rfl rfl (fun h84 => ?_) (fun h84 => ?_)
            · have hok : okAt es T.2.2.2.2 e.2.2.2.2.1 i = true := by rw [okAt_r hr, hasK_s hf, decide_eq_true (xne_f h75), bI1 (of_decide_eq_true h84), Bool.and_true, Bool.or_true]
              refine At.go (q := xm124) rfl 2 (pc' := 2) (L' := [(2, .int ((Int32.ofNat i) + 1)), (5, .ref w), (4, .int (hold e.2.2.2.2.1 (Int32.ofNat i))), (3, .ref r.1), (0, .ref g), (1, .ref x)]) (st' := []) rfl ?_
              rw [iN_s]
              refine At.wk (L' := [(2, .int (Int32.ofNat (i + 1))), (0, .ref g), (1, .ref x)]) (List.forall_mem_cons.mpr ⟨List.mem_of_getElem? (i := 0) rfl, (List.forall_mem_cons.mpr ⟨List.mem_of_getElem? (i := 4) rfl, (List.forall_mem_cons.mpr ⟨List.mem_of_getElem? (i := 5) rfl, (fun _ h => (List.not_mem_nil h).elim)⟩)⟩)⟩) (show ([2, 5, 4, 3, 0, 1] : List Nat).Nodup by decide) ?_
              rw [metFrom_s, hok, Bool.true_and]
              exact ih (i + 1) (by omega) (by omega)
            · refine At.go (q := xm124) rfl 1 (pc' := 88) (L' := [(5, .ref w), (4, .int (hold e.2.2.2.2.1 (Int32.ofNat i))), (3, .ref r.1), (2, .int (Int32.ofNat i)), (0, .ref g), (1, .ref x)]) (st' := [.int 0]) rfl ?_
              exact At.rt rfl rfl (by rw [metFrom_s, okAt_r hr, hasK_s hf, decide_eq_false hk, decide_eq_true (xne_f h75), bI0 (xne_f h84)]; rfl)
      · have hok : okAt es T.2.2.2.2 e.2.2.2.2.1 i = true := by rw [okAt_r hr, decide_eq_true (xne_f h37)]; rfl
        refine At.go (q := xm124) rfl 3 (pc' := 2) (L' := [(2, .int ((Int32.ofNat i) + 1)), (4, .int (hold e.2.2.2.2.1 (Int32.ofNat i))), (3, .ref r.1), (0, .ref g), (1, .ref x)]) (st' := []) rfl ?_
        rw [iN_s]
        refine At.wk (L' := [(2, .int (Int32.ofNat (i + 1))), (0, .ref g), (1, .ref x)]) (List.forall_mem_cons.mpr ⟨List.mem_of_getElem? (i := 0) rfl, (List.forall_mem_cons.mpr ⟨List.mem_of_getElem? (i := 3) rfl, (List.forall_mem_cons.mpr ⟨List.mem_of_getElem? (i := 4) rfl, (fun _ h => (List.not_mem_nil h).elim)⟩)⟩)⟩) (show ([2, 4, 3, 0, 1] : List Nat).Nodup by decide) ?_
        rw [metFrom_s, hok, Bool.true_and]
        exact ih (i + 1) (by omega) (by omega)
def metE (es : List En) (T : Tb) (e : En) : Bool := metFrom es T.2.2.2.2 e.2.2.2.2.1 1 (T.2.2.1.length - 1)
/-- isMet -/
theorem m_isMet {S : List Int32} {hp : List XC} {g l x : Nat} {lbv : Value} {as : List Nat} {es : List En} {e : En} {T : Tb} (hg0 : hp[g]? = some (.inr (11, [.ref l, lbv]))) (hL : hLs hp l as) (hE : hEs hp as es) (hs : Srt es) (hX : hEn hp x e) (hT : hTb hp e.2.2.2.2.2 e.1 T) (h1 : 1 ≤ T.2.2.1.length) : Pu S 4 124 [.ref g, .ref x] hp (bv (metE es T e)) := by
  refine At.go (q := xm124) rfl 2 (pc' := 2) (L' := [(2, .int 1), (0, .ref g), (1, .ref x)]) (st' := []) rfl ?_
  exact met_loop hg0 hL hE hs hX hT (T.2.2.1.length - 1) 1 (by omega) (Nat.le_refl 1)
