/-! shelves: twins (written by wip/p27/c70.py) -/
theorem xw_chk : (List.range 51).all (fun a => (List.range 51).all (fun b => match xeq xKC (.retAddr a) (.retAddr b) with
  | some q => q == decide (a = b)
  | none => false)) = true := by decide +kernel
/-- two Words: the same, or not -/
theorem xeq_w {a b : Nat} (ha : a < 51) (hb : b < 51) : xeq xKC (.retAddr a) (.retAddr b) = some (decide (a = b)) := by
  have h := List.all_eq_true.mp (List.all_eq_true.mp xw_chk a (List.mem_range.mpr ha)) b (List.mem_range.mpr hb)
  generalize xeq xKC (.retAddr a) (.retAddr b) = o at h ⊢
  cases o with
  | none => cases h
  | some q => rw [beq_iff_eq.mp h]
theorem m_kindOf {S : List Int32} {hp : List XC} {t : Nat} {sr : Int32} {T : Tb} (hT : hTb hp t sr T) {i kd : Nat} (hk : T.2.2.2.1[i]? = some kd) : Pu S 0 111 [.ref t, .int (Int32.ofNat i)] hp (.retAddr kd) := by
  obtain ⟨ca, ka, ra, ga, chk, dv, ht, hca, hka, hra, hl1, hl2, hl3, hk51, hrf⟩ := hT
  have hi := (List.getElem?_eq_some_iff.mp hk).1
  refine At.go (q := xm111) rfl 1 (pc' := 1) (L' := [(0, .ref t), (1, .int (Int32.ofNat i))]) (st' := [.int (Int32.ofNat i)]) rfl ?_
  refine At.ic1 (tgt := 22) rfl rfl (fun h => absurd (h.symm.trans (decide_eq_false (iN_nn (by omega)))) (by decide)) (fun _ => ?_)
  refine At.go (q := xm111) rfl 2 (pc' := 6) (L' := [(0, .ref t), (1, .int (Int32.ofNat i))]) (st' := [.ref t, .int (Int32.ofNat i)]) rfl ?_
  refine At.gf rfl (by decide) ht rfl ?_
  refine At.ln rfl hka ?_
  refine At.ic2 (tgt := 22) rfl rfl (fun h => absurd (h.symm.trans (decide_eq_false (fun h => absurd ((iN_le (a := T.2.2.2.1.length) (b := i) (by omega) (by omega)).mp (by rw [List.length_map] at h; exact h)) (by omega)))) (by decide)) (fun _ => ?_)
  refine At.go (q := xm111) rfl 1 (pc' := 14) (L' := [(0, .ref t), (1, .int (Int32.ofNat i))]) (st' := [.ref t]) rfl ?_
  refine At.gf rfl (by decide) ht rfl ?_
  refine At.go (q := xm111) rfl 1 (pc' := 18) (L' := [(0, .ref t), (1, .int (Int32.ofNat i))]) (st' := [.int (Int32.ofNat i), .ref ka]) rfl ?_
  refine At.ql rfl hka (by decide) rfl (iN_nn (by omega)) (by rw [iN_tn (by omega), List.getElem?_map, hk]; rfl) rfl ?_
  refine At.go (q := xm111) rfl 1 (pc' := 25) (L' := [(0, .ref t), (1, .int (Int32.ofNat i))]) (st' := [.retAddr kd]) rfl ?_
  exact At.rt rfl rfl rfl
def twinAt (ks : List Nat) (cs ds : List Int32) (i : Nat) : Bool := decide (ks[i]? = some 25) && (!decide (hold cs (Int32.ofNat i) = -1000000000) && decide (hold cs (Int32.ofNat i) = hold ds (Int32.ofNat i)))
def twinFrom (ks : List Nat) (cs ds : List Int32) (i n : Nat) : Bool := (List.range' i n).any (twinAt ks cs ds)
theorem twinFrom_s {ks : List Nat} {cs ds : List Int32} {i n : Nat} : twinFrom ks cs ds i (n + 1) = (twinAt ks cs ds i || twinFrom ks cs ds (i + 1) n) := by
  unfold twinFrom
  rw [List.range'_succ, List.any_cons]
/-- whether two rows hold one number in a column uniq -/
def twinE (T : Tb) (e f : En) : Bool := twinFrom T.2.2.2.1 e.2.2.2.2.1 f.2.2.2.2.1 1 (T.2.2.1.length - 1)
theorem twin_loop {nc ns : Nat} {S : List Int32} {hp : List XC} {x w : Nat} {e f : En} {T : Tb} (hX : hEn hp x e) (hW : hEn hp w f) (hT : hTb hp e.2.2.2.2.2 e.1 T) : ∀ (j i : Nat), i + j = T.2.2.1.length → 1 ≤ i →
    At S 1 201 2 [(2, .int (Int32.ofNat i)), (0, .ref x), (1, .ref w)] [] hp nc ns (fun o => o = .inl (some (bv (twinFrom T.2.2.2.1 e.2.2.2.2.1 f.2.2.2.2.1 i j)), hp, nc, ns)) := by
  have hrf := hT
  obtain ⟨ca, ka, ra, ga, chk, dv, hxt, -, -, -, hl1, hl2, hl3, hk51, -⟩ := hrf
  obtain ⟨c, fs, hx, hxc, hxl, -⟩ := hX
  obtain ⟨d, gs, hw, hwc, hwl, -⟩ := hW
  intro j
  induction j with
  | zero =>
    intro i hi h1
    refine At.go (q := xm201) rfl 2 (pc' := 4) (L' := [(2, .int (Int32.ofNat i)), (0, .ref x), (1, .ref w)]) (st' := [.ref x, .int (Int32.ofNat i)]) rfl ?_
    refine At.gf rfl (by decide) hx rfl ?_
    refine At.clp (as := [.ref e.2.2.2.2.2]) (rest := [.int (Int32.ofNat i)]) rfl (by decide) rfl (Nat.le_of_ble_eq_true rfl) (Nat.le_of_ble_eq_true rfl) (xrck_o (by decide) (by decide) hxt (by decide)) (Nat.le_of_ble_eq_true rfl) (m_width hT) ?_
    refine At.ic2 (tgt := 58) rfl rfl (fun _ => ?_) (fun h => absurd ((iN_le (by omega) (by omega)).mpr (show T.2.2.1.length ≤ i by omega)) (of_decide_eq_false h))
    refine At.go (q := xm201) rfl 1 (pc' := 59) (L' := [(2, .int (Int32.ofNat i)), (0, .ref x), (1, .ref w)]) (st' := [.int 0]) rfl ?_
    exact At.rt rfl rfl rfl
  | succ j ih =>
    intro i hi h1
    obtain ⟨kd, hkd⟩ : ∃ k, T.2.2.2.1[i]? = some k := ⟨_, List.getElem?_eq_getElem (by omega)⟩
    refine At.go (q := xm201) rfl 2 (pc' := 4) (L' := [(2, .int (Int32.ofNat i)), (0, .ref x), (1, .ref w)]) (st' := [.ref x, .int (Int32.ofNat i)]) rfl ?_
    refine At.gf rfl (by decide) hx rfl ?_
    refine At.clp (as := [.ref e.2.2.2.2.2]) (rest := [.int (Int32.ofNat i)]) rfl (by decide) rfl (Nat.le_of_ble_eq_true rfl) (Nat.le_of_ble_eq_true rfl) (xrck_o (by decide) (by decide) hxt (by decide)) (Nat.le_of_ble_eq_true rfl) (m_width hT) ?_
    refine At.ic2 (tgt := 58) rfl rfl (fun h => absurd ((iN_le (by omega) (by omega)).mp (of_decide_eq_true h)) (by omega)) (fun _ => ?_)
    refine At.go (q := xm201) rfl 1 (pc' := 14) (L' := [(2, .int (Int32.ofNat i)), (0, .ref x), (1, .ref w)]) (st' := [.ref x]) rfl ?_
    refine At.gf rfl (by decide) hx rfl ?_
    refine At.go (q := xm201) rfl 1 (pc' := 18) (L' := [(2, .int (Int32.ofNat i)), (0, .ref x), (1, .ref w)]) (st' := [.int (Int32.ofNat i), .ref e.2.2.2.2.2]) rfl ?_
    refine At.clp (as := [.ref e.2.2.2.2.2, .int (Int32.ofNat i)]) (rest := []) rfl (by decide) rfl (Nat.le_of_ble_eq_true rfl) (Nat.le_of_ble_eq_true rfl) (xrck_o (by decide) (by decide) hxt (by decide)) (Nat.le_of_ble_eq_true rfl) (m_kindOf hT hkd) ?_
    refine At.go (q := xm201) rfl 1 (pc' := 24) (L' := [(2, .int (Int32.ofNat i)), (0, .ref x), (1, .ref w)]) (st' := [.retAddr 25, .retAddr kd]) rfl ?_
    refine At.acn (tgt := 52) (b := decide (kd = 25)) rfl rfl (xeq_w (hk51 kd (List.mem_of_getElem? hkd)) (by decide)) (fun h24 => ?_) (fun h24 => ?_)
    · refine At.go (q := xm201) rfl 2 (pc' := 2) (L' := [(2, .int ((Int32.ofNat i) + 1)), (0, .ref x), (1, .ref w)]) (st' := []) rfl ?_
      rw [iN_s]
      refine At.wk (L' := [(2, .int (Int32.ofNat (i + 1))), (0, .ref x), (1, .ref w)]) (List.forall_mem_cons.mpr ⟨List.mem_of_getElem? (i := 0) rfl, (List.forall_mem_cons.mpr ⟨List.mem_of_getElem? (i := 1) rfl, (List.forall_mem_cons.mpr ⟨List.mem_of_getElem? (i := 2) rfl, (fun _ h => (List.not_mem_nil h).elim)⟩)⟩)⟩) (show ([2, 0, 1] : List Nat).Nodup by decide) ?_
      have hq : twinAt T.2.2.2.1 e.2.2.2.2.1 f.2.2.2.2.1 i = false := by unfold twinAt; rw [hkd]; rw [decide_eq_false (fun h => of_decide_eq_false h24 (Option.some.inj h))]; rfl
      rw [twinFrom_s, hq, Bool.false_or]
      exact ih (i + 1) (by omega) (by omega)
    · refine At.go (q := xm201) rfl 2 (pc' := 29) (L' := [(2, .int (Int32.ofNat i)), (0, .ref x), (1, .ref w)]) (st' := [.int (Int32.ofNat i), .ref x]) rfl ?_
      refine At.clp (as := [.ref x, .int (Int32.ofNat i)]) (rest := []) rfl (by decide) rfl (Nat.le_of_ble_eq_true rfl) (Nat.le_of_ble_eq_true rfl) (xrck_o (by decide) (by decide) hx (by decide)) (Nat.le_of_ble_eq_true rfl) (m_hold hx hxc (by omega) (Int32.ofNat i)) ?_
      refine At.go (q := xm201) rfl 1 (pc' := 34) (L' := [(2, .int (Int32.ofNat i)), (0, .ref x), (1, .ref w)]) (st' := [.int (-1000000000), .int (hold e.2.2.2.2.1 (Int32.ofNat i))]) rfl ?_
      refine At.ic2 (tgt := 52) rfl rfl (fun h34 => ?_) (fun h34 => ?_)
      · refine At.go (q := xm201) rfl 2 (pc' := 2) (L' := [(2, .int ((Int32.ofNat i) + 1)), (0, .ref x), (1, .ref w)]) (st' := []) rfl ?_
        rw [iN_s]
        refine At.wk (L' := [(2, .int (Int32.ofNat (i + 1))), (0, .ref x), (1, .ref w)]) (List.forall_mem_cons.mpr ⟨List.mem_of_getElem? (i := 0) rfl, (List.forall_mem_cons.mpr ⟨List.mem_of_getElem? (i := 1) rfl, (List.forall_mem_cons.mpr ⟨List.mem_of_getElem? (i := 2) rfl, (fun _ h => (List.not_mem_nil h).elim)⟩)⟩)⟩) (show ([2, 0, 1] : List Nat).Nodup by decide) ?_
        have hq : twinAt T.2.2.2.1 e.2.2.2.2.1 f.2.2.2.2.1 i = false := by unfold twinAt; rw [hkd]; rw [decide_eq_true (of_decide_eq_true h34), Bool.not_true, Bool.false_and, Bool.and_false]
        rw [twinFrom_s, hq, Bool.false_or]
        exact ih (i + 1) (by omega) (by omega)
      · refine At.go (q := xm201) rfl 2 (pc' := 39) (L' := [(2, .int (Int32.ofNat i)), (0, .ref x), (1, .ref w)]) (st' := [.int (Int32.ofNat i), .ref x]) rfl ?_
        refine At.clp (as := [.ref x, .int (Int32.ofNat i)]) (rest := []) rfl (by decide) rfl (Nat.le_of_ble_eq_true rfl) (Nat.le_of_ble_eq_true rfl) (xrck_o (by decide) (by decide) hx (by decide)) (Nat.le_of_ble_eq_true rfl) (m_hold hx hxc (by omega) (Int32.ofNat i)) ?_
        refine At.go (q := xm201) rfl 2 (pc' := 44) (L' := [(2, .int (Int32.ofNat i)), (0, .ref x), (1, .ref w)]) (st' := [.int (Int32.ofNat i), .ref w, .int (hold e.2.2.2.2.1 (Int32.ofNat i))]) rfl ?_
        refine At.clp (as := [.ref w, .int (Int32.ofNat i)]) (rest := [.int (hold e.2.2.2.2.1 (Int32.ofNat i))]) rfl (by decide) rfl (Nat.le_of_ble_eq_true rfl) (Nat.le_of_ble_eq_true rfl) (xrck_o (by decide) (by decide) hw (by decide)) (Nat.le_of_ble_eq_true rfl) (m_hold hw hwc (by omega) (Int32.ofNat i)) ?_
        refine At.ic2 (tgt := 52) rfl rfl (fun h47 => ?_) (fun h47 => ?_)
        · refine At.go (q := xm201) rfl 2 (pc' := 2) (L' := [(2, .int ((Int32.ofNat i) + 1)), (0, .ref x), (1, .ref w)]) (st' := []) rfl ?_
          rw [iN_s]
          refine At.wk (L' := [(2, .int (Int32.ofNat (i + 1))), (0, .ref x), (1, .ref w)]) (List.forall_mem_cons.mpr ⟨List.mem_of_getElem? (i := 0) rfl, (List.forall_mem_cons.mpr ⟨List.mem_of_getElem? (i := 1) rfl, (List.forall_mem_cons.mpr ⟨List.mem_of_getElem? (i := 2) rfl, (fun _ h => (List.not_mem_nil h).elim)⟩)⟩)⟩) (show ([2, 0, 1] : List Nat).Nodup by decide) ?_
          have hq : twinAt T.2.2.2.1 e.2.2.2.2.1 f.2.2.2.2.1 i = false := by unfold twinAt; rw [hkd]; rw [decide_eq_false (of_decide_eq_true h47), Bool.and_false, Bool.and_false]
          rw [twinFrom_s, hq, Bool.false_or]
          exact ih (i + 1) (by omega) (by omega)
        · have hq : twinAt T.2.2.2.1 e.2.2.2.2.1 f.2.2.2.2.1 i = true := by unfold twinAt; rw [hkd, decide_eq_true (congrArg some (of_decide_eq_true h24)), decide_eq_false (of_decide_eq_false h34), decide_eq_true (xne_f h47)]; rfl
          refine At.go (q := xm201) rfl 1 (pc' := 51) (L' := [(2, .int (Int32.ofNat i)), (0, .ref x), (1, .ref w)]) (st' := [.int 1]) rfl ?_
          exact At.rt rfl rfl (by rw [twinFrom_s, hq]; rfl)
/-- areTwins -/
theorem m_areTwins {S : List Int32} {hp : List XC} {x w : Nat} {e f : En} {T : Tb} (hX : hEn hp x e) (hW : hEn hp w f) (hT : hTb hp e.2.2.2.2.2 e.1 T) (h1 : 1 ≤ T.2.2.1.length) : Pu S 1 201 [.ref x, .ref w] hp (bv (twinE T e f)) := by
  refine At.go (q := xm201) rfl 2 (pc' := 2) (L' := [(2, .int 1), (0, .ref x), (1, .ref w)]) (st' := []) rfl ?_
  exact twin_loop hX hW hT (T.2.2.1.length - 1) 1 (by omega) (Nat.le_refl 1)
def hasTwE (T : Tb) (es : List En) (e : En) (a b : Nat) : Bool := ((es.drop a).take (b - a)).any (fun f => decide (f.2.2.1 = e.2.2.1) && twinE T f e)
theorem seg_0 {es : List En} {p : En → Bool} {i b : Nat} (h : b ≤ i) : ((es.drop i).take (b - i)).any p = false := by
  rw [show b - i = 0 by omega]
  rfl
theorem seg_s {es : List En} {p : En → Bool} {f : En} {i b : Nat} (h : i < b) (hf : es[i]? = some f) : ((es.drop i).take (b - i)).any p = (p f || ((es.drop (i + 1)).take (b - (i + 1))).any p) := by
  have h2 := (List.getElem?_eq_some_iff.mp hf).1
  have h3 : es[i] = f := by rw [List.getElem?_eq_getElem h2] at hf; exact Option.some.inj hf
  rw [List.drop_eq_getElem_cons h2, show b - i = (b - (i + 1)) + 1 by omega, List.take_succ_cons, List.any_cons, h3]
theorem htw_loop {nc ns : Nat} {S : List Int32} {hp : List XC} {s l x : Nat} {as : List Nat} {es : List En} {e : En} {T : Tb} {a b : Nat} (hs0 : hp[s]? = some (.inr (10, [.ref l]))) (hL : hLs hp l as) (hE : hEs hp as es) (hX : hEn hp x e) (hTab : ∀ (i : Nat) (f : En), a ≤ i → i < b → es[i]? = some f → hTb hp f.2.2.2.2.2 f.1 T) (hT1 : 1 ≤ T.2.2.1.length) (hb : b ≤ es.length) : ∀ (j i : Nat), i + j = b → a ≤ i →
    At S 3 200 7 [(4, .int (Int32.ofNat i)), (0, .ref s), (1, .ref x), (3, .int (Int32.ofNat b))] [] hp nc ns (fun o => o = .inl (some (bv (hasTwE T es e i b)), hp, nc, ns)) := by
  obtain ⟨lf, hl0⟩ := hL.ob
  have hbn := hL.len
  have hle := hE.1
  have hX9 := hX
  obtain ⟨c, fs, hx, -, -, hxt⟩ := hX9
  intro j
  induction j with
  | zero =>
    intro i hi hai
    refine At.go (q := xm200) rfl 2 (pc' := 10) (L' := [(4, .int (Int32.ofNat i)), (0, .ref s), (1, .ref x), (3, .int (Int32.ofNat b))]) (st' := [.int (Int32.ofNat b), .int (Int32.ofNat i)]) rfl ?_
    refine At.ic2 (tgt := 74) rfl rfl (fun _ => ?_) (fun h => absurd ((iN_le (by omega) (by omega)).mpr (show b ≤ i by omega)) (of_decide_eq_false h))
    refine At.go (q := xm200) rfl 1 (pc' := 75) (L' := [(4, .int (Int32.ofNat i)), (0, .ref s), (1, .ref x), (3, .int (Int32.ofNat b))]) (st' := [.int 0]) rfl ?_
    exact At.rt rfl rfl (by unfold hasTwE; rw [seg_0 (by omega)]; rfl)
  | succ j ih =>
    intro i hi hai
    obtain ⟨f, hf⟩ : ∃ f, es[i]? = some f := ⟨_, List.getElem?_eq_getElem (by omega)⟩
    obtain ⟨w, hw0, hW⟩ := hE.get hf
    have hT := hTab i f hai (by omega) hf
    have hW9 := hW
    obtain ⟨d, gs, hw, -, -, hwt⟩ := hW9
    refine At.go (q := xm200) rfl 2 (pc' := 10) (L' := [(4, .int (Int32.ofNat i)), (0, .ref s), (1, .ref x), (3, .int (Int32.ofNat b))]) (st' := [.int (Int32.ofNat b), .int (Int32.ofNat i)]) rfl ?_
    refine At.ic2 (tgt := 74) rfl rfl (fun h => absurd ((iN_le (by omega) (by omega)).mp (of_decide_eq_true h)) (by omega)) (fun _ => ?_)
    refine At.go (q := xm200) rfl 2 (pc' := 16) (L' := [(4, .int (Int32.ofNat i)), (0, .ref s), (1, .ref x), (3, .int (Int32.ofNat b))]) (st' := [.ref s, .int (Int32.ofNat i)]) rfl ?_
    refine At.gf rfl (by decide) hs0 rfl ?_
    refine At.clp (as := [.ref l]) (rest := [.int (Int32.ofNat i)]) rfl (by decide) rfl (Nat.le_of_ble_eq_true rfl) (Nat.le_of_ble_eq_true rfl) (xrck_o (by decide) (by decide) hl0 (by decide)) (Nat.le_of_ble_eq_true rfl) (m_size hL) ?_
    refine At.ic2 (tgt := 74) rfl rfl (fun h => absurd ((iN_le (by omega) (by omega)).mp (of_decide_eq_true h)) (by omega)) (fun _ => ?_)
    refine At.go (q := xm200) rfl 1 (pc' := 26) (L' := [(4, .int (Int32.ofNat i)), (0, .ref s), (1, .ref x), (3, .int (Int32.ofNat b))]) (st' := [.ref s]) rfl ?_
    refine At.gf rfl (by decide) hs0 rfl ?_
    refine At.go (q := xm200) rfl 1 (pc' := 31) (L' := [(4, .int (Int32.ofNat i)), (0, .ref s), (1, .ref x), (3, .int (Int32.ofNat b))]) (st' := [.int (Int32.ofNat i), .ref l]) rfl ?_
    refine At.clp (as := [.ref l, .int (Int32.ofNat i)]) (rest := []) rfl (by decide) rfl (Nat.le_of_ble_eq_true rfl) (Nat.le_of_ble_eq_true rfl) (xrck_o (by decide) (by decide) hl0 (by decide)) (Nat.le_of_ble_eq_true rfl) (m_get hL hw0) ?_
    refine At.ca rfl hw (by decide) ?_
    refine At.gf rfl (by decide) hw rfl ?_
    refine At.go (q := xm200) rfl 1 (pc' := 41) (L' := [(4, .int (Int32.ofNat i)), (0, .ref s), (1, .ref x), (3, .int (Int32.ofNat b))]) (st' := [.ref x, .int f.2.2.1]) rfl ?_
    refine At.gf rfl (by decide) hx rfl ?_
    refine At.ic2 (tgt := 68) rfl rfl (fun h44 => ?_) (fun h44 => ?_)
    · refine At.go (q := xm200) rfl 2 (pc' := 7) (L' := [(4, .int ((Int32.ofNat i) + 1)), (0, .ref s), (1, .ref x), (3, .int (Int32.ofNat b))]) (st' := []) rfl ?_
      rw [iN_s]
      refine At.wk (L' := [(4, .int (Int32.ofNat (i + 1))), (0, .ref s), (1, .ref x), (3, .int (Int32.ofNat b))]) (List.forall_mem_cons.mpr ⟨List.mem_of_getElem? (i := 0) rfl, (List.forall_mem_cons.mpr ⟨List.mem_of_getElem? (i := 1) rfl, (List.forall_mem_cons.mpr ⟨List.mem_of_getElem? (i := 2) rfl, (List.forall_mem_cons.mpr ⟨List.mem_of_getElem? (i := 3) rfl, (fun _ h => (List.not_mem_nil h).elim)⟩)⟩)⟩)⟩) (show ([4, 0, 1, 3] : List Nat).Nodup by decide) ?_
      have hq : hasTwE T es e i b = hasTwE T es e (i + 1) b := by unfold hasTwE; rw [seg_s (by omega) hf]; rw [decide_eq_false (of_decide_eq_true h44), Bool.false_and, Bool.false_or]
      rw [hq]
      exact ih (i + 1) (by omega) (by omega)
    · refine At.go (q := xm200) rfl 1 (pc' := 48) (L' := [(4, .int (Int32.ofNat i)), (0, .ref s), (1, .ref x), (3, .int (Int32.ofNat b))]) (st' := [.ref s]) rfl ?_
      refine At.gf rfl (by decide) hs0 rfl ?_
      refine At.go (q := xm200) rfl 1 (pc' := 53) (L' := [(4, .int (Int32.ofNat i)), (0, .ref s), (1, .ref x), (3, .int (Int32.ofNat b))]) (st' := [.int (Int32.ofNat i), .ref l]) rfl ?_
      refine At.clp (as := [.ref l, .int (Int32.ofNat i)]) (rest := []) rfl (by decide) rfl (Nat.le_of_ble_eq_true rfl) (Nat.le_of_ble_eq_true rfl) (xrck_o (by decide) (by decide) hl0 (by decide)) (Nat.le_of_ble_eq_true rfl) (m_get hL hw0) ?_
      refine At.ca rfl hw (by decide) ?_
      refine At.go (q := xm200) rfl 1 (pc' := 60) (L' := [(4, .int (Int32.ofNat i)), (0, .ref s), (1, .ref x), (3, .int (Int32.ofNat b))]) (st' := [.ref x, .ref w]) rfl ?_
      refine At.clp (as := [.ref w, .ref x]) (rest := []) rfl (by decide) rfl (Nat.le_of_ble_eq_true rfl) (Nat.le_of_ble_eq_true rfl) rfl (Nat.le_of_ble_eq_true rfl) (m_areTwins hW hX hT hT1) ?_
      refine At.ic1 (tgt := 68) rfl rfl (fun h63 => ?_) (fun h63 => ?_)
      · refine At.go (q := xm200) rfl 2 (pc' := 7) (L' := [(4, .int ((Int32.ofNat i) + 1)), (0, .ref s), (1, .ref x), (3, .int (Int32.ofNat b))]) (st' := []) rfl ?_
        rw [iN_s]
        refine At.wk (L' := [(4, .int (Int32.ofNat (i + 1))), (0, .ref s), (1, .ref x), (3, .int (Int32.ofNat b))]) (List.forall_mem_cons.mpr ⟨List.mem_of_getElem? (i := 0) rfl, (List.forall_mem_cons.mpr ⟨List.mem_of_getElem? (i := 1) rfl, (List.forall_mem_cons.mpr ⟨List.mem_of_getElem? (i := 2) rfl, (List.forall_mem_cons.mpr ⟨List.mem_of_getElem? (i := 3) rfl, (fun _ h => (List.not_mem_nil h).elim)⟩)⟩)⟩)⟩) (show ([4, 0, 1, 3] : List Nat).Nodup by decide) ?_
        have hq : hasTwE T es e i b = hasTwE T es e (i + 1) b := by unfold hasTwE; rw [seg_s (by omega) hf]; rw [bI0 (of_decide_eq_true h63), Bool.and_false, Bool.false_or]
        rw [hq]
        exact ih (i + 1) (by omega) (by omega)
      · refine At.go (q := xm200) rfl 1 (pc' := 67) (L' := [(4, .int (Int32.ofNat i)), (0, .ref s), (1, .ref x), (3, .int (Int32.ofNat b))]) (st' := [.int 1]) rfl ?_
        exact At.rt rfl rfl (by unfold hasTwE; rw [seg_s (by omega) hf, decide_eq_true (xne_f h44), bI1 (of_decide_eq_false h63)]; rfl)
/-- hasTwin -/
theorem m_hasTwin {S : List Int32} {hp : List XC} {s l x : Nat} {as : List Nat} {es : List En} {e : En} {T : Tb} {a b : Nat} (hs0 : hp[s]? = some (.inr (10, [.ref l]))) (hL : hLs hp l as) (hE : hEs hp as es) (hX : hEn hp x e) (hTab : ∀ (i : Nat) (f : En), a ≤ i → i < b → es[i]? = some f → hTb hp f.2.2.2.2.2 f.1 T) (hT1 : 1 ≤ T.2.2.1.length) (hb : b ≤ es.length) (hab : a ≤ b) : Pu S 3 200 [.ref s, .ref x, .int (Int32.ofNat a), .int (Int32.ofNat b)] hp (bv (hasTwE T es e a b)) := by
  have hbn := hL.len
  have hle := hE.1
  refine At.go (q := xm200) rfl 2 (pc' := 2) (L' := [(0, .ref s), (1, .ref x), (2, .int (Int32.ofNat a)), (3, .int (Int32.ofNat b))]) (st' := [.int 0, .int (Int32.ofNat a)]) rfl ?_
  refine At.sp rfl (by decide) (g := ([.int (if (Int32.ofNat a) < 0 then 0 else (Int32.ofNat a))], hp)) rfl ?_
  rw [if_neg (iN_nn (by omega))]
  refine At.go (q := xm200) rfl 1 (pc' := 7) (L' := [(4, .int (Int32.ofNat a)), (0, .ref s), (1, .ref x), (2, .int (Int32.ofNat a)), (3, .int (Int32.ofNat b))]) (st' := []) rfl ?_
  refine At.wk (L' := [(4, .int (Int32.ofNat a)), (0, .ref s), (1, .ref x), (3, .int (Int32.ofNat b))]) (List.forall_mem_cons.mpr ⟨List.mem_of_getElem? (i := 0) rfl, (List.forall_mem_cons.mpr ⟨List.mem_of_getElem? (i := 1) rfl, (List.forall_mem_cons.mpr ⟨List.mem_of_getElem? (i := 2) rfl, (List.forall_mem_cons.mpr ⟨List.mem_of_getElem? (i := 4) rfl, (fun _ h => (List.not_mem_nil h).elim)⟩)⟩)⟩)⟩) (show ([4, 0, 1, 2, 3] : List Nat).Nodup by decide) ?_
  exact htw_loop hs0 hL hE hX hTab hT1 hb (b - a) a (by omega) (Nat.le_refl a)
