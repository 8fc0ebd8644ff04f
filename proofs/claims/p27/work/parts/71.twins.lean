/-! shelves: twins of a table, whether one is chosen (written by wip/p27/c71.py) -/
def twsFrom (T : Tb) (es : List En) (sr lb : Int32) (a : Nat) : Nat → Nat → Bool
  | 0, _ => false
  | n + 1, i => match es[i]? with
    | none => false
    | some e => if e.1 = sr then ((decide (e.2.2.1 = lb) && hasTwE T es e a i) || twsFrom T es sr lb a n (i + 1)) else false
theorem tws_s {T : Tb} {es : List En} {sr lb : Int32} {a n i : Nat} {e : En} (he : es[i]? = some e) (h : e.1 = sr) : twsFrom T es sr lb a (n + 1) i = ((decide (e.2.2.1 = lb) && hasTwE T es e a i) || twsFrom T es sr lb a n (i + 1)) := by
  have e1 : twsFrom T es sr lb a (n + 1) i = (match es[i]? with
    | none => false
    | some e => if e.1 = sr then ((decide (e.2.2.1 = lb) && hasTwE T es e a i) || twsFrom T es sr lb a n (i + 1)) else false) := rfl
  rw [e1, he]
  exact if_pos h
theorem tws_f {T : Tb} {es : List En} {sr lb : Int32} {a n i : Nat} {e : En} (he : es[i]? = some e) (h : ¬ e.1 = sr) : twsFrom T es sr lb a (n + 1) i = false := by
  have e1 : twsFrom T es sr lb a (n + 1) i = (match es[i]? with
    | none => false
    | some e => if e.1 = sr then ((decide (e.2.2.1 = lb) && hasTwE T es e a i) || twsFrom T es sr lb a n (i + 1)) else false) := rfl
  rw [e1, he]
  exact if_neg h
/-- whether two rows of a table at a label are twins -/
def hasTwsE (T : Tb) (es : List En) (sr lb : Int32) : Bool := twsFrom T es sr lb (plc es (sr, -1000000000, 0)) (es.length - plc es (sr, -1000000000, 0)) (plc es (sr, -1000000000, 0))
theorem tws_loop {nc ns a : Nat} {S : List Int32} {hp : List XC} {s l t : Nat} {as : List Nat} {es : List En} {T : Tb} {sr lb : Int32} (hs0 : hp[s]? = some (.inr (10, [.ref l]))) (hL : hLs hp l as) (hE : hEs hp as es) (hT : hTb hp t sr T) (hT1 : 1 ≤ T.2.2.1.length) (hsame : ∀ f ∈ es, f.1 = sr → f.2.2.2.2.2 = t) : ∀ (j i : Nat), i + j = es.length → a ≤ i → (∀ (m : Nat) (f : En), a ≤ m → m < i → es[m]? = some f → f.1 = sr) →
    At S 4 199 18 [(4, .int (Int32.ofNat i)), (3, .int (Int32.ofNat a)), (0, .ref s), (1, .ref t), (2, .int lb)] [] hp nc ns (fun o => o = .inl (some (bv (twsFrom T es sr lb a j i)), hp, nc, ns)) := by
  obtain ⟨lf, hl0⟩ := hL.ob
  have hbn := hL.len
  have hle := hE.1
  obtain ⟨tf, ht⟩ : ∃ tf, hp[t]? = some (.inr (13, .int sr :: tf)) := by
    obtain ⟨ca, ka, ra, ga, chk, dv, ht, -⟩ := hT
    exact ⟨_, ht⟩
  intro j
  induction j with
  | zero =>
    intro i hi hai hinv
    refine At.go (q := xm199) rfl 2 (pc' := 21) (L' := [(4, .int (Int32.ofNat i)), (3, .int (Int32.ofNat a)), (0, .ref s), (1, .ref t), (2, .int lb)]) (st' := [.ref s, .int (Int32.ofNat i)]) rfl ?_
    refine At.gf rfl (by decide) hs0 rfl ?_
    refine At.clp (as := [.ref l]) (rest := [.int (Int32.ofNat i)]) rfl (by decide) rfl (Nat.le_of_ble_eq_true rfl) (Nat.le_of_ble_eq_true rfl) (xrck_o (by decide) (by decide) hl0 (by decide)) (Nat.le_of_ble_eq_true rfl) (m_size hL) ?_
    refine At.ic2 (tgt := 98) rfl rfl (fun _ => ?_) (fun h => absurd ((iN_le (by omega) (by omega)).mpr (show as.length ≤ i by omega)) (of_decide_eq_false h))
    refine At.go (q := xm199) rfl 1 (pc' := 99) (L' := [(4, .int (Int32.ofNat i)), (3, .int (Int32.ofNat a)), (0, .ref s), (1, .ref t), (2, .int lb)]) (st' := [.int 0]) rfl ?_
    exact At.rt rfl rfl rfl
  | succ j ih =>
    intro i hi hai hinv
    obtain ⟨e, he⟩ : ∃ e, es[i]? = some e := ⟨_, List.getElem?_eq_getElem (by omega)⟩
    obtain ⟨x, hx0, hX⟩ := hE.get he
    have hX9 := hX
    obtain ⟨c, fs, hx, -, -, hxt⟩ := hX9
    refine At.go (q := xm199) rfl 2 (pc' := 21) (L' := [(4, .int (Int32.ofNat i)), (3, .int (Int32.ofNat a)), (0, .ref s), (1, .ref t), (2, .int lb)]) (st' := [.ref s, .int (Int32.ofNat i)]) rfl ?_
    refine At.gf rfl (by decide) hs0 rfl ?_
    refine At.clp (as := [.ref l]) (rest := [.int (Int32.ofNat i)]) rfl (by decide) rfl (Nat.le_of_ble_eq_true rfl) (Nat.le_of_ble_eq_true rfl) (xrck_o (by decide) (by decide) hl0 (by decide)) (Nat.le_of_ble_eq_true rfl) (m_size hL) ?_
    refine At.ic2 (tgt := 98) rfl rfl (fun h => absurd ((iN_le (by omega) (by omega)).mp (of_decide_eq_true h)) (by omega)) (fun _ => ?_)
    refine At.go (q := xm199) rfl 1 (pc' := 31) (L' := [(4, .int (Int32.ofNat i)), (3, .int (Int32.ofNat a)), (0, .ref s), (1, .ref t), (2, .int lb)]) (st' := [.ref s]) rfl ?_
    refine At.gf rfl (by decide) hs0 rfl ?_
    refine At.go (q := xm199) rfl 1 (pc' := 36) (L' := [(4, .int (Int32.ofNat i)), (3, .int (Int32.ofNat a)), (0, .ref s), (1, .ref t), (2, .int lb)]) (st' := [.int (Int32.ofNat i), .ref l]) rfl ?_
    refine At.clp (as := [.ref l, .int (Int32.ofNat i)]) (rest := []) rfl (by decide) rfl (Nat.le_of_ble_eq_true rfl) (Nat.le_of_ble_eq_true rfl) (xrck_o (by decide) (by decide) hl0 (by decide)) (Nat.le_of_ble_eq_true rfl) (m_get hL hx0) ?_
    refine At.ca rfl hx (by decide) ?_
    refine At.go (q := xm199) rfl 1 (pc' := 43) (L' := [(4, .int (Int32.ofNat i)), (3, .int (Int32.ofNat a)), (0, .ref s), (1, .ref t), (2, .int lb)]) (st' := [.ref t, .ref x]) rfl ?_
    refine At.clp (as := [.ref x, .ref t]) (rest := []) rfl (by decide) rfl (Nat.le_of_ble_eq_true rfl) (Nat.le_of_ble_eq_true rfl) (xrck_o (by decide) (by decide) hx (by decide)) (Nat.le_of_ble_eq_true rfl) (m_isOf hx hxt ht) ?_
    refine At.ic1 (tgt := 98) rfl rfl (fun h46 => ?_) (fun h46 => ?_)
    · refine At.go (q := xm199) rfl 1 (pc' := 99) (L' := [(4, .int (Int32.ofNat i)), (3, .int (Int32.ofNat a)), (0, .ref s), (1, .ref t), (2, .int lb)]) (st' := [.int 0]) rfl ?_
      exact At.rt rfl rfl (by rw [tws_f he (of_decide_eq_false (bI0 (of_decide_eq_true h46)))]; rfl)
    · have hsr : e.1 = sr := of_decide_eq_true (bI1 (of_decide_eq_false h46))
      have hinv2 : ∀ (m : Nat) (f : En), a ≤ m → m < i + 1 → es[m]? = some f → f.1 = sr := fun m f h1 h2 h3 => by
        rcases Nat.lt_or_ge m i with h4 | h4
        · exact hinv m f h1 h4 h3
        · rw [show m = i by omega, he] at h3; cases h3; exact hsr
      have hTi : ∀ (m : Nat) (f : En), a ≤ m → m < i → es[m]? = some f → hTb hp f.2.2.2.2.2 f.1 T := fun m f h1 h2 h3 => by rw [hsame f (List.mem_of_getElem? h3) (hinv m f h1 h2 h3), hinv m f h1 h2 h3]; exact hT
      refine At.go (q := xm199) rfl 1 (pc' := 50) (L' := [(4, .int (Int32.ofNat i)), (3, .int (Int32.ofNat a)), (0, .ref s), (1, .ref t), (2, .int lb)]) (st' := [.ref s]) rfl ?_
      refine At.gf rfl (by decide) hs0 rfl ?_
      refine At.go (q := xm199) rfl 1 (pc' := 55) (L' := [(4, .int (Int32.ofNat i)), (3, .int (Int32.ofNat a)), (0, .ref s), (1, .ref t), (2, .int lb)]) (st' := [.int (Int32.ofNat i), .ref l]) rfl ?_
      refine At.clp (as := [.ref l, .int (Int32.ofNat i)]) (rest := []) rfl (by decide) rfl (Nat.le_of_ble_eq_true rfl) (Nat.le_of_ble_eq_true rfl) (xrck_o (by decide) (by decide) hl0 (by decide)) (Nat.le_of_ble_eq_true rfl) (m_get hL hx0) ?_
      refine At.ca rfl hx (by decide) ?_
      refine At.gf rfl (by decide) hx rfl ?_
      refine At.go (q := xm199) rfl 1 (pc' := 65) (L' := [(4, .int (Int32.ofNat i)), (3, .int (Int32.ofNat a)), (0, .ref s), (1, .ref t), (2, .int lb)]) (st' := [.int lb, .int e.2.2.1]) rfl ?_
      refine At.ic2 (tgt := 92) rfl rfl (fun h65 => ?_) (fun h65 => ?_)
      · refine At.go (q := xm199) rfl 2 (pc' := 18) (L' := [(4, .int ((Int32.ofNat i) + 1)), (3, .int (Int32.ofNat a)), (0, .ref s), (1, .ref t), (2, .int lb)]) (st' := []) rfl ?_
        rw [iN_s]
        refine At.wk (L' := [(4, .int (Int32.ofNat (i + 1))), (3, .int (Int32.ofNat a)), (0, .ref s), (1, .ref t), (2, .int lb)]) (List.forall_mem_cons.mpr ⟨List.mem_of_getElem? (i := 0) rfl, (List.forall_mem_cons.mpr ⟨List.mem_of_getElem? (i := 1) rfl, (List.forall_mem_cons.mpr ⟨List.mem_of_getElem? (i := 2) rfl, (List.forall_mem_cons.mpr ⟨List.mem_of_getElem? (i := 3) rfl, (List.forall_mem_cons.mpr ⟨List.mem_of_getElem? (i := 4) rfl, (fun _ h => (List.not_mem_nil h).elim)⟩)⟩)⟩)⟩)⟩) (show ([4, 3, 0, 1, 2] : List Nat).Nodup by decide) ?_
        rw [tws_s he hsr, decide_eq_false (of_decide_eq_true h65), Bool.false_and, Bool.false_or]
        exact ih (i + 1) (by omega) (by omega) hinv2
      · refine At.go (q := xm199) rfl 2 (pc' := 70) (L' := [(4, .int (Int32.ofNat i)), (3, .int (Int32.ofNat a)), (0, .ref s), (1, .ref t), (2, .int lb)]) (st' := [.ref s, .ref s]) rfl ?_
        refine At.gf rfl (by decide) hs0 rfl ?_
        refine At.go (q := xm199) rfl 1 (pc' := 75) (L' := [(4, .int (Int32.ofNat i)), (3, .int (Int32.ofNat a)), (0, .ref s), (1, .ref t), (2, .int lb)]) (st' := [.int (Int32.ofNat i), .ref l, .ref s]) rfl ?_
        refine At.clp (as := [.ref l, .int (Int32.ofNat i)]) (rest := [.ref s]) rfl (by decide) rfl (Nat.le_of_ble_eq_true rfl) (Nat.le_of_ble_eq_true rfl) (xrck_o (by decide) (by decide) hl0 (by decide)) (Nat.le_of_ble_eq_true rfl) (m_get hL hx0) ?_
        refine At.ca rfl hx (by decide) ?_
        refine At.go (q := xm199) rfl 2 (pc' := 84) (L' := [(4, .int (Int32.ofNat i)), (3, .int (Int32.ofNat a)), (0, .ref s), (1, .ref t), (2, .int lb)]) (st' := [.int (Int32.ofNat i), .int (Int32.ofNat a), .ref x, .ref s]) rfl ?_
        refine At.clp (as := [.ref s, .ref x, .int (Int32.ofNat a), .int (Int32.ofNat i)]) (rest := []) rfl (by decide) rfl (Nat.le_of_ble_eq_true rfl) (Nat.le_of_ble_eq_true rfl) (xrck_o (by decide) (by decide) hs0 (by decide)) (Nat.le_of_ble_eq_true rfl) (m_hasTwin hs0 hL hE hX hTi hT1 (by omega) hai) ?_
        refine At.ic1 (tgt := 92) rfl rfl (fun h87 => ?_) (fun h87 => ?_)
        · refine At.go (q := xm199) rfl 2 (pc' := 18) (L' := [(4, .int ((Int32.ofNat i) + 1)), (3, .int (Int32.ofNat a)), (0, .ref s), (1, .ref t), (2, .int lb)]) (st' := []) rfl ?_
          rw [iN_s]
          refine At.wk (L' := [(4, .int (Int32.ofNat (i + 1))), (3, .int (Int32.ofNat a)), (0, .ref s), (1, .ref t), (2, .int lb)]) (List.forall_mem_cons.mpr ⟨List.mem_of_getElem? (i := 0) rfl, (List.forall_mem_cons.mpr ⟨List.mem_of_getElem? (i := 1) rfl, (List.forall_mem_cons.mpr ⟨List.mem_of_getElem? (i := 2) rfl, (List.forall_mem_cons.mpr ⟨List.mem_of_getElem? (i := 3) rfl, (List.forall_mem_cons.mpr ⟨List.mem_of_getElem? (i := 4) rfl, (fun _ h => (List.not_mem_nil h).elim)⟩)⟩)⟩)⟩)⟩) (show ([4, 3, 0, 1, 2] : List Nat).Nodup by decide) ?_
          rw [tws_s he hsr, bI0 (of_decide_eq_true h87), Bool.and_false, Bool.false_or]
          exact ih (i + 1) (by omega) (by omega) hinv2
        · refine At.go (q := xm199) rfl 1 (pc' := 91) (L' := [(4, .int (Int32.ofNat i)), (3, .int (Int32.ofNat a)), (0, .ref s), (1, .ref t), (2, .int lb)]) (st' := [.int 1]) rfl ?_
          exact At.rt rfl rfl (by rw [tws_s he hsr, decide_eq_true (xne_f h65), bI1 (of_decide_eq_false h87)]; rfl)
/-- hasTwins -/
theorem m_hasTwins {S : List Int32} {hp : List XC} {s l t : Nat} {as : List Nat} {es : List En} {T : Tb} {sr lb : Int32} (hs0 : hp[s]? = some (.inr (10, [.ref l]))) (hL : hLs hp l as) (hE : hEs hp as es) (hT : hTb hp t sr T) (hT1 : 1 ≤ T.2.2.1.length) (hsame : ∀ f ∈ es, f.1 = sr → f.2.2.2.2.2 = t) (hs : Srt es) : Pu S 4 199 [.ref s, .ref t, .int lb] hp (bv (hasTwsE T es sr lb)) := by
  obtain ⟨lf, hl0⟩ := hL.ob
  obtain ⟨tf, ht⟩ : ∃ tf, hp[t]? = some (.inr (13, .int sr :: tf)) := by
    obtain ⟨ca, ka, ra, ga, chk, dv, ht, -⟩ := hT
    exact ⟨_, ht⟩
  refine At.go (q := xm199) rfl 1 (pc' := 1) (L' := [(0, .ref s), (1, .ref t), (2, .int lb)]) (st' := [.ref s]) rfl ?_
  refine At.gf rfl (by decide) hs0 rfl ?_
  refine At.go (q := xm199) rfl 1 (pc' := 5) (L' := [(0, .ref s), (1, .ref t), (2, .int lb)]) (st' := [.ref t, .ref l]) rfl ?_
  refine At.gf rfl (by decide) ht rfl ?_
  refine At.go (q := xm199) rfl 2 (pc' := 11) (L' := [(0, .ref s), (1, .ref t), (2, .int lb)]) (st' := [.int 0, .int (-1000000000), .int sr, .ref l]) rfl ?_
  refine At.clp (as := [.ref l, .int sr, .int (-1000000000), .int 0]) (rest := []) rfl (by decide) rfl (Nat.le_of_ble_eq_true rfl) (Nat.le_of_ble_eq_true rfl) rfl (Nat.le_of_ble_eq_true rfl) (m_placeIn hL hE hs (sr, -1000000000, 0)) ?_
  refine At.go (q := xm199) rfl 3 (pc' := 18) (L' := [(4, .int (Int32.ofNat (plc es (sr, -1000000000, 0)))), (3, .int (Int32.ofNat (plc es (sr, -1000000000, 0)))), (0, .ref s), (1, .ref t), (2, .int lb)]) (st' := []) rfl ?_
  refine At.wk (L' := [(4, .int (Int32.ofNat (plc es (sr, -1000000000, 0)))), (3, .int (Int32.ofNat (plc es (sr, -1000000000, 0)))), (0, .ref s), (1, .ref t), (2, .int lb)]) (List.forall_mem_cons.mpr ⟨List.mem_of_getElem? (i := 0) rfl, (List.forall_mem_cons.mpr ⟨List.mem_of_getElem? (i := 1) rfl, (List.forall_mem_cons.mpr ⟨List.mem_of_getElem? (i := 2) rfl, (List.forall_mem_cons.mpr ⟨List.mem_of_getElem? (i := 3) rfl, (List.forall_mem_cons.mpr ⟨List.mem_of_getElem? (i := 4) rfl, (fun _ h => (List.not_mem_nil h).elim)⟩)⟩)⟩)⟩)⟩) (show ([4, 3, 0, 1, 2] : List Nat).Nodup by decide) ?_
  exact tws_loop hs0 hL hE hT hT1 hsame _ _ (by have := plc_le (es := es) (p := (sr, -1000000000, 0)); omega) (Nat.le_refl _) (fun m f h1 h2 => absurd h1 (by omega))
def chsFrom (es : List En) (lb : Int32) (a b i : Nat) : Bool := ((es.drop i).take (b - i)).any (fun e => chsIn es e lb a b)
/-- whether a row of a key is chosen by a label -/
def hasChE (es : List En) (sr k lb : Int32) : Bool := match es[plc es (sr, k, 0)]? with
  | some e => sameK (sr, k, 0, false, [], 0) e && chsFrom es lb (plc es (sr, k, 0)) (plc es (sr, k, 0) + 1 + runK es e (plc es (sr, k, 0) + 1)) (plc es (sr, k, 0))
  | none => false
theorem hasChE_s {es : List En} {sr k lb : Int32} {e : En} (he : es[plc es (sr, k, 0)]? = some e) : hasChE es sr k lb = (sameK (sr, k, 0, false, [], 0) e && chsFrom es lb (plc es (sr, k, 0)) (plc es (sr, k, 0) + 1 + runK es e (plc es (sr, k, 0) + 1)) (plc es (sr, k, 0))) := by
  unfold hasChE
  rw [he]
theorem hasChE_n {es : List En} {sr k lb : Int32} (he : es[plc es (sr, k, 0)]? = none) : hasChE es sr k lb = false := by
  unfold hasChE
  rw [he]
theorem hch_loop {nc ns a b : Nat} {S : List Int32} {hp : List XC} {s l : Nat} {as : List Nat} {es : List En} {lb : Int32} (hs0 : hp[s]? = some (.inr (10, [.ref l]))) (hL : hLs hp l as) (hE : hEs hp as es) (hb : b ≤ es.length) : ∀ (j i : Nat), i + j = b → a ≤ i →
    At S 4 197 60 [(7, .int (Int32.ofNat i)), (6, .int (Int32.ofNat b)), (4, .int (Int32.ofNat a)), (0, .ref s), (3, .int lb)] [] hp nc ns (fun o => o = .inl (some (bv (chsFrom es lb a b i)), hp, nc, ns)) := by
  obtain ⟨lf, hl0⟩ := hL.ob
  have hbn := hL.len
  have hle := hE.1
  intro j
  induction j with
  | zero =>
    intro i hi hai
    refine At.go (q := xm197) rfl 2 (pc' := 64) (L' := [(7, .int (Int32.ofNat i)), (6, .int (Int32.ofNat b)), (4, .int (Int32.ofNat a)), (0, .ref s), (3, .int lb)]) (st' := [.int (Int32.ofNat b), .int (Int32.ofNat i)]) rfl ?_
    refine At.ic2 (tgt := 111) rfl rfl (fun _ => ?_) (fun h => absurd ((iN_le (by omega) (by omega)).mpr (show b ≤ i by omega)) (of_decide_eq_false h))
    refine At.go (q := xm197) rfl 1 (pc' := 112) (L' := [(7, .int (Int32.ofNat i)), (6, .int (Int32.ofNat b)), (4, .int (Int32.ofNat a)), (0, .ref s), (3, .int lb)]) (st' := [.int 0]) rfl ?_
    exact At.rt rfl rfl (by unfold chsFrom; rw [seg_0 (by omega)]; rfl)
  | succ j ih =>
    intro i hi hai
    obtain ⟨e, he⟩ : ∃ e, es[i]? = some e := ⟨_, List.getElem?_eq_getElem (by omega)⟩
    obtain ⟨x, hx0, hX⟩ := hE.get he
    have hX9 := hX
    obtain ⟨c, fs, hx, -, -, hxt⟩ := hX9
    refine At.go (q := xm197) rfl 2 (pc' := 64) (L' := [(7, .int (Int32.ofNat i)), (6, .int (Int32.ofNat b)), (4, .int (Int32.ofNat a)), (0, .ref s), (3, .int lb)]) (st' := [.int (Int32.ofNat b), .int (Int32.ofNat i)]) rfl ?_
    refine At.ic2 (tgt := 111) rfl rfl (fun h => absurd ((iN_le (by omega) (by omega)).mp (of_decide_eq_true h)) (by omega)) (fun _ => ?_)
    refine At.go (q := xm197) rfl 2 (pc' := 70) (L' := [(7, .int (Int32.ofNat i)), (6, .int (Int32.ofNat b)), (4, .int (Int32.ofNat a)), (0, .ref s), (3, .int lb)]) (st' := [.ref s, .int (Int32.ofNat i)]) rfl ?_
    refine At.gf rfl (by decide) hs0 rfl ?_
    refine At.clp (as := [.ref l]) (rest := [.int (Int32.ofNat i)]) rfl (by decide) rfl (Nat.le_of_ble_eq_true rfl) (Nat.le_of_ble_eq_true rfl) (xrck_o (by decide) (by decide) hl0 (by decide)) (Nat.le_of_ble_eq_true rfl) (m_size hL) ?_
    refine At.ic2 (tgt := 111) rfl rfl (fun h => absurd ((iN_le (by omega) (by omega)).mp (of_decide_eq_true h)) (by omega)) (fun _ => ?_)
    refine At.go (q := xm197) rfl 2 (pc' := 81) (L' := [(7, .int (Int32.ofNat i)), (6, .int (Int32.ofNat b)), (4, .int (Int32.ofNat a)), (0, .ref s), (3, .int lb)]) (st' := [.ref s, .ref s]) rfl ?_
    refine At.gf rfl (by decide) hs0 rfl ?_
    refine At.go (q := xm197) rfl 1 (pc' := 86) (L' := [(7, .int (Int32.ofNat i)), (6, .int (Int32.ofNat b)), (4, .int (Int32.ofNat a)), (0, .ref s), (3, .int lb)]) (st' := [.int (Int32.ofNat i), .ref l, .ref s]) rfl ?_
    refine At.clp (as := [.ref l, .int (Int32.ofNat i)]) (rest := [.ref s]) rfl (by decide) rfl (Nat.le_of_ble_eq_true rfl) (Nat.le_of_ble_eq_true rfl) (xrck_o (by decide) (by decide) hl0 (by decide)) (Nat.le_of_ble_eq_true rfl) (m_get hL hx0) ?_
    refine At.ca rfl hx (by decide) ?_
    refine At.go (q := xm197) rfl 3 (pc' := 97) (L' := [(7, .int (Int32.ofNat i)), (6, .int (Int32.ofNat b)), (4, .int (Int32.ofNat a)), (0, .ref s), (3, .int lb)]) (st' := [.int lb, .int (Int32.ofNat b), .int (Int32.ofNat a), .ref x, .ref s]) rfl ?_
    refine At.clp (as := [.ref s, .ref x, .int (Int32.ofNat a), .int (Int32.ofNat b), .int lb]) (rest := []) rfl (by decide) rfl (Nat.le_of_ble_eq_true rfl) (Nat.le_of_ble_eq_true rfl) (xrck_o (by decide) (by decide) hs0 (by decide)) (Nat.le_of_ble_eq_true rfl) (m_isChosen hs0 hL hE hX hb (by omega)) ?_
    refine At.ic1 (tgt := 105) rfl rfl (fun h100 => ?_) (fun h100 => ?_)
    · refine At.go (q := xm197) rfl 2 (pc' := 60) (L' := [(7, .int ((Int32.ofNat i) + 1)), (6, .int (Int32.ofNat b)), (4, .int (Int32.ofNat a)), (0, .ref s), (3, .int lb)]) (st' := []) rfl ?_
      rw [iN_s]
      refine At.wk (L' := [(7, .int (Int32.ofNat (i + 1))), (6, .int (Int32.ofNat b)), (4, .int (Int32.ofNat a)), (0, .ref s), (3, .int lb)]) (List.forall_mem_cons.mpr ⟨List.mem_of_getElem? (i := 0) rfl, (List.forall_mem_cons.mpr ⟨List.mem_of_getElem? (i := 1) rfl, (List.forall_mem_cons.mpr ⟨List.mem_of_getElem? (i := 2) rfl, (List.forall_mem_cons.mpr ⟨List.mem_of_getElem? (i := 3) rfl, (List.forall_mem_cons.mpr ⟨List.mem_of_getElem? (i := 4) rfl, (fun _ h => (List.not_mem_nil h).elim)⟩)⟩)⟩)⟩)⟩) (show ([7, 6, 4, 0, 3] : List Nat).Nodup by decide) ?_
      have hq : chsFrom es lb a b i = chsFrom es lb a b (i + 1) := by unfold chsFrom; rw [seg_s (by omega) he, bI0 (of_decide_eq_true h100), Bool.false_or]
      rw [hq]
      exact ih (i + 1) (by omega) (by omega)
    · refine At.go (q := xm197) rfl 1 (pc' := 104) (L' := [(7, .int (Int32.ofNat i)), (6, .int (Int32.ofNat b)), (4, .int (Int32.ofNat a)), (0, .ref s), (3, .int lb)]) (st' := [.int 1]) rfl ?_
      exact At.rt rfl rfl (by unfold chsFrom; rw [seg_s (by omega) he, bI1 (of_decide_eq_false h100)]; rfl)
/-- hasChosen -/
theorem m_hasChosen {S : List Int32} {hp : List XC} {s l : Nat} {as : List Nat} {es : List En} {lb : Int32} (hs0 : hp[s]? = some (.inr (10, [.ref l]))) (hL : hLs hp l as) (hE : hEs hp as es) {t : Nat} {tf : List Value} {sr k : Int32} (ht : hp[t]? = some (.inr (13, .int sr :: tf))) (hs : Srt es) : Pu S 5 197 [.ref s, .ref t, .int k, .int lb] hp (bv (hasChE es sr k lb)) := by
  obtain ⟨lf, hl0⟩ := hL.ob
  have hbn := hL.len
  have hle := hE.1
  cases he : es[plc es (sr, k, 0)]? with
  | none =>
    have hi9 : as.length ≤ plc es (sr, k, 0) := by rw [hE.1]; exact List.getElem?_eq_none_iff.mp he
    refine At.go (q := xm197) rfl 1 (pc' := 1) (L' := [(0, .ref s), (1, .ref t), (2, .int k), (3, .int lb)]) (st' := [.ref s]) rfl ?_
    refine At.gf rfl (by decide) hs0 rfl ?_
    refine At.go (q := xm197) rfl 1 (pc' := 5) (L' := [(0, .ref s), (1, .ref t), (2, .int k), (3, .int lb)]) (st' := [.ref t, .ref l]) rfl ?_
    refine At.gf rfl (by decide) ht rfl ?_
    refine At.go (q := xm197) rfl 2 (pc' := 10) (L' := [(0, .ref s), (1, .ref t), (2, .int k), (3, .int lb)]) (st' := [.int 0, .int k, .int sr, .ref l]) rfl ?_
    refine At.clp (as := [.ref l, .int sr, .int k, .int 0]) (rest := []) rfl (by decide) rfl (Nat.le_of_ble_eq_true rfl) (Nat.le_of_ble_eq_true rfl) rfl (Nat.le_of_ble_eq_true rfl) (m_placeIn hL hE hs (sr, k, 0)) ?_
    refine At.go (q := xm197) rfl 3 (pc' := 18) (L' := [(4, .int (Int32.ofNat (plc es (sr, k, 0)))), (0, .ref s), (1, .ref t), (2, .int k), (3, .int lb)]) (st' := [.int (Int32.ofNat (plc es (sr, k, 0))), .ref s]) rfl ?_
    refine At.clp (as := [.ref s, .int (Int32.ofNat (plc es (sr, k, 0)))]) (rest := []) rfl (by decide) rfl (Nat.le_of_ble_eq_true rfl) (Nat.le_of_ble_eq_true rfl) (xrck_o (by decide) (by decide) hs0 (by decide)) (Nat.le_of_ble_eq_true rfl) (m_shget0 hs0 hL hi9 (by have := plc_le (es := es) (p := (sr, k, 0)); omega)) ?_
    refine At.go (q := xm197) rfl 4 (pc' := 47) (L' := [(5, .null), (4, .int (Int32.ofNat (plc es (sr, k, 0)))), (0, .ref s), (1, .ref t), (2, .int k), (3, .int lb)]) (st' := [.int 0]) rfl ?_
    exact At.rt rfl rfl (by rw [hasChE_n he]; rfl)
  | some e =>
    obtain ⟨x, hx0, hX⟩ := hE.get he
    obtain ⟨c, fs, hx, -, -, hxt⟩ := hX
    have hrl := runK_le (es := es) (e := e) (k := plc es (sr, k, 0) + 1)
    have hil := (List.getElem?_eq_some_iff.mp he).1
    have hbl : plc es (sr, k, 0) + 1 + runK es e (plc es (sr, k, 0) + 1) ≤ es.length := by omega
    refine At.go (q := xm197) rfl 1 (pc' := 1) (L' := [(0, .ref s), (1, .ref t), (2, .int k), (3, .int lb)]) (st' := [.ref s]) rfl ?_
    refine At.gf rfl (by decide) hs0 rfl ?_
    refine At.go (q := xm197) rfl 1 (pc' := 5) (L' := [(0, .ref s), (1, .ref t), (2, .int k), (3, .int lb)]) (st' := [.ref t, .ref l]) rfl ?_
    refine At.gf rfl (by decide) ht rfl ?_
    refine At.go (q := xm197) rfl 2 (pc' := 10) (L' := [(0, .ref s), (1, .ref t), (2, .int k), (3, .int lb)]) (st' := [.int 0, .int k, .int sr, .ref l]) rfl ?_
    refine At.clp (as := [.ref l, .int sr, .int k, .int 0]) (rest := []) rfl (by decide) rfl (Nat.le_of_ble_eq_true rfl) (Nat.le_of_ble_eq_true rfl) rfl (Nat.le_of_ble_eq_true rfl) (m_placeIn hL hE hs (sr, k, 0)) ?_
    refine At.go (q := xm197) rfl 3 (pc' := 18) (L' := [(4, .int (Int32.ofNat (plc es (sr, k, 0)))), (0, .ref s), (1, .ref t), (2, .int k), (3, .int lb)]) (st' := [.int (Int32.ofNat (plc es (sr, k, 0))), .ref s]) rfl ?_
    refine At.clp (as := [.ref s, .int (Int32.ofNat (plc es (sr, k, 0)))]) (rest := []) rfl (by decide) rfl (Nat.le_of_ble_eq_true rfl) (Nat.le_of_ble_eq_true rfl) (xrck_o (by decide) (by decide) hs0 (by decide)) (Nat.le_of_ble_eq_true rfl) (m_shget hs0 hL hx0 hx) ?_
    refine At.go (q := xm197) rfl 4 (pc' := 30) (L' := [(5, .ref x), (4, .int (Int32.ofNat (plc es (sr, k, 0)))), (0, .ref s), (1, .ref t), (2, .int k), (3, .int lb)]) (st' := [.ref x]) rfl ?_
    refine At.gf rfl (by decide) hx rfl ?_
    refine At.go (q := xm197) rfl 1 (pc' := 34) (L' := [(5, .ref x), (4, .int (Int32.ofNat (plc es (sr, k, 0)))), (0, .ref s), (1, .ref t), (2, .int k), (3, .int lb)]) (st' := [.int k, .int e.2.1]) rfl ?_
    refine At.ic2 (tgt := 46) rfl rfl (fun h34 => ?_) (fun h34 => ?_)
    · refine At.go (q := xm197) rfl 1 (pc' := 47) (L' := [(5, .ref x), (4, .int (Int32.ofNat (plc es (sr, k, 0)))), (0, .ref s), (1, .ref t), (2, .int k), (3, .int lb)]) (st' := [.int 0]) rfl ?_
      exact At.rt rfl rfl (by rw [hasChE_s he]; unfold sameK; rw [decide_eq_false (of_decide_eq_true h34)]; rfl)
    · refine At.go (q := xm197) rfl 2 (pc' := 40) (L' := [(5, .ref x), (4, .int (Int32.ofNat (plc es (sr, k, 0)))), (0, .ref s), (1, .ref t), (2, .int k), (3, .int lb)]) (st' := [.ref t, .ref x]) rfl ?_
      refine At.clp (as := [.ref x, .ref t]) (rest := []) rfl (by decide) rfl (Nat.le_of_ble_eq_true rfl) (Nat.le_of_ble_eq_true rfl) (xrck_o (by decide) (by decide) hx (by decide)) (Nat.le_of_ble_eq_true rfl) (m_isOf hx hxt ht) ?_
      refine At.ic1 (tgt := 48) rfl rfl (fun h43 => ?_) (fun h43 => ?_)
      · have hk9 : sameK (sr, k, 0, false, [], 0) e = true := by unfold sameK; rw [decide_eq_true (xne_f h34), bI1 (of_decide_eq_true h43)]; rfl
        refine At.go (q := xm197) rfl 2 (pc' := 51) (L' := [(5, .ref x), (4, .int (Int32.ofNat (plc es (sr, k, 0)))), (0, .ref s), (1, .ref t), (2, .int k), (3, .int lb)]) (st' := [.int (Int32.ofNat (plc es (sr, k, 0))), .ref s]) rfl ?_
        refine At.clp (as := [.ref s, .int (Int32.ofNat (plc es (sr, k, 0)))]) (rest := []) rfl (by decide) rfl (Nat.le_of_ble_eq_true rfl) (Nat.le_of_ble_eq_true rfl) (xrck_o (by decide) (by decide) hs0 (by decide)) (Nat.le_of_ble_eq_true rfl) (m_endOfKey hs0 hL hE he) ?_
        refine At.go (q := xm197) rfl 3 (pc' := 60) (L' := [(7, .int (Int32.ofNat (plc es (sr, k, 0)))), (6, .int (Int32.ofNat ((plc es (sr, k, 0)) + 1 + runK es e ((plc es (sr, k, 0)) + 1)))), (5, .ref x), (4, .int (Int32.ofNat (plc es (sr, k, 0)))), (0, .ref s), (1, .ref t), (2, .int k), (3, .int lb)]) (st' := []) rfl ?_
        refine At.wk (L' := [(7, .int (Int32.ofNat (plc es (sr, k, 0)))), (6, .int (Int32.ofNat ((plc es (sr, k, 0)) + 1 + runK es e ((plc es (sr, k, 0)) + 1)))), (4, .int (Int32.ofNat (plc es (sr, k, 0)))), (0, .ref s), (3, .int lb)]) (List.forall_mem_cons.mpr ⟨List.mem_of_getElem? (i := 0) rfl, (List.forall_mem_cons.mpr ⟨List.mem_of_getElem? (i := 1) rfl, (List.forall_mem_cons.mpr ⟨List.mem_of_getElem? (i := 3) rfl, (List.forall_mem_cons.mpr ⟨List.mem_of_getElem? (i := 4) rfl, (List.forall_mem_cons.mpr ⟨List.mem_of_getElem? (i := 7) rfl, (fun _ h => (List.not_mem_nil h).elim)⟩)⟩)⟩)⟩)⟩) (show ([7, 6, 5, 4, 0, 1, 2, 3] : List Nat).Nodup by decide) ?_
        rw [hasChE_s he, hk9, Bool.true_and]
        exact (hch_loop hs0 hL hE hbl _ (plc es (sr, k, 0)) (Nat.add_sub_cancel' (show (plc es (sr, k, 0)) ≤ (plc es (sr, k, 0)) + 1 + runK es e ((plc es (sr, k, 0)) + 1) by omega)) (Nat.le_refl _)).deep (by decide)
      · refine At.go (q := xm197) rfl 1 (pc' := 47) (L' := [(5, .ref x), (4, .int (Int32.ofNat (plc es (sr, k, 0)))), (0, .ref s), (1, .ref t), (2, .int k), (3, .int lb)]) (st' := [.int 0]) rfl ?_
        exact At.rt rfl rfl (by rw [hasChE_s he]; unfold sameK; rw [bI0 (xne_f h43), Bool.and_false]; rfl)
