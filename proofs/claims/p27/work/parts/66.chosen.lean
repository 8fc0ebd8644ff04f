/-! shelves: the end of a key, what is chosen (written by wip/p27/c66.py) -/
def sameK (e f : En) : Bool := decide (f.2.1 = e.2.1) && decide (f.1 = e.1)
/-- how many of e's key stand from an index on -/
def runK (es : List En) (e : En) (k : Nat) : Nat := ((es.drop k).takeWhile (sameK e)).length
theorem runK_t {es : List En} {e f : En} {k : Nat} (hf : es[k]? = some f) (h : sameK e f = true) : runK es e k = 1 + runK es e (k + 1) := by
  unfold runK
  have h2 := (List.getElem?_eq_some_iff.mp hf).1
  rw [List.drop_eq_getElem_cons h2]
  have h3 : es[k] = f := by rw [List.getElem?_eq_getElem h2] at hf; exact Option.some.inj hf
  rw [h3, List.takeWhile_cons_of_pos h, List.length_cons, Nat.add_comm]
theorem runK_f {es : List En} {e f : En} {k : Nat} (hf : es[k]? = some f) (h : sameK e f = false) : runK es e k = 0 := by
  unfold runK
  have h2 := (List.getElem?_eq_some_iff.mp hf).1
  rw [List.drop_eq_getElem_cons h2]
  have h3 : es[k] = f := by rw [List.getElem?_eq_getElem h2] at hf; exact Option.some.inj hf
  rw [h3, List.takeWhile_cons_of_neg (by rw [h]; decide)]
  rfl
theorem runK_e {es : List En} {e : En} {k : Nat} (h : es.length ≤ k) : runK es e k = 0 := by
  unfold runK
  rw [List.drop_eq_nil_of_le h]
  rfl
theorem runK_le {es : List En} {e : En} {k : Nat} : runK es e k ≤ es.length - k := by
  unfold runK
  exact Nat.le_trans (List.takeWhile_sublist _).length_le (by rw [List.length_drop]; exact Nat.le_refl _)
theorem eok_loop {nc ns : Nat} {S : List Int32} {hp : List XC} {s l x : Nat} {as : List Nat} {es : List En} {e : En} (hs0 : hp[s]? = some (.inr (10, [.ref l]))) (hL : hLs hp l as) (hE : hEs hp as es) (hX : hEn hp x e) : ∀ (j k : Nat), k + j = es.length →
    At S 3 120 18 [(3, .int (Int32.ofNat k)), (0, .ref s), (2, .ref x)] [] hp nc ns (fun o => o = .inl (some (.int (Int32.ofNat (k + runK es e k))), hp, nc, ns)) := by
  obtain ⟨lf, hl0⟩ := hL.ob
  have hbn := hL.len
  have hle := hE.1
  obtain ⟨c, fs, hx, -, -, hxt⟩ := hX
  intro j
  induction j with
  | zero =>
    intro k hk
    refine At.go (q := xm120) rfl 2 (pc' := 20) (L' := [(3, .int (Int32.ofNat k)), (0, .ref s), (2, .ref x)]) (st' := [.ref s, .int (Int32.ofNat k)]) rfl ?_
    refine At.gf rfl (by decide) hs0 rfl ?_
    refine At.clp (as := [.ref l]) (rest := [.int (Int32.ofNat k)]) rfl (by decide) rfl (Nat.le_of_ble_eq_true rfl) (Nat.le_of_ble_eq_true rfl) (xrck_o (by decide) (by decide) hl0 (by decide)) (Nat.le_of_ble_eq_true rfl) (m_size hL) ?_
    refine At.ic2 (tgt := 77) rfl rfl (fun _ => ?_) (fun h => absurd ((iN_le (by omega) (by omega)).mpr (show as.length ≤ k by omega)) (of_decide_eq_false h))
    refine At.go (q := xm120) rfl 1 (pc' := 78) (L' := [(3, .int (Int32.ofNat k)), (0, .ref s), (2, .ref x)]) (st' := [.int (Int32.ofNat k)]) rfl ?_
    exact At.rt rfl (xret_i rfl) (by rw [runK_e (by omega)]; rfl)
  | succ j ih =>
    intro k hk
    obtain ⟨f, hf⟩ : ∃ f, es[k]? = some f := ⟨_, List.getElem?_eq_getElem (by omega)⟩
    obtain ⟨w, hw0, h9⟩ := hE.get hf
    obtain ⟨d, gs, hw, -, -, hwt⟩ := h9
    refine At.go (q := xm120) rfl 2 (pc' := 20) (L' := [(3, .int (Int32.ofNat k)), (0, .ref s), (2, .ref x)]) (st' := [.ref s, .int (Int32.ofNat k)]) rfl ?_
    refine At.gf rfl (by decide) hs0 rfl ?_
    refine At.clp (as := [.ref l]) (rest := [.int (Int32.ofNat k)]) rfl (by decide) rfl (Nat.le_of_ble_eq_true rfl) (Nat.le_of_ble_eq_true rfl) (xrck_o (by decide) (by decide) hl0 (by decide)) (Nat.le_of_ble_eq_true rfl) (m_size hL) ?_
    refine At.ic2 (tgt := 77) rfl rfl (fun h => absurd ((iN_le (by omega) (by omega)).mp (of_decide_eq_true h)) (by omega)) (fun _ => ?_)
    refine At.go (q := xm120) rfl 1 (pc' := 30) (L' := [(3, .int (Int32.ofNat k)), (0, .ref s), (2, .ref x)]) (st' := [.ref s]) rfl ?_
    refine At.gf rfl (by decide) hs0 rfl ?_
    refine At.go (q := xm120) rfl 1 (pc' := 34) (L' := [(3, .int (Int32.ofNat k)), (0, .ref s), (2, .ref x)]) (st' := [.int (Int32.ofNat k), .ref l]) rfl ?_
    refine At.clp (as := [.ref l, .int (Int32.ofNat k)]) (rest := []) rfl (by decide) rfl (Nat.le_of_ble_eq_true rfl) (Nat.le_of_ble_eq_true rfl) (xrck_o (by decide) (by decide) hl0 (by decide)) (Nat.le_of_ble_eq_true rfl) (m_get hL hw0) ?_
    refine At.ca rfl hw (by decide) ?_
    refine At.gf rfl (by decide) hw rfl ?_
    refine At.go (q := xm120) rfl 1 (pc' := 44) (L' := [(3, .int (Int32.ofNat k)), (0, .ref s), (2, .ref x)]) (st' := [.ref x, .int f.2.1]) rfl ?_
    refine At.gf rfl (by decide) hx rfl ?_
    refine At.ic2 (tgt := 77) rfl rfl (fun h47 => ?_) (fun h47 => ?_)
    · refine At.go (q := xm120) rfl 1 (pc' := 78) (L' := [(3, .int (Int32.ofNat k)), (0, .ref s), (2, .ref x)]) (st' := [.int (Int32.ofNat k)]) rfl ?_
      exact At.rt rfl (xret_i rfl) (by rw [runK_f hf (by unfold sameK; rw [decide_eq_false (of_decide_eq_true h47)]; rfl)]; rfl)
    · refine At.go (q := xm120) rfl 1 (pc' := 51) (L' := [(3, .int (Int32.ofNat k)), (0, .ref s), (2, .ref x)]) (st' := [.ref s]) rfl ?_
      refine At.gf rfl (by decide) hs0 rfl ?_
      refine At.go (q := xm120) rfl 1 (pc' := 55) (L' := [(3, .int (Int32.ofNat k)), (0, .ref s), (2, .ref x)]) (st' := [.int (Int32.ofNat k), .ref l]) rfl ?_
      refine At.clp (as := [.ref l, .int (Int32.ofNat k)]) (rest := []) rfl (by decide) rfl (Nat.le_of_ble_eq_true rfl) (Nat.le_of_ble_eq_true rfl) (xrck_o (by decide) (by decide) hl0 (by decide)) (Nat.le_of_ble_eq_true rfl) (m_get hL hw0) ?_
      refine At.ca rfl hw (by decide) ?_
      refine At.go (q := xm120) rfl 1 (pc' := 62) (L' := [(3, .int (Int32.ofNat k)), (0, .ref s), (2, .ref x)]) (st' := [.ref x, .ref w]) rfl ?_
      refine At.gf rfl (by decide) hx rfl ?_
      refine At.clp (as := [.ref w, .ref e.2.2.2.2.2]) (rest := []) rfl (by decide) rfl (Nat.le_of_ble_eq_true rfl) (Nat.le_of_ble_eq_true rfl) (xrck_o (by decide) (by decide) hw (by decide)) (Nat.le_of_ble_eq_true rfl) (m_isOf hw hwt hxt) ?_
      refine At.ic1 (tgt := 77) rfl rfl (fun h68 => ?_) (fun h68 => ?_)
      · refine At.go (q := xm120) rfl 1 (pc' := 78) (L' := [(3, .int (Int32.ofNat k)), (0, .ref s), (2, .ref x)]) (st' := [.int (Int32.ofNat k)]) rfl ?_
        exact At.rt rfl (xret_i rfl) (by rw [runK_f hf (by unfold sameK; rw [bI0 (of_decide_eq_true h68), Bool.and_false])]; rfl)
      · refine At.go (q := xm120) rfl 2 (pc' := 18) (L' := [(3, .int ((Int32.ofNat k) + 1)), (0, .ref s), (2, .ref x)]) (st' := []) rfl ?_
        rw [iN_s]
        refine At.wk (L' := [(3, .int (Int32.ofNat (k + 1))), (0, .ref s), (2, .ref x)]) (List.forall_mem_cons.mpr ⟨List.mem_of_getElem? (i := 0) rfl, (List.forall_mem_cons.mpr ⟨List.mem_of_getElem? (i := 1) rfl, (List.forall_mem_cons.mpr ⟨List.mem_of_getElem? (i := 2) rfl, (fun _ h => (List.not_mem_nil h).elim)⟩)⟩)⟩) (show ([3, 0, 2] : List Nat).Nodup by decide) ?_
        rw [runK_t hf (by unfold sameK; rw [decide_eq_true (xne_f h47), bI1 (of_decide_eq_false h68)]; rfl), show k + (1 + runK es e (k + 1)) = k + 1 + runK es e (k + 1) by omega]
        exact ih (k + 1) (by omega)
/-- endOfKey -/
theorem m_endOfKey {S : List Int32} {hp : List XC} {s l : Nat} {as : List Nat} {es : List En} {e : En} (hs0 : hp[s]? = some (.inr (10, [.ref l]))) (hL : hLs hp l as) (hE : hEs hp as es) {i : Nat} (he : es[i]? = some e) : Pu S 4 120 [.ref s, .int (Int32.ofNat i)] hp (.int (Int32.ofNat (i + 1 + runK es e (i + 1)))) := by
  obtain ⟨x, hx0, hX⟩ := hE.get he
  have hX9 := hX
  obtain ⟨c, fs, hx, -, -, hxt⟩ := hX9
  refine At.go (q := xm120) rfl 2 (pc' := 2) (L' := [(0, .ref s), (1, .int (Int32.ofNat i))]) (st' := [.int (Int32.ofNat i), .ref s]) rfl ?_
  refine At.clp (as := [.ref s, .int (Int32.ofNat i)]) (rest := []) rfl (by decide) rfl (Nat.le_of_ble_eq_true rfl) (Nat.le_of_ble_eq_true rfl) (xrck_o (by decide) (by decide) hs0 (by decide)) (Nat.le_of_ble_eq_true rfl) (m_shget hs0 hL hx0 hx) ?_
  refine At.go (q := xm120) rfl 7 (pc' := 18) (L' := [(3, .int ((Int32.ofNat i) + 1)), (2, .ref x), (0, .ref s), (1, .int (Int32.ofNat i))]) (st' := []) rfl ?_
  rw [iN_s]
  refine At.wk (L' := [(3, .int (Int32.ofNat (i + 1))), (0, .ref s), (2, .ref x)]) (List.forall_mem_cons.mpr ⟨List.mem_of_getElem? (i := 0) rfl, (List.forall_mem_cons.mpr ⟨List.mem_of_getElem? (i := 2) rfl, (List.forall_mem_cons.mpr ⟨List.mem_of_getElem? (i := 1) rfl, (fun _ h => (List.not_mem_nil h).elim)⟩)⟩)⟩) (show ([3, 2, 0, 1] : List Nat).Nodup by decide) ?_
  exact (eok_loop hs0 hL hE hX (es.length - (i + 1)) (i + 1) (by have := (List.getElem?_eq_some_iff.mp he).1; omega)).deep (by decide)
/-- whether another entry of the key covers it -/
def covers9 (e : En) (lb : Int32) (f : En) : Bool := decide (f.2.2.1 ≠ e.2.2.1) && (isB e.2.2.1 f.2.2.1 && isB f.2.2.1 lb)
def anyIn (es : List En) (e : En) (lb : Int32) (i b : Nat) : Bool := ((es.drop i).take (b - i)).any (covers9 e lb)
def chsIn (es : List En) (e : En) (lb : Int32) (a b : Nat) : Bool := !e.2.2.2.1 && isB e.2.2.1 lb && !anyIn es e lb a b
theorem anyIn_0 {es : List En} {e : En} {lb : Int32} {i b : Nat} (h : b ≤ i) : anyIn es e lb i b = false := by
  unfold anyIn
  rw [show b - i = 0 by omega]
  rfl
theorem anyIn_s {es : List En} {e f : En} {lb : Int32} {i b : Nat} (h : i < b) (hf : es[i]? = some f) : anyIn es e lb i b = (covers9 e lb f || anyIn es e lb (i + 1) b) := by
  unfold anyIn
  have h2 := (List.getElem?_eq_some_iff.mp hf).1
  have h3 : es[i] = f := by rw [List.getElem?_eq_getElem h2] at hf; exact Option.some.inj hf
  rw [List.drop_eq_getElem_cons h2, show b - i = (b - (i + 1)) + 1 by omega, List.take_succ_cons, List.any_cons, h3]
theorem chs_loop {nc ns b : Nat} {lb : Int32} {S : List Int32} {hp : List XC} {s l x : Nat} {as : List Nat} {es : List En} {e : En} (hs0 : hp[s]? = some (.inr (10, [.ref l]))) (hL : hLs hp l as) (hE : hEs hp as es) (hX : hEn hp x e) (hb : b ≤ es.length) : ∀ (j i : Nat), i + j = b →
    At S 3 123 28 [(5, .int (Int32.ofNat i)), (0, .ref s), (1, .ref x), (3, .int (Int32.ofNat b)), (4, .int lb)] [] hp nc ns (fun o => o = .inl (some (bv (!anyIn es e lb i b)), hp, nc, ns)) := by
  obtain ⟨lf, hl0⟩ := hL.ob
  have hbn := hL.len
  have hle := hE.1
  obtain ⟨c, fs, hx, -, -, hxt⟩ := hX
  intro j
  induction j with
  | zero =>
    intro i hi
    refine At.go (q := xm123) rfl 2 (pc' := 31) (L' := [(5, .int (Int32.ofNat i)), (0, .ref s), (1, .ref x), (3, .int (Int32.ofNat b)), (4, .int lb)]) (st' := [.int (Int32.ofNat b), .int (Int32.ofNat i)]) rfl ?_
    refine At.ic2 (tgt := 102) rfl rfl (fun _ => ?_) (fun h => absurd ((iN_le (by omega) (by omega)).mpr (show b ≤ i by omega)) (of_decide_eq_false h))
    refine At.go (q := xm123) rfl 1 (pc' := 103) (L' := [(5, .int (Int32.ofNat i)), (0, .ref s), (1, .ref x), (3, .int (Int32.ofNat b)), (4, .int lb)]) (st' := [.int 1]) rfl ?_
    exact At.rt rfl rfl (by rw [anyIn_0 (by omega)]; rfl)
  | succ j ih =>
    intro i hi
    obtain ⟨f, hf⟩ : ∃ f, es[i]? = some f := ⟨_, List.getElem?_eq_getElem (by omega)⟩
    obtain ⟨w, hw0, h9⟩ := hE.get hf
    obtain ⟨d, gs, hw, -, -, hwt⟩ := h9
    refine At.go (q := xm123) rfl 2 (pc' := 31) (L' := [(5, .int (Int32.ofNat i)), (0, .ref s), (1, .ref x), (3, .int (Int32.ofNat b)), (4, .int lb)]) (st' := [.int (Int32.ofNat b), .int (Int32.ofNat i)]) rfl ?_
    refine At.ic2 (tgt := 102) rfl rfl (fun h => absurd ((iN_le (by omega) (by omega)).mp (of_decide_eq_true h)) (by omega)) (fun _ => ?_)
    refine At.go (q := xm123) rfl 2 (pc' := 37) (L' := [(5, .int (Int32.ofNat i)), (0, .ref s), (1, .ref x), (3, .int (Int32.ofNat b)), (4, .int lb)]) (st' := [.ref s, .int (Int32.ofNat i)]) rfl ?_
    refine At.gf rfl (by decide) hs0 rfl ?_
    refine At.clp (as := [.ref l]) (rest := [.int (Int32.ofNat i)]) rfl (by decide) rfl (Nat.le_of_ble_eq_true rfl) (Nat.le_of_ble_eq_true rfl) (xrck_o (by decide) (by decide) hl0 (by decide)) (Nat.le_of_ble_eq_true rfl) (m_size hL) ?_
    refine At.ic2 (tgt := 102) rfl rfl (fun h => absurd ((iN_le (by omega) (by omega)).mp (of_decide_eq_true h)) (by omega)) (fun _ => ?_)
    refine At.go (q := xm123) rfl 1 (pc' := 47) (L' := [(5, .int (Int32.ofNat i)), (0, .ref s), (1, .ref x), (3, .int (Int32.ofNat b)), (4, .int lb)]) (st' := [.ref s]) rfl ?_
    refine At.gf rfl (by decide) hs0 rfl ?_
    refine At.go (q := xm123) rfl 1 (pc' := 52) (L' := [(5, .int (Int32.ofNat i)), (0, .ref s), (1, .ref x), (3, .int (Int32.ofNat b)), (4, .int lb)]) (st' := [.int (Int32.ofNat i), .ref l]) rfl ?_
    refine At.clp (as := [.ref l, .int (Int32.ofNat i)]) (rest := []) rfl (by decide) rfl (Nat.le_of_ble_eq_true rfl) (Nat.le_of_ble_eq_true rfl) (xrck_o (by decide) (by decide) hl0 (by decide)) (Nat.le_of_ble_eq_true rfl) (m_get hL hw0) ?_
    refine At.ca rfl hw (by decide) ?_
    refine At.gf rfl (by decide) hw rfl ?_
    refine At.go (q := xm123) rfl 3 (pc' := 66) (L' := [(6, .int f.2.2.1), (5, .int (Int32.ofNat i)), (0, .ref s), (1, .ref x), (3, .int (Int32.ofNat b)), (4, .int lb)]) (st' := [.ref x, .int f.2.2.1]) rfl ?_
    refine At.gf rfl (by decide) hx rfl ?_
    refine At.ic2 (tgt := 96) rfl rfl (fun h69 => ?_) (fun h69 => ?_)
    · refine At.go (q := xm123) rfl 2 (pc' := 28) (L' := [(5, .int ((Int32.ofNat i) + 1)), (6, .int f.2.2.1), (0, .ref s), (1, .ref x), (3, .int (Int32.ofNat b)), (4, .int lb)]) (st' := []) rfl ?_
      rw [iN_s]
      refine At.wk (L' := [(5, .int (Int32.ofNat (i + 1))), (0, .ref s), (1, .ref x), (3, .int (Int32.ofNat b)), (4, .int lb)]) (List.forall_mem_cons.mpr ⟨List.mem_of_getElem? (i := 0) rfl, (List.forall_mem_cons.mpr ⟨List.mem_of_getElem? (i := 2) rfl, (List.forall_mem_cons.mpr ⟨List.mem_of_getElem? (i := 3) rfl, (List.forall_mem_cons.mpr ⟨List.mem_of_getElem? (i := 4) rfl, (List.forall_mem_cons.mpr ⟨List.mem_of_getElem? (i := 5) rfl, (fun _ h => (List.not_mem_nil h).elim)⟩)⟩)⟩)⟩)⟩) (show ([5, 6, 0, 1, 3, 4] : List Nat).Nodup by decide) ?_
      have hc : covers9 e lb f = false := by unfold covers9; rw [decide_eq_false (fun h => h (of_decide_eq_true h69))]; rfl
      rw [anyIn_s (by omega) hf, hc, Bool.false_or]
      exact ih (i + 1) (by omega)
    · refine At.go (q := xm123) rfl 1 (pc' := 73) (L' := [(6, .int f.2.2.1), (5, .int (Int32.ofNat i)), (0, .ref s), (1, .ref x), (3, .int (Int32.ofNat b)), (4, .int lb)]) (st' := [.ref x]) rfl ?_
      refine At.gf rfl (by decide) hx rfl ?_
      refine At.go (q := xm123) rfl 1 (pc' := 78) (L' := [(6, .int f.2.2.1), (5, .int (Int32.ofNat i)), (0, .ref s), (1, .ref x), (3, .int (Int32.ofNat b)), (4, .int lb)]) (st' := [.int f.2.2.1, .int e.2.2.1]) rfl ?_
      refine At.clp (as := [.int e.2.2.1, .int f.2.2.1]) (rest := []) rfl (by decide) rfl (Nat.le_of_ble_eq_true rfl) (Nat.le_of_ble_eq_true rfl) rfl (Nat.le_of_ble_eq_true rfl) (m_isBelow e.2.2.1 f.2.2.1) ?_
      refine At.ic1 (tgt := 96) rfl rfl (fun h81 => ?_) (fun h81 => ?_)
      · refine At.go (q := xm123) rfl 2 (pc' := 28) (L' := [(5, .int ((Int32.ofNat i) + 1)), (6, .int f.2.2.1), (0, .ref s), (1, .ref x), (3, .int (Int32.ofNat b)), (4, .int lb)]) (st' := []) rfl ?_
        rw [iN_s]
        refine At.wk (L' := [(5, .int (Int32.ofNat (i + 1))), (0, .ref s), (1, .ref x), (3, .int (Int32.ofNat b)), (4, .int lb)]) (List.forall_mem_cons.mpr ⟨List.mem_of_getElem? (i := 0) rfl, (List.forall_mem_cons.mpr ⟨List.mem_of_getElem? (i := 2) rfl, (List.forall_mem_cons.mpr ⟨List.mem_of_getElem? (i := 3) rfl, (List.forall_mem_cons.mpr ⟨List.mem_of_getElem? (i := 4) rfl, (List.forall_mem_cons.mpr ⟨List.mem_of_getElem? (i := 5) rfl, (fun _ h => (List.not_mem_nil h).elim)⟩)⟩)⟩)⟩)⟩) (show ([5, 6, 0, 1, 3, 4] : List Nat).Nodup by decide) ?_
        have hc : covers9 e lb f = false := by unfold covers9; rw [bI0 (of_decide_eq_true h81), Bool.false_and, Bool.and_false]
        rw [anyIn_s (by omega) hf, hc, Bool.false_or]
        exact ih (i + 1) (by omega)
      · refine At.go (q := xm123) rfl 2 (pc' := 88) (L' := [(6, .int f.2.2.1), (5, .int (Int32.ofNat i)), (0, .ref s), (1, .ref x), (3, .int (Int32.ofNat b)), (4, .int lb)]) (st' := [.int lb, .int f.2.2.1]) rfl ?_
        refine At.clp (as := [.int f.2.2.1, .int lb]) (rest := []) rfl (by decide) rfl (Nat.le_of_ble_eq_true rfl) (Nat.le_of_ble_eq_true rfl) rfl (Nat.le_of_ble_eq_true rfl) (m_isBelow f.2.2.1 lb) ?_
        refine At.ic1 (tgt := 96) rfl rfl (fun h91 => ?_) (fun h91 => ?_)
        · refine At.go (q := xm123) rfl 2 (pc' := 28) (L' := [(5, .int ((Int32.ofNat i) + 1)), (6, .int f.2.2.1), (0, .ref s), (1, .ref x), (3, .int (Int32.ofNat b)), (4, .int lb)]) (st' := []) rfl ?_
          rw [iN_s]
          refine At.wk (L' := [(5, .int (Int32.ofNat (i + 1))), (0, .ref s), (1, .ref x), (3, .int (Int32.ofNat b)), (4, .int lb)]) (List.forall_mem_cons.mpr ⟨List.mem_of_getElem? (i := 0) rfl, (List.forall_mem_cons.mpr ⟨List.mem_of_getElem? (i := 2) rfl, (List.forall_mem_cons.mpr ⟨List.mem_of_getElem? (i := 3) rfl, (List.forall_mem_cons.mpr ⟨List.mem_of_getElem? (i := 4) rfl, (List.forall_mem_cons.mpr ⟨List.mem_of_getElem? (i := 5) rfl, (fun _ h => (List.not_mem_nil h).elim)⟩)⟩)⟩)⟩)⟩) (show ([5, 6, 0, 1, 3, 4] : List Nat).Nodup by decide) ?_
          have hc : covers9 e lb f = false := by unfold covers9; rw [bI0 (of_decide_eq_true h91), Bool.and_false, Bool.and_false]
          rw [anyIn_s (by omega) hf, hc, Bool.false_or]
          exact ih (i + 1) (by omega)
        · have hc : covers9 e lb f = true := by unfold covers9; rw [bI1 (of_decide_eq_false h81), bI1 (of_decide_eq_false h91), decide_eq_true (of_decide_eq_false h69)]; rfl
          refine At.go (q := xm123) rfl 1 (pc' := 95) (L' := [(6, .int f.2.2.1), (5, .int (Int32.ofNat i)), (0, .ref s), (1, .ref x), (3, .int (Int32.ofNat b)), (4, .int lb)]) (st' := [.int 0]) rfl ?_
          exact At.rt rfl rfl (by rw [anyIn_s (by omega) hf, hc]; rfl)
/-- isChosen -/
theorem m_isChosen {a b : Nat} {lb : Int32} {S : List Int32} {hp : List XC} {s l x : Nat} {as : List Nat} {es : List En} {e : En} (hs0 : hp[s]? = some (.inr (10, [.ref l]))) (hL : hLs hp l as) (hE : hEs hp as es) (hX : hEn hp x e) (hb : b ≤ es.length) (hab : a ≤ b) : Pu S 3 123 [.ref s, .ref x, .int (Int32.ofNat a), .int (Int32.ofNat b), .int lb] hp (bv (chsIn es e lb a b)) := by
  have hbn := hL.len
  have hle := hE.1
  have hX9 := hX
  obtain ⟨c, fs, hx, -, -, hxt⟩ := hX9
  refine At.go (q := xm123) rfl 1 (pc' := 1) (L' := [(0, .ref s), (1, .ref x), (2, .int (Int32.ofNat a)), (3, .int (Int32.ofNat b)), (4, .int lb)]) (st' := [.ref x]) rfl ?_
  refine At.gf rfl (by decide) hx rfl ?_
  refine At.ic1 (tgt := 19) rfl rfl (fun h4 => ?_) (fun h4 => ?_)
  · refine At.go (q := xm123) rfl 1 (pc' := 20) (L' := [(0, .ref s), (1, .ref x), (2, .int (Int32.ofNat a)), (3, .int (Int32.ofNat b)), (4, .int lb)]) (st' := [.int 0]) rfl ?_
    exact At.rt rfl rfl (by unfold chsIn; rw [bI1 (of_decide_eq_true h4)]; rfl)
  · refine At.go (q := xm123) rfl 1 (pc' := 8) (L' := [(0, .ref s), (1, .ref x), (2, .int (Int32.ofNat a)), (3, .int (Int32.ofNat b)), (4, .int lb)]) (st' := [.ref x]) rfl ?_
    refine At.gf rfl (by decide) hx rfl ?_
    refine At.go (q := xm123) rfl 1 (pc' := 13) (L' := [(0, .ref s), (1, .ref x), (2, .int (Int32.ofNat a)), (3, .int (Int32.ofNat b)), (4, .int lb)]) (st' := [.int lb, .int e.2.2.1]) rfl ?_
    refine At.clp (as := [.int e.2.2.1, .int lb]) (rest := []) rfl (by decide) rfl (Nat.le_of_ble_eq_true rfl) (Nat.le_of_ble_eq_true rfl) rfl (Nat.le_of_ble_eq_true rfl) (m_isBelow e.2.2.1 lb) ?_
    refine At.ic1 (tgt := 21) rfl rfl (fun h16 => ?_) (fun h16 => ?_)
    · refine At.go (q := xm123) rfl 2 (pc' := 23) (L' := [(0, .ref s), (1, .ref x), (2, .int (Int32.ofNat a)), (3, .int (Int32.ofNat b)), (4, .int lb)]) (st' := [.int 0, .int (Int32.ofNat a)]) rfl ?_
      refine At.sp rfl (by decide) (g := ([.int (if (Int32.ofNat a) < 0 then 0 else (Int32.ofNat a))], hp)) rfl ?_
      rw [if_neg (iN_nn (by omega))]
      refine At.go (q := xm123) rfl 1 (pc' := 28) (L' := [(5, .int (Int32.ofNat a)), (0, .ref s), (1, .ref x), (2, .int (Int32.ofNat a)), (3, .int (Int32.ofNat b)), (4, .int lb)]) (st' := []) rfl ?_
      refine At.wk (L' := [(5, .int (Int32.ofNat a)), (0, .ref s), (1, .ref x), (3, .int (Int32.ofNat b)), (4, .int lb)]) (List.forall_mem_cons.mpr ⟨List.mem_of_getElem? (i := 0) rfl, (List.forall_mem_cons.mpr ⟨List.mem_of_getElem? (i := 1) rfl, (List.forall_mem_cons.mpr ⟨List.mem_of_getElem? (i := 2) rfl, (List.forall_mem_cons.mpr ⟨List.mem_of_getElem? (i := 4) rfl, (List.forall_mem_cons.mpr ⟨List.mem_of_getElem? (i := 5) rfl, (fun _ h => (List.not_mem_nil h).elim)⟩)⟩)⟩)⟩)⟩) (show ([5, 0, 1, 2, 3, 4] : List Nat).Nodup by decide) ?_
      have hv : e.2.2.2.1 = false := bI0 (xne_f h4)
      have hv2 : isB e.2.2.1 lb = true := bI1 (of_decide_eq_true h16)
      have hq : chsIn es e lb a b = !anyIn es e lb a b := by unfold chsIn; rw [hv, hv2]; rfl
      rw [hq]
      exact chs_loop hs0 hL hE hX hb (b - a) a (by omega)
    · refine At.go (q := xm123) rfl 1 (pc' := 20) (L' := [(0, .ref s), (1, .ref x), (2, .int (Int32.ofNat a)), (3, .int (Int32.ofNat b)), (4, .int lb)]) (st' := [.int 0]) rfl ?_
      exact At.rt rfl rfl (by unfold chsIn; rw [bI0 (xne_f h16), Bool.and_false]; rfl)
