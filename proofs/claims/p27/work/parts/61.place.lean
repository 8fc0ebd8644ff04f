/-! shelves: the place (written by wip/p27/c61.py) -/
theorem At.dv {S : List Int32} {d Y pc : Nat} {L : List (Nat × Value)} {st : List Value} {hp : List XC} {nc ns : Nat} {Q : XO → Prop} {x y : Int32} (hC : xmC (xMT Y) pc = some (0, .idiv, 0, 0, .null, [])) (hy : ¬ y = 0) (kk : At S d Y (pc + 1) L (.int (x / y) :: st) hp nc ns Q) : At S d Y pc L (.int y :: .int x :: st) hp nc ns Q := by
  refine At.low hC (show 0 < 20 by decide) (g := (pc + 1, L, .int (x / y) :: st, hp, 0, 0)) ?_ kk
  show (xpu .idiv (.int y :: .int x :: st)).map _ = _
  unfold xpu
  dsimp only
  rw [if_neg hy]
  rfl
theorem mid_eq {a b : Nat} (h : a ≤ b) (hb : b ≤ 100000) : Int32.ofNat a + (Int32.ofNat b - Int32.ofNat a) / 2 = Int32.ofNat (a + (b - a) / 2) := by
  rw [iN_sub h, show (2 : Int32) = Int32.ofNat 2 from rfl, ← Int32.ofNat_div (by omega) (by decide), ← Int32.ofNat_add]
theorem hLs.ob {hp : List XC} {l : Nat} {as : List Nat} (h : hLs hp l as) : ∃ fs, hp[l]? = some (.inr (2, fs)) := by
  obtain ⟨-, mc, ⟨-, h1⟩ | ⟨e, m, h1, -⟩⟩ := h
  · exact ⟨_, h1⟩
  · exact ⟨_, h1⟩
theorem place_loop {S : List Int32} {hp : List XC} {l nc ns : Nat} {as : List Nat} {es : List En} {p : Pl} (hL : hLs hp l as) (hE : hEs hp as es) (hs : Srt es) (hn : es.length ≤ 100000) : ∀ (m a b : Nat), b - a ≤ m → a ≤ plc es p → plc es p ≤ b → b ≤ es.length →
    At S 3 127 9 [(4, .int (Int32.ofNat a)), (5, .int (Int32.ofNat b)), (0, .ref l), (1, .int p.1), (2, .int p.2.1), (3, .int p.2.2)] [] hp nc ns (fun o => o = .inl (some (.int (Int32.ofNat (plc es p))), hp, nc, ns)) := by
  obtain ⟨lf, hl0⟩ := hL.ob
  intro m
  induction m with
  | zero =>
    intro a b hm ha hb hbl
    refine At.go (q := xm127) rfl 2 (pc' := 13) (L' := [(4, .int (Int32.ofNat a)), (5, .int (Int32.ofNat b)), (0, .ref l), (1, .int p.1), (2, .int p.2.1), (3, .int p.2.2)]) (st' := [.int (Int32.ofNat b), .int (Int32.ofNat a)]) rfl ?_
    refine At.ic2 (tgt := 62) rfl rfl (fun h13 => ?_) (fun h13 => absurd ((iN_le (by omega) (by omega)).mpr (show b ≤ a by omega)) (of_decide_eq_false h13))
    have hae : a = plc es p := by omega
    refine At.go (q := xm127) rfl 1 (pc' := 64) (L' := [(4, .int (Int32.ofNat a)), (5, .int (Int32.ofNat b)), (0, .ref l), (1, .int p.1), (2, .int p.2.1), (3, .int p.2.2)]) (st' := [.int (Int32.ofNat a)]) rfl ?_
    exact At.rt rfl (xret_i rfl) (by rw [hae])
  | succ m ih =>
    intro a b hm ha hb hbl
    refine At.go (q := xm127) rfl 2 (pc' := 13) (L' := [(4, .int (Int32.ofNat a)), (5, .int (Int32.ofNat b)), (0, .ref l), (1, .int p.1), (2, .int p.2.1), (3, .int p.2.2)]) (st' := [.int (Int32.ofNat b), .int (Int32.ofNat a)]) rfl ?_
    refine At.ic2 (tgt := 62) rfl rfl (fun h13 => ?_) (fun h13 => ?_)
    · have hab := (iN_le (by omega) (by omega)).mp (of_decide_eq_true h13)
      have hae : a = plc es p := by omega
      refine At.go (q := xm127) rfl 1 (pc' := 64) (L' := [(4, .int (Int32.ofNat a)), (5, .int (Int32.ofNat b)), (0, .ref l), (1, .int p.1), (2, .int p.2.1), (3, .int p.2.2)]) (st' := [.int (Int32.ofNat a)]) rfl ?_
      exact At.rt rfl (xret_i rfl) (by rw [hae])
    · have hab : a < b := by have h := of_decide_eq_false h13; rw [iN_le (by omega) (by omega)] at h; omega
      obtain ⟨e, he⟩ : ∃ e, es[a + (b - a) / 2]? = some e := ⟨_, List.getElem?_eq_getElem (by omega)⟩
      obtain ⟨x, hx, hX⟩ := hE.get he
      have hpl := srt_at hs p he
      obtain ⟨c, fs, ho, hc, hcl, ht⟩ := hX
      refine At.go (q := xm127) rfl 5 (pc' := 24) (L' := [(4, .int (Int32.ofNat a)), (5, .int (Int32.ofNat b)), (0, .ref l), (1, .int p.1), (2, .int p.2.1), (3, .int p.2.2)]) (st' := [.int 2, .int ((Int32.ofNat b) - (Int32.ofNat a)), .int (Int32.ofNat a)]) rfl ?_
      refine At.dv rfl (by decide) ?_
      refine At.go (q := xm127) rfl 1 (pc' := 26) (L' := [(4, .int (Int32.ofNat a)), (5, .int (Int32.ofNat b)), (0, .ref l), (1, .int p.1), (2, .int p.2.1), (3, .int p.2.2)]) (st' := [.int ((Int32.ofNat a) + (((Int32.ofNat b) - (Int32.ofNat a)) / 2))]) rfl ?_
      rw [mid_eq (by omega) (by omega)]
      refine At.go (q := xm127) rfl 3 (pc' := 31) (L' := [(6, .int (Int32.ofNat (a + (b - a) / 2))), (4, .int (Int32.ofNat a)), (5, .int (Int32.ofNat b)), (0, .ref l), (1, .int p.1), (2, .int p.2.1), (3, .int p.2.2)]) (st' := [.int (Int32.ofNat (a + (b - a) / 2)), .ref l]) rfl ?_
      refine At.clp (as := [.ref l, .int (Int32.ofNat (a + (b - a) / 2))]) (rest := []) rfl (by decide) rfl (Nat.le_of_ble_eq_true rfl) (Nat.le_of_ble_eq_true rfl) (xrck_o (by decide) (by decide) hl0 (by decide)) (Nat.le_of_ble_eq_true rfl) (m_get hL hx) ?_
      refine At.ca rfl ho (by decide) ?_
      refine At.go (q := xm127) rfl 3 (pc' := 40) (L' := [(6, .int (Int32.ofNat (a + (b - a) / 2))), (4, .int (Int32.ofNat a)), (5, .int (Int32.ofNat b)), (0, .ref l), (1, .int p.1), (2, .int p.2.1), (3, .int p.2.2)]) (st' := [.int p.2.2, .int p.2.1, .int p.1, .ref x]) rfl ?_
      refine At.clp (as := [.ref x, .int p.1, .int p.2.1, .int p.2.2]) (rest := []) rfl (by decide) rfl (Nat.le_of_ble_eq_true rfl) (Nat.le_of_ble_eq_true rfl) (xrck_o (by decide) (by decide) ho (by decide)) (Nat.le_of_ble_eq_true rfl) (m_compare ho ht p.1 p.2.1 p.2.2) ?_
      refine At.ic1 (tgt := 55) rfl rfl (fun h43 => ?_) (fun h43 => ?_)
      · have h9 : ¬ ltP (eP e) p := fun q => absurd (cmp_neg.mpr q) (Int32.not_lt.mpr (of_decide_eq_true h43))
        rw [hpl] at h9
        refine At.go (q := xm127) rfl 3 (pc' := 9) (L' := [(5, .int (Int32.ofNat (a + (b - a) / 2))), (6, .int (Int32.ofNat (a + (b - a) / 2))), (4, .int (Int32.ofNat a)), (0, .ref l), (1, .int p.1), (2, .int p.2.1), (3, .int p.2.2)]) (st' := []) rfl ?_
        refine At.wk (L' := [(4, .int (Int32.ofNat a)), (5, .int (Int32.ofNat (a + (b - a) / 2))), (0, .ref l), (1, .int p.1), (2, .int p.2.1), (3, .int p.2.2)]) (List.forall_mem_cons.mpr ⟨List.mem_of_getElem? (i := 2) rfl, (List.forall_mem_cons.mpr ⟨List.mem_of_getElem? (i := 0) rfl, (List.forall_mem_cons.mpr ⟨List.mem_of_getElem? (i := 3) rfl, (List.forall_mem_cons.mpr ⟨List.mem_of_getElem? (i := 4) rfl, (List.forall_mem_cons.mpr ⟨List.mem_of_getElem? (i := 5) rfl, (List.forall_mem_cons.mpr ⟨List.mem_of_getElem? (i := 6) rfl, (fun _ h => (List.not_mem_nil h).elim)⟩)⟩)⟩)⟩)⟩)⟩) (show ([5, 6, 4, 0, 1, 2, 3] : List Nat).Nodup by decide) ?_
        exact ih _ _ (by omega) (by omega) (by omega) (by omega)
      · have h9 : ltP (eP e) p := cmp_neg.mp (Int32.not_le.mp (of_decide_eq_false h43))
        rw [hpl] at h9
        refine At.go (q := xm127) rfl 6 (pc' := 9) (L' := [(4, .int ((Int32.ofNat (a + (b - a) / 2)) + 1)), (6, .int (Int32.ofNat (a + (b - a) / 2))), (5, .int (Int32.ofNat b)), (0, .ref l), (1, .int p.1), (2, .int p.2.1), (3, .int p.2.2)]) (st' := []) rfl ?_
        rw [iN_s]
        refine At.wk (L' := [(4, .int (Int32.ofNat (a + (b - a) / 2 + 1))), (5, .int (Int32.ofNat b)), (0, .ref l), (1, .int p.1), (2, .int p.2.1), (3, .int p.2.2)]) (List.forall_mem_cons.mpr ⟨List.mem_of_getElem? (i := 0) rfl, (List.forall_mem_cons.mpr ⟨List.mem_of_getElem? (i := 2) rfl, (List.forall_mem_cons.mpr ⟨List.mem_of_getElem? (i := 3) rfl, (List.forall_mem_cons.mpr ⟨List.mem_of_getElem? (i := 4) rfl, (List.forall_mem_cons.mpr ⟨List.mem_of_getElem? (i := 5) rfl, (List.forall_mem_cons.mpr ⟨List.mem_of_getElem? (i := 6) rfl, (fun _ h => (List.not_mem_nil h).elim)⟩)⟩)⟩)⟩)⟩)⟩) (show ([4, 6, 5, 0, 1, 2, 3] : List Nat).Nodup by decide) ?_
        exact ih _ _ (by omega) (by omega) (by omega) (by omega)
/-- placeIn -/
theorem m_placeIn {S : List Int32} {hp : List XC} {l : Nat} {as : List Nat} {es : List En} (hL : hLs hp l as) (hE : hEs hp as es) (hs : Srt es) (p : Pl) : Pu S 3 127 [.ref l, .int p.1, .int p.2.1, .int p.2.2] hp (.int (Int32.ofNat (plc es p))) := by
  obtain ⟨lf, hl0⟩ := hL.ob
  refine At.go (q := xm127) rfl 3 (pc' := 4) (L' := [(4, .int 0), (0, .ref l), (1, .int p.1), (2, .int p.2.1), (3, .int p.2.2)]) (st' := [.ref l]) rfl ?_
  refine At.clp (as := [.ref l]) (rest := []) rfl (by decide) rfl (Nat.le_of_ble_eq_true rfl) (Nat.le_of_ble_eq_true rfl) (xrck_o (by decide) (by decide) hl0 (by decide)) (Nat.le_of_ble_eq_true rfl) (m_size hL) ?_
  refine At.go (q := xm127) rfl 1 (pc' := 9) (L' := [(5, .int (Int32.ofNat as.length)), (4, .int 0), (0, .ref l), (1, .int p.1), (2, .int p.2.1), (3, .int p.2.2)]) (st' := []) rfl ?_
  rw [hE.1]
  refine At.wk (L' := [(4, .int 0), (5, .int (Int32.ofNat es.length)), (0, .ref l), (1, .int p.1), (2, .int p.2.1), (3, .int p.2.2)]) (List.forall_mem_cons.mpr ⟨List.mem_of_getElem? (i := 1) rfl, (List.forall_mem_cons.mpr ⟨List.mem_of_getElem? (i := 0) rfl, (List.forall_mem_cons.mpr ⟨List.mem_of_getElem? (i := 2) rfl, (List.forall_mem_cons.mpr ⟨List.mem_of_getElem? (i := 3) rfl, (List.forall_mem_cons.mpr ⟨List.mem_of_getElem? (i := 4) rfl, (List.forall_mem_cons.mpr ⟨List.mem_of_getElem? (i := 5) rfl, (fun _ h => (List.not_mem_nil h).elim)⟩)⟩)⟩)⟩)⟩)⟩) (show ([5, 4, 0, 1, 2, 3] : List Nat).Nodup by decide) ?_
  exact place_loop hL hE hs (by rw [← hE.1]; exact hL.len) es.length 0 es.length (by omega) (Nat.zero_le _) plc_le (Nat.le_refl _)
