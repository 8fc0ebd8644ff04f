/-! the house: sums, counts, beginnings (written by wip/p27/c99999993.py) -/
theorem xret_ch {r : Option FieldType} {x : Int32} (h : r = some .char) (hx : xfit .char (.int x) = true) : xret r .ireturn [.int x] = some (some (.int x)) := by
  subst h
  unfold xret
  dsimp only
  exact if_pos (xfit_s hx id id).1
def nmS (name sc : Int32) (sum : Int64) : Int64 := if 0 < name / sc - name / sc / 27 * 27 then sum * 31 + 97 - 1 + (name / sc - name / sc / 27 * 27).toInt64 else sum
def nmG (name : Int32) : Nat → Int32 → Int64 → Int64
  | 0, _, s => s
  | f + 1, sc, s => if 0 < sc then nmG name f (sc / 27) (nmS name sc s) else s
theorem nm_loop {S : List Int32} {hp : List XC} {name : Int32} : ∀ (f i : Nat) (sc : Int32) (sum : Int64), i + f = 6 → At S 0 245 7 [(4, .int (Int32.ofNat i)), (3, .int sc), (0, .long sum), (2, .int name)] [] hp 0 0 (fun o => o = .inl (some (.long (nmG name f sc sum)), hp, 0, 0)) := by
  intro f
  induction f with
  | zero =>
    intro i sc sum hf
    refine At.go (q := xm245) rfl 2 (pc' := 11) (L' := [(4, .int (Int32.ofNat i)), (3, .int sc), (0, .long sum), (2, .int name)]) (st' := [.int 6, .int (Int32.ofNat i)]) rfl ?_
    refine At.ic2 (tgt := 58) rfl rfl (fun _ => ?_) (fun h => absurd (h.symm.trans (decide_eq_true ((iN_le (a := 6) (b := i) (by omega) (by omega)).mpr (by omega)))) (by decide))
    refine At.go (q := xm245) rfl 1 (pc' := 59) (L' := [(4, .int (Int32.ofNat i)), (3, .int sc), (0, .long sum), (2, .int name)]) (st' := [.long sum]) rfl ?_
    exact At.rt rfl rfl rfl
  | succ f ih =>
    intro i sc sum hf
    refine At.go (q := xm245) rfl 2 (pc' := 11) (L' := [(4, .int (Int32.ofNat i)), (3, .int sc), (0, .long sum), (2, .int name)]) (st' := [.int 6, .int (Int32.ofNat i)]) rfl ?_
    refine At.ic2 (tgt := 58) rfl rfl (fun h => absurd (h.symm.trans (decide_eq_false (fun q => absurd ((iN_le (a := 6) (b := i) (by omega) (by omega)).mp q) (by omega)))) (by decide)) (fun _ => ?_)
    refine At.go (q := xm245) rfl 1 (pc' := 15) (L' := [(4, .int (Int32.ofNat i)), (3, .int sc), (0, .long sum), (2, .int name)]) (st' := [.int sc]) rfl ?_
    refine At.ic1 (tgt := 58) rfl rfl (fun h15 => ?_) (fun h15 => ?_)
    · have hn : ¬ 0 < sc := fun q => absurd (of_decide_eq_true h15) (Int32.not_le.mpr q)
      rw [show nmG name (f + 1) sc sum = sum from if_neg hn]
      refine At.go (q := xm245) rfl 1 (pc' := 59) (L' := [(4, .int (Int32.ofNat i)), (3, .int sc), (0, .long sum), (2, .int name)]) (st' := [.long sum]) rfl ?_
      exact At.rt rfl rfl rfl
    · have hp9 : 0 < sc := Int32.not_le.mp (of_decide_eq_false h15)
      rw [show nmG name (f + 1) sc sum = nmG name f (sc / 27) (nmS name sc sum) from if_pos hp9]
      refine At.go (q := xm245) rfl 2 (pc' := 20) (L' := [(4, .int (Int32.ofNat i)), (3, .int sc), (0, .long sum), (2, .int name)]) (st' := [.int sc, .int name]) rfl ?_
      refine At.dv rfl (fun e => absurd (e ▸ hp9) (by decide)) ?_
      refine At.go (q := xm245) rfl 1 (pc' := 23) (L' := [(4, .int (Int32.ofNat i)), (3, .int sc), (0, .long sum), (2, .int name)]) (st' := [.int 27, .int (name / sc)]) rfl ?_
      refine At.rm rfl (by decide) ?_
      refine At.go (q := xm245) rfl 2 (pc' := 28) (L' := [(5, .int ((name / sc) - (name / sc) / 27 * 27)), (4, .int (Int32.ofNat i)), (3, .int sc), (0, .long sum), (2, .int name)]) (st' := [.int ((name / sc) - (name / sc) / 27 * 27)]) rfl ?_
      refine At.ic1 (tgt := 47) rfl rfl (fun h28 => ?_) (fun h28 => ?_)
      · have hns : nmS name sc sum = sum := if_neg (fun q => absurd (of_decide_eq_true h28) (Int32.not_le.mpr q))
        refine At.go (q := xm245) rfl 2 (pc' := 50) (L' := [(5, .int ((name / sc) - (name / sc) / 27 * 27)), (4, .int (Int32.ofNat i)), (3, .int sc), (0, .long sum), (2, .int name)]) (st' := [.int 27, .int sc]) rfl ?_
        refine At.dv rfl (by decide) ?_
        refine At.go (q := xm245) rfl 3 (pc' := 7) (L' := [(4, .int ((Int32.ofNat i) + 1)), (3, .int (sc / 27)), (5, .int ((name / sc) - (name / sc) / 27 * 27)), (0, .long sum), (2, .int name)]) (st' := []) rfl ?_
        rw [iN_s]
        refine At.wk (L' := [(4, .int (Int32.ofNat (i + 1))), (3, .int (sc / 27)), (0, .long sum), (2, .int name)]) (List.forall_mem_cons.mpr ⟨List.mem_of_getElem? (i := 0) rfl, (List.forall_mem_cons.mpr ⟨List.mem_of_getElem? (i := 1) rfl, (List.forall_mem_cons.mpr ⟨List.mem_of_getElem? (i := 3) rfl, (List.forall_mem_cons.mpr ⟨List.mem_of_getElem? (i := 4) rfl, (fun _ h => (List.not_mem_nil h).elim)⟩)⟩)⟩)⟩) (show ([4, 3, 5, 0, 2] : List Nat).Nodup by decide) ?_
        have := ih (i + 1) (sc / 27) (nmS name sc sum) (by omega)
        rw [hns] at this
        rw [hns]
        exact this
      · have hns : nmS name sc sum = sum * 31 + 97 - 1 + (name / sc - name / sc / 27 * 27).toInt64 := if_pos (Int32.not_le.mp (of_decide_eq_false h28))
        refine At.go (q := xm245) rfl 13 (pc' := 50) (L' := [(0, .long ((((sum * 31) + 97) - 1) + ((name / sc) - (name / sc) / 27 * 27).toInt64)), (5, .int ((name / sc) - (name / sc) / 27 * 27)), (4, .int (Int32.ofNat i)), (3, .int sc), (2, .int name)]) (st' := [.int 27, .int sc]) rfl ?_
        refine At.dv rfl (by decide) ?_
        refine At.go (q := xm245) rfl 3 (pc' := 7) (L' := [(4, .int ((Int32.ofNat i) + 1)), (3, .int (sc / 27)), (0, .long ((((sum * 31) + 97) - 1) + ((name / sc) - (name / sc) / 27 * 27).toInt64)), (5, .int ((name / sc) - (name / sc) / 27 * 27)), (2, .int name)]) (st' := []) rfl ?_
        rw [iN_s]
        refine At.wk (L' := [(4, .int (Int32.ofNat (i + 1))), (3, .int (sc / 27)), (0, .long ((((sum * 31) + 97) - 1) + ((name / sc) - (name / sc) / 27 * 27).toInt64)), (2, .int name)]) (List.forall_mem_cons.mpr ⟨List.mem_of_getElem? (i := 0) rfl, (List.forall_mem_cons.mpr ⟨List.mem_of_getElem? (i := 1) rfl, (List.forall_mem_cons.mpr ⟨List.mem_of_getElem? (i := 2) rfl, (List.forall_mem_cons.mpr ⟨List.mem_of_getElem? (i := 4) rfl, (fun _ h => (List.not_mem_nil h).elim)⟩)⟩)⟩)⟩) (show ([4, 3, 0, 5, 2] : List Nat).Nodup by decide) ?_
        have := ih (i + 1) (sc / 27) (nmS name sc sum) (by omega)
        rw [hns] at this
        rw [hns]
        exact this
def nmE (sum : Int64) (name : Int32) : Int64 := nmG name 6 14348907 sum
theorem m_nameSum {S : List Int32} {hp : List XC} (sum : Int64) (name : Int32) : Pu S 0 245 [.long sum, .int name] hp (.long (nmE sum name)) := by
  refine At.go (q := xm245) rfl 4 (pc' := 7) (L' := [(4, .int 0), (3, .int 14348907), (0, .long sum), (2, .int name)]) (st' := []) rfl ?_
  refine At.wk (L' := [(4, .int (Int32.ofNat 0)), (3, .int 14348907), (0, .long sum), (2, .int name)]) (List.forall_mem_cons.mpr ⟨List.mem_of_getElem? (i := 0) rfl, (List.forall_mem_cons.mpr ⟨List.mem_of_getElem? (i := 1) rfl, (List.forall_mem_cons.mpr ⟨List.mem_of_getElem? (i := 2) rfl, (List.forall_mem_cons.mpr ⟨List.mem_of_getElem? (i := 3) rfl, (fun _ h => (List.not_mem_nil h).elim)⟩)⟩)⟩)⟩) (show ([4, 3, 0, 2] : List Nat).Nodup by decide) ?_
  exact nm_loop 6 0 14348907 sum rfl
def SRq (ts : List TQ) (t : Nat) : Int32 := match ts.find? (fun q => decide (q.1.1 = t)) with
  | some q => q.2.1
  | none => 0
theorem SRq_at {ts : List TQ} (hu : ∀ p ∈ ts, ∀ q ∈ ts, p.1.1 = q.1.1 ∨ p.1.2.1 = q.1.2.1 → p = q) {q : TQ} (hq : q ∈ ts) : SRq ts q.1.1 = q.2.1 := by
  unfold SRq
  cases h : ts.find? (fun p => decide (p.1.1 = q.1.1)) with
  | none => exact absurd (decide_eq_true (rfl : q.1.1 = q.1.1)) (List.find?_eq_none.mp h q hq)
  | some p =>
    have h1 := List.find?_some h
    have h2 := List.mem_of_find?_eq_some h
    rw [hu p h2 q hq (Or.inl (of_decide_eq_true h1))]
/-- standing tables that there are -/
def StT (ts : List TQ) (as : List Nat) : Prop := ∀ a ∈ as, ∃ q ∈ ts, q.1.1 = a
theorem HR.std {hp : List XC} {ow : Nat → Nat} {k : Nat} {A : Nat → Nat} {M : HM} {rf : Int32} {np nl : Nat} (h : HR hp ow k A M rf np nl) (hSt : StT M.2.2.2.2.2.2 M.1) {a : Nat} (ha : a ∈ M.1) : ∃ tf, hp[a]? = some (.inr (13, .int (SRq M.2.2.2.2.2.2 a) :: .int (TIq M.2.2.2.2.2.2 a).1 :: .int (TIq M.2.2.2.2.2.2 a).2.1 :: tf)) := by
  obtain ⟨hO, how, h0, h1, h3, hD, hF, hE, hT, ⟨lv9, hG⟩, hC, hL9, hQ, hW, hS, hTq9, htd, hcap⟩ := id h
  obtain ⟨q, hq, rfl⟩ := hSt a ha
  rw [SRq_at htd hq, TIq_at htd hq]
  obtain ⟨⟨ca, ka, ra, ga, chk, dv, b1, -⟩, -⟩ := hTq9 q hq
  exact ⟨_, b1⟩
def tbsE (ts : List TQ) (as : List Nat) (lb : Int32) : Nat := as.countP (fun a => isB (TIq ts a).2.1 lb)
theorem tb_loop {S : List Int32} {hp : List XC} {ow : Nat → Nat} {k : Nat} {A : Nat → Nat} {M : HM} {rf : Int32} {np nl : Nat} (h : HR hp ow k A M rf np nl) {i : Nat} (hi : i < 8) (hSt : StT M.2.2.2.2.2.2 M.1) : ∀ (f j n : Nat), j + f = M.1.length → n ≤ j → At S 3 259 11 [(4, .int (Int32.ofNat j)), (3, .int (Int32.ofNat n)), (0, .ref (A 0)), (2, .ref (A (20 + i)))] [] hp 0 0 (fun o => o = .inl (some (.int (Int32.ofNat (n + tbsE M.2.2.2.2.2.2 (M.1.drop j) (M.2.2.2.1 i).1))), hp, 0, 0)) := by
  have hst := fun (a : Nat) (ha : a ∈ M.1) => h.std hSt ha
  obtain ⟨hO, how, h0, h1, h3, hD, hF, hE, hT, ⟨lv9, hG⟩, hC, hL9, hQ, hW, hS, hTq9, htd, hcap⟩ := id h
  obtain ⟨za, ab, a1, a2, a3, a4, a5, a6, a7, a8, a9, a10, a11, a12, a13, a14⟩ := hS i hi
  have hll := hD.len
  obtain ⟨dfs, hDo⟩ := hD.ob
  intro f
  induction f with
  | zero =>
    intro j n hf hn
    refine At.go (q := xm259) rfl 2 (pc' := 14) (L' := [(4, .int (Int32.ofNat j)), (3, .int (Int32.ofNat n)), (0, .ref (A 0)), (2, .ref (A (20 + i)))]) (st' := [.ref (A 0), .int (Int32.ofNat j)]) rfl ?_
    refine At.gf rfl (by decide) h0 rfl ?_
    refine At.clp (as := [.ref (A 2)]) (rest := [.int (Int32.ofNat j)]) rfl (by decide) rfl (Nat.le_of_ble_eq_true rfl) (Nat.le_of_ble_eq_true rfl) (xrck_o (by decide) (by decide) hDo (by decide)) (Nat.le_of_ble_eq_true rfl) (m_size hD) ?_
    refine At.ic2 (tgt := 57) rfl rfl (fun _ => ?_) (fun h => absurd (h.symm.trans (decide_eq_true ((iN_le (a := M.1.length) (b := j) (by omega) (by omega)).mpr (by omega)))) (by decide))
    refine At.go (q := xm259) rfl 1 (pc' := 58) (L' := [(4, .int (Int32.ofNat j)), (3, .int (Int32.ofNat n)), (0, .ref (A 0)), (2, .ref (A (20 + i)))]) (st' := [.int (Int32.ofNat n)]) rfl ?_
    rw [List.drop_eq_nil_of_le (by omega), show tbsE M.2.2.2.2.2.2 [] (M.2.2.2.1 i).1 = 0 from rfl, Nat.add_zero]
    exact At.rt rfl (xret_i rfl) rfl
  | succ f ih =>
    intro j n hf hn
    have hj : M.1[j]? = some (M.1[j]'(by omega)) := List.getElem?_eq_getElem _
    obtain ⟨a, ha⟩ : ∃ a, a = M.1[j]'(by omega) := ⟨_, rfl⟩
    rw [← ha] at hj
    obtain ⟨tf, ht⟩ := hst _ (List.mem_of_getElem? hj)
    have hdr : M.1.drop j = a :: M.1.drop (j + 1) := by rw [ha]; exact List.drop_eq_getElem_cons (by omega)
    refine At.go (q := xm259) rfl 2 (pc' := 14) (L' := [(4, .int (Int32.ofNat j)), (3, .int (Int32.ofNat n)), (0, .ref (A 0)), (2, .ref (A (20 + i)))]) (st' := [.ref (A 0), .int (Int32.ofNat j)]) rfl ?_
    refine At.gf rfl (by decide) h0 rfl ?_
    refine At.clp (as := [.ref (A 2)]) (rest := [.int (Int32.ofNat j)]) rfl (by decide) rfl (Nat.le_of_ble_eq_true rfl) (Nat.le_of_ble_eq_true rfl) (xrck_o (by decide) (by decide) hDo (by decide)) (Nat.le_of_ble_eq_true rfl) (m_size hD) ?_
    refine At.ic2 (tgt := 57) rfl rfl (fun h => absurd (h.symm.trans (decide_eq_false (fun q => absurd ((iN_le (a := M.1.length) (b := j) (by omega) (by omega)).mp q) (by omega)))) (by decide)) (fun _ => ?_)
    refine At.go (q := xm259) rfl 1 (pc' := 24) (L' := [(4, .int (Int32.ofNat j)), (3, .int (Int32.ofNat n)), (0, .ref (A 0)), (2, .ref (A (20 + i)))]) (st' := [.ref (A 0)]) rfl ?_
    refine At.gf rfl (by decide) h0 rfl ?_
    refine At.go (q := xm259) rfl 1 (pc' := 29) (L' := [(4, .int (Int32.ofNat j)), (3, .int (Int32.ofNat n)), (0, .ref (A 0)), (2, .ref (A (20 + i)))]) (st' := [.int (Int32.ofNat j), .ref (A 2)]) rfl ?_
    refine At.clp (as := [.ref (A 2), .int (Int32.ofNat j)]) (rest := []) rfl (by decide) rfl (Nat.le_of_ble_eq_true rfl) (Nat.le_of_ble_eq_true rfl) (xrck_o (by decide) (by decide) hDo (by decide)) (Nat.le_of_ble_eq_true rfl) (m_get hD hj) ?_
    refine At.ca rfl ht (by decide) ?_
    refine At.gf rfl (by decide) ht rfl ?_
    refine At.go (q := xm259) rfl 1 (pc' := 39) (L' := [(4, .int (Int32.ofNat j)), (3, .int (Int32.ofNat n)), (0, .ref (A 0)), (2, .ref (A (20 + i)))]) (st' := [.ref (A (20 + i)), .int (TIq M.2.2.2.2.2.2 a).2.1]) rfl ?_
    refine At.gf rfl (by decide) a1 rfl ?_
    refine At.clp (as := [.int (TIq M.2.2.2.2.2.2 a).2.1, .int (M.2.2.2.1 i).1]) (rest := []) rfl (by decide) rfl (Nat.le_of_ble_eq_true rfl) (Nat.le_of_ble_eq_true rfl) rfl (Nat.le_of_ble_eq_true rfl) (m_isBelow _ _) ?_
    cases hb : isB (TIq M.2.2.2.2.2.2 a).2.1 (M.2.2.2.1 i).1 with
    | false =>
      refine At.ic1 (tgt := 51) rfl rfl (fun h45 => ?_) (fun h45 => absurd h45 (by decide))
      refine At.go (q := xm259) rfl 2 (pc' := 11) (L' := [(4, .int ((Int32.ofNat j) + 1)), (3, .int (Int32.ofNat n)), (0, .ref (A 0)), (2, .ref (A (20 + i)))]) (st' := []) rfl ?_
      rw [iN_s]
      refine At.wk (L' := [(4, .int (Int32.ofNat (j + 1))), (3, .int (Int32.ofNat n)), (0, .ref (A 0)), (2, .ref (A (20 + i)))]) (List.forall_mem_cons.mpr ⟨List.mem_of_getElem? (i := 0) rfl, (List.forall_mem_cons.mpr ⟨List.mem_of_getElem? (i := 1) rfl, (List.forall_mem_cons.mpr ⟨List.mem_of_getElem? (i := 2) rfl, (List.forall_mem_cons.mpr ⟨List.mem_of_getElem? (i := 3) rfl, (fun _ h => (List.not_mem_nil h).elim)⟩)⟩)⟩)⟩) (show ([4, 3, 0, 2] : List Nat).Nodup by decide) ?_
      have := ih (j + 1) n (by omega) (by omega)
      rw [hdr, show tbsE M.2.2.2.2.2.2 (a :: M.1.drop (j + 1)) (M.2.2.2.1 i).1 = tbsE M.2.2.2.2.2.2 (M.1.drop (j + 1)) (M.2.2.2.1 i).1 + 0 from by unfold tbsE; rw [List.countP_cons, hb]; rfl]
      exact this
    | true =>
      refine At.ic1 (tgt := 51) rfl rfl (fun h45 => absurd h45 (by decide)) (fun h45 => ?_)
      refine At.go (q := xm259) rfl 3 (pc' := 11) (L' := [(4, .int ((Int32.ofNat j) + 1)), (3, .int ((Int32.ofNat n) + 1)), (0, .ref (A 0)), (2, .ref (A (20 + i)))]) (st' := []) rfl ?_
      rw [iN_s, iN_s]
      refine At.wk (L' := [(4, .int (Int32.ofNat (j + 1))), (3, .int (Int32.ofNat (n + 1))), (0, .ref (A 0)), (2, .ref (A (20 + i)))]) (List.forall_mem_cons.mpr ⟨List.mem_of_getElem? (i := 0) rfl, (List.forall_mem_cons.mpr ⟨List.mem_of_getElem? (i := 1) rfl, (List.forall_mem_cons.mpr ⟨List.mem_of_getElem? (i := 2) rfl, (List.forall_mem_cons.mpr ⟨List.mem_of_getElem? (i := 3) rfl, (fun _ h => (List.not_mem_nil h).elim)⟩)⟩)⟩)⟩) (show ([4, 3, 0, 2] : List Nat).Nodup by decide) ?_
      have := ih (j + 1) (n + 1) (by omega) (by omega)
      rw [hdr, show tbsE M.2.2.2.2.2.2 (a :: M.1.drop (j + 1)) (M.2.2.2.1 i).1 = tbsE M.2.2.2.2.2.2 (M.1.drop (j + 1)) (M.2.2.2.1 i).1 + 1 from by unfold tbsE; rw [List.countP_cons, hb]; rfl]
      rw [show n + (tbsE M.2.2.2.2.2.2 (M.1.drop (j + 1)) (M.2.2.2.1 i).1 + 1) = n + 1 + tbsE M.2.2.2.2.2.2 (M.1.drop (j + 1)) (M.2.2.2.1 i).1 by omega]
      exact this
theorem h_tables {S : List Int32} {hp : List XC} {ow : Nat → Nat} {k : Nat} {A : Nat → Nat} {M : HM} {rf : Int32} {np nl : Nat} (h : HR hp ow k A M rf np nl) {i : Nat} (hi : i < 8) (hSt : StT M.2.2.2.2.2.2 M.1) : Pu S 3 259 [.ref (A 0), .int (Int32.ofNat i)] hp (.int (Int32.ofNat (tbsE M.2.2.2.2.2.2 M.1 (M.2.2.2.1 i).1))) := by
  have hl9 := tb_loop (S := S) h hi hSt M.1.length 0 0 (by omega) (Nat.le_refl _)
  obtain ⟨hO, how, h0, h1, h3, hD, hF, hE, hT, ⟨lv9, hG⟩, hC, hL9, hQ, hW, hS, hTq9, htd, hcap⟩ := id h
  refine At.go (q := xm259) rfl 2 (pc' := 2) (L' := [(0, .ref (A 0)), (1, .int (Int32.ofNat i))]) (st' := [.int (Int32.ofNat i), .ref (A 0)]) rfl ?_
  refine At.clp (as := [.ref (A 0), .int (Int32.ofNat i)]) (rest := []) rfl (by decide) rfl (Nat.le_of_ble_eq_true rfl) (Nat.le_of_ble_eq_true rfl) (xrck_o (by decide) (by decide) h0 (by decide)) (Nat.le_of_ble_eq_true rfl) (m_sessionOf h0 rfl h1 (by rw [List.length_map, List.length_range]; decide) (by rw [List.getElem?_map, List.getElem?_range hi]; rfl)) ?_
  refine At.go (q := xm259) rfl 5 (pc' := 11) (L' := [(4, .int 0), (3, .int 0), (2, .ref (A (20 + i))), (0, .ref (A 0)), (1, .int (Int32.ofNat i))]) (st' := []) rfl ?_
  refine At.wk (L' := [(4, .int (Int32.ofNat 0)), (3, .int (Int32.ofNat 0)), (0, .ref (A 0)), (2, .ref (A (20 + i)))]) (List.forall_mem_cons.mpr ⟨List.mem_of_getElem? (i := 0) rfl, (List.forall_mem_cons.mpr ⟨List.mem_of_getElem? (i := 1) rfl, (List.forall_mem_cons.mpr ⟨List.mem_of_getElem? (i := 3) rfl, (List.forall_mem_cons.mpr ⟨List.mem_of_getElem? (i := 2) rfl, (fun _ h => (List.not_mem_nil h).elim)⟩)⟩)⟩)⟩) (show ([4, 3, 2, 0, 1] : List Nat).Nodup by decide) ?_
  rw [Nat.zero_add, List.drop_zero] at hl9
  exact hl9
theorem h_audit {S : List Int32} {hp : List XC} {ow : Nat → Nat} {k : Nat} {A : Nat → Nat} {M : HM} {rf : Int32} {np nl : Nat} (h : HR hp ow k A M rf np nl) {i t : Nat} {x v : Int32} (hi : i < 8) (ht : M.2.2.2.2.1[t]? = some v) (htp : Pu S 1 114 [.int (M.2.2.2.1 i).1, .int x] hp (.int (Int32.ofNat t))) (hb : isB (M.2.2.2.1 i).1 (M.2.2.2.1 i).1 = true) : Pu S 2 268 [.ref (A 0), .int (Int32.ofNat i), .int (M.2.2.2.1 i).1, .int x] hp (.int v) := by
  obtain ⟨hO, how, h0, h1, h3, hD, hF, hE, hT, ⟨lv9, hG⟩, hC, hL9, hQ, hW, hS, hTq9, htd, hcap⟩ := id h
  obtain ⟨za, ab, a1, a2, a3, a4, a5, a6, a7, a8, a9, a10, a11, a12, a13, a14⟩ := hS i hi
  have htl := (List.getElem?_eq_some_iff.mp ht).1
  have hT2 := hT.2
  refine At.go (q := xm268) rfl 2 (pc' := 2) (L' := [(0, .ref (A 0)), (1, .int (Int32.ofNat i)), (2, .int (M.2.2.2.1 i).1), (3, .int x)]) (st' := [.int (Int32.ofNat i), .ref (A 0)]) rfl ?_
  refine At.clp (as := [.ref (A 0), .int (Int32.ofNat i)]) (rest := []) rfl (by decide) rfl (Nat.le_of_ble_eq_true rfl) (Nat.le_of_ble_eq_true rfl) (xrck_o (by decide) (by decide) h0 (by decide)) (Nat.le_of_ble_eq_true rfl) (m_sessionOf h0 rfl h1 (by rw [List.length_map, List.length_range]; decide) (by rw [List.getElem?_map, List.getElem?_range hi]; rfl)) ?_
  refine At.go (q := xm268) rfl 3 (pc' := 9) (L' := [(4, .ref (A (20 + i))), (0, .ref (A 0)), (1, .int (Int32.ofNat i)), (2, .int (M.2.2.2.1 i).1), (3, .int x)]) (st' := [.int x, .int (M.2.2.2.1 i).1]) rfl ?_
  refine At.clp (as := [.int (M.2.2.2.1 i).1, .int x]) (rest := []) rfl (by decide) rfl (Nat.le_of_ble_eq_true rfl) (Nat.le_of_ble_eq_true rfl) rfl (Nat.le_of_ble_eq_true rfl) (htp) ?_
  refine At.go (q := xm268) rfl 2 (pc' := 16) (L' := [(5, .int (Int32.ofNat t)), (4, .ref (A (20 + i))), (0, .ref (A 0)), (1, .int (Int32.ofNat i)), (2, .int (M.2.2.2.1 i).1), (3, .int x)]) (st' := [.int (Int32.ofNat t)]) rfl ?_
  refine At.ic1 (tgt := 29) rfl rfl (fun h => absurd (h.symm.trans (decide_eq_false (iN_nn (by omega)))) (by decide)) (fun _ => ?_)
  refine At.go (q := xm268) rfl 2 (pc' := 22) (L' := [(5, .int (Int32.ofNat t)), (4, .ref (A (20 + i))), (0, .ref (A 0)), (1, .int (Int32.ofNat i)), (2, .int (M.2.2.2.1 i).1), (3, .int x)]) (st' := [.ref (A 0), .int (Int32.ofNat t)]) rfl ?_
  refine At.gf rfl (by decide) h0 rfl ?_
  refine At.ln rfl hT.1 ?_
  rw [List.length_map]
  refine At.ic2 (tgt := 37) rfl rfl (fun _ => ?_) (fun q => absurd (decide_eq_true ((iN_lt (a := t) (b := M.2.2.2.2.1.length) (by omega) (by omega)).mpr htl)) (by rw [show decide (Int32.ofNat t < Int32.ofNat M.2.2.2.2.1.length) = false from q]; decide))
  refine At.go (q := xm268) rfl 2 (pc' := 40) (L' := [(5, .int (Int32.ofNat t)), (4, .ref (A (20 + i))), (0, .ref (A 0)), (1, .int (Int32.ofNat i)), (2, .int (M.2.2.2.1 i).1), (3, .int x)]) (st' := [.ref (A (20 + i)), .int (M.2.2.2.1 i).1]) rfl ?_
  refine At.gf rfl (by decide) a1 rfl ?_
  refine At.clp (as := [.int (M.2.2.2.1 i).1, .int (M.2.2.2.1 i).1]) (rest := []) rfl (by decide) rfl (Nat.le_of_ble_eq_true rfl) (Nat.le_of_ble_eq_true rfl) rfl (Nat.le_of_ble_eq_true rfl) (m_isBelow _ _) ?_
  rw [hb]
  refine At.ic1 (tgt := 57) rfl rfl (fun _ => ?_) (fun q => absurd q (by decide))
  refine At.go (q := xm268) rfl 1 (pc' := 58) (L' := [(5, .int (Int32.ofNat t)), (4, .ref (A (20 + i))), (0, .ref (A 0)), (1, .int (Int32.ofNat i)), (2, .int (M.2.2.2.1 i).1), (3, .int x)]) (st' := [.ref (A 0)]) rfl ?_
  refine At.gf rfl (by decide) h0 rfl ?_
  refine At.go (q := xm268) rfl 1 (pc' := 63) (L' := [(5, .int (Int32.ofNat t)), (4, .ref (A (20 + i))), (0, .ref (A 0)), (1, .int (Int32.ofNat i)), (2, .int (M.2.2.2.1 i).1), (3, .int x)]) (st' := [.int (Int32.ofNat t), .ref (A 5)]) rfl ?_
  refine At.al rfl hT.1 (by decide) rfl (iN_nn (by omega)) (by rw [iN_tn (by omega), List.getElem?_map, ht]; rfl) ?_
  exact At.rt rfl (xret_i rfl) rfl
theorem h_reason {S : List Int32} {hp : List XC} {ow : Nat → Nat} {k : Nat} {A : Nat → Nat} {M : HM} {rf : Int32} {np nl : Nat} (h : HR hp ow k A M rf np nl) {i : Nat} (hi : i < 8) (hr : ¬ (M.2.2.2.1 i).2.1 = 0) (hx : xfit .char (.int (M.2.2.2.1 i).2.1) = true) : Pu S 2 202 [.ref (A 0), .int (Int32.ofNat i)] hp (.int (M.2.2.2.1 i).2.1) := by
  obtain ⟨hO, how, h0, h1, h3, hD, hF, hE, hT, ⟨lv9, hG⟩, hC, hL9, hQ, hW, hS, hTq9, htd, hcap⟩ := id h
  obtain ⟨za, ab, a1, a2, a3, a4, a5, a6, a7, a8, a9, a10, a11, a12, a13, a14⟩ := hS i hi
  refine At.go (q := xm202) rfl 2 (pc' := 2) (L' := [(0, .ref (A 0)), (1, .int (Int32.ofNat i))]) (st' := [.int (Int32.ofNat i), .ref (A 0)]) rfl ?_
  refine At.clp (as := [.ref (A 0), .int (Int32.ofNat i)]) (rest := []) rfl (by decide) rfl (Nat.le_of_ble_eq_true rfl) (Nat.le_of_ble_eq_true rfl) (xrck_o (by decide) (by decide) h0 (by decide)) (Nat.le_of_ble_eq_true rfl) (m_sessionOf h0 rfl h1 (by rw [List.length_map, List.length_range]; decide) (by rw [List.getElem?_map, List.getElem?_range hi]; rfl)) ?_
  refine At.go (q := xm202) rfl 2 (pc' := 7) (L' := [(2, .ref (A (20 + i))), (0, .ref (A 0)), (1, .int (Int32.ofNat i))]) (st' := [.ref (A (20 + i))]) rfl ?_
  refine At.gf rfl (by decide) a1 rfl ?_
  refine At.ic1 (tgt := 21) rfl rfl (fun _ => ?_) (fun h => absurd (h.symm.trans (decide_eq_true hr)) (by decide))
  refine At.go (q := xm202) rfl 1 (pc' := 22) (L' := [(2, .ref (A (20 + i))), (0, .ref (A 0)), (1, .int (Int32.ofNat i))]) (st' := [.ref (A (20 + i))]) rfl ?_
  refine At.gf rfl (by decide) a1 rfl ?_
  exact At.rt rfl (xret_ch rfl hx) rfl
