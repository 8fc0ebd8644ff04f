/-! the house: makeTable, its search (written by wip/p27/c9999999994.py) -/
/-- what is found among the standing tables: how many are of a label, whether the name is there, where a new one goes -/
def mkL (TI : Nat → Tb) (lab nm : Int32) : List Nat → Nat → Nat → Bool → Nat → Nat × Bool × Nat
  | [], _, o, b, p => (o, b, p)
  | a :: as, i, o, b, p => mkL TI lab nm as (i + 1) (if (TI a).2.1 = lab then o + 1 else o) (if (TI a).2.1 = lab then (b || decide ((TI a).1 = nm)) else b) (if (TI a).1 < nm ∨ ((TI a).1 = nm ∧ (TI a).2.1 < lab) then i + 1 else p)
theorem mk_loop {S : List Int32} {hp : List XC} {ow : Nat → Nat} {k : Nat} {A : Nat → Nat} {M : HM} {rf : Int32} {np nl : Nat} (h : HR hp ow k A M rf np nl) {i : Nat} {nm : Int32} {nc ns : Nat} {Q : XO → Prop} (hi : i < 8) (hSt : StT M.2.2.2.2.2.2 M.1) : ∀ (f j o : Nat) (b : Bool) (p : Nat), j + f = M.1.length → o ≤ j → p ≤ j → At S 11 164 133 [(5, .int (Int32.ofNat (mkL (TIq M.2.2.2.2.2.2) (M.2.2.2.1 i).1 nm (M.1.drop j) j o b p).2.2)), (4, .int (bI (mkL (TIq M.2.2.2.2.2.2) (M.2.2.2.1 i).1 nm (M.1.drop j) j o b p).2.1)), (3, .int (Int32.ofNat (mkL (TIq M.2.2.2.2.2.2) (M.2.2.2.1 i).1 nm (M.1.drop j) j o b p).1)), (0, .ref (A 0)), (1, .ref (A (20 + i)))] [] hp nc ns Q → At S 11 164 29 [(6, .int (Int32.ofNat j)), (5, .int (Int32.ofNat p)), (4, .int (bI b)), (3, .int (Int32.ofNat o)), (2, .int nm), (0, .ref (A 0)), (1, .ref (A (20 + i)))] [] hp nc ns Q := by
  have hst := fun (a : Nat) (ha : a ∈ M.1) => h.std hSt ha
  obtain ⟨hO, how, h0, h1, h3, hD, hF, hE, hT, ⟨lv9, hG⟩, hC, hL9, hQ, hW, hS, hTq9, htd, hcap⟩ := id h
  obtain ⟨za, ab, a1, a2, a3, a4, a5, a6, a7, a8, a9, a10, a11, a12, a13, a14⟩ := hS i hi
  have hll := hD.len
  obtain ⟨dfs, hDo⟩ := hD.ob
  intro f
  induction f with
  | zero =>
    intro j o b p hf ho hp9 hk
    rw [List.drop_eq_nil_of_le (by omega)] at hk
    refine At.go (q := xm164) rfl 2 (pc' := 32) (L' := [(6, .int (Int32.ofNat j)), (5, .int (Int32.ofNat p)), (4, .int (bI b)), (3, .int (Int32.ofNat o)), (2, .int nm), (0, .ref (A 0)), (1, .ref (A (20 + i)))]) (st' := [.ref (A 0), .int (Int32.ofNat j)]) rfl ?_
    refine At.gf rfl (by decide) h0 rfl ?_
    refine At.clp (as := [.ref (A 2)]) (rest := [.int (Int32.ofNat j)]) rfl (by decide) rfl (Nat.le_of_ble_eq_true rfl) (Nat.le_of_ble_eq_true rfl) (xrck_o (by decide) (by decide) hDo (by decide)) (Nat.le_of_ble_eq_true rfl) (m_size hD) ?_
    refine At.ic2 (tgt := 133) rfl rfl (fun _ => ?_) (fun h => absurd (h.symm.trans (decide_eq_true ((iN_le (a := M.1.length) (b := j) (by omega) (by omega)).mpr (by omega)))) (by decide))
    refine At.wk (L' := [(5, .int (Int32.ofNat p)), (4, .int (bI b)), (3, .int (Int32.ofNat o)), (0, .ref (A 0)), (1, .ref (A (20 + i)))]) (List.forall_mem_cons.mpr ⟨List.mem_of_getElem? (i := 1) rfl, (List.forall_mem_cons.mpr ⟨List.mem_of_getElem? (i := 2) rfl, (List.forall_mem_cons.mpr ⟨List.mem_of_getElem? (i := 3) rfl, (List.forall_mem_cons.mpr ⟨List.mem_of_getElem? (i := 5) rfl, (List.forall_mem_cons.mpr ⟨List.mem_of_getElem? (i := 6) rfl, (fun _ h => (List.not_mem_nil h).elim)⟩)⟩)⟩)⟩)⟩) (show ([6, 5, 4, 3, 2, 0, 1] : List Nat).Nodup by decide) ?_
    exact hk
  | succ f ih =>
    intro j o b p hf ho hp9 hk
    have hj : M.1[j]? = some (M.1[j]'(by omega)) := List.getElem?_eq_getElem _
    obtain ⟨a, ha⟩ : ∃ a, a = M.1[j]'(by omega) := ⟨_, rfl⟩
    rw [← ha] at hj
    obtain ⟨tf, ht⟩ := hst _ (List.mem_of_getElem? hj)
    have hdr : M.1.drop j = a :: M.1.drop (j + 1) := by rw [ha]; exact List.drop_eq_getElem_cons (by omega)
    rw [hdr] at hk
    by_cases hl : (TIq M.2.2.2.2.2.2 a).2.1 = (M.2.2.2.1 i).1
    · cases b with
      | true =>
        by_cases hn : (TIq M.2.2.2.2.2.2 a).1 = nm
        · have hn1 : ¬ (TIq M.2.2.2.2.2.2 a).1 < nm := by rw [hn]; exact Int32.lt_irrefl
          by_cases hn2 : (TIq M.2.2.2.2.2.2 a).2.1 < (M.2.2.2.1 i).1
          · have eb : (true || decide ((TIq M.2.2.2.2.2.2 a).1 = nm)) = true := Bool.true_or _
            have eK : mkL (TIq M.2.2.2.2.2.2) (M.2.2.2.1 i).1 nm (a :: M.1.drop (j + 1)) j o true p = mkL (TIq M.2.2.2.2.2.2) (M.2.2.2.1 i).1 nm (M.1.drop (j + 1)) (j + 1) (o + 1) true (j + 1) := by
              simp only [mkL]
              rw [if_pos hl, if_pos hl, eb, if_pos (Or.inr ⟨hn, hn2⟩)]
            rw [eK] at hk
            refine At.go (q := xm164) rfl 2 (pc' := 32) (L' := [(6, .int (Int32.ofNat j)), (5, .int (Int32.ofNat p)), (4, .int (bI true)), (3, .int (Int32.ofNat o)), (2, .int nm), (0, .ref (A 0)), (1, .ref (A (20 + i)))]) (st' := [.ref (A 0), .int (Int32.ofNat j)]) rfl ?_
            refine At.gf rfl (by decide) h0 rfl ?_
            refine At.clp (as := [.ref (A 2)]) (rest := [.int (Int32.ofNat j)]) rfl (by decide) rfl (Nat.le_of_ble_eq_true rfl) (Nat.le_of_ble_eq_true rfl) (xrck_o (by decide) (by decide) hDo (by decide)) (Nat.le_of_ble_eq_true rfl) (m_size hD) ?_
            refine At.ic2 (tgt := 133) rfl rfl (fun h => absurd (h.symm.trans (decide_eq_false (fun q9 => absurd ((iN_le (a := M.1.length) (b := j) (by omega) (by omega)).mp q9) (by omega)))) (by decide)) (fun _ => ?_)
            refine At.go (q := xm164) rfl 1 (pc' := 42) (L' := [(6, .int (Int32.ofNat j)), (5, .int (Int32.ofNat p)), (4, .int (bI true)), (3, .int (Int32.ofNat o)), (2, .int nm), (0, .ref (A 0)), (1, .ref (A (20 + i)))]) (st' := [.ref (A 0)]) rfl ?_
            refine At.gf rfl (by decide) h0 rfl ?_
            refine At.go (q := xm164) rfl 1 (pc' := 47) (L' := [(6, .int (Int32.ofNat j)), (5, .int (Int32.ofNat p)), (4, .int (bI true)), (3, .int (Int32.ofNat o)), (2, .int nm), (0, .ref (A 0)), (1, .ref (A (20 + i)))]) (st' := [.int (Int32.ofNat j), .ref (A 2)]) rfl ?_
            refine At.clp (as := [.ref (A 2), .int (Int32.ofNat j)]) (rest := []) rfl (by decide) rfl (Nat.le_of_ble_eq_true rfl) (Nat.le_of_ble_eq_true rfl) (xrck_o (by decide) (by decide) hDo (by decide)) (Nat.le_of_ble_eq_true rfl) (m_get hD hj) ?_
            refine At.ca rfl ht (by decide) ?_
            refine At.go (q := xm164) rfl 2 (pc' := 57) (L' := [(7, .ref a), (6, .int (Int32.ofNat j)), (5, .int (Int32.ofNat p)), (4, .int (bI true)), (3, .int (Int32.ofNat o)), (2, .int nm), (0, .ref (A 0)), (1, .ref (A (20 + i)))]) (st' := [.ref a]) rfl ?_
            refine At.gf rfl (by decide) ht rfl ?_
            refine At.go (q := xm164) rfl 1 (pc' := 61) (L' := [(7, .ref a), (6, .int (Int32.ofNat j)), (5, .int (Int32.ofNat p)), (4, .int (bI true)), (3, .int (Int32.ofNat o)), (2, .int nm), (0, .ref (A 0)), (1, .ref (A (20 + i)))]) (st' := [.ref (A (20 + i)), .int (TIq M.2.2.2.2.2.2 a).2.1]) rfl ?_
            refine At.gf rfl (by decide) a1 rfl ?_
            refine At.ic2 (tgt := 91) rfl rfl (fun h => absurd (h.symm.trans (decide_eq_false (fun e => e hl))) (by decide)) (fun _ => ?_)
            refine At.go (q := xm164) rfl 2 (pc' := 72) (L' := [(3, .int ((Int32.ofNat o) + 1)), (7, .ref a), (6, .int (Int32.ofNat j)), (5, .int (Int32.ofNat p)), (4, .int (bI true)), (2, .int nm), (0, .ref (A 0)), (1, .ref (A (20 + i)))]) (st' := [.int (bI true)]) rfl ?_
            refine At.ic1 (tgt := 84) rfl rfl (fun _ => ?_) (fun h => absurd (h.symm.trans (show decide (¬ bI true = 0) = true by decide)) (by decide))
            refine At.go (q := xm164) rfl 4 (pc' := 93) (L' := [(4, .int 1), (3, .int ((Int32.ofNat o) + 1)), (7, .ref a), (6, .int (Int32.ofNat j)), (5, .int (Int32.ofNat p)), (2, .int nm), (0, .ref (A 0)), (1, .ref (A (20 + i)))]) (st' := [.ref a]) rfl ?_
            refine At.gf rfl (by decide) ht rfl ?_
            refine At.go (q := xm164) rfl 1 (pc' := 97) (L' := [(4, .int 1), (3, .int ((Int32.ofNat o) + 1)), (7, .ref a), (6, .int (Int32.ofNat j)), (5, .int (Int32.ofNat p)), (2, .int nm), (0, .ref (A 0)), (1, .ref (A (20 + i)))]) (st' := [.int nm, .int (TIq M.2.2.2.2.2.2 a).1]) rfl ?_
            refine At.ic2 (tgt := 121) rfl rfl (fun h => absurd (h.symm.trans (decide_eq_false hn1)) (by decide)) (fun _ => ?_)
            refine At.go (q := xm164) rfl 1 (pc' := 102) (L' := [(4, .int 1), (3, .int ((Int32.ofNat o) + 1)), (7, .ref a), (6, .int (Int32.ofNat j)), (5, .int (Int32.ofNat p)), (2, .int nm), (0, .ref (A 0)), (1, .ref (A (20 + i)))]) (st' := [.ref a]) rfl ?_
            refine At.gf rfl (by decide) ht rfl ?_
            refine At.go (q := xm164) rfl 1 (pc' := 106) (L' := [(4, .int 1), (3, .int ((Int32.ofNat o) + 1)), (7, .ref a), (6, .int (Int32.ofNat j)), (5, .int (Int32.ofNat p)), (2, .int nm), (0, .ref (A 0)), (1, .ref (A (20 + i)))]) (st' := [.int nm, .int (TIq M.2.2.2.2.2.2 a).1]) rfl ?_
            refine At.ic2 (tgt := 127) rfl rfl (fun h => absurd (h.symm.trans (decide_eq_false (fun e => e hn))) (by decide)) (fun _ => ?_)
            refine At.go (q := xm164) rfl 1 (pc' := 111) (L' := [(4, .int 1), (3, .int ((Int32.ofNat o) + 1)), (7, .ref a), (6, .int (Int32.ofNat j)), (5, .int (Int32.ofNat p)), (2, .int nm), (0, .ref (A 0)), (1, .ref (A (20 + i)))]) (st' := [.ref a]) rfl ?_
            refine At.gf rfl (by decide) ht rfl ?_
            refine At.go (q := xm164) rfl 1 (pc' := 115) (L' := [(4, .int 1), (3, .int ((Int32.ofNat o) + 1)), (7, .ref a), (6, .int (Int32.ofNat j)), (5, .int (Int32.ofNat p)), (2, .int nm), (0, .ref (A 0)), (1, .ref (A (20 + i)))]) (st' := [.ref (A (20 + i)), .int (TIq M.2.2.2.2.2.2 a).2.1]) rfl ?_
            refine At.gf rfl (by decide) a1 rfl ?_
            refine At.ic2 (tgt := 127) rfl rfl (fun h => absurd (h.symm.trans (decide_eq_false (Int32.not_le.mpr hn2))) (by decide)) (fun _ => ?_)
            refine At.go (q := xm164) rfl 6 (pc' := 29) (L' := [(6, .int ((Int32.ofNat j) + 1)), (5, .int ((Int32.ofNat j) + 1)), (4, .int 1), (3, .int ((Int32.ofNat o) + 1)), (7, .ref a), (2, .int nm), (0, .ref (A 0)), (1, .ref (A (20 + i)))]) (st' := []) rfl ?_
            simp only [iN_s]
            refine At.wk (L' := [(6, .int (Int32.ofNat (j + 1))), (5, .int (Int32.ofNat (j + 1))), (4, .int 1), (3, .int (Int32.ofNat (o + 1))), (2, .int nm), (0, .ref (A 0)), (1, .ref (A (20 + i)))]) (List.forall_mem_cons.mpr ⟨List.mem_of_getElem? (i := 0) rfl, (List.forall_mem_cons.mpr ⟨List.mem_of_getElem? (i := 1) rfl, (List.forall_mem_cons.mpr ⟨List.mem_of_getElem? (i := 2) rfl, (List.forall_mem_cons.mpr ⟨List.mem_of_getElem? (i := 3) rfl, (List.forall_mem_cons.mpr ⟨List.mem_of_getElem? (i := 5) rfl, (List.forall_mem_cons.mpr ⟨List.mem_of_getElem? (i := 6) rfl, (List.forall_mem_cons.mpr ⟨List.mem_of_getElem? (i := 7) rfl, (fun _ h => (List.not_mem_nil h).elim)⟩)⟩)⟩)⟩)⟩)⟩)⟩) (show ([6, 5, 4, 3, 7, 2, 0, 1] : List Nat).Nodup by decide) ?_
            exact ih (j + 1) (o + 1) true (j + 1) (by omega) (by omega) (by omega) hk
          · have eb : (true || decide ((TIq M.2.2.2.2.2.2 a).1 = nm)) = true := Bool.true_or _
            have eK : mkL (TIq M.2.2.2.2.2.2) (M.2.2.2.1 i).1 nm (a :: M.1.drop (j + 1)) j o true p = mkL (TIq M.2.2.2.2.2.2) (M.2.2.2.1 i).1 nm (M.1.drop (j + 1)) (j + 1) (o + 1) true p := by
              simp only [mkL]
              rw [if_pos hl, if_pos hl, eb, if_neg (fun e => e.elim hn1 (fun e => hn2 e.2))]
            rw [eK] at hk
            refine At.go (q := xm164) rfl 2 (pc' := 32) (L' := [(6, .int (Int32.ofNat j)), (5, .int (Int32.ofNat p)), (4, .int (bI true)), (3, .int (Int32.ofNat o)), (2, .int nm), (0, .ref (A 0)), (1, .ref (A (20 + i)))]) (st' := [.ref (A 0), .int (Int32.ofNat j)]) rfl ?_
            refine At.gf rfl (by decide) h0 rfl ?_
            refine At.clp (as := [.ref (A 2)]) (rest := [.int (Int32.ofNat j)]) rfl (by decide) rfl (Nat.le_of_ble_eq_true rfl) (Nat.le_of_ble_eq_true rfl) (xrck_o (by decide) (by decide) hDo (by decide)) (Nat.le_of_ble_eq_true rfl) (m_size hD) ?_
            refine At.ic2 (tgt := 133) rfl rfl (fun h => absurd (h.symm.trans (decide_eq_false (fun q9 => absurd ((iN_le (a := M.1.length) (b := j) (by omega) (by omega)).mp q9) (by omega)))) (by decide)) (fun _ => ?_)
            refine At.go (q := xm164) rfl 1 (pc' := 42) (L' := [(6, .int (Int32.ofNat j)), (5, .int (Int32.ofNat p)), (4, .int (bI true)), (3, .int (Int32.ofNat o)), (2, .int nm), (0, .ref (A 0)), (1, .ref (A (20 + i)))]) (st' := [.ref (A 0)]) rfl ?_
            refine At.gf rfl (by decide) h0 rfl ?_
            refine At.go (q := xm164) rfl 1 (pc' := 47) (L' := [(6, .int (Int32.ofNat j)), (5, .int (Int32.ofNat p)), (4, .int (bI true)), (3, .int (Int32.ofNat o)), (2, .int nm), (0, .ref (A 0)), (1, .ref (A (20 + i)))]) (st' := [.int (Int32.ofNat j), .ref (A 2)]) rfl ?_
            refine At.clp (as := [.ref (A 2), .int (Int32.ofNat j)]) (rest := []) rfl (by decide) rfl (Nat.le_of_ble_eq_true rfl) (Nat.le_of_ble_eq_true rfl) (xrck_o (by decide) (by decide) hDo (by decide)) (Nat.le_of_ble_eq_true rfl) (m_get hD hj) ?_
            refine At.ca rfl ht (by decide) ?_
            refine At.go (q := xm164) rfl 2 (pc' := 57) (L' := [(7, .ref a), (6, .int (Int32.ofNat j)), (5, .int (Int32.ofNat p)), (4, .int (bI true)), (3, .int (Int32.ofNat o)), (2, .int nm), (0, .ref (A 0)), (1, .ref (A (20 + i)))]) (st' := [.ref a]) rfl ?_
            refine At.gf rfl (by decide) ht rfl ?_
            refine At.go (q := xm164) rfl 1 (pc' := 61) (L' := [(7, .ref a), (6, .int (Int32.ofNat j)), (5, .int (Int32.ofNat p)), (4, .int (bI true)), (3, .int (Int32.ofNat o)), (2, .int nm), (0, .ref (A 0)), (1, .ref (A (20 + i)))]) (st' := [.ref (A (20 + i)), .int (TIq M.2.2.2.2.2.2 a).2.1]) rfl ?_
            refine At.gf rfl (by decide) a1 rfl ?_
            refine At.ic2 (tgt := 91) rfl rfl (fun h => absurd (h.symm.trans (decide_eq_false (fun e => e hl))) (by decide)) (fun _ => ?_)
            refine At.go (q := xm164) rfl 2 (pc' := 72) (L' := [(3, .int ((Int32.ofNat o) + 1)), (7, .ref a), (6, .int (Int32.ofNat j)), (5, .int (Int32.ofNat p)), (4, .int (bI true)), (2, .int nm), (0, .ref (A 0)), (1, .ref (A (20 + i)))]) (st' := [.int (bI true)]) rfl ?_
            refine At.ic1 (tgt := 84) rfl rfl (fun _ => ?_) (fun h => absurd (h.symm.trans (show decide (¬ bI true = 0) = true by decide)) (by decide))
            refine At.go (q := xm164) rfl 4 (pc' := 93) (L' := [(4, .int 1), (3, .int ((Int32.ofNat o) + 1)), (7, .ref a), (6, .int (Int32.ofNat j)), (5, .int (Int32.ofNat p)), (2, .int nm), (0, .ref (A 0)), (1, .ref (A (20 + i)))]) (st' := [.ref a]) rfl ?_
            refine At.gf rfl (by decide) ht rfl ?_
            refine At.go (q := xm164) rfl 1 (pc' := 97) (L' := [(4, .int 1), (3, .int ((Int32.ofNat o) + 1)), (7, .ref a), (6, .int (Int32.ofNat j)), (5, .int (Int32.ofNat p)), (2, .int nm), (0, .ref (A 0)), (1, .ref (A (20 + i)))]) (st' := [.int nm, .int (TIq M.2.2.2.2.2.2 a).1]) rfl ?_
            refine At.ic2 (tgt := 121) rfl rfl (fun h => absurd (h.symm.trans (decide_eq_false hn1)) (by decide)) (fun _ => ?_)
            refine At.go (q := xm164) rfl 1 (pc' := 102) (L' := [(4, .int 1), (3, .int ((Int32.ofNat o) + 1)), (7, .ref a), (6, .int (Int32.ofNat j)), (5, .int (Int32.ofNat p)), (2, .int nm), (0, .ref (A 0)), (1, .ref (A (20 + i)))]) (st' := [.ref a]) rfl ?_
            refine At.gf rfl (by decide) ht rfl ?_
            refine At.go (q := xm164) rfl 1 (pc' := 106) (L' := [(4, .int 1), (3, .int ((Int32.ofNat o) + 1)), (7, .ref a), (6, .int (Int32.ofNat j)), (5, .int (Int32.ofNat p)), (2, .int nm), (0, .ref (A 0)), (1, .ref (A (20 + i)))]) (st' := [.int nm, .int (TIq M.2.2.2.2.2.2 a).1]) rfl ?_
            refine At.ic2 (tgt := 127) rfl rfl (fun h => absurd (h.symm.trans (decide_eq_false (fun e => e hn))) (by decide)) (fun _ => ?_)
            refine At.go (q := xm164) rfl 1 (pc' := 111) (L' := [(4, .int 1), (3, .int ((Int32.ofNat o) + 1)), (7, .ref a), (6, .int (Int32.ofNat j)), (5, .int (Int32.ofNat p)), (2, .int nm), (0, .ref (A 0)), (1, .ref (A (20 + i)))]) (st' := [.ref a]) rfl ?_
            refine At.gf rfl (by decide) ht rfl ?_
            refine At.go (q := xm164) rfl 1 (pc' := 115) (L' := [(4, .int 1), (3, .int ((Int32.ofNat o) + 1)), (7, .ref a), (6, .int (Int32.ofNat j)), (5, .int (Int32.ofNat p)), (2, .int nm), (0, .ref (A 0)), (1, .ref (A (20 + i)))]) (st' := [.ref (A (20 + i)), .int (TIq M.2.2.2.2.2.2 a).2.1]) rfl ?_
            refine At.gf rfl (by decide) a1 rfl ?_
            refine At.ic2 (tgt := 127) rfl rfl (fun _ => ?_) (fun h => absurd (h.symm.trans (decide_eq_true (Int32.not_lt.mp hn2))) (by decide))
            refine At.go (q := xm164) rfl 2 (pc' := 29) (L' := [(6, .int ((Int32.ofNat j) + 1)), (4, .int 1), (3, .int ((Int32.ofNat o) + 1)), (7, .ref a), (5, .int (Int32.ofNat p)), (2, .int nm), (0, .ref (A 0)), (1, .ref (A (20 + i)))]) (st' := []) rfl ?_
            simp only [iN_s]
            refine At.wk (L' := [(6, .int (Int32.ofNat (j + 1))), (5, .int (Int32.ofNat p)), (4, .int 1), (3, .int (Int32.ofNat (o + 1))), (2, .int nm), (0, .ref (A 0)), (1, .ref (A (20 + i)))]) (List.forall_mem_cons.mpr ⟨List.mem_of_getElem? (i := 0) rfl, (List.forall_mem_cons.mpr ⟨List.mem_of_getElem? (i := 4) rfl, (List.forall_mem_cons.mpr ⟨List.mem_of_getElem? (i := 1) rfl, (List.forall_mem_cons.mpr ⟨List.mem_of_getElem? (i := 2) rfl, (List.forall_mem_cons.mpr ⟨List.mem_of_getElem? (i := 5) rfl, (List.forall_mem_cons.mpr ⟨List.mem_of_getElem? (i := 6) rfl, (List.forall_mem_cons.mpr ⟨List.mem_of_getElem? (i := 7) rfl, (fun _ h => (List.not_mem_nil h).elim)⟩)⟩)⟩)⟩)⟩)⟩)⟩) (show ([6, 4, 3, 7, 5, 2, 0, 1] : List Nat).Nodup by decide) ?_
            exact ih (j + 1) (o + 1) true p (by omega) (by omega) (by omega) hk
        · by_cases hn1 : (TIq M.2.2.2.2.2.2 a).1 < nm
          · have hne := hn
            replace hn := hn1
            have eb : (true || decide ((TIq M.2.2.2.2.2.2 a).1 = nm)) = true := Bool.true_or _
            have eK : mkL (TIq M.2.2.2.2.2.2) (M.2.2.2.1 i).1 nm (a :: M.1.drop (j + 1)) j o true p = mkL (TIq M.2.2.2.2.2.2) (M.2.2.2.1 i).1 nm (M.1.drop (j + 1)) (j + 1) (o + 1) true (j + 1) := by
              simp only [mkL]
              rw [if_pos hl, if_pos hl, eb, if_pos (Or.inl hn)]
            rw [eK] at hk
            refine At.go (q := xm164) rfl 2 (pc' := 32) (L' := [(6, .int (Int32.ofNat j)), (5, .int (Int32.ofNat p)), (4, .int (bI true)), (3, .int (Int32.ofNat o)), (2, .int nm), (0, .ref (A 0)), (1, .ref (A (20 + i)))]) (st' := [.ref (A 0), .int (Int32.ofNat j)]) rfl ?_
            refine At.gf rfl (by decide) h0 rfl ?_
            refine At.clp (as := [.ref (A 2)]) (rest := [.int (Int32.ofNat j)]) rfl (by decide) rfl (Nat.le_of_ble_eq_true rfl) (Nat.le_of_ble_eq_true rfl) (xrck_o (by decide) (by decide) hDo (by decide)) (Nat.le_of_ble_eq_true rfl) (m_size hD) ?_
            refine At.ic2 (tgt := 133) rfl rfl (fun h => absurd (h.symm.trans (decide_eq_false (fun q9 => absurd ((iN_le (a := M.1.length) (b := j) (by omega) (by omega)).mp q9) (by omega)))) (by decide)) (fun _ => ?_)
            refine At.go (q := xm164) rfl 1 (pc' := 42) (L' := [(6, .int (Int32.ofNat j)), (5, .int (Int32.ofNat p)), (4, .int (bI true)), (3, .int (Int32.ofNat o)), (2, .int nm), (0, .ref (A 0)), (1, .ref (A (20 + i)))]) (st' := [.ref (A 0)]) rfl ?_
            refine At.gf rfl (by decide) h0 rfl ?_
            refine At.go (q := xm164) rfl 1 (pc' := 47) (L' := [(6, .int (Int32.ofNat j)), (5, .int (Int32.ofNat p)), (4, .int (bI true)), (3, .int (Int32.ofNat o)), (2, .int nm), (0, .ref (A 0)), (1, .ref (A (20 + i)))]) (st' := [.int (Int32.ofNat j), .ref (A 2)]) rfl ?_
            refine At.clp (as := [.ref (A 2), .int (Int32.ofNat j)]) (rest := []) rfl (by decide) rfl (Nat.le_of_ble_eq_true rfl) (Nat.le_of_ble_eq_true rfl) (xrck_o (by decide) (by decide) hDo (by decide)) (Nat.le_of_ble_eq_true rfl) (m_get hD hj) ?_
            refine At.ca rfl ht (by decide) ?_
            refine At.go (q := xm164) rfl 2 (pc' := 57) (L' := [(7, .ref a), (6, .int (Int32.ofNat j)), (5, .int (Int32.ofNat p)), (4, .int (bI true)), (3, .int (Int32.ofNat o)), (2, .int nm), (0, .ref (A 0)), (1, .ref (A (20 + i)))]) (st' := [.ref a]) rfl ?_
            refine At.gf rfl (by decide) ht rfl ?_
            refine At.go (q := xm164) rfl 1 (pc' := 61) (L' := [(7, .ref a), (6, .int (Int32.ofNat j)), (5, .int (Int32.ofNat p)), (4, .int (bI true)), (3, .int (Int32.ofNat o)), (2, .int nm), (0, .ref (A 0)), (1, .ref (A (20 + i)))]) (st' := [.ref (A (20 + i)), .int (TIq M.2.2.2.2.2.2 a).2.1]) rfl ?_
            refine At.gf rfl (by decide) a1 rfl ?_
            refine At.ic2 (tgt := 91) rfl rfl (fun h => absurd (h.symm.trans (decide_eq_false (fun e => e hl))) (by decide)) (fun _ => ?_)
            refine At.go (q := xm164) rfl 2 (pc' := 72) (L' := [(3, .int ((Int32.ofNat o) + 1)), (7, .ref a), (6, .int (Int32.ofNat j)), (5, .int (Int32.ofNat p)), (4, .int (bI true)), (2, .int nm), (0, .ref (A 0)), (1, .ref (A (20 + i)))]) (st' := [.int (bI true)]) rfl ?_
            refine At.ic1 (tgt := 84) rfl rfl (fun _ => ?_) (fun h => absurd (h.symm.trans (show decide (¬ bI true = 0) = true by decide)) (by decide))
            refine At.go (q := xm164) rfl 4 (pc' := 93) (L' := [(4, .int 1), (3, .int ((Int32.ofNat o) + 1)), (7, .ref a), (6, .int (Int32.ofNat j)), (5, .int (Int32.ofNat p)), (2, .int nm), (0, .ref (A 0)), (1, .ref (A (20 + i)))]) (st' := [.ref a]) rfl ?_
            refine At.gf rfl (by decide) ht rfl ?_
            refine At.go (q := xm164) rfl 1 (pc' := 97) (L' := [(4, .int 1), (3, .int ((Int32.ofNat o) + 1)), (7, .ref a), (6, .int (Int32.ofNat j)), (5, .int (Int32.ofNat p)), (2, .int nm), (0, .ref (A 0)), (1, .ref (A (20 + i)))]) (st' := [.int nm, .int (TIq M.2.2.2.2.2.2 a).1]) rfl ?_
            refine At.ic2 (tgt := 121) rfl rfl (fun _ => ?_) (fun h => absurd (h.symm.trans (decide_eq_true hn)) (by decide))
            refine At.go (q := xm164) rfl 6 (pc' := 29) (L' := [(6, .int ((Int32.ofNat j) + 1)), (5, .int ((Int32.ofNat j) + 1)), (4, .int 1), (3, .int ((Int32.ofNat o) + 1)), (7, .ref a), (2, .int nm), (0, .ref (A 0)), (1, .ref (A (20 + i)))]) (st' := []) rfl ?_
            simp only [iN_s]
            refine At.wk (L' := [(6, .int (Int32.ofNat (j + 1))), (5, .int (Int32.ofNat (j + 1))), (4, .int 1), (3, .int (Int32.ofNat (o + 1))), (2, .int nm), (0, .ref (A 0)), (1, .ref (A (20 + i)))]) (List.forall_mem_cons.mpr ⟨List.mem_of_getElem? (i := 0) rfl, (List.forall_mem_cons.mpr ⟨List.mem_of_getElem? (i := 1) rfl, (List.forall_mem_cons.mpr ⟨List.mem_of_getElem? (i := 2) rfl, (List.forall_mem_cons.mpr ⟨List.mem_of_getElem? (i := 3) rfl, (List.forall_mem_cons.mpr ⟨List.mem_of_getElem? (i := 5) rfl, (List.forall_mem_cons.mpr ⟨List.mem_of_getElem? (i := 6) rfl, (List.forall_mem_cons.mpr ⟨List.mem_of_getElem? (i := 7) rfl, (fun _ h => (List.not_mem_nil h).elim)⟩)⟩)⟩)⟩)⟩)⟩)⟩) (show ([6, 5, 4, 3, 7, 2, 0, 1] : List Nat).Nodup by decide) ?_
            exact ih (j + 1) (o + 1) true (j + 1) (by omega) (by omega) (by omega) hk
          · have eb : (true || decide ((TIq M.2.2.2.2.2.2 a).1 = nm)) = true := Bool.true_or _
            have eK : mkL (TIq M.2.2.2.2.2.2) (M.2.2.2.1 i).1 nm (a :: M.1.drop (j + 1)) j o true p = mkL (TIq M.2.2.2.2.2.2) (M.2.2.2.1 i).1 nm (M.1.drop (j + 1)) (j + 1) (o + 1) true p := by
              simp only [mkL]
              rw [if_pos hl, if_pos hl, eb, if_neg (fun e => e.elim hn1 (fun e => hn e.1))]
            rw [eK] at hk
            refine At.go (q := xm164) rfl 2 (pc' := 32) (L' := [(6, .int (Int32.ofNat j)), (5, .int (Int32.ofNat p)), (4, .int (bI true)), (3, .int (Int32.ofNat o)), (2, .int nm), (0, .ref (A 0)), (1, .ref (A (20 + i)))]) (st' := [.ref (A 0), .int (Int32.ofNat j)]) rfl ?_
            refine At.gf rfl (by decide) h0 rfl ?_
            refine At.clp (as := [.ref (A 2)]) (rest := [.int (Int32.ofNat j)]) rfl (by decide) rfl (Nat.le_of_ble_eq_true rfl) (Nat.le_of_ble_eq_true rfl) (xrck_o (by decide) (by decide) hDo (by decide)) (Nat.le_of_ble_eq_true rfl) (m_size hD) ?_
            refine At.ic2 (tgt := 133) rfl rfl (fun h => absurd (h.symm.trans (decide_eq_false (fun q9 => absurd ((iN_le (a := M.1.length) (b := j) (by omega) (by omega)).mp q9) (by omega)))) (by decide)) (fun _ => ?_)
            refine At.go (q := xm164) rfl 1 (pc' := 42) (L' := [(6, .int (Int32.ofNat j)), (5, .int (Int32.ofNat p)), (4, .int (bI true)), (3, .int (Int32.ofNat o)), (2, .int nm), (0, .ref (A 0)), (1, .ref (A (20 + i)))]) (st' := [.ref (A 0)]) rfl ?_
            refine At.gf rfl (by decide) h0 rfl ?_
            refine At.go (q := xm164) rfl 1 (pc' := 47) (L' := [(6, .int (Int32.ofNat j)), (5, .int (Int32.ofNat p)), (4, .int (bI true)), (3, .int (Int32.ofNat o)), (2, .int nm), (0, .ref (A 0)), (1, .ref (A (20 + i)))]) (st' := [.int (Int32.ofNat j), .ref (A 2)]) rfl ?_
            refine At.clp (as := [.ref (A 2), .int (Int32.ofNat j)]) (rest := []) rfl (by decide) rfl (Nat.le_of_ble_eq_true rfl) (Nat.le_of_ble_eq_true rfl) (xrck_o (by decide) (by decide) hDo (by decide)) (Nat.le_of_ble_eq_true rfl) (m_get hD hj) ?_
            refine At.ca rfl ht (by decide) ?_
            refine At.go (q := xm164) rfl 2 (pc' := 57) (L' := [(7, .ref a), (6, .int (Int32.ofNat j)), (5, .int (Int32.ofNat p)), (4, .int (bI true)), (3, .int (Int32.ofNat o)), (2, .int nm), (0, .ref (A 0)), (1, .ref (A (20 + i)))]) (st' := [.ref a]) rfl ?_
            refine At.gf rfl (by decide) ht rfl ?_
            refine At.go (q := xm164) rfl 1 (pc' := 61) (L' := [(7, .ref a), (6, .int (Int32.ofNat j)), (5, .int (Int32.ofNat p)), (4, .int (bI true)), (3, .int (Int32.ofNat o)), (2, .int nm), (0, .ref (A 0)), (1, .ref (A (20 + i)))]) (st' := [.ref (A (20 + i)), .int (TIq M.2.2.2.2.2.2 a).2.1]) rfl ?_
            refine At.gf rfl (by decide) a1 rfl ?_
            refine At.ic2 (tgt := 91) rfl rfl (fun h => absurd (h.symm.trans (decide_eq_false (fun e => e hl))) (by decide)) (fun _ => ?_)
            refine At.go (q := xm164) rfl 2 (pc' := 72) (L' := [(3, .int ((Int32.ofNat o) + 1)), (7, .ref a), (6, .int (Int32.ofNat j)), (5, .int (Int32.ofNat p)), (4, .int (bI true)), (2, .int nm), (0, .ref (A 0)), (1, .ref (A (20 + i)))]) (st' := [.int (bI true)]) rfl ?_
            refine At.ic1 (tgt := 84) rfl rfl (fun _ => ?_) (fun h => absurd (h.symm.trans (show decide (¬ bI true = 0) = true by decide)) (by decide))
            refine At.go (q := xm164) rfl 4 (pc' := 93) (L' := [(4, .int 1), (3, .int ((Int32.ofNat o) + 1)), (7, .ref a), (6, .int (Int32.ofNat j)), (5, .int (Int32.ofNat p)), (2, .int nm), (0, .ref (A 0)), (1, .ref (A (20 + i)))]) (st' := [.ref a]) rfl ?_
            refine At.gf rfl (by decide) ht rfl ?_
            refine At.go (q := xm164) rfl 1 (pc' := 97) (L' := [(4, .int 1), (3, .int ((Int32.ofNat o) + 1)), (7, .ref a), (6, .int (Int32.ofNat j)), (5, .int (Int32.ofNat p)), (2, .int nm), (0, .ref (A 0)), (1, .ref (A (20 + i)))]) (st' := [.int nm, .int (TIq M.2.2.2.2.2.2 a).1]) rfl ?_
            refine At.ic2 (tgt := 121) rfl rfl (fun h => absurd (h.symm.trans (decide_eq_false hn1)) (by decide)) (fun _ => ?_)
            refine At.go (q := xm164) rfl 1 (pc' := 102) (L' := [(4, .int 1), (3, .int ((Int32.ofNat o) + 1)), (7, .ref a), (6, .int (Int32.ofNat j)), (5, .int (Int32.ofNat p)), (2, .int nm), (0, .ref (A 0)), (1, .ref (A (20 + i)))]) (st' := [.ref a]) rfl ?_
            refine At.gf rfl (by decide) ht rfl ?_
            refine At.go (q := xm164) rfl 1 (pc' := 106) (L' := [(4, .int 1), (3, .int ((Int32.ofNat o) + 1)), (7, .ref a), (6, .int (Int32.ofNat j)), (5, .int (Int32.ofNat p)), (2, .int nm), (0, .ref (A 0)), (1, .ref (A (20 + i)))]) (st' := [.int nm, .int (TIq M.2.2.2.2.2.2 a).1]) rfl ?_
            refine At.ic2 (tgt := 127) rfl rfl (fun _ => ?_) (fun h => absurd (h.symm.trans (decide_eq_true hn)) (by decide))
            refine At.go (q := xm164) rfl 2 (pc' := 29) (L' := [(6, .int ((Int32.ofNat j) + 1)), (4, .int 1), (3, .int ((Int32.ofNat o) + 1)), (7, .ref a), (5, .int (Int32.ofNat p)), (2, .int nm), (0, .ref (A 0)), (1, .ref (A (20 + i)))]) (st' := []) rfl ?_
            simp only [iN_s]
            refine At.wk (L' := [(6, .int (Int32.ofNat (j + 1))), (5, .int (Int32.ofNat p)), (4, .int 1), (3, .int (Int32.ofNat (o + 1))), (2, .int nm), (0, .ref (A 0)), (1, .ref (A (20 + i)))]) (List.forall_mem_cons.mpr ⟨List.mem_of_getElem? (i := 0) rfl, (List.forall_mem_cons.mpr ⟨List.mem_of_getElem? (i := 4) rfl, (List.forall_mem_cons.mpr ⟨List.mem_of_getElem? (i := 1) rfl, (List.forall_mem_cons.mpr ⟨List.mem_of_getElem? (i := 2) rfl, (List.forall_mem_cons.mpr ⟨List.mem_of_getElem? (i := 5) rfl, (List.forall_mem_cons.mpr ⟨List.mem_of_getElem? (i := 6) rfl, (List.forall_mem_cons.mpr ⟨List.mem_of_getElem? (i := 7) rfl, (fun _ h => (List.not_mem_nil h).elim)⟩)⟩)⟩)⟩)⟩)⟩)⟩) (show ([6, 4, 3, 7, 5, 2, 0, 1] : List Nat).Nodup by decide) ?_
            exact ih (j + 1) (o + 1) true p (by omega) (by omega) (by omega) hk
      | false =>
        by_cases hn : (TIq M.2.2.2.2.2.2 a).1 = nm
        · have hn1 : ¬ (TIq M.2.2.2.2.2.2 a).1 < nm := by rw [hn]; exact Int32.lt_irrefl
          by_cases hn2 : (TIq M.2.2.2.2.2.2 a).2.1 < (M.2.2.2.1 i).1
          · have eb : (false || decide ((TIq M.2.2.2.2.2.2 a).1 = nm)) = true := by rw [Bool.false_or]; exact decide_eq_true hn
            have eK : mkL (TIq M.2.2.2.2.2.2) (M.2.2.2.1 i).1 nm (a :: M.1.drop (j + 1)) j o false p = mkL (TIq M.2.2.2.2.2.2) (M.2.2.2.1 i).1 nm (M.1.drop (j + 1)) (j + 1) (o + 1) true (j + 1) := by
              simp only [mkL]
              rw [if_pos hl, if_pos hl, eb, if_pos (Or.inr ⟨hn, hn2⟩)]
            rw [eK] at hk
            refine At.go (q := xm164) rfl 2 (pc' := 32) (L' := [(6, .int (Int32.ofNat j)), (5, .int (Int32.ofNat p)), (4, .int (bI false)), (3, .int (Int32.ofNat o)), (2, .int nm), (0, .ref (A 0)), (1, .ref (A (20 + i)))]) (st' := [.ref (A 0), .int (Int32.ofNat j)]) rfl ?_
            refine At.gf rfl (by decide) h0 rfl ?_
            refine At.clp (as := [.ref (A 2)]) (rest := [.int (Int32.ofNat j)]) rfl (by decide) rfl (Nat.le_of_ble_eq_true rfl) (Nat.le_of_ble_eq_true rfl) (xrck_o (by decide) (by decide) hDo (by decide)) (Nat.le_of_ble_eq_true rfl) (m_size hD) ?_
            refine At.ic2 (tgt := 133) rfl rfl (fun h => absurd (h.symm.trans (decide_eq_false (fun q9 => absurd ((iN_le (a := M.1.length) (b := j) (by omega) (by omega)).mp q9) (by omega)))) (by decide)) (fun _ => ?_)
            refine At.go (q := xm164) rfl 1 (pc' := 42) (L' := [(6, .int (Int32.ofNat j)), (5, .int (Int32.ofNat p)), (4, .int (bI false)), (3, .int (Int32.ofNat o)), (2, .int nm), (0, .ref (A 0)), (1, .ref (A (20 + i)))]) (st' := [.ref (A 0)]) rfl ?_
            refine At.gf rfl (by decide) h0 rfl ?_
            refine At.go (q := xm164) rfl 1 (pc' := 47) (L' := [(6, .int (Int32.ofNat j)), (5, .int (Int32.ofNat p)), (4, .int (bI false)), (3, .int (Int32.ofNat o)), (2, .int nm), (0, .ref (A 0)), (1, .ref (A (20 + i)))]) (st' := [.int (Int32.ofNat j), .ref (A 2)]) rfl ?_
            refine At.clp (as := [.ref (A 2), .int (Int32.ofNat j)]) (rest := []) rfl (by decide) rfl (Nat.le_of_ble_eq_true rfl) (Nat.le_of_ble_eq_true rfl) (xrck_o (by decide) (by decide) hDo (by decide)) (Nat.le_of_ble_eq_true rfl) (m_get hD hj) ?_
            refine At.ca rfl ht (by decide) ?_
            refine At.go (q := xm164) rfl 2 (pc' := 57) (L' := [(7, .ref a), (6, .int (Int32.ofNat j)), (5, .int (Int32.ofNat p)), (4, .int (bI false)), (3, .int (Int32.ofNat o)), (2, .int nm), (0, .ref (A 0)), (1, .ref (A (20 + i)))]) (st' := [.ref a]) rfl ?_
            refine At.gf rfl (by decide) ht rfl ?_
            refine At.go (q := xm164) rfl 1 (pc' := 61) (L' := [(7, .ref a), (6, .int (Int32.ofNat j)), (5, .int (Int32.ofNat p)), (4, .int (bI false)), (3, .int (Int32.ofNat o)), (2, .int nm), (0, .ref (A 0)), (1, .ref (A (20 + i)))]) (st' := [.ref (A (20 + i)), .int (TIq M.2.2.2.2.2.2 a).2.1]) rfl ?_
            refine At.gf rfl (by decide) a1 rfl ?_
            refine At.ic2 (tgt := 91) rfl rfl (fun h => absurd (h.symm.trans (decide_eq_false (fun e => e hl))) (by decide)) (fun _ => ?_)
            refine At.go (q := xm164) rfl 2 (pc' := 72) (L' := [(3, .int ((Int32.ofNat o) + 1)), (7, .ref a), (6, .int (Int32.ofNat j)), (5, .int (Int32.ofNat p)), (4, .int (bI false)), (2, .int nm), (0, .ref (A 0)), (1, .ref (A (20 + i)))]) (st' := [.int (bI false)]) rfl ?_
            refine At.ic1 (tgt := 84) rfl rfl (fun h => absurd (h.symm.trans (show decide (¬ bI false = 0) = false by decide)) (by decide)) (fun _ => ?_)
            refine At.go (q := xm164) rfl 1 (pc' := 77) (L' := [(3, .int ((Int32.ofNat o) + 1)), (7, .ref a), (6, .int (Int32.ofNat j)), (5, .int (Int32.ofNat p)), (4, .int (bI false)), (2, .int nm), (0, .ref (A 0)), (1, .ref (A (20 + i)))]) (st' := [.ref a]) rfl ?_
            refine At.gf rfl (by decide) ht rfl ?_
            refine At.go (q := xm164) rfl 1 (pc' := 81) (L' := [(3, .int ((Int32.ofNat o) + 1)), (7, .ref a), (6, .int (Int32.ofNat j)), (5, .int (Int32.ofNat p)), (4, .int (bI false)), (2, .int nm), (0, .ref (A 0)), (1, .ref (A (20 + i)))]) (st' := [.int nm, .int (TIq M.2.2.2.2.2.2 a).1]) rfl ?_
            refine At.ic2 (tgt := 88) rfl rfl (fun h => absurd (h.symm.trans (decide_eq_false (fun e => e hn))) (by decide)) (fun _ => ?_)
            refine At.go (q := xm164) rfl 4 (pc' := 93) (L' := [(4, .int 1), (3, .int ((Int32.ofNat o) + 1)), (7, .ref a), (6, .int (Int32.ofNat j)), (5, .int (Int32.ofNat p)), (2, .int nm), (0, .ref (A 0)), (1, .ref (A (20 + i)))]) (st' := [.ref a]) rfl ?_
            refine At.gf rfl (by decide) ht rfl ?_
            refine At.go (q := xm164) rfl 1 (pc' := 97) (L' := [(4, .int 1), (3, .int ((Int32.ofNat o) + 1)), (7, .ref a), (6, .int (Int32.ofNat j)), (5, .int (Int32.ofNat p)), (2, .int nm), (0, .ref (A 0)), (1, .ref (A (20 + i)))]) (st' := [.int nm, .int (TIq M.2.2.2.2.2.2 a).1]) rfl ?_
            refine At.ic2 (tgt := 121) rfl rfl (fun h => absurd (h.symm.trans (decide_eq_false hn1)) (by decide)) (fun _ => ?_)
            refine At.go (q := xm164) rfl 1 (pc' := 102) (L' := [(4, .int 1), (3, .int ((Int32.ofNat o) + 1)), (7, .ref a), (6, .int (Int32.ofNat j)), (5, .int (Int32.ofNat p)), (2, .int nm), (0, .ref (A 0)), (1, .ref (A (20 + i)))]) (st' := [.ref a]) rfl ?_
            refine At.gf rfl (by decide) ht rfl ?_
            refine At.go (q := xm164) rfl 1 (pc' := 106) (L' := [(4, .int 1), (3, .int ((Int32.ofNat o) + 1)), (7, .ref a), (6, .int (Int32.ofNat j)), (5, .int (Int32.ofNat p)), (2, .int nm), (0, .ref (A 0)), (1, .ref (A (20 + i)))]) (st' := [.int nm, .int (TIq M.2.2.2.2.2.2 a).1]) rfl ?_
            refine At.ic2 (tgt := 127) rfl rfl (fun h => absurd (h.symm.trans (decide_eq_false (fun e => e hn))) (by decide)) (fun _ => ?_)
            refine At.go (q := xm164) rfl 1 (pc' := 111) (L' := [(4, .int 1), (3, .int ((Int32.ofNat o) + 1)), (7, .ref a), (6, .int (Int32.ofNat j)), (5, .int (Int32.ofNat p)), (2, .int nm), (0, .ref (A 0)), (1, .ref (A (20 + i)))]) (st' := [.ref a]) rfl ?_
            refine At.gf rfl (by decide) ht rfl ?_
            refine At.go (q := xm164) rfl 1 (pc' := 115) (L' := [(4, .int 1), (3, .int ((Int32.ofNat o) + 1)), (7, .ref a), (6, .int (Int32.ofNat j)), (5, .int (Int32.ofNat p)), (2, .int nm), (0, .ref (A 0)), (1, .ref (A (20 + i)))]) (st' := [.ref (A (20 + i)), .int (TIq M.2.2.2.2.2.2 a).2.1]) rfl ?_
            refine At.gf rfl (by decide) a1 rfl ?_
            refine At.ic2 (tgt := 127) rfl rfl (fun h => absurd (h.symm.trans (decide_eq_false (Int32.not_le.mpr hn2))) (by decide)) (fun _ => ?_)
            refine At.go (q := xm164) rfl 6 (pc' := 29) (L' := [(6, .int ((Int32.ofNat j) + 1)), (5, .int ((Int32.ofNat j) + 1)), (4, .int 1), (3, .int ((Int32.ofNat o) + 1)), (7, .ref a), (2, .int nm), (0, .ref (A 0)), (1, .ref (A (20 + i)))]) (st' := []) rfl ?_
            simp only [iN_s]
            refine At.wk (L' := [(6, .int (Int32.ofNat (j + 1))), (5, .int (Int32.ofNat (j + 1))), (4, .int 1), (3, .int (Int32.ofNat (o + 1))), (2, .int nm), (0, .ref (A 0)), (1, .ref (A (20 + i)))]) (List.forall_mem_cons.mpr ⟨List.mem_of_getElem? (i := 0) rfl, (List.forall_mem_cons.mpr ⟨List.mem_of_getElem? (i := 1) rfl, (List.forall_mem_cons.mpr ⟨List.mem_of_getElem? (i := 2) rfl, (List.forall_mem_cons.mpr ⟨List.mem_of_getElem? (i := 3) rfl, (List.forall_mem_cons.mpr ⟨List.mem_of_getElem? (i := 5) rfl, (List.forall_mem_cons.mpr ⟨List.mem_of_getElem? (i := 6) rfl, (List.forall_mem_cons.mpr ⟨List.mem_of_getElem? (i := 7) rfl, (fun _ h => (List.not_mem_nil h).elim)⟩)⟩)⟩)⟩)⟩)⟩)⟩) (show ([6, 5, 4, 3, 7, 2, 0, 1] : List Nat).Nodup by decide) ?_
            exact ih (j + 1) (o + 1) true (j + 1) (by omega) (by omega) (by omega) hk
          · have eb : (false || decide ((TIq M.2.2.2.2.2.2 a).1 = nm)) = true := by rw [Bool.false_or]; exact decide_eq_true hn
            have eK : mkL (TIq M.2.2.2.2.2.2) (M.2.2.2.1 i).1 nm (a :: M.1.drop (j + 1)) j o false p = mkL (TIq M.2.2.2.2.2.2) (M.2.2.2.1 i).1 nm (M.1.drop (j + 1)) (j + 1) (o + 1) true p := by
              simp only [mkL]
              rw [if_pos hl, if_pos hl, eb, if_neg (fun e => e.elim hn1 (fun e => hn2 e.2))]
            rw [eK] at hk
            refine At.go (q := xm164) rfl 2 (pc' := 32) (L' := [(6, .int (Int32.ofNat j)), (5, .int (Int32.ofNat p)), (4, .int (bI false)), (3, .int (Int32.ofNat o)), (2, .int nm), (0, .ref (A 0)), (1, .ref (A (20 + i)))]) (st' := [.ref (A 0), .int (Int32.ofNat j)]) rfl ?_
            refine At.gf rfl (by decide) h0 rfl ?_
            refine At.clp (as := [.ref (A 2)]) (rest := [.int (Int32.ofNat j)]) rfl (by decide) rfl (Nat.le_of_ble_eq_true rfl) (Nat.le_of_ble_eq_true rfl) (xrck_o (by decide) (by decide) hDo (by decide)) (Nat.le_of_ble_eq_true rfl) (m_size hD) ?_
            refine At.ic2 (tgt := 133) rfl rfl (fun h => absurd (h.symm.trans (decide_eq_false (fun q9 => absurd ((iN_le (a := M.1.length) (b := j) (by omega) (by omega)).mp q9) (by omega)))) (by decide)) (fun _ => ?_)
            refine At.go (q := xm164) rfl 1 (pc' := 42) (L' := [(6, .int (Int32.ofNat j)), (5, .int (Int32.ofNat p)), (4, .int (bI false)), (3, .int (Int32.ofNat o)), (2, .int nm), (0, .ref (A 0)), (1, .ref (A (20 + i)))]) (st' := [.ref (A 0)]) rfl ?_
            refine At.gf rfl (by decide) h0 rfl ?_
            refine At.go (q := xm164) rfl 1 (pc' := 47) (L' := [(6, .int (Int32.ofNat j)), (5, .int (Int32.ofNat p)), (4, .int (bI false)), (3, .int (Int32.ofNat o)), (2, .int nm), (0, .ref (A 0)), (1, .ref (A (20 + i)))]) (st' := [.int (Int32.ofNat j), .ref (A 2)]) rfl ?_
            refine At.clp (as := [.ref (A 2), .int (Int32.ofNat j)]) (rest := []) rfl (by decide) rfl (Nat.le_of_ble_eq_true rfl) (Nat.le_of_ble_eq_true rfl) (xrck_o (by decide) (by decide) hDo (by decide)) (Nat.le_of_ble_eq_true rfl) (m_get hD hj) ?_
            refine At.ca rfl ht (by decide) ?_
            refine At.go (q := xm164) rfl 2 (pc' := 57) (L' := [(7, .ref a), (6, .int (Int32.ofNat j)), (5, .int (Int32.ofNat p)), (4, .int (bI false)), (3, .int (Int32.ofNat o)), (2, .int nm), (0, .ref (A 0)), (1, .ref (A (20 + i)))]) (st' := [.ref a]) rfl ?_
            refine At.gf rfl (by decide) ht rfl ?_
            refine At.go (q := xm164) rfl 1 (pc' := 61) (L' := [(7, .ref a), (6, .int (Int32.ofNat j)), (5, .int (Int32.ofNat p)), (4, .int (bI false)), (3, .int (Int32.ofNat o)), (2, .int nm), (0, .ref (A 0)), (1, .ref (A (20 + i)))]) (st' := [.ref (A (20 + i)), .int (TIq M.2.2.2.2.2.2 a).2.1]) rfl ?_
            refine At.gf rfl (by decide) a1 rfl ?_
            refine At.ic2 (tgt := 91) rfl rfl (fun h => absurd (h.symm.trans (decide_eq_false (fun e => e hl))) (by decide)) (fun _ => ?_)
            refine At.go (q := xm164) rfl 2 (pc' := 72) (L' := [(3, .int ((Int32.ofNat o) + 1)), (7, .ref a), (6, .int (Int32.ofNat j)), (5, .int (Int32.ofNat p)), (4, .int (bI false)), (2, .int nm), (0, .ref (A 0)), (1, .ref (A (20 + i)))]) (st' := [.int (bI false)]) rfl ?_
            refine At.ic1 (tgt := 84) rfl rfl (fun h => absurd (h.symm.trans (show decide (¬ bI false = 0) = false by decide)) (by decide)) (fun _ => ?_)
            refine At.go (q := xm164) rfl 1 (pc' := 77) (L' := [(3, .int ((Int32.ofNat o) + 1)), (7, .ref a), (6, .int (Int32.ofNat j)), (5, .int (Int32.ofNat p)), (4, .int (bI false)), (2, .int nm), (0, .ref (A 0)), (1, .ref (A (20 + i)))]) (st' := [.ref a]) rfl ?_
            refine At.gf rfl (by decide) ht rfl ?_
            refine At.go (q := xm164) rfl 1 (pc' := 81) (L' := [(3, .int ((Int32.ofNat o) + 1)), (7, .ref a), (6, .int (Int32.ofNat j)), (5, .int (Int32.ofNat p)), (4, .int (bI false)), (2, .int nm), (0, .ref (A 0)), (1, .ref (A (20 + i)))]) (st' := [.int nm, .int (TIq M.2.2.2.2.2.2 a).1]) rfl ?_
            refine At.ic2 (tgt := 88) rfl rfl (fun h => absurd (h.symm.trans (decide_eq_false (fun e => e hn))) (by decide)) (fun _ => ?_)
            refine At.go (q := xm164) rfl 4 (pc' := 93) (L' := [(4, .int 1), (3, .int ((Int32.ofNat o) + 1)), (7, .ref a), (6, .int (Int32.ofNat j)), (5, .int (Int32.ofNat p)), (2, .int nm), (0, .ref (A 0)), (1, .ref (A (20 + i)))]) (st' := [.ref a]) rfl ?_
            refine At.gf rfl (by decide) ht rfl ?_
            refine At.go (q := xm164) rfl 1 (pc' := 97) (L' := [(4, .int 1), (3, .int ((Int32.ofNat o) + 1)), (7, .ref a), (6, .int (Int32.ofNat j)), (5, .int (Int32.ofNat p)), (2, .int nm), (0, .ref (A 0)), (1, .ref (A (20 + i)))]) (st' := [.int nm, .int (TIq M.2.2.2.2.2.2 a).1]) rfl ?_
            refine At.ic2 (tgt := 121) rfl rfl (fun h => absurd (h.symm.trans (decide_eq_false hn1)) (by decide)) (fun _ => ?_)
            refine At.go (q := xm164) rfl 1 (pc' := 102) (L' := [(4, .int 1), (3, .int ((Int32.ofNat o) + 1)), (7, .ref a), (6, .int (Int32.ofNat j)), (5, .int (Int32.ofNat p)), (2, .int nm), (0, .ref (A 0)), (1, .ref (A (20 + i)))]) (st' := [.ref a]) rfl ?_
            refine At.gf rfl (by decide) ht rfl ?_
            refine At.go (q := xm164) rfl 1 (pc' := 106) (L' := [(4, .int 1), (3, .int ((Int32.ofNat o) + 1)), (7, .ref a), (6, .int (Int32.ofNat j)), (5, .int (Int32.ofNat p)), (2, .int nm), (0, .ref (A 0)), (1, .ref (A (20 + i)))]) (st' := [.int nm, .int (TIq M.2.2.2.2.2.2 a).1]) rfl ?_
            refine At.ic2 (tgt := 127) rfl rfl (fun h => absurd (h.symm.trans (decide_eq_false (fun e => e hn))) (by decide)) (fun _ => ?_)
            refine At.go (q := xm164) rfl 1 (pc' := 111) (L' := [(4, .int 1), (3, .int ((Int32.ofNat o) + 1)), (7, .ref a), (6, .int (Int32.ofNat j)), (5, .int (Int32.ofNat p)), (2, .int nm), (0, .ref (A 0)), (1, .ref (A (20 + i)))]) (st' := [.ref a]) rfl ?_
            refine At.gf rfl (by decide) ht rfl ?_
            refine At.go (q := xm164) rfl 1 (pc' := 115) (L' := [(4, .int 1), (3, .int ((Int32.ofNat o) + 1)), (7, .ref a), (6, .int (Int32.ofNat j)), (5, .int (Int32.ofNat p)), (2, .int nm), (0, .ref (A 0)), (1, .ref (A (20 + i)))]) (st' := [.ref (A (20 + i)), .int (TIq M.2.2.2.2.2.2 a).2.1]) rfl ?_
            refine At.gf rfl (by decide) a1 rfl ?_
            refine At.ic2 (tgt := 127) rfl rfl (fun _ => ?_) (fun h => absurd (h.symm.trans (decide_eq_true (Int32.not_lt.mp hn2))) (by decide))
            refine At.go (q := xm164) rfl 2 (pc' := 29) (L' := [(6, .int ((Int32.ofNat j) + 1)), (4, .int 1), (3, .int ((Int32.ofNat o) + 1)), (7, .ref a), (5, .int (Int32.ofNat p)), (2, .int nm), (0, .ref (A 0)), (1, .ref (A (20 + i)))]) (st' := []) rfl ?_
            simp only [iN_s]
            refine At.wk (L' := [(6, .int (Int32.ofNat (j + 1))), (5, .int (Int32.ofNat p)), (4, .int 1), (3, .int (Int32.ofNat (o + 1))), (2, .int nm), (0, .ref (A 0)), (1, .ref (A (20 + i)))]) (List.forall_mem_cons.mpr ⟨List.mem_of_getElem? (i := 0) rfl, (List.forall_mem_cons.mpr ⟨List.mem_of_getElem? (i := 4) rfl, (List.forall_mem_cons.mpr ⟨List.mem_of_getElem? (i := 1) rfl, (List.forall_mem_cons.mpr ⟨List.mem_of_getElem? (i := 2) rfl, (List.forall_mem_cons.mpr ⟨List.mem_of_getElem? (i := 5) rfl, (List.forall_mem_cons.mpr ⟨List.mem_of_getElem? (i := 6) rfl, (List.forall_mem_cons.mpr ⟨List.mem_of_getElem? (i := 7) rfl, (fun _ h => (List.not_mem_nil h).elim)⟩)⟩)⟩)⟩)⟩)⟩)⟩) (show ([6, 4, 3, 7, 5, 2, 0, 1] : List Nat).Nodup by decide) ?_
            exact ih (j + 1) (o + 1) true p (by omega) (by omega) (by omega) hk
        · by_cases hn1 : (TIq M.2.2.2.2.2.2 a).1 < nm
          · have hne := hn
            replace hn := hn1
            have eb : (false || decide ((TIq M.2.2.2.2.2.2 a).1 = nm)) = false := by rw [Bool.false_or]; exact decide_eq_false hne
            have eK : mkL (TIq M.2.2.2.2.2.2) (M.2.2.2.1 i).1 nm (a :: M.1.drop (j + 1)) j o false p = mkL (TIq M.2.2.2.2.2.2) (M.2.2.2.1 i).1 nm (M.1.drop (j + 1)) (j + 1) (o + 1) false (j + 1) := by
              simp only [mkL]
              rw [if_pos hl, if_pos hl, eb, if_pos (Or.inl hn)]
            rw [eK] at hk
            refine At.go (q := xm164) rfl 2 (pc' := 32) (L' := [(6, .int (Int32.ofNat j)), (5, .int (Int32.ofNat p)), (4, .int (bI false)), (3, .int (Int32.ofNat o)), (2, .int nm), (0, .ref (A 0)), (1, .ref (A (20 + i)))]) (st' := [.ref (A 0), .int (Int32.ofNat j)]) rfl ?_
            refine At.gf rfl (by decide) h0 rfl ?_
            refine At.clp (as := [.ref (A 2)]) (rest := [.int (Int32.ofNat j)]) rfl (by decide) rfl (Nat.le_of_ble_eq_true rfl) (Nat.le_of_ble_eq_true rfl) (xrck_o (by decide) (by decide) hDo (by decide)) (Nat.le_of_ble_eq_true rfl) (m_size hD) ?_
            refine At.ic2 (tgt := 133) rfl rfl (fun h => absurd (h.symm.trans (decide_eq_false (fun q9 => absurd ((iN_le (a := M.1.length) (b := j) (by omega) (by omega)).mp q9) (by omega)))) (by decide)) (fun _ => ?_)
            refine At.go (q := xm164) rfl 1 (pc' := 42) (L' := [(6, .int (Int32.ofNat j)), (5, .int (Int32.ofNat p)), (4, .int (bI false)), (3, .int (Int32.ofNat o)), (2, .int nm), (0, .ref (A 0)), (1, .ref (A (20 + i)))]) (st' := [.ref (A 0)]) rfl ?_
            refine At.gf rfl (by decide) h0 rfl ?_
            refine At.go (q := xm164) rfl 1 (pc' := 47) (L' := [(6, .int (Int32.ofNat j)), (5, .int (Int32.ofNat p)), (4, .int (bI false)), (3, .int (Int32.ofNat o)), (2, .int nm), (0, .ref (A 0)), (1, .ref (A (20 + i)))]) (st' := [.int (Int32.ofNat j), .ref (A 2)]) rfl ?_
            refine At.clp (as := [.ref (A 2), .int (Int32.ofNat j)]) (rest := []) rfl (by decide) rfl (Nat.le_of_ble_eq_true rfl) (Nat.le_of_ble_eq_true rfl) (xrck_o (by decide) (by decide) hDo (by decide)) (Nat.le_of_ble_eq_true rfl) (m_get hD hj) ?_
            refine At.ca rfl ht (by decide) ?_
            refine At.go (q := xm164) rfl 2 (pc' := 57) (L' := [(7, .ref a), (6, .int (Int32.ofNat j)), (5, .int (Int32.ofNat p)), (4, .int (bI false)), (3, .int (Int32.ofNat o)), (2, .int nm), (0, .ref (A 0)), (1, .ref (A (20 + i)))]) (st' := [.ref a]) rfl ?_
            refine At.gf rfl (by decide) ht rfl ?_
            refine At.go (q := xm164) rfl 1 (pc' := 61) (L' := [(7, .ref a), (6, .int (Int32.ofNat j)), (5, .int (Int32.ofNat p)), (4, .int (bI false)), (3, .int (Int32.ofNat o)), (2, .int nm), (0, .ref (A 0)), (1, .ref (A (20 + i)))]) (st' := [.ref (A (20 + i)), .int (TIq M.2.2.2.2.2.2 a).2.1]) rfl ?_
            refine At.gf rfl (by decide) a1 rfl ?_
            refine At.ic2 (tgt := 91) rfl rfl (fun h => absurd (h.symm.trans (decide_eq_false (fun e => e hl))) (by decide)) (fun _ => ?_)
            refine At.go (q := xm164) rfl 2 (pc' := 72) (L' := [(3, .int ((Int32.ofNat o) + 1)), (7, .ref a), (6, .int (Int32.ofNat j)), (5, .int (Int32.ofNat p)), (4, .int (bI false)), (2, .int nm), (0, .ref (A 0)), (1, .ref (A (20 + i)))]) (st' := [.int (bI false)]) rfl ?_
            refine At.ic1 (tgt := 84) rfl rfl (fun h => absurd (h.symm.trans (show decide (¬ bI false = 0) = false by decide)) (by decide)) (fun _ => ?_)
            refine At.go (q := xm164) rfl 1 (pc' := 77) (L' := [(3, .int ((Int32.ofNat o) + 1)), (7, .ref a), (6, .int (Int32.ofNat j)), (5, .int (Int32.ofNat p)), (4, .int (bI false)), (2, .int nm), (0, .ref (A 0)), (1, .ref (A (20 + i)))]) (st' := [.ref a]) rfl ?_
            refine At.gf rfl (by decide) ht rfl ?_
            refine At.go (q := xm164) rfl 1 (pc' := 81) (L' := [(3, .int ((Int32.ofNat o) + 1)), (7, .ref a), (6, .int (Int32.ofNat j)), (5, .int (Int32.ofNat p)), (4, .int (bI false)), (2, .int nm), (0, .ref (A 0)), (1, .ref (A (20 + i)))]) (st' := [.int nm, .int (TIq M.2.2.2.2.2.2 a).1]) rfl ?_
            refine At.ic2 (tgt := 88) rfl rfl (fun _ => ?_) (fun h => absurd (h.symm.trans (decide_eq_true hne)) (by decide))
            refine At.go (q := xm164) rfl 3 (pc' := 93) (L' := [(4, .int 0), (3, .int ((Int32.ofNat o) + 1)), (7, .ref a), (6, .int (Int32.ofNat j)), (5, .int (Int32.ofNat p)), (2, .int nm), (0, .ref (A 0)), (1, .ref (A (20 + i)))]) (st' := [.ref a]) rfl ?_
            refine At.gf rfl (by decide) ht rfl ?_
            refine At.go (q := xm164) rfl 1 (pc' := 97) (L' := [(4, .int 0), (3, .int ((Int32.ofNat o) + 1)), (7, .ref a), (6, .int (Int32.ofNat j)), (5, .int (Int32.ofNat p)), (2, .int nm), (0, .ref (A 0)), (1, .ref (A (20 + i)))]) (st' := [.int nm, .int (TIq M.2.2.2.2.2.2 a).1]) rfl ?_
            refine At.ic2 (tgt := 121) rfl rfl (fun _ => ?_) (fun h => absurd (h.symm.trans (decide_eq_true hn)) (by decide))
            refine At.go (q := xm164) rfl 6 (pc' := 29) (L' := [(6, .int ((Int32.ofNat j) + 1)), (5, .int ((Int32.ofNat j) + 1)), (4, .int 0), (3, .int ((Int32.ofNat o) + 1)), (7, .ref a), (2, .int nm), (0, .ref (A 0)), (1, .ref (A (20 + i)))]) (st' := []) rfl ?_
            simp only [iN_s]
            refine At.wk (L' := [(6, .int (Int32.ofNat (j + 1))), (5, .int (Int32.ofNat (j + 1))), (4, .int 0), (3, .int (Int32.ofNat (o + 1))), (2, .int nm), (0, .ref (A 0)), (1, .ref (A (20 + i)))]) (List.forall_mem_cons.mpr ⟨List.mem_of_getElem? (i := 0) rfl, (List.forall_mem_cons.mpr ⟨List.mem_of_getElem? (i := 1) rfl, (List.forall_mem_cons.mpr ⟨List.mem_of_getElem? (i := 2) rfl, (List.forall_mem_cons.mpr ⟨List.mem_of_getElem? (i := 3) rfl, (List.forall_mem_cons.mpr ⟨List.mem_of_getElem? (i := 5) rfl, (List.forall_mem_cons.mpr ⟨List.mem_of_getElem? (i := 6) rfl, (List.forall_mem_cons.mpr ⟨List.mem_of_getElem? (i := 7) rfl, (fun _ h => (List.not_mem_nil h).elim)⟩)⟩)⟩)⟩)⟩)⟩)⟩) (show ([6, 5, 4, 3, 7, 2, 0, 1] : List Nat).Nodup by decide) ?_
            exact ih (j + 1) (o + 1) false (j + 1) (by omega) (by omega) (by omega) hk
          · have eb : (false || decide ((TIq M.2.2.2.2.2.2 a).1 = nm)) = false := by rw [Bool.false_or]; exact decide_eq_false hn
            have eK : mkL (TIq M.2.2.2.2.2.2) (M.2.2.2.1 i).1 nm (a :: M.1.drop (j + 1)) j o false p = mkL (TIq M.2.2.2.2.2.2) (M.2.2.2.1 i).1 nm (M.1.drop (j + 1)) (j + 1) (o + 1) false p := by
              simp only [mkL]
              rw [if_pos hl, if_pos hl, eb, if_neg (fun e => e.elim hn1 (fun e => hn e.1))]
            rw [eK] at hk
            refine At.go (q := xm164) rfl 2 (pc' := 32) (L' := [(6, .int (Int32.ofNat j)), (5, .int (Int32.ofNat p)), (4, .int (bI false)), (3, .int (Int32.ofNat o)), (2, .int nm), (0, .ref (A 0)), (1, .ref (A (20 + i)))]) (st' := [.ref (A 0), .int (Int32.ofNat j)]) rfl ?_
            refine At.gf rfl (by decide) h0 rfl ?_
            refine At.clp (as := [.ref (A 2)]) (rest := [.int (Int32.ofNat j)]) rfl (by decide) rfl (Nat.le_of_ble_eq_true rfl) (Nat.le_of_ble_eq_true rfl) (xrck_o (by decide) (by decide) hDo (by decide)) (Nat.le_of_ble_eq_true rfl) (m_size hD) ?_
            refine At.ic2 (tgt := 133) rfl rfl (fun h => absurd (h.symm.trans (decide_eq_false (fun q9 => absurd ((iN_le (a := M.1.length) (b := j) (by omega) (by omega)).mp q9) (by omega)))) (by decide)) (fun _ => ?_)
            refine At.go (q := xm164) rfl 1 (pc' := 42) (L' := [(6, .int (Int32.ofNat j)), (5, .int (Int32.ofNat p)), (4, .int (bI false)), (3, .int (Int32.ofNat o)), (2, .int nm), (0, .ref (A 0)), (1, .ref (A (20 + i)))]) (st' := [.ref (A 0)]) rfl ?_
            refine At.gf rfl (by decide) h0 rfl ?_
            refine At.go (q := xm164) rfl 1 (pc' := 47) (L' := [(6, .int (Int32.ofNat j)), (5, .int (Int32.ofNat p)), (4, .int (bI false)), (3, .int (Int32.ofNat o)), (2, .int nm), (0, .ref (A 0)), (1, .ref (A (20 + i)))]) (st' := [.int (Int32.ofNat j), .ref (A 2)]) rfl ?_
            refine At.clp (as := [.ref (A 2), .int (Int32.ofNat j)]) (rest := []) rfl (by decide) rfl (Nat.le_of_ble_eq_true rfl) (Nat.le_of_ble_eq_true rfl) (xrck_o (by decide) (by decide) hDo (by decide)) (Nat.le_of_ble_eq_true rfl) (m_get hD hj) ?_
            refine At.ca rfl ht (by decide) ?_
            refine At.go (q := xm164) rfl 2 (pc' := 57) (L' := [(7, .ref a), (6, .int (Int32.ofNat j)), (5, .int (Int32.ofNat p)), (4, .int (bI false)), (3, .int (Int32.ofNat o)), (2, .int nm), (0, .ref (A 0)), (1, .ref (A (20 + i)))]) (st' := [.ref a]) rfl ?_
            refine At.gf rfl (by decide) ht rfl ?_
            refine At.go (q := xm164) rfl 1 (pc' := 61) (L' := [(7, .ref a), (6, .int (Int32.ofNat j)), (5, .int (Int32.ofNat p)), (4, .int (bI false)), (3, .int (Int32.ofNat o)), (2, .int nm), (0, .ref (A 0)), (1, .ref (A (20 + i)))]) (st' := [.ref (A (20 + i)), .int (TIq M.2.2.2.2.2.2 a).2.1]) rfl ?_
            refine At.gf rfl (by decide) a1 rfl ?_
            refine At.ic2 (tgt := 91) rfl rfl (fun h => absurd (h.symm.trans (decide_eq_false (fun e => e hl))) (by decide)) (fun _ => ?_)
            refine At.go (q := xm164) rfl 2 (pc' := 72) (L' := [(3, .int ((Int32.ofNat o) + 1)), (7, .ref a), (6, .int (Int32.ofNat j)), (5, .int (Int32.ofNat p)), (4, .int (bI false)), (2, .int nm), (0, .ref (A 0)), (1, .ref (A (20 + i)))]) (st' := [.int (bI false)]) rfl ?_
            refine At.ic1 (tgt := 84) rfl rfl (fun h => absurd (h.symm.trans (show decide (¬ bI false = 0) = false by decide)) (by decide)) (fun _ => ?_)
            refine At.go (q := xm164) rfl 1 (pc' := 77) (L' := [(3, .int ((Int32.ofNat o) + 1)), (7, .ref a), (6, .int (Int32.ofNat j)), (5, .int (Int32.ofNat p)), (4, .int (bI false)), (2, .int nm), (0, .ref (A 0)), (1, .ref (A (20 + i)))]) (st' := [.ref a]) rfl ?_
            refine At.gf rfl (by decide) ht rfl ?_
            refine At.go (q := xm164) rfl 1 (pc' := 81) (L' := [(3, .int ((Int32.ofNat o) + 1)), (7, .ref a), (6, .int (Int32.ofNat j)), (5, .int (Int32.ofNat p)), (4, .int (bI false)), (2, .int nm), (0, .ref (A 0)), (1, .ref (A (20 + i)))]) (st' := [.int nm, .int (TIq M.2.2.2.2.2.2 a).1]) rfl ?_
            refine At.ic2 (tgt := 88) rfl rfl (fun _ => ?_) (fun h => absurd (h.symm.trans (decide_eq_true hn)) (by decide))
            refine At.go (q := xm164) rfl 3 (pc' := 93) (L' := [(4, .int 0), (3, .int ((Int32.ofNat o) + 1)), (7, .ref a), (6, .int (Int32.ofNat j)), (5, .int (Int32.ofNat p)), (2, .int nm), (0, .ref (A 0)), (1, .ref (A (20 + i)))]) (st' := [.ref a]) rfl ?_
            refine At.gf rfl (by decide) ht rfl ?_
            refine At.go (q := xm164) rfl 1 (pc' := 97) (L' := [(4, .int 0), (3, .int ((Int32.ofNat o) + 1)), (7, .ref a), (6, .int (Int32.ofNat j)), (5, .int (Int32.ofNat p)), (2, .int nm), (0, .ref (A 0)), (1, .ref (A (20 + i)))]) (st' := [.int nm, .int (TIq M.2.2.2.2.2.2 a).1]) rfl ?_
            refine At.ic2 (tgt := 121) rfl rfl (fun h => absurd (h.symm.trans (decide_eq_false hn1)) (by decide)) (fun _ => ?_)
            refine At.go (q := xm164) rfl 1 (pc' := 102) (L' := [(4, .int 0), (3, .int ((Int32.ofNat o) + 1)), (7, .ref a), (6, .int (Int32.ofNat j)), (5, .int (Int32.ofNat p)), (2, .int nm), (0, .ref (A 0)), (1, .ref (A (20 + i)))]) (st' := [.ref a]) rfl ?_
            refine At.gf rfl (by decide) ht rfl ?_
            refine At.go (q := xm164) rfl 1 (pc' := 106) (L' := [(4, .int 0), (3, .int ((Int32.ofNat o) + 1)), (7, .ref a), (6, .int (Int32.ofNat j)), (5, .int (Int32.ofNat p)), (2, .int nm), (0, .ref (A 0)), (1, .ref (A (20 + i)))]) (st' := [.int nm, .int (TIq M.2.2.2.2.2.2 a).1]) rfl ?_
            refine At.ic2 (tgt := 127) rfl rfl (fun _ => ?_) (fun h => absurd (h.symm.trans (decide_eq_true hn)) (by decide))
            refine At.go (q := xm164) rfl 2 (pc' := 29) (L' := [(6, .int ((Int32.ofNat j) + 1)), (4, .int 0), (3, .int ((Int32.ofNat o) + 1)), (7, .ref a), (5, .int (Int32.ofNat p)), (2, .int nm), (0, .ref (A 0)), (1, .ref (A (20 + i)))]) (st' := []) rfl ?_
            simp only [iN_s]
            refine At.wk (L' := [(6, .int (Int32.ofNat (j + 1))), (5, .int (Int32.ofNat p)), (4, .int 0), (3, .int (Int32.ofNat (o + 1))), (2, .int nm), (0, .ref (A 0)), (1, .ref (A (20 + i)))]) (List.forall_mem_cons.mpr ⟨List.mem_of_getElem? (i := 0) rfl, (List.forall_mem_cons.mpr ⟨List.mem_of_getElem? (i := 4) rfl, (List.forall_mem_cons.mpr ⟨List.mem_of_getElem? (i := 1) rfl, (List.forall_mem_cons.mpr ⟨List.mem_of_getElem? (i := 2) rfl, (List.forall_mem_cons.mpr ⟨List.mem_of_getElem? (i := 5) rfl, (List.forall_mem_cons.mpr ⟨List.mem_of_getElem? (i := 6) rfl, (List.forall_mem_cons.mpr ⟨List.mem_of_getElem? (i := 7) rfl, (fun _ h => (List.not_mem_nil h).elim)⟩)⟩)⟩)⟩)⟩)⟩)⟩) (show ([6, 4, 3, 7, 5, 2, 0, 1] : List Nat).Nodup by decide) ?_
            exact ih (j + 1) (o + 1) false p (by omega) (by omega) (by omega) hk
    · by_cases hn : (TIq M.2.2.2.2.2.2 a).1 = nm
      · have hn1 : ¬ (TIq M.2.2.2.2.2.2 a).1 < nm := by rw [hn]; exact Int32.lt_irrefl
        by_cases hn2 : (TIq M.2.2.2.2.2.2 a).2.1 < (M.2.2.2.1 i).1
        · have eK : mkL (TIq M.2.2.2.2.2.2) (M.2.2.2.1 i).1 nm (a :: M.1.drop (j + 1)) j o b p = mkL (TIq M.2.2.2.2.2.2) (M.2.2.2.1 i).1 nm (M.1.drop (j + 1)) (j + 1) o b (j + 1) := by
            simp only [mkL]
            rw [if_neg hl, if_neg hl, if_pos (Or.inr ⟨hn, hn2⟩)]
          rw [eK] at hk
          refine At.go (q := xm164) rfl 2 (pc' := 32) (L' := [(6, .int (Int32.ofNat j)), (5, .int (Int32.ofNat p)), (4, .int (bI b)), (3, .int (Int32.ofNat o)), (2, .int nm), (0, .ref (A 0)), (1, .ref (A (20 + i)))]) (st' := [.ref (A 0), .int (Int32.ofNat j)]) rfl ?_
          refine At.gf rfl (by decide) h0 rfl ?_
          refine At.clp (as := [.ref (A 2)]) (rest := [.int (Int32.ofNat j)]) rfl (by decide) rfl (Nat.le_of_ble_eq_true rfl) (Nat.le_of_ble_eq_true rfl) (xrck_o (by decide) (by decide) hDo (by decide)) (Nat.le_of_ble_eq_true rfl) (m_size hD) ?_
          refine At.ic2 (tgt := 133) rfl rfl (fun h => absurd (h.symm.trans (decide_eq_false (fun q9 => absurd ((iN_le (a := M.1.length) (b := j) (by omega) (by omega)).mp q9) (by omega)))) (by decide)) (fun _ => ?_)
          refine At.go (q := xm164) rfl 1 (pc' := 42) (L' := [(6, .int (Int32.ofNat j)), (5, .int (Int32.ofNat p)), (4, .int (bI b)), (3, .int (Int32.ofNat o)), (2, .int nm), (0, .ref (A 0)), (1, .ref (A (20 + i)))]) (st' := [.ref (A 0)]) rfl ?_
          refine At.gf rfl (by decide) h0 rfl ?_
          refine At.go (q := xm164) rfl 1 (pc' := 47) (L' := [(6, .int (Int32.ofNat j)), (5, .int (Int32.ofNat p)), (4, .int (bI b)), (3, .int (Int32.ofNat o)), (2, .int nm), (0, .ref (A 0)), (1, .ref (A (20 + i)))]) (st' := [.int (Int32.ofNat j), .ref (A 2)]) rfl ?_
          refine At.clp (as := [.ref (A 2), .int (Int32.ofNat j)]) (rest := []) rfl (by decide) rfl (Nat.le_of_ble_eq_true rfl) (Nat.le_of_ble_eq_true rfl) (xrck_o (by decide) (by decide) hDo (by decide)) (Nat.le_of_ble_eq_true rfl) (m_get hD hj) ?_
          refine At.ca rfl ht (by decide) ?_
          refine At.go (q := xm164) rfl 2 (pc' := 57) (L' := [(7, .ref a), (6, .int (Int32.ofNat j)), (5, .int (Int32.ofNat p)), (4, .int (bI b)), (3, .int (Int32.ofNat o)), (2, .int nm), (0, .ref (A 0)), (1, .ref (A (20 + i)))]) (st' := [.ref a]) rfl ?_
          refine At.gf rfl (by decide) ht rfl ?_
          refine At.go (q := xm164) rfl 1 (pc' := 61) (L' := [(7, .ref a), (6, .int (Int32.ofNat j)), (5, .int (Int32.ofNat p)), (4, .int (bI b)), (3, .int (Int32.ofNat o)), (2, .int nm), (0, .ref (A 0)), (1, .ref (A (20 + i)))]) (st' := [.ref (A (20 + i)), .int (TIq M.2.2.2.2.2.2 a).2.1]) rfl ?_
          refine At.gf rfl (by decide) a1 rfl ?_
          refine At.ic2 (tgt := 91) rfl rfl (fun _ => ?_) (fun h => absurd (h.symm.trans (decide_eq_true hl)) (by decide))
          refine At.go (q := xm164) rfl 1 (pc' := 93) (L' := [(7, .ref a), (6, .int (Int32.ofNat j)), (5, .int (Int32.ofNat p)), (4, .int (bI b)), (3, .int (Int32.ofNat o)), (2, .int nm), (0, .ref (A 0)), (1, .ref (A (20 + i)))]) (st' := [.ref a]) rfl ?_
          refine At.gf rfl (by decide) ht rfl ?_
          refine At.go (q := xm164) rfl 1 (pc' := 97) (L' := [(7, .ref a), (6, .int (Int32.ofNat j)), (5, .int (Int32.ofNat p)), (4, .int (bI b)), (3, .int (Int32.ofNat o)), (2, .int nm), (0, .ref (A 0)), (1, .ref (A (20 + i)))]) (st' := [.int nm, .int (TIq M.2.2.2.2.2.2 a).1]) rfl ?_
          refine At.ic2 (tgt := 121) rfl rfl (fun h => absurd (h.symm.trans (decide_eq_false hn1)) (by decide)) (fun _ => ?_)
          refine At.go (q := xm164) rfl 1 (pc' := 102) (L' := [(7, .ref a), (6, .int (Int32.ofNat j)), (5, .int (Int32.ofNat p)), (4, .int (bI b)), (3, .int (Int32.ofNat o)), (2, .int nm), (0, .ref (A 0)), (1, .ref (A (20 + i)))]) (st' := [.ref a]) rfl ?_
          refine At.gf rfl (by decide) ht rfl ?_
          refine At.go (q := xm164) rfl 1 (pc' := 106) (L' := [(7, .ref a), (6, .int (Int32.ofNat j)), (5, .int (Int32.ofNat p)), (4, .int (bI b)), (3, .int (Int32.ofNat o)), (2, .int nm), (0, .ref (A 0)), (1, .ref (A (20 + i)))]) (st' := [.int nm, .int (TIq M.2.2.2.2.2.2 a).1]) rfl ?_
          refine At.ic2 (tgt := 127) rfl rfl (fun h => absurd (h.symm.trans (decide_eq_false (fun e => e hn))) (by decide)) (fun _ => ?_)
          refine At.go (q := xm164) rfl 1 (pc' := 111) (L' := [(7, .ref a), (6, .int (Int32.ofNat j)), (5, .int (Int32.ofNat p)), (4, .int (bI b)), (3, .int (Int32.ofNat o)), (2, .int nm), (0, .ref (A 0)), (1, .ref (A (20 + i)))]) (st' := [.ref a]) rfl ?_
          refine At.gf rfl (by decide) ht rfl ?_
          refine At.go (q := xm164) rfl 1 (pc' := 115) (L' := [(7, .ref a), (6, .int (Int32.ofNat j)), (5, .int (Int32.ofNat p)), (4, .int (bI b)), (3, .int (Int32.ofNat o)), (2, .int nm), (0, .ref (A 0)), (1, .ref (A (20 + i)))]) (st' := [.ref (A (20 + i)), .int (TIq M.2.2.2.2.2.2 a).2.1]) rfl ?_
          refine At.gf rfl (by decide) a1 rfl ?_
          refine At.ic2 (tgt := 127) rfl rfl (fun h => absurd (h.symm.trans (decide_eq_false (Int32.not_le.mpr hn2))) (by decide)) (fun _ => ?_)
          refine At.go (q := xm164) rfl 6 (pc' := 29) (L' := [(6, .int ((Int32.ofNat j) + 1)), (5, .int ((Int32.ofNat j) + 1)), (7, .ref a), (4, .int (bI b)), (3, .int (Int32.ofNat o)), (2, .int nm), (0, .ref (A 0)), (1, .ref (A (20 + i)))]) (st' := []) rfl ?_
          simp only [iN_s]
          refine At.wk (L' := [(6, .int (Int32.ofNat (j + 1))), (5, .int (Int32.ofNat (j + 1))), (4, .int (bI b)), (3, .int (Int32.ofNat o)), (2, .int nm), (0, .ref (A 0)), (1, .ref (A (20 + i)))]) (List.forall_mem_cons.mpr ⟨List.mem_of_getElem? (i := 0) rfl, (List.forall_mem_cons.mpr ⟨List.mem_of_getElem? (i := 1) rfl, (List.forall_mem_cons.mpr ⟨List.mem_of_getElem? (i := 3) rfl, (List.forall_mem_cons.mpr ⟨List.mem_of_getElem? (i := 4) rfl, (List.forall_mem_cons.mpr ⟨List.mem_of_getElem? (i := 5) rfl, (List.forall_mem_cons.mpr ⟨List.mem_of_getElem? (i := 6) rfl, (List.forall_mem_cons.mpr ⟨List.mem_of_getElem? (i := 7) rfl, (fun _ h => (List.not_mem_nil h).elim)⟩)⟩)⟩)⟩)⟩)⟩)⟩) (show ([6, 5, 7, 4, 3, 2, 0, 1] : List Nat).Nodup by decide) ?_
          exact ih (j + 1) o b (j + 1) (by omega) (by omega) (by omega) hk
        · have eK : mkL (TIq M.2.2.2.2.2.2) (M.2.2.2.1 i).1 nm (a :: M.1.drop (j + 1)) j o b p = mkL (TIq M.2.2.2.2.2.2) (M.2.2.2.1 i).1 nm (M.1.drop (j + 1)) (j + 1) o b p := by
            simp only [mkL]
            rw [if_neg hl, if_neg hl, if_neg (fun e => e.elim hn1 (fun e => hn2 e.2))]
          rw [eK] at hk
          refine At.go (q := xm164) rfl 2 (pc' := 32) (L' := [(6, .int (Int32.ofNat j)), (5, .int (Int32.ofNat p)), (4, .int (bI b)), (3, .int (Int32.ofNat o)), (2, .int nm), (0, .ref (A 0)), (1, .ref (A (20 + i)))]) (st' := [.ref (A 0), .int (Int32.ofNat j)]) rfl ?_
          refine At.gf rfl (by decide) h0 rfl ?_
          refine At.clp (as := [.ref (A 2)]) (rest := [.int (Int32.ofNat j)]) rfl (by decide) rfl (Nat.le_of_ble_eq_true rfl) (Nat.le_of_ble_eq_true rfl) (xrck_o (by decide) (by decide) hDo (by decide)) (Nat.le_of_ble_eq_true rfl) (m_size hD) ?_
          refine At.ic2 (tgt := 133) rfl rfl (fun h => absurd (h.symm.trans (decide_eq_false (fun q9 => absurd ((iN_le (a := M.1.length) (b := j) (by omega) (by omega)).mp q9) (by omega)))) (by decide)) (fun _ => ?_)
          refine At.go (q := xm164) rfl 1 (pc' := 42) (L' := [(6, .int (Int32.ofNat j)), (5, .int (Int32.ofNat p)), (4, .int (bI b)), (3, .int (Int32.ofNat o)), (2, .int nm), (0, .ref (A 0)), (1, .ref (A (20 + i)))]) (st' := [.ref (A 0)]) rfl ?_
          refine At.gf rfl (by decide) h0 rfl ?_
          refine At.go (q := xm164) rfl 1 (pc' := 47) (L' := [(6, .int (Int32.ofNat j)), (5, .int (Int32.ofNat p)), (4, .int (bI b)), (3, .int (Int32.ofNat o)), (2, .int nm), (0, .ref (A 0)), (1, .ref (A (20 + i)))]) (st' := [.int (Int32.ofNat j), .ref (A 2)]) rfl ?_
          refine At.clp (as := [.ref (A 2), .int (Int32.ofNat j)]) (rest := []) rfl (by decide) rfl (Nat.le_of_ble_eq_true rfl) (Nat.le_of_ble_eq_true rfl) (xrck_o (by decide) (by decide) hDo (by decide)) (Nat.le_of_ble_eq_true rfl) (m_get hD hj) ?_
          refine At.ca rfl ht (by decide) ?_
          refine At.go (q := xm164) rfl 2 (pc' := 57) (L' := [(7, .ref a), (6, .int (Int32.ofNat j)), (5, .int (Int32.ofNat p)), (4, .int (bI b)), (3, .int (Int32.ofNat o)), (2, .int nm), (0, .ref (A 0)), (1, .ref (A (20 + i)))]) (st' := [.ref a]) rfl ?_
          refine At.gf rfl (by decide) ht rfl ?_
          refine At.go (q := xm164) rfl 1 (pc' := 61) (L' := [(7, .ref a), (6, .int (Int32.ofNat j)), (5, .int (Int32.ofNat p)), (4, .int (bI b)), (3, .int (Int32.ofNat o)), (2, .int nm), (0, .ref (A 0)), (1, .ref (A (20 + i)))]) (st' := [.ref (A (20 + i)), .int (TIq M.2.2.2.2.2.2 a).2.1]) rfl ?_
          refine At.gf rfl (by decide) a1 rfl ?_
          refine At.ic2 (tgt := 91) rfl rfl (fun _ => ?_) (fun h => absurd (h.symm.trans (decide_eq_true hl)) (by decide))
          refine At.go (q := xm164) rfl 1 (pc' := 93) (L' := [(7, .ref a), (6, .int (Int32.ofNat j)), (5, .int (Int32.ofNat p)), (4, .int (bI b)), (3, .int (Int32.ofNat o)), (2, .int nm), (0, .ref (A 0)), (1, .ref (A (20 + i)))]) (st' := [.ref a]) rfl ?_
          refine At.gf rfl (by decide) ht rfl ?_
          refine At.go (q := xm164) rfl 1 (pc' := 97) (L' := [(7, .ref a), (6, .int (Int32.ofNat j)), (5, .int (Int32.ofNat p)), (4, .int (bI b)), (3, .int (Int32.ofNat o)), (2, .int nm), (0, .ref (A 0)), (1, .ref (A (20 + i)))]) (st' := [.int nm, .int (TIq M.2.2.2.2.2.2 a).1]) rfl ?_
          refine At.ic2 (tgt := 121) rfl rfl (fun h => absurd (h.symm.trans (decide_eq_false hn1)) (by decide)) (fun _ => ?_)
          refine At.go (q := xm164) rfl 1 (pc' := 102) (L' := [(7, .ref a), (6, .int (Int32.ofNat j)), (5, .int (Int32.ofNat p)), (4, .int (bI b)), (3, .int (Int32.ofNat o)), (2, .int nm), (0, .ref (A 0)), (1, .ref (A (20 + i)))]) (st' := [.ref a]) rfl ?_
          refine At.gf rfl (by decide) ht rfl ?_
          refine At.go (q := xm164) rfl 1 (pc' := 106) (L' := [(7, .ref a), (6, .int (Int32.ofNat j)), (5, .int (Int32.ofNat p)), (4, .int (bI b)), (3, .int (Int32.ofNat o)), (2, .int nm), (0, .ref (A 0)), (1, .ref (A (20 + i)))]) (st' := [.int nm, .int (TIq M.2.2.2.2.2.2 a).1]) rfl ?_
          refine At.ic2 (tgt := 127) rfl rfl (fun h => absurd (h.symm.trans (decide_eq_false (fun e => e hn))) (by decide)) (fun _ => ?_)
          refine At.go (q := xm164) rfl 1 (pc' := 111) (L' := [(7, .ref a), (6, .int (Int32.ofNat j)), (5, .int (Int32.ofNat p)), (4, .int (bI b)), (3, .int (Int32.ofNat o)), (2, .int nm), (0, .ref (A 0)), (1, .ref (A (20 + i)))]) (st' := [.ref a]) rfl ?_
          refine At.gf rfl (by decide) ht rfl ?_
          refine At.go (q := xm164) rfl 1 (pc' := 115) (L' := [(7, .ref a), (6, .int (Int32.ofNat j)), (5, .int (Int32.ofNat p)), (4, .int (bI b)), (3, .int (Int32.ofNat o)), (2, .int nm), (0, .ref (A 0)), (1, .ref (A (20 + i)))]) (st' := [.ref (A (20 + i)), .int (TIq M.2.2.2.2.2.2 a).2.1]) rfl ?_
          refine At.gf rfl (by decide) a1 rfl ?_
          refine At.ic2 (tgt := 127) rfl rfl (fun _ => ?_) (fun h => absurd (h.symm.trans (decide_eq_true (Int32.not_lt.mp hn2))) (by decide))
          refine At.go (q := xm164) rfl 2 (pc' := 29) (L' := [(6, .int ((Int32.ofNat j) + 1)), (7, .ref a), (5, .int (Int32.ofNat p)), (4, .int (bI b)), (3, .int (Int32.ofNat o)), (2, .int nm), (0, .ref (A 0)), (1, .ref (A (20 + i)))]) (st' := []) rfl ?_
          simp only [iN_s]
          refine At.wk (L' := [(6, .int (Int32.ofNat (j + 1))), (5, .int (Int32.ofNat p)), (4, .int (bI b)), (3, .int (Int32.ofNat o)), (2, .int nm), (0, .ref (A 0)), (1, .ref (A (20 + i)))]) (List.forall_mem_cons.mpr ⟨List.mem_of_getElem? (i := 0) rfl, (List.forall_mem_cons.mpr ⟨List.mem_of_getElem? (i := 2) rfl, (List.forall_mem_cons.mpr ⟨List.mem_of_getElem? (i := 3) rfl, (List.forall_mem_cons.mpr ⟨List.mem_of_getElem? (i := 4) rfl, (List.forall_mem_cons.mpr ⟨List.mem_of_getElem? (i := 5) rfl, (List.forall_mem_cons.mpr ⟨List.mem_of_getElem? (i := 6) rfl, (List.forall_mem_cons.mpr ⟨List.mem_of_getElem? (i := 7) rfl, (fun _ h => (List.not_mem_nil h).elim)⟩)⟩)⟩)⟩)⟩)⟩)⟩) (show ([6, 7, 5, 4, 3, 2, 0, 1] : List Nat).Nodup by decide) ?_
          exact ih (j + 1) o b p (by omega) (by omega) (by omega) hk
      · by_cases hn1 : (TIq M.2.2.2.2.2.2 a).1 < nm
        · have hne := hn
          replace hn := hn1
          have eK : mkL (TIq M.2.2.2.2.2.2) (M.2.2.2.1 i).1 nm (a :: M.1.drop (j + 1)) j o b p = mkL (TIq M.2.2.2.2.2.2) (M.2.2.2.1 i).1 nm (M.1.drop (j + 1)) (j + 1) o b (j + 1) := by
            simp only [mkL]
            rw [if_neg hl, if_neg hl, if_pos (Or.inl hn)]
          rw [eK] at hk
          refine At.go (q := xm164) rfl 2 (pc' := 32) (L' := [(6, .int (Int32.ofNat j)), (5, .int (Int32.ofNat p)), (4, .int (bI b)), (3, .int (Int32.ofNat o)), (2, .int nm), (0, .ref (A 0)), (1, .ref (A (20 + i)))]) (st' := [.ref (A 0), .int (Int32.ofNat j)]) rfl ?_
          refine At.gf rfl (by decide) h0 rfl ?_
          refine At.clp (as := [.ref (A 2)]) (rest := [.int (Int32.ofNat j)]) rfl (by decide) rfl (Nat.le_of_ble_eq_true rfl) (Nat.le_of_ble_eq_true rfl) (xrck_o (by decide) (by decide) hDo (by decide)) (Nat.le_of_ble_eq_true rfl) (m_size hD) ?_
          refine At.ic2 (tgt := 133) rfl rfl (fun h => absurd (h.symm.trans (decide_eq_false (fun q9 => absurd ((iN_le (a := M.1.length) (b := j) (by omega) (by omega)).mp q9) (by omega)))) (by decide)) (fun _ => ?_)
          refine At.go (q := xm164) rfl 1 (pc' := 42) (L' := [(6, .int (Int32.ofNat j)), (5, .int (Int32.ofNat p)), (4, .int (bI b)), (3, .int (Int32.ofNat o)), (2, .int nm), (0, .ref (A 0)), (1, .ref (A (20 + i)))]) (st' := [.ref (A 0)]) rfl ?_
          refine At.gf rfl (by decide) h0 rfl ?_
          refine At.go (q := xm164) rfl 1 (pc' := 47) (L' := [(6, .int (Int32.ofNat j)), (5, .int (Int32.ofNat p)), (4, .int (bI b)), (3, .int (Int32.ofNat o)), (2, .int nm), (0, .ref (A 0)), (1, .ref (A (20 + i)))]) (st' := [.int (Int32.ofNat j), .ref (A 2)]) rfl ?_
          refine At.clp (as := [.ref (A 2), .int (Int32.ofNat j)]) (rest := []) rfl (by decide) rfl (Nat.le_of_ble_eq_true rfl) (Nat.le_of_ble_eq_true rfl) (xrck_o (by decide) (by decide) hDo (by decide)) (Nat.le_of_ble_eq_true rfl) (m_get hD hj) ?_
          refine At.ca rfl ht (by decide) ?_
          refine At.go (q := xm164) rfl 2 (pc' := 57) (L' := [(7, .ref a), (6, .int (Int32.ofNat j)), (5, .int (Int32.ofNat p)), (4, .int (bI b)), (3, .int (Int32.ofNat o)), (2, .int nm), (0, .ref (A 0)), (1, .ref (A (20 + i)))]) (st' := [.ref a]) rfl ?_
          refine At.gf rfl (by decide) ht rfl ?_
          refine At.go (q := xm164) rfl 1 (pc' := 61) (L' := [(7, .ref a), (6, .int (Int32.ofNat j)), (5, .int (Int32.ofNat p)), (4, .int (bI b)), (3, .int (Int32.ofNat o)), (2, .int nm), (0, .ref (A 0)), (1, .ref (A (20 + i)))]) (st' := [.ref (A (20 + i)), .int (TIq M.2.2.2.2.2.2 a).2.1]) rfl ?_
          refine At.gf rfl (by decide) a1 rfl ?_
          refine At.ic2 (tgt := 91) rfl rfl (fun _ => ?_) (fun h => absurd (h.symm.trans (decide_eq_true hl)) (by decide))
          refine At.go (q := xm164) rfl 1 (pc' := 93) (L' := [(7, .ref a), (6, .int (Int32.ofNat j)), (5, .int (Int32.ofNat p)), (4, .int (bI b)), (3, .int (Int32.ofNat o)), (2, .int nm), (0, .ref (A 0)), (1, .ref (A (20 + i)))]) (st' := [.ref a]) rfl ?_
          refine At.gf rfl (by decide) ht rfl ?_
          refine At.go (q := xm164) rfl 1 (pc' := 97) (L' := [(7, .ref a), (6, .int (Int32.ofNat j)), (5, .int (Int32.ofNat p)), (4, .int (bI b)), (3, .int (Int32.ofNat o)), (2, .int nm), (0, .ref (A 0)), (1, .ref (A (20 + i)))]) (st' := [.int nm, .int (TIq M.2.2.2.2.2.2 a).1]) rfl ?_
          refine At.ic2 (tgt := 121) rfl rfl (fun _ => ?_) (fun h => absurd (h.symm.trans (decide_eq_true hn)) (by decide))
          refine At.go (q := xm164) rfl 6 (pc' := 29) (L' := [(6, .int ((Int32.ofNat j) + 1)), (5, .int ((Int32.ofNat j) + 1)), (7, .ref a), (4, .int (bI b)), (3, .int (Int32.ofNat o)), (2, .int nm), (0, .ref (A 0)), (1, .ref (A (20 + i)))]) (st' := []) rfl ?_
          simp only [iN_s]
          refine At.wk (L' := [(6, .int (Int32.ofNat (j + 1))), (5, .int (Int32.ofNat (j + 1))), (4, .int (bI b)), (3, .int (Int32.ofNat o)), (2, .int nm), (0, .ref (A 0)), (1, .ref (A (20 + i)))]) (List.forall_mem_cons.mpr ⟨List.mem_of_getElem? (i := 0) rfl, (List.forall_mem_cons.mpr ⟨List.mem_of_getElem? (i := 1) rfl, (List.forall_mem_cons.mpr ⟨List.mem_of_getElem? (i := 3) rfl, (List.forall_mem_cons.mpr ⟨List.mem_of_getElem? (i := 4) rfl, (List.forall_mem_cons.mpr ⟨List.mem_of_getElem? (i := 5) rfl, (List.forall_mem_cons.mpr ⟨List.mem_of_getElem? (i := 6) rfl, (List.forall_mem_cons.mpr ⟨List.mem_of_getElem? (i := 7) rfl, (fun _ h => (List.not_mem_nil h).elim)⟩)⟩)⟩)⟩)⟩)⟩)⟩) (show ([6, 5, 7, 4, 3, 2, 0, 1] : List Nat).Nodup by decide) ?_
          exact ih (j + 1) o b (j + 1) (by omega) (by omega) (by omega) hk
        · have eK : mkL (TIq M.2.2.2.2.2.2) (M.2.2.2.1 i).1 nm (a :: M.1.drop (j + 1)) j o b p = mkL (TIq M.2.2.2.2.2.2) (M.2.2.2.1 i).1 nm (M.1.drop (j + 1)) (j + 1) o b p := by
            simp only [mkL]
            rw [if_neg hl, if_neg hl, if_neg (fun e => e.elim hn1 (fun e => hn e.1))]
          rw [eK] at hk
          refine At.go (q := xm164) rfl 2 (pc' := 32) (L' := [(6, .int (Int32.ofNat j)), (5, .int (Int32.ofNat p)), (4, .int (bI b)), (3, .int (Int32.ofNat o)), (2, .int nm), (0, .ref (A 0)), (1, .ref (A (20 + i)))]) (st' := [.ref (A 0), .int (Int32.ofNat j)]) rfl ?_
          refine At.gf rfl (by decide) h0 rfl ?_
          refine At.clp (as := [.ref (A 2)]) (rest := [.int (Int32.ofNat j)]) rfl (by decide) rfl (Nat.le_of_ble_eq_true rfl) (Nat.le_of_ble_eq_true rfl) (xrck_o (by decide) (by decide) hDo (by decide)) (Nat.le_of_ble_eq_true rfl) (m_size hD) ?_
          refine At.ic2 (tgt := 133) rfl rfl (fun h => absurd (h.symm.trans (decide_eq_false (fun q9 => absurd ((iN_le (a := M.1.length) (b := j) (by omega) (by omega)).mp q9) (by omega)))) (by decide)) (fun _ => ?_)
          refine At.go (q := xm164) rfl 1 (pc' := 42) (L' := [(6, .int (Int32.ofNat j)), (5, .int (Int32.ofNat p)), (4, .int (bI b)), (3, .int (Int32.ofNat o)), (2, .int nm), (0, .ref (A 0)), (1, .ref (A (20 + i)))]) (st' := [.ref (A 0)]) rfl ?_
          refine At.gf rfl (by decide) h0 rfl ?_
          refine At.go (q := xm164) rfl 1 (pc' := 47) (L' := [(6, .int (Int32.ofNat j)), (5, .int (Int32.ofNat p)), (4, .int (bI b)), (3, .int (Int32.ofNat o)), (2, .int nm), (0, .ref (A 0)), (1, .ref (A (20 + i)))]) (st' := [.int (Int32.ofNat j), .ref (A 2)]) rfl ?_
          refine At.clp (as := [.ref (A 2), .int (Int32.ofNat j)]) (rest := []) rfl (by decide) rfl (Nat.le_of_ble_eq_true rfl) (Nat.le_of_ble_eq_true rfl) (xrck_o (by decide) (by decide) hDo (by decide)) (Nat.le_of_ble_eq_true rfl) (m_get hD hj) ?_
          refine At.ca rfl ht (by decide) ?_
          refine At.go (q := xm164) rfl 2 (pc' := 57) (L' := [(7, .ref a), (6, .int (Int32.ofNat j)), (5, .int (Int32.ofNat p)), (4, .int (bI b)), (3, .int (Int32.ofNat o)), (2, .int nm), (0, .ref (A 0)), (1, .ref (A (20 + i)))]) (st' := [.ref a]) rfl ?_
          refine At.gf rfl (by decide) ht rfl ?_
          refine At.go (q := xm164) rfl 1 (pc' := 61) (L' := [(7, .ref a), (6, .int (Int32.ofNat j)), (5, .int (Int32.ofNat p)), (4, .int (bI b)), (3, .int (Int32.ofNat o)), (2, .int nm), (0, .ref (A 0)), (1, .ref (A (20 + i)))]) (st' := [.ref (A (20 + i)), .int (TIq M.2.2.2.2.2.2 a).2.1]) rfl ?_
          refine At.gf rfl (by decide) a1 rfl ?_
          refine At.ic2 (tgt := 91) rfl rfl (fun _ => ?_) (fun h => absurd (h.symm.trans (decide_eq_true hl)) (by decide))
          refine At.go (q := xm164) rfl 1 (pc' := 93) (L' := [(7, .ref a), (6, .int (Int32.ofNat j)), (5, .int (Int32.ofNat p)), (4, .int (bI b)), (3, .int (Int32.ofNat o)), (2, .int nm), (0, .ref (A 0)), (1, .ref (A (20 + i)))]) (st' := [.ref a]) rfl ?_
          refine At.gf rfl (by decide) ht rfl ?_
          refine At.go (q := xm164) rfl 1 (pc' := 97) (L' := [(7, .ref a), (6, .int (Int32.ofNat j)), (5, .int (Int32.ofNat p)), (4, .int (bI b)), (3, .int (Int32.ofNat o)), (2, .int nm), (0, .ref (A 0)), (1, .ref (A (20 + i)))]) (st' := [.int nm, .int (TIq M.2.2.2.2.2.2 a).1]) rfl ?_
          refine At.ic2 (tgt := 121) rfl rfl (fun h => absurd (h.symm.trans (decide_eq_false hn1)) (by decide)) (fun _ => ?_)
          refine At.go (q := xm164) rfl 1 (pc' := 102) (L' := [(7, .ref a), (6, .int (Int32.ofNat j)), (5, .int (Int32.ofNat p)), (4, .int (bI b)), (3, .int (Int32.ofNat o)), (2, .int nm), (0, .ref (A 0)), (1, .ref (A (20 + i)))]) (st' := [.ref a]) rfl ?_
          refine At.gf rfl (by decide) ht rfl ?_
          refine At.go (q := xm164) rfl 1 (pc' := 106) (L' := [(7, .ref a), (6, .int (Int32.ofNat j)), (5, .int (Int32.ofNat p)), (4, .int (bI b)), (3, .int (Int32.ofNat o)), (2, .int nm), (0, .ref (A 0)), (1, .ref (A (20 + i)))]) (st' := [.int nm, .int (TIq M.2.2.2.2.2.2 a).1]) rfl ?_
          refine At.ic2 (tgt := 127) rfl rfl (fun _ => ?_) (fun h => absurd (h.symm.trans (decide_eq_true hn)) (by decide))
          refine At.go (q := xm164) rfl 2 (pc' := 29) (L' := [(6, .int ((Int32.ofNat j) + 1)), (7, .ref a), (5, .int (Int32.ofNat p)), (4, .int (bI b)), (3, .int (Int32.ofNat o)), (2, .int nm), (0, .ref (A 0)), (1, .ref (A (20 + i)))]) (st' := []) rfl ?_
          simp only [iN_s]
          refine At.wk (L' := [(6, .int (Int32.ofNat (j + 1))), (5, .int (Int32.ofNat p)), (4, .int (bI b)), (3, .int (Int32.ofNat o)), (2, .int nm), (0, .ref (A 0)), (1, .ref (A (20 + i)))]) (List.forall_mem_cons.mpr ⟨List.mem_of_getElem? (i := 0) rfl, (List.forall_mem_cons.mpr ⟨List.mem_of_getElem? (i := 2) rfl, (List.forall_mem_cons.mpr ⟨List.mem_of_getElem? (i := 3) rfl, (List.forall_mem_cons.mpr ⟨List.mem_of_getElem? (i := 4) rfl, (List.forall_mem_cons.mpr ⟨List.mem_of_getElem? (i := 5) rfl, (List.forall_mem_cons.mpr ⟨List.mem_of_getElem? (i := 6) rfl, (List.forall_mem_cons.mpr ⟨List.mem_of_getElem? (i := 7) rfl, (fun _ h => (List.not_mem_nil h).elim)⟩)⟩)⟩)⟩)⟩)⟩)⟩) (show ([6, 7, 5, 4, 3, 2, 0, 1] : List Nat).Nodup by decide) ?_
          exact ih (j + 1) o b p (by omega) (by omega) (by omega) hk
