/-! a formula's result: one word of it (written by wip/p27/c974.py) -/
theorem iN_0s (n : Nat) : Int32.ofNat n - 0 = Int32.ofNat n := Int32.sub_zero _
theorem iN_m3 {n : Nat} : Int32.ofNat (n + 2) - 2 = Int32.ofNat n := by
  rw [show (2 : Int32) = Int32.ofNat 2 from rfl, ← Int32.ofNat_sub _ _ (by omega)]
  rfl
theorem res_name0 {S : List Int32} {hp : List XC} {nc ns : Nat} {Q : XO → Prop} {a oa aa pa sa wa n i t D : Nat} {ws : Value} {es : List Value} {gs vs : List Int32} (ho : hp[a]? = some (.inr (5, [.ref oa, .ref aa, .ref pa, .ref sa, .ref wa, ws, .int (Int32.ofNat n)]))) (hoa : hp[oa]? = some (.inl (27, es))) (haa : hp[aa]? = some (.inl (14, gs.map Value.int))) (hsa : hp[sa]? = some (.inl (16, vs.map Value.int))) (hes : es[i]? = some (.retAddr 3)) (hi : i < n) (hn : n ≤ 1000) (hgl : gs.length ≤ 1000) (hvl9 : vs.length ≤ 1000) (hD : D + 1 < vs.length + 1) {x : Int32} (hng : n ≤ gs.length) (hg : gs[i]? = some x) (hgl9 : gs.length ≤ 100000) {z : Int32} (hcel : Pu S 0 145 [.null, .null, .int x] hp (.int z)) (hK : At S 4 143 10 [(5, .int (Int32.ofNat (D + 1))), (6, .int (Int32.ofNat (i + 1))), (0, .ref a), (2, .int (Int32.ofNat t)), (3, .null), (4, .null)] [] (hp.set sa (.inl (16, (vs.set D z).map Value.int))) nc ns Q) : At S 4 143 35 [(5, .int (Int32.ofNat D)), (6, .int (Int32.ofNat i)), (0, .ref a), (2, .int (Int32.ofNat t)), (3, .null), (4, .null)] [] hp nc ns Q := by
  have hls := (List.getElem?_eq_some_iff.mp hes).1
  refine At.go (q := xm143) rfl 1 (pc' := 36) (L' := [(5, .int (Int32.ofNat D)), (6, .int (Int32.ofNat i)), (0, .ref a), (2, .int (Int32.ofNat t)), (3, .null), (4, .null)]) (st' := [.ref a]) rfl ?_
  refine At.gf rfl (by decide) ho rfl ?_
  refine At.go (q := xm143) rfl 1 (pc' := 41) (L' := [(5, .int (Int32.ofNat D)), (6, .int (Int32.ofNat i)), (0, .ref a), (2, .int (Int32.ofNat t)), (3, .null), (4, .null)]) (st' := [.int (Int32.ofNat i), .ref oa]) rfl ?_
  refine At.ql rfl hoa (by decide) rfl (iN_nn (by omega)) (by rw [iN_tn (by omega)]; exact hes) rfl ?_
  refine At.go (q := xm143) rfl 2 (pc' := 46) (L' := [(7, .retAddr 3), (5, .int (Int32.ofNat D)), (6, .int (Int32.ofNat i)), (0, .ref a), (2, .int (Int32.ofNat t)), (3, .null), (4, .null)]) (st' := [.retAddr 3]) rfl ?_
  refine At.gk rfl (by decide) rfl rfl ?_
  refine At.go (q := xm143) rfl 6 (pc' := 77) (L' := [(8, .int 0), (7, .retAddr 3), (5, .int (Int32.ofNat D)), (6, .int (Int32.ofNat i)), (0, .ref a), (2, .int (Int32.ofNat t)), (3, .null), (4, .null)]) (st' := [.int 0, .int (Int32.ofNat D)]) rfl ?_
  refine At.ic2 (tgt := 93) rfl rfl (fun h => absurd (of_decide_eq_true h) (fun h => absurd ((iN_lt (a := D) (b := 0) (by omega) (by omega)).mp h) (by omega))) (fun _ => ?_)
  refine At.go (q := xm143) rfl 4 (pc' := 86) (L' := [(8, .int 0), (7, .retAddr 3), (5, .int (Int32.ofNat D)), (6, .int (Int32.ofNat i)), (0, .ref a), (2, .int (Int32.ofNat t)), (3, .null), (4, .null)]) (st' := [.ref a, .int ((Int32.ofNat D) - 0)]) rfl ?_
  refine At.gf rfl (by decide) ho rfl ?_
  refine At.ln rfl hsa ?_
  rw [iN_0s]
  refine At.ic2 (tgt := 96) rfl rfl (fun _ => ?_) (fun h => absurd (decide_eq_true ((iN_lt (a := D) (b := vs.length) (by omega) (by omega)).mpr (by omega))) (by rw [List.length_map] at h; rw [show decide (Int32.ofNat D < Int32.ofNat vs.length) = false from h]; decide))
  refine At.go (q := xm143) rfl 3 (pc' := 101) (L' := [(8, .int 0), (7, .retAddr 3), (5, .int (Int32.ofNat D)), (6, .int (Int32.ofNat i)), (0, .ref a), (2, .int (Int32.ofNat t)), (3, .null), (4, .null)]) (st' := [.int ((Int32.ofNat D) - 0)]) rfl ?_
  rw [iN_0s]
  refine At.go (q := xm143) rfl 3 (pc' := 108) (L' := [(5, .int (Int32.ofNat D)), (8, .int 0), (7, .retAddr 3), (6, .int (Int32.ofNat i)), (0, .ref a), (2, .int (Int32.ofNat t)), (3, .null), (4, .null)]) (st' := [.retAddr 2, .retAddr 3]) rfl ?_
  refine At.acn (tgt := 127) (b := false) rfl rfl rfl (fun _ => ?_) (fun h => absurd h (by decide))
  refine At.go (q := xm143) rfl 2 (pc' := 132) (L' := [(5, .int (Int32.ofNat D)), (8, .int 0), (7, .retAddr 3), (6, .int (Int32.ofNat i)), (0, .ref a), (2, .int (Int32.ofNat t)), (3, .null), (4, .null)]) (st' := [.retAddr 29, .retAddr 3]) rfl ?_
  refine At.acn (tgt := 173) (b := false) rfl rfl rfl (fun _ => ?_) (fun h => absurd h (by decide))
  refine At.go (q := xm143) rfl 3 (pc' := 179) (L' := [(5, .int (Int32.ofNat D)), (8, .int 0), (7, .retAddr 3), (6, .int (Int32.ofNat i)), (0, .ref a), (2, .int (Int32.ofNat t)), (3, .null), (4, .null)]) (st' := [.ref a]) rfl ?_
  refine At.gf rfl (by decide) ho rfl ?_
  refine At.go (q := xm143) rfl 3 (pc' := 189) (L' := [(5, .int (Int32.ofNat D)), (8, .int 0), (7, .retAddr 3), (6, .int (Int32.ofNat i)), (0, .ref a), (2, .int (Int32.ofNat t)), (3, .null), (4, .null)]) (st' := [.retAddr 3, .retAddr 3, .int (Int32.ofNat D), .ref sa]) rfl ?_
  refine At.acn (tgt := 207) (b := true) rfl rfl rfl (fun h => absurd h (by decide)) (fun _ => ?_)
  refine At.go (q := xm143) rfl 4 (pc' := 198) (L' := [(5, .int (Int32.ofNat D)), (8, .int 0), (7, .retAddr 3), (6, .int (Int32.ofNat i)), (0, .ref a), (2, .int (Int32.ofNat t)), (3, .null), (4, .null)]) (st' := [.int (Int32.ofNat i), .ref a, .null, .null, .int (Int32.ofNat D), .ref sa]) rfl ?_
  refine At.clp (as := [.ref a, .int (Int32.ofNat i)]) (rest := [.null, .null, .int (Int32.ofNat D), .ref sa]) rfl (by decide) rfl (Nat.le_of_ble_eq_true rfl) (Nat.le_of_ble_eq_true rfl) (xrck_o (by decide) (by decide) ho (by decide)) (Nat.le_of_ble_eq_true rfl) (m_farg ho hi haa hgl9 hng hg) ?_
  refine At.clp (as := [.null, .null, .int x]) (rest := [.int (Int32.ofNat D), .ref sa]) rfl (by decide) rfl (Nat.le_of_ble_eq_true rfl) (Nat.le_of_ble_eq_true rfl) rfl (Nat.le_of_ble_eq_true rfl) (hcel) ?_
  refine At.go (q := xm143) rfl 1 (pc' := 209) (L' := [(5, .int (Int32.ofNat D)), (8, .int 0), (7, .retAddr 3), (6, .int (Int32.ofNat i)), (0, .ref a), (2, .int (Int32.ofNat t)), (3, .null), (4, .null)]) (st' := [.int z, .int (Int32.ofNat D), .ref sa]) rfl ?_
  refine At.as (j := Int32.ofNat D) rfl hsa (by decide) rfl (iN_nn (by omega)) (by rw [iN_tn (by omega), List.length_map]; omega) ?_
  rw [iN_tn (by omega)]
  refine At.go (q := xm143) rfl 1 (pc' := 281) (L' := [(5, .int (Int32.ofNat D)), (8, .int 0), (7, .retAddr 3), (6, .int (Int32.ofNat i)), (0, .ref a), (2, .int (Int32.ofNat t)), (3, .null), (4, .null)]) (st' := []) rfl ?_
  refine At.go (q := xm143) rfl 1 (pc' := 284) (L' := [(5, .int ((Int32.ofNat D) + 1)), (8, .int 0), (7, .retAddr 3), (6, .int (Int32.ofNat i)), (0, .ref a), (2, .int (Int32.ofNat t)), (3, .null), (4, .null)]) (st' := []) rfl ?_
  refine At.go (q := xm143) rfl 1 (pc' := 287) (L' := [(6, .int ((Int32.ofNat i) + 1)), (5, .int ((Int32.ofNat D) + 1)), (8, .int 0), (7, .retAddr 3), (0, .ref a), (2, .int (Int32.ofNat t)), (3, .null), (4, .null)]) (st' := []) rfl ?_
  refine At.go (q := xm143) rfl 1 (pc' := 10) (L' := [(6, .int ((Int32.ofNat i) + 1)), (5, .int ((Int32.ofNat D) + 1)), (8, .int 0), (7, .retAddr 3), (0, .ref a), (2, .int (Int32.ofNat t)), (3, .null), (4, .null)]) (st' := []) rfl ?_
  rw [iN_s, iN_s]
  refine At.wk (L' := [(5, .int (Int32.ofNat (D + 1))), (6, .int (Int32.ofNat (i + 1))), (0, .ref a), (2, .int (Int32.ofNat t)), (3, .null), (4, .null)]) (List.forall_mem_cons.mpr ⟨List.mem_of_getElem? (i := 1) rfl, (List.forall_mem_cons.mpr ⟨List.mem_of_getElem? (i := 0) rfl, (List.forall_mem_cons.mpr ⟨List.mem_of_getElem? (i := 4) rfl, (List.forall_mem_cons.mpr ⟨List.mem_of_getElem? (i := 5) rfl, (List.forall_mem_cons.mpr ⟨List.mem_of_getElem? (i := 6) rfl, (List.forall_mem_cons.mpr ⟨List.mem_of_getElem? (i := 7) rfl, (fun _ h => (List.not_mem_nil h).elim)⟩)⟩)⟩)⟩)⟩)⟩) (show ([6, 5, 8, 7, 0, 2, 3, 4] : List Nat).Nodup by decide) ?_
  have hK9 := hK
  rw [List.map_set] at hK9
  exact hK9
theorem res_name1 {S : List Int32} {hp : List XC} {nc ns : Nat} {Q : XO → Prop} {a oa aa pa sa wa n i t D : Nat} {ws : Value} {es : List Value} {gs vs : List Int32} (ho : hp[a]? = some (.inr (5, [.ref oa, .ref aa, .ref pa, .ref sa, .ref wa, ws, .int (Int32.ofNat n)]))) (hoa : hp[oa]? = some (.inl (27, es))) (haa : hp[aa]? = some (.inl (14, gs.map Value.int))) (hsa : hp[sa]? = some (.inl (16, vs.map Value.int))) (hes : es[i]? = some (.retAddr 3)) (hi : i < n) (hn : n ≤ 1000) (hgl : gs.length ≤ 1000) (hvl9 : vs.length ≤ 1000) (hD : D + 1 < vs.length + 1) {o1 : Nat} {x : Int32} (hng : n ≤ gs.length) (hg : gs[i]? = some x) (hgl9 : gs.length ≤ 100000) {z : Int32} (hcel : Pu S 0 145 [.ref o1, .null, .int x] hp (.int z)) (hK : At S 4 143 10 [(5, .int (Int32.ofNat (D + 1))), (6, .int (Int32.ofNat (i + 1))), (0, .ref a), (2, .int (Int32.ofNat t)), (3, .ref o1), (4, .null)] [] (hp.set sa (.inl (16, (vs.set D z).map Value.int))) nc ns Q) : At S 4 143 35 [(5, .int (Int32.ofNat D)), (6, .int (Int32.ofNat i)), (0, .ref a), (2, .int (Int32.ofNat t)), (3, .ref o1), (4, .null)] [] hp nc ns Q := by
  have hls := (List.getElem?_eq_some_iff.mp hes).1
  refine At.go (q := xm143) rfl 1 (pc' := 36) (L' := [(5, .int (Int32.ofNat D)), (6, .int (Int32.ofNat i)), (0, .ref a), (2, .int (Int32.ofNat t)), (3, .ref o1), (4, .null)]) (st' := [.ref a]) rfl ?_
  refine At.gf rfl (by decide) ho rfl ?_
  refine At.go (q := xm143) rfl 1 (pc' := 41) (L' := [(5, .int (Int32.ofNat D)), (6, .int (Int32.ofNat i)), (0, .ref a), (2, .int (Int32.ofNat t)), (3, .ref o1), (4, .null)]) (st' := [.int (Int32.ofNat i), .ref oa]) rfl ?_
  refine At.ql rfl hoa (by decide) rfl (iN_nn (by omega)) (by rw [iN_tn (by omega)]; exact hes) rfl ?_
  refine At.go (q := xm143) rfl 2 (pc' := 46) (L' := [(7, .retAddr 3), (5, .int (Int32.ofNat D)), (6, .int (Int32.ofNat i)), (0, .ref a), (2, .int (Int32.ofNat t)), (3, .ref o1), (4, .null)]) (st' := [.retAddr 3]) rfl ?_
  refine At.gk rfl (by decide) rfl rfl ?_
  refine At.go (q := xm143) rfl 6 (pc' := 77) (L' := [(8, .int 0), (7, .retAddr 3), (5, .int (Int32.ofNat D)), (6, .int (Int32.ofNat i)), (0, .ref a), (2, .int (Int32.ofNat t)), (3, .ref o1), (4, .null)]) (st' := [.int 0, .int (Int32.ofNat D)]) rfl ?_
  refine At.ic2 (tgt := 93) rfl rfl (fun h => absurd (of_decide_eq_true h) (fun h => absurd ((iN_lt (a := D) (b := 0) (by omega) (by omega)).mp h) (by omega))) (fun _ => ?_)
  refine At.go (q := xm143) rfl 4 (pc' := 86) (L' := [(8, .int 0), (7, .retAddr 3), (5, .int (Int32.ofNat D)), (6, .int (Int32.ofNat i)), (0, .ref a), (2, .int (Int32.ofNat t)), (3, .ref o1), (4, .null)]) (st' := [.ref a, .int ((Int32.ofNat D) - 0)]) rfl ?_
  refine At.gf rfl (by decide) ho rfl ?_
  refine At.ln rfl hsa ?_
  rw [iN_0s]
  refine At.ic2 (tgt := 96) rfl rfl (fun _ => ?_) (fun h => absurd (decide_eq_true ((iN_lt (a := D) (b := vs.length) (by omega) (by omega)).mpr (by omega))) (by rw [List.length_map] at h; rw [show decide (Int32.ofNat D < Int32.ofNat vs.length) = false from h]; decide))
  refine At.go (q := xm143) rfl 3 (pc' := 101) (L' := [(8, .int 0), (7, .retAddr 3), (5, .int (Int32.ofNat D)), (6, .int (Int32.ofNat i)), (0, .ref a), (2, .int (Int32.ofNat t)), (3, .ref o1), (4, .null)]) (st' := [.int ((Int32.ofNat D) - 0)]) rfl ?_
  rw [iN_0s]
  refine At.go (q := xm143) rfl 3 (pc' := 108) (L' := [(5, .int (Int32.ofNat D)), (8, .int 0), (7, .retAddr 3), (6, .int (Int32.ofNat i)), (0, .ref a), (2, .int (Int32.ofNat t)), (3, .ref o1), (4, .null)]) (st' := [.retAddr 2, .retAddr 3]) rfl ?_
  refine At.acn (tgt := 127) (b := false) rfl rfl rfl (fun _ => ?_) (fun h => absurd h (by decide))
  refine At.go (q := xm143) rfl 2 (pc' := 132) (L' := [(5, .int (Int32.ofNat D)), (8, .int 0), (7, .retAddr 3), (6, .int (Int32.ofNat i)), (0, .ref a), (2, .int (Int32.ofNat t)), (3, .ref o1), (4, .null)]) (st' := [.retAddr 29, .retAddr 3]) rfl ?_
  refine At.acn (tgt := 173) (b := false) rfl rfl rfl (fun _ => ?_) (fun h => absurd h (by decide))
  refine At.go (q := xm143) rfl 3 (pc' := 179) (L' := [(5, .int (Int32.ofNat D)), (8, .int 0), (7, .retAddr 3), (6, .int (Int32.ofNat i)), (0, .ref a), (2, .int (Int32.ofNat t)), (3, .ref o1), (4, .null)]) (st' := [.ref a]) rfl ?_
  refine At.gf rfl (by decide) ho rfl ?_
  refine At.go (q := xm143) rfl 3 (pc' := 189) (L' := [(5, .int (Int32.ofNat D)), (8, .int 0), (7, .retAddr 3), (6, .int (Int32.ofNat i)), (0, .ref a), (2, .int (Int32.ofNat t)), (3, .ref o1), (4, .null)]) (st' := [.retAddr 3, .retAddr 3, .int (Int32.ofNat D), .ref sa]) rfl ?_
  refine At.acn (tgt := 207) (b := true) rfl rfl rfl (fun h => absurd h (by decide)) (fun _ => ?_)
  refine At.go (q := xm143) rfl 4 (pc' := 198) (L' := [(5, .int (Int32.ofNat D)), (8, .int 0), (7, .retAddr 3), (6, .int (Int32.ofNat i)), (0, .ref a), (2, .int (Int32.ofNat t)), (3, .ref o1), (4, .null)]) (st' := [.int (Int32.ofNat i), .ref a, .null, .ref o1, .int (Int32.ofNat D), .ref sa]) rfl ?_
  refine At.clp (as := [.ref a, .int (Int32.ofNat i)]) (rest := [.null, .ref o1, .int (Int32.ofNat D), .ref sa]) rfl (by decide) rfl (Nat.le_of_ble_eq_true rfl) (Nat.le_of_ble_eq_true rfl) (xrck_o (by decide) (by decide) ho (by decide)) (Nat.le_of_ble_eq_true rfl) (m_farg ho hi haa hgl9 hng hg) ?_
  refine At.clp (as := [.ref o1, .null, .int x]) (rest := [.int (Int32.ofNat D), .ref sa]) rfl (by decide) rfl (Nat.le_of_ble_eq_true rfl) (Nat.le_of_ble_eq_true rfl) rfl (Nat.le_of_ble_eq_true rfl) (hcel) ?_
  refine At.go (q := xm143) rfl 1 (pc' := 209) (L' := [(5, .int (Int32.ofNat D)), (8, .int 0), (7, .retAddr 3), (6, .int (Int32.ofNat i)), (0, .ref a), (2, .int (Int32.ofNat t)), (3, .ref o1), (4, .null)]) (st' := [.int z, .int (Int32.ofNat D), .ref sa]) rfl ?_
  refine At.as (j := Int32.ofNat D) rfl hsa (by decide) rfl (iN_nn (by omega)) (by rw [iN_tn (by omega), List.length_map]; omega) ?_
  rw [iN_tn (by omega)]
  refine At.go (q := xm143) rfl 1 (pc' := 281) (L' := [(5, .int (Int32.ofNat D)), (8, .int 0), (7, .retAddr 3), (6, .int (Int32.ofNat i)), (0, .ref a), (2, .int (Int32.ofNat t)), (3, .ref o1), (4, .null)]) (st' := []) rfl ?_
  refine At.go (q := xm143) rfl 1 (pc' := 284) (L' := [(5, .int ((Int32.ofNat D) + 1)), (8, .int 0), (7, .retAddr 3), (6, .int (Int32.ofNat i)), (0, .ref a), (2, .int (Int32.ofNat t)), (3, .ref o1), (4, .null)]) (st' := []) rfl ?_
  refine At.go (q := xm143) rfl 1 (pc' := 287) (L' := [(6, .int ((Int32.ofNat i) + 1)), (5, .int ((Int32.ofNat D) + 1)), (8, .int 0), (7, .retAddr 3), (0, .ref a), (2, .int (Int32.ofNat t)), (3, .ref o1), (4, .null)]) (st' := []) rfl ?_
  refine At.go (q := xm143) rfl 1 (pc' := 10) (L' := [(6, .int ((Int32.ofNat i) + 1)), (5, .int ((Int32.ofNat D) + 1)), (8, .int 0), (7, .retAddr 3), (0, .ref a), (2, .int (Int32.ofNat t)), (3, .ref o1), (4, .null)]) (st' := []) rfl ?_
  rw [iN_s, iN_s]
  refine At.wk (L' := [(5, .int (Int32.ofNat (D + 1))), (6, .int (Int32.ofNat (i + 1))), (0, .ref a), (2, .int (Int32.ofNat t)), (3, .ref o1), (4, .null)]) (List.forall_mem_cons.mpr ⟨List.mem_of_getElem? (i := 1) rfl, (List.forall_mem_cons.mpr ⟨List.mem_of_getElem? (i := 0) rfl, (List.forall_mem_cons.mpr ⟨List.mem_of_getElem? (i := 4) rfl, (List.forall_mem_cons.mpr ⟨List.mem_of_getElem? (i := 5) rfl, (List.forall_mem_cons.mpr ⟨List.mem_of_getElem? (i := 6) rfl, (List.forall_mem_cons.mpr ⟨List.mem_of_getElem? (i := 7) rfl, (fun _ h => (List.not_mem_nil h).elim)⟩)⟩)⟩)⟩)⟩)⟩) (show ([6, 5, 8, 7, 0, 2, 3, 4] : List Nat).Nodup by decide) ?_
  have hK9 := hK
  rw [List.map_set] at hK9
  exact hK9
theorem res_name2 {S : List Int32} {hp : List XC} {nc ns : Nat} {Q : XO → Prop} {a oa aa pa sa wa n i t D : Nat} {ws : Value} {es : List Value} {gs vs : List Int32} (ho : hp[a]? = some (.inr (5, [.ref oa, .ref aa, .ref pa, .ref sa, .ref wa, ws, .int (Int32.ofNat n)]))) (hoa : hp[oa]? = some (.inl (27, es))) (haa : hp[aa]? = some (.inl (14, gs.map Value.int))) (hsa : hp[sa]? = some (.inl (16, vs.map Value.int))) (hes : es[i]? = some (.retAddr 3)) (hi : i < n) (hn : n ≤ 1000) (hgl : gs.length ≤ 1000) (hvl9 : vs.length ≤ 1000) (hD : D + 1 < vs.length + 1) {o1 o2 : Nat} {x : Int32} (hng : n ≤ gs.length) (hg : gs[i]? = some x) (hgl9 : gs.length ≤ 100000) {z : Int32} (hcel : Pu S 0 145 [.ref o1, .ref o2, .int x] hp (.int z)) (hK : At S 4 143 10 [(5, .int (Int32.ofNat (D + 1))), (6, .int (Int32.ofNat (i + 1))), (0, .ref a), (2, .int (Int32.ofNat t)), (3, .ref o1), (4, .ref o2)] [] (hp.set sa (.inl (16, (vs.set D z).map Value.int))) nc ns Q) : At S 4 143 35 [(5, .int (Int32.ofNat D)), (6, .int (Int32.ofNat i)), (0, .ref a), (2, .int (Int32.ofNat t)), (3, .ref o1), (4, .ref o2)] [] hp nc ns Q := by
  have hls := (List.getElem?_eq_some_iff.mp hes).1
  refine At.go (q := xm143) rfl 1 (pc' := 36) (L' := [(5, .int (Int32.ofNat D)), (6, .int (Int32.ofNat i)), (0, .ref a), (2, .int (Int32.ofNat t)), (3, .ref o1), (4, .ref o2)]) (st' := [.ref a]) rfl ?_
  refine At.gf rfl (by decide) ho rfl ?_
  refine At.go (q := xm143) rfl 1 (pc' := 41) (L' := [(5, .int (Int32.ofNat D)), (6, .int (Int32.ofNat i)), (0, .ref a), (2, .int (Int32.ofNat t)), (3, .ref o1), (4, .ref o2)]) (st' := [.int (Int32.ofNat i), .ref oa]) rfl ?_
  refine At.ql rfl hoa (by decide) rfl (iN_nn (by omega)) (by rw [iN_tn (by omega)]; exact hes) rfl ?_
  refine At.go (q := xm143) rfl 2 (pc' := 46) (L' := [(7, .retAddr 3), (5, .int (Int32.ofNat D)), (6, .int (Int32.ofNat i)), (0, .ref a), (2, .int (Int32.ofNat t)), (3, .ref o1), (4, .ref o2)]) (st' := [.retAddr 3]) rfl ?_
  refine At.gk rfl (by decide) rfl rfl ?_
  refine At.go (q := xm143) rfl 6 (pc' := 77) (L' := [(8, .int 0), (7, .retAddr 3), (5, .int (Int32.ofNat D)), (6, .int (Int32.ofNat i)), (0, .ref a), (2, .int (Int32.ofNat t)), (3, .ref o1), (4, .ref o2)]) (st' := [.int 0, .int (Int32.ofNat D)]) rfl ?_
  refine At.ic2 (tgt := 93) rfl rfl (fun h => absurd (of_decide_eq_true h) (fun h => absurd ((iN_lt (a := D) (b := 0) (by omega) (by omega)).mp h) (by omega))) (fun _ => ?_)
  refine At.go (q := xm143) rfl 4 (pc' := 86) (L' := [(8, .int 0), (7, .retAddr 3), (5, .int (Int32.ofNat D)), (6, .int (Int32.ofNat i)), (0, .ref a), (2, .int (Int32.ofNat t)), (3, .ref o1), (4, .ref o2)]) (st' := [.ref a, .int ((Int32.ofNat D) - 0)]) rfl ?_
  refine At.gf rfl (by decide) ho rfl ?_
  refine At.ln rfl hsa ?_
  rw [iN_0s]
  refine At.ic2 (tgt := 96) rfl rfl (fun _ => ?_) (fun h => absurd (decide_eq_true ((iN_lt (a := D) (b := vs.length) (by omega) (by omega)).mpr (by omega))) (by rw [List.length_map] at h; rw [show decide (Int32.ofNat D < Int32.ofNat vs.length) = false from h]; decide))
  refine At.go (q := xm143) rfl 3 (pc' := 101) (L' := [(8, .int 0), (7, .retAddr 3), (5, .int (Int32.ofNat D)), (6, .int (Int32.ofNat i)), (0, .ref a), (2, .int (Int32.ofNat t)), (3, .ref o1), (4, .ref o2)]) (st' := [.int ((Int32.ofNat D) - 0)]) rfl ?_
  rw [iN_0s]
  refine At.go (q := xm143) rfl 3 (pc' := 108) (L' := [(5, .int (Int32.ofNat D)), (8, .int 0), (7, .retAddr 3), (6, .int (Int32.ofNat i)), (0, .ref a), (2, .int (Int32.ofNat t)), (3, .ref o1), (4, .ref o2)]) (st' := [.retAddr 2, .retAddr 3]) rfl ?_
  refine At.acn (tgt := 127) (b := false) rfl rfl rfl (fun _ => ?_) (fun h => absurd h (by decide))
  refine At.go (q := xm143) rfl 2 (pc' := 132) (L' := [(5, .int (Int32.ofNat D)), (8, .int 0), (7, .retAddr 3), (6, .int (Int32.ofNat i)), (0, .ref a), (2, .int (Int32.ofNat t)), (3, .ref o1), (4, .ref o2)]) (st' := [.retAddr 29, .retAddr 3]) rfl ?_
  refine At.acn (tgt := 173) (b := false) rfl rfl rfl (fun _ => ?_) (fun h => absurd h (by decide))
  refine At.go (q := xm143) rfl 3 (pc' := 179) (L' := [(5, .int (Int32.ofNat D)), (8, .int 0), (7, .retAddr 3), (6, .int (Int32.ofNat i)), (0, .ref a), (2, .int (Int32.ofNat t)), (3, .ref o1), (4, .ref o2)]) (st' := [.ref a]) rfl ?_
  refine At.gf rfl (by decide) ho rfl ?_
  refine At.go (q := xm143) rfl 3 (pc' := 189) (L' := [(5, .int (Int32.ofNat D)), (8, .int 0), (7, .retAddr 3), (6, .int (Int32.ofNat i)), (0, .ref a), (2, .int (Int32.ofNat t)), (3, .ref o1), (4, .ref o2)]) (st' := [.retAddr 3, .retAddr 3, .int (Int32.ofNat D), .ref sa]) rfl ?_
  refine At.acn (tgt := 207) (b := true) rfl rfl rfl (fun h => absurd h (by decide)) (fun _ => ?_)
  refine At.go (q := xm143) rfl 4 (pc' := 198) (L' := [(5, .int (Int32.ofNat D)), (8, .int 0), (7, .retAddr 3), (6, .int (Int32.ofNat i)), (0, .ref a), (2, .int (Int32.ofNat t)), (3, .ref o1), (4, .ref o2)]) (st' := [.int (Int32.ofNat i), .ref a, .ref o2, .ref o1, .int (Int32.ofNat D), .ref sa]) rfl ?_
  refine At.clp (as := [.ref a, .int (Int32.ofNat i)]) (rest := [.ref o2, .ref o1, .int (Int32.ofNat D), .ref sa]) rfl (by decide) rfl (Nat.le_of_ble_eq_true rfl) (Nat.le_of_ble_eq_true rfl) (xrck_o (by decide) (by decide) ho (by decide)) (Nat.le_of_ble_eq_true rfl) (m_farg ho hi haa hgl9 hng hg) ?_
  refine At.clp (as := [.ref o1, .ref o2, .int x]) (rest := [.int (Int32.ofNat D), .ref sa]) rfl (by decide) rfl (Nat.le_of_ble_eq_true rfl) (Nat.le_of_ble_eq_true rfl) rfl (Nat.le_of_ble_eq_true rfl) (hcel) ?_
  refine At.go (q := xm143) rfl 1 (pc' := 209) (L' := [(5, .int (Int32.ofNat D)), (8, .int 0), (7, .retAddr 3), (6, .int (Int32.ofNat i)), (0, .ref a), (2, .int (Int32.ofNat t)), (3, .ref o1), (4, .ref o2)]) (st' := [.int z, .int (Int32.ofNat D), .ref sa]) rfl ?_
  refine At.as (j := Int32.ofNat D) rfl hsa (by decide) rfl (iN_nn (by omega)) (by rw [iN_tn (by omega), List.length_map]; omega) ?_
  rw [iN_tn (by omega)]
  refine At.go (q := xm143) rfl 1 (pc' := 281) (L' := [(5, .int (Int32.ofNat D)), (8, .int 0), (7, .retAddr 3), (6, .int (Int32.ofNat i)), (0, .ref a), (2, .int (Int32.ofNat t)), (3, .ref o1), (4, .ref o2)]) (st' := []) rfl ?_
  refine At.go (q := xm143) rfl 1 (pc' := 284) (L' := [(5, .int ((Int32.ofNat D) + 1)), (8, .int 0), (7, .retAddr 3), (6, .int (Int32.ofNat i)), (0, .ref a), (2, .int (Int32.ofNat t)), (3, .ref o1), (4, .ref o2)]) (st' := []) rfl ?_
  refine At.go (q := xm143) rfl 1 (pc' := 287) (L' := [(6, .int ((Int32.ofNat i) + 1)), (5, .int ((Int32.ofNat D) + 1)), (8, .int 0), (7, .retAddr 3), (0, .ref a), (2, .int (Int32.ofNat t)), (3, .ref o1), (4, .ref o2)]) (st' := []) rfl ?_
  refine At.go (q := xm143) rfl 1 (pc' := 10) (L' := [(6, .int ((Int32.ofNat i) + 1)), (5, .int ((Int32.ofNat D) + 1)), (8, .int 0), (7, .retAddr 3), (0, .ref a), (2, .int (Int32.ofNat t)), (3, .ref o1), (4, .ref o2)]) (st' := []) rfl ?_
  rw [iN_s, iN_s]
  refine At.wk (L' := [(5, .int (Int32.ofNat (D + 1))), (6, .int (Int32.ofNat (i + 1))), (0, .ref a), (2, .int (Int32.ofNat t)), (3, .ref o1), (4, .ref o2)]) (List.forall_mem_cons.mpr ⟨List.mem_of_getElem? (i := 1) rfl, (List.forall_mem_cons.mpr ⟨List.mem_of_getElem? (i := 0) rfl, (List.forall_mem_cons.mpr ⟨List.mem_of_getElem? (i := 4) rfl, (List.forall_mem_cons.mpr ⟨List.mem_of_getElem? (i := 5) rfl, (List.forall_mem_cons.mpr ⟨List.mem_of_getElem? (i := 6) rfl, (List.forall_mem_cons.mpr ⟨List.mem_of_getElem? (i := 7) rfl, (fun _ h => (List.not_mem_nil h).elim)⟩)⟩)⟩)⟩)⟩)⟩) (show ([6, 5, 8, 7, 0, 2, 3, 4] : List Nat).Nodup by decide) ?_
  have hK9 := hK
  rw [List.map_set] at hK9
  exact hK9
theorem res_lab0 {S : List Int32} {hp : List XC} {nc ns : Nat} {Q : XO → Prop} {a oa aa pa sa wa n i t D : Nat} {ws : Value} {es : List Value} {gs vs : List Int32} (ho : hp[a]? = some (.inr (5, [.ref oa, .ref aa, .ref pa, .ref sa, .ref wa, ws, .int (Int32.ofNat n)]))) (hoa : hp[oa]? = some (.inl (27, es))) (haa : hp[aa]? = some (.inl (14, gs.map Value.int))) (hsa : hp[sa]? = some (.inl (16, vs.map Value.int))) (hes : es[i]? = some (.retAddr 29)) (hi : i < n) (hn : n ≤ 1000) (hgl : gs.length ≤ 1000) (hvl9 : vs.length ≤ 1000) (hD : D + 1 < vs.length + 1)  (hK : At S 4 143 10 [(5, .int (Int32.ofNat (D + 1))), (6, .int (Int32.ofNat (i + 1))), (0, .ref a), (2, .int (Int32.ofNat t)), (3, .null), (4, .null)] [] (hp.set sa (.inl (16, (vs.set D (-1000000000)).map Value.int))) nc ns Q) : At S 4 143 35 [(5, .int (Int32.ofNat D)), (6, .int (Int32.ofNat i)), (0, .ref a), (2, .int (Int32.ofNat t)), (3, .null), (4, .null)] [] hp nc ns Q := by
  have hls := (List.getElem?_eq_some_iff.mp hes).1
  refine At.go (q := xm143) rfl 1 (pc' := 36) (L' := [(5, .int (Int32.ofNat D)), (6, .int (Int32.ofNat i)), (0, .ref a), (2, .int (Int32.ofNat t)), (3, .null), (4, .null)]) (st' := [.ref a]) rfl ?_
  refine At.gf rfl (by decide) ho rfl ?_
  refine At.go (q := xm143) rfl 1 (pc' := 41) (L' := [(5, .int (Int32.ofNat D)), (6, .int (Int32.ofNat i)), (0, .ref a), (2, .int (Int32.ofNat t)), (3, .null), (4, .null)]) (st' := [.int (Int32.ofNat i), .ref oa]) rfl ?_
  refine At.ql rfl hoa (by decide) rfl (iN_nn (by omega)) (by rw [iN_tn (by omega)]; exact hes) rfl ?_
  refine At.go (q := xm143) rfl 2 (pc' := 46) (L' := [(7, .retAddr 29), (5, .int (Int32.ofNat D)), (6, .int (Int32.ofNat i)), (0, .ref a), (2, .int (Int32.ofNat t)), (3, .null), (4, .null)]) (st' := [.retAddr 29]) rfl ?_
  refine At.gk rfl (by decide) rfl rfl ?_
  refine At.go (q := xm143) rfl 6 (pc' := 77) (L' := [(8, .int 0), (7, .retAddr 29), (5, .int (Int32.ofNat D)), (6, .int (Int32.ofNat i)), (0, .ref a), (2, .int (Int32.ofNat t)), (3, .null), (4, .null)]) (st' := [.int 0, .int (Int32.ofNat D)]) rfl ?_
  refine At.ic2 (tgt := 93) rfl rfl (fun h => absurd (of_decide_eq_true h) (fun h => absurd ((iN_lt (a := D) (b := 0) (by omega) (by omega)).mp h) (by omega))) (fun _ => ?_)
  refine At.go (q := xm143) rfl 4 (pc' := 86) (L' := [(8, .int 0), (7, .retAddr 29), (5, .int (Int32.ofNat D)), (6, .int (Int32.ofNat i)), (0, .ref a), (2, .int (Int32.ofNat t)), (3, .null), (4, .null)]) (st' := [.ref a, .int ((Int32.ofNat D) - 0)]) rfl ?_
  refine At.gf rfl (by decide) ho rfl ?_
  refine At.ln rfl hsa ?_
  rw [iN_0s]
  refine At.ic2 (tgt := 96) rfl rfl (fun _ => ?_) (fun h => absurd (decide_eq_true ((iN_lt (a := D) (b := vs.length) (by omega) (by omega)).mpr (by omega))) (by rw [List.length_map] at h; rw [show decide (Int32.ofNat D < Int32.ofNat vs.length) = false from h]; decide))
  refine At.go (q := xm143) rfl 3 (pc' := 101) (L' := [(8, .int 0), (7, .retAddr 29), (5, .int (Int32.ofNat D)), (6, .int (Int32.ofNat i)), (0, .ref a), (2, .int (Int32.ofNat t)), (3, .null), (4, .null)]) (st' := [.int ((Int32.ofNat D) - 0)]) rfl ?_
  rw [iN_0s]
  refine At.go (q := xm143) rfl 3 (pc' := 108) (L' := [(5, .int (Int32.ofNat D)), (8, .int 0), (7, .retAddr 29), (6, .int (Int32.ofNat i)), (0, .ref a), (2, .int (Int32.ofNat t)), (3, .null), (4, .null)]) (st' := [.retAddr 2, .retAddr 29]) rfl ?_
  refine At.acn (tgt := 127) (b := false) rfl rfl rfl (fun _ => ?_) (fun h => absurd h (by decide))
  refine At.go (q := xm143) rfl 2 (pc' := 132) (L' := [(5, .int (Int32.ofNat D)), (8, .int 0), (7, .retAddr 29), (6, .int (Int32.ofNat i)), (0, .ref a), (2, .int (Int32.ofNat t)), (3, .null), (4, .null)]) (st' := [.retAddr 29, .retAddr 29]) rfl ?_
  refine At.acn (tgt := 173) (b := true) rfl rfl rfl (fun h => absurd h (by decide)) (fun _ => ?_)
  refine At.go (q := xm143) rfl 5 (pc' := 179) (L' := [(5, .int (Int32.ofNat D)), (8, .int 0), (7, .retAddr 29), (6, .int (Int32.ofNat i)), (0, .ref a), (2, .int (Int32.ofNat t)), (3, .null), (4, .null)]) (st' := [.ref a]) rfl ?_
  refine At.gf rfl (by decide) ho rfl ?_
  refine At.go (q := xm143) rfl 3 (pc' := 189) (L' := [(5, .int (Int32.ofNat D)), (8, .int 0), (7, .retAddr 29), (6, .int (Int32.ofNat i)), (0, .ref a), (2, .int (Int32.ofNat t)), (3, .null), (4, .null)]) (st' := [.retAddr 3, .retAddr 29, .int (Int32.ofNat D), .ref sa]) rfl ?_
  refine At.acn (tgt := 207) (b := false) rfl rfl rfl (fun _ => ?_) (fun h => absurd h (by decide))
  refine At.go (q := xm143) rfl 1 (pc' := 209) (L' := [(5, .int (Int32.ofNat D)), (8, .int 0), (7, .retAddr 29), (6, .int (Int32.ofNat i)), (0, .ref a), (2, .int (Int32.ofNat t)), (3, .null), (4, .null)]) (st' := [.int (-1000000000), .int (Int32.ofNat D), .ref sa]) rfl ?_
  refine At.as (j := Int32.ofNat D) rfl hsa (by decide) rfl (iN_nn (by omega)) (by rw [iN_tn (by omega), List.length_map]; omega) ?_
  rw [iN_tn (by omega)]
  refine At.go (q := xm143) rfl 1 (pc' := 281) (L' := [(5, .int (Int32.ofNat D)), (8, .int 0), (7, .retAddr 29), (6, .int (Int32.ofNat i)), (0, .ref a), (2, .int (Int32.ofNat t)), (3, .null), (4, .null)]) (st' := []) rfl ?_
  refine At.go (q := xm143) rfl 1 (pc' := 284) (L' := [(5, .int ((Int32.ofNat D) + 1)), (8, .int 0), (7, .retAddr 29), (6, .int (Int32.ofNat i)), (0, .ref a), (2, .int (Int32.ofNat t)), (3, .null), (4, .null)]) (st' := []) rfl ?_
  refine At.go (q := xm143) rfl 1 (pc' := 287) (L' := [(6, .int ((Int32.ofNat i) + 1)), (5, .int ((Int32.ofNat D) + 1)), (8, .int 0), (7, .retAddr 29), (0, .ref a), (2, .int (Int32.ofNat t)), (3, .null), (4, .null)]) (st' := []) rfl ?_
  refine At.go (q := xm143) rfl 1 (pc' := 10) (L' := [(6, .int ((Int32.ofNat i) + 1)), (5, .int ((Int32.ofNat D) + 1)), (8, .int 0), (7, .retAddr 29), (0, .ref a), (2, .int (Int32.ofNat t)), (3, .null), (4, .null)]) (st' := []) rfl ?_
  rw [iN_s, iN_s]
  refine At.wk (L' := [(5, .int (Int32.ofNat (D + 1))), (6, .int (Int32.ofNat (i + 1))), (0, .ref a), (2, .int (Int32.ofNat t)), (3, .null), (4, .null)]) (List.forall_mem_cons.mpr ⟨List.mem_of_getElem? (i := 1) rfl, (List.forall_mem_cons.mpr ⟨List.mem_of_getElem? (i := 0) rfl, (List.forall_mem_cons.mpr ⟨List.mem_of_getElem? (i := 4) rfl, (List.forall_mem_cons.mpr ⟨List.mem_of_getElem? (i := 5) rfl, (List.forall_mem_cons.mpr ⟨List.mem_of_getElem? (i := 6) rfl, (List.forall_mem_cons.mpr ⟨List.mem_of_getElem? (i := 7) rfl, (fun _ h => (List.not_mem_nil h).elim)⟩)⟩)⟩)⟩)⟩)⟩) (show ([6, 5, 8, 7, 0, 2, 3, 4] : List Nat).Nodup by decide) ?_
  have hK9 := hK
  rw [List.map_set] at hK9
  exact hK9
theorem res_lab1 {S : List Int32} {hp : List XC} {nc ns : Nat} {Q : XO → Prop} {a oa aa pa sa wa n i t D : Nat} {ws : Value} {es : List Value} {gs vs : List Int32} (ho : hp[a]? = some (.inr (5, [.ref oa, .ref aa, .ref pa, .ref sa, .ref wa, ws, .int (Int32.ofNat n)]))) (hoa : hp[oa]? = some (.inl (27, es))) (haa : hp[aa]? = some (.inl (14, gs.map Value.int))) (hsa : hp[sa]? = some (.inl (16, vs.map Value.int))) (hes : es[i]? = some (.retAddr 29)) (hi : i < n) (hn : n ≤ 1000) (hgl : gs.length ≤ 1000) (hvl9 : vs.length ≤ 1000) (hD : D + 1 < vs.length + 1) {o1 c : Nat} {e : En} (hx : hp[o1]? = some (.inr (4, [.ref e.2.2.2.2.2, .int e.2.1, .int e.2.2.1, .int (bI e.2.2.2.1), .ref c]))) (hK : At S 4 143 10 [(5, .int (Int32.ofNat (D + 1))), (6, .int (Int32.ofNat (i + 1))), (0, .ref a), (2, .int (Int32.ofNat t)), (3, .ref o1), (4, .null)] [] (hp.set sa (.inl (16, (vs.set D e.2.2.1).map Value.int))) nc ns Q) : At S 4 143 35 [(5, .int (Int32.ofNat D)), (6, .int (Int32.ofNat i)), (0, .ref a), (2, .int (Int32.ofNat t)), (3, .ref o1), (4, .null)] [] hp nc ns Q := by
  have hls := (List.getElem?_eq_some_iff.mp hes).1
  refine At.go (q := xm143) rfl 1 (pc' := 36) (L' := [(5, .int (Int32.ofNat D)), (6, .int (Int32.ofNat i)), (0, .ref a), (2, .int (Int32.ofNat t)), (3, .ref o1), (4, .null)]) (st' := [.ref a]) rfl ?_
  refine At.gf rfl (by decide) ho rfl ?_
  refine At.go (q := xm143) rfl 1 (pc' := 41) (L' := [(5, .int (Int32.ofNat D)), (6, .int (Int32.ofNat i)), (0, .ref a), (2, .int (Int32.ofNat t)), (3, .ref o1), (4, .null)]) (st' := [.int (Int32.ofNat i), .ref oa]) rfl ?_
  refine At.ql rfl hoa (by decide) rfl (iN_nn (by omega)) (by rw [iN_tn (by omega)]; exact hes) rfl ?_
  refine At.go (q := xm143) rfl 2 (pc' := 46) (L' := [(7, .retAddr 29), (5, .int (Int32.ofNat D)), (6, .int (Int32.ofNat i)), (0, .ref a), (2, .int (Int32.ofNat t)), (3, .ref o1), (4, .null)]) (st' := [.retAddr 29]) rfl ?_
  refine At.gk rfl (by decide) rfl rfl ?_
  refine At.go (q := xm143) rfl 6 (pc' := 77) (L' := [(8, .int 0), (7, .retAddr 29), (5, .int (Int32.ofNat D)), (6, .int (Int32.ofNat i)), (0, .ref a), (2, .int (Int32.ofNat t)), (3, .ref o1), (4, .null)]) (st' := [.int 0, .int (Int32.ofNat D)]) rfl ?_
  refine At.ic2 (tgt := 93) rfl rfl (fun h => absurd (of_decide_eq_true h) (fun h => absurd ((iN_lt (a := D) (b := 0) (by omega) (by omega)).mp h) (by omega))) (fun _ => ?_)
  refine At.go (q := xm143) rfl 4 (pc' := 86) (L' := [(8, .int 0), (7, .retAddr 29), (5, .int (Int32.ofNat D)), (6, .int (Int32.ofNat i)), (0, .ref a), (2, .int (Int32.ofNat t)), (3, .ref o1), (4, .null)]) (st' := [.ref a, .int ((Int32.ofNat D) - 0)]) rfl ?_
  refine At.gf rfl (by decide) ho rfl ?_
  refine At.ln rfl hsa ?_
  rw [iN_0s]
  refine At.ic2 (tgt := 96) rfl rfl (fun _ => ?_) (fun h => absurd (decide_eq_true ((iN_lt (a := D) (b := vs.length) (by omega) (by omega)).mpr (by omega))) (by rw [List.length_map] at h; rw [show decide (Int32.ofNat D < Int32.ofNat vs.length) = false from h]; decide))
  refine At.go (q := xm143) rfl 3 (pc' := 101) (L' := [(8, .int 0), (7, .retAddr 29), (5, .int (Int32.ofNat D)), (6, .int (Int32.ofNat i)), (0, .ref a), (2, .int (Int32.ofNat t)), (3, .ref o1), (4, .null)]) (st' := [.int ((Int32.ofNat D) - 0)]) rfl ?_
  rw [iN_0s]
  refine At.go (q := xm143) rfl 3 (pc' := 108) (L' := [(5, .int (Int32.ofNat D)), (8, .int 0), (7, .retAddr 29), (6, .int (Int32.ofNat i)), (0, .ref a), (2, .int (Int32.ofNat t)), (3, .ref o1), (4, .null)]) (st' := [.retAddr 2, .retAddr 29]) rfl ?_
  refine At.acn (tgt := 127) (b := false) rfl rfl rfl (fun _ => ?_) (fun h => absurd h (by decide))
  refine At.go (q := xm143) rfl 2 (pc' := 132) (L' := [(5, .int (Int32.ofNat D)), (8, .int 0), (7, .retAddr 29), (6, .int (Int32.ofNat i)), (0, .ref a), (2, .int (Int32.ofNat t)), (3, .ref o1), (4, .null)]) (st' := [.retAddr 29, .retAddr 29]) rfl ?_
  refine At.acn (tgt := 173) (b := true) rfl rfl rfl (fun h => absurd h (by decide)) (fun _ => ?_)
  refine At.go (q := xm143) rfl 3 (pc' := 140) (L' := [(5, .int (Int32.ofNat D)), (8, .int 0), (7, .retAddr 29), (6, .int (Int32.ofNat i)), (0, .ref a), (2, .int (Int32.ofNat t)), (3, .ref o1), (4, .null)]) (st' := [.ref a]) rfl ?_
  refine At.gf rfl (by decide) ho rfl ?_
  refine At.go (q := xm143) rfl 4 (pc' := 151) (L' := [(5, .int (Int32.ofNat D)), (8, .int 0), (7, .retAddr 29), (6, .int (Int32.ofNat i)), (0, .ref a), (2, .int (Int32.ofNat t)), (3, .ref o1), (4, .null)]) (st' := [.ref o1, .int (Int32.ofNat D), .ref sa]) rfl ?_
  refine At.gf rfl (by decide) hx rfl ?_
  refine At.go (q := xm143) rfl 1 (pc' := 169) (L' := [(5, .int (Int32.ofNat D)), (8, .int 0), (7, .retAddr 29), (6, .int (Int32.ofNat i)), (0, .ref a), (2, .int (Int32.ofNat t)), (3, .ref o1), (4, .null)]) (st' := [.int e.2.2.1, .int (Int32.ofNat D), .ref sa]) rfl ?_
  refine At.as (j := Int32.ofNat D) rfl hsa (by decide) rfl (iN_nn (by omega)) (by rw [iN_tn (by omega), List.length_map]; omega) ?_
  rw [iN_tn (by omega)]
  refine At.go (q := xm143) rfl 1 (pc' := 281) (L' := [(5, .int (Int32.ofNat D)), (8, .int 0), (7, .retAddr 29), (6, .int (Int32.ofNat i)), (0, .ref a), (2, .int (Int32.ofNat t)), (3, .ref o1), (4, .null)]) (st' := []) rfl ?_
  refine At.go (q := xm143) rfl 1 (pc' := 284) (L' := [(5, .int ((Int32.ofNat D) + 1)), (8, .int 0), (7, .retAddr 29), (6, .int (Int32.ofNat i)), (0, .ref a), (2, .int (Int32.ofNat t)), (3, .ref o1), (4, .null)]) (st' := []) rfl ?_
  refine At.go (q := xm143) rfl 1 (pc' := 287) (L' := [(6, .int ((Int32.ofNat i) + 1)), (5, .int ((Int32.ofNat D) + 1)), (8, .int 0), (7, .retAddr 29), (0, .ref a), (2, .int (Int32.ofNat t)), (3, .ref o1), (4, .null)]) (st' := []) rfl ?_
  refine At.go (q := xm143) rfl 1 (pc' := 10) (L' := [(6, .int ((Int32.ofNat i) + 1)), (5, .int ((Int32.ofNat D) + 1)), (8, .int 0), (7, .retAddr 29), (0, .ref a), (2, .int (Int32.ofNat t)), (3, .ref o1), (4, .null)]) (st' := []) rfl ?_
  rw [iN_s, iN_s]
  refine At.wk (L' := [(5, .int (Int32.ofNat (D + 1))), (6, .int (Int32.ofNat (i + 1))), (0, .ref a), (2, .int (Int32.ofNat t)), (3, .ref o1), (4, .null)]) (List.forall_mem_cons.mpr ⟨List.mem_of_getElem? (i := 1) rfl, (List.forall_mem_cons.mpr ⟨List.mem_of_getElem? (i := 0) rfl, (List.forall_mem_cons.mpr ⟨List.mem_of_getElem? (i := 4) rfl, (List.forall_mem_cons.mpr ⟨List.mem_of_getElem? (i := 5) rfl, (List.forall_mem_cons.mpr ⟨List.mem_of_getElem? (i := 6) rfl, (List.forall_mem_cons.mpr ⟨List.mem_of_getElem? (i := 7) rfl, (fun _ h => (List.not_mem_nil h).elim)⟩)⟩)⟩)⟩)⟩)⟩) (show ([6, 5, 8, 7, 0, 2, 3, 4] : List Nat).Nodup by decide) ?_
  have hK9 := hK
  rw [List.map_set] at hK9
  exact hK9
theorem res_lab2 {S : List Int32} {hp : List XC} {nc ns : Nat} {Q : XO → Prop} {a oa aa pa sa wa n i t D : Nat} {ws : Value} {es : List Value} {gs vs : List Int32} (ho : hp[a]? = some (.inr (5, [.ref oa, .ref aa, .ref pa, .ref sa, .ref wa, ws, .int (Int32.ofNat n)]))) (hoa : hp[oa]? = some (.inl (27, es))) (haa : hp[aa]? = some (.inl (14, gs.map Value.int))) (hsa : hp[sa]? = some (.inl (16, vs.map Value.int))) (hes : es[i]? = some (.retAddr 29)) (hi : i < n) (hn : n ≤ 1000) (hgl : gs.length ≤ 1000) (hvl9 : vs.length ≤ 1000) (hD : D + 1 < vs.length + 1) {o1 c : Nat} {e : En} (hx : hp[o1]? = some (.inr (4, [.ref e.2.2.2.2.2, .int e.2.1, .int e.2.2.1, .int (bI e.2.2.2.1), .ref c]))) {o2 c2 : Nat} {f : En} (hw : hp[o2]? = some (.inr (4, [.ref f.2.2.2.2.2, .int f.2.1, .int f.2.2.1, .int (bI f.2.2.2.1), .ref c2]))) (hK : At S 4 143 10 [(5, .int (Int32.ofNat (D + 1))), (6, .int (Int32.ofNat (i + 1))), (0, .ref a), (2, .int (Int32.ofNat t)), (3, .ref o1), (4, .ref o2)] [] (hp.set sa (.inl (16, (vs.set D (joinE e.2.2.1 f.2.2.1)).map Value.int))) nc ns Q) : At S 4 143 35 [(5, .int (Int32.ofNat D)), (6, .int (Int32.ofNat i)), (0, .ref a), (2, .int (Int32.ofNat t)), (3, .ref o1), (4, .ref o2)] [] hp nc ns Q := by
  have hls := (List.getElem?_eq_some_iff.mp hes).1
  refine At.go (q := xm143) rfl 1 (pc' := 36) (L' := [(5, .int (Int32.ofNat D)), (6, .int (Int32.ofNat i)), (0, .ref a), (2, .int (Int32.ofNat t)), (3, .ref o1), (4, .ref o2)]) (st' := [.ref a]) rfl ?_
  refine At.gf rfl (by decide) ho rfl ?_
  refine At.go (q := xm143) rfl 1 (pc' := 41) (L' := [(5, .int (Int32.ofNat D)), (6, .int (Int32.ofNat i)), (0, .ref a), (2, .int (Int32.ofNat t)), (3, .ref o1), (4, .ref o2)]) (st' := [.int (Int32.ofNat i), .ref oa]) rfl ?_
  refine At.ql rfl hoa (by decide) rfl (iN_nn (by omega)) (by rw [iN_tn (by omega)]; exact hes) rfl ?_
  refine At.go (q := xm143) rfl 2 (pc' := 46) (L' := [(7, .retAddr 29), (5, .int (Int32.ofNat D)), (6, .int (Int32.ofNat i)), (0, .ref a), (2, .int (Int32.ofNat t)), (3, .ref o1), (4, .ref o2)]) (st' := [.retAddr 29]) rfl ?_
  refine At.gk rfl (by decide) rfl rfl ?_
  refine At.go (q := xm143) rfl 6 (pc' := 77) (L' := [(8, .int 0), (7, .retAddr 29), (5, .int (Int32.ofNat D)), (6, .int (Int32.ofNat i)), (0, .ref a), (2, .int (Int32.ofNat t)), (3, .ref o1), (4, .ref o2)]) (st' := [.int 0, .int (Int32.ofNat D)]) rfl ?_
  refine At.ic2 (tgt := 93) rfl rfl (fun h => absurd (of_decide_eq_true h) (fun h => absurd ((iN_lt (a := D) (b := 0) (by omega) (by omega)).mp h) (by omega))) (fun _ => ?_)
  refine At.go (q := xm143) rfl 4 (pc' := 86) (L' := [(8, .int 0), (7, .retAddr 29), (5, .int (Int32.ofNat D)), (6, .int (Int32.ofNat i)), (0, .ref a), (2, .int (Int32.ofNat t)), (3, .ref o1), (4, .ref o2)]) (st' := [.ref a, .int ((Int32.ofNat D) - 0)]) rfl ?_
  refine At.gf rfl (by decide) ho rfl ?_
  refine At.ln rfl hsa ?_
  rw [iN_0s]
  refine At.ic2 (tgt := 96) rfl rfl (fun _ => ?_) (fun h => absurd (decide_eq_true ((iN_lt (a := D) (b := vs.length) (by omega) (by omega)).mpr (by omega))) (by rw [List.length_map] at h; rw [show decide (Int32.ofNat D < Int32.ofNat vs.length) = false from h]; decide))
  refine At.go (q := xm143) rfl 3 (pc' := 101) (L' := [(8, .int 0), (7, .retAddr 29), (5, .int (Int32.ofNat D)), (6, .int (Int32.ofNat i)), (0, .ref a), (2, .int (Int32.ofNat t)), (3, .ref o1), (4, .ref o2)]) (st' := [.int ((Int32.ofNat D) - 0)]) rfl ?_
  rw [iN_0s]
  refine At.go (q := xm143) rfl 3 (pc' := 108) (L' := [(5, .int (Int32.ofNat D)), (8, .int 0), (7, .retAddr 29), (6, .int (Int32.ofNat i)), (0, .ref a), (2, .int (Int32.ofNat t)), (3, .ref o1), (4, .ref o2)]) (st' := [.retAddr 2, .retAddr 29]) rfl ?_
  refine At.acn (tgt := 127) (b := false) rfl rfl rfl (fun _ => ?_) (fun h => absurd h (by decide))
  refine At.go (q := xm143) rfl 2 (pc' := 132) (L' := [(5, .int (Int32.ofNat D)), (8, .int 0), (7, .retAddr 29), (6, .int (Int32.ofNat i)), (0, .ref a), (2, .int (Int32.ofNat t)), (3, .ref o1), (4, .ref o2)]) (st' := [.retAddr 29, .retAddr 29]) rfl ?_
  refine At.acn (tgt := 173) (b := true) rfl rfl rfl (fun h => absurd h (by decide)) (fun _ => ?_)
  refine At.go (q := xm143) rfl 3 (pc' := 140) (L' := [(5, .int (Int32.ofNat D)), (8, .int 0), (7, .retAddr 29), (6, .int (Int32.ofNat i)), (0, .ref a), (2, .int (Int32.ofNat t)), (3, .ref o1), (4, .ref o2)]) (st' := [.ref a]) rfl ?_
  refine At.gf rfl (by decide) ho rfl ?_
  refine At.go (q := xm143) rfl 4 (pc' := 158) (L' := [(5, .int (Int32.ofNat D)), (8, .int 0), (7, .retAddr 29), (6, .int (Int32.ofNat i)), (0, .ref a), (2, .int (Int32.ofNat t)), (3, .ref o1), (4, .ref o2)]) (st' := [.ref o1, .int (Int32.ofNat D), .ref sa]) rfl ?_
  refine At.gf rfl (by decide) hx rfl ?_
  refine At.go (q := xm143) rfl 1 (pc' := 163) (L' := [(5, .int (Int32.ofNat D)), (8, .int 0), (7, .retAddr 29), (6, .int (Int32.ofNat i)), (0, .ref a), (2, .int (Int32.ofNat t)), (3, .ref o1), (4, .ref o2)]) (st' := [.ref o2, .int e.2.2.1, .int (Int32.ofNat D), .ref sa]) rfl ?_
  refine At.gf rfl (by decide) hw rfl ?_
  refine At.clp (as := [.int e.2.2.1, .int f.2.2.1]) (rest := [.int (Int32.ofNat D), .ref sa]) rfl (by decide) rfl (Nat.le_of_ble_eq_true rfl) (Nat.le_of_ble_eq_true rfl) rfl (Nat.le_of_ble_eq_true rfl) (m_join e.2.2.1 f.2.2.1) ?_
  refine At.as (j := Int32.ofNat D) rfl hsa (by decide) rfl (iN_nn (by omega)) (by rw [iN_tn (by omega), List.length_map]; omega) ?_
  rw [iN_tn (by omega)]
  refine At.go (q := xm143) rfl 1 (pc' := 281) (L' := [(5, .int (Int32.ofNat D)), (8, .int 0), (7, .retAddr 29), (6, .int (Int32.ofNat i)), (0, .ref a), (2, .int (Int32.ofNat t)), (3, .ref o1), (4, .ref o2)]) (st' := []) rfl ?_
  refine At.go (q := xm143) rfl 1 (pc' := 284) (L' := [(5, .int ((Int32.ofNat D) + 1)), (8, .int 0), (7, .retAddr 29), (6, .int (Int32.ofNat i)), (0, .ref a), (2, .int (Int32.ofNat t)), (3, .ref o1), (4, .ref o2)]) (st' := []) rfl ?_
  refine At.go (q := xm143) rfl 1 (pc' := 287) (L' := [(6, .int ((Int32.ofNat i) + 1)), (5, .int ((Int32.ofNat D) + 1)), (8, .int 0), (7, .retAddr 29), (0, .ref a), (2, .int (Int32.ofNat t)), (3, .ref o1), (4, .ref o2)]) (st' := []) rfl ?_
  refine At.go (q := xm143) rfl 1 (pc' := 10) (L' := [(6, .int ((Int32.ofNat i) + 1)), (5, .int ((Int32.ofNat D) + 1)), (8, .int 0), (7, .retAddr 29), (0, .ref a), (2, .int (Int32.ofNat t)), (3, .ref o1), (4, .ref o2)]) (st' := []) rfl ?_
  rw [iN_s, iN_s]
  refine At.wk (L' := [(5, .int (Int32.ofNat (D + 1))), (6, .int (Int32.ofNat (i + 1))), (0, .ref a), (2, .int (Int32.ofNat t)), (3, .ref o1), (4, .ref o2)]) (List.forall_mem_cons.mpr ⟨List.mem_of_getElem? (i := 1) rfl, (List.forall_mem_cons.mpr ⟨List.mem_of_getElem? (i := 0) rfl, (List.forall_mem_cons.mpr ⟨List.mem_of_getElem? (i := 4) rfl, (List.forall_mem_cons.mpr ⟨List.mem_of_getElem? (i := 5) rfl, (List.forall_mem_cons.mpr ⟨List.mem_of_getElem? (i := 6) rfl, (List.forall_mem_cons.mpr ⟨List.mem_of_getElem? (i := 7) rfl, (fun _ h => (List.not_mem_nil h).elim)⟩)⟩)⟩)⟩)⟩)⟩) (show ([6, 5, 8, 7, 0, 2, 3, 4] : List Nat).Nodup by decide) ?_
  have hK9 := hK
  rw [List.map_set] at hK9
  exact hK9
theorem res_numn {S : List Int32} {hp : List XC} {nc ns : Nat} {Q : XO → Prop} {a oa aa pa sa wa n i t D : Nat} {ws v1 : Value} {es : List Value} {gs vs : List Int32} (ho : hp[a]? = some (.inr (5, [.ref oa, .ref aa, .ref pa, .ref sa, .ref wa, ws, .int (Int32.ofNat n)]))) (hoa : hp[oa]? = some (.inl (27, es))) (haa : hp[aa]? = some (.inl (14, gs.map Value.int))) (hsa : hp[sa]? = some (.inl (16, vs.map Value.int))) (hes : es[i]? = some (.retAddr 2)) (hi : i < n) (hn : n ≤ 1000) (hgl : gs.length ≤ 1000) (hvl9 : vs.length ≤ 1000) (hD : D + 1 < vs.length + 1) {x : Int32} (hng : n ≤ gs.length) (hg : gs[i]? = some x) (hgl9 : gs.length ≤ 100000) (hK : At S 4 143 10 [(5, .int (Int32.ofNat (D + 1))), (6, .int (Int32.ofNat (i + 1))), (0, .ref a), (2, .int (Int32.ofNat t)), (3, v1), (4, .null)] [] (hp.set sa (.inl (16, (vs.set D x).map Value.int))) nc ns Q) : At S 4 143 35 [(5, .int (Int32.ofNat D)), (6, .int (Int32.ofNat i)), (0, .ref a), (2, .int (Int32.ofNat t)), (3, v1), (4, .null)] [] hp nc ns Q := by
  have hls := (List.getElem?_eq_some_iff.mp hes).1
  refine At.go (q := xm143) rfl 1 (pc' := 36) (L' := [(5, .int (Int32.ofNat D)), (6, .int (Int32.ofNat i)), (0, .ref a), (2, .int (Int32.ofNat t)), (3, v1), (4, .null)]) (st' := [.ref a]) rfl ?_
  refine At.gf rfl (by decide) ho rfl ?_
  refine At.go (q := xm143) rfl 1 (pc' := 41) (L' := [(5, .int (Int32.ofNat D)), (6, .int (Int32.ofNat i)), (0, .ref a), (2, .int (Int32.ofNat t)), (3, v1), (4, .null)]) (st' := [.int (Int32.ofNat i), .ref oa]) rfl ?_
  refine At.ql rfl hoa (by decide) rfl (iN_nn (by omega)) (by rw [iN_tn (by omega)]; exact hes) rfl ?_
  refine At.go (q := xm143) rfl 2 (pc' := 46) (L' := [(7, .retAddr 2), (5, .int (Int32.ofNat D)), (6, .int (Int32.ofNat i)), (0, .ref a), (2, .int (Int32.ofNat t)), (3, v1), (4, .null)]) (st' := [.retAddr 2]) rfl ?_
  refine At.gk rfl (by decide) rfl rfl ?_
  refine At.go (q := xm143) rfl 6 (pc' := 77) (L' := [(8, .int 0), (7, .retAddr 2), (5, .int (Int32.ofNat D)), (6, .int (Int32.ofNat i)), (0, .ref a), (2, .int (Int32.ofNat t)), (3, v1), (4, .null)]) (st' := [.int 0, .int (Int32.ofNat D)]) rfl ?_
  refine At.ic2 (tgt := 93) rfl rfl (fun h => absurd (of_decide_eq_true h) (fun h => absurd ((iN_lt (a := D) (b := 0) (by omega) (by omega)).mp h) (by omega))) (fun _ => ?_)
  refine At.go (q := xm143) rfl 4 (pc' := 86) (L' := [(8, .int 0), (7, .retAddr 2), (5, .int (Int32.ofNat D)), (6, .int (Int32.ofNat i)), (0, .ref a), (2, .int (Int32.ofNat t)), (3, v1), (4, .null)]) (st' := [.ref a, .int ((Int32.ofNat D) - 0)]) rfl ?_
  refine At.gf rfl (by decide) ho rfl ?_
  refine At.ln rfl hsa ?_
  rw [iN_0s]
  refine At.ic2 (tgt := 96) rfl rfl (fun _ => ?_) (fun h => absurd (decide_eq_true ((iN_lt (a := D) (b := vs.length) (by omega) (by omega)).mpr (by omega))) (by rw [List.length_map] at h; rw [show decide (Int32.ofNat D < Int32.ofNat vs.length) = false from h]; decide))
  refine At.go (q := xm143) rfl 3 (pc' := 101) (L' := [(8, .int 0), (7, .retAddr 2), (5, .int (Int32.ofNat D)), (6, .int (Int32.ofNat i)), (0, .ref a), (2, .int (Int32.ofNat t)), (3, v1), (4, .null)]) (st' := [.int ((Int32.ofNat D) - 0)]) rfl ?_
  rw [iN_0s]
  refine At.go (q := xm143) rfl 3 (pc' := 108) (L' := [(5, .int (Int32.ofNat D)), (8, .int 0), (7, .retAddr 2), (6, .int (Int32.ofNat i)), (0, .ref a), (2, .int (Int32.ofNat t)), (3, v1), (4, .null)]) (st' := [.retAddr 2, .retAddr 2]) rfl ?_
  refine At.acn (tgt := 127) (b := true) rfl rfl rfl (fun h => absurd h (by decide)) (fun _ => ?_)
  refine At.go (q := xm143) rfl 1 (pc' := 112) (L' := [(5, .int (Int32.ofNat D)), (8, .int 0), (7, .retAddr 2), (6, .int (Int32.ofNat i)), (0, .ref a), (2, .int (Int32.ofNat t)), (3, v1), (4, .null)]) (st' := [.ref a]) rfl ?_
  refine At.gf rfl (by decide) ho rfl ?_
  refine At.go (q := xm143) rfl 3 (pc' := 120) (L' := [(5, .int (Int32.ofNat D)), (8, .int 0), (7, .retAddr 2), (6, .int (Int32.ofNat i)), (0, .ref a), (2, .int (Int32.ofNat t)), (3, v1), (4, .null)]) (st' := [.int (Int32.ofNat i), .ref a, .int (Int32.ofNat D), .ref sa]) rfl ?_
  refine At.clp (as := [.ref a, .int (Int32.ofNat i)]) (rest := [.int (Int32.ofNat D), .ref sa]) rfl (by decide) rfl (Nat.le_of_ble_eq_true rfl) (Nat.le_of_ble_eq_true rfl) (xrck_o (by decide) (by decide) ho (by decide)) (Nat.le_of_ble_eq_true rfl) (m_farg ho hi haa hgl9 hng hg) ?_
  refine At.as (j := Int32.ofNat D) rfl hsa (by decide) rfl (iN_nn (by omega)) (by rw [iN_tn (by omega), List.length_map]; omega) ?_
  rw [iN_tn (by omega)]
  refine At.go (q := xm143) rfl 1 (pc' := 281) (L' := [(5, .int (Int32.ofNat D)), (8, .int 0), (7, .retAddr 2), (6, .int (Int32.ofNat i)), (0, .ref a), (2, .int (Int32.ofNat t)), (3, v1), (4, .null)]) (st' := []) rfl ?_
  refine At.go (q := xm143) rfl 1 (pc' := 284) (L' := [(5, .int ((Int32.ofNat D) + 1)), (8, .int 0), (7, .retAddr 2), (6, .int (Int32.ofNat i)), (0, .ref a), (2, .int (Int32.ofNat t)), (3, v1), (4, .null)]) (st' := []) rfl ?_
  refine At.go (q := xm143) rfl 1 (pc' := 287) (L' := [(6, .int ((Int32.ofNat i) + 1)), (5, .int ((Int32.ofNat D) + 1)), (8, .int 0), (7, .retAddr 2), (0, .ref a), (2, .int (Int32.ofNat t)), (3, v1), (4, .null)]) (st' := []) rfl ?_
  refine At.go (q := xm143) rfl 1 (pc' := 10) (L' := [(6, .int ((Int32.ofNat i) + 1)), (5, .int ((Int32.ofNat D) + 1)), (8, .int 0), (7, .retAddr 2), (0, .ref a), (2, .int (Int32.ofNat t)), (3, v1), (4, .null)]) (st' := []) rfl ?_
  rw [iN_s, iN_s]
  refine At.wk (L' := [(5, .int (Int32.ofNat (D + 1))), (6, .int (Int32.ofNat (i + 1))), (0, .ref a), (2, .int (Int32.ofNat t)), (3, v1), (4, .null)]) (List.forall_mem_cons.mpr ⟨List.mem_of_getElem? (i := 1) rfl, (List.forall_mem_cons.mpr ⟨List.mem_of_getElem? (i := 0) rfl, (List.forall_mem_cons.mpr ⟨List.mem_of_getElem? (i := 4) rfl, (List.forall_mem_cons.mpr ⟨List.mem_of_getElem? (i := 5) rfl, (List.forall_mem_cons.mpr ⟨List.mem_of_getElem? (i := 6) rfl, (List.forall_mem_cons.mpr ⟨List.mem_of_getElem? (i := 7) rfl, (fun _ h => (List.not_mem_nil h).elim)⟩)⟩)⟩)⟩)⟩)⟩) (show ([6, 5, 8, 7, 0, 2, 3, 4] : List Nat).Nodup by decide) ?_
  have hK9 := hK
  rw [List.map_set] at hK9
  exact hK9
theorem res_nonen {S : List Int32} {hp : List XC} {nc ns : Nat} {Q : XO → Prop} {a oa aa pa sa wa n i t D : Nat} {ws v1 : Value} {es : List Value} {gs vs : List Int32} (ho : hp[a]? = some (.inr (5, [.ref oa, .ref aa, .ref pa, .ref sa, .ref wa, ws, .int (Int32.ofNat n)]))) (hoa : hp[oa]? = some (.inl (27, es))) (haa : hp[aa]? = some (.inl (14, gs.map Value.int))) (hsa : hp[sa]? = some (.inl (16, vs.map Value.int))) (hes : es[i]? = some (.retAddr 34)) (hi : i < n) (hn : n ≤ 1000) (hgl : gs.length ≤ 1000) (hvl9 : vs.length ≤ 1000) (hD : D + 1 < vs.length + 1)  (hK : At S 4 143 10 [(5, .int (Int32.ofNat (D + 1))), (6, .int (Int32.ofNat (i + 1))), (0, .ref a), (2, .int (Int32.ofNat t)), (3, v1), (4, .null)] [] (hp.set sa (.inl (16, (vs.set D (-1000000000)).map Value.int))) nc ns Q) : At S 4 143 35 [(5, .int (Int32.ofNat D)), (6, .int (Int32.ofNat i)), (0, .ref a), (2, .int (Int32.ofNat t)), (3, v1), (4, .null)] [] hp nc ns Q := by
  have hls := (List.getElem?_eq_some_iff.mp hes).1
  refine At.go (q := xm143) rfl 1 (pc' := 36) (L' := [(5, .int (Int32.ofNat D)), (6, .int (Int32.ofNat i)), (0, .ref a), (2, .int (Int32.ofNat t)), (3, v1), (4, .null)]) (st' := [.ref a]) rfl ?_
  refine At.gf rfl (by decide) ho rfl ?_
  refine At.go (q := xm143) rfl 1 (pc' := 41) (L' := [(5, .int (Int32.ofNat D)), (6, .int (Int32.ofNat i)), (0, .ref a), (2, .int (Int32.ofNat t)), (3, v1), (4, .null)]) (st' := [.int (Int32.ofNat i), .ref oa]) rfl ?_
  refine At.ql rfl hoa (by decide) rfl (iN_nn (by omega)) (by rw [iN_tn (by omega)]; exact hes) rfl ?_
  refine At.go (q := xm143) rfl 2 (pc' := 46) (L' := [(7, .retAddr 34), (5, .int (Int32.ofNat D)), (6, .int (Int32.ofNat i)), (0, .ref a), (2, .int (Int32.ofNat t)), (3, v1), (4, .null)]) (st' := [.retAddr 34]) rfl ?_
  refine At.gk rfl (by decide) rfl rfl ?_
  refine At.go (q := xm143) rfl 6 (pc' := 77) (L' := [(8, .int 0), (7, .retAddr 34), (5, .int (Int32.ofNat D)), (6, .int (Int32.ofNat i)), (0, .ref a), (2, .int (Int32.ofNat t)), (3, v1), (4, .null)]) (st' := [.int 0, .int (Int32.ofNat D)]) rfl ?_
  refine At.ic2 (tgt := 93) rfl rfl (fun h => absurd (of_decide_eq_true h) (fun h => absurd ((iN_lt (a := D) (b := 0) (by omega) (by omega)).mp h) (by omega))) (fun _ => ?_)
  refine At.go (q := xm143) rfl 4 (pc' := 86) (L' := [(8, .int 0), (7, .retAddr 34), (5, .int (Int32.ofNat D)), (6, .int (Int32.ofNat i)), (0, .ref a), (2, .int (Int32.ofNat t)), (3, v1), (4, .null)]) (st' := [.ref a, .int ((Int32.ofNat D) - 0)]) rfl ?_
  refine At.gf rfl (by decide) ho rfl ?_
  refine At.ln rfl hsa ?_
  rw [iN_0s]
  refine At.ic2 (tgt := 96) rfl rfl (fun _ => ?_) (fun h => absurd (decide_eq_true ((iN_lt (a := D) (b := vs.length) (by omega) (by omega)).mpr (by omega))) (by rw [List.length_map] at h; rw [show decide (Int32.ofNat D < Int32.ofNat vs.length) = false from h]; decide))
  refine At.go (q := xm143) rfl 3 (pc' := 101) (L' := [(8, .int 0), (7, .retAddr 34), (5, .int (Int32.ofNat D)), (6, .int (Int32.ofNat i)), (0, .ref a), (2, .int (Int32.ofNat t)), (3, v1), (4, .null)]) (st' := [.int ((Int32.ofNat D) - 0)]) rfl ?_
  rw [iN_0s]
  refine At.go (q := xm143) rfl 3 (pc' := 108) (L' := [(5, .int (Int32.ofNat D)), (8, .int 0), (7, .retAddr 34), (6, .int (Int32.ofNat i)), (0, .ref a), (2, .int (Int32.ofNat t)), (3, v1), (4, .null)]) (st' := [.retAddr 2, .retAddr 34]) rfl ?_
  refine At.acn (tgt := 127) (b := false) rfl rfl rfl (fun _ => ?_) (fun h => absurd h (by decide))
  refine At.go (q := xm143) rfl 2 (pc' := 132) (L' := [(5, .int (Int32.ofNat D)), (8, .int 0), (7, .retAddr 34), (6, .int (Int32.ofNat i)), (0, .ref a), (2, .int (Int32.ofNat t)), (3, v1), (4, .null)]) (st' := [.retAddr 29, .retAddr 34]) rfl ?_
  refine At.acn (tgt := 173) (b := false) rfl rfl rfl (fun _ => ?_) (fun h => absurd h (by decide))
  refine At.go (q := xm143) rfl 3 (pc' := 179) (L' := [(5, .int (Int32.ofNat D)), (8, .int 0), (7, .retAddr 34), (6, .int (Int32.ofNat i)), (0, .ref a), (2, .int (Int32.ofNat t)), (3, v1), (4, .null)]) (st' := [.ref a]) rfl ?_
  refine At.gf rfl (by decide) ho rfl ?_
  refine At.go (q := xm143) rfl 3 (pc' := 189) (L' := [(5, .int (Int32.ofNat D)), (8, .int 0), (7, .retAddr 34), (6, .int (Int32.ofNat i)), (0, .ref a), (2, .int (Int32.ofNat t)), (3, v1), (4, .null)]) (st' := [.retAddr 3, .retAddr 34, .int (Int32.ofNat D), .ref sa]) rfl ?_
  refine At.acn (tgt := 207) (b := false) rfl rfl rfl (fun _ => ?_) (fun h => absurd h (by decide))
  refine At.go (q := xm143) rfl 1 (pc' := 209) (L' := [(5, .int (Int32.ofNat D)), (8, .int 0), (7, .retAddr 34), (6, .int (Int32.ofNat i)), (0, .ref a), (2, .int (Int32.ofNat t)), (3, v1), (4, .null)]) (st' := [.int (-1000000000), .int (Int32.ofNat D), .ref sa]) rfl ?_
  refine At.as (j := Int32.ofNat D) rfl hsa (by decide) rfl (iN_nn (by omega)) (by rw [iN_tn (by omega), List.length_map]; omega) ?_
  rw [iN_tn (by omega)]
  refine At.go (q := xm143) rfl 1 (pc' := 281) (L' := [(5, .int (Int32.ofNat D)), (8, .int 0), (7, .retAddr 34), (6, .int (Int32.ofNat i)), (0, .ref a), (2, .int (Int32.ofNat t)), (3, v1), (4, .null)]) (st' := []) rfl ?_
  refine At.go (q := xm143) rfl 1 (pc' := 284) (L' := [(5, .int ((Int32.ofNat D) + 1)), (8, .int 0), (7, .retAddr 34), (6, .int (Int32.ofNat i)), (0, .ref a), (2, .int (Int32.ofNat t)), (3, v1), (4, .null)]) (st' := []) rfl ?_
  refine At.go (q := xm143) rfl 1 (pc' := 287) (L' := [(6, .int ((Int32.ofNat i) + 1)), (5, .int ((Int32.ofNat D) + 1)), (8, .int 0), (7, .retAddr 34), (0, .ref a), (2, .int (Int32.ofNat t)), (3, v1), (4, .null)]) (st' := []) rfl ?_
  refine At.go (q := xm143) rfl 1 (pc' := 10) (L' := [(6, .int ((Int32.ofNat i) + 1)), (5, .int ((Int32.ofNat D) + 1)), (8, .int 0), (7, .retAddr 34), (0, .ref a), (2, .int (Int32.ofNat t)), (3, v1), (4, .null)]) (st' := []) rfl ?_
  rw [iN_s, iN_s]
  refine At.wk (L' := [(5, .int (Int32.ofNat (D + 1))), (6, .int (Int32.ofNat (i + 1))), (0, .ref a), (2, .int (Int32.ofNat t)), (3, v1), (4, .null)]) (List.forall_mem_cons.mpr ⟨List.mem_of_getElem? (i := 1) rfl, (List.forall_mem_cons.mpr ⟨List.mem_of_getElem? (i := 0) rfl, (List.forall_mem_cons.mpr ⟨List.mem_of_getElem? (i := 4) rfl, (List.forall_mem_cons.mpr ⟨List.mem_of_getElem? (i := 5) rfl, (List.forall_mem_cons.mpr ⟨List.mem_of_getElem? (i := 6) rfl, (List.forall_mem_cons.mpr ⟨List.mem_of_getElem? (i := 7) rfl, (fun _ h => (List.not_mem_nil h).elim)⟩)⟩)⟩)⟩)⟩)⟩) (show ([6, 5, 8, 7, 0, 2, 3, 4] : List Nat).Nodup by decide) ?_
  have hK9 := hK
  rw [List.map_set] at hK9
  exact hK9
theorem res_w4n {S : List Int32} {hp : List XC} {nc ns : Nat} {Q : XO → Prop} {a oa aa pa sa wa n i t D : Nat} {ws v1 : Value} {es : List Value} {gs vs : List Int32} (ho : hp[a]? = some (.inr (5, [.ref oa, .ref aa, .ref pa, .ref sa, .ref wa, ws, .int (Int32.ofNat n)]))) (hoa : hp[oa]? = some (.inl (27, es))) (haa : hp[aa]? = some (.inl (14, gs.map Value.int))) (hsa : hp[sa]? = some (.inl (16, vs.map Value.int))) (hes : es[i]? = some (.retAddr 4)) (hi : i < n) (hn : n ≤ 1000) (hgl : gs.length ≤ 1000) (hvl9 : vs.length ≤ 1000) (hD : D + 1 < vs.length + 1) {vl : Int32} (hvl : vs[D]? = some vl)  (hK : At S 4 143 10 [(5, .int (Int32.ofNat (D + 1))), (6, .int (Int32.ofNat (i + 1))), (0, .ref a), (2, .int (Int32.ofNat t)), (3, v1), (4, .null)] [] (hp.set sa (.inl (16, (vs.set D (chg4 vl)).map Value.int))) nc ns Q) : At S 4 143 35 [(5, .int (Int32.ofNat (D + 1))), (6, .int (Int32.ofNat i)), (0, .ref a), (2, .int (Int32.ofNat t)), (3, v1), (4, .null)] [] hp nc ns Q := by
  have hls := (List.getElem?_eq_some_iff.mp hes).1
  refine At.go (q := xm143) rfl 1 (pc' := 36) (L' := [(5, .int (Int32.ofNat (D + 1))), (6, .int (Int32.ofNat i)), (0, .ref a), (2, .int (Int32.ofNat t)), (3, v1), (4, .null)]) (st' := [.ref a]) rfl ?_
  refine At.gf rfl (by decide) ho rfl ?_
  refine At.go (q := xm143) rfl 1 (pc' := 41) (L' := [(5, .int (Int32.ofNat (D + 1))), (6, .int (Int32.ofNat i)), (0, .ref a), (2, .int (Int32.ofNat t)), (3, v1), (4, .null)]) (st' := [.int (Int32.ofNat i), .ref oa]) rfl ?_
  refine At.ql rfl hoa (by decide) rfl (iN_nn (by omega)) (by rw [iN_tn (by omega)]; exact hes) rfl ?_
  refine At.go (q := xm143) rfl 2 (pc' := 46) (L' := [(7, .retAddr 4), (5, .int (Int32.ofNat (D + 1))), (6, .int (Int32.ofNat i)), (0, .ref a), (2, .int (Int32.ofNat t)), (3, v1), (4, .null)]) (st' := [.retAddr 4]) rfl ?_
  refine At.gk rfl (by decide) rfl rfl ?_
  refine At.go (q := xm143) rfl 2 (pc' := 58) (L' := [(7, .retAddr 4), (5, .int (Int32.ofNat (D + 1))), (6, .int (Int32.ofNat i)), (0, .ref a), (2, .int (Int32.ofNat t)), (3, v1), (4, .null)]) (st' := [.retAddr 4]) rfl ?_
  refine At.gk rfl (by decide) rfl rfl ?_
  refine At.go (q := xm143) rfl 7 (pc' := 77) (L' := [(8, .int 1), (7, .retAddr 4), (5, .int (Int32.ofNat (D + 1))), (6, .int (Int32.ofNat i)), (0, .ref a), (2, .int (Int32.ofNat t)), (3, v1), (4, .null)]) (st' := [.int 1, .int (Int32.ofNat (D + 1))]) rfl ?_
  refine At.ic2 (tgt := 93) rfl rfl (fun h => absurd (of_decide_eq_true h) (fun h => absurd ((iN_lt (a := (D + 1)) (b := 1) (by omega) (by omega)).mp h) (by omega))) (fun _ => ?_)
  refine At.go (q := xm143) rfl 4 (pc' := 86) (L' := [(8, .int 1), (7, .retAddr 4), (5, .int (Int32.ofNat (D + 1))), (6, .int (Int32.ofNat i)), (0, .ref a), (2, .int (Int32.ofNat t)), (3, v1), (4, .null)]) (st' := [.ref a, .int ((Int32.ofNat (D + 1)) - 1)]) rfl ?_
  refine At.gf rfl (by decide) ho rfl ?_
  refine At.ln rfl hsa ?_
  rw [iN_m2]
  refine At.ic2 (tgt := 96) rfl rfl (fun _ => ?_) (fun h => absurd (decide_eq_true ((iN_lt (a := D) (b := vs.length) (by omega) (by omega)).mpr (by omega))) (by rw [List.length_map] at h; rw [show decide (Int32.ofNat D < Int32.ofNat vs.length) = false from h]; decide))
  refine At.go (q := xm143) rfl 3 (pc' := 101) (L' := [(8, .int 1), (7, .retAddr 4), (5, .int (Int32.ofNat (D + 1))), (6, .int (Int32.ofNat i)), (0, .ref a), (2, .int (Int32.ofNat t)), (3, v1), (4, .null)]) (st' := [.int ((Int32.ofNat (D + 1)) - 1)]) rfl ?_
  rw [iN_m2]
  refine At.go (q := xm143) rfl 3 (pc' := 108) (L' := [(5, .int (Int32.ofNat D)), (8, .int 1), (7, .retAddr 4), (6, .int (Int32.ofNat i)), (0, .ref a), (2, .int (Int32.ofNat t)), (3, v1), (4, .null)]) (st' := [.retAddr 2, .retAddr 4]) rfl ?_
  refine At.acn (tgt := 127) (b := false) rfl rfl rfl (fun _ => ?_) (fun h => absurd h (by decide))
  refine At.go (q := xm143) rfl 2 (pc' := 132) (L' := [(5, .int (Int32.ofNat D)), (8, .int 1), (7, .retAddr 4), (6, .int (Int32.ofNat i)), (0, .ref a), (2, .int (Int32.ofNat t)), (3, v1), (4, .null)]) (st' := [.retAddr 29, .retAddr 4]) rfl ?_
  refine At.acn (tgt := 173) (b := false) rfl rfl rfl (fun _ => ?_) (fun h => absurd h (by decide))
  refine At.go (q := xm143) rfl 6 (pc' := 220) (L' := [(5, .int (Int32.ofNat D)), (8, .int 1), (7, .retAddr 4), (6, .int (Int32.ofNat i)), (0, .ref a), (2, .int (Int32.ofNat t)), (3, v1), (4, .null)]) (st' := [.ref a]) rfl ?_
  refine At.gf rfl (by decide) ho rfl ?_
  refine At.go (q := xm143) rfl 3 (pc' := 228) (L' := [(5, .int (Int32.ofNat D)), (8, .int 1), (7, .retAddr 4), (6, .int (Int32.ofNat i)), (0, .ref a), (2, .int (Int32.ofNat t)), (3, v1), (4, .null)]) (st' := [.ref a, .retAddr 4, .int (Int32.ofNat D), .ref sa]) rfl ?_
  refine At.gf rfl (by decide) ho rfl ?_
  refine At.go (q := xm143) rfl 1 (pc' := 233) (L' := [(5, .int (Int32.ofNat D)), (8, .int 1), (7, .retAddr 4), (6, .int (Int32.ofNat i)), (0, .ref a), (2, .int (Int32.ofNat t)), (3, v1), (4, .null)]) (st' := [.int (Int32.ofNat D), .ref sa, .retAddr 4, .int (Int32.ofNat D), .ref sa]) rfl ?_
  refine At.al rfl hsa (by decide) rfl (iN_nn (by omega)) (by rw [iN_tn (by omega), List.getElem?_map, hvl]; rfl) ?_
  refine At.clp (as := [.retAddr 4, .int vl]) (rest := [.int (Int32.ofNat D), .ref sa]) rfl (by decide) rfl (Nat.le_of_ble_eq_true rfl) (Nat.le_of_ble_eq_true rfl) rfl (Nat.le_of_ble_eq_true rfl) (m_changed4 vl) ?_
  refine At.as (j := Int32.ofNat D) rfl hsa (by decide) rfl (iN_nn (by omega)) (by rw [iN_tn (by omega), List.length_map]; omega) ?_
  rw [iN_tn (by omega)]
  refine At.go (q := xm143) rfl 1 (pc' := 281) (L' := [(5, .int (Int32.ofNat D)), (8, .int 1), (7, .retAddr 4), (6, .int (Int32.ofNat i)), (0, .ref a), (2, .int (Int32.ofNat t)), (3, v1), (4, .null)]) (st' := []) rfl ?_
  refine At.go (q := xm143) rfl 1 (pc' := 284) (L' := [(5, .int ((Int32.ofNat D) + 1)), (8, .int 1), (7, .retAddr 4), (6, .int (Int32.ofNat i)), (0, .ref a), (2, .int (Int32.ofNat t)), (3, v1), (4, .null)]) (st' := []) rfl ?_
  refine At.go (q := xm143) rfl 1 (pc' := 287) (L' := [(6, .int ((Int32.ofNat i) + 1)), (5, .int ((Int32.ofNat D) + 1)), (8, .int 1), (7, .retAddr 4), (0, .ref a), (2, .int (Int32.ofNat t)), (3, v1), (4, .null)]) (st' := []) rfl ?_
  refine At.go (q := xm143) rfl 1 (pc' := 10) (L' := [(6, .int ((Int32.ofNat i) + 1)), (5, .int ((Int32.ofNat D) + 1)), (8, .int 1), (7, .retAddr 4), (0, .ref a), (2, .int (Int32.ofNat t)), (3, v1), (4, .null)]) (st' := []) rfl ?_
  rw [iN_s, iN_s]
  refine At.wk (L' := [(5, .int (Int32.ofNat (D + 1))), (6, .int (Int32.ofNat (i + 1))), (0, .ref a), (2, .int (Int32.ofNat t)), (3, v1), (4, .null)]) (List.forall_mem_cons.mpr ⟨List.mem_of_getElem? (i := 1) rfl, (List.forall_mem_cons.mpr ⟨List.mem_of_getElem? (i := 0) rfl, (List.forall_mem_cons.mpr ⟨List.mem_of_getElem? (i := 4) rfl, (List.forall_mem_cons.mpr ⟨List.mem_of_getElem? (i := 5) rfl, (List.forall_mem_cons.mpr ⟨List.mem_of_getElem? (i := 6) rfl, (List.forall_mem_cons.mpr ⟨List.mem_of_getElem? (i := 7) rfl, (fun _ h => (List.not_mem_nil h).elim)⟩)⟩)⟩)⟩)⟩)⟩) (show ([6, 5, 8, 7, 0, 2, 3, 4] : List Nat).Nodup by decide) ?_
  have hK9 := hK
  rw [List.map_set] at hK9
  exact hK9
theorem res_w35n {S : List Int32} {hp : List XC} {nc ns : Nat} {Q : XO → Prop} {a oa aa pa sa wa n i t D : Nat} {ws v1 : Value} {es : List Value} {gs vs : List Int32} (ho : hp[a]? = some (.inr (5, [.ref oa, .ref aa, .ref pa, .ref sa, .ref wa, ws, .int (Int32.ofNat n)]))) (hoa : hp[oa]? = some (.inl (27, es))) (haa : hp[aa]? = some (.inl (14, gs.map Value.int))) (hsa : hp[sa]? = some (.inl (16, vs.map Value.int))) (hes : es[i]? = some (.retAddr 35)) (hi : i < n) (hn : n ≤ 1000) (hgl : gs.length ≤ 1000) (hvl9 : vs.length ≤ 1000) (hD : D + 1 < vs.length + 1) {vl : Int32} (hvl : vs[D]? = some vl)  (hK : At S 4 143 10 [(5, .int (Int32.ofNat (D + 1))), (6, .int (Int32.ofNat (i + 1))), (0, .ref a), (2, .int (Int32.ofNat t)), (3, v1), (4, .null)] [] (hp.set sa (.inl (16, (vs.set D (chg35 vl)).map Value.int))) nc ns Q) : At S 4 143 35 [(5, .int (Int32.ofNat (D + 1))), (6, .int (Int32.ofNat i)), (0, .ref a), (2, .int (Int32.ofNat t)), (3, v1), (4, .null)] [] hp nc ns Q := by
  have hls := (List.getElem?_eq_some_iff.mp hes).1
  refine At.go (q := xm143) rfl 1 (pc' := 36) (L' := [(5, .int (Int32.ofNat (D + 1))), (6, .int (Int32.ofNat i)), (0, .ref a), (2, .int (Int32.ofNat t)), (3, v1), (4, .null)]) (st' := [.ref a]) rfl ?_
  refine At.gf rfl (by decide) ho rfl ?_
  refine At.go (q := xm143) rfl 1 (pc' := 41) (L' := [(5, .int (Int32.ofNat (D + 1))), (6, .int (Int32.ofNat i)), (0, .ref a), (2, .int (Int32.ofNat t)), (3, v1), (4, .null)]) (st' := [.int (Int32.ofNat i), .ref oa]) rfl ?_
  refine At.ql rfl hoa (by decide) rfl (iN_nn (by omega)) (by rw [iN_tn (by omega)]; exact hes) rfl ?_
  refine At.go (q := xm143) rfl 2 (pc' := 46) (L' := [(7, .retAddr 35), (5, .int (Int32.ofNat (D + 1))), (6, .int (Int32.ofNat i)), (0, .ref a), (2, .int (Int32.ofNat t)), (3, v1), (4, .null)]) (st' := [.retAddr 35]) rfl ?_
  refine At.gk rfl (by decide) rfl rfl ?_
  refine At.go (q := xm143) rfl 2 (pc' := 58) (L' := [(7, .retAddr 35), (5, .int (Int32.ofNat (D + 1))), (6, .int (Int32.ofNat i)), (0, .ref a), (2, .int (Int32.ofNat t)), (3, v1), (4, .null)]) (st' := [.retAddr 35]) rfl ?_
  refine At.gk rfl (by decide) rfl rfl ?_
  refine At.go (q := xm143) rfl 7 (pc' := 77) (L' := [(8, .int 1), (7, .retAddr 35), (5, .int (Int32.ofNat (D + 1))), (6, .int (Int32.ofNat i)), (0, .ref a), (2, .int (Int32.ofNat t)), (3, v1), (4, .null)]) (st' := [.int 1, .int (Int32.ofNat (D + 1))]) rfl ?_
  refine At.ic2 (tgt := 93) rfl rfl (fun h => absurd (of_decide_eq_true h) (fun h => absurd ((iN_lt (a := (D + 1)) (b := 1) (by omega) (by omega)).mp h) (by omega))) (fun _ => ?_)
  refine At.go (q := xm143) rfl 4 (pc' := 86) (L' := [(8, .int 1), (7, .retAddr 35), (5, .int (Int32.ofNat (D + 1))), (6, .int (Int32.ofNat i)), (0, .ref a), (2, .int (Int32.ofNat t)), (3, v1), (4, .null)]) (st' := [.ref a, .int ((Int32.ofNat (D + 1)) - 1)]) rfl ?_
  refine At.gf rfl (by decide) ho rfl ?_
  refine At.ln rfl hsa ?_
  rw [iN_m2]
  refine At.ic2 (tgt := 96) rfl rfl (fun _ => ?_) (fun h => absurd (decide_eq_true ((iN_lt (a := D) (b := vs.length) (by omega) (by omega)).mpr (by omega))) (by rw [List.length_map] at h; rw [show decide (Int32.ofNat D < Int32.ofNat vs.length) = false from h]; decide))
  refine At.go (q := xm143) rfl 3 (pc' := 101) (L' := [(8, .int 1), (7, .retAddr 35), (5, .int (Int32.ofNat (D + 1))), (6, .int (Int32.ofNat i)), (0, .ref a), (2, .int (Int32.ofNat t)), (3, v1), (4, .null)]) (st' := [.int ((Int32.ofNat (D + 1)) - 1)]) rfl ?_
  rw [iN_m2]
  refine At.go (q := xm143) rfl 3 (pc' := 108) (L' := [(5, .int (Int32.ofNat D)), (8, .int 1), (7, .retAddr 35), (6, .int (Int32.ofNat i)), (0, .ref a), (2, .int (Int32.ofNat t)), (3, v1), (4, .null)]) (st' := [.retAddr 2, .retAddr 35]) rfl ?_
  refine At.acn (tgt := 127) (b := false) rfl rfl rfl (fun _ => ?_) (fun h => absurd h (by decide))
  refine At.go (q := xm143) rfl 2 (pc' := 132) (L' := [(5, .int (Int32.ofNat D)), (8, .int 1), (7, .retAddr 35), (6, .int (Int32.ofNat i)), (0, .ref a), (2, .int (Int32.ofNat t)), (3, v1), (4, .null)]) (st' := [.retAddr 29, .retAddr 35]) rfl ?_
  refine At.acn (tgt := 173) (b := false) rfl rfl rfl (fun _ => ?_) (fun h => absurd h (by decide))
  refine At.go (q := xm143) rfl 6 (pc' := 220) (L' := [(5, .int (Int32.ofNat D)), (8, .int 1), (7, .retAddr 35), (6, .int (Int32.ofNat i)), (0, .ref a), (2, .int (Int32.ofNat t)), (3, v1), (4, .null)]) (st' := [.ref a]) rfl ?_
  refine At.gf rfl (by decide) ho rfl ?_
  refine At.go (q := xm143) rfl 3 (pc' := 228) (L' := [(5, .int (Int32.ofNat D)), (8, .int 1), (7, .retAddr 35), (6, .int (Int32.ofNat i)), (0, .ref a), (2, .int (Int32.ofNat t)), (3, v1), (4, .null)]) (st' := [.ref a, .retAddr 35, .int (Int32.ofNat D), .ref sa]) rfl ?_
  refine At.gf rfl (by decide) ho rfl ?_
  refine At.go (q := xm143) rfl 1 (pc' := 233) (L' := [(5, .int (Int32.ofNat D)), (8, .int 1), (7, .retAddr 35), (6, .int (Int32.ofNat i)), (0, .ref a), (2, .int (Int32.ofNat t)), (3, v1), (4, .null)]) (st' := [.int (Int32.ofNat D), .ref sa, .retAddr 35, .int (Int32.ofNat D), .ref sa]) rfl ?_
  refine At.al rfl hsa (by decide) rfl (iN_nn (by omega)) (by rw [iN_tn (by omega), List.getElem?_map, hvl]; rfl) ?_
  refine At.clp (as := [.retAddr 35, .int vl]) (rest := [.int (Int32.ofNat D), .ref sa]) rfl (by decide) rfl (Nat.le_of_ble_eq_true rfl) (Nat.le_of_ble_eq_true rfl) rfl (Nat.le_of_ble_eq_true rfl) (m_changed35 vl) ?_
  refine At.as (j := Int32.ofNat D) rfl hsa (by decide) rfl (iN_nn (by omega)) (by rw [iN_tn (by omega), List.length_map]; omega) ?_
  rw [iN_tn (by omega)]
  refine At.go (q := xm143) rfl 1 (pc' := 281) (L' := [(5, .int (Int32.ofNat D)), (8, .int 1), (7, .retAddr 35), (6, .int (Int32.ofNat i)), (0, .ref a), (2, .int (Int32.ofNat t)), (3, v1), (4, .null)]) (st' := []) rfl ?_
  refine At.go (q := xm143) rfl 1 (pc' := 284) (L' := [(5, .int ((Int32.ofNat D) + 1)), (8, .int 1), (7, .retAddr 35), (6, .int (Int32.ofNat i)), (0, .ref a), (2, .int (Int32.ofNat t)), (3, v1), (4, .null)]) (st' := []) rfl ?_
  refine At.go (q := xm143) rfl 1 (pc' := 287) (L' := [(6, .int ((Int32.ofNat i) + 1)), (5, .int ((Int32.ofNat D) + 1)), (8, .int 1), (7, .retAddr 35), (0, .ref a), (2, .int (Int32.ofNat t)), (3, v1), (4, .null)]) (st' := []) rfl ?_
  refine At.go (q := xm143) rfl 1 (pc' := 10) (L' := [(6, .int ((Int32.ofNat i) + 1)), (5, .int ((Int32.ofNat D) + 1)), (8, .int 1), (7, .retAddr 35), (0, .ref a), (2, .int (Int32.ofNat t)), (3, v1), (4, .null)]) (st' := []) rfl ?_
  rw [iN_s, iN_s]
  refine At.wk (L' := [(5, .int (Int32.ofNat (D + 1))), (6, .int (Int32.ofNat (i + 1))), (0, .ref a), (2, .int (Int32.ofNat t)), (3, v1), (4, .null)]) (List.forall_mem_cons.mpr ⟨List.mem_of_getElem? (i := 1) rfl, (List.forall_mem_cons.mpr ⟨List.mem_of_getElem? (i := 0) rfl, (List.forall_mem_cons.mpr ⟨List.mem_of_getElem? (i := 4) rfl, (List.forall_mem_cons.mpr ⟨List.mem_of_getElem? (i := 5) rfl, (List.forall_mem_cons.mpr ⟨List.mem_of_getElem? (i := 6) rfl, (List.forall_mem_cons.mpr ⟨List.mem_of_getElem? (i := 7) rfl, (fun _ h => (List.not_mem_nil h).elim)⟩)⟩)⟩)⟩)⟩)⟩) (show ([6, 5, 8, 7, 0, 2, 3, 4] : List Nat).Nodup by decide) ?_
  have hK9 := hK
  rw [List.map_set] at hK9
  exact hK9
theorem res_w50n {S : List Int32} {hp : List XC} {nc ns : Nat} {Q : XO → Prop} {a oa aa pa sa wa n i t D : Nat} {ws v1 : Value} {es : List Value} {gs vs : List Int32} (ho : hp[a]? = some (.inr (5, [.ref oa, .ref aa, .ref pa, .ref sa, .ref wa, ws, .int (Int32.ofNat n)]))) (hoa : hp[oa]? = some (.inl (27, es))) (haa : hp[aa]? = some (.inl (14, gs.map Value.int))) (hsa : hp[sa]? = some (.inl (16, vs.map Value.int))) (hes : es[i]? = some (.retAddr 50)) (hi : i < n) (hn : n ≤ 1000) (hgl : gs.length ≤ 1000) (hvl9 : vs.length ≤ 1000) (hD : D + 1 < vs.length + 1) {vl : Int32} (hvl : vs[D]? = some vl)  (hK : At S 4 143 10 [(5, .int (Int32.ofNat (D + 1))), (6, .int (Int32.ofNat (i + 1))), (0, .ref a), (2, .int (Int32.ofNat t)), (3, v1), (4, .null)] [] (hp.set sa (.inl (16, (vs.set D (chg50 vl)).map Value.int))) nc ns Q) : At S 4 143 35 [(5, .int (Int32.ofNat (D + 1))), (6, .int (Int32.ofNat i)), (0, .ref a), (2, .int (Int32.ofNat t)), (3, v1), (4, .null)] [] hp nc ns Q := by
  have hls := (List.getElem?_eq_some_iff.mp hes).1
  refine At.go (q := xm143) rfl 1 (pc' := 36) (L' := [(5, .int (Int32.ofNat (D + 1))), (6, .int (Int32.ofNat i)), (0, .ref a), (2, .int (Int32.ofNat t)), (3, v1), (4, .null)]) (st' := [.ref a]) rfl ?_
  refine At.gf rfl (by decide) ho rfl ?_
  refine At.go (q := xm143) rfl 1 (pc' := 41) (L' := [(5, .int (Int32.ofNat (D + 1))), (6, .int (Int32.ofNat i)), (0, .ref a), (2, .int (Int32.ofNat t)), (3, v1), (4, .null)]) (st' := [.int (Int32.ofNat i), .ref oa]) rfl ?_
  refine At.ql rfl hoa (by decide) rfl (iN_nn (by omega)) (by rw [iN_tn (by omega)]; exact hes) rfl ?_
  refine At.go (q := xm143) rfl 2 (pc' := 46) (L' := [(7, .retAddr 50), (5, .int (Int32.ofNat (D + 1))), (6, .int (Int32.ofNat i)), (0, .ref a), (2, .int (Int32.ofNat t)), (3, v1), (4, .null)]) (st' := [.retAddr 50]) rfl ?_
  refine At.gk rfl (by decide) rfl rfl ?_
  refine At.go (q := xm143) rfl 2 (pc' := 58) (L' := [(7, .retAddr 50), (5, .int (Int32.ofNat (D + 1))), (6, .int (Int32.ofNat i)), (0, .ref a), (2, .int (Int32.ofNat t)), (3, v1), (4, .null)]) (st' := [.retAddr 50]) rfl ?_
  refine At.gk rfl (by decide) rfl rfl ?_
  refine At.go (q := xm143) rfl 7 (pc' := 77) (L' := [(8, .int 1), (7, .retAddr 50), (5, .int (Int32.ofNat (D + 1))), (6, .int (Int32.ofNat i)), (0, .ref a), (2, .int (Int32.ofNat t)), (3, v1), (4, .null)]) (st' := [.int 1, .int (Int32.ofNat (D + 1))]) rfl ?_
  refine At.ic2 (tgt := 93) rfl rfl (fun h => absurd (of_decide_eq_true h) (fun h => absurd ((iN_lt (a := (D + 1)) (b := 1) (by omega) (by omega)).mp h) (by omega))) (fun _ => ?_)
  refine At.go (q := xm143) rfl 4 (pc' := 86) (L' := [(8, .int 1), (7, .retAddr 50), (5, .int (Int32.ofNat (D + 1))), (6, .int (Int32.ofNat i)), (0, .ref a), (2, .int (Int32.ofNat t)), (3, v1), (4, .null)]) (st' := [.ref a, .int ((Int32.ofNat (D + 1)) - 1)]) rfl ?_
  refine At.gf rfl (by decide) ho rfl ?_
  refine At.ln rfl hsa ?_
  rw [iN_m2]
  refine At.ic2 (tgt := 96) rfl rfl (fun _ => ?_) (fun h => absurd (decide_eq_true ((iN_lt (a := D) (b := vs.length) (by omega) (by omega)).mpr (by omega))) (by rw [List.length_map] at h; rw [show decide (Int32.ofNat D < Int32.ofNat vs.length) = false from h]; decide))
  refine At.go (q := xm143) rfl 3 (pc' := 101) (L' := [(8, .int 1), (7, .retAddr 50), (5, .int (Int32.ofNat (D + 1))), (6, .int (Int32.ofNat i)), (0, .ref a), (2, .int (Int32.ofNat t)), (3, v1), (4, .null)]) (st' := [.int ((Int32.ofNat (D + 1)) - 1)]) rfl ?_
  rw [iN_m2]
  refine At.go (q := xm143) rfl 3 (pc' := 108) (L' := [(5, .int (Int32.ofNat D)), (8, .int 1), (7, .retAddr 50), (6, .int (Int32.ofNat i)), (0, .ref a), (2, .int (Int32.ofNat t)), (3, v1), (4, .null)]) (st' := [.retAddr 2, .retAddr 50]) rfl ?_
  refine At.acn (tgt := 127) (b := false) rfl rfl rfl (fun _ => ?_) (fun h => absurd h (by decide))
  refine At.go (q := xm143) rfl 2 (pc' := 132) (L' := [(5, .int (Int32.ofNat D)), (8, .int 1), (7, .retAddr 50), (6, .int (Int32.ofNat i)), (0, .ref a), (2, .int (Int32.ofNat t)), (3, v1), (4, .null)]) (st' := [.retAddr 29, .retAddr 50]) rfl ?_
  refine At.acn (tgt := 173) (b := false) rfl rfl rfl (fun _ => ?_) (fun h => absurd h (by decide))
  refine At.go (q := xm143) rfl 6 (pc' := 220) (L' := [(5, .int (Int32.ofNat D)), (8, .int 1), (7, .retAddr 50), (6, .int (Int32.ofNat i)), (0, .ref a), (2, .int (Int32.ofNat t)), (3, v1), (4, .null)]) (st' := [.ref a]) rfl ?_
  refine At.gf rfl (by decide) ho rfl ?_
  refine At.go (q := xm143) rfl 3 (pc' := 228) (L' := [(5, .int (Int32.ofNat D)), (8, .int 1), (7, .retAddr 50), (6, .int (Int32.ofNat i)), (0, .ref a), (2, .int (Int32.ofNat t)), (3, v1), (4, .null)]) (st' := [.ref a, .retAddr 50, .int (Int32.ofNat D), .ref sa]) rfl ?_
  refine At.gf rfl (by decide) ho rfl ?_
  refine At.go (q := xm143) rfl 1 (pc' := 233) (L' := [(5, .int (Int32.ofNat D)), (8, .int 1), (7, .retAddr 50), (6, .int (Int32.ofNat i)), (0, .ref a), (2, .int (Int32.ofNat t)), (3, v1), (4, .null)]) (st' := [.int (Int32.ofNat D), .ref sa, .retAddr 50, .int (Int32.ofNat D), .ref sa]) rfl ?_
  refine At.al rfl hsa (by decide) rfl (iN_nn (by omega)) (by rw [iN_tn (by omega), List.getElem?_map, hvl]; rfl) ?_
  refine At.clp (as := [.retAddr 50, .int vl]) (rest := [.int (Int32.ofNat D), .ref sa]) rfl (by decide) rfl (Nat.le_of_ble_eq_true rfl) (Nat.le_of_ble_eq_true rfl) rfl (Nat.le_of_ble_eq_true rfl) (m_changed50 vl) ?_
  refine At.as (j := Int32.ofNat D) rfl hsa (by decide) rfl (iN_nn (by omega)) (by rw [iN_tn (by omega), List.length_map]; omega) ?_
  rw [iN_tn (by omega)]
  refine At.go (q := xm143) rfl 1 (pc' := 281) (L' := [(5, .int (Int32.ofNat D)), (8, .int 1), (7, .retAddr 50), (6, .int (Int32.ofNat i)), (0, .ref a), (2, .int (Int32.ofNat t)), (3, v1), (4, .null)]) (st' := []) rfl ?_
  refine At.go (q := xm143) rfl 1 (pc' := 284) (L' := [(5, .int ((Int32.ofNat D) + 1)), (8, .int 1), (7, .retAddr 50), (6, .int (Int32.ofNat i)), (0, .ref a), (2, .int (Int32.ofNat t)), (3, v1), (4, .null)]) (st' := []) rfl ?_
  refine At.go (q := xm143) rfl 1 (pc' := 287) (L' := [(6, .int ((Int32.ofNat i) + 1)), (5, .int ((Int32.ofNat D) + 1)), (8, .int 1), (7, .retAddr 50), (0, .ref a), (2, .int (Int32.ofNat t)), (3, v1), (4, .null)]) (st' := []) rfl ?_
  refine At.go (q := xm143) rfl 1 (pc' := 10) (L' := [(6, .int ((Int32.ofNat i) + 1)), (5, .int ((Int32.ofNat D) + 1)), (8, .int 1), (7, .retAddr 50), (0, .ref a), (2, .int (Int32.ofNat t)), (3, v1), (4, .null)]) (st' := []) rfl ?_
  rw [iN_s, iN_s]
  refine At.wk (L' := [(5, .int (Int32.ofNat (D + 1))), (6, .int (Int32.ofNat (i + 1))), (0, .ref a), (2, .int (Int32.ofNat t)), (3, v1), (4, .null)]) (List.forall_mem_cons.mpr ⟨List.mem_of_getElem? (i := 1) rfl, (List.forall_mem_cons.mpr ⟨List.mem_of_getElem? (i := 0) rfl, (List.forall_mem_cons.mpr ⟨List.mem_of_getElem? (i := 4) rfl, (List.forall_mem_cons.mpr ⟨List.mem_of_getElem? (i := 5) rfl, (List.forall_mem_cons.mpr ⟨List.mem_of_getElem? (i := 6) rfl, (List.forall_mem_cons.mpr ⟨List.mem_of_getElem? (i := 7) rfl, (fun _ h => (List.not_mem_nil h).elim)⟩)⟩)⟩)⟩)⟩)⟩) (show ([6, 5, 8, 7, 0, 2, 3, 4] : List Nat).Nodup by decide) ?_
  have hK9 := hK
  rw [List.map_set] at hK9
  exact hK9
theorem res_w39n {S : List Int32} {hp : List XC} {nc ns : Nat} {Q : XO → Prop} {a oa aa pa sa wa n i t D : Nat} {ws v1 : Value} {es : List Value} {gs vs : List Int32} (ho : hp[a]? = some (.inr (5, [.ref oa, .ref aa, .ref pa, .ref sa, .ref wa, ws, .int (Int32.ofNat n)]))) (hoa : hp[oa]? = some (.inl (27, es))) (haa : hp[aa]? = some (.inl (14, gs.map Value.int))) (hsa : hp[sa]? = some (.inl (16, vs.map Value.int))) (hes : es[i]? = some (.retAddr 39)) (hi : i < n) (hn : n ≤ 1000) (hgl : gs.length ≤ 1000) (hvl9 : vs.length ≤ 1000) (hD : D + 2 < vs.length + 1) {vl vr : Int32} (hvl : vs[D]? = some vl) (hvr : vs[D + 1]? = some vr)  (hK : At S 4 143 10 [(5, .int (Int32.ofNat (D + 1))), (6, .int (Int32.ofNat (i + 1))), (0, .ref a), (2, .int (Int32.ofNat t)), (3, v1), (4, .null)] [] (hp.set sa (.inl (16, (vs.set D (cmb39 vl vr)).map Value.int))) nc ns Q) : At S 4 143 35 [(5, .int (Int32.ofNat (D + 2))), (6, .int (Int32.ofNat i)), (0, .ref a), (2, .int (Int32.ofNat t)), (3, v1), (4, .null)] [] hp nc ns Q := by
  have hls := (List.getElem?_eq_some_iff.mp hes).1
  refine At.go (q := xm143) rfl 1 (pc' := 36) (L' := [(5, .int (Int32.ofNat (D + 2))), (6, .int (Int32.ofNat i)), (0, .ref a), (2, .int (Int32.ofNat t)), (3, v1), (4, .null)]) (st' := [.ref a]) rfl ?_
  refine At.gf rfl (by decide) ho rfl ?_
  refine At.go (q := xm143) rfl 1 (pc' := 41) (L' := [(5, .int (Int32.ofNat (D + 2))), (6, .int (Int32.ofNat i)), (0, .ref a), (2, .int (Int32.ofNat t)), (3, v1), (4, .null)]) (st' := [.int (Int32.ofNat i), .ref oa]) rfl ?_
  refine At.ql rfl hoa (by decide) rfl (iN_nn (by omega)) (by rw [iN_tn (by omega)]; exact hes) rfl ?_
  refine At.go (q := xm143) rfl 2 (pc' := 46) (L' := [(7, .retAddr 39), (5, .int (Int32.ofNat (D + 2))), (6, .int (Int32.ofNat i)), (0, .ref a), (2, .int (Int32.ofNat t)), (3, v1), (4, .null)]) (st' := [.retAddr 39]) rfl ?_
  refine At.gk rfl (by decide) rfl rfl ?_
  refine At.go (q := xm143) rfl 2 (pc' := 58) (L' := [(7, .retAddr 39), (5, .int (Int32.ofNat (D + 2))), (6, .int (Int32.ofNat i)), (0, .ref a), (2, .int (Int32.ofNat t)), (3, v1), (4, .null)]) (st' := [.retAddr 39]) rfl ?_
  refine At.gk rfl (by decide) rfl rfl ?_
  refine At.go (q := xm143) rfl 6 (pc' := 77) (L' := [(8, .int 2), (7, .retAddr 39), (5, .int (Int32.ofNat (D + 2))), (6, .int (Int32.ofNat i)), (0, .ref a), (2, .int (Int32.ofNat t)), (3, v1), (4, .null)]) (st' := [.int 2, .int (Int32.ofNat (D + 2))]) rfl ?_
  refine At.ic2 (tgt := 93) rfl rfl (fun h => absurd (of_decide_eq_true h) (fun h => absurd ((iN_lt (a := (D + 2)) (b := 2) (by omega) (by omega)).mp h) (by omega))) (fun _ => ?_)
  refine At.go (q := xm143) rfl 4 (pc' := 86) (L' := [(8, .int 2), (7, .retAddr 39), (5, .int (Int32.ofNat (D + 2))), (6, .int (Int32.ofNat i)), (0, .ref a), (2, .int (Int32.ofNat t)), (3, v1), (4, .null)]) (st' := [.ref a, .int ((Int32.ofNat (D + 2)) - 2)]) rfl ?_
  refine At.gf rfl (by decide) ho rfl ?_
  refine At.ln rfl hsa ?_
  rw [iN_m3]
  refine At.ic2 (tgt := 96) rfl rfl (fun _ => ?_) (fun h => absurd (decide_eq_true ((iN_lt (a := D) (b := vs.length) (by omega) (by omega)).mpr (by omega))) (by rw [List.length_map] at h; rw [show decide (Int32.ofNat D < Int32.ofNat vs.length) = false from h]; decide))
  refine At.go (q := xm143) rfl 3 (pc' := 101) (L' := [(8, .int 2), (7, .retAddr 39), (5, .int (Int32.ofNat (D + 2))), (6, .int (Int32.ofNat i)), (0, .ref a), (2, .int (Int32.ofNat t)), (3, v1), (4, .null)]) (st' := [.int ((Int32.ofNat (D + 2)) - 2)]) rfl ?_
  rw [iN_m3]
  refine At.go (q := xm143) rfl 3 (pc' := 108) (L' := [(5, .int (Int32.ofNat D)), (8, .int 2), (7, .retAddr 39), (6, .int (Int32.ofNat i)), (0, .ref a), (2, .int (Int32.ofNat t)), (3, v1), (4, .null)]) (st' := [.retAddr 2, .retAddr 39]) rfl ?_
  refine At.acn (tgt := 127) (b := false) rfl rfl rfl (fun _ => ?_) (fun h => absurd h (by decide))
  refine At.go (q := xm143) rfl 2 (pc' := 132) (L' := [(5, .int (Int32.ofNat D)), (8, .int 2), (7, .retAddr 39), (6, .int (Int32.ofNat i)), (0, .ref a), (2, .int (Int32.ofNat t)), (3, v1), (4, .null)]) (st' := [.retAddr 29, .retAddr 39]) rfl ?_
  refine At.acn (tgt := 173) (b := false) rfl rfl rfl (fun _ => ?_) (fun h => absurd h (by decide))
  refine At.go (q := xm143) rfl 9 (pc' := 246) (L' := [(5, .int (Int32.ofNat D)), (8, .int 2), (7, .retAddr 39), (6, .int (Int32.ofNat i)), (0, .ref a), (2, .int (Int32.ofNat t)), (3, v1), (4, .null)]) (st' := [.ref a, .int ((Int32.ofNat D) + 1)]) rfl ?_
  refine At.gf rfl (by decide) ho rfl ?_
  refine At.ln rfl hsa ?_
  rw [iN_s]
  refine At.ic2 (tgt := 281) rfl rfl (fun h => absurd (of_decide_eq_true h) (fun h => absurd ((iN_le (a := vs.length) (b := D + 1) (by omega) (by omega)).mp (by rw [List.length_map] at h; exact h)) (by omega))) (fun _ => ?_)
  refine At.go (q := xm143) rfl 1 (pc' := 254) (L' := [(5, .int (Int32.ofNat D)), (8, .int 2), (7, .retAddr 39), (6, .int (Int32.ofNat i)), (0, .ref a), (2, .int (Int32.ofNat t)), (3, v1), (4, .null)]) (st' := [.ref a]) rfl ?_
  refine At.gf rfl (by decide) ho rfl ?_
  refine At.go (q := xm143) rfl 3 (pc' := 262) (L' := [(5, .int (Int32.ofNat D)), (8, .int 2), (7, .retAddr 39), (6, .int (Int32.ofNat i)), (0, .ref a), (2, .int (Int32.ofNat t)), (3, v1), (4, .null)]) (st' := [.ref a, .retAddr 39, .int (Int32.ofNat D), .ref sa]) rfl ?_
  refine At.gf rfl (by decide) ho rfl ?_
  refine At.go (q := xm143) rfl 1 (pc' := 267) (L' := [(5, .int (Int32.ofNat D)), (8, .int 2), (7, .retAddr 39), (6, .int (Int32.ofNat i)), (0, .ref a), (2, .int (Int32.ofNat t)), (3, v1), (4, .null)]) (st' := [.int (Int32.ofNat D), .ref sa, .retAddr 39, .int (Int32.ofNat D), .ref sa]) rfl ?_
  refine At.al rfl hsa (by decide) rfl (iN_nn (by omega)) (by rw [iN_tn (by omega), List.getElem?_map, hvl]; rfl) ?_
  refine At.go (q := xm143) rfl 1 (pc' := 269) (L' := [(5, .int (Int32.ofNat D)), (8, .int 2), (7, .retAddr 39), (6, .int (Int32.ofNat i)), (0, .ref a), (2, .int (Int32.ofNat t)), (3, v1), (4, .null)]) (st' := [.ref a, .int vl, .retAddr 39, .int (Int32.ofNat D), .ref sa]) rfl ?_
  refine At.gf rfl (by decide) ho rfl ?_
  refine At.go (q := xm143) rfl 3 (pc' := 276) (L' := [(5, .int (Int32.ofNat D)), (8, .int 2), (7, .retAddr 39), (6, .int (Int32.ofNat i)), (0, .ref a), (2, .int (Int32.ofNat t)), (3, v1), (4, .null)]) (st' := [.int ((Int32.ofNat D) + 1), .ref sa, .int vl, .retAddr 39, .int (Int32.ofNat D), .ref sa]) rfl ?_
  refine At.al rfl hsa (by decide) rfl (by rw [iN_s]; exact iN_nn (by omega)) (by rw [iN_s, iN_tn (by omega), List.getElem?_map, hvr]; rfl) ?_
  refine At.clp (as := [.retAddr 39, .int vl, .int vr]) (rest := [.int (Int32.ofNat D), .ref sa]) rfl (by decide) rfl (Nat.le_of_ble_eq_true rfl) (Nat.le_of_ble_eq_true rfl) rfl (Nat.le_of_ble_eq_true rfl) (m_combined39 vl vr) ?_
  refine At.as (j := Int32.ofNat D) rfl hsa (by decide) rfl (iN_nn (by omega)) (by rw [iN_tn (by omega), List.length_map]; omega) ?_
  rw [iN_tn (by omega)]
  refine At.go (q := xm143) rfl 1 (pc' := 284) (L' := [(5, .int ((Int32.ofNat D) + 1)), (8, .int 2), (7, .retAddr 39), (6, .int (Int32.ofNat i)), (0, .ref a), (2, .int (Int32.ofNat t)), (3, v1), (4, .null)]) (st' := []) rfl ?_
  refine At.go (q := xm143) rfl 1 (pc' := 287) (L' := [(6, .int ((Int32.ofNat i) + 1)), (5, .int ((Int32.ofNat D) + 1)), (8, .int 2), (7, .retAddr 39), (0, .ref a), (2, .int (Int32.ofNat t)), (3, v1), (4, .null)]) (st' := []) rfl ?_
  refine At.go (q := xm143) rfl 1 (pc' := 10) (L' := [(6, .int ((Int32.ofNat i) + 1)), (5, .int ((Int32.ofNat D) + 1)), (8, .int 2), (7, .retAddr 39), (0, .ref a), (2, .int (Int32.ofNat t)), (3, v1), (4, .null)]) (st' := []) rfl ?_
  rw [iN_s, iN_s]
  refine At.wk (L' := [(5, .int (Int32.ofNat (D + 1))), (6, .int (Int32.ofNat (i + 1))), (0, .ref a), (2, .int (Int32.ofNat t)), (3, v1), (4, .null)]) (List.forall_mem_cons.mpr ⟨List.mem_of_getElem? (i := 1) rfl, (List.forall_mem_cons.mpr ⟨List.mem_of_getElem? (i := 0) rfl, (List.forall_mem_cons.mpr ⟨List.mem_of_getElem? (i := 4) rfl, (List.forall_mem_cons.mpr ⟨List.mem_of_getElem? (i := 5) rfl, (List.forall_mem_cons.mpr ⟨List.mem_of_getElem? (i := 6) rfl, (List.forall_mem_cons.mpr ⟨List.mem_of_getElem? (i := 7) rfl, (fun _ h => (List.not_mem_nil h).elim)⟩)⟩)⟩)⟩)⟩)⟩) (show ([6, 5, 8, 7, 0, 2, 3, 4] : List Nat).Nodup by decide) ?_
  have hK9 := hK
  rw [List.map_set] at hK9
  exact hK9
theorem res_w40n {S : List Int32} {hp : List XC} {nc ns : Nat} {Q : XO → Prop} {a oa aa pa sa wa n i t D : Nat} {ws v1 : Value} {es : List Value} {gs vs : List Int32} (ho : hp[a]? = some (.inr (5, [.ref oa, .ref aa, .ref pa, .ref sa, .ref wa, ws, .int (Int32.ofNat n)]))) (hoa : hp[oa]? = some (.inl (27, es))) (haa : hp[aa]? = some (.inl (14, gs.map Value.int))) (hsa : hp[sa]? = some (.inl (16, vs.map Value.int))) (hes : es[i]? = some (.retAddr 40)) (hi : i < n) (hn : n ≤ 1000) (hgl : gs.length ≤ 1000) (hvl9 : vs.length ≤ 1000) (hD : D + 2 < vs.length + 1) {vl vr : Int32} (hvl : vs[D]? = some vl) (hvr : vs[D + 1]? = some vr)  (hK : At S 4 143 10 [(5, .int (Int32.ofNat (D + 1))), (6, .int (Int32.ofNat (i + 1))), (0, .ref a), (2, .int (Int32.ofNat t)), (3, v1), (4, .null)] [] (hp.set sa (.inl (16, (vs.set D (cmb40 vl vr)).map Value.int))) nc ns Q) : At S 4 143 35 [(5, .int (Int32.ofNat (D + 2))), (6, .int (Int32.ofNat i)), (0, .ref a), (2, .int (Int32.ofNat t)), (3, v1), (4, .null)] [] hp nc ns Q := by
  have hls := (List.getElem?_eq_some_iff.mp hes).1
  refine At.go (q := xm143) rfl 1 (pc' := 36) (L' := [(5, .int (Int32.ofNat (D + 2))), (6, .int (Int32.ofNat i)), (0, .ref a), (2, .int (Int32.ofNat t)), (3, v1), (4, .null)]) (st' := [.ref a]) rfl ?_
  refine At.gf rfl (by decide) ho rfl ?_
  refine At.go (q := xm143) rfl 1 (pc' := 41) (L' := [(5, .int (Int32.ofNat (D + 2))), (6, .int (Int32.ofNat i)), (0, .ref a), (2, .int (Int32.ofNat t)), (3, v1), (4, .null)]) (st' := [.int (Int32.ofNat i), .ref oa]) rfl ?_
  refine At.ql rfl hoa (by decide) rfl (iN_nn (by omega)) (by rw [iN_tn (by omega)]; exact hes) rfl ?_
  refine At.go (q := xm143) rfl 2 (pc' := 46) (L' := [(7, .retAddr 40), (5, .int (Int32.ofNat (D + 2))), (6, .int (Int32.ofNat i)), (0, .ref a), (2, .int (Int32.ofNat t)), (3, v1), (4, .null)]) (st' := [.retAddr 40]) rfl ?_
  refine At.gk rfl (by decide) rfl rfl ?_
  refine At.go (q := xm143) rfl 2 (pc' := 58) (L' := [(7, .retAddr 40), (5, .int (Int32.ofNat (D + 2))), (6, .int (Int32.ofNat i)), (0, .ref a), (2, .int (Int32.ofNat t)), (3, v1), (4, .null)]) (st' := [.retAddr 40]) rfl ?_
  refine At.gk rfl (by decide) rfl rfl ?_
  refine At.go (q := xm143) rfl 6 (pc' := 77) (L' := [(8, .int 2), (7, .retAddr 40), (5, .int (Int32.ofNat (D + 2))), (6, .int (Int32.ofNat i)), (0, .ref a), (2, .int (Int32.ofNat t)), (3, v1), (4, .null)]) (st' := [.int 2, .int (Int32.ofNat (D + 2))]) rfl ?_
  refine At.ic2 (tgt := 93) rfl rfl (fun h => absurd (of_decide_eq_true h) (fun h => absurd ((iN_lt (a := (D + 2)) (b := 2) (by omega) (by omega)).mp h) (by omega))) (fun _ => ?_)
  refine At.go (q := xm143) rfl 4 (pc' := 86) (L' := [(8, .int 2), (7, .retAddr 40), (5, .int (Int32.ofNat (D + 2))), (6, .int (Int32.ofNat i)), (0, .ref a), (2, .int (Int32.ofNat t)), (3, v1), (4, .null)]) (st' := [.ref a, .int ((Int32.ofNat (D + 2)) - 2)]) rfl ?_
  refine At.gf rfl (by decide) ho rfl ?_
  refine At.ln rfl hsa ?_
  rw [iN_m3]
  refine At.ic2 (tgt := 96) rfl rfl (fun _ => ?_) (fun h => absurd (decide_eq_true ((iN_lt (a := D) (b := vs.length) (by omega) (by omega)).mpr (by omega))) (by rw [List.length_map] at h; rw [show decide (Int32.ofNat D < Int32.ofNat vs.length) = false from h]; decide))
  refine At.go (q := xm143) rfl 3 (pc' := 101) (L' := [(8, .int 2), (7, .retAddr 40), (5, .int (Int32.ofNat (D + 2))), (6, .int (Int32.ofNat i)), (0, .ref a), (2, .int (Int32.ofNat t)), (3, v1), (4, .null)]) (st' := [.int ((Int32.ofNat (D + 2)) - 2)]) rfl ?_
  rw [iN_m3]
  refine At.go (q := xm143) rfl 3 (pc' := 108) (L' := [(5, .int (Int32.ofNat D)), (8, .int 2), (7, .retAddr 40), (6, .int (Int32.ofNat i)), (0, .ref a), (2, .int (Int32.ofNat t)), (3, v1), (4, .null)]) (st' := [.retAddr 2, .retAddr 40]) rfl ?_
  refine At.acn (tgt := 127) (b := false) rfl rfl rfl (fun _ => ?_) (fun h => absurd h (by decide))
  refine At.go (q := xm143) rfl 2 (pc' := 132) (L' := [(5, .int (Int32.ofNat D)), (8, .int 2), (7, .retAddr 40), (6, .int (Int32.ofNat i)), (0, .ref a), (2, .int (Int32.ofNat t)), (3, v1), (4, .null)]) (st' := [.retAddr 29, .retAddr 40]) rfl ?_
  refine At.acn (tgt := 173) (b := false) rfl rfl rfl (fun _ => ?_) (fun h => absurd h (by decide))
  refine At.go (q := xm143) rfl 9 (pc' := 246) (L' := [(5, .int (Int32.ofNat D)), (8, .int 2), (7, .retAddr 40), (6, .int (Int32.ofNat i)), (0, .ref a), (2, .int (Int32.ofNat t)), (3, v1), (4, .null)]) (st' := [.ref a, .int ((Int32.ofNat D) + 1)]) rfl ?_
  refine At.gf rfl (by decide) ho rfl ?_
  refine At.ln rfl hsa ?_
  rw [iN_s]
  refine At.ic2 (tgt := 281) rfl rfl (fun h => absurd (of_decide_eq_true h) (fun h => absurd ((iN_le (a := vs.length) (b := D + 1) (by omega) (by omega)).mp (by rw [List.length_map] at h; exact h)) (by omega))) (fun _ => ?_)
  refine At.go (q := xm143) rfl 1 (pc' := 254) (L' := [(5, .int (Int32.ofNat D)), (8, .int 2), (7, .retAddr 40), (6, .int (Int32.ofNat i)), (0, .ref a), (2, .int (Int32.ofNat t)), (3, v1), (4, .null)]) (st' := [.ref a]) rfl ?_
  refine At.gf rfl (by decide) ho rfl ?_
  refine At.go (q := xm143) rfl 3 (pc' := 262) (L' := [(5, .int (Int32.ofNat D)), (8, .int 2), (7, .retAddr 40), (6, .int (Int32.ofNat i)), (0, .ref a), (2, .int (Int32.ofNat t)), (3, v1), (4, .null)]) (st' := [.ref a, .retAddr 40, .int (Int32.ofNat D), .ref sa]) rfl ?_
  refine At.gf rfl (by decide) ho rfl ?_
  refine At.go (q := xm143) rfl 1 (pc' := 267) (L' := [(5, .int (Int32.ofNat D)), (8, .int 2), (7, .retAddr 40), (6, .int (Int32.ofNat i)), (0, .ref a), (2, .int (Int32.ofNat t)), (3, v1), (4, .null)]) (st' := [.int (Int32.ofNat D), .ref sa, .retAddr 40, .int (Int32.ofNat D), .ref sa]) rfl ?_
  refine At.al rfl hsa (by decide) rfl (iN_nn (by omega)) (by rw [iN_tn (by omega), List.getElem?_map, hvl]; rfl) ?_
  refine At.go (q := xm143) rfl 1 (pc' := 269) (L' := [(5, .int (Int32.ofNat D)), (8, .int 2), (7, .retAddr 40), (6, .int (Int32.ofNat i)), (0, .ref a), (2, .int (Int32.ofNat t)), (3, v1), (4, .null)]) (st' := [.ref a, .int vl, .retAddr 40, .int (Int32.ofNat D), .ref sa]) rfl ?_
  refine At.gf rfl (by decide) ho rfl ?_
  refine At.go (q := xm143) rfl 3 (pc' := 276) (L' := [(5, .int (Int32.ofNat D)), (8, .int 2), (7, .retAddr 40), (6, .int (Int32.ofNat i)), (0, .ref a), (2, .int (Int32.ofNat t)), (3, v1), (4, .null)]) (st' := [.int ((Int32.ofNat D) + 1), .ref sa, .int vl, .retAddr 40, .int (Int32.ofNat D), .ref sa]) rfl ?_
  refine At.al rfl hsa (by decide) rfl (by rw [iN_s]; exact iN_nn (by omega)) (by rw [iN_s, iN_tn (by omega), List.getElem?_map, hvr]; rfl) ?_
  refine At.clp (as := [.retAddr 40, .int vl, .int vr]) (rest := [.int (Int32.ofNat D), .ref sa]) rfl (by decide) rfl (Nat.le_of_ble_eq_true rfl) (Nat.le_of_ble_eq_true rfl) rfl (Nat.le_of_ble_eq_true rfl) (m_combined40 vl vr) ?_
  refine At.as (j := Int32.ofNat D) rfl hsa (by decide) rfl (iN_nn (by omega)) (by rw [iN_tn (by omega), List.length_map]; omega) ?_
  rw [iN_tn (by omega)]
  refine At.go (q := xm143) rfl 1 (pc' := 284) (L' := [(5, .int ((Int32.ofNat D) + 1)), (8, .int 2), (7, .retAddr 40), (6, .int (Int32.ofNat i)), (0, .ref a), (2, .int (Int32.ofNat t)), (3, v1), (4, .null)]) (st' := []) rfl ?_
  refine At.go (q := xm143) rfl 1 (pc' := 287) (L' := [(6, .int ((Int32.ofNat i) + 1)), (5, .int ((Int32.ofNat D) + 1)), (8, .int 2), (7, .retAddr 40), (0, .ref a), (2, .int (Int32.ofNat t)), (3, v1), (4, .null)]) (st' := []) rfl ?_
  refine At.go (q := xm143) rfl 1 (pc' := 10) (L' := [(6, .int ((Int32.ofNat i) + 1)), (5, .int ((Int32.ofNat D) + 1)), (8, .int 2), (7, .retAddr 40), (0, .ref a), (2, .int (Int32.ofNat t)), (3, v1), (4, .null)]) (st' := []) rfl ?_
  rw [iN_s, iN_s]
  refine At.wk (L' := [(5, .int (Int32.ofNat (D + 1))), (6, .int (Int32.ofNat (i + 1))), (0, .ref a), (2, .int (Int32.ofNat t)), (3, v1), (4, .null)]) (List.forall_mem_cons.mpr ⟨List.mem_of_getElem? (i := 1) rfl, (List.forall_mem_cons.mpr ⟨List.mem_of_getElem? (i := 0) rfl, (List.forall_mem_cons.mpr ⟨List.mem_of_getElem? (i := 4) rfl, (List.forall_mem_cons.mpr ⟨List.mem_of_getElem? (i := 5) rfl, (List.forall_mem_cons.mpr ⟨List.mem_of_getElem? (i := 6) rfl, (List.forall_mem_cons.mpr ⟨List.mem_of_getElem? (i := 7) rfl, (fun _ h => (List.not_mem_nil h).elim)⟩)⟩)⟩)⟩)⟩)⟩) (show ([6, 5, 8, 7, 0, 2, 3, 4] : List Nat).Nodup by decide) ?_
  have hK9 := hK
  rw [List.map_set] at hK9
  exact hK9
theorem res_w41n {S : List Int32} {hp : List XC} {nc ns : Nat} {Q : XO → Prop} {a oa aa pa sa wa n i t D : Nat} {ws v1 : Value} {es : List Value} {gs vs : List Int32} (ho : hp[a]? = some (.inr (5, [.ref oa, .ref aa, .ref pa, .ref sa, .ref wa, ws, .int (Int32.ofNat n)]))) (hoa : hp[oa]? = some (.inl (27, es))) (haa : hp[aa]? = some (.inl (14, gs.map Value.int))) (hsa : hp[sa]? = some (.inl (16, vs.map Value.int))) (hes : es[i]? = some (.retAddr 41)) (hi : i < n) (hn : n ≤ 1000) (hgl : gs.length ≤ 1000) (hvl9 : vs.length ≤ 1000) (hD : D + 2 < vs.length + 1) {vl vr : Int32} (hvl : vs[D]? = some vl) (hvr : vs[D + 1]? = some vr)  (hK : At S 4 143 10 [(5, .int (Int32.ofNat (D + 1))), (6, .int (Int32.ofNat (i + 1))), (0, .ref a), (2, .int (Int32.ofNat t)), (3, v1), (4, .null)] [] (hp.set sa (.inl (16, (vs.set D (cmb41 vl vr)).map Value.int))) nc ns Q) : At S 4 143 35 [(5, .int (Int32.ofNat (D + 2))), (6, .int (Int32.ofNat i)), (0, .ref a), (2, .int (Int32.ofNat t)), (3, v1), (4, .null)] [] hp nc ns Q := by
  have hls := (List.getElem?_eq_some_iff.mp hes).1
  refine At.go (q := xm143) rfl 1 (pc' := 36) (L' := [(5, .int (Int32.ofNat (D + 2))), (6, .int (Int32.ofNat i)), (0, .ref a), (2, .int (Int32.ofNat t)), (3, v1), (4, .null)]) (st' := [.ref a]) rfl ?_
  refine At.gf rfl (by decide) ho rfl ?_
  refine At.go (q := xm143) rfl 1 (pc' := 41) (L' := [(5, .int (Int32.ofNat (D + 2))), (6, .int (Int32.ofNat i)), (0, .ref a), (2, .int (Int32.ofNat t)), (3, v1), (4, .null)]) (st' := [.int (Int32.ofNat i), .ref oa]) rfl ?_
  refine At.ql rfl hoa (by decide) rfl (iN_nn (by omega)) (by rw [iN_tn (by omega)]; exact hes) rfl ?_
  refine At.go (q := xm143) rfl 2 (pc' := 46) (L' := [(7, .retAddr 41), (5, .int (Int32.ofNat (D + 2))), (6, .int (Int32.ofNat i)), (0, .ref a), (2, .int (Int32.ofNat t)), (3, v1), (4, .null)]) (st' := [.retAddr 41]) rfl ?_
  refine At.gk rfl (by decide) rfl rfl ?_
  refine At.go (q := xm143) rfl 2 (pc' := 58) (L' := [(7, .retAddr 41), (5, .int (Int32.ofNat (D + 2))), (6, .int (Int32.ofNat i)), (0, .ref a), (2, .int (Int32.ofNat t)), (3, v1), (4, .null)]) (st' := [.retAddr 41]) rfl ?_
  refine At.gk rfl (by decide) rfl rfl ?_
  refine At.go (q := xm143) rfl 6 (pc' := 77) (L' := [(8, .int 2), (7, .retAddr 41), (5, .int (Int32.ofNat (D + 2))), (6, .int (Int32.ofNat i)), (0, .ref a), (2, .int (Int32.ofNat t)), (3, v1), (4, .null)]) (st' := [.int 2, .int (Int32.ofNat (D + 2))]) rfl ?_
  refine At.ic2 (tgt := 93) rfl rfl (fun h => absurd (of_decide_eq_true h) (fun h => absurd ((iN_lt (a := (D + 2)) (b := 2) (by omega) (by omega)).mp h) (by omega))) (fun _ => ?_)
  refine At.go (q := xm143) rfl 4 (pc' := 86) (L' := [(8, .int 2), (7, .retAddr 41), (5, .int (Int32.ofNat (D + 2))), (6, .int (Int32.ofNat i)), (0, .ref a), (2, .int (Int32.ofNat t)), (3, v1), (4, .null)]) (st' := [.ref a, .int ((Int32.ofNat (D + 2)) - 2)]) rfl ?_
  refine At.gf rfl (by decide) ho rfl ?_
  refine At.ln rfl hsa ?_
  rw [iN_m3]
  refine At.ic2 (tgt := 96) rfl rfl (fun _ => ?_) (fun h => absurd (decide_eq_true ((iN_lt (a := D) (b := vs.length) (by omega) (by omega)).mpr (by omega))) (by rw [List.length_map] at h; rw [show decide (Int32.ofNat D < Int32.ofNat vs.length) = false from h]; decide))
  refine At.go (q := xm143) rfl 3 (pc' := 101) (L' := [(8, .int 2), (7, .retAddr 41), (5, .int (Int32.ofNat (D + 2))), (6, .int (Int32.ofNat i)), (0, .ref a), (2, .int (Int32.ofNat t)), (3, v1), (4, .null)]) (st' := [.int ((Int32.ofNat (D + 2)) - 2)]) rfl ?_
  rw [iN_m3]
  refine At.go (q := xm143) rfl 3 (pc' := 108) (L' := [(5, .int (Int32.ofNat D)), (8, .int 2), (7, .retAddr 41), (6, .int (Int32.ofNat i)), (0, .ref a), (2, .int (Int32.ofNat t)), (3, v1), (4, .null)]) (st' := [.retAddr 2, .retAddr 41]) rfl ?_
  refine At.acn (tgt := 127) (b := false) rfl rfl rfl (fun _ => ?_) (fun h => absurd h (by decide))
  refine At.go (q := xm143) rfl 2 (pc' := 132) (L' := [(5, .int (Int32.ofNat D)), (8, .int 2), (7, .retAddr 41), (6, .int (Int32.ofNat i)), (0, .ref a), (2, .int (Int32.ofNat t)), (3, v1), (4, .null)]) (st' := [.retAddr 29, .retAddr 41]) rfl ?_
  refine At.acn (tgt := 173) (b := false) rfl rfl rfl (fun _ => ?_) (fun h => absurd h (by decide))
  refine At.go (q := xm143) rfl 9 (pc' := 246) (L' := [(5, .int (Int32.ofNat D)), (8, .int 2), (7, .retAddr 41), (6, .int (Int32.ofNat i)), (0, .ref a), (2, .int (Int32.ofNat t)), (3, v1), (4, .null)]) (st' := [.ref a, .int ((Int32.ofNat D) + 1)]) rfl ?_
  refine At.gf rfl (by decide) ho rfl ?_
  refine At.ln rfl hsa ?_
  rw [iN_s]
  refine At.ic2 (tgt := 281) rfl rfl (fun h => absurd (of_decide_eq_true h) (fun h => absurd ((iN_le (a := vs.length) (b := D + 1) (by omega) (by omega)).mp (by rw [List.length_map] at h; exact h)) (by omega))) (fun _ => ?_)
  refine At.go (q := xm143) rfl 1 (pc' := 254) (L' := [(5, .int (Int32.ofNat D)), (8, .int 2), (7, .retAddr 41), (6, .int (Int32.ofNat i)), (0, .ref a), (2, .int (Int32.ofNat t)), (3, v1), (4, .null)]) (st' := [.ref a]) rfl ?_
  refine At.gf rfl (by decide) ho rfl ?_
  refine At.go (q := xm143) rfl 3 (pc' := 262) (L' := [(5, .int (Int32.ofNat D)), (8, .int 2), (7, .retAddr 41), (6, .int (Int32.ofNat i)), (0, .ref a), (2, .int (Int32.ofNat t)), (3, v1), (4, .null)]) (st' := [.ref a, .retAddr 41, .int (Int32.ofNat D), .ref sa]) rfl ?_
  refine At.gf rfl (by decide) ho rfl ?_
  refine At.go (q := xm143) rfl 1 (pc' := 267) (L' := [(5, .int (Int32.ofNat D)), (8, .int 2), (7, .retAddr 41), (6, .int (Int32.ofNat i)), (0, .ref a), (2, .int (Int32.ofNat t)), (3, v1), (4, .null)]) (st' := [.int (Int32.ofNat D), .ref sa, .retAddr 41, .int (Int32.ofNat D), .ref sa]) rfl ?_
  refine At.al rfl hsa (by decide) rfl (iN_nn (by omega)) (by rw [iN_tn (by omega), List.getElem?_map, hvl]; rfl) ?_
  refine At.go (q := xm143) rfl 1 (pc' := 269) (L' := [(5, .int (Int32.ofNat D)), (8, .int 2), (7, .retAddr 41), (6, .int (Int32.ofNat i)), (0, .ref a), (2, .int (Int32.ofNat t)), (3, v1), (4, .null)]) (st' := [.ref a, .int vl, .retAddr 41, .int (Int32.ofNat D), .ref sa]) rfl ?_
  refine At.gf rfl (by decide) ho rfl ?_
  refine At.go (q := xm143) rfl 3 (pc' := 276) (L' := [(5, .int (Int32.ofNat D)), (8, .int 2), (7, .retAddr 41), (6, .int (Int32.ofNat i)), (0, .ref a), (2, .int (Int32.ofNat t)), (3, v1), (4, .null)]) (st' := [.int ((Int32.ofNat D) + 1), .ref sa, .int vl, .retAddr 41, .int (Int32.ofNat D), .ref sa]) rfl ?_
  refine At.al rfl hsa (by decide) rfl (by rw [iN_s]; exact iN_nn (by omega)) (by rw [iN_s, iN_tn (by omega), List.getElem?_map, hvr]; rfl) ?_
  refine At.clp (as := [.retAddr 41, .int vl, .int vr]) (rest := [.int (Int32.ofNat D), .ref sa]) rfl (by decide) rfl (Nat.le_of_ble_eq_true rfl) (Nat.le_of_ble_eq_true rfl) rfl (Nat.le_of_ble_eq_true rfl) (m_combined41 vl vr) ?_
  refine At.as (j := Int32.ofNat D) rfl hsa (by decide) rfl (iN_nn (by omega)) (by rw [iN_tn (by omega), List.length_map]; omega) ?_
  rw [iN_tn (by omega)]
  refine At.go (q := xm143) rfl 1 (pc' := 284) (L' := [(5, .int ((Int32.ofNat D) + 1)), (8, .int 2), (7, .retAddr 41), (6, .int (Int32.ofNat i)), (0, .ref a), (2, .int (Int32.ofNat t)), (3, v1), (4, .null)]) (st' := []) rfl ?_
  refine At.go (q := xm143) rfl 1 (pc' := 287) (L' := [(6, .int ((Int32.ofNat i) + 1)), (5, .int ((Int32.ofNat D) + 1)), (8, .int 2), (7, .retAddr 41), (0, .ref a), (2, .int (Int32.ofNat t)), (3, v1), (4, .null)]) (st' := []) rfl ?_
  refine At.go (q := xm143) rfl 1 (pc' := 10) (L' := [(6, .int ((Int32.ofNat i) + 1)), (5, .int ((Int32.ofNat D) + 1)), (8, .int 2), (7, .retAddr 41), (0, .ref a), (2, .int (Int32.ofNat t)), (3, v1), (4, .null)]) (st' := []) rfl ?_
  rw [iN_s, iN_s]
  refine At.wk (L' := [(5, .int (Int32.ofNat (D + 1))), (6, .int (Int32.ofNat (i + 1))), (0, .ref a), (2, .int (Int32.ofNat t)), (3, v1), (4, .null)]) (List.forall_mem_cons.mpr ⟨List.mem_of_getElem? (i := 1) rfl, (List.forall_mem_cons.mpr ⟨List.mem_of_getElem? (i := 0) rfl, (List.forall_mem_cons.mpr ⟨List.mem_of_getElem? (i := 4) rfl, (List.forall_mem_cons.mpr ⟨List.mem_of_getElem? (i := 5) rfl, (List.forall_mem_cons.mpr ⟨List.mem_of_getElem? (i := 6) rfl, (List.forall_mem_cons.mpr ⟨List.mem_of_getElem? (i := 7) rfl, (fun _ h => (List.not_mem_nil h).elim)⟩)⟩)⟩)⟩)⟩)⟩) (show ([6, 5, 8, 7, 0, 2, 3, 4] : List Nat).Nodup by decide) ?_
  have hK9 := hK
  rw [List.map_set] at hK9
  exact hK9
theorem res_w42n {S : List Int32} {hp : List XC} {nc ns : Nat} {Q : XO → Prop} {a oa aa pa sa wa n i t D : Nat} {ws v1 : Value} {es : List Value} {gs vs : List Int32} (ho : hp[a]? = some (.inr (5, [.ref oa, .ref aa, .ref pa, .ref sa, .ref wa, ws, .int (Int32.ofNat n)]))) (hoa : hp[oa]? = some (.inl (27, es))) (haa : hp[aa]? = some (.inl (14, gs.map Value.int))) (hsa : hp[sa]? = some (.inl (16, vs.map Value.int))) (hes : es[i]? = some (.retAddr 42)) (hi : i < n) (hn : n ≤ 1000) (hgl : gs.length ≤ 1000) (hvl9 : vs.length ≤ 1000) (hD : D + 2 < vs.length + 1) {vl vr : Int32} (hvl : vs[D]? = some vl) (hvr : vs[D + 1]? = some vr)  (hK : At S 4 143 10 [(5, .int (Int32.ofNat (D + 1))), (6, .int (Int32.ofNat (i + 1))), (0, .ref a), (2, .int (Int32.ofNat t)), (3, v1), (4, .null)] [] (hp.set sa (.inl (16, (vs.set D (cmb42 vl vr)).map Value.int))) nc ns Q) : At S 4 143 35 [(5, .int (Int32.ofNat (D + 2))), (6, .int (Int32.ofNat i)), (0, .ref a), (2, .int (Int32.ofNat t)), (3, v1), (4, .null)] [] hp nc ns Q := by
  have hls := (List.getElem?_eq_some_iff.mp hes).1
  refine At.go (q := xm143) rfl 1 (pc' := 36) (L' := [(5, .int (Int32.ofNat (D + 2))), (6, .int (Int32.ofNat i)), (0, .ref a), (2, .int (Int32.ofNat t)), (3, v1), (4, .null)]) (st' := [.ref a]) rfl ?_
  refine At.gf rfl (by decide) ho rfl ?_
  refine At.go (q := xm143) rfl 1 (pc' := 41) (L' := [(5, .int (Int32.ofNat (D + 2))), (6, .int (Int32.ofNat i)), (0, .ref a), (2, .int (Int32.ofNat t)), (3, v1), (4, .null)]) (st' := [.int (Int32.ofNat i), .ref oa]) rfl ?_
  refine At.ql rfl hoa (by decide) rfl (iN_nn (by omega)) (by rw [iN_tn (by omega)]; exact hes) rfl ?_
  refine At.go (q := xm143) rfl 2 (pc' := 46) (L' := [(7, .retAddr 42), (5, .int (Int32.ofNat (D + 2))), (6, .int (Int32.ofNat i)), (0, .ref a), (2, .int (Int32.ofNat t)), (3, v1), (4, .null)]) (st' := [.retAddr 42]) rfl ?_
  refine At.gk rfl (by decide) rfl rfl ?_
  refine At.go (q := xm143) rfl 2 (pc' := 58) (L' := [(7, .retAddr 42), (5, .int (Int32.ofNat (D + 2))), (6, .int (Int32.ofNat i)), (0, .ref a), (2, .int (Int32.ofNat t)), (3, v1), (4, .null)]) (st' := [.retAddr 42]) rfl ?_
  refine At.gk rfl (by decide) rfl rfl ?_
  refine At.go (q := xm143) rfl 6 (pc' := 77) (L' := [(8, .int 2), (7, .retAddr 42), (5, .int (Int32.ofNat (D + 2))), (6, .int (Int32.ofNat i)), (0, .ref a), (2, .int (Int32.ofNat t)), (3, v1), (4, .null)]) (st' := [.int 2, .int (Int32.ofNat (D + 2))]) rfl ?_
  refine At.ic2 (tgt := 93) rfl rfl (fun h => absurd (of_decide_eq_true h) (fun h => absurd ((iN_lt (a := (D + 2)) (b := 2) (by omega) (by omega)).mp h) (by omega))) (fun _ => ?_)
  refine At.go (q := xm143) rfl 4 (pc' := 86) (L' := [(8, .int 2), (7, .retAddr 42), (5, .int (Int32.ofNat (D + 2))), (6, .int (Int32.ofNat i)), (0, .ref a), (2, .int (Int32.ofNat t)), (3, v1), (4, .null)]) (st' := [.ref a, .int ((Int32.ofNat (D + 2)) - 2)]) rfl ?_
  refine At.gf rfl (by decide) ho rfl ?_
  refine At.ln rfl hsa ?_
  rw [iN_m3]
  refine At.ic2 (tgt := 96) rfl rfl (fun _ => ?_) (fun h => absurd (decide_eq_true ((iN_lt (a := D) (b := vs.length) (by omega) (by omega)).mpr (by omega))) (by rw [List.length_map] at h; rw [show decide (Int32.ofNat D < Int32.ofNat vs.length) = false from h]; decide))
  refine At.go (q := xm143) rfl 3 (pc' := 101) (L' := [(8, .int 2), (7, .retAddr 42), (5, .int (Int32.ofNat (D + 2))), (6, .int (Int32.ofNat i)), (0, .ref a), (2, .int (Int32.ofNat t)), (3, v1), (4, .null)]) (st' := [.int ((Int32.ofNat (D + 2)) - 2)]) rfl ?_
  rw [iN_m3]
  refine At.go (q := xm143) rfl 3 (pc' := 108) (L' := [(5, .int (Int32.ofNat D)), (8, .int 2), (7, .retAddr 42), (6, .int (Int32.ofNat i)), (0, .ref a), (2, .int (Int32.ofNat t)), (3, v1), (4, .null)]) (st' := [.retAddr 2, .retAddr 42]) rfl ?_
  refine At.acn (tgt := 127) (b := false) rfl rfl rfl (fun _ => ?_) (fun h => absurd h (by decide))
  refine At.go (q := xm143) rfl 2 (pc' := 132) (L' := [(5, .int (Int32.ofNat D)), (8, .int 2), (7, .retAddr 42), (6, .int (Int32.ofNat i)), (0, .ref a), (2, .int (Int32.ofNat t)), (3, v1), (4, .null)]) (st' := [.retAddr 29, .retAddr 42]) rfl ?_
  refine At.acn (tgt := 173) (b := false) rfl rfl rfl (fun _ => ?_) (fun h => absurd h (by decide))
  refine At.go (q := xm143) rfl 9 (pc' := 246) (L' := [(5, .int (Int32.ofNat D)), (8, .int 2), (7, .retAddr 42), (6, .int (Int32.ofNat i)), (0, .ref a), (2, .int (Int32.ofNat t)), (3, v1), (4, .null)]) (st' := [.ref a, .int ((Int32.ofNat D) + 1)]) rfl ?_
  refine At.gf rfl (by decide) ho rfl ?_
  refine At.ln rfl hsa ?_
  rw [iN_s]
  refine At.ic2 (tgt := 281) rfl rfl (fun h => absurd (of_decide_eq_true h) (fun h => absurd ((iN_le (a := vs.length) (b := D + 1) (by omega) (by omega)).mp (by rw [List.length_map] at h; exact h)) (by omega))) (fun _ => ?_)
  refine At.go (q := xm143) rfl 1 (pc' := 254) (L' := [(5, .int (Int32.ofNat D)), (8, .int 2), (7, .retAddr 42), (6, .int (Int32.ofNat i)), (0, .ref a), (2, .int (Int32.ofNat t)), (3, v1), (4, .null)]) (st' := [.ref a]) rfl ?_
  refine At.gf rfl (by decide) ho rfl ?_
  refine At.go (q := xm143) rfl 3 (pc' := 262) (L' := [(5, .int (Int32.ofNat D)), (8, .int 2), (7, .retAddr 42), (6, .int (Int32.ofNat i)), (0, .ref a), (2, .int (Int32.ofNat t)), (3, v1), (4, .null)]) (st' := [.ref a, .retAddr 42, .int (Int32.ofNat D), .ref sa]) rfl ?_
  refine At.gf rfl (by decide) ho rfl ?_
  refine At.go (q := xm143) rfl 1 (pc' := 267) (L' := [(5, .int (Int32.ofNat D)), (8, .int 2), (7, .retAddr 42), (6, .int (Int32.ofNat i)), (0, .ref a), (2, .int (Int32.ofNat t)), (3, v1), (4, .null)]) (st' := [.int (Int32.ofNat D), .ref sa, .retAddr 42, .int (Int32.ofNat D), .ref sa]) rfl ?_
  refine At.al rfl hsa (by decide) rfl (iN_nn (by omega)) (by rw [iN_tn (by omega), List.getElem?_map, hvl]; rfl) ?_
  refine At.go (q := xm143) rfl 1 (pc' := 269) (L' := [(5, .int (Int32.ofNat D)), (8, .int 2), (7, .retAddr 42), (6, .int (Int32.ofNat i)), (0, .ref a), (2, .int (Int32.ofNat t)), (3, v1), (4, .null)]) (st' := [.ref a, .int vl, .retAddr 42, .int (Int32.ofNat D), .ref sa]) rfl ?_
  refine At.gf rfl (by decide) ho rfl ?_
  refine At.go (q := xm143) rfl 3 (pc' := 276) (L' := [(5, .int (Int32.ofNat D)), (8, .int 2), (7, .retAddr 42), (6, .int (Int32.ofNat i)), (0, .ref a), (2, .int (Int32.ofNat t)), (3, v1), (4, .null)]) (st' := [.int ((Int32.ofNat D) + 1), .ref sa, .int vl, .retAddr 42, .int (Int32.ofNat D), .ref sa]) rfl ?_
  refine At.al rfl hsa (by decide) rfl (by rw [iN_s]; exact iN_nn (by omega)) (by rw [iN_s, iN_tn (by omega), List.getElem?_map, hvr]; rfl) ?_
  refine At.clp (as := [.retAddr 42, .int vl, .int vr]) (rest := [.int (Int32.ofNat D), .ref sa]) rfl (by decide) rfl (Nat.le_of_ble_eq_true rfl) (Nat.le_of_ble_eq_true rfl) rfl (Nat.le_of_ble_eq_true rfl) (m_combined42 vl vr) ?_
  refine At.as (j := Int32.ofNat D) rfl hsa (by decide) rfl (iN_nn (by omega)) (by rw [iN_tn (by omega), List.length_map]; omega) ?_
  rw [iN_tn (by omega)]
  refine At.go (q := xm143) rfl 1 (pc' := 284) (L' := [(5, .int ((Int32.ofNat D) + 1)), (8, .int 2), (7, .retAddr 42), (6, .int (Int32.ofNat i)), (0, .ref a), (2, .int (Int32.ofNat t)), (3, v1), (4, .null)]) (st' := []) rfl ?_
  refine At.go (q := xm143) rfl 1 (pc' := 287) (L' := [(6, .int ((Int32.ofNat i) + 1)), (5, .int ((Int32.ofNat D) + 1)), (8, .int 2), (7, .retAddr 42), (0, .ref a), (2, .int (Int32.ofNat t)), (3, v1), (4, .null)]) (st' := []) rfl ?_
  refine At.go (q := xm143) rfl 1 (pc' := 10) (L' := [(6, .int ((Int32.ofNat i) + 1)), (5, .int ((Int32.ofNat D) + 1)), (8, .int 2), (7, .retAddr 42), (0, .ref a), (2, .int (Int32.ofNat t)), (3, v1), (4, .null)]) (st' := []) rfl ?_
  rw [iN_s, iN_s]
  refine At.wk (L' := [(5, .int (Int32.ofNat (D + 1))), (6, .int (Int32.ofNat (i + 1))), (0, .ref a), (2, .int (Int32.ofNat t)), (3, v1), (4, .null)]) (List.forall_mem_cons.mpr ⟨List.mem_of_getElem? (i := 1) rfl, (List.forall_mem_cons.mpr ⟨List.mem_of_getElem? (i := 0) rfl, (List.forall_mem_cons.mpr ⟨List.mem_of_getElem? (i := 4) rfl, (List.forall_mem_cons.mpr ⟨List.mem_of_getElem? (i := 5) rfl, (List.forall_mem_cons.mpr ⟨List.mem_of_getElem? (i := 6) rfl, (List.forall_mem_cons.mpr ⟨List.mem_of_getElem? (i := 7) rfl, (fun _ h => (List.not_mem_nil h).elim)⟩)⟩)⟩)⟩)⟩)⟩) (show ([6, 5, 8, 7, 0, 2, 3, 4] : List Nat).Nodup by decide) ?_
  have hK9 := hK
  rw [List.map_set] at hK9
  exact hK9
theorem res_w43n {S : List Int32} {hp : List XC} {nc ns : Nat} {Q : XO → Prop} {a oa aa pa sa wa n i t D : Nat} {ws v1 : Value} {es : List Value} {gs vs : List Int32} (ho : hp[a]? = some (.inr (5, [.ref oa, .ref aa, .ref pa, .ref sa, .ref wa, ws, .int (Int32.ofNat n)]))) (hoa : hp[oa]? = some (.inl (27, es))) (haa : hp[aa]? = some (.inl (14, gs.map Value.int))) (hsa : hp[sa]? = some (.inl (16, vs.map Value.int))) (hes : es[i]? = some (.retAddr 43)) (hi : i < n) (hn : n ≤ 1000) (hgl : gs.length ≤ 1000) (hvl9 : vs.length ≤ 1000) (hD : D + 2 < vs.length + 1) {vl vr : Int32} (hvl : vs[D]? = some vl) (hvr : vs[D + 1]? = some vr)  (hK : At S 4 143 10 [(5, .int (Int32.ofNat (D + 1))), (6, .int (Int32.ofNat (i + 1))), (0, .ref a), (2, .int (Int32.ofNat t)), (3, v1), (4, .null)] [] (hp.set sa (.inl (16, (vs.set D (cmb43 vl vr)).map Value.int))) nc ns Q) : At S 4 143 35 [(5, .int (Int32.ofNat (D + 2))), (6, .int (Int32.ofNat i)), (0, .ref a), (2, .int (Int32.ofNat t)), (3, v1), (4, .null)] [] hp nc ns Q := by
  have hls := (List.getElem?_eq_some_iff.mp hes).1
  refine At.go (q := xm143) rfl 1 (pc' := 36) (L' := [(5, .int (Int32.ofNat (D + 2))), (6, .int (Int32.ofNat i)), (0, .ref a), (2, .int (Int32.ofNat t)), (3, v1), (4, .null)]) (st' := [.ref a]) rfl ?_
  refine At.gf rfl (by decide) ho rfl ?_
  refine At.go (q := xm143) rfl 1 (pc' := 41) (L' := [(5, .int (Int32.ofNat (D + 2))), (6, .int (Int32.ofNat i)), (0, .ref a), (2, .int (Int32.ofNat t)), (3, v1), (4, .null)]) (st' := [.int (Int32.ofNat i), .ref oa]) rfl ?_
  refine At.ql rfl hoa (by decide) rfl (iN_nn (by omega)) (by rw [iN_tn (by omega)]; exact hes) rfl ?_
  refine At.go (q := xm143) rfl 2 (pc' := 46) (L' := [(7, .retAddr 43), (5, .int (Int32.ofNat (D + 2))), (6, .int (Int32.ofNat i)), (0, .ref a), (2, .int (Int32.ofNat t)), (3, v1), (4, .null)]) (st' := [.retAddr 43]) rfl ?_
  refine At.gk rfl (by decide) rfl rfl ?_
  refine At.go (q := xm143) rfl 2 (pc' := 58) (L' := [(7, .retAddr 43), (5, .int (Int32.ofNat (D + 2))), (6, .int (Int32.ofNat i)), (0, .ref a), (2, .int (Int32.ofNat t)), (3, v1), (4, .null)]) (st' := [.retAddr 43]) rfl ?_
  refine At.gk rfl (by decide) rfl rfl ?_
  refine At.go (q := xm143) rfl 6 (pc' := 77) (L' := [(8, .int 2), (7, .retAddr 43), (5, .int (Int32.ofNat (D + 2))), (6, .int (Int32.ofNat i)), (0, .ref a), (2, .int (Int32.ofNat t)), (3, v1), (4, .null)]) (st' := [.int 2, .int (Int32.ofNat (D + 2))]) rfl ?_
  refine At.ic2 (tgt := 93) rfl rfl (fun h => absurd (of_decide_eq_true h) (fun h => absurd ((iN_lt (a := (D + 2)) (b := 2) (by omega) (by omega)).mp h) (by omega))) (fun _ => ?_)
  refine At.go (q := xm143) rfl 4 (pc' := 86) (L' := [(8, .int 2), (7, .retAddr 43), (5, .int (Int32.ofNat (D + 2))), (6, .int (Int32.ofNat i)), (0, .ref a), (2, .int (Int32.ofNat t)), (3, v1), (4, .null)]) (st' := [.ref a, .int ((Int32.ofNat (D + 2)) - 2)]) rfl ?_
  refine At.gf rfl (by decide) ho rfl ?_
  refine At.ln rfl hsa ?_
  rw [iN_m3]
  refine At.ic2 (tgt := 96) rfl rfl (fun _ => ?_) (fun h => absurd (decide_eq_true ((iN_lt (a := D) (b := vs.length) (by omega) (by omega)).mpr (by omega))) (by rw [List.length_map] at h; rw [show decide (Int32.ofNat D < Int32.ofNat vs.length) = false from h]; decide))
  refine At.go (q := xm143) rfl 3 (pc' := 101) (L' := [(8, .int 2), (7, .retAddr 43), (5, .int (Int32.ofNat (D + 2))), (6, .int (Int32.ofNat i)), (0, .ref a), (2, .int (Int32.ofNat t)), (3, v1), (4, .null)]) (st' := [.int ((Int32.ofNat (D + 2)) - 2)]) rfl ?_
  rw [iN_m3]
  refine At.go (q := xm143) rfl 3 (pc' := 108) (L' := [(5, .int (Int32.ofNat D)), (8, .int 2), (7, .retAddr 43), (6, .int (Int32.ofNat i)), (0, .ref a), (2, .int (Int32.ofNat t)), (3, v1), (4, .null)]) (st' := [.retAddr 2, .retAddr 43]) rfl ?_
  refine At.acn (tgt := 127) (b := false) rfl rfl rfl (fun _ => ?_) (fun h => absurd h (by decide))
  refine At.go (q := xm143) rfl 2 (pc' := 132) (L' := [(5, .int (Int32.ofNat D)), (8, .int 2), (7, .retAddr 43), (6, .int (Int32.ofNat i)), (0, .ref a), (2, .int (Int32.ofNat t)), (3, v1), (4, .null)]) (st' := [.retAddr 29, .retAddr 43]) rfl ?_
  refine At.acn (tgt := 173) (b := false) rfl rfl rfl (fun _ => ?_) (fun h => absurd h (by decide))
  refine At.go (q := xm143) rfl 9 (pc' := 246) (L' := [(5, .int (Int32.ofNat D)), (8, .int 2), (7, .retAddr 43), (6, .int (Int32.ofNat i)), (0, .ref a), (2, .int (Int32.ofNat t)), (3, v1), (4, .null)]) (st' := [.ref a, .int ((Int32.ofNat D) + 1)]) rfl ?_
  refine At.gf rfl (by decide) ho rfl ?_
  refine At.ln rfl hsa ?_
  rw [iN_s]
  refine At.ic2 (tgt := 281) rfl rfl (fun h => absurd (of_decide_eq_true h) (fun h => absurd ((iN_le (a := vs.length) (b := D + 1) (by omega) (by omega)).mp (by rw [List.length_map] at h; exact h)) (by omega))) (fun _ => ?_)
  refine At.go (q := xm143) rfl 1 (pc' := 254) (L' := [(5, .int (Int32.ofNat D)), (8, .int 2), (7, .retAddr 43), (6, .int (Int32.ofNat i)), (0, .ref a), (2, .int (Int32.ofNat t)), (3, v1), (4, .null)]) (st' := [.ref a]) rfl ?_
  refine At.gf rfl (by decide) ho rfl ?_
  refine At.go (q := xm143) rfl 3 (pc' := 262) (L' := [(5, .int (Int32.ofNat D)), (8, .int 2), (7, .retAddr 43), (6, .int (Int32.ofNat i)), (0, .ref a), (2, .int (Int32.ofNat t)), (3, v1), (4, .null)]) (st' := [.ref a, .retAddr 43, .int (Int32.ofNat D), .ref sa]) rfl ?_
  refine At.gf rfl (by decide) ho rfl ?_
  refine At.go (q := xm143) rfl 1 (pc' := 267) (L' := [(5, .int (Int32.ofNat D)), (8, .int 2), (7, .retAddr 43), (6, .int (Int32.ofNat i)), (0, .ref a), (2, .int (Int32.ofNat t)), (3, v1), (4, .null)]) (st' := [.int (Int32.ofNat D), .ref sa, .retAddr 43, .int (Int32.ofNat D), .ref sa]) rfl ?_
  refine At.al rfl hsa (by decide) rfl (iN_nn (by omega)) (by rw [iN_tn (by omega), List.getElem?_map, hvl]; rfl) ?_
  refine At.go (q := xm143) rfl 1 (pc' := 269) (L' := [(5, .int (Int32.ofNat D)), (8, .int 2), (7, .retAddr 43), (6, .int (Int32.ofNat i)), (0, .ref a), (2, .int (Int32.ofNat t)), (3, v1), (4, .null)]) (st' := [.ref a, .int vl, .retAddr 43, .int (Int32.ofNat D), .ref sa]) rfl ?_
  refine At.gf rfl (by decide) ho rfl ?_
  refine At.go (q := xm143) rfl 3 (pc' := 276) (L' := [(5, .int (Int32.ofNat D)), (8, .int 2), (7, .retAddr 43), (6, .int (Int32.ofNat i)), (0, .ref a), (2, .int (Int32.ofNat t)), (3, v1), (4, .null)]) (st' := [.int ((Int32.ofNat D) + 1), .ref sa, .int vl, .retAddr 43, .int (Int32.ofNat D), .ref sa]) rfl ?_
  refine At.al rfl hsa (by decide) rfl (by rw [iN_s]; exact iN_nn (by omega)) (by rw [iN_s, iN_tn (by omega), List.getElem?_map, hvr]; rfl) ?_
  refine At.clp (as := [.retAddr 43, .int vl, .int vr]) (rest := [.int (Int32.ofNat D), .ref sa]) rfl (by decide) rfl (Nat.le_of_ble_eq_true rfl) (Nat.le_of_ble_eq_true rfl) rfl (Nat.le_of_ble_eq_true rfl) (m_combined43 vl vr) ?_
  refine At.as (j := Int32.ofNat D) rfl hsa (by decide) rfl (iN_nn (by omega)) (by rw [iN_tn (by omega), List.length_map]; omega) ?_
  rw [iN_tn (by omega)]
  refine At.go (q := xm143) rfl 1 (pc' := 284) (L' := [(5, .int ((Int32.ofNat D) + 1)), (8, .int 2), (7, .retAddr 43), (6, .int (Int32.ofNat i)), (0, .ref a), (2, .int (Int32.ofNat t)), (3, v1), (4, .null)]) (st' := []) rfl ?_
  refine At.go (q := xm143) rfl 1 (pc' := 287) (L' := [(6, .int ((Int32.ofNat i) + 1)), (5, .int ((Int32.ofNat D) + 1)), (8, .int 2), (7, .retAddr 43), (0, .ref a), (2, .int (Int32.ofNat t)), (3, v1), (4, .null)]) (st' := []) rfl ?_
  refine At.go (q := xm143) rfl 1 (pc' := 10) (L' := [(6, .int ((Int32.ofNat i) + 1)), (5, .int ((Int32.ofNat D) + 1)), (8, .int 2), (7, .retAddr 43), (0, .ref a), (2, .int (Int32.ofNat t)), (3, v1), (4, .null)]) (st' := []) rfl ?_
  rw [iN_s, iN_s]
  refine At.wk (L' := [(5, .int (Int32.ofNat (D + 1))), (6, .int (Int32.ofNat (i + 1))), (0, .ref a), (2, .int (Int32.ofNat t)), (3, v1), (4, .null)]) (List.forall_mem_cons.mpr ⟨List.mem_of_getElem? (i := 1) rfl, (List.forall_mem_cons.mpr ⟨List.mem_of_getElem? (i := 0) rfl, (List.forall_mem_cons.mpr ⟨List.mem_of_getElem? (i := 4) rfl, (List.forall_mem_cons.mpr ⟨List.mem_of_getElem? (i := 5) rfl, (List.forall_mem_cons.mpr ⟨List.mem_of_getElem? (i := 6) rfl, (List.forall_mem_cons.mpr ⟨List.mem_of_getElem? (i := 7) rfl, (fun _ h => (List.not_mem_nil h).elim)⟩)⟩)⟩)⟩)⟩)⟩) (show ([6, 5, 8, 7, 0, 2, 3, 4] : List Nat).Nodup by decide) ?_
  have hK9 := hK
  rw [List.map_set] at hK9
  exact hK9
theorem res_w44n {S : List Int32} {hp : List XC} {nc ns : Nat} {Q : XO → Prop} {a oa aa pa sa wa n i t D : Nat} {ws v1 : Value} {es : List Value} {gs vs : List Int32} (ho : hp[a]? = some (.inr (5, [.ref oa, .ref aa, .ref pa, .ref sa, .ref wa, ws, .int (Int32.ofNat n)]))) (hoa : hp[oa]? = some (.inl (27, es))) (haa : hp[aa]? = some (.inl (14, gs.map Value.int))) (hsa : hp[sa]? = some (.inl (16, vs.map Value.int))) (hes : es[i]? = some (.retAddr 44)) (hi : i < n) (hn : n ≤ 1000) (hgl : gs.length ≤ 1000) (hvl9 : vs.length ≤ 1000) (hD : D + 2 < vs.length + 1) {vl vr : Int32} (hvl : vs[D]? = some vl) (hvr : vs[D + 1]? = some vr)  (hK : At S 4 143 10 [(5, .int (Int32.ofNat (D + 1))), (6, .int (Int32.ofNat (i + 1))), (0, .ref a), (2, .int (Int32.ofNat t)), (3, v1), (4, .null)] [] (hp.set sa (.inl (16, (vs.set D (cmb44 vl vr)).map Value.int))) nc ns Q) : At S 4 143 35 [(5, .int (Int32.ofNat (D + 2))), (6, .int (Int32.ofNat i)), (0, .ref a), (2, .int (Int32.ofNat t)), (3, v1), (4, .null)] [] hp nc ns Q := by
  have hls := (List.getElem?_eq_some_iff.mp hes).1
  refine At.go (q := xm143) rfl 1 (pc' := 36) (L' := [(5, .int (Int32.ofNat (D + 2))), (6, .int (Int32.ofNat i)), (0, .ref a), (2, .int (Int32.ofNat t)), (3, v1), (4, .null)]) (st' := [.ref a]) rfl ?_
  refine At.gf rfl (by decide) ho rfl ?_
  refine At.go (q := xm143) rfl 1 (pc' := 41) (L' := [(5, .int (Int32.ofNat (D + 2))), (6, .int (Int32.ofNat i)), (0, .ref a), (2, .int (Int32.ofNat t)), (3, v1), (4, .null)]) (st' := [.int (Int32.ofNat i), .ref oa]) rfl ?_
  refine At.ql rfl hoa (by decide) rfl (iN_nn (by omega)) (by rw [iN_tn (by omega)]; exact hes) rfl ?_
  refine At.go (q := xm143) rfl 2 (pc' := 46) (L' := [(7, .retAddr 44), (5, .int (Int32.ofNat (D + 2))), (6, .int (Int32.ofNat i)), (0, .ref a), (2, .int (Int32.ofNat t)), (3, v1), (4, .null)]) (st' := [.retAddr 44]) rfl ?_
  refine At.gk rfl (by decide) rfl rfl ?_
  refine At.go (q := xm143) rfl 2 (pc' := 58) (L' := [(7, .retAddr 44), (5, .int (Int32.ofNat (D + 2))), (6, .int (Int32.ofNat i)), (0, .ref a), (2, .int (Int32.ofNat t)), (3, v1), (4, .null)]) (st' := [.retAddr 44]) rfl ?_
  refine At.gk rfl (by decide) rfl rfl ?_
  refine At.go (q := xm143) rfl 6 (pc' := 77) (L' := [(8, .int 2), (7, .retAddr 44), (5, .int (Int32.ofNat (D + 2))), (6, .int (Int32.ofNat i)), (0, .ref a), (2, .int (Int32.ofNat t)), (3, v1), (4, .null)]) (st' := [.int 2, .int (Int32.ofNat (D + 2))]) rfl ?_
  refine At.ic2 (tgt := 93) rfl rfl (fun h => absurd (of_decide_eq_true h) (fun h => absurd ((iN_lt (a := (D + 2)) (b := 2) (by omega) (by omega)).mp h) (by omega))) (fun _ => ?_)
  refine At.go (q := xm143) rfl 4 (pc' := 86) (L' := [(8, .int 2), (7, .retAddr 44), (5, .int (Int32.ofNat (D + 2))), (6, .int (Int32.ofNat i)), (0, .ref a), (2, .int (Int32.ofNat t)), (3, v1), (4, .null)]) (st' := [.ref a, .int ((Int32.ofNat (D + 2)) - 2)]) rfl ?_
  refine At.gf rfl (by decide) ho rfl ?_
  refine At.ln rfl hsa ?_
  rw [iN_m3]
  refine At.ic2 (tgt := 96) rfl rfl (fun _ => ?_) (fun h => absurd (decide_eq_true ((iN_lt (a := D) (b := vs.length) (by omega) (by omega)).mpr (by omega))) (by rw [List.length_map] at h; rw [show decide (Int32.ofNat D < Int32.ofNat vs.length) = false from h]; decide))
  refine At.go (q := xm143) rfl 3 (pc' := 101) (L' := [(8, .int 2), (7, .retAddr 44), (5, .int (Int32.ofNat (D + 2))), (6, .int (Int32.ofNat i)), (0, .ref a), (2, .int (Int32.ofNat t)), (3, v1), (4, .null)]) (st' := [.int ((Int32.ofNat (D + 2)) - 2)]) rfl ?_
  rw [iN_m3]
  refine At.go (q := xm143) rfl 3 (pc' := 108) (L' := [(5, .int (Int32.ofNat D)), (8, .int 2), (7, .retAddr 44), (6, .int (Int32.ofNat i)), (0, .ref a), (2, .int (Int32.ofNat t)), (3, v1), (4, .null)]) (st' := [.retAddr 2, .retAddr 44]) rfl ?_
  refine At.acn (tgt := 127) (b := false) rfl rfl rfl (fun _ => ?_) (fun h => absurd h (by decide))
  refine At.go (q := xm143) rfl 2 (pc' := 132) (L' := [(5, .int (Int32.ofNat D)), (8, .int 2), (7, .retAddr 44), (6, .int (Int32.ofNat i)), (0, .ref a), (2, .int (Int32.ofNat t)), (3, v1), (4, .null)]) (st' := [.retAddr 29, .retAddr 44]) rfl ?_
  refine At.acn (tgt := 173) (b := false) rfl rfl rfl (fun _ => ?_) (fun h => absurd h (by decide))
  refine At.go (q := xm143) rfl 9 (pc' := 246) (L' := [(5, .int (Int32.ofNat D)), (8, .int 2), (7, .retAddr 44), (6, .int (Int32.ofNat i)), (0, .ref a), (2, .int (Int32.ofNat t)), (3, v1), (4, .null)]) (st' := [.ref a, .int ((Int32.ofNat D) + 1)]) rfl ?_
  refine At.gf rfl (by decide) ho rfl ?_
  refine At.ln rfl hsa ?_
  rw [iN_s]
  refine At.ic2 (tgt := 281) rfl rfl (fun h => absurd (of_decide_eq_true h) (fun h => absurd ((iN_le (a := vs.length) (b := D + 1) (by omega) (by omega)).mp (by rw [List.length_map] at h; exact h)) (by omega))) (fun _ => ?_)
  refine At.go (q := xm143) rfl 1 (pc' := 254) (L' := [(5, .int (Int32.ofNat D)), (8, .int 2), (7, .retAddr 44), (6, .int (Int32.ofNat i)), (0, .ref a), (2, .int (Int32.ofNat t)), (3, v1), (4, .null)]) (st' := [.ref a]) rfl ?_
  refine At.gf rfl (by decide) ho rfl ?_
  refine At.go (q := xm143) rfl 3 (pc' := 262) (L' := [(5, .int (Int32.ofNat D)), (8, .int 2), (7, .retAddr 44), (6, .int (Int32.ofNat i)), (0, .ref a), (2, .int (Int32.ofNat t)), (3, v1), (4, .null)]) (st' := [.ref a, .retAddr 44, .int (Int32.ofNat D), .ref sa]) rfl ?_
  refine At.gf rfl (by decide) ho rfl ?_
  refine At.go (q := xm143) rfl 1 (pc' := 267) (L' := [(5, .int (Int32.ofNat D)), (8, .int 2), (7, .retAddr 44), (6, .int (Int32.ofNat i)), (0, .ref a), (2, .int (Int32.ofNat t)), (3, v1), (4, .null)]) (st' := [.int (Int32.ofNat D), .ref sa, .retAddr 44, .int (Int32.ofNat D), .ref sa]) rfl ?_
  refine At.al rfl hsa (by decide) rfl (iN_nn (by omega)) (by rw [iN_tn (by omega), List.getElem?_map, hvl]; rfl) ?_
  refine At.go (q := xm143) rfl 1 (pc' := 269) (L' := [(5, .int (Int32.ofNat D)), (8, .int 2), (7, .retAddr 44), (6, .int (Int32.ofNat i)), (0, .ref a), (2, .int (Int32.ofNat t)), (3, v1), (4, .null)]) (st' := [.ref a, .int vl, .retAddr 44, .int (Int32.ofNat D), .ref sa]) rfl ?_
  refine At.gf rfl (by decide) ho rfl ?_
  refine At.go (q := xm143) rfl 3 (pc' := 276) (L' := [(5, .int (Int32.ofNat D)), (8, .int 2), (7, .retAddr 44), (6, .int (Int32.ofNat i)), (0, .ref a), (2, .int (Int32.ofNat t)), (3, v1), (4, .null)]) (st' := [.int ((Int32.ofNat D) + 1), .ref sa, .int vl, .retAddr 44, .int (Int32.ofNat D), .ref sa]) rfl ?_
  refine At.al rfl hsa (by decide) rfl (by rw [iN_s]; exact iN_nn (by omega)) (by rw [iN_s, iN_tn (by omega), List.getElem?_map, hvr]; rfl) ?_
  refine At.clp (as := [.retAddr 44, .int vl, .int vr]) (rest := [.int (Int32.ofNat D), .ref sa]) rfl (by decide) rfl (Nat.le_of_ble_eq_true rfl) (Nat.le_of_ble_eq_true rfl) rfl (Nat.le_of_ble_eq_true rfl) (m_combined44 vl vr) ?_
  refine At.as (j := Int32.ofNat D) rfl hsa (by decide) rfl (iN_nn (by omega)) (by rw [iN_tn (by omega), List.length_map]; omega) ?_
  rw [iN_tn (by omega)]
  refine At.go (q := xm143) rfl 1 (pc' := 284) (L' := [(5, .int ((Int32.ofNat D) + 1)), (8, .int 2), (7, .retAddr 44), (6, .int (Int32.ofNat i)), (0, .ref a), (2, .int (Int32.ofNat t)), (3, v1), (4, .null)]) (st' := []) rfl ?_
  refine At.go (q := xm143) rfl 1 (pc' := 287) (L' := [(6, .int ((Int32.ofNat i) + 1)), (5, .int ((Int32.ofNat D) + 1)), (8, .int 2), (7, .retAddr 44), (0, .ref a), (2, .int (Int32.ofNat t)), (3, v1), (4, .null)]) (st' := []) rfl ?_
  refine At.go (q := xm143) rfl 1 (pc' := 10) (L' := [(6, .int ((Int32.ofNat i) + 1)), (5, .int ((Int32.ofNat D) + 1)), (8, .int 2), (7, .retAddr 44), (0, .ref a), (2, .int (Int32.ofNat t)), (3, v1), (4, .null)]) (st' := []) rfl ?_
  rw [iN_s, iN_s]
  refine At.wk (L' := [(5, .int (Int32.ofNat (D + 1))), (6, .int (Int32.ofNat (i + 1))), (0, .ref a), (2, .int (Int32.ofNat t)), (3, v1), (4, .null)]) (List.forall_mem_cons.mpr ⟨List.mem_of_getElem? (i := 1) rfl, (List.forall_mem_cons.mpr ⟨List.mem_of_getElem? (i := 0) rfl, (List.forall_mem_cons.mpr ⟨List.mem_of_getElem? (i := 4) rfl, (List.forall_mem_cons.mpr ⟨List.mem_of_getElem? (i := 5) rfl, (List.forall_mem_cons.mpr ⟨List.mem_of_getElem? (i := 6) rfl, (List.forall_mem_cons.mpr ⟨List.mem_of_getElem? (i := 7) rfl, (fun _ h => (List.not_mem_nil h).elim)⟩)⟩)⟩)⟩)⟩)⟩) (show ([6, 5, 8, 7, 0, 2, 3, 4] : List Nat).Nodup by decide) ?_
  have hK9 := hK
  rw [List.map_set] at hK9
  exact hK9
theorem res_w45n {S : List Int32} {hp : List XC} {nc ns : Nat} {Q : XO → Prop} {a oa aa pa sa wa n i t D : Nat} {ws v1 : Value} {es : List Value} {gs vs : List Int32} (ho : hp[a]? = some (.inr (5, [.ref oa, .ref aa, .ref pa, .ref sa, .ref wa, ws, .int (Int32.ofNat n)]))) (hoa : hp[oa]? = some (.inl (27, es))) (haa : hp[aa]? = some (.inl (14, gs.map Value.int))) (hsa : hp[sa]? = some (.inl (16, vs.map Value.int))) (hes : es[i]? = some (.retAddr 45)) (hi : i < n) (hn : n ≤ 1000) (hgl : gs.length ≤ 1000) (hvl9 : vs.length ≤ 1000) (hD : D + 2 < vs.length + 1) {vl vr : Int32} (hvl : vs[D]? = some vl) (hvr : vs[D + 1]? = some vr)  (hK : At S 4 143 10 [(5, .int (Int32.ofNat (D + 1))), (6, .int (Int32.ofNat (i + 1))), (0, .ref a), (2, .int (Int32.ofNat t)), (3, v1), (4, .null)] [] (hp.set sa (.inl (16, (vs.set D (cmb45 vl vr)).map Value.int))) nc ns Q) : At S 4 143 35 [(5, .int (Int32.ofNat (D + 2))), (6, .int (Int32.ofNat i)), (0, .ref a), (2, .int (Int32.ofNat t)), (3, v1), (4, .null)] [] hp nc ns Q := by
  have hls := (List.getElem?_eq_some_iff.mp hes).1
  refine At.go (q := xm143) rfl 1 (pc' := 36) (L' := [(5, .int (Int32.ofNat (D + 2))), (6, .int (Int32.ofNat i)), (0, .ref a), (2, .int (Int32.ofNat t)), (3, v1), (4, .null)]) (st' := [.ref a]) rfl ?_
  refine At.gf rfl (by decide) ho rfl ?_
  refine At.go (q := xm143) rfl 1 (pc' := 41) (L' := [(5, .int (Int32.ofNat (D + 2))), (6, .int (Int32.ofNat i)), (0, .ref a), (2, .int (Int32.ofNat t)), (3, v1), (4, .null)]) (st' := [.int (Int32.ofNat i), .ref oa]) rfl ?_
  refine At.ql rfl hoa (by decide) rfl (iN_nn (by omega)) (by rw [iN_tn (by omega)]; exact hes) rfl ?_
  refine At.go (q := xm143) rfl 2 (pc' := 46) (L' := [(7, .retAddr 45), (5, .int (Int32.ofNat (D + 2))), (6, .int (Int32.ofNat i)), (0, .ref a), (2, .int (Int32.ofNat t)), (3, v1), (4, .null)]) (st' := [.retAddr 45]) rfl ?_
  refine At.gk rfl (by decide) rfl rfl ?_
  refine At.go (q := xm143) rfl 2 (pc' := 58) (L' := [(7, .retAddr 45), (5, .int (Int32.ofNat (D + 2))), (6, .int (Int32.ofNat i)), (0, .ref a), (2, .int (Int32.ofNat t)), (3, v1), (4, .null)]) (st' := [.retAddr 45]) rfl ?_
  refine At.gk rfl (by decide) rfl rfl ?_
  refine At.go (q := xm143) rfl 6 (pc' := 77) (L' := [(8, .int 2), (7, .retAddr 45), (5, .int (Int32.ofNat (D + 2))), (6, .int (Int32.ofNat i)), (0, .ref a), (2, .int (Int32.ofNat t)), (3, v1), (4, .null)]) (st' := [.int 2, .int (Int32.ofNat (D + 2))]) rfl ?_
  refine At.ic2 (tgt := 93) rfl rfl (fun h => absurd (of_decide_eq_true h) (fun h => absurd ((iN_lt (a := (D + 2)) (b := 2) (by omega) (by omega)).mp h) (by omega))) (fun _ => ?_)
  refine At.go (q := xm143) rfl 4 (pc' := 86) (L' := [(8, .int 2), (7, .retAddr 45), (5, .int (Int32.ofNat (D + 2))), (6, .int (Int32.ofNat i)), (0, .ref a), (2, .int (Int32.ofNat t)), (3, v1), (4, .null)]) (st' := [.ref a, .int ((Int32.ofNat (D + 2)) - 2)]) rfl ?_
  refine At.gf rfl (by decide) ho rfl ?_
  refine At.ln rfl hsa ?_
  rw [iN_m3]
  refine At.ic2 (tgt := 96) rfl rfl (fun _ => ?_) (fun h => absurd (decide_eq_true ((iN_lt (a := D) (b := vs.length) (by omega) (by omega)).mpr (by omega))) (by rw [List.length_map] at h; rw [show decide (Int32.ofNat D < Int32.ofNat vs.length) = false from h]; decide))
  refine At.go (q := xm143) rfl 3 (pc' := 101) (L' := [(8, .int 2), (7, .retAddr 45), (5, .int (Int32.ofNat (D + 2))), (6, .int (Int32.ofNat i)), (0, .ref a), (2, .int (Int32.ofNat t)), (3, v1), (4, .null)]) (st' := [.int ((Int32.ofNat (D + 2)) - 2)]) rfl ?_
  rw [iN_m3]
  refine At.go (q := xm143) rfl 3 (pc' := 108) (L' := [(5, .int (Int32.ofNat D)), (8, .int 2), (7, .retAddr 45), (6, .int (Int32.ofNat i)), (0, .ref a), (2, .int (Int32.ofNat t)), (3, v1), (4, .null)]) (st' := [.retAddr 2, .retAddr 45]) rfl ?_
  refine At.acn (tgt := 127) (b := false) rfl rfl rfl (fun _ => ?_) (fun h => absurd h (by decide))
  refine At.go (q := xm143) rfl 2 (pc' := 132) (L' := [(5, .int (Int32.ofNat D)), (8, .int 2), (7, .retAddr 45), (6, .int (Int32.ofNat i)), (0, .ref a), (2, .int (Int32.ofNat t)), (3, v1), (4, .null)]) (st' := [.retAddr 29, .retAddr 45]) rfl ?_
  refine At.acn (tgt := 173) (b := false) rfl rfl rfl (fun _ => ?_) (fun h => absurd h (by decide))
  refine At.go (q := xm143) rfl 9 (pc' := 246) (L' := [(5, .int (Int32.ofNat D)), (8, .int 2), (7, .retAddr 45), (6, .int (Int32.ofNat i)), (0, .ref a), (2, .int (Int32.ofNat t)), (3, v1), (4, .null)]) (st' := [.ref a, .int ((Int32.ofNat D) + 1)]) rfl ?_
  refine At.gf rfl (by decide) ho rfl ?_
  refine At.ln rfl hsa ?_
  rw [iN_s]
  refine At.ic2 (tgt := 281) rfl rfl (fun h => absurd (of_decide_eq_true h) (fun h => absurd ((iN_le (a := vs.length) (b := D + 1) (by omega) (by omega)).mp (by rw [List.length_map] at h; exact h)) (by omega))) (fun _ => ?_)
  refine At.go (q := xm143) rfl 1 (pc' := 254) (L' := [(5, .int (Int32.ofNat D)), (8, .int 2), (7, .retAddr 45), (6, .int (Int32.ofNat i)), (0, .ref a), (2, .int (Int32.ofNat t)), (3, v1), (4, .null)]) (st' := [.ref a]) rfl ?_
  refine At.gf rfl (by decide) ho rfl ?_
  refine At.go (q := xm143) rfl 3 (pc' := 262) (L' := [(5, .int (Int32.ofNat D)), (8, .int 2), (7, .retAddr 45), (6, .int (Int32.ofNat i)), (0, .ref a), (2, .int (Int32.ofNat t)), (3, v1), (4, .null)]) (st' := [.ref a, .retAddr 45, .int (Int32.ofNat D), .ref sa]) rfl ?_
  refine At.gf rfl (by decide) ho rfl ?_
  refine At.go (q := xm143) rfl 1 (pc' := 267) (L' := [(5, .int (Int32.ofNat D)), (8, .int 2), (7, .retAddr 45), (6, .int (Int32.ofNat i)), (0, .ref a), (2, .int (Int32.ofNat t)), (3, v1), (4, .null)]) (st' := [.int (Int32.ofNat D), .ref sa, .retAddr 45, .int (Int32.ofNat D), .ref sa]) rfl ?_
  refine At.al rfl hsa (by decide) rfl (iN_nn (by omega)) (by rw [iN_tn (by omega), List.getElem?_map, hvl]; rfl) ?_
  refine At.go (q := xm143) rfl 1 (pc' := 269) (L' := [(5, .int (Int32.ofNat D)), (8, .int 2), (7, .retAddr 45), (6, .int (Int32.ofNat i)), (0, .ref a), (2, .int (Int32.ofNat t)), (3, v1), (4, .null)]) (st' := [.ref a, .int vl, .retAddr 45, .int (Int32.ofNat D), .ref sa]) rfl ?_
  refine At.gf rfl (by decide) ho rfl ?_
  refine At.go (q := xm143) rfl 3 (pc' := 276) (L' := [(5, .int (Int32.ofNat D)), (8, .int 2), (7, .retAddr 45), (6, .int (Int32.ofNat i)), (0, .ref a), (2, .int (Int32.ofNat t)), (3, v1), (4, .null)]) (st' := [.int ((Int32.ofNat D) + 1), .ref sa, .int vl, .retAddr 45, .int (Int32.ofNat D), .ref sa]) rfl ?_
  refine At.al rfl hsa (by decide) rfl (by rw [iN_s]; exact iN_nn (by omega)) (by rw [iN_s, iN_tn (by omega), List.getElem?_map, hvr]; rfl) ?_
  refine At.clp (as := [.retAddr 45, .int vl, .int vr]) (rest := [.int (Int32.ofNat D), .ref sa]) rfl (by decide) rfl (Nat.le_of_ble_eq_true rfl) (Nat.le_of_ble_eq_true rfl) rfl (Nat.le_of_ble_eq_true rfl) (m_combined45 vl vr) ?_
  refine At.as (j := Int32.ofNat D) rfl hsa (by decide) rfl (iN_nn (by omega)) (by rw [iN_tn (by omega), List.length_map]; omega) ?_
  rw [iN_tn (by omega)]
  refine At.go (q := xm143) rfl 1 (pc' := 284) (L' := [(5, .int ((Int32.ofNat D) + 1)), (8, .int 2), (7, .retAddr 45), (6, .int (Int32.ofNat i)), (0, .ref a), (2, .int (Int32.ofNat t)), (3, v1), (4, .null)]) (st' := []) rfl ?_
  refine At.go (q := xm143) rfl 1 (pc' := 287) (L' := [(6, .int ((Int32.ofNat i) + 1)), (5, .int ((Int32.ofNat D) + 1)), (8, .int 2), (7, .retAddr 45), (0, .ref a), (2, .int (Int32.ofNat t)), (3, v1), (4, .null)]) (st' := []) rfl ?_
  refine At.go (q := xm143) rfl 1 (pc' := 10) (L' := [(6, .int ((Int32.ofNat i) + 1)), (5, .int ((Int32.ofNat D) + 1)), (8, .int 2), (7, .retAddr 45), (0, .ref a), (2, .int (Int32.ofNat t)), (3, v1), (4, .null)]) (st' := []) rfl ?_
  rw [iN_s, iN_s]
  refine At.wk (L' := [(5, .int (Int32.ofNat (D + 1))), (6, .int (Int32.ofNat (i + 1))), (0, .ref a), (2, .int (Int32.ofNat t)), (3, v1), (4, .null)]) (List.forall_mem_cons.mpr ⟨List.mem_of_getElem? (i := 1) rfl, (List.forall_mem_cons.mpr ⟨List.mem_of_getElem? (i := 0) rfl, (List.forall_mem_cons.mpr ⟨List.mem_of_getElem? (i := 4) rfl, (List.forall_mem_cons.mpr ⟨List.mem_of_getElem? (i := 5) rfl, (List.forall_mem_cons.mpr ⟨List.mem_of_getElem? (i := 6) rfl, (List.forall_mem_cons.mpr ⟨List.mem_of_getElem? (i := 7) rfl, (fun _ h => (List.not_mem_nil h).elim)⟩)⟩)⟩)⟩)⟩)⟩) (show ([6, 5, 8, 7, 0, 2, 3, 4] : List Nat).Nodup by decide) ?_
  have hK9 := hK
  rw [List.map_set] at hK9
  exact hK9
theorem res_w48n {S : List Int32} {hp : List XC} {nc ns : Nat} {Q : XO → Prop} {a oa aa pa sa wa n i t D : Nat} {ws v1 : Value} {es : List Value} {gs vs : List Int32} (ho : hp[a]? = some (.inr (5, [.ref oa, .ref aa, .ref pa, .ref sa, .ref wa, ws, .int (Int32.ofNat n)]))) (hoa : hp[oa]? = some (.inl (27, es))) (haa : hp[aa]? = some (.inl (14, gs.map Value.int))) (hsa : hp[sa]? = some (.inl (16, vs.map Value.int))) (hes : es[i]? = some (.retAddr 48)) (hi : i < n) (hn : n ≤ 1000) (hgl : gs.length ≤ 1000) (hvl9 : vs.length ≤ 1000) (hD : D + 2 < vs.length + 1) {vl vr : Int32} (hvl : vs[D]? = some vl) (hvr : vs[D + 1]? = some vr)  (hK : At S 4 143 10 [(5, .int (Int32.ofNat (D + 1))), (6, .int (Int32.ofNat (i + 1))), (0, .ref a), (2, .int (Int32.ofNat t)), (3, v1), (4, .null)] [] (hp.set sa (.inl (16, (vs.set D (cmb48 vl vr)).map Value.int))) nc ns Q) : At S 4 143 35 [(5, .int (Int32.ofNat (D + 2))), (6, .int (Int32.ofNat i)), (0, .ref a), (2, .int (Int32.ofNat t)), (3, v1), (4, .null)] [] hp nc ns Q := by
  have hls := (List.getElem?_eq_some_iff.mp hes).1
  refine At.go (q := xm143) rfl 1 (pc' := 36) (L' := [(5, .int (Int32.ofNat (D + 2))), (6, .int (Int32.ofNat i)), (0, .ref a), (2, .int (Int32.ofNat t)), (3, v1), (4, .null)]) (st' := [.ref a]) rfl ?_
  refine At.gf rfl (by decide) ho rfl ?_
  refine At.go (q := xm143) rfl 1 (pc' := 41) (L' := [(5, .int (Int32.ofNat (D + 2))), (6, .int (Int32.ofNat i)), (0, .ref a), (2, .int (Int32.ofNat t)), (3, v1), (4, .null)]) (st' := [.int (Int32.ofNat i), .ref oa]) rfl ?_
  refine At.ql rfl hoa (by decide) rfl (iN_nn (by omega)) (by rw [iN_tn (by omega)]; exact hes) rfl ?_
  refine At.go (q := xm143) rfl 2 (pc' := 46) (L' := [(7, .retAddr 48), (5, .int (Int32.ofNat (D + 2))), (6, .int (Int32.ofNat i)), (0, .ref a), (2, .int (Int32.ofNat t)), (3, v1), (4, .null)]) (st' := [.retAddr 48]) rfl ?_
  refine At.gk rfl (by decide) rfl rfl ?_
  refine At.go (q := xm143) rfl 2 (pc' := 58) (L' := [(7, .retAddr 48), (5, .int (Int32.ofNat (D + 2))), (6, .int (Int32.ofNat i)), (0, .ref a), (2, .int (Int32.ofNat t)), (3, v1), (4, .null)]) (st' := [.retAddr 48]) rfl ?_
  refine At.gk rfl (by decide) rfl rfl ?_
  refine At.go (q := xm143) rfl 6 (pc' := 77) (L' := [(8, .int 2), (7, .retAddr 48), (5, .int (Int32.ofNat (D + 2))), (6, .int (Int32.ofNat i)), (0, .ref a), (2, .int (Int32.ofNat t)), (3, v1), (4, .null)]) (st' := [.int 2, .int (Int32.ofNat (D + 2))]) rfl ?_
  refine At.ic2 (tgt := 93) rfl rfl (fun h => absurd (of_decide_eq_true h) (fun h => absurd ((iN_lt (a := (D + 2)) (b := 2) (by omega) (by omega)).mp h) (by omega))) (fun _ => ?_)
  refine At.go (q := xm143) rfl 4 (pc' := 86) (L' := [(8, .int 2), (7, .retAddr 48), (5, .int (Int32.ofNat (D + 2))), (6, .int (Int32.ofNat i)), (0, .ref a), (2, .int (Int32.ofNat t)), (3, v1), (4, .null)]) (st' := [.ref a, .int ((Int32.ofNat (D + 2)) - 2)]) rfl ?_
  refine At.gf rfl (by decide) ho rfl ?_
  refine At.ln rfl hsa ?_
  rw [iN_m3]
  refine At.ic2 (tgt := 96) rfl rfl (fun _ => ?_) (fun h => absurd (decide_eq_true ((iN_lt (a := D) (b := vs.length) (by omega) (by omega)).mpr (by omega))) (by rw [List.length_map] at h; rw [show decide (Int32.ofNat D < Int32.ofNat vs.length) = false from h]; decide))
  refine At.go (q := xm143) rfl 3 (pc' := 101) (L' := [(8, .int 2), (7, .retAddr 48), (5, .int (Int32.ofNat (D + 2))), (6, .int (Int32.ofNat i)), (0, .ref a), (2, .int (Int32.ofNat t)), (3, v1), (4, .null)]) (st' := [.int ((Int32.ofNat (D + 2)) - 2)]) rfl ?_
  rw [iN_m3]
  refine At.go (q := xm143) rfl 3 (pc' := 108) (L' := [(5, .int (Int32.ofNat D)), (8, .int 2), (7, .retAddr 48), (6, .int (Int32.ofNat i)), (0, .ref a), (2, .int (Int32.ofNat t)), (3, v1), (4, .null)]) (st' := [.retAddr 2, .retAddr 48]) rfl ?_
  refine At.acn (tgt := 127) (b := false) rfl rfl rfl (fun _ => ?_) (fun h => absurd h (by decide))
  refine At.go (q := xm143) rfl 2 (pc' := 132) (L' := [(5, .int (Int32.ofNat D)), (8, .int 2), (7, .retAddr 48), (6, .int (Int32.ofNat i)), (0, .ref a), (2, .int (Int32.ofNat t)), (3, v1), (4, .null)]) (st' := [.retAddr 29, .retAddr 48]) rfl ?_
  refine At.acn (tgt := 173) (b := false) rfl rfl rfl (fun _ => ?_) (fun h => absurd h (by decide))
  refine At.go (q := xm143) rfl 9 (pc' := 246) (L' := [(5, .int (Int32.ofNat D)), (8, .int 2), (7, .retAddr 48), (6, .int (Int32.ofNat i)), (0, .ref a), (2, .int (Int32.ofNat t)), (3, v1), (4, .null)]) (st' := [.ref a, .int ((Int32.ofNat D) + 1)]) rfl ?_
  refine At.gf rfl (by decide) ho rfl ?_
  refine At.ln rfl hsa ?_
  rw [iN_s]
  refine At.ic2 (tgt := 281) rfl rfl (fun h => absurd (of_decide_eq_true h) (fun h => absurd ((iN_le (a := vs.length) (b := D + 1) (by omega) (by omega)).mp (by rw [List.length_map] at h; exact h)) (by omega))) (fun _ => ?_)
  refine At.go (q := xm143) rfl 1 (pc' := 254) (L' := [(5, .int (Int32.ofNat D)), (8, .int 2), (7, .retAddr 48), (6, .int (Int32.ofNat i)), (0, .ref a), (2, .int (Int32.ofNat t)), (3, v1), (4, .null)]) (st' := [.ref a]) rfl ?_
  refine At.gf rfl (by decide) ho rfl ?_
  refine At.go (q := xm143) rfl 3 (pc' := 262) (L' := [(5, .int (Int32.ofNat D)), (8, .int 2), (7, .retAddr 48), (6, .int (Int32.ofNat i)), (0, .ref a), (2, .int (Int32.ofNat t)), (3, v1), (4, .null)]) (st' := [.ref a, .retAddr 48, .int (Int32.ofNat D), .ref sa]) rfl ?_
  refine At.gf rfl (by decide) ho rfl ?_
  refine At.go (q := xm143) rfl 1 (pc' := 267) (L' := [(5, .int (Int32.ofNat D)), (8, .int 2), (7, .retAddr 48), (6, .int (Int32.ofNat i)), (0, .ref a), (2, .int (Int32.ofNat t)), (3, v1), (4, .null)]) (st' := [.int (Int32.ofNat D), .ref sa, .retAddr 48, .int (Int32.ofNat D), .ref sa]) rfl ?_
  refine At.al rfl hsa (by decide) rfl (iN_nn (by omega)) (by rw [iN_tn (by omega), List.getElem?_map, hvl]; rfl) ?_
  refine At.go (q := xm143) rfl 1 (pc' := 269) (L' := [(5, .int (Int32.ofNat D)), (8, .int 2), (7, .retAddr 48), (6, .int (Int32.ofNat i)), (0, .ref a), (2, .int (Int32.ofNat t)), (3, v1), (4, .null)]) (st' := [.ref a, .int vl, .retAddr 48, .int (Int32.ofNat D), .ref sa]) rfl ?_
  refine At.gf rfl (by decide) ho rfl ?_
  refine At.go (q := xm143) rfl 3 (pc' := 276) (L' := [(5, .int (Int32.ofNat D)), (8, .int 2), (7, .retAddr 48), (6, .int (Int32.ofNat i)), (0, .ref a), (2, .int (Int32.ofNat t)), (3, v1), (4, .null)]) (st' := [.int ((Int32.ofNat D) + 1), .ref sa, .int vl, .retAddr 48, .int (Int32.ofNat D), .ref sa]) rfl ?_
  refine At.al rfl hsa (by decide) rfl (by rw [iN_s]; exact iN_nn (by omega)) (by rw [iN_s, iN_tn (by omega), List.getElem?_map, hvr]; rfl) ?_
  refine At.clp (as := [.retAddr 48, .int vl, .int vr]) (rest := [.int (Int32.ofNat D), .ref sa]) rfl (by decide) rfl (Nat.le_of_ble_eq_true rfl) (Nat.le_of_ble_eq_true rfl) rfl (Nat.le_of_ble_eq_true rfl) (m_combined48 vl vr) ?_
  refine At.as (j := Int32.ofNat D) rfl hsa (by decide) rfl (iN_nn (by omega)) (by rw [iN_tn (by omega), List.length_map]; omega) ?_
  rw [iN_tn (by omega)]
  refine At.go (q := xm143) rfl 1 (pc' := 284) (L' := [(5, .int ((Int32.ofNat D) + 1)), (8, .int 2), (7, .retAddr 48), (6, .int (Int32.ofNat i)), (0, .ref a), (2, .int (Int32.ofNat t)), (3, v1), (4, .null)]) (st' := []) rfl ?_
  refine At.go (q := xm143) rfl 1 (pc' := 287) (L' := [(6, .int ((Int32.ofNat i) + 1)), (5, .int ((Int32.ofNat D) + 1)), (8, .int 2), (7, .retAddr 48), (0, .ref a), (2, .int (Int32.ofNat t)), (3, v1), (4, .null)]) (st' := []) rfl ?_
  refine At.go (q := xm143) rfl 1 (pc' := 10) (L' := [(6, .int ((Int32.ofNat i) + 1)), (5, .int ((Int32.ofNat D) + 1)), (8, .int 2), (7, .retAddr 48), (0, .ref a), (2, .int (Int32.ofNat t)), (3, v1), (4, .null)]) (st' := []) rfl ?_
  rw [iN_s, iN_s]
  refine At.wk (L' := [(5, .int (Int32.ofNat (D + 1))), (6, .int (Int32.ofNat (i + 1))), (0, .ref a), (2, .int (Int32.ofNat t)), (3, v1), (4, .null)]) (List.forall_mem_cons.mpr ⟨List.mem_of_getElem? (i := 1) rfl, (List.forall_mem_cons.mpr ⟨List.mem_of_getElem? (i := 0) rfl, (List.forall_mem_cons.mpr ⟨List.mem_of_getElem? (i := 4) rfl, (List.forall_mem_cons.mpr ⟨List.mem_of_getElem? (i := 5) rfl, (List.forall_mem_cons.mpr ⟨List.mem_of_getElem? (i := 6) rfl, (List.forall_mem_cons.mpr ⟨List.mem_of_getElem? (i := 7) rfl, (fun _ h => (List.not_mem_nil h).elim)⟩)⟩)⟩)⟩)⟩)⟩) (show ([6, 5, 8, 7, 0, 2, 3, 4] : List Nat).Nodup by decide) ?_
  have hK9 := hK
  rw [List.map_set] at hK9
  exact hK9
theorem res_w49n {S : List Int32} {hp : List XC} {nc ns : Nat} {Q : XO → Prop} {a oa aa pa sa wa n i t D : Nat} {ws v1 : Value} {es : List Value} {gs vs : List Int32} (ho : hp[a]? = some (.inr (5, [.ref oa, .ref aa, .ref pa, .ref sa, .ref wa, ws, .int (Int32.ofNat n)]))) (hoa : hp[oa]? = some (.inl (27, es))) (haa : hp[aa]? = some (.inl (14, gs.map Value.int))) (hsa : hp[sa]? = some (.inl (16, vs.map Value.int))) (hes : es[i]? = some (.retAddr 49)) (hi : i < n) (hn : n ≤ 1000) (hgl : gs.length ≤ 1000) (hvl9 : vs.length ≤ 1000) (hD : D + 2 < vs.length + 1) {vl vr : Int32} (hvl : vs[D]? = some vl) (hvr : vs[D + 1]? = some vr)  (hK : At S 4 143 10 [(5, .int (Int32.ofNat (D + 1))), (6, .int (Int32.ofNat (i + 1))), (0, .ref a), (2, .int (Int32.ofNat t)), (3, v1), (4, .null)] [] (hp.set sa (.inl (16, (vs.set D (cmb49 vl vr)).map Value.int))) nc ns Q) : At S 4 143 35 [(5, .int (Int32.ofNat (D + 2))), (6, .int (Int32.ofNat i)), (0, .ref a), (2, .int (Int32.ofNat t)), (3, v1), (4, .null)] [] hp nc ns Q := by
  have hls := (List.getElem?_eq_some_iff.mp hes).1
  refine At.go (q := xm143) rfl 1 (pc' := 36) (L' := [(5, .int (Int32.ofNat (D + 2))), (6, .int (Int32.ofNat i)), (0, .ref a), (2, .int (Int32.ofNat t)), (3, v1), (4, .null)]) (st' := [.ref a]) rfl ?_
  refine At.gf rfl (by decide) ho rfl ?_
  refine At.go (q := xm143) rfl 1 (pc' := 41) (L' := [(5, .int (Int32.ofNat (D + 2))), (6, .int (Int32.ofNat i)), (0, .ref a), (2, .int (Int32.ofNat t)), (3, v1), (4, .null)]) (st' := [.int (Int32.ofNat i), .ref oa]) rfl ?_
  refine At.ql rfl hoa (by decide) rfl (iN_nn (by omega)) (by rw [iN_tn (by omega)]; exact hes) rfl ?_
  refine At.go (q := xm143) rfl 2 (pc' := 46) (L' := [(7, .retAddr 49), (5, .int (Int32.ofNat (D + 2))), (6, .int (Int32.ofNat i)), (0, .ref a), (2, .int (Int32.ofNat t)), (3, v1), (4, .null)]) (st' := [.retAddr 49]) rfl ?_
  refine At.gk rfl (by decide) rfl rfl ?_
  refine At.go (q := xm143) rfl 2 (pc' := 58) (L' := [(7, .retAddr 49), (5, .int (Int32.ofNat (D + 2))), (6, .int (Int32.ofNat i)), (0, .ref a), (2, .int (Int32.ofNat t)), (3, v1), (4, .null)]) (st' := [.retAddr 49]) rfl ?_
  refine At.gk rfl (by decide) rfl rfl ?_
  refine At.go (q := xm143) rfl 6 (pc' := 77) (L' := [(8, .int 2), (7, .retAddr 49), (5, .int (Int32.ofNat (D + 2))), (6, .int (Int32.ofNat i)), (0, .ref a), (2, .int (Int32.ofNat t)), (3, v1), (4, .null)]) (st' := [.int 2, .int (Int32.ofNat (D + 2))]) rfl ?_
  refine At.ic2 (tgt := 93) rfl rfl (fun h => absurd (of_decide_eq_true h) (fun h => absurd ((iN_lt (a := (D + 2)) (b := 2) (by omega) (by omega)).mp h) (by omega))) (fun _ => ?_)
  refine At.go (q := xm143) rfl 4 (pc' := 86) (L' := [(8, .int 2), (7, .retAddr 49), (5, .int (Int32.ofNat (D + 2))), (6, .int (Int32.ofNat i)), (0, .ref a), (2, .int (Int32.ofNat t)), (3, v1), (4, .null)]) (st' := [.ref a, .int ((Int32.ofNat (D + 2)) - 2)]) rfl ?_
  refine At.gf rfl (by decide) ho rfl ?_
  refine At.ln rfl hsa ?_
  rw [iN_m3]
  refine At.ic2 (tgt := 96) rfl rfl (fun _ => ?_) (fun h => absurd (decide_eq_true ((iN_lt (a := D) (b := vs.length) (by omega) (by omega)).mpr (by omega))) (by rw [List.length_map] at h; rw [show decide (Int32.ofNat D < Int32.ofNat vs.length) = false from h]; decide))
  refine At.go (q := xm143) rfl 3 (pc' := 101) (L' := [(8, .int 2), (7, .retAddr 49), (5, .int (Int32.ofNat (D + 2))), (6, .int (Int32.ofNat i)), (0, .ref a), (2, .int (Int32.ofNat t)), (3, v1), (4, .null)]) (st' := [.int ((Int32.ofNat (D + 2)) - 2)]) rfl ?_
  rw [iN_m3]
  refine At.go (q := xm143) rfl 3 (pc' := 108) (L' := [(5, .int (Int32.ofNat D)), (8, .int 2), (7, .retAddr 49), (6, .int (Int32.ofNat i)), (0, .ref a), (2, .int (Int32.ofNat t)), (3, v1), (4, .null)]) (st' := [.retAddr 2, .retAddr 49]) rfl ?_
  refine At.acn (tgt := 127) (b := false) rfl rfl rfl (fun _ => ?_) (fun h => absurd h (by decide))
  refine At.go (q := xm143) rfl 2 (pc' := 132) (L' := [(5, .int (Int32.ofNat D)), (8, .int 2), (7, .retAddr 49), (6, .int (Int32.ofNat i)), (0, .ref a), (2, .int (Int32.ofNat t)), (3, v1), (4, .null)]) (st' := [.retAddr 29, .retAddr 49]) rfl ?_
  refine At.acn (tgt := 173) (b := false) rfl rfl rfl (fun _ => ?_) (fun h => absurd h (by decide))
  refine At.go (q := xm143) rfl 9 (pc' := 246) (L' := [(5, .int (Int32.ofNat D)), (8, .int 2), (7, .retAddr 49), (6, .int (Int32.ofNat i)), (0, .ref a), (2, .int (Int32.ofNat t)), (3, v1), (4, .null)]) (st' := [.ref a, .int ((Int32.ofNat D) + 1)]) rfl ?_
  refine At.gf rfl (by decide) ho rfl ?_
  refine At.ln rfl hsa ?_
  rw [iN_s]
  refine At.ic2 (tgt := 281) rfl rfl (fun h => absurd (of_decide_eq_true h) (fun h => absurd ((iN_le (a := vs.length) (b := D + 1) (by omega) (by omega)).mp (by rw [List.length_map] at h; exact h)) (by omega))) (fun _ => ?_)
  refine At.go (q := xm143) rfl 1 (pc' := 254) (L' := [(5, .int (Int32.ofNat D)), (8, .int 2), (7, .retAddr 49), (6, .int (Int32.ofNat i)), (0, .ref a), (2, .int (Int32.ofNat t)), (3, v1), (4, .null)]) (st' := [.ref a]) rfl ?_
  refine At.gf rfl (by decide) ho rfl ?_
  refine At.go (q := xm143) rfl 3 (pc' := 262) (L' := [(5, .int (Int32.ofNat D)), (8, .int 2), (7, .retAddr 49), (6, .int (Int32.ofNat i)), (0, .ref a), (2, .int (Int32.ofNat t)), (3, v1), (4, .null)]) (st' := [.ref a, .retAddr 49, .int (Int32.ofNat D), .ref sa]) rfl ?_
  refine At.gf rfl (by decide) ho rfl ?_
  refine At.go (q := xm143) rfl 1 (pc' := 267) (L' := [(5, .int (Int32.ofNat D)), (8, .int 2), (7, .retAddr 49), (6, .int (Int32.ofNat i)), (0, .ref a), (2, .int (Int32.ofNat t)), (3, v1), (4, .null)]) (st' := [.int (Int32.ofNat D), .ref sa, .retAddr 49, .int (Int32.ofNat D), .ref sa]) rfl ?_
  refine At.al rfl hsa (by decide) rfl (iN_nn (by omega)) (by rw [iN_tn (by omega), List.getElem?_map, hvl]; rfl) ?_
  refine At.go (q := xm143) rfl 1 (pc' := 269) (L' := [(5, .int (Int32.ofNat D)), (8, .int 2), (7, .retAddr 49), (6, .int (Int32.ofNat i)), (0, .ref a), (2, .int (Int32.ofNat t)), (3, v1), (4, .null)]) (st' := [.ref a, .int vl, .retAddr 49, .int (Int32.ofNat D), .ref sa]) rfl ?_
  refine At.gf rfl (by decide) ho rfl ?_
  refine At.go (q := xm143) rfl 3 (pc' := 276) (L' := [(5, .int (Int32.ofNat D)), (8, .int 2), (7, .retAddr 49), (6, .int (Int32.ofNat i)), (0, .ref a), (2, .int (Int32.ofNat t)), (3, v1), (4, .null)]) (st' := [.int ((Int32.ofNat D) + 1), .ref sa, .int vl, .retAddr 49, .int (Int32.ofNat D), .ref sa]) rfl ?_
  refine At.al rfl hsa (by decide) rfl (by rw [iN_s]; exact iN_nn (by omega)) (by rw [iN_s, iN_tn (by omega), List.getElem?_map, hvr]; rfl) ?_
  refine At.clp (as := [.retAddr 49, .int vl, .int vr]) (rest := [.int (Int32.ofNat D), .ref sa]) rfl (by decide) rfl (Nat.le_of_ble_eq_true rfl) (Nat.le_of_ble_eq_true rfl) rfl (Nat.le_of_ble_eq_true rfl) (m_combined49 vl vr) ?_
  refine At.as (j := Int32.ofNat D) rfl hsa (by decide) rfl (iN_nn (by omega)) (by rw [iN_tn (by omega), List.length_map]; omega) ?_
  rw [iN_tn (by omega)]
  refine At.go (q := xm143) rfl 1 (pc' := 284) (L' := [(5, .int ((Int32.ofNat D) + 1)), (8, .int 2), (7, .retAddr 49), (6, .int (Int32.ofNat i)), (0, .ref a), (2, .int (Int32.ofNat t)), (3, v1), (4, .null)]) (st' := []) rfl ?_
  refine At.go (q := xm143) rfl 1 (pc' := 287) (L' := [(6, .int ((Int32.ofNat i) + 1)), (5, .int ((Int32.ofNat D) + 1)), (8, .int 2), (7, .retAddr 49), (0, .ref a), (2, .int (Int32.ofNat t)), (3, v1), (4, .null)]) (st' := []) rfl ?_
  refine At.go (q := xm143) rfl 1 (pc' := 10) (L' := [(6, .int ((Int32.ofNat i) + 1)), (5, .int ((Int32.ofNat D) + 1)), (8, .int 2), (7, .retAddr 49), (0, .ref a), (2, .int (Int32.ofNat t)), (3, v1), (4, .null)]) (st' := []) rfl ?_
  rw [iN_s, iN_s]
  refine At.wk (L' := [(5, .int (Int32.ofNat (D + 1))), (6, .int (Int32.ofNat (i + 1))), (0, .ref a), (2, .int (Int32.ofNat t)), (3, v1), (4, .null)]) (List.forall_mem_cons.mpr ⟨List.mem_of_getElem? (i := 1) rfl, (List.forall_mem_cons.mpr ⟨List.mem_of_getElem? (i := 0) rfl, (List.forall_mem_cons.mpr ⟨List.mem_of_getElem? (i := 4) rfl, (List.forall_mem_cons.mpr ⟨List.mem_of_getElem? (i := 5) rfl, (List.forall_mem_cons.mpr ⟨List.mem_of_getElem? (i := 6) rfl, (List.forall_mem_cons.mpr ⟨List.mem_of_getElem? (i := 7) rfl, (fun _ h => (List.not_mem_nil h).elim)⟩)⟩)⟩)⟩)⟩)⟩) (show ([6, 5, 8, 7, 0, 2, 3, 4] : List Nat).Nodup by decide) ?_
  have hK9 := hK
  rw [List.map_set] at hK9
  exact hK9
theorem res_numr {S : List Int32} {hp : List XC} {nc ns : Nat} {Q : XO → Prop} {a oa aa pa sa wa n i t D : Nat} {ws v1 : Value} {es : List Value} {gs vs : List Int32} (ho : hp[a]? = some (.inr (5, [.ref oa, .ref aa, .ref pa, .ref sa, .ref wa, ws, .int (Int32.ofNat n)]))) (hoa : hp[oa]? = some (.inl (27, es))) (haa : hp[aa]? = some (.inl (14, gs.map Value.int))) (hsa : hp[sa]? = some (.inl (16, vs.map Value.int))) (hes : es[i]? = some (.retAddr 2)) (hi : i < n) (hn : n ≤ 1000) (hgl : gs.length ≤ 1000) (hvl9 : vs.length ≤ 1000) (hD : D + 1 < vs.length + 1) {o2 : Nat} {x : Int32} (hng : n ≤ gs.length) (hg : gs[i]? = some x) (hgl9 : gs.length ≤ 100000) (hK : At S 4 143 10 [(5, .int (Int32.ofNat (D + 1))), (6, .int (Int32.ofNat (i + 1))), (0, .ref a), (2, .int (Int32.ofNat t)), (3, v1), (4, .ref o2)] [] (hp.set sa (.inl (16, (vs.set D x).map Value.int))) nc ns Q) : At S 4 143 35 [(5, .int (Int32.ofNat D)), (6, .int (Int32.ofNat i)), (0, .ref a), (2, .int (Int32.ofNat t)), (3, v1), (4, .ref o2)] [] hp nc ns Q := by
  have hls := (List.getElem?_eq_some_iff.mp hes).1
  refine At.go (q := xm143) rfl 1 (pc' := 36) (L' := [(5, .int (Int32.ofNat D)), (6, .int (Int32.ofNat i)), (0, .ref a), (2, .int (Int32.ofNat t)), (3, v1), (4, .ref o2)]) (st' := [.ref a]) rfl ?_
  refine At.gf rfl (by decide) ho rfl ?_
  refine At.go (q := xm143) rfl 1 (pc' := 41) (L' := [(5, .int (Int32.ofNat D)), (6, .int (Int32.ofNat i)), (0, .ref a), (2, .int (Int32.ofNat t)), (3, v1), (4, .ref o2)]) (st' := [.int (Int32.ofNat i), .ref oa]) rfl ?_
  refine At.ql rfl hoa (by decide) rfl (iN_nn (by omega)) (by rw [iN_tn (by omega)]; exact hes) rfl ?_
  refine At.go (q := xm143) rfl 2 (pc' := 46) (L' := [(7, .retAddr 2), (5, .int (Int32.ofNat D)), (6, .int (Int32.ofNat i)), (0, .ref a), (2, .int (Int32.ofNat t)), (3, v1), (4, .ref o2)]) (st' := [.retAddr 2]) rfl ?_
  refine At.gk rfl (by decide) rfl rfl ?_
  refine At.go (q := xm143) rfl 6 (pc' := 77) (L' := [(8, .int 0), (7, .retAddr 2), (5, .int (Int32.ofNat D)), (6, .int (Int32.ofNat i)), (0, .ref a), (2, .int (Int32.ofNat t)), (3, v1), (4, .ref o2)]) (st' := [.int 0, .int (Int32.ofNat D)]) rfl ?_
  refine At.ic2 (tgt := 93) rfl rfl (fun h => absurd (of_decide_eq_true h) (fun h => absurd ((iN_lt (a := D) (b := 0) (by omega) (by omega)).mp h) (by omega))) (fun _ => ?_)
  refine At.go (q := xm143) rfl 4 (pc' := 86) (L' := [(8, .int 0), (7, .retAddr 2), (5, .int (Int32.ofNat D)), (6, .int (Int32.ofNat i)), (0, .ref a), (2, .int (Int32.ofNat t)), (3, v1), (4, .ref o2)]) (st' := [.ref a, .int ((Int32.ofNat D) - 0)]) rfl ?_
  refine At.gf rfl (by decide) ho rfl ?_
  refine At.ln rfl hsa ?_
  rw [iN_0s]
  refine At.ic2 (tgt := 96) rfl rfl (fun _ => ?_) (fun h => absurd (decide_eq_true ((iN_lt (a := D) (b := vs.length) (by omega) (by omega)).mpr (by omega))) (by rw [List.length_map] at h; rw [show decide (Int32.ofNat D < Int32.ofNat vs.length) = false from h]; decide))
  refine At.go (q := xm143) rfl 3 (pc' := 101) (L' := [(8, .int 0), (7, .retAddr 2), (5, .int (Int32.ofNat D)), (6, .int (Int32.ofNat i)), (0, .ref a), (2, .int (Int32.ofNat t)), (3, v1), (4, .ref o2)]) (st' := [.int ((Int32.ofNat D) - 0)]) rfl ?_
  rw [iN_0s]
  refine At.go (q := xm143) rfl 3 (pc' := 108) (L' := [(5, .int (Int32.ofNat D)), (8, .int 0), (7, .retAddr 2), (6, .int (Int32.ofNat i)), (0, .ref a), (2, .int (Int32.ofNat t)), (3, v1), (4, .ref o2)]) (st' := [.retAddr 2, .retAddr 2]) rfl ?_
  refine At.acn (tgt := 127) (b := true) rfl rfl rfl (fun h => absurd h (by decide)) (fun _ => ?_)
  refine At.go (q := xm143) rfl 1 (pc' := 112) (L' := [(5, .int (Int32.ofNat D)), (8, .int 0), (7, .retAddr 2), (6, .int (Int32.ofNat i)), (0, .ref a), (2, .int (Int32.ofNat t)), (3, v1), (4, .ref o2)]) (st' := [.ref a]) rfl ?_
  refine At.gf rfl (by decide) ho rfl ?_
  refine At.go (q := xm143) rfl 3 (pc' := 120) (L' := [(5, .int (Int32.ofNat D)), (8, .int 0), (7, .retAddr 2), (6, .int (Int32.ofNat i)), (0, .ref a), (2, .int (Int32.ofNat t)), (3, v1), (4, .ref o2)]) (st' := [.int (Int32.ofNat i), .ref a, .int (Int32.ofNat D), .ref sa]) rfl ?_
  refine At.clp (as := [.ref a, .int (Int32.ofNat i)]) (rest := [.int (Int32.ofNat D), .ref sa]) rfl (by decide) rfl (Nat.le_of_ble_eq_true rfl) (Nat.le_of_ble_eq_true rfl) (xrck_o (by decide) (by decide) ho (by decide)) (Nat.le_of_ble_eq_true rfl) (m_farg ho hi haa hgl9 hng hg) ?_
  refine At.as (j := Int32.ofNat D) rfl hsa (by decide) rfl (iN_nn (by omega)) (by rw [iN_tn (by omega), List.length_map]; omega) ?_
  rw [iN_tn (by omega)]
  refine At.go (q := xm143) rfl 1 (pc' := 281) (L' := [(5, .int (Int32.ofNat D)), (8, .int 0), (7, .retAddr 2), (6, .int (Int32.ofNat i)), (0, .ref a), (2, .int (Int32.ofNat t)), (3, v1), (4, .ref o2)]) (st' := []) rfl ?_
  refine At.go (q := xm143) rfl 1 (pc' := 284) (L' := [(5, .int ((Int32.ofNat D) + 1)), (8, .int 0), (7, .retAddr 2), (6, .int (Int32.ofNat i)), (0, .ref a), (2, .int (Int32.ofNat t)), (3, v1), (4, .ref o2)]) (st' := []) rfl ?_
  refine At.go (q := xm143) rfl 1 (pc' := 287) (L' := [(6, .int ((Int32.ofNat i) + 1)), (5, .int ((Int32.ofNat D) + 1)), (8, .int 0), (7, .retAddr 2), (0, .ref a), (2, .int (Int32.ofNat t)), (3, v1), (4, .ref o2)]) (st' := []) rfl ?_
  refine At.go (q := xm143) rfl 1 (pc' := 10) (L' := [(6, .int ((Int32.ofNat i) + 1)), (5, .int ((Int32.ofNat D) + 1)), (8, .int 0), (7, .retAddr 2), (0, .ref a), (2, .int (Int32.ofNat t)), (3, v1), (4, .ref o2)]) (st' := []) rfl ?_
  rw [iN_s, iN_s]
  refine At.wk (L' := [(5, .int (Int32.ofNat (D + 1))), (6, .int (Int32.ofNat (i + 1))), (0, .ref a), (2, .int (Int32.ofNat t)), (3, v1), (4, .ref o2)]) (List.forall_mem_cons.mpr ⟨List.mem_of_getElem? (i := 1) rfl, (List.forall_mem_cons.mpr ⟨List.mem_of_getElem? (i := 0) rfl, (List.forall_mem_cons.mpr ⟨List.mem_of_getElem? (i := 4) rfl, (List.forall_mem_cons.mpr ⟨List.mem_of_getElem? (i := 5) rfl, (List.forall_mem_cons.mpr ⟨List.mem_of_getElem? (i := 6) rfl, (List.forall_mem_cons.mpr ⟨List.mem_of_getElem? (i := 7) rfl, (fun _ h => (List.not_mem_nil h).elim)⟩)⟩)⟩)⟩)⟩)⟩) (show ([6, 5, 8, 7, 0, 2, 3, 4] : List Nat).Nodup by decide) ?_
  have hK9 := hK
  rw [List.map_set] at hK9
  exact hK9
theorem res_noner {S : List Int32} {hp : List XC} {nc ns : Nat} {Q : XO → Prop} {a oa aa pa sa wa n i t D : Nat} {ws v1 : Value} {es : List Value} {gs vs : List Int32} (ho : hp[a]? = some (.inr (5, [.ref oa, .ref aa, .ref pa, .ref sa, .ref wa, ws, .int (Int32.ofNat n)]))) (hoa : hp[oa]? = some (.inl (27, es))) (haa : hp[aa]? = some (.inl (14, gs.map Value.int))) (hsa : hp[sa]? = some (.inl (16, vs.map Value.int))) (hes : es[i]? = some (.retAddr 34)) (hi : i < n) (hn : n ≤ 1000) (hgl : gs.length ≤ 1000) (hvl9 : vs.length ≤ 1000) (hD : D + 1 < vs.length + 1) {o2 : Nat}  (hK : At S 4 143 10 [(5, .int (Int32.ofNat (D + 1))), (6, .int (Int32.ofNat (i + 1))), (0, .ref a), (2, .int (Int32.ofNat t)), (3, v1), (4, .ref o2)] [] (hp.set sa (.inl (16, (vs.set D (-1000000000)).map Value.int))) nc ns Q) : At S 4 143 35 [(5, .int (Int32.ofNat D)), (6, .int (Int32.ofNat i)), (0, .ref a), (2, .int (Int32.ofNat t)), (3, v1), (4, .ref o2)] [] hp nc ns Q := by
  have hls := (List.getElem?_eq_some_iff.mp hes).1
  refine At.go (q := xm143) rfl 1 (pc' := 36) (L' := [(5, .int (Int32.ofNat D)), (6, .int (Int32.ofNat i)), (0, .ref a), (2, .int (Int32.ofNat t)), (3, v1), (4, .ref o2)]) (st' := [.ref a]) rfl ?_
  refine At.gf rfl (by decide) ho rfl ?_
  refine At.go (q := xm143) rfl 1 (pc' := 41) (L' := [(5, .int (Int32.ofNat D)), (6, .int (Int32.ofNat i)), (0, .ref a), (2, .int (Int32.ofNat t)), (3, v1), (4, .ref o2)]) (st' := [.int (Int32.ofNat i), .ref oa]) rfl ?_
  refine At.ql rfl hoa (by decide) rfl (iN_nn (by omega)) (by rw [iN_tn (by omega)]; exact hes) rfl ?_
  refine At.go (q := xm143) rfl 2 (pc' := 46) (L' := [(7, .retAddr 34), (5, .int (Int32.ofNat D)), (6, .int (Int32.ofNat i)), (0, .ref a), (2, .int (Int32.ofNat t)), (3, v1), (4, .ref o2)]) (st' := [.retAddr 34]) rfl ?_
  refine At.gk rfl (by decide) rfl rfl ?_
  refine At.go (q := xm143) rfl 6 (pc' := 77) (L' := [(8, .int 0), (7, .retAddr 34), (5, .int (Int32.ofNat D)), (6, .int (Int32.ofNat i)), (0, .ref a), (2, .int (Int32.ofNat t)), (3, v1), (4, .ref o2)]) (st' := [.int 0, .int (Int32.ofNat D)]) rfl ?_
  refine At.ic2 (tgt := 93) rfl rfl (fun h => absurd (of_decide_eq_true h) (fun h => absurd ((iN_lt (a := D) (b := 0) (by omega) (by omega)).mp h) (by omega))) (fun _ => ?_)
  refine At.go (q := xm143) rfl 4 (pc' := 86) (L' := [(8, .int 0), (7, .retAddr 34), (5, .int (Int32.ofNat D)), (6, .int (Int32.ofNat i)), (0, .ref a), (2, .int (Int32.ofNat t)), (3, v1), (4, .ref o2)]) (st' := [.ref a, .int ((Int32.ofNat D) - 0)]) rfl ?_
  refine At.gf rfl (by decide) ho rfl ?_
  refine At.ln rfl hsa ?_
  rw [iN_0s]
  refine At.ic2 (tgt := 96) rfl rfl (fun _ => ?_) (fun h => absurd (decide_eq_true ((iN_lt (a := D) (b := vs.length) (by omega) (by omega)).mpr (by omega))) (by rw [List.length_map] at h; rw [show decide (Int32.ofNat D < Int32.ofNat vs.length) = false from h]; decide))
  refine At.go (q := xm143) rfl 3 (pc' := 101) (L' := [(8, .int 0), (7, .retAddr 34), (5, .int (Int32.ofNat D)), (6, .int (Int32.ofNat i)), (0, .ref a), (2, .int (Int32.ofNat t)), (3, v1), (4, .ref o2)]) (st' := [.int ((Int32.ofNat D) - 0)]) rfl ?_
  rw [iN_0s]
  refine At.go (q := xm143) rfl 3 (pc' := 108) (L' := [(5, .int (Int32.ofNat D)), (8, .int 0), (7, .retAddr 34), (6, .int (Int32.ofNat i)), (0, .ref a), (2, .int (Int32.ofNat t)), (3, v1), (4, .ref o2)]) (st' := [.retAddr 2, .retAddr 34]) rfl ?_
  refine At.acn (tgt := 127) (b := false) rfl rfl rfl (fun _ => ?_) (fun h => absurd h (by decide))
  refine At.go (q := xm143) rfl 2 (pc' := 132) (L' := [(5, .int (Int32.ofNat D)), (8, .int 0), (7, .retAddr 34), (6, .int (Int32.ofNat i)), (0, .ref a), (2, .int (Int32.ofNat t)), (3, v1), (4, .ref o2)]) (st' := [.retAddr 29, .retAddr 34]) rfl ?_
  refine At.acn (tgt := 173) (b := false) rfl rfl rfl (fun _ => ?_) (fun h => absurd h (by decide))
  refine At.go (q := xm143) rfl 3 (pc' := 179) (L' := [(5, .int (Int32.ofNat D)), (8, .int 0), (7, .retAddr 34), (6, .int (Int32.ofNat i)), (0, .ref a), (2, .int (Int32.ofNat t)), (3, v1), (4, .ref o2)]) (st' := [.ref a]) rfl ?_
  refine At.gf rfl (by decide) ho rfl ?_
  refine At.go (q := xm143) rfl 3 (pc' := 189) (L' := [(5, .int (Int32.ofNat D)), (8, .int 0), (7, .retAddr 34), (6, .int (Int32.ofNat i)), (0, .ref a), (2, .int (Int32.ofNat t)), (3, v1), (4, .ref o2)]) (st' := [.retAddr 3, .retAddr 34, .int (Int32.ofNat D), .ref sa]) rfl ?_
  refine At.acn (tgt := 207) (b := false) rfl rfl rfl (fun _ => ?_) (fun h => absurd h (by decide))
  refine At.go (q := xm143) rfl 1 (pc' := 209) (L' := [(5, .int (Int32.ofNat D)), (8, .int 0), (7, .retAddr 34), (6, .int (Int32.ofNat i)), (0, .ref a), (2, .int (Int32.ofNat t)), (3, v1), (4, .ref o2)]) (st' := [.int (-1000000000), .int (Int32.ofNat D), .ref sa]) rfl ?_
  refine At.as (j := Int32.ofNat D) rfl hsa (by decide) rfl (iN_nn (by omega)) (by rw [iN_tn (by omega), List.length_map]; omega) ?_
  rw [iN_tn (by omega)]
  refine At.go (q := xm143) rfl 1 (pc' := 281) (L' := [(5, .int (Int32.ofNat D)), (8, .int 0), (7, .retAddr 34), (6, .int (Int32.ofNat i)), (0, .ref a), (2, .int (Int32.ofNat t)), (3, v1), (4, .ref o2)]) (st' := []) rfl ?_
  refine At.go (q := xm143) rfl 1 (pc' := 284) (L' := [(5, .int ((Int32.ofNat D) + 1)), (8, .int 0), (7, .retAddr 34), (6, .int (Int32.ofNat i)), (0, .ref a), (2, .int (Int32.ofNat t)), (3, v1), (4, .ref o2)]) (st' := []) rfl ?_
  refine At.go (q := xm143) rfl 1 (pc' := 287) (L' := [(6, .int ((Int32.ofNat i) + 1)), (5, .int ((Int32.ofNat D) + 1)), (8, .int 0), (7, .retAddr 34), (0, .ref a), (2, .int (Int32.ofNat t)), (3, v1), (4, .ref o2)]) (st' := []) rfl ?_
  refine At.go (q := xm143) rfl 1 (pc' := 10) (L' := [(6, .int ((Int32.ofNat i) + 1)), (5, .int ((Int32.ofNat D) + 1)), (8, .int 0), (7, .retAddr 34), (0, .ref a), (2, .int (Int32.ofNat t)), (3, v1), (4, .ref o2)]) (st' := []) rfl ?_
  rw [iN_s, iN_s]
  refine At.wk (L' := [(5, .int (Int32.ofNat (D + 1))), (6, .int (Int32.ofNat (i + 1))), (0, .ref a), (2, .int (Int32.ofNat t)), (3, v1), (4, .ref o2)]) (List.forall_mem_cons.mpr ⟨List.mem_of_getElem? (i := 1) rfl, (List.forall_mem_cons.mpr ⟨List.mem_of_getElem? (i := 0) rfl, (List.forall_mem_cons.mpr ⟨List.mem_of_getElem? (i := 4) rfl, (List.forall_mem_cons.mpr ⟨List.mem_of_getElem? (i := 5) rfl, (List.forall_mem_cons.mpr ⟨List.mem_of_getElem? (i := 6) rfl, (List.forall_mem_cons.mpr ⟨List.mem_of_getElem? (i := 7) rfl, (fun _ h => (List.not_mem_nil h).elim)⟩)⟩)⟩)⟩)⟩)⟩) (show ([6, 5, 8, 7, 0, 2, 3, 4] : List Nat).Nodup by decide) ?_
  have hK9 := hK
  rw [List.map_set] at hK9
  exact hK9
theorem res_w4r {S : List Int32} {hp : List XC} {nc ns : Nat} {Q : XO → Prop} {a oa aa pa sa wa n i t D : Nat} {ws v1 : Value} {es : List Value} {gs vs : List Int32} (ho : hp[a]? = some (.inr (5, [.ref oa, .ref aa, .ref pa, .ref sa, .ref wa, ws, .int (Int32.ofNat n)]))) (hoa : hp[oa]? = some (.inl (27, es))) (haa : hp[aa]? = some (.inl (14, gs.map Value.int))) (hsa : hp[sa]? = some (.inl (16, vs.map Value.int))) (hes : es[i]? = some (.retAddr 4)) (hi : i < n) (hn : n ≤ 1000) (hgl : gs.length ≤ 1000) (hvl9 : vs.length ≤ 1000) (hD : D + 1 < vs.length + 1) {vl : Int32} (hvl : vs[D]? = some vl) {o2 : Nat}  (hK : At S 4 143 10 [(5, .int (Int32.ofNat (D + 1))), (6, .int (Int32.ofNat (i + 1))), (0, .ref a), (2, .int (Int32.ofNat t)), (3, v1), (4, .ref o2)] [] (hp.set sa (.inl (16, (vs.set D (chg4 vl)).map Value.int))) nc ns Q) : At S 4 143 35 [(5, .int (Int32.ofNat (D + 1))), (6, .int (Int32.ofNat i)), (0, .ref a), (2, .int (Int32.ofNat t)), (3, v1), (4, .ref o2)] [] hp nc ns Q := by
  have hls := (List.getElem?_eq_some_iff.mp hes).1
  refine At.go (q := xm143) rfl 1 (pc' := 36) (L' := [(5, .int (Int32.ofNat (D + 1))), (6, .int (Int32.ofNat i)), (0, .ref a), (2, .int (Int32.ofNat t)), (3, v1), (4, .ref o2)]) (st' := [.ref a]) rfl ?_
  refine At.gf rfl (by decide) ho rfl ?_
  refine At.go (q := xm143) rfl 1 (pc' := 41) (L' := [(5, .int (Int32.ofNat (D + 1))), (6, .int (Int32.ofNat i)), (0, .ref a), (2, .int (Int32.ofNat t)), (3, v1), (4, .ref o2)]) (st' := [.int (Int32.ofNat i), .ref oa]) rfl ?_
  refine At.ql rfl hoa (by decide) rfl (iN_nn (by omega)) (by rw [iN_tn (by omega)]; exact hes) rfl ?_
  refine At.go (q := xm143) rfl 2 (pc' := 46) (L' := [(7, .retAddr 4), (5, .int (Int32.ofNat (D + 1))), (6, .int (Int32.ofNat i)), (0, .ref a), (2, .int (Int32.ofNat t)), (3, v1), (4, .ref o2)]) (st' := [.retAddr 4]) rfl ?_
  refine At.gk rfl (by decide) rfl rfl ?_
  refine At.go (q := xm143) rfl 2 (pc' := 58) (L' := [(7, .retAddr 4), (5, .int (Int32.ofNat (D + 1))), (6, .int (Int32.ofNat i)), (0, .ref a), (2, .int (Int32.ofNat t)), (3, v1), (4, .ref o2)]) (st' := [.retAddr 4]) rfl ?_
  refine At.gk rfl (by decide) rfl rfl ?_
  refine At.go (q := xm143) rfl 7 (pc' := 77) (L' := [(8, .int 1), (7, .retAddr 4), (5, .int (Int32.ofNat (D + 1))), (6, .int (Int32.ofNat i)), (0, .ref a), (2, .int (Int32.ofNat t)), (3, v1), (4, .ref o2)]) (st' := [.int 1, .int (Int32.ofNat (D + 1))]) rfl ?_
  refine At.ic2 (tgt := 93) rfl rfl (fun h => absurd (of_decide_eq_true h) (fun h => absurd ((iN_lt (a := (D + 1)) (b := 1) (by omega) (by omega)).mp h) (by omega))) (fun _ => ?_)
  refine At.go (q := xm143) rfl 4 (pc' := 86) (L' := [(8, .int 1), (7, .retAddr 4), (5, .int (Int32.ofNat (D + 1))), (6, .int (Int32.ofNat i)), (0, .ref a), (2, .int (Int32.ofNat t)), (3, v1), (4, .ref o2)]) (st' := [.ref a, .int ((Int32.ofNat (D + 1)) - 1)]) rfl ?_
  refine At.gf rfl (by decide) ho rfl ?_
  refine At.ln rfl hsa ?_
  rw [iN_m2]
  refine At.ic2 (tgt := 96) rfl rfl (fun _ => ?_) (fun h => absurd (decide_eq_true ((iN_lt (a := D) (b := vs.length) (by omega) (by omega)).mpr (by omega))) (by rw [List.length_map] at h; rw [show decide (Int32.ofNat D < Int32.ofNat vs.length) = false from h]; decide))
  refine At.go (q := xm143) rfl 3 (pc' := 101) (L' := [(8, .int 1), (7, .retAddr 4), (5, .int (Int32.ofNat (D + 1))), (6, .int (Int32.ofNat i)), (0, .ref a), (2, .int (Int32.ofNat t)), (3, v1), (4, .ref o2)]) (st' := [.int ((Int32.ofNat (D + 1)) - 1)]) rfl ?_
  rw [iN_m2]
  refine At.go (q := xm143) rfl 3 (pc' := 108) (L' := [(5, .int (Int32.ofNat D)), (8, .int 1), (7, .retAddr 4), (6, .int (Int32.ofNat i)), (0, .ref a), (2, .int (Int32.ofNat t)), (3, v1), (4, .ref o2)]) (st' := [.retAddr 2, .retAddr 4]) rfl ?_
  refine At.acn (tgt := 127) (b := false) rfl rfl rfl (fun _ => ?_) (fun h => absurd h (by decide))
  refine At.go (q := xm143) rfl 2 (pc' := 132) (L' := [(5, .int (Int32.ofNat D)), (8, .int 1), (7, .retAddr 4), (6, .int (Int32.ofNat i)), (0, .ref a), (2, .int (Int32.ofNat t)), (3, v1), (4, .ref o2)]) (st' := [.retAddr 29, .retAddr 4]) rfl ?_
  refine At.acn (tgt := 173) (b := false) rfl rfl rfl (fun _ => ?_) (fun h => absurd h (by decide))
  refine At.go (q := xm143) rfl 6 (pc' := 220) (L' := [(5, .int (Int32.ofNat D)), (8, .int 1), (7, .retAddr 4), (6, .int (Int32.ofNat i)), (0, .ref a), (2, .int (Int32.ofNat t)), (3, v1), (4, .ref o2)]) (st' := [.ref a]) rfl ?_
  refine At.gf rfl (by decide) ho rfl ?_
  refine At.go (q := xm143) rfl 3 (pc' := 228) (L' := [(5, .int (Int32.ofNat D)), (8, .int 1), (7, .retAddr 4), (6, .int (Int32.ofNat i)), (0, .ref a), (2, .int (Int32.ofNat t)), (3, v1), (4, .ref o2)]) (st' := [.ref a, .retAddr 4, .int (Int32.ofNat D), .ref sa]) rfl ?_
  refine At.gf rfl (by decide) ho rfl ?_
  refine At.go (q := xm143) rfl 1 (pc' := 233) (L' := [(5, .int (Int32.ofNat D)), (8, .int 1), (7, .retAddr 4), (6, .int (Int32.ofNat i)), (0, .ref a), (2, .int (Int32.ofNat t)), (3, v1), (4, .ref o2)]) (st' := [.int (Int32.ofNat D), .ref sa, .retAddr 4, .int (Int32.ofNat D), .ref sa]) rfl ?_
  refine At.al rfl hsa (by decide) rfl (iN_nn (by omega)) (by rw [iN_tn (by omega), List.getElem?_map, hvl]; rfl) ?_
  refine At.clp (as := [.retAddr 4, .int vl]) (rest := [.int (Int32.ofNat D), .ref sa]) rfl (by decide) rfl (Nat.le_of_ble_eq_true rfl) (Nat.le_of_ble_eq_true rfl) rfl (Nat.le_of_ble_eq_true rfl) (m_changed4 vl) ?_
  refine At.as (j := Int32.ofNat D) rfl hsa (by decide) rfl (iN_nn (by omega)) (by rw [iN_tn (by omega), List.length_map]; omega) ?_
  rw [iN_tn (by omega)]
  refine At.go (q := xm143) rfl 1 (pc' := 281) (L' := [(5, .int (Int32.ofNat D)), (8, .int 1), (7, .retAddr 4), (6, .int (Int32.ofNat i)), (0, .ref a), (2, .int (Int32.ofNat t)), (3, v1), (4, .ref o2)]) (st' := []) rfl ?_
  refine At.go (q := xm143) rfl 1 (pc' := 284) (L' := [(5, .int ((Int32.ofNat D) + 1)), (8, .int 1), (7, .retAddr 4), (6, .int (Int32.ofNat i)), (0, .ref a), (2, .int (Int32.ofNat t)), (3, v1), (4, .ref o2)]) (st' := []) rfl ?_
  refine At.go (q := xm143) rfl 1 (pc' := 287) (L' := [(6, .int ((Int32.ofNat i) + 1)), (5, .int ((Int32.ofNat D) + 1)), (8, .int 1), (7, .retAddr 4), (0, .ref a), (2, .int (Int32.ofNat t)), (3, v1), (4, .ref o2)]) (st' := []) rfl ?_
  refine At.go (q := xm143) rfl 1 (pc' := 10) (L' := [(6, .int ((Int32.ofNat i) + 1)), (5, .int ((Int32.ofNat D) + 1)), (8, .int 1), (7, .retAddr 4), (0, .ref a), (2, .int (Int32.ofNat t)), (3, v1), (4, .ref o2)]) (st' := []) rfl ?_
  rw [iN_s, iN_s]
  refine At.wk (L' := [(5, .int (Int32.ofNat (D + 1))), (6, .int (Int32.ofNat (i + 1))), (0, .ref a), (2, .int (Int32.ofNat t)), (3, v1), (4, .ref o2)]) (List.forall_mem_cons.mpr ⟨List.mem_of_getElem? (i := 1) rfl, (List.forall_mem_cons.mpr ⟨List.mem_of_getElem? (i := 0) rfl, (List.forall_mem_cons.mpr ⟨List.mem_of_getElem? (i := 4) rfl, (List.forall_mem_cons.mpr ⟨List.mem_of_getElem? (i := 5) rfl, (List.forall_mem_cons.mpr ⟨List.mem_of_getElem? (i := 6) rfl, (List.forall_mem_cons.mpr ⟨List.mem_of_getElem? (i := 7) rfl, (fun _ h => (List.not_mem_nil h).elim)⟩)⟩)⟩)⟩)⟩)⟩) (show ([6, 5, 8, 7, 0, 2, 3, 4] : List Nat).Nodup by decide) ?_
  have hK9 := hK
  rw [List.map_set] at hK9
  exact hK9
theorem res_w35r {S : List Int32} {hp : List XC} {nc ns : Nat} {Q : XO → Prop} {a oa aa pa sa wa n i t D : Nat} {ws v1 : Value} {es : List Value} {gs vs : List Int32} (ho : hp[a]? = some (.inr (5, [.ref oa, .ref aa, .ref pa, .ref sa, .ref wa, ws, .int (Int32.ofNat n)]))) (hoa : hp[oa]? = some (.inl (27, es))) (haa : hp[aa]? = some (.inl (14, gs.map Value.int))) (hsa : hp[sa]? = some (.inl (16, vs.map Value.int))) (hes : es[i]? = some (.retAddr 35)) (hi : i < n) (hn : n ≤ 1000) (hgl : gs.length ≤ 1000) (hvl9 : vs.length ≤ 1000) (hD : D + 1 < vs.length + 1) {vl : Int32} (hvl : vs[D]? = some vl) {o2 : Nat}  (hK : At S 4 143 10 [(5, .int (Int32.ofNat (D + 1))), (6, .int (Int32.ofNat (i + 1))), (0, .ref a), (2, .int (Int32.ofNat t)), (3, v1), (4, .ref o2)] [] (hp.set sa (.inl (16, (vs.set D (chg35 vl)).map Value.int))) nc ns Q) : At S 4 143 35 [(5, .int (Int32.ofNat (D + 1))), (6, .int (Int32.ofNat i)), (0, .ref a), (2, .int (Int32.ofNat t)), (3, v1), (4, .ref o2)] [] hp nc ns Q := by
  have hls := (List.getElem?_eq_some_iff.mp hes).1
  refine At.go (q := xm143) rfl 1 (pc' := 36) (L' := [(5, .int (Int32.ofNat (D + 1))), (6, .int (Int32.ofNat i)), (0, .ref a), (2, .int (Int32.ofNat t)), (3, v1), (4, .ref o2)]) (st' := [.ref a]) rfl ?_
  refine At.gf rfl (by decide) ho rfl ?_
  refine At.go (q := xm143) rfl 1 (pc' := 41) (L' := [(5, .int (Int32.ofNat (D + 1))), (6, .int (Int32.ofNat i)), (0, .ref a), (2, .int (Int32.ofNat t)), (3, v1), (4, .ref o2)]) (st' := [.int (Int32.ofNat i), .ref oa]) rfl ?_
  refine At.ql rfl hoa (by decide) rfl (iN_nn (by omega)) (by rw [iN_tn (by omega)]; exact hes) rfl ?_
  refine At.go (q := xm143) rfl 2 (pc' := 46) (L' := [(7, .retAddr 35), (5, .int (Int32.ofNat (D + 1))), (6, .int (Int32.ofNat i)), (0, .ref a), (2, .int (Int32.ofNat t)), (3, v1), (4, .ref o2)]) (st' := [.retAddr 35]) rfl ?_
  refine At.gk rfl (by decide) rfl rfl ?_
  refine At.go (q := xm143) rfl 2 (pc' := 58) (L' := [(7, .retAddr 35), (5, .int (Int32.ofNat (D + 1))), (6, .int (Int32.ofNat i)), (0, .ref a), (2, .int (Int32.ofNat t)), (3, v1), (4, .ref o2)]) (st' := [.retAddr 35]) rfl ?_
  refine At.gk rfl (by decide) rfl rfl ?_
  refine At.go (q := xm143) rfl 7 (pc' := 77) (L' := [(8, .int 1), (7, .retAddr 35), (5, .int (Int32.ofNat (D + 1))), (6, .int (Int32.ofNat i)), (0, .ref a), (2, .int (Int32.ofNat t)), (3, v1), (4, .ref o2)]) (st' := [.int 1, .int (Int32.ofNat (D + 1))]) rfl ?_
  refine At.ic2 (tgt := 93) rfl rfl (fun h => absurd (of_decide_eq_true h) (fun h => absurd ((iN_lt (a := (D + 1)) (b := 1) (by omega) (by omega)).mp h) (by omega))) (fun _ => ?_)
  refine At.go (q := xm143) rfl 4 (pc' := 86) (L' := [(8, .int 1), (7, .retAddr 35), (5, .int (Int32.ofNat (D + 1))), (6, .int (Int32.ofNat i)), (0, .ref a), (2, .int (Int32.ofNat t)), (3, v1), (4, .ref o2)]) (st' := [.ref a, .int ((Int32.ofNat (D + 1)) - 1)]) rfl ?_
  refine At.gf rfl (by decide) ho rfl ?_
  refine At.ln rfl hsa ?_
  rw [iN_m2]
  refine At.ic2 (tgt := 96) rfl rfl (fun _ => ?_) (fun h => absurd (decide_eq_true ((iN_lt (a := D) (b := vs.length) (by omega) (by omega)).mpr (by omega))) (by rw [List.length_map] at h; rw [show decide (Int32.ofNat D < Int32.ofNat vs.length) = false from h]; decide))
  refine At.go (q := xm143) rfl 3 (pc' := 101) (L' := [(8, .int 1), (7, .retAddr 35), (5, .int (Int32.ofNat (D + 1))), (6, .int (Int32.ofNat i)), (0, .ref a), (2, .int (Int32.ofNat t)), (3, v1), (4, .ref o2)]) (st' := [.int ((Int32.ofNat (D + 1)) - 1)]) rfl ?_
  rw [iN_m2]
  refine At.go (q := xm143) rfl 3 (pc' := 108) (L' := [(5, .int (Int32.ofNat D)), (8, .int 1), (7, .retAddr 35), (6, .int (Int32.ofNat i)), (0, .ref a), (2, .int (Int32.ofNat t)), (3, v1), (4, .ref o2)]) (st' := [.retAddr 2, .retAddr 35]) rfl ?_
  refine At.acn (tgt := 127) (b := false) rfl rfl rfl (fun _ => ?_) (fun h => absurd h (by decide))
  refine At.go (q := xm143) rfl 2 (pc' := 132) (L' := [(5, .int (Int32.ofNat D)), (8, .int 1), (7, .retAddr 35), (6, .int (Int32.ofNat i)), (0, .ref a), (2, .int (Int32.ofNat t)), (3, v1), (4, .ref o2)]) (st' := [.retAddr 29, .retAddr 35]) rfl ?_
  refine At.acn (tgt := 173) (b := false) rfl rfl rfl (fun _ => ?_) (fun h => absurd h (by decide))
  refine At.go (q := xm143) rfl 6 (pc' := 220) (L' := [(5, .int (Int32.ofNat D)), (8, .int 1), (7, .retAddr 35), (6, .int (Int32.ofNat i)), (0, .ref a), (2, .int (Int32.ofNat t)), (3, v1), (4, .ref o2)]) (st' := [.ref a]) rfl ?_
  refine At.gf rfl (by decide) ho rfl ?_
  refine At.go (q := xm143) rfl 3 (pc' := 228) (L' := [(5, .int (Int32.ofNat D)), (8, .int 1), (7, .retAddr 35), (6, .int (Int32.ofNat i)), (0, .ref a), (2, .int (Int32.ofNat t)), (3, v1), (4, .ref o2)]) (st' := [.ref a, .retAddr 35, .int (Int32.ofNat D), .ref sa]) rfl ?_
  refine At.gf rfl (by decide) ho rfl ?_
  refine At.go (q := xm143) rfl 1 (pc' := 233) (L' := [(5, .int (Int32.ofNat D)), (8, .int 1), (7, .retAddr 35), (6, .int (Int32.ofNat i)), (0, .ref a), (2, .int (Int32.ofNat t)), (3, v1), (4, .ref o2)]) (st' := [.int (Int32.ofNat D), .ref sa, .retAddr 35, .int (Int32.ofNat D), .ref sa]) rfl ?_
  refine At.al rfl hsa (by decide) rfl (iN_nn (by omega)) (by rw [iN_tn (by omega), List.getElem?_map, hvl]; rfl) ?_
  refine At.clp (as := [.retAddr 35, .int vl]) (rest := [.int (Int32.ofNat D), .ref sa]) rfl (by decide) rfl (Nat.le_of_ble_eq_true rfl) (Nat.le_of_ble_eq_true rfl) rfl (Nat.le_of_ble_eq_true rfl) (m_changed35 vl) ?_
  refine At.as (j := Int32.ofNat D) rfl hsa (by decide) rfl (iN_nn (by omega)) (by rw [iN_tn (by omega), List.length_map]; omega) ?_
  rw [iN_tn (by omega)]
  refine At.go (q := xm143) rfl 1 (pc' := 281) (L' := [(5, .int (Int32.ofNat D)), (8, .int 1), (7, .retAddr 35), (6, .int (Int32.ofNat i)), (0, .ref a), (2, .int (Int32.ofNat t)), (3, v1), (4, .ref o2)]) (st' := []) rfl ?_
  refine At.go (q := xm143) rfl 1 (pc' := 284) (L' := [(5, .int ((Int32.ofNat D) + 1)), (8, .int 1), (7, .retAddr 35), (6, .int (Int32.ofNat i)), (0, .ref a), (2, .int (Int32.ofNat t)), (3, v1), (4, .ref o2)]) (st' := []) rfl ?_
  refine At.go (q := xm143) rfl 1 (pc' := 287) (L' := [(6, .int ((Int32.ofNat i) + 1)), (5, .int ((Int32.ofNat D) + 1)), (8, .int 1), (7, .retAddr 35), (0, .ref a), (2, .int (Int32.ofNat t)), (3, v1), (4, .ref o2)]) (st' := []) rfl ?_
  refine At.go (q := xm143) rfl 1 (pc' := 10) (L' := [(6, .int ((Int32.ofNat i) + 1)), (5, .int ((Int32.ofNat D) + 1)), (8, .int 1), (7, .retAddr 35), (0, .ref a), (2, .int (Int32.ofNat t)), (3, v1), (4, .ref o2)]) (st' := []) rfl ?_
  rw [iN_s, iN_s]
  refine At.wk (L' := [(5, .int (Int32.ofNat (D + 1))), (6, .int (Int32.ofNat (i + 1))), (0, .ref a), (2, .int (Int32.ofNat t)), (3, v1), (4, .ref o2)]) (List.forall_mem_cons.mpr ⟨List.mem_of_getElem? (i := 1) rfl, (List.forall_mem_cons.mpr ⟨List.mem_of_getElem? (i := 0) rfl, (List.forall_mem_cons.mpr ⟨List.mem_of_getElem? (i := 4) rfl, (List.forall_mem_cons.mpr ⟨List.mem_of_getElem? (i := 5) rfl, (List.forall_mem_cons.mpr ⟨List.mem_of_getElem? (i := 6) rfl, (List.forall_mem_cons.mpr ⟨List.mem_of_getElem? (i := 7) rfl, (fun _ h => (List.not_mem_nil h).elim)⟩)⟩)⟩)⟩)⟩)⟩) (show ([6, 5, 8, 7, 0, 2, 3, 4] : List Nat).Nodup by decide) ?_
  have hK9 := hK
  rw [List.map_set] at hK9
  exact hK9
theorem res_w50r {S : List Int32} {hp : List XC} {nc ns : Nat} {Q : XO → Prop} {a oa aa pa sa wa n i t D : Nat} {ws v1 : Value} {es : List Value} {gs vs : List Int32} (ho : hp[a]? = some (.inr (5, [.ref oa, .ref aa, .ref pa, .ref sa, .ref wa, ws, .int (Int32.ofNat n)]))) (hoa : hp[oa]? = some (.inl (27, es))) (haa : hp[aa]? = some (.inl (14, gs.map Value.int))) (hsa : hp[sa]? = some (.inl (16, vs.map Value.int))) (hes : es[i]? = some (.retAddr 50)) (hi : i < n) (hn : n ≤ 1000) (hgl : gs.length ≤ 1000) (hvl9 : vs.length ≤ 1000) (hD : D + 1 < vs.length + 1) {vl : Int32} (hvl : vs[D]? = some vl) {o2 : Nat}  (hK : At S 4 143 10 [(5, .int (Int32.ofNat (D + 1))), (6, .int (Int32.ofNat (i + 1))), (0, .ref a), (2, .int (Int32.ofNat t)), (3, v1), (4, .ref o2)] [] (hp.set sa (.inl (16, (vs.set D (chg50 vl)).map Value.int))) nc ns Q) : At S 4 143 35 [(5, .int (Int32.ofNat (D + 1))), (6, .int (Int32.ofNat i)), (0, .ref a), (2, .int (Int32.ofNat t)), (3, v1), (4, .ref o2)] [] hp nc ns Q := by
  have hls := (List.getElem?_eq_some_iff.mp hes).1
  refine At.go (q := xm143) rfl 1 (pc' := 36) (L' := [(5, .int (Int32.ofNat (D + 1))), (6, .int (Int32.ofNat i)), (0, .ref a), (2, .int (Int32.ofNat t)), (3, v1), (4, .ref o2)]) (st' := [.ref a]) rfl ?_
  refine At.gf rfl (by decide) ho rfl ?_
  refine At.go (q := xm143) rfl 1 (pc' := 41) (L' := [(5, .int (Int32.ofNat (D + 1))), (6, .int (Int32.ofNat i)), (0, .ref a), (2, .int (Int32.ofNat t)), (3, v1), (4, .ref o2)]) (st' := [.int (Int32.ofNat i), .ref oa]) rfl ?_
  refine At.ql rfl hoa (by decide) rfl (iN_nn (by omega)) (by rw [iN_tn (by omega)]; exact hes) rfl ?_
  refine At.go (q := xm143) rfl 2 (pc' := 46) (L' := [(7, .retAddr 50), (5, .int (Int32.ofNat (D + 1))), (6, .int (Int32.ofNat i)), (0, .ref a), (2, .int (Int32.ofNat t)), (3, v1), (4, .ref o2)]) (st' := [.retAddr 50]) rfl ?_
  refine At.gk rfl (by decide) rfl rfl ?_
  refine At.go (q := xm143) rfl 2 (pc' := 58) (L' := [(7, .retAddr 50), (5, .int (Int32.ofNat (D + 1))), (6, .int (Int32.ofNat i)), (0, .ref a), (2, .int (Int32.ofNat t)), (3, v1), (4, .ref o2)]) (st' := [.retAddr 50]) rfl ?_
  refine At.gk rfl (by decide) rfl rfl ?_
  refine At.go (q := xm143) rfl 7 (pc' := 77) (L' := [(8, .int 1), (7, .retAddr 50), (5, .int (Int32.ofNat (D + 1))), (6, .int (Int32.ofNat i)), (0, .ref a), (2, .int (Int32.ofNat t)), (3, v1), (4, .ref o2)]) (st' := [.int 1, .int (Int32.ofNat (D + 1))]) rfl ?_
  refine At.ic2 (tgt := 93) rfl rfl (fun h => absurd (of_decide_eq_true h) (fun h => absurd ((iN_lt (a := (D + 1)) (b := 1) (by omega) (by omega)).mp h) (by omega))) (fun _ => ?_)
  refine At.go (q := xm143) rfl 4 (pc' := 86) (L' := [(8, .int 1), (7, .retAddr 50), (5, .int (Int32.ofNat (D + 1))), (6, .int (Int32.ofNat i)), (0, .ref a), (2, .int (Int32.ofNat t)), (3, v1), (4, .ref o2)]) (st' := [.ref a, .int ((Int32.ofNat (D + 1)) - 1)]) rfl ?_
  refine At.gf rfl (by decide) ho rfl ?_
  refine At.ln rfl hsa ?_
  rw [iN_m2]
  refine At.ic2 (tgt := 96) rfl rfl (fun _ => ?_) (fun h => absurd (decide_eq_true ((iN_lt (a := D) (b := vs.length) (by omega) (by omega)).mpr (by omega))) (by rw [List.length_map] at h; rw [show decide (Int32.ofNat D < Int32.ofNat vs.length) = false from h]; decide))
  refine At.go (q := xm143) rfl 3 (pc' := 101) (L' := [(8, .int 1), (7, .retAddr 50), (5, .int (Int32.ofNat (D + 1))), (6, .int (Int32.ofNat i)), (0, .ref a), (2, .int (Int32.ofNat t)), (3, v1), (4, .ref o2)]) (st' := [.int ((Int32.ofNat (D + 1)) - 1)]) rfl ?_
  rw [iN_m2]
  refine At.go (q := xm143) rfl 3 (pc' := 108) (L' := [(5, .int (Int32.ofNat D)), (8, .int 1), (7, .retAddr 50), (6, .int (Int32.ofNat i)), (0, .ref a), (2, .int (Int32.ofNat t)), (3, v1), (4, .ref o2)]) (st' := [.retAddr 2, .retAddr 50]) rfl ?_
  refine At.acn (tgt := 127) (b := false) rfl rfl rfl (fun _ => ?_) (fun h => absurd h (by decide))
  refine At.go (q := xm143) rfl 2 (pc' := 132) (L' := [(5, .int (Int32.ofNat D)), (8, .int 1), (7, .retAddr 50), (6, .int (Int32.ofNat i)), (0, .ref a), (2, .int (Int32.ofNat t)), (3, v1), (4, .ref o2)]) (st' := [.retAddr 29, .retAddr 50]) rfl ?_
  refine At.acn (tgt := 173) (b := false) rfl rfl rfl (fun _ => ?_) (fun h => absurd h (by decide))
  refine At.go (q := xm143) rfl 6 (pc' := 220) (L' := [(5, .int (Int32.ofNat D)), (8, .int 1), (7, .retAddr 50), (6, .int (Int32.ofNat i)), (0, .ref a), (2, .int (Int32.ofNat t)), (3, v1), (4, .ref o2)]) (st' := [.ref a]) rfl ?_
  refine At.gf rfl (by decide) ho rfl ?_
  refine At.go (q := xm143) rfl 3 (pc' := 228) (L' := [(5, .int (Int32.ofNat D)), (8, .int 1), (7, .retAddr 50), (6, .int (Int32.ofNat i)), (0, .ref a), (2, .int (Int32.ofNat t)), (3, v1), (4, .ref o2)]) (st' := [.ref a, .retAddr 50, .int (Int32.ofNat D), .ref sa]) rfl ?_
  refine At.gf rfl (by decide) ho rfl ?_
  refine At.go (q := xm143) rfl 1 (pc' := 233) (L' := [(5, .int (Int32.ofNat D)), (8, .int 1), (7, .retAddr 50), (6, .int (Int32.ofNat i)), (0, .ref a), (2, .int (Int32.ofNat t)), (3, v1), (4, .ref o2)]) (st' := [.int (Int32.ofNat D), .ref sa, .retAddr 50, .int (Int32.ofNat D), .ref sa]) rfl ?_
  refine At.al rfl hsa (by decide) rfl (iN_nn (by omega)) (by rw [iN_tn (by omega), List.getElem?_map, hvl]; rfl) ?_
  refine At.clp (as := [.retAddr 50, .int vl]) (rest := [.int (Int32.ofNat D), .ref sa]) rfl (by decide) rfl (Nat.le_of_ble_eq_true rfl) (Nat.le_of_ble_eq_true rfl) rfl (Nat.le_of_ble_eq_true rfl) (m_changed50 vl) ?_
  refine At.as (j := Int32.ofNat D) rfl hsa (by decide) rfl (iN_nn (by omega)) (by rw [iN_tn (by omega), List.length_map]; omega) ?_
  rw [iN_tn (by omega)]
  refine At.go (q := xm143) rfl 1 (pc' := 281) (L' := [(5, .int (Int32.ofNat D)), (8, .int 1), (7, .retAddr 50), (6, .int (Int32.ofNat i)), (0, .ref a), (2, .int (Int32.ofNat t)), (3, v1), (4, .ref o2)]) (st' := []) rfl ?_
  refine At.go (q := xm143) rfl 1 (pc' := 284) (L' := [(5, .int ((Int32.ofNat D) + 1)), (8, .int 1), (7, .retAddr 50), (6, .int (Int32.ofNat i)), (0, .ref a), (2, .int (Int32.ofNat t)), (3, v1), (4, .ref o2)]) (st' := []) rfl ?_
  refine At.go (q := xm143) rfl 1 (pc' := 287) (L' := [(6, .int ((Int32.ofNat i) + 1)), (5, .int ((Int32.ofNat D) + 1)), (8, .int 1), (7, .retAddr 50), (0, .ref a), (2, .int (Int32.ofNat t)), (3, v1), (4, .ref o2)]) (st' := []) rfl ?_
  refine At.go (q := xm143) rfl 1 (pc' := 10) (L' := [(6, .int ((Int32.ofNat i) + 1)), (5, .int ((Int32.ofNat D) + 1)), (8, .int 1), (7, .retAddr 50), (0, .ref a), (2, .int (Int32.ofNat t)), (3, v1), (4, .ref o2)]) (st' := []) rfl ?_
  rw [iN_s, iN_s]
  refine At.wk (L' := [(5, .int (Int32.ofNat (D + 1))), (6, .int (Int32.ofNat (i + 1))), (0, .ref a), (2, .int (Int32.ofNat t)), (3, v1), (4, .ref o2)]) (List.forall_mem_cons.mpr ⟨List.mem_of_getElem? (i := 1) rfl, (List.forall_mem_cons.mpr ⟨List.mem_of_getElem? (i := 0) rfl, (List.forall_mem_cons.mpr ⟨List.mem_of_getElem? (i := 4) rfl, (List.forall_mem_cons.mpr ⟨List.mem_of_getElem? (i := 5) rfl, (List.forall_mem_cons.mpr ⟨List.mem_of_getElem? (i := 6) rfl, (List.forall_mem_cons.mpr ⟨List.mem_of_getElem? (i := 7) rfl, (fun _ h => (List.not_mem_nil h).elim)⟩)⟩)⟩)⟩)⟩)⟩) (show ([6, 5, 8, 7, 0, 2, 3, 4] : List Nat).Nodup by decide) ?_
  have hK9 := hK
  rw [List.map_set] at hK9
  exact hK9
theorem res_w39r {S : List Int32} {hp : List XC} {nc ns : Nat} {Q : XO → Prop} {a oa aa pa sa wa n i t D : Nat} {ws v1 : Value} {es : List Value} {gs vs : List Int32} (ho : hp[a]? = some (.inr (5, [.ref oa, .ref aa, .ref pa, .ref sa, .ref wa, ws, .int (Int32.ofNat n)]))) (hoa : hp[oa]? = some (.inl (27, es))) (haa : hp[aa]? = some (.inl (14, gs.map Value.int))) (hsa : hp[sa]? = some (.inl (16, vs.map Value.int))) (hes : es[i]? = some (.retAddr 39)) (hi : i < n) (hn : n ≤ 1000) (hgl : gs.length ≤ 1000) (hvl9 : vs.length ≤ 1000) (hD : D + 2 < vs.length + 1) {vl vr : Int32} (hvl : vs[D]? = some vl) (hvr : vs[D + 1]? = some vr) {o2 : Nat}  (hK : At S 4 143 10 [(5, .int (Int32.ofNat (D + 1))), (6, .int (Int32.ofNat (i + 1))), (0, .ref a), (2, .int (Int32.ofNat t)), (3, v1), (4, .ref o2)] [] (hp.set sa (.inl (16, (vs.set D (cmb39 vl vr)).map Value.int))) nc ns Q) : At S 4 143 35 [(5, .int (Int32.ofNat (D + 2))), (6, .int (Int32.ofNat i)), (0, .ref a), (2, .int (Int32.ofNat t)), (3, v1), (4, .ref o2)] [] hp nc ns Q := by
  have hls := (List.getElem?_eq_some_iff.mp hes).1
  refine At.go (q := xm143) rfl 1 (pc' := 36) (L' := [(5, .int (Int32.ofNat (D + 2))), (6, .int (Int32.ofNat i)), (0, .ref a), (2, .int (Int32.ofNat t)), (3, v1), (4, .ref o2)]) (st' := [.ref a]) rfl ?_
  refine At.gf rfl (by decide) ho rfl ?_
  refine At.go (q := xm143) rfl 1 (pc' := 41) (L' := [(5, .int (Int32.ofNat (D + 2))), (6, .int (Int32.ofNat i)), (0, .ref a), (2, .int (Int32.ofNat t)), (3, v1), (4, .ref o2)]) (st' := [.int (Int32.ofNat i), .ref oa]) rfl ?_
  refine At.ql rfl hoa (by decide) rfl (iN_nn (by omega)) (by rw [iN_tn (by omega)]; exact hes) rfl ?_
  refine At.go (q := xm143) rfl 2 (pc' := 46) (L' := [(7, .retAddr 39), (5, .int (Int32.ofNat (D + 2))), (6, .int (Int32.ofNat i)), (0, .ref a), (2, .int (Int32.ofNat t)), (3, v1), (4, .ref o2)]) (st' := [.retAddr 39]) rfl ?_
  refine At.gk rfl (by decide) rfl rfl ?_
  refine At.go (q := xm143) rfl 2 (pc' := 58) (L' := [(7, .retAddr 39), (5, .int (Int32.ofNat (D + 2))), (6, .int (Int32.ofNat i)), (0, .ref a), (2, .int (Int32.ofNat t)), (3, v1), (4, .ref o2)]) (st' := [.retAddr 39]) rfl ?_
  refine At.gk rfl (by decide) rfl rfl ?_
  refine At.go (q := xm143) rfl 6 (pc' := 77) (L' := [(8, .int 2), (7, .retAddr 39), (5, .int (Int32.ofNat (D + 2))), (6, .int (Int32.ofNat i)), (0, .ref a), (2, .int (Int32.ofNat t)), (3, v1), (4, .ref o2)]) (st' := [.int 2, .int (Int32.ofNat (D + 2))]) rfl ?_
  refine At.ic2 (tgt := 93) rfl rfl (fun h => absurd (of_decide_eq_true h) (fun h => absurd ((iN_lt (a := (D + 2)) (b := 2) (by omega) (by omega)).mp h) (by omega))) (fun _ => ?_)
  refine At.go (q := xm143) rfl 4 (pc' := 86) (L' := [(8, .int 2), (7, .retAddr 39), (5, .int (Int32.ofNat (D + 2))), (6, .int (Int32.ofNat i)), (0, .ref a), (2, .int (Int32.ofNat t)), (3, v1), (4, .ref o2)]) (st' := [.ref a, .int ((Int32.ofNat (D + 2)) - 2)]) rfl ?_
  refine At.gf rfl (by decide) ho rfl ?_
  refine At.ln rfl hsa ?_
  rw [iN_m3]
  refine At.ic2 (tgt := 96) rfl rfl (fun _ => ?_) (fun h => absurd (decide_eq_true ((iN_lt (a := D) (b := vs.length) (by omega) (by omega)).mpr (by omega))) (by rw [List.length_map] at h; rw [show decide (Int32.ofNat D < Int32.ofNat vs.length) = false from h]; decide))
  refine At.go (q := xm143) rfl 3 (pc' := 101) (L' := [(8, .int 2), (7, .retAddr 39), (5, .int (Int32.ofNat (D + 2))), (6, .int (Int32.ofNat i)), (0, .ref a), (2, .int (Int32.ofNat t)), (3, v1), (4, .ref o2)]) (st' := [.int ((Int32.ofNat (D + 2)) - 2)]) rfl ?_
  rw [iN_m3]
  refine At.go (q := xm143) rfl 3 (pc' := 108) (L' := [(5, .int (Int32.ofNat D)), (8, .int 2), (7, .retAddr 39), (6, .int (Int32.ofNat i)), (0, .ref a), (2, .int (Int32.ofNat t)), (3, v1), (4, .ref o2)]) (st' := [.retAddr 2, .retAddr 39]) rfl ?_
  refine At.acn (tgt := 127) (b := false) rfl rfl rfl (fun _ => ?_) (fun h => absurd h (by decide))
  refine At.go (q := xm143) rfl 2 (pc' := 132) (L' := [(5, .int (Int32.ofNat D)), (8, .int 2), (7, .retAddr 39), (6, .int (Int32.ofNat i)), (0, .ref a), (2, .int (Int32.ofNat t)), (3, v1), (4, .ref o2)]) (st' := [.retAddr 29, .retAddr 39]) rfl ?_
  refine At.acn (tgt := 173) (b := false) rfl rfl rfl (fun _ => ?_) (fun h => absurd h (by decide))
  refine At.go (q := xm143) rfl 9 (pc' := 246) (L' := [(5, .int (Int32.ofNat D)), (8, .int 2), (7, .retAddr 39), (6, .int (Int32.ofNat i)), (0, .ref a), (2, .int (Int32.ofNat t)), (3, v1), (4, .ref o2)]) (st' := [.ref a, .int ((Int32.ofNat D) + 1)]) rfl ?_
  refine At.gf rfl (by decide) ho rfl ?_
  refine At.ln rfl hsa ?_
  rw [iN_s]
  refine At.ic2 (tgt := 281) rfl rfl (fun h => absurd (of_decide_eq_true h) (fun h => absurd ((iN_le (a := vs.length) (b := D + 1) (by omega) (by omega)).mp (by rw [List.length_map] at h; exact h)) (by omega))) (fun _ => ?_)
  refine At.go (q := xm143) rfl 1 (pc' := 254) (L' := [(5, .int (Int32.ofNat D)), (8, .int 2), (7, .retAddr 39), (6, .int (Int32.ofNat i)), (0, .ref a), (2, .int (Int32.ofNat t)), (3, v1), (4, .ref o2)]) (st' := [.ref a]) rfl ?_
  refine At.gf rfl (by decide) ho rfl ?_
  refine At.go (q := xm143) rfl 3 (pc' := 262) (L' := [(5, .int (Int32.ofNat D)), (8, .int 2), (7, .retAddr 39), (6, .int (Int32.ofNat i)), (0, .ref a), (2, .int (Int32.ofNat t)), (3, v1), (4, .ref o2)]) (st' := [.ref a, .retAddr 39, .int (Int32.ofNat D), .ref sa]) rfl ?_
  refine At.gf rfl (by decide) ho rfl ?_
  refine At.go (q := xm143) rfl 1 (pc' := 267) (L' := [(5, .int (Int32.ofNat D)), (8, .int 2), (7, .retAddr 39), (6, .int (Int32.ofNat i)), (0, .ref a), (2, .int (Int32.ofNat t)), (3, v1), (4, .ref o2)]) (st' := [.int (Int32.ofNat D), .ref sa, .retAddr 39, .int (Int32.ofNat D), .ref sa]) rfl ?_
  refine At.al rfl hsa (by decide) rfl (iN_nn (by omega)) (by rw [iN_tn (by omega), List.getElem?_map, hvl]; rfl) ?_
  refine At.go (q := xm143) rfl 1 (pc' := 269) (L' := [(5, .int (Int32.ofNat D)), (8, .int 2), (7, .retAddr 39), (6, .int (Int32.ofNat i)), (0, .ref a), (2, .int (Int32.ofNat t)), (3, v1), (4, .ref o2)]) (st' := [.ref a, .int vl, .retAddr 39, .int (Int32.ofNat D), .ref sa]) rfl ?_
  refine At.gf rfl (by decide) ho rfl ?_
  refine At.go (q := xm143) rfl 3 (pc' := 276) (L' := [(5, .int (Int32.ofNat D)), (8, .int 2), (7, .retAddr 39), (6, .int (Int32.ofNat i)), (0, .ref a), (2, .int (Int32.ofNat t)), (3, v1), (4, .ref o2)]) (st' := [.int ((Int32.ofNat D) + 1), .ref sa, .int vl, .retAddr 39, .int (Int32.ofNat D), .ref sa]) rfl ?_
  refine At.al rfl hsa (by decide) rfl (by rw [iN_s]; exact iN_nn (by omega)) (by rw [iN_s, iN_tn (by omega), List.getElem?_map, hvr]; rfl) ?_
  refine At.clp (as := [.retAddr 39, .int vl, .int vr]) (rest := [.int (Int32.ofNat D), .ref sa]) rfl (by decide) rfl (Nat.le_of_ble_eq_true rfl) (Nat.le_of_ble_eq_true rfl) rfl (Nat.le_of_ble_eq_true rfl) (m_combined39 vl vr) ?_
  refine At.as (j := Int32.ofNat D) rfl hsa (by decide) rfl (iN_nn (by omega)) (by rw [iN_tn (by omega), List.length_map]; omega) ?_
  rw [iN_tn (by omega)]
  refine At.go (q := xm143) rfl 1 (pc' := 284) (L' := [(5, .int ((Int32.ofNat D) + 1)), (8, .int 2), (7, .retAddr 39), (6, .int (Int32.ofNat i)), (0, .ref a), (2, .int (Int32.ofNat t)), (3, v1), (4, .ref o2)]) (st' := []) rfl ?_
  refine At.go (q := xm143) rfl 1 (pc' := 287) (L' := [(6, .int ((Int32.ofNat i) + 1)), (5, .int ((Int32.ofNat D) + 1)), (8, .int 2), (7, .retAddr 39), (0, .ref a), (2, .int (Int32.ofNat t)), (3, v1), (4, .ref o2)]) (st' := []) rfl ?_
  refine At.go (q := xm143) rfl 1 (pc' := 10) (L' := [(6, .int ((Int32.ofNat i) + 1)), (5, .int ((Int32.ofNat D) + 1)), (8, .int 2), (7, .retAddr 39), (0, .ref a), (2, .int (Int32.ofNat t)), (3, v1), (4, .ref o2)]) (st' := []) rfl ?_
  rw [iN_s, iN_s]
  refine At.wk (L' := [(5, .int (Int32.ofNat (D + 1))), (6, .int (Int32.ofNat (i + 1))), (0, .ref a), (2, .int (Int32.ofNat t)), (3, v1), (4, .ref o2)]) (List.forall_mem_cons.mpr ⟨List.mem_of_getElem? (i := 1) rfl, (List.forall_mem_cons.mpr ⟨List.mem_of_getElem? (i := 0) rfl, (List.forall_mem_cons.mpr ⟨List.mem_of_getElem? (i := 4) rfl, (List.forall_mem_cons.mpr ⟨List.mem_of_getElem? (i := 5) rfl, (List.forall_mem_cons.mpr ⟨List.mem_of_getElem? (i := 6) rfl, (List.forall_mem_cons.mpr ⟨List.mem_of_getElem? (i := 7) rfl, (fun _ h => (List.not_mem_nil h).elim)⟩)⟩)⟩)⟩)⟩)⟩) (show ([6, 5, 8, 7, 0, 2, 3, 4] : List Nat).Nodup by decide) ?_
  have hK9 := hK
  rw [List.map_set] at hK9
  exact hK9
theorem res_w40r {S : List Int32} {hp : List XC} {nc ns : Nat} {Q : XO → Prop} {a oa aa pa sa wa n i t D : Nat} {ws v1 : Value} {es : List Value} {gs vs : List Int32} (ho : hp[a]? = some (.inr (5, [.ref oa, .ref aa, .ref pa, .ref sa, .ref wa, ws, .int (Int32.ofNat n)]))) (hoa : hp[oa]? = some (.inl (27, es))) (haa : hp[aa]? = some (.inl (14, gs.map Value.int))) (hsa : hp[sa]? = some (.inl (16, vs.map Value.int))) (hes : es[i]? = some (.retAddr 40)) (hi : i < n) (hn : n ≤ 1000) (hgl : gs.length ≤ 1000) (hvl9 : vs.length ≤ 1000) (hD : D + 2 < vs.length + 1) {vl vr : Int32} (hvl : vs[D]? = some vl) (hvr : vs[D + 1]? = some vr) {o2 : Nat}  (hK : At S 4 143 10 [(5, .int (Int32.ofNat (D + 1))), (6, .int (Int32.ofNat (i + 1))), (0, .ref a), (2, .int (Int32.ofNat t)), (3, v1), (4, .ref o2)] [] (hp.set sa (.inl (16, (vs.set D (cmb40 vl vr)).map Value.int))) nc ns Q) : At S 4 143 35 [(5, .int (Int32.ofNat (D + 2))), (6, .int (Int32.ofNat i)), (0, .ref a), (2, .int (Int32.ofNat t)), (3, v1), (4, .ref o2)] [] hp nc ns Q := by
  have hls := (List.getElem?_eq_some_iff.mp hes).1
  refine At.go (q := xm143) rfl 1 (pc' := 36) (L' := [(5, .int (Int32.ofNat (D + 2))), (6, .int (Int32.ofNat i)), (0, .ref a), (2, .int (Int32.ofNat t)), (3, v1), (4, .ref o2)]) (st' := [.ref a]) rfl ?_
  refine At.gf rfl (by decide) ho rfl ?_
  refine At.go (q := xm143) rfl 1 (pc' := 41) (L' := [(5, .int (Int32.ofNat (D + 2))), (6, .int (Int32.ofNat i)), (0, .ref a), (2, .int (Int32.ofNat t)), (3, v1), (4, .ref o2)]) (st' := [.int (Int32.ofNat i), .ref oa]) rfl ?_
  refine At.ql rfl hoa (by decide) rfl (iN_nn (by omega)) (by rw [iN_tn (by omega)]; exact hes) rfl ?_
  refine At.go (q := xm143) rfl 2 (pc' := 46) (L' := [(7, .retAddr 40), (5, .int (Int32.ofNat (D + 2))), (6, .int (Int32.ofNat i)), (0, .ref a), (2, .int (Int32.ofNat t)), (3, v1), (4, .ref o2)]) (st' := [.retAddr 40]) rfl ?_
  refine At.gk rfl (by decide) rfl rfl ?_
  refine At.go (q := xm143) rfl 2 (pc' := 58) (L' := [(7, .retAddr 40), (5, .int (Int32.ofNat (D + 2))), (6, .int (Int32.ofNat i)), (0, .ref a), (2, .int (Int32.ofNat t)), (3, v1), (4, .ref o2)]) (st' := [.retAddr 40]) rfl ?_
  refine At.gk rfl (by decide) rfl rfl ?_
  refine At.go (q := xm143) rfl 6 (pc' := 77) (L' := [(8, .int 2), (7, .retAddr 40), (5, .int (Int32.ofNat (D + 2))), (6, .int (Int32.ofNat i)), (0, .ref a), (2, .int (Int32.ofNat t)), (3, v1), (4, .ref o2)]) (st' := [.int 2, .int (Int32.ofNat (D + 2))]) rfl ?_
  refine At.ic2 (tgt := 93) rfl rfl (fun h => absurd (of_decide_eq_true h) (fun h => absurd ((iN_lt (a := (D + 2)) (b := 2) (by omega) (by omega)).mp h) (by omega))) (fun _ => ?_)
  refine At.go (q := xm143) rfl 4 (pc' := 86) (L' := [(8, .int 2), (7, .retAddr 40), (5, .int (Int32.ofNat (D + 2))), (6, .int (Int32.ofNat i)), (0, .ref a), (2, .int (Int32.ofNat t)), (3, v1), (4, .ref o2)]) (st' := [.ref a, .int ((Int32.ofNat (D + 2)) - 2)]) rfl ?_
  refine At.gf rfl (by decide) ho rfl ?_
  refine At.ln rfl hsa ?_
  rw [iN_m3]
  refine At.ic2 (tgt := 96) rfl rfl (fun _ => ?_) (fun h => absurd (decide_eq_true ((iN_lt (a := D) (b := vs.length) (by omega) (by omega)).mpr (by omega))) (by rw [List.length_map] at h; rw [show decide (Int32.ofNat D < Int32.ofNat vs.length) = false from h]; decide))
  refine At.go (q := xm143) rfl 3 (pc' := 101) (L' := [(8, .int 2), (7, .retAddr 40), (5, .int (Int32.ofNat (D + 2))), (6, .int (Int32.ofNat i)), (0, .ref a), (2, .int (Int32.ofNat t)), (3, v1), (4, .ref o2)]) (st' := [.int ((Int32.ofNat (D + 2)) - 2)]) rfl ?_
  rw [iN_m3]
  refine At.go (q := xm143) rfl 3 (pc' := 108) (L' := [(5, .int (Int32.ofNat D)), (8, .int 2), (7, .retAddr 40), (6, .int (Int32.ofNat i)), (0, .ref a), (2, .int (Int32.ofNat t)), (3, v1), (4, .ref o2)]) (st' := [.retAddr 2, .retAddr 40]) rfl ?_
  refine At.acn (tgt := 127) (b := false) rfl rfl rfl (fun _ => ?_) (fun h => absurd h (by decide))
  refine At.go (q := xm143) rfl 2 (pc' := 132) (L' := [(5, .int (Int32.ofNat D)), (8, .int 2), (7, .retAddr 40), (6, .int (Int32.ofNat i)), (0, .ref a), (2, .int (Int32.ofNat t)), (3, v1), (4, .ref o2)]) (st' := [.retAddr 29, .retAddr 40]) rfl ?_
  refine At.acn (tgt := 173) (b := false) rfl rfl rfl (fun _ => ?_) (fun h => absurd h (by decide))
  refine At.go (q := xm143) rfl 9 (pc' := 246) (L' := [(5, .int (Int32.ofNat D)), (8, .int 2), (7, .retAddr 40), (6, .int (Int32.ofNat i)), (0, .ref a), (2, .int (Int32.ofNat t)), (3, v1), (4, .ref o2)]) (st' := [.ref a, .int ((Int32.ofNat D) + 1)]) rfl ?_
  refine At.gf rfl (by decide) ho rfl ?_
  refine At.ln rfl hsa ?_
  rw [iN_s]
  refine At.ic2 (tgt := 281) rfl rfl (fun h => absurd (of_decide_eq_true h) (fun h => absurd ((iN_le (a := vs.length) (b := D + 1) (by omega) (by omega)).mp (by rw [List.length_map] at h; exact h)) (by omega))) (fun _ => ?_)
  refine At.go (q := xm143) rfl 1 (pc' := 254) (L' := [(5, .int (Int32.ofNat D)), (8, .int 2), (7, .retAddr 40), (6, .int (Int32.ofNat i)), (0, .ref a), (2, .int (Int32.ofNat t)), (3, v1), (4, .ref o2)]) (st' := [.ref a]) rfl ?_
  refine At.gf rfl (by decide) ho rfl ?_
  refine At.go (q := xm143) rfl 3 (pc' := 262) (L' := [(5, .int (Int32.ofNat D)), (8, .int 2), (7, .retAddr 40), (6, .int (Int32.ofNat i)), (0, .ref a), (2, .int (Int32.ofNat t)), (3, v1), (4, .ref o2)]) (st' := [.ref a, .retAddr 40, .int (Int32.ofNat D), .ref sa]) rfl ?_
  refine At.gf rfl (by decide) ho rfl ?_
  refine At.go (q := xm143) rfl 1 (pc' := 267) (L' := [(5, .int (Int32.ofNat D)), (8, .int 2), (7, .retAddr 40), (6, .int (Int32.ofNat i)), (0, .ref a), (2, .int (Int32.ofNat t)), (3, v1), (4, .ref o2)]) (st' := [.int (Int32.ofNat D), .ref sa, .retAddr 40, .int (Int32.ofNat D), .ref sa]) rfl ?_
  refine At.al rfl hsa (by decide) rfl (iN_nn (by omega)) (by rw [iN_tn (by omega), List.getElem?_map, hvl]; rfl) ?_
  refine At.go (q := xm143) rfl 1 (pc' := 269) (L' := [(5, .int (Int32.ofNat D)), (8, .int 2), (7, .retAddr 40), (6, .int (Int32.ofNat i)), (0, .ref a), (2, .int (Int32.ofNat t)), (3, v1), (4, .ref o2)]) (st' := [.ref a, .int vl, .retAddr 40, .int (Int32.ofNat D), .ref sa]) rfl ?_
  refine At.gf rfl (by decide) ho rfl ?_
  refine At.go (q := xm143) rfl 3 (pc' := 276) (L' := [(5, .int (Int32.ofNat D)), (8, .int 2), (7, .retAddr 40), (6, .int (Int32.ofNat i)), (0, .ref a), (2, .int (Int32.ofNat t)), (3, v1), (4, .ref o2)]) (st' := [.int ((Int32.ofNat D) + 1), .ref sa, .int vl, .retAddr 40, .int (Int32.ofNat D), .ref sa]) rfl ?_
  refine At.al rfl hsa (by decide) rfl (by rw [iN_s]; exact iN_nn (by omega)) (by rw [iN_s, iN_tn (by omega), List.getElem?_map, hvr]; rfl) ?_
  refine At.clp (as := [.retAddr 40, .int vl, .int vr]) (rest := [.int (Int32.ofNat D), .ref sa]) rfl (by decide) rfl (Nat.le_of_ble_eq_true rfl) (Nat.le_of_ble_eq_true rfl) rfl (Nat.le_of_ble_eq_true rfl) (m_combined40 vl vr) ?_
  refine At.as (j := Int32.ofNat D) rfl hsa (by decide) rfl (iN_nn (by omega)) (by rw [iN_tn (by omega), List.length_map]; omega) ?_
  rw [iN_tn (by omega)]
  refine At.go (q := xm143) rfl 1 (pc' := 284) (L' := [(5, .int ((Int32.ofNat D) + 1)), (8, .int 2), (7, .retAddr 40), (6, .int (Int32.ofNat i)), (0, .ref a), (2, .int (Int32.ofNat t)), (3, v1), (4, .ref o2)]) (st' := []) rfl ?_
  refine At.go (q := xm143) rfl 1 (pc' := 287) (L' := [(6, .int ((Int32.ofNat i) + 1)), (5, .int ((Int32.ofNat D) + 1)), (8, .int 2), (7, .retAddr 40), (0, .ref a), (2, .int (Int32.ofNat t)), (3, v1), (4, .ref o2)]) (st' := []) rfl ?_
  refine At.go (q := xm143) rfl 1 (pc' := 10) (L' := [(6, .int ((Int32.ofNat i) + 1)), (5, .int ((Int32.ofNat D) + 1)), (8, .int 2), (7, .retAddr 40), (0, .ref a), (2, .int (Int32.ofNat t)), (3, v1), (4, .ref o2)]) (st' := []) rfl ?_
  rw [iN_s, iN_s]
  refine At.wk (L' := [(5, .int (Int32.ofNat (D + 1))), (6, .int (Int32.ofNat (i + 1))), (0, .ref a), (2, .int (Int32.ofNat t)), (3, v1), (4, .ref o2)]) (List.forall_mem_cons.mpr ⟨List.mem_of_getElem? (i := 1) rfl, (List.forall_mem_cons.mpr ⟨List.mem_of_getElem? (i := 0) rfl, (List.forall_mem_cons.mpr ⟨List.mem_of_getElem? (i := 4) rfl, (List.forall_mem_cons.mpr ⟨List.mem_of_getElem? (i := 5) rfl, (List.forall_mem_cons.mpr ⟨List.mem_of_getElem? (i := 6) rfl, (List.forall_mem_cons.mpr ⟨List.mem_of_getElem? (i := 7) rfl, (fun _ h => (List.not_mem_nil h).elim)⟩)⟩)⟩)⟩)⟩)⟩) (show ([6, 5, 8, 7, 0, 2, 3, 4] : List Nat).Nodup by decide) ?_
  have hK9 := hK
  rw [List.map_set] at hK9
  exact hK9
theorem res_w41r {S : List Int32} {hp : List XC} {nc ns : Nat} {Q : XO → Prop} {a oa aa pa sa wa n i t D : Nat} {ws v1 : Value} {es : List Value} {gs vs : List Int32} (ho : hp[a]? = some (.inr (5, [.ref oa, .ref aa, .ref pa, .ref sa, .ref wa, ws, .int (Int32.ofNat n)]))) (hoa : hp[oa]? = some (.inl (27, es))) (haa : hp[aa]? = some (.inl (14, gs.map Value.int))) (hsa : hp[sa]? = some (.inl (16, vs.map Value.int))) (hes : es[i]? = some (.retAddr 41)) (hi : i < n) (hn : n ≤ 1000) (hgl : gs.length ≤ 1000) (hvl9 : vs.length ≤ 1000) (hD : D + 2 < vs.length + 1) {vl vr : Int32} (hvl : vs[D]? = some vl) (hvr : vs[D + 1]? = some vr) {o2 : Nat}  (hK : At S 4 143 10 [(5, .int (Int32.ofNat (D + 1))), (6, .int (Int32.ofNat (i + 1))), (0, .ref a), (2, .int (Int32.ofNat t)), (3, v1), (4, .ref o2)] [] (hp.set sa (.inl (16, (vs.set D (cmb41 vl vr)).map Value.int))) nc ns Q) : At S 4 143 35 [(5, .int (Int32.ofNat (D + 2))), (6, .int (Int32.ofNat i)), (0, .ref a), (2, .int (Int32.ofNat t)), (3, v1), (4, .ref o2)] [] hp nc ns Q := by
  have hls := (List.getElem?_eq_some_iff.mp hes).1
  refine At.go (q := xm143) rfl 1 (pc' := 36) (L' := [(5, .int (Int32.ofNat (D + 2))), (6, .int (Int32.ofNat i)), (0, .ref a), (2, .int (Int32.ofNat t)), (3, v1), (4, .ref o2)]) (st' := [.ref a]) rfl ?_
  refine At.gf rfl (by decide) ho rfl ?_
  refine At.go (q := xm143) rfl 1 (pc' := 41) (L' := [(5, .int (Int32.ofNat (D + 2))), (6, .int (Int32.ofNat i)), (0, .ref a), (2, .int (Int32.ofNat t)), (3, v1), (4, .ref o2)]) (st' := [.int (Int32.ofNat i), .ref oa]) rfl ?_
  refine At.ql rfl hoa (by decide) rfl (iN_nn (by omega)) (by rw [iN_tn (by omega)]; exact hes) rfl ?_
  refine At.go (q := xm143) rfl 2 (pc' := 46) (L' := [(7, .retAddr 41), (5, .int (Int32.ofNat (D + 2))), (6, .int (Int32.ofNat i)), (0, .ref a), (2, .int (Int32.ofNat t)), (3, v1), (4, .ref o2)]) (st' := [.retAddr 41]) rfl ?_
  refine At.gk rfl (by decide) rfl rfl ?_
  refine At.go (q := xm143) rfl 2 (pc' := 58) (L' := [(7, .retAddr 41), (5, .int (Int32.ofNat (D + 2))), (6, .int (Int32.ofNat i)), (0, .ref a), (2, .int (Int32.ofNat t)), (3, v1), (4, .ref o2)]) (st' := [.retAddr 41]) rfl ?_
  refine At.gk rfl (by decide) rfl rfl ?_
  refine At.go (q := xm143) rfl 6 (pc' := 77) (L' := [(8, .int 2), (7, .retAddr 41), (5, .int (Int32.ofNat (D + 2))), (6, .int (Int32.ofNat i)), (0, .ref a), (2, .int (Int32.ofNat t)), (3, v1), (4, .ref o2)]) (st' := [.int 2, .int (Int32.ofNat (D + 2))]) rfl ?_
  refine At.ic2 (tgt := 93) rfl rfl (fun h => absurd (of_decide_eq_true h) (fun h => absurd ((iN_lt (a := (D + 2)) (b := 2) (by omega) (by omega)).mp h) (by omega))) (fun _ => ?_)
  refine At.go (q := xm143) rfl 4 (pc' := 86) (L' := [(8, .int 2), (7, .retAddr 41), (5, .int (Int32.ofNat (D + 2))), (6, .int (Int32.ofNat i)), (0, .ref a), (2, .int (Int32.ofNat t)), (3, v1), (4, .ref o2)]) (st' := [.ref a, .int ((Int32.ofNat (D + 2)) - 2)]) rfl ?_
  refine At.gf rfl (by decide) ho rfl ?_
  refine At.ln rfl hsa ?_
  rw [iN_m3]
  refine At.ic2 (tgt := 96) rfl rfl (fun _ => ?_) (fun h => absurd (decide_eq_true ((iN_lt (a := D) (b := vs.length) (by omega) (by omega)).mpr (by omega))) (by rw [List.length_map] at h; rw [show decide (Int32.ofNat D < Int32.ofNat vs.length) = false from h]; decide))
  refine At.go (q := xm143) rfl 3 (pc' := 101) (L' := [(8, .int 2), (7, .retAddr 41), (5, .int (Int32.ofNat (D + 2))), (6, .int (Int32.ofNat i)), (0, .ref a), (2, .int (Int32.ofNat t)), (3, v1), (4, .ref o2)]) (st' := [.int ((Int32.ofNat (D + 2)) - 2)]) rfl ?_
  rw [iN_m3]
  refine At.go (q := xm143) rfl 3 (pc' := 108) (L' := [(5, .int (Int32.ofNat D)), (8, .int 2), (7, .retAddr 41), (6, .int (Int32.ofNat i)), (0, .ref a), (2, .int (Int32.ofNat t)), (3, v1), (4, .ref o2)]) (st' := [.retAddr 2, .retAddr 41]) rfl ?_
  refine At.acn (tgt := 127) (b := false) rfl rfl rfl (fun _ => ?_) (fun h => absurd h (by decide))
  refine At.go (q := xm143) rfl 2 (pc' := 132) (L' := [(5, .int (Int32.ofNat D)), (8, .int 2), (7, .retAddr 41), (6, .int (Int32.ofNat i)), (0, .ref a), (2, .int (Int32.ofNat t)), (3, v1), (4, .ref o2)]) (st' := [.retAddr 29, .retAddr 41]) rfl ?_
  refine At.acn (tgt := 173) (b := false) rfl rfl rfl (fun _ => ?_) (fun h => absurd h (by decide))
  refine At.go (q := xm143) rfl 9 (pc' := 246) (L' := [(5, .int (Int32.ofNat D)), (8, .int 2), (7, .retAddr 41), (6, .int (Int32.ofNat i)), (0, .ref a), (2, .int (Int32.ofNat t)), (3, v1), (4, .ref o2)]) (st' := [.ref a, .int ((Int32.ofNat D) + 1)]) rfl ?_
  refine At.gf rfl (by decide) ho rfl ?_
  refine At.ln rfl hsa ?_
  rw [iN_s]
  refine At.ic2 (tgt := 281) rfl rfl (fun h => absurd (of_decide_eq_true h) (fun h => absurd ((iN_le (a := vs.length) (b := D + 1) (by omega) (by omega)).mp (by rw [List.length_map] at h; exact h)) (by omega))) (fun _ => ?_)
  refine At.go (q := xm143) rfl 1 (pc' := 254) (L' := [(5, .int (Int32.ofNat D)), (8, .int 2), (7, .retAddr 41), (6, .int (Int32.ofNat i)), (0, .ref a), (2, .int (Int32.ofNat t)), (3, v1), (4, .ref o2)]) (st' := [.ref a]) rfl ?_
  refine At.gf rfl (by decide) ho rfl ?_
  refine At.go (q := xm143) rfl 3 (pc' := 262) (L' := [(5, .int (Int32.ofNat D)), (8, .int 2), (7, .retAddr 41), (6, .int (Int32.ofNat i)), (0, .ref a), (2, .int (Int32.ofNat t)), (3, v1), (4, .ref o2)]) (st' := [.ref a, .retAddr 41, .int (Int32.ofNat D), .ref sa]) rfl ?_
  refine At.gf rfl (by decide) ho rfl ?_
  refine At.go (q := xm143) rfl 1 (pc' := 267) (L' := [(5, .int (Int32.ofNat D)), (8, .int 2), (7, .retAddr 41), (6, .int (Int32.ofNat i)), (0, .ref a), (2, .int (Int32.ofNat t)), (3, v1), (4, .ref o2)]) (st' := [.int (Int32.ofNat D), .ref sa, .retAddr 41, .int (Int32.ofNat D), .ref sa]) rfl ?_
  refine At.al rfl hsa (by decide) rfl (iN_nn (by omega)) (by rw [iN_tn (by omega), List.getElem?_map, hvl]; rfl) ?_
  refine At.go (q := xm143) rfl 1 (pc' := 269) (L' := [(5, .int (Int32.ofNat D)), (8, .int 2), (7, .retAddr 41), (6, .int (Int32.ofNat i)), (0, .ref a), (2, .int (Int32.ofNat t)), (3, v1), (4, .ref o2)]) (st' := [.ref a, .int vl, .retAddr 41, .int (Int32.ofNat D), .ref sa]) rfl ?_
  refine At.gf rfl (by decide) ho rfl ?_
  refine At.go (q := xm143) rfl 3 (pc' := 276) (L' := [(5, .int (Int32.ofNat D)), (8, .int 2), (7, .retAddr 41), (6, .int (Int32.ofNat i)), (0, .ref a), (2, .int (Int32.ofNat t)), (3, v1), (4, .ref o2)]) (st' := [.int ((Int32.ofNat D) + 1), .ref sa, .int vl, .retAddr 41, .int (Int32.ofNat D), .ref sa]) rfl ?_
  refine At.al rfl hsa (by decide) rfl (by rw [iN_s]; exact iN_nn (by omega)) (by rw [iN_s, iN_tn (by omega), List.getElem?_map, hvr]; rfl) ?_
  refine At.clp (as := [.retAddr 41, .int vl, .int vr]) (rest := [.int (Int32.ofNat D), .ref sa]) rfl (by decide) rfl (Nat.le_of_ble_eq_true rfl) (Nat.le_of_ble_eq_true rfl) rfl (Nat.le_of_ble_eq_true rfl) (m_combined41 vl vr) ?_
  refine At.as (j := Int32.ofNat D) rfl hsa (by decide) rfl (iN_nn (by omega)) (by rw [iN_tn (by omega), List.length_map]; omega) ?_
  rw [iN_tn (by omega)]
  refine At.go (q := xm143) rfl 1 (pc' := 284) (L' := [(5, .int ((Int32.ofNat D) + 1)), (8, .int 2), (7, .retAddr 41), (6, .int (Int32.ofNat i)), (0, .ref a), (2, .int (Int32.ofNat t)), (3, v1), (4, .ref o2)]) (st' := []) rfl ?_
  refine At.go (q := xm143) rfl 1 (pc' := 287) (L' := [(6, .int ((Int32.ofNat i) + 1)), (5, .int ((Int32.ofNat D) + 1)), (8, .int 2), (7, .retAddr 41), (0, .ref a), (2, .int (Int32.ofNat t)), (3, v1), (4, .ref o2)]) (st' := []) rfl ?_
  refine At.go (q := xm143) rfl 1 (pc' := 10) (L' := [(6, .int ((Int32.ofNat i) + 1)), (5, .int ((Int32.ofNat D) + 1)), (8, .int 2), (7, .retAddr 41), (0, .ref a), (2, .int (Int32.ofNat t)), (3, v1), (4, .ref o2)]) (st' := []) rfl ?_
  rw [iN_s, iN_s]
  refine At.wk (L' := [(5, .int (Int32.ofNat (D + 1))), (6, .int (Int32.ofNat (i + 1))), (0, .ref a), (2, .int (Int32.ofNat t)), (3, v1), (4, .ref o2)]) (List.forall_mem_cons.mpr ⟨List.mem_of_getElem? (i := 1) rfl, (List.forall_mem_cons.mpr ⟨List.mem_of_getElem? (i := 0) rfl, (List.forall_mem_cons.mpr ⟨List.mem_of_getElem? (i := 4) rfl, (List.forall_mem_cons.mpr ⟨List.mem_of_getElem? (i := 5) rfl, (List.forall_mem_cons.mpr ⟨List.mem_of_getElem? (i := 6) rfl, (List.forall_mem_cons.mpr ⟨List.mem_of_getElem? (i := 7) rfl, (fun _ h => (List.not_mem_nil h).elim)⟩)⟩)⟩)⟩)⟩)⟩) (show ([6, 5, 8, 7, 0, 2, 3, 4] : List Nat).Nodup by decide) ?_
  have hK9 := hK
  rw [List.map_set] at hK9
  exact hK9
theorem res_w42r {S : List Int32} {hp : List XC} {nc ns : Nat} {Q : XO → Prop} {a oa aa pa sa wa n i t D : Nat} {ws v1 : Value} {es : List Value} {gs vs : List Int32} (ho : hp[a]? = some (.inr (5, [.ref oa, .ref aa, .ref pa, .ref sa, .ref wa, ws, .int (Int32.ofNat n)]))) (hoa : hp[oa]? = some (.inl (27, es))) (haa : hp[aa]? = some (.inl (14, gs.map Value.int))) (hsa : hp[sa]? = some (.inl (16, vs.map Value.int))) (hes : es[i]? = some (.retAddr 42)) (hi : i < n) (hn : n ≤ 1000) (hgl : gs.length ≤ 1000) (hvl9 : vs.length ≤ 1000) (hD : D + 2 < vs.length + 1) {vl vr : Int32} (hvl : vs[D]? = some vl) (hvr : vs[D + 1]? = some vr) {o2 : Nat}  (hK : At S 4 143 10 [(5, .int (Int32.ofNat (D + 1))), (6, .int (Int32.ofNat (i + 1))), (0, .ref a), (2, .int (Int32.ofNat t)), (3, v1), (4, .ref o2)] [] (hp.set sa (.inl (16, (vs.set D (cmb42 vl vr)).map Value.int))) nc ns Q) : At S 4 143 35 [(5, .int (Int32.ofNat (D + 2))), (6, .int (Int32.ofNat i)), (0, .ref a), (2, .int (Int32.ofNat t)), (3, v1), (4, .ref o2)] [] hp nc ns Q := by
  have hls := (List.getElem?_eq_some_iff.mp hes).1
  refine At.go (q := xm143) rfl 1 (pc' := 36) (L' := [(5, .int (Int32.ofNat (D + 2))), (6, .int (Int32.ofNat i)), (0, .ref a), (2, .int (Int32.ofNat t)), (3, v1), (4, .ref o2)]) (st' := [.ref a]) rfl ?_
  refine At.gf rfl (by decide) ho rfl ?_
  refine At.go (q := xm143) rfl 1 (pc' := 41) (L' := [(5, .int (Int32.ofNat (D + 2))), (6, .int (Int32.ofNat i)), (0, .ref a), (2, .int (Int32.ofNat t)), (3, v1), (4, .ref o2)]) (st' := [.int (Int32.ofNat i), .ref oa]) rfl ?_
  refine At.ql rfl hoa (by decide) rfl (iN_nn (by omega)) (by rw [iN_tn (by omega)]; exact hes) rfl ?_
  refine At.go (q := xm143) rfl 2 (pc' := 46) (L' := [(7, .retAddr 42), (5, .int (Int32.ofNat (D + 2))), (6, .int (Int32.ofNat i)), (0, .ref a), (2, .int (Int32.ofNat t)), (3, v1), (4, .ref o2)]) (st' := [.retAddr 42]) rfl ?_
  refine At.gk rfl (by decide) rfl rfl ?_
  refine At.go (q := xm143) rfl 2 (pc' := 58) (L' := [(7, .retAddr 42), (5, .int (Int32.ofNat (D + 2))), (6, .int (Int32.ofNat i)), (0, .ref a), (2, .int (Int32.ofNat t)), (3, v1), (4, .ref o2)]) (st' := [.retAddr 42]) rfl ?_
  refine At.gk rfl (by decide) rfl rfl ?_
  refine At.go (q := xm143) rfl 6 (pc' := 77) (L' := [(8, .int 2), (7, .retAddr 42), (5, .int (Int32.ofNat (D + 2))), (6, .int (Int32.ofNat i)), (0, .ref a), (2, .int (Int32.ofNat t)), (3, v1), (4, .ref o2)]) (st' := [.int 2, .int (Int32.ofNat (D + 2))]) rfl ?_
  refine At.ic2 (tgt := 93) rfl rfl (fun h => absurd (of_decide_eq_true h) (fun h => absurd ((iN_lt (a := (D + 2)) (b := 2) (by omega) (by omega)).mp h) (by omega))) (fun _ => ?_)
  refine At.go (q := xm143) rfl 4 (pc' := 86) (L' := [(8, .int 2), (7, .retAddr 42), (5, .int (Int32.ofNat (D + 2))), (6, .int (Int32.ofNat i)), (0, .ref a), (2, .int (Int32.ofNat t)), (3, v1), (4, .ref o2)]) (st' := [.ref a, .int ((Int32.ofNat (D + 2)) - 2)]) rfl ?_
  refine At.gf rfl (by decide) ho rfl ?_
  refine At.ln rfl hsa ?_
  rw [iN_m3]
  refine At.ic2 (tgt := 96) rfl rfl (fun _ => ?_) (fun h => absurd (decide_eq_true ((iN_lt (a := D) (b := vs.length) (by omega) (by omega)).mpr (by omega))) (by rw [List.length_map] at h; rw [show decide (Int32.ofNat D < Int32.ofNat vs.length) = false from h]; decide))
  refine At.go (q := xm143) rfl 3 (pc' := 101) (L' := [(8, .int 2), (7, .retAddr 42), (5, .int (Int32.ofNat (D + 2))), (6, .int (Int32.ofNat i)), (0, .ref a), (2, .int (Int32.ofNat t)), (3, v1), (4, .ref o2)]) (st' := [.int ((Int32.ofNat (D + 2)) - 2)]) rfl ?_
  rw [iN_m3]
  refine At.go (q := xm143) rfl 3 (pc' := 108) (L' := [(5, .int (Int32.ofNat D)), (8, .int 2), (7, .retAddr 42), (6, .int (Int32.ofNat i)), (0, .ref a), (2, .int (Int32.ofNat t)), (3, v1), (4, .ref o2)]) (st' := [.retAddr 2, .retAddr 42]) rfl ?_
  refine At.acn (tgt := 127) (b := false) rfl rfl rfl (fun _ => ?_) (fun h => absurd h (by decide))
  refine At.go (q := xm143) rfl 2 (pc' := 132) (L' := [(5, .int (Int32.ofNat D)), (8, .int 2), (7, .retAddr 42), (6, .int (Int32.ofNat i)), (0, .ref a), (2, .int (Int32.ofNat t)), (3, v1), (4, .ref o2)]) (st' := [.retAddr 29, .retAddr 42]) rfl ?_
  refine At.acn (tgt := 173) (b := false) rfl rfl rfl (fun _ => ?_) (fun h => absurd h (by decide))
  refine At.go (q := xm143) rfl 9 (pc' := 246) (L' := [(5, .int (Int32.ofNat D)), (8, .int 2), (7, .retAddr 42), (6, .int (Int32.ofNat i)), (0, .ref a), (2, .int (Int32.ofNat t)), (3, v1), (4, .ref o2)]) (st' := [.ref a, .int ((Int32.ofNat D) + 1)]) rfl ?_
  refine At.gf rfl (by decide) ho rfl ?_
  refine At.ln rfl hsa ?_
  rw [iN_s]
  refine At.ic2 (tgt := 281) rfl rfl (fun h => absurd (of_decide_eq_true h) (fun h => absurd ((iN_le (a := vs.length) (b := D + 1) (by omega) (by omega)).mp (by rw [List.length_map] at h; exact h)) (by omega))) (fun _ => ?_)
  refine At.go (q := xm143) rfl 1 (pc' := 254) (L' := [(5, .int (Int32.ofNat D)), (8, .int 2), (7, .retAddr 42), (6, .int (Int32.ofNat i)), (0, .ref a), (2, .int (Int32.ofNat t)), (3, v1), (4, .ref o2)]) (st' := [.ref a]) rfl ?_
  refine At.gf rfl (by decide) ho rfl ?_
  refine At.go (q := xm143) rfl 3 (pc' := 262) (L' := [(5, .int (Int32.ofNat D)), (8, .int 2), (7, .retAddr 42), (6, .int (Int32.ofNat i)), (0, .ref a), (2, .int (Int32.ofNat t)), (3, v1), (4, .ref o2)]) (st' := [.ref a, .retAddr 42, .int (Int32.ofNat D), .ref sa]) rfl ?_
  refine At.gf rfl (by decide) ho rfl ?_
  refine At.go (q := xm143) rfl 1 (pc' := 267) (L' := [(5, .int (Int32.ofNat D)), (8, .int 2), (7, .retAddr 42), (6, .int (Int32.ofNat i)), (0, .ref a), (2, .int (Int32.ofNat t)), (3, v1), (4, .ref o2)]) (st' := [.int (Int32.ofNat D), .ref sa, .retAddr 42, .int (Int32.ofNat D), .ref sa]) rfl ?_
  refine At.al rfl hsa (by decide) rfl (iN_nn (by omega)) (by rw [iN_tn (by omega), List.getElem?_map, hvl]; rfl) ?_
  refine At.go (q := xm143) rfl 1 (pc' := 269) (L' := [(5, .int (Int32.ofNat D)), (8, .int 2), (7, .retAddr 42), (6, .int (Int32.ofNat i)), (0, .ref a), (2, .int (Int32.ofNat t)), (3, v1), (4, .ref o2)]) (st' := [.ref a, .int vl, .retAddr 42, .int (Int32.ofNat D), .ref sa]) rfl ?_
  refine At.gf rfl (by decide) ho rfl ?_
  refine At.go (q := xm143) rfl 3 (pc' := 276) (L' := [(5, .int (Int32.ofNat D)), (8, .int 2), (7, .retAddr 42), (6, .int (Int32.ofNat i)), (0, .ref a), (2, .int (Int32.ofNat t)), (3, v1), (4, .ref o2)]) (st' := [.int ((Int32.ofNat D) + 1), .ref sa, .int vl, .retAddr 42, .int (Int32.ofNat D), .ref sa]) rfl ?_
  refine At.al rfl hsa (by decide) rfl (by rw [iN_s]; exact iN_nn (by omega)) (by rw [iN_s, iN_tn (by omega), List.getElem?_map, hvr]; rfl) ?_
  refine At.clp (as := [.retAddr 42, .int vl, .int vr]) (rest := [.int (Int32.ofNat D), .ref sa]) rfl (by decide) rfl (Nat.le_of_ble_eq_true rfl) (Nat.le_of_ble_eq_true rfl) rfl (Nat.le_of_ble_eq_true rfl) (m_combined42 vl vr) ?_
  refine At.as (j := Int32.ofNat D) rfl hsa (by decide) rfl (iN_nn (by omega)) (by rw [iN_tn (by omega), List.length_map]; omega) ?_
  rw [iN_tn (by omega)]
  refine At.go (q := xm143) rfl 1 (pc' := 284) (L' := [(5, .int ((Int32.ofNat D) + 1)), (8, .int 2), (7, .retAddr 42), (6, .int (Int32.ofNat i)), (0, .ref a), (2, .int (Int32.ofNat t)), (3, v1), (4, .ref o2)]) (st' := []) rfl ?_
  refine At.go (q := xm143) rfl 1 (pc' := 287) (L' := [(6, .int ((Int32.ofNat i) + 1)), (5, .int ((Int32.ofNat D) + 1)), (8, .int 2), (7, .retAddr 42), (0, .ref a), (2, .int (Int32.ofNat t)), (3, v1), (4, .ref o2)]) (st' := []) rfl ?_
  refine At.go (q := xm143) rfl 1 (pc' := 10) (L' := [(6, .int ((Int32.ofNat i) + 1)), (5, .int ((Int32.ofNat D) + 1)), (8, .int 2), (7, .retAddr 42), (0, .ref a), (2, .int (Int32.ofNat t)), (3, v1), (4, .ref o2)]) (st' := []) rfl ?_
  rw [iN_s, iN_s]
  refine At.wk (L' := [(5, .int (Int32.ofNat (D + 1))), (6, .int (Int32.ofNat (i + 1))), (0, .ref a), (2, .int (Int32.ofNat t)), (3, v1), (4, .ref o2)]) (List.forall_mem_cons.mpr ⟨List.mem_of_getElem? (i := 1) rfl, (List.forall_mem_cons.mpr ⟨List.mem_of_getElem? (i := 0) rfl, (List.forall_mem_cons.mpr ⟨List.mem_of_getElem? (i := 4) rfl, (List.forall_mem_cons.mpr ⟨List.mem_of_getElem? (i := 5) rfl, (List.forall_mem_cons.mpr ⟨List.mem_of_getElem? (i := 6) rfl, (List.forall_mem_cons.mpr ⟨List.mem_of_getElem? (i := 7) rfl, (fun _ h => (List.not_mem_nil h).elim)⟩)⟩)⟩)⟩)⟩)⟩) (show ([6, 5, 8, 7, 0, 2, 3, 4] : List Nat).Nodup by decide) ?_
  have hK9 := hK
  rw [List.map_set] at hK9
  exact hK9
theorem res_w43r {S : List Int32} {hp : List XC} {nc ns : Nat} {Q : XO → Prop} {a oa aa pa sa wa n i t D : Nat} {ws v1 : Value} {es : List Value} {gs vs : List Int32} (ho : hp[a]? = some (.inr (5, [.ref oa, .ref aa, .ref pa, .ref sa, .ref wa, ws, .int (Int32.ofNat n)]))) (hoa : hp[oa]? = some (.inl (27, es))) (haa : hp[aa]? = some (.inl (14, gs.map Value.int))) (hsa : hp[sa]? = some (.inl (16, vs.map Value.int))) (hes : es[i]? = some (.retAddr 43)) (hi : i < n) (hn : n ≤ 1000) (hgl : gs.length ≤ 1000) (hvl9 : vs.length ≤ 1000) (hD : D + 2 < vs.length + 1) {vl vr : Int32} (hvl : vs[D]? = some vl) (hvr : vs[D + 1]? = some vr) {o2 : Nat}  (hK : At S 4 143 10 [(5, .int (Int32.ofNat (D + 1))), (6, .int (Int32.ofNat (i + 1))), (0, .ref a), (2, .int (Int32.ofNat t)), (3, v1), (4, .ref o2)] [] (hp.set sa (.inl (16, (vs.set D (cmb43 vl vr)).map Value.int))) nc ns Q) : At S 4 143 35 [(5, .int (Int32.ofNat (D + 2))), (6, .int (Int32.ofNat i)), (0, .ref a), (2, .int (Int32.ofNat t)), (3, v1), (4, .ref o2)] [] hp nc ns Q := by
  have hls := (List.getElem?_eq_some_iff.mp hes).1
  refine At.go (q := xm143) rfl 1 (pc' := 36) (L' := [(5, .int (Int32.ofNat (D + 2))), (6, .int (Int32.ofNat i)), (0, .ref a), (2, .int (Int32.ofNat t)), (3, v1), (4, .ref o2)]) (st' := [.ref a]) rfl ?_
  refine At.gf rfl (by decide) ho rfl ?_
  refine At.go (q := xm143) rfl 1 (pc' := 41) (L' := [(5, .int (Int32.ofNat (D + 2))), (6, .int (Int32.ofNat i)), (0, .ref a), (2, .int (Int32.ofNat t)), (3, v1), (4, .ref o2)]) (st' := [.int (Int32.ofNat i), .ref oa]) rfl ?_
  refine At.ql rfl hoa (by decide) rfl (iN_nn (by omega)) (by rw [iN_tn (by omega)]; exact hes) rfl ?_
  refine At.go (q := xm143) rfl 2 (pc' := 46) (L' := [(7, .retAddr 43), (5, .int (Int32.ofNat (D + 2))), (6, .int (Int32.ofNat i)), (0, .ref a), (2, .int (Int32.ofNat t)), (3, v1), (4, .ref o2)]) (st' := [.retAddr 43]) rfl ?_
  refine At.gk rfl (by decide) rfl rfl ?_
  refine At.go (q := xm143) rfl 2 (pc' := 58) (L' := [(7, .retAddr 43), (5, .int (Int32.ofNat (D + 2))), (6, .int (Int32.ofNat i)), (0, .ref a), (2, .int (Int32.ofNat t)), (3, v1), (4, .ref o2)]) (st' := [.retAddr 43]) rfl ?_
  refine At.gk rfl (by decide) rfl rfl ?_
  refine At.go (q := xm143) rfl 6 (pc' := 77) (L' := [(8, .int 2), (7, .retAddr 43), (5, .int (Int32.ofNat (D + 2))), (6, .int (Int32.ofNat i)), (0, .ref a), (2, .int (Int32.ofNat t)), (3, v1), (4, .ref o2)]) (st' := [.int 2, .int (Int32.ofNat (D + 2))]) rfl ?_
  refine At.ic2 (tgt := 93) rfl rfl (fun h => absurd (of_decide_eq_true h) (fun h => absurd ((iN_lt (a := (D + 2)) (b := 2) (by omega) (by omega)).mp h) (by omega))) (fun _ => ?_)
  refine At.go (q := xm143) rfl 4 (pc' := 86) (L' := [(8, .int 2), (7, .retAddr 43), (5, .int (Int32.ofNat (D + 2))), (6, .int (Int32.ofNat i)), (0, .ref a), (2, .int (Int32.ofNat t)), (3, v1), (4, .ref o2)]) (st' := [.ref a, .int ((Int32.ofNat (D + 2)) - 2)]) rfl ?_
  refine At.gf rfl (by decide) ho rfl ?_
  refine At.ln rfl hsa ?_
  rw [iN_m3]
  refine At.ic2 (tgt := 96) rfl rfl (fun _ => ?_) (fun h => absurd (decide_eq_true ((iN_lt (a := D) (b := vs.length) (by omega) (by omega)).mpr (by omega))) (by rw [List.length_map] at h; rw [show decide (Int32.ofNat D < Int32.ofNat vs.length) = false from h]; decide))
  refine At.go (q := xm143) rfl 3 (pc' := 101) (L' := [(8, .int 2), (7, .retAddr 43), (5, .int (Int32.ofNat (D + 2))), (6, .int (Int32.ofNat i)), (0, .ref a), (2, .int (Int32.ofNat t)), (3, v1), (4, .ref o2)]) (st' := [.int ((Int32.ofNat (D + 2)) - 2)]) rfl ?_
  rw [iN_m3]
  refine At.go (q := xm143) rfl 3 (pc' := 108) (L' := [(5, .int (Int32.ofNat D)), (8, .int 2), (7, .retAddr 43), (6, .int (Int32.ofNat i)), (0, .ref a), (2, .int (Int32.ofNat t)), (3, v1), (4, .ref o2)]) (st' := [.retAddr 2, .retAddr 43]) rfl ?_
  refine At.acn (tgt := 127) (b := false) rfl rfl rfl (fun _ => ?_) (fun h => absurd h (by decide))
  refine At.go (q := xm143) rfl 2 (pc' := 132) (L' := [(5, .int (Int32.ofNat D)), (8, .int 2), (7, .retAddr 43), (6, .int (Int32.ofNat i)), (0, .ref a), (2, .int (Int32.ofNat t)), (3, v1), (4, .ref o2)]) (st' := [.retAddr 29, .retAddr 43]) rfl ?_
  refine At.acn (tgt := 173) (b := false) rfl rfl rfl (fun _ => ?_) (fun h => absurd h (by decide))
  refine At.go (q := xm143) rfl 9 (pc' := 246) (L' := [(5, .int (Int32.ofNat D)), (8, .int 2), (7, .retAddr 43), (6, .int (Int32.ofNat i)), (0, .ref a), (2, .int (Int32.ofNat t)), (3, v1), (4, .ref o2)]) (st' := [.ref a, .int ((Int32.ofNat D) + 1)]) rfl ?_
  refine At.gf rfl (by decide) ho rfl ?_
  refine At.ln rfl hsa ?_
  rw [iN_s]
  refine At.ic2 (tgt := 281) rfl rfl (fun h => absurd (of_decide_eq_true h) (fun h => absurd ((iN_le (a := vs.length) (b := D + 1) (by omega) (by omega)).mp (by rw [List.length_map] at h; exact h)) (by omega))) (fun _ => ?_)
  refine At.go (q := xm143) rfl 1 (pc' := 254) (L' := [(5, .int (Int32.ofNat D)), (8, .int 2), (7, .retAddr 43), (6, .int (Int32.ofNat i)), (0, .ref a), (2, .int (Int32.ofNat t)), (3, v1), (4, .ref o2)]) (st' := [.ref a]) rfl ?_
  refine At.gf rfl (by decide) ho rfl ?_
  refine At.go (q := xm143) rfl 3 (pc' := 262) (L' := [(5, .int (Int32.ofNat D)), (8, .int 2), (7, .retAddr 43), (6, .int (Int32.ofNat i)), (0, .ref a), (2, .int (Int32.ofNat t)), (3, v1), (4, .ref o2)]) (st' := [.ref a, .retAddr 43, .int (Int32.ofNat D), .ref sa]) rfl ?_
  refine At.gf rfl (by decide) ho rfl ?_
  refine At.go (q := xm143) rfl 1 (pc' := 267) (L' := [(5, .int (Int32.ofNat D)), (8, .int 2), (7, .retAddr 43), (6, .int (Int32.ofNat i)), (0, .ref a), (2, .int (Int32.ofNat t)), (3, v1), (4, .ref o2)]) (st' := [.int (Int32.ofNat D), .ref sa, .retAddr 43, .int (Int32.ofNat D), .ref sa]) rfl ?_
  refine At.al rfl hsa (by decide) rfl (iN_nn (by omega)) (by rw [iN_tn (by omega), List.getElem?_map, hvl]; rfl) ?_
  refine At.go (q := xm143) rfl 1 (pc' := 269) (L' := [(5, .int (Int32.ofNat D)), (8, .int 2), (7, .retAddr 43), (6, .int (Int32.ofNat i)), (0, .ref a), (2, .int (Int32.ofNat t)), (3, v1), (4, .ref o2)]) (st' := [.ref a, .int vl, .retAddr 43, .int (Int32.ofNat D), .ref sa]) rfl ?_
  refine At.gf rfl (by decide) ho rfl ?_
  refine At.go (q := xm143) rfl 3 (pc' := 276) (L' := [(5, .int (Int32.ofNat D)), (8, .int 2), (7, .retAddr 43), (6, .int (Int32.ofNat i)), (0, .ref a), (2, .int (Int32.ofNat t)), (3, v1), (4, .ref o2)]) (st' := [.int ((Int32.ofNat D) + 1), .ref sa, .int vl, .retAddr 43, .int (Int32.ofNat D), .ref sa]) rfl ?_
  refine At.al rfl hsa (by decide) rfl (by rw [iN_s]; exact iN_nn (by omega)) (by rw [iN_s, iN_tn (by omega), List.getElem?_map, hvr]; rfl) ?_
  refine At.clp (as := [.retAddr 43, .int vl, .int vr]) (rest := [.int (Int32.ofNat D), .ref sa]) rfl (by decide) rfl (Nat.le_of_ble_eq_true rfl) (Nat.le_of_ble_eq_true rfl) rfl (Nat.le_of_ble_eq_true rfl) (m_combined43 vl vr) ?_
  refine At.as (j := Int32.ofNat D) rfl hsa (by decide) rfl (iN_nn (by omega)) (by rw [iN_tn (by omega), List.length_map]; omega) ?_
  rw [iN_tn (by omega)]
  refine At.go (q := xm143) rfl 1 (pc' := 284) (L' := [(5, .int ((Int32.ofNat D) + 1)), (8, .int 2), (7, .retAddr 43), (6, .int (Int32.ofNat i)), (0, .ref a), (2, .int (Int32.ofNat t)), (3, v1), (4, .ref o2)]) (st' := []) rfl ?_
  refine At.go (q := xm143) rfl 1 (pc' := 287) (L' := [(6, .int ((Int32.ofNat i) + 1)), (5, .int ((Int32.ofNat D) + 1)), (8, .int 2), (7, .retAddr 43), (0, .ref a), (2, .int (Int32.ofNat t)), (3, v1), (4, .ref o2)]) (st' := []) rfl ?_
  refine At.go (q := xm143) rfl 1 (pc' := 10) (L' := [(6, .int ((Int32.ofNat i) + 1)), (5, .int ((Int32.ofNat D) + 1)), (8, .int 2), (7, .retAddr 43), (0, .ref a), (2, .int (Int32.ofNat t)), (3, v1), (4, .ref o2)]) (st' := []) rfl ?_
  rw [iN_s, iN_s]
  refine At.wk (L' := [(5, .int (Int32.ofNat (D + 1))), (6, .int (Int32.ofNat (i + 1))), (0, .ref a), (2, .int (Int32.ofNat t)), (3, v1), (4, .ref o2)]) (List.forall_mem_cons.mpr ⟨List.mem_of_getElem? (i := 1) rfl, (List.forall_mem_cons.mpr ⟨List.mem_of_getElem? (i := 0) rfl, (List.forall_mem_cons.mpr ⟨List.mem_of_getElem? (i := 4) rfl, (List.forall_mem_cons.mpr ⟨List.mem_of_getElem? (i := 5) rfl, (List.forall_mem_cons.mpr ⟨List.mem_of_getElem? (i := 6) rfl, (List.forall_mem_cons.mpr ⟨List.mem_of_getElem? (i := 7) rfl, (fun _ h => (List.not_mem_nil h).elim)⟩)⟩)⟩)⟩)⟩)⟩) (show ([6, 5, 8, 7, 0, 2, 3, 4] : List Nat).Nodup by decide) ?_
  have hK9 := hK
  rw [List.map_set] at hK9
  exact hK9
theorem res_w44r {S : List Int32} {hp : List XC} {nc ns : Nat} {Q : XO → Prop} {a oa aa pa sa wa n i t D : Nat} {ws v1 : Value} {es : List Value} {gs vs : List Int32} (ho : hp[a]? = some (.inr (5, [.ref oa, .ref aa, .ref pa, .ref sa, .ref wa, ws, .int (Int32.ofNat n)]))) (hoa : hp[oa]? = some (.inl (27, es))) (haa : hp[aa]? = some (.inl (14, gs.map Value.int))) (hsa : hp[sa]? = some (.inl (16, vs.map Value.int))) (hes : es[i]? = some (.retAddr 44)) (hi : i < n) (hn : n ≤ 1000) (hgl : gs.length ≤ 1000) (hvl9 : vs.length ≤ 1000) (hD : D + 2 < vs.length + 1) {vl vr : Int32} (hvl : vs[D]? = some vl) (hvr : vs[D + 1]? = some vr) {o2 : Nat}  (hK : At S 4 143 10 [(5, .int (Int32.ofNat (D + 1))), (6, .int (Int32.ofNat (i + 1))), (0, .ref a), (2, .int (Int32.ofNat t)), (3, v1), (4, .ref o2)] [] (hp.set sa (.inl (16, (vs.set D (cmb44 vl vr)).map Value.int))) nc ns Q) : At S 4 143 35 [(5, .int (Int32.ofNat (D + 2))), (6, .int (Int32.ofNat i)), (0, .ref a), (2, .int (Int32.ofNat t)), (3, v1), (4, .ref o2)] [] hp nc ns Q := by
  have hls := (List.getElem?_eq_some_iff.mp hes).1
  refine At.go (q := xm143) rfl 1 (pc' := 36) (L' := [(5, .int (Int32.ofNat (D + 2))), (6, .int (Int32.ofNat i)), (0, .ref a), (2, .int (Int32.ofNat t)), (3, v1), (4, .ref o2)]) (st' := [.ref a]) rfl ?_
  refine At.gf rfl (by decide) ho rfl ?_
  refine At.go (q := xm143) rfl 1 (pc' := 41) (L' := [(5, .int (Int32.ofNat (D + 2))), (6, .int (Int32.ofNat i)), (0, .ref a), (2, .int (Int32.ofNat t)), (3, v1), (4, .ref o2)]) (st' := [.int (Int32.ofNat i), .ref oa]) rfl ?_
  refine At.ql rfl hoa (by decide) rfl (iN_nn (by omega)) (by rw [iN_tn (by omega)]; exact hes) rfl ?_
  refine At.go (q := xm143) rfl 2 (pc' := 46) (L' := [(7, .retAddr 44), (5, .int (Int32.ofNat (D + 2))), (6, .int (Int32.ofNat i)), (0, .ref a), (2, .int (Int32.ofNat t)), (3, v1), (4, .ref o2)]) (st' := [.retAddr 44]) rfl ?_
  refine At.gk rfl (by decide) rfl rfl ?_
  refine At.go (q := xm143) rfl 2 (pc' := 58) (L' := [(7, .retAddr 44), (5, .int (Int32.ofNat (D + 2))), (6, .int (Int32.ofNat i)), (0, .ref a), (2, .int (Int32.ofNat t)), (3, v1), (4, .ref o2)]) (st' := [.retAddr 44]) rfl ?_
  refine At.gk rfl (by decide) rfl rfl ?_
  refine At.go (q := xm143) rfl 6 (pc' := 77) (L' := [(8, .int 2), (7, .retAddr 44), (5, .int (Int32.ofNat (D + 2))), (6, .int (Int32.ofNat i)), (0, .ref a), (2, .int (Int32.ofNat t)), (3, v1), (4, .ref o2)]) (st' := [.int 2, .int (Int32.ofNat (D + 2))]) rfl ?_
  refine At.ic2 (tgt := 93) rfl rfl (fun h => absurd (of_decide_eq_true h) (fun h => absurd ((iN_lt (a := (D + 2)) (b := 2) (by omega) (by omega)).mp h) (by omega))) (fun _ => ?_)
  refine At.go (q := xm143) rfl 4 (pc' := 86) (L' := [(8, .int 2), (7, .retAddr 44), (5, .int (Int32.ofNat (D + 2))), (6, .int (Int32.ofNat i)), (0, .ref a), (2, .int (Int32.ofNat t)), (3, v1), (4, .ref o2)]) (st' := [.ref a, .int ((Int32.ofNat (D + 2)) - 2)]) rfl ?_
  refine At.gf rfl (by decide) ho rfl ?_
  refine At.ln rfl hsa ?_
  rw [iN_m3]
  refine At.ic2 (tgt := 96) rfl rfl (fun _ => ?_) (fun h => absurd (decide_eq_true ((iN_lt (a := D) (b := vs.length) (by omega) (by omega)).mpr (by omega))) (by rw [List.length_map] at h; rw [show decide (Int32.ofNat D < Int32.ofNat vs.length) = false from h]; decide))
  refine At.go (q := xm143) rfl 3 (pc' := 101) (L' := [(8, .int 2), (7, .retAddr 44), (5, .int (Int32.ofNat (D + 2))), (6, .int (Int32.ofNat i)), (0, .ref a), (2, .int (Int32.ofNat t)), (3, v1), (4, .ref o2)]) (st' := [.int ((Int32.ofNat (D + 2)) - 2)]) rfl ?_
  rw [iN_m3]
  refine At.go (q := xm143) rfl 3 (pc' := 108) (L' := [(5, .int (Int32.ofNat D)), (8, .int 2), (7, .retAddr 44), (6, .int (Int32.ofNat i)), (0, .ref a), (2, .int (Int32.ofNat t)), (3, v1), (4, .ref o2)]) (st' := [.retAddr 2, .retAddr 44]) rfl ?_
  refine At.acn (tgt := 127) (b := false) rfl rfl rfl (fun _ => ?_) (fun h => absurd h (by decide))
  refine At.go (q := xm143) rfl 2 (pc' := 132) (L' := [(5, .int (Int32.ofNat D)), (8, .int 2), (7, .retAddr 44), (6, .int (Int32.ofNat i)), (0, .ref a), (2, .int (Int32.ofNat t)), (3, v1), (4, .ref o2)]) (st' := [.retAddr 29, .retAddr 44]) rfl ?_
  refine At.acn (tgt := 173) (b := false) rfl rfl rfl (fun _ => ?_) (fun h => absurd h (by decide))
  refine At.go (q := xm143) rfl 9 (pc' := 246) (L' := [(5, .int (Int32.ofNat D)), (8, .int 2), (7, .retAddr 44), (6, .int (Int32.ofNat i)), (0, .ref a), (2, .int (Int32.ofNat t)), (3, v1), (4, .ref o2)]) (st' := [.ref a, .int ((Int32.ofNat D) + 1)]) rfl ?_
  refine At.gf rfl (by decide) ho rfl ?_
  refine At.ln rfl hsa ?_
  rw [iN_s]
  refine At.ic2 (tgt := 281) rfl rfl (fun h => absurd (of_decide_eq_true h) (fun h => absurd ((iN_le (a := vs.length) (b := D + 1) (by omega) (by omega)).mp (by rw [List.length_map] at h; exact h)) (by omega))) (fun _ => ?_)
  refine At.go (q := xm143) rfl 1 (pc' := 254) (L' := [(5, .int (Int32.ofNat D)), (8, .int 2), (7, .retAddr 44), (6, .int (Int32.ofNat i)), (0, .ref a), (2, .int (Int32.ofNat t)), (3, v1), (4, .ref o2)]) (st' := [.ref a]) rfl ?_
  refine At.gf rfl (by decide) ho rfl ?_
  refine At.go (q := xm143) rfl 3 (pc' := 262) (L' := [(5, .int (Int32.ofNat D)), (8, .int 2), (7, .retAddr 44), (6, .int (Int32.ofNat i)), (0, .ref a), (2, .int (Int32.ofNat t)), (3, v1), (4, .ref o2)]) (st' := [.ref a, .retAddr 44, .int (Int32.ofNat D), .ref sa]) rfl ?_
  refine At.gf rfl (by decide) ho rfl ?_
  refine At.go (q := xm143) rfl 1 (pc' := 267) (L' := [(5, .int (Int32.ofNat D)), (8, .int 2), (7, .retAddr 44), (6, .int (Int32.ofNat i)), (0, .ref a), (2, .int (Int32.ofNat t)), (3, v1), (4, .ref o2)]) (st' := [.int (Int32.ofNat D), .ref sa, .retAddr 44, .int (Int32.ofNat D), .ref sa]) rfl ?_
  refine At.al rfl hsa (by decide) rfl (iN_nn (by omega)) (by rw [iN_tn (by omega), List.getElem?_map, hvl]; rfl) ?_
  refine At.go (q := xm143) rfl 1 (pc' := 269) (L' := [(5, .int (Int32.ofNat D)), (8, .int 2), (7, .retAddr 44), (6, .int (Int32.ofNat i)), (0, .ref a), (2, .int (Int32.ofNat t)), (3, v1), (4, .ref o2)]) (st' := [.ref a, .int vl, .retAddr 44, .int (Int32.ofNat D), .ref sa]) rfl ?_
  refine At.gf rfl (by decide) ho rfl ?_
  refine At.go (q := xm143) rfl 3 (pc' := 276) (L' := [(5, .int (Int32.ofNat D)), (8, .int 2), (7, .retAddr 44), (6, .int (Int32.ofNat i)), (0, .ref a), (2, .int (Int32.ofNat t)), (3, v1), (4, .ref o2)]) (st' := [.int ((Int32.ofNat D) + 1), .ref sa, .int vl, .retAddr 44, .int (Int32.ofNat D), .ref sa]) rfl ?_
  refine At.al rfl hsa (by decide) rfl (by rw [iN_s]; exact iN_nn (by omega)) (by rw [iN_s, iN_tn (by omega), List.getElem?_map, hvr]; rfl) ?_
  refine At.clp (as := [.retAddr 44, .int vl, .int vr]) (rest := [.int (Int32.ofNat D), .ref sa]) rfl (by decide) rfl (Nat.le_of_ble_eq_true rfl) (Nat.le_of_ble_eq_true rfl) rfl (Nat.le_of_ble_eq_true rfl) (m_combined44 vl vr) ?_
  refine At.as (j := Int32.ofNat D) rfl hsa (by decide) rfl (iN_nn (by omega)) (by rw [iN_tn (by omega), List.length_map]; omega) ?_
  rw [iN_tn (by omega)]
  refine At.go (q := xm143) rfl 1 (pc' := 284) (L' := [(5, .int ((Int32.ofNat D) + 1)), (8, .int 2), (7, .retAddr 44), (6, .int (Int32.ofNat i)), (0, .ref a), (2, .int (Int32.ofNat t)), (3, v1), (4, .ref o2)]) (st' := []) rfl ?_
  refine At.go (q := xm143) rfl 1 (pc' := 287) (L' := [(6, .int ((Int32.ofNat i) + 1)), (5, .int ((Int32.ofNat D) + 1)), (8, .int 2), (7, .retAddr 44), (0, .ref a), (2, .int (Int32.ofNat t)), (3, v1), (4, .ref o2)]) (st' := []) rfl ?_
  refine At.go (q := xm143) rfl 1 (pc' := 10) (L' := [(6, .int ((Int32.ofNat i) + 1)), (5, .int ((Int32.ofNat D) + 1)), (8, .int 2), (7, .retAddr 44), (0, .ref a), (2, .int (Int32.ofNat t)), (3, v1), (4, .ref o2)]) (st' := []) rfl ?_
  rw [iN_s, iN_s]
  refine At.wk (L' := [(5, .int (Int32.ofNat (D + 1))), (6, .int (Int32.ofNat (i + 1))), (0, .ref a), (2, .int (Int32.ofNat t)), (3, v1), (4, .ref o2)]) (List.forall_mem_cons.mpr ⟨List.mem_of_getElem? (i := 1) rfl, (List.forall_mem_cons.mpr ⟨List.mem_of_getElem? (i := 0) rfl, (List.forall_mem_cons.mpr ⟨List.mem_of_getElem? (i := 4) rfl, (List.forall_mem_cons.mpr ⟨List.mem_of_getElem? (i := 5) rfl, (List.forall_mem_cons.mpr ⟨List.mem_of_getElem? (i := 6) rfl, (List.forall_mem_cons.mpr ⟨List.mem_of_getElem? (i := 7) rfl, (fun _ h => (List.not_mem_nil h).elim)⟩)⟩)⟩)⟩)⟩)⟩) (show ([6, 5, 8, 7, 0, 2, 3, 4] : List Nat).Nodup by decide) ?_
  have hK9 := hK
  rw [List.map_set] at hK9
  exact hK9
theorem res_w45r {S : List Int32} {hp : List XC} {nc ns : Nat} {Q : XO → Prop} {a oa aa pa sa wa n i t D : Nat} {ws v1 : Value} {es : List Value} {gs vs : List Int32} (ho : hp[a]? = some (.inr (5, [.ref oa, .ref aa, .ref pa, .ref sa, .ref wa, ws, .int (Int32.ofNat n)]))) (hoa : hp[oa]? = some (.inl (27, es))) (haa : hp[aa]? = some (.inl (14, gs.map Value.int))) (hsa : hp[sa]? = some (.inl (16, vs.map Value.int))) (hes : es[i]? = some (.retAddr 45)) (hi : i < n) (hn : n ≤ 1000) (hgl : gs.length ≤ 1000) (hvl9 : vs.length ≤ 1000) (hD : D + 2 < vs.length + 1) {vl vr : Int32} (hvl : vs[D]? = some vl) (hvr : vs[D + 1]? = some vr) {o2 : Nat}  (hK : At S 4 143 10 [(5, .int (Int32.ofNat (D + 1))), (6, .int (Int32.ofNat (i + 1))), (0, .ref a), (2, .int (Int32.ofNat t)), (3, v1), (4, .ref o2)] [] (hp.set sa (.inl (16, (vs.set D (cmb45 vl vr)).map Value.int))) nc ns Q) : At S 4 143 35 [(5, .int (Int32.ofNat (D + 2))), (6, .int (Int32.ofNat i)), (0, .ref a), (2, .int (Int32.ofNat t)), (3, v1), (4, .ref o2)] [] hp nc ns Q := by
  have hls := (List.getElem?_eq_some_iff.mp hes).1
  refine At.go (q := xm143) rfl 1 (pc' := 36) (L' := [(5, .int (Int32.ofNat (D + 2))), (6, .int (Int32.ofNat i)), (0, .ref a), (2, .int (Int32.ofNat t)), (3, v1), (4, .ref o2)]) (st' := [.ref a]) rfl ?_
  refine At.gf rfl (by decide) ho rfl ?_
  refine At.go (q := xm143) rfl 1 (pc' := 41) (L' := [(5, .int (Int32.ofNat (D + 2))), (6, .int (Int32.ofNat i)), (0, .ref a), (2, .int (Int32.ofNat t)), (3, v1), (4, .ref o2)]) (st' := [.int (Int32.ofNat i), .ref oa]) rfl ?_
  refine At.ql rfl hoa (by decide) rfl (iN_nn (by omega)) (by rw [iN_tn (by omega)]; exact hes) rfl ?_
  refine At.go (q := xm143) rfl 2 (pc' := 46) (L' := [(7, .retAddr 45), (5, .int (Int32.ofNat (D + 2))), (6, .int (Int32.ofNat i)), (0, .ref a), (2, .int (Int32.ofNat t)), (3, v1), (4, .ref o2)]) (st' := [.retAddr 45]) rfl ?_
  refine At.gk rfl (by decide) rfl rfl ?_
  refine At.go (q := xm143) rfl 2 (pc' := 58) (L' := [(7, .retAddr 45), (5, .int (Int32.ofNat (D + 2))), (6, .int (Int32.ofNat i)), (0, .ref a), (2, .int (Int32.ofNat t)), (3, v1), (4, .ref o2)]) (st' := [.retAddr 45]) rfl ?_
  refine At.gk rfl (by decide) rfl rfl ?_
  refine At.go (q := xm143) rfl 6 (pc' := 77) (L' := [(8, .int 2), (7, .retAddr 45), (5, .int (Int32.ofNat (D + 2))), (6, .int (Int32.ofNat i)), (0, .ref a), (2, .int (Int32.ofNat t)), (3, v1), (4, .ref o2)]) (st' := [.int 2, .int (Int32.ofNat (D + 2))]) rfl ?_
  refine At.ic2 (tgt := 93) rfl rfl (fun h => absurd (of_decide_eq_true h) (fun h => absurd ((iN_lt (a := (D + 2)) (b := 2) (by omega) (by omega)).mp h) (by omega))) (fun _ => ?_)
  refine At.go (q := xm143) rfl 4 (pc' := 86) (L' := [(8, .int 2), (7, .retAddr 45), (5, .int (Int32.ofNat (D + 2))), (6, .int (Int32.ofNat i)), (0, .ref a), (2, .int (Int32.ofNat t)), (3, v1), (4, .ref o2)]) (st' := [.ref a, .int ((Int32.ofNat (D + 2)) - 2)]) rfl ?_
  refine At.gf rfl (by decide) ho rfl ?_
  refine At.ln rfl hsa ?_
  rw [iN_m3]
  refine At.ic2 (tgt := 96) rfl rfl (fun _ => ?_) (fun h => absurd (decide_eq_true ((iN_lt (a := D) (b := vs.length) (by omega) (by omega)).mpr (by omega))) (by rw [List.length_map] at h; rw [show decide (Int32.ofNat D < Int32.ofNat vs.length) = false from h]; decide))
  refine At.go (q := xm143) rfl 3 (pc' := 101) (L' := [(8, .int 2), (7, .retAddr 45), (5, .int (Int32.ofNat (D + 2))), (6, .int (Int32.ofNat i)), (0, .ref a), (2, .int (Int32.ofNat t)), (3, v1), (4, .ref o2)]) (st' := [.int ((Int32.ofNat (D + 2)) - 2)]) rfl ?_
  rw [iN_m3]
  refine At.go (q := xm143) rfl 3 (pc' := 108) (L' := [(5, .int (Int32.ofNat D)), (8, .int 2), (7, .retAddr 45), (6, .int (Int32.ofNat i)), (0, .ref a), (2, .int (Int32.ofNat t)), (3, v1), (4, .ref o2)]) (st' := [.retAddr 2, .retAddr 45]) rfl ?_
  refine At.acn (tgt := 127) (b := false) rfl rfl rfl (fun _ => ?_) (fun h => absurd h (by decide))
  refine At.go (q := xm143) rfl 2 (pc' := 132) (L' := [(5, .int (Int32.ofNat D)), (8, .int 2), (7, .retAddr 45), (6, .int (Int32.ofNat i)), (0, .ref a), (2, .int (Int32.ofNat t)), (3, v1), (4, .ref o2)]) (st' := [.retAddr 29, .retAddr 45]) rfl ?_
  refine At.acn (tgt := 173) (b := false) rfl rfl rfl (fun _ => ?_) (fun h => absurd h (by decide))
  refine At.go (q := xm143) rfl 9 (pc' := 246) (L' := [(5, .int (Int32.ofNat D)), (8, .int 2), (7, .retAddr 45), (6, .int (Int32.ofNat i)), (0, .ref a), (2, .int (Int32.ofNat t)), (3, v1), (4, .ref o2)]) (st' := [.ref a, .int ((Int32.ofNat D) + 1)]) rfl ?_
  refine At.gf rfl (by decide) ho rfl ?_
  refine At.ln rfl hsa ?_
  rw [iN_s]
  refine At.ic2 (tgt := 281) rfl rfl (fun h => absurd (of_decide_eq_true h) (fun h => absurd ((iN_le (a := vs.length) (b := D + 1) (by omega) (by omega)).mp (by rw [List.length_map] at h; exact h)) (by omega))) (fun _ => ?_)
  refine At.go (q := xm143) rfl 1 (pc' := 254) (L' := [(5, .int (Int32.ofNat D)), (8, .int 2), (7, .retAddr 45), (6, .int (Int32.ofNat i)), (0, .ref a), (2, .int (Int32.ofNat t)), (3, v1), (4, .ref o2)]) (st' := [.ref a]) rfl ?_
  refine At.gf rfl (by decide) ho rfl ?_
  refine At.go (q := xm143) rfl 3 (pc' := 262) (L' := [(5, .int (Int32.ofNat D)), (8, .int 2), (7, .retAddr 45), (6, .int (Int32.ofNat i)), (0, .ref a), (2, .int (Int32.ofNat t)), (3, v1), (4, .ref o2)]) (st' := [.ref a, .retAddr 45, .int (Int32.ofNat D), .ref sa]) rfl ?_
  refine At.gf rfl (by decide) ho rfl ?_
  refine At.go (q := xm143) rfl 1 (pc' := 267) (L' := [(5, .int (Int32.ofNat D)), (8, .int 2), (7, .retAddr 45), (6, .int (Int32.ofNat i)), (0, .ref a), (2, .int (Int32.ofNat t)), (3, v1), (4, .ref o2)]) (st' := [.int (Int32.ofNat D), .ref sa, .retAddr 45, .int (Int32.ofNat D), .ref sa]) rfl ?_
  refine At.al rfl hsa (by decide) rfl (iN_nn (by omega)) (by rw [iN_tn (by omega), List.getElem?_map, hvl]; rfl) ?_
  refine At.go (q := xm143) rfl 1 (pc' := 269) (L' := [(5, .int (Int32.ofNat D)), (8, .int 2), (7, .retAddr 45), (6, .int (Int32.ofNat i)), (0, .ref a), (2, .int (Int32.ofNat t)), (3, v1), (4, .ref o2)]) (st' := [.ref a, .int vl, .retAddr 45, .int (Int32.ofNat D), .ref sa]) rfl ?_
  refine At.gf rfl (by decide) ho rfl ?_
  refine At.go (q := xm143) rfl 3 (pc' := 276) (L' := [(5, .int (Int32.ofNat D)), (8, .int 2), (7, .retAddr 45), (6, .int (Int32.ofNat i)), (0, .ref a), (2, .int (Int32.ofNat t)), (3, v1), (4, .ref o2)]) (st' := [.int ((Int32.ofNat D) + 1), .ref sa, .int vl, .retAddr 45, .int (Int32.ofNat D), .ref sa]) rfl ?_
  refine At.al rfl hsa (by decide) rfl (by rw [iN_s]; exact iN_nn (by omega)) (by rw [iN_s, iN_tn (by omega), List.getElem?_map, hvr]; rfl) ?_
  refine At.clp (as := [.retAddr 45, .int vl, .int vr]) (rest := [.int (Int32.ofNat D), .ref sa]) rfl (by decide) rfl (Nat.le_of_ble_eq_true rfl) (Nat.le_of_ble_eq_true rfl) rfl (Nat.le_of_ble_eq_true rfl) (m_combined45 vl vr) ?_
  refine At.as (j := Int32.ofNat D) rfl hsa (by decide) rfl (iN_nn (by omega)) (by rw [iN_tn (by omega), List.length_map]; omega) ?_
  rw [iN_tn (by omega)]
  refine At.go (q := xm143) rfl 1 (pc' := 284) (L' := [(5, .int ((Int32.ofNat D) + 1)), (8, .int 2), (7, .retAddr 45), (6, .int (Int32.ofNat i)), (0, .ref a), (2, .int (Int32.ofNat t)), (3, v1), (4, .ref o2)]) (st' := []) rfl ?_
  refine At.go (q := xm143) rfl 1 (pc' := 287) (L' := [(6, .int ((Int32.ofNat i) + 1)), (5, .int ((Int32.ofNat D) + 1)), (8, .int 2), (7, .retAddr 45), (0, .ref a), (2, .int (Int32.ofNat t)), (3, v1), (4, .ref o2)]) (st' := []) rfl ?_
  refine At.go (q := xm143) rfl 1 (pc' := 10) (L' := [(6, .int ((Int32.ofNat i) + 1)), (5, .int ((Int32.ofNat D) + 1)), (8, .int 2), (7, .retAddr 45), (0, .ref a), (2, .int (Int32.ofNat t)), (3, v1), (4, .ref o2)]) (st' := []) rfl ?_
  rw [iN_s, iN_s]
  refine At.wk (L' := [(5, .int (Int32.ofNat (D + 1))), (6, .int (Int32.ofNat (i + 1))), (0, .ref a), (2, .int (Int32.ofNat t)), (3, v1), (4, .ref o2)]) (List.forall_mem_cons.mpr ⟨List.mem_of_getElem? (i := 1) rfl, (List.forall_mem_cons.mpr ⟨List.mem_of_getElem? (i := 0) rfl, (List.forall_mem_cons.mpr ⟨List.mem_of_getElem? (i := 4) rfl, (List.forall_mem_cons.mpr ⟨List.mem_of_getElem? (i := 5) rfl, (List.forall_mem_cons.mpr ⟨List.mem_of_getElem? (i := 6) rfl, (List.forall_mem_cons.mpr ⟨List.mem_of_getElem? (i := 7) rfl, (fun _ h => (List.not_mem_nil h).elim)⟩)⟩)⟩)⟩)⟩)⟩) (show ([6, 5, 8, 7, 0, 2, 3, 4] : List Nat).Nodup by decide) ?_
  have hK9 := hK
  rw [List.map_set] at hK9
  exact hK9
theorem res_w48r {S : List Int32} {hp : List XC} {nc ns : Nat} {Q : XO → Prop} {a oa aa pa sa wa n i t D : Nat} {ws v1 : Value} {es : List Value} {gs vs : List Int32} (ho : hp[a]? = some (.inr (5, [.ref oa, .ref aa, .ref pa, .ref sa, .ref wa, ws, .int (Int32.ofNat n)]))) (hoa : hp[oa]? = some (.inl (27, es))) (haa : hp[aa]? = some (.inl (14, gs.map Value.int))) (hsa : hp[sa]? = some (.inl (16, vs.map Value.int))) (hes : es[i]? = some (.retAddr 48)) (hi : i < n) (hn : n ≤ 1000) (hgl : gs.length ≤ 1000) (hvl9 : vs.length ≤ 1000) (hD : D + 2 < vs.length + 1) {vl vr : Int32} (hvl : vs[D]? = some vl) (hvr : vs[D + 1]? = some vr) {o2 : Nat}  (hK : At S 4 143 10 [(5, .int (Int32.ofNat (D + 1))), (6, .int (Int32.ofNat (i + 1))), (0, .ref a), (2, .int (Int32.ofNat t)), (3, v1), (4, .ref o2)] [] (hp.set sa (.inl (16, (vs.set D (cmb48 vl vr)).map Value.int))) nc ns Q) : At S 4 143 35 [(5, .int (Int32.ofNat (D + 2))), (6, .int (Int32.ofNat i)), (0, .ref a), (2, .int (Int32.ofNat t)), (3, v1), (4, .ref o2)] [] hp nc ns Q := by
  have hls := (List.getElem?_eq_some_iff.mp hes).1
  refine At.go (q := xm143) rfl 1 (pc' := 36) (L' := [(5, .int (Int32.ofNat (D + 2))), (6, .int (Int32.ofNat i)), (0, .ref a), (2, .int (Int32.ofNat t)), (3, v1), (4, .ref o2)]) (st' := [.ref a]) rfl ?_
  refine At.gf rfl (by decide) ho rfl ?_
  refine At.go (q := xm143) rfl 1 (pc' := 41) (L' := [(5, .int (Int32.ofNat (D + 2))), (6, .int (Int32.ofNat i)), (0, .ref a), (2, .int (Int32.ofNat t)), (3, v1), (4, .ref o2)]) (st' := [.int (Int32.ofNat i), .ref oa]) rfl ?_
  refine At.ql rfl hoa (by decide) rfl (iN_nn (by omega)) (by rw [iN_tn (by omega)]; exact hes) rfl ?_
  refine At.go (q := xm143) rfl 2 (pc' := 46) (L' := [(7, .retAddr 48), (5, .int (Int32.ofNat (D + 2))), (6, .int (Int32.ofNat i)), (0, .ref a), (2, .int (Int32.ofNat t)), (3, v1), (4, .ref o2)]) (st' := [.retAddr 48]) rfl ?_
  refine At.gk rfl (by decide) rfl rfl ?_
  refine At.go (q := xm143) rfl 2 (pc' := 58) (L' := [(7, .retAddr 48), (5, .int (Int32.ofNat (D + 2))), (6, .int (Int32.ofNat i)), (0, .ref a), (2, .int (Int32.ofNat t)), (3, v1), (4, .ref o2)]) (st' := [.retAddr 48]) rfl ?_
  refine At.gk rfl (by decide) rfl rfl ?_
  refine At.go (q := xm143) rfl 6 (pc' := 77) (L' := [(8, .int 2), (7, .retAddr 48), (5, .int (Int32.ofNat (D + 2))), (6, .int (Int32.ofNat i)), (0, .ref a), (2, .int (Int32.ofNat t)), (3, v1), (4, .ref o2)]) (st' := [.int 2, .int (Int32.ofNat (D + 2))]) rfl ?_
  refine At.ic2 (tgt := 93) rfl rfl (fun h => absurd (of_decide_eq_true h) (fun h => absurd ((iN_lt (a := (D + 2)) (b := 2) (by omega) (by omega)).mp h) (by omega))) (fun _ => ?_)
  refine At.go (q := xm143) rfl 4 (pc' := 86) (L' := [(8, .int 2), (7, .retAddr 48), (5, .int (Int32.ofNat (D + 2))), (6, .int (Int32.ofNat i)), (0, .ref a), (2, .int (Int32.ofNat t)), (3, v1), (4, .ref o2)]) (st' := [.ref a, .int ((Int32.ofNat (D + 2)) - 2)]) rfl ?_
  refine At.gf rfl (by decide) ho rfl ?_
  refine At.ln rfl hsa ?_
  rw [iN_m3]
  refine At.ic2 (tgt := 96) rfl rfl (fun _ => ?_) (fun h => absurd (decide_eq_true ((iN_lt (a := D) (b := vs.length) (by omega) (by omega)).mpr (by omega))) (by rw [List.length_map] at h; rw [show decide (Int32.ofNat D < Int32.ofNat vs.length) = false from h]; decide))
  refine At.go (q := xm143) rfl 3 (pc' := 101) (L' := [(8, .int 2), (7, .retAddr 48), (5, .int (Int32.ofNat (D + 2))), (6, .int (Int32.ofNat i)), (0, .ref a), (2, .int (Int32.ofNat t)), (3, v1), (4, .ref o2)]) (st' := [.int ((Int32.ofNat (D + 2)) - 2)]) rfl ?_
  rw [iN_m3]
  refine At.go (q := xm143) rfl 3 (pc' := 108) (L' := [(5, .int (Int32.ofNat D)), (8, .int 2), (7, .retAddr 48), (6, .int (Int32.ofNat i)), (0, .ref a), (2, .int (Int32.ofNat t)), (3, v1), (4, .ref o2)]) (st' := [.retAddr 2, .retAddr 48]) rfl ?_
  refine At.acn (tgt := 127) (b := false) rfl rfl rfl (fun _ => ?_) (fun h => absurd h (by decide))
  refine At.go (q := xm143) rfl 2 (pc' := 132) (L' := [(5, .int (Int32.ofNat D)), (8, .int 2), (7, .retAddr 48), (6, .int (Int32.ofNat i)), (0, .ref a), (2, .int (Int32.ofNat t)), (3, v1), (4, .ref o2)]) (st' := [.retAddr 29, .retAddr 48]) rfl ?_
  refine At.acn (tgt := 173) (b := false) rfl rfl rfl (fun _ => ?_) (fun h => absurd h (by decide))
  refine At.go (q := xm143) rfl 9 (pc' := 246) (L' := [(5, .int (Int32.ofNat D)), (8, .int 2), (7, .retAddr 48), (6, .int (Int32.ofNat i)), (0, .ref a), (2, .int (Int32.ofNat t)), (3, v1), (4, .ref o2)]) (st' := [.ref a, .int ((Int32.ofNat D) + 1)]) rfl ?_
  refine At.gf rfl (by decide) ho rfl ?_
  refine At.ln rfl hsa ?_
  rw [iN_s]
  refine At.ic2 (tgt := 281) rfl rfl (fun h => absurd (of_decide_eq_true h) (fun h => absurd ((iN_le (a := vs.length) (b := D + 1) (by omega) (by omega)).mp (by rw [List.length_map] at h; exact h)) (by omega))) (fun _ => ?_)
  refine At.go (q := xm143) rfl 1 (pc' := 254) (L' := [(5, .int (Int32.ofNat D)), (8, .int 2), (7, .retAddr 48), (6, .int (Int32.ofNat i)), (0, .ref a), (2, .int (Int32.ofNat t)), (3, v1), (4, .ref o2)]) (st' := [.ref a]) rfl ?_
  refine At.gf rfl (by decide) ho rfl ?_
  refine At.go (q := xm143) rfl 3 (pc' := 262) (L' := [(5, .int (Int32.ofNat D)), (8, .int 2), (7, .retAddr 48), (6, .int (Int32.ofNat i)), (0, .ref a), (2, .int (Int32.ofNat t)), (3, v1), (4, .ref o2)]) (st' := [.ref a, .retAddr 48, .int (Int32.ofNat D), .ref sa]) rfl ?_
  refine At.gf rfl (by decide) ho rfl ?_
  refine At.go (q := xm143) rfl 1 (pc' := 267) (L' := [(5, .int (Int32.ofNat D)), (8, .int 2), (7, .retAddr 48), (6, .int (Int32.ofNat i)), (0, .ref a), (2, .int (Int32.ofNat t)), (3, v1), (4, .ref o2)]) (st' := [.int (Int32.ofNat D), .ref sa, .retAddr 48, .int (Int32.ofNat D), .ref sa]) rfl ?_
  refine At.al rfl hsa (by decide) rfl (iN_nn (by omega)) (by rw [iN_tn (by omega), List.getElem?_map, hvl]; rfl) ?_
  refine At.go (q := xm143) rfl 1 (pc' := 269) (L' := [(5, .int (Int32.ofNat D)), (8, .int 2), (7, .retAddr 48), (6, .int (Int32.ofNat i)), (0, .ref a), (2, .int (Int32.ofNat t)), (3, v1), (4, .ref o2)]) (st' := [.ref a, .int vl, .retAddr 48, .int (Int32.ofNat D), .ref sa]) rfl ?_
  refine At.gf rfl (by decide) ho rfl ?_
  refine At.go (q := xm143) rfl 3 (pc' := 276) (L' := [(5, .int (Int32.ofNat D)), (8, .int 2), (7, .retAddr 48), (6, .int (Int32.ofNat i)), (0, .ref a), (2, .int (Int32.ofNat t)), (3, v1), (4, .ref o2)]) (st' := [.int ((Int32.ofNat D) + 1), .ref sa, .int vl, .retAddr 48, .int (Int32.ofNat D), .ref sa]) rfl ?_
  refine At.al rfl hsa (by decide) rfl (by rw [iN_s]; exact iN_nn (by omega)) (by rw [iN_s, iN_tn (by omega), List.getElem?_map, hvr]; rfl) ?_
  refine At.clp (as := [.retAddr 48, .int vl, .int vr]) (rest := [.int (Int32.ofNat D), .ref sa]) rfl (by decide) rfl (Nat.le_of_ble_eq_true rfl) (Nat.le_of_ble_eq_true rfl) rfl (Nat.le_of_ble_eq_true rfl) (m_combined48 vl vr) ?_
  refine At.as (j := Int32.ofNat D) rfl hsa (by decide) rfl (iN_nn (by omega)) (by rw [iN_tn (by omega), List.length_map]; omega) ?_
  rw [iN_tn (by omega)]
  refine At.go (q := xm143) rfl 1 (pc' := 284) (L' := [(5, .int ((Int32.ofNat D) + 1)), (8, .int 2), (7, .retAddr 48), (6, .int (Int32.ofNat i)), (0, .ref a), (2, .int (Int32.ofNat t)), (3, v1), (4, .ref o2)]) (st' := []) rfl ?_
  refine At.go (q := xm143) rfl 1 (pc' := 287) (L' := [(6, .int ((Int32.ofNat i) + 1)), (5, .int ((Int32.ofNat D) + 1)), (8, .int 2), (7, .retAddr 48), (0, .ref a), (2, .int (Int32.ofNat t)), (3, v1), (4, .ref o2)]) (st' := []) rfl ?_
  refine At.go (q := xm143) rfl 1 (pc' := 10) (L' := [(6, .int ((Int32.ofNat i) + 1)), (5, .int ((Int32.ofNat D) + 1)), (8, .int 2), (7, .retAddr 48), (0, .ref a), (2, .int (Int32.ofNat t)), (3, v1), (4, .ref o2)]) (st' := []) rfl ?_
  rw [iN_s, iN_s]
  refine At.wk (L' := [(5, .int (Int32.ofNat (D + 1))), (6, .int (Int32.ofNat (i + 1))), (0, .ref a), (2, .int (Int32.ofNat t)), (3, v1), (4, .ref o2)]) (List.forall_mem_cons.mpr ⟨List.mem_of_getElem? (i := 1) rfl, (List.forall_mem_cons.mpr ⟨List.mem_of_getElem? (i := 0) rfl, (List.forall_mem_cons.mpr ⟨List.mem_of_getElem? (i := 4) rfl, (List.forall_mem_cons.mpr ⟨List.mem_of_getElem? (i := 5) rfl, (List.forall_mem_cons.mpr ⟨List.mem_of_getElem? (i := 6) rfl, (List.forall_mem_cons.mpr ⟨List.mem_of_getElem? (i := 7) rfl, (fun _ h => (List.not_mem_nil h).elim)⟩)⟩)⟩)⟩)⟩)⟩) (show ([6, 5, 8, 7, 0, 2, 3, 4] : List Nat).Nodup by decide) ?_
  have hK9 := hK
  rw [List.map_set] at hK9
  exact hK9
theorem res_w49r {S : List Int32} {hp : List XC} {nc ns : Nat} {Q : XO → Prop} {a oa aa pa sa wa n i t D : Nat} {ws v1 : Value} {es : List Value} {gs vs : List Int32} (ho : hp[a]? = some (.inr (5, [.ref oa, .ref aa, .ref pa, .ref sa, .ref wa, ws, .int (Int32.ofNat n)]))) (hoa : hp[oa]? = some (.inl (27, es))) (haa : hp[aa]? = some (.inl (14, gs.map Value.int))) (hsa : hp[sa]? = some (.inl (16, vs.map Value.int))) (hes : es[i]? = some (.retAddr 49)) (hi : i < n) (hn : n ≤ 1000) (hgl : gs.length ≤ 1000) (hvl9 : vs.length ≤ 1000) (hD : D + 2 < vs.length + 1) {vl vr : Int32} (hvl : vs[D]? = some vl) (hvr : vs[D + 1]? = some vr) {o2 : Nat}  (hK : At S 4 143 10 [(5, .int (Int32.ofNat (D + 1))), (6, .int (Int32.ofNat (i + 1))), (0, .ref a), (2, .int (Int32.ofNat t)), (3, v1), (4, .ref o2)] [] (hp.set sa (.inl (16, (vs.set D (cmb49 vl vr)).map Value.int))) nc ns Q) : At S 4 143 35 [(5, .int (Int32.ofNat (D + 2))), (6, .int (Int32.ofNat i)), (0, .ref a), (2, .int (Int32.ofNat t)), (3, v1), (4, .ref o2)] [] hp nc ns Q := by
  have hls := (List.getElem?_eq_some_iff.mp hes).1
  refine At.go (q := xm143) rfl 1 (pc' := 36) (L' := [(5, .int (Int32.ofNat (D + 2))), (6, .int (Int32.ofNat i)), (0, .ref a), (2, .int (Int32.ofNat t)), (3, v1), (4, .ref o2)]) (st' := [.ref a]) rfl ?_
  refine At.gf rfl (by decide) ho rfl ?_
  refine At.go (q := xm143) rfl 1 (pc' := 41) (L' := [(5, .int (Int32.ofNat (D + 2))), (6, .int (Int32.ofNat i)), (0, .ref a), (2, .int (Int32.ofNat t)), (3, v1), (4, .ref o2)]) (st' := [.int (Int32.ofNat i), .ref oa]) rfl ?_
  refine At.ql rfl hoa (by decide) rfl (iN_nn (by omega)) (by rw [iN_tn (by omega)]; exact hes) rfl ?_
  refine At.go (q := xm143) rfl 2 (pc' := 46) (L' := [(7, .retAddr 49), (5, .int (Int32.ofNat (D + 2))), (6, .int (Int32.ofNat i)), (0, .ref a), (2, .int (Int32.ofNat t)), (3, v1), (4, .ref o2)]) (st' := [.retAddr 49]) rfl ?_
  refine At.gk rfl (by decide) rfl rfl ?_
  refine At.go (q := xm143) rfl 2 (pc' := 58) (L' := [(7, .retAddr 49), (5, .int (Int32.ofNat (D + 2))), (6, .int (Int32.ofNat i)), (0, .ref a), (2, .int (Int32.ofNat t)), (3, v1), (4, .ref o2)]) (st' := [.retAddr 49]) rfl ?_
  refine At.gk rfl (by decide) rfl rfl ?_
  refine At.go (q := xm143) rfl 6 (pc' := 77) (L' := [(8, .int 2), (7, .retAddr 49), (5, .int (Int32.ofNat (D + 2))), (6, .int (Int32.ofNat i)), (0, .ref a), (2, .int (Int32.ofNat t)), (3, v1), (4, .ref o2)]) (st' := [.int 2, .int (Int32.ofNat (D + 2))]) rfl ?_
  refine At.ic2 (tgt := 93) rfl rfl (fun h => absurd (of_decide_eq_true h) (fun h => absurd ((iN_lt (a := (D + 2)) (b := 2) (by omega) (by omega)).mp h) (by omega))) (fun _ => ?_)
  refine At.go (q := xm143) rfl 4 (pc' := 86) (L' := [(8, .int 2), (7, .retAddr 49), (5, .int (Int32.ofNat (D + 2))), (6, .int (Int32.ofNat i)), (0, .ref a), (2, .int (Int32.ofNat t)), (3, v1), (4, .ref o2)]) (st' := [.ref a, .int ((Int32.ofNat (D + 2)) - 2)]) rfl ?_
  refine At.gf rfl (by decide) ho rfl ?_
  refine At.ln rfl hsa ?_
  rw [iN_m3]
  refine At.ic2 (tgt := 96) rfl rfl (fun _ => ?_) (fun h => absurd (decide_eq_true ((iN_lt (a := D) (b := vs.length) (by omega) (by omega)).mpr (by omega))) (by rw [List.length_map] at h; rw [show decide (Int32.ofNat D < Int32.ofNat vs.length) = false from h]; decide))
  refine At.go (q := xm143) rfl 3 (pc' := 101) (L' := [(8, .int 2), (7, .retAddr 49), (5, .int (Int32.ofNat (D + 2))), (6, .int (Int32.ofNat i)), (0, .ref a), (2, .int (Int32.ofNat t)), (3, v1), (4, .ref o2)]) (st' := [.int ((Int32.ofNat (D + 2)) - 2)]) rfl ?_
  rw [iN_m3]
  refine At.go (q := xm143) rfl 3 (pc' := 108) (L' := [(5, .int (Int32.ofNat D)), (8, .int 2), (7, .retAddr 49), (6, .int (Int32.ofNat i)), (0, .ref a), (2, .int (Int32.ofNat t)), (3, v1), (4, .ref o2)]) (st' := [.retAddr 2, .retAddr 49]) rfl ?_
  refine At.acn (tgt := 127) (b := false) rfl rfl rfl (fun _ => ?_) (fun h => absurd h (by decide))
  refine At.go (q := xm143) rfl 2 (pc' := 132) (L' := [(5, .int (Int32.ofNat D)), (8, .int 2), (7, .retAddr 49), (6, .int (Int32.ofNat i)), (0, .ref a), (2, .int (Int32.ofNat t)), (3, v1), (4, .ref o2)]) (st' := [.retAddr 29, .retAddr 49]) rfl ?_
  refine At.acn (tgt := 173) (b := false) rfl rfl rfl (fun _ => ?_) (fun h => absurd h (by decide))
  refine At.go (q := xm143) rfl 9 (pc' := 246) (L' := [(5, .int (Int32.ofNat D)), (8, .int 2), (7, .retAddr 49), (6, .int (Int32.ofNat i)), (0, .ref a), (2, .int (Int32.ofNat t)), (3, v1), (4, .ref o2)]) (st' := [.ref a, .int ((Int32.ofNat D) + 1)]) rfl ?_
  refine At.gf rfl (by decide) ho rfl ?_
  refine At.ln rfl hsa ?_
  rw [iN_s]
  refine At.ic2 (tgt := 281) rfl rfl (fun h => absurd (of_decide_eq_true h) (fun h => absurd ((iN_le (a := vs.length) (b := D + 1) (by omega) (by omega)).mp (by rw [List.length_map] at h; exact h)) (by omega))) (fun _ => ?_)
  refine At.go (q := xm143) rfl 1 (pc' := 254) (L' := [(5, .int (Int32.ofNat D)), (8, .int 2), (7, .retAddr 49), (6, .int (Int32.ofNat i)), (0, .ref a), (2, .int (Int32.ofNat t)), (3, v1), (4, .ref o2)]) (st' := [.ref a]) rfl ?_
  refine At.gf rfl (by decide) ho rfl ?_
  refine At.go (q := xm143) rfl 3 (pc' := 262) (L' := [(5, .int (Int32.ofNat D)), (8, .int 2), (7, .retAddr 49), (6, .int (Int32.ofNat i)), (0, .ref a), (2, .int (Int32.ofNat t)), (3, v1), (4, .ref o2)]) (st' := [.ref a, .retAddr 49, .int (Int32.ofNat D), .ref sa]) rfl ?_
  refine At.gf rfl (by decide) ho rfl ?_
  refine At.go (q := xm143) rfl 1 (pc' := 267) (L' := [(5, .int (Int32.ofNat D)), (8, .int 2), (7, .retAddr 49), (6, .int (Int32.ofNat i)), (0, .ref a), (2, .int (Int32.ofNat t)), (3, v1), (4, .ref o2)]) (st' := [.int (Int32.ofNat D), .ref sa, .retAddr 49, .int (Int32.ofNat D), .ref sa]) rfl ?_
  refine At.al rfl hsa (by decide) rfl (iN_nn (by omega)) (by rw [iN_tn (by omega), List.getElem?_map, hvl]; rfl) ?_
  refine At.go (q := xm143) rfl 1 (pc' := 269) (L' := [(5, .int (Int32.ofNat D)), (8, .int 2), (7, .retAddr 49), (6, .int (Int32.ofNat i)), (0, .ref a), (2, .int (Int32.ofNat t)), (3, v1), (4, .ref o2)]) (st' := [.ref a, .int vl, .retAddr 49, .int (Int32.ofNat D), .ref sa]) rfl ?_
  refine At.gf rfl (by decide) ho rfl ?_
  refine At.go (q := xm143) rfl 3 (pc' := 276) (L' := [(5, .int (Int32.ofNat D)), (8, .int 2), (7, .retAddr 49), (6, .int (Int32.ofNat i)), (0, .ref a), (2, .int (Int32.ofNat t)), (3, v1), (4, .ref o2)]) (st' := [.int ((Int32.ofNat D) + 1), .ref sa, .int vl, .retAddr 49, .int (Int32.ofNat D), .ref sa]) rfl ?_
  refine At.al rfl hsa (by decide) rfl (by rw [iN_s]; exact iN_nn (by omega)) (by rw [iN_s, iN_tn (by omega), List.getElem?_map, hvr]; rfl) ?_
  refine At.clp (as := [.retAddr 49, .int vl, .int vr]) (rest := [.int (Int32.ofNat D), .ref sa]) rfl (by decide) rfl (Nat.le_of_ble_eq_true rfl) (Nat.le_of_ble_eq_true rfl) rfl (Nat.le_of_ble_eq_true rfl) (m_combined49 vl vr) ?_
  refine At.as (j := Int32.ofNat D) rfl hsa (by decide) rfl (iN_nn (by omega)) (by rw [iN_tn (by omega), List.length_map]; omega) ?_
  rw [iN_tn (by omega)]
  refine At.go (q := xm143) rfl 1 (pc' := 284) (L' := [(5, .int ((Int32.ofNat D) + 1)), (8, .int 2), (7, .retAddr 49), (6, .int (Int32.ofNat i)), (0, .ref a), (2, .int (Int32.ofNat t)), (3, v1), (4, .ref o2)]) (st' := []) rfl ?_
  refine At.go (q := xm143) rfl 1 (pc' := 287) (L' := [(6, .int ((Int32.ofNat i) + 1)), (5, .int ((Int32.ofNat D) + 1)), (8, .int 2), (7, .retAddr 49), (0, .ref a), (2, .int (Int32.ofNat t)), (3, v1), (4, .ref o2)]) (st' := []) rfl ?_
  refine At.go (q := xm143) rfl 1 (pc' := 10) (L' := [(6, .int ((Int32.ofNat i) + 1)), (5, .int ((Int32.ofNat D) + 1)), (8, .int 2), (7, .retAddr 49), (0, .ref a), (2, .int (Int32.ofNat t)), (3, v1), (4, .ref o2)]) (st' := []) rfl ?_
  rw [iN_s, iN_s]
  refine At.wk (L' := [(5, .int (Int32.ofNat (D + 1))), (6, .int (Int32.ofNat (i + 1))), (0, .ref a), (2, .int (Int32.ofNat t)), (3, v1), (4, .ref o2)]) (List.forall_mem_cons.mpr ⟨List.mem_of_getElem? (i := 1) rfl, (List.forall_mem_cons.mpr ⟨List.mem_of_getElem? (i := 0) rfl, (List.forall_mem_cons.mpr ⟨List.mem_of_getElem? (i := 4) rfl, (List.forall_mem_cons.mpr ⟨List.mem_of_getElem? (i := 5) rfl, (List.forall_mem_cons.mpr ⟨List.mem_of_getElem? (i := 6) rfl, (List.forall_mem_cons.mpr ⟨List.mem_of_getElem? (i := 7) rfl, (fun _ h => (List.not_mem_nil h).elim)⟩)⟩)⟩)⟩)⟩)⟩) (show ([6, 5, 8, 7, 0, 2, 3, 4] : List Nat).Nodup by decide) ?_
  have hK9 := hK
  rw [List.map_set] at hK9
  exact hK9
theorem res_head {S : List Int32} {hp : List XC} {nc ns : Nat} {Q : XO → Prop} {a oa aa pa sa wa n i t D : Nat} {ws v1 v2 : Value} {es : List Value} (ho : hp[a]? = some (.inr (5, [.ref oa, .ref aa, .ref pa, .ref sa, .ref wa, ws, .int (Int32.ofNat n)]))) (hoa : hp[oa]? = some (.inl (27, es))) (hit : i < t) (hin : i < n) (hie : i < es.length) (hn : n ≤ 1000) (ht : t ≤ 1000) (hes : es.length ≤ 1000) (hK : At S 4 143 35 [(5, .int (Int32.ofNat D)), (6, .int (Int32.ofNat i)), (0, .ref a), (2, .int (Int32.ofNat t)), (3, v1), (4, v2)] [] hp nc ns Q) : At S 4 143 10 [(5, .int (Int32.ofNat D)), (6, .int (Int32.ofNat i)), (0, .ref a), (2, .int (Int32.ofNat t)), (3, v1), (4, v2)] [] hp nc ns Q := by
  refine At.go (q := xm143) rfl 2 (pc' := 13) (L' := [(5, .int (Int32.ofNat D)), (6, .int (Int32.ofNat i)), (0, .ref a), (2, .int (Int32.ofNat t)), (3, v1), (4, v2)]) (st' := [.int (Int32.ofNat t), .int (Int32.ofNat i)]) rfl ?_
  refine At.ic2 (tgt := 290) rfl rfl (fun h => absurd (h.symm.trans (decide_eq_false (fun h => absurd ((iN_le (a := t) (b := i) (by omega) (by omega)).mp h) (by omega)))) (by decide)) (fun _ => ?_)
  refine At.go (q := xm143) rfl 2 (pc' := 19) (L' := [(5, .int (Int32.ofNat D)), (6, .int (Int32.ofNat i)), (0, .ref a), (2, .int (Int32.ofNat t)), (3, v1), (4, v2)]) (st' := [.ref a, .int (Int32.ofNat i)]) rfl ?_
  refine At.gf rfl (by decide) ho rfl ?_
  refine At.ic2 (tgt := 290) rfl rfl (fun h => absurd (h.symm.trans (decide_eq_false (fun h => absurd ((iN_le (a := n) (b := i) (by omega) (by omega)).mp h) (by omega)))) (by decide)) (fun _ => ?_)
  refine At.go (q := xm143) rfl 2 (pc' := 28) (L' := [(5, .int (Int32.ofNat D)), (6, .int (Int32.ofNat i)), (0, .ref a), (2, .int (Int32.ofNat t)), (3, v1), (4, v2)]) (st' := [.ref a, .int (Int32.ofNat i)]) rfl ?_
  refine At.gf rfl (by decide) ho rfl ?_
  refine At.ln rfl hoa ?_
  refine At.ic2 (tgt := 290) rfl rfl (fun h => absurd (h.symm.trans (decide_eq_false (fun h => absurd ((iN_le (a := es.length) (b := i) (by omega) (by omega)).mp h) (by omega)))) (by decide)) (fun _ => ?_)
  exact hK
theorem res_end0 {S : List Int32} {hp : List XC} {nc ns : Nat} {Q : XO → Prop} {a oa aa pa sa wa n i t D : Nat} {ws v1 v2 : Value} {es : List Value} {vs : List Int32} (ho : hp[a]? = some (.inr (5, [.ref oa, .ref aa, .ref pa, .ref sa, .ref wa, ws, .int (Int32.ofNat n)]))) (hoa : hp[oa]? = some (.inl (27, es))) (hsa : hp[sa]? = some (.inl (16, vs.map Value.int))) (hit : t ≤ i) (hi : i ≤ 1000) (hK : Q (.inl (some (.int (-1000000000)), hp, nc, ns))) : At S 4 143 10 [(5, .int (Int32.ofNat 0)), (6, .int (Int32.ofNat i)), (0, .ref a), (2, .int (Int32.ofNat t)), (3, v1), (4, v2)] [] hp nc ns Q := by
  refine At.go (q := xm143) rfl 2 (pc' := 13) (L' := [(5, .int (Int32.ofNat 0)), (6, .int (Int32.ofNat i)), (0, .ref a), (2, .int (Int32.ofNat t)), (3, v1), (4, v2)]) (st' := [.int (Int32.ofNat t), .int (Int32.ofNat i)]) rfl ?_
  refine At.ic2 (tgt := 290) rfl rfl (fun _ => ?_) (fun h => absurd (h.symm.trans (decide_eq_true ((iN_le (a := t) (b := i) (by omega) (by omega)).mpr (by omega)))) (by decide))
  refine At.go (q := xm143) rfl 1 (pc' := 292) (L' := [(5, .int (Int32.ofNat 0)), (6, .int (Int32.ofNat i)), (0, .ref a), (2, .int (Int32.ofNat t)), (3, v1), (4, v2)]) (st' := [.int (Int32.ofNat 0)]) rfl ?_
  refine At.ic1 (tgt := 304) rfl rfl (fun _ => ?_) (fun h => absurd h (by decide))
  refine At.go (q := xm143) rfl 1 (pc' := 306) (L' := [(5, .int (Int32.ofNat 0)), (6, .int (Int32.ofNat i)), (0, .ref a), (2, .int (Int32.ofNat t)), (3, v1), (4, v2)]) (st' := [.int (-1000000000)]) rfl ?_
  exact At.rt rfl (xret_i rfl) hK
theorem res_end1 {S : List Int32} {hp : List XC} {nc ns : Nat} {Q : XO → Prop} {a oa aa pa sa wa n i t D : Nat} {ws v1 v2 : Value} {es : List Value} {vs : List Int32} (ho : hp[a]? = some (.inr (5, [.ref oa, .ref aa, .ref pa, .ref sa, .ref wa, ws, .int (Int32.ofNat n)]))) (hoa : hp[oa]? = some (.inl (27, es))) (hsa : hp[sa]? = some (.inl (16, vs.map Value.int))) (hit : t ≤ i) (hi : i ≤ 1000) (hD : D ≤ 1000) {x : Int32} (hx : vs[0]? = some x) (hK : Q (.inl (some (.int x), hp, nc, ns))) : At S 4 143 10 [(5, .int (Int32.ofNat (D + 1))), (6, .int (Int32.ofNat i)), (0, .ref a), (2, .int (Int32.ofNat t)), (3, v1), (4, v2)] [] hp nc ns Q := by
  refine At.go (q := xm143) rfl 2 (pc' := 13) (L' := [(5, .int (Int32.ofNat (D + 1))), (6, .int (Int32.ofNat i)), (0, .ref a), (2, .int (Int32.ofNat t)), (3, v1), (4, v2)]) (st' := [.int (Int32.ofNat t), .int (Int32.ofNat i)]) rfl ?_
  refine At.ic2 (tgt := 290) rfl rfl (fun _ => ?_) (fun h => absurd (h.symm.trans (decide_eq_true ((iN_le (a := t) (b := i) (by omega) (by omega)).mpr (by omega)))) (by decide))
  refine At.go (q := xm143) rfl 1 (pc' := 292) (L' := [(5, .int (Int32.ofNat (D + 1))), (6, .int (Int32.ofNat i)), (0, .ref a), (2, .int (Int32.ofNat t)), (3, v1), (4, v2)]) (st' := [.int (Int32.ofNat (D + 1))]) rfl ?_
  refine At.ic1 (tgt := 304) rfl rfl (fun h => absurd (of_decide_eq_true h) (fun h => absurd ((iN_le (a := D + 1) (b := 0) (by omega) (by omega)).mp h) (by omega))) (fun _ => ?_)
  refine At.go (q := xm143) rfl 1 (pc' := 296) (L' := [(5, .int (Int32.ofNat (D + 1))), (6, .int (Int32.ofNat i)), (0, .ref a), (2, .int (Int32.ofNat t)), (3, v1), (4, v2)]) (st' := [.ref a]) rfl ?_
  refine At.gf rfl (by decide) ho rfl ?_
  refine At.go (q := xm143) rfl 1 (pc' := 300) (L' := [(5, .int (Int32.ofNat (D + 1))), (6, .int (Int32.ofNat i)), (0, .ref a), (2, .int (Int32.ofNat t)), (3, v1), (4, v2)]) (st' := [.int 0, .ref sa]) rfl ?_
  refine At.al rfl hsa (by decide) rfl (by decide) (by rw [List.getElem?_map, show (0 : Int32).toNatClampNeg = 0 from rfl, hx]; rfl) ?_
  refine At.go (q := xm143) rfl 1 (pc' := 306) (L' := [(5, .int (Int32.ofNat (D + 1))), (6, .int (Int32.ofNat i)), (0, .ref a), (2, .int (Int32.ofNat t)), (3, v1), (4, v2)]) (st' := [.int x]) rfl ?_
  exact At.rt rfl (xret_i rfl) hK
theorem res_start0 {S : List Int32} {hp : List XC} {Q : XO → Prop} {a f t : Nat} (hf : f ≤ 1000) (hK : At S 4 143 10 [(5, .int (Int32.ofNat 0)), (6, .int (Int32.ofNat f)), (0, .ref a), (2, .int (Int32.ofNat t)), (3, .null), (4, .null)] [] hp 0 0 Q) : At S 4 143 0 (lv_args 0 [.ref a, .int (Int32.ofNat f), .int (Int32.ofNat t), .null, .null]) [] hp 0 0 Q := by
  refine At.go (q := xm143) rfl 4 (pc' := 5) (L' := [(5, .int 0), (0, .ref a), (1, .int (Int32.ofNat f)), (2, .int (Int32.ofNat t)), (3, .null), (4, .null)]) (st' := [.int 0, .int (Int32.ofNat f)]) rfl ?_
  refine At.sp rfl (by decide) (g := ([.int (if (Int32.ofNat f) < 0 then 0 else (Int32.ofNat f))], hp)) rfl ?_
  refine At.go (q := xm143) rfl 1 (pc' := 10) (L' := [(6, .int (if (Int32.ofNat f) < 0 then 0 else (Int32.ofNat f))), (5, .int 0), (0, .ref a), (1, .int (Int32.ofNat f)), (2, .int (Int32.ofNat t)), (3, .null), (4, .null)]) (st' := []) rfl ?_
  rw [show (if Int32.ofNat f < 0 then (0 : Int32) else Int32.ofNat f) = Int32.ofNat f from if_neg (iN_nn (by omega))]
  refine At.wk (L' := [(5, .int (Int32.ofNat 0)), (6, .int (Int32.ofNat f)), (0, .ref a), (2, .int (Int32.ofNat t)), (3, .null), (4, .null)]) (List.forall_mem_cons.mpr ⟨List.mem_of_getElem? (i := 1) rfl, (List.forall_mem_cons.mpr ⟨List.mem_of_getElem? (i := 0) rfl, (List.forall_mem_cons.mpr ⟨List.mem_of_getElem? (i := 2) rfl, (List.forall_mem_cons.mpr ⟨List.mem_of_getElem? (i := 4) rfl, (List.forall_mem_cons.mpr ⟨List.mem_of_getElem? (i := 5) rfl, (List.forall_mem_cons.mpr ⟨List.mem_of_getElem? (i := 6) rfl, (fun _ h => (List.not_mem_nil h).elim)⟩)⟩)⟩)⟩)⟩)⟩) (show ([6, 5, 0, 1, 2, 3, 4] : List Nat).Nodup by decide) ?_
  exact hK
theorem res_start1 {S : List Int32} {hp : List XC} {Q : XO → Prop} {a f t : Nat} {o1 : Nat} (hf : f ≤ 1000) (hK : At S 4 143 10 [(5, .int (Int32.ofNat 0)), (6, .int (Int32.ofNat f)), (0, .ref a), (2, .int (Int32.ofNat t)), (3, .ref o1), (4, .null)] [] hp 0 0 Q) : At S 4 143 0 (lv_args 0 [.ref a, .int (Int32.ofNat f), .int (Int32.ofNat t), .ref o1, .null]) [] hp 0 0 Q := by
  refine At.go (q := xm143) rfl 4 (pc' := 5) (L' := [(5, .int 0), (0, .ref a), (1, .int (Int32.ofNat f)), (2, .int (Int32.ofNat t)), (3, .ref o1), (4, .null)]) (st' := [.int 0, .int (Int32.ofNat f)]) rfl ?_
  refine At.sp rfl (by decide) (g := ([.int (if (Int32.ofNat f) < 0 then 0 else (Int32.ofNat f))], hp)) rfl ?_
  refine At.go (q := xm143) rfl 1 (pc' := 10) (L' := [(6, .int (if (Int32.ofNat f) < 0 then 0 else (Int32.ofNat f))), (5, .int 0), (0, .ref a), (1, .int (Int32.ofNat f)), (2, .int (Int32.ofNat t)), (3, .ref o1), (4, .null)]) (st' := []) rfl ?_
  rw [show (if Int32.ofNat f < 0 then (0 : Int32) else Int32.ofNat f) = Int32.ofNat f from if_neg (iN_nn (by omega))]
  refine At.wk (L' := [(5, .int (Int32.ofNat 0)), (6, .int (Int32.ofNat f)), (0, .ref a), (2, .int (Int32.ofNat t)), (3, .ref o1), (4, .null)]) (List.forall_mem_cons.mpr ⟨List.mem_of_getElem? (i := 1) rfl, (List.forall_mem_cons.mpr ⟨List.mem_of_getElem? (i := 0) rfl, (List.forall_mem_cons.mpr ⟨List.mem_of_getElem? (i := 2) rfl, (List.forall_mem_cons.mpr ⟨List.mem_of_getElem? (i := 4) rfl, (List.forall_mem_cons.mpr ⟨List.mem_of_getElem? (i := 5) rfl, (List.forall_mem_cons.mpr ⟨List.mem_of_getElem? (i := 6) rfl, (fun _ h => (List.not_mem_nil h).elim)⟩)⟩)⟩)⟩)⟩)⟩) (show ([6, 5, 0, 1, 2, 3, 4] : List Nat).Nodup by decide) ?_
  exact hK
theorem res_start2 {S : List Int32} {hp : List XC} {Q : XO → Prop} {a f t : Nat} {o1 o2 : Nat} (hf : f ≤ 1000) (hK : At S 4 143 10 [(5, .int (Int32.ofNat 0)), (6, .int (Int32.ofNat f)), (0, .ref a), (2, .int (Int32.ofNat t)), (3, .ref o1), (4, .ref o2)] [] hp 0 0 Q) : At S 4 143 0 (lv_args 0 [.ref a, .int (Int32.ofNat f), .int (Int32.ofNat t), .ref o1, .ref o2]) [] hp 0 0 Q := by
  refine At.go (q := xm143) rfl 4 (pc' := 5) (L' := [(5, .int 0), (0, .ref a), (1, .int (Int32.ofNat f)), (2, .int (Int32.ofNat t)), (3, .ref o1), (4, .ref o2)]) (st' := [.int 0, .int (Int32.ofNat f)]) rfl ?_
  refine At.sp rfl (by decide) (g := ([.int (if (Int32.ofNat f) < 0 then 0 else (Int32.ofNat f))], hp)) rfl ?_
  refine At.go (q := xm143) rfl 1 (pc' := 10) (L' := [(6, .int (if (Int32.ofNat f) < 0 then 0 else (Int32.ofNat f))), (5, .int 0), (0, .ref a), (1, .int (Int32.ofNat f)), (2, .int (Int32.ofNat t)), (3, .ref o1), (4, .ref o2)]) (st' := []) rfl ?_
  rw [show (if Int32.ofNat f < 0 then (0 : Int32) else Int32.ofNat f) = Int32.ofNat f from if_neg (iN_nn (by omega))]
  refine At.wk (L' := [(5, .int (Int32.ofNat 0)), (6, .int (Int32.ofNat f)), (0, .ref a), (2, .int (Int32.ofNat t)), (3, .ref o1), (4, .ref o2)]) (List.forall_mem_cons.mpr ⟨List.mem_of_getElem? (i := 1) rfl, (List.forall_mem_cons.mpr ⟨List.mem_of_getElem? (i := 0) rfl, (List.forall_mem_cons.mpr ⟨List.mem_of_getElem? (i := 2) rfl, (List.forall_mem_cons.mpr ⟨List.mem_of_getElem? (i := 4) rfl, (List.forall_mem_cons.mpr ⟨List.mem_of_getElem? (i := 5) rfl, (List.forall_mem_cons.mpr ⟨List.mem_of_getElem? (i := 6) rfl, (fun _ h => (List.not_mem_nil h).elim)⟩)⟩)⟩)⟩)⟩)⟩) (show ([6, 5, 0, 1, 2, 3, 4] : List Nat).Nodup by decide) ?_
  exact hK
