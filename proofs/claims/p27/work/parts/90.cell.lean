/-! cells of a row, or of two (written by wip/p27/c90.py) -/
/-- the cell of a row, or, behind its own columns, of a second one -/
def cellE (cs ds : List Int32) (j : Nat) : Int32 := ((cs ++ ds)[j]?).getD (-1000000000)
theorem cellE_l {cs ds : List Int32} {j : Nat} {v : Int32} (h : cs[j]? = some v) : cellE cs ds j = v := by
  unfold cellE
  rw [List.getElem?_append_left (List.getElem?_eq_some_iff.mp h).1, h]
  rfl
theorem cellE_r {cs ds : List Int32} {j : Nat} {v : Int32} (hj : cs.length ≤ j) (h : ds[j - cs.length]? = some v) : cellE cs ds j = v := by
  unfold cellE
  rw [List.getElem?_append_right hj, h]
  rfl
theorem cellE_n {cs ds : List Int32} {j : Nat} (h : cs.length + ds.length ≤ j) : cellE cs ds j = -1000000000 := by
  unfold cellE
  rw [List.getElem?_eq_none (by rw [List.length_append]; exact h)]
  rfl
theorem m_cellOf1 {S : List Int32} {hp : List XC} {x j : Nat} {e : En} (hX : hEn hp x e) (hj9 : j ≤ 100000) : Pu S 0 145 [.ref x, .null, .int (Int32.ofNat j)] hp (.int (cellE e.2.2.2.2.1 [] j)) := by
  obtain ⟨c, fs, hx, hxc, hxl, -⟩ := hX
  refine At.go (q := xm145) rfl 3 (pc' := 5) (L' := [(0, .ref x), (1, .null), (2, .int (Int32.ofNat j))]) (st' := [.int (Int32.ofNat j)]) rfl ?_
  refine At.ic1 (tgt := 11) rfl rfl (fun _ => ?_) (fun h => absurd (h.symm.trans (decide_eq_true ((iN_le (a := 0) (by omega) (by omega)).mpr (Nat.zero_le _)))) (by decide))
  refine At.go (q := xm145) rfl 2 (pc' := 13) (L' := [(0, .ref x), (1, .null), (2, .int (Int32.ofNat j))]) (st' := [.ref x, .int (Int32.ofNat j)]) rfl ?_
  refine At.gf rfl (by decide) hx rfl ?_
  refine At.ln rfl hxc ?_
  rw [List.length_map]
  refine At.ic2 (tgt := 27) rfl rfl (fun h17 => ?_) (fun h17 => ?_)
  · have hj : e.2.2.2.2.1.length ≤ j := (iN_le (by omega) (by omega)).mp (of_decide_eq_true h17)
    refine At.go (q := xm145) rfl 2 (pc' := 29) (L' := [(0, .ref x), (1, .null), (2, .int (Int32.ofNat j))]) (st' := [.ref x, .int (Int32.ofNat j)]) rfl ?_
    refine At.gf rfl (by decide) hx rfl ?_
    refine At.ln rfl hxc ?_
    refine At.go (q := xm145) rfl 5 (pc' := 59) (L' := [(3, .int ((Int32.ofNat j) - (Int32.ofNat (e.2.2.2.2.1.map Value.int).length))), (0, .ref x), (1, .null), (2, .int (Int32.ofNat j))]) (st' := [.int (-1000000000)]) rfl ?_
    exact At.rt rfl (xret_i rfl) (by rw [cellE_n (by rw [List.length_nil]; omega)])
  · have hj : j < e.2.2.2.2.1.length := Nat.lt_of_not_le (fun h => of_decide_eq_false h17 ((iN_le (by omega) (by omega)).mpr h))
    obtain ⟨v, hv⟩ : ∃ v, e.2.2.2.2.1[j]? = some v := ⟨_, List.getElem?_eq_getElem hj⟩
    refine At.go (q := xm145) rfl 1 (pc' := 21) (L' := [(0, .ref x), (1, .null), (2, .int (Int32.ofNat j))]) (st' := [.ref x]) rfl ?_
    refine At.gf rfl (by decide) hx rfl ?_
    refine At.go (q := xm145) rfl 1 (pc' := 25) (L' := [(0, .ref x), (1, .null), (2, .int (Int32.ofNat j))]) (st' := [.int (Int32.ofNat j), .ref c]) rfl ?_
    refine At.al rfl hxc (by decide) rfl (iN_nn (by omega)) (by rw [iN_tn (by omega), List.getElem?_map, hv]; rfl) ?_
    exact At.rt rfl (xret_i rfl) (by rw [cellE_l hv])
theorem m_cellOf2 {S : List Int32} {hp : List XC} {x j : Nat} {e : En} (hX : hEn hp x e) (hj9 : j ≤ 100000) {w : Nat} {f : En} (hW : hEn hp w f) : Pu S 0 145 [.ref x, .ref w, .int (Int32.ofNat j)] hp (.int (cellE e.2.2.2.2.1 f.2.2.2.2.1 j)) := by
  obtain ⟨c, fs, hx, hxc, hxl, -⟩ := hX
  obtain ⟨d, gs, hw, hwc, hwl, -⟩ := hW
  refine At.go (q := xm145) rfl 3 (pc' := 5) (L' := [(0, .ref x), (1, .ref w), (2, .int (Int32.ofNat j))]) (st' := [.int (Int32.ofNat j)]) rfl ?_
  refine At.ic1 (tgt := 11) rfl rfl (fun _ => ?_) (fun h => absurd (h.symm.trans (decide_eq_true ((iN_le (a := 0) (by omega) (by omega)).mpr (Nat.zero_le _)))) (by decide))
  refine At.go (q := xm145) rfl 2 (pc' := 13) (L' := [(0, .ref x), (1, .ref w), (2, .int (Int32.ofNat j))]) (st' := [.ref x, .int (Int32.ofNat j)]) rfl ?_
  refine At.gf rfl (by decide) hx rfl ?_
  refine At.ln rfl hxc ?_
  rw [List.length_map]
  refine At.ic2 (tgt := 27) rfl rfl (fun h17 => ?_) (fun h17 => ?_)
  · have hj : e.2.2.2.2.1.length ≤ j := (iN_le (by omega) (by omega)).mp (of_decide_eq_true h17)
    refine At.go (q := xm145) rfl 2 (pc' := 29) (L' := [(0, .ref x), (1, .ref w), (2, .int (Int32.ofNat j))]) (st' := [.ref x, .int (Int32.ofNat j)]) rfl ?_
    refine At.gf rfl (by decide) hx rfl ?_
    refine At.ln rfl hxc ?_
    refine At.go (q := xm145) rfl 6 (pc' := 41) (L' := [(3, .int ((Int32.ofNat j) - (Int32.ofNat (e.2.2.2.2.1.map Value.int).length))), (0, .ref x), (1, .ref w), (2, .int (Int32.ofNat j))]) (st' := [.ref w, .int ((Int32.ofNat j) - (Int32.ofNat (e.2.2.2.2.1.map Value.int).length))]) rfl ?_
    refine At.gf rfl (by decide) hw rfl ?_
    refine At.ln rfl hwc ?_
    rw [List.length_map, List.length_map, iN_sub hj]
    refine At.ic2 (tgt := 57) rfl rfl (fun h45 => ?_) (fun h45 => ?_)
    · have hj2 : f.2.2.2.2.1.length ≤ j - e.2.2.2.2.1.length := (iN_le (by omega) (by omega)).mp (of_decide_eq_true h45)
      refine At.go (q := xm145) rfl 1 (pc' := 59) (L' := [(3, .int (Int32.ofNat (j - e.2.2.2.2.1.length))), (0, .ref x), (1, .ref w), (2, .int (Int32.ofNat j))]) (st' := [.int (-1000000000)]) rfl ?_
      exact At.rt rfl (xret_i rfl) (by rw [cellE_n (by omega)])
    · have hj2 : j - e.2.2.2.2.1.length < f.2.2.2.2.1.length := Nat.lt_of_not_le (fun h => of_decide_eq_false h45 ((iN_le (by omega) (by omega)).mpr h))
      obtain ⟨v, hv⟩ : ∃ v, f.2.2.2.2.1[j - e.2.2.2.2.1.length]? = some v := ⟨_, List.getElem?_eq_getElem hj2⟩
      refine At.go (q := xm145) rfl 1 (pc' := 49) (L' := [(3, .int (Int32.ofNat (j - e.2.2.2.2.1.length))), (0, .ref x), (1, .ref w), (2, .int (Int32.ofNat j))]) (st' := [.ref w]) rfl ?_
      refine At.gf rfl (by decide) hw rfl ?_
      refine At.go (q := xm145) rfl 1 (pc' := 53) (L' := [(3, .int (Int32.ofNat (j - e.2.2.2.2.1.length))), (0, .ref x), (1, .ref w), (2, .int (Int32.ofNat j))]) (st' := [.int (Int32.ofNat (j - e.2.2.2.2.1.length)), .ref d]) rfl ?_
      refine At.al rfl hwc (by decide) rfl (iN_nn (by omega)) (by rw [iN_tn (by omega), List.getElem?_map, hv]; rfl) ?_
      refine At.go (q := xm145) rfl 1 (pc' := 59) (L' := [(3, .int (Int32.ofNat (j - e.2.2.2.2.1.length))), (0, .ref x), (1, .ref w), (2, .int (Int32.ofNat j))]) (st' := [.int v]) rfl ?_
      exact At.rt rfl (xret_i rfl) (by rw [cellE_r hj hv])
  · have hj : j < e.2.2.2.2.1.length := Nat.lt_of_not_le (fun h => of_decide_eq_false h17 ((iN_le (by omega) (by omega)).mpr h))
    obtain ⟨v, hv⟩ : ∃ v, e.2.2.2.2.1[j]? = some v := ⟨_, List.getElem?_eq_getElem hj⟩
    refine At.go (q := xm145) rfl 1 (pc' := 21) (L' := [(0, .ref x), (1, .ref w), (2, .int (Int32.ofNat j))]) (st' := [.ref x]) rfl ?_
    refine At.gf rfl (by decide) hx rfl ?_
    refine At.go (q := xm145) rfl 1 (pc' := 25) (L' := [(0, .ref x), (1, .ref w), (2, .int (Int32.ofNat j))]) (st' := [.int (Int32.ofNat j), .ref c]) rfl ?_
    refine At.al rfl hxc (by decide) rfl (iN_nn (by omega)) (by rw [iN_tn (by omega), List.getElem?_map, hv]; rfl) ?_
    exact At.rt rfl (xret_i rfl) (by rw [cellE_l hv])
theorem m_cellOf0 {S : List Int32} {hp : List XC} {j9 : Int32} : Pu S 0 145 [.null, .null, .int j9] hp (.int (-1000000000)) := by
  refine At.go (q := xm145) rfl 3 (pc' := 10) (L' := [(0, .null), (1, .null), (2, .int j9)]) (st' := [.int (-1000000000)]) rfl ?_
  exact At.rt rfl (xret_i rfl) rfl
