/-! the house: a tally's place (written by wip/p27/c9999991.py) -/
theorem m_tally0 {S : List Int32} {hp : List XC} {lb : Int32} (hlb : isLb lb = true) : Pu S 1 114 [.int lb, .int 100] hp (.int (lb * 4 + 0)) := by
  have hil : Pu S 0 21 [.int lb] hp (.int 1) := by
    have h := m_isLabel (S := S) (hp := hp) lb
    rw [hlb] at h
    exact h
  refine At.go (q := xm114) rfl 2 (pc' := 3) (L' := [(0, .int lb), (1, .int 100)]) (st' := [.int 100, .int 100]) rfl ?_
  refine At.ic2 (tgt := 10) rfl rfl (fun h => absurd (h.symm.trans (by decide : xcm .ne (100 : Int32) 100 = false)) (by decide)) (fun _ => ?_)
  refine At.go (q := xm114) rfl 4 (pc' := 43) (L' := [(2, .int 0), (0, .int lb), (1, .int 100)]) (st' := [.int lb]) rfl ?_
  refine At.clp (as := [.int lb]) (rest := []) rfl (by decide) rfl (Nat.le_of_ble_eq_true rfl) (Nat.le_of_ble_eq_true rfl) rfl (Nat.le_of_ble_eq_true rfl) (hil) ?_
  refine At.go (q := xm114) rfl 9 (pc' := 62) (L' := [(2, .int 0), (0, .int lb), (1, .int 100)]) (st' := [.int ((lb * 4) + 0)]) rfl ?_
  exact At.rt rfl (xret_i rfl) rfl
theorem m_tally1 {S : List Int32} {hp : List XC} {lb : Int32} (hlb : isLb lb = true) : Pu S 1 114 [.int lb, .int 114] hp (.int (lb * 4 + 1)) := by
  have hil : Pu S 0 21 [.int lb] hp (.int 1) := by
    have h := m_isLabel (S := S) (hp := hp) lb
    rw [hlb] at h
    exact h
  refine At.go (q := xm114) rfl 2 (pc' := 3) (L' := [(0, .int lb), (1, .int 114)]) (st' := [.int 100, .int 114]) rfl ?_
  refine At.ic2 (tgt := 10) rfl rfl (fun _ => ?_) (fun h => absurd (h.symm.trans (by decide : xcm .ne (114 : Int32) 100 = true)) (by decide))
  refine At.go (q := xm114) rfl 2 (pc' := 13) (L' := [(0, .int lb), (1, .int 114)]) (st' := [.int 114, .int 114]) rfl ?_
  refine At.ic2 (tgt := 20) rfl rfl (fun h => absurd (h.symm.trans (by decide : xcm .ne (114 : Int32) 114 = false)) (by decide)) (fun _ => ?_)
  refine At.go (q := xm114) rfl 4 (pc' := 43) (L' := [(2, .int 1), (0, .int lb), (1, .int 114)]) (st' := [.int lb]) rfl ?_
  refine At.clp (as := [.int lb]) (rest := []) rfl (by decide) rfl (Nat.le_of_ble_eq_true rfl) (Nat.le_of_ble_eq_true rfl) rfl (Nat.le_of_ble_eq_true rfl) (hil) ?_
  refine At.go (q := xm114) rfl 9 (pc' := 62) (L' := [(2, .int 1), (0, .int lb), (1, .int 114)]) (st' := [.int ((lb * 4) + 1)]) rfl ?_
  exact At.rt rfl (xret_i rfl) rfl
theorem m_tally2 {S : List Int32} {hp : List XC} {lb : Int32} (hlb : isLb lb = true) : Pu S 1 114 [.int lb, .int 102] hp (.int (lb * 4 + 2)) := by
  have hil : Pu S 0 21 [.int lb] hp (.int 1) := by
    have h := m_isLabel (S := S) (hp := hp) lb
    rw [hlb] at h
    exact h
  refine At.go (q := xm114) rfl 2 (pc' := 3) (L' := [(0, .int lb), (1, .int 102)]) (st' := [.int 100, .int 102]) rfl ?_
  refine At.ic2 (tgt := 10) rfl rfl (fun _ => ?_) (fun h => absurd (h.symm.trans (by decide : xcm .ne (102 : Int32) 100 = true)) (by decide))
  refine At.go (q := xm114) rfl 2 (pc' := 13) (L' := [(0, .int lb), (1, .int 102)]) (st' := [.int 114, .int 102]) rfl ?_
  refine At.ic2 (tgt := 20) rfl rfl (fun _ => ?_) (fun h => absurd (h.symm.trans (by decide : xcm .ne (102 : Int32) 114 = true)) (by decide))
  refine At.go (q := xm114) rfl 2 (pc' := 23) (L' := [(0, .int lb), (1, .int 102)]) (st' := [.int 102, .int 102]) rfl ?_
  refine At.ic2 (tgt := 30) rfl rfl (fun h => absurd (h.symm.trans (by decide : xcm .ne (102 : Int32) 102 = false)) (by decide)) (fun _ => ?_)
  refine At.go (q := xm114) rfl 4 (pc' := 43) (L' := [(2, .int 2), (0, .int lb), (1, .int 102)]) (st' := [.int lb]) rfl ?_
  refine At.clp (as := [.int lb]) (rest := []) rfl (by decide) rfl (Nat.le_of_ble_eq_true rfl) (Nat.le_of_ble_eq_true rfl) rfl (Nat.le_of_ble_eq_true rfl) (hil) ?_
  refine At.go (q := xm114) rfl 9 (pc' := 62) (L' := [(2, .int 2), (0, .int lb), (1, .int 102)]) (st' := [.int ((lb * 4) + 2)]) rfl ?_
  exact At.rt rfl (xret_i rfl) rfl
theorem m_tally3 {S : List Int32} {hp : List XC} {lb : Int32} (hlb : isLb lb = true) : Pu S 1 114 [.int lb, .int 99] hp (.int (lb * 4 + 3)) := by
  have hil : Pu S 0 21 [.int lb] hp (.int 1) := by
    have h := m_isLabel (S := S) (hp := hp) lb
    rw [hlb] at h
    exact h
  refine At.go (q := xm114) rfl 2 (pc' := 3) (L' := [(0, .int lb), (1, .int 99)]) (st' := [.int 100, .int 99]) rfl ?_
  refine At.ic2 (tgt := 10) rfl rfl (fun _ => ?_) (fun h => absurd (h.symm.trans (by decide : xcm .ne (99 : Int32) 100 = true)) (by decide))
  refine At.go (q := xm114) rfl 2 (pc' := 13) (L' := [(0, .int lb), (1, .int 99)]) (st' := [.int 114, .int 99]) rfl ?_
  refine At.ic2 (tgt := 20) rfl rfl (fun _ => ?_) (fun h => absurd (h.symm.trans (by decide : xcm .ne (99 : Int32) 114 = true)) (by decide))
  refine At.go (q := xm114) rfl 2 (pc' := 23) (L' := [(0, .int lb), (1, .int 99)]) (st' := [.int 102, .int 99]) rfl ?_
  refine At.ic2 (tgt := 30) rfl rfl (fun _ => ?_) (fun h => absurd (h.symm.trans (by decide : xcm .ne (99 : Int32) 102 = true)) (by decide))
  refine At.go (q := xm114) rfl 2 (pc' := 33) (L' := [(0, .int lb), (1, .int 99)]) (st' := [.int 99, .int 99]) rfl ?_
  refine At.ic2 (tgt := 40) rfl rfl (fun h => absurd (h.symm.trans (by decide : xcm .ne (99 : Int32) 99 = false)) (by decide)) (fun _ => ?_)
  refine At.go (q := xm114) rfl 4 (pc' := 43) (L' := [(2, .int 3), (0, .int lb), (1, .int 99)]) (st' := [.int lb]) rfl ?_
  refine At.clp (as := [.int lb]) (rest := []) rfl (by decide) rfl (Nat.le_of_ble_eq_true rfl) (Nat.le_of_ble_eq_true rfl) rfl (Nat.le_of_ble_eq_true rfl) (hil) ?_
  refine At.go (q := xm114) rfl 9 (pc' := 62) (L' := [(2, .int 3), (0, .int lb), (1, .int 99)]) (st' := [.int ((lb * 4) + 3)]) rfl ?_
  exact At.rt rfl (xret_i rfl) rfl
