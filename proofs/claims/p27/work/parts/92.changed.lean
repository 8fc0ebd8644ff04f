/-! what a prefix makes of a number (written by wip/p27/c92.py) -/
theorem m_ord4 {S : List Int32} {hp : List XC} : Pu S 0 54 [.retAddr 4] hp (.int 4) := by
  refine At.go (q := xm54) rfl 1 (pc' := 1) (L' := [(0, .retAddr 4)]) (st' := [.retAddr 4]) rfl ?_
  refine At.gk rfl (by decide) rfl rfl ?_
  exact At.rt rfl (xret_i rfl) rfl
theorem m_ord35 {S : List Int32} {hp : List XC} : Pu S 0 54 [.retAddr 35] hp (.int 35) := by
  refine At.go (q := xm54) rfl 1 (pc' := 1) (L' := [(0, .retAddr 35)]) (st' := [.retAddr 35]) rfl ?_
  refine At.gk rfl (by decide) rfl rfl ?_
  exact At.rt rfl (xret_i rfl) rfl
theorem m_ord50 {S : List Int32} {hp : List XC} : Pu S 0 54 [.retAddr 50] hp (.int 50) := by
  refine At.go (q := xm54) rfl 1 (pc' := 1) (L' := [(0, .retAddr 50)]) (st' := [.retAddr 50]) rfl ?_
  refine At.gk rfl (by decide) rfl rfl ?_
  exact At.rt rfl (xret_i rfl) rfl
def chg4 (n : Int32) : Int32 := if n = -1000000000 then -1000000000 else -n
theorem m_changed4 {S : List Int32} {hp : List XC} (n : Int32) : Pu S 1 146 [.retAddr 4, .int n] hp (.int (chg4 n)) := by
  refine At.go (q := xm146) rfl 2 (pc' := 4) (L' := [(0, .retAddr 4), (1, .int n)]) (st' := [.retAddr 4, .retAddr 222]) rfl ?_
  refine At.clp (as := [.retAddr 4]) (rest := [.retAddr 222]) rfl (by decide) rfl (Nat.le_of_ble_eq_true rfl) (Nat.le_of_ble_eq_true rfl) (xrck_k (by decide) (by decide) rfl (by decide)) (Nat.le_of_ble_eq_true rfl) (m_ord4) ?_
  refine At.ak rfl rfl (by decide) rfl (by decide) rfl ?_
  refine At.go (q := xm146) rfl 3 (pc' := 39) (L' := [(0, .retAddr 4), (1, .int n)]) (st' := [.int (-1000000000), .int n]) rfl ?_
  refine At.ic2 (tgt := 47) rfl rfl (fun h39 => ?_) (fun h39 => ?_)
  · refine At.go (q := xm146) rfl 2 (pc' := 49) (L' := [(0, .retAddr 4), (1, .int n)]) (st' := [.int (-n)]) rfl ?_
    exact At.rt rfl (xret_i rfl) (by rw [chg4, if_neg (of_decide_eq_true h39)])
  · refine At.go (q := xm146) rfl 2 (pc' := 49) (L' := [(0, .retAddr 4), (1, .int n)]) (st' := [.int (-1000000000)]) rfl ?_
    exact At.rt rfl (xret_i rfl) (by rw [chg4, if_pos (xne_f h39)])
def chg35 (n : Int32) : Int32 := if n = -1000000000 then 0 else 1
theorem m_changed35 {S : List Int32} {hp : List XC} (n : Int32) : Pu S 1 146 [.retAddr 35, .int n] hp (.int (chg35 n)) := by
  refine At.go (q := xm146) rfl 2 (pc' := 4) (L' := [(0, .retAddr 35), (1, .int n)]) (st' := [.retAddr 35, .retAddr 222]) rfl ?_
  refine At.clp (as := [.retAddr 35]) (rest := [.retAddr 222]) rfl (by decide) rfl (Nat.le_of_ble_eq_true rfl) (Nat.le_of_ble_eq_true rfl) (xrck_k (by decide) (by decide) rfl (by decide)) (Nat.le_of_ble_eq_true rfl) (m_ord35) ?_
  refine At.ak rfl rfl (by decide) rfl (by decide) rfl ?_
  refine At.go (q := xm146) rfl 3 (pc' := 53) (L' := [(0, .retAddr 35), (1, .int n)]) (st' := [.int (-1000000000), .int n]) rfl ?_
  refine At.ic2 (tgt := 60) rfl rfl (fun h53 => ?_) (fun h53 => ?_)
  · refine At.go (q := xm146) rfl 1 (pc' := 61) (L' := [(0, .retAddr 35), (1, .int n)]) (st' := [.int 1]) rfl ?_
    exact At.rt rfl (xret_i rfl) (by rw [chg35, if_neg (of_decide_eq_true h53)])
  · refine At.go (q := xm146) rfl 2 (pc' := 61) (L' := [(0, .retAddr 35), (1, .int n)]) (st' := [.int 0]) rfl ?_
    exact At.rt rfl (xret_i rfl) (by rw [chg35, if_pos (xne_f h53)])
def chg50 (n : Int32) : Int32 := if n = -1000000000 then 1 else if n = 0 then 1 else 0
theorem m_changed50 {S : List Int32} {hp : List XC} (n : Int32) : Pu S 1 146 [.retAddr 50, .int n] hp (.int (chg50 n)) := by
  refine At.go (q := xm146) rfl 2 (pc' := 4) (L' := [(0, .retAddr 50), (1, .int n)]) (st' := [.retAddr 50, .retAddr 222]) rfl ?_
  refine At.clp (as := [.retAddr 50]) (rest := [.retAddr 222]) rfl (by decide) rfl (Nat.le_of_ble_eq_true rfl) (Nat.le_of_ble_eq_true rfl) (xrck_k (by decide) (by decide) rfl (by decide)) (Nat.le_of_ble_eq_true rfl) (m_ord50) ?_
  refine At.ak rfl rfl (by decide) rfl (by decide) rfl ?_
  refine At.go (q := xm146) rfl 3 (pc' := 65) (L' := [(0, .retAddr 50), (1, .int n)]) (st' := [.int (-1000000000), .int n]) rfl ?_
  refine At.ic2 (tgt := 72) rfl rfl (fun h65 => ?_) (fun h65 => ?_)
  · refine At.go (q := xm146) rfl 2 (pc' := 77) (L' := [(0, .retAddr 50), (1, .int n)]) (st' := [.int 1]) rfl ?_
    exact At.rt rfl (xret_i rfl) (by rw [chg50, if_pos (of_decide_eq_true h65)])
  · refine At.go (q := xm146) rfl 1 (pc' := 69) (L' := [(0, .retAddr 50), (1, .int n)]) (st' := [.int n]) rfl ?_
    refine At.ic1 (tgt := 76) rfl rfl (fun h69 => ?_) (fun h69 => ?_)
    · refine At.go (q := xm146) rfl 1 (pc' := 77) (L' := [(0, .retAddr 50), (1, .int n)]) (st' := [.int 0]) rfl ?_
      exact At.rt rfl (xret_i rfl) (by rw [chg50, if_neg (of_decide_eq_false h65), if_neg (of_decide_eq_true h69)])
    · refine At.go (q := xm146) rfl 2 (pc' := 77) (L' := [(0, .retAddr 50), (1, .int n)]) (st' := [.int 1]) rfl ?_
      exact At.rt rfl (xret_i rfl) (by rw [chg50, if_neg (of_decide_eq_false h65), if_pos (xne_f h69)])
