/-! what an operator makes of two numbers (written by wip/p27/c93.py) -/
theorem m_ord48 {S : List Int32} {hp : List XC} : Pu S 0 54 [.retAddr 48] hp (.int 48) := by
  refine At.go (q := xm54) rfl 1 (pc' := 1) (L' := [(0, .retAddr 48)]) (st' := [.retAddr 48]) rfl ?_
  refine At.gk rfl (by decide) rfl rfl ?_
  exact At.rt rfl (xret_i rfl) rfl
def cmb48 (l r : Int32) : Int32 := (if xcm .eq l (-1000000000) = true then (if xcm .eq r (-1000000000) = true then 0 else (if xcm .eq r 0 = true then 0 else 0)) else (if xcm .eq l 0 = true then (if xcm .eq r (-1000000000) = true then 0 else (if xcm .eq r 0 = true then 0 else 0)) else (if xcm .eq r (-1000000000) = true then 0 else (if xcm .eq r 0 = true then 0 else 1))))
theorem m_combined48 {S : List Int32} {hp : List XC} (l r : Int32) : Pu S 1 147 [.retAddr 48, .int l, .int r] hp (.int (cmb48 l r)) := by
  refine At.go (q := xm147) rfl 2 (pc' := 3) (L' := [(0, .retAddr 48), (1, .int l), (2, .int r)]) (st' := [.int (-1000000000), .int l]) rfl ?_
  refine At.ic2 (tgt := 14) rfl rfl (fun h1 => ?_) (fun h1 => ?_)
  · refine At.go (q := xm147) rfl 4 (pc' := 19) (L' := [(3, .int 0), (0, .retAddr 48), (1, .int l), (2, .int r)]) (st' := [.int (-1000000000), .int r]) rfl ?_
    refine At.ic2 (tgt := 30) rfl rfl (fun h2 => ?_) (fun h2 => ?_)
    · refine At.go (q := xm147) rfl 4 (pc' := 37) (L' := [(4, .int 0), (3, .int 0), (0, .retAddr 48), (1, .int l), (2, .int r)]) (st' := [.retAddr 49, .retAddr 48]) rfl ?_
      refine At.ace (tgt := 47) (b := false) rfl rfl rfl (fun h => absurd h (by decide)) (fun _ => ?_)
      refine At.go (q := xm147) rfl 2 (pc' := 44) (L' := [(4, .int 0), (3, .int 0), (0, .retAddr 48), (1, .int l), (2, .int r)]) (st' := [.retAddr 48, .retAddr 48]) rfl ?_
      refine At.acn (tgt := 78) (b := true) rfl rfl rfl (fun h => absurd h (by decide)) (fun _ => ?_)
      refine At.go (q := xm147) rfl 4 (pc' := 60) (L' := [(4, .int 0), (3, .int 0), (0, .retAddr 48), (1, .int l), (2, .int r)]) (st' := [.retAddr 49, .retAddr 48]) rfl ?_
      refine At.acn (tgt := 76) (b := false) rfl rfl rfl (fun _ => ?_) (fun h => absurd h (by decide))
      refine At.go (q := xm147) rfl 1 (pc' := 77) (L' := [(4, .int 0), (3, .int 0), (0, .retAddr 48), (1, .int l), (2, .int r)]) (st' := [.int 0]) rfl ?_
      exact At.rt rfl (xret_i rfl) (by rw [cmb48, if_pos h1, if_pos h2])
    · refine At.go (q := xm147) rfl 1 (pc' := 23) (L' := [(3, .int 0), (0, .retAddr 48), (1, .int l), (2, .int r)]) (st' := [.int r]) rfl ?_
      refine At.ic1 (tgt := 30) rfl rfl (fun h3 => ?_) (fun h3 => ?_)
      · refine At.go (q := xm147) rfl 4 (pc' := 37) (L' := [(4, .int 0), (3, .int 0), (0, .retAddr 48), (1, .int l), (2, .int r)]) (st' := [.retAddr 49, .retAddr 48]) rfl ?_
        refine At.ace (tgt := 47) (b := false) rfl rfl rfl (fun h => absurd h (by decide)) (fun _ => ?_)
        refine At.go (q := xm147) rfl 2 (pc' := 44) (L' := [(4, .int 0), (3, .int 0), (0, .retAddr 48), (1, .int l), (2, .int r)]) (st' := [.retAddr 48, .retAddr 48]) rfl ?_
        refine At.acn (tgt := 78) (b := true) rfl rfl rfl (fun h => absurd h (by decide)) (fun _ => ?_)
        refine At.go (q := xm147) rfl 4 (pc' := 60) (L' := [(4, .int 0), (3, .int 0), (0, .retAddr 48), (1, .int l), (2, .int r)]) (st' := [.retAddr 49, .retAddr 48]) rfl ?_
        refine At.acn (tgt := 76) (b := false) rfl rfl rfl (fun _ => ?_) (fun h => absurd h (by decide))
        refine At.go (q := xm147) rfl 1 (pc' := 77) (L' := [(4, .int 0), (3, .int 0), (0, .retAddr 48), (1, .int l), (2, .int r)]) (st' := [.int 0]) rfl ?_
        exact At.rt rfl (xret_i rfl) (by rw [cmb48, if_pos h1, if_neg (xntf h2), if_pos h3])
      · refine At.go (q := xm147) rfl 5 (pc' := 37) (L' := [(4, .int 1), (3, .int 0), (0, .retAddr 48), (1, .int l), (2, .int r)]) (st' := [.retAddr 49, .retAddr 48]) rfl ?_
        refine At.ace (tgt := 47) (b := false) rfl rfl rfl (fun h => absurd h (by decide)) (fun _ => ?_)
        refine At.go (q := xm147) rfl 2 (pc' := 44) (L' := [(4, .int 1), (3, .int 0), (0, .retAddr 48), (1, .int l), (2, .int r)]) (st' := [.retAddr 48, .retAddr 48]) rfl ?_
        refine At.acn (tgt := 78) (b := true) rfl rfl rfl (fun h => absurd h (by decide)) (fun _ => ?_)
        refine At.go (q := xm147) rfl 4 (pc' := 60) (L' := [(4, .int 1), (3, .int 0), (0, .retAddr 48), (1, .int l), (2, .int r)]) (st' := [.retAddr 49, .retAddr 48]) rfl ?_
        refine At.acn (tgt := 76) (b := false) rfl rfl rfl (fun _ => ?_) (fun h => absurd h (by decide))
        refine At.go (q := xm147) rfl 1 (pc' := 77) (L' := [(4, .int 1), (3, .int 0), (0, .retAddr 48), (1, .int l), (2, .int r)]) (st' := [.int 0]) rfl ?_
        exact At.rt rfl (xret_i rfl) (by rw [cmb48, if_pos h1, if_neg (xntf h2), if_neg (xntf h3)])
  · refine At.go (q := xm147) rfl 1 (pc' := 7) (L' := [(0, .retAddr 48), (1, .int l), (2, .int r)]) (st' := [.int l]) rfl ?_
    refine At.ic1 (tgt := 14) rfl rfl (fun h4 => ?_) (fun h4 => ?_)
    · refine At.go (q := xm147) rfl 4 (pc' := 19) (L' := [(3, .int 0), (0, .retAddr 48), (1, .int l), (2, .int r)]) (st' := [.int (-1000000000), .int r]) rfl ?_
      refine At.ic2 (tgt := 30) rfl rfl (fun h5 => ?_) (fun h5 => ?_)
      · refine At.go (q := xm147) rfl 4 (pc' := 37) (L' := [(4, .int 0), (3, .int 0), (0, .retAddr 48), (1, .int l), (2, .int r)]) (st' := [.retAddr 49, .retAddr 48]) rfl ?_
        refine At.ace (tgt := 47) (b := false) rfl rfl rfl (fun h => absurd h (by decide)) (fun _ => ?_)
        refine At.go (q := xm147) rfl 2 (pc' := 44) (L' := [(4, .int 0), (3, .int 0), (0, .retAddr 48), (1, .int l), (2, .int r)]) (st' := [.retAddr 48, .retAddr 48]) rfl ?_
        refine At.acn (tgt := 78) (b := true) rfl rfl rfl (fun h => absurd h (by decide)) (fun _ => ?_)
        refine At.go (q := xm147) rfl 4 (pc' := 60) (L' := [(4, .int 0), (3, .int 0), (0, .retAddr 48), (1, .int l), (2, .int r)]) (st' := [.retAddr 49, .retAddr 48]) rfl ?_
        refine At.acn (tgt := 76) (b := false) rfl rfl rfl (fun _ => ?_) (fun h => absurd h (by decide))
        refine At.go (q := xm147) rfl 1 (pc' := 77) (L' := [(4, .int 0), (3, .int 0), (0, .retAddr 48), (1, .int l), (2, .int r)]) (st' := [.int 0]) rfl ?_
        exact At.rt rfl (xret_i rfl) (by rw [cmb48, if_neg (xntf h1), if_pos h4, if_pos h5])
      · refine At.go (q := xm147) rfl 1 (pc' := 23) (L' := [(3, .int 0), (0, .retAddr 48), (1, .int l), (2, .int r)]) (st' := [.int r]) rfl ?_
        refine At.ic1 (tgt := 30) rfl rfl (fun h6 => ?_) (fun h6 => ?_)
        · refine At.go (q := xm147) rfl 4 (pc' := 37) (L' := [(4, .int 0), (3, .int 0), (0, .retAddr 48), (1, .int l), (2, .int r)]) (st' := [.retAddr 49, .retAddr 48]) rfl ?_
          refine At.ace (tgt := 47) (b := false) rfl rfl rfl (fun h => absurd h (by decide)) (fun _ => ?_)
          refine At.go (q := xm147) rfl 2 (pc' := 44) (L' := [(4, .int 0), (3, .int 0), (0, .retAddr 48), (1, .int l), (2, .int r)]) (st' := [.retAddr 48, .retAddr 48]) rfl ?_
          refine At.acn (tgt := 78) (b := true) rfl rfl rfl (fun h => absurd h (by decide)) (fun _ => ?_)
          refine At.go (q := xm147) rfl 4 (pc' := 60) (L' := [(4, .int 0), (3, .int 0), (0, .retAddr 48), (1, .int l), (2, .int r)]) (st' := [.retAddr 49, .retAddr 48]) rfl ?_
          refine At.acn (tgt := 76) (b := false) rfl rfl rfl (fun _ => ?_) (fun h => absurd h (by decide))
          refine At.go (q := xm147) rfl 1 (pc' := 77) (L' := [(4, .int 0), (3, .int 0), (0, .retAddr 48), (1, .int l), (2, .int r)]) (st' := [.int 0]) rfl ?_
          exact At.rt rfl (xret_i rfl) (by rw [cmb48, if_neg (xntf h1), if_pos h4, if_neg (xntf h5), if_pos h6])
        · refine At.go (q := xm147) rfl 5 (pc' := 37) (L' := [(4, .int 1), (3, .int 0), (0, .retAddr 48), (1, .int l), (2, .int r)]) (st' := [.retAddr 49, .retAddr 48]) rfl ?_
          refine At.ace (tgt := 47) (b := false) rfl rfl rfl (fun h => absurd h (by decide)) (fun _ => ?_)
          refine At.go (q := xm147) rfl 2 (pc' := 44) (L' := [(4, .int 1), (3, .int 0), (0, .retAddr 48), (1, .int l), (2, .int r)]) (st' := [.retAddr 48, .retAddr 48]) rfl ?_
          refine At.acn (tgt := 78) (b := true) rfl rfl rfl (fun h => absurd h (by decide)) (fun _ => ?_)
          refine At.go (q := xm147) rfl 4 (pc' := 60) (L' := [(4, .int 1), (3, .int 0), (0, .retAddr 48), (1, .int l), (2, .int r)]) (st' := [.retAddr 49, .retAddr 48]) rfl ?_
          refine At.acn (tgt := 76) (b := false) rfl rfl rfl (fun _ => ?_) (fun h => absurd h (by decide))
          refine At.go (q := xm147) rfl 1 (pc' := 77) (L' := [(4, .int 1), (3, .int 0), (0, .retAddr 48), (1, .int l), (2, .int r)]) (st' := [.int 0]) rfl ?_
          exact At.rt rfl (xret_i rfl) (by rw [cmb48, if_neg (xntf h1), if_pos h4, if_neg (xntf h5), if_neg (xntf h6)])
    · refine At.go (q := xm147) rfl 5 (pc' := 19) (L' := [(3, .int 1), (0, .retAddr 48), (1, .int l), (2, .int r)]) (st' := [.int (-1000000000), .int r]) rfl ?_
      refine At.ic2 (tgt := 30) rfl rfl (fun h7 => ?_) (fun h7 => ?_)
      · refine At.go (q := xm147) rfl 4 (pc' := 37) (L' := [(4, .int 0), (3, .int 1), (0, .retAddr 48), (1, .int l), (2, .int r)]) (st' := [.retAddr 49, .retAddr 48]) rfl ?_
        refine At.ace (tgt := 47) (b := false) rfl rfl rfl (fun h => absurd h (by decide)) (fun _ => ?_)
        refine At.go (q := xm147) rfl 2 (pc' := 44) (L' := [(4, .int 0), (3, .int 1), (0, .retAddr 48), (1, .int l), (2, .int r)]) (st' := [.retAddr 48, .retAddr 48]) rfl ?_
        refine At.acn (tgt := 78) (b := true) rfl rfl rfl (fun h => absurd h (by decide)) (fun _ => ?_)
        refine At.go (q := xm147) rfl 6 (pc' := 60) (L' := [(4, .int 0), (3, .int 1), (0, .retAddr 48), (1, .int l), (2, .int r)]) (st' := [.retAddr 49, .retAddr 48]) rfl ?_
        refine At.acn (tgt := 76) (b := false) rfl rfl rfl (fun _ => ?_) (fun h => absurd h (by decide))
        refine At.go (q := xm147) rfl 1 (pc' := 77) (L' := [(4, .int 0), (3, .int 1), (0, .retAddr 48), (1, .int l), (2, .int r)]) (st' := [.int 0]) rfl ?_
        exact At.rt rfl (xret_i rfl) (by rw [cmb48, if_neg (xntf h1), if_neg (xntf h4), if_pos h7])
      · refine At.go (q := xm147) rfl 1 (pc' := 23) (L' := [(3, .int 1), (0, .retAddr 48), (1, .int l), (2, .int r)]) (st' := [.int r]) rfl ?_
        refine At.ic1 (tgt := 30) rfl rfl (fun h8 => ?_) (fun h8 => ?_)
        · refine At.go (q := xm147) rfl 4 (pc' := 37) (L' := [(4, .int 0), (3, .int 1), (0, .retAddr 48), (1, .int l), (2, .int r)]) (st' := [.retAddr 49, .retAddr 48]) rfl ?_
          refine At.ace (tgt := 47) (b := false) rfl rfl rfl (fun h => absurd h (by decide)) (fun _ => ?_)
          refine At.go (q := xm147) rfl 2 (pc' := 44) (L' := [(4, .int 0), (3, .int 1), (0, .retAddr 48), (1, .int l), (2, .int r)]) (st' := [.retAddr 48, .retAddr 48]) rfl ?_
          refine At.acn (tgt := 78) (b := true) rfl rfl rfl (fun h => absurd h (by decide)) (fun _ => ?_)
          refine At.go (q := xm147) rfl 6 (pc' := 60) (L' := [(4, .int 0), (3, .int 1), (0, .retAddr 48), (1, .int l), (2, .int r)]) (st' := [.retAddr 49, .retAddr 48]) rfl ?_
          refine At.acn (tgt := 76) (b := false) rfl rfl rfl (fun _ => ?_) (fun h => absurd h (by decide))
          refine At.go (q := xm147) rfl 1 (pc' := 77) (L' := [(4, .int 0), (3, .int 1), (0, .retAddr 48), (1, .int l), (2, .int r)]) (st' := [.int 0]) rfl ?_
          exact At.rt rfl (xret_i rfl) (by rw [cmb48, if_neg (xntf h1), if_neg (xntf h4), if_neg (xntf h7), if_pos h8])
        · refine At.go (q := xm147) rfl 5 (pc' := 37) (L' := [(4, .int 1), (3, .int 1), (0, .retAddr 48), (1, .int l), (2, .int r)]) (st' := [.retAddr 49, .retAddr 48]) rfl ?_
          refine At.ace (tgt := 47) (b := false) rfl rfl rfl (fun h => absurd h (by decide)) (fun _ => ?_)
          refine At.go (q := xm147) rfl 2 (pc' := 44) (L' := [(4, .int 1), (3, .int 1), (0, .retAddr 48), (1, .int l), (2, .int r)]) (st' := [.retAddr 48, .retAddr 48]) rfl ?_
          refine At.acn (tgt := 78) (b := true) rfl rfl rfl (fun h => absurd h (by decide)) (fun _ => ?_)
          refine At.go (q := xm147) rfl 6 (pc' := 77) (L' := [(4, .int 1), (3, .int 1), (0, .retAddr 48), (1, .int l), (2, .int r)]) (st' := [.int 1]) rfl ?_
          exact At.rt rfl (xret_i rfl) (by rw [cmb48, if_neg (xntf h1), if_neg (xntf h4), if_neg (xntf h7), if_neg (xntf h8)])
theorem m_ord49 {S : List Int32} {hp : List XC} : Pu S 0 54 [.retAddr 49] hp (.int 49) := by
  refine At.go (q := xm54) rfl 1 (pc' := 1) (L' := [(0, .retAddr 49)]) (st' := [.retAddr 49]) rfl ?_
  refine At.gk rfl (by decide) rfl rfl ?_
  exact At.rt rfl (xret_i rfl) rfl
def cmb49 (l r : Int32) : Int32 := (if xcm .eq l (-1000000000) = true then (if xcm .eq r (-1000000000) = true then 0 else (if xcm .eq r 0 = true then 0 else 1)) else (if xcm .eq l 0 = true then (if xcm .eq r (-1000000000) = true then 0 else (if xcm .eq r 0 = true then 0 else 1)) else (if xcm .eq r (-1000000000) = true then 1 else (if xcm .eq r 0 = true then 1 else 1))))
theorem m_combined49 {S : List Int32} {hp : List XC} (l r : Int32) : Pu S 1 147 [.retAddr 49, .int l, .int r] hp (.int (cmb49 l r)) := by
  refine At.go (q := xm147) rfl 2 (pc' := 3) (L' := [(0, .retAddr 49), (1, .int l), (2, .int r)]) (st' := [.int (-1000000000), .int l]) rfl ?_
  refine At.ic2 (tgt := 14) rfl rfl (fun h1 => ?_) (fun h1 => ?_)
  · refine At.go (q := xm147) rfl 4 (pc' := 19) (L' := [(3, .int 0), (0, .retAddr 49), (1, .int l), (2, .int r)]) (st' := [.int (-1000000000), .int r]) rfl ?_
    refine At.ic2 (tgt := 30) rfl rfl (fun h2 => ?_) (fun h2 => ?_)
    · refine At.go (q := xm147) rfl 4 (pc' := 37) (L' := [(4, .int 0), (3, .int 0), (0, .retAddr 49), (1, .int l), (2, .int r)]) (st' := [.retAddr 49, .retAddr 49]) rfl ?_
      refine At.ace (tgt := 47) (b := true) rfl rfl rfl (fun _ => ?_) (fun h => absurd h (by decide))
      refine At.go (q := xm147) rfl 4 (pc' := 60) (L' := [(4, .int 0), (3, .int 0), (0, .retAddr 49), (1, .int l), (2, .int r)]) (st' := [.retAddr 49, .retAddr 49]) rfl ?_
      refine At.acn (tgt := 76) (b := true) rfl rfl rfl (fun h => absurd h (by decide)) (fun _ => ?_)
      refine At.go (q := xm147) rfl 5 (pc' := 77) (L' := [(4, .int 0), (3, .int 0), (0, .retAddr 49), (1, .int l), (2, .int r)]) (st' := [.int 0]) rfl ?_
      exact At.rt rfl (xret_i rfl) (by rw [cmb49, if_pos h1, if_pos h2])
    · refine At.go (q := xm147) rfl 1 (pc' := 23) (L' := [(3, .int 0), (0, .retAddr 49), (1, .int l), (2, .int r)]) (st' := [.int r]) rfl ?_
      refine At.ic1 (tgt := 30) rfl rfl (fun h3 => ?_) (fun h3 => ?_)
      · refine At.go (q := xm147) rfl 4 (pc' := 37) (L' := [(4, .int 0), (3, .int 0), (0, .retAddr 49), (1, .int l), (2, .int r)]) (st' := [.retAddr 49, .retAddr 49]) rfl ?_
        refine At.ace (tgt := 47) (b := true) rfl rfl rfl (fun _ => ?_) (fun h => absurd h (by decide))
        refine At.go (q := xm147) rfl 4 (pc' := 60) (L' := [(4, .int 0), (3, .int 0), (0, .retAddr 49), (1, .int l), (2, .int r)]) (st' := [.retAddr 49, .retAddr 49]) rfl ?_
        refine At.acn (tgt := 76) (b := true) rfl rfl rfl (fun h => absurd h (by decide)) (fun _ => ?_)
        refine At.go (q := xm147) rfl 5 (pc' := 77) (L' := [(4, .int 0), (3, .int 0), (0, .retAddr 49), (1, .int l), (2, .int r)]) (st' := [.int 0]) rfl ?_
        exact At.rt rfl (xret_i rfl) (by rw [cmb49, if_pos h1, if_neg (xntf h2), if_pos h3])
      · refine At.go (q := xm147) rfl 5 (pc' := 37) (L' := [(4, .int 1), (3, .int 0), (0, .retAddr 49), (1, .int l), (2, .int r)]) (st' := [.retAddr 49, .retAddr 49]) rfl ?_
        refine At.ace (tgt := 47) (b := true) rfl rfl rfl (fun _ => ?_) (fun h => absurd h (by decide))
        refine At.go (q := xm147) rfl 4 (pc' := 60) (L' := [(4, .int 1), (3, .int 0), (0, .retAddr 49), (1, .int l), (2, .int r)]) (st' := [.retAddr 49, .retAddr 49]) rfl ?_
        refine At.acn (tgt := 76) (b := true) rfl rfl rfl (fun h => absurd h (by decide)) (fun _ => ?_)
        refine At.go (q := xm147) rfl 6 (pc' := 77) (L' := [(4, .int 1), (3, .int 0), (0, .retAddr 49), (1, .int l), (2, .int r)]) (st' := [.int 1]) rfl ?_
        exact At.rt rfl (xret_i rfl) (by rw [cmb49, if_pos h1, if_neg (xntf h2), if_neg (xntf h3)])
  · refine At.go (q := xm147) rfl 1 (pc' := 7) (L' := [(0, .retAddr 49), (1, .int l), (2, .int r)]) (st' := [.int l]) rfl ?_
    refine At.ic1 (tgt := 14) rfl rfl (fun h4 => ?_) (fun h4 => ?_)
    · refine At.go (q := xm147) rfl 4 (pc' := 19) (L' := [(3, .int 0), (0, .retAddr 49), (1, .int l), (2, .int r)]) (st' := [.int (-1000000000), .int r]) rfl ?_
      refine At.ic2 (tgt := 30) rfl rfl (fun h5 => ?_) (fun h5 => ?_)
      · refine At.go (q := xm147) rfl 4 (pc' := 37) (L' := [(4, .int 0), (3, .int 0), (0, .retAddr 49), (1, .int l), (2, .int r)]) (st' := [.retAddr 49, .retAddr 49]) rfl ?_
        refine At.ace (tgt := 47) (b := true) rfl rfl rfl (fun _ => ?_) (fun h => absurd h (by decide))
        refine At.go (q := xm147) rfl 4 (pc' := 60) (L' := [(4, .int 0), (3, .int 0), (0, .retAddr 49), (1, .int l), (2, .int r)]) (st' := [.retAddr 49, .retAddr 49]) rfl ?_
        refine At.acn (tgt := 76) (b := true) rfl rfl rfl (fun h => absurd h (by decide)) (fun _ => ?_)
        refine At.go (q := xm147) rfl 5 (pc' := 77) (L' := [(4, .int 0), (3, .int 0), (0, .retAddr 49), (1, .int l), (2, .int r)]) (st' := [.int 0]) rfl ?_
        exact At.rt rfl (xret_i rfl) (by rw [cmb49, if_neg (xntf h1), if_pos h4, if_pos h5])
      · refine At.go (q := xm147) rfl 1 (pc' := 23) (L' := [(3, .int 0), (0, .retAddr 49), (1, .int l), (2, .int r)]) (st' := [.int r]) rfl ?_
        refine At.ic1 (tgt := 30) rfl rfl (fun h6 => ?_) (fun h6 => ?_)
        · refine At.go (q := xm147) rfl 4 (pc' := 37) (L' := [(4, .int 0), (3, .int 0), (0, .retAddr 49), (1, .int l), (2, .int r)]) (st' := [.retAddr 49, .retAddr 49]) rfl ?_
          refine At.ace (tgt := 47) (b := true) rfl rfl rfl (fun _ => ?_) (fun h => absurd h (by decide))
          refine At.go (q := xm147) rfl 4 (pc' := 60) (L' := [(4, .int 0), (3, .int 0), (0, .retAddr 49), (1, .int l), (2, .int r)]) (st' := [.retAddr 49, .retAddr 49]) rfl ?_
          refine At.acn (tgt := 76) (b := true) rfl rfl rfl (fun h => absurd h (by decide)) (fun _ => ?_)
          refine At.go (q := xm147) rfl 5 (pc' := 77) (L' := [(4, .int 0), (3, .int 0), (0, .retAddr 49), (1, .int l), (2, .int r)]) (st' := [.int 0]) rfl ?_
          exact At.rt rfl (xret_i rfl) (by rw [cmb49, if_neg (xntf h1), if_pos h4, if_neg (xntf h5), if_pos h6])
        · refine At.go (q := xm147) rfl 5 (pc' := 37) (L' := [(4, .int 1), (3, .int 0), (0, .retAddr 49), (1, .int l), (2, .int r)]) (st' := [.retAddr 49, .retAddr 49]) rfl ?_
          refine At.ace (tgt := 47) (b := true) rfl rfl rfl (fun _ => ?_) (fun h => absurd h (by decide))
          refine At.go (q := xm147) rfl 4 (pc' := 60) (L' := [(4, .int 1), (3, .int 0), (0, .retAddr 49), (1, .int l), (2, .int r)]) (st' := [.retAddr 49, .retAddr 49]) rfl ?_
          refine At.acn (tgt := 76) (b := true) rfl rfl rfl (fun h => absurd h (by decide)) (fun _ => ?_)
          refine At.go (q := xm147) rfl 6 (pc' := 77) (L' := [(4, .int 1), (3, .int 0), (0, .retAddr 49), (1, .int l), (2, .int r)]) (st' := [.int 1]) rfl ?_
          exact At.rt rfl (xret_i rfl) (by rw [cmb49, if_neg (xntf h1), if_pos h4, if_neg (xntf h5), if_neg (xntf h6)])
    · refine At.go (q := xm147) rfl 5 (pc' := 19) (L' := [(3, .int 1), (0, .retAddr 49), (1, .int l), (2, .int r)]) (st' := [.int (-1000000000), .int r]) rfl ?_
      refine At.ic2 (tgt := 30) rfl rfl (fun h7 => ?_) (fun h7 => ?_)
      · refine At.go (q := xm147) rfl 4 (pc' := 37) (L' := [(4, .int 0), (3, .int 1), (0, .retAddr 49), (1, .int l), (2, .int r)]) (st' := [.retAddr 49, .retAddr 49]) rfl ?_
        refine At.ace (tgt := 47) (b := true) rfl rfl rfl (fun _ => ?_) (fun h => absurd h (by decide))
        refine At.go (q := xm147) rfl 6 (pc' := 60) (L' := [(4, .int 0), (3, .int 1), (0, .retAddr 49), (1, .int l), (2, .int r)]) (st' := [.retAddr 49, .retAddr 49]) rfl ?_
        refine At.acn (tgt := 76) (b := true) rfl rfl rfl (fun h => absurd h (by decide)) (fun _ => ?_)
        refine At.go (q := xm147) rfl 4 (pc' := 77) (L' := [(4, .int 0), (3, .int 1), (0, .retAddr 49), (1, .int l), (2, .int r)]) (st' := [.int 1]) rfl ?_
        exact At.rt rfl (xret_i rfl) (by rw [cmb49, if_neg (xntf h1), if_neg (xntf h4), if_pos h7])
      · refine At.go (q := xm147) rfl 1 (pc' := 23) (L' := [(3, .int 1), (0, .retAddr 49), (1, .int l), (2, .int r)]) (st' := [.int r]) rfl ?_
        refine At.ic1 (tgt := 30) rfl rfl (fun h8 => ?_) (fun h8 => ?_)
        · refine At.go (q := xm147) rfl 4 (pc' := 37) (L' := [(4, .int 0), (3, .int 1), (0, .retAddr 49), (1, .int l), (2, .int r)]) (st' := [.retAddr 49, .retAddr 49]) rfl ?_
          refine At.ace (tgt := 47) (b := true) rfl rfl rfl (fun _ => ?_) (fun h => absurd h (by decide))
          refine At.go (q := xm147) rfl 6 (pc' := 60) (L' := [(4, .int 0), (3, .int 1), (0, .retAddr 49), (1, .int l), (2, .int r)]) (st' := [.retAddr 49, .retAddr 49]) rfl ?_
          refine At.acn (tgt := 76) (b := true) rfl rfl rfl (fun h => absurd h (by decide)) (fun _ => ?_)
          refine At.go (q := xm147) rfl 4 (pc' := 77) (L' := [(4, .int 0), (3, .int 1), (0, .retAddr 49), (1, .int l), (2, .int r)]) (st' := [.int 1]) rfl ?_
          exact At.rt rfl (xret_i rfl) (by rw [cmb49, if_neg (xntf h1), if_neg (xntf h4), if_neg (xntf h7), if_pos h8])
        · refine At.go (q := xm147) rfl 5 (pc' := 37) (L' := [(4, .int 1), (3, .int 1), (0, .retAddr 49), (1, .int l), (2, .int r)]) (st' := [.retAddr 49, .retAddr 49]) rfl ?_
          refine At.ace (tgt := 47) (b := true) rfl rfl rfl (fun _ => ?_) (fun h => absurd h (by decide))
          refine At.go (q := xm147) rfl 6 (pc' := 77) (L' := [(4, .int 1), (3, .int 1), (0, .retAddr 49), (1, .int l), (2, .int r)]) (st' := [.int 1]) rfl ?_
          exact At.rt rfl (xret_i rfl) (by rw [cmb49, if_neg (xntf h1), if_neg (xntf h4), if_neg (xntf h7), if_neg (xntf h8)])
