/-! what an operator makes of two numbers (written by wip/p27/c93.py) -/
theorem m_ord40 {S : List Int32} {hp : List XC} : Pu S 0 54 [.retAddr 40] hp (.int 40) := by
  refine At.go (q := xm54) rfl 1 (pc' := 1) (L' := [(0, .retAddr 40)]) (st' := [.retAddr 40]) rfl ?_
  refine At.gk rfl (by decide) rfl rfl ?_
  exact At.rt rfl (xret_i rfl) rfl
def cmb40 (l r : Int32) : Int32 := (if xcm .eq l (-1000000000) = true then (if xcm .eq r (-1000000000) = true then (if xcm .eq l (-1000000000) = true then 0 else (if xcm .ne r (-1000000000) = true then (if xcm .eq l r = true then (if xcm .lt (lg_cmp 0 (-999999999)) 0 = true then (-1000000000) else (if xcm .le (lg_cmp 0 999999999) 0 = true then (0 : Int64).toInt32 else (-1000000000))) else (if xcm .lt (lg_cmp 1 (-999999999)) 0 = true then (-1000000000) else (if xcm .le (lg_cmp 1 999999999) 0 = true then (1 : Int64).toInt32 else (-1000000000)))) else 0)) else (if xcm .eq r 0 = true then (if xcm .eq l (-1000000000) = true then 0 else (if xcm .ne r (-1000000000) = true then (if xcm .eq l r = true then (if xcm .lt (lg_cmp 0 (-999999999)) 0 = true then (-1000000000) else (if xcm .le (lg_cmp 0 999999999) 0 = true then (0 : Int64).toInt32 else (-1000000000))) else (if xcm .lt (lg_cmp 1 (-999999999)) 0 = true then (-1000000000) else (if xcm .le (lg_cmp 1 999999999) 0 = true then (1 : Int64).toInt32 else (-1000000000)))) else 0)) else (if xcm .eq l (-1000000000) = true then 0 else (if xcm .ne r (-1000000000) = true then (if xcm .eq l r = true then (if xcm .lt (lg_cmp 0 (-999999999)) 0 = true then (-1000000000) else (if xcm .le (lg_cmp 0 999999999) 0 = true then (0 : Int64).toInt32 else (-1000000000))) else (if xcm .lt (lg_cmp 1 (-999999999)) 0 = true then (-1000000000) else (if xcm .le (lg_cmp 1 999999999) 0 = true then (1 : Int64).toInt32 else (-1000000000)))) else 0)))) else (if xcm .eq l 0 = true then (if xcm .eq r (-1000000000) = true then (if xcm .eq l (-1000000000) = true then 0 else (if xcm .ne r (-1000000000) = true then (if xcm .eq l r = true then (if xcm .lt (lg_cmp 0 (-999999999)) 0 = true then (-1000000000) else (if xcm .le (lg_cmp 0 999999999) 0 = true then (0 : Int64).toInt32 else (-1000000000))) else (if xcm .lt (lg_cmp 1 (-999999999)) 0 = true then (-1000000000) else (if xcm .le (lg_cmp 1 999999999) 0 = true then (1 : Int64).toInt32 else (-1000000000)))) else 0)) else (if xcm .eq r 0 = true then (if xcm .eq l (-1000000000) = true then 0 else (if xcm .ne r (-1000000000) = true then (if xcm .eq l r = true then (if xcm .lt (lg_cmp 0 (-999999999)) 0 = true then (-1000000000) else (if xcm .le (lg_cmp 0 999999999) 0 = true then (0 : Int64).toInt32 else (-1000000000))) else (if xcm .lt (lg_cmp 1 (-999999999)) 0 = true then (-1000000000) else (if xcm .le (lg_cmp 1 999999999) 0 = true then (1 : Int64).toInt32 else (-1000000000)))) else 0)) else (if xcm .eq l (-1000000000) = true then 0 else (if xcm .ne r (-1000000000) = true then (if xcm .eq l r = true then (if xcm .lt (lg_cmp 0 (-999999999)) 0 = true then (-1000000000) else (if xcm .le (lg_cmp 0 999999999) 0 = true then (0 : Int64).toInt32 else (-1000000000))) else (if xcm .lt (lg_cmp 1 (-999999999)) 0 = true then (-1000000000) else (if xcm .le (lg_cmp 1 999999999) 0 = true then (1 : Int64).toInt32 else (-1000000000)))) else 0)))) else (if xcm .eq r (-1000000000) = true then (if xcm .eq l (-1000000000) = true then 0 else (if xcm .ne r (-1000000000) = true then (if xcm .eq l r = true then (if xcm .lt (lg_cmp 0 (-999999999)) 0 = true then (-1000000000) else (if xcm .le (lg_cmp 0 999999999) 0 = true then (0 : Int64).toInt32 else (-1000000000))) else (if xcm .lt (lg_cmp 1 (-999999999)) 0 = true then (-1000000000) else (if xcm .le (lg_cmp 1 999999999) 0 = true then (1 : Int64).toInt32 else (-1000000000)))) else 0)) else (if xcm .eq r 0 = true then (if xcm .eq l (-1000000000) = true then 0 else (if xcm .ne r (-1000000000) = true then (if xcm .eq l r = true then (if xcm .lt (lg_cmp 0 (-999999999)) 0 = true then (-1000000000) else (if xcm .le (lg_cmp 0 999999999) 0 = true then (0 : Int64).toInt32 else (-1000000000))) else (if xcm .lt (lg_cmp 1 (-999999999)) 0 = true then (-1000000000) else (if xcm .le (lg_cmp 1 999999999) 0 = true then (1 : Int64).toInt32 else (-1000000000)))) else 0)) else (if xcm .eq l (-1000000000) = true then 0 else (if xcm .ne r (-1000000000) = true then (if xcm .eq l r = true then (if xcm .lt (lg_cmp 0 (-999999999)) 0 = true then (-1000000000) else (if xcm .le (lg_cmp 0 999999999) 0 = true then (0 : Int64).toInt32 else (-1000000000))) else (if xcm .lt (lg_cmp 1 (-999999999)) 0 = true then (-1000000000) else (if xcm .le (lg_cmp 1 999999999) 0 = true then (1 : Int64).toInt32 else (-1000000000)))) else 0))))))
theorem m_combined40 {S : List Int32} {hp : List XC} (l r : Int32) : Pu S 1 147 [.retAddr 40, .int l, .int r] hp (.int (cmb40 l r)) := by
  refine At.go (q := xm147) rfl 2 (pc' := 3) (L' := [(0, .retAddr 40), (1, .int l), (2, .int r)]) (st' := [.int (-1000000000), .int l]) rfl ?_
  refine At.ic2 (tgt := 14) rfl rfl (fun h1 => ?_) (fun h1 => ?_)
  · refine At.go (q := xm147) rfl 4 (pc' := 19) (L' := [(3, .int 0), (0, .retAddr 40), (1, .int l), (2, .int r)]) (st' := [.int (-1000000000), .int r]) rfl ?_
    refine At.ic2 (tgt := 30) rfl rfl (fun h2 => ?_) (fun h2 => ?_)
    · refine At.go (q := xm147) rfl 4 (pc' := 37) (L' := [(4, .int 0), (3, .int 0), (0, .retAddr 40), (1, .int l), (2, .int r)]) (st' := [.retAddr 49, .retAddr 40]) rfl ?_
      refine At.ace (tgt := 47) (b := false) rfl rfl rfl (fun h => absurd h (by decide)) (fun _ => ?_)
      refine At.go (q := xm147) rfl 2 (pc' := 44) (L' := [(4, .int 0), (3, .int 0), (0, .retAddr 40), (1, .int l), (2, .int r)]) (st' := [.retAddr 48, .retAddr 40]) rfl ?_
      refine At.acn (tgt := 78) (b := false) rfl rfl rfl (fun _ => ?_) (fun h => absurd h (by decide))
      refine At.go (q := xm147) rfl 2 (pc' := 81) (L' := [(4, .int 0), (3, .int 0), (0, .retAddr 40), (1, .int l), (2, .int r)]) (st' := [.int (-1000000000), .int l]) rfl ?_
      refine At.ic2 (tgt := 90) rfl rfl (fun h3 => ?_) (fun h3 => ?_)
      · refine At.go (q := xm147) rfl 1 (pc' := 91) (L' := [(4, .int 0), (3, .int 0), (0, .retAddr 40), (1, .int l), (2, .int r)]) (st' := [.retAddr 40]) rfl ?_
        refine At.gk rfl (by decide) rfl rfl ?_
        refine At.go (q := xm147) rfl 1 (pc' := 95) (L' := [(4, .int 0), (3, .int 0), (0, .retAddr 40), (1, .int l), (2, .int r)]) (st' := [.int 3, .int 3]) rfl ?_
        refine At.ic2 (tgt := 102) rfl rfl (fun h => absurd (h.symm.trans (show xcm .ne 3 3 = false by decide)) (by decide)) (fun _ => ?_)
        refine At.go (q := xm147) rfl 2 (pc' := 104) (L' := [(4, .int 0), (3, .int 0), (0, .retAddr 40), (1, .int l), (2, .int r)]) (st' := [.int 0]) rfl ?_
        exact At.rt rfl (xret_i rfl) (by rw [cmb40, if_pos h1, if_pos h2, if_pos h3])
      · refine At.go (q := xm147) rfl 2 (pc' := 87) (L' := [(4, .int 0), (3, .int 0), (0, .retAddr 40), (1, .int l), (2, .int r)]) (st' := [.int (-1000000000), .int r]) rfl ?_
        refine At.ic2 (tgt := 105) rfl rfl (fun h4 => ?_) (fun h4 => ?_)
        · refine At.go (q := xm147) rfl 2 (pc' := 109) (L' := [(4, .int 0), (3, .int 0), (0, .retAddr 40), (1, .int l), (2, .int r)]) (st' := [.retAddr 40, .retAddr 222]) rfl ?_
          refine At.clp (as := [.retAddr 40]) (rest := [.retAddr 222]) rfl (by decide) rfl (Nat.le_of_ble_eq_true rfl) (Nat.le_of_ble_eq_true rfl) (xrck_k (by decide) (by decide) rfl (by decide)) (Nat.le_of_ble_eq_true rfl) (m_ord40) ?_
          refine At.ak rfl rfl (by decide) rfl (by decide) rfl ?_
          refine At.go (q := xm147) rfl 3 (pc' := 193) (L' := [(4, .int 0), (3, .int 0), (0, .retAddr 40), (1, .int l), (2, .int r)]) (st' := [.int r, .int l]) rfl ?_
          refine At.ic2 (tgt := 200) rfl rfl (fun h5 => ?_) (fun h5 => ?_)
          · refine At.go (q := xm147) rfl 6 (pc' := 311) (L' := [(5, .long 0), (4, .int 0), (3, .int 0), (0, .retAddr 40), (1, .int l), (2, .int r)]) (st' := [.int (lg_cmp 0 (-999999999))]) rfl ?_
            refine At.ic1 (tgt := 323) rfl rfl (fun h6 => ?_) (fun h6 => ?_)
            · refine At.go (q := xm147) rfl 2 (pc' := 331) (L' := [(5, .long 0), (4, .int 0), (3, .int 0), (0, .retAddr 40), (1, .int l), (2, .int r)]) (st' := [.int (-1000000000)]) rfl ?_
              exact At.rt rfl (xret_i rfl) (by rw [cmb40, if_pos h1, if_pos h2, if_neg (xntf h3), if_pos h4, if_pos h5, if_pos h6])
            · refine At.go (q := xm147) rfl 3 (pc' := 320) (L' := [(5, .long 0), (4, .int 0), (3, .int 0), (0, .retAddr 40), (1, .int l), (2, .int r)]) (st' := [.int (lg_cmp 0 999999999)]) rfl ?_
              refine At.ic1 (tgt := 328) rfl rfl (fun h7 => ?_) (fun h7 => ?_)
              · refine At.go (q := xm147) rfl 2 (pc' := 331) (L' := [(5, .long 0), (4, .int 0), (3, .int 0), (0, .retAddr 40), (1, .int l), (2, .int r)]) (st' := [.int (0 : Int64).toInt32]) rfl ?_
                exact At.rt rfl (xret_i rfl) (by rw [cmb40, if_pos h1, if_pos h2, if_neg (xntf h3), if_pos h4, if_pos h5, if_neg (xntf h6), if_pos h7])
              · refine At.go (q := xm147) rfl 2 (pc' := 331) (L' := [(5, .long 0), (4, .int 0), (3, .int 0), (0, .retAddr 40), (1, .int l), (2, .int r)]) (st' := [.int (-1000000000)]) rfl ?_
                exact At.rt rfl (xret_i rfl) (by rw [cmb40, if_pos h1, if_pos h2, if_neg (xntf h3), if_pos h4, if_pos h5, if_neg (xntf h6), if_neg (xntf h7)])
          · refine At.go (q := xm147) rfl 7 (pc' := 311) (L' := [(5, .long 1), (4, .int 0), (3, .int 0), (0, .retAddr 40), (1, .int l), (2, .int r)]) (st' := [.int (lg_cmp 1 (-999999999))]) rfl ?_
            refine At.ic1 (tgt := 323) rfl rfl (fun h8 => ?_) (fun h8 => ?_)
            · refine At.go (q := xm147) rfl 2 (pc' := 331) (L' := [(5, .long 1), (4, .int 0), (3, .int 0), (0, .retAddr 40), (1, .int l), (2, .int r)]) (st' := [.int (-1000000000)]) rfl ?_
              exact At.rt rfl (xret_i rfl) (by rw [cmb40, if_pos h1, if_pos h2, if_neg (xntf h3), if_pos h4, if_neg (xntf h5), if_pos h8])
            · refine At.go (q := xm147) rfl 3 (pc' := 320) (L' := [(5, .long 1), (4, .int 0), (3, .int 0), (0, .retAddr 40), (1, .int l), (2, .int r)]) (st' := [.int (lg_cmp 1 999999999)]) rfl ?_
              refine At.ic1 (tgt := 328) rfl rfl (fun h9 => ?_) (fun h9 => ?_)
              · refine At.go (q := xm147) rfl 2 (pc' := 331) (L' := [(5, .long 1), (4, .int 0), (3, .int 0), (0, .retAddr 40), (1, .int l), (2, .int r)]) (st' := [.int (1 : Int64).toInt32]) rfl ?_
                exact At.rt rfl (xret_i rfl) (by rw [cmb40, if_pos h1, if_pos h2, if_neg (xntf h3), if_pos h4, if_neg (xntf h5), if_neg (xntf h8), if_pos h9])
              · refine At.go (q := xm147) rfl 2 (pc' := 331) (L' := [(5, .long 1), (4, .int 0), (3, .int 0), (0, .retAddr 40), (1, .int l), (2, .int r)]) (st' := [.int (-1000000000)]) rfl ?_
                exact At.rt rfl (xret_i rfl) (by rw [cmb40, if_pos h1, if_pos h2, if_neg (xntf h3), if_pos h4, if_neg (xntf h5), if_neg (xntf h8), if_neg (xntf h9)])
        · refine At.go (q := xm147) rfl 1 (pc' := 91) (L' := [(4, .int 0), (3, .int 0), (0, .retAddr 40), (1, .int l), (2, .int r)]) (st' := [.retAddr 40]) rfl ?_
          refine At.gk rfl (by decide) rfl rfl ?_
          refine At.go (q := xm147) rfl 1 (pc' := 95) (L' := [(4, .int 0), (3, .int 0), (0, .retAddr 40), (1, .int l), (2, .int r)]) (st' := [.int 3, .int 3]) rfl ?_
          refine At.ic2 (tgt := 102) rfl rfl (fun h => absurd (h.symm.trans (show xcm .ne 3 3 = false by decide)) (by decide)) (fun _ => ?_)
          refine At.go (q := xm147) rfl 2 (pc' := 104) (L' := [(4, .int 0), (3, .int 0), (0, .retAddr 40), (1, .int l), (2, .int r)]) (st' := [.int 0]) rfl ?_
          exact At.rt rfl (xret_i rfl) (by rw [cmb40, if_pos h1, if_pos h2, if_neg (xntf h3), if_neg (xntf h4)])
    · refine At.go (q := xm147) rfl 1 (pc' := 23) (L' := [(3, .int 0), (0, .retAddr 40), (1, .int l), (2, .int r)]) (st' := [.int r]) rfl ?_
      refine At.ic1 (tgt := 30) rfl rfl (fun h10 => ?_) (fun h10 => ?_)
      · refine At.go (q := xm147) rfl 4 (pc' := 37) (L' := [(4, .int 0), (3, .int 0), (0, .retAddr 40), (1, .int l), (2, .int r)]) (st' := [.retAddr 49, .retAddr 40]) rfl ?_
        refine At.ace (tgt := 47) (b := false) rfl rfl rfl (fun h => absurd h (by decide)) (fun _ => ?_)
        refine At.go (q := xm147) rfl 2 (pc' := 44) (L' := [(4, .int 0), (3, .int 0), (0, .retAddr 40), (1, .int l), (2, .int r)]) (st' := [.retAddr 48, .retAddr 40]) rfl ?_
        refine At.acn (tgt := 78) (b := false) rfl rfl rfl (fun _ => ?_) (fun h => absurd h (by decide))
        refine At.go (q := xm147) rfl 2 (pc' := 81) (L' := [(4, .int 0), (3, .int 0), (0, .retAddr 40), (1, .int l), (2, .int r)]) (st' := [.int (-1000000000), .int l]) rfl ?_
        refine At.ic2 (tgt := 90) rfl rfl (fun h11 => ?_) (fun h11 => ?_)
        · refine At.go (q := xm147) rfl 1 (pc' := 91) (L' := [(4, .int 0), (3, .int 0), (0, .retAddr 40), (1, .int l), (2, .int r)]) (st' := [.retAddr 40]) rfl ?_
          refine At.gk rfl (by decide) rfl rfl ?_
          refine At.go (q := xm147) rfl 1 (pc' := 95) (L' := [(4, .int 0), (3, .int 0), (0, .retAddr 40), (1, .int l), (2, .int r)]) (st' := [.int 3, .int 3]) rfl ?_
          refine At.ic2 (tgt := 102) rfl rfl (fun h => absurd (h.symm.trans (show xcm .ne 3 3 = false by decide)) (by decide)) (fun _ => ?_)
          refine At.go (q := xm147) rfl 2 (pc' := 104) (L' := [(4, .int 0), (3, .int 0), (0, .retAddr 40), (1, .int l), (2, .int r)]) (st' := [.int 0]) rfl ?_
          exact At.rt rfl (xret_i rfl) (by rw [cmb40, if_pos h1, if_neg (xntf h2), if_pos h10, if_pos h11])
        · refine At.go (q := xm147) rfl 2 (pc' := 87) (L' := [(4, .int 0), (3, .int 0), (0, .retAddr 40), (1, .int l), (2, .int r)]) (st' := [.int (-1000000000), .int r]) rfl ?_
          refine At.ic2 (tgt := 105) rfl rfl (fun h12 => ?_) (fun h12 => ?_)
          · refine At.go (q := xm147) rfl 2 (pc' := 109) (L' := [(4, .int 0), (3, .int 0), (0, .retAddr 40), (1, .int l), (2, .int r)]) (st' := [.retAddr 40, .retAddr 222]) rfl ?_
            refine At.clp (as := [.retAddr 40]) (rest := [.retAddr 222]) rfl (by decide) rfl (Nat.le_of_ble_eq_true rfl) (Nat.le_of_ble_eq_true rfl) (xrck_k (by decide) (by decide) rfl (by decide)) (Nat.le_of_ble_eq_true rfl) (m_ord40) ?_
            refine At.ak rfl rfl (by decide) rfl (by decide) rfl ?_
            refine At.go (q := xm147) rfl 3 (pc' := 193) (L' := [(4, .int 0), (3, .int 0), (0, .retAddr 40), (1, .int l), (2, .int r)]) (st' := [.int r, .int l]) rfl ?_
            refine At.ic2 (tgt := 200) rfl rfl (fun h13 => ?_) (fun h13 => ?_)
            · refine At.go (q := xm147) rfl 6 (pc' := 311) (L' := [(5, .long 0), (4, .int 0), (3, .int 0), (0, .retAddr 40), (1, .int l), (2, .int r)]) (st' := [.int (lg_cmp 0 (-999999999))]) rfl ?_
              refine At.ic1 (tgt := 323) rfl rfl (fun h14 => ?_) (fun h14 => ?_)
              · refine At.go (q := xm147) rfl 2 (pc' := 331) (L' := [(5, .long 0), (4, .int 0), (3, .int 0), (0, .retAddr 40), (1, .int l), (2, .int r)]) (st' := [.int (-1000000000)]) rfl ?_
                exact At.rt rfl (xret_i rfl) (by rw [cmb40, if_pos h1, if_neg (xntf h2), if_pos h10, if_neg (xntf h11), if_pos h12, if_pos h13, if_pos h14])
              · refine At.go (q := xm147) rfl 3 (pc' := 320) (L' := [(5, .long 0), (4, .int 0), (3, .int 0), (0, .retAddr 40), (1, .int l), (2, .int r)]) (st' := [.int (lg_cmp 0 999999999)]) rfl ?_
                refine At.ic1 (tgt := 328) rfl rfl (fun h15 => ?_) (fun h15 => ?_)
                · refine At.go (q := xm147) rfl 2 (pc' := 331) (L' := [(5, .long 0), (4, .int 0), (3, .int 0), (0, .retAddr 40), (1, .int l), (2, .int r)]) (st' := [.int (0 : Int64).toInt32]) rfl ?_
                  exact At.rt rfl (xret_i rfl) (by rw [cmb40, if_pos h1, if_neg (xntf h2), if_pos h10, if_neg (xntf h11), if_pos h12, if_pos h13, if_neg (xntf h14), if_pos h15])
                · refine At.go (q := xm147) rfl 2 (pc' := 331) (L' := [(5, .long 0), (4, .int 0), (3, .int 0), (0, .retAddr 40), (1, .int l), (2, .int r)]) (st' := [.int (-1000000000)]) rfl ?_
                  exact At.rt rfl (xret_i rfl) (by rw [cmb40, if_pos h1, if_neg (xntf h2), if_pos h10, if_neg (xntf h11), if_pos h12, if_pos h13, if_neg (xntf h14), if_neg (xntf h15)])
            · refine At.go (q := xm147) rfl 7 (pc' := 311) (L' := [(5, .long 1), (4, .int 0), (3, .int 0), (0, .retAddr 40), (1, .int l), (2, .int r)]) (st' := [.int (lg_cmp 1 (-999999999))]) rfl ?_
              refine At.ic1 (tgt := 323) rfl rfl (fun h16 => ?_) (fun h16 => ?_)
              · refine At.go (q := xm147) rfl 2 (pc' := 331) (L' := [(5, .long 1), (4, .int 0), (3, .int 0), (0, .retAddr 40), (1, .int l), (2, .int r)]) (st' := [.int (-1000000000)]) rfl ?_
                exact At.rt rfl (xret_i rfl) (by rw [cmb40, if_pos h1, if_neg (xntf h2), if_pos h10, if_neg (xntf h11), if_pos h12, if_neg (xntf h13), if_pos h16])
              · refine At.go (q := xm147) rfl 3 (pc' := 320) (L' := [(5, .long 1), (4, .int 0), (3, .int 0), (0, .retAddr 40), (1, .int l), (2, .int r)]) (st' := [.int (lg_cmp 1 999999999)]) rfl ?_
                refine At.ic1 (tgt := 328) rfl rfl (fun h17 => ?_) (fun h17 => ?_)
                · refine At.go (q := xm147) rfl 2 (pc' := 331) (L' := [(5, .long 1), (4, .int 0), (3, .int 0), (0, .retAddr 40), (1, .int l), (2, .int r)]) (st' := [.int (1 : Int64).toInt32]) rfl ?_
                  exact At.rt rfl (xret_i rfl) (by rw [cmb40, if_pos h1, if_neg (xntf h2), if_pos h10, if_neg (xntf h11), if_pos h12, if_neg (xntf h13), if_neg (xntf h16), if_pos h17])
                · refine At.go (q := xm147) rfl 2 (pc' := 331) (L' := [(5, .long 1), (4, .int 0), (3, .int 0), (0, .retAddr 40), (1, .int l), (2, .int r)]) (st' := [.int (-1000000000)]) rfl ?_
                  exact At.rt rfl (xret_i rfl) (by rw [cmb40, if_pos h1, if_neg (xntf h2), if_pos h10, if_neg (xntf h11), if_pos h12, if_neg (xntf h13), if_neg (xntf h16), if_neg (xntf h17)])
          · refine At.go (q := xm147) rfl 1 (pc' := 91) (L' := [(4, .int 0), (3, .int 0), (0, .retAddr 40), (1, .int l), (2, .int r)]) (st' := [.retAddr 40]) rfl ?_
            refine At.gk rfl (by decide) rfl rfl ?_
            refine At.go (q := xm147) rfl 1 (pc' := 95) (L' := [(4, .int 0), (3, .int 0), (0, .retAddr 40), (1, .int l), (2, .int r)]) (st' := [.int 3, .int 3]) rfl ?_
            refine At.ic2 (tgt := 102) rfl rfl (fun h => absurd (h.symm.trans (show xcm .ne 3 3 = false by decide)) (by decide)) (fun _ => ?_)
            refine At.go (q := xm147) rfl 2 (pc' := 104) (L' := [(4, .int 0), (3, .int 0), (0, .retAddr 40), (1, .int l), (2, .int r)]) (st' := [.int 0]) rfl ?_
            exact At.rt rfl (xret_i rfl) (by rw [cmb40, if_pos h1, if_neg (xntf h2), if_pos h10, if_neg (xntf h11), if_neg (xntf h12)])
      · refine At.go (q := xm147) rfl 5 (pc' := 37) (L' := [(4, .int 1), (3, .int 0), (0, .retAddr 40), (1, .int l), (2, .int r)]) (st' := [.retAddr 49, .retAddr 40]) rfl ?_
        refine At.ace (tgt := 47) (b := false) rfl rfl rfl (fun h => absurd h (by decide)) (fun _ => ?_)
        refine At.go (q := xm147) rfl 2 (pc' := 44) (L' := [(4, .int 1), (3, .int 0), (0, .retAddr 40), (1, .int l), (2, .int r)]) (st' := [.retAddr 48, .retAddr 40]) rfl ?_
        refine At.acn (tgt := 78) (b := false) rfl rfl rfl (fun _ => ?_) (fun h => absurd h (by decide))
        refine At.go (q := xm147) rfl 2 (pc' := 81) (L' := [(4, .int 1), (3, .int 0), (0, .retAddr 40), (1, .int l), (2, .int r)]) (st' := [.int (-1000000000), .int l]) rfl ?_
        refine At.ic2 (tgt := 90) rfl rfl (fun h18 => ?_) (fun h18 => ?_)
        · refine At.go (q := xm147) rfl 1 (pc' := 91) (L' := [(4, .int 1), (3, .int 0), (0, .retAddr 40), (1, .int l), (2, .int r)]) (st' := [.retAddr 40]) rfl ?_
          refine At.gk rfl (by decide) rfl rfl ?_
          refine At.go (q := xm147) rfl 1 (pc' := 95) (L' := [(4, .int 1), (3, .int 0), (0, .retAddr 40), (1, .int l), (2, .int r)]) (st' := [.int 3, .int 3]) rfl ?_
          refine At.ic2 (tgt := 102) rfl rfl (fun h => absurd (h.symm.trans (show xcm .ne 3 3 = false by decide)) (by decide)) (fun _ => ?_)
          refine At.go (q := xm147) rfl 2 (pc' := 104) (L' := [(4, .int 1), (3, .int 0), (0, .retAddr 40), (1, .int l), (2, .int r)]) (st' := [.int 0]) rfl ?_
          exact At.rt rfl (xret_i rfl) (by rw [cmb40, if_pos h1, if_neg (xntf h2), if_neg (xntf h10), if_pos h18])
        · refine At.go (q := xm147) rfl 2 (pc' := 87) (L' := [(4, .int 1), (3, .int 0), (0, .retAddr 40), (1, .int l), (2, .int r)]) (st' := [.int (-1000000000), .int r]) rfl ?_
          refine At.ic2 (tgt := 105) rfl rfl (fun h19 => ?_) (fun h19 => ?_)
          · refine At.go (q := xm147) rfl 2 (pc' := 109) (L' := [(4, .int 1), (3, .int 0), (0, .retAddr 40), (1, .int l), (2, .int r)]) (st' := [.retAddr 40, .retAddr 222]) rfl ?_
            refine At.clp (as := [.retAddr 40]) (rest := [.retAddr 222]) rfl (by decide) rfl (Nat.le_of_ble_eq_true rfl) (Nat.le_of_ble_eq_true rfl) (xrck_k (by decide) (by decide) rfl (by decide)) (Nat.le_of_ble_eq_true rfl) (m_ord40) ?_
            refine At.ak rfl rfl (by decide) rfl (by decide) rfl ?_
            refine At.go (q := xm147) rfl 3 (pc' := 193) (L' := [(4, .int 1), (3, .int 0), (0, .retAddr 40), (1, .int l), (2, .int r)]) (st' := [.int r, .int l]) rfl ?_
            refine At.ic2 (tgt := 200) rfl rfl (fun h20 => ?_) (fun h20 => ?_)
            · refine At.go (q := xm147) rfl 6 (pc' := 311) (L' := [(5, .long 0), (4, .int 1), (3, .int 0), (0, .retAddr 40), (1, .int l), (2, .int r)]) (st' := [.int (lg_cmp 0 (-999999999))]) rfl ?_
              refine At.ic1 (tgt := 323) rfl rfl (fun h21 => ?_) (fun h21 => ?_)
              · refine At.go (q := xm147) rfl 2 (pc' := 331) (L' := [(5, .long 0), (4, .int 1), (3, .int 0), (0, .retAddr 40), (1, .int l), (2, .int r)]) (st' := [.int (-1000000000)]) rfl ?_
                exact At.rt rfl (xret_i rfl) (by rw [cmb40, if_pos h1, if_neg (xntf h2), if_neg (xntf h10), if_neg (xntf h18), if_pos h19, if_pos h20, if_pos h21])
              · refine At.go (q := xm147) rfl 3 (pc' := 320) (L' := [(5, .long 0), (4, .int 1), (3, .int 0), (0, .retAddr 40), (1, .int l), (2, .int r)]) (st' := [.int (lg_cmp 0 999999999)]) rfl ?_
                refine At.ic1 (tgt := 328) rfl rfl (fun h22 => ?_) (fun h22 => ?_)
                · refine At.go (q := xm147) rfl 2 (pc' := 331) (L' := [(5, .long 0), (4, .int 1), (3, .int 0), (0, .retAddr 40), (1, .int l), (2, .int r)]) (st' := [.int (0 : Int64).toInt32]) rfl ?_
                  exact At.rt rfl (xret_i rfl) (by rw [cmb40, if_pos h1, if_neg (xntf h2), if_neg (xntf h10), if_neg (xntf h18), if_pos h19, if_pos h20, if_neg (xntf h21), if_pos h22])
                · refine At.go (q := xm147) rfl 2 (pc' := 331) (L' := [(5, .long 0), (4, .int 1), (3, .int 0), (0, .retAddr 40), (1, .int l), (2, .int r)]) (st' := [.int (-1000000000)]) rfl ?_
                  exact At.rt rfl (xret_i rfl) (by rw [cmb40, if_pos h1, if_neg (xntf h2), if_neg (xntf h10), if_neg (xntf h18), if_pos h19, if_pos h20, if_neg (xntf h21), if_neg (xntf h22)])
            · refine At.go (q := xm147) rfl 7 (pc' := 311) (L' := [(5, .long 1), (4, .int 1), (3, .int 0), (0, .retAddr 40), (1, .int l), (2, .int r)]) (st' := [.int (lg_cmp 1 (-999999999))]) rfl ?_
              refine At.ic1 (tgt := 323) rfl rfl (fun h23 => ?_) (fun h23 => ?_)
              · refine At.go (q := xm147) rfl 2 (pc' := 331) (L' := [(5, .long 1), (4, .int 1), (3, .int 0), (0, .retAddr 40), (1, .int l), (2, .int r)]) (st' := [.int (-1000000000)]) rfl ?_
                exact At.rt rfl (xret_i rfl) (by rw [cmb40, if_pos h1, if_neg (xntf h2), if_neg (xntf h10), if_neg (xntf h18), if_pos h19, if_neg (xntf h20), if_pos h23])
              · refine At.go (q := xm147) rfl 3 (pc' := 320) (L' := [(5, .long 1), (4, .int 1), (3, .int 0), (0, .retAddr 40), (1, .int l), (2, .int r)]) (st' := [.int (lg_cmp 1 999999999)]) rfl ?_
                refine At.ic1 (tgt := 328) rfl rfl (fun h24 => ?_) (fun h24 => ?_)
                · refine At.go (q := xm147) rfl 2 (pc' := 331) (L' := [(5, .long 1), (4, .int 1), (3, .int 0), (0, .retAddr 40), (1, .int l), (2, .int r)]) (st' := [.int (1 : Int64).toInt32]) rfl ?_
                  exact At.rt rfl (xret_i rfl) (by rw [cmb40, if_pos h1, if_neg (xntf h2), if_neg (xntf h10), if_neg (xntf h18), if_pos h19, if_neg (xntf h20), if_neg (xntf h23), if_pos h24])
                · refine At.go (q := xm147) rfl 2 (pc' := 331) (L' := [(5, .long 1), (4, .int 1), (3, .int 0), (0, .retAddr 40), (1, .int l), (2, .int r)]) (st' := [.int (-1000000000)]) rfl ?_
                  exact At.rt rfl (xret_i rfl) (by rw [cmb40, if_pos h1, if_neg (xntf h2), if_neg (xntf h10), if_neg (xntf h18), if_pos h19, if_neg (xntf h20), if_neg (xntf h23), if_neg (xntf h24)])
          · refine At.go (q := xm147) rfl 1 (pc' := 91) (L' := [(4, .int 1), (3, .int 0), (0, .retAddr 40), (1, .int l), (2, .int r)]) (st' := [.retAddr 40]) rfl ?_
            refine At.gk rfl (by decide) rfl rfl ?_
            refine At.go (q := xm147) rfl 1 (pc' := 95) (L' := [(4, .int 1), (3, .int 0), (0, .retAddr 40), (1, .int l), (2, .int r)]) (st' := [.int 3, .int 3]) rfl ?_
            refine At.ic2 (tgt := 102) rfl rfl (fun h => absurd (h.symm.trans (show xcm .ne 3 3 = false by decide)) (by decide)) (fun _ => ?_)
            refine At.go (q := xm147) rfl 2 (pc' := 104) (L' := [(4, .int 1), (3, .int 0), (0, .retAddr 40), (1, .int l), (2, .int r)]) (st' := [.int 0]) rfl ?_
            exact At.rt rfl (xret_i rfl) (by rw [cmb40, if_pos h1, if_neg (xntf h2), if_neg (xntf h10), if_neg (xntf h18), if_neg (xntf h19)])
  · refine At.go (q := xm147) rfl 1 (pc' := 7) (L' := [(0, .retAddr 40), (1, .int l), (2, .int r)]) (st' := [.int l]) rfl ?_
    refine At.ic1 (tgt := 14) rfl rfl (fun h25 => ?_) (fun h25 => ?_)
    · refine At.go (q := xm147) rfl 4 (pc' := 19) (L' := [(3, .int 0), (0, .retAddr 40), (1, .int l), (2, .int r)]) (st' := [.int (-1000000000), .int r]) rfl ?_
      refine At.ic2 (tgt := 30) rfl rfl (fun h26 => ?_) (fun h26 => ?_)
      · refine At.go (q := xm147) rfl 4 (pc' := 37) (L' := [(4, .int 0), (3, .int 0), (0, .retAddr 40), (1, .int l), (2, .int r)]) (st' := [.retAddr 49, .retAddr 40]) rfl ?_
        refine At.ace (tgt := 47) (b := false) rfl rfl rfl (fun h => absurd h (by decide)) (fun _ => ?_)
        refine At.go (q := xm147) rfl 2 (pc' := 44) (L' := [(4, .int 0), (3, .int 0), (0, .retAddr 40), (1, .int l), (2, .int r)]) (st' := [.retAddr 48, .retAddr 40]) rfl ?_
        refine At.acn (tgt := 78) (b := false) rfl rfl rfl (fun _ => ?_) (fun h => absurd h (by decide))
        refine At.go (q := xm147) rfl 2 (pc' := 81) (L' := [(4, .int 0), (3, .int 0), (0, .retAddr 40), (1, .int l), (2, .int r)]) (st' := [.int (-1000000000), .int l]) rfl ?_
        refine At.ic2 (tgt := 90) rfl rfl (fun h27 => ?_) (fun h27 => ?_)
        · refine At.go (q := xm147) rfl 1 (pc' := 91) (L' := [(4, .int 0), (3, .int 0), (0, .retAddr 40), (1, .int l), (2, .int r)]) (st' := [.retAddr 40]) rfl ?_
          refine At.gk rfl (by decide) rfl rfl ?_
          refine At.go (q := xm147) rfl 1 (pc' := 95) (L' := [(4, .int 0), (3, .int 0), (0, .retAddr 40), (1, .int l), (2, .int r)]) (st' := [.int 3, .int 3]) rfl ?_
          refine At.ic2 (tgt := 102) rfl rfl (fun h => absurd (h.symm.trans (show xcm .ne 3 3 = false by decide)) (by decide)) (fun _ => ?_)
          refine At.go (q := xm147) rfl 2 (pc' := 104) (L' := [(4, .int 0), (3, .int 0), (0, .retAddr 40), (1, .int l), (2, .int r)]) (st' := [.int 0]) rfl ?_
          exact At.rt rfl (xret_i rfl) (by rw [cmb40, if_neg (xntf h1), if_pos h25, if_pos h26, if_pos h27])
        · refine At.go (q := xm147) rfl 2 (pc' := 87) (L' := [(4, .int 0), (3, .int 0), (0, .retAddr 40), (1, .int l), (2, .int r)]) (st' := [.int (-1000000000), .int r]) rfl ?_
          refine At.ic2 (tgt := 105) rfl rfl (fun h28 => ?_) (fun h28 => ?_)
          · refine At.go (q := xm147) rfl 2 (pc' := 109) (L' := [(4, .int 0), (3, .int 0), (0, .retAddr 40), (1, .int l), (2, .int r)]) (st' := [.retAddr 40, .retAddr 222]) rfl ?_
            refine At.clp (as := [.retAddr 40]) (rest := [.retAddr 222]) rfl (by decide) rfl (Nat.le_of_ble_eq_true rfl) (Nat.le_of_ble_eq_true rfl) (xrck_k (by decide) (by decide) rfl (by decide)) (Nat.le_of_ble_eq_true rfl) (m_ord40) ?_
            refine At.ak rfl rfl (by decide) rfl (by decide) rfl ?_
            refine At.go (q := xm147) rfl 3 (pc' := 193) (L' := [(4, .int 0), (3, .int 0), (0, .retAddr 40), (1, .int l), (2, .int r)]) (st' := [.int r, .int l]) rfl ?_
            refine At.ic2 (tgt := 200) rfl rfl (fun h29 => ?_) (fun h29 => ?_)
            · refine At.go (q := xm147) rfl 6 (pc' := 311) (L' := [(5, .long 0), (4, .int 0), (3, .int 0), (0, .retAddr 40), (1, .int l), (2, .int r)]) (st' := [.int (lg_cmp 0 (-999999999))]) rfl ?_
              refine At.ic1 (tgt := 323) rfl rfl (fun h30 => ?_) (fun h30 => ?_)
              · refine At.go (q := xm147) rfl 2 (pc' := 331) (L' := [(5, .long 0), (4, .int 0), (3, .int 0), (0, .retAddr 40), (1, .int l), (2, .int r)]) (st' := [.int (-1000000000)]) rfl ?_
                exact At.rt rfl (xret_i rfl) (by rw [cmb40, if_neg (xntf h1), if_pos h25, if_pos h26, if_neg (xntf h27), if_pos h28, if_pos h29, if_pos h30])
              · refine At.go (q := xm147) rfl 3 (pc' := 320) (L' := [(5, .long 0), (4, .int 0), (3, .int 0), (0, .retAddr 40), (1, .int l), (2, .int r)]) (st' := [.int (lg_cmp 0 999999999)]) rfl ?_
                refine At.ic1 (tgt := 328) rfl rfl (fun h31 => ?_) (fun h31 => ?_)
                · refine At.go (q := xm147) rfl 2 (pc' := 331) (L' := [(5, .long 0), (4, .int 0), (3, .int 0), (0, .retAddr 40), (1, .int l), (2, .int r)]) (st' := [.int (0 : Int64).toInt32]) rfl ?_
                  exact At.rt rfl (xret_i rfl) (by rw [cmb40, if_neg (xntf h1), if_pos h25, if_pos h26, if_neg (xntf h27), if_pos h28, if_pos h29, if_neg (xntf h30), if_pos h31])
                · refine At.go (q := xm147) rfl 2 (pc' := 331) (L' := [(5, .long 0), (4, .int 0), (3, .int 0), (0, .retAddr 40), (1, .int l), (2, .int r)]) (st' := [.int (-1000000000)]) rfl ?_
                  exact At.rt rfl (xret_i rfl) (by rw [cmb40, if_neg (xntf h1), if_pos h25, if_pos h26, if_neg (xntf h27), if_pos h28, if_pos h29, if_neg (xntf h30), if_neg (xntf h31)])
            · refine At.go (q := xm147) rfl 7 (pc' := 311) (L' := [(5, .long 1), (4, .int 0), (3, .int 0), (0, .retAddr 40), (1, .int l), (2, .int r)]) (st' := [.int (lg_cmp 1 (-999999999))]) rfl ?_
              refine At.ic1 (tgt := 323) rfl rfl (fun h32 => ?_) (fun h32 => ?_)
              · refine At.go (q := xm147) rfl 2 (pc' := 331) (L' := [(5, .long 1), (4, .int 0), (3, .int 0), (0, .retAddr 40), (1, .int l), (2, .int r)]) (st' := [.int (-1000000000)]) rfl ?_
                exact At.rt rfl (xret_i rfl) (by rw [cmb40, if_neg (xntf h1), if_pos h25, if_pos h26, if_neg (xntf h27), if_pos h28, if_neg (xntf h29), if_pos h32])
              · refine At.go (q := xm147) rfl 3 (pc' := 320) (L' := [(5, .long 1), (4, .int 0), (3, .int 0), (0, .retAddr 40), (1, .int l), (2, .int r)]) (st' := [.int (lg_cmp 1 999999999)]) rfl ?_
                refine At.ic1 (tgt := 328) rfl rfl (fun h33 => ?_) (fun h33 => ?_)
                · refine At.go (q := xm147) rfl 2 (pc' := 331) (L' := [(5, .long 1), (4, .int 0), (3, .int 0), (0, .retAddr 40), (1, .int l), (2, .int r)]) (st' := [.int (1 : Int64).toInt32]) rfl ?_
                  exact At.rt rfl (xret_i rfl) (by rw [cmb40, if_neg (xntf h1), if_pos h25, if_pos h26, if_neg (xntf h27), if_pos h28, if_neg (xntf h29), if_neg (xntf h32), if_pos h33])
                · refine At.go (q := xm147) rfl 2 (pc' := 331) (L' := [(5, .long 1), (4, .int 0), (3, .int 0), (0, .retAddr 40), (1, .int l), (2, .int r)]) (st' := [.int (-1000000000)]) rfl ?_
                  exact At.rt rfl (xret_i rfl) (by rw [cmb40, if_neg (xntf h1), if_pos h25, if_pos h26, if_neg (xntf h27), if_pos h28, if_neg (xntf h29), if_neg (xntf h32), if_neg (xntf h33)])
          · refine At.go (q := xm147) rfl 1 (pc' := 91) (L' := [(4, .int 0), (3, .int 0), (0, .retAddr 40), (1, .int l), (2, .int r)]) (st' := [.retAddr 40]) rfl ?_
            refine At.gk rfl (by decide) rfl rfl ?_
            refine At.go (q := xm147) rfl 1 (pc' := 95) (L' := [(4, .int 0), (3, .int 0), (0, .retAddr 40), (1, .int l), (2, .int r)]) (st' := [.int 3, .int 3]) rfl ?_
            refine At.ic2 (tgt := 102) rfl rfl (fun h => absurd (h.symm.trans (show xcm .ne 3 3 = false by decide)) (by decide)) (fun _ => ?_)
            refine At.go (q := xm147) rfl 2 (pc' := 104) (L' := [(4, .int 0), (3, .int 0), (0, .retAddr 40), (1, .int l), (2, .int r)]) (st' := [.int 0]) rfl ?_
            exact At.rt rfl (xret_i rfl) (by rw [cmb40, if_neg (xntf h1), if_pos h25, if_pos h26, if_neg (xntf h27), if_neg (xntf h28)])
      · refine At.go (q := xm147) rfl 1 (pc' := 23) (L' := [(3, .int 0), (0, .retAddr 40), (1, .int l), (2, .int r)]) (st' := [.int r]) rfl ?_
        refine At.ic1 (tgt := 30) rfl rfl (fun h34 => ?_) (fun h34 => ?_)
        · refine At.go (q := xm147) rfl 4 (pc' := 37) (L' := [(4, .int 0), (3, .int 0), (0, .retAddr 40), (1, .int l), (2, .int r)]) (st' := [.retAddr 49, .retAddr 40]) rfl ?_
          refine At.ace (tgt := 47) (b := false) rfl rfl rfl (fun h => absurd h (by decide)) (fun _ => ?_)
          refine At.go (q := xm147) rfl 2 (pc' := 44) (L' := [(4, .int 0), (3, .int 0), (0, .retAddr 40), (1, .int l), (2, .int r)]) (st' := [.retAddr 48, .retAddr 40]) rfl ?_
          refine At.acn (tgt := 78) (b := false) rfl rfl rfl (fun _ => ?_) (fun h => absurd h (by decide))
          refine At.go (q := xm147) rfl 2 (pc' := 81) (L' := [(4, .int 0), (3, .int 0), (0, .retAddr 40), (1, .int l), (2, .int r)]) (st' := [.int (-1000000000), .int l]) rfl ?_
          refine At.ic2 (tgt := 90) rfl rfl (fun h35 => ?_) (fun h35 => ?_)
          · refine At.go (q := xm147) rfl 1 (pc' := 91) (L' := [(4, .int 0), (3, .int 0), (0, .retAddr 40), (1, .int l), (2, .int r)]) (st' := [.retAddr 40]) rfl ?_
            refine At.gk rfl (by decide) rfl rfl ?_
            refine At.go (q := xm147) rfl 1 (pc' := 95) (L' := [(4, .int 0), (3, .int 0), (0, .retAddr 40), (1, .int l), (2, .int r)]) (st' := [.int 3, .int 3]) rfl ?_
            refine At.ic2 (tgt := 102) rfl rfl (fun h => absurd (h.symm.trans (show xcm .ne 3 3 = false by decide)) (by decide)) (fun _ => ?_)
            refine At.go (q := xm147) rfl 2 (pc' := 104) (L' := [(4, .int 0), (3, .int 0), (0, .retAddr 40), (1, .int l), (2, .int r)]) (st' := [.int 0]) rfl ?_
            exact At.rt rfl (xret_i rfl) (by rw [cmb40, if_neg (xntf h1), if_pos h25, if_neg (xntf h26), if_pos h34, if_pos h35])
          · refine At.go (q := xm147) rfl 2 (pc' := 87) (L' := [(4, .int 0), (3, .int 0), (0, .retAddr 40), (1, .int l), (2, .int r)]) (st' := [.int (-1000000000), .int r]) rfl ?_
            refine At.ic2 (tgt := 105) rfl rfl (fun h36 => ?_) (fun h36 => ?_)
            · refine At.go (q := xm147) rfl 2 (pc' := 109) (L' := [(4, .int 0), (3, .int 0), (0, .retAddr 40), (1, .int l), (2, .int r)]) (st' := [.retAddr 40, .retAddr 222]) rfl ?_
              refine At.clp (as := [.retAddr 40]) (rest := [.retAddr 222]) rfl (by decide) rfl (Nat.le_of_ble_eq_true rfl) (Nat.le_of_ble_eq_true rfl) (xrck_k (by decide) (by decide) rfl (by decide)) (Nat.le_of_ble_eq_true rfl) (m_ord40) ?_
              refine At.ak rfl rfl (by decide) rfl (by decide) rfl ?_
              refine At.go (q := xm147) rfl 3 (pc' := 193) (L' := [(4, .int 0), (3, .int 0), (0, .retAddr 40), (1, .int l), (2, .int r)]) (st' := [.int r, .int l]) rfl ?_
              refine At.ic2 (tgt := 200) rfl rfl (fun h37 => ?_) (fun h37 => ?_)
              · refine At.go (q := xm147) rfl 6 (pc' := 311) (L' := [(5, .long 0), (4, .int 0), (3, .int 0), (0, .retAddr 40), (1, .int l), (2, .int r)]) (st' := [.int (lg_cmp 0 (-999999999))]) rfl ?_
                refine At.ic1 (tgt := 323) rfl rfl (fun h38 => ?_) (fun h38 => ?_)
                · refine At.go (q := xm147) rfl 2 (pc' := 331) (L' := [(5, .long 0), (4, .int 0), (3, .int 0), (0, .retAddr 40), (1, .int l), (2, .int r)]) (st' := [.int (-1000000000)]) rfl ?_
                  exact At.rt rfl (xret_i rfl) (by rw [cmb40, if_neg (xntf h1), if_pos h25, if_neg (xntf h26), if_pos h34, if_neg (xntf h35), if_pos h36, if_pos h37, if_pos h38])
                · refine At.go (q := xm147) rfl 3 (pc' := 320) (L' := [(5, .long 0), (4, .int 0), (3, .int 0), (0, .retAddr 40), (1, .int l), (2, .int r)]) (st' := [.int (lg_cmp 0 999999999)]) rfl ?_
                  refine At.ic1 (tgt := 328) rfl rfl (fun h39 => ?_) (fun h39 => ?_)
                  · refine At.go (q := xm147) rfl 2 (pc' := 331) (L' := [(5, .long 0), (4, .int 0), (3, .int 0), (0, .retAddr 40), (1, .int l), (2, .int r)]) (st' := [.int (0 : Int64).toInt32]) rfl ?_
                    exact At.rt rfl (xret_i rfl) (by rw [cmb40, if_neg (xntf h1), if_pos h25, if_neg (xntf h26), if_pos h34, if_neg (xntf h35), if_pos h36, if_pos h37, if_neg (xntf h38), if_pos h39])
                  · refine At.go (q := xm147) rfl 2 (pc' := 331) (L' := [(5, .long 0), (4, .int 0), (3, .int 0), (0, .retAddr 40), (1, .int l), (2, .int r)]) (st' := [.int (-1000000000)]) rfl ?_
                    exact At.rt rfl (xret_i rfl) (by rw [cmb40, if_neg (xntf h1), if_pos h25, if_neg (xntf h26), if_pos h34, if_neg (xntf h35), if_pos h36, if_pos h37, if_neg (xntf h38), if_neg (xntf h39)])
              · refine At.go (q := xm147) rfl 7 (pc' := 311) (L' := [(5, .long 1), (4, .int 0), (3, .int 0), (0, .retAddr 40), (1, .int l), (2, .int r)]) (st' := [.int (lg_cmp 1 (-999999999))]) rfl ?_
                refine At.ic1 (tgt := 323) rfl rfl (fun h40 => ?_) (fun h40 => ?_)
                · refine At.go (q := xm147) rfl 2 (pc' := 331) (L' := [(5, .long 1), (4, .int 0), (3, .int 0), (0, .retAddr 40), (1, .int l), (2, .int r)]) (st' := [.int (-1000000000)]) rfl ?_
                  exact At.rt rfl (xret_i rfl) (by rw [cmb40, if_neg (xntf h1), if_pos h25, if_neg (xntf h26), if_pos h34, if_neg (xntf h35), if_pos h36, if_neg (xntf h37), if_pos h40])
                · refine At.go (q := xm147) rfl 3 (pc' := 320) (L' := [(5, .long 1), (4, .int 0), (3, .int 0), (0, .retAddr 40), (1, .int l), (2, .int r)]) (st' := [.int (lg_cmp 1 999999999)]) rfl ?_
                  refine At.ic1 (tgt := 328) rfl rfl (fun h41 => ?_) (fun h41 => ?_)
                  · refine At.go (q := xm147) rfl 2 (pc' := 331) (L' := [(5, .long 1), (4, .int 0), (3, .int 0), (0, .retAddr 40), (1, .int l), (2, .int r)]) (st' := [.int (1 : Int64).toInt32]) rfl ?_
                    exact At.rt rfl (xret_i rfl) (by rw [cmb40, if_neg (xntf h1), if_pos h25, if_neg (xntf h26), if_pos h34, if_neg (xntf h35), if_pos h36, if_neg (xntf h37), if_neg (xntf h40), if_pos h41])
                  · refine At.go (q := xm147) rfl 2 (pc' := 331) (L' := [(5, .long 1), (4, .int 0), (3, .int 0), (0, .retAddr 40), (1, .int l), (2, .int r)]) (st' := [.int (-1000000000)]) rfl ?_
                    exact At.rt rfl (xret_i rfl) (by rw [cmb40, if_neg (xntf h1), if_pos h25, if_neg (xntf h26), if_pos h34, if_neg (xntf h35), if_pos h36, if_neg (xntf h37), if_neg (xntf h40), if_neg (xntf h41)])
            · refine At.go (q := xm147) rfl 1 (pc' := 91) (L' := [(4, .int 0), (3, .int 0), (0, .retAddr 40), (1, .int l), (2, .int r)]) (st' := [.retAddr 40]) rfl ?_
              refine At.gk rfl (by decide) rfl rfl ?_
              refine At.go (q := xm147) rfl 1 (pc' := 95) (L' := [(4, .int 0), (3, .int 0), (0, .retAddr 40), (1, .int l), (2, .int r)]) (st' := [.int 3, .int 3]) rfl ?_
              refine At.ic2 (tgt := 102) rfl rfl (fun h => absurd (h.symm.trans (show xcm .ne 3 3 = false by decide)) (by decide)) (fun _ => ?_)
              refine At.go (q := xm147) rfl 2 (pc' := 104) (L' := [(4, .int 0), (3, .int 0), (0, .retAddr 40), (1, .int l), (2, .int r)]) (st' := [.int 0]) rfl ?_
              exact At.rt rfl (xret_i rfl) (by rw [cmb40, if_neg (xntf h1), if_pos h25, if_neg (xntf h26), if_pos h34, if_neg (xntf h35), if_neg (xntf h36)])
        · refine At.go (q := xm147) rfl 5 (pc' := 37) (L' := [(4, .int 1), (3, .int 0), (0, .retAddr 40), (1, .int l), (2, .int r)]) (st' := [.retAddr 49, .retAddr 40]) rfl ?_
          refine At.ace (tgt := 47) (b := false) rfl rfl rfl (fun h => absurd h (by decide)) (fun _ => ?_)
          refine At.go (q := xm147) rfl 2 (pc' := 44) (L' := [(4, .int 1), (3, .int 0), (0, .retAddr 40), (1, .int l), (2, .int r)]) (st' := [.retAddr 48, .retAddr 40]) rfl ?_
          refine At.acn (tgt := 78) (b := false) rfl rfl rfl (fun _ => ?_) (fun h => absurd h (by decide))
          refine At.go (q := xm147) rfl 2 (pc' := 81) (L' := [(4, .int 1), (3, .int 0), (0, .retAddr 40), (1, .int l), (2, .int r)]) (st' := [.int (-1000000000), .int l]) rfl ?_
          refine At.ic2 (tgt := 90) rfl rfl (fun h42 => ?_) (fun h42 => ?_)
          · refine At.go (q := xm147) rfl 1 (pc' := 91) (L' := [(4, .int 1), (3, .int 0), (0, .retAddr 40), (1, .int l), (2, .int r)]) (st' := [.retAddr 40]) rfl ?_
            refine At.gk rfl (by decide) rfl rfl ?_
            refine At.go (q := xm147) rfl 1 (pc' := 95) (L' := [(4, .int 1), (3, .int 0), (0, .retAddr 40), (1, .int l), (2, .int r)]) (st' := [.int 3, .int 3]) rfl ?_
            refine At.ic2 (tgt := 102) rfl rfl (fun h => absurd (h.symm.trans (show xcm .ne 3 3 = false by decide)) (by decide)) (fun _ => ?_)
            refine At.go (q := xm147) rfl 2 (pc' := 104) (L' := [(4, .int 1), (3, .int 0), (0, .retAddr 40), (1, .int l), (2, .int r)]) (st' := [.int 0]) rfl ?_
            exact At.rt rfl (xret_i rfl) (by rw [cmb40, if_neg (xntf h1), if_pos h25, if_neg (xntf h26), if_neg (xntf h34), if_pos h42])
          · refine At.go (q := xm147) rfl 2 (pc' := 87) (L' := [(4, .int 1), (3, .int 0), (0, .retAddr 40), (1, .int l), (2, .int r)]) (st' := [.int (-1000000000), .int r]) rfl ?_
            refine At.ic2 (tgt := 105) rfl rfl (fun h43 => ?_) (fun h43 => ?_)
            · refine At.go (q := xm147) rfl 2 (pc' := 109) (L' := [(4, .int 1), (3, .int 0), (0, .retAddr 40), (1, .int l), (2, .int r)]) (st' := [.retAddr 40, .retAddr 222]) rfl ?_
              refine At.clp (as := [.retAddr 40]) (rest := [.retAddr 222]) rfl (by decide) rfl (Nat.le_of_ble_eq_true rfl) (Nat.le_of_ble_eq_true rfl) (xrck_k (by decide) (by decide) rfl (by decide)) (Nat.le_of_ble_eq_true rfl) (m_ord40) ?_
              refine At.ak rfl rfl (by decide) rfl (by decide) rfl ?_
              refine At.go (q := xm147) rfl 3 (pc' := 193) (L' := [(4, .int 1), (3, .int 0), (0, .retAddr 40), (1, .int l), (2, .int r)]) (st' := [.int r, .int l]) rfl ?_
              refine At.ic2 (tgt := 200) rfl rfl (fun h44 => ?_) (fun h44 => ?_)
              · refine At.go (q := xm147) rfl 6 (pc' := 311) (L' := [(5, .long 0), (4, .int 1), (3, .int 0), (0, .retAddr 40), (1, .int l), (2, .int r)]) (st' := [.int (lg_cmp 0 (-999999999))]) rfl ?_
                refine At.ic1 (tgt := 323) rfl rfl (fun h45 => ?_) (fun h45 => ?_)
                · refine At.go (q := xm147) rfl 2 (pc' := 331) (L' := [(5, .long 0), (4, .int 1), (3, .int 0), (0, .retAddr 40), (1, .int l), (2, .int r)]) (st' := [.int (-1000000000)]) rfl ?_
                  exact At.rt rfl (xret_i rfl) (by rw [cmb40, if_neg (xntf h1), if_pos h25, if_neg (xntf h26), if_neg (xntf h34), if_neg (xntf h42), if_pos h43, if_pos h44, if_pos h45])
                · refine At.go (q := xm147) rfl 3 (pc' := 320) (L' := [(5, .long 0), (4, .int 1), (3, .int 0), (0, .retAddr 40), (1, .int l), (2, .int r)]) (st' := [.int (lg_cmp 0 999999999)]) rfl ?_
                  refine At.ic1 (tgt := 328) rfl rfl (fun h46 => ?_) (fun h46 => ?_)
                  · refine At.go (q := xm147) rfl 2 (pc' := 331) (L' := [(5, .long 0), (4, .int 1), (3, .int 0), (0, .retAddr 40), (1, .int l), (2, .int r)]) (st' := [.int (0 : Int64).toInt32]) rfl ?_
                    exact At.rt rfl (xret_i rfl) (by rw [cmb40, if_neg (xntf h1), if_pos h25, if_neg (xntf h26), if_neg (xntf h34), if_neg (xntf h42), if_pos h43, if_pos h44, if_neg (xntf h45), if_pos h46])
                  · refine At.go (q := xm147) rfl 2 (pc' := 331) (L' := [(5, .long 0), (4, .int 1), (3, .int 0), (0, .retAddr 40), (1, .int l), (2, .int r)]) (st' := [.int (-1000000000)]) rfl ?_
                    exact At.rt rfl (xret_i rfl) (by rw [cmb40, if_neg (xntf h1), if_pos h25, if_neg (xntf h26), if_neg (xntf h34), if_neg (xntf h42), if_pos h43, if_pos h44, if_neg (xntf h45), if_neg (xntf h46)])
              · refine At.go (q := xm147) rfl 7 (pc' := 311) (L' := [(5, .long 1), (4, .int 1), (3, .int 0), (0, .retAddr 40), (1, .int l), (2, .int r)]) (st' := [.int (lg_cmp 1 (-999999999))]) rfl ?_
                refine At.ic1 (tgt := 323) rfl rfl (fun h47 => ?_) (fun h47 => ?_)
                · refine At.go (q := xm147) rfl 2 (pc' := 331) (L' := [(5, .long 1), (4, .int 1), (3, .int 0), (0, .retAddr 40), (1, .int l), (2, .int r)]) (st' := [.int (-1000000000)]) rfl ?_
                  exact At.rt rfl (xret_i rfl) (by rw [cmb40, if_neg (xntf h1), if_pos h25, if_neg (xntf h26), if_neg (xntf h34), if_neg (xntf h42), if_pos h43, if_neg (xntf h44), if_pos h47])
                · refine At.go (q := xm147) rfl 3 (pc' := 320) (L' := [(5, .long 1), (4, .int 1), (3, .int 0), (0, .retAddr 40), (1, .int l), (2, .int r)]) (st' := [.int (lg_cmp 1 999999999)]) rfl ?_
                  refine At.ic1 (tgt := 328) rfl rfl (fun h48 => ?_) (fun h48 => ?_)
                  · refine At.go (q := xm147) rfl 2 (pc' := 331) (L' := [(5, .long 1), (4, .int 1), (3, .int 0), (0, .retAddr 40), (1, .int l), (2, .int r)]) (st' := [.int (1 : Int64).toInt32]) rfl ?_
                    exact At.rt rfl (xret_i rfl) (by rw [cmb40, if_neg (xntf h1), if_pos h25, if_neg (xntf h26), if_neg (xntf h34), if_neg (xntf h42), if_pos h43, if_neg (xntf h44), if_neg (xntf h47), if_pos h48])
                  · refine At.go (q := xm147) rfl 2 (pc' := 331) (L' := [(5, .long 1), (4, .int 1), (3, .int 0), (0, .retAddr 40), (1, .int l), (2, .int r)]) (st' := [.int (-1000000000)]) rfl ?_
                    exact At.rt rfl (xret_i rfl) (by rw [cmb40, if_neg (xntf h1), if_pos h25, if_neg (xntf h26), if_neg (xntf h34), if_neg (xntf h42), if_pos h43, if_neg (xntf h44), if_neg (xntf h47), if_neg (xntf h48)])
            · refine At.go (q := xm147) rfl 1 (pc' := 91) (L' := [(4, .int 1), (3, .int 0), (0, .retAddr 40), (1, .int l), (2, .int r)]) (st' := [.retAddr 40]) rfl ?_
              refine At.gk rfl (by decide) rfl rfl ?_
              refine At.go (q := xm147) rfl 1 (pc' := 95) (L' := [(4, .int 1), (3, .int 0), (0, .retAddr 40), (1, .int l), (2, .int r)]) (st' := [.int 3, .int 3]) rfl ?_
              refine At.ic2 (tgt := 102) rfl rfl (fun h => absurd (h.symm.trans (show xcm .ne 3 3 = false by decide)) (by decide)) (fun _ => ?_)
              refine At.go (q := xm147) rfl 2 (pc' := 104) (L' := [(4, .int 1), (3, .int 0), (0, .retAddr 40), (1, .int l), (2, .int r)]) (st' := [.int 0]) rfl ?_
              exact At.rt rfl (xret_i rfl) (by rw [cmb40, if_neg (xntf h1), if_pos h25, if_neg (xntf h26), if_neg (xntf h34), if_neg (xntf h42), if_neg (xntf h43)])
    · refine At.go (q := xm147) rfl 5 (pc' := 19) (L' := [(3, .int 1), (0, .retAddr 40), (1, .int l), (2, .int r)]) (st' := [.int (-1000000000), .int r]) rfl ?_
      refine At.ic2 (tgt := 30) rfl rfl (fun h49 => ?_) (fun h49 => ?_)
      · refine At.go (q := xm147) rfl 4 (pc' := 37) (L' := [(4, .int 0), (3, .int 1), (0, .retAddr 40), (1, .int l), (2, .int r)]) (st' := [.retAddr 49, .retAddr 40]) rfl ?_
        refine At.ace (tgt := 47) (b := false) rfl rfl rfl (fun h => absurd h (by decide)) (fun _ => ?_)
        refine At.go (q := xm147) rfl 2 (pc' := 44) (L' := [(4, .int 0), (3, .int 1), (0, .retAddr 40), (1, .int l), (2, .int r)]) (st' := [.retAddr 48, .retAddr 40]) rfl ?_
        refine At.acn (tgt := 78) (b := false) rfl rfl rfl (fun _ => ?_) (fun h => absurd h (by decide))
        refine At.go (q := xm147) rfl 2 (pc' := 81) (L' := [(4, .int 0), (3, .int 1), (0, .retAddr 40), (1, .int l), (2, .int r)]) (st' := [.int (-1000000000), .int l]) rfl ?_
        refine At.ic2 (tgt := 90) rfl rfl (fun h50 => ?_) (fun h50 => ?_)
        · refine At.go (q := xm147) rfl 1 (pc' := 91) (L' := [(4, .int 0), (3, .int 1), (0, .retAddr 40), (1, .int l), (2, .int r)]) (st' := [.retAddr 40]) rfl ?_
          refine At.gk rfl (by decide) rfl rfl ?_
          refine At.go (q := xm147) rfl 1 (pc' := 95) (L' := [(4, .int 0), (3, .int 1), (0, .retAddr 40), (1, .int l), (2, .int r)]) (st' := [.int 3, .int 3]) rfl ?_
          refine At.ic2 (tgt := 102) rfl rfl (fun h => absurd (h.symm.trans (show xcm .ne 3 3 = false by decide)) (by decide)) (fun _ => ?_)
          refine At.go (q := xm147) rfl 2 (pc' := 104) (L' := [(4, .int 0), (3, .int 1), (0, .retAddr 40), (1, .int l), (2, .int r)]) (st' := [.int 0]) rfl ?_
          exact At.rt rfl (xret_i rfl) (by rw [cmb40, if_neg (xntf h1), if_neg (xntf h25), if_pos h49, if_pos h50])
        · refine At.go (q := xm147) rfl 2 (pc' := 87) (L' := [(4, .int 0), (3, .int 1), (0, .retAddr 40), (1, .int l), (2, .int r)]) (st' := [.int (-1000000000), .int r]) rfl ?_
          refine At.ic2 (tgt := 105) rfl rfl (fun h51 => ?_) (fun h51 => ?_)
          · refine At.go (q := xm147) rfl 2 (pc' := 109) (L' := [(4, .int 0), (3, .int 1), (0, .retAddr 40), (1, .int l), (2, .int r)]) (st' := [.retAddr 40, .retAddr 222]) rfl ?_
            refine At.clp (as := [.retAddr 40]) (rest := [.retAddr 222]) rfl (by decide) rfl (Nat.le_of_ble_eq_true rfl) (Nat.le_of_ble_eq_true rfl) (xrck_k (by decide) (by decide) rfl (by decide)) (Nat.le_of_ble_eq_true rfl) (m_ord40) ?_
            refine At.ak rfl rfl (by decide) rfl (by decide) rfl ?_
            refine At.go (q := xm147) rfl 3 (pc' := 193) (L' := [(4, .int 0), (3, .int 1), (0, .retAddr 40), (1, .int l), (2, .int r)]) (st' := [.int r, .int l]) rfl ?_
            refine At.ic2 (tgt := 200) rfl rfl (fun h52 => ?_) (fun h52 => ?_)
            · refine At.go (q := xm147) rfl 6 (pc' := 311) (L' := [(5, .long 0), (4, .int 0), (3, .int 1), (0, .retAddr 40), (1, .int l), (2, .int r)]) (st' := [.int (lg_cmp 0 (-999999999))]) rfl ?_
              refine At.ic1 (tgt := 323) rfl rfl (fun h53 => ?_) (fun h53 => ?_)
              · refine At.go (q := xm147) rfl 2 (pc' := 331) (L' := [(5, .long 0), (4, .int 0), (3, .int 1), (0, .retAddr 40), (1, .int l), (2, .int r)]) (st' := [.int (-1000000000)]) rfl ?_
                exact At.rt rfl (xret_i rfl) (by rw [cmb40, if_neg (xntf h1), if_neg (xntf h25), if_pos h49, if_neg (xntf h50), if_pos h51, if_pos h52, if_pos h53])
              · refine At.go (q := xm147) rfl 3 (pc' := 320) (L' := [(5, .long 0), (4, .int 0), (3, .int 1), (0, .retAddr 40), (1, .int l), (2, .int r)]) (st' := [.int (lg_cmp 0 999999999)]) rfl ?_
                refine At.ic1 (tgt := 328) rfl rfl (fun h54 => ?_) (fun h54 => ?_)
                · refine At.go (q := xm147) rfl 2 (pc' := 331) (L' := [(5, .long 0), (4, .int 0), (3, .int 1), (0, .retAddr 40), (1, .int l), (2, .int r)]) (st' := [.int (0 : Int64).toInt32]) rfl ?_
                  exact At.rt rfl (xret_i rfl) (by rw [cmb40, if_neg (xntf h1), if_neg (xntf h25), if_pos h49, if_neg (xntf h50), if_pos h51, if_pos h52, if_neg (xntf h53), if_pos h54])
                · refine At.go (q := xm147) rfl 2 (pc' := 331) (L' := [(5, .long 0), (4, .int 0), (3, .int 1), (0, .retAddr 40), (1, .int l), (2, .int r)]) (st' := [.int (-1000000000)]) rfl ?_
                  exact At.rt rfl (xret_i rfl) (by rw [cmb40, if_neg (xntf h1), if_neg (xntf h25), if_pos h49, if_neg (xntf h50), if_pos h51, if_pos h52, if_neg (xntf h53), if_neg (xntf h54)])
            · refine At.go (q := xm147) rfl 7 (pc' := 311) (L' := [(5, .long 1), (4, .int 0), (3, .int 1), (0, .retAddr 40), (1, .int l), (2, .int r)]) (st' := [.int (lg_cmp 1 (-999999999))]) rfl ?_
              refine At.ic1 (tgt := 323) rfl rfl (fun h55 => ?_) (fun h55 => ?_)
              · refine At.go (q := xm147) rfl 2 (pc' := 331) (L' := [(5, .long 1), (4, .int 0), (3, .int 1), (0, .retAddr 40), (1, .int l), (2, .int r)]) (st' := [.int (-1000000000)]) rfl ?_
                exact At.rt rfl (xret_i rfl) (by rw [cmb40, if_neg (xntf h1), if_neg (xntf h25), if_pos h49, if_neg (xntf h50), if_pos h51, if_neg (xntf h52), if_pos h55])
              · refine At.go (q := xm147) rfl 3 (pc' := 320) (L' := [(5, .long 1), (4, .int 0), (3, .int 1), (0, .retAddr 40), (1, .int l), (2, .int r)]) (st' := [.int (lg_cmp 1 999999999)]) rfl ?_
                refine At.ic1 (tgt := 328) rfl rfl (fun h56 => ?_) (fun h56 => ?_)
                · refine At.go (q := xm147) rfl 2 (pc' := 331) (L' := [(5, .long 1), (4, .int 0), (3, .int 1), (0, .retAddr 40), (1, .int l), (2, .int r)]) (st' := [.int (1 : Int64).toInt32]) rfl ?_
                  exact At.rt rfl (xret_i rfl) (by rw [cmb40, if_neg (xntf h1), if_neg (xntf h25), if_pos h49, if_neg (xntf h50), if_pos h51, if_neg (xntf h52), if_neg (xntf h55), if_pos h56])
                · refine At.go (q := xm147) rfl 2 (pc' := 331) (L' := [(5, .long 1), (4, .int 0), (3, .int 1), (0, .retAddr 40), (1, .int l), (2, .int r)]) (st' := [.int (-1000000000)]) rfl ?_
                  exact At.rt rfl (xret_i rfl) (by rw [cmb40, if_neg (xntf h1), if_neg (xntf h25), if_pos h49, if_neg (xntf h50), if_pos h51, if_neg (xntf h52), if_neg (xntf h55), if_neg (xntf h56)])
          · refine At.go (q := xm147) rfl 1 (pc' := 91) (L' := [(4, .int 0), (3, .int 1), (0, .retAddr 40), (1, .int l), (2, .int r)]) (st' := [.retAddr 40]) rfl ?_
            refine At.gk rfl (by decide) rfl rfl ?_
            refine At.go (q := xm147) rfl 1 (pc' := 95) (L' := [(4, .int 0), (3, .int 1), (0, .retAddr 40), (1, .int l), (2, .int r)]) (st' := [.int 3, .int 3]) rfl ?_
            refine At.ic2 (tgt := 102) rfl rfl (fun h => absurd (h.symm.trans (show xcm .ne 3 3 = false by decide)) (by decide)) (fun _ => ?_)
            refine At.go (q := xm147) rfl 2 (pc' := 104) (L' := [(4, .int 0), (3, .int 1), (0, .retAddr 40), (1, .int l), (2, .int r)]) (st' := [.int 0]) rfl ?_
            exact At.rt rfl (xret_i rfl) (by rw [cmb40, if_neg (xntf h1), if_neg (xntf h25), if_pos h49, if_neg (xntf h50), if_neg (xntf h51)])
      · refine At.go (q := xm147) rfl 1 (pc' := 23) (L' := [(3, .int 1), (0, .retAddr 40), (1, .int l), (2, .int r)]) (st' := [.int r]) rfl ?_
        refine At.ic1 (tgt := 30) rfl rfl (fun h57 => ?_) (fun h57 => ?_)
        · refine At.go (q := xm147) rfl 4 (pc' := 37) (L' := [(4, .int 0), (3, .int 1), (0, .retAddr 40), (1, .int l), (2, .int r)]) (st' := [.retAddr 49, .retAddr 40]) rfl ?_
          refine At.ace (tgt := 47) (b := false) rfl rfl rfl (fun h => absurd h (by decide)) (fun _ => ?_)
          refine At.go (q := xm147) rfl 2 (pc' := 44) (L' := [(4, .int 0), (3, .int 1), (0, .retAddr 40), (1, .int l), (2, .int r)]) (st' := [.retAddr 48, .retAddr 40]) rfl ?_
          refine At.acn (tgt := 78) (b := false) rfl rfl rfl (fun _ => ?_) (fun h => absurd h (by decide))
          refine At.go (q := xm147) rfl 2 (pc' := 81) (L' := [(4, .int 0), (3, .int 1), (0, .retAddr 40), (1, .int l), (2, .int r)]) (st' := [.int (-1000000000), .int l]) rfl ?_
          refine At.ic2 (tgt := 90) rfl rfl (fun h58 => ?_) (fun h58 => ?_)
          · refine At.go (q := xm147) rfl 1 (pc' := 91) (L' := [(4, .int 0), (3, .int 1), (0, .retAddr 40), (1, .int l), (2, .int r)]) (st' := [.retAddr 40]) rfl ?_
            refine At.gk rfl (by decide) rfl rfl ?_
            refine At.go (q := xm147) rfl 1 (pc' := 95) (L' := [(4, .int 0), (3, .int 1), (0, .retAddr 40), (1, .int l), (2, .int r)]) (st' := [.int 3, .int 3]) rfl ?_
            refine At.ic2 (tgt := 102) rfl rfl (fun h => absurd (h.symm.trans (show xcm .ne 3 3 = false by decide)) (by decide)) (fun _ => ?_)
            refine At.go (q := xm147) rfl 2 (pc' := 104) (L' := [(4, .int 0), (3, .int 1), (0, .retAddr 40), (1, .int l), (2, .int r)]) (st' := [.int 0]) rfl ?_
            exact At.rt rfl (xret_i rfl) (by rw [cmb40, if_neg (xntf h1), if_neg (xntf h25), if_neg (xntf h49), if_pos h57, if_pos h58])
          · refine At.go (q := xm147) rfl 2 (pc' := 87) (L' := [(4, .int 0), (3, .int 1), (0, .retAddr 40), (1, .int l), (2, .int r)]) (st' := [.int (-1000000000), .int r]) rfl ?_
            refine At.ic2 (tgt := 105) rfl rfl (fun h59 => ?_) (fun h59 => ?_)
            · refine At.go (q := xm147) rfl 2 (pc' := 109) (L' := [(4, .int 0), (3, .int 1), (0, .retAddr 40), (1, .int l), (2, .int r)]) (st' := [.retAddr 40, .retAddr 222]) rfl ?_
              refine At.clp (as := [.retAddr 40]) (rest := [.retAddr 222]) rfl (by decide) rfl (Nat.le_of_ble_eq_true rfl) (Nat.le_of_ble_eq_true rfl) (xrck_k (by decide) (by decide) rfl (by decide)) (Nat.le_of_ble_eq_true rfl) (m_ord40) ?_
              refine At.ak rfl rfl (by decide) rfl (by decide) rfl ?_
              refine At.go (q := xm147) rfl 3 (pc' := 193) (L' := [(4, .int 0), (3, .int 1), (0, .retAddr 40), (1, .int l), (2, .int r)]) (st' := [.int r, .int l]) rfl ?_
              refine At.ic2 (tgt := 200) rfl rfl (fun h60 => ?_) (fun h60 => ?_)
              · refine At.go (q := xm147) rfl 6 (pc' := 311) (L' := [(5, .long 0), (4, .int 0), (3, .int 1), (0, .retAddr 40), (1, .int l), (2, .int r)]) (st' := [.int (lg_cmp 0 (-999999999))]) rfl ?_
                refine At.ic1 (tgt := 323) rfl rfl (fun h61 => ?_) (fun h61 => ?_)
                · refine At.go (q := xm147) rfl 2 (pc' := 331) (L' := [(5, .long 0), (4, .int 0), (3, .int 1), (0, .retAddr 40), (1, .int l), (2, .int r)]) (st' := [.int (-1000000000)]) rfl ?_
                  exact At.rt rfl (xret_i rfl) (by rw [cmb40, if_neg (xntf h1), if_neg (xntf h25), if_neg (xntf h49), if_pos h57, if_neg (xntf h58), if_pos h59, if_pos h60, if_pos h61])
                · refine At.go (q := xm147) rfl 3 (pc' := 320) (L' := [(5, .long 0), (4, .int 0), (3, .int 1), (0, .retAddr 40), (1, .int l), (2, .int r)]) (st' := [.int (lg_cmp 0 999999999)]) rfl ?_
                  refine At.ic1 (tgt := 328) rfl rfl (fun h62 => ?_) (fun h62 => ?_)
                  · refine At.go (q := xm147) rfl 2 (pc' := 331) (L' := [(5, .long 0), (4, .int 0), (3, .int 1), (0, .retAddr 40), (1, .int l), (2, .int r)]) (st' := [.int (0 : Int64).toInt32]) rfl ?_
                    exact At.rt rfl (xret_i rfl) (by rw [cmb40, if_neg (xntf h1), if_neg (xntf h25), if_neg (xntf h49), if_pos h57, if_neg (xntf h58), if_pos h59, if_pos h60, if_neg (xntf h61), if_pos h62])
                  · refine At.go (q := xm147) rfl 2 (pc' := 331) (L' := [(5, .long 0), (4, .int 0), (3, .int 1), (0, .retAddr 40), (1, .int l), (2, .int r)]) (st' := [.int (-1000000000)]) rfl ?_
                    exact At.rt rfl (xret_i rfl) (by rw [cmb40, if_neg (xntf h1), if_neg (xntf h25), if_neg (xntf h49), if_pos h57, if_neg (xntf h58), if_pos h59, if_pos h60, if_neg (xntf h61), if_neg (xntf h62)])
              · refine At.go (q := xm147) rfl 7 (pc' := 311) (L' := [(5, .long 1), (4, .int 0), (3, .int 1), (0, .retAddr 40), (1, .int l), (2, .int r)]) (st' := [.int (lg_cmp 1 (-999999999))]) rfl ?_
                refine At.ic1 (tgt := 323) rfl rfl (fun h63 => ?_) (fun h63 => ?_)
                · refine At.go (q := xm147) rfl 2 (pc' := 331) (L' := [(5, .long 1), (4, .int 0), (3, .int 1), (0, .retAddr 40), (1, .int l), (2, .int r)]) (st' := [.int (-1000000000)]) rfl ?_
                  exact At.rt rfl (xret_i rfl) (by rw [cmb40, if_neg (xntf h1), if_neg (xntf h25), if_neg (xntf h49), if_pos h57, if_neg (xntf h58), if_pos h59, if_neg (xntf h60), if_pos h63])
                · refine At.go (q := xm147) rfl 3 (pc' := 320) (L' := [(5, .long 1), (4, .int 0), (3, .int 1), (0, .retAddr 40), (1, .int l), (2, .int r)]) (st' := [.int (lg_cmp 1 999999999)]) rfl ?_
                  refine At.ic1 (tgt := 328) rfl rfl (fun h64 => ?_) (fun h64 => ?_)
                  · refine At.go (q := xm147) rfl 2 (pc' := 331) (L' := [(5, .long 1), (4, .int 0), (3, .int 1), (0, .retAddr 40), (1, .int l), (2, .int r)]) (st' := [.int (1 : Int64).toInt32]) rfl ?_
                    exact At.rt rfl (xret_i rfl) (by rw [cmb40, if_neg (xntf h1), if_neg (xntf h25), if_neg (xntf h49), if_pos h57, if_neg (xntf h58), if_pos h59, if_neg (xntf h60), if_neg (xntf h63), if_pos h64])
                  · refine At.go (q := xm147) rfl 2 (pc' := 331) (L' := [(5, .long 1), (4, .int 0), (3, .int 1), (0, .retAddr 40), (1, .int l), (2, .int r)]) (st' := [.int (-1000000000)]) rfl ?_
                    exact At.rt rfl (xret_i rfl) (by rw [cmb40, if_neg (xntf h1), if_neg (xntf h25), if_neg (xntf h49), if_pos h57, if_neg (xntf h58), if_pos h59, if_neg (xntf h60), if_neg (xntf h63), if_neg (xntf h64)])
            · refine At.go (q := xm147) rfl 1 (pc' := 91) (L' := [(4, .int 0), (3, .int 1), (0, .retAddr 40), (1, .int l), (2, .int r)]) (st' := [.retAddr 40]) rfl ?_
              refine At.gk rfl (by decide) rfl rfl ?_
              refine At.go (q := xm147) rfl 1 (pc' := 95) (L' := [(4, .int 0), (3, .int 1), (0, .retAddr 40), (1, .int l), (2, .int r)]) (st' := [.int 3, .int 3]) rfl ?_
              refine At.ic2 (tgt := 102) rfl rfl (fun h => absurd (h.symm.trans (show xcm .ne 3 3 = false by decide)) (by decide)) (fun _ => ?_)
              refine At.go (q := xm147) rfl 2 (pc' := 104) (L' := [(4, .int 0), (3, .int 1), (0, .retAddr 40), (1, .int l), (2, .int r)]) (st' := [.int 0]) rfl ?_
              exact At.rt rfl (xret_i rfl) (by rw [cmb40, if_neg (xntf h1), if_neg (xntf h25), if_neg (xntf h49), if_pos h57, if_neg (xntf h58), if_neg (xntf h59)])
        · refine At.go (q := xm147) rfl 5 (pc' := 37) (L' := [(4, .int 1), (3, .int 1), (0, .retAddr 40), (1, .int l), (2, .int r)]) (st' := [.retAddr 49, .retAddr 40]) rfl ?_
          refine At.ace (tgt := 47) (b := false) rfl rfl rfl (fun h => absurd h (by decide)) (fun _ => ?_)
          refine At.go (q := xm147) rfl 2 (pc' := 44) (L' := [(4, .int 1), (3, .int 1), (0, .retAddr 40), (1, .int l), (2, .int r)]) (st' := [.retAddr 48, .retAddr 40]) rfl ?_
          refine At.acn (tgt := 78) (b := false) rfl rfl rfl (fun _ => ?_) (fun h => absurd h (by decide))
          refine At.go (q := xm147) rfl 2 (pc' := 81) (L' := [(4, .int 1), (3, .int 1), (0, .retAddr 40), (1, .int l), (2, .int r)]) (st' := [.int (-1000000000), .int l]) rfl ?_
          refine At.ic2 (tgt := 90) rfl rfl (fun h65 => ?_) (fun h65 => ?_)
          · refine At.go (q := xm147) rfl 1 (pc' := 91) (L' := [(4, .int 1), (3, .int 1), (0, .retAddr 40), (1, .int l), (2, .int r)]) (st' := [.retAddr 40]) rfl ?_
            refine At.gk rfl (by decide) rfl rfl ?_
            refine At.go (q := xm147) rfl 1 (pc' := 95) (L' := [(4, .int 1), (3, .int 1), (0, .retAddr 40), (1, .int l), (2, .int r)]) (st' := [.int 3, .int 3]) rfl ?_
            refine At.ic2 (tgt := 102) rfl rfl (fun h => absurd (h.symm.trans (show xcm .ne 3 3 = false by decide)) (by decide)) (fun _ => ?_)
            refine At.go (q := xm147) rfl 2 (pc' := 104) (L' := [(4, .int 1), (3, .int 1), (0, .retAddr 40), (1, .int l), (2, .int r)]) (st' := [.int 0]) rfl ?_
            exact At.rt rfl (xret_i rfl) (by rw [cmb40, if_neg (xntf h1), if_neg (xntf h25), if_neg (xntf h49), if_neg (xntf h57), if_pos h65])
          · refine At.go (q := xm147) rfl 2 (pc' := 87) (L' := [(4, .int 1), (3, .int 1), (0, .retAddr 40), (1, .int l), (2, .int r)]) (st' := [.int (-1000000000), .int r]) rfl ?_
            refine At.ic2 (tgt := 105) rfl rfl (fun h66 => ?_) (fun h66 => ?_)
            · refine At.go (q := xm147) rfl 2 (pc' := 109) (L' := [(4, .int 1), (3, .int 1), (0, .retAddr 40), (1, .int l), (2, .int r)]) (st' := [.retAddr 40, .retAddr 222]) rfl ?_
              refine At.clp (as := [.retAddr 40]) (rest := [.retAddr 222]) rfl (by decide) rfl (Nat.le_of_ble_eq_true rfl) (Nat.le_of_ble_eq_true rfl) (xrck_k (by decide) (by decide) rfl (by decide)) (Nat.le_of_ble_eq_true rfl) (m_ord40) ?_
              refine At.ak rfl rfl (by decide) rfl (by decide) rfl ?_
              refine At.go (q := xm147) rfl 3 (pc' := 193) (L' := [(4, .int 1), (3, .int 1), (0, .retAddr 40), (1, .int l), (2, .int r)]) (st' := [.int r, .int l]) rfl ?_
              refine At.ic2 (tgt := 200) rfl rfl (fun h67 => ?_) (fun h67 => ?_)
              · refine At.go (q := xm147) rfl 6 (pc' := 311) (L' := [(5, .long 0), (4, .int 1), (3, .int 1), (0, .retAddr 40), (1, .int l), (2, .int r)]) (st' := [.int (lg_cmp 0 (-999999999))]) rfl ?_
                refine At.ic1 (tgt := 323) rfl rfl (fun h68 => ?_) (fun h68 => ?_)
                · refine At.go (q := xm147) rfl 2 (pc' := 331) (L' := [(5, .long 0), (4, .int 1), (3, .int 1), (0, .retAddr 40), (1, .int l), (2, .int r)]) (st' := [.int (-1000000000)]) rfl ?_
                  exact At.rt rfl (xret_i rfl) (by rw [cmb40, if_neg (xntf h1), if_neg (xntf h25), if_neg (xntf h49), if_neg (xntf h57), if_neg (xntf h65), if_pos h66, if_pos h67, if_pos h68])
                · refine At.go (q := xm147) rfl 3 (pc' := 320) (L' := [(5, .long 0), (4, .int 1), (3, .int 1), (0, .retAddr 40), (1, .int l), (2, .int r)]) (st' := [.int (lg_cmp 0 999999999)]) rfl ?_
                  refine At.ic1 (tgt := 328) rfl rfl (fun h69 => ?_) (fun h69 => ?_)
                  · refine At.go (q := xm147) rfl 2 (pc' := 331) (L' := [(5, .long 0), (4, .int 1), (3, .int 1), (0, .retAddr 40), (1, .int l), (2, .int r)]) (st' := [.int (0 : Int64).toInt32]) rfl ?_
                    exact At.rt rfl (xret_i rfl) (by rw [cmb40, if_neg (xntf h1), if_neg (xntf h25), if_neg (xntf h49), if_neg (xntf h57), if_neg (xntf h65), if_pos h66, if_pos h67, if_neg (xntf h68), if_pos h69])
                  · refine At.go (q := xm147) rfl 2 (pc' := 331) (L' := [(5, .long 0), (4, .int 1), (3, .int 1), (0, .retAddr 40), (1, .int l), (2, .int r)]) (st' := [.int (-1000000000)]) rfl ?_
                    exact At.rt rfl (xret_i rfl) (by rw [cmb40, if_neg (xntf h1), if_neg (xntf h25), if_neg (xntf h49), if_neg (xntf h57), if_neg (xntf h65), if_pos h66, if_pos h67, if_neg (xntf h68), if_neg (xntf h69)])
              · refine At.go (q := xm147) rfl 7 (pc' := 311) (L' := [(5, .long 1), (4, .int 1), (3, .int 1), (0, .retAddr 40), (1, .int l), (2, .int r)]) (st' := [.int (lg_cmp 1 (-999999999))]) rfl ?_
                refine At.ic1 (tgt := 323) rfl rfl (fun h70 => ?_) (fun h70 => ?_)
                · refine At.go (q := xm147) rfl 2 (pc' := 331) (L' := [(5, .long 1), (4, .int 1), (3, .int 1), (0, .retAddr 40), (1, .int l), (2, .int r)]) (st' := [.int (-1000000000)]) rfl ?_
                  exact At.rt rfl (xret_i rfl) (by rw [cmb40, if_neg (xntf h1), if_neg (xntf h25), if_neg (xntf h49), if_neg (xntf h57), if_neg (xntf h65), if_pos h66, if_neg (xntf h67), if_pos h70])
                · refine At.go (q := xm147) rfl 3 (pc' := 320) (L' := [(5, .long 1), (4, .int 1), (3, .int 1), (0, .retAddr 40), (1, .int l), (2, .int r)]) (st' := [.int (lg_cmp 1 999999999)]) rfl ?_
                  refine At.ic1 (tgt := 328) rfl rfl (fun h71 => ?_) (fun h71 => ?_)
                  · refine At.go (q := xm147) rfl 2 (pc' := 331) (L' := [(5, .long 1), (4, .int 1), (3, .int 1), (0, .retAddr 40), (1, .int l), (2, .int r)]) (st' := [.int (1 : Int64).toInt32]) rfl ?_
                    exact At.rt rfl (xret_i rfl) (by rw [cmb40, if_neg (xntf h1), if_neg (xntf h25), if_neg (xntf h49), if_neg (xntf h57), if_neg (xntf h65), if_pos h66, if_neg (xntf h67), if_neg (xntf h70), if_pos h71])
                  · refine At.go (q := xm147) rfl 2 (pc' := 331) (L' := [(5, .long 1), (4, .int 1), (3, .int 1), (0, .retAddr 40), (1, .int l), (2, .int r)]) (st' := [.int (-1000000000)]) rfl ?_
                    exact At.rt rfl (xret_i rfl) (by rw [cmb40, if_neg (xntf h1), if_neg (xntf h25), if_neg (xntf h49), if_neg (xntf h57), if_neg (xntf h65), if_pos h66, if_neg (xntf h67), if_neg (xntf h70), if_neg (xntf h71)])
            · refine At.go (q := xm147) rfl 1 (pc' := 91) (L' := [(4, .int 1), (3, .int 1), (0, .retAddr 40), (1, .int l), (2, .int r)]) (st' := [.retAddr 40]) rfl ?_
              refine At.gk rfl (by decide) rfl rfl ?_
              refine At.go (q := xm147) rfl 1 (pc' := 95) (L' := [(4, .int 1), (3, .int 1), (0, .retAddr 40), (1, .int l), (2, .int r)]) (st' := [.int 3, .int 3]) rfl ?_
              refine At.ic2 (tgt := 102) rfl rfl (fun h => absurd (h.symm.trans (show xcm .ne 3 3 = false by decide)) (by decide)) (fun _ => ?_)
              refine At.go (q := xm147) rfl 2 (pc' := 104) (L' := [(4, .int 1), (3, .int 1), (0, .retAddr 40), (1, .int l), (2, .int r)]) (st' := [.int 0]) rfl ?_
              exact At.rt rfl (xret_i rfl) (by rw [cmb40, if_neg (xntf h1), if_neg (xntf h25), if_neg (xntf h49), if_neg (xntf h57), if_neg (xntf h65), if_neg (xntf h66)])
theorem m_ord41 {S : List Int32} {hp : List XC} : Pu S 0 54 [.retAddr 41] hp (.int 41) := by
  refine At.go (q := xm54) rfl 1 (pc' := 1) (L' := [(0, .retAddr 41)]) (st' := [.retAddr 41]) rfl ?_
  refine At.gk rfl (by decide) rfl rfl ?_
  exact At.rt rfl (xret_i rfl) rfl
def cmb41 (l r : Int32) : Int32 := (if xcm .eq l (-1000000000) = true then (if xcm .eq r (-1000000000) = true then (if xcm .eq l (-1000000000) = true then 0 else (if xcm .ne r (-1000000000) = true then (if xcm .ge l r = true then (if xcm .lt (lg_cmp 0 (-999999999)) 0 = true then (-1000000000) else (if xcm .le (lg_cmp 0 999999999) 0 = true then (0 : Int64).toInt32 else (-1000000000))) else (if xcm .lt (lg_cmp 1 (-999999999)) 0 = true then (-1000000000) else (if xcm .le (lg_cmp 1 999999999) 0 = true then (1 : Int64).toInt32 else (-1000000000)))) else 0)) else (if xcm .eq r 0 = true then (if xcm .eq l (-1000000000) = true then 0 else (if xcm .ne r (-1000000000) = true then (if xcm .ge l r = true then (if xcm .lt (lg_cmp 0 (-999999999)) 0 = true then (-1000000000) else (if xcm .le (lg_cmp 0 999999999) 0 = true then (0 : Int64).toInt32 else (-1000000000))) else (if xcm .lt (lg_cmp 1 (-999999999)) 0 = true then (-1000000000) else (if xcm .le (lg_cmp 1 999999999) 0 = true then (1 : Int64).toInt32 else (-1000000000)))) else 0)) else (if xcm .eq l (-1000000000) = true then 0 else (if xcm .ne r (-1000000000) = true then (if xcm .ge l r = true then (if xcm .lt (lg_cmp 0 (-999999999)) 0 = true then (-1000000000) else (if xcm .le (lg_cmp 0 999999999) 0 = true then (0 : Int64).toInt32 else (-1000000000))) else (if xcm .lt (lg_cmp 1 (-999999999)) 0 = true then (-1000000000) else (if xcm .le (lg_cmp 1 999999999) 0 = true then (1 : Int64).toInt32 else (-1000000000)))) else 0)))) else (if xcm .eq l 0 = true then (if xcm .eq r (-1000000000) = true then (if xcm .eq l (-1000000000) = true then 0 else (if xcm .ne r (-1000000000) = true then (if xcm .ge l r = true then (if xcm .lt (lg_cmp 0 (-999999999)) 0 = true then (-1000000000) else (if xcm .le (lg_cmp 0 999999999) 0 = true then (0 : Int64).toInt32 else (-1000000000))) else (if xcm .lt (lg_cmp 1 (-999999999)) 0 = true then (-1000000000) else (if xcm .le (lg_cmp 1 999999999) 0 = true then (1 : Int64).toInt32 else (-1000000000)))) else 0)) else (if xcm .eq r 0 = true then (if xcm .eq l (-1000000000) = true then 0 else (if xcm .ne r (-1000000000) = true then (if xcm .ge l r = true then (if xcm .lt (lg_cmp 0 (-999999999)) 0 = true then (-1000000000) else (if xcm .le (lg_cmp 0 999999999) 0 = true then (0 : Int64).toInt32 else (-1000000000))) else (if xcm .lt (lg_cmp 1 (-999999999)) 0 = true then (-1000000000) else (if xcm .le (lg_cmp 1 999999999) 0 = true then (1 : Int64).toInt32 else (-1000000000)))) else 0)) else (if xcm .eq l (-1000000000) = true then 0 else (if xcm .ne r (-1000000000) = true then (if xcm .ge l r = true then (if xcm .lt (lg_cmp 0 (-999999999)) 0 = true then (-1000000000) else (if xcm .le (lg_cmp 0 999999999) 0 = true then (0 : Int64).toInt32 else (-1000000000))) else (if xcm .lt (lg_cmp 1 (-999999999)) 0 = true then (-1000000000) else (if xcm .le (lg_cmp 1 999999999) 0 = true then (1 : Int64).toInt32 else (-1000000000)))) else 0)))) else (if xcm .eq r (-1000000000) = true then (if xcm .eq l (-1000000000) = true then 0 else (if xcm .ne r (-1000000000) = true then (if xcm .ge l r = true then (if xcm .lt (lg_cmp 0 (-999999999)) 0 = true then (-1000000000) else (if xcm .le (lg_cmp 0 999999999) 0 = true then (0 : Int64).toInt32 else (-1000000000))) else (if xcm .lt (lg_cmp 1 (-999999999)) 0 = true then (-1000000000) else (if xcm .le (lg_cmp 1 999999999) 0 = true then (1 : Int64).toInt32 else (-1000000000)))) else 0)) else (if xcm .eq r 0 = true then (if xcm .eq l (-1000000000) = true then 0 else (if xcm .ne r (-1000000000) = true then (if xcm .ge l r = true then (if xcm .lt (lg_cmp 0 (-999999999)) 0 = true then (-1000000000) else (if xcm .le (lg_cmp 0 999999999) 0 = true then (0 : Int64).toInt32 else (-1000000000))) else (if xcm .lt (lg_cmp 1 (-999999999)) 0 = true then (-1000000000) else (if xcm .le (lg_cmp 1 999999999) 0 = true then (1 : Int64).toInt32 else (-1000000000)))) else 0)) else (if xcm .eq l (-1000000000) = true then 0 else (if xcm .ne r (-1000000000) = true then (if xcm .ge l r = true then (if xcm .lt (lg_cmp 0 (-999999999)) 0 = true then (-1000000000) else (if xcm .le (lg_cmp 0 999999999) 0 = true then (0 : Int64).toInt32 else (-1000000000))) else (if xcm .lt (lg_cmp 1 (-999999999)) 0 = true then (-1000000000) else (if xcm .le (lg_cmp 1 999999999) 0 = true then (1 : Int64).toInt32 else (-1000000000)))) else 0))))))
theorem m_combined41 {S : List Int32} {hp : List XC} (l r : Int32) : Pu S 1 147 [.retAddr 41, .int l, .int r] hp (.int (cmb41 l r)) := by
  refine At.go (q := xm147) rfl 2 (pc' := 3) (L' := [(0, .retAddr 41), (1, .int l), (2, .int r)]) (st' := [.int (-1000000000), .int l]) rfl ?_
  refine At.ic2 (tgt := 14) rfl rfl (fun h1 => ?_) (fun h1 => ?_)
  · refine At.go (q := xm147) rfl 4 (pc' := 19) (L' := [(3, .int 0), (0, .retAddr 41), (1, .int l), (2, .int r)]) (st' := [.int (-1000000000), .int r]) rfl ?_
    refine At.ic2 (tgt := 30) rfl rfl (fun h2 => ?_) (fun h2 => ?_)
    · refine At.go (q := xm147) rfl 4 (pc' := 37) (L' := [(4, .int 0), (3, .int 0), (0, .retAddr 41), (1, .int l), (2, .int r)]) (st' := [.retAddr 49, .retAddr 41]) rfl ?_
      refine At.ace (tgt := 47) (b := false) rfl rfl rfl (fun h => absurd h (by decide)) (fun _ => ?_)
      refine At.go (q := xm147) rfl 2 (pc' := 44) (L' := [(4, .int 0), (3, .int 0), (0, .retAddr 41), (1, .int l), (2, .int r)]) (st' := [.retAddr 48, .retAddr 41]) rfl ?_
      refine At.acn (tgt := 78) (b := false) rfl rfl rfl (fun _ => ?_) (fun h => absurd h (by decide))
      refine At.go (q := xm147) rfl 2 (pc' := 81) (L' := [(4, .int 0), (3, .int 0), (0, .retAddr 41), (1, .int l), (2, .int r)]) (st' := [.int (-1000000000), .int l]) rfl ?_
      refine At.ic2 (tgt := 90) rfl rfl (fun h3 => ?_) (fun h3 => ?_)
      · refine At.go (q := xm147) rfl 1 (pc' := 91) (L' := [(4, .int 0), (3, .int 0), (0, .retAddr 41), (1, .int l), (2, .int r)]) (st' := [.retAddr 41]) rfl ?_
        refine At.gk rfl (by decide) rfl rfl ?_
        refine At.go (q := xm147) rfl 1 (pc' := 95) (L' := [(4, .int 0), (3, .int 0), (0, .retAddr 41), (1, .int l), (2, .int r)]) (st' := [.int 3, .int 3]) rfl ?_
        refine At.ic2 (tgt := 102) rfl rfl (fun h => absurd (h.symm.trans (show xcm .ne 3 3 = false by decide)) (by decide)) (fun _ => ?_)
        refine At.go (q := xm147) rfl 2 (pc' := 104) (L' := [(4, .int 0), (3, .int 0), (0, .retAddr 41), (1, .int l), (2, .int r)]) (st' := [.int 0]) rfl ?_
        exact At.rt rfl (xret_i rfl) (by rw [cmb41, if_pos h1, if_pos h2, if_pos h3])
      · refine At.go (q := xm147) rfl 2 (pc' := 87) (L' := [(4, .int 0), (3, .int 0), (0, .retAddr 41), (1, .int l), (2, .int r)]) (st' := [.int (-1000000000), .int r]) rfl ?_
        refine At.ic2 (tgt := 105) rfl rfl (fun h4 => ?_) (fun h4 => ?_)
        · refine At.go (q := xm147) rfl 2 (pc' := 109) (L' := [(4, .int 0), (3, .int 0), (0, .retAddr 41), (1, .int l), (2, .int r)]) (st' := [.retAddr 41, .retAddr 222]) rfl ?_
          refine At.clp (as := [.retAddr 41]) (rest := [.retAddr 222]) rfl (by decide) rfl (Nat.le_of_ble_eq_true rfl) (Nat.le_of_ble_eq_true rfl) (xrck_k (by decide) (by decide) rfl (by decide)) (Nat.le_of_ble_eq_true rfl) (m_ord41) ?_
          refine At.ak rfl rfl (by decide) rfl (by decide) rfl ?_
          refine At.go (q := xm147) rfl 3 (pc' := 208) (L' := [(4, .int 0), (3, .int 0), (0, .retAddr 41), (1, .int l), (2, .int r)]) (st' := [.int r, .int l]) rfl ?_
          refine At.ic2 (tgt := 215) rfl rfl (fun h5 => ?_) (fun h5 => ?_)
          · refine At.go (q := xm147) rfl 6 (pc' := 311) (L' := [(5, .long 0), (4, .int 0), (3, .int 0), (0, .retAddr 41), (1, .int l), (2, .int r)]) (st' := [.int (lg_cmp 0 (-999999999))]) rfl ?_
            refine At.ic1 (tgt := 323) rfl rfl (fun h6 => ?_) (fun h6 => ?_)
            · refine At.go (q := xm147) rfl 2 (pc' := 331) (L' := [(5, .long 0), (4, .int 0), (3, .int 0), (0, .retAddr 41), (1, .int l), (2, .int r)]) (st' := [.int (-1000000000)]) rfl ?_
              exact At.rt rfl (xret_i rfl) (by rw [cmb41, if_pos h1, if_pos h2, if_neg (xntf h3), if_pos h4, if_pos h5, if_pos h6])
            · refine At.go (q := xm147) rfl 3 (pc' := 320) (L' := [(5, .long 0), (4, .int 0), (3, .int 0), (0, .retAddr 41), (1, .int l), (2, .int r)]) (st' := [.int (lg_cmp 0 999999999)]) rfl ?_
              refine At.ic1 (tgt := 328) rfl rfl (fun h7 => ?_) (fun h7 => ?_)
              · refine At.go (q := xm147) rfl 2 (pc' := 331) (L' := [(5, .long 0), (4, .int 0), (3, .int 0), (0, .retAddr 41), (1, .int l), (2, .int r)]) (st' := [.int (0 : Int64).toInt32]) rfl ?_
                exact At.rt rfl (xret_i rfl) (by rw [cmb41, if_pos h1, if_pos h2, if_neg (xntf h3), if_pos h4, if_pos h5, if_neg (xntf h6), if_pos h7])
              · refine At.go (q := xm147) rfl 2 (pc' := 331) (L' := [(5, .long 0), (4, .int 0), (3, .int 0), (0, .retAddr 41), (1, .int l), (2, .int r)]) (st' := [.int (-1000000000)]) rfl ?_
                exact At.rt rfl (xret_i rfl) (by rw [cmb41, if_pos h1, if_pos h2, if_neg (xntf h3), if_pos h4, if_pos h5, if_neg (xntf h6), if_neg (xntf h7)])
          · refine At.go (q := xm147) rfl 7 (pc' := 311) (L' := [(5, .long 1), (4, .int 0), (3, .int 0), (0, .retAddr 41), (1, .int l), (2, .int r)]) (st' := [.int (lg_cmp 1 (-999999999))]) rfl ?_
            refine At.ic1 (tgt := 323) rfl rfl (fun h8 => ?_) (fun h8 => ?_)
            · refine At.go (q := xm147) rfl 2 (pc' := 331) (L' := [(5, .long 1), (4, .int 0), (3, .int 0), (0, .retAddr 41), (1, .int l), (2, .int r)]) (st' := [.int (-1000000000)]) rfl ?_
              exact At.rt rfl (xret_i rfl) (by rw [cmb41, if_pos h1, if_pos h2, if_neg (xntf h3), if_pos h4, if_neg (xntf h5), if_pos h8])
            · refine At.go (q := xm147) rfl 3 (pc' := 320) (L' := [(5, .long 1), (4, .int 0), (3, .int 0), (0, .retAddr 41), (1, .int l), (2, .int r)]) (st' := [.int (lg_cmp 1 999999999)]) rfl ?_
              refine At.ic1 (tgt := 328) rfl rfl (fun h9 => ?_) (fun h9 => ?_)
              · refine At.go (q := xm147) rfl 2 (pc' := 331) (L' := [(5, .long 1), (4, .int 0), (3, .int 0), (0, .retAddr 41), (1, .int l), (2, .int r)]) (st' := [.int (1 : Int64).toInt32]) rfl ?_
                exact At.rt rfl (xret_i rfl) (by rw [cmb41, if_pos h1, if_pos h2, if_neg (xntf h3), if_pos h4, if_neg (xntf h5), if_neg (xntf h8), if_pos h9])
              · refine At.go (q := xm147) rfl 2 (pc' := 331) (L' := [(5, .long 1), (4, .int 0), (3, .int 0), (0, .retAddr 41), (1, .int l), (2, .int r)]) (st' := [.int (-1000000000)]) rfl ?_
                exact At.rt rfl (xret_i rfl) (by rw [cmb41, if_pos h1, if_pos h2, if_neg (xntf h3), if_pos h4, if_neg (xntf h5), if_neg (xntf h8), if_neg (xntf h9)])
        · refine At.go (q := xm147) rfl 1 (pc' := 91) (L' := [(4, .int 0), (3, .int 0), (0, .retAddr 41), (1, .int l), (2, .int r)]) (st' := [.retAddr 41]) rfl ?_
          refine At.gk rfl (by decide) rfl rfl ?_
          refine At.go (q := xm147) rfl 1 (pc' := 95) (L' := [(4, .int 0), (3, .int 0), (0, .retAddr 41), (1, .int l), (2, .int r)]) (st' := [.int 3, .int 3]) rfl ?_
          refine At.ic2 (tgt := 102) rfl rfl (fun h => absurd (h.symm.trans (show xcm .ne 3 3 = false by decide)) (by decide)) (fun _ => ?_)
          refine At.go (q := xm147) rfl 2 (pc' := 104) (L' := [(4, .int 0), (3, .int 0), (0, .retAddr 41), (1, .int l), (2, .int r)]) (st' := [.int 0]) rfl ?_
          exact At.rt rfl (xret_i rfl) (by rw [cmb41, if_pos h1, if_pos h2, if_neg (xntf h3), if_neg (xntf h4)])
    · refine At.go (q := xm147) rfl 1 (pc' := 23) (L' := [(3, .int 0), (0, .retAddr 41), (1, .int l), (2, .int r)]) (st' := [.int r]) rfl ?_
      refine At.ic1 (tgt := 30) rfl rfl (fun h10 => ?_) (fun h10 => ?_)
      · refine At.go (q := xm147) rfl 4 (pc' := 37) (L' := [(4, .int 0), (3, .int 0), (0, .retAddr 41), (1, .int l), (2, .int r)]) (st' := [.retAddr 49, .retAddr 41]) rfl ?_
        refine At.ace (tgt := 47) (b := false) rfl rfl rfl (fun h => absurd h (by decide)) (fun _ => ?_)
        refine At.go (q := xm147) rfl 2 (pc' := 44) (L' := [(4, .int 0), (3, .int 0), (0, .retAddr 41), (1, .int l), (2, .int r)]) (st' := [.retAddr 48, .retAddr 41]) rfl ?_
        refine At.acn (tgt := 78) (b := false) rfl rfl rfl (fun _ => ?_) (fun h => absurd h (by decide))
        refine At.go (q := xm147) rfl 2 (pc' := 81) (L' := [(4, .int 0), (3, .int 0), (0, .retAddr 41), (1, .int l), (2, .int r)]) (st' := [.int (-1000000000), .int l]) rfl ?_
        refine At.ic2 (tgt := 90) rfl rfl (fun h11 => ?_) (fun h11 => ?_)
        · refine At.go (q := xm147) rfl 1 (pc' := 91) (L' := [(4, .int 0), (3, .int 0), (0, .retAddr 41), (1, .int l), (2, .int r)]) (st' := [.retAddr 41]) rfl ?_
          refine At.gk rfl (by decide) rfl rfl ?_
          refine At.go (q := xm147) rfl 1 (pc' := 95) (L' := [(4, .int 0), (3, .int 0), (0, .retAddr 41), (1, .int l), (2, .int r)]) (st' := [.int 3, .int 3]) rfl ?_
          refine At.ic2 (tgt := 102) rfl rfl (fun h => absurd (h.symm.trans (show xcm .ne 3 3 = false by decide)) (by decide)) (fun _ => ?_)
          refine At.go (q := xm147) rfl 2 (pc' := 104) (L' := [(4, .int 0), (3, .int 0), (0, .retAddr 41), (1, .int l), (2, .int r)]) (st' := [.int 0]) rfl ?_
          exact At.rt rfl (xret_i rfl) (by rw [cmb41, if_pos h1, if_neg (xntf h2), if_pos h10, if_pos h11])
        · refine At.go (q := xm147) rfl 2 (pc' := 87) (L' := [(4, .int 0), (3, .int 0), (0, .retAddr 41), (1, .int l), (2, .int r)]) (st' := [.int (-1000000000), .int r]) rfl ?_
          refine At.ic2 (tgt := 105) rfl rfl (fun h12 => ?_) (fun h12 => ?_)
          · refine At.go (q := xm147) rfl 2 (pc' := 109) (L' := [(4, .int 0), (3, .int 0), (0, .retAddr 41), (1, .int l), (2, .int r)]) (st' := [.retAddr 41, .retAddr 222]) rfl ?_
            refine At.clp (as := [.retAddr 41]) (rest := [.retAddr 222]) rfl (by decide) rfl (Nat.le_of_ble_eq_true rfl) (Nat.le_of_ble_eq_true rfl) (xrck_k (by decide) (by decide) rfl (by decide)) (Nat.le_of_ble_eq_true rfl) (m_ord41) ?_
            refine At.ak rfl rfl (by decide) rfl (by decide) rfl ?_
            refine At.go (q := xm147) rfl 3 (pc' := 208) (L' := [(4, .int 0), (3, .int 0), (0, .retAddr 41), (1, .int l), (2, .int r)]) (st' := [.int r, .int l]) rfl ?_
            refine At.ic2 (tgt := 215) rfl rfl (fun h13 => ?_) (fun h13 => ?_)
            · refine At.go (q := xm147) rfl 6 (pc' := 311) (L' := [(5, .long 0), (4, .int 0), (3, .int 0), (0, .retAddr 41), (1, .int l), (2, .int r)]) (st' := [.int (lg_cmp 0 (-999999999))]) rfl ?_
              refine At.ic1 (tgt := 323) rfl rfl (fun h14 => ?_) (fun h14 => ?_)
              · refine At.go (q := xm147) rfl 2 (pc' := 331) (L' := [(5, .long 0), (4, .int 0), (3, .int 0), (0, .retAddr 41), (1, .int l), (2, .int r)]) (st' := [.int (-1000000000)]) rfl ?_
                exact At.rt rfl (xret_i rfl) (by rw [cmb41, if_pos h1, if_neg (xntf h2), if_pos h10, if_neg (xntf h11), if_pos h12, if_pos h13, if_pos h14])
              · refine At.go (q := xm147) rfl 3 (pc' := 320) (L' := [(5, .long 0), (4, .int 0), (3, .int 0), (0, .retAddr 41), (1, .int l), (2, .int r)]) (st' := [.int (lg_cmp 0 999999999)]) rfl ?_
                refine At.ic1 (tgt := 328) rfl rfl (fun h15 => ?_) (fun h15 => ?_)
                · refine At.go (q := xm147) rfl 2 (pc' := 331) (L' := [(5, .long 0), (4, .int 0), (3, .int 0), (0, .retAddr 41), (1, .int l), (2, .int r)]) (st' := [.int (0 : Int64).toInt32]) rfl ?_
                  exact At.rt rfl (xret_i rfl) (by rw [cmb41, if_pos h1, if_neg (xntf h2), if_pos h10, if_neg (xntf h11), if_pos h12, if_pos h13, if_neg (xntf h14), if_pos h15])
                · refine At.go (q := xm147) rfl 2 (pc' := 331) (L' := [(5, .long 0), (4, .int 0), (3, .int 0), (0, .retAddr 41), (1, .int l), (2, .int r)]) (st' := [.int (-1000000000)]) rfl ?_
                  exact At.rt rfl (xret_i rfl) (by rw [cmb41, if_pos h1, if_neg (xntf h2), if_pos h10, if_neg (xntf h11), if_pos h12, if_pos h13, if_neg (xntf h14), if_neg (xntf h15)])
            · refine At.go (q := xm147) rfl 7 (pc' := 311) (L' := [(5, .long 1), (4, .int 0), (3, .int 0), (0, .retAddr 41), (1, .int l), (2, .int r)]) (st' := [.int (lg_cmp 1 (-999999999))]) rfl ?_
              refine At.ic1 (tgt := 323) rfl rfl (fun h16 => ?_) (fun h16 => ?_)
              · refine At.go (q := xm147) rfl 2 (pc' := 331) (L' := [(5, .long 1), (4, .int 0), (3, .int 0), (0, .retAddr 41), (1, .int l), (2, .int r)]) (st' := [.int (-1000000000)]) rfl ?_
                exact At.rt rfl (xret_i rfl) (by rw [cmb41, if_pos h1, if_neg (xntf h2), if_pos h10, if_neg (xntf h11), if_pos h12, if_neg (xntf h13), if_pos h16])
              · refine At.go (q := xm147) rfl 3 (pc' := 320) (L' := [(5, .long 1), (4, .int 0), (3, .int 0), (0, .retAddr 41), (1, .int l), (2, .int r)]) (st' := [.int (lg_cmp 1 999999999)]) rfl ?_
                refine At.ic1 (tgt := 328) rfl rfl (fun h17 => ?_) (fun h17 => ?_)
                · refine At.go (q := xm147) rfl 2 (pc' := 331) (L' := [(5, .long 1), (4, .int 0), (3, .int 0), (0, .retAddr 41), (1, .int l), (2, .int r)]) (st' := [.int (1 : Int64).toInt32]) rfl ?_
                  exact At.rt rfl (xret_i rfl) (by rw [cmb41, if_pos h1, if_neg (xntf h2), if_pos h10, if_neg (xntf h11), if_pos h12, if_neg (xntf h13), if_neg (xntf h16), if_pos h17])
                · refine At.go (q := xm147) rfl 2 (pc' := 331) (L' := [(5, .long 1), (4, .int 0), (3, .int 0), (0, .retAddr 41), (1, .int l), (2, .int r)]) (st' := [.int (-1000000000)]) rfl ?_
                  exact At.rt rfl (xret_i rfl) (by rw [cmb41, if_pos h1, if_neg (xntf h2), if_pos h10, if_neg (xntf h11), if_pos h12, if_neg (xntf h13), if_neg (xntf h16), if_neg (xntf h17)])
          · refine At.go (q := xm147) rfl 1 (pc' := 91) (L' := [(4, .int 0), (3, .int 0), (0, .retAddr 41), (1, .int l), (2, .int r)]) (st' := [.retAddr 41]) rfl ?_
            refine At.gk rfl (by decide) rfl rfl ?_
            refine At.go (q := xm147) rfl 1 (pc' := 95) (L' := [(4, .int 0), (3, .int 0), (0, .retAddr 41), (1, .int l), (2, .int r)]) (st' := [.int 3, .int 3]) rfl ?_
            refine At.ic2 (tgt := 102) rfl rfl (fun h => absurd (h.symm.trans (show xcm .ne 3 3 = false by decide)) (by decide)) (fun _ => ?_)
            refine At.go (q := xm147) rfl 2 (pc' := 104) (L' := [(4, .int 0), (3, .int 0), (0, .retAddr 41), (1, .int l), (2, .int r)]) (st' := [.int 0]) rfl ?_
            exact At.rt rfl (xret_i rfl) (by rw [cmb41, if_pos h1, if_neg (xntf h2), if_pos h10, if_neg (xntf h11), if_neg (xntf h12)])
      · refine At.go (q := xm147) rfl 5 (pc' := 37) (L' := [(4, .int 1), (3, .int 0), (0, .retAddr 41), (1, .int l), (2, .int r)]) (st' := [.retAddr 49, .retAddr 41]) rfl ?_
        refine At.ace (tgt := 47) (b := false) rfl rfl rfl (fun h => absurd h (by decide)) (fun _ => ?_)
        refine At.go (q := xm147) rfl 2 (pc' := 44) (L' := [(4, .int 1), (3, .int 0), (0, .retAddr 41), (1, .int l), (2, .int r)]) (st' := [.retAddr 48, .retAddr 41]) rfl ?_
        refine At.acn (tgt := 78) (b := false) rfl rfl rfl (fun _ => ?_) (fun h => absurd h (by decide))
        refine At.go (q := xm147) rfl 2 (pc' := 81) (L' := [(4, .int 1), (3, .int 0), (0, .retAddr 41), (1, .int l), (2, .int r)]) (st' := [.int (-1000000000), .int l]) rfl ?_
        refine At.ic2 (tgt := 90) rfl rfl (fun h18 => ?_) (fun h18 => ?_)
        · refine At.go (q := xm147) rfl 1 (pc' := 91) (L' := [(4, .int 1), (3, .int 0), (0, .retAddr 41), (1, .int l), (2, .int r)]) (st' := [.retAddr 41]) rfl ?_
          refine At.gk rfl (by decide) rfl rfl ?_
          refine At.go (q := xm147) rfl 1 (pc' := 95) (L' := [(4, .int 1), (3, .int 0), (0, .retAddr 41), (1, .int l), (2, .int r)]) (st' := [.int 3, .int 3]) rfl ?_
          refine At.ic2 (tgt := 102) rfl rfl (fun h => absurd (h.symm.trans (show xcm .ne 3 3 = false by decide)) (by decide)) (fun _ => ?_)
          refine At.go (q := xm147) rfl 2 (pc' := 104) (L' := [(4, .int 1), (3, .int 0), (0, .retAddr 41), (1, .int l), (2, .int r)]) (st' := [.int 0]) rfl ?_
          exact At.rt rfl (xret_i rfl) (by rw [cmb41, if_pos h1, if_neg (xntf h2), if_neg (xntf h10), if_pos h18])
        · refine At.go (q := xm147) rfl 2 (pc' := 87) (L' := [(4, .int 1), (3, .int 0), (0, .retAddr 41), (1, .int l), (2, .int r)]) (st' := [.int (-1000000000), .int r]) rfl ?_
          refine At.ic2 (tgt := 105) rfl rfl (fun h19 => ?_) (fun h19 => ?_)
          · refine At.go (q := xm147) rfl 2 (pc' := 109) (L' := [(4, .int 1), (3, .int 0), (0, .retAddr 41), (1, .int l), (2, .int r)]) (st' := [.retAddr 41, .retAddr 222]) rfl ?_
            refine At.clp (as := [.retAddr 41]) (rest := [.retAddr 222]) rfl (by decide) rfl (Nat.le_of_ble_eq_true rfl) (Nat.le_of_ble_eq_true rfl) (xrck_k (by decide) (by decide) rfl (by decide)) (Nat.le_of_ble_eq_true rfl) (m_ord41) ?_
            refine At.ak rfl rfl (by decide) rfl (by decide) rfl ?_
            refine At.go (q := xm147) rfl 3 (pc' := 208) (L' := [(4, .int 1), (3, .int 0), (0, .retAddr 41), (1, .int l), (2, .int r)]) (st' := [.int r, .int l]) rfl ?_
            refine At.ic2 (tgt := 215) rfl rfl (fun h20 => ?_) (fun h20 => ?_)
            · refine At.go (q := xm147) rfl 6 (pc' := 311) (L' := [(5, .long 0), (4, .int 1), (3, .int 0), (0, .retAddr 41), (1, .int l), (2, .int r)]) (st' := [.int (lg_cmp 0 (-999999999))]) rfl ?_
              refine At.ic1 (tgt := 323) rfl rfl (fun h21 => ?_) (fun h21 => ?_)
              · refine At.go (q := xm147) rfl 2 (pc' := 331) (L' := [(5, .long 0), (4, .int 1), (3, .int 0), (0, .retAddr 41), (1, .int l), (2, .int r)]) (st' := [.int (-1000000000)]) rfl ?_
                exact At.rt rfl (xret_i rfl) (by rw [cmb41, if_pos h1, if_neg (xntf h2), if_neg (xntf h10), if_neg (xntf h18), if_pos h19, if_pos h20, if_pos h21])
              · refine At.go (q := xm147) rfl 3 (pc' := 320) (L' := [(5, .long 0), (4, .int 1), (3, .int 0), (0, .retAddr 41), (1, .int l), (2, .int r)]) (st' := [.int (lg_cmp 0 999999999)]) rfl ?_
                refine At.ic1 (tgt := 328) rfl rfl (fun h22 => ?_) (fun h22 => ?_)
                · refine At.go (q := xm147) rfl 2 (pc' := 331) (L' := [(5, .long 0), (4, .int 1), (3, .int 0), (0, .retAddr 41), (1, .int l), (2, .int r)]) (st' := [.int (0 : Int64).toInt32]) rfl ?_
                  exact At.rt rfl (xret_i rfl) (by rw [cmb41, if_pos h1, if_neg (xntf h2), if_neg (xntf h10), if_neg (xntf h18), if_pos h19, if_pos h20, if_neg (xntf h21), if_pos h22])
                · refine At.go (q := xm147) rfl 2 (pc' := 331) (L' := [(5, .long 0), (4, .int 1), (3, .int 0), (0, .retAddr 41), (1, .int l), (2, .int r)]) (st' := [.int (-1000000000)]) rfl ?_
                  exact At.rt rfl (xret_i rfl) (by rw [cmb41, if_pos h1, if_neg (xntf h2), if_neg (xntf h10), if_neg (xntf h18), if_pos h19, if_pos h20, if_neg (xntf h21), if_neg (xntf h22)])
            · refine At.go (q := xm147) rfl 7 (pc' := 311) (L' := [(5, .long 1), (4, .int 1), (3, .int 0), (0, .retAddr 41), (1, .int l), (2, .int r)]) (st' := [.int (lg_cmp 1 (-999999999))]) rfl ?_
              refine At.ic1 (tgt := 323) rfl rfl (fun h23 => ?_) (fun h23 => ?_)
              · refine At.go (q := xm147) rfl 2 (pc' := 331) (L' := [(5, .long 1), (4, .int 1), (3, .int 0), (0, .retAddr 41), (1, .int l), (2, .int r)]) (st' := [.int (-1000000000)]) rfl ?_
                exact At.rt rfl (xret_i rfl) (by rw [cmb41, if_pos h1, if_neg (xntf h2), if_neg (xntf h10), if_neg (xntf h18), if_pos h19, if_neg (xntf h20), if_pos h23])
              · refine At.go (q := xm147) rfl 3 (pc' := 320) (L' := [(5, .long 1), (4, .int 1), (3, .int 0), (0, .retAddr 41), (1, .int l), (2, .int r)]) (st' := [.int (lg_cmp 1 999999999)]) rfl ?_
                refine At.ic1 (tgt := 328) rfl rfl (fun h24 => ?_) (fun h24 => ?_)
                · refine At.go (q := xm147) rfl 2 (pc' := 331) (L' := [(5, .long 1), (4, .int 1), (3, .int 0), (0, .retAddr 41), (1, .int l), (2, .int r)]) (st' := [.int (1 : Int64).toInt32]) rfl ?_
                  exact At.rt rfl (xret_i rfl) (by rw [cmb41, if_pos h1, if_neg (xntf h2), if_neg (xntf h10), if_neg (xntf h18), if_pos h19, if_neg (xntf h20), if_neg (xntf h23), if_pos h24])
                · refine At.go (q := xm147) rfl 2 (pc' := 331) (L' := [(5, .long 1), (4, .int 1), (3, .int 0), (0, .retAddr 41), (1, .int l), (2, .int r)]) (st' := [.int (-1000000000)]) rfl ?_
                  exact At.rt rfl (xret_i rfl) (by rw [cmb41, if_pos h1, if_neg (xntf h2), if_neg (xntf h10), if_neg (xntf h18), if_pos h19, if_neg (xntf h20), if_neg (xntf h23), if_neg (xntf h24)])
          · refine At.go (q := xm147) rfl 1 (pc' := 91) (L' := [(4, .int 1), (3, .int 0), (0, .retAddr 41), (1, .int l), (2, .int r)]) (st' := [.retAddr 41]) rfl ?_
            refine At.gk rfl (by decide) rfl rfl ?_
            refine At.go (q := xm147) rfl 1 (pc' := 95) (L' := [(4, .int 1), (3, .int 0), (0, .retAddr 41), (1, .int l), (2, .int r)]) (st' := [.int 3, .int 3]) rfl ?_
            refine At.ic2 (tgt := 102) rfl rfl (fun h => absurd (h.symm.trans (show xcm .ne 3 3 = false by decide)) (by decide)) (fun _ => ?_)
            refine At.go (q := xm147) rfl 2 (pc' := 104) (L' := [(4, .int 1), (3, .int 0), (0, .retAddr 41), (1, .int l), (2, .int r)]) (st' := [.int 0]) rfl ?_
            exact At.rt rfl (xret_i rfl) (by rw [cmb41, if_pos h1, if_neg (xntf h2), if_neg (xntf h10), if_neg (xntf h18), if_neg (xntf h19)])
  · refine At.go (q := xm147) rfl 1 (pc' := 7) (L' := [(0, .retAddr 41), (1, .int l), (2, .int r)]) (st' := [.int l]) rfl ?_
    refine At.ic1 (tgt := 14) rfl rfl (fun h25 => ?_) (fun h25 => ?_)
    · refine At.go (q := xm147) rfl 4 (pc' := 19) (L' := [(3, .int 0), (0, .retAddr 41), (1, .int l), (2, .int r)]) (st' := [.int (-1000000000), .int r]) rfl ?_
      refine At.ic2 (tgt := 30) rfl rfl (fun h26 => ?_) (fun h26 => ?_)
      · refine At.go (q := xm147) rfl 4 (pc' := 37) (L' := [(4, .int 0), (3, .int 0), (0, .retAddr 41), (1, .int l), (2, .int r)]) (st' := [.retAddr 49, .retAddr 41]) rfl ?_
        refine At.ace (tgt := 47) (b := false) rfl rfl rfl (fun h => absurd h (by decide)) (fun _ => ?_)
        refine At.go (q := xm147) rfl 2 (pc' := 44) (L' := [(4, .int 0), (3, .int 0), (0, .retAddr 41), (1, .int l), (2, .int r)]) (st' := [.retAddr 48, .retAddr 41]) rfl ?_
        refine At.acn (tgt := 78) (b := false) rfl rfl rfl (fun _ => ?_) (fun h => absurd h (by decide))
        refine At.go (q := xm147) rfl 2 (pc' := 81) (L' := [(4, .int 0), (3, .int 0), (0, .retAddr 41), (1, .int l), (2, .int r)]) (st' := [.int (-1000000000), .int l]) rfl ?_
        refine At.ic2 (tgt := 90) rfl rfl (fun h27 => ?_) (fun h27 => ?_)
        · refine At.go (q := xm147) rfl 1 (pc' := 91) (L' := [(4, .int 0), (3, .int 0), (0, .retAddr 41), (1, .int l), (2, .int r)]) (st' := [.retAddr 41]) rfl ?_
          refine At.gk rfl (by decide) rfl rfl ?_
          refine At.go (q := xm147) rfl 1 (pc' := 95) (L' := [(4, .int 0), (3, .int 0), (0, .retAddr 41), (1, .int l), (2, .int r)]) (st' := [.int 3, .int 3]) rfl ?_
          refine At.ic2 (tgt := 102) rfl rfl (fun h => absurd (h.symm.trans (show xcm .ne 3 3 = false by decide)) (by decide)) (fun _ => ?_)
          refine At.go (q := xm147) rfl 2 (pc' := 104) (L' := [(4, .int 0), (3, .int 0), (0, .retAddr 41), (1, .int l), (2, .int r)]) (st' := [.int 0]) rfl ?_
          exact At.rt rfl (xret_i rfl) (by rw [cmb41, if_neg (xntf h1), if_pos h25, if_pos h26, if_pos h27])
        · refine At.go (q := xm147) rfl 2 (pc' := 87) (L' := [(4, .int 0), (3, .int 0), (0, .retAddr 41), (1, .int l), (2, .int r)]) (st' := [.int (-1000000000), .int r]) rfl ?_
          refine At.ic2 (tgt := 105) rfl rfl (fun h28 => ?_) (fun h28 => ?_)
          · refine At.go (q := xm147) rfl 2 (pc' := 109) (L' := [(4, .int 0), (3, .int 0), (0, .retAddr 41), (1, .int l), (2, .int r)]) (st' := [.retAddr 41, .retAddr 222]) rfl ?_
            refine At.clp (as := [.retAddr 41]) (rest := [.retAddr 222]) rfl (by decide) rfl (Nat.le_of_ble_eq_true rfl) (Nat.le_of_ble_eq_true rfl) (xrck_k (by decide) (by decide) rfl (by decide)) (Nat.le_of_ble_eq_true rfl) (m_ord41) ?_
            refine At.ak rfl rfl (by decide) rfl (by decide) rfl ?_
            refine At.go (q := xm147) rfl 3 (pc' := 208) (L' := [(4, .int 0), (3, .int 0), (0, .retAddr 41), (1, .int l), (2, .int r)]) (st' := [.int r, .int l]) rfl ?_
            refine At.ic2 (tgt := 215) rfl rfl (fun h29 => ?_) (fun h29 => ?_)
            · refine At.go (q := xm147) rfl 6 (pc' := 311) (L' := [(5, .long 0), (4, .int 0), (3, .int 0), (0, .retAddr 41), (1, .int l), (2, .int r)]) (st' := [.int (lg_cmp 0 (-999999999))]) rfl ?_
              refine At.ic1 (tgt := 323) rfl rfl (fun h30 => ?_) (fun h30 => ?_)
              · refine At.go (q := xm147) rfl 2 (pc' := 331) (L' := [(5, .long 0), (4, .int 0), (3, .int 0), (0, .retAddr 41), (1, .int l), (2, .int r)]) (st' := [.int (-1000000000)]) rfl ?_
                exact At.rt rfl (xret_i rfl) (by rw [cmb41, if_neg (xntf h1), if_pos h25, if_pos h26, if_neg (xntf h27), if_pos h28, if_pos h29, if_pos h30])
              · refine At.go (q := xm147) rfl 3 (pc' := 320) (L' := [(5, .long 0), (4, .int 0), (3, .int 0), (0, .retAddr 41), (1, .int l), (2, .int r)]) (st' := [.int (lg_cmp 0 999999999)]) rfl ?_
                refine At.ic1 (tgt := 328) rfl rfl (fun h31 => ?_) (fun h31 => ?_)
                · refine At.go (q := xm147) rfl 2 (pc' := 331) (L' := [(5, .long 0), (4, .int 0), (3, .int 0), (0, .retAddr 41), (1, .int l), (2, .int r)]) (st' := [.int (0 : Int64).toInt32]) rfl ?_
                  exact At.rt rfl (xret_i rfl) (by rw [cmb41, if_neg (xntf h1), if_pos h25, if_pos h26, if_neg (xntf h27), if_pos h28, if_pos h29, if_neg (xntf h30), if_pos h31])
                · refine At.go (q := xm147) rfl 2 (pc' := 331) (L' := [(5, .long 0), (4, .int 0), (3, .int 0), (0, .retAddr 41), (1, .int l), (2, .int r)]) (st' := [.int (-1000000000)]) rfl ?_
                  exact At.rt rfl (xret_i rfl) (by rw [cmb41, if_neg (xntf h1), if_pos h25, if_pos h26, if_neg (xntf h27), if_pos h28, if_pos h29, if_neg (xntf h30), if_neg (xntf h31)])
            · refine At.go (q := xm147) rfl 7 (pc' := 311) (L' := [(5, .long 1), (4, .int 0), (3, .int 0), (0, .retAddr 41), (1, .int l), (2, .int r)]) (st' := [.int (lg_cmp 1 (-999999999))]) rfl ?_
              refine At.ic1 (tgt := 323) rfl rfl (fun h32 => ?_) (fun h32 => ?_)
              · refine At.go (q := xm147) rfl 2 (pc' := 331) (L' := [(5, .long 1), (4, .int 0), (3, .int 0), (0, .retAddr 41), (1, .int l), (2, .int r)]) (st' := [.int (-1000000000)]) rfl ?_
                exact At.rt rfl (xret_i rfl) (by rw [cmb41, if_neg (xntf h1), if_pos h25, if_pos h26, if_neg (xntf h27), if_pos h28, if_neg (xntf h29), if_pos h32])
              · refine At.go (q := xm147) rfl 3 (pc' := 320) (L' := [(5, .long 1), (4, .int 0), (3, .int 0), (0, .retAddr 41), (1, .int l), (2, .int r)]) (st' := [.int (lg_cmp 1 999999999)]) rfl ?_
                refine At.ic1 (tgt := 328) rfl rfl (fun h33 => ?_) (fun h33 => ?_)
                · refine At.go (q := xm147) rfl 2 (pc' := 331) (L' := [(5, .long 1), (4, .int 0), (3, .int 0), (0, .retAddr 41), (1, .int l), (2, .int r)]) (st' := [.int (1 : Int64).toInt32]) rfl ?_
                  exact At.rt rfl (xret_i rfl) (by rw [cmb41, if_neg (xntf h1), if_pos h25, if_pos h26, if_neg (xntf h27), if_pos h28, if_neg (xntf h29), if_neg (xntf h32), if_pos h33])
                · refine At.go (q := xm147) rfl 2 (pc' := 331) (L' := [(5, .long 1), (4, .int 0), (3, .int 0), (0, .retAddr 41), (1, .int l), (2, .int r)]) (st' := [.int (-1000000000)]) rfl ?_
                  exact At.rt rfl (xret_i rfl) (by rw [cmb41, if_neg (xntf h1), if_pos h25, if_pos h26, if_neg (xntf h27), if_pos h28, if_neg (xntf h29), if_neg (xntf h32), if_neg (xntf h33)])
          · refine At.go (q := xm147) rfl 1 (pc' := 91) (L' := [(4, .int 0), (3, .int 0), (0, .retAddr 41), (1, .int l), (2, .int r)]) (st' := [.retAddr 41]) rfl ?_
            refine At.gk rfl (by decide) rfl rfl ?_
            refine At.go (q := xm147) rfl 1 (pc' := 95) (L' := [(4, .int 0), (3, .int 0), (0, .retAddr 41), (1, .int l), (2, .int r)]) (st' := [.int 3, .int 3]) rfl ?_
            refine At.ic2 (tgt := 102) rfl rfl (fun h => absurd (h.symm.trans (show xcm .ne 3 3 = false by decide)) (by decide)) (fun _ => ?_)
            refine At.go (q := xm147) rfl 2 (pc' := 104) (L' := [(4, .int 0), (3, .int 0), (0, .retAddr 41), (1, .int l), (2, .int r)]) (st' := [.int 0]) rfl ?_
            exact At.rt rfl (xret_i rfl) (by rw [cmb41, if_neg (xntf h1), if_pos h25, if_pos h26, if_neg (xntf h27), if_neg (xntf h28)])
      · refine At.go (q := xm147) rfl 1 (pc' := 23) (L' := [(3, .int 0), (0, .retAddr 41), (1, .int l), (2, .int r)]) (st' := [.int r]) rfl ?_
        refine At.ic1 (tgt := 30) rfl rfl (fun h34 => ?_) (fun h34 => ?_)
        · refine At.go (q := xm147) rfl 4 (pc' := 37) (L' := [(4, .int 0), (3, .int 0), (0, .retAddr 41), (1, .int l), (2, .int r)]) (st' := [.retAddr 49, .retAddr 41]) rfl ?_
          refine At.ace (tgt := 47) (b := false) rfl rfl rfl (fun h => absurd h (by decide)) (fun _ => ?_)
          refine At.go (q := xm147) rfl 2 (pc' := 44) (L' := [(4, .int 0), (3, .int 0), (0, .retAddr 41), (1, .int l), (2, .int r)]) (st' := [.retAddr 48, .retAddr 41]) rfl ?_
          refine At.acn (tgt := 78) (b := false) rfl rfl rfl (fun _ => ?_) (fun h => absurd h (by decide))
          refine At.go (q := xm147) rfl 2 (pc' := 81) (L' := [(4, .int 0), (3, .int 0), (0, .retAddr 41), (1, .int l), (2, .int r)]) (st' := [.int (-1000000000), .int l]) rfl ?_
          refine At.ic2 (tgt := 90) rfl rfl (fun h35 => ?_) (fun h35 => ?_)
          · refine At.go (q := xm147) rfl 1 (pc' := 91) (L' := [(4, .int 0), (3, .int 0), (0, .retAddr 41), (1, .int l), (2, .int r)]) (st' := [.retAddr 41]) rfl ?_
            refine At.gk rfl (by decide) rfl rfl ?_
            refine At.go (q := xm147) rfl 1 (pc' := 95) (L' := [(4, .int 0), (3, .int 0), (0, .retAddr 41), (1, .int l), (2, .int r)]) (st' := [.int 3, .int 3]) rfl ?_
            refine At.ic2 (tgt := 102) rfl rfl (fun h => absurd (h.symm.trans (show xcm .ne 3 3 = false by decide)) (by decide)) (fun _ => ?_)
            refine At.go (q := xm147) rfl 2 (pc' := 104) (L' := [(4, .int 0), (3, .int 0), (0, .retAddr 41), (1, .int l), (2, .int r)]) (st' := [.int 0]) rfl ?_
            exact At.rt rfl (xret_i rfl) (by rw [cmb41, if_neg (xntf h1), if_pos h25, if_neg (xntf h26), if_pos h34, if_pos h35])
          · refine At.go (q := xm147) rfl 2 (pc' := 87) (L' := [(4, .int 0), (3, .int 0), (0, .retAddr 41), (1, .int l), (2, .int r)]) (st' := [.int (-1000000000), .int r]) rfl ?_
            refine At.ic2 (tgt := 105) rfl rfl (fun h36 => ?_) (fun h36 => ?_)
            · refine At.go (q := xm147) rfl 2 (pc' := 109) (L' := [(4, .int 0), (3, .int 0), (0, .retAddr 41), (1, .int l), (2, .int r)]) (st' := [.retAddr 41, .retAddr 222]) rfl ?_
              refine At.clp (as := [.retAddr 41]) (rest := [.retAddr 222]) rfl (by decide) rfl (Nat.le_of_ble_eq_true rfl) (Nat.le_of_ble_eq_true rfl) (xrck_k (by decide) (by decide) rfl (by decide)) (Nat.le_of_ble_eq_true rfl) (m_ord41) ?_
              refine At.ak rfl rfl (by decide) rfl (by decide) rfl ?_
              refine At.go (q := xm147) rfl 3 (pc' := 208) (L' := [(4, .int 0), (3, .int 0), (0, .retAddr 41), (1, .int l), (2, .int r)]) (st' := [.int r, .int l]) rfl ?_
              refine At.ic2 (tgt := 215) rfl rfl (fun h37 => ?_) (fun h37 => ?_)
              · refine At.go (q := xm147) rfl 6 (pc' := 311) (L' := [(5, .long 0), (4, .int 0), (3, .int 0), (0, .retAddr 41), (1, .int l), (2, .int r)]) (st' := [.int (lg_cmp 0 (-999999999))]) rfl ?_
                refine At.ic1 (tgt := 323) rfl rfl (fun h38 => ?_) (fun h38 => ?_)
                · refine At.go (q := xm147) rfl 2 (pc' := 331) (L' := [(5, .long 0), (4, .int 0), (3, .int 0), (0, .retAddr 41), (1, .int l), (2, .int r)]) (st' := [.int (-1000000000)]) rfl ?_
                  exact At.rt rfl (xret_i rfl) (by rw [cmb41, if_neg (xntf h1), if_pos h25, if_neg (xntf h26), if_pos h34, if_neg (xntf h35), if_pos h36, if_pos h37, if_pos h38])
                · refine At.go (q := xm147) rfl 3 (pc' := 320) (L' := [(5, .long 0), (4, .int 0), (3, .int 0), (0, .retAddr 41), (1, .int l), (2, .int r)]) (st' := [.int (lg_cmp 0 999999999)]) rfl ?_
                  refine At.ic1 (tgt := 328) rfl rfl (fun h39 => ?_) (fun h39 => ?_)
                  · refine At.go (q := xm147) rfl 2 (pc' := 331) (L' := [(5, .long 0), (4, .int 0), (3, .int 0), (0, .retAddr 41), (1, .int l), (2, .int r)]) (st' := [.int (0 : Int64).toInt32]) rfl ?_
                    exact At.rt rfl (xret_i rfl) (by rw [cmb41, if_neg (xntf h1), if_pos h25, if_neg (xntf h26), if_pos h34, if_neg (xntf h35), if_pos h36, if_pos h37, if_neg (xntf h38), if_pos h39])
                  · refine At.go (q := xm147) rfl 2 (pc' := 331) (L' := [(5, .long 0), (4, .int 0), (3, .int 0), (0, .retAddr 41), (1, .int l), (2, .int r)]) (st' := [.int (-1000000000)]) rfl ?_
                    exact At.rt rfl (xret_i rfl) (by rw [cmb41, if_neg (xntf h1), if_pos h25, if_neg (xntf h26), if_pos h34, if_neg (xntf h35), if_pos h36, if_pos h37, if_neg (xntf h38), if_neg (xntf h39)])
              · refine At.go (q := xm147) rfl 7 (pc' := 311) (L' := [(5, .long 1), (4, .int 0), (3, .int 0), (0, .retAddr 41), (1, .int l), (2, .int r)]) (st' := [.int (lg_cmp 1 (-999999999))]) rfl ?_
                refine At.ic1 (tgt := 323) rfl rfl (fun h40 => ?_) (fun h40 => ?_)
                · refine At.go (q := xm147) rfl 2 (pc' := 331) (L' := [(5, .long 1), (4, .int 0), (3, .int 0), (0, .retAddr 41), (1, .int l), (2, .int r)]) (st' := [.int (-1000000000)]) rfl ?_
                  exact At.rt rfl (xret_i rfl) (by rw [cmb41, if_neg (xntf h1), if_pos h25, if_neg (xntf h26), if_pos h34, if_neg (xntf h35), if_pos h36, if_neg (xntf h37), if_pos h40])
                · refine At.go (q := xm147) rfl 3 (pc' := 320) (L' := [(5, .long 1), (4, .int 0), (3, .int 0), (0, .retAddr 41), (1, .int l), (2, .int r)]) (st' := [.int (lg_cmp 1 999999999)]) rfl ?_
                  refine At.ic1 (tgt := 328) rfl rfl (fun h41 => ?_) (fun h41 => ?_)
                  · refine At.go (q := xm147) rfl 2 (pc' := 331) (L' := [(5, .long 1), (4, .int 0), (3, .int 0), (0, .retAddr 41), (1, .int l), (2, .int r)]) (st' := [.int (1 : Int64).toInt32]) rfl ?_
                    exact At.rt rfl (xret_i rfl) (by rw [cmb41, if_neg (xntf h1), if_pos h25, if_neg (xntf h26), if_pos h34, if_neg (xntf h35), if_pos h36, if_neg (xntf h37), if_neg (xntf h40), if_pos h41])
                  · refine At.go (q := xm147) rfl 2 (pc' := 331) (L' := [(5, .long 1), (4, .int 0), (3, .int 0), (0, .retAddr 41), (1, .int l), (2, .int r)]) (st' := [.int (-1000000000)]) rfl ?_
                    exact At.rt rfl (xret_i rfl) (by rw [cmb41, if_neg (xntf h1), if_pos h25, if_neg (xntf h26), if_pos h34, if_neg (xntf h35), if_pos h36, if_neg (xntf h37), if_neg (xntf h40), if_neg (xntf h41)])
            · refine At.go (q := xm147) rfl 1 (pc' := 91) (L' := [(4, .int 0), (3, .int 0), (0, .retAddr 41), (1, .int l), (2, .int r)]) (st' := [.retAddr 41]) rfl ?_
              refine At.gk rfl (by decide) rfl rfl ?_
              refine At.go (q := xm147) rfl 1 (pc' := 95) (L' := [(4, .int 0), (3, .int 0), (0, .retAddr 41), (1, .int l), (2, .int r)]) (st' := [.int 3, .int 3]) rfl ?_
              refine At.ic2 (tgt := 102) rfl rfl (fun h => absurd (h.symm.trans (show xcm .ne 3 3 = false by decide)) (by decide)) (fun _ => ?_)
              refine At.go (q := xm147) rfl 2 (pc' := 104) (L' := [(4, .int 0), (3, .int 0), (0, .retAddr 41), (1, .int l), (2, .int r)]) (st' := [.int 0]) rfl ?_
              exact At.rt rfl (xret_i rfl) (by rw [cmb41, if_neg (xntf h1), if_pos h25, if_neg (xntf h26), if_pos h34, if_neg (xntf h35), if_neg (xntf h36)])
        · refine At.go (q := xm147) rfl 5 (pc' := 37) (L' := [(4, .int 1), (3, .int 0), (0, .retAddr 41), (1, .int l), (2, .int r)]) (st' := [.retAddr 49, .retAddr 41]) rfl ?_
          refine At.ace (tgt := 47) (b := false) rfl rfl rfl (fun h => absurd h (by decide)) (fun _ => ?_)
          refine At.go (q := xm147) rfl 2 (pc' := 44) (L' := [(4, .int 1), (3, .int 0), (0, .retAddr 41), (1, .int l), (2, .int r)]) (st' := [.retAddr 48, .retAddr 41]) rfl ?_
          refine At.acn (tgt := 78) (b := false) rfl rfl rfl (fun _ => ?_) (fun h => absurd h (by decide))
          refine At.go (q := xm147) rfl 2 (pc' := 81) (L' := [(4, .int 1), (3, .int 0), (0, .retAddr 41), (1, .int l), (2, .int r)]) (st' := [.int (-1000000000), .int l]) rfl ?_
          refine At.ic2 (tgt := 90) rfl rfl (fun h42 => ?_) (fun h42 => ?_)
          · refine At.go (q := xm147) rfl 1 (pc' := 91) (L' := [(4, .int 1), (3, .int 0), (0, .retAddr 41), (1, .int l), (2, .int r)]) (st' := [.retAddr 41]) rfl ?_
            refine At.gk rfl (by decide) rfl rfl ?_
            refine At.go (q := xm147) rfl 1 (pc' := 95) (L' := [(4, .int 1), (3, .int 0), (0, .retAddr 41), (1, .int l), (2, .int r)]) (st' := [.int 3, .int 3]) rfl ?_
            refine At.ic2 (tgt := 102) rfl rfl (fun h => absurd (h.symm.trans (show xcm .ne 3 3 = false by decide)) (by decide)) (fun _ => ?_)
            refine At.go (q := xm147) rfl 2 (pc' := 104) (L' := [(4, .int 1), (3, .int 0), (0, .retAddr 41), (1, .int l), (2, .int r)]) (st' := [.int 0]) rfl ?_
            exact At.rt rfl (xret_i rfl) (by rw [cmb41, if_neg (xntf h1), if_pos h25, if_neg (xntf h26), if_neg (xntf h34), if_pos h42])
          · refine At.go (q := xm147) rfl 2 (pc' := 87) (L' := [(4, .int 1), (3, .int 0), (0, .retAddr 41), (1, .int l), (2, .int r)]) (st' := [.int (-1000000000), .int r]) rfl ?_
            refine At.ic2 (tgt := 105) rfl rfl (fun h43 => ?_) (fun h43 => ?_)
            · refine At.go (q := xm147) rfl 2 (pc' := 109) (L' := [(4, .int 1), (3, .int 0), (0, .retAddr 41), (1, .int l), (2, .int r)]) (st' := [.retAddr 41, .retAddr 222]) rfl ?_
              refine At.clp (as := [.retAddr 41]) (rest := [.retAddr 222]) rfl (by decide) rfl (Nat.le_of_ble_eq_true rfl) (Nat.le_of_ble_eq_true rfl) (xrck_k (by decide) (by decide) rfl (by decide)) (Nat.le_of_ble_eq_true rfl) (m_ord41) ?_
              refine At.ak rfl rfl (by decide) rfl (by decide) rfl ?_
              refine At.go (q := xm147) rfl 3 (pc' := 208) (L' := [(4, .int 1), (3, .int 0), (0, .retAddr 41), (1, .int l), (2, .int r)]) (st' := [.int r, .int l]) rfl ?_
              refine At.ic2 (tgt := 215) rfl rfl (fun h44 => ?_) (fun h44 => ?_)
              · refine At.go (q := xm147) rfl 6 (pc' := 311) (L' := [(5, .long 0), (4, .int 1), (3, .int 0), (0, .retAddr 41), (1, .int l), (2, .int r)]) (st' := [.int (lg_cmp 0 (-999999999))]) rfl ?_
                refine At.ic1 (tgt := 323) rfl rfl (fun h45 => ?_) (fun h45 => ?_)
                · refine At.go (q := xm147) rfl 2 (pc' := 331) (L' := [(5, .long 0), (4, .int 1), (3, .int 0), (0, .retAddr 41), (1, .int l), (2, .int r)]) (st' := [.int (-1000000000)]) rfl ?_
                  exact At.rt rfl (xret_i rfl) (by rw [cmb41, if_neg (xntf h1), if_pos h25, if_neg (xntf h26), if_neg (xntf h34), if_neg (xntf h42), if_pos h43, if_pos h44, if_pos h45])
                · refine At.go (q := xm147) rfl 3 (pc' := 320) (L' := [(5, .long 0), (4, .int 1), (3, .int 0), (0, .retAddr 41), (1, .int l), (2, .int r)]) (st' := [.int (lg_cmp 0 999999999)]) rfl ?_
                  refine At.ic1 (tgt := 328) rfl rfl (fun h46 => ?_) (fun h46 => ?_)
                  · refine At.go (q := xm147) rfl 2 (pc' := 331) (L' := [(5, .long 0), (4, .int 1), (3, .int 0), (0, .retAddr 41), (1, .int l), (2, .int r)]) (st' := [.int (0 : Int64).toInt32]) rfl ?_
                    exact At.rt rfl (xret_i rfl) (by rw [cmb41, if_neg (xntf h1), if_pos h25, if_neg (xntf h26), if_neg (xntf h34), if_neg (xntf h42), if_pos h43, if_pos h44, if_neg (xntf h45), if_pos h46])
                  · refine At.go (q := xm147) rfl 2 (pc' := 331) (L' := [(5, .long 0), (4, .int 1), (3, .int 0), (0, .retAddr 41), (1, .int l), (2, .int r)]) (st' := [.int (-1000000000)]) rfl ?_
                    exact At.rt rfl (xret_i rfl) (by rw [cmb41, if_neg (xntf h1), if_pos h25, if_neg (xntf h26), if_neg (xntf h34), if_neg (xntf h42), if_pos h43, if_pos h44, if_neg (xntf h45), if_neg (xntf h46)])
              · refine At.go (q := xm147) rfl 7 (pc' := 311) (L' := [(5, .long 1), (4, .int 1), (3, .int 0), (0, .retAddr 41), (1, .int l), (2, .int r)]) (st' := [.int (lg_cmp 1 (-999999999))]) rfl ?_
                refine At.ic1 (tgt := 323) rfl rfl (fun h47 => ?_) (fun h47 => ?_)
                · refine At.go (q := xm147) rfl 2 (pc' := 331) (L' := [(5, .long 1), (4, .int 1), (3, .int 0), (0, .retAddr 41), (1, .int l), (2, .int r)]) (st' := [.int (-1000000000)]) rfl ?_
                  exact At.rt rfl (xret_i rfl) (by rw [cmb41, if_neg (xntf h1), if_pos h25, if_neg (xntf h26), if_neg (xntf h34), if_neg (xntf h42), if_pos h43, if_neg (xntf h44), if_pos h47])
                · refine At.go (q := xm147) rfl 3 (pc' := 320) (L' := [(5, .long 1), (4, .int 1), (3, .int 0), (0, .retAddr 41), (1, .int l), (2, .int r)]) (st' := [.int (lg_cmp 1 999999999)]) rfl ?_
                  refine At.ic1 (tgt := 328) rfl rfl (fun h48 => ?_) (fun h48 => ?_)
                  · refine At.go (q := xm147) rfl 2 (pc' := 331) (L' := [(5, .long 1), (4, .int 1), (3, .int 0), (0, .retAddr 41), (1, .int l), (2, .int r)]) (st' := [.int (1 : Int64).toInt32]) rfl ?_
                    exact At.rt rfl (xret_i rfl) (by rw [cmb41, if_neg (xntf h1), if_pos h25, if_neg (xntf h26), if_neg (xntf h34), if_neg (xntf h42), if_pos h43, if_neg (xntf h44), if_neg (xntf h47), if_pos h48])
                  · refine At.go (q := xm147) rfl 2 (pc' := 331) (L' := [(5, .long 1), (4, .int 1), (3, .int 0), (0, .retAddr 41), (1, .int l), (2, .int r)]) (st' := [.int (-1000000000)]) rfl ?_
                    exact At.rt rfl (xret_i rfl) (by rw [cmb41, if_neg (xntf h1), if_pos h25, if_neg (xntf h26), if_neg (xntf h34), if_neg (xntf h42), if_pos h43, if_neg (xntf h44), if_neg (xntf h47), if_neg (xntf h48)])
            · refine At.go (q := xm147) rfl 1 (pc' := 91) (L' := [(4, .int 1), (3, .int 0), (0, .retAddr 41), (1, .int l), (2, .int r)]) (st' := [.retAddr 41]) rfl ?_
              refine At.gk rfl (by decide) rfl rfl ?_
              refine At.go (q := xm147) rfl 1 (pc' := 95) (L' := [(4, .int 1), (3, .int 0), (0, .retAddr 41), (1, .int l), (2, .int r)]) (st' := [.int 3, .int 3]) rfl ?_
              refine At.ic2 (tgt := 102) rfl rfl (fun h => absurd (h.symm.trans (show xcm .ne 3 3 = false by decide)) (by decide)) (fun _ => ?_)
              refine At.go (q := xm147) rfl 2 (pc' := 104) (L' := [(4, .int 1), (3, .int 0), (0, .retAddr 41), (1, .int l), (2, .int r)]) (st' := [.int 0]) rfl ?_
              exact At.rt rfl (xret_i rfl) (by rw [cmb41, if_neg (xntf h1), if_pos h25, if_neg (xntf h26), if_neg (xntf h34), if_neg (xntf h42), if_neg (xntf h43)])
    · refine At.go (q := xm147) rfl 5 (pc' := 19) (L' := [(3, .int 1), (0, .retAddr 41), (1, .int l), (2, .int r)]) (st' := [.int (-1000000000), .int r]) rfl ?_
      refine At.ic2 (tgt := 30) rfl rfl (fun h49 => ?_) (fun h49 => ?_)
      · refine At.go (q := xm147) rfl 4 (pc' := 37) (L' := [(4, .int 0), (3, .int 1), (0, .retAddr 41), (1, .int l), (2, .int r)]) (st' := [.retAddr 49, .retAddr 41]) rfl ?_
        refine At.ace (tgt := 47) (b := false) rfl rfl rfl (fun h => absurd h (by decide)) (fun _ => ?_)
        refine At.go (q := xm147) rfl 2 (pc' := 44) (L' := [(4, .int 0), (3, .int 1), (0, .retAddr 41), (1, .int l), (2, .int r)]) (st' := [.retAddr 48, .retAddr 41]) rfl ?_
        refine At.acn (tgt := 78) (b := false) rfl rfl rfl (fun _ => ?_) (fun h => absurd h (by decide))
        refine At.go (q := xm147) rfl 2 (pc' := 81) (L' := [(4, .int 0), (3, .int 1), (0, .retAddr 41), (1, .int l), (2, .int r)]) (st' := [.int (-1000000000), .int l]) rfl ?_
        refine At.ic2 (tgt := 90) rfl rfl (fun h50 => ?_) (fun h50 => ?_)
        · refine At.go (q := xm147) rfl 1 (pc' := 91) (L' := [(4, .int 0), (3, .int 1), (0, .retAddr 41), (1, .int l), (2, .int r)]) (st' := [.retAddr 41]) rfl ?_
          refine At.gk rfl (by decide) rfl rfl ?_
          refine At.go (q := xm147) rfl 1 (pc' := 95) (L' := [(4, .int 0), (3, .int 1), (0, .retAddr 41), (1, .int l), (2, .int r)]) (st' := [.int 3, .int 3]) rfl ?_
          refine At.ic2 (tgt := 102) rfl rfl (fun h => absurd (h.symm.trans (show xcm .ne 3 3 = false by decide)) (by decide)) (fun _ => ?_)
          refine At.go (q := xm147) rfl 2 (pc' := 104) (L' := [(4, .int 0), (3, .int 1), (0, .retAddr 41), (1, .int l), (2, .int r)]) (st' := [.int 0]) rfl ?_
          exact At.rt rfl (xret_i rfl) (by rw [cmb41, if_neg (xntf h1), if_neg (xntf h25), if_pos h49, if_pos h50])
        · refine At.go (q := xm147) rfl 2 (pc' := 87) (L' := [(4, .int 0), (3, .int 1), (0, .retAddr 41), (1, .int l), (2, .int r)]) (st' := [.int (-1000000000), .int r]) rfl ?_
          refine At.ic2 (tgt := 105) rfl rfl (fun h51 => ?_) (fun h51 => ?_)
          · refine At.go (q := xm147) rfl 2 (pc' := 109) (L' := [(4, .int 0), (3, .int 1), (0, .retAddr 41), (1, .int l), (2, .int r)]) (st' := [.retAddr 41, .retAddr 222]) rfl ?_
            refine At.clp (as := [.retAddr 41]) (rest := [.retAddr 222]) rfl (by decide) rfl (Nat.le_of_ble_eq_true rfl) (Nat.le_of_ble_eq_true rfl) (xrck_k (by decide) (by decide) rfl (by decide)) (Nat.le_of_ble_eq_true rfl) (m_ord41) ?_
            refine At.ak rfl rfl (by decide) rfl (by decide) rfl ?_
            refine At.go (q := xm147) rfl 3 (pc' := 208) (L' := [(4, .int 0), (3, .int 1), (0, .retAddr 41), (1, .int l), (2, .int r)]) (st' := [.int r, .int l]) rfl ?_
            refine At.ic2 (tgt := 215) rfl rfl (fun h52 => ?_) (fun h52 => ?_)
            · refine At.go (q := xm147) rfl 6 (pc' := 311) (L' := [(5, .long 0), (4, .int 0), (3, .int 1), (0, .retAddr 41), (1, .int l), (2, .int r)]) (st' := [.int (lg_cmp 0 (-999999999))]) rfl ?_
              refine At.ic1 (tgt := 323) rfl rfl (fun h53 => ?_) (fun h53 => ?_)
              · refine At.go (q := xm147) rfl 2 (pc' := 331) (L' := [(5, .long 0), (4, .int 0), (3, .int 1), (0, .retAddr 41), (1, .int l), (2, .int r)]) (st' := [.int (-1000000000)]) rfl ?_
                exact At.rt rfl (xret_i rfl) (by rw [cmb41, if_neg (xntf h1), if_neg (xntf h25), if_pos h49, if_neg (xntf h50), if_pos h51, if_pos h52, if_pos h53])
              · refine At.go (q := xm147) rfl 3 (pc' := 320) (L' := [(5, .long 0), (4, .int 0), (3, .int 1), (0, .retAddr 41), (1, .int l), (2, .int r)]) (st' := [.int (lg_cmp 0 999999999)]) rfl ?_
                refine At.ic1 (tgt := 328) rfl rfl (fun h54 => ?_) (fun h54 => ?_)
                · refine At.go (q := xm147) rfl 2 (pc' := 331) (L' := [(5, .long 0), (4, .int 0), (3, .int 1), (0, .retAddr 41), (1, .int l), (2, .int r)]) (st' := [.int (0 : Int64).toInt32]) rfl ?_
                  exact At.rt rfl (xret_i rfl) (by rw [cmb41, if_neg (xntf h1), if_neg (xntf h25), if_pos h49, if_neg (xntf h50), if_pos h51, if_pos h52, if_neg (xntf h53), if_pos h54])
                · refine At.go (q := xm147) rfl 2 (pc' := 331) (L' := [(5, .long 0), (4, .int 0), (3, .int 1), (0, .retAddr 41), (1, .int l), (2, .int r)]) (st' := [.int (-1000000000)]) rfl ?_
                  exact At.rt rfl (xret_i rfl) (by rw [cmb41, if_neg (xntf h1), if_neg (xntf h25), if_pos h49, if_neg (xntf h50), if_pos h51, if_pos h52, if_neg (xntf h53), if_neg (xntf h54)])
            · refine At.go (q := xm147) rfl 7 (pc' := 311) (L' := [(5, .long 1), (4, .int 0), (3, .int 1), (0, .retAddr 41), (1, .int l), (2, .int r)]) (st' := [.int (lg_cmp 1 (-999999999))]) rfl ?_
              refine At.ic1 (tgt := 323) rfl rfl (fun h55 => ?_) (fun h55 => ?_)
              · refine At.go (q := xm147) rfl 2 (pc' := 331) (L' := [(5, .long 1), (4, .int 0), (3, .int 1), (0, .retAddr 41), (1, .int l), (2, .int r)]) (st' := [.int (-1000000000)]) rfl ?_
                exact At.rt rfl (xret_i rfl) (by rw [cmb41, if_neg (xntf h1), if_neg (xntf h25), if_pos h49, if_neg (xntf h50), if_pos h51, if_neg (xntf h52), if_pos h55])
              · refine At.go (q := xm147) rfl 3 (pc' := 320) (L' := [(5, .long 1), (4, .int 0), (3, .int 1), (0, .retAddr 41), (1, .int l), (2, .int r)]) (st' := [.int (lg_cmp 1 999999999)]) rfl ?_
                refine At.ic1 (tgt := 328) rfl rfl (fun h56 => ?_) (fun h56 => ?_)
                · refine At.go (q := xm147) rfl 2 (pc' := 331) (L' := [(5, .long 1), (4, .int 0), (3, .int 1), (0, .retAddr 41), (1, .int l), (2, .int r)]) (st' := [.int (1 : Int64).toInt32]) rfl ?_
                  exact At.rt rfl (xret_i rfl) (by rw [cmb41, if_neg (xntf h1), if_neg (xntf h25), if_pos h49, if_neg (xntf h50), if_pos h51, if_neg (xntf h52), if_neg (xntf h55), if_pos h56])
                · refine At.go (q := xm147) rfl 2 (pc' := 331) (L' := [(5, .long 1), (4, .int 0), (3, .int 1), (0, .retAddr 41), (1, .int l), (2, .int r)]) (st' := [.int (-1000000000)]) rfl ?_
                  exact At.rt rfl (xret_i rfl) (by rw [cmb41, if_neg (xntf h1), if_neg (xntf h25), if_pos h49, if_neg (xntf h50), if_pos h51, if_neg (xntf h52), if_neg (xntf h55), if_neg (xntf h56)])
          · refine At.go (q := xm147) rfl 1 (pc' := 91) (L' := [(4, .int 0), (3, .int 1), (0, .retAddr 41), (1, .int l), (2, .int r)]) (st' := [.retAddr 41]) rfl ?_
            refine At.gk rfl (by decide) rfl rfl ?_
            refine At.go (q := xm147) rfl 1 (pc' := 95) (L' := [(4, .int 0), (3, .int 1), (0, .retAddr 41), (1, .int l), (2, .int r)]) (st' := [.int 3, .int 3]) rfl ?_
            refine At.ic2 (tgt := 102) rfl rfl (fun h => absurd (h.symm.trans (show xcm .ne 3 3 = false by decide)) (by decide)) (fun _ => ?_)
            refine At.go (q := xm147) rfl 2 (pc' := 104) (L' := [(4, .int 0), (3, .int 1), (0, .retAddr 41), (1, .int l), (2, .int r)]) (st' := [.int 0]) rfl ?_
            exact At.rt rfl (xret_i rfl) (by rw [cmb41, if_neg (xntf h1), if_neg (xntf h25), if_pos h49, if_neg (xntf h50), if_neg (xntf h51)])
      · refine At.go (q := xm147) rfl 1 (pc' := 23) (L' := [(3, .int 1), (0, .retAddr 41), (1, .int l), (2, .int r)]) (st' := [.int r]) rfl ?_
        refine At.ic1 (tgt := 30) rfl rfl (fun h57 => ?_) (fun h57 => ?_)
        · refine At.go (q := xm147) rfl 4 (pc' := 37) (L' := [(4, .int 0), (3, .int 1), (0, .retAddr 41), (1, .int l), (2, .int r)]) (st' := [.retAddr 49, .retAddr 41]) rfl ?_
          refine At.ace (tgt := 47) (b := false) rfl rfl rfl (fun h => absurd h (by decide)) (fun _ => ?_)
          refine At.go (q := xm147) rfl 2 (pc' := 44) (L' := [(4, .int 0), (3, .int 1), (0, .retAddr 41), (1, .int l), (2, .int r)]) (st' := [.retAddr 48, .retAddr 41]) rfl ?_
          refine At.acn (tgt := 78) (b := false) rfl rfl rfl (fun _ => ?_) (fun h => absurd h (by decide))
          refine At.go (q := xm147) rfl 2 (pc' := 81) (L' := [(4, .int 0), (3, .int 1), (0, .retAddr 41), (1, .int l), (2, .int r)]) (st' := [.int (-1000000000), .int l]) rfl ?_
          refine At.ic2 (tgt := 90) rfl rfl (fun h58 => ?_) (fun h58 => ?_)
          · refine At.go (q := xm147) rfl 1 (pc' := 91) (L' := [(4, .int 0), (3, .int 1), (0, .retAddr 41), (1, .int l), (2, .int r)]) (st' := [.retAddr 41]) rfl ?_
            refine At.gk rfl (by decide) rfl rfl ?_
            refine At.go (q := xm147) rfl 1 (pc' := 95) (L' := [(4, .int 0), (3, .int 1), (0, .retAddr 41), (1, .int l), (2, .int r)]) (st' := [.int 3, .int 3]) rfl ?_
            refine At.ic2 (tgt := 102) rfl rfl (fun h => absurd (h.symm.trans (show xcm .ne 3 3 = false by decide)) (by decide)) (fun _ => ?_)
            refine At.go (q := xm147) rfl 2 (pc' := 104) (L' := [(4, .int 0), (3, .int 1), (0, .retAddr 41), (1, .int l), (2, .int r)]) (st' := [.int 0]) rfl ?_
            exact At.rt rfl (xret_i rfl) (by rw [cmb41, if_neg (xntf h1), if_neg (xntf h25), if_neg (xntf h49), if_pos h57, if_pos h58])
          · refine At.go (q := xm147) rfl 2 (pc' := 87) (L' := [(4, .int 0), (3, .int 1), (0, .retAddr 41), (1, .int l), (2, .int r)]) (st' := [.int (-1000000000), .int r]) rfl ?_
            refine At.ic2 (tgt := 105) rfl rfl (fun h59 => ?_) (fun h59 => ?_)
            · refine At.go (q := xm147) rfl 2 (pc' := 109) (L' := [(4, .int 0), (3, .int 1), (0, .retAddr 41), (1, .int l), (2, .int r)]) (st' := [.retAddr 41, .retAddr 222]) rfl ?_
              refine At.clp (as := [.retAddr 41]) (rest := [.retAddr 222]) rfl (by decide) rfl (Nat.le_of_ble_eq_true rfl) (Nat.le_of_ble_eq_true rfl) (xrck_k (by decide) (by decide) rfl (by decide)) (Nat.le_of_ble_eq_true rfl) (m_ord41) ?_
              refine At.ak rfl rfl (by decide) rfl (by decide) rfl ?_
              refine At.go (q := xm147) rfl 3 (pc' := 208) (L' := [(4, .int 0), (3, .int 1), (0, .retAddr 41), (1, .int l), (2, .int r)]) (st' := [.int r, .int l]) rfl ?_
              refine At.ic2 (tgt := 215) rfl rfl (fun h60 => ?_) (fun h60 => ?_)
              · refine At.go (q := xm147) rfl 6 (pc' := 311) (L' := [(5, .long 0), (4, .int 0), (3, .int 1), (0, .retAddr 41), (1, .int l), (2, .int r)]) (st' := [.int (lg_cmp 0 (-999999999))]) rfl ?_
                refine At.ic1 (tgt := 323) rfl rfl (fun h61 => ?_) (fun h61 => ?_)
                · refine At.go (q := xm147) rfl 2 (pc' := 331) (L' := [(5, .long 0), (4, .int 0), (3, .int 1), (0, .retAddr 41), (1, .int l), (2, .int r)]) (st' := [.int (-1000000000)]) rfl ?_
                  exact At.rt rfl (xret_i rfl) (by rw [cmb41, if_neg (xntf h1), if_neg (xntf h25), if_neg (xntf h49), if_pos h57, if_neg (xntf h58), if_pos h59, if_pos h60, if_pos h61])
                · refine At.go (q := xm147) rfl 3 (pc' := 320) (L' := [(5, .long 0), (4, .int 0), (3, .int 1), (0, .retAddr 41), (1, .int l), (2, .int r)]) (st' := [.int (lg_cmp 0 999999999)]) rfl ?_
                  refine At.ic1 (tgt := 328) rfl rfl (fun h62 => ?_) (fun h62 => ?_)
                  · refine At.go (q := xm147) rfl 2 (pc' := 331) (L' := [(5, .long 0), (4, .int 0), (3, .int 1), (0, .retAddr 41), (1, .int l), (2, .int r)]) (st' := [.int (0 : Int64).toInt32]) rfl ?_
                    exact At.rt rfl (xret_i rfl) (by rw [cmb41, if_neg (xntf h1), if_neg (xntf h25), if_neg (xntf h49), if_pos h57, if_neg (xntf h58), if_pos h59, if_pos h60, if_neg (xntf h61), if_pos h62])
                  · refine At.go (q := xm147) rfl 2 (pc' := 331) (L' := [(5, .long 0), (4, .int 0), (3, .int 1), (0, .retAddr 41), (1, .int l), (2, .int r)]) (st' := [.int (-1000000000)]) rfl ?_
                    exact At.rt rfl (xret_i rfl) (by rw [cmb41, if_neg (xntf h1), if_neg (xntf h25), if_neg (xntf h49), if_pos h57, if_neg (xntf h58), if_pos h59, if_pos h60, if_neg (xntf h61), if_neg (xntf h62)])
              · refine At.go (q := xm147) rfl 7 (pc' := 311) (L' := [(5, .long 1), (4, .int 0), (3, .int 1), (0, .retAddr 41), (1, .int l), (2, .int r)]) (st' := [.int (lg_cmp 1 (-999999999))]) rfl ?_
                refine At.ic1 (tgt := 323) rfl rfl (fun h63 => ?_) (fun h63 => ?_)
                · refine At.go (q := xm147) rfl 2 (pc' := 331) (L' := [(5, .long 1), (4, .int 0), (3, .int 1), (0, .retAddr 41), (1, .int l), (2, .int r)]) (st' := [.int (-1000000000)]) rfl ?_
                  exact At.rt rfl (xret_i rfl) (by rw [cmb41, if_neg (xntf h1), if_neg (xntf h25), if_neg (xntf h49), if_pos h57, if_neg (xntf h58), if_pos h59, if_neg (xntf h60), if_pos h63])
                · refine At.go (q := xm147) rfl 3 (pc' := 320) (L' := [(5, .long 1), (4, .int 0), (3, .int 1), (0, .retAddr 41), (1, .int l), (2, .int r)]) (st' := [.int (lg_cmp 1 999999999)]) rfl ?_
                  refine At.ic1 (tgt := 328) rfl rfl (fun h64 => ?_) (fun h64 => ?_)
                  · refine At.go (q := xm147) rfl 2 (pc' := 331) (L' := [(5, .long 1), (4, .int 0), (3, .int 1), (0, .retAddr 41), (1, .int l), (2, .int r)]) (st' := [.int (1 : Int64).toInt32]) rfl ?_
                    exact At.rt rfl (xret_i rfl) (by rw [cmb41, if_neg (xntf h1), if_neg (xntf h25), if_neg (xntf h49), if_pos h57, if_neg (xntf h58), if_pos h59, if_neg (xntf h60), if_neg (xntf h63), if_pos h64])
                  · refine At.go (q := xm147) rfl 2 (pc' := 331) (L' := [(5, .long 1), (4, .int 0), (3, .int 1), (0, .retAddr 41), (1, .int l), (2, .int r)]) (st' := [.int (-1000000000)]) rfl ?_
                    exact At.rt rfl (xret_i rfl) (by rw [cmb41, if_neg (xntf h1), if_neg (xntf h25), if_neg (xntf h49), if_pos h57, if_neg (xntf h58), if_pos h59, if_neg (xntf h60), if_neg (xntf h63), if_neg (xntf h64)])
            · refine At.go (q := xm147) rfl 1 (pc' := 91) (L' := [(4, .int 0), (3, .int 1), (0, .retAddr 41), (1, .int l), (2, .int r)]) (st' := [.retAddr 41]) rfl ?_
              refine At.gk rfl (by decide) rfl rfl ?_
              refine At.go (q := xm147) rfl 1 (pc' := 95) (L' := [(4, .int 0), (3, .int 1), (0, .retAddr 41), (1, .int l), (2, .int r)]) (st' := [.int 3, .int 3]) rfl ?_
              refine At.ic2 (tgt := 102) rfl rfl (fun h => absurd (h.symm.trans (show xcm .ne 3 3 = false by decide)) (by decide)) (fun _ => ?_)
              refine At.go (q := xm147) rfl 2 (pc' := 104) (L' := [(4, .int 0), (3, .int 1), (0, .retAddr 41), (1, .int l), (2, .int r)]) (st' := [.int 0]) rfl ?_
              exact At.rt rfl (xret_i rfl) (by rw [cmb41, if_neg (xntf h1), if_neg (xntf h25), if_neg (xntf h49), if_pos h57, if_neg (xntf h58), if_neg (xntf h59)])
        · refine At.go (q := xm147) rfl 5 (pc' := 37) (L' := [(4, .int 1), (3, .int 1), (0, .retAddr 41), (1, .int l), (2, .int r)]) (st' := [.retAddr 49, .retAddr 41]) rfl ?_
          refine At.ace (tgt := 47) (b := false) rfl rfl rfl (fun h => absurd h (by decide)) (fun _ => ?_)
          refine At.go (q := xm147) rfl 2 (pc' := 44) (L' := [(4, .int 1), (3, .int 1), (0, .retAddr 41), (1, .int l), (2, .int r)]) (st' := [.retAddr 48, .retAddr 41]) rfl ?_
          refine At.acn (tgt := 78) (b := false) rfl rfl rfl (fun _ => ?_) (fun h => absurd h (by decide))
          refine At.go (q := xm147) rfl 2 (pc' := 81) (L' := [(4, .int 1), (3, .int 1), (0, .retAddr 41), (1, .int l), (2, .int r)]) (st' := [.int (-1000000000), .int l]) rfl ?_
          refine At.ic2 (tgt := 90) rfl rfl (fun h65 => ?_) (fun h65 => ?_)
          · refine At.go (q := xm147) rfl 1 (pc' := 91) (L' := [(4, .int 1), (3, .int 1), (0, .retAddr 41), (1, .int l), (2, .int r)]) (st' := [.retAddr 41]) rfl ?_
            refine At.gk rfl (by decide) rfl rfl ?_
            refine At.go (q := xm147) rfl 1 (pc' := 95) (L' := [(4, .int 1), (3, .int 1), (0, .retAddr 41), (1, .int l), (2, .int r)]) (st' := [.int 3, .int 3]) rfl ?_
            refine At.ic2 (tgt := 102) rfl rfl (fun h => absurd (h.symm.trans (show xcm .ne 3 3 = false by decide)) (by decide)) (fun _ => ?_)
            refine At.go (q := xm147) rfl 2 (pc' := 104) (L' := [(4, .int 1), (3, .int 1), (0, .retAddr 41), (1, .int l), (2, .int r)]) (st' := [.int 0]) rfl ?_
            exact At.rt rfl (xret_i rfl) (by rw [cmb41, if_neg (xntf h1), if_neg (xntf h25), if_neg (xntf h49), if_neg (xntf h57), if_pos h65])
          · refine At.go (q := xm147) rfl 2 (pc' := 87) (L' := [(4, .int 1), (3, .int 1), (0, .retAddr 41), (1, .int l), (2, .int r)]) (st' := [.int (-1000000000), .int r]) rfl ?_
            refine At.ic2 (tgt := 105) rfl rfl (fun h66 => ?_) (fun h66 => ?_)
            · refine At.go (q := xm147) rfl 2 (pc' := 109) (L' := [(4, .int 1), (3, .int 1), (0, .retAddr 41), (1, .int l), (2, .int r)]) (st' := [.retAddr 41, .retAddr 222]) rfl ?_
              refine At.clp (as := [.retAddr 41]) (rest := [.retAddr 222]) rfl (by decide) rfl (Nat.le_of_ble_eq_true rfl) (Nat.le_of_ble_eq_true rfl) (xrck_k (by decide) (by decide) rfl (by decide)) (Nat.le_of_ble_eq_true rfl) (m_ord41) ?_
              refine At.ak rfl rfl (by decide) rfl (by decide) rfl ?_
              refine At.go (q := xm147) rfl 3 (pc' := 208) (L' := [(4, .int 1), (3, .int 1), (0, .retAddr 41), (1, .int l), (2, .int r)]) (st' := [.int r, .int l]) rfl ?_
              refine At.ic2 (tgt := 215) rfl rfl (fun h67 => ?_) (fun h67 => ?_)
              · refine At.go (q := xm147) rfl 6 (pc' := 311) (L' := [(5, .long 0), (4, .int 1), (3, .int 1), (0, .retAddr 41), (1, .int l), (2, .int r)]) (st' := [.int (lg_cmp 0 (-999999999))]) rfl ?_
                refine At.ic1 (tgt := 323) rfl rfl (fun h68 => ?_) (fun h68 => ?_)
                · refine At.go (q := xm147) rfl 2 (pc' := 331) (L' := [(5, .long 0), (4, .int 1), (3, .int 1), (0, .retAddr 41), (1, .int l), (2, .int r)]) (st' := [.int (-1000000000)]) rfl ?_
                  exact At.rt rfl (xret_i rfl) (by rw [cmb41, if_neg (xntf h1), if_neg (xntf h25), if_neg (xntf h49), if_neg (xntf h57), if_neg (xntf h65), if_pos h66, if_pos h67, if_pos h68])
                · refine At.go (q := xm147) rfl 3 (pc' := 320) (L' := [(5, .long 0), (4, .int 1), (3, .int 1), (0, .retAddr 41), (1, .int l), (2, .int r)]) (st' := [.int (lg_cmp 0 999999999)]) rfl ?_
                  refine At.ic1 (tgt := 328) rfl rfl (fun h69 => ?_) (fun h69 => ?_)
                  · refine At.go (q := xm147) rfl 2 (pc' := 331) (L' := [(5, .long 0), (4, .int 1), (3, .int 1), (0, .retAddr 41), (1, .int l), (2, .int r)]) (st' := [.int (0 : Int64).toInt32]) rfl ?_
                    exact At.rt rfl (xret_i rfl) (by rw [cmb41, if_neg (xntf h1), if_neg (xntf h25), if_neg (xntf h49), if_neg (xntf h57), if_neg (xntf h65), if_pos h66, if_pos h67, if_neg (xntf h68), if_pos h69])
                  · refine At.go (q := xm147) rfl 2 (pc' := 331) (L' := [(5, .long 0), (4, .int 1), (3, .int 1), (0, .retAddr 41), (1, .int l), (2, .int r)]) (st' := [.int (-1000000000)]) rfl ?_
                    exact At.rt rfl (xret_i rfl) (by rw [cmb41, if_neg (xntf h1), if_neg (xntf h25), if_neg (xntf h49), if_neg (xntf h57), if_neg (xntf h65), if_pos h66, if_pos h67, if_neg (xntf h68), if_neg (xntf h69)])
              · refine At.go (q := xm147) rfl 7 (pc' := 311) (L' := [(5, .long 1), (4, .int 1), (3, .int 1), (0, .retAddr 41), (1, .int l), (2, .int r)]) (st' := [.int (lg_cmp 1 (-999999999))]) rfl ?_
                refine At.ic1 (tgt := 323) rfl rfl (fun h70 => ?_) (fun h70 => ?_)
                · refine At.go (q := xm147) rfl 2 (pc' := 331) (L' := [(5, .long 1), (4, .int 1), (3, .int 1), (0, .retAddr 41), (1, .int l), (2, .int r)]) (st' := [.int (-1000000000)]) rfl ?_
                  exact At.rt rfl (xret_i rfl) (by rw [cmb41, if_neg (xntf h1), if_neg (xntf h25), if_neg (xntf h49), if_neg (xntf h57), if_neg (xntf h65), if_pos h66, if_neg (xntf h67), if_pos h70])
                · refine At.go (q := xm147) rfl 3 (pc' := 320) (L' := [(5, .long 1), (4, .int 1), (3, .int 1), (0, .retAddr 41), (1, .int l), (2, .int r)]) (st' := [.int (lg_cmp 1 999999999)]) rfl ?_
                  refine At.ic1 (tgt := 328) rfl rfl (fun h71 => ?_) (fun h71 => ?_)
                  · refine At.go (q := xm147) rfl 2 (pc' := 331) (L' := [(5, .long 1), (4, .int 1), (3, .int 1), (0, .retAddr 41), (1, .int l), (2, .int r)]) (st' := [.int (1 : Int64).toInt32]) rfl ?_
                    exact At.rt rfl (xret_i rfl) (by rw [cmb41, if_neg (xntf h1), if_neg (xntf h25), if_neg (xntf h49), if_neg (xntf h57), if_neg (xntf h65), if_pos h66, if_neg (xntf h67), if_neg (xntf h70), if_pos h71])
                  · refine At.go (q := xm147) rfl 2 (pc' := 331) (L' := [(5, .long 1), (4, .int 1), (3, .int 1), (0, .retAddr 41), (1, .int l), (2, .int r)]) (st' := [.int (-1000000000)]) rfl ?_
                    exact At.rt rfl (xret_i rfl) (by rw [cmb41, if_neg (xntf h1), if_neg (xntf h25), if_neg (xntf h49), if_neg (xntf h57), if_neg (xntf h65), if_pos h66, if_neg (xntf h67), if_neg (xntf h70), if_neg (xntf h71)])
            · refine At.go (q := xm147) rfl 1 (pc' := 91) (L' := [(4, .int 1), (3, .int 1), (0, .retAddr 41), (1, .int l), (2, .int r)]) (st' := [.retAddr 41]) rfl ?_
              refine At.gk rfl (by decide) rfl rfl ?_
              refine At.go (q := xm147) rfl 1 (pc' := 95) (L' := [(4, .int 1), (3, .int 1), (0, .retAddr 41), (1, .int l), (2, .int r)]) (st' := [.int 3, .int 3]) rfl ?_
              refine At.ic2 (tgt := 102) rfl rfl (fun h => absurd (h.symm.trans (show xcm .ne 3 3 = false by decide)) (by decide)) (fun _ => ?_)
              refine At.go (q := xm147) rfl 2 (pc' := 104) (L' := [(4, .int 1), (3, .int 1), (0, .retAddr 41), (1, .int l), (2, .int r)]) (st' := [.int 0]) rfl ?_
              exact At.rt rfl (xret_i rfl) (by rw [cmb41, if_neg (xntf h1), if_neg (xntf h25), if_neg (xntf h49), if_neg (xntf h57), if_neg (xntf h65), if_neg (xntf h66)])
theorem m_ord42 {S : List Int32} {hp : List XC} : Pu S 0 54 [.retAddr 42] hp (.int 42) := by
  refine At.go (q := xm54) rfl 1 (pc' := 1) (L' := [(0, .retAddr 42)]) (st' := [.retAddr 42]) rfl ?_
  refine At.gk rfl (by decide) rfl rfl ?_
  exact At.rt rfl (xret_i rfl) rfl
def cmb42 (l r : Int32) : Int32 := (if xcm .eq l (-1000000000) = true then (if xcm .eq r (-1000000000) = true then (if xcm .eq l (-1000000000) = true then 0 else (if xcm .ne r (-1000000000) = true then (if xcm .le l r = true then (if xcm .lt (lg_cmp 0 (-999999999)) 0 = true then (-1000000000) else (if xcm .le (lg_cmp 0 999999999) 0 = true then (0 : Int64).toInt32 else (-1000000000))) else (if xcm .lt (lg_cmp 1 (-999999999)) 0 = true then (-1000000000) else (if xcm .le (lg_cmp 1 999999999) 0 = true then (1 : Int64).toInt32 else (-1000000000)))) else 0)) else (if xcm .eq r 0 = true then (if xcm .eq l (-1000000000) = true then 0 else (if xcm .ne r (-1000000000) = true then (if xcm .le l r = true then (if xcm .lt (lg_cmp 0 (-999999999)) 0 = true then (-1000000000) else (if xcm .le (lg_cmp 0 999999999) 0 = true then (0 : Int64).toInt32 else (-1000000000))) else (if xcm .lt (lg_cmp 1 (-999999999)) 0 = true then (-1000000000) else (if xcm .le (lg_cmp 1 999999999) 0 = true then (1 : Int64).toInt32 else (-1000000000)))) else 0)) else (if xcm .eq l (-1000000000) = true then 0 else (if xcm .ne r (-1000000000) = true then (if xcm .le l r = true then (if xcm .lt (lg_cmp 0 (-999999999)) 0 = true then (-1000000000) else (if xcm .le (lg_cmp 0 999999999) 0 = true then (0 : Int64).toInt32 else (-1000000000))) else (if xcm .lt (lg_cmp 1 (-999999999)) 0 = true then (-1000000000) else (if xcm .le (lg_cmp 1 999999999) 0 = true then (1 : Int64).toInt32 else (-1000000000)))) else 0)))) else (if xcm .eq l 0 = true then (if xcm .eq r (-1000000000) = true then (if xcm .eq l (-1000000000) = true then 0 else (if xcm .ne r (-1000000000) = true then (if xcm .le l r = true then (if xcm .lt (lg_cmp 0 (-999999999)) 0 = true then (-1000000000) else (if xcm .le (lg_cmp 0 999999999) 0 = true then (0 : Int64).toInt32 else (-1000000000))) else (if xcm .lt (lg_cmp 1 (-999999999)) 0 = true then (-1000000000) else (if xcm .le (lg_cmp 1 999999999) 0 = true then (1 : Int64).toInt32 else (-1000000000)))) else 0)) else (if xcm .eq r 0 = true then (if xcm .eq l (-1000000000) = true then 0 else (if xcm .ne r (-1000000000) = true then (if xcm .le l r = true then (if xcm .lt (lg_cmp 0 (-999999999)) 0 = true then (-1000000000) else (if xcm .le (lg_cmp 0 999999999) 0 = true then (0 : Int64).toInt32 else (-1000000000))) else (if xcm .lt (lg_cmp 1 (-999999999)) 0 = true then (-1000000000) else (if xcm .le (lg_cmp 1 999999999) 0 = true then (1 : Int64).toInt32 else (-1000000000)))) else 0)) else (if xcm .eq l (-1000000000) = true then 0 else (if xcm .ne r (-1000000000) = true then (if xcm .le l r = true then (if xcm .lt (lg_cmp 0 (-999999999)) 0 = true then (-1000000000) else (if xcm .le (lg_cmp 0 999999999) 0 = true then (0 : Int64).toInt32 else (-1000000000))) else (if xcm .lt (lg_cmp 1 (-999999999)) 0 = true then (-1000000000) else (if xcm .le (lg_cmp 1 999999999) 0 = true then (1 : Int64).toInt32 else (-1000000000)))) else 0)))) else (if xcm .eq r (-1000000000) = true then (if xcm .eq l (-1000000000) = true then 0 else (if xcm .ne r (-1000000000) = true then (if xcm .le l r = true then (if xcm .lt (lg_cmp 0 (-999999999)) 0 = true then (-1000000000) else (if xcm .le (lg_cmp 0 999999999) 0 = true then (0 : Int64).toInt32 else (-1000000000))) else (if xcm .lt (lg_cmp 1 (-999999999)) 0 = true then (-1000000000) else (if xcm .le (lg_cmp 1 999999999) 0 = true then (1 : Int64).toInt32 else (-1000000000)))) else 0)) else (if xcm .eq r 0 = true then (if xcm .eq l (-1000000000) = true then 0 else (if xcm .ne r (-1000000000) = true then (if xcm .le l r = true then (if xcm .lt (lg_cmp 0 (-999999999)) 0 = true then (-1000000000) else (if xcm .le (lg_cmp 0 999999999) 0 = true then (0 : Int64).toInt32 else (-1000000000))) else (if xcm .lt (lg_cmp 1 (-999999999)) 0 = true then (-1000000000) else (if xcm .le (lg_cmp 1 999999999) 0 = true then (1 : Int64).toInt32 else (-1000000000)))) else 0)) else (if xcm .eq l (-1000000000) = true then 0 else (if xcm .ne r (-1000000000) = true then (if xcm .le l r = true then (if xcm .lt (lg_cmp 0 (-999999999)) 0 = true then (-1000000000) else (if xcm .le (lg_cmp 0 999999999) 0 = true then (0 : Int64).toInt32 else (-1000000000))) else (if xcm .lt (lg_cmp 1 (-999999999)) 0 = true then (-1000000000) else (if xcm .le (lg_cmp 1 999999999) 0 = true then (1 : Int64).toInt32 else (-1000000000)))) else 0))))))
theorem m_combined42 {S : List Int32} {hp : List XC} (l r : Int32) : Pu S 1 147 [.retAddr 42, .int l, .int r] hp (.int (cmb42 l r)) := by
  refine At.go (q := xm147) rfl 2 (pc' := 3) (L' := [(0, .retAddr 42), (1, .int l), (2, .int r)]) (st' := [.int (-1000000000), .int l]) rfl ?_
  refine At.ic2 (tgt := 14) rfl rfl (fun h1 => ?_) (fun h1 => ?_)
  · refine At.go (q := xm147) rfl 4 (pc' := 19) (L' := [(3, .int 0), (0, .retAddr 42), (1, .int l), (2, .int r)]) (st' := [.int (-1000000000), .int r]) rfl ?_
    refine At.ic2 (tgt := 30) rfl rfl (fun h2 => ?_) (fun h2 => ?_)
    · refine At.go (q := xm147) rfl 4 (pc' := 37) (L' := [(4, .int 0), (3, .int 0), (0, .retAddr 42), (1, .int l), (2, .int r)]) (st' := [.retAddr 49, .retAddr 42]) rfl ?_
      refine At.ace (tgt := 47) (b := false) rfl rfl rfl (fun h => absurd h (by decide)) (fun _ => ?_)
      refine At.go (q := xm147) rfl 2 (pc' := 44) (L' := [(4, .int 0), (3, .int 0), (0, .retAddr 42), (1, .int l), (2, .int r)]) (st' := [.retAddr 48, .retAddr 42]) rfl ?_
      refine At.acn (tgt := 78) (b := false) rfl rfl rfl (fun _ => ?_) (fun h => absurd h (by decide))
      refine At.go (q := xm147) rfl 2 (pc' := 81) (L' := [(4, .int 0), (3, .int 0), (0, .retAddr 42), (1, .int l), (2, .int r)]) (st' := [.int (-1000000000), .int l]) rfl ?_
      refine At.ic2 (tgt := 90) rfl rfl (fun h3 => ?_) (fun h3 => ?_)
      · refine At.go (q := xm147) rfl 1 (pc' := 91) (L' := [(4, .int 0), (3, .int 0), (0, .retAddr 42), (1, .int l), (2, .int r)]) (st' := [.retAddr 42]) rfl ?_
        refine At.gk rfl (by decide) rfl rfl ?_
        refine At.go (q := xm147) rfl 1 (pc' := 95) (L' := [(4, .int 0), (3, .int 0), (0, .retAddr 42), (1, .int l), (2, .int r)]) (st' := [.int 3, .int 3]) rfl ?_
        refine At.ic2 (tgt := 102) rfl rfl (fun h => absurd (h.symm.trans (show xcm .ne 3 3 = false by decide)) (by decide)) (fun _ => ?_)
        refine At.go (q := xm147) rfl 2 (pc' := 104) (L' := [(4, .int 0), (3, .int 0), (0, .retAddr 42), (1, .int l), (2, .int r)]) (st' := [.int 0]) rfl ?_
        exact At.rt rfl (xret_i rfl) (by rw [cmb42, if_pos h1, if_pos h2, if_pos h3])
      · refine At.go (q := xm147) rfl 2 (pc' := 87) (L' := [(4, .int 0), (3, .int 0), (0, .retAddr 42), (1, .int l), (2, .int r)]) (st' := [.int (-1000000000), .int r]) rfl ?_
        refine At.ic2 (tgt := 105) rfl rfl (fun h4 => ?_) (fun h4 => ?_)
        · refine At.go (q := xm147) rfl 2 (pc' := 109) (L' := [(4, .int 0), (3, .int 0), (0, .retAddr 42), (1, .int l), (2, .int r)]) (st' := [.retAddr 42, .retAddr 222]) rfl ?_
          refine At.clp (as := [.retAddr 42]) (rest := [.retAddr 222]) rfl (by decide) rfl (Nat.le_of_ble_eq_true rfl) (Nat.le_of_ble_eq_true rfl) (xrck_k (by decide) (by decide) rfl (by decide)) (Nat.le_of_ble_eq_true rfl) (m_ord42) ?_
          refine At.ak rfl rfl (by decide) rfl (by decide) rfl ?_
          refine At.go (q := xm147) rfl 3 (pc' := 223) (L' := [(4, .int 0), (3, .int 0), (0, .retAddr 42), (1, .int l), (2, .int r)]) (st' := [.int r, .int l]) rfl ?_
          refine At.ic2 (tgt := 230) rfl rfl (fun h5 => ?_) (fun h5 => ?_)
          · refine At.go (q := xm147) rfl 6 (pc' := 311) (L' := [(5, .long 0), (4, .int 0), (3, .int 0), (0, .retAddr 42), (1, .int l), (2, .int r)]) (st' := [.int (lg_cmp 0 (-999999999))]) rfl ?_
            refine At.ic1 (tgt := 323) rfl rfl (fun h6 => ?_) (fun h6 => ?_)
            · refine At.go (q := xm147) rfl 2 (pc' := 331) (L' := [(5, .long 0), (4, .int 0), (3, .int 0), (0, .retAddr 42), (1, .int l), (2, .int r)]) (st' := [.int (-1000000000)]) rfl ?_
              exact At.rt rfl (xret_i rfl) (by rw [cmb42, if_pos h1, if_pos h2, if_neg (xntf h3), if_pos h4, if_pos h5, if_pos h6])
            · refine At.go (q := xm147) rfl 3 (pc' := 320) (L' := [(5, .long 0), (4, .int 0), (3, .int 0), (0, .retAddr 42), (1, .int l), (2, .int r)]) (st' := [.int (lg_cmp 0 999999999)]) rfl ?_
              refine At.ic1 (tgt := 328) rfl rfl (fun h7 => ?_) (fun h7 => ?_)
              · refine At.go (q := xm147) rfl 2 (pc' := 331) (L' := [(5, .long 0), (4, .int 0), (3, .int 0), (0, .retAddr 42), (1, .int l), (2, .int r)]) (st' := [.int (0 : Int64).toInt32]) rfl ?_
                exact At.rt rfl (xret_i rfl) (by rw [cmb42, if_pos h1, if_pos h2, if_neg (xntf h3), if_pos h4, if_pos h5, if_neg (xntf h6), if_pos h7])
              · refine At.go (q := xm147) rfl 2 (pc' := 331) (L' := [(5, .long 0), (4, .int 0), (3, .int 0), (0, .retAddr 42), (1, .int l), (2, .int r)]) (st' := [.int (-1000000000)]) rfl ?_
                exact At.rt rfl (xret_i rfl) (by rw [cmb42, if_pos h1, if_pos h2, if_neg (xntf h3), if_pos h4, if_pos h5, if_neg (xntf h6), if_neg (xntf h7)])
          · refine At.go (q := xm147) rfl 7 (pc' := 311) (L' := [(5, .long 1), (4, .int 0), (3, .int 0), (0, .retAddr 42), (1, .int l), (2, .int r)]) (st' := [.int (lg_cmp 1 (-999999999))]) rfl ?_
            refine At.ic1 (tgt := 323) rfl rfl (fun h8 => ?_) (fun h8 => ?_)
            · refine At.go (q := xm147) rfl 2 (pc' := 331) (L' := [(5, .long 1), (4, .int 0), (3, .int 0), (0, .retAddr 42), (1, .int l), (2, .int r)]) (st' := [.int (-1000000000)]) rfl ?_
              exact At.rt rfl (xret_i rfl) (by rw [cmb42, if_pos h1, if_pos h2, if_neg (xntf h3), if_pos h4, if_neg (xntf h5), if_pos h8])
            · refine At.go (q := xm147) rfl 3 (pc' := 320) (L' := [(5, .long 1), (4, .int 0), (3, .int 0), (0, .retAddr 42), (1, .int l), (2, .int r)]) (st' := [.int (lg_cmp 1 999999999)]) rfl ?_
              refine At.ic1 (tgt := 328) rfl rfl (fun h9 => ?_) (fun h9 => ?_)
              · refine At.go (q := xm147) rfl 2 (pc' := 331) (L' := [(5, .long 1), (4, .int 0), (3, .int 0), (0, .retAddr 42), (1, .int l), (2, .int r)]) (st' := [.int (1 : Int64).toInt32]) rfl ?_
                exact At.rt rfl (xret_i rfl) (by rw [cmb42, if_pos h1, if_pos h2, if_neg (xntf h3), if_pos h4, if_neg (xntf h5), if_neg (xntf h8), if_pos h9])
              · refine At.go (q := xm147) rfl 2 (pc' := 331) (L' := [(5, .long 1), (4, .int 0), (3, .int 0), (0, .retAddr 42), (1, .int l), (2, .int r)]) (st' := [.int (-1000000000)]) rfl ?_
                exact At.rt rfl (xret_i rfl) (by rw [cmb42, if_pos h1, if_pos h2, if_neg (xntf h3), if_pos h4, if_neg (xntf h5), if_neg (xntf h8), if_neg (xntf h9)])
        · refine At.go (q := xm147) rfl 1 (pc' := 91) (L' := [(4, .int 0), (3, .int 0), (0, .retAddr 42), (1, .int l), (2, .int r)]) (st' := [.retAddr 42]) rfl ?_
          refine At.gk rfl (by decide) rfl rfl ?_
          refine At.go (q := xm147) rfl 1 (pc' := 95) (L' := [(4, .int 0), (3, .int 0), (0, .retAddr 42), (1, .int l), (2, .int r)]) (st' := [.int 3, .int 3]) rfl ?_
          refine At.ic2 (tgt := 102) rfl rfl (fun h => absurd (h.symm.trans (show xcm .ne 3 3 = false by decide)) (by decide)) (fun _ => ?_)
          refine At.go (q := xm147) rfl 2 (pc' := 104) (L' := [(4, .int 0), (3, .int 0), (0, .retAddr 42), (1, .int l), (2, .int r)]) (st' := [.int 0]) rfl ?_
          exact At.rt rfl (xret_i rfl) (by rw [cmb42, if_pos h1, if_pos h2, if_neg (xntf h3), if_neg (xntf h4)])
    · refine At.go (q := xm147) rfl 1 (pc' := 23) (L' := [(3, .int 0), (0, .retAddr 42), (1, .int l), (2, .int r)]) (st' := [.int r]) rfl ?_
      refine At.ic1 (tgt := 30) rfl rfl (fun h10 => ?_) (fun h10 => ?_)
      · refine At.go (q := xm147) rfl 4 (pc' := 37) (L' := [(4, .int 0), (3, .int 0), (0, .retAddr 42), (1, .int l), (2, .int r)]) (st' := [.retAddr 49, .retAddr 42]) rfl ?_
        refine At.ace (tgt := 47) (b := false) rfl rfl rfl (fun h => absurd h (by decide)) (fun _ => ?_)
        refine At.go (q := xm147) rfl 2 (pc' := 44) (L' := [(4, .int 0), (3, .int 0), (0, .retAddr 42), (1, .int l), (2, .int r)]) (st' := [.retAddr 48, .retAddr 42]) rfl ?_
        refine At.acn (tgt := 78) (b := false) rfl rfl rfl (fun _ => ?_) (fun h => absurd h (by decide))
        refine At.go (q := xm147) rfl 2 (pc' := 81) (L' := [(4, .int 0), (3, .int 0), (0, .retAddr 42), (1, .int l), (2, .int r)]) (st' := [.int (-1000000000), .int l]) rfl ?_
        refine At.ic2 (tgt := 90) rfl rfl (fun h11 => ?_) (fun h11 => ?_)
        · refine At.go (q := xm147) rfl 1 (pc' := 91) (L' := [(4, .int 0), (3, .int 0), (0, .retAddr 42), (1, .int l), (2, .int r)]) (st' := [.retAddr 42]) rfl ?_
          refine At.gk rfl (by decide) rfl rfl ?_
          refine At.go (q := xm147) rfl 1 (pc' := 95) (L' := [(4, .int 0), (3, .int 0), (0, .retAddr 42), (1, .int l), (2, .int r)]) (st' := [.int 3, .int 3]) rfl ?_
          refine At.ic2 (tgt := 102) rfl rfl (fun h => absurd (h.symm.trans (show xcm .ne 3 3 = false by decide)) (by decide)) (fun _ => ?_)
          refine At.go (q := xm147) rfl 2 (pc' := 104) (L' := [(4, .int 0), (3, .int 0), (0, .retAddr 42), (1, .int l), (2, .int r)]) (st' := [.int 0]) rfl ?_
          exact At.rt rfl (xret_i rfl) (by rw [cmb42, if_pos h1, if_neg (xntf h2), if_pos h10, if_pos h11])
        · refine At.go (q := xm147) rfl 2 (pc' := 87) (L' := [(4, .int 0), (3, .int 0), (0, .retAddr 42), (1, .int l), (2, .int r)]) (st' := [.int (-1000000000), .int r]) rfl ?_
          refine At.ic2 (tgt := 105) rfl rfl (fun h12 => ?_) (fun h12 => ?_)
          · refine At.go (q := xm147) rfl 2 (pc' := 109) (L' := [(4, .int 0), (3, .int 0), (0, .retAddr 42), (1, .int l), (2, .int r)]) (st' := [.retAddr 42, .retAddr 222]) rfl ?_
            refine At.clp (as := [.retAddr 42]) (rest := [.retAddr 222]) rfl (by decide) rfl (Nat.le_of_ble_eq_true rfl) (Nat.le_of_ble_eq_true rfl) (xrck_k (by decide) (by decide) rfl (by decide)) (Nat.le_of_ble_eq_true rfl) (m_ord42) ?_
            refine At.ak rfl rfl (by decide) rfl (by decide) rfl ?_
            refine At.go (q := xm147) rfl 3 (pc' := 223) (L' := [(4, .int 0), (3, .int 0), (0, .retAddr 42), (1, .int l), (2, .int r)]) (st' := [.int r, .int l]) rfl ?_
            refine At.ic2 (tgt := 230) rfl rfl (fun h13 => ?_) (fun h13 => ?_)
            · refine At.go (q := xm147) rfl 6 (pc' := 311) (L' := [(5, .long 0), (4, .int 0), (3, .int 0), (0, .retAddr 42), (1, .int l), (2, .int r)]) (st' := [.int (lg_cmp 0 (-999999999))]) rfl ?_
              refine At.ic1 (tgt := 323) rfl rfl (fun h14 => ?_) (fun h14 => ?_)
              · refine At.go (q := xm147) rfl 2 (pc' := 331) (L' := [(5, .long 0), (4, .int 0), (3, .int 0), (0, .retAddr 42), (1, .int l), (2, .int r)]) (st' := [.int (-1000000000)]) rfl ?_
                exact At.rt rfl (xret_i rfl) (by rw [cmb42, if_pos h1, if_neg (xntf h2), if_pos h10, if_neg (xntf h11), if_pos h12, if_pos h13, if_pos h14])
              · refine At.go (q := xm147) rfl 3 (pc' := 320) (L' := [(5, .long 0), (4, .int 0), (3, .int 0), (0, .retAddr 42), (1, .int l), (2, .int r)]) (st' := [.int (lg_cmp 0 999999999)]) rfl ?_
                refine At.ic1 (tgt := 328) rfl rfl (fun h15 => ?_) (fun h15 => ?_)
                · refine At.go (q := xm147) rfl 2 (pc' := 331) (L' := [(5, .long 0), (4, .int 0), (3, .int 0), (0, .retAddr 42), (1, .int l), (2, .int r)]) (st' := [.int (0 : Int64).toInt32]) rfl ?_
                  exact At.rt rfl (xret_i rfl) (by rw [cmb42, if_pos h1, if_neg (xntf h2), if_pos h10, if_neg (xntf h11), if_pos h12, if_pos h13, if_neg (xntf h14), if_pos h15])
                · refine At.go (q := xm147) rfl 2 (pc' := 331) (L' := [(5, .long 0), (4, .int 0), (3, .int 0), (0, .retAddr 42), (1, .int l), (2, .int r)]) (st' := [.int (-1000000000)]) rfl ?_
                  exact At.rt rfl (xret_i rfl) (by rw [cmb42, if_pos h1, if_neg (xntf h2), if_pos h10, if_neg (xntf h11), if_pos h12, if_pos h13, if_neg (xntf h14), if_neg (xntf h15)])
            · refine At.go (q := xm147) rfl 7 (pc' := 311) (L' := [(5, .long 1), (4, .int 0), (3, .int 0), (0, .retAddr 42), (1, .int l), (2, .int r)]) (st' := [.int (lg_cmp 1 (-999999999))]) rfl ?_
              refine At.ic1 (tgt := 323) rfl rfl (fun h16 => ?_) (fun h16 => ?_)
              · refine At.go (q := xm147) rfl 2 (pc' := 331) (L' := [(5, .long 1), (4, .int 0), (3, .int 0), (0, .retAddr 42), (1, .int l), (2, .int r)]) (st' := [.int (-1000000000)]) rfl ?_
                exact At.rt rfl (xret_i rfl) (by rw [cmb42, if_pos h1, if_neg (xntf h2), if_pos h10, if_neg (xntf h11), if_pos h12, if_neg (xntf h13), if_pos h16])
              · refine At.go (q := xm147) rfl 3 (pc' := 320) (L' := [(5, .long 1), (4, .int 0), (3, .int 0), (0, .retAddr 42), (1, .int l), (2, .int r)]) (st' := [.int (lg_cmp 1 999999999)]) rfl ?_
                refine At.ic1 (tgt := 328) rfl rfl (fun h17 => ?_) (fun h17 => ?_)
                · refine At.go (q := xm147) rfl 2 (pc' := 331) (L' := [(5, .long 1), (4, .int 0), (3, .int 0), (0, .retAddr 42), (1, .int l), (2, .int r)]) (st' := [.int (1 : Int64).toInt32]) rfl ?_
                  exact At.rt rfl (xret_i rfl) (by rw [cmb42, if_pos h1, if_neg (xntf h2), if_pos h10, if_neg (xntf h11), if_pos h12, if_neg (xntf h13), if_neg (xntf h16), if_pos h17])
                · refine At.go (q := xm147) rfl 2 (pc' := 331) (L' := [(5, .long 1), (4, .int 0), (3, .int 0), (0, .retAddr 42), (1, .int l), (2, .int r)]) (st' := [.int (-1000000000)]) rfl ?_
                  exact At.rt rfl (xret_i rfl) (by rw [cmb42, if_pos h1, if_neg (xntf h2), if_pos h10, if_neg (xntf h11), if_pos h12, if_neg (xntf h13), if_neg (xntf h16), if_neg (xntf h17)])
          · refine At.go (q := xm147) rfl 1 (pc' := 91) (L' := [(4, .int 0), (3, .int 0), (0, .retAddr 42), (1, .int l), (2, .int r)]) (st' := [.retAddr 42]) rfl ?_
            refine At.gk rfl (by decide) rfl rfl ?_
            refine At.go (q := xm147) rfl 1 (pc' := 95) (L' := [(4, .int 0), (3, .int 0), (0, .retAddr 42), (1, .int l), (2, .int r)]) (st' := [.int 3, .int 3]) rfl ?_
            refine At.ic2 (tgt := 102) rfl rfl (fun h => absurd (h.symm.trans (show xcm .ne 3 3 = false by decide)) (by decide)) (fun _ => ?_)
            refine At.go (q := xm147) rfl 2 (pc' := 104) (L' := [(4, .int 0), (3, .int 0), (0, .retAddr 42), (1, .int l), (2, .int r)]) (st' := [.int 0]) rfl ?_
            exact At.rt rfl (xret_i rfl) (by rw [cmb42, if_pos h1, if_neg (xntf h2), if_pos h10, if_neg (xntf h11), if_neg (xntf h12)])
      · refine At.go (q := xm147) rfl 5 (pc' := 37) (L' := [(4, .int 1), (3, .int 0), (0, .retAddr 42), (1, .int l), (2, .int r)]) (st' := [.retAddr 49, .retAddr 42]) rfl ?_
        refine At.ace (tgt := 47) (b := false) rfl rfl rfl (fun h => absurd h (by decide)) (fun _ => ?_)
        refine At.go (q := xm147) rfl 2 (pc' := 44) (L' := [(4, .int 1), (3, .int 0), (0, .retAddr 42), (1, .int l), (2, .int r)]) (st' := [.retAddr 48, .retAddr 42]) rfl ?_
        refine At.acn (tgt := 78) (b := false) rfl rfl rfl (fun _ => ?_) (fun h => absurd h (by decide))
        refine At.go (q := xm147) rfl 2 (pc' := 81) (L' := [(4, .int 1), (3, .int 0), (0, .retAddr 42), (1, .int l), (2, .int r)]) (st' := [.int (-1000000000), .int l]) rfl ?_
        refine At.ic2 (tgt := 90) rfl rfl (fun h18 => ?_) (fun h18 => ?_)
        · refine At.go (q := xm147) rfl 1 (pc' := 91) (L' := [(4, .int 1), (3, .int 0), (0, .retAddr 42), (1, .int l), (2, .int r)]) (st' := [.retAddr 42]) rfl ?_
          refine At.gk rfl (by decide) rfl rfl ?_
          refine At.go (q := xm147) rfl 1 (pc' := 95) (L' := [(4, .int 1), (3, .int 0), (0, .retAddr 42), (1, .int l), (2, .int r)]) (st' := [.int 3, .int 3]) rfl ?_
          refine At.ic2 (tgt := 102) rfl rfl (fun h => absurd (h.symm.trans (show xcm .ne 3 3 = false by decide)) (by decide)) (fun _ => ?_)
          refine At.go (q := xm147) rfl 2 (pc' := 104) (L' := [(4, .int 1), (3, .int 0), (0, .retAddr 42), (1, .int l), (2, .int r)]) (st' := [.int 0]) rfl ?_
          exact At.rt rfl (xret_i rfl) (by rw [cmb42, if_pos h1, if_neg (xntf h2), if_neg (xntf h10), if_pos h18])
        · refine At.go (q := xm147) rfl 2 (pc' := 87) (L' := [(4, .int 1), (3, .int 0), (0, .retAddr 42), (1, .int l), (2, .int r)]) (st' := [.int (-1000000000), .int r]) rfl ?_
          refine At.ic2 (tgt := 105) rfl rfl (fun h19 => ?_) (fun h19 => ?_)
          · refine At.go (q := xm147) rfl 2 (pc' := 109) (L' := [(4, .int 1), (3, .int 0), (0, .retAddr 42), (1, .int l), (2, .int r)]) (st' := [.retAddr 42, .retAddr 222]) rfl ?_
            refine At.clp (as := [.retAddr 42]) (rest := [.retAddr 222]) rfl (by decide) rfl (Nat.le_of_ble_eq_true rfl) (Nat.le_of_ble_eq_true rfl) (xrck_k (by decide) (by decide) rfl (by decide)) (Nat.le_of_ble_eq_true rfl) (m_ord42) ?_
            refine At.ak rfl rfl (by decide) rfl (by decide) rfl ?_
            refine At.go (q := xm147) rfl 3 (pc' := 223) (L' := [(4, .int 1), (3, .int 0), (0, .retAddr 42), (1, .int l), (2, .int r)]) (st' := [.int r, .int l]) rfl ?_
            refine At.ic2 (tgt := 230) rfl rfl (fun h20 => ?_) (fun h20 => ?_)
            · refine At.go (q := xm147) rfl 6 (pc' := 311) (L' := [(5, .long 0), (4, .int 1), (3, .int 0), (0, .retAddr 42), (1, .int l), (2, .int r)]) (st' := [.int (lg_cmp 0 (-999999999))]) rfl ?_
              refine At.ic1 (tgt := 323) rfl rfl (fun h21 => ?_) (fun h21 => ?_)
              · refine At.go (q := xm147) rfl 2 (pc' := 331) (L' := [(5, .long 0), (4, .int 1), (3, .int 0), (0, .retAddr 42), (1, .int l), (2, .int r)]) (st' := [.int (-1000000000)]) rfl ?_
                exact At.rt rfl (xret_i rfl) (by rw [cmb42, if_pos h1, if_neg (xntf h2), if_neg (xntf h10), if_neg (xntf h18), if_pos h19, if_pos h20, if_pos h21])
              · refine At.go (q := xm147) rfl 3 (pc' := 320) (L' := [(5, .long 0), (4, .int 1), (3, .int 0), (0, .retAddr 42), (1, .int l), (2, .int r)]) (st' := [.int (lg_cmp 0 999999999)]) rfl ?_
                refine At.ic1 (tgt := 328) rfl rfl (fun h22 => ?_) (fun h22 => ?_)
                · refine At.go (q := xm147) rfl 2 (pc' := 331) (L' := [(5, .long 0), (4, .int 1), (3, .int 0), (0, .retAddr 42), (1, .int l), (2, .int r)]) (st' := [.int (0 : Int64).toInt32]) rfl ?_
                  exact At.rt rfl (xret_i rfl) (by rw [cmb42, if_pos h1, if_neg (xntf h2), if_neg (xntf h10), if_neg (xntf h18), if_pos h19, if_pos h20, if_neg (xntf h21), if_pos h22])
                · refine At.go (q := xm147) rfl 2 (pc' := 331) (L' := [(5, .long 0), (4, .int 1), (3, .int 0), (0, .retAddr 42), (1, .int l), (2, .int r)]) (st' := [.int (-1000000000)]) rfl ?_
                  exact At.rt rfl (xret_i rfl) (by rw [cmb42, if_pos h1, if_neg (xntf h2), if_neg (xntf h10), if_neg (xntf h18), if_pos h19, if_pos h20, if_neg (xntf h21), if_neg (xntf h22)])
            · refine At.go (q := xm147) rfl 7 (pc' := 311) (L' := [(5, .long 1), (4, .int 1), (3, .int 0), (0, .retAddr 42), (1, .int l), (2, .int r)]) (st' := [.int (lg_cmp 1 (-999999999))]) rfl ?_
              refine At.ic1 (tgt := 323) rfl rfl (fun h23 => ?_) (fun h23 => ?_)
              · refine At.go (q := xm147) rfl 2 (pc' := 331) (L' := [(5, .long 1), (4, .int 1), (3, .int 0), (0, .retAddr 42), (1, .int l), (2, .int r)]) (st' := [.int (-1000000000)]) rfl ?_
                exact At.rt rfl (xret_i rfl) (by rw [cmb42, if_pos h1, if_neg (xntf h2), if_neg (xntf h10), if_neg (xntf h18), if_pos h19, if_neg (xntf h20), if_pos h23])
              · refine At.go (q := xm147) rfl 3 (pc' := 320) (L' := [(5, .long 1), (4, .int 1), (3, .int 0), (0, .retAddr 42), (1, .int l), (2, .int r)]) (st' := [.int (lg_cmp 1 999999999)]) rfl ?_
                refine At.ic1 (tgt := 328) rfl rfl (fun h24 => ?_) (fun h24 => ?_)
                · refine At.go (q := xm147) rfl 2 (pc' := 331) (L' := [(5, .long 1), (4, .int 1), (3, .int 0), (0, .retAddr 42), (1, .int l), (2, .int r)]) (st' := [.int (1 : Int64).toInt32]) rfl ?_
                  exact At.rt rfl (xret_i rfl) (by rw [cmb42, if_pos h1, if_neg (xntf h2), if_neg (xntf h10), if_neg (xntf h18), if_pos h19, if_neg (xntf h20), if_neg (xntf h23), if_pos h24])
                · refine At.go (q := xm147) rfl 2 (pc' := 331) (L' := [(5, .long 1), (4, .int 1), (3, .int 0), (0, .retAddr 42), (1, .int l), (2, .int r)]) (st' := [.int (-1000000000)]) rfl ?_
                  exact At.rt rfl (xret_i rfl) (by rw [cmb42, if_pos h1, if_neg (xntf h2), if_neg (xntf h10), if_neg (xntf h18), if_pos h19, if_neg (xntf h20), if_neg (xntf h23), if_neg (xntf h24)])
          · refine At.go (q := xm147) rfl 1 (pc' := 91) (L' := [(4, .int 1), (3, .int 0), (0, .retAddr 42), (1, .int l), (2, .int r)]) (st' := [.retAddr 42]) rfl ?_
            refine At.gk rfl (by decide) rfl rfl ?_
            refine At.go (q := xm147) rfl 1 (pc' := 95) (L' := [(4, .int 1), (3, .int 0), (0, .retAddr 42), (1, .int l), (2, .int r)]) (st' := [.int 3, .int 3]) rfl ?_
            refine At.ic2 (tgt := 102) rfl rfl (fun h => absurd (h.symm.trans (show xcm .ne 3 3 = false by decide)) (by decide)) (fun _ => ?_)
            refine At.go (q := xm147) rfl 2 (pc' := 104) (L' := [(4, .int 1), (3, .int 0), (0, .retAddr 42), (1, .int l), (2, .int r)]) (st' := [.int 0]) rfl ?_
            exact At.rt rfl (xret_i rfl) (by rw [cmb42, if_pos h1, if_neg (xntf h2), if_neg (xntf h10), if_neg (xntf h18), if_neg (xntf h19)])
  · refine At.go (q := xm147) rfl 1 (pc' := 7) (L' := [(0, .retAddr 42), (1, .int l), (2, .int r)]) (st' := [.int l]) rfl ?_
    refine At.ic1 (tgt := 14) rfl rfl (fun h25 => ?_) (fun h25 => ?_)
    · refine At.go (q := xm147) rfl 4 (pc' := 19) (L' := [(3, .int 0), (0, .retAddr 42), (1, .int l), (2, .int r)]) (st' := [.int (-1000000000), .int r]) rfl ?_
      refine At.ic2 (tgt := 30) rfl rfl (fun h26 => ?_) (fun h26 => ?_)
      · refine At.go (q := xm147) rfl 4 (pc' := 37) (L' := [(4, .int 0), (3, .int 0), (0, .retAddr 42), (1, .int l), (2, .int r)]) (st' := [.retAddr 49, .retAddr 42]) rfl ?_
        refine At.ace (tgt := 47) (b := false) rfl rfl rfl (fun h => absurd h (by decide)) (fun _ => ?_)
        refine At.go (q := xm147) rfl 2 (pc' := 44) (L' := [(4, .int 0), (3, .int 0), (0, .retAddr 42), (1, .int l), (2, .int r)]) (st' := [.retAddr 48, .retAddr 42]) rfl ?_
        refine At.acn (tgt := 78) (b := false) rfl rfl rfl (fun _ => ?_) (fun h => absurd h (by decide))
        refine At.go (q := xm147) rfl 2 (pc' := 81) (L' := [(4, .int 0), (3, .int 0), (0, .retAddr 42), (1, .int l), (2, .int r)]) (st' := [.int (-1000000000), .int l]) rfl ?_
        refine At.ic2 (tgt := 90) rfl rfl (fun h27 => ?_) (fun h27 => ?_)
        · refine At.go (q := xm147) rfl 1 (pc' := 91) (L' := [(4, .int 0), (3, .int 0), (0, .retAddr 42), (1, .int l), (2, .int r)]) (st' := [.retAddr 42]) rfl ?_
          refine At.gk rfl (by decide) rfl rfl ?_
          refine At.go (q := xm147) rfl 1 (pc' := 95) (L' := [(4, .int 0), (3, .int 0), (0, .retAddr 42), (1, .int l), (2, .int r)]) (st' := [.int 3, .int 3]) rfl ?_
          refine At.ic2 (tgt := 102) rfl rfl (fun h => absurd (h.symm.trans (show xcm .ne 3 3 = false by decide)) (by decide)) (fun _ => ?_)
          refine At.go (q := xm147) rfl 2 (pc' := 104) (L' := [(4, .int 0), (3, .int 0), (0, .retAddr 42), (1, .int l), (2, .int r)]) (st' := [.int 0]) rfl ?_
          exact At.rt rfl (xret_i rfl) (by rw [cmb42, if_neg (xntf h1), if_pos h25, if_pos h26, if_pos h27])
        · refine At.go (q := xm147) rfl 2 (pc' := 87) (L' := [(4, .int 0), (3, .int 0), (0, .retAddr 42), (1, .int l), (2, .int r)]) (st' := [.int (-1000000000), .int r]) rfl ?_
          refine At.ic2 (tgt := 105) rfl rfl (fun h28 => ?_) (fun h28 => ?_)
          · refine At.go (q := xm147) rfl 2 (pc' := 109) (L' := [(4, .int 0), (3, .int 0), (0, .retAddr 42), (1, .int l), (2, .int r)]) (st' := [.retAddr 42, .retAddr 222]) rfl ?_
            refine At.clp (as := [.retAddr 42]) (rest := [.retAddr 222]) rfl (by decide) rfl (Nat.le_of_ble_eq_true rfl) (Nat.le_of_ble_eq_true rfl) (xrck_k (by decide) (by decide) rfl (by decide)) (Nat.le_of_ble_eq_true rfl) (m_ord42) ?_
            refine At.ak rfl rfl (by decide) rfl (by decide) rfl ?_
            refine At.go (q := xm147) rfl 3 (pc' := 223) (L' := [(4, .int 0), (3, .int 0), (0, .retAddr 42), (1, .int l), (2, .int r)]) (st' := [.int r, .int l]) rfl ?_
            refine At.ic2 (tgt := 230) rfl rfl (fun h29 => ?_) (fun h29 => ?_)
            · refine At.go (q := xm147) rfl 6 (pc' := 311) (L' := [(5, .long 0), (4, .int 0), (3, .int 0), (0, .retAddr 42), (1, .int l), (2, .int r)]) (st' := [.int (lg_cmp 0 (-999999999))]) rfl ?_
              refine At.ic1 (tgt := 323) rfl rfl (fun h30 => ?_) (fun h30 => ?_)
              · refine At.go (q := xm147) rfl 2 (pc' := 331) (L' := [(5, .long 0), (4, .int 0), (3, .int 0), (0, .retAddr 42), (1, .int l), (2, .int r)]) (st' := [.int (-1000000000)]) rfl ?_
                exact At.rt rfl (xret_i rfl) (by rw [cmb42, if_neg (xntf h1), if_pos h25, if_pos h26, if_neg (xntf h27), if_pos h28, if_pos h29, if_pos h30])
              · refine At.go (q := xm147) rfl 3 (pc' := 320) (L' := [(5, .long 0), (4, .int 0), (3, .int 0), (0, .retAddr 42), (1, .int l), (2, .int r)]) (st' := [.int (lg_cmp 0 999999999)]) rfl ?_
                refine At.ic1 (tgt := 328) rfl rfl (fun h31 => ?_) (fun h31 => ?_)
                · refine At.go (q := xm147) rfl 2 (pc' := 331) (L' := [(5, .long 0), (4, .int 0), (3, .int 0), (0, .retAddr 42), (1, .int l), (2, .int r)]) (st' := [.int (0 : Int64).toInt32]) rfl ?_
                  exact At.rt rfl (xret_i rfl) (by rw [cmb42, if_neg (xntf h1), if_pos h25, if_pos h26, if_neg (xntf h27), if_pos h28, if_pos h29, if_neg (xntf h30), if_pos h31])
                · refine At.go (q := xm147) rfl 2 (pc' := 331) (L' := [(5, .long 0), (4, .int 0), (3, .int 0), (0, .retAddr 42), (1, .int l), (2, .int r)]) (st' := [.int (-1000000000)]) rfl ?_
                  exact At.rt rfl (xret_i rfl) (by rw [cmb42, if_neg (xntf h1), if_pos h25, if_pos h26, if_neg (xntf h27), if_pos h28, if_pos h29, if_neg (xntf h30), if_neg (xntf h31)])
            · refine At.go (q := xm147) rfl 7 (pc' := 311) (L' := [(5, .long 1), (4, .int 0), (3, .int 0), (0, .retAddr 42), (1, .int l), (2, .int r)]) (st' := [.int (lg_cmp 1 (-999999999))]) rfl ?_
              refine At.ic1 (tgt := 323) rfl rfl (fun h32 => ?_) (fun h32 => ?_)
              · refine At.go (q := xm147) rfl 2 (pc' := 331) (L' := [(5, .long 1), (4, .int 0), (3, .int 0), (0, .retAddr 42), (1, .int l), (2, .int r)]) (st' := [.int (-1000000000)]) rfl ?_
                exact At.rt rfl (xret_i rfl) (by rw [cmb42, if_neg (xntf h1), if_pos h25, if_pos h26, if_neg (xntf h27), if_pos h28, if_neg (xntf h29), if_pos h32])
              · refine At.go (q := xm147) rfl 3 (pc' := 320) (L' := [(5, .long 1), (4, .int 0), (3, .int 0), (0, .retAddr 42), (1, .int l), (2, .int r)]) (st' := [.int (lg_cmp 1 999999999)]) rfl ?_
                refine At.ic1 (tgt := 328) rfl rfl (fun h33 => ?_) (fun h33 => ?_)
                · refine At.go (q := xm147) rfl 2 (pc' := 331) (L' := [(5, .long 1), (4, .int 0), (3, .int 0), (0, .retAddr 42), (1, .int l), (2, .int r)]) (st' := [.int (1 : Int64).toInt32]) rfl ?_
                  exact At.rt rfl (xret_i rfl) (by rw [cmb42, if_neg (xntf h1), if_pos h25, if_pos h26, if_neg (xntf h27), if_pos h28, if_neg (xntf h29), if_neg (xntf h32), if_pos h33])
                · refine At.go (q := xm147) rfl 2 (pc' := 331) (L' := [(5, .long 1), (4, .int 0), (3, .int 0), (0, .retAddr 42), (1, .int l), (2, .int r)]) (st' := [.int (-1000000000)]) rfl ?_
                  exact At.rt rfl (xret_i rfl) (by rw [cmb42, if_neg (xntf h1), if_pos h25, if_pos h26, if_neg (xntf h27), if_pos h28, if_neg (xntf h29), if_neg (xntf h32), if_neg (xntf h33)])
          · refine At.go (q := xm147) rfl 1 (pc' := 91) (L' := [(4, .int 0), (3, .int 0), (0, .retAddr 42), (1, .int l), (2, .int r)]) (st' := [.retAddr 42]) rfl ?_
            refine At.gk rfl (by decide) rfl rfl ?_
            refine At.go (q := xm147) rfl 1 (pc' := 95) (L' := [(4, .int 0), (3, .int 0), (0, .retAddr 42), (1, .int l), (2, .int r)]) (st' := [.int 3, .int 3]) rfl ?_
            refine At.ic2 (tgt := 102) rfl rfl (fun h => absurd (h.symm.trans (show xcm .ne 3 3 = false by decide)) (by decide)) (fun _ => ?_)
            refine At.go (q := xm147) rfl 2 (pc' := 104) (L' := [(4, .int 0), (3, .int 0), (0, .retAddr 42), (1, .int l), (2, .int r)]) (st' := [.int 0]) rfl ?_
            exact At.rt rfl (xret_i rfl) (by rw [cmb42, if_neg (xntf h1), if_pos h25, if_pos h26, if_neg (xntf h27), if_neg (xntf h28)])
      · refine At.go (q := xm147) rfl 1 (pc' := 23) (L' := [(3, .int 0), (0, .retAddr 42), (1, .int l), (2, .int r)]) (st' := [.int r]) rfl ?_
        refine At.ic1 (tgt := 30) rfl rfl (fun h34 => ?_) (fun h34 => ?_)
        · refine At.go (q := xm147) rfl 4 (pc' := 37) (L' := [(4, .int 0), (3, .int 0), (0, .retAddr 42), (1, .int l), (2, .int r)]) (st' := [.retAddr 49, .retAddr 42]) rfl ?_
          refine At.ace (tgt := 47) (b := false) rfl rfl rfl (fun h => absurd h (by decide)) (fun _ => ?_)
          refine At.go (q := xm147) rfl 2 (pc' := 44) (L' := [(4, .int 0), (3, .int 0), (0, .retAddr 42), (1, .int l), (2, .int r)]) (st' := [.retAddr 48, .retAddr 42]) rfl ?_
          refine At.acn (tgt := 78) (b := false) rfl rfl rfl (fun _ => ?_) (fun h => absurd h (by decide))
          refine At.go (q := xm147) rfl 2 (pc' := 81) (L' := [(4, .int 0), (3, .int 0), (0, .retAddr 42), (1, .int l), (2, .int r)]) (st' := [.int (-1000000000), .int l]) rfl ?_
          refine At.ic2 (tgt := 90) rfl rfl (fun h35 => ?_) (fun h35 => ?_)
          · refine At.go (q := xm147) rfl 1 (pc' := 91) (L' := [(4, .int 0), (3, .int 0), (0, .retAddr 42), (1, .int l), (2, .int r)]) (st' := [.retAddr 42]) rfl ?_
            refine At.gk rfl (by decide) rfl rfl ?_
            refine At.go (q := xm147) rfl 1 (pc' := 95) (L' := [(4, .int 0), (3, .int 0), (0, .retAddr 42), (1, .int l), (2, .int r)]) (st' := [.int 3, .int 3]) rfl ?_
            refine At.ic2 (tgt := 102) rfl rfl (fun h => absurd (h.symm.trans (show xcm .ne 3 3 = false by decide)) (by decide)) (fun _ => ?_)
            refine At.go (q := xm147) rfl 2 (pc' := 104) (L' := [(4, .int 0), (3, .int 0), (0, .retAddr 42), (1, .int l), (2, .int r)]) (st' := [.int 0]) rfl ?_
            exact At.rt rfl (xret_i rfl) (by rw [cmb42, if_neg (xntf h1), if_pos h25, if_neg (xntf h26), if_pos h34, if_pos h35])
          · refine At.go (q := xm147) rfl 2 (pc' := 87) (L' := [(4, .int 0), (3, .int 0), (0, .retAddr 42), (1, .int l), (2, .int r)]) (st' := [.int (-1000000000), .int r]) rfl ?_
            refine At.ic2 (tgt := 105) rfl rfl (fun h36 => ?_) (fun h36 => ?_)
            · refine At.go (q := xm147) rfl 2 (pc' := 109) (L' := [(4, .int 0), (3, .int 0), (0, .retAddr 42), (1, .int l), (2, .int r)]) (st' := [.retAddr 42, .retAddr 222]) rfl ?_
              refine At.clp (as := [.retAddr 42]) (rest := [.retAddr 222]) rfl (by decide) rfl (Nat.le_of_ble_eq_true rfl) (Nat.le_of_ble_eq_true rfl) (xrck_k (by decide) (by decide) rfl (by decide)) (Nat.le_of_ble_eq_true rfl) (m_ord42) ?_
              refine At.ak rfl rfl (by decide) rfl (by decide) rfl ?_
              refine At.go (q := xm147) rfl 3 (pc' := 223) (L' := [(4, .int 0), (3, .int 0), (0, .retAddr 42), (1, .int l), (2, .int r)]) (st' := [.int r, .int l]) rfl ?_
              refine At.ic2 (tgt := 230) rfl rfl (fun h37 => ?_) (fun h37 => ?_)
              · refine At.go (q := xm147) rfl 6 (pc' := 311) (L' := [(5, .long 0), (4, .int 0), (3, .int 0), (0, .retAddr 42), (1, .int l), (2, .int r)]) (st' := [.int (lg_cmp 0 (-999999999))]) rfl ?_
                refine At.ic1 (tgt := 323) rfl rfl (fun h38 => ?_) (fun h38 => ?_)
                · refine At.go (q := xm147) rfl 2 (pc' := 331) (L' := [(5, .long 0), (4, .int 0), (3, .int 0), (0, .retAddr 42), (1, .int l), (2, .int r)]) (st' := [.int (-1000000000)]) rfl ?_
                  exact At.rt rfl (xret_i rfl) (by rw [cmb42, if_neg (xntf h1), if_pos h25, if_neg (xntf h26), if_pos h34, if_neg (xntf h35), if_pos h36, if_pos h37, if_pos h38])
                · refine At.go (q := xm147) rfl 3 (pc' := 320) (L' := [(5, .long 0), (4, .int 0), (3, .int 0), (0, .retAddr 42), (1, .int l), (2, .int r)]) (st' := [.int (lg_cmp 0 999999999)]) rfl ?_
                  refine At.ic1 (tgt := 328) rfl rfl (fun h39 => ?_) (fun h39 => ?_)
                  · refine At.go (q := xm147) rfl 2 (pc' := 331) (L' := [(5, .long 0), (4, .int 0), (3, .int 0), (0, .retAddr 42), (1, .int l), (2, .int r)]) (st' := [.int (0 : Int64).toInt32]) rfl ?_
                    exact At.rt rfl (xret_i rfl) (by rw [cmb42, if_neg (xntf h1), if_pos h25, if_neg (xntf h26), if_pos h34, if_neg (xntf h35), if_pos h36, if_pos h37, if_neg (xntf h38), if_pos h39])
                  · refine At.go (q := xm147) rfl 2 (pc' := 331) (L' := [(5, .long 0), (4, .int 0), (3, .int 0), (0, .retAddr 42), (1, .int l), (2, .int r)]) (st' := [.int (-1000000000)]) rfl ?_
                    exact At.rt rfl (xret_i rfl) (by rw [cmb42, if_neg (xntf h1), if_pos h25, if_neg (xntf h26), if_pos h34, if_neg (xntf h35), if_pos h36, if_pos h37, if_neg (xntf h38), if_neg (xntf h39)])
              · refine At.go (q := xm147) rfl 7 (pc' := 311) (L' := [(5, .long 1), (4, .int 0), (3, .int 0), (0, .retAddr 42), (1, .int l), (2, .int r)]) (st' := [.int (lg_cmp 1 (-999999999))]) rfl ?_
                refine At.ic1 (tgt := 323) rfl rfl (fun h40 => ?_) (fun h40 => ?_)
                · refine At.go (q := xm147) rfl 2 (pc' := 331) (L' := [(5, .long 1), (4, .int 0), (3, .int 0), (0, .retAddr 42), (1, .int l), (2, .int r)]) (st' := [.int (-1000000000)]) rfl ?_
                  exact At.rt rfl (xret_i rfl) (by rw [cmb42, if_neg (xntf h1), if_pos h25, if_neg (xntf h26), if_pos h34, if_neg (xntf h35), if_pos h36, if_neg (xntf h37), if_pos h40])
                · refine At.go (q := xm147) rfl 3 (pc' := 320) (L' := [(5, .long 1), (4, .int 0), (3, .int 0), (0, .retAddr 42), (1, .int l), (2, .int r)]) (st' := [.int (lg_cmp 1 999999999)]) rfl ?_
                  refine At.ic1 (tgt := 328) rfl rfl (fun h41 => ?_) (fun h41 => ?_)
                  · refine At.go (q := xm147) rfl 2 (pc' := 331) (L' := [(5, .long 1), (4, .int 0), (3, .int 0), (0, .retAddr 42), (1, .int l), (2, .int r)]) (st' := [.int (1 : Int64).toInt32]) rfl ?_
                    exact At.rt rfl (xret_i rfl) (by rw [cmb42, if_neg (xntf h1), if_pos h25, if_neg (xntf h26), if_pos h34, if_neg (xntf h35), if_pos h36, if_neg (xntf h37), if_neg (xntf h40), if_pos h41])
                  · refine At.go (q := xm147) rfl 2 (pc' := 331) (L' := [(5, .long 1), (4, .int 0), (3, .int 0), (0, .retAddr 42), (1, .int l), (2, .int r)]) (st' := [.int (-1000000000)]) rfl ?_
                    exact At.rt rfl (xret_i rfl) (by rw [cmb42, if_neg (xntf h1), if_pos h25, if_neg (xntf h26), if_pos h34, if_neg (xntf h35), if_pos h36, if_neg (xntf h37), if_neg (xntf h40), if_neg (xntf h41)])
            · refine At.go (q := xm147) rfl 1 (pc' := 91) (L' := [(4, .int 0), (3, .int 0), (0, .retAddr 42), (1, .int l), (2, .int r)]) (st' := [.retAddr 42]) rfl ?_
              refine At.gk rfl (by decide) rfl rfl ?_
              refine At.go (q := xm147) rfl 1 (pc' := 95) (L' := [(4, .int 0), (3, .int 0), (0, .retAddr 42), (1, .int l), (2, .int r)]) (st' := [.int 3, .int 3]) rfl ?_
              refine At.ic2 (tgt := 102) rfl rfl (fun h => absurd (h.symm.trans (show xcm .ne 3 3 = false by decide)) (by decide)) (fun _ => ?_)
              refine At.go (q := xm147) rfl 2 (pc' := 104) (L' := [(4, .int 0), (3, .int 0), (0, .retAddr 42), (1, .int l), (2, .int r)]) (st' := [.int 0]) rfl ?_
              exact At.rt rfl (xret_i rfl) (by rw [cmb42, if_neg (xntf h1), if_pos h25, if_neg (xntf h26), if_pos h34, if_neg (xntf h35), if_neg (xntf h36)])
        · refine At.go (q := xm147) rfl 5 (pc' := 37) (L' := [(4, .int 1), (3, .int 0), (0, .retAddr 42), (1, .int l), (2, .int r)]) (st' := [.retAddr 49, .retAddr 42]) rfl ?_
          refine At.ace (tgt := 47) (b := false) rfl rfl rfl (fun h => absurd h (by decide)) (fun _ => ?_)
          refine At.go (q := xm147) rfl 2 (pc' := 44) (L' := [(4, .int 1), (3, .int 0), (0, .retAddr 42), (1, .int l), (2, .int r)]) (st' := [.retAddr 48, .retAddr 42]) rfl ?_
          refine At.acn (tgt := 78) (b := false) rfl rfl rfl (fun _ => ?_) (fun h => absurd h (by decide))
          refine At.go (q := xm147) rfl 2 (pc' := 81) (L' := [(4, .int 1), (3, .int 0), (0, .retAddr 42), (1, .int l), (2, .int r)]) (st' := [.int (-1000000000), .int l]) rfl ?_
          refine At.ic2 (tgt := 90) rfl rfl (fun h42 => ?_) (fun h42 => ?_)
          · refine At.go (q := xm147) rfl 1 (pc' := 91) (L' := [(4, .int 1), (3, .int 0), (0, .retAddr 42), (1, .int l), (2, .int r)]) (st' := [.retAddr 42]) rfl ?_
            refine At.gk rfl (by decide) rfl rfl ?_
            refine At.go (q := xm147) rfl 1 (pc' := 95) (L' := [(4, .int 1), (3, .int 0), (0, .retAddr 42), (1, .int l), (2, .int r)]) (st' := [.int 3, .int 3]) rfl ?_
            refine At.ic2 (tgt := 102) rfl rfl (fun h => absurd (h.symm.trans (show xcm .ne 3 3 = false by decide)) (by decide)) (fun _ => ?_)
            refine At.go (q := xm147) rfl 2 (pc' := 104) (L' := [(4, .int 1), (3, .int 0), (0, .retAddr 42), (1, .int l), (2, .int r)]) (st' := [.int 0]) rfl ?_
            exact At.rt rfl (xret_i rfl) (by rw [cmb42, if_neg (xntf h1), if_pos h25, if_neg (xntf h26), if_neg (xntf h34), if_pos h42])
          · refine At.go (q := xm147) rfl 2 (pc' := 87) (L' := [(4, .int 1), (3, .int 0), (0, .retAddr 42), (1, .int l), (2, .int r)]) (st' := [.int (-1000000000), .int r]) rfl ?_
            refine At.ic2 (tgt := 105) rfl rfl (fun h43 => ?_) (fun h43 => ?_)
            · refine At.go (q := xm147) rfl 2 (pc' := 109) (L' := [(4, .int 1), (3, .int 0), (0, .retAddr 42), (1, .int l), (2, .int r)]) (st' := [.retAddr 42, .retAddr 222]) rfl ?_
              refine At.clp (as := [.retAddr 42]) (rest := [.retAddr 222]) rfl (by decide) rfl (Nat.le_of_ble_eq_true rfl) (Nat.le_of_ble_eq_true rfl) (xrck_k (by decide) (by decide) rfl (by decide)) (Nat.le_of_ble_eq_true rfl) (m_ord42) ?_
              refine At.ak rfl rfl (by decide) rfl (by decide) rfl ?_
              refine At.go (q := xm147) rfl 3 (pc' := 223) (L' := [(4, .int 1), (3, .int 0), (0, .retAddr 42), (1, .int l), (2, .int r)]) (st' := [.int r, .int l]) rfl ?_
              refine At.ic2 (tgt := 230) rfl rfl (fun h44 => ?_) (fun h44 => ?_)
              · refine At.go (q := xm147) rfl 6 (pc' := 311) (L' := [(5, .long 0), (4, .int 1), (3, .int 0), (0, .retAddr 42), (1, .int l), (2, .int r)]) (st' := [.int (lg_cmp 0 (-999999999))]) rfl ?_
                refine At.ic1 (tgt := 323) rfl rfl (fun h45 => ?_) (fun h45 => ?_)
                · refine At.go (q := xm147) rfl 2 (pc' := 331) (L' := [(5, .long 0), (4, .int 1), (3, .int 0), (0, .retAddr 42), (1, .int l), (2, .int r)]) (st' := [.int (-1000000000)]) rfl ?_
                  exact At.rt rfl (xret_i rfl) (by rw [cmb42, if_neg (xntf h1), if_pos h25, if_neg (xntf h26), if_neg (xntf h34), if_neg (xntf h42), if_pos h43, if_pos h44, if_pos h45])
                · refine At.go (q := xm147) rfl 3 (pc' := 320) (L' := [(5, .long 0), (4, .int 1), (3, .int 0), (0, .retAddr 42), (1, .int l), (2, .int r)]) (st' := [.int (lg_cmp 0 999999999)]) rfl ?_
                  refine At.ic1 (tgt := 328) rfl rfl (fun h46 => ?_) (fun h46 => ?_)
                  · refine At.go (q := xm147) rfl 2 (pc' := 331) (L' := [(5, .long 0), (4, .int 1), (3, .int 0), (0, .retAddr 42), (1, .int l), (2, .int r)]) (st' := [.int (0 : Int64).toInt32]) rfl ?_
                    exact At.rt rfl (xret_i rfl) (by rw [cmb42, if_neg (xntf h1), if_pos h25, if_neg (xntf h26), if_neg (xntf h34), if_neg (xntf h42), if_pos h43, if_pos h44, if_neg (xntf h45), if_pos h46])
                  · refine At.go (q := xm147) rfl 2 (pc' := 331) (L' := [(5, .long 0), (4, .int 1), (3, .int 0), (0, .retAddr 42), (1, .int l), (2, .int r)]) (st' := [.int (-1000000000)]) rfl ?_
                    exact At.rt rfl (xret_i rfl) (by rw [cmb42, if_neg (xntf h1), if_pos h25, if_neg (xntf h26), if_neg (xntf h34), if_neg (xntf h42), if_pos h43, if_pos h44, if_neg (xntf h45), if_neg (xntf h46)])
              · refine At.go (q := xm147) rfl 7 (pc' := 311) (L' := [(5, .long 1), (4, .int 1), (3, .int 0), (0, .retAddr 42), (1, .int l), (2, .int r)]) (st' := [.int (lg_cmp 1 (-999999999))]) rfl ?_
                refine At.ic1 (tgt := 323) rfl rfl (fun h47 => ?_) (fun h47 => ?_)
                · refine At.go (q := xm147) rfl 2 (pc' := 331) (L' := [(5, .long 1), (4, .int 1), (3, .int 0), (0, .retAddr 42), (1, .int l), (2, .int r)]) (st' := [.int (-1000000000)]) rfl ?_
                  exact At.rt rfl (xret_i rfl) (by rw [cmb42, if_neg (xntf h1), if_pos h25, if_neg (xntf h26), if_neg (xntf h34), if_neg (xntf h42), if_pos h43, if_neg (xntf h44), if_pos h47])
                · refine At.go (q := xm147) rfl 3 (pc' := 320) (L' := [(5, .long 1), (4, .int 1), (3, .int 0), (0, .retAddr 42), (1, .int l), (2, .int r)]) (st' := [.int (lg_cmp 1 999999999)]) rfl ?_
                  refine At.ic1 (tgt := 328) rfl rfl (fun h48 => ?_) (fun h48 => ?_)
                  · refine At.go (q := xm147) rfl 2 (pc' := 331) (L' := [(5, .long 1), (4, .int 1), (3, .int 0), (0, .retAddr 42), (1, .int l), (2, .int r)]) (st' := [.int (1 : Int64).toInt32]) rfl ?_
                    exact At.rt rfl (xret_i rfl) (by rw [cmb42, if_neg (xntf h1), if_pos h25, if_neg (xntf h26), if_neg (xntf h34), if_neg (xntf h42), if_pos h43, if_neg (xntf h44), if_neg (xntf h47), if_pos h48])
                  · refine At.go (q := xm147) rfl 2 (pc' := 331) (L' := [(5, .long 1), (4, .int 1), (3, .int 0), (0, .retAddr 42), (1, .int l), (2, .int r)]) (st' := [.int (-1000000000)]) rfl ?_
                    exact At.rt rfl (xret_i rfl) (by rw [cmb42, if_neg (xntf h1), if_pos h25, if_neg (xntf h26), if_neg (xntf h34), if_neg (xntf h42), if_pos h43, if_neg (xntf h44), if_neg (xntf h47), if_neg (xntf h48)])
            · refine At.go (q := xm147) rfl 1 (pc' := 91) (L' := [(4, .int 1), (3, .int 0), (0, .retAddr 42), (1, .int l), (2, .int r)]) (st' := [.retAddr 42]) rfl ?_
              refine At.gk rfl (by decide) rfl rfl ?_
              refine At.go (q := xm147) rfl 1 (pc' := 95) (L' := [(4, .int 1), (3, .int 0), (0, .retAddr 42), (1, .int l), (2, .int r)]) (st' := [.int 3, .int 3]) rfl ?_
              refine At.ic2 (tgt := 102) rfl rfl (fun h => absurd (h.symm.trans (show xcm .ne 3 3 = false by decide)) (by decide)) (fun _ => ?_)
              refine At.go (q := xm147) rfl 2 (pc' := 104) (L' := [(4, .int 1), (3, .int 0), (0, .retAddr 42), (1, .int l), (2, .int r)]) (st' := [.int 0]) rfl ?_
              exact At.rt rfl (xret_i rfl) (by rw [cmb42, if_neg (xntf h1), if_pos h25, if_neg (xntf h26), if_neg (xntf h34), if_neg (xntf h42), if_neg (xntf h43)])
    · refine At.go (q := xm147) rfl 5 (pc' := 19) (L' := [(3, .int 1), (0, .retAddr 42), (1, .int l), (2, .int r)]) (st' := [.int (-1000000000), .int r]) rfl ?_
      refine At.ic2 (tgt := 30) rfl rfl (fun h49 => ?_) (fun h49 => ?_)
      · refine At.go (q := xm147) rfl 4 (pc' := 37) (L' := [(4, .int 0), (3, .int 1), (0, .retAddr 42), (1, .int l), (2, .int r)]) (st' := [.retAddr 49, .retAddr 42]) rfl ?_
        refine At.ace (tgt := 47) (b := false) rfl rfl rfl (fun h => absurd h (by decide)) (fun _ => ?_)
        refine At.go (q := xm147) rfl 2 (pc' := 44) (L' := [(4, .int 0), (3, .int 1), (0, .retAddr 42), (1, .int l), (2, .int r)]) (st' := [.retAddr 48, .retAddr 42]) rfl ?_
        refine At.acn (tgt := 78) (b := false) rfl rfl rfl (fun _ => ?_) (fun h => absurd h (by decide))
        refine At.go (q := xm147) rfl 2 (pc' := 81) (L' := [(4, .int 0), (3, .int 1), (0, .retAddr 42), (1, .int l), (2, .int r)]) (st' := [.int (-1000000000), .int l]) rfl ?_
        refine At.ic2 (tgt := 90) rfl rfl (fun h50 => ?_) (fun h50 => ?_)
        · refine At.go (q := xm147) rfl 1 (pc' := 91) (L' := [(4, .int 0), (3, .int 1), (0, .retAddr 42), (1, .int l), (2, .int r)]) (st' := [.retAddr 42]) rfl ?_
          refine At.gk rfl (by decide) rfl rfl ?_
          refine At.go (q := xm147) rfl 1 (pc' := 95) (L' := [(4, .int 0), (3, .int 1), (0, .retAddr 42), (1, .int l), (2, .int r)]) (st' := [.int 3, .int 3]) rfl ?_
          refine At.ic2 (tgt := 102) rfl rfl (fun h => absurd (h.symm.trans (show xcm .ne 3 3 = false by decide)) (by decide)) (fun _ => ?_)
          refine At.go (q := xm147) rfl 2 (pc' := 104) (L' := [(4, .int 0), (3, .int 1), (0, .retAddr 42), (1, .int l), (2, .int r)]) (st' := [.int 0]) rfl ?_
          exact At.rt rfl (xret_i rfl) (by rw [cmb42, if_neg (xntf h1), if_neg (xntf h25), if_pos h49, if_pos h50])
        · refine At.go (q := xm147) rfl 2 (pc' := 87) (L' := [(4, .int 0), (3, .int 1), (0, .retAddr 42), (1, .int l), (2, .int r)]) (st' := [.int (-1000000000), .int r]) rfl ?_
          refine At.ic2 (tgt := 105) rfl rfl (fun h51 => ?_) (fun h51 => ?_)
          · refine At.go (q := xm147) rfl 2 (pc' := 109) (L' := [(4, .int 0), (3, .int 1), (0, .retAddr 42), (1, .int l), (2, .int r)]) (st' := [.retAddr 42, .retAddr 222]) rfl ?_
            refine At.clp (as := [.retAddr 42]) (rest := [.retAddr 222]) rfl (by decide) rfl (Nat.le_of_ble_eq_true rfl) (Nat.le_of_ble_eq_true rfl) (xrck_k (by decide) (by decide) rfl (by decide)) (Nat.le_of_ble_eq_true rfl) (m_ord42) ?_
            refine At.ak rfl rfl (by decide) rfl (by decide) rfl ?_
            refine At.go (q := xm147) rfl 3 (pc' := 223) (L' := [(4, .int 0), (3, .int 1), (0, .retAddr 42), (1, .int l), (2, .int r)]) (st' := [.int r, .int l]) rfl ?_
            refine At.ic2 (tgt := 230) rfl rfl (fun h52 => ?_) (fun h52 => ?_)
            · refine At.go (q := xm147) rfl 6 (pc' := 311) (L' := [(5, .long 0), (4, .int 0), (3, .int 1), (0, .retAddr 42), (1, .int l), (2, .int r)]) (st' := [.int (lg_cmp 0 (-999999999))]) rfl ?_
              refine At.ic1 (tgt := 323) rfl rfl (fun h53 => ?_) (fun h53 => ?_)
              · refine At.go (q := xm147) rfl 2 (pc' := 331) (L' := [(5, .long 0), (4, .int 0), (3, .int 1), (0, .retAddr 42), (1, .int l), (2, .int r)]) (st' := [.int (-1000000000)]) rfl ?_
                exact At.rt rfl (xret_i rfl) (by rw [cmb42, if_neg (xntf h1), if_neg (xntf h25), if_pos h49, if_neg (xntf h50), if_pos h51, if_pos h52, if_pos h53])
              · refine At.go (q := xm147) rfl 3 (pc' := 320) (L' := [(5, .long 0), (4, .int 0), (3, .int 1), (0, .retAddr 42), (1, .int l), (2, .int r)]) (st' := [.int (lg_cmp 0 999999999)]) rfl ?_
                refine At.ic1 (tgt := 328) rfl rfl (fun h54 => ?_) (fun h54 => ?_)
                · refine At.go (q := xm147) rfl 2 (pc' := 331) (L' := [(5, .long 0), (4, .int 0), (3, .int 1), (0, .retAddr 42), (1, .int l), (2, .int r)]) (st' := [.int (0 : Int64).toInt32]) rfl ?_
                  exact At.rt rfl (xret_i rfl) (by rw [cmb42, if_neg (xntf h1), if_neg (xntf h25), if_pos h49, if_neg (xntf h50), if_pos h51, if_pos h52, if_neg (xntf h53), if_pos h54])
                · refine At.go (q := xm147) rfl 2 (pc' := 331) (L' := [(5, .long 0), (4, .int 0), (3, .int 1), (0, .retAddr 42), (1, .int l), (2, .int r)]) (st' := [.int (-1000000000)]) rfl ?_
                  exact At.rt rfl (xret_i rfl) (by rw [cmb42, if_neg (xntf h1), if_neg (xntf h25), if_pos h49, if_neg (xntf h50), if_pos h51, if_pos h52, if_neg (xntf h53), if_neg (xntf h54)])
            · refine At.go (q := xm147) rfl 7 (pc' := 311) (L' := [(5, .long 1), (4, .int 0), (3, .int 1), (0, .retAddr 42), (1, .int l), (2, .int r)]) (st' := [.int (lg_cmp 1 (-999999999))]) rfl ?_
              refine At.ic1 (tgt := 323) rfl rfl (fun h55 => ?_) (fun h55 => ?_)
              · refine At.go (q := xm147) rfl 2 (pc' := 331) (L' := [(5, .long 1), (4, .int 0), (3, .int 1), (0, .retAddr 42), (1, .int l), (2, .int r)]) (st' := [.int (-1000000000)]) rfl ?_
                exact At.rt rfl (xret_i rfl) (by rw [cmb42, if_neg (xntf h1), if_neg (xntf h25), if_pos h49, if_neg (xntf h50), if_pos h51, if_neg (xntf h52), if_pos h55])
              · refine At.go (q := xm147) rfl 3 (pc' := 320) (L' := [(5, .long 1), (4, .int 0), (3, .int 1), (0, .retAddr 42), (1, .int l), (2, .int r)]) (st' := [.int (lg_cmp 1 999999999)]) rfl ?_
                refine At.ic1 (tgt := 328) rfl rfl (fun h56 => ?_) (fun h56 => ?_)
                · refine At.go (q := xm147) rfl 2 (pc' := 331) (L' := [(5, .long 1), (4, .int 0), (3, .int 1), (0, .retAddr 42), (1, .int l), (2, .int r)]) (st' := [.int (1 : Int64).toInt32]) rfl ?_
                  exact At.rt rfl (xret_i rfl) (by rw [cmb42, if_neg (xntf h1), if_neg (xntf h25), if_pos h49, if_neg (xntf h50), if_pos h51, if_neg (xntf h52), if_neg (xntf h55), if_pos h56])
                · refine At.go (q := xm147) rfl 2 (pc' := 331) (L' := [(5, .long 1), (4, .int 0), (3, .int 1), (0, .retAddr 42), (1, .int l), (2, .int r)]) (st' := [.int (-1000000000)]) rfl ?_
                  exact At.rt rfl (xret_i rfl) (by rw [cmb42, if_neg (xntf h1), if_neg (xntf h25), if_pos h49, if_neg (xntf h50), if_pos h51, if_neg (xntf h52), if_neg (xntf h55), if_neg (xntf h56)])
          · refine At.go (q := xm147) rfl 1 (pc' := 91) (L' := [(4, .int 0), (3, .int 1), (0, .retAddr 42), (1, .int l), (2, .int r)]) (st' := [.retAddr 42]) rfl ?_
            refine At.gk rfl (by decide) rfl rfl ?_
            refine At.go (q := xm147) rfl 1 (pc' := 95) (L' := [(4, .int 0), (3, .int 1), (0, .retAddr 42), (1, .int l), (2, .int r)]) (st' := [.int 3, .int 3]) rfl ?_
            refine At.ic2 (tgt := 102) rfl rfl (fun h => absurd (h.symm.trans (show xcm .ne 3 3 = false by decide)) (by decide)) (fun _ => ?_)
            refine At.go (q := xm147) rfl 2 (pc' := 104) (L' := [(4, .int 0), (3, .int 1), (0, .retAddr 42), (1, .int l), (2, .int r)]) (st' := [.int 0]) rfl ?_
            exact At.rt rfl (xret_i rfl) (by rw [cmb42, if_neg (xntf h1), if_neg (xntf h25), if_pos h49, if_neg (xntf h50), if_neg (xntf h51)])
      · refine At.go (q := xm147) rfl 1 (pc' := 23) (L' := [(3, .int 1), (0, .retAddr 42), (1, .int l), (2, .int r)]) (st' := [.int r]) rfl ?_
        refine At.ic1 (tgt := 30) rfl rfl (fun h57 => ?_) (fun h57 => ?_)
        · refine At.go (q := xm147) rfl 4 (pc' := 37) (L' := [(4, .int 0), (3, .int 1), (0, .retAddr 42), (1, .int l), (2, .int r)]) (st' := [.retAddr 49, .retAddr 42]) rfl ?_
          refine At.ace (tgt := 47) (b := false) rfl rfl rfl (fun h => absurd h (by decide)) (fun _ => ?_)
          refine At.go (q := xm147) rfl 2 (pc' := 44) (L' := [(4, .int 0), (3, .int 1), (0, .retAddr 42), (1, .int l), (2, .int r)]) (st' := [.retAddr 48, .retAddr 42]) rfl ?_
          refine At.acn (tgt := 78) (b := false) rfl rfl rfl (fun _ => ?_) (fun h => absurd h (by decide))
          refine At.go (q := xm147) rfl 2 (pc' := 81) (L' := [(4, .int 0), (3, .int 1), (0, .retAddr 42), (1, .int l), (2, .int r)]) (st' := [.int (-1000000000), .int l]) rfl ?_
          refine At.ic2 (tgt := 90) rfl rfl (fun h58 => ?_) (fun h58 => ?_)
          · refine At.go (q := xm147) rfl 1 (pc' := 91) (L' := [(4, .int 0), (3, .int 1), (0, .retAddr 42), (1, .int l), (2, .int r)]) (st' := [.retAddr 42]) rfl ?_
            refine At.gk rfl (by decide) rfl rfl ?_
            refine At.go (q := xm147) rfl 1 (pc' := 95) (L' := [(4, .int 0), (3, .int 1), (0, .retAddr 42), (1, .int l), (2, .int r)]) (st' := [.int 3, .int 3]) rfl ?_
            refine At.ic2 (tgt := 102) rfl rfl (fun h => absurd (h.symm.trans (show xcm .ne 3 3 = false by decide)) (by decide)) (fun _ => ?_)
            refine At.go (q := xm147) rfl 2 (pc' := 104) (L' := [(4, .int 0), (3, .int 1), (0, .retAddr 42), (1, .int l), (2, .int r)]) (st' := [.int 0]) rfl ?_
            exact At.rt rfl (xret_i rfl) (by rw [cmb42, if_neg (xntf h1), if_neg (xntf h25), if_neg (xntf h49), if_pos h57, if_pos h58])
          · refine At.go (q := xm147) rfl 2 (pc' := 87) (L' := [(4, .int 0), (3, .int 1), (0, .retAddr 42), (1, .int l), (2, .int r)]) (st' := [.int (-1000000000), .int r]) rfl ?_
            refine At.ic2 (tgt := 105) rfl rfl (fun h59 => ?_) (fun h59 => ?_)
            · refine At.go (q := xm147) rfl 2 (pc' := 109) (L' := [(4, .int 0), (3, .int 1), (0, .retAddr 42), (1, .int l), (2, .int r)]) (st' := [.retAddr 42, .retAddr 222]) rfl ?_
              refine At.clp (as := [.retAddr 42]) (rest := [.retAddr 222]) rfl (by decide) rfl (Nat.le_of_ble_eq_true rfl) (Nat.le_of_ble_eq_true rfl) (xrck_k (by decide) (by decide) rfl (by decide)) (Nat.le_of_ble_eq_true rfl) (m_ord42) ?_
              refine At.ak rfl rfl (by decide) rfl (by decide) rfl ?_
              refine At.go (q := xm147) rfl 3 (pc' := 223) (L' := [(4, .int 0), (3, .int 1), (0, .retAddr 42), (1, .int l), (2, .int r)]) (st' := [.int r, .int l]) rfl ?_
              refine At.ic2 (tgt := 230) rfl rfl (fun h60 => ?_) (fun h60 => ?_)
              · refine At.go (q := xm147) rfl 6 (pc' := 311) (L' := [(5, .long 0), (4, .int 0), (3, .int 1), (0, .retAddr 42), (1, .int l), (2, .int r)]) (st' := [.int (lg_cmp 0 (-999999999))]) rfl ?_
                refine At.ic1 (tgt := 323) rfl rfl (fun h61 => ?_) (fun h61 => ?_)
                · refine At.go (q := xm147) rfl 2 (pc' := 331) (L' := [(5, .long 0), (4, .int 0), (3, .int 1), (0, .retAddr 42), (1, .int l), (2, .int r)]) (st' := [.int (-1000000000)]) rfl ?_
                  exact At.rt rfl (xret_i rfl) (by rw [cmb42, if_neg (xntf h1), if_neg (xntf h25), if_neg (xntf h49), if_pos h57, if_neg (xntf h58), if_pos h59, if_pos h60, if_pos h61])
                · refine At.go (q := xm147) rfl 3 (pc' := 320) (L' := [(5, .long 0), (4, .int 0), (3, .int 1), (0, .retAddr 42), (1, .int l), (2, .int r)]) (st' := [.int (lg_cmp 0 999999999)]) rfl ?_
                  refine At.ic1 (tgt := 328) rfl rfl (fun h62 => ?_) (fun h62 => ?_)
                  · refine At.go (q := xm147) rfl 2 (pc' := 331) (L' := [(5, .long 0), (4, .int 0), (3, .int 1), (0, .retAddr 42), (1, .int l), (2, .int r)]) (st' := [.int (0 : Int64).toInt32]) rfl ?_
                    exact At.rt rfl (xret_i rfl) (by rw [cmb42, if_neg (xntf h1), if_neg (xntf h25), if_neg (xntf h49), if_pos h57, if_neg (xntf h58), if_pos h59, if_pos h60, if_neg (xntf h61), if_pos h62])
                  · refine At.go (q := xm147) rfl 2 (pc' := 331) (L' := [(5, .long 0), (4, .int 0), (3, .int 1), (0, .retAddr 42), (1, .int l), (2, .int r)]) (st' := [.int (-1000000000)]) rfl ?_
                    exact At.rt rfl (xret_i rfl) (by rw [cmb42, if_neg (xntf h1), if_neg (xntf h25), if_neg (xntf h49), if_pos h57, if_neg (xntf h58), if_pos h59, if_pos h60, if_neg (xntf h61), if_neg (xntf h62)])
              · refine At.go (q := xm147) rfl 7 (pc' := 311) (L' := [(5, .long 1), (4, .int 0), (3, .int 1), (0, .retAddr 42), (1, .int l), (2, .int r)]) (st' := [.int (lg_cmp 1 (-999999999))]) rfl ?_
                refine At.ic1 (tgt := 323) rfl rfl (fun h63 => ?_) (fun h63 => ?_)
                · refine At.go (q := xm147) rfl 2 (pc' := 331) (L' := [(5, .long 1), (4, .int 0), (3, .int 1), (0, .retAddr 42), (1, .int l), (2, .int r)]) (st' := [.int (-1000000000)]) rfl ?_
                  exact At.rt rfl (xret_i rfl) (by rw [cmb42, if_neg (xntf h1), if_neg (xntf h25), if_neg (xntf h49), if_pos h57, if_neg (xntf h58), if_pos h59, if_neg (xntf h60), if_pos h63])
                · refine At.go (q := xm147) rfl 3 (pc' := 320) (L' := [(5, .long 1), (4, .int 0), (3, .int 1), (0, .retAddr 42), (1, .int l), (2, .int r)]) (st' := [.int (lg_cmp 1 999999999)]) rfl ?_
                  refine At.ic1 (tgt := 328) rfl rfl (fun h64 => ?_) (fun h64 => ?_)
                  · refine At.go (q := xm147) rfl 2 (pc' := 331) (L' := [(5, .long 1), (4, .int 0), (3, .int 1), (0, .retAddr 42), (1, .int l), (2, .int r)]) (st' := [.int (1 : Int64).toInt32]) rfl ?_
                    exact At.rt rfl (xret_i rfl) (by rw [cmb42, if_neg (xntf h1), if_neg (xntf h25), if_neg (xntf h49), if_pos h57, if_neg (xntf h58), if_pos h59, if_neg (xntf h60), if_neg (xntf h63), if_pos h64])
                  · refine At.go (q := xm147) rfl 2 (pc' := 331) (L' := [(5, .long 1), (4, .int 0), (3, .int 1), (0, .retAddr 42), (1, .int l), (2, .int r)]) (st' := [.int (-1000000000)]) rfl ?_
                    exact At.rt rfl (xret_i rfl) (by rw [cmb42, if_neg (xntf h1), if_neg (xntf h25), if_neg (xntf h49), if_pos h57, if_neg (xntf h58), if_pos h59, if_neg (xntf h60), if_neg (xntf h63), if_neg (xntf h64)])
            · refine At.go (q := xm147) rfl 1 (pc' := 91) (L' := [(4, .int 0), (3, .int 1), (0, .retAddr 42), (1, .int l), (2, .int r)]) (st' := [.retAddr 42]) rfl ?_
              refine At.gk rfl (by decide) rfl rfl ?_
              refine At.go (q := xm147) rfl 1 (pc' := 95) (L' := [(4, .int 0), (3, .int 1), (0, .retAddr 42), (1, .int l), (2, .int r)]) (st' := [.int 3, .int 3]) rfl ?_
              refine At.ic2 (tgt := 102) rfl rfl (fun h => absurd (h.symm.trans (show xcm .ne 3 3 = false by decide)) (by decide)) (fun _ => ?_)
              refine At.go (q := xm147) rfl 2 (pc' := 104) (L' := [(4, .int 0), (3, .int 1), (0, .retAddr 42), (1, .int l), (2, .int r)]) (st' := [.int 0]) rfl ?_
              exact At.rt rfl (xret_i rfl) (by rw [cmb42, if_neg (xntf h1), if_neg (xntf h25), if_neg (xntf h49), if_pos h57, if_neg (xntf h58), if_neg (xntf h59)])
        · refine At.go (q := xm147) rfl 5 (pc' := 37) (L' := [(4, .int 1), (3, .int 1), (0, .retAddr 42), (1, .int l), (2, .int r)]) (st' := [.retAddr 49, .retAddr 42]) rfl ?_
          refine At.ace (tgt := 47) (b := false) rfl rfl rfl (fun h => absurd h (by decide)) (fun _ => ?_)
          refine At.go (q := xm147) rfl 2 (pc' := 44) (L' := [(4, .int 1), (3, .int 1), (0, .retAddr 42), (1, .int l), (2, .int r)]) (st' := [.retAddr 48, .retAddr 42]) rfl ?_
          refine At.acn (tgt := 78) (b := false) rfl rfl rfl (fun _ => ?_) (fun h => absurd h (by decide))
          refine At.go (q := xm147) rfl 2 (pc' := 81) (L' := [(4, .int 1), (3, .int 1), (0, .retAddr 42), (1, .int l), (2, .int r)]) (st' := [.int (-1000000000), .int l]) rfl ?_
          refine At.ic2 (tgt := 90) rfl rfl (fun h65 => ?_) (fun h65 => ?_)
          · refine At.go (q := xm147) rfl 1 (pc' := 91) (L' := [(4, .int 1), (3, .int 1), (0, .retAddr 42), (1, .int l), (2, .int r)]) (st' := [.retAddr 42]) rfl ?_
            refine At.gk rfl (by decide) rfl rfl ?_
            refine At.go (q := xm147) rfl 1 (pc' := 95) (L' := [(4, .int 1), (3, .int 1), (0, .retAddr 42), (1, .int l), (2, .int r)]) (st' := [.int 3, .int 3]) rfl ?_
            refine At.ic2 (tgt := 102) rfl rfl (fun h => absurd (h.symm.trans (show xcm .ne 3 3 = false by decide)) (by decide)) (fun _ => ?_)
            refine At.go (q := xm147) rfl 2 (pc' := 104) (L' := [(4, .int 1), (3, .int 1), (0, .retAddr 42), (1, .int l), (2, .int r)]) (st' := [.int 0]) rfl ?_
            exact At.rt rfl (xret_i rfl) (by rw [cmb42, if_neg (xntf h1), if_neg (xntf h25), if_neg (xntf h49), if_neg (xntf h57), if_pos h65])
          · refine At.go (q := xm147) rfl 2 (pc' := 87) (L' := [(4, .int 1), (3, .int 1), (0, .retAddr 42), (1, .int l), (2, .int r)]) (st' := [.int (-1000000000), .int r]) rfl ?_
            refine At.ic2 (tgt := 105) rfl rfl (fun h66 => ?_) (fun h66 => ?_)
            · refine At.go (q := xm147) rfl 2 (pc' := 109) (L' := [(4, .int 1), (3, .int 1), (0, .retAddr 42), (1, .int l), (2, .int r)]) (st' := [.retAddr 42, .retAddr 222]) rfl ?_
              refine At.clp (as := [.retAddr 42]) (rest := [.retAddr 222]) rfl (by decide) rfl (Nat.le_of_ble_eq_true rfl) (Nat.le_of_ble_eq_true rfl) (xrck_k (by decide) (by decide) rfl (by decide)) (Nat.le_of_ble_eq_true rfl) (m_ord42) ?_
              refine At.ak rfl rfl (by decide) rfl (by decide) rfl ?_
              refine At.go (q := xm147) rfl 3 (pc' := 223) (L' := [(4, .int 1), (3, .int 1), (0, .retAddr 42), (1, .int l), (2, .int r)]) (st' := [.int r, .int l]) rfl ?_
              refine At.ic2 (tgt := 230) rfl rfl (fun h67 => ?_) (fun h67 => ?_)
              · refine At.go (q := xm147) rfl 6 (pc' := 311) (L' := [(5, .long 0), (4, .int 1), (3, .int 1), (0, .retAddr 42), (1, .int l), (2, .int r)]) (st' := [.int (lg_cmp 0 (-999999999))]) rfl ?_
                refine At.ic1 (tgt := 323) rfl rfl (fun h68 => ?_) (fun h68 => ?_)
                · refine At.go (q := xm147) rfl 2 (pc' := 331) (L' := [(5, .long 0), (4, .int 1), (3, .int 1), (0, .retAddr 42), (1, .int l), (2, .int r)]) (st' := [.int (-1000000000)]) rfl ?_
                  exact At.rt rfl (xret_i rfl) (by rw [cmb42, if_neg (xntf h1), if_neg (xntf h25), if_neg (xntf h49), if_neg (xntf h57), if_neg (xntf h65), if_pos h66, if_pos h67, if_pos h68])
                · refine At.go (q := xm147) rfl 3 (pc' := 320) (L' := [(5, .long 0), (4, .int 1), (3, .int 1), (0, .retAddr 42), (1, .int l), (2, .int r)]) (st' := [.int (lg_cmp 0 999999999)]) rfl ?_
                  refine At.ic1 (tgt := 328) rfl rfl (fun h69 => ?_) (fun h69 => ?_)
                  · refine At.go (q := xm147) rfl 2 (pc' := 331) (L' := [(5, .long 0), (4, .int 1), (3, .int 1), (0, .retAddr 42), (1, .int l), (2, .int r)]) (st' := [.int (0 : Int64).toInt32]) rfl ?_
                    exact At.rt rfl (xret_i rfl) (by rw [cmb42, if_neg (xntf h1), if_neg (xntf h25), if_neg (xntf h49), if_neg (xntf h57), if_neg (xntf h65), if_pos h66, if_pos h67, if_neg (xntf h68), if_pos h69])
                  · refine At.go (q := xm147) rfl 2 (pc' := 331) (L' := [(5, .long 0), (4, .int 1), (3, .int 1), (0, .retAddr 42), (1, .int l), (2, .int r)]) (st' := [.int (-1000000000)]) rfl ?_
                    exact At.rt rfl (xret_i rfl) (by rw [cmb42, if_neg (xntf h1), if_neg (xntf h25), if_neg (xntf h49), if_neg (xntf h57), if_neg (xntf h65), if_pos h66, if_pos h67, if_neg (xntf h68), if_neg (xntf h69)])
              · refine At.go (q := xm147) rfl 7 (pc' := 311) (L' := [(5, .long 1), (4, .int 1), (3, .int 1), (0, .retAddr 42), (1, .int l), (2, .int r)]) (st' := [.int (lg_cmp 1 (-999999999))]) rfl ?_
                refine At.ic1 (tgt := 323) rfl rfl (fun h70 => ?_) (fun h70 => ?_)
                · refine At.go (q := xm147) rfl 2 (pc' := 331) (L' := [(5, .long 1), (4, .int 1), (3, .int 1), (0, .retAddr 42), (1, .int l), (2, .int r)]) (st' := [.int (-1000000000)]) rfl ?_
                  exact At.rt rfl (xret_i rfl) (by rw [cmb42, if_neg (xntf h1), if_neg (xntf h25), if_neg (xntf h49), if_neg (xntf h57), if_neg (xntf h65), if_pos h66, if_neg (xntf h67), if_pos h70])
                · refine At.go (q := xm147) rfl 3 (pc' := 320) (L' := [(5, .long 1), (4, .int 1), (3, .int 1), (0, .retAddr 42), (1, .int l), (2, .int r)]) (st' := [.int (lg_cmp 1 999999999)]) rfl ?_
                  refine At.ic1 (tgt := 328) rfl rfl (fun h71 => ?_) (fun h71 => ?_)
                  · refine At.go (q := xm147) rfl 2 (pc' := 331) (L' := [(5, .long 1), (4, .int 1), (3, .int 1), (0, .retAddr 42), (1, .int l), (2, .int r)]) (st' := [.int (1 : Int64).toInt32]) rfl ?_
                    exact At.rt rfl (xret_i rfl) (by rw [cmb42, if_neg (xntf h1), if_neg (xntf h25), if_neg (xntf h49), if_neg (xntf h57), if_neg (xntf h65), if_pos h66, if_neg (xntf h67), if_neg (xntf h70), if_pos h71])
                  · refine At.go (q := xm147) rfl 2 (pc' := 331) (L' := [(5, .long 1), (4, .int 1), (3, .int 1), (0, .retAddr 42), (1, .int l), (2, .int r)]) (st' := [.int (-1000000000)]) rfl ?_
                    exact At.rt rfl (xret_i rfl) (by rw [cmb42, if_neg (xntf h1), if_neg (xntf h25), if_neg (xntf h49), if_neg (xntf h57), if_neg (xntf h65), if_pos h66, if_neg (xntf h67), if_neg (xntf h70), if_neg (xntf h71)])
            · refine At.go (q := xm147) rfl 1 (pc' := 91) (L' := [(4, .int 1), (3, .int 1), (0, .retAddr 42), (1, .int l), (2, .int r)]) (st' := [.retAddr 42]) rfl ?_
              refine At.gk rfl (by decide) rfl rfl ?_
              refine At.go (q := xm147) rfl 1 (pc' := 95) (L' := [(4, .int 1), (3, .int 1), (0, .retAddr 42), (1, .int l), (2, .int r)]) (st' := [.int 3, .int 3]) rfl ?_
              refine At.ic2 (tgt := 102) rfl rfl (fun h => absurd (h.symm.trans (show xcm .ne 3 3 = false by decide)) (by decide)) (fun _ => ?_)
              refine At.go (q := xm147) rfl 2 (pc' := 104) (L' := [(4, .int 1), (3, .int 1), (0, .retAddr 42), (1, .int l), (2, .int r)]) (st' := [.int 0]) rfl ?_
              exact At.rt rfl (xret_i rfl) (by rw [cmb42, if_neg (xntf h1), if_neg (xntf h25), if_neg (xntf h49), if_neg (xntf h57), if_neg (xntf h65), if_neg (xntf h66)])
