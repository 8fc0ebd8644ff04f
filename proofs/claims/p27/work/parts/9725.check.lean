/-! String's own check of an index -/
theorem At.ck {S : List Int32} {d' Y pc y' k : Nat} {i : Instr} {v9 : Value} {xs : List Nat} {L : List (Nat × Value)} {r : List Value} {x1 x2 z : Int32} {hp : List XC} {nc ns : Nat} {Q : XO → Prop} (hC : xmC (xMT Y) pc = some (42, i, y', k, v9, xs)) (h1 : xsum r ≤ 7 ∧ 3 ≤ xmL (xMT y'))
    (ha : At S d' y' 0 [(0, .int x1), (1, .int x2), (2, .null)] [] [] 0 0 (fun o => o = .inl (some (.int z), [], 0, 0))) (hb : At S d' y' 0 [(0, .int x1), (1, .int x2), (2, .retAddr k)] [] [] 0 0 (fun o => o = .inl (some (.int z), [], 0, 0))) (kk : At S (d' + 1) Y (pc + 6) L (.int z :: r) hp nc ns Q) : At S (d' + 1) Y pc L (.int x2 :: .int x1 :: r) hp nc ns Q := by
  obtain ⟨n1, o1, e1, rfl⟩ := ha
  obtain ⟨n2, o2, e2, rfl⟩ := hb
  obtain ⟨n3, o3, e3, hq⟩ := kk
  have f1 := xrun_fuels (Nat.le_max_left n1 (max n2 n3)) e1
  have f2 := xrun_fuels (Nat.le_trans (Nat.le_max_left n2 n3) (Nat.le_max_right n1 (max n2 n3))) e2
  have f3 := xrun_fuels (Nat.le_trans (Nat.le_max_right n2 n3) (Nat.le_max_right n1 (max n2 n3))) e3
  refine ⟨max n1 (max n2 n3) + 1, o3, ?_, hq⟩
  rw [xrun, hC]
  show (if 42 < 20 then _ else if 42 < 30 then _ else if 42 = 40 then _ else if 42 = 41 then _ else if 42 = 42 then _ else _) = some o3
  rw [if_neg (by decide), if_neg (by decide), if_neg (by decide), if_neg (by decide), if_pos rfl]
  show (if xsum r ≤ 7 ∧ 3 ≤ xmL (xMT y') then _ else none) = some o3
  rw [if_pos h1, f1, f2]
  show (if z = z then _ else none) = some o3
  rw [if_pos rfl]
  exact f3
theorem m_pci {S : List Int32} {hp : List XC} {x n : Nat} {v : Value} (h : x < n) (hn : n ≤ 1000000) : At S 0 36 0 [(0, .int (Int32.ofNat x)), (1, .int (Int32.ofNat n)), (2, v)] [] hp 0 0 (fun o => o = .inl (some (.int (Int32.ofNat x)), hp, 0, 0)) := by
  refine At.go (q := xm36) rfl 1 (pc' := 1) (L' := [(0, .int (Int32.ofNat x)), (1, .int (Int32.ofNat n)), (2, v)]) (st' := [.int (Int32.ofNat x)]) rfl ?_
  refine At.ic1 (tgt := 9) rfl rfl (fun h => absurd (of_decide_eq_true h) (iN_nn (by omega))) (fun _ => ?_)
  refine At.go (q := xm36) rfl 2 (pc' := 6) (L' := [(0, .int (Int32.ofNat x)), (1, .int (Int32.ofNat n)), (2, v)]) (st' := [.int (Int32.ofNat n), .int (Int32.ofNat x)]) rfl ?_
  refine At.ic2 (tgt := 16) rfl rfl (fun _ => ?_) (fun h => absurd ((iN_lt (by omega) (by omega)).mpr ‹x < n›) (of_decide_eq_false h))
  refine At.go (q := xm36) rfl 1 (pc' := 17) (L' := [(0, .int (Int32.ofNat x)), (1, .int (Int32.ofNat n)), (2, v)]) (st' := [.int (Int32.ofNat x)]) rfl ?_
  exact At.rt rfl (xret_i rfl) rfl
theorem m_sci {S : List Int32} {hp : List XC} {x n : Nat} (h : x < n) (hn : n ≤ 1000000) : Me S 1 35 [.int (Int32.ofNat x), .int (Int32.ofNat n)] hp (fun v hp' c s => v = none ∧ hp' = hp ∧ c = 0 ∧ s = 0) := by
  refine At.go (q := xm35) rfl 2 (pc' := 2) (L' := [(0, .int (Int32.ofNat x)), (1, .int (Int32.ofNat n))]) (st' := [.int (Int32.ofNat n), .int (Int32.ofNat x)]) rfl ?_
  refine At.ck rfl ⟨Nat.zero_le _, by decide⟩ (m_pci h hn) (m_pci h hn) ?_
  refine At.go (q := xm35) rfl 1 (pc' := 9) (L' := [(0, .int (Int32.ofNat x)), (1, .int (Int32.ofNat n))]) (st' := []) rfl ?_
  exact At.rt rfl rfl ⟨_, _, _, _, rfl, rfl, rfl, rfl, rfl⟩
