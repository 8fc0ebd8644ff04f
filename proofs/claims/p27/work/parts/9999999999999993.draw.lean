/-! the law's draws (by hand) -/
theorem fit15_1 (z : Int32) : xfit (xFT 15 1) (.int z) = true := Bool.and_eq_true_iff.mpr ⟨decide_eq_true rfl, rfl⟩
theorem fit15_2 (z : Int32) : xfit (xFT 15 2) (.int z) = true := Bool.and_eq_true_iff.mpr ⟨decide_eq_true rfl, rfl⟩
theorem and_nn (v : Int32) : ∃ k, k < 2 ^ 31 ∧ v &&& 2147483647 = Int32.ofNat k := by
  have h1 : (v.toBitVec &&& 2147483647#32).toNat < 2 ^ 31 := by
    rw [BitVec.toNat_and]
    exact Nat.and_lt_two_pow _ (by decide)
  refine ⟨(v.toBitVec &&& 2147483647#32).toNat, h1, Int32.toBitVec.inj ?_⟩
  show v.toBitVec &&& 2147483647#32 = BitVec.ofNat 32 (v.toBitVec &&& 2147483647#32).toNat
  refine BitVec.eq_of_toNat_eq ?_
  rw [BitVec.toNat_ofNat, Nat.mod_eq_of_lt (by omega)]
section
variable {S : List Int32} {hp : List XC} {L t m x y la io : Nat} {sd top : Int32}
theorem dr_2 (hL : hp[L]? = some (.inr (15, [.retAddr 226, .int (Int32.ofNat t), .int sd, .ref x, .ref y, .ref la, .ref io, .int top]))) (ht : t ≤ 100000) (hm : 0 < m) (hm2 : m ≤ 1000) (hS : S.length ≤ 1000) : At S 1 15 25 [(0, .ref L), (1, .int (Int32.ofNat m))] [] hp 0 0 (fun o => ∃ n, n < m ∧ o = .inl (some (.int (Int32.ofNat n)), hp.set L (.inr (15, [.retAddr 226, .int (Int32.ofNat (t + 1)), .int sd, .ref x, .ref y, .ref la, .ref io, .int top])), 0, 0)) := by
  refine At.go (q := xm15) rfl 2 (pc' := 27) (L' := [(0, .ref L), (1, .int (Int32.ofNat m))]) (st' := [.ref L, .ref L]) rfl ?_
  refine At.gf rfl (by decide) hL rfl ?_
  refine At.go (q := xm15) rfl 2 (pc' := 32) (L' := [(0, .ref L), (1, .int (Int32.ofNat m))]) (st' := [.int (Int32.ofNat t + 1), .ref L]) rfl ?_
  rw [iN_s]
  refine At.pf rfl hL (Nat.le_of_ble_eq_true rfl) (fit15_1 _) ?_
  obtain ⟨h1, e1⟩ : ∃ h, h = hp.set L (.inr (15, [.retAddr 226, .int (Int32.ofNat (t + 1)), .int sd, .ref x, .ref y, .ref la, .ref io, .int top])) := ⟨_, rfl⟩
  have hL1 : h1[L]? = some (.inr (15, [.retAddr 226, .int (Int32.ofNat (t + 1)), .int sd, .ref x, .ref y, .ref la, .ref io, .int top])) := by rw [e1]; exact xs_eq hL
  refine At.hpe e1 ?_
  rw [← e1]
  refine At.go (q := xm15) rfl 1 (pc' := 36) (L' := [(0, .ref L), (1, .int (Int32.ofNat m))]) (st' := [.ref L]) rfl ?_
  refine At.gf rfl (by decide) hL1 rfl ?_
  have fin : ∀ (v : Int32), At S 1 15 84 [(0, .ref L), (1, .int (Int32.ofNat m))] [.int v] h1 0 0 (fun o => ∃ n, n < m ∧ o = .inl (some (.int (Int32.ofNat n)), h1, 0, 0)) := fun v => by
    obtain ⟨k, hk, ek⟩ := and_nn v
    refine At.go (q := xm15) rfl 5 (pc' := 90) (L' := [(2, .int v), (0, .ref L), (1, .int (Int32.ofNat m))]) (st' := [.int (Int32.ofNat m), .int (v &&& 2147483647)]) rfl ?_
    rw [ek]
    refine At.rm rfl (fun h9 => by
      have := (iN_eq (a := m) (b := 0) (by omega) (by omega)).mp h9
      omega) ?_
    have hj : k % m < m := Nat.mod_lt _ hm
    have hkm : k / m * m + k % m = k := by
      have := Nat.div_add_mod k m
      rw [Nat.mul_comm] at this
      exact this
    have e9 := (iN_rem (i := k / m) (n := m) (j := k % m) hj (by omega) (by omega)).2
    rw [hkm] at e9
    rw [e9]
    exact At.rt rfl (xret_i rfl) ⟨k % m, hj, rfl⟩
  by_cases hs : sd = 0
  · refine At.ic1 (tgt := 73) rfl rfl (fun h => by rw [hs] at h; exact absurd h (by decide)) (fun _ => ?_)
    obtain ⟨c1, hc1⟩ := m_cellL (S := S) (hp := h1) (k := t + 1) (by omega) hS
    obtain ⟨c2, hc2⟩ := m_cellL (S := S) (hp := h1) (k := t + 2) (by omega) hS
    refine At.go (q := xm15) rfl 1 (pc' := 43) (L' := [(0, .ref L), (1, .int (Int32.ofNat m))]) (st' := [.ref L]) rfl ?_
    refine At.gf rfl (by decide) hL1 rfl ?_
    refine At.go (q := xm15) rfl 1 (pc' := 47) (L' := [(0, .ref L), (1, .int (Int32.ofNat m))]) (st' := [.ref L, .retAddr 226]) rfl ?_
    refine At.gf rfl (by decide) hL1 rfl ?_
    refine At.clp (as := [.retAddr 226, .int (Int32.ofNat (t + 1))]) (rest := []) rfl (by decide) rfl (Nat.le_of_ble_eq_true rfl) (Nat.le_of_ble_eq_true rfl) rfl (Nat.le_of_ble_eq_true rfl) hc1 ?_
    refine At.go (q := xm15) rfl 1 (pc' := 54) (L' := [(0, .ref L), (1, .int (Int32.ofNat m))]) (st' := [.ref L, .int c1]) rfl ?_
    refine At.gf rfl (by decide) hL1 rfl ?_
    refine At.go (q := xm15) rfl 1 (pc' := 58) (L' := [(0, .ref L), (1, .int (Int32.ofNat m))]) (st' := [.ref L, .retAddr 226, .int c1]) rfl ?_
    refine At.gf rfl (by decide) hL1 rfl ?_
    refine At.go (q := xm15) rfl 2 (pc' := 63) (L' := [(0, .ref L), (1, .int (Int32.ofNat m))]) (st' := [.int (Int32.ofNat (t + 1) + 1), .retAddr 226, .int c1]) rfl ?_
    rw [iN_s]
    refine At.clp (as := [.retAddr 226, .int (Int32.ofNat (t + 1 + 1))]) (rest := [.int c1]) rfl (by decide) rfl (Nat.le_of_ble_eq_true rfl) (Nat.le_of_ble_eq_true rfl) rfl (Nat.le_of_ble_eq_true rfl) hc2 ?_
    refine At.go (q := xm15) rfl 4 (pc' := 84) (L' := [(0, .ref L), (1, .int (Int32.ofNat m))]) (st' := [.int (c1 ^^^ (c2.toUInt32 >>> ((7 : Int32).toUInt32 &&& Int32.toUInt32 31)).toInt32)]) rfl ?_
    exact fin _
  · refine At.ic1 (tgt := 73) rfl rfl (fun _ => ?_) (fun h => absurd h (by
      have h9 : xcm .ne sd 0 = true := by
        exact decide_eq_true hs
      rw [h9]
      decide))
    obtain ⟨c1, hc1⟩ := m_mixL (S := S) (hp := h1) (a := sd) (b := Int32.ofNat (t + 1))
    refine At.go (q := xm15) rfl 1 (pc' := 74) (L' := [(0, .ref L), (1, .int (Int32.ofNat m))]) (st' := [.ref L]) rfl ?_
    refine At.gf rfl (by decide) hL1 rfl ?_
    refine At.go (q := xm15) rfl 1 (pc' := 78) (L' := [(0, .ref L), (1, .int (Int32.ofNat m))]) (st' := [.ref L, .int sd]) rfl ?_
    refine At.gf rfl (by decide) hL1 rfl ?_
    refine At.clp (as := [.int sd, .int (Int32.ofNat (t + 1))]) (rest := []) rfl (by decide) rfl (Nat.le_of_ble_eq_true rfl) (Nat.le_of_ble_eq_true rfl) rfl (Nat.le_of_ble_eq_true rfl) hc1 ?_
    exact fin _
end
