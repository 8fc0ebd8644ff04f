/-! a draw, from two houses and the law to the same (by hand) -/
section
variable {S : List Int32} {hp : List XC} {L t m x y la io : Nat} {sd top : Int32}
theorem dr_1 (hL : hp[L]? = some (.inr (15, [.retAddr 226, .int (Int32.ofNat t), .int sd, .ref x, .ref y, .ref la, .ref io, .int top]))) (ht : t ≤ 100000) (hm : 0 < m) (hm2 : m ≤ 1000) (hS : S.length ≤ 1000) : At S 1 15 0 [(0, .ref L), (1, .int (Int32.ofNat m))] [] hp 0 0 (fun o => ∃ n s9, n < m ∧ o = .inl (some (.int (Int32.ofNat n)), (hp.set L (.inr (15, [.retAddr 226, .int (Int32.ofNat t), .int s9, .ref x, .ref y, .ref la, .ref io, .int top]))).set L (.inr (15, [.retAddr 226, .int (Int32.ofNat (t + 1)), .int s9, .ref x, .ref y, .ref la, .ref io, .int top])), 0, 0)) := by
  have fin : ∀ s9 : Int32, At S 1 15 22 [(0, .ref L), (1, .int (Int32.ofNat m))] [.int s9, .ref L] hp 0 0 (fun o => ∃ n s9, n < m ∧ o = .inl (some (.int (Int32.ofNat n)), (hp.set L (.inr (15, [.retAddr 226, .int (Int32.ofNat t), .int s9, .ref x, .ref y, .ref la, .ref io, .int top]))).set L (.inr (15, [.retAddr 226, .int (Int32.ofNat (t + 1)), .int s9, .ref x, .ref y, .ref la, .ref io, .int top])), 0, 0)) := fun s9 => by
    refine At.pf rfl hL (Nat.le_of_ble_eq_true rfl) (fit15_2 _) ?_
    obtain ⟨h1, e1⟩ : ∃ h, h = hp.set L (.inr (15, [.retAddr 226, .int (Int32.ofNat t), .int s9, .ref x, .ref y, .ref la, .ref io, .int top])) := ⟨_, rfl⟩
    have hL1 : h1[L]? = some (.inr (15, [.retAddr 226, .int (Int32.ofNat t), .int s9, .ref x, .ref y, .ref la, .ref io, .int top])) := by rw [e1]; exact xs_eq hL
    refine At.hpe e1 ?_
    obtain ⟨n9, o9, k1, n, k2, k3⟩ := dr_2 hL1 ht hm hm2 hS
    refine ⟨n9, o9, k1, n, s9, k2, ?_⟩
    rw [k3, e1]
  refine At.go (q := xm15) rfl 2 (pc' := 2) (L' := [(0, .ref L), (1, .int (Int32.ofNat m))]) (st' := [.ref L, .ref L]) rfl ?_
  refine At.gf rfl (by decide) hL rfl ?_
  by_cases hz : Int32.ofNat t = 0
  · refine At.ic1 (tgt := 18) rfl rfl (fun h => by rw [hz] at h; exact absurd h (by decide)) (fun _ => ?_)
    obtain ⟨c1, hc1⟩ := m_stir (S := S) (hp := hp) hS
    refine At.go (q := xm15) rfl 1 (pc' := 9) (L' := [(0, .ref L), (1, .int (Int32.ofNat m))]) (st' := [.ref L, .ref L]) rfl ?_
    refine At.gf rfl (by decide) hL rfl ?_
    refine At.clp (as := [.retAddr 226]) (rest := [.ref L]) rfl (by decide) rfl (Nat.le_of_ble_eq_true rfl) (Nat.le_of_ble_eq_true rfl) rfl (Nat.le_of_ble_eq_true rfl) hc1 ?_
    refine At.go (q := xm15) rfl 1 (pc' := 22) (L' := [(0, .ref L), (1, .int (Int32.ofNat m))]) (st' := [.int c1, .ref L]) rfl ?_
    exact fin _
  · refine At.ic1 (tgt := 18) rfl rfl (fun _ => ?_) (fun h => absurd h (by
      have h9 : xcm .ne (Int32.ofNat t) 0 = true := decide_eq_true hz
      rw [h9]
      decide))
    refine At.go (q := xm15) rfl 1 (pc' := 19) (L' := [(0, .ref L), (1, .int (Int32.ofNat m))]) (st' := [.ref L, .ref L]) rfl ?_
    refine At.gf rfl (by decide) hL rfl ?_
    exact fin _
end
/-- a draw -/
theorem m_draw {S : List Int32} {A B : Nat → Nat} {L la io : Nat} {hp : List XC} {ow : Nat → Nat} {M N : HM} {lbs ops : List Int32} {top : Int32} {dt pc ps m : Nat} (W : W2 A B L la io hp ow M N lbs ops top dt pc ps) (hd : dt + 1 ≤ 100000) (hS : S.length ≤ 1000) (hm : 0 < m) (hm2 : m ≤ 1000) : Me S 1 15 [.ref L, .int (Int32.ofNat m)] hp (fun v hp' c s => ∃ n, n < m ∧ v = some (.int (Int32.ofNat n)) ∧ S2 A B L la io hp hp' ow M N lbs ops top (dt + 1) pc ps c s 0 0) := by
  obtain ⟨rx, ry, px, lx, py, ly, hx, hy, hl, e1, e2⟩ := W
  obtain ⟨⟨t, sd, t1, t2, t3⟩, h4, h5, h6, h7, o1, o2, o3⟩ := hl
  obtain ⟨n9, o9, k1, n, s9, k2, k3⟩ := dr_1 (S := S) (m := m) t3 (by omega) hm hm2 hS
  refine ⟨n9, o9, k1, _, _, 0, 0, k3, n, k2, rfl, ?_⟩
  have fa : FrX (fun a => a = L) hp (hp.set L (.inr (15, [.retAddr 226, .int (Int32.ofNat t), .int s9, .ref (A 0), .ref (B 0), .ref la, .ref io, .int top]))) := FrX.so t3 (by decide) rfl (by decide)
  have g1 : (hp.set L (.inr (15, [.retAddr 226, .int (Int32.ofNat t), .int s9, .ref (A 0), .ref (B 0), .ref la, .ref io, .int top])))[L]? = some (.inr (15, [.retAddr 226, .int (Int32.ofNat t), .int s9, .ref (A 0), .ref (B 0), .ref la, .ref io, .int top])) := xs_eq t3
  have fb := FrX.so (gs := [.retAddr 226, .int (Int32.ofNat (t + 1)), .int s9, .ref (A 0), .ref (B 0), .ref la, .ref io, .int top]) g1 (by decide) rfl (by decide)
  have f : FrX (fun a => a = L) hp ((hp.set L (.inr (15, [.retAddr 226, .int (Int32.ofNat t), .int s9, .ref (A 0), .ref (B 0), .ref la, .ref io, .int top]))).set L (.inr (15, [.retAddr 226, .int (Int32.ofNat (t + 1)), .int s9, .ref (A 0), .ref (B 0), .ref la, .ref io, .int top]))) := FrX.tr fa fb (fun x hx9 => Or.inl hx9)
  have g2 := xs_eq (c' := .inr (15, [.retAddr 226, .int (Int32.ofNat (t + 1)), .int s9, .ref (A 0), .ref (B 0), .ref la, .ref io, .int top])) g1
  revert f g2
  generalize (hp.set L (.inr (15, [.retAddr 226, .int (Int32.ofNat t), .int s9, .ref (A 0), .ref (B 0), .ref la, .ref io, .int top]))).set L (.inr (15, [.retAddr 226, .int (Int32.ofNat (t + 1)), .int s9, .ref (A 0), .ref (B 0), .ref la, .ref io, .int top])) = hp'
  intro f g2
  have f9 : FrX (fun a => (fun n => n = 2000) (ow a)) hp hp' := f.mono (fun x _ hx9 => by rw [hx9]; exact o1)
  obtain ⟨hx', ex⟩ := hx.off f9 (fun _ _ => rfl) (fun n h1 h2 h3 => by have h3' : n = 2000 := h3; omega)
  obtain ⟨hy', ey⟩ := hy.off f9 (fun _ _ => rfl) (fun n h1 h2 h3 => by have h3' : n = 2000 := h3; omega)
  refine ⟨ow, pc, ps, fun _ _ => rfl, ⟨rx, ry, px, lx, py, ly, hx', hy', ⟨⟨t + 1, s9, by omega, hd, g2⟩, f9.ar h4 (by decide) (fun z => by have z' : ow la = 2000 := z; omega), h5, f9.ar h6 (by decide) (fun z => by have z' : ow io = 2000 := z; omega), h7, o1, o2, o3⟩, by rw [ex, ey]; exact e1, by rw [ex, ey]; exact e2⟩, f9.mono (fun x _ hx9 => by have h3' : ow x = 2000 := hx9; omega), by omega, by omega⟩
