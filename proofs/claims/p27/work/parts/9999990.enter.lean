/-! the house: erase and enter (written by wip/p27/c9999990.py) -/
theorem m_herase {S : List Int32} {hp : List XC} {H sa i z : Nat} {fs es : List Value} (hH : hp[H]? = some (.inr (14, fs))) (hf0 : fs[0]? = some (.ref sa)) (hsa : hp[sa]? = some (.inl (4, es))) (hel : es.length ≤ 100000) (hv : es[i]? = some (.ref z)) {s k zt za : Nat} {zl zn zr zc zw zb zi : Int32} (hz : hp[z]? = some (.inr (9, [.int zl, .ref zt, .int zn, .ref za, .int zr, .int zc, .int zw, .int zb, .ref s, .ref k, .int zi]))) : Me S 1 29 [.ref H, .int (Int32.ofNat i)] hp (fun v hp' c s' => v = some (.int zn) ∧ FrX (fun x => x = z) hp hp' ∧ hp'[z]? = some (.inr (9, [.int zl, .ref zt, .int 0, .ref za, .int zr, .int zc, .int zw, .int zb, .ref s, .ref k, .int zi])) ∧ c = 0 ∧ s' = 0) := by
  refine At.go (q := xm29) rfl 2 (pc' := 2) (L' := [(0, .ref H), (1, .int (Int32.ofNat i))]) (st' := [.int (Int32.ofNat i), .ref H]) rfl ?_
  refine At.clp (as := [.ref H, .int (Int32.ofNat i)]) (rest := []) rfl (by decide) rfl (Nat.le_of_ble_eq_true rfl) (Nat.le_of_ble_eq_true rfl) (xrck_o (by decide) (by decide) hH (by decide)) (Nat.le_of_ble_eq_true rfl) (m_sessionOf hH hf0 hsa hel hv) ?_
  refine At.go (q := xm29) rfl 2 (pc' := 7) (L' := [(2, .ref z), (0, .ref H), (1, .int (Int32.ofNat i))]) (st' := [.ref z]) rfl ?_
  refine At.gf rfl (by decide) hz rfl ?_
  refine At.go (q := xm29) rfl 3 (pc' := 13) (L' := [(3, .int zn), (2, .ref z), (0, .ref H), (1, .int (Int32.ofNat i))]) (st' := [.int 0, .ref z]) rfl ?_
  refine At.pf rfl hz (Nat.le_of_ble_eq_true rfl) rfl ?_
  obtain ⟨h1, eh1⟩ : ∃ h, h = hp.set z (.inr (9, [.int zl, .ref zt, .int 0, .ref za, .int zr, .int zc, .int zw, .int zb, .ref s, .ref k, .int zi])) := ⟨_, rfl⟩
  refine At.hpe eh1 ?_
  have f1 : FrX (fun x => x = z) hp h1 := by rw [eh1]; exact FrX.so hz (by decide) rfl (by decide)
  have hz1 : h1[z]? = some (.inr (9, [.int zl, .ref zt, .int 0, .ref za, .int zr, .int zc, .int zw, .int zb, .ref s, .ref k, .int zi])) := by rw [eh1]; exact xs_eq hz
  refine At.go (q := xm29) rfl 1 (pc' := 17) (L' := [(3, .int zn), (2, .ref z), (0, .ref H), (1, .int (Int32.ofNat i))]) (st' := [.int zn]) rfl ?_
  exact At.rt rfl (xret_i rfl) ⟨_, _, _, _, rfl, rfl, f1, hz1, rfl, rfl⟩
theorem m_henter {S : List Int32} {hp : List XC} {H sa i z : Nat} {fs es : List Value} (hH : hp[H]? = some (.inr (14, fs))) (hf0 : fs[0]? = some (.ref sa)) (hsa : hp[sa]? = some (.inl (4, es))) (hel : es.length ≤ 100000) (hv : es[i]? = some (.ref z)) {s k zt za l : Nat} {as bs : List Nat} {zl zn zr zc zw zb zi lb : Int32} (hz : hp[z]? = some (.inr (9, [.int zl, .ref zt, .int zn, .ref za, .int zr, .int zc, .int zw, .int zb, .ref s, .ref k, .int zi]))) (hne : ¬ l = k) (hs0 : hp[s]? = some (.inr (10, [.ref l]))) (hO : Own hp) (hL : hLs hp l as) (hK : hLs hp k bs) (hlb : isLb lb = true) : Me S 4 19 [.ref H, .int (Int32.ofNat i), .int lb] hp (fun v hp' c s' => v = some (.int zl) ∧ FrX (fun x => x = z ∨ x = l ∨ x = k) hp hp' ∧ hp'[z]? = some (.inr (9, [.int lb, .ref zt, .int 0, .ref za, .int 0, .int 0, .int 0, .int 0, .ref s, .ref k, .int zi])) ∧ hLs hp' l [] ∧ hLs hp' k [] ∧ c = 0 ∧ s' = 0 ∧ capL hp' l = capL hp l ∧ capL hp' k = capL hp k) := by
  have hil : Pu S 0 21 [.int lb] hp (.int 1) := by
    have h := m_isLabel (S := S) (hp := hp) lb
    rw [hlb] at h
    exact h
  refine At.go (q := xm19) rfl 2 (pc' := 2) (L' := [(0, .ref H), (1, .int (Int32.ofNat i)), (2, .int lb)]) (st' := [.int (Int32.ofNat i), .ref H]) rfl ?_
  refine At.clp (as := [.ref H, .int (Int32.ofNat i)]) (rest := []) rfl (by decide) rfl (Nat.le_of_ble_eq_true rfl) (Nat.le_of_ble_eq_true rfl) (xrck_o (by decide) (by decide) hH (by decide)) (Nat.le_of_ble_eq_true rfl) (m_sessionOf hH hf0 hsa hel hv) ?_
  refine At.go (q := xm19) rfl 2 (pc' := 7) (L' := [(3, .ref z), (0, .ref H), (1, .int (Int32.ofNat i)), (2, .int lb)]) (st' := [.int lb]) rfl ?_
  refine At.clp (as := [.int lb]) (rest := []) rfl (by decide) rfl (Nat.le_of_ble_eq_true rfl) (Nat.le_of_ble_eq_true rfl) rfl (Nat.le_of_ble_eq_true rfl) (hil) ?_
  refine At.go (q := xm19) rfl 2 (pc' := 22) (L' := [(3, .ref z), (0, .ref H), (1, .int (Int32.ofNat i)), (2, .int lb)]) (st' := [.ref z]) rfl ?_
  refine At.gf rfl (by decide) hz rfl ?_
  refine At.go (q := xm19) rfl 3 (pc' := 29) (L' := [(4, .int zl), (3, .ref z), (0, .ref H), (1, .int (Int32.ofNat i)), (2, .int lb)]) (st' := [.int lb, .ref z]) rfl ?_
  refine At.clm (as := [.ref z, .int lb]) (rest := []) rfl (by decide) rfl (Nat.le_of_ble_eq_true rfl) (Nat.le_of_ble_eq_true rfl) (xrck_o (by decide) (by decide) hz (by decide)) (Nat.le_of_ble_eq_true rfl) (m_enterLabel hne hs0 hO hL hK hz (lb := lb)) (fun v9 hr1 c1 s1 hv9 => ?_)
  obtain ⟨rfl, k1, k2, k3, k4, rfl, rfl, k5, k6⟩ := hv9
  refine At.go (q := xm19) rfl 1 (pc' := 34) (L' := [(4, .int zl), (3, .ref z), (0, .ref H), (1, .int (Int32.ofNat i)), (2, .int lb)]) (st' := [.int zl]) rfl ?_
  exact At.rt rfl (xret_i rfl) ⟨_, _, _, _, rfl, rfl, k1, k2, k3, k4, rfl, rfl, k5, k6⟩
