/-! sessions: hasChanged, addChanged, stopBusy, startBusy, enterLabel (written by wip/p27/c74.py) -/
/-- whether one of some places is the place of an entry -/
def hasCE (fs : List En) (e : En) : Bool := fs.any (fun f => decide (eP f = eP e))
/-- some places with those of others that are not there -/
def addCE (fs ts : List En) : List En := ts.foldl (fun a e => if hasCE a e = true then a else a ++ [e]) fs
theorem addCE_s {fs ts : List En} {i : Nat} {e : En} (he : ts[i]? = some e) : addCE fs (ts.drop i) = addCE (if hasCE fs e = true then fs else fs ++ [e]) (ts.drop (i + 1)) := by
  rw [xdrop_q (i := i), he]
  rfl
theorem hc_loop {nc ns : Nat} {S : List Int32} {hp : List XC} {z s k x : Nat} {zl zn zr zc zw zb zi : Int32} {zt za : Nat} {bs : List Nat} {fs : List En} {e : En} (hz : hp[z]? = some (.inr (9, [.int zl, .ref zt, .int zn, .ref za, .int zr, .int zc, .int zw, .int zb, .ref s, .ref k, .int zi]))) (hK : hLs hp k bs) (hF : hEs hp bs fs) (hX : hEn hp x e) : ∀ (j i : Nat), i + j = fs.length →
    At S 3 188 2 [(2, .int (Int32.ofNat i)), (0, .ref z), (1, .ref x)] [] hp nc ns (fun o => o = .inl (some (bv ((fs.drop i).any (fun f => decide (eP f = eP e)))), hp, nc, ns)) := by
  obtain ⟨lf, hk0⟩ := hK.ob
  have hbn := hK.len
  have hle := hF.1
  obtain ⟨c, xf, hx, -, -, hxt⟩ := hX
  intro j
  induction j with
  | zero =>
    intro i hi
    refine At.go (q := xm188) rfl 2 (pc' := 4) (L' := [(2, .int (Int32.ofNat i)), (0, .ref z), (1, .ref x)]) (st' := [.ref z, .int (Int32.ofNat i)]) rfl ?_
    refine At.gf rfl (by decide) hz rfl ?_
    refine At.clp (as := [.ref k]) (rest := [.int (Int32.ofNat i)]) rfl (by decide) rfl (Nat.le_of_ble_eq_true rfl) (Nat.le_of_ble_eq_true rfl) (xrck_o (by decide) (by decide) hk0 (by decide)) (Nat.le_of_ble_eq_true rfl) (m_size hK) ?_
    refine At.ic2 (tgt := 39) rfl rfl (fun _ => ?_) (fun h => absurd ((iN_le (by omega) (by omega)).mpr (show bs.length ≤ i by omega)) (of_decide_eq_false h))
    refine At.go (q := xm188) rfl 1 (pc' := 40) (L' := [(2, .int (Int32.ofNat i)), (0, .ref z), (1, .ref x)]) (st' := [.int 0]) rfl ?_
    exact At.rt rfl rfl (by rw [List.drop_eq_nil_of_le (by omega)]; rfl)
  | succ j ih =>
    intro i hi
    obtain ⟨b, he⟩ : ∃ b, fs[i]? = some b := ⟨_, List.getElem?_eq_getElem (by omega)⟩
    obtain ⟨w, hw0, hW⟩ := hF.get he
    obtain ⟨d, wf, hw, -, -, hwt⟩ := hW
    refine At.go (q := xm188) rfl 2 (pc' := 4) (L' := [(2, .int (Int32.ofNat i)), (0, .ref z), (1, .ref x)]) (st' := [.ref z, .int (Int32.ofNat i)]) rfl ?_
    refine At.gf rfl (by decide) hz rfl ?_
    refine At.clp (as := [.ref k]) (rest := [.int (Int32.ofNat i)]) rfl (by decide) rfl (Nat.le_of_ble_eq_true rfl) (Nat.le_of_ble_eq_true rfl) (xrck_o (by decide) (by decide) hk0 (by decide)) (Nat.le_of_ble_eq_true rfl) (m_size hK) ?_
    refine At.ic2 (tgt := 39) rfl rfl (fun h => absurd ((iN_le (by omega) (by omega)).mp (of_decide_eq_true h)) (by omega)) (fun _ => ?_)
    refine At.go (q := xm188) rfl 1 (pc' := 14) (L' := [(2, .int (Int32.ofNat i)), (0, .ref z), (1, .ref x)]) (st' := [.ref z]) rfl ?_
    refine At.gf rfl (by decide) hz rfl ?_
    refine At.go (q := xm188) rfl 1 (pc' := 18) (L' := [(2, .int (Int32.ofNat i)), (0, .ref z), (1, .ref x)]) (st' := [.int (Int32.ofNat i), .ref k]) rfl ?_
    refine At.clp (as := [.ref k, .int (Int32.ofNat i)]) (rest := []) rfl (by decide) rfl (Nat.le_of_ble_eq_true rfl) (Nat.le_of_ble_eq_true rfl) (xrck_o (by decide) (by decide) hk0 (by decide)) (Nat.le_of_ble_eq_true rfl) (m_get hK hw0) ?_
    refine At.ca rfl hw (by decide) ?_
    refine At.go (q := xm188) rfl 1 (pc' := 25) (L' := [(2, .int (Int32.ofNat i)), (0, .ref z), (1, .ref x)]) (st' := [.ref x, .ref w]) rfl ?_
    refine At.clp (as := [.ref w, .ref x]) (rest := []) rfl (by decide) rfl (Nat.le_of_ble_eq_true rfl) (Nat.le_of_ble_eq_true rfl) (xrck_o (by decide) (by decide) hw (by decide)) (Nat.le_of_ble_eq_true rfl) (m_isBeside hw hwt hx hxt) ?_
    refine At.ic1 (tgt := 33) rfl rfl (fun h28 => ?_) (fun h28 => ?_)
    · refine At.go (q := xm188) rfl 2 (pc' := 2) (L' := [(2, .int ((Int32.ofNat i) + 1)), (0, .ref z), (1, .ref x)]) (st' := []) rfl ?_
      rw [iN_s]
      refine At.wk (L' := [(2, .int (Int32.ofNat (i + 1))), (0, .ref z), (1, .ref x)]) (List.forall_mem_cons.mpr ⟨List.mem_of_getElem? (i := 0) rfl, (List.forall_mem_cons.mpr ⟨List.mem_of_getElem? (i := 1) rfl, (List.forall_mem_cons.mpr ⟨List.mem_of_getElem? (i := 2) rfl, (fun _ h => (List.not_mem_nil h).elim)⟩)⟩)⟩) (show ([2, 0, 1] : List Nat).Nodup by decide) ?_
      have hne : ¬ eP b = eP e := fun h => of_decide_eq_false (bI0 (of_decide_eq_true h28)) (cmp_zero.mpr h)
      rw [xdrop_q (i := i), he, Option.toList_some, List.singleton_append, List.any_cons, decide_eq_false hne, Bool.false_or]
      exact ih (i + 1) (by omega)
    · have hne : eP b = eP e := (cmp_zero (p := eP b) (q := eP e)).mp (of_decide_eq_true (bI1 (of_decide_eq_false h28)))
      refine At.go (q := xm188) rfl 1 (pc' := 32) (L' := [(2, .int (Int32.ofNat i)), (0, .ref z), (1, .ref x)]) (st' := [.int 1]) rfl ?_
      exact At.rt rfl rfl (by rw [xdrop_q (i := i), he, Option.toList_some, List.singleton_append, List.any_cons, decide_eq_true hne]; rfl)
/-- hasChanged -/
theorem m_hasChanged {S : List Int32} {hp : List XC} {z s k x : Nat} {zl zn zr zc zw zb zi : Int32} {zt za : Nat} {bs : List Nat} {fs : List En} {e : En} (hz : hp[z]? = some (.inr (9, [.int zl, .ref zt, .int zn, .ref za, .int zr, .int zc, .int zw, .int zb, .ref s, .ref k, .int zi]))) (hK : hLs hp k bs) (hF : hEs hp bs fs) (hX : hEn hp x e) : Pu S 3 188 [.ref z, .ref x] hp (bv (hasCE fs e)) := by
  refine At.go (q := xm188) rfl 2 (pc' := 2) (L' := [(2, .int 0), (0, .ref z), (1, .ref x)]) (st' := []) rfl ?_
  exact hc_loop hz hK hF hX fs.length 0 (by omega)
theorem ac_loop {S : List Int32} {z s k m : Nat} {zl zn zr zc zw zb zi : Int32} {zt za : Nat} {ms : List Nat} {ts : List En} (hne : k ≠ m) : ∀ (j i : Nat) (hp : List XC) (bs : List Nat) (fs : List En) {nc ns : Nat}, i + j = ts.length → hp[z]? = some (.inr (9, [.int zl, .ref zt, .int zn, .ref za, .int zr, .int zc, .int zw, .int zb, .ref s, .ref k, .int zi])) → Own hp → hLs hp k bs → hLs hp m ms → hEs hp bs fs → hEs hp ms ts → bs.length + j ≤ 60000 →
    At S 7 187 2 [(2, .int (Int32.ofNat i)), (0, .ref z), (1, .ref m)] [] hp nc ns (fun o => ∃ hp' c s, o = .inl (none, hp', c, s) ∧ FrX (fun x => x = k) hp hp' ∧ hSh hp' k (addCE fs (ts.drop i)) ∧ c + capL hp k ≤ nc + capL hp' k ∧ s + 4 * capL hp k ≤ ns + 4 * capL hp' k ∧ capL hp' k ≤ max (capL hp k) (2 * (bs.length + j) + 10)) := by
  intro j
  induction j with
  | zero =>
    intro i hp bs fs nc ns hi hz hO hK hM hF hT hn
    obtain ⟨kf, hk0⟩ := hK.ob
    obtain ⟨mf, hm0⟩ := hM.ob
    have hbn := hM.len
    have hle := hT.1
    refine At.go (q := xm187) rfl 2 (pc' := 4) (L' := [(2, .int (Int32.ofNat i)), (0, .ref z), (1, .ref m)]) (st' := [.ref m, .int (Int32.ofNat i)]) rfl ?_
    refine At.clp (as := [.ref m]) (rest := [.int (Int32.ofNat i)]) rfl (by decide) rfl (Nat.le_of_ble_eq_true rfl) (Nat.le_of_ble_eq_true rfl) (xrck_o (by decide) (by decide) hm0 (by decide)) (Nat.le_of_ble_eq_true rfl) (m_size hM) ?_
    refine At.ic2 (tgt := 42) rfl rfl (fun _ => ?_) (fun h => absurd ((iN_le (by omega) (by omega)).mpr (show ms.length ≤ i by omega)) (of_decide_eq_false h))
    refine At.rt rfl rfl ⟨hp, nc, ns, rfl, FrX.rf, ⟨bs, hK, ?_⟩, by omega, by omega, by omega⟩
    rw [List.drop_eq_nil_of_le (by omega)]
    exact hF
  | succ j ih =>
    intro i hp bs fs nc ns hi hz hO hK hM hF hT hn
    obtain ⟨kf, hk0⟩ := hK.ob
    obtain ⟨mf, hm0⟩ := hM.ob
    have hbn := hM.len
    have hle := hT.1
    have hn2 : bs.length ≤ 60000 := by omega
    obtain ⟨e, he⟩ : ∃ e, ts[i]? = some e := ⟨_, List.getElem?_eq_getElem (by omega)⟩
    obtain ⟨x, hx0, hX⟩ := hT.get he
    have hX9 := hX
    obtain ⟨c, xf, hx, -, -, hxt⟩ := hX9
    refine At.go (q := xm187) rfl 2 (pc' := 4) (L' := [(2, .int (Int32.ofNat i)), (0, .ref z), (1, .ref m)]) (st' := [.ref m, .int (Int32.ofNat i)]) rfl ?_
    refine At.clp (as := [.ref m]) (rest := [.int (Int32.ofNat i)]) rfl (by decide) rfl (Nat.le_of_ble_eq_true rfl) (Nat.le_of_ble_eq_true rfl) (xrck_o (by decide) (by decide) hm0 (by decide)) (Nat.le_of_ble_eq_true rfl) (m_size hM) ?_
    refine At.ic2 (tgt := 42) rfl rfl (fun h => absurd ((iN_le (by omega) (by omega)).mp (of_decide_eq_true h)) (by omega)) (fun _ => ?_)
    refine At.go (q := xm187) rfl 2 (pc' := 12) (L' := [(2, .int (Int32.ofNat i)), (0, .ref z), (1, .ref m)]) (st' := [.int (Int32.ofNat i), .ref m]) rfl ?_
    refine At.clp (as := [.ref m, .int (Int32.ofNat i)]) (rest := []) rfl (by decide) rfl (Nat.le_of_ble_eq_true rfl) (Nat.le_of_ble_eq_true rfl) (xrck_o (by decide) (by decide) hm0 (by decide)) (Nat.le_of_ble_eq_true rfl) (m_get hM hx0) ?_
    refine At.ca rfl hx (by decide) ?_
    refine At.go (q := xm187) rfl 3 (pc' := 21) (L' := [(3, .ref x), (2, .int (Int32.ofNat i)), (0, .ref z), (1, .ref m)]) (st' := [.ref x, .ref z]) rfl ?_
    refine At.clp (as := [.ref z, .ref x]) (rest := []) rfl (by decide) rfl (Nat.le_of_ble_eq_true rfl) (Nat.le_of_ble_eq_true rfl) (xrck_o (by decide) (by decide) hz (by decide)) (Nat.le_of_ble_eq_true rfl) (m_hasChanged hz hK hF hX) ?_
    refine At.ic1 (tgt := 36) rfl rfl (fun h24 => ?_) (fun h24 => ?_)
    · refine At.go (q := xm187) rfl 2 (pc' := 2) (L' := [(2, .int ((Int32.ofNat i) + 1)), (3, .ref x), (0, .ref z), (1, .ref m)]) (st' := []) rfl ?_
      rw [iN_s]
      refine At.wk (L' := [(2, .int (Int32.ofNat (i + 1))), (0, .ref z), (1, .ref m)]) (List.forall_mem_cons.mpr ⟨List.mem_of_getElem? (i := 0) rfl, (List.forall_mem_cons.mpr ⟨List.mem_of_getElem? (i := 2) rfl, (List.forall_mem_cons.mpr ⟨List.mem_of_getElem? (i := 3) rfl, (fun _ h => (List.not_mem_nil h).elim)⟩)⟩)⟩) (show ([2, 3, 0, 1] : List Nat).Nodup by decide) ?_
      rw [addCE_s he, if_pos (bI1 (of_decide_eq_true h24))]
      refine (ih (i + 1) hp bs fs (by omega) hz hO hK hM hF hT (by omega)).mono (fun o h => ?_)
      obtain ⟨hp', c, s, h1, h2, h3, h4, h5, h6⟩ := h
      exact ⟨hp', c, s, h1, h2, h3, h4, h5, by omega⟩
    · refine At.go (q := xm187) rfl 1 (pc' := 28) (L' := [(3, .ref x), (2, .int (Int32.ofNat i)), (0, .ref z), (1, .ref m)]) (st' := [.ref z]) rfl ?_
      refine At.gf rfl (by decide) hz rfl ?_
      refine At.go (q := xm187) rfl 1 (pc' := 32) (L' := [(3, .ref x), (2, .int (Int32.ofNat i)), (0, .ref z), (1, .ref m)]) (st' := [.ref x, .ref k]) rfl ?_
      refine At.clm (as := [.ref k, .ref x]) (rest := []) rfl (by decide) rfl (Nat.le_of_ble_eq_true rfl) (Nat.le_of_ble_eq_true rfl) (xrck_o (by decide) (by decide) hk0 (by decide)) (Nat.le_of_ble_eq_true rfl) (m_add hO hK hX.ob hn2) (fun v hp1 c1 s1 hv => ?_)
      obtain ⟨rfl, k1, k2, k3, k4, k5⟩ := hv
      refine At.go (q := xm187) rfl 3 (pc' := 2) (L' := [(2, .int ((Int32.ofNat i) + 1)), (3, .ref x), (0, .ref z), (1, .ref m)]) (st' := []) rfl ?_
      rw [iN_s]
      refine At.wk (L' := [(2, .int (Int32.ofNat (i + 1))), (0, .ref z), (1, .ref m)]) (List.forall_mem_cons.mpr ⟨List.mem_of_getElem? (i := 0) rfl, (List.forall_mem_cons.mpr ⟨List.mem_of_getElem? (i := 2) rfl, (List.forall_mem_cons.mpr ⟨List.mem_of_getElem? (i := 3) rfl, (fun _ h => (List.not_mem_nil h).elim)⟩)⟩)⟩) (show ([2, 3, 0, 1] : List Nat).Nodup by decide) ?_
      have hb : ¬ hasCE fs e = true := by rw [bI0 (xne_f h24)]; decide
      rw [addCE_s he, if_neg hb]
      refine (ih (i + 1) hp1 _ _ (by omega) (k1.ob hz (by decide) (ob_ne hz (by decide) hK)) (k1.2.1 hO) k2 (k1.ls (fun h => hne h.symm) hO hM) ((hF.fr k1).app (hEs.one (hX.fr k1))) (hT.fr k1) (by rw [List.length_append, List.length_singleton]; omega)).mono (fun o h => ?_)
      obtain ⟨hp', c, s, h1, h2, h3, h4, h5, h6⟩ := h
      rw [List.length_append, List.length_singleton] at h6 k5
      exact ⟨hp', c, s, h1, FrX.tr k1 h2 (fun x hx => Or.inl hx), h3, by omega, by omega, by omega⟩
/-- addChanged -/
theorem m_addChanged {S : List Int32} {hp : List XC} {z s k m : Nat} {zl zn zr zc zw zb zi : Int32} {zt za : Nat} {bs ms : List Nat} {fs ts : List En} (hne : k ≠ m) (hz : hp[z]? = some (.inr (9, [.int zl, .ref zt, .int zn, .ref za, .int zr, .int zc, .int zw, .int zb, .ref s, .ref k, .int zi]))) (hO : Own hp) (hK : hLs hp k bs) (hM : hLs hp m ms) (hF : hEs hp bs fs) (hT : hEs hp ms ts) (hn : bs.length + ms.length ≤ 60000) : Me S 7 187 [.ref z, .ref m] hp (fun v hp' c s => v = none ∧ FrX (fun x => x = k) hp hp' ∧ hSh hp' k (addCE fs ts) ∧ c + capL hp k ≤ capL hp' k ∧ s + 4 * capL hp k ≤ 4 * capL hp' k ∧ capL hp' k ≤ max (capL hp k) (2 * (bs.length + ts.length) + 10)) := by
  refine At.go (q := xm187) rfl 2 (pc' := 2) (L' := [(2, .int 0), (0, .ref z), (1, .ref m)]) (st' := []) rfl ?_
  refine (ac_loop hne ts.length 0 hp bs fs (by omega) hz hO hK hM hF hT (by rw [← hT.1]; exact hn)).mono (fun o h => ?_)
  obtain ⟨hp', c, s, h1, h2, h3, h4, h5, h6⟩ := h
  have hl2 := hT.1
  exact ⟨_, _, _, _, h1, rfl, h2, h3, by omega, by omega, by omega⟩
