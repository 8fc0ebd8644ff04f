/-! changes: merge (written by wip/p27/c80.py) -/
/-- entries with the places of some as others have them -/
def bringAll (es own cs : List En) : List En := cs.foldl (fun a e => bringE a own (eP e)) es
theorem bringAll_s {es own cs : List En} {i : Nat} {e : En} (he : cs[i]? = some e) : bringAll es own (cs.drop i) = bringAll (bringE es own (eP e)) own (cs.drop (i + 1)) := by
  rw [xdrop_q (i := i), he]
  rfl
theorem storeE_len {es : List En} (hs : Srt es) (e : En) : (storeE es e).length ≤ es.length + 1 := by
  obtain ⟨q1, q2⟩ := srt_store hs e
  by_cases h : ∃ b, es[plc es (eP e)]? = some b ∧ eP b = eP e
  · obtain ⟨b, hb, h2⟩ := h
    rw [q1 b hb h2, List.length_set]
    omega
  · rw [q2 (fun b hb h2 => h ⟨b, hb, h2⟩), List.length_append, List.length_cons, List.length_take, List.length_drop]
    have := plc_le (es := es) (p := eP e)
    omega
theorem bringE_len {es fs : List En} (hs : Srt es) (p : Pl) : (bringE es fs p).length ≤ es.length + 1 := by
  cases h : findE fs p with
  | none =>
    rw [bring_n h]
    exact Nat.le_trans (List.length_filter_le _ _) (Nat.le_succ _)
  | some f =>
    rw [bring_s h]
    exact storeE_len hs f
theorem bringE_srt {es fs : List En} (hs : Srt es) (p : Pl) : Srt (bringE es fs p) := by
  cases h : findE fs p with
  | none =>
    rw [bring_n h]
    exact hs.filter _
  | some f =>
    rw [bring_s h]
    exact hs.store f
theorem bringAll_srt {own : List En} : ∀ (cs es : List En), Srt es → Srt (bringAll es own cs)
  | [], _, h => h
  | e :: cs, es, h => bringAll_srt cs (bringE es own (eP e)) (bringE_srt h (eP e))
theorem mg3 {S : List Int32} {ch z r m l sl : Nat} {zl zn zr zc zw zb : Int32} {zt za s k n0 : Nat} {lb al gi : Int32} {d t mm g : Nat} {bs sa : List Nat} {cs own : List En} {Q : XO → Prop} (hn1 : ¬ sl = l) (hnk : ¬ k = l) (hsF : Srt own) : ∀ (j i : Nat) (hp : List XC) (as : List Nat) (es : List En) {nc ns : Nat}, i + j = cs.length → Own hp → hp[z]? = some (.inr (9, [.int zl, .ref zt, .int zn, .ref za, .int zr, .int zc, .int zw, .int zb, .ref s, .ref k, .int (Int32.ofNat n0)])) → hp[ch]? = some (.inr (3, [.ref d, .ref t, .ref mm, .ref g, .int lb, .int al, .int gi])) → hp[d]? = some (.inr (10, [.ref l])) → hp[s]? = some (.inr (10, [.ref sl])) → hLs hp l as → hLs hp sl sa → hLs hp k bs → hEs hp as es → hEs hp sa own → hEs hp bs cs → Srt es → as.length + j ≤ 60000 →
    (∀ (hp' : List XC) (c s' : Nat), FrX (fun x => x = l) hp hp' → hSh hp' l (bringAll es own (cs.drop i)) → c + capL hp l ≤ nc + capL hp' l → s' + 4 * capL hp l ≤ ns + 4 * capL hp' l → capL hp' l ≤ max (capL hp l) (2 * (es.length + j) + 10) → At S 10 254 137 [(4, .ref k), (0, .ref ch), (1, .ref z), (2, .ref r), (3, .ref m)] [] hp' c s' Q) →
    At S 10 254 103 [(5, .int (Int32.ofNat i)), (4, .ref k), (0, .ref ch), (1, .ref z), (2, .ref r), (3, .ref m)] [] hp nc ns Q := by
  intro j
  induction j with
  | zero =>
    intro i hp as es nc ns hi hO hz hc hd0 hs0 hL hSl hK hE hF hC hs hn hk
    obtain ⟨kf, hk0⟩ := hK.ob
    have hbn := hK.len
    have hle := hC.1
    refine At.go (q := xm254) rfl 2 (pc' := 107) (L' := [(5, .int (Int32.ofNat i)), (4, .ref k), (0, .ref ch), (1, .ref z), (2, .ref r), (3, .ref m)]) (st' := [.ref k, .int (Int32.ofNat i)]) rfl ?_
    refine At.clp (as := [.ref k]) (rest := [.int (Int32.ofNat i)]) rfl (by decide) rfl (Nat.le_of_ble_eq_true rfl) (Nat.le_of_ble_eq_true rfl) (xrck_o (by decide) (by decide) hk0 (by decide)) (Nat.le_of_ble_eq_true rfl) (m_size hK) ?_
    refine At.ic2 (tgt := 137) rfl rfl (fun _ => ?_) (fun h => absurd ((iN_le (by omega) (by omega)).mpr (show bs.length ≤ i by omega)) (of_decide_eq_false h))
    refine At.wk (L' := [(4, .ref k), (0, .ref ch), (1, .ref z), (2, .ref r), (3, .ref m)]) (List.forall_mem_cons.mpr ⟨List.mem_of_getElem? (i := 1) rfl, (List.forall_mem_cons.mpr ⟨List.mem_of_getElem? (i := 2) rfl, (List.forall_mem_cons.mpr ⟨List.mem_of_getElem? (i := 3) rfl, (List.forall_mem_cons.mpr ⟨List.mem_of_getElem? (i := 4) rfl, (List.forall_mem_cons.mpr ⟨List.mem_of_getElem? (i := 5) rfl, (fun _ h => (List.not_mem_nil h).elim)⟩)⟩)⟩)⟩)⟩) (show ([5, 4, 0, 1, 2, 3] : List Nat).Nodup by decide) ?_
    exact hk hp nc ns FrX.rf ⟨as, hL, by rw [List.drop_eq_nil_of_le (by omega)]; exact hE⟩ (by omega) (by omega) (by omega)
  | succ j ih =>
    intro i hp as es nc ns hi hO hz hc hd0 hs0 hL hSl hK hE hF hC hs hn hk
    obtain ⟨kf, hk0⟩ := hK.ob
    have hbn := hK.len
    have hle := hC.1
    have hn2 : as.length ≤ 60000 := by omega
    obtain ⟨e, he⟩ : ∃ e, cs[i]? = some e := ⟨_, List.getElem?_eq_getElem (by omega)⟩
    obtain ⟨x, hx0, hX⟩ := hC.get he
    have hX9 := hX
    obtain ⟨c, xf, hx, -, -, hxt⟩ := hX9
    refine At.go (q := xm254) rfl 2 (pc' := 107) (L' := [(5, .int (Int32.ofNat i)), (4, .ref k), (0, .ref ch), (1, .ref z), (2, .ref r), (3, .ref m)]) (st' := [.ref k, .int (Int32.ofNat i)]) rfl ?_
    refine At.clp (as := [.ref k]) (rest := [.int (Int32.ofNat i)]) rfl (by decide) rfl (Nat.le_of_ble_eq_true rfl) (Nat.le_of_ble_eq_true rfl) (xrck_o (by decide) (by decide) hk0 (by decide)) (Nat.le_of_ble_eq_true rfl) (m_size hK) ?_
    refine At.ic2 (tgt := 137) rfl rfl (fun h => absurd ((iN_le (by omega) (by omega)).mp (of_decide_eq_true h)) (by omega)) (fun _ => ?_)
    refine At.go (q := xm254) rfl 3 (pc' := 118) (L' := [(5, .int (Int32.ofNat i)), (4, .ref k), (0, .ref ch), (1, .ref z), (2, .ref r), (3, .ref m)]) (st' := [.int (Int32.ofNat i), .ref k, .ref ch]) rfl ?_
    refine At.clp (as := [.ref k, .int (Int32.ofNat i)]) (rest := [.ref ch]) rfl (by decide) rfl (Nat.le_of_ble_eq_true rfl) (Nat.le_of_ble_eq_true rfl) (xrck_o (by decide) (by decide) hk0 (by decide)) (Nat.le_of_ble_eq_true rfl) (m_get hK hx0) ?_
    refine At.ca rfl hx (by decide) ?_
    refine At.go (q := xm254) rfl 1 (pc' := 125) (L' := [(5, .int (Int32.ofNat i)), (4, .ref k), (0, .ref ch), (1, .ref z), (2, .ref r), (3, .ref m)]) (st' := [.ref z, .ref x, .ref ch]) rfl ?_
    refine At.gf rfl (by decide) hz rfl ?_
    refine At.clm (as := [.ref ch, .ref x, .ref s]) (rest := []) rfl (by decide) rfl (Nat.le_of_ble_eq_true rfl) (Nat.le_of_ble_eq_true rfl) (xrck_o (by decide) (by decide) hc (by decide)) (Nat.le_of_ble_eq_true rfl) (m_ctake hc hd0 hs0 hO hL hSl hE hF hs hsF hX hn2) (fun v hp1 c1 s1 hv => ?_)
    obtain ⟨rfl, k1, ⟨a1, k2, k2e⟩, k3, k4, k5⟩ := hv
    refine At.go (q := xm254) rfl 2 (pc' := 103) (L' := [(5, .int ((Int32.ofNat i) + 1)), (4, .ref k), (0, .ref ch), (1, .ref z), (2, .ref r), (3, .ref m)]) (st' := []) rfl ?_
    rw [iN_s]
    refine At.wk (L' := [(5, .int (Int32.ofNat (i + 1))), (4, .ref k), (0, .ref ch), (1, .ref z), (2, .ref r), (3, .ref m)]) (List.forall_mem_cons.mpr ⟨List.mem_of_getElem? (i := 0) rfl, (List.forall_mem_cons.mpr ⟨List.mem_of_getElem? (i := 1) rfl, (List.forall_mem_cons.mpr ⟨List.mem_of_getElem? (i := 2) rfl, (List.forall_mem_cons.mpr ⟨List.mem_of_getElem? (i := 3) rfl, (List.forall_mem_cons.mpr ⟨List.mem_of_getElem? (i := 4) rfl, (List.forall_mem_cons.mpr ⟨List.mem_of_getElem? (i := 5) rfl, (fun _ h => (List.not_mem_nil h).elim)⟩)⟩)⟩)⟩)⟩)⟩) (show ([5, 4, 0, 1, 2, 3] : List Nat).Nodup by decide) ?_
    have hbl := bringE_len (fs := own) hs (eP e)
    have hal := k2e.1
    have hal0 := hE.1
    refine ih (i + 1) hp1 a1 _ (by omega) (k1.2.1 hO) (k1.ob hz (by decide) (ob_ne hz (by decide) hL)) (k1.ob hc (by decide) (ob_ne hc (by decide) hL)) (k1.ob hd0 (by decide) (ob_ne hd0 (by decide) hL)) (k1.ob hs0 (by decide) (ob_ne hs0 (by decide) hL)) k2 (k1.ls (fun h => hn1 h) hO hSl) (k1.ls (fun h => hnk h) hO hK) k2e (hF.fr k1) (hC.fr k1) (bringE_srt hs _) (by omega) (fun hp' c s h1 h2 h3 h4 h5 => ?_)
    exact hk hp' c s (FrX.tr k1 h1 (fun x hx => Or.inl hx)) (by rw [bringAll_s he]; exact h2) (by omega) (by omega) (by omega)
