/-! texts: String and StringBuilder (written by wip/p27/c999999999995.py) -/
def bV (n : Nat) : Value := .int (Int32.ofNat n)
def bL (cs : List Nat) : List Value := cs.map bV
def cOk (cs : List Nat) : Prop := ∀ c ∈ cs, c < 128
theorem bL_len {cs : List Nat} : (bL cs).length = cs.length := List.length_map ..
theorem bL_app {cs ds : List Nat} : bL (cs ++ ds) = bL cs ++ bL ds := List.map_append ..
/-- a text: in the heap, or one of the constants -/
def hTx (hp : List XC) (v : Value) (cs : List Nat) : Prop := cOk cs ∧ cs.length ≤ 1000 ∧ ((∃ (a va : Nat) (r : List Value), v = .ref a ∧ hp[a]? = some (.inr (0, .ref va :: .int 0 :: r)) ∧ hp[va]? = some (.inl (2, bL cs))) ∨ (∃ (k vk : Nat) (r : List Value), v = .retAddr k ∧ xKC[k]? = some (.inr (0, .retAddr vk :: .int 0 :: r)) ∧ xKC[vk]? = some (.inl (2, bL cs))))
theorem sh0 (n : Nat) (h : n < 2 ^ 31) : Int32.ofNat n >>> ((0 : Int32) &&& 31) = Int32.ofNat n := by
  have := pk_shrN h ((0 : Int32) &&& 31) 0 (by decide)
  rw [Nat.pow_zero, Nat.div_one] at this
  exact this
theorem shl0 (x : Int32) : x <<< ((0 : Int32) &&& 31) = x := by
  rw [show ((0 : Int32) &&& 31) = 0 by decide]
  exact Int32.shiftLeft_zero
theorem b_fit {c : Nat} (h : c < 128) : fits .byte (.int (Int32.ofNat c)) = true := by
  have : ∀ c, c < 128 → fits .byte (.int (Int32.ofNat c)) = true := by decide +kernel
  exact this c h
theorem b_and {c : Nat} (h : c < 128) : (((Int32.ofNat c) &&& 255).toUInt32 % 65536).toInt32 = Int32.ofNat c := by
  have : ∀ c, c < 128 → (((Int32.ofNat c) &&& 255).toUInt32 % 65536).toInt32 = Int32.ofNat c := by decide +kernel
  exact this c h
theorem b_nar {c : Nat} (h : c < 128) : vp_nar (xTy 2) (Int32.ofNat c) = Int32.ofNat c := by
  have : ∀ c, c < 128 → vp_nar (xTy 2) (Int32.ofNat c) = Int32.ofNat c := by decide +kernel
  exact this c h
theorem c_fit {c : Nat} (h : c < 128) : xfit .char (.int (Int32.ofNat c)) = true := by
  have : ∀ c, c < 128 → xfit .char (.int (Int32.ofNat c)) = true := by decide +kernel
  exact this c h
theorem xst18 {z : XP} {nL pc : Nat} {L : List (Nat × Value)} {st : List Value} {hp : List XC} : xstep z nL (18, .nop, 0, 0, .null, []) pc L st hp = (xsld z st).map (fun q => (pc + 1, L, q, hp, 0, 0)) := rfl
theorem xst19 {z : XP} {nL pc : Nat} {L : List (Nat × Value)} {st : List Value} {hp : List XC} : xstep z nL (19, .nop, 0, 0, .null, []) pc L st hp = (xsln z st).map (fun q => (pc + 1, L, q, hp, 0, 0)) := rfl
theorem xsld_c {z : XP} {j x : Int32} {st : List Value} {k : Nat} (hk : k = z.2.2.2.2.2.1.length) (h0 : ¬ j < 0) (hj : z.2.2.2.2.2.2[j.toNatClampNeg]? = some x) : xsld z (.int j :: .retAddr k :: st) = some (.int x :: st) := by
  unfold xsld
  dsimp only
  rw [if_pos ⟨hk, h0⟩, hj]
  rfl
theorem xsln_c {z : XP} {st : List Value} {k : Nat} (hk : k = z.2.2.2.2.2.1.length) : xsln z (.retAddr k :: st) = some (.int (Int32.ofNat z.2.2.2.2.2.2.length) :: st) := by
  unfold xsln
  dsimp only
  rw [if_pos hk]
/-- numbers of the script -/
theorem At.sl {S : List Int32} {d Y pc : Nat} {L : List (Nat × Value)} {st : List Value} {hp : List XC} {nc ns : Nat} {Q : XO → Prop} {j x : Int32} (hC : xmC (xMT Y) pc = some (18, .nop, 0, 0, .null, [])) (h0 : ¬ j < 0) (hj : S[j.toNatClampNeg]? = some x) (kk : At S d Y (pc + 1) L (.int x :: st) hp nc ns Q) : At S d Y pc L (.int j :: .retAddr 226 :: st) hp nc ns Q := by
  refine At.low hC (show 18 < 20 by decide) (g := (pc + 1, L, .int x :: st, hp, 0, 0)) ?_ kk
  rw [xst18, xsld_c (z := xZ S) xkA_ok.2.2.2.2.2.symm h0 hj]
  rfl
theorem At.sn {S : List Int32} {d Y pc : Nat} {L : List (Nat × Value)} {st : List Value} {hp : List XC} {nc ns : Nat} {Q : XO → Prop} (hC : xmC (xMT Y) pc = some (19, .nop, 0, 0, .null, [])) (kk : At S d Y (pc + 1) L (.int (Int32.ofNat S.length) :: st) hp nc ns Q) : At S d Y pc L (.retAddr 226 :: st) hp nc ns Q := by
  refine At.low hC (show 19 < 20 by decide) (g := (pc + 1, L, .int (Int32.ofNat S.length) :: st, hp, 0, 0)) ?_ kk
  rw [xst19, xsln_c (z := xZ S) xkA_ok.2.2.2.2.2.symm]
  rfl
/-- bytes are copied -/
theorem At.cpb {S : List Int32} {d Y pc : Nat} {L : List (Nat × Value)} {st : List Value} {hp : List XC} {nc ns : Nat} {Q : XO → Prop} {a0 a1 sp dp n : Nat} {e0 e1 : List Value} (hC : xmC (xMT Y) pc = some (20, .nop, 0, 0, .null, [])) (hd : 1 ≤ d) (h0 : hp[a0]? = some (.inl (2, e0))) (h1 : hp[a1]? = some (.inl (2, e1))) (hsp : sp + n ≤ e0.length) (hdp : dp + n ≤ e1.length) (hl0 : e0.length < 2 ^ 31) (hl1 : e1.length < 2 ^ 31) (he : ∀ v ∈ e0, ∃ c, c < 128 ∧ v = bV c) (hs : xsum st ≤ 8) (kk : At S d Y (pc + 3) L st (hp.set a1 (.inl (2, xcpl e0 e1 sp dp n))) nc ns Q) : At S d Y pc L (.int (Int32.ofNat n) :: .int (Int32.ofNat dp) :: .ref a1 :: .int (Int32.ofNat sp) :: .ref a0 :: st) hp nc ns Q := by
  refine At.sp hC ⟨by decide, by decide⟩ (g := (st, hp.set a1 (.inl (2, xcpl e0 e1 sp dp n)))) ?_ kk
  have key : xcpy (xZ S) hp (.int (Int32.ofNat n) :: .int (Int32.ofNat dp) :: .ref a1 :: .int (Int32.ofNat sp) :: .ref a0 :: st) = some (hp.set a1 (.inl (2, xcpl e0 e1 sp dp n)), st) := by
    unfold xcpy
    dsimp only
    rw [h0, h1]
    dsimp only
    rw [iN_tn (show n < 2 ^ 31 by omega), iN_tn (show sp < 2 ^ 31 by omega), iN_tn (show dp < 2 ^ 31 by omega)]
    refine if_pos ⟨(by decide : 2 < 30), (by decide : 2 < 30), rfl, fun _ => rfl, iN_nn (by omega), iN_nn (by omega), iN_nn (by omega), hsp, hdp, List.all_eq_true.mpr (fun v hv => ?_)⟩
    obtain ⟨c, hc, e⟩ := he v (List.mem_of_mem_drop (List.mem_of_mem_take hv))
    rw [e]
    unfold xcpo
    rw [if_neg (show ¬ refKind ((xZ S).1 2) = true from (show ¬ refKind (xTy 2) = true by decide))]
    exact b_fit hc
  unfold xspec
  rw [if_neg (by omega)]
  dsimp only
  rw [key]
  dsimp only
  exact if_pos hs
theorem At.cpc {S : List Int32} {d Y pc : Nat} {L : List (Nat × Value)} {st : List Value} {hp : List XC} {nc ns : Nat} {Q : XO → Prop} {k a1 sp dp n : Nat} {e0 e1 : List Value} (hC : xmC (xMT Y) pc = some (20, .nop, 0, 0, .null, [])) (hd : 1 ≤ d) (h0 : xKC[k]? = some (.inl (2, e0))) (h1 : hp[a1]? = some (.inl (2, e1))) (hsp : sp + n ≤ e0.length) (hdp : dp + n ≤ e1.length) (hl0 : e0.length < 2 ^ 31) (hl1 : e1.length < 2 ^ 31) (he : ∀ v ∈ e0, ∃ c, c < 128 ∧ v = bV c) (hs : xsum st ≤ 8) (kk : At S d Y (pc + 3) L st (hp.set a1 (.inl (2, xcpl e0 e1 sp dp n))) nc ns Q) : At S d Y pc L (.int (Int32.ofNat n) :: .int (Int32.ofNat dp) :: .ref a1 :: .int (Int32.ofNat sp) :: .retAddr k :: st) hp nc ns Q := by
  refine At.sp hC ⟨by decide, by decide⟩ (g := (st, hp.set a1 (.inl (2, xcpl e0 e1 sp dp n)))) ?_ kk
  have key : xcpk (xZ S) hp (.int (Int32.ofNat n) :: .int (Int32.ofNat dp) :: .ref a1 :: .int (Int32.ofNat sp) :: .retAddr k :: st) = some (hp.set a1 (.inl (2, xcpl e0 e1 sp dp n)), st) := by
    unfold xcpk
    dsimp only
    rw [show (xZ S).2.2.2.2.2.1[k]? = some (.inl (2, e0)) from h0, h1]
    dsimp only
    rw [iN_tn (show n < 2 ^ 31 by omega), iN_tn (show sp < 2 ^ 31 by omega), iN_tn (show dp < 2 ^ 31 by omega)]
    refine if_pos ⟨rfl, rfl, (by decide : 2 < 30), iN_nn (by omega), iN_nn (by omega), iN_nn (by omega), hsp, hdp, List.all_eq_true.mpr (fun v hv => ?_)⟩
    obtain ⟨c, hc, e⟩ := he v hv
    rw [e]
    exact Bool.and_eq_true_iff.mpr ⟨decide_eq_true rfl, b_fit hc⟩
  unfold xspec
  rw [if_neg (by omega)]
  dsimp only
  rw [show xcpy (xZ S) hp (.int (Int32.ofNat n) :: .int (Int32.ofNat dp) :: .ref a1 :: .int (Int32.ofNat sp) :: .retAddr k :: st) = none from rfl]
  dsimp only
  rw [key]
  dsimp only
  exact if_pos hs
/-- an index is looked at -/
theorem At.ckp {S : List Int32} {d Y pc y2 kf : Nat} {L : List (Nat × Value)} {st : List Value} {hp : List XC} {nc ns : Nat} {Q : XO → Prop} {x1 x2 y : Int32} (hC : xmC (xMT Y) pc = some (42, .nop, y2, kf, .null, [])) (h1 : Pu S d y2 [.int x1, .int x2, .null] [] (.int y)) (h2 : Pu S d y2 [.int x1, .int x2, .retAddr kf] [] (.int y)) (hs : xsum st ≤ 7) (hL : 3 ≤ xmL (xMT y2)) (kk : At S (d + 1) Y (pc + 6) L (.int y :: st) hp nc ns Q) : At S (d + 1) Y pc L (.int x2 :: .int x1 :: st) hp nc ns Q := by
  obtain ⟨n1, o1, r1, q1⟩ := h1
  obtain ⟨n2, o2, r2, q2⟩ := h2
  obtain ⟨n3, o3, r3, q3⟩ := kk
  subst q1
  subst q2
  have f1 := xrun_fuels (m := n1 + n2 + n3) (by omega) r1
  have f2 := xrun_fuels (m := n1 + n2 + n3) (by omega) r2
  have f3 := xrun_fuels (m := n1 + n2 + n3) (by omega) r3
  refine ⟨n1 + n2 + n3 + 1, o3, ?_, q3⟩
  rw [xrun, hC]
  dsimp only
  rw [if_neg (by decide), if_neg (by decide), if_neg (by decide), if_neg (by decide), if_pos rfl, if_pos ⟨hs, hL⟩]
  rw [show xrun (xZ S) xMT (n1 + n2 + n3) d y2 0 [(0, .int x1), (1, .int x2), (2, .null)] [] [] 0 0 = _ from f1, show xrun (xZ S) xMT (n1 + n2 + n3) d y2 0 [(0, .int x1), (1, .int x2), (2, .retAddr kf)] [] [] 0 0 = _ from f2]
  exact (if_pos (rfl : y = y)).trans f3
/-- a copy of bytes -/
theorem At.cn {S : List Int32} {d Y pc a : Nat} {L : List (Nat × Value)} {st es : List Value} {hp : List XC} {nc ns : Nat} {Q : XO → Prop} (hC : xmC (xMT Y) pc = some (43, .nop, 2, 0, .null, [])) (ha : hp[a]? = some (.inl (2, es))) (he : ∀ v ∈ es, ∃ c, c < 128 ∧ v = bV c) (hs : xsum st ≤ 8) (kk : At S (d + 1) Y (pc + 6) L (.ref hp.length :: st) (hp ++ [.inl (2, es)]) (nc + 1) (ns + es.length) Q) : At S (d + 1) Y pc L (.ref a :: st) hp nc ns Q := by
  obtain ⟨n, o, h, hq⟩ := kk
  refine ⟨n + 1, o, ?_, hq⟩
  rw [xrun, hC]
  dsimp only
  rw [if_neg (by decide), if_neg (by decide), if_neg (by decide), if_neg (by decide), if_neg (by decide), if_pos rfl, ha]
  try dsimp only
  rw [if_pos ⟨hs, rfl, (by decide : 2 < 30), List.all_eq_true.mpr (fun v hv => by
    obtain ⟨c, hc, e⟩ := he v hv
    rw [e]
    exact b_fit hc)⟩]
  exact h
theorem bL_ok {cs : List Nat} (h : cOk cs) : ∀ v ∈ bL cs, ∃ c, c < 128 ∧ v = bV c := fun v hv => by
  obtain ⟨c, hc, e⟩ := List.mem_map.mp hv
  exact ⟨c, h c hc, e.symm⟩
theorem bL_okz {cs : List Nat} {m : Nat} (h : cOk cs) : ∀ v ∈ bL cs ++ List.replicate m (.int 0), ∃ c, c < 128 ∧ v = bV c := fun v hv => by
  rcases List.mem_append.mp hv with hv | hv
  · exact bL_ok h v hv
  · exact ⟨0, by decide, (List.eq_of_mem_replicate hv)⟩
theorem bL_at {cs : List Nat} {i c : Nat} (h : cs[i]? = some c) : (bL cs)[i]? = some (.int (Int32.ofNat c)) := by
  unfold bL
  rw [List.getElem?_map, h]
  rfl

theorem m_coder_r {S : List Int32} {hp : List XC} {cs : List Nat} {a va : Nat} {r : List Value} (h1 : hp[a]? = some (.inr (0, .ref va :: .int 0 :: r))) (h2 : hp[va]? = some (.inl (2, bL cs))) : Pu S 0 31 [.ref a] hp (.int 0) := by
  refine At.go (q := xm31) rfl 3 (pc' := 7) (L' := [(0, .ref a)]) (st' := [.ref a]) rfl ?_
  refine At.gf rfl (by decide) h1 rfl ?_
  refine At.go (q := xm31) rfl 1 (pc' := 14) (L' := [(0, .ref a)]) (st' := [.int 0]) rfl ?_
  exact At.rt rfl rfl rfl
theorem m_isL_r {S : List Int32} {hp : List XC} {cs : List Nat} {a va : Nat} {r : List Value} (h1 : hp[a]? = some (.inr (0, .ref va :: .int 0 :: r))) (h2 : hp[va]? = some (.inl (2, bL cs))) : Pu S 0 33 [.ref a] hp (.int 1) := by
  refine At.go (q := xm33) rfl 3 (pc' := 7) (L' := [(0, .ref a)]) (st' := [.ref a]) rfl ?_
  refine At.gf rfl (by decide) h1 rfl ?_
  refine At.go (q := xm33) rfl 3 (pc' := 18) (L' := [(0, .ref a)]) (st' := [.int 1]) rfl ?_
  exact At.rt rfl rfl rfl
theorem m_slen_r {S : List Int32} {hp : List XC} {cs : List Nat} {a va : Nat} {r : List Value} (h1 : hp[a]? = some (.inr (0, .ref va :: .int 0 :: r))) (h2 : hp[va]? = some (.inl (2, bL cs))) (hl : cs.length ≤ 1000) : Pu S 1 30 [.ref a] hp (.int (Int32.ofNat cs.length)) := by
  refine At.go (q := xm30) rfl 1 (pc' := 1) (L' := [(0, .ref a)]) (st' := [.ref a]) rfl ?_
  refine At.gf rfl (by decide) h1 rfl ?_
  refine At.ln rfl h2 ?_
  refine At.go (q := xm30) rfl 1 (pc' := 6) (L' := [(0, .ref a)]) (st' := [.ref a, .int (Int32.ofNat (bL cs).length)]) rfl ?_
  refine At.clp (as := [.ref a]) (rest := [.int (Int32.ofNat (bL cs).length)]) rfl (by decide) rfl (Nat.le_of_ble_eq_true rfl) (Nat.le_of_ble_eq_true rfl) (xrck_o (by decide) (by decide) h1 (by decide)) (Nat.le_of_ble_eq_true rfl) (m_coder_r h1 h2) ?_
  refine At.go (q := xm30) rfl 1 (pc' := 10) (L' := [(0, .ref a)]) (st' := [.int ((Int32.ofNat (bL cs).length) >>> (0 &&& 31))]) rfl ?_
  rw [bL_len, sh0 _ (by omega)]
  exact At.rt rfl (xret_i rfl) rfl
theorem m_coder_k {S : List Int32} {hp : List XC} {cs : List Nat} {k vk : Nat} {r : List Value} (h1 : xKC[k]? = some (.inr (0, .retAddr vk :: .int 0 :: r))) (h2 : xKC[vk]? = some (.inl (2, bL cs))) : Pu S 0 31 [.retAddr k] hp (.int 0) := by
  refine At.go (q := xm31) rfl 3 (pc' := 7) (L' := [(0, .retAddr k)]) (st' := [.retAddr k]) rfl ?_
  refine At.gk rfl (by decide) h1 rfl ?_
  refine At.go (q := xm31) rfl 1 (pc' := 14) (L' := [(0, .retAddr k)]) (st' := [.int 0]) rfl ?_
  exact At.rt rfl rfl rfl
theorem m_isL_k {S : List Int32} {hp : List XC} {cs : List Nat} {k vk : Nat} {r : List Value} (h1 : xKC[k]? = some (.inr (0, .retAddr vk :: .int 0 :: r))) (h2 : xKC[vk]? = some (.inl (2, bL cs))) : Pu S 0 33 [.retAddr k] hp (.int 1) := by
  refine At.go (q := xm33) rfl 3 (pc' := 7) (L' := [(0, .retAddr k)]) (st' := [.retAddr k]) rfl ?_
  refine At.gk rfl (by decide) h1 rfl ?_
  refine At.go (q := xm33) rfl 3 (pc' := 18) (L' := [(0, .retAddr k)]) (st' := [.int 1]) rfl ?_
  exact At.rt rfl rfl rfl
theorem m_slen_k {S : List Int32} {hp : List XC} {cs : List Nat} {k vk : Nat} {r : List Value} (h1 : xKC[k]? = some (.inr (0, .retAddr vk :: .int 0 :: r))) (h2 : xKC[vk]? = some (.inl (2, bL cs))) (hl : cs.length ≤ 1000) : Pu S 1 30 [.retAddr k] hp (.int (Int32.ofNat cs.length)) := by
  refine At.go (q := xm30) rfl 1 (pc' := 1) (L' := [(0, .retAddr k)]) (st' := [.retAddr k]) rfl ?_
  refine At.gk rfl (by decide) h1 rfl ?_
  refine At.lk rfl h2 ?_
  refine At.go (q := xm30) rfl 1 (pc' := 6) (L' := [(0, .retAddr k)]) (st' := [.retAddr k, .int (Int32.ofNat (bL cs).length)]) rfl ?_
  refine At.clp (as := [.retAddr k]) (rest := [.int (Int32.ofNat (bL cs).length)]) rfl (by decide) rfl (Nat.le_of_ble_eq_true rfl) (Nat.le_of_ble_eq_true rfl) (xrck_k (by decide) (by decide) h1 (by decide)) (Nat.le_of_ble_eq_true rfl) (m_coder_k h1 h2) ?_
  refine At.go (q := xm30) rfl 1 (pc' := 10) (L' := [(0, .retAddr k)]) (st' := [.int ((Int32.ofNat (bL cs).length) >>> (0 &&& 31))]) rfl ?_
  rw [bL_len, sh0 _ (by omega)]
  exact At.rt rfl (xret_i rfl) rfl
theorem m_pci_n {S : List Int32} {hp : List XC} {x y : Int32} (h0 : ¬ x < 0) (h1 : x < y) : Pu S 0 36 [.int x, .int y, .null] hp (.int x) := by
  refine At.go (q := xm36) rfl 1 (pc' := 1) (L' := [(0, .int x), (1, .int y), (2, .null)]) (st' := [.int x]) rfl ?_
  refine At.ic1 (tgt := 9) rfl rfl (fun h => absurd (h.symm.trans (decide_eq_false h0)) (by decide)) (fun _ => ?_)
  refine At.go (q := xm36) rfl 2 (pc' := 6) (L' := [(0, .int x), (1, .int y), (2, .null)]) (st' := [.int y, .int x]) rfl ?_
  refine At.ic2 (tgt := 16) rfl rfl (fun _ => ?_) (fun h => absurd (h.symm.trans (decide_eq_true h1)) (by decide))
  refine At.go (q := xm36) rfl 1 (pc' := 17) (L' := [(0, .int x), (1, .int y), (2, .null)]) (st' := [.int x]) rfl ?_
  exact At.rt rfl (xret_i rfl) rfl
theorem m_pci_k {S : List Int32} {hp : List XC} {x y : Int32} (h0 : ¬ x < 0) (h1 : x < y) : Pu S 0 36 [.int x, .int y, .retAddr 228] hp (.int x) := by
  refine At.go (q := xm36) rfl 1 (pc' := 1) (L' := [(0, .int x), (1, .int y), (2, .retAddr 228)]) (st' := [.int x]) rfl ?_
  refine At.ic1 (tgt := 9) rfl rfl (fun h => absurd (h.symm.trans (decide_eq_false h0)) (by decide)) (fun _ => ?_)
  refine At.go (q := xm36) rfl 2 (pc' := 6) (L' := [(0, .int x), (1, .int y), (2, .retAddr 228)]) (st' := [.int y, .int x]) rfl ?_
  refine At.ic2 (tgt := 16) rfl rfl (fun _ => ?_) (fun h => absurd (h.symm.trans (decide_eq_true h1)) (by decide))
  refine At.go (q := xm36) rfl 1 (pc' := 17) (L' := [(0, .int x), (1, .int y), (2, .retAddr 228)]) (st' := [.int x]) rfl ?_
  exact At.rt rfl (xret_i rfl) rfl
theorem m_cki {S : List Int32} {hp : List XC} {x y : Int32} (h0 : ¬ x < 0) (h1 : x < y) : Pv S 1 35 [.int x, .int y] hp := by
  refine At.go (q := xm35) rfl 2 (pc' := 2) (L' := [(0, .int x), (1, .int y)]) (st' := [.int y, .int x]) rfl ?_
  refine At.ckp rfl (m_pci_n h0 h1) (m_pci_k h0 h1) (by decide) (by decide) ?_
  refine At.go (q := xm35) rfl 1 (pc' := 9) (L' := [(0, .int x), (1, .int y)]) (st' := []) rfl ?_
  exact At.rt rfl rfl rfl
theorem m_lat_r {S : List Int32} {hp : List XC} {cs : List Nat} {va : Nat} (h2 : hp[va]? = some (.inl (2, bL cs))) {i c : Nat} (hl : cs.length ≤ 1000) (hi : cs[i]? = some c) (hc : c < 128) : Pu S 2 34 [.ref va, .int (Int32.ofNat i)] hp (.int (Int32.ofNat c)) := by
  have hlt := (List.getElem?_eq_some_iff.mp hi).1
  refine At.go (q := xm34) rfl 2 (pc' := 2) (L' := [(0, .ref va), (1, .int (Int32.ofNat i))]) (st' := [.ref va, .int (Int32.ofNat i)]) rfl ?_
  refine At.ln rfl h2 ?_
  refine At.clv (as := [.int (Int32.ofNat i), .int (Int32.ofNat (bL cs).length)]) (rest := []) rfl (by decide) rfl (Nat.le_of_ble_eq_true rfl) (Nat.le_of_ble_eq_true rfl) rfl (Nat.le_of_ble_eq_true rfl) (m_cki (iN_nn (by omega)) (by rw [bL_len]; exact (iN_lt (by omega) (by omega)).mpr (by omega))) ?_
  refine At.go (q := xm34) rfl 2 (pc' := 8) (L' := [(0, .ref va), (1, .int (Int32.ofNat i))]) (st' := [.int (Int32.ofNat i), .ref va]) rfl ?_
  refine At.al rfl h2 (by decide) rfl (iN_nn (by omega)) (by rw [iN_tn (by omega)]; exact bL_at hi) ?_
  refine At.go (q := xm34) rfl 3 (pc' := 14) (L' := [(0, .ref va), (1, .int (Int32.ofNat i))]) (st' := [.int (((Int32.ofNat c) &&& 255).toUInt32 % 65536).toInt32]) rfl ?_
  rw [b_and hc]
  exact At.rt rfl (xret_ch rfl (c_fit hc)) rfl
theorem m_chat_r {S : List Int32} {hp : List XC} {cs : List Nat} {a va : Nat} {r : List Value} (h1 : hp[a]? = some (.inr (0, .ref va :: .int 0 :: r))) (h2 : hp[va]? = some (.inl (2, bL cs))) {i c : Nat} (hl : cs.length ≤ 1000) (hi : cs[i]? = some c) (hc : c < 128) : Pu S 3 32 [.ref a, .int (Int32.ofNat i)] hp (.int (Int32.ofNat c)) := by
  refine At.go (q := xm32) rfl 1 (pc' := 1) (L' := [(0, .ref a), (1, .int (Int32.ofNat i))]) (st' := [.ref a]) rfl ?_
  refine At.clp (as := [.ref a]) (rest := []) rfl (by decide) rfl (Nat.le_of_ble_eq_true rfl) (Nat.le_of_ble_eq_true rfl) (xrck_o (by decide) (by decide) h1 (by decide)) (Nat.le_of_ble_eq_true rfl) (m_isL_r h1 h2) ?_
  refine At.go (q := xm32) rfl 2 (pc' := 8) (L' := [(0, .ref a), (1, .int (Int32.ofNat i))]) (st' := [.ref a]) rfl ?_
  refine At.gf rfl (by decide) h1 rfl ?_
  refine At.go (q := xm32) rfl 1 (pc' := 12) (L' := [(0, .ref a), (1, .int (Int32.ofNat i))]) (st' := [.int (Int32.ofNat i), .ref va]) rfl ?_
  refine At.clp (as := [.ref va, .int (Int32.ofNat i)]) (rest := []) rfl (by decide) rfl (Nat.le_of_ble_eq_true rfl) (Nat.le_of_ble_eq_true rfl) rfl (Nat.le_of_ble_eq_true rfl) (m_lat_r h2 hl hi hc) ?_
  exact At.rt rfl (xret_ch rfl (c_fit hc)) rfl
theorem m_lat_k {S : List Int32} {hp : List XC} {cs : List Nat} {vk : Nat} (h2 : xKC[vk]? = some (.inl (2, bL cs))) {i c : Nat} (hl : cs.length ≤ 1000) (hi : cs[i]? = some c) (hc : c < 128) : Pu S 2 34 [.retAddr vk, .int (Int32.ofNat i)] hp (.int (Int32.ofNat c)) := by
  have hlt := (List.getElem?_eq_some_iff.mp hi).1
  refine At.go (q := xm34) rfl 2 (pc' := 2) (L' := [(0, .retAddr vk), (1, .int (Int32.ofNat i))]) (st' := [.retAddr vk, .int (Int32.ofNat i)]) rfl ?_
  refine At.lk rfl h2 ?_
  refine At.clv (as := [.int (Int32.ofNat i), .int (Int32.ofNat (bL cs).length)]) (rest := []) rfl (by decide) rfl (Nat.le_of_ble_eq_true rfl) (Nat.le_of_ble_eq_true rfl) rfl (Nat.le_of_ble_eq_true rfl) (m_cki (iN_nn (by omega)) (by rw [bL_len]; exact (iN_lt (by omega) (by omega)).mpr (by omega))) ?_
  refine At.go (q := xm34) rfl 2 (pc' := 8) (L' := [(0, .retAddr vk), (1, .int (Int32.ofNat i))]) (st' := [.int (Int32.ofNat i), .retAddr vk]) rfl ?_
  refine At.ak rfl h2 (by decide) rfl (iN_nn (by omega)) (by rw [iN_tn (by omega)]; exact bL_at hi) ?_
  refine At.go (q := xm34) rfl 3 (pc' := 14) (L' := [(0, .retAddr vk), (1, .int (Int32.ofNat i))]) (st' := [.int (((Int32.ofNat c) &&& 255).toUInt32 % 65536).toInt32]) rfl ?_
  rw [b_and hc]
  exact At.rt rfl (xret_ch rfl (c_fit hc)) rfl
theorem m_chat_k {S : List Int32} {hp : List XC} {cs : List Nat} {k vk : Nat} {r : List Value} (h1 : xKC[k]? = some (.inr (0, .retAddr vk :: .int 0 :: r))) (h2 : xKC[vk]? = some (.inl (2, bL cs))) {i c : Nat} (hl : cs.length ≤ 1000) (hi : cs[i]? = some c) (hc : c < 128) : Pu S 3 32 [.retAddr k, .int (Int32.ofNat i)] hp (.int (Int32.ofNat c)) := by
  refine At.go (q := xm32) rfl 1 (pc' := 1) (L' := [(0, .retAddr k), (1, .int (Int32.ofNat i))]) (st' := [.retAddr k]) rfl ?_
  refine At.clp (as := [.retAddr k]) (rest := []) rfl (by decide) rfl (Nat.le_of_ble_eq_true rfl) (Nat.le_of_ble_eq_true rfl) (xrck_k (by decide) (by decide) h1 (by decide)) (Nat.le_of_ble_eq_true rfl) (m_isL_k h1 h2) ?_
  refine At.go (q := xm32) rfl 2 (pc' := 8) (L' := [(0, .retAddr k), (1, .int (Int32.ofNat i))]) (st' := [.retAddr k]) rfl ?_
  refine At.gk rfl (by decide) h1 rfl ?_
  refine At.go (q := xm32) rfl 1 (pc' := 12) (L' := [(0, .retAddr k), (1, .int (Int32.ofNat i))]) (st' := [.int (Int32.ofNat i), .retAddr vk]) rfl ?_
  refine At.clp (as := [.retAddr vk, .int (Int32.ofNat i)]) (rest := []) rfl (by decide) rfl (Nat.le_of_ble_eq_true rfl) (Nat.le_of_ble_eq_true rfl) rfl (Nat.le_of_ble_eq_true rfl) (m_lat_k h2 hl hi hc) ?_
  exact At.rt rfl (xret_ch rfl (c_fit hc)) rfl
theorem m_tlen {S : List Int32} {hp : List XC} {v : Value} {cs : List Nat} (h : hTx hp v cs) : Pu S 1 30 [v] hp (.int (Int32.ofNat cs.length)) := by
  obtain ⟨h1, h2, ⟨a, va, r, rfl, h3, h4⟩ | ⟨k, vk, r, rfl, h3, h4⟩⟩ := h
  · exact m_slen_r h3 h4 h2
  · exact m_slen_k h3 h4 h2
theorem m_tat {S : List Int32} {hp : List XC} {v : Value} {cs : List Nat} {i c : Nat} (h : hTx hp v cs) (hi : cs[i]? = some c) : Pu S 3 32 [v, .int (Int32.ofNat i)] hp (.int (Int32.ofNat c)) := by
  obtain ⟨h1, h2, ⟨a, va, r, rfl, h3, h4⟩ | ⟨k, vk, r, rfl, h3, h4⟩⟩ := h
  · exact m_chat_r h3 h4 h2 hi (h1 c (List.mem_of_getElem? hi))
  · exact m_chat_k h3 h4 h2 hi (h1 c (List.mem_of_getElem? hi))
