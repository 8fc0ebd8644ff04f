/-! the law: two houses, its object, draws (written by wip/p27/c9999999999990.py) -/
/-- a house where nothing of it is written -/
theorem HR.off {hp hp' : List XC} {ow ow' : Nat → Nat} {k : Nat} {A : Nat → Nat} {Z : Nat → Prop} {M : HM} {rf : Int32} {np nl : Nat} (h : HR hp ow k A M rf np nl) (f : FrX (fun a => Z (ow a)) hp hp') (hw : ∀ a, a < hp.length → ow' a = ow a) (hZ : ∀ n, k ≤ n → n < k + 1000 → ¬ Z n) : HR hp' ow' k A M rf np nl ∧ capsH hp' A = capsH hp A := by
  refine ⟨h.upd (Z := Z) f hw (fun z => hZ _ (by omega) (by omega) z) (fun z => hZ _ (by omega) (by omega) z) (Or.inl ⟨(fun z => hZ _ (by omega) (by omega) z), rfl, rfl⟩) (Or.inl ⟨(fun z => hZ _ (by omega) (by omega) z), rfl⟩) (Or.inl ⟨(fun z => hZ _ (by omega) (by omega) z), rfl⟩) (Or.inl ⟨(fun z => hZ _ (by omega) (by omega) z), rfl⟩) (Or.inl ⟨(fun z => hZ _ (by omega) (by omega) z), rfl⟩) (Or.inl (fun z => hZ _ (by omega) (by omega) z)) (Or.inl ⟨(fun z => hZ _ (by omega) (by omega) z), (fun z => hZ _ (by omega) (by omega) z), (fun z => hZ _ (by omega) (by omega) z)⟩) (fun j hj => Or.inl (fun z => by simp only [List.mem_cons, List.not_mem_nil, or_false] at hj; exact hZ _ (by omega) (by omega) z)) (Or.inl ⟨(fun z => hZ _ (by omega) (by omega) z), (fun z => hZ _ (by omega) (by omega) z), (fun z => hZ _ (by omega) (by omega) z), (fun z => hZ _ (by omega) (by omega) z), rfl, rfl⟩) (Or.inl (fun j j1 j2 z => hZ _ (by omega) (by omega) z)) (fun i hi => Or.inl ⟨(fun z => hZ _ (by omega) (by omega) z), (fun z => hZ _ (by omega) (by omega) z), (fun z => hZ _ (by omega) (by omega) z), (fun z => hZ _ (by omega) (by omega) z), (fun z => hZ _ (by omega) (by omega) z), (fun z => hZ _ (by omega) (by omega) z), rfl⟩) (Or.inl ⟨(fun z => hZ _ (by omega) (by omega) z), (fun z => hZ _ (by omega) (by omega) z), (fun z => hZ _ (by omega) (by omega) z), (fun z => hZ _ (by omega) (by omega) z), rfl⟩) (fun j hj => Or.inl (fun z => by have j9 := lsI_c j hj; exact hZ _ (by omega) (by omega) z)), ?_⟩
  have e := h.caps f [] (List.nil_sublist _) (fun j hz hj => by have j9 := lsI_c j hj; exact absurd hz (hZ _ (by omega) (by omega)))
  have e2 : sumL (fun j => capL hp (A j)) [] = 0 := rfl
  have e3 : sumL (fun j => capL hp' (A j)) [] = 0 := rfl
  omega
/-- the law's object: its labels, what is open, which label is told -/
def Lw (hp : List XC) (ow : Nat → Nat) (L la io x y : Nat) (lbs ops : List Int32) (top : Int32) (dt : Nat) : Prop := (∃ (t : Nat) (sd : Int32), t ≤ dt ∧ dt ≤ 100000 ∧ hp[L]? = some (.inr (15, [.retAddr 226, .int (Int32.ofNat t), .int sd, .ref x, .ref y, .ref la, .ref io, .int top]))) ∧ hp[la]? = some (.inl (0, lbs.map Value.int)) ∧ lbs.length = 8 ∧ hp[io]? = some (.inl (3, ops.map Value.int)) ∧ ops.length = 8 ∧ ow L = 2000 ∧ ow la = 2001 ∧ ow io = 2002
/-- two houses and the law -/
def W2 (A B : Nat → Nat) (L la io : Nat) (hp : List XC) (ow : Nat → Nat) (M N : HM) (lbs ops : List Int32) (top : Int32) (dt pc ps : Nat) : Prop := ∃ (rx ry : Int32) (px lx py ly : Nat), HR hp ow 0 A M rx px lx ∧ HR hp ow 1000 B N ry py ly ∧ Lw hp ow L la io (A 0) (B 0) lbs ops top dt ∧ pc = capsH hp A + px + lx + (capsH hp B + py + ly) ∧ ps = 4 * (capsH hp A + px) + 900 * lx + (4 * (capsH hp B + py) + 900 * ly)
/-- what a step of the law leaves -/
def S2 (A B : Nat → Nat) (L la io : Nat) (hp hp' : List XC) (ow : Nat → Nat) (M N : HM) (lbs ops : List Int32) (top : Int32) (dt pc ps c s K J : Nat) : Prop := ∃ (ow' : Nat → Nat) (pc' ps' : Nat), (∀ a, a < hp.length → ow' a = ow a) ∧ W2 A B L la io hp' ow' M N lbs ops top dt pc' ps' ∧ FrX (fun a => ow a < 3000) hp hp' ∧ c + pc ≤ pc' + K ∧ s + ps ≤ ps' + J
section
variable {A B : Nat → Nat} {L la io : Nat} {hp hp' hp2 : List XC} {ow ow' : Nat → Nat} {M N M' N' : HM} {lbs ops lbs' ops' : List Int32} {top rf : Int32} {dt pc ps c s K J px lx py ly : Nat} {rx ry : Int32}
theorem Lw.off {Z : Nat → Prop} {x y : Nat} (h : Lw hp ow L la io x y lbs ops top dt) (f : FrX (fun a => Z (ow a)) hp hp') (hw : ∀ a, a < hp.length → ow' a = ow a) (hZ : ∀ n, 2000 ≤ n → n < 3000 → ¬ Z n) : Lw hp' ow' L la io x y lbs ops top dt := by
  obtain ⟨⟨t, sd, h1, h2, h3⟩, h4, h5, h6, h7, o1, o2, o3⟩ := h
  refine ⟨⟨t, sd, h1, h2, f.ob h3 (by decide) (nz o1 (hZ _ (by omega) (by omega)))⟩, f.ar h4 (by decide) (nz o2 (hZ _ (by omega) (by omega))), h5, f.ar h6 (by decide) (nz o3 (hZ _ (by omega) (by omega))), h7, ?_, ?_, ?_⟩
  · rw [hw _ (List.getElem?_eq_some_iff.mp h3).1]; exact o1
  · rw [hw _ (List.getElem?_eq_some_iff.mp h4).1]; exact o2
  · rw [hw _ (List.getElem?_eq_some_iff.mp h6).1]; exact o3
theorem W2.off {Z : Nat → Prop} (h : W2 A B L la io hp ow M N lbs ops top dt pc ps) (f : FrX (fun a => Z (ow a)) hp hp') (hw : ∀ a, a < hp.length → ow' a = ow a) (hZ : ∀ n, n < 3000 → ¬ Z n) : W2 A B L la io hp' ow' M N lbs ops top dt pc ps := by
  obtain ⟨rx, ry, px, lx, py, ly, hx, hy, hl, e1, e2⟩ := h
  obtain ⟨hx', ex⟩ := hx.off f hw (fun n _ h2 => hZ n (by omega))
  obtain ⟨hy', ey⟩ := hy.off f hw (fun n _ h2 => hZ n (by omega))
  exact ⟨rx, ry, px, lx, py, ly, hx', hy', hl.off f hw (fun n _ h2 => hZ n h2), by rw [ex, ey]; exact e1, by rw [ex, ey]; exact e2⟩
theorem S2.same (h : W2 A B L la io hp ow M N lbs ops top dt pc ps) : S2 A B L la io hp hp ow M N lbs ops top dt pc ps 0 0 0 0 := ⟨ow, pc, ps, fun _ _ => rfl, h, FrX.rf, by omega, by omega⟩
theorem S2.mono {K' J' : Nat} (h : S2 A B L la io hp hp' ow M N lbs ops top dt pc ps c s K J) (h1 : K ≤ K') (h2 : J ≤ J') : S2 A B L la io hp hp' ow M N lbs ops top dt pc ps c s K' J' := by
  obtain ⟨ow', pc', ps', a, b, d, e, f⟩ := h
  exact ⟨ow', pc', ps', a, b, d, by omega, by omega⟩
/-- a step of the first house -/
theorem W2.stx (hx : HR hp ow 0 A M rx px lx) (hy : HR hp ow 1000 B N ry py ly) (hl : Lw hp ow L la io (A 0) (B 0) lbs ops top dt) (h : HSt hp hp' ow 0 A M' rf px lx c s K J) : S2 A B L la io hp hp' ow M' N lbs ops top dt (capsH hp A + px + lx + (capsH hp B + py + ly)) (4 * (capsH hp A + px) + 900 * lx + (4 * (capsH hp B + py) + 900 * ly)) c s K J := by
  obtain ⟨ow', px', lx', hw, hR, f, e1, e2⟩ := h
  have f9 : FrX (fun a => (fun n => n < 1000) (ow a)) hp hp' := f.mono (fun x _ hx9 => by have := hx9.2; show ow x < 1000; omega)
  obtain ⟨hy', ey⟩ := hy.off f9 hw (fun n h1 _ h3 => by have h3' : n < 1000 := h3; omega)
  refine ⟨ow', _, _, hw, ⟨rf, ry, px', lx', py, ly, hR, hy', hl.off f9 hw (fun n h1 _ h3 => by have h3' : n < 1000 := h3; omega), rfl, rfl⟩, f.mono (fun x _ hx9 => by have := hx9.2; omega), ?_, ?_⟩
  · rw [ey]; omega
  · rw [ey]; omega
/-- a step of the second house -/
theorem W2.sty (hx : HR hp ow 0 A M rx px lx) (hy : HR hp ow 1000 B N ry py ly) (hl : Lw hp ow L la io (A 0) (B 0) lbs ops top dt) (h : HSt hp hp' ow 1000 B N' rf py ly c s K J) : S2 A B L la io hp hp' ow M N' lbs ops top dt (capsH hp A + px + lx + (capsH hp B + py + ly)) (4 * (capsH hp A + px) + 900 * lx + (4 * (capsH hp B + py) + 900 * ly)) c s K J := by
  obtain ⟨ow', py', ly', hw, hR, f, e1, e2⟩ := h
  have f9 : FrX (fun a => (fun n => 1000 ≤ n ∧ n < 2000) (ow a)) hp hp' := f.mono (fun x _ hx9 => hx9)
  obtain ⟨hx', ex⟩ := hx.off f9 hw (fun n h1 h2 h3 => by have h3' : 1000 ≤ n ∧ n < 2000 := h3; omega)
  refine ⟨ow', _, _, hw, ⟨rx, rf, px, lx, py', ly', hx', hR, hl.off f9 hw (fun n h1 _ h3 => by have h3' : 1000 ≤ n ∧ n < 2000 := h3; omega), rfl, rfl⟩, f.mono (fun x _ hx9 => by have := hx9.2; omega), ?_, ?_⟩
  · rw [ex]; omega
  · rw [ex]; omega
theorem S2.tr {M2 N2 : HM} {lbs2 ops2 : List Int32} {dt2 c2 s2 K2 J2 : Nat} (h : S2 A B L la io hp hp' ow M N lbs ops top dt pc ps c s K J) (h2 : ∀ ow' pc' ps', (∀ a, a < hp.length → ow' a = ow a) → W2 A B L la io hp' ow' M N lbs ops top dt pc' ps' → S2 A B L la io hp' hp2 ow' M2 N2 lbs2 ops2 top dt2 pc' ps' c2 s2 K2 J2) : S2 A B L la io hp hp2 ow M2 N2 lbs2 ops2 top dt2 pc ps (c + c2) (s + s2) (K + K2) (J + J2) := by
  obtain ⟨ow1, pc1, ps1, w1, W, f1, e1, e2⟩ := h
  obtain ⟨ow2, pc2, ps2, w2, W', f2, e3, e4⟩ := h2 ow1 pc1 ps1 w1 W
  refine ⟨ow2, pc2, ps2, fun a ha => (w2 a (Nat.lt_of_lt_of_le ha f1.1)).trans (w1 a ha), W', FrX.tr f1 f2 (fun x hx => ?_), by omega, by omega⟩
  rcases Nat.lt_or_ge x hp.length with hl | hl
  · rw [w1 x hl] at hx
    exact Or.inl hx
  · exact Or.inr hl
end
theorem hTx.fr {P : Nat → Prop} {hp hp' : List XC} {v : Value} {cs : List Nat} (h : hTx hp v cs) (f : FrX P hp hp') (hP : ∀ a c, hp[a]? = some c → v = .ref a ∨ (∃ t r, v = .ref t ∧ hp[t]? = some (.inr (0, .ref a :: .int 0 :: r))) → ¬ P a) : hTx hp' v cs := by
  obtain ⟨h1, h2, ⟨a, va, r, e, h3, h4⟩ | h3⟩ := h
  · exact ⟨h1, h2, Or.inl ⟨a, va, r, e, f.ob h3 (by decide) (hP a _ h3 (Or.inl e)), f.ar h4 (by decide) (hP va _ h4 (Or.inr ⟨a, r, e, h3⟩))⟩⟩
  · exact ⟨h1, h2, Or.inr h3⟩
/-- a text whose cells are called so -/
def hTn9 (hp : List XC) (ow : Nat → Nat) (v : Value) (cs : List Nat) : Prop := hTx hp v cs ∧ ((∃ k, v = .retAddr k) ∨ ∃ a va r, v = .ref a ∧ hp[a]? = some (.inr (0, .ref va :: .int 0 :: r)) ∧ ow a = 3000 ∧ ow va = 3000)
theorem hTn9.fr {hp hp' : List XC} {ow ow' : Nat → Nat} {v : Value} {cs : List Nat} (h : hTn9 hp ow v cs) (f : FrX (fun a => ow a < 3000) hp hp') (hw : ∀ a, a < hp.length → ow' a = ow a) : hTn9 hp' ow' v cs := by
  obtain ⟨h1, ⟨k, e⟩ | ⟨a, va, r, e, h2, h3, h4⟩⟩ := h
  · exact ⟨h1.fr f (fun a c hc h9 => by rcases h9 with h9 | ⟨t, r, h9, -⟩ <;> (rw [e] at h9; cases h9)), Or.inl ⟨k, e⟩⟩
  · have hva : va < hp.length := by
      obtain ⟨-, -, ⟨a2, va2, r2, e2, h5, h6⟩ | ⟨k2, vk2, r2, e2, h5, h6⟩⟩ := h1
      · rw [e] at e2
        cases e2
        rw [h2] at h5
        cases h5
        exact (List.getElem?_eq_some_iff.mp h6).1
      · rw [e] at e2
        cases e2
    refine ⟨h1.fr f (fun a9 c hc h9 hlt => ?_), Or.inr ⟨a, va, r, e, f.ob h2 (by decide) (fun hlt => by have hlt' : ow a < 3000 := hlt; omega), by rw [hw _ (List.getElem?_eq_some_iff.mp h2).1]; exact h3, by rw [hw _ hva]; exact h4⟩⟩
    have hlt' : ow a9 < 3000 := hlt
    rcases h9 with h9 | ⟨t, r9, h9, h10⟩
    · rw [e] at h9
      cases h9
      omega
    · rw [e] at h9
      cases h9
      rw [h2] at h10
      cases h10
      omega
theorem st_loop {S : List Int32} {hp : List XC} (hS : S.length ≤ 1000) : ∀ (f i : Nat) (v : Int32), i + f = S.length → At S 0 16 14 [(4, .int (Int32.ofNat i)), (1, .int v), (0, .retAddr 226), (2, .retAddr 226), (3, .int (Int32.ofNat S.length))] [] hp 0 0 (fun o => ∃ x, o = .inl (some (.int x), hp, 0, 0))
  | 0, i, v, hi => by
    refine At.go (q := xm16) rfl 2 (pc' := 17) (L' := [(4, .int (Int32.ofNat i)), (1, .int v), (0, .retAddr 226), (2, .retAddr 226), (3, .int (Int32.ofNat S.length))]) (st' := [.int (Int32.ofNat S.length), .int (Int32.ofNat i)]) rfl ?_
    refine At.ic2 (tgt := 45) rfl rfl (fun _ => ?_) (fun h => absurd (h.symm.trans (decide_eq_true (Int32.not_lt.mp (fun h => absurd ((iN_lt (by omega) (by omega)).mp h) (by omega))))) (by decide))
    refine At.go (q := xm16) rfl 9 (pc' := 55) (L' := [(1, .int (v ^^^ ((v.toUInt32 >>> ((13 : Int32).toUInt32 &&& Int32.toUInt32 31)).toInt32))), (4, .int (Int32.ofNat i)), (0, .retAddr 226), (2, .retAddr 226), (3, .int (Int32.ofNat S.length))]) (st' := [.int ((v ^^^ ((v.toUInt32 >>> ((13 : Int32).toUInt32 &&& Int32.toUInt32 31)).toInt32)) &&& 3)]) rfl ?_
    refine At.ic1 (tgt := 62) rfl rfl (fun h55 => ?_) (fun h55 => ?_)
    · refine At.go (q := xm16) rfl 1 (pc' := 63) (L' := [(1, .int (v ^^^ ((v.toUInt32 >>> ((13 : Int32).toUInt32 &&& Int32.toUInt32 31)).toInt32))), (4, .int (Int32.ofNat i)), (0, .retAddr 226), (2, .retAddr 226), (3, .int (Int32.ofNat S.length))]) (st' := [.int (v ^^^ ((v.toUInt32 >>> ((13 : Int32).toUInt32 &&& Int32.toUInt32 31)).toInt32))]) rfl ?_
      exact At.rt rfl (xret_i rfl) ⟨_, rfl⟩
    · refine At.go (q := xm16) rfl 2 (pc' := 63) (L' := [(1, .int (v ^^^ ((v.toUInt32 >>> ((13 : Int32).toUInt32 &&& Int32.toUInt32 31)).toInt32))), (4, .int (Int32.ofNat i)), (0, .retAddr 226), (2, .retAddr 226), (3, .int (Int32.ofNat S.length))]) (st' := [.int 0]) rfl ?_
      exact At.rt rfl (xret_i rfl) ⟨_, rfl⟩
  | f + 1, i, v, hi => by
    obtain ⟨x9, hx9⟩ : ∃ c, S[i]? = some c := ⟨_, List.getElem?_eq_getElem (by omega)⟩
    refine At.go (q := xm16) rfl 2 (pc' := 17) (L' := [(4, .int (Int32.ofNat i)), (1, .int v), (0, .retAddr 226), (2, .retAddr 226), (3, .int (Int32.ofNat S.length))]) (st' := [.int (Int32.ofNat S.length), .int (Int32.ofNat i)]) rfl ?_
    refine At.ic2 (tgt := 45) rfl rfl (fun h => absurd (h.symm.trans (decide_eq_false (fun h => absurd ((iN_lt (a := i) (b := S.length) (by omega) (by omega)).mpr (by omega)) (Int32.not_lt.mpr h)))) (by decide)) (fun _ => ?_)
    refine At.go (q := xm16) rfl 2 (pc' := 23) (L' := [(4, .int (Int32.ofNat i)), (1, .int v), (0, .retAddr 226), (2, .retAddr 226), (3, .int (Int32.ofNat S.length))]) (st' := [.int (Int32.ofNat i), .retAddr 226]) rfl ?_
    refine At.sl (x := x9) rfl (iN_nn (by omega)) (by rw [iN_tn (by omega)]; exact hx9) ?_
    refine At.go (q := xm16) rfl 13 (pc' := 14) (L' := [(4, .int ((Int32.ofNat i) + 1)), (1, .int (((v ^^^ x9) ^^^ ((v.toUInt32 >>> ((15 : Int32).toUInt32 &&& Int32.toUInt32 31)).toInt32)) * 16777619)), (5, .int x9), (0, .retAddr 226), (2, .retAddr 226), (3, .int (Int32.ofNat S.length))]) (st' := []) rfl ?_
    rw [iN_s]
    refine At.wk (L' := [(4, .int (Int32.ofNat (i + 1))), (1, .int (((v ^^^ x9) ^^^ ((v.toUInt32 >>> ((15 : Int32).toUInt32 &&& Int32.toUInt32 31)).toInt32)) * 16777619)), (0, .retAddr 226), (2, .retAddr 226), (3, .int (Int32.ofNat S.length))]) (List.forall_mem_cons.mpr ⟨List.mem_of_getElem? (i := 0) rfl, (List.forall_mem_cons.mpr ⟨List.mem_of_getElem? (i := 1) rfl, (List.forall_mem_cons.mpr ⟨List.mem_of_getElem? (i := 3) rfl, (List.forall_mem_cons.mpr ⟨List.mem_of_getElem? (i := 4) rfl, (List.forall_mem_cons.mpr ⟨List.mem_of_getElem? (i := 5) rfl, (fun _ h => (List.not_mem_nil h).elim)⟩)⟩)⟩)⟩)⟩) (show ([4, 1, 5, 0, 2, 3] : List Nat).Nodup by decide) ?_
    exact st_loop hS f (i + 1) _ (by omega)
theorem m_stir0 {S : List Int32} {hp : List XC} (hS : S.length ≤ 1000) : At S 0 16 0 (lv_args 0 [.retAddr 226]) [] hp 0 0 (fun o => ∃ x, o = .inl (some (.int x), hp, 0, 0)) := by
  refine At.go (q := xm16) rfl 2 (pc' := 3) (L' := [(0, .retAddr 226)]) (st' := [.retAddr 226, .int 790386105]) rfl ?_
  refine At.sn rfl ?_
  refine At.go (q := xm16) rfl 5 (pc' := 9) (L' := [(2, .retAddr 226), (1, .int (790386105 + (Int32.ofNat S.length))), (0, .retAddr 226)]) (st' := [.retAddr 226]) rfl ?_
  refine At.sn rfl ?_
  refine At.go (q := xm16) rfl 3 (pc' := 14) (L' := [(4, .int 0), (3, .int (Int32.ofNat S.length)), (2, .retAddr 226), (1, .int (790386105 + (Int32.ofNat S.length))), (0, .retAddr 226)]) (st' := []) rfl ?_
  refine At.wk (L' := [(4, .int 0), (1, .int (790386105 + (Int32.ofNat S.length))), (0, .retAddr 226), (2, .retAddr 226), (3, .int (Int32.ofNat S.length))]) (List.forall_mem_cons.mpr ⟨List.mem_of_getElem? (i := 0) rfl, (List.forall_mem_cons.mpr ⟨List.mem_of_getElem? (i := 3) rfl, (List.forall_mem_cons.mpr ⟨List.mem_of_getElem? (i := 4) rfl, (List.forall_mem_cons.mpr ⟨List.mem_of_getElem? (i := 2) rfl, (List.forall_mem_cons.mpr ⟨List.mem_of_getElem? (i := 1) rfl, (fun _ h => (List.not_mem_nil h).elim)⟩)⟩)⟩)⟩)⟩) (show ([4, 3, 2, 1, 0] : List Nat).Nodup by decide) ?_
  exact st_loop hS S.length 0 _ (by omega)
theorem at_ex {S : List Int32} {d y : Nat} {as : List Value} {hp : List XC} (h : At S d y 0 (lv_args 0 as) [] hp 0 0 (fun o => ∃ x, o = .inl (some (.int x), hp, 0, 0))) : ∃ x, Pu S d y as hp (.int x) := by
  obtain ⟨n, o, h1, x, e⟩ := h
  exact ⟨x, n, o, h1, e⟩
theorem m_stir {S : List Int32} {hp : List XC} (hS : S.length ≤ 1000) : ∃ x, Pu S 0 16 [.retAddr 226] hp (.int x) := at_ex (m_stir0 hS)
theorem m_cell0 {S : List Int32} {hp : List XC} {k : Nat} (hk9 : k ≤ 200000) (hS : S.length ≤ 1000) : At S 0 17 0 (lv_args 0 [.retAddr 226, .int (Int32.ofNat k)]) [] hp 0 0 (fun o => ∃ x, o = .inl (some (.int x), hp, 0, 0)) := by
  refine At.go (q := xm17) rfl 2 (pc' := 2) (L' := [(0, .retAddr 226), (1, .int (Int32.ofNat k))]) (st' := [.retAddr 226, .int (Int32.ofNat k)]) rfl ?_
  refine At.sn rfl ?_
  by_cases hk : k < S.length
  · obtain ⟨x9, hx9⟩ : ∃ c, S[k]? = some c := ⟨_, List.getElem?_eq_getElem hk⟩
    refine At.ic2 (tgt := 12) rfl rfl (fun h => absurd (h.symm.trans (decide_eq_false (fun h => absurd ((iN_lt (a := k) (b := S.length) (by omega) (by omega)).mpr hk) (Int32.not_lt.mpr h)))) (by decide)) (fun _ => ?_)
    refine At.go (q := xm17) rfl 2 (pc' := 8) (L' := [(0, .retAddr 226), (1, .int (Int32.ofNat k))]) (st' := [.int (Int32.ofNat k), .retAddr 226]) rfl ?_
    refine At.sl (x := x9) rfl (iN_nn (by omega)) (by rw [iN_tn (by omega)]; exact hx9) ?_
    refine At.go (q := xm17) rfl 1 (pc' := 18) (L' := [(0, .retAddr 226), (1, .int (Int32.ofNat k))]) (st' := [.int x9]) rfl ?_
    exact At.rt rfl (xret_i rfl) ⟨_, rfl⟩
  · refine At.ic2 (tgt := 12) rfl rfl (fun _ => ?_) (fun h => absurd (h.symm.trans (decide_eq_true (Int32.not_lt.mp (fun h => hk ((iN_lt (by omega) (by omega)).mp h))))) (by decide))
    refine At.go (q := xm17) rfl 5 (pc' := 18) (L' := [(0, .retAddr 226), (1, .int (Int32.ofNat k))]) (st' := [.int (790386105 * ((Int32.ofNat k) + 1))]) rfl ?_
    exact At.rt rfl (xret_i rfl) ⟨_, rfl⟩
theorem m_cellL {S : List Int32} {hp : List XC} {k : Nat} (hk9 : k ≤ 200000) (hS : S.length ≤ 1000) : ∃ x, Pu S 0 17 [.retAddr 226, .int (Int32.ofNat k)] hp (.int x) := at_ex (m_cell0 hk9 hS)
theorem m_mix0 {S : List Int32} {hp : List XC} {a b : Int32} : At S 0 18 0 (lv_args 0 [.int a, .int b]) [] hp 0 0 (fun o => ∃ x, o = .inl (some (.int x), hp, 0, 0)) := by
  refine At.go (q := xm18) rfl 1 (pc' := 1) (L' := [(0, .int a), (1, .int b)]) (st' := [.int a]) rfl ?_
  refine At.go (q := xm18) rfl 1 (pc' := 2) (L' := [(0, .int a), (1, .int b)]) (st' := [.int b, .int a]) rfl ?_
  refine At.go (q := xm18) rfl 1 (pc' := 4) (L' := [(0, .int a), (1, .int b)]) (st' := [.int (-1640531527), .int b, .int a]) rfl ?_
  refine At.go (q := xm18) rfl 1 (pc' := 5) (L' := [(0, .int a), (1, .int b)]) (st' := [.int (b * (-1640531527)), .int a]) rfl ?_
  refine At.go (q := xm18) rfl 1 (pc' := 6) (L' := [(0, .int a), (1, .int b)]) (st' := [.int (a + (b * (-1640531527)))]) rfl ?_
  refine At.go (q := xm18) rfl 1 (pc' := 8) (L' := [(0, .int a), (1, .int b)]) (st' := [.int (-2048144789), .int (a + (b * (-1640531527)))]) rfl ?_
  refine At.go (q := xm18) rfl 1 (pc' := 9) (L' := [(0, .int a), (1, .int b)]) (st' := [.int ((a + (b * (-1640531527))) * (-2048144789))]) rfl ?_
  refine At.go (q := xm18) rfl 1 (pc' := 10) (L' := [(2, .int ((a + (b * (-1640531527))) * (-2048144789))), (0, .int a), (1, .int b)]) (st' := []) rfl ?_
  refine At.go (q := xm18) rfl 1 (pc' := 11) (L' := [(2, .int ((a + (b * (-1640531527))) * (-2048144789))), (0, .int a), (1, .int b)]) (st' := [.int ((a + (b * (-1640531527))) * (-2048144789))]) rfl ?_
  refine At.go (q := xm18) rfl 1 (pc' := 12) (L' := [(2, .int ((a + (b * (-1640531527))) * (-2048144789))), (0, .int a), (1, .int b)]) (st' := [.int ((a + (b * (-1640531527))) * (-2048144789)), .int ((a + (b * (-1640531527))) * (-2048144789))]) rfl ?_
  refine At.go (q := xm18) rfl 1 (pc' := 14) (L' := [(2, .int ((a + (b * (-1640531527))) * (-2048144789))), (0, .int a), (1, .int b)]) (st' := [.int 15, .int ((a + (b * (-1640531527))) * (-2048144789)), .int ((a + (b * (-1640531527))) * (-2048144789))]) rfl ?_
  refine At.go (q := xm18) rfl 1 (pc' := 15) (L' := [(2, .int ((a + (b * (-1640531527))) * (-2048144789))), (0, .int a), (1, .int b)]) (st' := [.int ((((a + (b * (-1640531527))) * (-2048144789)).toUInt32 >>> ((15 : Int32).toUInt32 &&& Int32.toUInt32 31)).toInt32), .int ((a + (b * (-1640531527))) * (-2048144789))]) rfl ?_
  refine At.go (q := xm18) rfl 1 (pc' := 16) (L' := [(2, .int ((a + (b * (-1640531527))) * (-2048144789))), (0, .int a), (1, .int b)]) (st' := [.int (((a + (b * (-1640531527))) * (-2048144789)) ^^^ ((((a + (b * (-1640531527))) * (-2048144789)).toUInt32 >>> ((15 : Int32).toUInt32 &&& Int32.toUInt32 31)).toInt32))]) rfl ?_
  refine At.go (q := xm18) rfl 1 (pc' := 18) (L' := [(2, .int ((a + (b * (-1640531527))) * (-2048144789))), (0, .int a), (1, .int b)]) (st' := [.int (-1028477387), .int (((a + (b * (-1640531527))) * (-2048144789)) ^^^ ((((a + (b * (-1640531527))) * (-2048144789)).toUInt32 >>> ((15 : Int32).toUInt32 &&& Int32.toUInt32 31)).toInt32))]) rfl ?_
  refine At.go (q := xm18) rfl 1 (pc' := 19) (L' := [(2, .int ((a + (b * (-1640531527))) * (-2048144789))), (0, .int a), (1, .int b)]) (st' := [.int ((((a + (b * (-1640531527))) * (-2048144789)) ^^^ ((((a + (b * (-1640531527))) * (-2048144789)).toUInt32 >>> ((15 : Int32).toUInt32 &&& Int32.toUInt32 31)).toInt32)) * (-1028477387))]) rfl ?_
  refine At.go (q := xm18) rfl 1 (pc' := 20) (L' := [(2, .int ((((a + (b * (-1640531527))) * (-2048144789)) ^^^ ((((a + (b * (-1640531527))) * (-2048144789)).toUInt32 >>> ((15 : Int32).toUInt32 &&& Int32.toUInt32 31)).toInt32)) * (-1028477387))), (0, .int a), (1, .int b)]) (st' := []) rfl ?_
  refine At.go (q := xm18) rfl 1 (pc' := 21) (L' := [(2, .int ((((a + (b * (-1640531527))) * (-2048144789)) ^^^ ((((a + (b * (-1640531527))) * (-2048144789)).toUInt32 >>> ((15 : Int32).toUInt32 &&& Int32.toUInt32 31)).toInt32)) * (-1028477387))), (0, .int a), (1, .int b)]) (st' := [.int ((((a + (b * (-1640531527))) * (-2048144789)) ^^^ ((((a + (b * (-1640531527))) * (-2048144789)).toUInt32 >>> ((15 : Int32).toUInt32 &&& Int32.toUInt32 31)).toInt32)) * (-1028477387))]) rfl ?_
  refine At.go (q := xm18) rfl 1 (pc' := 22) (L' := [(2, .int ((((a + (b * (-1640531527))) * (-2048144789)) ^^^ ((((a + (b * (-1640531527))) * (-2048144789)).toUInt32 >>> ((15 : Int32).toUInt32 &&& Int32.toUInt32 31)).toInt32)) * (-1028477387))), (0, .int a), (1, .int b)]) (st' := [.int ((((a + (b * (-1640531527))) * (-2048144789)) ^^^ ((((a + (b * (-1640531527))) * (-2048144789)).toUInt32 >>> ((15 : Int32).toUInt32 &&& Int32.toUInt32 31)).toInt32)) * (-1028477387)), .int ((((a + (b * (-1640531527))) * (-2048144789)) ^^^ ((((a + (b * (-1640531527))) * (-2048144789)).toUInt32 >>> ((15 : Int32).toUInt32 &&& Int32.toUInt32 31)).toInt32)) * (-1028477387))]) rfl ?_
  refine At.go (q := xm18) rfl 1 (pc' := 24) (L' := [(2, .int ((((a + (b * (-1640531527))) * (-2048144789)) ^^^ ((((a + (b * (-1640531527))) * (-2048144789)).toUInt32 >>> ((15 : Int32).toUInt32 &&& Int32.toUInt32 31)).toInt32)) * (-1028477387))), (0, .int a), (1, .int b)]) (st' := [.int 16, .int ((((a + (b * (-1640531527))) * (-2048144789)) ^^^ ((((a + (b * (-1640531527))) * (-2048144789)).toUInt32 >>> ((15 : Int32).toUInt32 &&& Int32.toUInt32 31)).toInt32)) * (-1028477387)), .int ((((a + (b * (-1640531527))) * (-2048144789)) ^^^ ((((a + (b * (-1640531527))) * (-2048144789)).toUInt32 >>> ((15 : Int32).toUInt32 &&& Int32.toUInt32 31)).toInt32)) * (-1028477387))]) rfl ?_
  refine At.go (q := xm18) rfl 1 (pc' := 25) (L' := [(2, .int ((((a + (b * (-1640531527))) * (-2048144789)) ^^^ ((((a + (b * (-1640531527))) * (-2048144789)).toUInt32 >>> ((15 : Int32).toUInt32 &&& Int32.toUInt32 31)).toInt32)) * (-1028477387))), (0, .int a), (1, .int b)]) (st' := [.int ((((((a + (b * (-1640531527))) * (-2048144789)) ^^^ ((((a + (b * (-1640531527))) * (-2048144789)).toUInt32 >>> ((15 : Int32).toUInt32 &&& Int32.toUInt32 31)).toInt32)) * (-1028477387)).toUInt32 >>> ((16 : Int32).toUInt32 &&& Int32.toUInt32 31)).toInt32), .int ((((a + (b * (-1640531527))) * (-2048144789)) ^^^ ((((a + (b * (-1640531527))) * (-2048144789)).toUInt32 >>> ((15 : Int32).toUInt32 &&& Int32.toUInt32 31)).toInt32)) * (-1028477387))]) rfl ?_
  refine At.go (q := xm18) rfl 1 (pc' := 26) (L' := [(2, .int ((((a + (b * (-1640531527))) * (-2048144789)) ^^^ ((((a + (b * (-1640531527))) * (-2048144789)).toUInt32 >>> ((15 : Int32).toUInt32 &&& Int32.toUInt32 31)).toInt32)) * (-1028477387))), (0, .int a), (1, .int b)]) (st' := [.int (((((a + (b * (-1640531527))) * (-2048144789)) ^^^ ((((a + (b * (-1640531527))) * (-2048144789)).toUInt32 >>> ((15 : Int32).toUInt32 &&& Int32.toUInt32 31)).toInt32)) * (-1028477387)) ^^^ ((((((a + (b * (-1640531527))) * (-2048144789)) ^^^ ((((a + (b * (-1640531527))) * (-2048144789)).toUInt32 >>> ((15 : Int32).toUInt32 &&& Int32.toUInt32 31)).toInt32)) * (-1028477387)).toUInt32 >>> ((16 : Int32).toUInt32 &&& Int32.toUInt32 31)).toInt32))]) rfl ?_
  exact At.rt rfl (xret_i rfl) ⟨_, rfl⟩
theorem m_mixL {S : List Int32} {hp : List XC} {a b : Int32} : ∃ x, Pu S 0 18 [.int a, .int b] hp (.int x) := at_ex m_mix0
