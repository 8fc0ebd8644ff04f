/-! changes: merge, the whole (written by wip/p27/c81.py) -/
def mgP1 (dr : Nat → Bool) (cs : List En) : Bool := cs.any (fun e => dr e.2.2.2.2.2)
def mgP2 (cs ts : List En) (n0 : Nat) : Bool := (ts.drop n0).any (fun e => hasCE cs e)
def mgP3 (D cs : List En) (lb : Int32) : Bool := cs.any (fun e => decide (12 < cntE D e.1 lb))
def mgP4 (TI : Nat → Tb) (D cs : List En) (lb : Int32) : Bool := cs.any (fun e => hasTwsE (TI e.2.2.2.2.2) D e.1 lb)
/-- merge's answer -/
def mergeC (p1 p2 p3 p4 : Bool) : Int32 := if p1 = true then 100 else if p2 = true then 120 else if p3 = true then 102 else if p4 = true then 117 else 0
/-- merge -/
theorem m_merge {S : List Int32} {hp : List XC} {ch z r m l sl rl : Nat} {lb al gi : Int32} {d t mm g : Nat} {zl zn zr zc zw zb : Int32} {zt za s k n0 : Nat} {TI : Nat → Tb} {dr : Nat → Bool} {as bs ta ma sa ra ms : List Nat} {cs own all ts : List En} (hc : hp[ch]? = some (.inr (3, [.ref d, .ref t, .ref mm, .ref g, .int lb, .int al, .int gi]))) (hz : hp[z]? = some (.inr (9, [.int zl, .ref zt, .int zn, .ref za, .int zr, .int zc, .int zw, .int zb, .ref s, .ref k, .int (Int32.ofNat n0)]))) (hd0 : hp[d]? = some (.inr (10, [.ref l]))) (hs0 : hp[s]? = some (.inr (10, [.ref sl]))) (hr0 : hp[r]? = some (.inr (10, [.ref rl]))) (hO : Own hp) (hL : hLs hp l as) (hTl : hLs hp t ta) (hMl : hLs hp mm ma) (hK : hLs hp k bs) (hSl : hLs hp sl sa) (hR : hLs hp rl ra) (hM : hLs hp m ms) (hC : hEs hp bs cs) (hF : hEs hp sa own) (hAll : hEs hp ra all) (hT : hEs hp ms ts) (hsF : Srt own) (hsA : Srt all) (hlr : l ≠ rl) (hlt : ¬ l = t) (hlm : ¬ l = mm) (htm : ¬ t = mm) (hkl : ¬ k = l) (hkt : ¬ k = t) (hkm : ¬ k = mm) (hsl : ¬ sl = l) (hst : ¬ sl = t) (hsm : ¬ sl = mm) (hn : ra.length ≤ 60000) (hn9 : ra.length + bs.length ≤ 60000) (hn0 : n0 ≤ ts.length) (hdr : ∀ e ∈ cs, ∃ fs : List Value, hp[e.2.2.2.2.2]? = some (.inr (13, fs)) ∧ fs[8]? = some (bv (dr e.2.2.2.2.2))) (hTab : ∀ e ∈ cs, hTb hp e.2.2.2.2.2 e.1 (TI e.2.2.2.2.2) ∧ 1 ≤ (TI e.2.2.2.2.2).2.2.1.length) (hser : ∀ e ∈ cs, ∀ f ∈ bringAll all own cs, f.1 = e.1 → f.2.2.2.2.2 = e.2.2.2.2.2) : Me S 10 254 [.ref ch, .ref z, .ref r, .ref m] hp (fun v hp' c s' => v = some (.int (mergeC (mgP1 dr cs) (mgP2 cs ts n0) (mgP3 (bringAll all own cs) cs zl) (mgP4 TI (bringAll all own cs) cs zl))) ∧ FrX (fun x => x = ch ∨ x = l ∨ x = t ∨ x = mm) hp hp' ∧ ((mgP1 dr cs || mgP2 cs ts n0) = true → hp' = hp) ∧ ((mgP1 dr cs || mgP2 cs ts n0) = false → hp'[ch]? = some (.inr (3, [.ref d, .ref t, .ref mm, .ref g, .int zl, .int 0, .int 0])) ∧ hSh hp' l (bringAll all own cs) ∧ hLs hp' t [] ∧ hLs hp' mm []) ∧ c + capL hp l ≤ capL hp' l ∧ s' + 4 * capL hp l ≤ 4 * capL hp' l ∧ capL hp' l ≤ max (capL hp l) (2 * (all.length + cs.length) + 10) ∧ capL hp' t = capL hp t ∧ capL hp' mm = capL hp mm) := by
  have hbn := hM.len
  have hle := hT.1
  refine At.go (q := xm254) rfl 1 (pc' := 1) (L' := [(0, .ref ch), (1, .ref z), (2, .ref r), (3, .ref m)]) (st' := [.ref z]) rfl ?_
  refine At.gf rfl (by decide) hz rfl ?_
  refine At.go (q := xm254) rfl 3 (pc' := 9) (L' := [(5, .int 0), (4, .ref k), (0, .ref ch), (1, .ref z), (2, .ref r), (3, .ref m)]) (st' := []) rfl ?_
  refine At.wk (L' := [(5, .int 0), (4, .ref k), (0, .ref ch), (1, .ref z), (2, .ref r), (3, .ref m)]) (List.forall_mem_cons.mpr ⟨List.mem_of_getElem? (i := 0) rfl, (List.forall_mem_cons.mpr ⟨List.mem_of_getElem? (i := 1) rfl, (List.forall_mem_cons.mpr ⟨List.mem_of_getElem? (i := 2) rfl, (List.forall_mem_cons.mpr ⟨List.mem_of_getElem? (i := 3) rfl, (List.forall_mem_cons.mpr ⟨List.mem_of_getElem? (i := 4) rfl, (List.forall_mem_cons.mpr ⟨List.mem_of_getElem? (i := 5) rfl, (fun _ h => (List.not_mem_nil h).elim)⟩)⟩)⟩)⟩)⟩)⟩) (show ([5, 4, 0, 1, 2, 3] : List Nat).Nodup by decide) ?_
  refine mg1 (dr := dr) hK hC hdr cs.length 0 (by omega) (fun h1 => ?_) (fun h1 => ?_)
  · have p1 : mgP1 dr cs = false := h1
    refine At.go (q := xm254) rfl 1 (pc' := 48) (L' := [(4, .ref k), (0, .ref ch), (1, .ref z), (2, .ref r), (3, .ref m)]) (st' := [.ref z]) rfl ?_
    refine At.gf rfl (by decide) hz rfl ?_
    refine At.go (q := xm254) rfl 1 (pc' := 52) (L' := [(4, .ref k), (0, .ref ch), (1, .ref z), (2, .ref r), (3, .ref m)]) (st' := [.int 0, .int (Int32.ofNat n0)]) rfl ?_
    refine At.sp rfl (by decide) (g := ([.int (if (Int32.ofNat n0) < 0 then 0 else (Int32.ofNat n0))], hp)) rfl ?_
    rw [if_neg (iN_nn (by omega))]
    refine At.go (q := xm254) rfl 1 (pc' := 57) (L' := [(5, .int (Int32.ofNat n0)), (4, .ref k), (0, .ref ch), (1, .ref z), (2, .ref r), (3, .ref m)]) (st' := []) rfl ?_
    refine At.wk (L' := [(5, .int (Int32.ofNat n0)), (4, .ref k), (0, .ref ch), (1, .ref z), (2, .ref r), (3, .ref m)]) (List.forall_mem_cons.mpr ⟨List.mem_of_getElem? (i := 0) rfl, (List.forall_mem_cons.mpr ⟨List.mem_of_getElem? (i := 1) rfl, (List.forall_mem_cons.mpr ⟨List.mem_of_getElem? (i := 2) rfl, (List.forall_mem_cons.mpr ⟨List.mem_of_getElem? (i := 3) rfl, (List.forall_mem_cons.mpr ⟨List.mem_of_getElem? (i := 4) rfl, (List.forall_mem_cons.mpr ⟨List.mem_of_getElem? (i := 5) rfl, (fun _ h => (List.not_mem_nil h).elim)⟩)⟩)⟩)⟩)⟩)⟩) (show ([5, 4, 0, 1, 2, 3] : List Nat).Nodup by decide) ?_
    refine mg2 hz hK hC hM hT (ts.length - n0) n0 (by omega) (fun h2 => ?_) (fun h2 => ?_)
    · have p2 : mgP2 cs ts n0 = false := h2
      refine At.go (q := xm254) rfl 3 (pc' := 94) (L' := [(4, .ref k), (0, .ref ch), (1, .ref z), (2, .ref r), (3, .ref m)]) (st' := [.ref z, .ref r, .ref ch]) rfl ?_
      refine At.gf rfl (by decide) hz rfl ?_
      refine At.clm (as := [.ref ch, .ref r, .int zl]) (rest := []) rfl (by decide) rfl (Nat.le_of_ble_eq_true rfl) (Nat.le_of_ble_eq_true rfl) (xrck_o (by decide) (by decide) hc (by decide)) (Nat.le_of_ble_eq_true rfl) (m_start hc hd0 hr0 hlr hlt hlm htm hO hL hR hTl hMl hAll hn) (fun v hr1 c1 s1 hv => ?_)
      obtain ⟨rfl, k1, kc, ⟨a1, k2, k2e⟩, kT, kM, k3, k4, k5, kt, km⟩ := hv
      have hz1 := k1.ob hz (by decide) (fun h => h.elim (fun e => xn_cl hz hc (by decide) e) (fun h => h.elim (ob_ne hz (by decide) hL) (fun h => h.elim (ob_ne hz (by decide) hTl) (ob_ne hz (by decide) hMl))))
      have hd1 := k1.ob hd0 (by decide) (fun h => h.elim (fun e => xn_cl hd0 hc (by decide) e) (fun h => h.elim (ob_ne hd0 (by decide) hL) (fun h => h.elim (ob_ne hd0 (by decide) hTl) (ob_ne hd0 (by decide) hMl))))
      have hs1 := k1.ob hs0 (by decide) (fun h => h.elim (fun e => xn_cl hs0 hc (by decide) e) (fun h => h.elim (ob_ne hs0 (by decide) hL) (fun h => h.elim (ob_ne hs0 (by decide) hTl) (ob_ne hs0 (by decide) hMl))))
      have hO1 := k1.2.1 hO
      have hSl1 := k1.ls (fun h => h.elim (fun e => ob_ne hc (by decide) hSl e.symm) (fun h => h.elim hsl (fun h => h.elim hst hsm))) hO hSl
      have hK1 := k1.ls (fun h => h.elim (fun e => ob_ne hc (by decide) hK e.symm) (fun h => h.elim hkl (fun h => h.elim hkt hkm))) hO hK
      refine At.go (q := xm254) rfl 2 (pc' := 103) (L' := [(5, .int 0), (4, .ref k), (0, .ref ch), (1, .ref z), (2, .ref r), (3, .ref m)]) (st' := []) rfl ?_
      refine At.wk (L' := [(5, .int 0), (4, .ref k), (0, .ref ch), (1, .ref z), (2, .ref r), (3, .ref m)]) (List.forall_mem_cons.mpr ⟨List.mem_of_getElem? (i := 0) rfl, (List.forall_mem_cons.mpr ⟨List.mem_of_getElem? (i := 1) rfl, (List.forall_mem_cons.mpr ⟨List.mem_of_getElem? (i := 2) rfl, (List.forall_mem_cons.mpr ⟨List.mem_of_getElem? (i := 3) rfl, (List.forall_mem_cons.mpr ⟨List.mem_of_getElem? (i := 4) rfl, (List.forall_mem_cons.mpr ⟨List.mem_of_getElem? (i := 5) rfl, (fun _ h => (List.not_mem_nil h).elim)⟩)⟩)⟩)⟩)⟩)⟩) (show ([5, 4, 0, 1, 2, 3] : List Nat).Nodup by decide) ?_
      have hal := k2e.1
      have hcl := hC.1
      have hra := hAll.1
      refine mg3 hsl hkl hsF cs.length 0 hr1 a1 all (by omega) hO1 hz1 kc hd1 hs1 k2 hSl1 hK1 k2e (hF.fr k1) (hC.fr k1) hsA (by omega) (fun hr2 c2 s2 g1 g2 g3 g4 g5 => ?_)
      rw [List.drop_zero] at g2
      obtain ⟨a2, L2, E2⟩ := g2
      have hnlc : ¬ ch = l := ob_ne hc (by decide) hL
      have hc2 := g1.ob kc (by decide) hnlc
      have hd2 := g1.ob hd1 (by decide) (ob_ne hd1 (by decide) k2)
      have hO2 := g1.2.1 hO1
      have hK2 := g1.ls hkl hO1 hK1
      have hC2 := (hC.fr k1).fr g1
      have hT2 := g1.ls (fun e => hlt e.symm) hO1 kT
      have hM2 := g1.ls (fun e => hlm e.symm) hO1 kM
      have et := (g1.cap (fun e => hlt e.symm) hO1 kT).trans kt
      have em := (g1.cap (fun e => hlm e.symm) hO1 kM).trans km
      have hfr : FrX (fun x => x = ch ∨ x = l ∨ x = t ∨ x = mm) hp hr2 := FrX.tr k1 g1 (fun x hx => Or.inl (Or.inr (Or.inl hx)))
      have hTab2 : ∀ e ∈ cs, hTb hr2 e.2.2.2.2.2 e.1 (TI e.2.2.2.2.2) ∧ 1 ≤ (TI e.2.2.2.2.2).2.2.1.length := fun e he => ⟨(hTab e he).1.fr hfr, (hTab e he).2⟩
      refine At.go (q := xm254) rfl 2 (pc' := 140) (L' := [(5, .int 0), (4, .ref k), (0, .ref ch), (1, .ref z), (2, .ref r), (3, .ref m)]) (st' := []) rfl ?_
      refine At.wk (L' := [(5, .int 0), (4, .ref k), (0, .ref ch), (1, .ref z), (2, .ref r), (3, .ref m)]) (List.forall_mem_cons.mpr ⟨List.mem_of_getElem? (i := 0) rfl, (List.forall_mem_cons.mpr ⟨List.mem_of_getElem? (i := 1) rfl, (List.forall_mem_cons.mpr ⟨List.mem_of_getElem? (i := 2) rfl, (List.forall_mem_cons.mpr ⟨List.mem_of_getElem? (i := 3) rfl, (List.forall_mem_cons.mpr ⟨List.mem_of_getElem? (i := 4) rfl, (List.forall_mem_cons.mpr ⟨List.mem_of_getElem? (i := 5) rfl, (fun _ h => (List.not_mem_nil h).elim)⟩)⟩)⟩)⟩)⟩)⟩) (show ([5, 4, 0, 1, 2, 3] : List Nat).Nodup by decide) ?_
      refine mg4 hc2 hd2 L2 E2 hK2 hC2 cs.length 0 (by omega) (fun h3 => ?_) (fun h3 => ?_)
      · have p3 : mgP3 (bringAll all own cs) cs zl = false := h3
        refine At.go (q := xm254) rfl 2 (pc' := 191) (L' := [(5, .int 0), (4, .ref k), (0, .ref ch), (1, .ref z), (2, .ref r), (3, .ref m)]) (st' := []) rfl ?_
        refine At.wk (L' := [(5, .int 0), (4, .ref k), (0, .ref ch), (1, .ref z), (2, .ref r), (3, .ref m)]) (List.forall_mem_cons.mpr ⟨List.mem_of_getElem? (i := 0) rfl, (List.forall_mem_cons.mpr ⟨List.mem_of_getElem? (i := 1) rfl, (List.forall_mem_cons.mpr ⟨List.mem_of_getElem? (i := 2) rfl, (List.forall_mem_cons.mpr ⟨List.mem_of_getElem? (i := 3) rfl, (List.forall_mem_cons.mpr ⟨List.mem_of_getElem? (i := 4) rfl, (List.forall_mem_cons.mpr ⟨List.mem_of_getElem? (i := 5) rfl, (fun _ h => (List.not_mem_nil h).elim)⟩)⟩)⟩)⟩)⟩)⟩) (show ([5, 4, 0, 1, 2, 3] : List Nat).Nodup by decide) ?_
        refine mg5 (TI := TI) hc2 hd2 L2 E2 hK2 hC2 (bringAll_srt cs all hsA) hTab2 hser cs.length 0 (by omega) (fun h4 => ?_) (fun h4 => ?_)
        · have p4 : mgP4 TI (bringAll all own cs) cs zl = false := h4
          refine At.go (q := xm254) rfl 1 (pc' := 238) (L' := [(4, .ref k), (0, .ref ch), (1, .ref z), (2, .ref r), (3, .ref m)]) (st' := [.int 0]) rfl ?_
          exact At.rt rfl rfl ⟨_, _, _, _, rfl, by rw [p1, p2, p3, p4]; rfl, hfr, fun h9 => (by rw [p1, p2] at h9; cases h9), fun _ => ⟨hc2, ⟨a2, L2, E2⟩, hT2, hM2⟩, by omega, by omega, by omega, et, em⟩
        · have p4 : mgP4 TI (bringAll all own cs) cs zl = true := h4
          exact ⟨_, _, _, _, rfl, by rw [p1, p2, p3, p4]; rfl, hfr, fun h9 => (by rw [p1, p2] at h9; cases h9), fun _ => ⟨hc2, ⟨a2, L2, E2⟩, hT2, hM2⟩, by omega, by omega, by omega, et, em⟩
      · have p3 : mgP3 (bringAll all own cs) cs zl = true := h3
        exact ⟨_, _, _, _, rfl, by rw [p1, p2, p3]; rfl, hfr, fun h9 => (by rw [p1, p2] at h9; cases h9), fun _ => ⟨hc2, ⟨a2, L2, E2⟩, hT2, hM2⟩, by omega, by omega, by omega, et, em⟩
    · have p2 : mgP2 cs ts n0 = true := h2
      exact ⟨_, _, _, _, rfl, by rw [p1, p2]; rfl, FrX.rf, fun _ => rfl, fun h9 => (by rw [p1, p2] at h9; cases h9), by omega, by omega, by omega, rfl, rfl⟩
  · have p1 : mgP1 dr cs = true := h1
    exact ⟨_, _, _, _, rfl, by rw [p1]; rfl, FrX.rf, fun _ => rfl, fun h9 => (by rw [p1] at h9; cases h9), by omega, by omega, by omega, rfl, rfl⟩
