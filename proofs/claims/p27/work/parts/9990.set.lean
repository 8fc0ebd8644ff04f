/-! set (written by wip/p27/c9990.py) -/
theorem set_loop {S : List Int32} {hq : List XC} {ch x s m sa w c9 : Nat} {e : En} {v0 : List Int32} {Q : XO → Prop} {nc ns : Nat} (hx : hq[x]? = some (.inr (4, [.ref e.2.2.2.2.2, .int e.2.1, .int e.2.2.1, .int (bI e.2.2.2.1), .ref c9]))) (hxc : hq[c9]? = some (.inl (24, e.2.2.2.2.1.map Value.int))) (hxl : e.2.2.2.2.1.length ≤ 1000) (hsa : hq[sa]? = some (.inl (16, v0.map Value.int))) (hw : w ≤ 1000) (hK : ∀ (i : Int32), At S 8 194 39 [(5, .int i), (0, .ref ch), (1, .ref x), (2, .ref s), (3, .ref m), (4, .ref hq.length)] [] (hPut hq sa v0 (putC false 0 (fun i => hold e.2.2.2.2.1 (Int32.ofNat i)) w)) nc ns Q) : ∀ (j i : Nat) (cs : List Int32), i + j = w → cs.length = w → cs.take i = putC false 0 (fun i => hold e.2.2.2.2.1 (Int32.ofNat i)) i → At S 8 194 14 [(5, .int (Int32.ofNat i)), (0, .ref ch), (1, .ref x), (2, .ref s), (3, .ref m), (4, .ref hq.length)] [] (hPut hq sa v0 cs) nc ns Q := by
  intro j
  induction j with
  | zero =>
    intro i cs hi hcl hct
    have hna := hPut_na (hq := hq) (sa := sa) (vs := v0) (cs := cs)
    refine At.go (q := xm194) rfl 2 (pc' := 18) (L' := [(5, .int (Int32.ofNat i)), (0, .ref ch), (1, .ref x), (2, .ref s), (3, .ref m), (4, .ref hq.length)]) (st' := [.ref hq.length, .int (Int32.ofNat i)]) rfl ?_
    refine At.ln rfl hna ?_
    rw [List.length_map]
    refine At.ic2 (tgt := 39) rfl rfl (fun _ => ?_) (fun h => absurd (decide_eq_true ((iN_le (a := cs.length) (b := i) (by omega) (by omega)).mpr (by omega))) (by rw [show decide (Int32.ofNat cs.length ≤ Int32.ofNat i) = false from h]; decide))
    rw [List.take_of_length_le (by omega)] at hct
    rw [hct, show i = w by omega]
    exact hK _
  | succ j ih =>
    intro i cs hi hcl hct
    have hna := hPut_na (hq := hq) (sa := sa) (vs := v0) (cs := cs)
    have f9 := hPut_fr (vs := v0) (cs := cs) hsa
    have hx9 := f9.ob hx (by decide) (fun e => xn_ra hx hsa e)
    have hc9 := f9.2.2.1 _ _ hxc rfl (Or.inr rfl)
    refine At.go (q := xm194) rfl 2 (pc' := 18) (L' := [(5, .int (Int32.ofNat i)), (0, .ref ch), (1, .ref x), (2, .ref s), (3, .ref m), (4, .ref hq.length)]) (st' := [.ref hq.length, .int (Int32.ofNat i)]) rfl ?_
    refine At.ln rfl hna ?_
    rw [List.length_map]
    refine At.ic2 (tgt := 39) rfl rfl (fun h => absurd ((iN_le (a := cs.length) (b := i) (by omega) (by omega)).mp (of_decide_eq_true h)) (by omega)) (fun _ => ?_)
    refine At.go (q := xm194) rfl 4 (pc' := 29) (L' := [(5, .int (Int32.ofNat i)), (0, .ref ch), (1, .ref x), (2, .ref s), (3, .ref m), (4, .ref hq.length)]) (st' := [.int (Int32.ofNat i), .ref x, .int (Int32.ofNat i), .ref hq.length]) rfl ?_
    refine At.clp (as := [.ref x, .int (Int32.ofNat i)]) (rest := [.int (Int32.ofNat i), .ref hq.length]) rfl (by decide) rfl (Nat.le_of_ble_eq_true rfl) (Nat.le_of_ble_eq_true rfl) (xrck_o (by decide) (by decide) hx9 (by decide)) (Nat.le_of_ble_eq_true rfl) (m_hold hx9 hc9 (by omega) (Int32.ofNat i)) ?_
    refine At.as (j := Int32.ofNat i) rfl hna (by decide) rfl (iN_nn (by omega)) (by rw [iN_tn (by omega), List.length_map]; omega) ?_
    rw [iN_tn (by omega)]
    refine At.go (q := xm194) rfl 2 (pc' := 14) (L' := [(5, .int ((Int32.ofNat i) + 1)), (0, .ref ch), (1, .ref x), (2, .ref s), (3, .ref m), (4, .ref hq.length)]) (st' := []) rfl ?_
    rw [iN_s]
    refine At.wk (L' := [(5, .int (Int32.ofNat (i + 1))), (0, .ref ch), (1, .ref x), (2, .ref s), (3, .ref m), (4, .ref hq.length)]) (List.forall_mem_cons.mpr ⟨List.mem_of_getElem? (i := 0) rfl, (List.forall_mem_cons.mpr ⟨List.mem_of_getElem? (i := 1) rfl, (List.forall_mem_cons.mpr ⟨List.mem_of_getElem? (i := 2) rfl, (List.forall_mem_cons.mpr ⟨List.mem_of_getElem? (i := 3) rfl, (List.forall_mem_cons.mpr ⟨List.mem_of_getElem? (i := 4) rfl, (List.forall_mem_cons.mpr ⟨List.mem_of_getElem? (i := 5) rfl, (fun _ h => (List.not_mem_nil h).elim)⟩)⟩)⟩)⟩)⟩)⟩) (show ([5, 0, 1, 2, 3, 4] : List Nat).Nodup by decide) ?_
    have hk9 := ih (i + 1) (cs.set i ((fun i => hold e.2.2.2.2.1 (Int32.ofNat i)) i)) (by omega) (by rw [List.length_set]; exact hcl) (putC_s hcl hct (by omega) (by rw [if_neg (by intro h; cases h.2)]))
    rw [← hPut_sc (cs := cs), List.map_set] at hk9
    exact hk9
/-- the cells of a row that is set -/
def setC (cs0 : List Int32) (w col : Nat) (z : Int32) : List Int32 := (putC false 0 (fun i => hold cs0 (Int32.ofNat i)) w).set col z
/-- set -/
theorem m_cset {S : List Int32} {hp : List XC} {ch d t mm g s m x c ka fa if0 if1 items vb oa aa pa sa wa l mc col f9 t9 : Nat} {lb al gi : Int32} {kd fr : Nat → Nat} {os : List (Nat × Int32)} {ws : Value} {es9 mf ces sf : List Value} {gs v0 : List Int32} {T : Tb} {as ta ma : List Nat} {es ts ms : List En} {e : En} (hc : hp[ch]? = some (.inr (3, [.ref d, .ref t, .ref mm, .ref g, .int lb, .int al, .int gi]))) (hd0 : hp[d]? = some (.inr (10, [.ref l]))) (hlt : ¬ l = t) (hlm : ¬ l = mm) (htm : ¬ t = mm) (hO : Own hp) (hL : hLs hp l as) (hT : hLs hp t ta) (hM : hLs hp mm ma) (hE : hEs hp as es) (hTs : hEs hp ta ts) (hMs : hEs hp ma ms) (hsr : Srt es) (hn : as.length ≤ 60000) (hnT : ta.length ≤ 60000) (hnM : ma.length ≤ 60000) (hX : hEn hp x e) (hTb : hTb hp e.2.2.2.2.2 e.1 T) (hm : hp[m]? = some (.inr (6, mf))) (hm9 : mf[9]? = some (.ref mc)) (hmc : hp[mc]? = some (.inl (17, ces))) (hcv : ces[0]? = some (.int (Int32.ofNat col))) (hcl : ces.length ≤ 1000) (hS : hSt hp s c ka fa if0 if1 items vb kd fr) (hs : hp[s]? = some (.inr (12, sf))) (h15 : sf[15]? = some (.int 1)) (hF : hFo hp c oa aa pa sa wa ws es9 gs os) (hsa : hp[sa]? = some (.inl (16, v0.map Value.int))) (hN : os.length ≤ v0.length) (hN2 : v0.length ≤ 1000) (hnm : ∀ (i : Nat) (q : Nat × Int32), os[i]? = some q → q.1 = 3 → ∃ j : Nat, j ≤ 100000 ∧ q.2 = Int32.ofNat j) (hw : T.2.2.1.length ≤ 1000) (hc1 : 0 < col) (hcw : col < T.2.2.1.length) {b16 b27 : Bool} (e16 : xeq xKC (.retAddr vb) (.retAddr 16) = some b16) (e27 : xeq xKC (.retAddr vb) (.retAddr 27) = some b27) (hi0 : 0 < items) (hf9 : f9 = fr 0) (ht9 : t9 = itTo items if0 os.length 0 (b16 || b27) fr) (hft : f9 ≤ t9) (htn : t9 ≤ os.length) (hok : (resR e.2.2.1 (fun g => cellE e.2.2.2.2.1 [] g.toNatClampNeg) ((os.take t9).drop f9) []).isSome = true) : Me S 8 194 [.ref ch, .ref x, .ref s, .ref m] hp (fun v hp' c9 s9 => v = none ∧ ∃ vs : List Int32, vs.length = v0.length ∧ ∃ c1 s1, MkR (hPut hp sa vs (setC e.2.2.2.2.1 T.2.2.1.length col (resE e.2.2.1 (fun g => cellE e.2.2.2.2.1 [] g.toNatClampNeg) ((os.take t9).drop f9)))) hp' l t mm (storeE es (e.1, e.2.1, lb, false, (setC e.2.2.2.2.1 T.2.2.1.length col (resE e.2.2.1 (fun g => cellE e.2.2.2.2.1 [] g.toNatClampNeg) ((os.take t9).drop f9))), e.2.2.2.2.2)) (ts ++ [(e.1, e.2.1, lb, false, (setC e.2.2.2.2.1 T.2.2.1.length col (resE e.2.2.1 (fun g => cellE e.2.2.2.2.1 [] g.toNatClampNeg) ((os.take t9).drop f9))), e.2.2.2.2.2)]) (ms ++ [(e.1, e.2.1, lb, false, (setC e.2.2.2.2.1 T.2.2.1.length col (resE e.2.2.1 (fun g => cellE e.2.2.2.2.1 [] g.toNatClampNeg) ((os.take t9).drop f9))), e.2.2.2.2.2)]) c1 s1 ∧ c9 = 2 + c1 ∧ s9 = T.2.2.1.length + 5 + s1) := by
  have hX9 := hX
  obtain ⟨c9, xf, hx, hxc, hxl, hxt⟩ := hX9
  refine At.go (q := xm194) rfl 1 (pc' := 1) (L' := [(0, .ref ch), (1, .ref x), (2, .ref s), (3, .ref m)]) (st' := [.ref x]) rfl ?_
  refine At.gf rfl (by decide) hx rfl ?_
  refine At.clp (as := [.ref e.2.2.2.2.2]) (rest := []) rfl (by decide) rfl (Nat.le_of_ble_eq_true rfl) (Nat.le_of_ble_eq_true rfl) (xrck_o (by decide) (by decide) hxt (by decide)) (Nat.le_of_ble_eq_true rfl) (m_width hTb) ?_
  refine At.na (t := 24) rfl (iN_nn (by omega)) (by rw [iN_tn (by omega)]; omega) (by decide) ?_
  rw [iN_tn (by omega)]
  have ehp : (hp ++ [Sum.inl (24, List.replicate T.2.2.1.length (Value.int 0))] : List XC) = hPut hp sa v0 (List.replicate T.2.2.1.length 0) := by
    unfold hPut
    rw [xset_id hsa, List.map_replicate]
  rw [ehp]
  refine At.go (q := xm194) rfl 3 (pc' := 14) (L' := [(5, .int 0), (4, .ref hp.length), (0, .ref ch), (1, .ref x), (2, .ref s), (3, .ref m)]) (st' := []) rfl ?_
  refine At.wk (L' := [(5, .int (Int32.ofNat 0)), (0, .ref ch), (1, .ref x), (2, .ref s), (3, .ref m), (4, .ref hp.length)]) (List.forall_mem_cons.mpr ⟨List.mem_of_getElem? (i := 0) rfl, (List.forall_mem_cons.mpr ⟨List.mem_of_getElem? (i := 2) rfl, (List.forall_mem_cons.mpr ⟨List.mem_of_getElem? (i := 3) rfl, (List.forall_mem_cons.mpr ⟨List.mem_of_getElem? (i := 4) rfl, (List.forall_mem_cons.mpr ⟨List.mem_of_getElem? (i := 5) rfl, (List.forall_mem_cons.mpr ⟨List.mem_of_getElem? (i := 1) rfl, (fun _ h => (List.not_mem_nil h).elim)⟩)⟩)⟩)⟩)⟩)⟩) (show ([5, 4, 0, 1, 2, 3] : List Nat).Nodup by decide) ?_
  refine set_loop hx hxc hxl hsa hw (fun i => ?_) _ 0 (List.replicate T.2.2.1.length 0) (Nat.zero_add _) List.length_replicate rfl
  obtain ⟨h1, eh1⟩ : ∃ h, h = hPut hp sa v0 (putC false 0 (fun i => hold e.2.2.2.2.1 (Int32.ofNat i)) T.2.2.1.length) := ⟨_, rfl⟩
  refine At.hpe eh1 ?_
  have f1 : FrX (fun x => x = sa) hp h1 := by rw [eh1]; exact hPut_fr hsa
  have hC0 : (putC false 0 (fun i => hold e.2.2.2.2.1 (Int32.ofNat i)) T.2.2.1.length).length = T.2.2.1.length := by unfold putC; rw [List.length_map, List.length_range]
  have hna1 : h1[hp.length]? = some (.inl (24, (putC false 0 (fun i => hold e.2.2.2.2.1 (Int32.ofNat i)) T.2.2.1.length).map Value.int)) := by rw [eh1]; exact hPut_na
  have hsa1 : h1[sa]? = some (.inl (16, v0.map Value.int)) := by rw [eh1]; exact hPut_sa hsa
  have hs1 := f1.ob hs (by decide) (fun e => xn_ra hs hsa e)
  have hm1 := f1.ob hm (by decide) (fun e => xn_ra hm hsa e)
  have hmc1 := f1.2.2.1 _ _ hmc rfl (Or.inl (fun e => xn_kd hmc hsa (by decide) e))
  have hX1 := hX.fr f1
  have hS1 : hSt h1 s c ka fa if0 if1 items vb kd fr := by
    have hS8 := hS
    obtain ⟨sf, kes, fes, k0, k1, k2, k3, k4, k5, k6, k7, k8, k9, -⟩ := hS8
    exact hS.fr f1 (fun e => xn_ra k0 hsa e) (fun e => xn_kd k8 hsa (by decide) e) (fun e => xn_kd k9 hsa (by decide) e)
  have hF1 := hF.fr f1 (fun e => xn_ra hF.ho hsa e) (fun e => xn_kd hF.hoa hsa (by decide) e) (fun e => xn_kd hF.haa hsa (by decide) e)
  refine At.go (q := xm194) rfl 4 (pc' := 45) (L' := [(5, .int 0), (0, .ref ch), (1, .ref x), (2, .ref s), (3, .ref m), (4, .ref hp.length)]) (st' := [.ref s, .int 0]) rfl ?_
  refine At.gf rfl (by decide) hs1 h15 ?_
  refine At.ic2 (tgt := 91) rfl rfl (fun h => absurd (h.symm.trans (by decide : xcm .ge (0 : Int32) 1 = false)) (by decide)) (fun _ => ?_)
  refine At.go (q := xm194) rfl 2 (pc' := 54) (L' := [(5, .int 0), (0, .ref ch), (1, .ref x), (2, .ref s), (3, .ref m), (4, .ref hp.length)]) (st' := [.int 0, .ref m]) rfl ?_
  refine At.clp (as := [.ref m, .int 0]) (rest := []) rfl (by decide) rfl (Nat.le_of_ble_eq_true rfl) (Nat.le_of_ble_eq_true rfl) (xrck_o (by decide) (by decide) hm1 (by decide)) (Nat.le_of_ble_eq_true rfl) (m_mcolumn hm1 hm9 hmc1 (i := 0) hcv hcl) ?_
  refine At.go (q := xm194) rfl 2 (pc' := 61) (L' := [(6, .int (Int32.ofNat col)), (5, .int 0), (0, .ref ch), (1, .ref x), (2, .ref s), (3, .ref m), (4, .ref hp.length)]) (st' := [.int (Int32.ofNat col)]) rfl ?_
  refine At.ic1 (tgt := 85) rfl rfl (fun h => absurd (of_decide_eq_true h) (fun h => absurd ((iN_le (a := col) (b := 0) (by omega) (by omega)).mp h) (by omega))) (fun _ => ?_)
  refine At.go (q := xm194) rfl 2 (pc' := 68) (L' := [(6, .int (Int32.ofNat col)), (5, .int 0), (0, .ref ch), (1, .ref x), (2, .ref s), (3, .ref m), (4, .ref hp.length)]) (st' := [.ref hp.length, .int (Int32.ofNat col)]) rfl ?_
  refine At.ln rfl hna1 ?_
  rw [List.length_map, hC0]
  refine At.ic2 (tgt := 85) rfl rfl (fun h => absurd ((iN_le (a := T.2.2.1.length) (b := col) (by omega) (by omega)).mp (of_decide_eq_true h)) (by omega)) (fun _ => ?_)
  refine At.go (q := xm194) rfl 6 (pc' := 81) (L' := [(6, .int (Int32.ofNat col)), (5, .int 0), (0, .ref ch), (1, .ref x), (2, .ref s), (3, .ref m), (4, .ref hp.length)]) (st' := [.null, .ref x, .int 0, .ref s, .int (Int32.ofNat col), .ref hp.length]) rfl ?_
  refine At.clm (as := [.ref s, .int 0, .ref x, .null]) (rest := [.int (Int32.ofNat col), .ref hp.length]) rfl (by decide) rfl (Nat.le_of_ble_eq_true rfl) (Nat.le_of_ble_eq_true rfl) (xrck_o (by decide) (by decide) hs1 (by decide)) (Nat.le_of_ble_eq_true rfl) (m_itemRes1 hS1 hX1 hF1 hsa1 hN hN2 hnm (i := 0) (f9 := f9) (t9 := t9) (by rw [hf9]; exact m_itemFrom hS1 hi0) (by rw [ht9]; exact m_itemTo hS1 (Nat.zero_le _) e16 e27 hF1) htn hft hok) (fun v9 hp1 c1 s1 hv9 => ?_)
  obtain ⟨rfl, ⟨vs2, hl2, rfl⟩, rfl, rfl⟩ := hv9
  rw [eh1, hPut_ss hsa]
  refine At.as (j := Int32.ofNat col) rfl hPut_na (by decide) rfl (iN_nn (by omega)) (by rw [iN_tn (by omega), List.length_map, hC0]; exact hcw) ?_
  rw [iN_tn (by omega)]
  have ep : (hPut hp sa vs2 (putC false 0 (fun i => hold e.2.2.2.2.1 (Int32.ofNat i)) T.2.2.1.length)).set hp.length (.inl (24, ((putC false 0 (fun i => hold e.2.2.2.2.1 (Int32.ofNat i)) T.2.2.1.length).map Value.int).set col (.int (resE e.2.2.1 (fun g => cellE e.2.2.2.2.1 [] g.toNatClampNeg) ((os.take t9).drop f9))))) = hPut hp sa vs2 (setC e.2.2.2.2.1 T.2.2.1.length col (resE e.2.2.1 (fun g => cellE e.2.2.2.2.1 [] g.toNatClampNeg) ((os.take t9).drop f9))) := by
    rw [← List.map_set, hPut_sc]
    rfl
  show At S 8 194 85 _ [] ((hPut hp sa vs2 (putC false 0 (fun i => hold e.2.2.2.2.1 (Int32.ofNat i)) T.2.2.1.length)).set hp.length (.inl (24, ((putC false 0 (fun i => hold e.2.2.2.2.1 (Int32.ofNat i)) T.2.2.1.length).map Value.int).set col (.int (resE e.2.2.1 (fun g => cellE e.2.2.2.2.1 [] g.toNatClampNeg) ((os.take t9).drop f9)))))) _ _ _
  rw [ep]
  obtain ⟨hb, ehb⟩ : ∃ h, h = hPut hp sa vs2 (setC e.2.2.2.2.1 T.2.2.1.length col (resE e.2.2.1 (fun g => cellE e.2.2.2.2.1 [] g.toNatClampNeg) ((os.take t9).drop f9))) := ⟨_, rfl⟩
  refine At.hpe ehb ?_
  have fb : FrX (fun x => x = sa) hp hb := by rw [ehb]; exact hPut_fr hsa
  have hC1 : (setC e.2.2.2.2.1 T.2.2.1.length col (resE e.2.2.1 (fun g => cellE e.2.2.2.2.1 [] g.toNatClampNeg) ((os.take t9).drop f9))).length = T.2.2.1.length := by unfold setC; rw [List.length_set]; exact hC0
  have hsb := fb.ob hs (by decide) (fun e => xn_ra hs hsa e)
  have hcb : hb[ch]? = some (.inr (3, [.ref d, .ref t, .ref mm, .ref g, .int lb, .int al, .int gi])) := fb.ob hc (by decide) (fun e => xn_ra hc hsa e)
  have hxb := fb.ob hx (by decide) (fun e => xn_ra hx hsa e)
  have hdb := fb.ob hd0 (by decide) (fun e => xn_ra hd0 hsa e)
  have np : ∀ z zs, hLs hp z zs → ¬ z = sa := fun z zs h e => by
    obtain ⟨lf, hl0⟩ := h.ob
    exact xn_ra hl0 hsa e
  have hOb := fb.2.1 hO
  have hLb := fb.ls (np _ _ hL) hO hL
  have hTb8 := fb.ls (np _ _ hT) hO hT
  have hMb := fb.ls (np _ _ hM) hO hM
  have hnab : hb[hp.length]? = some (.inl (24, (setC e.2.2.2.2.1 T.2.2.1.length col (resE e.2.2.1 (fun g => cellE e.2.2.2.2.1 [] g.toNatClampNeg) ((os.take t9).drop f9))).map Value.int)) := by rw [ehb]; exact hPut_na
  obtain ⟨v7, htb⟩ := fb.2.2.2.2.1 _ _ hxt
  refine At.go (q := xm194) rfl 4 (pc' := 45) (L' := [(5, .int (0 + 1)), (6, .int (Int32.ofNat col)), (0, .ref ch), (1, .ref x), (2, .ref s), (3, .ref m), (4, .ref hp.length)]) (st' := [.ref s, .int (0 + 1)]) rfl ?_
  refine At.gf rfl (by decide) hsb h15 ?_
  refine At.ic2 (tgt := 91) rfl rfl (fun _ => ?_) (fun h => absurd (h.symm.trans (by decide : xcm .ge ((0 : Int32) + 1) 1 = true)) (by decide))
  refine At.go (q := xm194) rfl 1 (pc' := 92) (L' := [(5, .int (0 + 1)), (6, .int (Int32.ofNat col)), (0, .ref ch), (1, .ref x), (2, .ref s), (3, .ref m), (4, .ref hp.length)]) (st' := [.ref ch]) rfl ?_
  refine At.nw (ci := 4) rfl ?_
  refine At.go (q := xm194) rfl 2 (pc' := 97) (L' := [(5, .int (0 + 1)), (6, .int (Int32.ofNat col)), (0, .ref ch), (1, .ref x), (2, .ref s), (3, .ref m), (4, .ref hp.length)]) (st' := [.ref x, .ref hb.length, .ref hb.length, .ref ch]) rfl ?_
  refine At.gf rfl (by decide) (xa_lt hxb) rfl ?_
  refine At.go (q := xm194) rfl 1 (pc' := 101) (L' := [(5, .int (0 + 1)), (6, .int (Int32.ofNat col)), (0, .ref ch), (1, .ref x), (2, .ref s), (3, .ref m), (4, .ref hp.length)]) (st' := [.ref x, .ref e.2.2.2.2.2, .ref hb.length, .ref hb.length, .ref ch]) rfl ?_
  refine At.gf rfl (by decide) (xa_lt hxb) rfl ?_
  refine At.go (q := xm194) rfl 1 (pc' := 105) (L' := [(5, .int (0 + 1)), (6, .int (Int32.ofNat col)), (0, .ref ch), (1, .ref x), (2, .ref s), (3, .ref m), (4, .ref hp.length)]) (st' := [.ref ch, .int e.2.1, .ref e.2.2.2.2.2, .ref hb.length, .ref hb.length, .ref ch]) rfl ?_
  refine At.gf rfl (by decide) (xa_lt hcb) rfl ?_
  refine At.go (q := xm194) rfl 2 (pc' := 111) (L' := [(5, .int (0 + 1)), (6, .int (Int32.ofNat col)), (0, .ref ch), (1, .ref x), (2, .ref s), (3, .ref m), (4, .ref hp.length)]) (st' := [.ref hp.length, .int 0, .int lb, .int e.2.1, .ref e.2.2.2.2.2, .ref hb.length, .ref hb.length, .ref ch]) rfl ?_
  refine mk_row (S := S) (hb := hb) (y := 194) (pc := 111) (rest := []) rfl rfl hcb hdb hlt hlm htm hOb hLb hTb8 hMb (hE.fr fb) (hTs.fr fb) (hMs.fr fb) hsr hn hnT hnM htb hnab (by omega) (Nat.zero_le _) (fun hp9 c1 s1 hmk => ?_)
  exact At.rt rfl rfl ⟨_, _, _, _, rfl, rfl, vs2, hl2, c1, s1, by rw [← ehb]; exact hmk, by omega, by show 0 + T.2.2.1.length + 5 + s1 = _; omega⟩
