/-! put (written by wip/p27/c999.py) -/
theorem xret_c {x : Int32} (h : narrow .char (.int x) = .int x) : xret (some .char) .ireturn [.int x] = some (some (.int x)) := if_pos h
/-- put -/
theorem m_put {S : List Int32} {hp : List XC} {ch d t mm g lb s m tb ga c ka fa if0 if1 items vb oa aa pa sa wa l : Nat} {al gi : Int32} {gv : Bool} {kd fr : Nat → Nat} {os : List (Nat × Int32)} {ws : Value} {es9 mf : List Value} {gs v0 gvs : List Int32} {gn sr : Int32} {T : Tb} {as ta ma : List Nat} {es ts ms : List En} (hc : hp[ch]? = some (.inr (3, [.ref d, .ref t, .ref mm, .ref g, .int (Int32.ofNat lb), .int al, .int gi]))) (hd0 : hp[d]? = some (.inr (10, [.ref l]))) (hlt : ¬ l = t) (hlm : ¬ l = mm) (htm : ¬ t = mm) (hO : Own hp) (hL : hLs hp l as) (hT : hLs hp t ta) (hM : hLs hp mm ma) (hE : hEs hp as es) (hTs : hEs hp ta ts) (hMs : hEs hp ma ms) (hsr : Srt es) (hn : as.length ≤ 60000) (hnT : ta.length ≤ 60000) (hnM : ma.length ≤ 60000) (hm : hp[m]? = some (.inr (6, mf))) (hm4 : mf[4]? = some (.ref tb)) (hTb9 : hTb hp tb sr T) {tf : List Value} (ht : hp[tb]? = some (.inr (13, .int sr :: tf))) (h7 : (Value.int sr :: tf)[7]? = some (.ref ga)) (hga : hp[ga]? = some (.inl (22, gvs.map Value.int))) (hgn : gvs[lb]? = some gn) (hgl : gvs.length ≤ 1000) (hS : hSt hp s c ka fa if0 if1 items vb kd fr) (hF : hFo hp c oa aa pa sa wa ws es9 gs os) (hsa : hp[sa]? = some (.inl (16, v0.map Value.int))) (hN : os.length ≤ v0.length) (hN2 : v0.length ≤ 1000) (e16 : xeq xKC (.retAddr vb) (.retAddr 16) = some true) {b27 : Bool} (e27 : xeq xKC (.retAddr vb) (.retAddr 27) = some b27) (hi0 : 0 < items) (e17 : xeq xKC (.retAddr (kd 0)) (.retAddr 17) = some gv) (hnm : ∀ (i : Nat) (q : Nat × Int32), os[i]? = some q → q.1 = 3 → ∃ j : Nat, j ≤ 100000 ∧ q.2 = Int32.ofNat j) (hw : T.2.2.1.length ≤ 1000) (hw1 : 1 ≤ T.2.2.1.length) (hitm : ∀ i, i < T.2.2.1.length → ¬ (i = 0 ∧ gv = true) → i < items ∧ fr i ≤ itTo items if0 os.length i true fr ∧ itTo items if0 os.length i true fr ≤ os.length ∧ (resR (-1000000000) (fun _ => -1000000000) ((os.take (itTo items if0 os.length i true fr)).drop (fr i)) []).isSome = true) {key : Int32} (hkey : (putC gv (64 * (gn + 1) + Int32.ofNat lb) (fun i => resE (-1000000000) (fun _ => -1000000000) ((os.take (itTo items if0 os.length i true fr)).drop (fr i))) T.2.2.1.length)[0]? = some key) : Me S 8 191 [.ref ch, .ref s, .ref m] hp (fun v hp' c9 s9 => ∃ vs : List Int32, vs.length = v0.length ∧ ((key = -1000000000 ∧ v = some (.int 110) ∧ hp' = hPut (hp.set ch (.inr (3, [.ref d, .ref t, .ref mm, .ref g, .int (Int32.ofNat lb), .int al, .int (bI gv)]))) sa vs (putC gv (64 * (gn + 1) + Int32.ofNat lb) (fun i => resE (-1000000000) (fun _ => -1000000000) ((os.take (itTo items if0 os.length i true fr)).drop (fr i))) T.2.2.1.length) ∧ c9 = 1 ∧ s9 = T.2.2.1.length) ∨ (¬ key = -1000000000 ∧ (∃ f, findE es (sr, key, Int32.ofNat lb) = some f ∧ f.2.2.2.1 = false) ∧ v = some (.int 107) ∧ hp' = hPut (hp.set ch (.inr (3, [.ref d, .ref t, .ref mm, .ref g, .int (Int32.ofNat lb), .int al, .int (bI gv)]))) sa vs (putC gv (64 * (gn + 1) + Int32.ofNat lb) (fun i => resE (-1000000000) (fun _ => -1000000000) ((os.take (itTo items if0 os.length i true fr)).drop (fr i))) T.2.2.1.length) ∧ c9 = 1 ∧ s9 = T.2.2.1.length) ∨ (¬ key = -1000000000 ∧ (∀ f, findE es (sr, key, Int32.ofNat lb) = some f → f.2.2.2.1 = true) ∧ v = some (.int 0) ∧ ∃ c1 s1, MkR ((hPut (hp.set ch (.inr (3, [.ref d, .ref t, .ref mm, .ref g, .int (Int32.ofNat lb), .int al, .int (bI gv)]))) sa vs (putC gv (64 * (gn + 1) + Int32.ofNat lb) (fun i => resE (-1000000000) (fun _ => -1000000000) ((os.take (itTo items if0 os.length i true fr)).drop (fr i))) T.2.2.1.length)).set ch (.inr (3, [.ref d, .ref t, .ref mm, .ref g, .int (Int32.ofNat lb), .int 1, .int (bI gv)]))) hp' l t mm (storeE es (sr, key, Int32.ofNat lb, false, (putC gv (64 * (gn + 1) + Int32.ofNat lb) (fun i => resE (-1000000000) (fun _ => -1000000000) ((os.take (itTo items if0 os.length i true fr)).drop (fr i))) T.2.2.1.length), tb)) (ts ++ [(sr, key, Int32.ofNat lb, false, (putC gv (64 * (gn + 1) + Int32.ofNat lb) (fun i => resE (-1000000000) (fun _ => -1000000000) ((os.take (itTo items if0 os.length i true fr)).drop (fr i))) T.2.2.1.length), tb)]) (ms ++ [(sr, key, Int32.ofNat lb, false, (putC gv (64 * (gn + 1) + Int32.ofNat lb) (fun i => resE (-1000000000) (fun _ => -1000000000) ((os.take (itTo items if0 os.length i true fr)).drop (fr i))) T.2.2.1.length), tb)]) c1 s1 ∧ c9 = 2 + c1 ∧ s9 = T.2.2.1.length + 5 + s1))) := by
  refine At.go (q := xm191) rfl 1 (pc' := 1) (L' := [(0, .ref ch), (1, .ref s), (2, .ref m)]) (st' := [.ref m]) rfl ?_
  refine At.gf rfl (by decide) hm hm4 ?_
  refine At.go (q := xm191) rfl 4 (pc' := 13) (L' := [(3, .ref tb), (0, .ref ch), (1, .ref s), (2, .ref m)]) (st' := [.ref tb]) rfl ?_
  refine At.clp (as := [.ref tb]) (rest := []) rfl (by decide) rfl (Nat.le_of_ble_eq_true rfl) (Nat.le_of_ble_eq_true rfl) (xrck_o (by decide) (by decide) ht (by decide)) (Nat.le_of_ble_eq_true rfl) (m_width hTb9) ?_
  refine At.na (t := 24) rfl (iN_nn (by omega)) (by rw [iN_tn (by omega)]; omega) (by decide) ?_
  rw [iN_tn (by omega)]
  obtain ⟨hn1, ehn1⟩ : ∃ h, h = hp ++ [.inl (24, List.replicate T.2.2.1.length (.int 0))] := ⟨_, rfl⟩
  refine At.hpe ehn1 ?_
  have n1 : FrX (fun _ => False) hp hn1 := by rw [ehn1]; exact FrX.nw (fun a n e h => by cases h)
  have hc1 := n1.ob hc (by decide) (fun h => h)
  have hS1 := hS.fr n1 (fun h => h) (fun h => h) (fun h => h)
  have hs2 := hS1
  obtain ⟨sf, kes, fes, hs1, -⟩ := hs2
  have main : At S 8 191 37 [(4, .ref hp.length), (3, .ref tb), (0, .ref ch), (1, .ref s), (2, .ref m)] [.int (bI gv), .ref ch] hn1 (0 + 1) (0 + T.2.2.1.length) (fun o => ∃ v hp' c s, o = .inl (v, hp', c, s) ∧ (fun v hp' c9 s9 => ∃ vs : List Int32, vs.length = v0.length ∧ ((key = -1000000000 ∧ v = some (.int 110) ∧ hp' = hPut (hp.set ch (.inr (3, [.ref d, .ref t, .ref mm, .ref g, .int (Int32.ofNat lb), .int al, .int (bI gv)]))) sa vs (putC gv (64 * (gn + 1) + Int32.ofNat lb) (fun i => resE (-1000000000) (fun _ => -1000000000) ((os.take (itTo items if0 os.length i true fr)).drop (fr i))) T.2.2.1.length) ∧ c9 = 1 ∧ s9 = T.2.2.1.length) ∨ (¬ key = -1000000000 ∧ (∃ f, findE es (sr, key, Int32.ofNat lb) = some f ∧ f.2.2.2.1 = false) ∧ v = some (.int 107) ∧ hp' = hPut (hp.set ch (.inr (3, [.ref d, .ref t, .ref mm, .ref g, .int (Int32.ofNat lb), .int al, .int (bI gv)]))) sa vs (putC gv (64 * (gn + 1) + Int32.ofNat lb) (fun i => resE (-1000000000) (fun _ => -1000000000) ((os.take (itTo items if0 os.length i true fr)).drop (fr i))) T.2.2.1.length) ∧ c9 = 1 ∧ s9 = T.2.2.1.length) ∨ (¬ key = -1000000000 ∧ (∀ f, findE es (sr, key, Int32.ofNat lb) = some f → f.2.2.2.1 = true) ∧ v = some (.int 0) ∧ ∃ c1 s1, MkR ((hPut (hp.set ch (.inr (3, [.ref d, .ref t, .ref mm, .ref g, .int (Int32.ofNat lb), .int al, .int (bI gv)]))) sa vs (putC gv (64 * (gn + 1) + Int32.ofNat lb) (fun i => resE (-1000000000) (fun _ => -1000000000) ((os.take (itTo items if0 os.length i true fr)).drop (fr i))) T.2.2.1.length)).set ch (.inr (3, [.ref d, .ref t, .ref mm, .ref g, .int (Int32.ofNat lb), .int 1, .int (bI gv)]))) hp' l t mm (storeE es (sr, key, Int32.ofNat lb, false, (putC gv (64 * (gn + 1) + Int32.ofNat lb) (fun i => resE (-1000000000) (fun _ => -1000000000) ((os.take (itTo items if0 os.length i true fr)).drop (fr i))) T.2.2.1.length), tb)) (ts ++ [(sr, key, Int32.ofNat lb, false, (putC gv (64 * (gn + 1) + Int32.ofNat lb) (fun i => resE (-1000000000) (fun _ => -1000000000) ((os.take (itTo items if0 os.length i true fr)).drop (fr i))) T.2.2.1.length), tb)]) (ms ++ [(sr, key, Int32.ofNat lb, false, (putC gv (64 * (gn + 1) + Int32.ofNat lb) (fun i => resE (-1000000000) (fun _ => -1000000000) ((os.take (itTo items if0 os.length i true fr)).drop (fr i))) T.2.2.1.length), tb)]) c1 s1 ∧ c9 = 2 + c1 ∧ s9 = T.2.2.1.length + 5 + s1))) v hp' c s) := by
    refine At.pf rfl hc1 (Nat.le_of_ble_eq_true rfl) (by cases gv <;> rfl) ?_
    obtain ⟨hq, ehq⟩ : ∃ h, h = (hp.set ch (.inr (3, [.ref d, .ref t, .ref mm, .ref g, .int (Int32.ofNat lb), .int al, .int (bI gv)]))) := ⟨_, rfl⟩
    have hchl := (List.getElem?_eq_some_iff.mp hc).1
    have f0 : FrX (fun x => x = ch) hp hq := by rw [ehq]; exact FrX.so hc (by decide) rfl (by decide)
    have hql : hq.length = hp.length := by rw [ehq, List.length_set]
    have hsaq : hq[sa]? = some (.inl (16, v0.map Value.int)) := f0.2.2.1 _ _ hsa rfl (Or.inl (fun e => xn_ar hsa hc e))
    have ehp : hn1.set ch (.inr (3, [.ref d, .ref t, .ref mm, .ref g, .int (Int32.ofNat lb), .int al, .int (bI gv)])) = hPut hq sa v0 (List.replicate T.2.2.1.length 0) := by
      rw [ehn1, List.set_append_left _ _ hchl, ← ehq]
      unfold hPut
      rw [xset_id hsaq, List.map_replicate]
    show At S 8 191 40 _ [] (hn1.set ch (.inr (3, [.ref d, .ref t, .ref mm, .ref g, .int (Int32.ofNat lb), .int al, .int (bI gv)]))) _ _ _
    rw [ehp]
    refine At.go (q := xm191) rfl 2 (pc' := 43) (L' := [(5, .int 0), (4, .ref hp.length), (3, .ref tb), (0, .ref ch), (1, .ref s), (2, .ref m)]) (st' := []) rfl ?_
    rw [← hql]
    refine At.wk (L' := [(5, .int (Int32.ofNat 0)), (0, .ref ch), (1, .ref s), (2, .ref m), (3, .ref tb), (4, .ref hq.length)]) (List.forall_mem_cons.mpr ⟨List.mem_of_getElem? (i := 0) rfl, (List.forall_mem_cons.mpr ⟨List.mem_of_getElem? (i := 3) rfl, (List.forall_mem_cons.mpr ⟨List.mem_of_getElem? (i := 4) rfl, (List.forall_mem_cons.mpr ⟨List.mem_of_getElem? (i := 5) rfl, (List.forall_mem_cons.mpr ⟨List.mem_of_getElem? (i := 2) rfl, (List.forall_mem_cons.mpr ⟨List.mem_of_getElem? (i := 1) rfl, (fun _ h => (List.not_mem_nil h).elim)⟩)⟩)⟩)⟩)⟩)⟩) (show ([5, 4, 3, 0, 1, 2] : List Nat).Nodup by decide) ?_
    have hcq : hq[ch]? = some (.inr (3, [.ref d, .ref t, .ref mm, .ref g, .int (Int32.ofNat lb), .int al, .int (bI gv)])) := by rw [ehq]; exact xs_eq hc
    have hSq : hSt hq s c ka fa if0 if1 items vb kd fr := by
      have hS8 := hS
      obtain ⟨sf, kes, fes, k0, k1, k2, k3, k4, k5, k6, k7, k8, k9, -⟩ := hS8
      exact hS.fr f0 (fun e => xn_cl k0 hc (by decide) e) (fun e => xn_ar k8 hc e) (fun e => xn_ar k9 hc e)
    have hFq := hF.fr f0 (fun e => xn_cl hF.ho hc (by decide) e) (fun e => xn_ar hF.hoa hc e) (fun e => xn_ar hF.haa hc e)
    obtain ⟨v8, htq⟩ := f0.2.2.2.2.1 _ _ ht
    have h7q : ((Value.int sr :: tf).set 8 v8)[7]? = some (.ref ga) := by rw [List.getElem?_set_ne (by decide)]; exact h7
    have hgaq := f0.2.2.1 _ _ hga rfl (Or.inl (fun e => xn_ar hga hc e))
    refine put_loop8 hcq hSq hFq hsaq hN hN2 htq h7q hgaq hgn hgl e16 e27 hnm hw hitm (fun i vs hvs => ?_) _ 0 v0 (List.replicate T.2.2.1.length 0) (Nat.zero_add _) rfl List.length_replicate rfl
    obtain ⟨hh, ehh⟩ : ∃ h, h = hPut hq sa vs (putC gv (64 * (gn + 1) + Int32.ofNat lb) (fun i => resE (-1000000000) (fun _ => -1000000000) ((os.take (itTo items if0 os.length i true fr)).drop (fr i))) T.2.2.1.length) := ⟨_, rfl⟩
    refine At.hpe ehh ?_
    have f9 : FrX (fun x => x = sa) hq hh := by rw [ehh]; exact hPut_fr hsaq
    have fa0 : FrX (fun x => x = ch ∨ x = sa) hp hh := FrX.tr (f0.mono (fun x _ h => Or.inl h)) f9 (fun x h => Or.inl (Or.inr h))
    have hna : hh[hq.length]? = some (.inl (24, (putC gv (64 * (gn + 1) + Int32.ofNat lb) (fun i => resE (-1000000000) (fun _ => -1000000000) ((os.take (itTo items if0 os.length i true fr)).drop (fr i))) T.2.2.1.length).map Value.int)) := by rw [ehh]; exact hPut_na
    have hCl : (putC gv (64 * (gn + 1) + Int32.ofNat lb) (fun i => resE (-1000000000) (fun _ => -1000000000) ((os.take (itTo items if0 os.length i true fr)).drop (fr i))) T.2.2.1.length).length = T.2.2.1.length := by unfold putC; rw [List.length_map, List.length_range]
    have hcl9 := (List.getElem?_eq_some_iff.mp hkey).1
    have hc9 : hh[ch]? = some (.inr (3, [.ref d, .ref t, .ref mm, .ref g, .int (Int32.ofNat lb), .int al, .int (bI gv)])) := f9.ob hcq (by decide) (fun e => xn_ra hcq hsaq e)
    have hd9 := fa0.ob hd0 (by decide) (fun e => e.elim (fun e => xn_cl hd0 hc (by decide) e) (fun e => xn_ra hd0 hsa e))
    have np : ∀ z zs, hLs hp z zs → ¬ (z = ch ∨ z = sa) := fun z zs h e => by
      obtain ⟨lf, hl0⟩ := h.ob
      exact e.elim (fun e => xn_cl hl0 hc (by decide) e) (fun e => xn_ra hl0 hsa e)
    have hO9 := fa0.2.1 hO
    have hL9 := fa0.ls (np _ _ hL) hO hL
    have hT9 := fa0.ls (np _ _ hT) hO hT
    have hM9 := fa0.ls (np _ _ hM) hO hM
    obtain ⟨v9, ht9⟩ := fa0.2.2.2.2.1 _ _ ht
    refine At.go (q := xm191) rfl 1 (pc' := 95) (L' := [(5, .int i), (0, .ref ch), (1, .ref s), (2, .ref m), (3, .ref tb), (4, .ref hq.length)]) (st' := [.ref hq.length]) rfl ?_
    refine At.ln rfl hna ?_
    rw [List.length_map, hCl]
    refine At.ic1 (tgt := 106) rfl rfl (fun h => absurd (of_decide_eq_true h) (fun h => absurd ((iN_le (a := T.2.2.1.length) (b := 0) (by omega) (by omega)).mp h) (by omega))) (fun _ => ?_)
    refine At.go (q := xm191) rfl 2 (pc' := 102) (L' := [(5, .int i), (0, .ref ch), (1, .ref s), (2, .ref m), (3, .ref tb), (4, .ref hq.length)]) (st' := [.int 0, .ref hq.length]) rfl ?_
    refine At.al rfl hna (by decide) rfl (by decide) (by rw [List.getElem?_map, show (0 : Int32).toNatClampNeg = 0 from rfl, hkey]; rfl) ?_
    refine At.go (q := xm191) rfl 4 (pc' := 114) (L' := [(5, .int key), (0, .ref ch), (1, .ref s), (2, .ref m), (3, .ref tb), (4, .ref hq.length)]) (st' := [.int (-1000000000), .int key]) rfl ?_
    refine At.ic2 (tgt := 120) rfl rfl (fun h114 => ?_) (fun h114 => ?_)
    · have hk9 : ¬ key = -1000000000 := of_decide_eq_true h114
      cases hf : findE es (sr, key, Int32.ofNat lb) with
      | none =>
        refine At.go (q := xm191) rfl 1 (pc' := 121) (L' := [(5, .int key), (0, .ref ch), (1, .ref s), (2, .ref m), (3, .ref tb), (4, .ref hq.length)]) (st' := [.ref ch]) rfl ?_
        refine At.gf rfl (by decide) hc9 rfl ?_
        refine At.go (q := xm191) rfl 3 (pc' := 128) (L' := [(5, .int key), (0, .ref ch), (1, .ref s), (2, .ref m), (3, .ref tb), (4, .ref hq.length)]) (st' := [.ref ch, .int key, .ref tb, .ref d]) rfl ?_
        refine At.gf rfl (by decide) hc9 rfl ?_
        refine At.clp (as := [.ref d, .ref tb, .int key, .int (Int32.ofNat lb)]) (rest := []) rfl (by decide) rfl (Nat.le_of_ble_eq_true rfl) (Nat.le_of_ble_eq_true rfl) (xrck_o (by decide) (by decide) hd9 (by decide)) (Nat.le_of_ble_eq_true rfl) (m_find0 hd9 hL9 (hE.fr fa0) hsr (sr, key, Int32.ofNat lb) ht9 hf) ?_
        refine At.go (q := xm191) rfl 3 (pc' := 152) (L' := [(6, .null), (5, .int key), (0, .ref ch), (1, .ref s), (2, .ref m), (3, .ref tb), (4, .ref hq.length)]) (st' := []) rfl ?_
        refine At.go (q := xm191) rfl 2 (pc' := 154) (L' := [(6, .null), (5, .int key), (0, .ref ch), (1, .ref s), (2, .ref m), (3, .ref tb), (4, .ref hq.length)]) (st' := [.int 1, .ref ch]) rfl ?_
        refine At.pf rfl hc9 (Nat.le_of_ble_eq_true rfl) rfl ?_
        obtain ⟨hb, ehb⟩ : ∃ h, h = hh.set ch (.inr (3, [.ref d, .ref t, .ref mm, .ref g, .int (Int32.ofNat lb), .int 1, .int (bI gv)])) := ⟨_, rfl⟩
        refine At.hpe ehb ?_
        have f5 : FrX (fun x => x = ch) hh hb := by rw [ehb]; exact FrX.so hc9 (by decide) rfl (by decide)
        have fb : FrX (fun x => x = ch ∨ x = sa) hp hb := FrX.tr fa0 f5 (fun x h => Or.inl (Or.inl h))
        have hcb : hb[ch]? = some (.inr (3, [.ref d, .ref t, .ref mm, .ref g, .int (Int32.ofNat lb), .int 1, .int (bI gv)])) := by rw [ehb]; exact xs_eq hc9
        have hdb := f5.ob hd9 (by decide) (fun e => xn_cl hd9 hc9 (by decide) e)
        have hOb := fb.2.1 hO
        have hLb := fb.ls (np _ _ hL) hO hL
        have hTb8 := fb.ls (np _ _ hT) hO hT
        have hMb := fb.ls (np _ _ hM) hO hM
        have hnab := f5.2.2.1 _ _ hna rfl (Or.inl (fun e => xn_ar hna hc9 e))
        obtain ⟨v7, htb⟩ := fb.2.2.2.2.1 _ _ ht
        refine At.go (q := xm191) rfl 1 (pc' := 158) (L' := [(6, .null), (5, .int key), (0, .ref ch), (1, .ref s), (2, .ref m), (3, .ref tb), (4, .ref hq.length)]) (st' := [.ref ch]) rfl ?_
        refine At.nw (ci := 4) rfl ?_
        refine At.go (q := xm191) rfl 4 (pc' := 166) (L' := [(6, .null), (5, .int key), (0, .ref ch), (1, .ref s), (2, .ref m), (3, .ref tb), (4, .ref hq.length)]) (st' := [.ref ch, .int key, .ref tb, .ref hb.length, .ref hb.length, .ref ch]) rfl ?_
        refine At.gf rfl (by decide) (xa_lt hcb) rfl ?_
        refine At.go (q := xm191) rfl 2 (pc' := 172) (L' := [(6, .null), (5, .int key), (0, .ref ch), (1, .ref s), (2, .ref m), (3, .ref tb), (4, .ref hq.length)]) (st' := [.ref hq.length, .int 0, .int (Int32.ofNat lb), .int key, .ref tb, .ref hb.length, .ref hb.length, .ref ch]) rfl ?_
        refine mk_row (S := S) (hb := hb) (y := 191) (pc := 172) (rest := []) rfl rfl hcb hdb hlt hlm htm hOb hLb hTb8 hMb (hE.fr fb) (hTs.fr fb) (hMs.fr fb) hsr hn hnT hnM htb hnab (by omega) (Nat.zero_le _) (fun hp9 c1 s1 hmk => ?_)
        refine At.go (q := xm191) rfl 1 (pc' := 179) (L' := [(6, .null), (5, .int key), (0, .ref ch), (1, .ref s), (2, .ref m), (3, .ref tb), (4, .ref hq.length)]) (st' := [.int 0]) rfl ?_
        exact At.rt rfl (xret_c (by decide)) ⟨_, _, _, _, rfl, vs, hvs, Or.inr (Or.inr ⟨hk9, (fun f h => by cases h), rfl, c1, s1, by rw [← ehq, ← ehh, ← ehb]; exact hmk, by omega, by show 0 + T.2.2.1.length + 5 + s1 = _; omega⟩)⟩
      | some f =>
        obtain ⟨w9, hw0, hW, hq9⟩ := m_find (S := S) hd9 hL9 (hE.fr fa0) hsr (sr, key, Int32.ofNat lb) ht9 hf
        obtain ⟨c8, wf, hw, -, -, -⟩ := hW
        refine At.go (q := xm191) rfl 1 (pc' := 121) (L' := [(5, .int key), (0, .ref ch), (1, .ref s), (2, .ref m), (3, .ref tb), (4, .ref hq.length)]) (st' := [.ref ch]) rfl ?_
        refine At.gf rfl (by decide) hc9 rfl ?_
        refine At.go (q := xm191) rfl 3 (pc' := 128) (L' := [(5, .int key), (0, .ref ch), (1, .ref s), (2, .ref m), (3, .ref tb), (4, .ref hq.length)]) (st' := [.ref ch, .int key, .ref tb, .ref d]) rfl ?_
        refine At.gf rfl (by decide) hc9 rfl ?_
        refine At.clp (as := [.ref d, .ref tb, .int key, .int (Int32.ofNat lb)]) (rest := []) rfl (by decide) rfl (Nat.le_of_ble_eq_true rfl) (Nat.le_of_ble_eq_true rfl) (xrck_o (by decide) (by decide) hd9 (by decide)) (Nat.le_of_ble_eq_true rfl) (hq9) ?_
        refine At.go (q := xm191) rfl 4 (pc' := 143) (L' := [(6, .ref w9), (5, .int key), (0, .ref ch), (1, .ref s), (2, .ref m), (3, .ref tb), (4, .ref hq.length)]) (st' := [.ref w9]) rfl ?_
        refine At.gf rfl (by decide) hw rfl ?_
        refine At.ic1 (tgt := 152) rfl rfl (fun h146 => ?_) (fun h146 => ?_)
        · refine At.go (q := xm191) rfl 2 (pc' := 154) (L' := [(6, .ref w9), (5, .int key), (0, .ref ch), (1, .ref s), (2, .ref m), (3, .ref tb), (4, .ref hq.length)]) (st' := [.int 1, .ref ch]) rfl ?_
          refine At.pf rfl hc9 (Nat.le_of_ble_eq_true rfl) rfl ?_
          obtain ⟨hb, ehb⟩ : ∃ h, h = hh.set ch (.inr (3, [.ref d, .ref t, .ref mm, .ref g, .int (Int32.ofNat lb), .int 1, .int (bI gv)])) := ⟨_, rfl⟩
          refine At.hpe ehb ?_
          have f5 : FrX (fun x => x = ch) hh hb := by rw [ehb]; exact FrX.so hc9 (by decide) rfl (by decide)
          have fb : FrX (fun x => x = ch ∨ x = sa) hp hb := FrX.tr fa0 f5 (fun x h => Or.inl (Or.inl h))
          have hcb : hb[ch]? = some (.inr (3, [.ref d, .ref t, .ref mm, .ref g, .int (Int32.ofNat lb), .int 1, .int (bI gv)])) := by rw [ehb]; exact xs_eq hc9
          have hdb := f5.ob hd9 (by decide) (fun e => xn_cl hd9 hc9 (by decide) e)
          have hOb := fb.2.1 hO
          have hLb := fb.ls (np _ _ hL) hO hL
          have hTb8 := fb.ls (np _ _ hT) hO hT
          have hMb := fb.ls (np _ _ hM) hO hM
          have hnab := f5.2.2.1 _ _ hna rfl (Or.inl (fun e => xn_ar hna hc9 e))
          obtain ⟨v7, htb⟩ := fb.2.2.2.2.1 _ _ ht
          refine At.go (q := xm191) rfl 1 (pc' := 158) (L' := [(6, .ref w9), (5, .int key), (0, .ref ch), (1, .ref s), (2, .ref m), (3, .ref tb), (4, .ref hq.length)]) (st' := [.ref ch]) rfl ?_
          refine At.nw (ci := 4) rfl ?_
          refine At.go (q := xm191) rfl 4 (pc' := 166) (L' := [(6, .ref w9), (5, .int key), (0, .ref ch), (1, .ref s), (2, .ref m), (3, .ref tb), (4, .ref hq.length)]) (st' := [.ref ch, .int key, .ref tb, .ref hb.length, .ref hb.length, .ref ch]) rfl ?_
          refine At.gf rfl (by decide) (xa_lt hcb) rfl ?_
          refine At.go (q := xm191) rfl 2 (pc' := 172) (L' := [(6, .ref w9), (5, .int key), (0, .ref ch), (1, .ref s), (2, .ref m), (3, .ref tb), (4, .ref hq.length)]) (st' := [.ref hq.length, .int 0, .int (Int32.ofNat lb), .int key, .ref tb, .ref hb.length, .ref hb.length, .ref ch]) rfl ?_
          refine mk_row (S := S) (hb := hb) (y := 191) (pc := 172) (rest := []) rfl rfl hcb hdb hlt hlm htm hOb hLb hTb8 hMb (hE.fr fb) (hTs.fr fb) (hMs.fr fb) hsr hn hnT hnM htb hnab (by omega) (Nat.zero_le _) (fun hp9 c1 s1 hmk => ?_)
          refine At.go (q := xm191) rfl 1 (pc' := 179) (L' := [(6, .ref w9), (5, .int key), (0, .ref ch), (1, .ref s), (2, .ref m), (3, .ref tb), (4, .ref hq.length)]) (st' := [.int 0]) rfl ?_
          exact At.rt rfl (xret_c (by decide)) ⟨_, _, _, _, rfl, vs, hvs, Or.inr (Or.inr ⟨hk9, (fun f9 h => by cases h; exact bI1 (of_decide_eq_true h146)), rfl, c1, s1, by rw [← ehq, ← ehh, ← ehb]; exact hmk, by omega, by show 0 + T.2.2.1.length + 5 + s1 = _; omega⟩)⟩
        · refine At.go (q := xm191) rfl 1 (pc' := 151) (L' := [(6, .ref w9), (5, .int key), (0, .ref ch), (1, .ref s), (2, .ref m), (3, .ref tb), (4, .ref hq.length)]) (st' := [.int 107]) rfl ?_
          exact At.rt rfl (xret_c (by decide)) ⟨_, _, _, _, rfl, vs, hvs, Or.inr (Or.inl ⟨hk9, ⟨f, rfl, bI0 (xne_f h146)⟩, rfl, by rw [ehh, ehq], Nat.zero_add _, Nat.zero_add _⟩)⟩
    · refine At.go (q := xm191) rfl 1 (pc' := 119) (L' := [(5, .int key), (0, .ref ch), (1, .ref s), (2, .ref m), (3, .ref tb), (4, .ref hq.length)]) (st' := [.int 110]) rfl ?_
      exact At.rt rfl (xret_c (by decide)) ⟨_, _, _, _, rfl, vs, hvs, Or.inl ⟨xne_f h114, rfl, by rw [ehh, ehq], Nat.zero_add _, Nat.zero_add _⟩⟩
  refine At.go (q := xm191) rfl 4 (pc' := 23) (L' := [(4, .ref hp.length), (3, .ref tb), (0, .ref ch), (1, .ref s), (2, .ref m)]) (st' := [.int 0, .ref s, .ref ch]) rfl ?_
  refine At.clp (as := [.ref s, .int 0]) (rest := [.ref ch]) rfl (by decide) rfl (Nat.le_of_ble_eq_true rfl) (Nat.le_of_ble_eq_true rfl) (xrck_o (by decide) (by decide) hs1 (by decide)) (Nat.le_of_ble_eq_true rfl) (m_itemKind hS1 (i := 0) hi0) ?_
  refine At.go (q := xm191) rfl 1 (pc' := 29) (L' := [(4, .ref hp.length), (3, .ref tb), (0, .ref ch), (1, .ref s), (2, .ref m)]) (st' := [.retAddr 17, .retAddr (kd 0), .ref ch]) rfl ?_
  refine At.acn (tgt := 36) (b := gv) rfl rfl e17 (fun hg => ?_) (fun hg => ?_)
  · refine At.go (q := xm191) rfl 1 (pc' := 37) (L' := [(4, .ref hp.length), (3, .ref tb), (0, .ref ch), (1, .ref s), (2, .ref m)]) (st' := [.int 0, .ref ch]) rfl ?_
    exact Eq.mpr (congrArg (fun z : Int32 => At S 8 191 37 [(4, .ref hp.length), (3, .ref tb), (0, .ref ch), (1, .ref s), (2, .ref m)] [.int z, .ref ch] hn1 (0 + 1) (0 + T.2.2.1.length) _) (show (0 : Int32) = bI gv from by rw [hg]; rfl)) main
  · refine At.go (q := xm191) rfl 2 (pc' := 37) (L' := [(4, .ref hp.length), (3, .ref tb), (0, .ref ch), (1, .ref s), (2, .ref m)]) (st' := [.int 1, .ref ch]) rfl ?_
    exact Eq.mpr (congrArg (fun z : Int32 => At S 8 191 37 [(4, .ref hp.length), (3, .ref tb), (0, .ref ch), (1, .ref s), (2, .ref m)] [.int z, .ref ch] hn1 (0 + 1) (0 + T.2.2.1.length) _) (show (1 : Int32) = bI gv from by rw [hg]; rfl)) main
