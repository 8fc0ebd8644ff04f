/-! lower (written by wip/p27/c9993.py) -/
/-- whether a number is a label -/
def isLb (x : Int32) : Bool := decide (¬ x < 0) && decide (x < 64)
theorem m_isLabel {S : List Int32} {hp : List XC} (x : Int32) : Pu S 0 21 [.int x] hp (bv (isLb x)) := by
  refine At.go (q := xm21) rfl 1 (pc' := 1) (L' := [(0, .int x)]) (st' := [.int x]) rfl ?_
  refine At.ic1 (tgt := 14) rfl rfl (fun hA => ?_) (fun hA => ?_)
  · refine At.go (q := xm21) rfl 1 (pc' := 15) (L' := [(0, .int x)]) (st' := [.int 0]) rfl ?_
    exact At.rt rfl rfl (by unfold isLb; rw [decide_eq_false (fun h => h (of_decide_eq_true hA)), Bool.false_and]; rfl)
  · refine At.go (q := xm21) rfl 2 (pc' := 7) (L' := [(0, .int x)]) (st' := [.int 64, .int x]) rfl ?_
    refine At.ic2 (tgt := 14) rfl rfl (fun hB => ?_) (fun hB => ?_)
    · refine At.go (q := xm21) rfl 1 (pc' := 15) (L' := [(0, .int x)]) (st' := [.int 0]) rfl ?_
      exact At.rt rfl rfl (by unfold isLb; rw [decide_eq_false (Int32.not_lt.mpr (of_decide_eq_true hB)), Bool.and_false]; rfl)
    · refine At.go (q := xm21) rfl 2 (pc' := 15) (L' := [(0, .int x)]) (st' := [.int 1]) rfl ?_
      exact At.rt rfl rfl (by unfold isLb; rw [decide_eq_true (of_decide_eq_false hA), decide_eq_true (Int32.not_le.mp (of_decide_eq_false hB))]; rfl)
/-- why a row can't be lowered, before it is looked for -/
def lowC (key other lb tl : Int32) : Int32 := if key = -1000000000 then 110 else if (isLb other && (decide (¬ other = lb) && (isB other lb && isB tl other))) = true then 0 else 108
/-- lower -/
theorem m_clower {S : List Int32} {hp : List XC} {ch d t mm g s m tb c ka fa if0 if1 items vb oa aa pa sa wa l : Nat} {lb al gi : Int32} {kd fr : Nat → Nat} {os : List (Nat × Int32)} {ws : Value} {es9 mf : List Value} {gs v0 : List Int32} {sr tl : Int32} {as ta ma : List Nat} {es ts ms : List En} (hc : hp[ch]? = some (.inr (3, [.ref d, .ref t, .ref mm, .ref g, .int lb, .int al, .int gi]))) (hd0 : hp[d]? = some (.inr (10, [.ref l]))) (hlt : ¬ l = t) (hlm : ¬ l = mm) (htm : ¬ t = mm) (hO : Own hp) (hL : hLs hp l as) (hT : hLs hp t ta) (hM : hLs hp mm ma) (hE : hEs hp as es) (hTs : hEs hp ta ts) (hMs : hEs hp ma ms) (hsr : Srt es) (hn : as.length ≤ 60000) (hnT : ta.length ≤ 60000) (hnM : ma.length ≤ 60000) (hm : hp[m]? = some (.inr (6, mf))) (hm4 : mf[4]? = some (.ref tb)) {tf : List Value} (ht : hp[tb]? = some (.inr (13, .int sr :: tf))) (h2 : (Value.int sr :: tf)[2]? = some (.int tl)) (hS : hSt hp s c ka fa if0 if1 items vb kd fr) (hF : hFo hp c oa aa pa sa wa ws es9 gs os) (hsa : hp[sa]? = some (.inl (16, v0.map Value.int))) (hN : os.length ≤ v0.length) (hN2 : v0.length ≤ 1000) {b16 b27 : Bool} (e16 : xeq xKC (.retAddr vb) (.retAddr 16) = some b16) (e27 : xeq xKC (.retAddr vb) (.retAddr 27) = some b27) (hnm : ∀ (i : Nat) (q : Nat × Int32), os[i]? = some q → q.1 = 3 → ∃ j : Nat, j ≤ 100000 ∧ q.2 = Int32.ofNat j) (hitm : ∀ i, i < 2 → i < items ∧ fr i ≤ itTo items if0 os.length i (b16 || b27) fr ∧ itTo items if0 os.length i (b16 || b27) fr ≤ os.length ∧ (resR (-1000000000) (fun _ => -1000000000) ((os.take (itTo items if0 os.length i (b16 || b27) fr)).drop (fr i)) []).isSome = true) {key other : Int32} (hkey : (resE (-1000000000) (fun _ => -1000000000) ((os.take (itTo items if0 os.length 0 (b16 || b27) fr)).drop (fr 0))) = key) (hoth : (resE (-1000000000) (fun _ => -1000000000) ((os.take (itTo items if0 os.length 1 (b16 || b27) fr)).drop (fr 1))) = other) : Me S 8 179 [.ref ch, .ref s, .ref m] hp (fun v hp' c9 s9 => ∃ vs : List Int32, vs.length = v0.length ∧ ((¬ lowC key other lb tl = 0 ∧ v = some (.int (lowC key other lb tl)) ∧ hp' = (hp.set sa (.inl (16, vs.map Value.int))) ∧ c9 = 0 ∧ s9 = 0) ∨ (lowC key other lb tl = 0 ∧ (∀ f, findE es (sr, key, lb) = some f → f.2.2.2.1 = true) ∧ v = some (.int 107) ∧ hp' = (hp.set sa (.inl (16, vs.map Value.int))) ∧ c9 = 0 ∧ s9 = 0) ∨ (lowC key other lb tl = 0 ∧ ∃ f, findE es (sr, key, lb) = some f ∧ f.2.2.2.1 = false ∧ v = some (.int (if 12 < cntE (storeE es (sr, key, other, false, f.2.2.2.2.1, tb)) sr other then 102 else 0)) ∧ ∃ c1 s1, MkR (hp.set sa (.inl (16, vs.map Value.int))) hp' l t mm (storeE es (sr, key, other, false, f.2.2.2.2.1, tb)) (ts ++ [(sr, key, other, false, f.2.2.2.2.1, tb)]) (ms ++ [(sr, key, other, false, f.2.2.2.2.1, tb)]) c1 s1 ∧ c9 = 1 + c1 ∧ s9 = 5 + s1))) := by
  have hs2 := hS
  obtain ⟨sf, kes, fes, hs, -⟩ := hs2
  refine At.go (q := xm179) rfl 1 (pc' := 1) (L' := [(0, .ref ch), (1, .ref s), (2, .ref m)]) (st' := [.ref m]) rfl ?_
  refine At.gf rfl (by decide) hm hm4 ?_
  refine At.go (q := xm179) rfl 5 (pc' := 9) (L' := [(3, .ref tb), (0, .ref ch), (1, .ref s), (2, .ref m)]) (st' := [.null, .null, .int 0, .ref s]) rfl ?_
  refine At.clm (as := [.ref s, .int 0, .null, .null]) (rest := []) rfl (by decide) rfl (Nat.le_of_ble_eq_true rfl) (Nat.le_of_ble_eq_true rfl) (xrck_o (by decide) (by decide) hs (by decide)) (Nat.le_of_ble_eq_true rfl) (m_itemRes0 (i := 0) hS hF hsa hN hN2 hnm (m_itemFrom hS (hitm 0 (by omega)).1) (m_itemTo hS (Nat.zero_le _) e16 e27 hF) (hitm 0 (by omega)).2.2.1 (hitm 0 (by omega)).2.1 (hitm 0 (by omega)).2.2.2) (fun v9 hp1 c1 s1 hv9 => ?_)
  obtain ⟨rfl, ⟨va, hlva, rfl⟩, rfl, rfl⟩ := hv9
  rw [hkey]
  obtain ⟨hva, ehva⟩ : ∃ h, h = hp.set sa (.inl (16, va.map Value.int)) := ⟨_, rfl⟩
  refine At.hpe ehva ?_
  have fva : FrX (fun x => x = sa) hp hva := by rw [ehva]; exact FrX.st hsa rfl rfl rfl rfl (fun fs h => by cases h) (fun ci fs h => by cases h)
  have hcva : hva[ch]? = some (.inr (3, [.ref d, .ref t, .ref mm, .ref g, .int lb, .int al, .int gi])) := fva.ob hc (by decide) (fun e => xn_ra hc hsa e)
  have hmva := fva.ob hm (by decide) (fun e => xn_ra hm hsa e)
  have hsva := fva.ob hs (by decide) (fun e => xn_ra hs hsa e)
  have hdva := fva.ob hd0 (by decide) (fun e => xn_ra hd0 hsa e)
  obtain ⟨v8va, htva⟩ := fva.2.2.2.2.1 _ _ ht
  have h2va : ((Value.int sr :: tf).set 8 v8va)[2]? = some (.int tl) := by rw [List.getElem?_set_ne (by decide)]; exact h2
  have hsava : hva[sa]? = some (.inl (16, va.map Value.int)) := by rw [ehva]; exact xs_eq hsa
  have hFva : hFo hva c oa aa pa sa wa ws es9 gs os := by rw [ehva]; exact hF.set hsa
  have hSva : hSt hva s c ka fa if0 if1 items vb kd fr := by
    have hS8 := hS
    obtain ⟨sf, kes, fes, k0, k1, k2, k3, k4, k5, k6, k7, k8, k9, -⟩ := hS8
    exact hS.fr fva (fun e => xn_ra k0 hsa e) (fun e => xn_kd k8 hsa (by decide) e) (fun e => xn_kd k9 hsa (by decide) e)
  refine At.go (q := xm179) rfl 5 (pc' := 22) (L' := [(4, .int key), (3, .ref tb), (0, .ref ch), (1, .ref s), (2, .ref m)]) (st' := [.int (-1000000000), .int key]) rfl ?_
  refine At.ic2 (tgt := 28) rfl rfl (fun h22 => ?_) (fun h22 => ?_)
  · have hk9 : ¬ key = -1000000000 := of_decide_eq_true h22
    refine At.go (q := xm179) rfl 4 (pc' := 32) (L' := [(4, .int key), (3, .ref tb), (0, .ref ch), (1, .ref s), (2, .ref m)]) (st' := [.null, .null, .int 1, .ref s]) rfl ?_
    refine At.clm (as := [.ref s, .int 1, .null, .null]) (rest := []) rfl (by decide) rfl (Nat.le_of_ble_eq_true rfl) (Nat.le_of_ble_eq_true rfl) (xrck_o (by decide) (by decide) hsva (by decide)) (Nat.le_of_ble_eq_true rfl) (m_itemRes0 (i := 1) hSva hFva hsava (by omega) (by omega) hnm (m_itemFrom hSva (hitm 1 (by omega)).1) (m_itemTo hSva (by omega) e16 e27 hFva) (hitm 1 (by omega)).2.2.1 (hitm 1 (by omega)).2.1 (hitm 1 (by omega)).2.2.2) (fun v9 hp1 c1 s1 hv9 => ?_)
    obtain ⟨rfl, ⟨vb9, hlvb9, rfl⟩, rfl, rfl⟩ := hv9
    rw [hoth, ehva, List.set_set]
    obtain ⟨hvb9, ehvb9⟩ : ∃ h, h = hp.set sa (.inl (16, vb9.map Value.int)) := ⟨_, rfl⟩
    refine At.hpe ehvb9 ?_
    have fvb9 : FrX (fun x => x = sa) hp hvb9 := by rw [ehvb9]; exact FrX.st hsa rfl rfl rfl rfl (fun fs h => by cases h) (fun ci fs h => by cases h)
    have hcvb9 : hvb9[ch]? = some (.inr (3, [.ref d, .ref t, .ref mm, .ref g, .int lb, .int al, .int gi])) := fvb9.ob hc (by decide) (fun e => xn_ra hc hsa e)
    have hmvb9 := fvb9.ob hm (by decide) (fun e => xn_ra hm hsa e)
    have hsvb9 := fvb9.ob hs (by decide) (fun e => xn_ra hs hsa e)
    have hdvb9 := fvb9.ob hd0 (by decide) (fun e => xn_ra hd0 hsa e)
    obtain ⟨v8vb9, htvb9⟩ := fvb9.2.2.2.2.1 _ _ ht
    have h2vb9 : ((Value.int sr :: tf).set 8 v8vb9)[2]? = some (.int tl) := by rw [List.getElem?_set_ne (by decide)]; exact h2
    have hsavb9 : hvb9[sa]? = some (.inl (16, vb9.map Value.int)) := by rw [ehvb9]; exact xs_eq hsa
    have hFvb9 : hFo hvb9 c oa aa pa sa wa ws es9 gs os := by rw [ehvb9]; exact hF.set hsa
    have hSvb9 : hSt hvb9 s c ka fa if0 if1 items vb kd fr := by
      have hS8 := hS
      obtain ⟨sf, kes, fes, k0, k1, k2, k3, k4, k5, k6, k7, k8, k9, -⟩ := hS8
      exact hS.fr fvb9 (fun e => xn_ra k0 hsa e) (fun e => xn_kd k8 hsa (by decide) e) (fun e => xn_kd k9 hsa (by decide) e)
    refine At.go (q := xm179) rfl 2 (pc' := 39) (L' := [(5, .int other), (4, .int key), (3, .ref tb), (0, .ref ch), (1, .ref s), (2, .ref m)]) (st' := [.int other]) rfl ?_
    refine At.clp (as := [.int other]) (rest := []) rfl (by decide) rfl (Nat.le_of_ble_eq_true rfl) (Nat.le_of_ble_eq_true rfl) rfl (Nat.le_of_ble_eq_true rfl) (m_isLabel other) ?_
    refine At.ic1 (tgt := 78) rfl rfl (fun h42 => ?_) (fun h42 => ?_)
    · have hz : lowC key other lb tl = 108 := by unfold lowC; rw [if_neg hk9, bI0 (of_decide_eq_true h42), Bool.false_and]; rfl
      refine At.go (q := xm179) rfl 1 (pc' := 80) (L' := [(5, .int other), (4, .int key), (3, .ref tb), (0, .ref ch), (1, .ref s), (2, .ref m)]) (st' := [.int 108]) rfl ?_
      exact At.rt rfl (xret_c (by decide)) ⟨_, _, _, _, rfl, vb9, by omega, Or.inl ⟨by rw [hz]; decide, by rw [hz], ehvb9, rfl, rfl⟩⟩
    · refine At.go (q := xm179) rfl 2 (pc' := 48) (L' := [(5, .int other), (4, .int key), (3, .ref tb), (0, .ref ch), (1, .ref s), (2, .ref m)]) (st' := [.ref ch, .int other]) rfl ?_
      refine At.gf rfl (by decide) hcvb9 rfl ?_
      refine At.ic2 (tgt := 78) rfl rfl (fun h51 => ?_) (fun h51 => ?_)
      · have hz : lowC key other lb tl = 108 := by unfold lowC; rw [if_neg hk9, decide_eq_false (fun h => h (of_decide_eq_true h51)), Bool.false_and, Bool.and_false]; rfl
        refine At.go (q := xm179) rfl 1 (pc' := 80) (L' := [(5, .int other), (4, .int key), (3, .ref tb), (0, .ref ch), (1, .ref s), (2, .ref m)]) (st' := [.int 108]) rfl ?_
        exact At.rt rfl (xret_c (by decide)) ⟨_, _, _, _, rfl, vb9, by omega, Or.inl ⟨by rw [hz]; decide, by rw [hz], ehvb9, rfl, rfl⟩⟩
      · refine At.go (q := xm179) rfl 2 (pc' := 57) (L' := [(5, .int other), (4, .int key), (3, .ref tb), (0, .ref ch), (1, .ref s), (2, .ref m)]) (st' := [.ref ch, .int other]) rfl ?_
        refine At.gf rfl (by decide) hcvb9 rfl ?_
        refine At.clp (as := [.int other, .int lb]) (rest := []) rfl (by decide) rfl (Nat.le_of_ble_eq_true rfl) (Nat.le_of_ble_eq_true rfl) rfl (Nat.le_of_ble_eq_true rfl) (m_isBelow other lb) ?_
        refine At.ic1 (tgt := 78) rfl rfl (fun h63 => ?_) (fun h63 => ?_)
        · have hz : lowC key other lb tl = 108 := by unfold lowC; rw [if_neg hk9, bI0 (of_decide_eq_true h63), Bool.false_and, Bool.and_false, Bool.and_false]; rfl
          refine At.go (q := xm179) rfl 1 (pc' := 80) (L' := [(5, .int other), (4, .int key), (3, .ref tb), (0, .ref ch), (1, .ref s), (2, .ref m)]) (st' := [.int 108]) rfl ?_
          exact At.rt rfl (xret_c (by decide)) ⟨_, _, _, _, rfl, vb9, by omega, Or.inl ⟨by rw [hz]; decide, by rw [hz], ehvb9, rfl, rfl⟩⟩
        · refine At.go (q := xm179) rfl 1 (pc' := 67) (L' := [(5, .int other), (4, .int key), (3, .ref tb), (0, .ref ch), (1, .ref s), (2, .ref m)]) (st' := [.ref tb]) rfl ?_
          refine At.gf rfl (by decide) htvb9 h2vb9 ?_
          refine At.go (q := xm179) rfl 1 (pc' := 72) (L' := [(5, .int other), (4, .int key), (3, .ref tb), (0, .ref ch), (1, .ref s), (2, .ref m)]) (st' := [.int other, .int tl]) rfl ?_
          refine At.clp (as := [.int tl, .int other]) (rest := []) rfl (by decide) rfl (Nat.le_of_ble_eq_true rfl) (Nat.le_of_ble_eq_true rfl) rfl (Nat.le_of_ble_eq_true rfl) (m_isBelow tl other) ?_
          refine At.ic1 (tgt := 81) rfl rfl (fun h75 => ?_) (fun h75 => ?_)
          · have hz : lowC key other lb tl = 0 := by unfold lowC; rw [if_neg hk9, bI1 (of_decide_eq_false h42), decide_eq_true (of_decide_eq_false h51), bI1 (of_decide_eq_false h63), bI1 (of_decide_eq_true h75)]; rfl
            have np : ∀ z zs, hLs hp z zs → ¬ z = sa := fun z zs h e => by
              obtain ⟨lf, hl0⟩ := h.ob
              exact xn_ra hl0 hsa e
            have hO9 := fvb9.2.1 hO
            have hL9 := fvb9.ls (np _ _ hL) hO hL
            have hT9 := fvb9.ls (np _ _ hT) hO hT
            have hM9 := fvb9.ls (np _ _ hM) hO hM
            cases hf : findE es (sr, key, lb) with
            | none =>
              refine At.go (q := xm179) rfl 1 (pc' := 82) (L' := [(5, .int other), (4, .int key), (3, .ref tb), (0, .ref ch), (1, .ref s), (2, .ref m)]) (st' := [.ref ch]) rfl ?_
              refine At.gf rfl (by decide) hcvb9 rfl ?_
              refine At.go (q := xm179) rfl 3 (pc' := 89) (L' := [(5, .int other), (4, .int key), (3, .ref tb), (0, .ref ch), (1, .ref s), (2, .ref m)]) (st' := [.ref ch, .int key, .ref tb, .ref d]) rfl ?_
              refine At.gf rfl (by decide) hcvb9 rfl ?_
              refine At.clp (as := [.ref d, .ref tb, .int key, .int lb]) (rest := []) rfl (by decide) rfl (Nat.le_of_ble_eq_true rfl) (Nat.le_of_ble_eq_true rfl) (xrck_o (by decide) (by decide) hdvb9 (by decide)) (Nat.le_of_ble_eq_true rfl) (m_find0 hdvb9 hL9 (hE.fr fvb9) hsr (sr, key, lb) htvb9 hf) ?_
              refine At.go (q := xm179) rfl 4 (pc' := 112) (L' := [(6, .null), (5, .int other), (4, .int key), (3, .ref tb), (0, .ref ch), (1, .ref s), (2, .ref m)]) (st' := [.int 107]) rfl ?_
              exact At.rt rfl (xret_c (by decide)) ⟨_, _, _, _, rfl, vb9, by omega, Or.inr (Or.inl ⟨hz, (fun f h => by cases h), rfl, ehvb9, rfl, rfl⟩)⟩
            | some f =>
              obtain ⟨w9, hw0, hW, hq9⟩ := m_find (S := S) hdvb9 hL9 (hE.fr fvb9) hsr (sr, key, lb) htvb9 hf
              obtain ⟨c8, wf, hw, hwc, hwl, -⟩ := hW
              refine At.go (q := xm179) rfl 1 (pc' := 82) (L' := [(5, .int other), (4, .int key), (3, .ref tb), (0, .ref ch), (1, .ref s), (2, .ref m)]) (st' := [.ref ch]) rfl ?_
              refine At.gf rfl (by decide) hcvb9 rfl ?_
              refine At.go (q := xm179) rfl 3 (pc' := 89) (L' := [(5, .int other), (4, .int key), (3, .ref tb), (0, .ref ch), (1, .ref s), (2, .ref m)]) (st' := [.ref ch, .int key, .ref tb, .ref d]) rfl ?_
              refine At.gf rfl (by decide) hcvb9 rfl ?_
              refine At.clp (as := [.ref d, .ref tb, .int key, .int lb]) (rest := []) rfl (by decide) rfl (Nat.le_of_ble_eq_true rfl) (Nat.le_of_ble_eq_true rfl) (xrck_o (by decide) (by decide) hdvb9 (by decide)) (Nat.le_of_ble_eq_true rfl) (hq9) ?_
              refine At.go (q := xm179) rfl 4 (pc' := 104) (L' := [(6, .ref w9), (5, .int other), (4, .int key), (3, .ref tb), (0, .ref ch), (1, .ref s), (2, .ref m)]) (st' := [.ref w9]) rfl ?_
              refine At.gf rfl (by decide) hw rfl ?_
              refine At.ic1 (tgt := 113) rfl rfl (fun h107 => ?_) (fun h107 => ?_)
              · have hveil : f.2.2.2.1 = false := bI0 (of_decide_eq_true h107)
                refine At.go (q := xm179) rfl 1 (pc' := 114) (L' := [(6, .ref w9), (5, .int other), (4, .int key), (3, .ref tb), (0, .ref ch), (1, .ref s), (2, .ref m)]) (st' := [.ref ch]) rfl ?_
                refine At.nw (ci := 4) rfl ?_
                refine At.go (q := xm179) rfl 6 (pc' := 126) (L' := [(6, .ref w9), (5, .int other), (4, .int key), (3, .ref tb), (0, .ref ch), (1, .ref s), (2, .ref m)]) (st' := [.ref w9, .int 0, .int other, .int key, .ref tb, .ref hvb9.length, .ref hvb9.length, .ref ch]) rfl ?_
                refine At.gf rfl (by decide) (xa_lt hw) rfl ?_
                refine mk_row (S := S) (hb := hvb9) (y := 179) (pc := 129) (rest := []) rfl rfl hcvb9 hdvb9 hlt hlm htm hO9 hL9 hT9 hM9 (hE.fr fvb9) (hTs.fr fvb9) (hMs.fr fvb9) hsr hn hnT hnM htvb9 hwc hwl (Nat.zero_le _) (fun hp9 c1 s1 hmk => ?_)
                have hmk9 := hmk
                obtain ⟨m1, ⟨ls9, m2, m3⟩, -⟩ := hmk9
                have hc9 := m1.ob hcvb9 (by decide) (fun e => e.elim (fun e => ob_ne hcvb9 (by decide) hL9 e) (fun e => e.elim (fun e => ob_ne hcvb9 (by decide) hT9 e) (fun e => ob_ne hcvb9 (by decide) hM9 e)))
                have hd9 := m1.ob hdvb9 (by decide) (fun e => e.elim (fun e => ob_ne hdvb9 (by decide) hL9 e) (fun e => e.elim (fun e => ob_ne hdvb9 (by decide) hT9 e) (fun e => ob_ne hdvb9 (by decide) hM9 e)))
                obtain ⟨v7, ht9⟩ := m1.2.2.2.2.1 _ _ htvb9
                have hcl9 : cntE (storeE es (sr, key, other, false, f.2.2.2.2.1, tb)) sr other ≤ ls9.length := by rw [m3.1]; exact List.countP_le_length
                have hl7 := m2.len
                refine At.go (q := xm179) rfl 1 (pc' := 136) (L' := [(6, .ref w9), (5, .int other), (4, .int key), (3, .ref tb), (0, .ref ch), (1, .ref s), (2, .ref m)]) (st' := [.ref ch]) rfl ?_
                refine At.gf rfl (by decide) hc9 rfl ?_
                refine At.go (q := xm179) rfl 2 (pc' := 142) (L' := [(6, .ref w9), (5, .int other), (4, .int key), (3, .ref tb), (0, .ref ch), (1, .ref s), (2, .ref m)]) (st' := [.int other, .ref tb, .ref d]) rfl ?_
                refine At.clp (as := [.ref d, .ref tb, .int other]) (rest := []) rfl (by decide) rfl (Nat.le_of_ble_eq_true rfl) (Nat.le_of_ble_eq_true rfl) (xrck_o (by decide) (by decide) hd9 (by decide)) (Nat.le_of_ble_eq_true rfl) (m_count ht9 hd9 m2 m3) ?_
                refine At.go (q := xm179) rfl 1 (pc' := 147) (L' := [(6, .ref w9), (5, .int other), (4, .int key), (3, .ref tb), (0, .ref ch), (1, .ref s), (2, .ref m)]) (st' := [.int 12, .int (Int32.ofNat (cntE (storeE es (sr, key, other, false, f.2.2.2.2.1, tb)) sr other))]) rfl ?_
                refine At.ic2 (tgt := 155) rfl rfl (fun h147 => ?_) (fun h147 => ?_)
                · refine At.go (q := xm179) rfl 1 (pc' := 156) (L' := [(6, .ref w9), (5, .int other), (4, .int key), (3, .ref tb), (0, .ref ch), (1, .ref s), (2, .ref m)]) (st' := [.int 0]) rfl ?_
                  exact At.rt rfl (xret_c (by decide)) ⟨_, _, _, _, rfl, vb9, by omega, Or.inr (Or.inr ⟨hz, f, rfl, hveil, by rw [if_neg (Nat.not_lt.mpr ((iN_le (b := 12) (by omega) (by omega)).mp (of_decide_eq_true h147)))], c1, s1, by rw [← ehvb9]; exact hmk, rfl, rfl⟩)⟩
                · refine At.go (q := xm179) rfl 2 (pc' := 156) (L' := [(6, .ref w9), (5, .int other), (4, .int key), (3, .ref tb), (0, .ref ch), (1, .ref s), (2, .ref m)]) (st' := [.int 102]) rfl ?_
                  exact At.rt rfl (xret_c (by decide)) ⟨_, _, _, _, rfl, vb9, by omega, Or.inr (Or.inr ⟨hz, f, rfl, hveil, by rw [if_pos (Nat.lt_of_not_le (fun h => of_decide_eq_false h147 ((iN_le (b := 12) (by omega) (by omega)).mpr h)))], c1, s1, by rw [← ehvb9]; exact hmk, rfl, rfl⟩)⟩
              · refine At.go (q := xm179) rfl 1 (pc' := 112) (L' := [(6, .ref w9), (5, .int other), (4, .int key), (3, .ref tb), (0, .ref ch), (1, .ref s), (2, .ref m)]) (st' := [.int 107]) rfl ?_
                exact At.rt rfl (xret_c (by decide)) ⟨_, _, _, _, rfl, vb9, by omega, Or.inr (Or.inl ⟨hz, (fun f9 h => by cases h; exact bI1 (of_decide_eq_false h107)), rfl, ehvb9, rfl, rfl⟩)⟩
          · have hz : lowC key other lb tl = 108 := by unfold lowC; rw [if_neg hk9, bI0 (xne_f h75), Bool.and_false, Bool.and_false, Bool.and_false]; rfl
            refine At.go (q := xm179) rfl 1 (pc' := 80) (L' := [(5, .int other), (4, .int key), (3, .ref tb), (0, .ref ch), (1, .ref s), (2, .ref m)]) (st' := [.int 108]) rfl ?_
            exact At.rt rfl (xret_c (by decide)) ⟨_, _, _, _, rfl, vb9, by omega, Or.inl ⟨by rw [hz]; decide, by rw [hz], ehvb9, rfl, rfl⟩⟩
  · have hz : lowC key other lb tl = 110 := by unfold lowC; rw [if_pos (xne_f h22)]
    refine At.go (q := xm179) rfl 1 (pc' := 27) (L' := [(4, .int key), (3, .ref tb), (0, .ref ch), (1, .ref s), (2, .ref m)]) (st' := [.int 110]) rfl ?_
    exact At.rt rfl (xret_c (by decide)) ⟨_, _, _, _, rfl, va, by omega, Or.inl ⟨by rw [hz]; decide, by rw [hz], ehva, rfl, rfl⟩⟩
