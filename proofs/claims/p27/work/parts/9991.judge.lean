/-! judge (written by wip/p27/c9991.py) -/
theorem jd_met {S : List Int32} {TI : Nat → Tb} {hp : List XC} {ch d t mm g tb k : Nat} {lb al gi : Int32} {lv : Value} {ks ma : List Nat} {ls ms : List En} {Q : XO → Prop} {nc ns : Nat} (hc : hp[ch]? = some (.inr (3, [.ref d, .ref t, .ref mm, .ref g, .int lb, .int al, .int gi]))) (hg : hp[g]? = some (.inr (11, [.ref k, lv]))) (hK : hLs hp k ks) (hKs : hEs hp ks ls) (hsl : Srt ls) (hM : hLs hp mm ma) (hMs : hEs hp ma ms) (hTm : ∀ e ∈ ms, hTb hp e.2.2.2.2.2 e.1 (TI e.2.2.2.2.2) ∧ 1 ≤ (TI e.2.2.2.2.2).2.2.1.length) (hk1 : ms.all (fun e => metE ls (TI e.2.2.2.2.2) e) = true → At S 8 198 103 [(0, .ref ch), (1, .ref tb)] [] hp nc ns Q) (hk2 : ms.all (fun e => metE ls (TI e.2.2.2.2.2) e) = false → Q (.inl (some (.int 114), hp, nc, ns))) : ∀ (j i : Nat), i + j = ms.length → (ms.take i).all (fun e => metE ls (TI e.2.2.2.2.2) e) = true → At S 8 198 62 [(2, .int (Int32.ofNat i)), (0, .ref ch), (1, .ref tb)] [] hp nc ns Q := by
  have hbn := hM.len
  have hl9 := hMs.1
  obtain ⟨mf, hm0⟩ := hM.ob
  intro j
  induction j with
  | zero =>
    intro i hi ha
    refine At.go (q := xm198) rfl 2 (pc' := 64) (L' := [(2, .int (Int32.ofNat i)), (0, .ref ch), (1, .ref tb)]) (st' := [.ref ch, .int (Int32.ofNat i)]) rfl ?_
    refine At.gf rfl (by decide) hc rfl ?_
    refine At.clp (as := [.ref mm]) (rest := [.int (Int32.ofNat i)]) rfl (by decide) rfl (Nat.le_of_ble_eq_true rfl) (Nat.le_of_ble_eq_true rfl) (xrck_o (by decide) (by decide) hm0 (by decide)) (Nat.le_of_ble_eq_true rfl) (m_size hM) ?_
    refine At.ic2 (tgt := 103) rfl rfl (fun _ => ?_) (fun h => absurd (decide_eq_true ((iN_le (a := ma.length) (b := i) (by omega) (by omega)).mpr (by omega))) (by rw [show decide (Int32.ofNat ma.length ≤ Int32.ofNat i) = false from h]; decide))
    rw [List.take_of_length_le (by omega)] at ha
    refine At.wk (L' := [(0, .ref ch), (1, .ref tb)]) (List.forall_mem_cons.mpr ⟨List.mem_of_getElem? (i := 1) rfl, (List.forall_mem_cons.mpr ⟨List.mem_of_getElem? (i := 2) rfl, (fun _ h => (List.not_mem_nil h).elim)⟩)⟩) (show ([2, 0, 1] : List Nat).Nodup by decide) ?_
    exact hk1 ha
  | succ j ih =>
    intro i hi ha
    obtain ⟨e, he⟩ : ∃ e, ms[i]? = some e := ⟨_, List.getElem?_eq_getElem (by omega)⟩
    obtain ⟨x, hx0, hX⟩ := hMs.get he
    have hX9 := hX
    obtain ⟨c, xf, hx, -, -, -⟩ := hX9
    refine At.go (q := xm198) rfl 2 (pc' := 64) (L' := [(2, .int (Int32.ofNat i)), (0, .ref ch), (1, .ref tb)]) (st' := [.ref ch, .int (Int32.ofNat i)]) rfl ?_
    refine At.gf rfl (by decide) hc rfl ?_
    refine At.clp (as := [.ref mm]) (rest := [.int (Int32.ofNat i)]) rfl (by decide) rfl (Nat.le_of_ble_eq_true rfl) (Nat.le_of_ble_eq_true rfl) (xrck_o (by decide) (by decide) hm0 (by decide)) (Nat.le_of_ble_eq_true rfl) (m_size hM) ?_
    refine At.ic2 (tgt := 103) rfl rfl (fun h => absurd ((iN_le (a := ma.length) (b := i) (by omega) (by omega)).mp (of_decide_eq_true h)) (by omega)) (fun _ => ?_)
    refine At.go (q := xm198) rfl 1 (pc' := 74) (L' := [(2, .int (Int32.ofNat i)), (0, .ref ch), (1, .ref tb)]) (st' := [.ref ch]) rfl ?_
    refine At.gf rfl (by decide) hc rfl ?_
    refine At.go (q := xm198) rfl 1 (pc' := 78) (L' := [(2, .int (Int32.ofNat i)), (0, .ref ch), (1, .ref tb)]) (st' := [.ref ch, .ref g]) rfl ?_
    refine At.gf rfl (by decide) hc rfl ?_
    refine At.go (q := xm198) rfl 1 (pc' := 82) (L' := [(2, .int (Int32.ofNat i)), (0, .ref ch), (1, .ref tb)]) (st' := [.int (Int32.ofNat i), .ref mm, .ref g]) rfl ?_
    refine At.clp (as := [.ref mm, .int (Int32.ofNat i)]) (rest := [.ref g]) rfl (by decide) rfl (Nat.le_of_ble_eq_true rfl) (Nat.le_of_ble_eq_true rfl) (xrck_o (by decide) (by decide) hm0 (by decide)) (Nat.le_of_ble_eq_true rfl) (m_get hM hx0) ?_
    refine At.ca rfl hx (by decide) ?_
    refine At.clp (as := [.ref g, .ref x]) (rest := []) rfl (by decide) rfl (Nat.le_of_ble_eq_true rfl) (Nat.le_of_ble_eq_true rfl) (xrck_o (by decide) (by decide) hg (by decide)) (Nat.le_of_ble_eq_true rfl) (m_isMet hg hK hKs hsl hX (hTm e (List.mem_of_getElem? he)).1 (hTm e (List.mem_of_getElem? he)).2) ?_
    refine At.ic1 (tgt := 97) rfl rfl (fun h91 => ?_) (fun h91 => ?_)
    · refine At.go (q := xm198) rfl 2 (pc' := 62) (L' := [(2, .int ((Int32.ofNat i) + 1)), (0, .ref ch), (1, .ref tb)]) (st' := []) rfl ?_
      rw [iN_s]
      refine At.wk (L' := [(2, .int (Int32.ofNat (i + 1))), (0, .ref ch), (1, .ref tb)]) (List.forall_mem_cons.mpr ⟨List.mem_of_getElem? (i := 0) rfl, (List.forall_mem_cons.mpr ⟨List.mem_of_getElem? (i := 1) rfl, (List.forall_mem_cons.mpr ⟨List.mem_of_getElem? (i := 2) rfl, (fun _ h => (List.not_mem_nil h).elim)⟩)⟩)⟩) (show ([2, 0, 1] : List Nat).Nodup by decide) ?_
      refine ih (i + 1) (by omega) ?_
      rw [List.take_add_one, he, List.all_append, ha, Option.toList_some, List.all_cons, bI1 (of_decide_eq_true h91)]
      rfl
    · have hf9 : ms.all (fun e => metE ls (TI e.2.2.2.2.2) e) = false := by
        cases hz : ms.all (fun e => metE ls (TI e.2.2.2.2.2) e) with
        | false => rfl
        | true =>
          have := List.all_eq_true.mp hz e (List.mem_of_getElem? he)
          rw [bI0 (xne_f h91)] at this
          cases this
      refine At.go (q := xm198) rfl 1 (pc' := 96) (L' := [(2, .int (Int32.ofNat i)), (0, .ref ch), (1, .ref tb)]) (st' := [.int 114]) rfl ?_
      exact At.rt rfl (xret_c (by decide)) (hk2 hf9)
theorem jd_chk {S : List Int32} {hq : List XC} {ch d t mm g tb cf oa aa pa sa wa : Nat} {lb al gi : Int32} {ws : Value} {es9 : List Value} {gs v0 : List Int32} {os : List (Nat × Int32)} {ma : List Nat} {ms : List En} {Q : XO → Prop} {nc ns : Nat} (hO : Own hq) (hc0 : hq[ch]? = some (.inr (3, [.ref d, .ref t, .ref mm, .ref g, .int lb, .int al, .int gi]))) (hM0 : hLs hq mm ma) (hMs0 : hEs hq ma ms) (hF0 : hFo hq cf oa aa pa sa wa ws es9 gs os) (hsa0 : hq[sa]? = some (.inl (16, v0.map Value.int))) (hN : os.length ≤ v0.length) (hN2 : v0.length ≤ 1000) (hnm : ∀ (i : Nat) (q : Nat × Int32), os[i]? = some q → q.1 = 3 → ∃ j : Nat, j ≤ 100000 ∧ q.2 = Int32.ofNat j) (hok : ∀ e ∈ ms, (resR e.2.2.1 (fun g => cellE e.2.2.2.2.1 [] g.toNatClampNeg) os []).isSome = true) (hk : ∀ vs : List Int32, vs.length = v0.length → Q (.inl (some (.int (if ms.all (fun (e : En) => decide (¬ (resE e.2.2.1 (fun g => cellE e.2.2.2.2.1 [] g.toNatClampNeg) os) = -1000000000) && decide (¬ (resE e.2.2.1 (fun g => cellE e.2.2.2.2.1 [] g.toNatClampNeg) os) = 0)) = true then 0 else 99)), (hq.set sa (.inl (16, vs.map Value.int))), nc, ns))) : ∀ (j i : Nat) (vs : List Int32), i + j = ms.length → vs.length = v0.length → (ms.take i).all (fun (e : En) => decide (¬ (resE e.2.2.1 (fun g => cellE e.2.2.2.2.1 [] g.toNatClampNeg) os) = -1000000000) && decide (¬ (resE e.2.2.1 (fun g => cellE e.2.2.2.2.1 [] g.toNatClampNeg) os) = 0)) = true → At S 8 198 110 [(3, .int (Int32.ofNat i)), (0, .ref ch), (1, .ref tb), (2, .ref cf)] [] (hq.set sa (.inl (16, vs.map Value.int))) nc ns Q := by
  have hbn := hM0.len
  have hl9 := hMs0.1
  intro j
  induction j with
  | zero =>
    intro i vs hi hv ha
    have f9 : FrX (fun x => x = sa) hq (hq.set sa (.inl (16, vs.map Value.int))) := FrX.st hsa0 rfl rfl rfl rfl (fun fs h => by cases h) (fun ci fs h => by cases h)
    have hc := f9.ob hc0 (by decide) (fun e => xn_ra hc0 hsa0 e)
    obtain ⟨mf0, hm00⟩ := hM0.ob
    have hM := f9.ls (fun e => xn_ra hm00 hsa0 e) hO hM0
    obtain ⟨mf, hm0⟩ := hM.ob
    refine At.go (q := xm198) rfl 2 (pc' := 112) (L' := [(3, .int (Int32.ofNat i)), (0, .ref ch), (1, .ref tb), (2, .ref cf)]) (st' := [.ref ch, .int (Int32.ofNat i)]) rfl ?_
    refine At.gf rfl (by decide) hc rfl ?_
    refine At.clp (as := [.ref mm]) (rest := [.int (Int32.ofNat i)]) rfl (by decide) rfl (Nat.le_of_ble_eq_true rfl) (Nat.le_of_ble_eq_true rfl) (xrck_o (by decide) (by decide) hm0 (by decide)) (Nat.le_of_ble_eq_true rfl) (m_size hM) ?_
    refine At.ic2 (tgt := 169) rfl rfl (fun _ => ?_) (fun h => absurd (decide_eq_true ((iN_le (a := ma.length) (b := i) (by omega) (by omega)).mpr (by omega))) (by rw [show decide (Int32.ofNat ma.length ≤ Int32.ofNat i) = false from h]; decide))
    rw [List.take_of_length_le (by omega)] at ha
    refine At.go (q := xm198) rfl 1 (pc' := 170) (L' := [(3, .int (Int32.ofNat i)), (0, .ref ch), (1, .ref tb), (2, .ref cf)]) (st' := [.int 0]) rfl ?_
    have hk9 := hk vs hv
    rw [if_pos ha] at hk9
    exact At.rt rfl (xret_c (by decide)) hk9
  | succ j ih =>
    intro i vs hi hv ha
    have f9 : FrX (fun x => x = sa) hq (hq.set sa (.inl (16, vs.map Value.int))) := FrX.st hsa0 rfl rfl rfl rfl (fun fs h => by cases h) (fun ci fs h => by cases h)
    have hc := f9.ob hc0 (by decide) (fun e => xn_ra hc0 hsa0 e)
    obtain ⟨mf0, hm00⟩ := hM0.ob
    have hM := f9.ls (fun e => xn_ra hm00 hsa0 e) hO hM0
    obtain ⟨mf, hm0⟩ := hM.ob
    obtain ⟨e, he⟩ : ∃ e, ms[i]? = some e := ⟨_, List.getElem?_eq_getElem (by omega)⟩
    obtain ⟨x, hx0, hX⟩ := (hMs0.fr f9).get he
    have hX9 := hX
    obtain ⟨c, xf, hx, -, -, -⟩ := hX9
    have hF : hFo (hq.set sa (.inl (16, vs.map Value.int))) cf oa aa pa sa wa ws es9 gs os := hF0.set hsa0
    have hsa : (hq.set sa (.inl (16, vs.map Value.int)))[sa]? = some (.inl (16, vs.map Value.int)) := xs_eq hsa0
    have hem := List.mem_of_getElem? he
    have hdt : (os.take os.length).drop 0 = os := by rw [List.take_length]; rfl
    refine At.go (q := xm198) rfl 2 (pc' := 112) (L' := [(3, .int (Int32.ofNat i)), (0, .ref ch), (1, .ref tb), (2, .ref cf)]) (st' := [.ref ch, .int (Int32.ofNat i)]) rfl ?_
    refine At.gf rfl (by decide) hc rfl ?_
    refine At.clp (as := [.ref mm]) (rest := [.int (Int32.ofNat i)]) rfl (by decide) rfl (Nat.le_of_ble_eq_true rfl) (Nat.le_of_ble_eq_true rfl) (xrck_o (by decide) (by decide) hm0 (by decide)) (Nat.le_of_ble_eq_true rfl) (m_size hM) ?_
    refine At.ic2 (tgt := 169) rfl rfl (fun h => absurd ((iN_le (a := ma.length) (b := i) (by omega) (by omega)).mp (of_decide_eq_true h)) (by omega)) (fun _ => ?_)
    refine At.go (q := xm198) rfl 5 (pc' := 128) (L' := [(3, .int (Int32.ofNat i)), (0, .ref ch), (1, .ref tb), (2, .ref cf)]) (st' := [.ref cf, .int 0, .ref cf]) rfl ?_
    refine At.gf rfl (by decide) hF.ho rfl ?_
    refine At.go (q := xm198) rfl 1 (pc' := 132) (L' := [(3, .int (Int32.ofNat i)), (0, .ref ch), (1, .ref tb), (2, .ref cf)]) (st' := [.ref ch, .int (Int32.ofNat os.length), .int 0, .ref cf]) rfl ?_
    refine At.gf rfl (by decide) hc rfl ?_
    refine At.go (q := xm198) rfl 1 (pc' := 136) (L' := [(3, .int (Int32.ofNat i)), (0, .ref ch), (1, .ref tb), (2, .ref cf)]) (st' := [.int (Int32.ofNat i), .ref mm, .int (Int32.ofNat os.length), .int 0, .ref cf]) rfl ?_
    refine At.clp (as := [.ref mm, .int (Int32.ofNat i)]) (rest := [.int (Int32.ofNat os.length), .int 0, .ref cf]) rfl (by decide) rfl (Nat.le_of_ble_eq_true rfl) (Nat.le_of_ble_eq_true rfl) (xrck_o (by decide) (by decide) hm0 (by decide)) (Nat.le_of_ble_eq_true rfl) (m_get hM hx0) ?_
    refine At.ca rfl hx (by decide) ?_
    refine At.go (q := xm198) rfl 1 (pc' := 143) (L' := [(3, .int (Int32.ofNat i)), (0, .ref ch), (1, .ref tb), (2, .ref cf)]) (st' := [.null, .ref x, .int (Int32.ofNat os.length), .int 0, .ref cf]) rfl ?_
    refine At.clm (as := [.ref cf, .int 0, .int (Int32.ofNat os.length), .ref x, .null]) (rest := []) rfl (by decide) rfl (Nat.le_of_ble_eq_true rfl) (Nat.le_of_ble_eq_true rfl) (xrck_o (by decide) (by decide) hF.ho (by decide)) (Nat.le_of_ble_eq_true rfl) (m_result1 (fr := 0) hF hsa (by omega) (by omega) (Nat.le_refl _) (Nat.zero_le _) hnm hX (by rw [hdt]; exact hok e hem)) (fun v9 hp1 c1 s1 hv9 => ?_)
    obtain ⟨rfl, ⟨vs2, hl2, rfl⟩, rfl, rfl⟩ := hv9
    rw [hdt, List.set_set]
    refine At.go (q := xm198) rfl 3 (pc' := 152) (L' := [(4, .int (resE e.2.2.1 (fun g => cellE e.2.2.2.2.1 [] g.toNatClampNeg) os)), (3, .int (Int32.ofNat i)), (0, .ref ch), (1, .ref tb), (2, .ref cf)]) (st' := [.int (-1000000000), .int (resE e.2.2.1 (fun g => cellE e.2.2.2.2.1 [] g.toNatClampNeg) os)]) rfl ?_
    refine At.ic2 (tgt := 160) rfl rfl (fun h152 => ?_) (fun h152 => ?_)
    · have hf9 : ¬ ms.all (fun (e : En) => decide (¬ (resE e.2.2.1 (fun g => cellE e.2.2.2.2.1 [] g.toNatClampNeg) os) = -1000000000) && decide (¬ (resE e.2.2.1 (fun g => cellE e.2.2.2.2.1 [] g.toNatClampNeg) os) = 0)) = true := fun hz => by
        have h8 := List.all_eq_true.mp hz e hem
        rw [Bool.and_eq_true] at h8
        exact of_decide_eq_true h8.1 (of_decide_eq_true h152)
      refine At.go (q := xm198) rfl 1 (pc' := 162) (L' := [(4, .int (resE e.2.2.1 (fun g => cellE e.2.2.2.2.1 [] g.toNatClampNeg) os)), (3, .int (Int32.ofNat i)), (0, .ref ch), (1, .ref tb), (2, .ref cf)]) (st' := [.int 99]) rfl ?_
      have hk9 := hk vs2 (by omega)
      rw [if_neg hf9] at hk9
      exact At.rt rfl (xret_c (by decide)) hk9
    · refine At.go (q := xm198) rfl 1 (pc' := 157) (L' := [(4, .int (resE e.2.2.1 (fun g => cellE e.2.2.2.2.1 [] g.toNatClampNeg) os)), (3, .int (Int32.ofNat i)), (0, .ref ch), (1, .ref tb), (2, .ref cf)]) (st' := [.int (resE e.2.2.1 (fun g => cellE e.2.2.2.2.1 [] g.toNatClampNeg) os)]) rfl ?_
      refine At.ic1 (tgt := 163) rfl rfl (fun h157 => ?_) (fun h157 => ?_)
      · refine At.go (q := xm198) rfl 2 (pc' := 110) (L' := [(3, .int ((Int32.ofNat i) + 1)), (4, .int (resE e.2.2.1 (fun g => cellE e.2.2.2.2.1 [] g.toNatClampNeg) os)), (0, .ref ch), (1, .ref tb), (2, .ref cf)]) (st' := []) rfl ?_
        rw [iN_s]
        refine At.wk (L' := [(3, .int (Int32.ofNat (i + 1))), (0, .ref ch), (1, .ref tb), (2, .ref cf)]) (List.forall_mem_cons.mpr ⟨List.mem_of_getElem? (i := 0) rfl, (List.forall_mem_cons.mpr ⟨List.mem_of_getElem? (i := 2) rfl, (List.forall_mem_cons.mpr ⟨List.mem_of_getElem? (i := 3) rfl, (List.forall_mem_cons.mpr ⟨List.mem_of_getElem? (i := 4) rfl, (fun _ h => (List.not_mem_nil h).elim)⟩)⟩)⟩)⟩) (show ([3, 4, 0, 1, 2] : List Nat).Nodup by decide) ?_
        refine ih (i + 1) vs2 (by omega) (by omega) ?_
        rw [List.take_add_one, he, List.all_append, ha, Option.toList_some, List.all_cons, decide_eq_true (of_decide_eq_false h152), decide_eq_true (of_decide_eq_true h157)]
        rfl
      · have hf9 : ¬ ms.all (fun (e : En) => decide (¬ (resE e.2.2.1 (fun g => cellE e.2.2.2.2.1 [] g.toNatClampNeg) os) = -1000000000) && decide (¬ (resE e.2.2.1 (fun g => cellE e.2.2.2.2.1 [] g.toNatClampNeg) os) = 0)) = true := fun hz => by
          have h8 := List.all_eq_true.mp hz e hem
          rw [Bool.and_eq_true] at h8
          exact of_decide_eq_true h8.2 (xne_f h157)
        refine At.go (q := xm198) rfl 1 (pc' := 162) (L' := [(4, .int (resE e.2.2.1 (fun g => cellE e.2.2.2.2.1 [] g.toNatClampNeg) os)), (3, .int (Int32.ofNat i)), (0, .ref ch), (1, .ref tb), (2, .ref cf)]) (st' := [.int 99]) rfl ?_
        have hk9 := hk vs2 (by omega)
        rw [if_neg hf9] at hk9
        exact At.rt rfl (xret_c (by decide)) hk9
