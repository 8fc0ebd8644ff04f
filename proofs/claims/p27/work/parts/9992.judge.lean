/-! judge, the whole (written by wip/p27/c9992.py) -/
theorem lookE_sub {TI : Nat → Tb} {es : List En} {lb : Int32} : (lookE TI es lb).Sublist es := by
  rw [← lookTo_n (Nat.le_refl es.length)]
  exact lookTo_sub
theorem lookE_srt {TI : Nat → Tb} {es : List En} {lb : Int32} (hs : Srt es) : Srt (lookE TI es lb) := List.Pairwise.sublist lookE_sub hs
/-- why a change of a table is refused, or 0 -/
def judgeE (TI : Nat → Tb) (T : Tb) (es ms : List En) (sr lb : Int32) (ck : En → Bool) : Int32 := if 12 < cntE es sr lb then 102 else if hasTwsE T es sr lb = true then 117 else if ms.all (fun e => metE (lookE TI es lb) (TI e.2.2.2.2.2) e) = true then (if ms.all ck = true then 0 else 99) else 114
/-- what it leaves of the look -/
def JdR (hp : List XC) (k g n : Nat) (hp' : List XC) (c s : Nat) : Prop := (∃ lv, hp'[g]? = some (.inr (11, [.ref k, lv]))) ∧ (∃ ls, hSh hp' k ls) ∧ c + capL hp k ≤ capL hp' k ∧ s + 4 * capL hp k ≤ 4 * capL hp' k ∧ capL hp' k ≤ max (capL hp k) (2 * n + 10)
theorem m_judge0 {S : List Int32} {TI : Nat → Tb} {hp : List XC} {ch d t mm g tb k l : Nat} {lb al gi sr : Int32} {lv : Value} {tf : List Value} {as ma ks : List Nat} {es ms : List En} {T : Tb} (hc : hp[ch]? = some (.inr (3, [.ref d, .ref t, .ref mm, .ref g, .int lb, .int al, .int gi]))) (hd0 : hp[d]? = some (.inr (10, [.ref l]))) (hg : hp[g]? = some (.inr (11, [.ref k, lv]))) (hkl : k ≠ l) (hkm : ¬ mm = k) (hO : Own hp) (hL : hLs hp l as) (hM : hLs hp mm ma) (hK0 : hLs hp k ks) (hE : hEs hp as es) (hMs : hEs hp ma ms) (hsr : Srt es) (hn : es.length ≤ 30000) (hTb9 : hTb hp tb sr T) (ht : hp[tb]? = some (.inr (13, .int sr :: tf))) (hT1 : 1 ≤ T.2.2.1.length) (hsame : ∀ f ∈ es, f.1 = sr → f.2.2.2.2.2 = tb) (hTab : ∀ e ∈ es, hTb hp e.2.2.2.2.2 e.1 (TI e.2.2.2.2.2) ∧ 1 ≤ (TI e.2.2.2.2.2).2.2.1.length) (hTm : ∀ e ∈ ms, hTb hp e.2.2.2.2.2 e.1 (TI e.2.2.2.2.2) ∧ 1 ≤ (TI e.2.2.2.2.2).2.2.1.length) (h6 : (Value.int sr :: tf)[6]? = some .null) (hKE0 : ∃ kes, hEs hp ks kes) : Me S 8 198 [.ref ch, .ref tb] hp (fun v hp' c s => v = some (.int (judgeE TI T es ms sr lb (fun _ => true))) ∧ FrX (fun x => x = k ∨ x = g) hp hp' ∧ JdR hp k g es.length hp' c s ∧ True) := by
  obtain ⟨kes, hKE⟩ := hKE0
  have hcl : cntE es sr lb ≤ es.length := List.countP_le_length
  refine At.go (q := xm198) rfl 3 (pc' := 8) (L' := [(0, .ref ch), (1, .ref tb)]) (st' := [.ref ch]) rfl ?_
  refine At.gf rfl (by decide) hc rfl ?_
  refine At.go (q := xm198) rfl 2 (pc' := 13) (L' := [(0, .ref ch), (1, .ref tb)]) (st' := [.ref ch, .ref tb, .ref d]) rfl ?_
  refine At.gf rfl (by decide) hc rfl ?_
  refine At.clp (as := [.ref d, .ref tb, .int lb]) (rest := []) rfl (by decide) rfl (Nat.le_of_ble_eq_true rfl) (Nat.le_of_ble_eq_true rfl) (xrck_o (by decide) (by decide) hd0 (by decide)) (Nat.le_of_ble_eq_true rfl) (m_count ht hd0 hL hE) ?_
  refine At.go (q := xm198) rfl 1 (pc' := 21) (L' := [(0, .ref ch), (1, .ref tb)]) (st' := [.int 12, .int (Int32.ofNat (cntE es sr lb))]) rfl ?_
  refine At.ic2 (tgt := 27) rfl rfl (fun h21 => ?_) (fun h21 => ?_)
  · have hc12 : ¬ 12 < cntE es sr lb := Nat.not_lt.mpr ((iN_le (a := cntE es sr lb) (b := 12) (by omega) (by omega)).mp (of_decide_eq_true h21))
    refine At.go (q := xm198) rfl 1 (pc' := 28) (L' := [(0, .ref ch), (1, .ref tb)]) (st' := [.ref ch]) rfl ?_
    refine At.gf rfl (by decide) hc rfl ?_
    refine At.go (q := xm198) rfl 2 (pc' := 33) (L' := [(0, .ref ch), (1, .ref tb)]) (st' := [.ref ch, .ref tb, .ref d]) rfl ?_
    refine At.gf rfl (by decide) hc rfl ?_
    refine At.clp (as := [.ref d, .ref tb, .int lb]) (rest := []) rfl (by decide) rfl (Nat.le_of_ble_eq_true rfl) (Nat.le_of_ble_eq_true rfl) (xrck_o (by decide) (by decide) hd0 (by decide)) (Nat.le_of_ble_eq_true rfl) (m_hasTwins hd0 hL hE hTb9 hT1 hsame hsr) ?_
    refine At.ic1 (tgt := 45) rfl rfl (fun h39 => ?_) (fun h39 => ?_)
    · have ht9 : ¬ hasTwsE T es sr lb = true := fun h => by rw [bI0 (of_decide_eq_true h39)] at h; cases h
      refine At.go (q := xm198) rfl 1 (pc' := 46) (L' := [(0, .ref ch), (1, .ref tb)]) (st' := [.ref ch]) rfl ?_
      refine At.gf rfl (by decide) hc rfl ?_
      refine At.go (q := xm198) rfl 1 (pc' := 50) (L' := [(0, .ref ch), (1, .ref tb)]) (st' := [.ref ch, .ref g]) rfl ?_
      refine At.gf rfl (by decide) hc rfl ?_
      refine At.go (q := xm198) rfl 1 (pc' := 54) (L' := [(0, .ref ch), (1, .ref tb)]) (st' := [.ref ch, .ref d, .ref g]) rfl ?_
      refine At.gf rfl (by decide) hc rfl ?_
      refine At.clm (as := [.ref g, .ref d, .int lb]) (rest := []) rfl (by decide) rfl (Nat.le_of_ble_eq_true rfl) (Nat.le_of_ble_eq_true rfl) (xrck_o (by decide) (by decide) hg (by decide)) (Nat.le_of_ble_eq_true rfl) (m_look hsr hkl hn hO hg hd0 hK0 hL hE hTab) (fun v9 hr1 c1 s1 hv => ?_)
      obtain ⟨rfl, k1, hg1, hkL, k3, k4, k5⟩ := hv
      have hkL9 := hkL
      obtain ⟨kls, hKL, hKE1⟩ := hkL9
      obtain ⟨mf0, hm00⟩ := hM.ob
      have hnm9 : ¬ (mm = k ∨ mm = g) := fun e => e.elim hkm (fun e => xn_cl hm00 hg (by decide) e)
      have hM1 := k1.ls hnm9 hO hM
      obtain ⟨kf0, hk00⟩ := hK0.ob
      have hc1 : hr1[ch]? = some (.inr (3, [.ref d, .ref t, .ref mm, .ref g, .int lb, .int al, .int gi])) := k1.ob hc (by decide) (fun e => e.elim (fun e => xn_cl hc hk00 (by decide) e) (fun e => xn_cl hc hg (by decide) e))
      obtain ⟨mf1, hm1⟩ := hM1.ob
      obtain ⟨v8, ht1⟩ := k1.2.2.2.2.1 _ _ ht
      have h61 : ((Value.int sr :: tf).set 8 v8)[6]? = some .null := by rw [List.getElem?_set_ne (by decide)]; exact h6
      have hTm1 : ∀ e ∈ ms, hTb hr1 e.2.2.2.2.2 e.1 (TI e.2.2.2.2.2) ∧ 1 ≤ (TI e.2.2.2.2.2).2.2.1.length := fun e he => ⟨(hTm e he).1.fr k1, (hTm e he).2⟩
      have jr : JdR hp k g es.length hr1 c1 s1 := ⟨⟨_, hg1⟩, ⟨_, hkL⟩, k3, k4, k5⟩
      try rw [Nat.zero_add, Nat.zero_add]
      refine At.go (q := xm198) rfl 2 (pc' := 62) (L' := [(2, .int 0), (0, .ref ch), (1, .ref tb)]) (st' := []) rfl ?_
      refine At.wk (L' := [(2, .int (Int32.ofNat 0)), (0, .ref ch), (1, .ref tb)]) (List.forall_mem_cons.mpr ⟨List.mem_of_getElem? (i := 0) rfl, (List.forall_mem_cons.mpr ⟨List.mem_of_getElem? (i := 1) rfl, (List.forall_mem_cons.mpr ⟨List.mem_of_getElem? (i := 2) rfl, (fun _ h => (List.not_mem_nil h).elim)⟩)⟩)⟩) (show ([2, 0, 1] : List Nat).Nodup by decide) ?_
      refine jd_met hc1 hg1 hKL hKE1 (lookE_srt hsr) hM1 (hMs.fr k1) hTm1 (fun hz => ?_) (fun hz => ?_) ms.length 0 (Nat.zero_add _) rfl
      · refine At.go (q := xm198) rfl 1 (pc' := 104) (L' := [(0, .ref ch), (1, .ref tb)]) (st' := [.ref tb]) rfl ?_
        refine At.gf rfl (by decide) ht1 h61 ?_
        refine At.go (q := xm198) rfl 5 (pc' := 112) (L' := [(3, .int 0), (2, .null), (0, .ref ch), (1, .ref tb)]) (st' := [.ref ch, .int 0]) rfl ?_
        refine At.gf rfl (by decide) hc1 rfl ?_
        refine At.clp (as := [.ref mm]) (rest := [.int 0]) rfl (by decide) rfl (Nat.le_of_ble_eq_true rfl) (Nat.le_of_ble_eq_true rfl) (xrck_o (by decide) (by decide) hm1 (by decide)) (Nat.le_of_ble_eq_true rfl) (m_size hM1) ?_
        refine At.ic2 (tgt := 169) rfl rfl (fun _ => ?_) (fun _ => ?_)
        · refine At.go (q := xm198) rfl 1 (pc' := 170) (L' := [(3, .int 0), (2, .null), (0, .ref ch), (1, .ref tb)]) (st' := [.int 0]) rfl ?_
          exact At.rt rfl (xret_c (by decide)) ⟨_, _, _, _, rfl, by unfold judgeE; rw [if_neg hc12, if_neg ht9, if_pos hz, if_pos (List.all_eq_true.mpr (fun _ _ => rfl))], k1.mono (fun x _ h => h), jr, trivial⟩
        · refine At.go (q := xm198) rfl 3 (pc' := 170) (L' := [(3, .int 0), (2, .null), (0, .ref ch), (1, .ref tb)]) (st' := [.int 0]) rfl ?_
          exact At.rt rfl (xret_c (by decide)) ⟨_, _, _, _, rfl, by unfold judgeE; rw [if_neg hc12, if_neg ht9, if_pos hz, if_pos (List.all_eq_true.mpr (fun _ _ => rfl))], k1.mono (fun x _ h => h), jr, trivial⟩
      · exact ⟨_, _, _, _, rfl, (by unfold judgeE; rw [if_neg hc12, if_neg ht9, if_neg (by rw [hz]; decide)]), k1.mono (fun x _ h => h), jr, trivial⟩
    · have ht9 : hasTwsE T es sr lb = true := bI1 (of_decide_eq_false h39)
      refine At.go (q := xm198) rfl 1 (pc' := 44) (L' := [(0, .ref ch), (1, .ref tb)]) (st' := [.int 117]) rfl ?_
      exact At.rt rfl (xret_c (by decide)) ⟨_, _, _, _, rfl, by unfold judgeE; rw [if_neg hc12, if_pos ht9], FrX.rf, ⟨⟨lv, hg⟩, ⟨kes, ⟨ks, hK0, hKE⟩⟩, by omega, by omega, Nat.le_max_left _ _⟩, trivial⟩
  · have hc12 : 12 < cntE es sr lb := Nat.lt_of_not_le (fun h => of_decide_eq_false h21 ((iN_le (a := cntE es sr lb) (b := 12) (by omega) (by omega)).mpr h))
    refine At.go (q := xm198) rfl 1 (pc' := 26) (L' := [(0, .ref ch), (1, .ref tb)]) (st' := [.int 102]) rfl ?_
    exact At.rt rfl (xret_c (by decide)) ⟨_, _, _, _, rfl, by unfold judgeE; rw [if_pos hc12], FrX.rf, ⟨⟨lv, hg⟩, ⟨kes, ⟨ks, hK0, hKE⟩⟩, by omega, by omega, Nat.le_max_left _ _⟩, trivial⟩
theorem m_judge1 {S : List Int32} {TI : Nat → Tb} {hp : List XC} {ch d t mm g tb k l : Nat} {lb al gi sr : Int32} {lv : Value} {tf : List Value} {as ma ks : List Nat} {es ms : List En} {T : Tb} (hc : hp[ch]? = some (.inr (3, [.ref d, .ref t, .ref mm, .ref g, .int lb, .int al, .int gi]))) (hd0 : hp[d]? = some (.inr (10, [.ref l]))) (hg : hp[g]? = some (.inr (11, [.ref k, lv]))) (hkl : k ≠ l) (hkm : ¬ mm = k) (hO : Own hp) (hL : hLs hp l as) (hM : hLs hp mm ma) (hK0 : hLs hp k ks) (hE : hEs hp as es) (hMs : hEs hp ma ms) (hsr : Srt es) (hn : es.length ≤ 30000) (hTb9 : hTb hp tb sr T) (ht : hp[tb]? = some (.inr (13, .int sr :: tf))) (hT1 : 1 ≤ T.2.2.1.length) (hsame : ∀ f ∈ es, f.1 = sr → f.2.2.2.2.2 = tb) (hTab : ∀ e ∈ es, hTb hp e.2.2.2.2.2 e.1 (TI e.2.2.2.2.2) ∧ 1 ≤ (TI e.2.2.2.2.2).2.2.1.length) (hTm : ∀ e ∈ ms, hTb hp e.2.2.2.2.2 e.1 (TI e.2.2.2.2.2) ∧ 1 ≤ (TI e.2.2.2.2.2).2.2.1.length) {cf oa aa pa sa wa : Nat} {ws : Value} {es9 : List Value} {gs v0 : List Int32} {os : List (Nat × Int32)} (h6 : (Value.int sr :: tf)[6]? = some (.ref cf)) (hF : hFo hp cf oa aa pa sa wa ws es9 gs os) (hsa : hp[sa]? = some (.inl (16, v0.map Value.int))) (hN : os.length ≤ v0.length) (hN2 : v0.length ≤ 1000) (hnm : ∀ (i : Nat) (q : Nat × Int32), os[i]? = some q → q.1 = 3 → ∃ j : Nat, j ≤ 100000 ∧ q.2 = Int32.ofNat j) (hok : ∀ e ∈ ms, (resR e.2.2.1 (fun g => cellE e.2.2.2.2.1 [] g.toNatClampNeg) os []).isSome = true) (hKE0 : ∃ kes, hEs hp ks kes) : Me S 8 198 [.ref ch, .ref tb] hp (fun v hp' c s => v = some (.int (judgeE TI T es ms sr lb (fun (e : En) => decide (¬ (resE e.2.2.1 (fun g => cellE e.2.2.2.2.1 [] g.toNatClampNeg) os) = -1000000000) && decide (¬ (resE e.2.2.1 (fun g => cellE e.2.2.2.2.1 [] g.toNatClampNeg) os) = 0)))) ∧ FrX (fun x => x = k ∨ x = g ∨ x = sa) hp hp' ∧ JdR hp k g es.length hp' c s ∧ (∃ vs : List Int32, vs.length = v0.length ∧ hp'[sa]? = some (.inl (16, vs.map Value.int)))) := by
  obtain ⟨kes, hKE⟩ := hKE0
  have hcl : cntE es sr lb ≤ es.length := List.countP_le_length
  refine At.go (q := xm198) rfl 3 (pc' := 8) (L' := [(0, .ref ch), (1, .ref tb)]) (st' := [.ref ch]) rfl ?_
  refine At.gf rfl (by decide) hc rfl ?_
  refine At.go (q := xm198) rfl 2 (pc' := 13) (L' := [(0, .ref ch), (1, .ref tb)]) (st' := [.ref ch, .ref tb, .ref d]) rfl ?_
  refine At.gf rfl (by decide) hc rfl ?_
  refine At.clp (as := [.ref d, .ref tb, .int lb]) (rest := []) rfl (by decide) rfl (Nat.le_of_ble_eq_true rfl) (Nat.le_of_ble_eq_true rfl) (xrck_o (by decide) (by decide) hd0 (by decide)) (Nat.le_of_ble_eq_true rfl) (m_count ht hd0 hL hE) ?_
  refine At.go (q := xm198) rfl 1 (pc' := 21) (L' := [(0, .ref ch), (1, .ref tb)]) (st' := [.int 12, .int (Int32.ofNat (cntE es sr lb))]) rfl ?_
  refine At.ic2 (tgt := 27) rfl rfl (fun h21 => ?_) (fun h21 => ?_)
  · have hc12 : ¬ 12 < cntE es sr lb := Nat.not_lt.mpr ((iN_le (a := cntE es sr lb) (b := 12) (by omega) (by omega)).mp (of_decide_eq_true h21))
    refine At.go (q := xm198) rfl 1 (pc' := 28) (L' := [(0, .ref ch), (1, .ref tb)]) (st' := [.ref ch]) rfl ?_
    refine At.gf rfl (by decide) hc rfl ?_
    refine At.go (q := xm198) rfl 2 (pc' := 33) (L' := [(0, .ref ch), (1, .ref tb)]) (st' := [.ref ch, .ref tb, .ref d]) rfl ?_
    refine At.gf rfl (by decide) hc rfl ?_
    refine At.clp (as := [.ref d, .ref tb, .int lb]) (rest := []) rfl (by decide) rfl (Nat.le_of_ble_eq_true rfl) (Nat.le_of_ble_eq_true rfl) (xrck_o (by decide) (by decide) hd0 (by decide)) (Nat.le_of_ble_eq_true rfl) (m_hasTwins hd0 hL hE hTb9 hT1 hsame hsr) ?_
    refine At.ic1 (tgt := 45) rfl rfl (fun h39 => ?_) (fun h39 => ?_)
    · have ht9 : ¬ hasTwsE T es sr lb = true := fun h => by rw [bI0 (of_decide_eq_true h39)] at h; cases h
      refine At.go (q := xm198) rfl 1 (pc' := 46) (L' := [(0, .ref ch), (1, .ref tb)]) (st' := [.ref ch]) rfl ?_
      refine At.gf rfl (by decide) hc rfl ?_
      refine At.go (q := xm198) rfl 1 (pc' := 50) (L' := [(0, .ref ch), (1, .ref tb)]) (st' := [.ref ch, .ref g]) rfl ?_
      refine At.gf rfl (by decide) hc rfl ?_
      refine At.go (q := xm198) rfl 1 (pc' := 54) (L' := [(0, .ref ch), (1, .ref tb)]) (st' := [.ref ch, .ref d, .ref g]) rfl ?_
      refine At.gf rfl (by decide) hc rfl ?_
      refine At.clm (as := [.ref g, .ref d, .int lb]) (rest := []) rfl (by decide) rfl (Nat.le_of_ble_eq_true rfl) (Nat.le_of_ble_eq_true rfl) (xrck_o (by decide) (by decide) hg (by decide)) (Nat.le_of_ble_eq_true rfl) (m_look hsr hkl hn hO hg hd0 hK0 hL hE hTab) (fun v9 hr1 c1 s1 hv => ?_)
      obtain ⟨rfl, k1, hg1, hkL, k3, k4, k5⟩ := hv
      have hkL9 := hkL
      obtain ⟨kls, hKL, hKE1⟩ := hkL9
      obtain ⟨mf0, hm00⟩ := hM.ob
      have hnm9 : ¬ (mm = k ∨ mm = g) := fun e => e.elim hkm (fun e => xn_cl hm00 hg (by decide) e)
      have hM1 := k1.ls hnm9 hO hM
      obtain ⟨kf0, hk00⟩ := hK0.ob
      have hc1 : hr1[ch]? = some (.inr (3, [.ref d, .ref t, .ref mm, .ref g, .int lb, .int al, .int gi])) := k1.ob hc (by decide) (fun e => e.elim (fun e => xn_cl hc hk00 (by decide) e) (fun e => xn_cl hc hg (by decide) e))
      obtain ⟨mf1, hm1⟩ := hM1.ob
      obtain ⟨v8, ht1⟩ := k1.2.2.2.2.1 _ _ ht
      have h61 : ((Value.int sr :: tf).set 8 v8)[6]? = some (.ref cf) := by rw [List.getElem?_set_ne (by decide)]; exact h6
      have hTm1 : ∀ e ∈ ms, hTb hr1 e.2.2.2.2.2 e.1 (TI e.2.2.2.2.2) ∧ 1 ≤ (TI e.2.2.2.2.2).2.2.1.length := fun e he => ⟨(hTm e he).1.fr k1, (hTm e he).2⟩
      have jr : JdR hp k g es.length hr1 c1 s1 := ⟨⟨_, hg1⟩, ⟨_, hkL⟩, k3, k4, k5⟩
      have hsa1 := k1.2.2.1 _ _ hsa rfl (Or.inl (fun e => e.elim (fun e => xn_ar hsa hk00 e) (fun e => xn_ar hsa hg e)))
      have hF1 := hF.fr k1 (fun e => e.elim (fun e => xn_cl hF.ho hk00 (by decide) e) (fun e => xn_cl hF.ho hg (by decide) e)) (fun e => e.elim (fun e => xn_ar hF.hoa hk00 e) (fun e => xn_ar hF.hoa hg e)) (fun e => e.elim (fun e => xn_ar hF.haa hk00 e) (fun e => xn_ar hF.haa hg e))
      try rw [Nat.zero_add, Nat.zero_add]
      refine At.go (q := xm198) rfl 2 (pc' := 62) (L' := [(2, .int 0), (0, .ref ch), (1, .ref tb)]) (st' := []) rfl ?_
      refine At.wk (L' := [(2, .int (Int32.ofNat 0)), (0, .ref ch), (1, .ref tb)]) (List.forall_mem_cons.mpr ⟨List.mem_of_getElem? (i := 0) rfl, (List.forall_mem_cons.mpr ⟨List.mem_of_getElem? (i := 1) rfl, (List.forall_mem_cons.mpr ⟨List.mem_of_getElem? (i := 2) rfl, (fun _ h => (List.not_mem_nil h).elim)⟩)⟩)⟩) (show ([2, 0, 1] : List Nat).Nodup by decide) ?_
      refine jd_met hc1 hg1 hKL hKE1 (lookE_srt hsr) hM1 (hMs.fr k1) hTm1 (fun hz => ?_) (fun hz => ?_) ms.length 0 (Nat.zero_add _) rfl
      · refine At.go (q := xm198) rfl 1 (pc' := 104) (L' := [(0, .ref ch), (1, .ref tb)]) (st' := [.ref tb]) rfl ?_
        refine At.gf rfl (by decide) ht1 h61 ?_
        refine At.go (q := xm198) rfl 3 (pc' := 110) (L' := [(3, .int 0), (2, .ref cf), (0, .ref ch), (1, .ref tb)]) (st' := []) rfl ?_
        refine At.wk (L' := [(3, .int (Int32.ofNat 0)), (0, .ref ch), (1, .ref tb), (2, .ref cf)]) (List.forall_mem_cons.mpr ⟨List.mem_of_getElem? (i := 0) rfl, (List.forall_mem_cons.mpr ⟨List.mem_of_getElem? (i := 2) rfl, (List.forall_mem_cons.mpr ⟨List.mem_of_getElem? (i := 3) rfl, (List.forall_mem_cons.mpr ⟨List.mem_of_getElem? (i := 1) rfl, (fun _ h => (List.not_mem_nil h).elim)⟩)⟩)⟩)⟩) (show ([3, 2, 0, 1] : List Nat).Nodup by decide) ?_
        have hid : hr1.set sa (.inl (16, v0.map Value.int)) = hr1 := xset_id hsa1
        rw [← hid]
        refine jd_chk (Nat.lt_irrefl 0 |> fun _ => k1.2.1 hO) hc1 hM1 (hMs.fr k1) hF1 hsa1 hN hN2 hnm hok (fun vs hv => ?_) ms.length 0 v0 (Nat.zero_add _) rfl rfl
        have f9 : FrX (fun x => x = sa) hr1 (hr1.set sa (.inl (16, vs.map Value.int))) := FrX.st hsa1 rfl rfl rfl rfl (fun fs h => by cases h) (fun ci fs h => by cases h)
        refine ⟨_, _, _, _, rfl, by unfold judgeE; rw [if_neg hc12, if_neg ht9, if_pos hz], FrX.tr (k1.mono (fun x _ h => h.elim Or.inl (fun h => Or.inr (Or.inl h)))) f9 (fun x h => Or.inl (Or.inr (Or.inr h))), ?_, ⟨vs, hv, xs_eq hsa1⟩⟩
        obtain ⟨⟨lv9, j1⟩, ⟨ls9, as9, j2, j3⟩, j4, j5, j6⟩ := jr
        obtain ⟨kf9, hk9⟩ := j2.ob
        have ek := f9.cap (fun e => xn_ra hk9 hsa1 e) (k1.2.1 hO) j2
        exact ⟨⟨lv9, f9.ob j1 (by decide) (fun e => xn_ra j1 hsa1 e)⟩, ⟨ls9, as9, f9.ls (fun e => xn_ra hk9 hsa1 e) (k1.2.1 hO) j2, j3.fr f9⟩, by omega, by omega, by omega⟩
      · exact ⟨_, _, _, _, rfl, (by unfold judgeE; rw [if_neg hc12, if_neg ht9, if_neg (by rw [hz]; decide)]), k1.mono (fun x _ h => h.elim Or.inl (fun h => Or.inr (Or.inl h))), jr, ⟨v0, rfl, hsa1⟩⟩
    · have ht9 : hasTwsE T es sr lb = true := bI1 (of_decide_eq_false h39)
      refine At.go (q := xm198) rfl 1 (pc' := 44) (L' := [(0, .ref ch), (1, .ref tb)]) (st' := [.int 117]) rfl ?_
      exact At.rt rfl (xret_c (by decide)) ⟨_, _, _, _, rfl, by unfold judgeE; rw [if_neg hc12, if_pos ht9], FrX.rf, ⟨⟨lv, hg⟩, ⟨kes, ⟨ks, hK0, hKE⟩⟩, by omega, by omega, Nat.le_max_left _ _⟩, ⟨v0, rfl, hsa⟩⟩
  · have hc12 : 12 < cntE es sr lb := Nat.lt_of_not_le (fun h => of_decide_eq_false h21 ((iN_le (a := cntE es sr lb) (b := 12) (by omega) (by omega)).mpr h))
    refine At.go (q := xm198) rfl 1 (pc' := 26) (L' := [(0, .ref ch), (1, .ref tb)]) (st' := [.int 102]) rfl ?_
    exact At.rt rfl (xret_c (by decide)) ⟨_, _, _, _, rfl, by unfold judgeE; rw [if_pos hc12], FrX.rf, ⟨⟨lv, hg⟩, ⟨kes, ⟨ks, hK0, hKE⟩⟩, by omega, by omega, Nat.le_max_left _ _⟩, ⟨v0, rfl, hsa⟩⟩
