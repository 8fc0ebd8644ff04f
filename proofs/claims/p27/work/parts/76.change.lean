/-! changes: start, make, take (written by wip/p27/c76.py) -/
/-- some entries with a place as others have it -/
def bringE (es fs : List En) (p : Pl) : List En := match findE fs p with
  | none => takeE es p
  | some f => storeE es f
theorem bring_n {es fs : List En} {p : Pl} (h : findE fs p = none) : bringE es fs p = takeE es p := by
  unfold bringE
  rw [h]
theorem bring_s {es fs : List En} {p : Pl} {f : En} (h : findE fs p = some f) : bringE es fs p = storeE es f := by
  unfold bringE
  rw [h]
/-- take -/
theorem m_ctake {S : List Int32} {hp : List XC} {ch l r k x : Nat} {lb al gi : Int32} {d t m g : Nat} {as bs : List Nat} {es fs : List En} {e : En} (hc : hp[ch]? = some (.inr (3, [.ref d, .ref t, .ref m, .ref g, .int lb, .int al, .int gi]))) (hd0 : hp[d]? = some (.inr (10, [.ref l]))) (hr0 : hp[r]? = some (.inr (10, [.ref k]))) (hO : Own hp) (hL : hLs hp l as) (hK : hLs hp k bs) (hE : hEs hp as es) (hF : hEs hp bs fs) (hs : Srt es) (hsF : Srt fs) (hX : hEn hp x e) (hn : as.length ≤ 60000) : Me S 7 255 [.ref ch, .ref x, .ref r] hp (fun v hp' c s => v = none ∧ RSh hp l (bringE es fs (eP e)) hp' c s) := by
  obtain ⟨c, xf, hx, -, -, hxt⟩ := hX
  cases hf : findE fs (eP e) with
  | none =>
    refine At.go (q := xm255) rfl 2 (pc' := 2) (L' := [(0, .ref ch), (1, .ref x), (2, .ref r)]) (st' := [.ref x, .ref r]) rfl ?_
    refine At.gf rfl (by decide) hx rfl ?_
    refine At.go (q := xm255) rfl 1 (pc' := 6) (L' := [(0, .ref ch), (1, .ref x), (2, .ref r)]) (st' := [.ref x, .ref e.2.2.2.2.2, .ref r]) rfl ?_
    refine At.gf rfl (by decide) hx rfl ?_
    refine At.go (q := xm255) rfl 1 (pc' := 10) (L' := [(0, .ref ch), (1, .ref x), (2, .ref r)]) (st' := [.ref x, .int e.2.1, .ref e.2.2.2.2.2, .ref r]) rfl ?_
    refine At.gf rfl (by decide) hx rfl ?_
    refine At.clp (as := [.ref r, .ref e.2.2.2.2.2, .int e.2.1, .int e.2.2.1]) (rest := []) rfl (by decide) rfl (Nat.le_of_ble_eq_true rfl) (Nat.le_of_ble_eq_true rfl) (xrck_o (by decide) (by decide) hr0 (by decide)) (Nat.le_of_ble_eq_true rfl) ((m_find0 hr0 hK hF hsF (eP e) hxt hf)) ?_
    refine At.go (q := xm255) rfl 4 (pc' := 22) (L' := [(3, .null), (0, .ref ch), (1, .ref x), (2, .ref r)]) (st' := [.ref ch]) rfl ?_
    refine At.gf rfl (by decide) hc rfl ?_
    refine At.go (q := xm255) rfl 1 (pc' := 26) (L' := [(3, .null), (0, .ref ch), (1, .ref x), (2, .ref r)]) (st' := [.ref x, .ref d]) rfl ?_
    refine At.gf rfl (by decide) hx rfl ?_
    refine At.go (q := xm255) rfl 1 (pc' := 30) (L' := [(3, .null), (0, .ref ch), (1, .ref x), (2, .ref r)]) (st' := [.ref x, .ref e.2.2.2.2.2, .ref d]) rfl ?_
    refine At.gf rfl (by decide) hx rfl ?_
    refine At.go (q := xm255) rfl 1 (pc' := 34) (L' := [(3, .null), (0, .ref ch), (1, .ref x), (2, .ref r)]) (st' := [.ref x, .int e.2.1, .ref e.2.2.2.2.2, .ref d]) rfl ?_
    refine At.gf rfl (by decide) hx rfl ?_
    refine At.clm (as := [.ref d, .ref e.2.2.2.2.2, .int e.2.1, .int e.2.2.1]) (rest := []) rfl (by decide) rfl (Nat.le_of_ble_eq_true rfl) (Nat.le_of_ble_eq_true rfl) (xrck_o (by decide) (by decide) hd0 (by decide)) (Nat.le_of_ble_eq_true rfl) (m_take hd0 hL hE hs (eP e) hxt) (fun v hp1 c1 s1 hv => ?_)
    obtain ⟨rfl, k1⟩ := hv
    refine At.go (q := xm255) rfl 1 (pc' := 51) (L' := [(3, .null), (0, .ref ch), (1, .ref x), (2, .ref r)]) (st' := []) rfl ?_
    exact At.rt rfl rfl ⟨_, _, _, _, rfl, rfl, by rw [bring_n hf, Nat.zero_add, Nat.zero_add]; exact k1⟩
  | some f =>
    obtain ⟨w, hw0, hW, hq⟩ := m_find (S := S) hr0 hK hF hsF (eP e) hxt hf
    have hW9 := hW
    obtain ⟨c9, wf, hw, -, -, hwt⟩ := hW9
    refine At.go (q := xm255) rfl 2 (pc' := 2) (L' := [(0, .ref ch), (1, .ref x), (2, .ref r)]) (st' := [.ref x, .ref r]) rfl ?_
    refine At.gf rfl (by decide) hx rfl ?_
    refine At.go (q := xm255) rfl 1 (pc' := 6) (L' := [(0, .ref ch), (1, .ref x), (2, .ref r)]) (st' := [.ref x, .ref e.2.2.2.2.2, .ref r]) rfl ?_
    refine At.gf rfl (by decide) hx rfl ?_
    refine At.go (q := xm255) rfl 1 (pc' := 10) (L' := [(0, .ref ch), (1, .ref x), (2, .ref r)]) (st' := [.ref x, .int e.2.1, .ref e.2.2.2.2.2, .ref r]) rfl ?_
    refine At.gf rfl (by decide) hx rfl ?_
    refine At.clp (as := [.ref r, .ref e.2.2.2.2.2, .int e.2.1, .int e.2.2.1]) (rest := []) rfl (by decide) rfl (Nat.le_of_ble_eq_true rfl) (Nat.le_of_ble_eq_true rfl) (xrck_o (by decide) (by decide) hr0 (by decide)) (Nat.le_of_ble_eq_true rfl) (hq) ?_
    refine At.go (q := xm255) rfl 4 (pc' := 44) (L' := [(3, .ref w), (0, .ref ch), (1, .ref x), (2, .ref r)]) (st' := [.ref ch]) rfl ?_
    refine At.gf rfl (by decide) hc rfl ?_
    refine At.go (q := xm255) rfl 1 (pc' := 48) (L' := [(3, .ref w), (0, .ref ch), (1, .ref x), (2, .ref r)]) (st' := [.ref w, .ref d]) rfl ?_
    refine At.clm (as := [.ref d, .ref w]) (rest := []) rfl (by decide) rfl (Nat.le_of_ble_eq_true rfl) (Nat.le_of_ble_eq_true rfl) (xrck_o (by decide) (by decide) hd0 (by decide)) (Nat.le_of_ble_eq_true rfl) (m_store hd0 hO hL hE hs hW hn) (fun v hp1 c1 s1 hv => ?_)
    obtain ⟨rfl, k1⟩ := hv
    exact At.rt rfl rfl ⟨_, _, _, _, rfl, rfl, by rw [bring_s hf, Nat.zero_add, Nat.zero_add]; exact k1⟩
/-- start -/
theorem m_start {S : List Int32} {hp : List XC} {ch l r k : Nat} {lb al gi : Int32} {d t m g : Nat} {by_ : Int32} {as bs ts ms : List Nat} {fs : List En} (hc : hp[ch]? = some (.inr (3, [.ref d, .ref t, .ref m, .ref g, .int lb, .int al, .int gi]))) (hd0 : hp[d]? = some (.inr (10, [.ref l]))) (hr0 : hp[r]? = some (.inr (10, [.ref k]))) (hlk : l ≠ k) (hlt : ¬ l = t) (hlm : ¬ l = m) (htm : ¬ t = m) (hO : Own hp) (hL : hLs hp l as) (hK : hLs hp k bs) (hT : hLs hp t ts) (hM : hLs hp m ms) (hF : hEs hp bs fs) (hn : bs.length ≤ 60000) : Me S 9 176 [.ref ch, .ref r, .int by_] hp (fun v hp' c s => v = none ∧ FrX (fun x => x = ch ∨ x = l ∨ x = t ∨ x = m) hp hp' ∧ hp'[ch]? = some (.inr (3, [.ref d, .ref t, .ref m, .ref g, .int by_, .int 0, .int 0])) ∧ hSh hp' l fs ∧ hLs hp' t [] ∧ hLs hp' m [] ∧ c + capL hp l ≤ capL hp' l ∧ s + 4 * capL hp l ≤ 4 * capL hp' l ∧ capL hp' l ≤ max (capL hp l) (2 * fs.length + 10) ∧ capL hp' t = capL hp t ∧ capL hp' m = capL hp m) := by
  refine At.go (q := xm176) rfl 1 (pc' := 1) (L' := [(0, .ref ch), (1, .ref r), (2, .int by_)]) (st' := [.ref ch]) rfl ?_
  refine At.gf rfl (by decide) hc rfl ?_
  refine At.go (q := xm176) rfl 1 (pc' := 5) (L' := [(0, .ref ch), (1, .ref r), (2, .int by_)]) (st' := [.ref r, .ref d]) rfl ?_
  refine At.clm (as := [.ref d, .ref r]) (rest := []) rfl (by decide) rfl (Nat.le_of_ble_eq_true rfl) (Nat.le_of_ble_eq_true rfl) (xrck_o (by decide) (by decide) hd0 (by decide)) (Nat.le_of_ble_eq_true rfl) (m_fill hd0 hr0 hlk hO hL hK hF hn) (fun v hr1 c1 s1 hv => ?_)
  obtain ⟨rfl, k1, k2, k3, k4, k5⟩ := hv
  have hnl : ¬ l = ch := fun e => ob_ne hc (by decide) hL e.symm
  have hnt : ¬ t = ch := fun e => ob_ne hc (by decide) hT e.symm
  have hnm : ¬ m = ch := fun e => ob_ne hc (by decide) hM e.symm
  have hc1 := k1.ob hc (by decide) (fun e => hnl e.symm)
  have hO1 := k1.2.1 hO
  have hT1 := k1.ls (fun e => hlt e.symm) hO hT
  have hM1 := k1.ls (fun e => hlm e.symm) hO hM
  obtain ⟨tf, ht1⟩ := hT1.ob
  refine At.go (q := xm176) rfl 1 (pc' := 9) (L' := [(0, .ref ch), (1, .ref r), (2, .int by_)]) (st' := [.ref ch]) rfl ?_
  refine At.gf rfl (by decide) hc1 rfl ?_
  refine At.clm (as := [.ref t]) (rest := []) rfl (by decide) rfl (Nat.le_of_ble_eq_true rfl) (Nat.le_of_ble_eq_true rfl) (xrck_o (by decide) (by decide) ht1 (by decide)) (Nat.le_of_ble_eq_true rfl) (m_clear hT1) (fun v hr2 c2 s2 hv => ?_)
  obtain ⟨rfl, q1, q2, rfl, rfl, q3⟩ := hv
  have hc2 := q1.ob hc1 (by decide) (fun e => hnt e.symm)
  have hO2 := q1.2.1 hO1
  have hM2 := q1.ls (fun e => htm e.symm) hO1 hM1
  obtain ⟨mf, hm2⟩ := hM2.ob
  refine At.go (q := xm176) rfl 1 (pc' := 16) (L' := [(0, .ref ch), (1, .ref r), (2, .int by_)]) (st' := [.ref ch]) rfl ?_
  refine At.gf rfl (by decide) hc2 rfl ?_
  refine At.clm (as := [.ref m]) (rest := []) rfl (by decide) rfl (Nat.le_of_ble_eq_true rfl) (Nat.le_of_ble_eq_true rfl) (xrck_o (by decide) (by decide) hm2 (by decide)) (Nat.le_of_ble_eq_true rfl) (m_clear hM2) (fun v hr3 c3 s3 hv => ?_)
  obtain ⟨rfl, r1, r2, rfl, rfl, r3⟩ := hv
  have hc3 := r1.ob hc2 (by decide) (fun e => hnm e.symm)
  have hO3 := r1.2.1 hO2
  refine At.go (q := xm176) rfl 2 (pc' := 24) (L' := [(0, .ref ch), (1, .ref r), (2, .int by_)]) (st' := [.int by_, .ref ch]) rfl ?_
  refine At.pf rfl hc3 (Nat.le_of_ble_eq_true rfl) xfit_i ?_
  obtain ⟨hp1, ehp1⟩ : ∃ h, h = hr3.set ch (.inr (3, [.ref d, .ref t, .ref m, .ref g, .int by_, .int al, .int gi])) := ⟨_, rfl⟩
  refine At.hpe ehp1 ?_
  have fhp1_ch : hp1[ch]? = some (.inr (3, [.ref d, .ref t, .ref m, .ref g, .int by_, .int al, .int gi])) := by rw [ehp1]; exact xs_eq hc3
  have g1 : FrX (fun x => x = ch) hr3 hp1 := by rw [ehp1]; exact FrX.so hc3 (by decide) rfl (by decide)
  refine At.go (q := xm176) rfl 2 (pc' := 29) (L' := [(0, .ref ch), (1, .ref r), (2, .int by_)]) (st' := [.int 0, .ref ch]) rfl ?_
  refine At.pf rfl fhp1_ch (Nat.le_of_ble_eq_true rfl) rfl ?_
  obtain ⟨hp2, ehp2⟩ : ∃ h, h = hp1.set ch (.inr (3, [.ref d, .ref t, .ref m, .ref g, .int by_, .int 0, .int gi])) := ⟨_, rfl⟩
  refine At.hpe ehp2 ?_
  have fhp2_ch : hp2[ch]? = some (.inr (3, [.ref d, .ref t, .ref m, .ref g, .int by_, .int 0, .int gi])) := by rw [ehp2]; exact xs_eq fhp1_ch
  have g2 : FrX (fun x => x = ch) hp1 hp2 := by rw [ehp2]; exact FrX.so fhp1_ch (by decide) rfl (by decide)
  refine At.go (q := xm176) rfl 2 (pc' := 34) (L' := [(0, .ref ch), (1, .ref r), (2, .int by_)]) (st' := [.int 0, .ref ch]) rfl ?_
  refine At.pf rfl fhp2_ch (Nat.le_of_ble_eq_true rfl) rfl ?_
  obtain ⟨hp3, ehp3⟩ : ∃ h, h = hp2.set ch (.inr (3, [.ref d, .ref t, .ref m, .ref g, .int by_, .int 0, .int 0])) := ⟨_, rfl⟩
  refine At.hpe ehp3 ?_
  have fhp3_ch : hp3[ch]? = some (.inr (3, [.ref d, .ref t, .ref m, .ref g, .int by_, .int 0, .int 0])) := by rw [ehp3]; exact xs_eq fhp2_ch
  have g3 : FrX (fun x => x = ch) hp2 hp3 := by rw [ehp3]; exact FrX.so fhp2_ch (by decide) rfl (by decide)
  have gg : FrX (fun x => x = ch) hr3 hp3 := FrX.tr (FrX.tr g1 g2 (fun x hx => Or.inl hx)) g3 (fun x hx => Or.inl hx)
  have hfr : FrX (fun x => x = ch ∨ x = l ∨ x = t ∨ x = m) hp hp3 := FrX.tr (FrX.tr (FrX.tr (k1.mono (fun x _ h => Or.inr (Or.inl h))) q1 (fun x hx => Or.inl (Or.inr (Or.inr (Or.inl hx))))) r1 (fun x hx => Or.inl (Or.inr (Or.inr (Or.inr hx))))) gg (fun x hx => Or.inl (Or.inl hx))
  have hl2 : hSh hr3 l fs := hSh.fr (hSh.fr k2 q1 hO1 hlt) r1 hO2 hlm
  have e1 : capL hr3 l = capL hr1 l := by
    obtain ⟨xs, y1, -⟩ := k2
    exact (r1.cap hlm hO2 (q1.ls hlt hO1 y1)).trans (q1.cap hlt hO1 y1)
  have e2 : capL hp3 l = capL hr1 l := by
    obtain ⟨xs, y1, -⟩ := hl2
    exact (gg.cap hnl hO3 y1).trans e1
  have hT3 := r1.ls htm hO2 q2
  have e3 : capL hp3 t = capL hp t := (gg.cap hnt hO3 hT3).trans ((r1.cap htm hO2 q2).trans (q3.trans (k1.cap (fun e => hlt e.symm) hO hT)))
  have e4 : capL hp3 m = capL hp m := (gg.cap hnm hO3 r2).trans (r3.trans ((q1.cap (fun e => htm e.symm) hO1 hM1).trans (k1.cap (fun e => hlm e.symm) hO hM)))
  exact At.rt rfl rfl ⟨_, _, _, _, rfl, rfl, hfr, fhp3_ch, hSh.fr hl2 gg hO3 hnl, gg.ls hnt hO3 hT3, gg.ls hnm hO3 r2, by omega, by omega, by omega, e3, e4⟩
/-- make -/
theorem m_make {S : List Int32} {hp : List XC} {ch l x : Nat} {lb al gi : Int32} {d t m g : Nat} {as ta ma : List Nat} {es ts ms : List En} {e : En} (hc : hp[ch]? = some (.inr (3, [.ref d, .ref t, .ref m, .ref g, .int lb, .int al, .int gi]))) (hd0 : hp[d]? = some (.inr (10, [.ref l]))) (hlt : ¬ l = t) (hlm : ¬ l = m) (htm : ¬ t = m) (hO : Own hp) (hL : hLs hp l as) (hT : hLs hp t ta) (hM : hLs hp m ma) (hE : hEs hp as es) (hTs : hEs hp ta ts) (hMs : hEs hp ma ms) (hs : Srt es) (hX : hEn hp x e) (hn : as.length ≤ 60000) (hnT : ta.length ≤ 60000) (hnM : ma.length ≤ 60000) : Me S 7 182 [.ref ch, .ref x] hp (fun v hp' c s => v = none ∧ FrX (fun x => x = l ∨ x = t ∨ x = m) hp hp' ∧ hSh hp' l (storeE es e) ∧ hSh hp' t (ts ++ [e]) ∧ hSh hp' m (ms ++ [e]) ∧ capL hp l ≤ capL hp' l ∧ capL hp t ≤ capL hp' t ∧ capL hp m ≤ capL hp' m ∧ c + (capL hp l + capL hp t + capL hp m) ≤ capL hp' l + capL hp' t + capL hp' m ∧ s + 4 * (capL hp l + capL hp t + capL hp m) ≤ 4 * (capL hp' l + capL hp' t + capL hp' m) ∧ capL hp' l ≤ max (capL hp l) (2 * (storeE es e).length + 10) ∧ capL hp' t ≤ max (capL hp t) (2 * (ta.length + 1) + 10) ∧ capL hp' m ≤ max (capL hp m) (2 * (ma.length + 1) + 10)) := by
  refine At.go (q := xm182) rfl 1 (pc' := 1) (L' := [(0, .ref ch), (1, .ref x)]) (st' := [.ref ch]) rfl ?_
  refine At.gf rfl (by decide) hc rfl ?_
  refine At.go (q := xm182) rfl 1 (pc' := 5) (L' := [(0, .ref ch), (1, .ref x)]) (st' := [.ref x, .ref d]) rfl ?_
  refine At.clm (as := [.ref d, .ref x]) (rest := []) rfl (by decide) rfl (Nat.le_of_ble_eq_true rfl) (Nat.le_of_ble_eq_true rfl) (xrck_o (by decide) (by decide) hd0 (by decide)) (Nat.le_of_ble_eq_true rfl) (m_store hd0 hO hL hE hs hX hn) (fun v hr1 c1 s1 hv => ?_)
  obtain ⟨rfl, k1, k2, k3, k4, k5⟩ := hv
  have hnl : ¬ l = ch := fun e => ob_ne hc (by decide) hL e.symm
  have hnt : ¬ t = ch := fun e => ob_ne hc (by decide) hT e.symm
  have hnm : ¬ m = ch := fun e => ob_ne hc (by decide) hM e.symm
  have hc1 := k1.ob hc (by decide) (fun e => hnl e.symm)
  have hO1 := k1.2.1 hO
  have hT1 := k1.ls (fun e => hlt e.symm) hO hT
  have hM1 := k1.ls (fun e => hlm e.symm) hO hM
  have eT := k1.cap (fun e => hlt e.symm) hO hT
  have eM := k1.cap (fun e => hlm e.symm) hO hM
  obtain ⟨tf, ht1⟩ := hT1.ob
  refine At.go (q := xm182) rfl 1 (pc' := 9) (L' := [(0, .ref ch), (1, .ref x)]) (st' := [.ref ch]) rfl ?_
  refine At.gf rfl (by decide) hc1 rfl ?_
  refine At.go (q := xm182) rfl 1 (pc' := 13) (L' := [(0, .ref ch), (1, .ref x)]) (st' := [.ref x, .ref t]) rfl ?_
  refine At.clm (as := [.ref t, .ref x]) (rest := []) rfl (by decide) rfl (Nat.le_of_ble_eq_true rfl) (Nat.le_of_ble_eq_true rfl) (xrck_o (by decide) (by decide) ht1 (by decide)) (Nat.le_of_ble_eq_true rfl) (m_add hO1 hT1 (hX.fr k1).ob hnT) (fun v hr2 c2 s2 hv => ?_)
  obtain ⟨rfl, q1, q2, q3, q4, q5⟩ := hv
  have hc2 := q1.ob hc1 (by decide) (fun e => hnt e.symm)
  have hO2 := q1.2.1 hO1
  have hM2 := q1.ls (fun e => htm e.symm) hO1 hM1
  have eM2 := q1.cap (fun e => htm e.symm) hO1 hM1
  obtain ⟨mf, hm2⟩ := hM2.ob
  refine At.go (q := xm182) rfl 2 (pc' := 18) (L' := [(0, .ref ch), (1, .ref x)]) (st' := [.ref ch]) rfl ?_
  refine At.gf rfl (by decide) hc2 rfl ?_
  refine At.go (q := xm182) rfl 1 (pc' := 22) (L' := [(0, .ref ch), (1, .ref x)]) (st' := [.ref x, .ref m]) rfl ?_
  refine At.clm (as := [.ref m, .ref x]) (rest := []) rfl (by decide) rfl (Nat.le_of_ble_eq_true rfl) (Nat.le_of_ble_eq_true rfl) (xrck_o (by decide) (by decide) hm2 (by decide)) (Nat.le_of_ble_eq_true rfl) (m_add hO2 hM2 ((hX.fr k1).fr q1).ob hnM) (fun v hr3 c3 s3 hv => ?_)
  obtain ⟨rfl, r1, r2, r3, r4, r5⟩ := hv
  refine At.go (q := xm182) rfl 1 (pc' := 26) (L' := [(0, .ref ch), (1, .ref x)]) (st' := []) rfl ?_
  have hfr : FrX (fun x => x = l ∨ x = t ∨ x = m) hp hr3 := FrX.tr (FrX.tr (k1.mono (fun x _ h => Or.inl h)) q1 (fun x hx => Or.inl (Or.inr (Or.inl hx)))) r1 (fun x hx => Or.inl (Or.inr (Or.inr hx)))
  have e1 : capL hr3 l = capL hr1 l := by
    obtain ⟨xs, y1, -⟩ := k2
    exact (r1.cap hlm hO2 (q1.ls hlt hO1 y1)).trans (q1.cap hlt hO1 y1)
  have e2 := r1.cap htm hO2 q2
  rw [List.length_append, List.length_singleton] at q5 r5
  exact At.rt rfl rfl ⟨_, _, _, _, rfl, rfl, hfr, hSh.fr (hSh.fr k2 q1 hO1 hlt) r1 hO2 hlm, ⟨_, r1.ls htm hO2 q2, (hTs.fr hfr).app (hEs.one (hX.fr hfr))⟩, ⟨_, r2, (hMs.fr hfr).app (hEs.one (hX.fr hfr))⟩, by omega, by omega, by omega, by omega, by omega, by omega, by omega, by omega⟩
