/-! changes: cut (written by wip/p27/c78.py) -/
/-- the veil that a cut leaves -/
def veilE (e : En) (lb : Int32) : En := (e.1, e.2.1, lb, true, [], e.2.2.2.2.2)
def tkE (es : List En) (e : En) (lb : Int32) : List En := takeE es (e.1, e.2.1, lb)
/-- the entries after a cut -/
def cutE (es : List En) (e : En) (lb : Int32) : List En := if hasChE (tkE es e lb) e.1 e.2.1 lb = true then storeE (tkE es e lb) (veilE e lb) else tkE es e lb
/-- what a cut touches -/
def cutT (es : List En) (e : En) (lb : Int32) : List En := if hasChE (tkE es e lb) e.1 e.2.1 lb = true then [veilE e lb] else (findE es (e.1, e.2.1, lb)).toList
theorem tk_none {es : List En} {e : En} {lb : Int32} (h : findE es (e.1, e.2.1, lb) = none) : tkE es e lb = es := List.filter_eq_self.mpr (fun f hf => decide_eq_true (fun q => List.find?_eq_none.mp h f hf (decide_eq_true q)))
def CutR (hp : List XC) (l t : Nat) (es ts : List En) (nc ns : Nat) : XO → Prop := fun o => ∃ hp' c s, o = .inl (none, hp', c, s) ∧ FrX (fun x => x = l ∨ x = t) hp hp' ∧ hSh hp' l es ∧ hSh hp' t ts ∧ capL hp l ≤ capL hp' l ∧ capL hp t ≤ capL hp' t ∧ c + (capL hp l + capL hp t) ≤ nc + 2 + (capL hp' l + capL hp' t) ∧ s + 4 * (capL hp l + capL hp t) ≤ ns + 5 + 4 * (capL hp' l + capL hp' t) ∧ capL hp' l ≤ max (capL hp l) (2 * es.length + 10) ∧ capL hp' t ≤ max (capL hp t) (2 * ts.length + 10)
theorem cut_c {S : List Int32} {hp : List XC} {ch l x nc ns : Nat} {lb al gi : Int32} {d t m g : Nat} {as ta : List Nat} {es ts : List En} {e : En} (hc : hp[ch]? = some (.inr (3, [.ref d, .ref t, .ref m, .ref g, .int lb, .int al, .int gi]))) (hd0 : hp[d]? = some (.inr (10, [.ref l]))) (hlt : ¬ l = t) (hO : Own hp) (hL : hLs hp l as) (hT : hLs hp t ta) (hE : hEs hp as es) (hTs : hEs hp ta ts) (hs : Srt es) (hX : hEn hp x e) (hnT : ta.length ≤ 60000) (hn : as.length ≤ 60000) {tw : Value} (hq : hasChE es e.1 e.2.1 lb = true) : At S 7 195 43 [(2, tw), (0, .ref ch), (1, .ref x)] [] hp nc ns (CutR hp l t (storeE es (veilE e lb)) (ts ++ [veilE e lb]) nc ns) := by
  have hX9 := hX
  obtain ⟨c, xf, hx, -, -, hxt⟩ := hX9
  have hz := m_hasChosen (S := S) (lb := lb) (k := e.2.1) hd0 hL hE hxt hs
  rw [hq] at hz
  obtain ⟨tf, ht0⟩ := hT.ob
  refine At.go (q := xm195) rfl 1 (pc' := 44) (L' := [(2, tw), (0, .ref ch), (1, .ref x)]) (st' := [.ref ch]) rfl ?_
  refine At.gf rfl (by decide) hc rfl ?_
  refine At.go (q := xm195) rfl 1 (pc' := 48) (L' := [(2, tw), (0, .ref ch), (1, .ref x)]) (st' := [.ref x, .ref d]) rfl ?_
  refine At.gf rfl (by decide) hx rfl ?_
  refine At.go (q := xm195) rfl 1 (pc' := 52) (L' := [(2, tw), (0, .ref ch), (1, .ref x)]) (st' := [.ref x, .ref e.2.2.2.2.2, .ref d]) rfl ?_
  refine At.gf rfl (by decide) hx rfl ?_
  refine At.go (q := xm195) rfl 1 (pc' := 56) (L' := [(2, tw), (0, .ref ch), (1, .ref x)]) (st' := [.ref ch, .int e.2.1, .ref e.2.2.2.2.2, .ref d]) rfl ?_
  refine At.gf rfl (by decide) hc rfl ?_
  refine At.clp (as := [.ref d, .ref e.2.2.2.2.2, .int e.2.1, .int lb]) (rest := []) rfl (by decide) rfl (Nat.le_of_ble_eq_true rfl) (Nat.le_of_ble_eq_true rfl) (xrck_o (by decide) (by decide) hd0 (by decide)) (Nat.le_of_ble_eq_true rfl) (hz) ?_
  refine At.go (q := xm195) rfl 1 (pc' := 65) (L' := [(2, tw), (0, .ref ch), (1, .ref x)]) (st' := []) rfl ?_
  refine At.nw (ci := 4) rfl ?_
  obtain ⟨hn1, ehn1⟩ : ∃ h, h = hp ++ [.inr (4, [.null, .int 0, .int 0, .int 0, .null])] := ⟨_, rfl⟩
  refine At.hpe ehn1 ?_
  have n1 : FrX (fun _ => False) hp hn1 := by rw [ehn1]; exact FrX.nw (fun a n e h => by cases h)
  have hx1 := n1.ob hx (by decide) (fun h => h)
  have hc1 := n1.ob hc (by decide) (fun h => h)
  have hw1 : hn1[hp.length]? = some (.inr (4, [.null, .int 0, .int 0, .int 0, .null])) := by rw [ehn1]; exact List.getElem?_concat_length
  refine At.go (q := xm195) rfl 2 (pc' := 70) (L' := [(2, tw), (0, .ref ch), (1, .ref x)]) (st' := [.ref x, .ref hp.length, .ref hp.length]) rfl ?_
  refine At.gf rfl (by decide) hx1 rfl ?_
  refine At.go (q := xm195) rfl 1 (pc' := 74) (L' := [(2, tw), (0, .ref ch), (1, .ref x)]) (st' := [.ref x, .ref e.2.2.2.2.2, .ref hp.length, .ref hp.length]) rfl ?_
  refine At.gf rfl (by decide) hx1 rfl ?_
  refine At.go (q := xm195) rfl 1 (pc' := 78) (L' := [(2, tw), (0, .ref ch), (1, .ref x)]) (st' := [.ref ch, .int e.2.1, .ref e.2.2.2.2.2, .ref hp.length, .ref hp.length]) rfl ?_
  refine At.gf rfl (by decide) hc1 rfl ?_
  refine At.go (q := xm195) rfl 2 (pc' := 83) (L' := [(2, tw), (0, .ref ch), (1, .ref x)]) (st' := [.int 0, .int 1, .int lb, .int e.2.1, .ref e.2.2.2.2.2, .ref hp.length, .ref hp.length]) rfl ?_
  refine At.na (t := 24) rfl (by decide) (by decide) (by decide) ?_
  obtain ⟨hn2, ehn2⟩ : ∃ h, h = hn1 ++ [.inl (24, [])] := ⟨_, rfl⟩
  refine At.hpe ehn2 ?_
  have n2 : FrX (fun _ => False) hn1 hn2 := by rw [ehn2]; exact FrX.nw (fun a n e h => by cases h)
  have hw2 := n2.ob hw1 (by decide) (fun h => h)
  have ha2 : hn2[hn1.length]? = some (.inl (24, [])) := by rw [ehn2]; exact List.getElem?_concat_length
  refine At.clm (as := [.ref hp.length, .ref e.2.2.2.2.2, .int e.2.1, .int lb, .int 1, .ref hn1.length]) (rest := [.ref hp.length]) rfl (by decide) rfl (Nat.le_of_ble_eq_true rfl) (Nat.le_of_ble_eq_true rfl) rfl (Nat.le_of_ble_eq_true rfl) (m_entry (S := S) (tb := e.2.2.2.2.2) (k := e.2.1) (l := lb) (vb := true) (c := hn1.length) hw2) (fun v hn3 c1 s1 hv => ?_)
  obtain ⟨rfl, e3, rfl, rfl⟩ := hv
  have e4 : hn3 = (hp ++ [.inr (4, [.ref e.2.2.2.2.2, .int e.2.1, .int lb, bv true, .ref hn1.length])]) ++ [.inl (24, [])] := by
    rw [e3, ehn2, List.set_append_left _ _ (by rw [ehn1, List.length_append, List.length_singleton]; omega)]
    conv => lhs; arg 1; rw [ehn1]
    rw [List.set_append_right _ _ (Nat.le_refl _), Nat.sub_self]
    try rw [ehn1]
    try rfl
  have n3 : FrX (fun _ => False) hp hn3 := by rw [e4]; exact FrX.tr (P := fun _ => False) (Q := fun _ => False) (FrX.nw (fun a n e h => by cases h)) (FrX.nw (fun a n e h => by cases h)) (fun x (hx : False) => hx.elim)
  have hw3 : hn3[hp.length]? = some (.inr (4, [.ref e.2.2.2.2.2, .int e.2.1, .int lb, bv true, .ref hn1.length])) := by rw [e3]; exact xs_eq hw2
  have ha3 : hn3[hn1.length]? = some (.inl (24, [])) := by rw [e3]; exact xs_ne (xn_ra hw2 ha2) ha2
  obtain ⟨c5, f5, -, -, -, ht5⟩ := hX.fr n3
  have hV : hEn hn3 hp.length (veilE e lb) := ⟨hn1.length, f5, hw3, ha3, Nat.zero_le _, ht5⟩
  have hc3 := n3.ob hc (by decide) (fun h => h)
  have hd3 := n3.ob hd0 (by decide) (fun h => h)
  have hO3 := n3.2.1 hO
  have hL3 := n3.ls (fun h => h) hO hL
  have hT3 := n3.ls (fun h => h) hO hT
  have eL := n3.cap (fun h => h) hO hL
  have eT := n3.cap (fun h => h) hO hT
  have hdl : (xDF 4).length = 5 := rfl
  have hd9 : (0 : Int32).toNatClampNeg = 0 := by decide
  refine At.go (q := xm195) rfl 2 (pc' := 90) (L' := [(2, .ref hp.length), (0, .ref ch), (1, .ref x)]) (st' := [.ref ch]) rfl ?_
  refine At.gf rfl (by decide) hc3 rfl ?_
  refine At.go (q := xm195) rfl 1 (pc' := 94) (L' := [(2, .ref hp.length), (0, .ref ch), (1, .ref x)]) (st' := [.ref hp.length, .ref d]) rfl ?_
  refine At.clm (as := [.ref d, .ref hp.length]) (rest := []) rfl (by decide) rfl (Nat.le_of_ble_eq_true rfl) (Nat.le_of_ble_eq_true rfl) (xrck_o (by decide) (by decide) hd3 (by decide)) (Nat.le_of_ble_eq_true rfl) (m_store hd3 hO3 hL3 (hE.fr n3) hs hV hn) (fun v hr1 c1 s1 hv => ?_)
  obtain ⟨rfl, k1, k2, k3, k4, k5⟩ := hv
  have hc4 := k1.ob hc3 (by decide) (ob_ne hc3 (by decide) hL3)
  have hO4 := k1.2.1 hO3
  have hT4 := k1.ls (fun e => hlt e.symm) hO3 hT3
  have eT4 := k1.cap (fun e => hlt e.symm) hO3 hT3
  obtain ⟨tf4, ht4⟩ := hT4.ob
  refine At.go (q := xm195) rfl 3 (pc' := 102) (L' := [(2, .ref hp.length), (0, .ref ch), (1, .ref x)]) (st' := [.ref ch]) rfl ?_
  refine At.gf rfl (by decide) hc4 rfl ?_
  refine At.go (q := xm195) rfl 1 (pc' := 106) (L' := [(2, .ref hp.length), (0, .ref ch), (1, .ref x)]) (st' := [.ref hp.length, .ref t]) rfl ?_
  refine At.clm (as := [.ref t, .ref hp.length]) (rest := []) rfl (by decide) rfl (Nat.le_of_ble_eq_true rfl) (Nat.le_of_ble_eq_true rfl) (xrck_o (by decide) (by decide) ht4 (by decide)) (Nat.le_of_ble_eq_true rfl) (m_add hO4 hT4 (hV.fr k1).ob hnT) (fun v hr2 c2 s2 hv => ?_)
  obtain ⟨rfl, q1, q2, q3, q4, q5⟩ := hv
  refine At.go (q := xm195) rfl 1 (pc' := 110) (L' := [(2, .ref hp.length), (0, .ref ch), (1, .ref x)]) (st' := []) rfl ?_
  have f1 : FrX (fun x => x = l ∨ x = t) hp hr1 := FrX.tr (n3.mono (fun x _ h => h.elim)) k1 (fun x hx => Or.inl (Or.inl hx))
  have f2 : FrX (fun x => x = l ∨ x = t) hp hr2 := FrX.tr f1 q1 (fun x hx => Or.inl (Or.inr hx))
  have e9 : capL hr2 l = capL hr1 l := by
    obtain ⟨xs, y1, -⟩ := k2
    exact q1.cap hlt hO4 y1
  have hl9 := hTs.1
  have hl8 : (ts ++ [veilE e lb]).length = ta.length + 1 := by rw [List.length_append, List.length_singleton, hl9]
  rw [List.length_append, List.length_singleton] at q5
  exact At.rt rfl rfl ⟨_, _, _, rfl, f2, hSh.fr k2 q1 hO4 hlt, ⟨_, q2, (hTs.fr f2).app (hEs.one ((hV.fr k1).fr q1))⟩, by omega, by omega, by omega, by omega, by omega, by omega⟩
theorem cut_n {S : List Int32} {hp : List XC} {ch l x nc ns : Nat} {lb al gi : Int32} {d t m g : Nat} {as ta : List Nat} {es ts : List En} {e : En} (hc : hp[ch]? = some (.inr (3, [.ref d, .ref t, .ref m, .ref g, .int lb, .int al, .int gi]))) (hd0 : hp[d]? = some (.inr (10, [.ref l]))) (hlt : ¬ l = t) (hO : Own hp) (hL : hLs hp l as) (hT : hLs hp t ta) (hE : hEs hp as es) (hTs : hEs hp ta ts) (hs : Srt es) (hX : hEn hp x e) (hnT : ta.length ≤ 60000) (hq : hasChE es e.1 e.2.1 lb = false) : At S 7 195 43 [(2, .null), (0, .ref ch), (1, .ref x)] [] hp nc ns (CutR hp l t es ts nc ns) := by
  have hX9 := hX
  obtain ⟨c, xf, hx, -, -, hxt⟩ := hX9
  have hz := m_hasChosen (S := S) (lb := lb) (k := e.2.1) hd0 hL hE hxt hs
  rw [hq] at hz
  obtain ⟨tf, ht0⟩ := hT.ob
  refine At.go (q := xm195) rfl 1 (pc' := 44) (L' := [(2, .null), (0, .ref ch), (1, .ref x)]) (st' := [.ref ch]) rfl ?_
  refine At.gf rfl (by decide) hc rfl ?_
  refine At.go (q := xm195) rfl 1 (pc' := 48) (L' := [(2, .null), (0, .ref ch), (1, .ref x)]) (st' := [.ref x, .ref d]) rfl ?_
  refine At.gf rfl (by decide) hx rfl ?_
  refine At.go (q := xm195) rfl 1 (pc' := 52) (L' := [(2, .null), (0, .ref ch), (1, .ref x)]) (st' := [.ref x, .ref e.2.2.2.2.2, .ref d]) rfl ?_
  refine At.gf rfl (by decide) hx rfl ?_
  refine At.go (q := xm195) rfl 1 (pc' := 56) (L' := [(2, .null), (0, .ref ch), (1, .ref x)]) (st' := [.ref ch, .int e.2.1, .ref e.2.2.2.2.2, .ref d]) rfl ?_
  refine At.gf rfl (by decide) hc rfl ?_
  refine At.clp (as := [.ref d, .ref e.2.2.2.2.2, .int e.2.1, .int lb]) (rest := []) rfl (by decide) rfl (Nat.le_of_ble_eq_true rfl) (Nat.le_of_ble_eq_true rfl) (xrck_o (by decide) (by decide) hd0 (by decide)) (Nat.le_of_ble_eq_true rfl) (hz) ?_
  refine At.go (q := xm195) rfl 3 (pc' := 110) (L' := [(2, .null), (0, .ref ch), (1, .ref x)]) (st' := []) rfl ?_
  exact At.rt rfl rfl ⟨hp, nc, ns, rfl, FrX.rf, ⟨_, hL, hE⟩, ⟨_, hT, hTs⟩, by omega, by omega, by omega, by omega, by omega, by omega⟩
theorem cut_w {S : List Int32} {hp : List XC} {ch l x nc ns : Nat} {lb al gi : Int32} {d t m g : Nat} {as ta : List Nat} {es ts : List En} {e : En} (hc : hp[ch]? = some (.inr (3, [.ref d, .ref t, .ref m, .ref g, .int lb, .int al, .int gi]))) (hd0 : hp[d]? = some (.inr (10, [.ref l]))) (hlt : ¬ l = t) (hO : Own hp) (hL : hLs hp l as) (hT : hLs hp t ta) (hE : hEs hp as es) (hTs : hEs hp ta ts) (hs : Srt es) (hX : hEn hp x e) (hnT : ta.length ≤ 60000) {w : Nat} {f : En} (hW : hEn hp w f) (hq : hasChE es e.1 e.2.1 lb = false) : At S 7 195 43 [(2, .ref w), (0, .ref ch), (1, .ref x)] [] hp nc ns (CutR hp l t es (ts ++ [f]) nc ns) := by
  have hX9 := hX
  obtain ⟨c, xf, hx, -, -, hxt⟩ := hX9
  have hz := m_hasChosen (S := S) (lb := lb) (k := e.2.1) hd0 hL hE hxt hs
  rw [hq] at hz
  obtain ⟨tf, ht0⟩ := hT.ob
  refine At.go (q := xm195) rfl 1 (pc' := 44) (L' := [(2, .ref w), (0, .ref ch), (1, .ref x)]) (st' := [.ref ch]) rfl ?_
  refine At.gf rfl (by decide) hc rfl ?_
  refine At.go (q := xm195) rfl 1 (pc' := 48) (L' := [(2, .ref w), (0, .ref ch), (1, .ref x)]) (st' := [.ref x, .ref d]) rfl ?_
  refine At.gf rfl (by decide) hx rfl ?_
  refine At.go (q := xm195) rfl 1 (pc' := 52) (L' := [(2, .ref w), (0, .ref ch), (1, .ref x)]) (st' := [.ref x, .ref e.2.2.2.2.2, .ref d]) rfl ?_
  refine At.gf rfl (by decide) hx rfl ?_
  refine At.go (q := xm195) rfl 1 (pc' := 56) (L' := [(2, .ref w), (0, .ref ch), (1, .ref x)]) (st' := [.ref ch, .int e.2.1, .ref e.2.2.2.2.2, .ref d]) rfl ?_
  refine At.gf rfl (by decide) hc rfl ?_
  refine At.clp (as := [.ref d, .ref e.2.2.2.2.2, .int e.2.1, .int lb]) (rest := []) rfl (by decide) rfl (Nat.le_of_ble_eq_true rfl) (Nat.le_of_ble_eq_true rfl) (xrck_o (by decide) (by decide) hd0 (by decide)) (Nat.le_of_ble_eq_true rfl) (hz) ?_
  refine At.go (q := xm195) rfl 4 (pc' := 102) (L' := [(2, .ref w), (0, .ref ch), (1, .ref x)]) (st' := [.ref ch]) rfl ?_
  refine At.gf rfl (by decide) hc rfl ?_
  refine At.go (q := xm195) rfl 1 (pc' := 106) (L' := [(2, .ref w), (0, .ref ch), (1, .ref x)]) (st' := [.ref w, .ref t]) rfl ?_
  refine At.clm (as := [.ref t, .ref w]) (rest := []) rfl (by decide) rfl (Nat.le_of_ble_eq_true rfl) (Nat.le_of_ble_eq_true rfl) (xrck_o (by decide) (by decide) ht0 (by decide)) (Nat.le_of_ble_eq_true rfl) (m_add hO hT hW.ob hnT) (fun v hr2 c2 s2 hv => ?_)
  obtain ⟨rfl, q1, q2, q3, q4, q5⟩ := hv
  refine At.go (q := xm195) rfl 1 (pc' := 110) (L' := [(2, .ref w), (0, .ref ch), (1, .ref x)]) (st' := []) rfl ?_
  have f2 : FrX (fun x => x = l ∨ x = t) hp hr2 := q1.mono (fun x _ h => Or.inr h)
  have e9 := q1.cap hlt hO hL
  have hl9 := hTs.1
  have hl8 : (ts ++ [f]).length = ta.length + 1 := by rw [List.length_append, List.length_singleton, hl9]
  rw [List.length_append, List.length_singleton] at q5
  exact At.rt rfl rfl ⟨_, _, _, rfl, f2, ⟨_, q1.ls hlt hO hL, hE.fr q1⟩, ⟨_, q2, (hTs.fr q1).app (hEs.one (hW.fr q1))⟩, by omega, by omega, by omega, by omega, by omega, by omega⟩
/-- cut -/
theorem m_cut {S : List Int32} {hp : List XC} {ch l x : Nat} {lb al gi : Int32} {d t m g : Nat} {as ta : List Nat} {es ts : List En} {e : En} (hc : hp[ch]? = some (.inr (3, [.ref d, .ref t, .ref m, .ref g, .int lb, .int al, .int gi]))) (hd0 : hp[d]? = some (.inr (10, [.ref l]))) (hlt : ¬ l = t) (hO : Own hp) (hL : hLs hp l as) (hT : hLs hp t ta) (hE : hEs hp as es) (hTs : hEs hp ta ts) (hs : Srt es) (hX : hEn hp x e) (hnT : ta.length ≤ 60000) (hn : as.length ≤ 60000) : Me S 8 195 [.ref ch, .ref x] hp (fun v hp' c s => v = none ∧ FrX (fun x => x = l ∨ x = t) hp hp' ∧ hSh hp' l (cutE es e lb) ∧ hSh hp' t (ts ++ cutT es e lb) ∧ capL hp l ≤ capL hp' l ∧ capL hp t ≤ capL hp' t ∧ c + (capL hp l + capL hp t) ≤ 2 + (capL hp' l + capL hp' t) ∧ s + 4 * (capL hp l + capL hp t) ≤ 5 + 4 * (capL hp' l + capL hp' t) ∧ capL hp' l ≤ max (capL hp l) (2 * ((cutE es e lb).length + es.length) + 10) ∧ capL hp' t ≤ max (capL hp t) (2 * (ts ++ cutT es e lb).length + 10)) := by
  have hX9 := hX
  obtain ⟨c, xf, hx, -, -, hxt⟩ := hX9
  cases hf : findE es (e.1, e.2.1, lb) with
  | none =>
    refine At.go (q := xm195) rfl 1 (pc' := 1) (L' := [(0, .ref ch), (1, .ref x)]) (st' := [.ref ch]) rfl ?_
    refine At.gf rfl (by decide) hc rfl ?_
    refine At.go (q := xm195) rfl 1 (pc' := 5) (L' := [(0, .ref ch), (1, .ref x)]) (st' := [.ref x, .ref d]) rfl ?_
    refine At.gf rfl (by decide) hx rfl ?_
    refine At.go (q := xm195) rfl 1 (pc' := 9) (L' := [(0, .ref ch), (1, .ref x)]) (st' := [.ref x, .ref e.2.2.2.2.2, .ref d]) rfl ?_
    refine At.gf rfl (by decide) hx rfl ?_
    refine At.go (q := xm195) rfl 1 (pc' := 13) (L' := [(0, .ref ch), (1, .ref x)]) (st' := [.ref ch, .int e.2.1, .ref e.2.2.2.2.2, .ref d]) rfl ?_
    refine At.gf rfl (by decide) hc rfl ?_
    refine At.clp (as := [.ref d, .ref e.2.2.2.2.2, .int e.2.1, .int lb]) (rest := []) rfl (by decide) rfl (Nat.le_of_ble_eq_true rfl) (Nat.le_of_ble_eq_true rfl) (xrck_o (by decide) (by decide) hd0 (by decide)) (Nat.le_of_ble_eq_true rfl) ((m_find0 hd0 hL hE hs (e.1, e.2.1, lb) hxt hf)) ?_
    refine At.go (q := xm195) rfl 3 (pc' := 43) (L' := [(2, .null), (0, .ref ch), (1, .ref x)]) (st' := []) rfl ?_
    refine At.wk (L' := [(2, .null), (0, .ref ch), (1, .ref x)]) (List.forall_mem_cons.mpr ⟨List.mem_of_getElem? (i := 0) rfl, (List.forall_mem_cons.mpr ⟨List.mem_of_getElem? (i := 1) rfl, (List.forall_mem_cons.mpr ⟨List.mem_of_getElem? (i := 2) rfl, (fun _ h => (List.not_mem_nil h).elim)⟩)⟩)⟩) (show ([2, 0, 1] : List Nat).Nodup by decide) ?_
    have tk : tkE es e lb = es := tk_none hf
    cases hq : hasChE es e.1 e.2.1 lb with
    | true =>
      refine At.mono ((cut_c hc hd0 hlt hO hL hT hE hTs hs hX hnT hn hq).deep (by decide)) (fun o h => ?_)
      obtain ⟨hp', c9, s9, h1, h2, h3, h4, h5, h6, h7, h8, h9, h10⟩ := h
      have w1 : cutE es e lb = storeE es (veilE e lb) := by unfold cutE; rw [tk]; exact if_pos hq
      have w2 : cutT es e lb = [veilE e lb] := by unfold cutT; rw [tk]; exact if_pos hq
      exact ⟨_, _, _, _, h1, rfl, h2, by rw [w1]; exact h3, by rw [w2]; exact h4, by omega, by omega, by omega, by omega, by rw [w1]; omega, by rw [w2]; omega⟩
    | false =>
      refine At.mono ((cut_n hc hd0 hlt hO hL hT hE hTs hs hX hnT hq).deep (by decide)) (fun o h => ?_)
      obtain ⟨hp', c9, s9, h1, h2, h3, h4, h5, h6, h7, h8, h9, h10⟩ := h
      have w1 : cutE es e lb = es := by unfold cutE; rw [tk]; exact if_neg (by rw [hq]; decide)
      have w2 : cutT es e lb = [] := by unfold cutT; rw [tk]; rw [if_neg (by rw [hq]; decide), hf]; rfl
      exact ⟨_, _, _, _, h1, rfl, h2, by rw [w1]; exact h3, by rw [w2]; exact (List.append_nil ts).symm ▸ h4, by omega, by omega, by omega, by omega, by rw [w1]; omega, by rw [w2]; rw [List.append_nil]; omega⟩
  | some f =>
    obtain ⟨w, hw9, hW, hq1⟩ := m_find (S := S) hd0 hL hE hs (e.1, e.2.1, lb) hxt hf
    refine At.go (q := xm195) rfl 1 (pc' := 1) (L' := [(0, .ref ch), (1, .ref x)]) (st' := [.ref ch]) rfl ?_
    refine At.gf rfl (by decide) hc rfl ?_
    refine At.go (q := xm195) rfl 1 (pc' := 5) (L' := [(0, .ref ch), (1, .ref x)]) (st' := [.ref x, .ref d]) rfl ?_
    refine At.gf rfl (by decide) hx rfl ?_
    refine At.go (q := xm195) rfl 1 (pc' := 9) (L' := [(0, .ref ch), (1, .ref x)]) (st' := [.ref x, .ref e.2.2.2.2.2, .ref d]) rfl ?_
    refine At.gf rfl (by decide) hx rfl ?_
    refine At.go (q := xm195) rfl 1 (pc' := 13) (L' := [(0, .ref ch), (1, .ref x)]) (st' := [.ref ch, .int e.2.1, .ref e.2.2.2.2.2, .ref d]) rfl ?_
    refine At.gf rfl (by decide) hc rfl ?_
    refine At.clp (as := [.ref d, .ref e.2.2.2.2.2, .int e.2.1, .int lb]) (rest := []) rfl (by decide) rfl (Nat.le_of_ble_eq_true rfl) (Nat.le_of_ble_eq_true rfl) (xrck_o (by decide) (by decide) hd0 (by decide)) (Nat.le_of_ble_eq_true rfl) (hq1) ?_
    refine At.go (q := xm195) rfl 4 (pc' := 25) (L' := [(2, .ref w), (0, .ref ch), (1, .ref x)]) (st' := [.ref ch]) rfl ?_
    refine At.gf rfl (by decide) hc rfl ?_
    refine At.go (q := xm195) rfl 1 (pc' := 29) (L' := [(2, .ref w), (0, .ref ch), (1, .ref x)]) (st' := [.ref x, .ref d]) rfl ?_
    refine At.gf rfl (by decide) hx rfl ?_
    refine At.go (q := xm195) rfl 1 (pc' := 33) (L' := [(2, .ref w), (0, .ref ch), (1, .ref x)]) (st' := [.ref x, .ref e.2.2.2.2.2, .ref d]) rfl ?_
    refine At.gf rfl (by decide) hx rfl ?_
    refine At.go (q := xm195) rfl 1 (pc' := 37) (L' := [(2, .ref w), (0, .ref ch), (1, .ref x)]) (st' := [.ref ch, .int e.2.1, .ref e.2.2.2.2.2, .ref d]) rfl ?_
    refine At.gf rfl (by decide) hc rfl ?_
    refine At.clm (as := [.ref d, .ref e.2.2.2.2.2, .int e.2.1, .int lb]) (rest := []) rfl (by decide) rfl (Nat.le_of_ble_eq_true rfl) (Nat.le_of_ble_eq_true rfl) (xrck_o (by decide) (by decide) hd0 (by decide)) (Nat.le_of_ble_eq_true rfl) (m_take hd0 hL hE hs (e.1, e.2.1, lb) hxt) (fun v hr1 c1 s1 hv => ?_)
    obtain ⟨rfl, k1, ⟨a1, hL1, hE1⟩, k3, k4, k5⟩ := hv
    have hc1 := k1.ob hc (by decide) (ob_ne hc (by decide) hL)
    have hd1 := k1.ob hd0 (by decide) (ob_ne hd0 (by decide) hL)
    have hT1 := k1.ls (fun e => hlt e.symm) hO hT
    have eT1 := k1.cap (fun e => hlt e.symm) hO hT
    have hO1 := k1.2.1 hO
    have k6 : capL hr1 l ≤ max (capL hp l) (2 * (tkE es e lb).length + 10) := k5
    have hs1 : Srt (tkE es e lb) := hs.filter _
    have hl1 : a1.length ≤ 60000 := by have h1 := hE1.1; have h2 := hE.1; have h3 : (takeE es (e.1, e.2.1, lb)).length ≤ es.length := List.length_filter_le _ _; omega
    have hl2 : (tkE es e lb).length ≤ es.length := List.length_filter_le _ _
    refine At.wk (L' := [(2, .ref w), (0, .ref ch), (1, .ref x)]) (List.forall_mem_cons.mpr ⟨List.mem_of_getElem? (i := 0) rfl, (List.forall_mem_cons.mpr ⟨List.mem_of_getElem? (i := 1) rfl, (List.forall_mem_cons.mpr ⟨List.mem_of_getElem? (i := 2) rfl, (fun _ h => (List.not_mem_nil h).elim)⟩)⟩)⟩) (show ([2, 0, 1] : List Nat).Nodup by decide) ?_
    cases hq : hasChE (tkE es e lb) e.1 e.2.1 lb with
    | true =>
      refine At.mono ((cut_c (es := tkE es e lb) hc1 hd1 hlt hO1 hL1 hT1 hE1 (hTs.fr k1) hs1 (hX.fr k1) hnT hl1 hq).deep (by decide)) (fun o h => ?_)
      obtain ⟨hp', c9, s9, h1, h2, h3, h4, h5, h6, h7, h8, h9, h10⟩ := h
      have w1 : cutE es e lb = storeE (tkE es e lb) (veilE e lb) := if_pos hq
      have w2 : cutT es e lb = [veilE e lb] := if_pos hq
      exact ⟨_, _, _, _, h1, rfl, FrX.tr (k1.mono (fun x _ h => Or.inl h)) h2 (fun x hx => Or.inl hx), by rw [w1]; exact h3, by rw [w2]; exact h4, by omega, by omega, by omega, by omega, by rw [w1]; have w3 : es.length ≤ (storeE (tkE es e lb) (veilE e lb)).length + es.length := Nat.le_add_left _ _; omega, by rw [w2]; omega⟩
    | false =>
      refine At.mono ((cut_w (es := tkE es e lb) hc1 hd1 hlt hO1 hL1 hT1 hE1 (hTs.fr k1) hs1 (hX.fr k1) hnT (hW.fr k1) hq).deep (by decide)) (fun o h => ?_)
      obtain ⟨hp', c9, s9, h1, h2, h3, h4, h5, h6, h7, h8, h9, h10⟩ := h
      have w1 : cutE es e lb = tkE es e lb := if_neg (by rw [hq]; decide)
      have w2 : cutT es e lb = [f] := by unfold cutT; rw [if_neg (by rw [hq]; decide), hf]; rfl
      exact ⟨_, _, _, _, h1, rfl, FrX.tr (k1.mono (fun x _ h => Or.inl h)) h2 (fun x hx => Or.inl hx), by rw [w1]; exact h3, by rw [w2]; exact h4, by omega, by omega, by omega, by omega, by rw [w1]; have w3 : es.length ≤ (tkE es e lb).length + es.length := Nat.le_add_left _ _; omega, by rw [w2]; omega⟩
