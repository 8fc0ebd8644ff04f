/-! a new row is made and kept by a change -/
/-- what a change holds after a row was made -/
def MkR (hb hp' : List XC) (l t m : Nat) (es ts ms : List En) (c s : Nat) : Prop := FrX (fun x => x = l ∨ x = t ∨ x = m) hb hp' ∧ hSh hp' l es ∧ hSh hp' t ts ∧ hSh hp' m ms ∧ capL hb l ≤ capL hp' l ∧ capL hb t ≤ capL hp' t ∧ capL hb m ≤ capL hp' m ∧ c + (capL hb l + capL hb t + capL hb m) ≤ capL hp' l + capL hp' t + capL hp' m ∧ s + 4 * (capL hb l + capL hb t + capL hb m) ≤ 4 * (capL hp' l + capL hp' t + capL hp' m) ∧ capL hp' l ≤ max (capL hb l) (2 * es.length + 10) ∧ capL hp' t ≤ max (capL hb t) (2 * ts.length + 10) ∧ capL hp' m ≤ max (capL hb m) (2 * ms.length + 10)
theorem mk_row {S : List Int32} {hb : List XC} {y pc ch l tb cc d t m g nc ns : Nat} {lb al gi sr key lb2 : Int32} {as ta ma : List Nat} {es ts ms : List En} {cs : List Int32} {tf : List Value} {L : List (Nat × Value)} {rest : List Value} {Q : XO → Prop} {i1 i2 : Instr} {v1 v2 : Value} {xs1 : List Nat}
    (hC1 : xmC (xMT y) pc = some (32, i1, 181, 6, v1, xs1)) (hC2 : xmC (xMT y) (pc + 3) = some (30, i2, 182, 2, v2, [3])) (hc : hb[ch]? = some (.inr (3, [.ref d, .ref t, .ref m, .ref g, .int lb, .int al, .int gi]))) (hd0 : hb[d]? = some (.inr (10, [.ref l]))) (hlt : ¬ l = t) (hlm : ¬ l = m) (htm : ¬ t = m) (hO : Own hb) (hL : hLs hb l as) (hT : hLs hb t ta) (hM : hLs hb m ma) (hE : hEs hb as es) (hTs : hEs hb ta ts) (hMs : hEs hb ma ms) (hs : Srt es) (hn : as.length ≤ 60000) (hnT : ta.length ≤ 60000) (hnM : ma.length ≤ 60000)
    (htb : hb[tb]? = some (.inr (13, .int sr :: tf))) (hcc : hb[cc]? = some (.inl (24, cs.map Value.int))) (hcl : cs.length ≤ 1000) (hrs : xsum rest ≤ 6)
    (hK : ∀ hp' c s, MkR hb hp' l t m (storeE es (sr, key, lb2, false, cs, tb)) (ts ++ [(sr, key, lb2, false, cs, tb)]) (ms ++ [(sr, key, lb2, false, cs, tb)]) c s → At S 8 y (pc + 6) L rest hp' (nc + c) (ns + s) Q) :
    At S 8 y pc L (.ref cc :: .int 0 :: .int lb2 :: .int key :: .ref tb :: .ref hb.length :: .ref hb.length :: .ref ch :: rest) (hb ++ [.inr (4, [.null, .int 0, .int 0, .int 0, .null])]) nc ns Q := by
  have hw2 : (hb ++ [Sum.inr (4, [Value.null, .int 0, .int 0, .int 0, .null])] : List XC)[hb.length]? = some (.inr (4, [.null, .int 0, .int 0, .int 0, .null])) := List.getElem?_concat_length
  have hx1 : xsum (.ref hb.length :: .ref ch :: rest) ≤ 8 := by
    show 1 + (1 + xsum rest) ≤ 8
    omega
  refine At.clm (as := [.ref hb.length, .ref tb, .int key, .int lb2, .int 0, .ref cc]) (rest := .ref hb.length :: .ref ch :: rest) hC1 (show 30 ≤ 32 ∧ 32 < 40 by decide) rfl hx1 (Nat.le_of_ble_eq_true rfl) rfl (Nat.le_of_ble_eq_true rfl) (m_entry (S := S) (tb := tb) (k := key) (l := lb2) (vb := false) (c := cc) hw2) (fun v hn3 c1 s1 hv => ?_)
  obtain ⟨rfl, e3, rfl, rfl⟩ := hv
  have e4 : hn3 = hb ++ [.inr (4, [.ref tb, .int key, .int lb2, bv false, .ref cc])] := by
    rw [e3, List.set_append_right _ _ (Nat.le_refl _), Nat.sub_self]
    rfl
  have n3 : FrX (fun _ => False) hb hn3 := by rw [e4]; exact FrX.nw (fun a n e h => by cases h)
  have hw3 : hn3[hb.length]? = some (.inr (4, [.ref tb, .int key, .int lb2, bv false, .ref cc])) := by rw [e4]; exact List.getElem?_concat_length
  have ha3 : hn3[cc]? = some (.inl (24, cs.map Value.int)) := by rw [e4]; exact xa_lt hcc
  obtain ⟨v8, ht8⟩ := n3.2.2.2.2.1 _ _ htb
  have hV : hEn hn3 hb.length (sr, key, lb2, false, cs, tb) := ⟨cc, tf.set 7 v8, hw3, ha3, hcl, ht8⟩
  have hc3 := n3.ob hc (by decide) (fun h => h)
  have hd3 := n3.ob hd0 (by decide) (fun h => h)
  have hO3 := n3.2.1 hO
  have hL3 := n3.ls (fun h => h) hO hL
  have hT3 := n3.ls (fun h => h) hO hT
  have hM3 := n3.ls (fun h => h) hO hM
  have eL := n3.cap (fun h => h) hO hL
  have eT := n3.cap (fun h => h) hO hT
  have eM := n3.cap (fun h => h) hO hM
  have hl9 := hTs.1
  have hl8 := hMs.1
  refine At.clm (as := [.ref ch, .ref hb.length]) (rest := rest) hC2 (show 30 ≤ 30 ∧ 30 < 40 by decide) rfl (by omega) (Nat.le_of_ble_eq_true rfl) (xrck_o (k := 30) (cs := [3]) (by decide) (by decide) hc3 (by decide)) (Nat.le_of_ble_eq_true rfl) (m_make hc3 hd3 hlt hlm htm hO3 hL3 hT3 hM3 (hE.fr n3) (hTs.fr n3) (hMs.fr n3) hs hV hn hnT hnM) (fun v hp' c s hv => ?_)
  obtain ⟨rfl, k1, k2, k3, k4, k5, k6, k7, k8, k9, k10, k11, k12⟩ := hv
  have := hK hp' c s ⟨FrX.tr (n3.mono (fun x _ h => h.elim)) k1 (fun x hx => Or.inl hx), k2, k3, k4, by omega, by omega, by omega, by omega, by omega, by omega, by rw [List.length_append, List.length_singleton]; omega, by rw [List.length_append, List.length_singleton]; omega⟩
  exact this
