/-! lists: grow, add (written by wip/p27/c54.py) -/
theorem xsh1 {n : Nat} (h : n < 2 ^ 31) : Int32.ofNat n >>> (1 &&& 31) = Int32.ofNat (n / 2) := pk_shrN h _ 1 (by decide)
theorem hob_m {hp : List XC} {as : List Nat} (h : ∀ a ∈ as, hOb hp a) : ∀ v ∈ as.map Value.ref, v = .null ∨ ∃ a, v = .ref a ∧ hOb hp a := fun v hv => by
  obtain ⟨a, ha, rfl⟩ := List.mem_map.mp hv
  exact Or.inr ⟨a, rfl, h a ha⟩
/-- a full list: its elements, and the one field that says where they are -/
def hFull (hp : List XC) (l : Nat) (as : List Nat) (mc : Int32) (ev : Value) : Prop := (∀ a ∈ as, hOb hp a) ∧ ((as = [] ∧ ev = .retAddr 225) ∨ ∃ e, ev = .ref e ∧ hp[e]? = some (.inl (7, as.map Value.ref))) ∧ hp[l]? = some (.inr (2, [.int mc, ev, .int (Int32.ofNat as.length)]))
/-- what grow leaves -/
def RGrow (hp : List XC) (l : Nat) (as : List Nat) (mc : Int32) : Option Value → List XC → Nat → Nat → Prop := fun v hp' c s => v = some (.ref hp.length) ∧ c = 1 ∧ ∃ m, 1 ≤ m ∧ as.length + m ≤ 100000 ∧ (s = as.length + m ∧ as.length ≤ 3 * m ∧ m ≤ as.length + 10) ∧ hp' = (hp ++ [(Sum.inl (7, as.map Value.ref ++ List.replicate m .null) : XC)]).set l (.inr (2, [.int mc, .ref hp.length, .int (Int32.ofNat as.length)]))
theorem xeq_rk {a k : Nat} (h : k < 226) : xeq xKC (.ref a) (.retAddr k) = some false := by
  have hl : k < xKC.length := by rw [xkA_ok.2.2.2.2.2]; exact h
  generalize xKC = kc at hl ⊢
  exact if_pos hl
theorem xeq_kr {a k : Nat} (h : k < 226) : xeq xKC (.retAddr k) (.ref a) = some false := by
  have hl : k < xKC.length := by rw [xkA_ok.2.2.2.2.2]; exact h
  generalize xKC = kc at hl ⊢
  exact if_pos hl
/-- grow(int) of an empty list -/
theorem grow_0 {S : List Int32} {hp : List XC} {l : Nat} {mc : Int32} (h1 : hp[l]? = some (.inr (2, [.int mc, .retAddr 225, .int 0]))) : Me S 3 133 [.ref l, .int 1] hp (RGrow hp l [] mc) := by
  refine At.go (q := xm133) rfl 1 (pc' := 1) (L' := [(0, .ref l), (1, .int 1)]) (st' := [.ref l]) rfl ?_
  refine At.gf rfl (by decide) h1 rfl ?_
  refine At.lk rfl rfl ?_
  refine At.go (q := xm133) rfl 4 (pc' := 11) (L' := [(2, .int 0), (0, .ref l), (1, .int 1)]) (st' := [.ref l]) rfl ?_
  refine At.gf rfl (by decide) h1 rfl ?_
  refine At.go (q := xm133) rfl 1 (pc' := 17) (L' := [(2, .int 0), (0, .ref l), (1, .int 1)]) (st' := [.retAddr 225, .retAddr 225]) rfl ?_
  refine At.ace (tgt := 45) (b := true) rfl rfl rfl (fun _ => ?_) (fun h => absurd h (by decide))
  refine At.go (q := xm133) rfl 3 (pc' := 49) (L' := [(2, .int 0), (0, .ref l), (1, .int 1)]) (st' := [.int 1, .int 10, .ref l]) rfl ?_
  refine At.sp rfl (by decide) (g := ([.int (if (10 : Int32) < 1 then 1 else (10 : Int32)), .ref l], hp)) rfl ?_
  refine At.nq (n := 10) rfl (by decide) (by decide) (by decide) ?_
  obtain ⟨hp1, ehp1⟩ : ∃ h, h = hp ++ [.inl (7, List.replicate 10 .null)] := ⟨_, rfl⟩
  refine At.hpe ehp1 ?_
  have fhp1_l : hp1[l]? = some (.inr (2, [.int mc, .retAddr 225, .int 0])) := by rw [ehp1]; exact xa_lt h1
  have fhp1_hp_length : hp1[hp.length]? = some (.inl (7, (List.replicate 10 .null))) := by rw [ehp1]; exact xa_eq
  refine At.go (q := xm133) rfl 1 (pc' := 56) (L' := [(2, .int 0), (0, .ref l), (1, .int 1)]) (st' := [.ref hp.length, .ref l, .ref hp.length]) rfl ?_
  refine At.pf rfl fhp1_l (Nat.le_of_ble_eq_true rfl) rfl ?_
  obtain ⟨hp2, ehp2⟩ : ∃ h, h = hp1.set l (.inr (2, [.int mc, .ref hp.length, .int 0])) := ⟨_, rfl⟩
  refine At.hpe ehp2 ?_
  have fhp2_l : hp2[l]? = some (.inr (2, [.int mc, .ref hp.length, .int 0])) := by rw [ehp2]; exact xs_eq fhp1_l
  have fhp2_hp_length : hp2[hp.length]? = some (.inl (7, (List.replicate 10 .null))) := by rw [ehp2]; exact xs_ne (xn_ra fhp1_l fhp1_hp_length) fhp1_hp_length
  exact At.rt rfl rfl ⟨_, _, _, _, rfl, rfl, rfl, 10, by decide, by decide, ⟨rfl, by decide, by decide⟩, by rw [ehp2, ehp1]; rfl⟩
/-- grow(int) of a full list that has its array -/
theorem grow_1 {S : List Int32} {hp : List XC} {l e : Nat} {mc : Int32} {as : List Nat} (hob : ∀ a ∈ as, hOb hp a) (hn : as.length ≤ 60000) (h1 : hp[l]? = some (.inr (2, [.int mc, .ref e, .int (Int32.ofNat as.length)]))) (h2 : hp[e]? = some (.inl (7, as.map Value.ref))) : Me S 3 133 [.ref l, .int (Int32.ofNat (as.length + 1))] hp (RGrow hp l as mc) := by
  refine At.go (q := xm133) rfl 1 (pc' := 1) (L' := [(0, .ref l), (1, .int (Int32.ofNat (as.length + 1)))]) (st' := [.ref l]) rfl ?_
  refine At.gf rfl (by decide) h1 rfl ?_
  refine At.ln rfl h2 ?_
  refine At.go (q := xm133) rfl 1 (pc' := 6) (L' := [(2, .int (Int32.ofNat (as.map Value.ref).length)), (0, .ref l), (1, .int (Int32.ofNat (as.length + 1)))]) (st' := []) rfl ?_
  rw [List.length_map]
  refine At.go (q := xm133) rfl 1 (pc' := 7) (L' := [(2, .int (Int32.ofNat as.length)), (0, .ref l), (1, .int (Int32.ofNat (as.length + 1)))]) (st' := [.int (Int32.ofNat as.length)]) rfl ?_
  refine At.ic1 (tgt := 20) rfl rfl (fun h7 => ?_) (fun h7 => ?_)
  · refine At.go (q := xm133) rfl 7 (pc' := 27) (L' := [(2, .int (Int32.ofNat as.length)), (0, .ref l), (1, .int (Int32.ofNat (as.length + 1)))]) (st' := [.int ((Int32.ofNat as.length) >>> (1 &&& 31)), .int ((Int32.ofNat (as.length + 1)) - (Int32.ofNat as.length)), .int (Int32.ofNat as.length)]) rfl ?_
    rw [iN_sub (show as.length ≤ as.length + 1 by omega), Nat.add_sub_cancel_left, xsh1 (by omega)]
    refine At.clp (as := [.int (Int32.ofNat as.length), .int 1, .int (Int32.ofNat (as.length / 2))]) (rest := []) rfl (by decide) rfl (Nat.le_of_ble_eq_true rfl) (Nat.le_of_ble_eq_true rfl) rfl (Nat.le_of_ble_eq_true rfl) (m_newLength (by omega)) ?_
    refine At.go (q := xm133) rfl 3 (pc' := 33) (L' := [(3, .int (Int32.ofNat (as.length + max 1 (as.length / 2)))), (2, .int (Int32.ofNat as.length)), (0, .ref l), (1, .int (Int32.ofNat (as.length + 1)))]) (st' := [.ref l, .ref l]) rfl ?_
    refine At.gf rfl (by decide) h1 rfl ?_
    refine At.go (q := xm133) rfl 1 (pc' := 37) (L' := [(3, .int (Int32.ofNat (as.length + max 1 (as.length / 2)))), (2, .int (Int32.ofNat as.length)), (0, .ref l), (1, .int (Int32.ofNat (as.length + 1)))]) (st' := [.int (Int32.ofNat (as.length + max 1 (as.length / 2))), .ref e, .ref l]) rfl ?_
    refine At.clm (as := [.ref e, .int (Int32.ofNat (as.length + max 1 (as.length / 2)))]) (rest := [.ref l]) rfl (by decide) rfl (Nat.le_of_ble_eq_true rfl) (Nat.le_of_ble_eq_true rfl) rfl (Nat.le_of_ble_eq_true rfl) (m_copyOf h2 (by rw [List.length_map]; omega) (by omega) (hob_m hob)) (fun v hp1 c s hv => ?_)
    obtain ⟨rfl, ehp1, hc, hs⟩ := hv
    have fhp1_l : hp1[l]? = some (.inr (2, [.int mc, .ref e, .int (Int32.ofNat as.length)])) := by rw [ehp1]; exact xa_lt h1
    refine At.go (q := xm133) rfl 1 (pc' := 41) (L' := [(3, .int (Int32.ofNat (as.length + max 1 (as.length / 2)))), (2, .int (Int32.ofNat as.length)), (0, .ref l), (1, .int (Int32.ofNat (as.length + 1)))]) (st' := [.ref hp.length, .ref l, .ref hp.length]) rfl ?_
    refine At.pf rfl fhp1_l (Nat.le_of_ble_eq_true rfl) rfl ?_
    obtain ⟨hp2, ehp2⟩ : ∃ h, h = hp1.set l (.inr (2, [.int mc, .ref hp.length, .int (Int32.ofNat as.length)])) := ⟨_, rfl⟩
    refine At.hpe ehp2 ?_
    have fhp2_l : hp2[l]? = some (.inr (2, [.int mc, .ref hp.length, .int (Int32.ofNat as.length)])) := by rw [ehp2]; exact xs_eq fhp1_l
    refine At.rt rfl rfl ⟨_, _, _, _, rfl, rfl, by omega, max 1 (as.length / 2), by omega, by omega, ⟨by omega, by omega, by omega⟩, ?_⟩
    rw [ehp2, ehp1, List.length_map, Nat.add_sub_cancel_left]
  · refine At.go (q := xm133) rfl 1 (pc' := 11) (L' := [(2, .int (Int32.ofNat as.length)), (0, .ref l), (1, .int (Int32.ofNat (as.length + 1)))]) (st' := [.ref l]) rfl ?_
    refine At.gf rfl (by decide) h1 rfl ?_
    refine At.go (q := xm133) rfl 1 (pc' := 17) (L' := [(2, .int (Int32.ofNat as.length)), (0, .ref l), (1, .int (Int32.ofNat (as.length + 1)))]) (st' := [.retAddr 225, .ref e]) rfl ?_
    refine At.ace (tgt := 45) (b := false) rfl rfl (xeq_rk (by decide)) (fun h => absurd h (by decide)) (fun _ => ?_)
    refine At.go (q := xm133) rfl 7 (pc' := 27) (L' := [(2, .int (Int32.ofNat as.length)), (0, .ref l), (1, .int (Int32.ofNat (as.length + 1)))]) (st' := [.int ((Int32.ofNat as.length) >>> (1 &&& 31)), .int ((Int32.ofNat (as.length + 1)) - (Int32.ofNat as.length)), .int (Int32.ofNat as.length)]) rfl ?_
    rw [iN_sub (show as.length ≤ as.length + 1 by omega), Nat.add_sub_cancel_left, xsh1 (by omega)]
    refine At.clp (as := [.int (Int32.ofNat as.length), .int 1, .int (Int32.ofNat (as.length / 2))]) (rest := []) rfl (by decide) rfl (Nat.le_of_ble_eq_true rfl) (Nat.le_of_ble_eq_true rfl) rfl (Nat.le_of_ble_eq_true rfl) (m_newLength (by omega)) ?_
    refine At.go (q := xm133) rfl 3 (pc' := 33) (L' := [(3, .int (Int32.ofNat (as.length + max 1 (as.length / 2)))), (2, .int (Int32.ofNat as.length)), (0, .ref l), (1, .int (Int32.ofNat (as.length + 1)))]) (st' := [.ref l, .ref l]) rfl ?_
    refine At.gf rfl (by decide) h1 rfl ?_
    refine At.go (q := xm133) rfl 1 (pc' := 37) (L' := [(3, .int (Int32.ofNat (as.length + max 1 (as.length / 2)))), (2, .int (Int32.ofNat as.length)), (0, .ref l), (1, .int (Int32.ofNat (as.length + 1)))]) (st' := [.int (Int32.ofNat (as.length + max 1 (as.length / 2))), .ref e, .ref l]) rfl ?_
    refine At.clm (as := [.ref e, .int (Int32.ofNat (as.length + max 1 (as.length / 2)))]) (rest := [.ref l]) rfl (by decide) rfl (Nat.le_of_ble_eq_true rfl) (Nat.le_of_ble_eq_true rfl) rfl (Nat.le_of_ble_eq_true rfl) (m_copyOf h2 (by rw [List.length_map]; omega) (by omega) (hob_m hob)) (fun v hp1 c s hv => ?_)
    obtain ⟨rfl, ehp1, hc, hs⟩ := hv
    have fhp1_l : hp1[l]? = some (.inr (2, [.int mc, .ref e, .int (Int32.ofNat as.length)])) := by rw [ehp1]; exact xa_lt h1
    refine At.go (q := xm133) rfl 1 (pc' := 41) (L' := [(3, .int (Int32.ofNat (as.length + max 1 (as.length / 2)))), (2, .int (Int32.ofNat as.length)), (0, .ref l), (1, .int (Int32.ofNat (as.length + 1)))]) (st' := [.ref hp.length, .ref l, .ref hp.length]) rfl ?_
    refine At.pf rfl fhp1_l (Nat.le_of_ble_eq_true rfl) rfl ?_
    obtain ⟨hp2, ehp2⟩ : ∃ h, h = hp1.set l (.inr (2, [.int mc, .ref hp.length, .int (Int32.ofNat as.length)])) := ⟨_, rfl⟩
    refine At.hpe ehp2 ?_
    have fhp2_l : hp2[l]? = some (.inr (2, [.int mc, .ref hp.length, .int (Int32.ofNat as.length)])) := by rw [ehp2]; exact xs_eq fhp1_l
    refine At.rt rfl rfl ⟨_, _, _, _, rfl, rfl, by omega, max 1 (as.length / 2), by omega, by omega, ⟨by omega, by omega, by omega⟩, ?_⟩
    rw [ehp2, ehp1, List.length_map, Nat.add_sub_cancel_left]
theorem m_grow1 {S : List Int32} {hp : List XC} {l : Nat} {mc : Int32} {as : List Nat} {ev : Value} (h : hFull hp l as mc ev) (hn : as.length ≤ 60000) : Me S 3 133 [.ref l, .int (Int32.ofNat (as.length + 1))] hp (RGrow hp l as mc) := by
  obtain ⟨hob, ⟨rfl, rfl⟩ | ⟨e, rfl, h2⟩, h1⟩ := h
  · exact grow_0 h1
  · exact grow_1 hob hn h1 h2
theorem m_grow {S : List Int32} {hp : List XC} {l : Nat} {mc : Int32} {as : List Nat} {ev : Value} (h : hFull hp l as mc ev) (hn : as.length ≤ 60000) : Me S 4 132 [.ref l] hp (RGrow hp l as mc) := by
  have h1 := h.2.2
  refine At.go (q := xm132) rfl 2 (pc' := 2) (L' := [(0, .ref l)]) (st' := [.ref l, .ref l]) rfl ?_
  refine At.gf rfl (by decide) h1 rfl ?_
  refine At.go (q := xm132) rfl 2 (pc' := 7) (L' := [(0, .ref l)]) (st' := [.int (Int32.ofNat as.length + 1), .ref l]) rfl ?_
  rw [iN_s]
  refine At.clm (as := [.ref l, .int (Int32.ofNat (as.length + 1))]) (rest := []) rfl (by decide) rfl (Nat.le_of_ble_eq_true rfl) (Nat.le_of_ble_eq_true rfl) (xrck_o (by decide) (by decide) h1 (by decide)) (Nat.le_of_ble_eq_true rfl) (m_grow1 h hn) (fun v hp1 c s hv => ?_)
  obtain ⟨rfl, hc, m, h3, h4, h6, h5⟩ := hv
  exact At.rt rfl rfl ⟨_, _, _, _, rfl, rfl, by omega, m, h3, h4, ⟨by omega, h6.2⟩, h5⟩
/-- what add leaves -/
def RAdd (hp : List XC) (l : Nat) (as : List Nat) : List XC → Nat → Nat → Prop := fun hp' c s => FrX (fun x => x = l) hp hp' ∧ hLs hp' l as ∧ c + capL hp l ≤ capL hp' l ∧ s + 4 * capL hp l ≤ 4 * capL hp' l ∧ capL hp' l ≤ max (capL hp l) (2 * as.length + 10)
theorem xset_at {as : List Nat} {m a : Nat} (hm : 1 ≤ m) : (as.map Value.ref ++ List.replicate m Value.null).set as.length (.ref a) = (as ++ [a]).map Value.ref ++ List.replicate (m - 1) Value.null := by
  obtain ⟨m, rfl⟩ : ∃ k, m = k + 1 := ⟨m - 1, by omega⟩
  rw [List.set_append_right _ _ (by rw [List.length_map]; exact Nat.le_refl _), List.length_map, Nat.sub_self, List.map_append, List.append_assoc, Nat.add_sub_cancel]
  rfl
theorem qs_ob {hp : List XC} {a : Nat} (h : hOb hp a) : (Value.ref a = .null ∨ ∃ ci, xcls xKC hp (.ref a) = some ci ∧ (ci, 7) ∈ xSP) := by
  obtain ⟨ci, fs, h1, h2⟩ := h
  refine Or.inr ⟨ci, ?_, xsp7 ci h2⟩
  unfold xcls
  dsimp only
  rw [h1]
theorem hOb.fr {P : Nat → Prop} {hp hp' : List XC} {a : Nat} (h : hOb hp a) (f : FrX P hp hp') : hOb hp' a := h.mv f.2.2.2.2.2
theorem iN_ne {a b : Nat} (ha : a < 2 ^ 31) (hb : b < 2 ^ 31) : ¬ Int32.ofNat a = Int32.ofNat b ↔ a ≠ b := not_congr (iN_eq ha hb)
