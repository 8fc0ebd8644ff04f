/-! groups of joined rows are no more than groups of rows that refer (by hand) -/
theorem cmpI_0 {a b : Int32} : cmpI a b = 0 ↔ a = b := by
  unfold cmpI
  by_cases h : a < b
  · rw [if_pos h]
    constructor
    · intro h9; exact absurd h9 (by decide)
    · intro h9; rw [h9] at h; exact (Int32.lt_irrefl h).elim
  · rw [if_neg h]
    by_cases e : a = b
    · rw [if_pos e]; exact ⟨fun _ => e, fun _ => rfl⟩
    · rw [if_neg e]
      constructor
      · intro h9; exact absurd h9 (by decide)
      · intro h9; exact absurd h9 e
theorem grE_st {C : Nat → Nat → Int32} {a : Nat} : ∀ f b, (∀ i, b ≤ i → i < grE C a f b → C a i = 0) ∧ (grE C a f b < b + f → ¬ C a (grE C a f b) = 0)
  | 0, b => ⟨fun i h1 h2 => by
      have h2 : i < b := h2
      omega, fun h => by
      have h : b < b + 0 := h
      omega⟩
  | f + 1, b => by
    by_cases hc : C a b = 0
    · have e : grE C a (f + 1) b = grE C a f (b + 1) := if_pos hc
      obtain ⟨h1, h2⟩ := grE_st (C := C) (a := a) f (b + 1)
      rw [e]
      refine ⟨fun i h3 h4 => ?_, fun h3 => h2 (by omega)⟩
      by_cases e9 : i = b
      · rw [e9]; exact hc
      · exact h1 i (by omega) h4
    · have e : grE C a (f + 1) b = b := if_neg hc
      rw [e]
      exact ⟨fun i h1 h2 => by omega, fun _ => hc⟩
/-- the keys of the groups -/
def gkL (K : Nat → Int32) (n : Nat) : Nat → Nat → List Int32
  | 0, _ => []
  | f + 1, a => if a < n then K a :: gkL K n f (grE (fun i j => cmpI (K i) (K j)) a (n - (a + 1)) (a + 1)) else []
theorem gk_mem {K : Nat → Int32} {n : Nat} {x : Int32} : ∀ f a, x ∈ gkL K n f a → ∃ i, a ≤ i ∧ i < n ∧ x = K i
  | 0, _, h => (List.not_mem_nil h).elim
  | f + 1, a, h => by
    unfold gkL at h
    split at h
    · rename_i ha
      rcases List.mem_cons.mp h with h9 | h9
      · exact ⟨a, Nat.le_refl _, ha, h9⟩
      · obtain ⟨i, h1, h2, h3⟩ := gk_mem f _ h9
        have := (grE_le (fun i j => cmpI (K i) (K j)) a (n - (a + 1)) (a + 1)).1
        exact ⟨i, by omega, h2, h3⟩
    · exact (List.not_mem_nil h).elim
theorem gk_all {K : Nat → Int32} {n : Nat} : ∀ f a, n - a ≤ f → ∀ i, a ≤ i → i < n → K i ∈ gkL K n f a
  | 0, a, h, i, h1, h2 => by omega
  | f + 1, a, h, i, h1, h2 => by
    unfold gkL
    rw [if_pos (by omega)]
    obtain ⟨g1, g2⟩ := grE_st (C := fun i j => cmpI (K i) (K j)) (a := a) (n - (a + 1)) (a + 1)
    have g3 := (grE_le (fun i j => cmpI (K i) (K j)) a (n - (a + 1)) (a + 1)).1
    by_cases e : i = a
    · rw [e]; exact List.mem_cons_self
    · by_cases hb : i < grE (fun i j => cmpI (K i) (K j)) a (n - (a + 1)) (a + 1)
      · have h9 : cmpI (K a) (K i) = 0 := g1 i (by omega) hb
        rw [← cmpI_0.mp h9]
        exact List.mem_cons_self
      · exact List.mem_cons_of_mem _ (gk_all f _ (by omega) i (by omega) h2)
theorem gk_nd {K : Nat → Int32} {n : Nat} (hK : ∀ k j, k ≤ j → j < n → K k ≤ K j) : ∀ f a, (gkL K n f a).Nodup
  | 0, _ => List.nodup_nil
  | f + 1, a => by
    unfold gkL
    split
    · rename_i ha
      refine List.nodup_cons.mpr ⟨fun h => ?_, gk_nd hK f _⟩
      obtain ⟨i, h1, h2, h3⟩ := gk_mem f _ h
      obtain ⟨g1, g2⟩ := grE_st (C := fun i j => cmpI (K i) (K j)) (a := a) (n - (a + 1)) (a + 1)
      have g3 := (grE_le (fun i j => cmpI (K i) (K j)) a (n - (a + 1)) (a + 1)).1
      have h4 : ¬ cmpI (K a) (K (grE (fun i j => cmpI (K i) (K j)) a (n - (a + 1)) (a + 1))) = 0 := g2 (by omega)
      have h5 := hK a (grE (fun i j => cmpI (K i) (K j)) a (n - (a + 1)) (a + 1)) (by omega) (by omega)
      have h6 := hK _ i h1 h2
      rw [← h3] at h6
      exact h4 (cmpI_0.mpr (Int32.le_antisymm h5 h6))
    · exact List.nodup_nil
theorem nd_sub {as bs : List Int32} (h1 : as.Nodup) (h2 : ∀ x ∈ as, x ∈ bs) : as.length ≤ bs.length := by
  have e := part_len (p := fun (k x : Int32) => decide (x = k)) (ks := bs) (xs := as) (fun x hx => ⟨x, h2 x hx, decide_eq_true rfl⟩)
  have e2 := sum_le9 (h := fun k : Int32 => as.countP (fun x => decide (x = k))) (n := 1) (l := bs) (fun k _ => by
    have h9 := List.nodup_iff_count.mp h1 k
    refine Nat.le_trans (Nat.le_of_eq ?_) h9
    exact List.countP_congr (fun x _ => by
      rw [decide_eq_true_eq, beq_iff_eq]))
  omega
theorem insK_l {so : Option Nat} {dn : Int32} {kp : Nat} {ks : List (List Int32)} {l : List Int32} {m : Nat} (h : ks.length = min kp m) : (insK so dn kp ks l).length = min kp (m + 1) := by
  by_cases hp : kp ≤ insP so dn ks l
  · have h1 : insP so dn ks l ≤ ks.length := olP_le _ _
    have e : insK so dn kp ks l = ks := if_pos hp
    rw [e]
    omega
  · rw [insK_len hp]
    split <;> omega
theorem grG_cnt {so : Option Nat} {dn : Int32} {kp w9 n : Nat} {kd : Nat → Nat} {seg : Nat → List (Nat × Int32)} {rv : Int32 → RV} {pk : Nat → Int32} {K : Nat → Int32} : ∀ f a (t : QT), t.1.length = min kp t.2 → (grG (emB so dn kp kd seg rv pk w9) (fun i j => cmpI (K i) (K j)) n f a t).2 = t.2 + (gkL K n f a).length ∧ (grG (emB so dn kp kd seg rv pk w9) (fun i j => cmpI (K i) (K j)) n f a t).1.length = min kp (grG (emB so dn kp kd seg rv pk w9) (fun i j => cmpI (K i) (K j)) n f a t).2
  | 0, a, t, h => ⟨rfl, h⟩
  | f + 1, a, t, h => by
    unfold grG gkL
    by_cases ha : a < n
    · rw [if_pos ha, if_pos ha]
      obtain ⟨h1, h2⟩ := grG_cnt (so := so) (dn := dn) (kp := kp) (w9 := w9) (n := n) (kd := kd) (seg := seg) (rv := rv) (pk := pk) (K := K) f (grE (fun i j => cmpI (K i) (K j)) a (n - (a + 1)) (a + 1)) (emB so dn kp kd seg rv pk w9 t a (grE (fun i j => cmpI (K i) (K j)) a (n - (a + 1)) (a + 1))) (insK_l h)
      refine ⟨h1.trans ?_, h2⟩
      rw [List.length_cons]
      show t.2 + 1 + _ = _
      omega
    · rw [if_neg ha, if_neg ha]
      exact ⟨rfl, h⟩
theorem pk_mem {ps : List Int32} {n i : Nat} (hi : i < n) (hn : n ≤ ps.length) : pkL ps i ∈ ps.take n := by
  refine List.mem_of_getElem? (i := i) ?_
  rw [List.getElem?_take, if_pos hi]
  exact pkL_at (by omega)
theorem pk_of {ps : List Int32} {n : Nat} {x : Int32} (h : x ∈ ps.take n) : ∃ i, i < n ∧ pkL ps i = x := by
  obtain ⟨i, hi⟩ := List.getElem?_of_mem h
  rw [List.getElem?_take] at hi
  by_cases hn : i < n
  · rw [if_pos hn] at hi
    refine ⟨i, hn, ?_⟩
    unfold pkL
    rw [hi]
    rfl
  · rw [if_neg hn] at hi
    cases hi
theorem plJ_of {F : Nat → En → List Nat} {p : Nat} {e : En} : ∀ (es : List En) (i j : Nat), es[j]? = some e → p ∈ F (i + j) e → p ∈ plJ F i es
  | [], _, _, h, _ => by cases h
  | x :: es, i, 0, h, hp => by
    cases h
    exact List.mem_append_left _ hp
  | x :: es, i, j + 1, h, hp => by
    refine List.mem_append_right _ (plJ_of es (i + 1) j h ?_)
    rw [show i + 1 + j = i + (j + 1) by omega]
    exact hp
/-- the keys of a grouping's groups -/
theorem gN_cnt {so : Option Nat} {dn : Int32} {kp w9 if0 items col n : Nat} {kd fr : Nat → Nat} {os : List (Nat × Int32)} {rv : Int32 → RV} {xs : List Int32} (hn : n = xs.length) : ∃ ks : List Int32, ks.Nodup ∧ (∀ x, x ∈ ks ↔ ∃ v ∈ xs, x = keyQ rv col v) ∧ (gNQ so dn kp w9 if0 items col kd fr os rv xs n).2 = ks.length ∧ (gNQ so dn kp w9 if0 items col kd fr os rv xs n).1.length = min kp ks.length := by
  obtain ⟨p1, p2⟩ := sortE_ok (key := keyQ rv col) (n := n) (ps := xs) (by omega)
  have hl : n ≤ (sortE (keyQ rv col) n xs).length := by
    have h9 := p1.length_eq
    rw [List.length_take, List.length_take] at h9
    omega
  have hx : xs.take n = xs := List.take_of_length_le (by omega)
  rw [hx] at p1
  obtain ⟨c1, c2⟩ := grG_cnt (so := so) (dn := dn) (kp := kp) (w9 := w9) (n := n) (kd := kd) (seg := segK os items if0 fr) (rv := rv) (pk := pkL (sortE (keyQ rv col) n xs)) (K := fun i => keyQ rv col (pkL (sortE (keyQ rv col) n xs) i)) n 0 ([], 0) (by show 0 = min kp 0; omega)
  refine ⟨gkL (fun i => keyQ rv col (pkL (sortE (keyQ rv col) n xs) i)) n n 0, gk_nd p2 n 0, fun x => ⟨fun h => ?_, fun ⟨v, hv, e⟩ => ?_⟩, c1.trans (Nat.zero_add _), ?_⟩
  · obtain ⟨i, h1, h2, h3⟩ := gk_mem n 0 h
    exact ⟨_, p1.mem_iff.mp (pk_mem h2 hl), h3⟩
  · obtain ⟨i, h1, h2⟩ := pk_of (p1.mem_iff.mpr hv)
    rw [e, ← h2]
    exact gk_all (K := fun i => keyQ rv col (pkL (sortE (keyQ rv col) n xs) i)) n 0 (by omega) i (Nat.zero_le _) h1
  · have e : (gNQ so dn kp w9 if0 items col kd fr os rv xs n).2 = (gkL (fun i => keyQ rv col (pkL (sortE (keyQ rv col) n xs) i)) n n 0).length := c1.trans (Nat.zero_add _)
    rw [← e]
    exact c2
theorem met9 {so so' : Option Nat} {dn dn' sc : Int32} {kp w9 w9' if0 if1 items if0' if1' items' : Nat} {kd fr kd' fr' : Nat → Nat} {os os' : List (Nat × Int32)} {es fs : List En} (he : es.length ≤ 1000) (hf : fs.length ≤ 1000) (hU : ∀ e : En, ¬ hold e.2.2.2.2.1 1 = -1000000000 → mntB if0' if1' (resE e.2.2.1 (fun g => cellE e.2.2.2.2.1 [] g.toNatClampNeg) ((os'.take if1').drop if0')) = true) : (qJN so dn kp w9 if0 if1 items 1 kd fr os (Int32.ofNat 1) sc es fs).1.length ≤ (q0N so' dn' kp w9' if0' if1' items' 1 kd' fr' os' es).1.length ∧ (qJN so dn kp w9 if0 if1 items 1 kd fr os (Int32.ofNat 1) sc es fs).2 ≤ (q0N so' dn' kp w9' if0' if1' items' 1 kd' fr' os' es).2 ∧ (q0N so' dn' kp w9' if0' if1' items' 1 kd' fr' os' es).2 ≤ es.length ∧ (q0N so' dn' kp w9' if0' if1' items' 1 kd' fr' os' es).1.length ≤ kp := by
  obtain ⟨kJ, j1, j2, j3, j4⟩ := gN_cnt (so := so) (dn := dn) (kp := kp) (w9 := w9) (if0 := if0) (items := items) (col := 1) (kd := kd) (fr := fr) (os := os) (rv := rvJ es fs) (xs := xsJ if0 if1 os (Int32.ofNat 1) sc es fs) (n := (plJ (prE if0 if1 os (Int32.ofNat 1) sc fs) 0 es).length) (List.length_map _).symm
  obtain ⟨kU, u1, u2, u3, u4⟩ := gN_cnt (so := so') (dn := dn') (kp := kp) (w9 := w9') (if0 := if0') (items := items') (col := 1) (kd := kd') (fr := fr') (os := os') (rv := rv0 es) (xs := xs0 if0' if1' os' es) (n := (plJ (onE if0' if1' os') 0 es).length) (List.length_map _).symm
  have hsub : ∀ x ∈ kJ, x ∈ kU := fun x hx => by
    obtain ⟨v, hv, e⟩ := (j2 x).mp hx
    obtain ⟨p, hp, ep⟩ := List.mem_map.mp hv
    have hP : ∃ a b, ∃ e : En, es[a]? = some e ∧ ¬ hold e.2.2.2.2.1 1 = -1000000000 ∧ b < fs.length ∧ p = a * fs.length + b := by
      refine plJ_mem (P := fun p => ∃ a b, ∃ e : En, es[a]? = some e ∧ ¬ hold e.2.2.2.2.1 1 = -1000000000 ∧ b < fs.length ∧ p = a * fs.length + b) 0 es (fun a e ha p hp => ?_) p hp
      unfold prE at hp
      by_cases hz : hold e.2.2.2.2.1 (Int32.ofNat 1) = -1000000000
      · rw [if_pos hz] at hp
        exact (List.not_mem_nil hp).elim
      · rw [if_neg hz] at hp
        obtain ⟨b, b1, b2, b3⟩ := prL_mem 0 fs p hp
        exact ⟨a, b, e, ha, hz, by omega, by rw [b3, Nat.zero_add]⟩
    obtain ⟨a, b, e9, ha, hz, hb, epp⟩ := hP
    have hal := (List.getElem?_eq_some_iff.mp ha).1
    have hd : p / fs.length = a := by
      rw [epp, Nat.mul_comm, Nat.mul_add_div (by omega), Nat.div_eq_of_lt hb]
      rfl
    have hpb : p < 2 ^ 31 := by
      have h9 : a * fs.length ≤ 1000 * 1000 := Nat.mul_le_mul (by omega) hf
      omega
    have hc1 : ∀ ds, cellE e9.2.2.2.2.1 ds 1 = hold e9.2.2.2.2.1 1 := fun ds => by
      have hh : hold e9.2.2.2.2.1 1 = (e9.2.2.2.2.1[1]?).getD (-1000000000) := rfl
      cases h9 : e9.2.2.2.2.1[1]? with
      | none =>
        rw [hh, h9] at hz
        exact absurd rfl hz
      | some y =>
        rw [cellE_l h9, hh, h9]
        rfl
    refine (u2 x).mpr ⟨Int32.ofNat a, List.mem_map.mpr ⟨a, ?_, rfl⟩, ?_⟩
    · refine plJ_of es 0 a ha ?_
      unfold onE
      rw [if_pos (hU e9 hz), Nat.zero_add]
      exact List.mem_singleton.mpr rfl
    · rw [e, ← ep]
      unfold keyQ rvJ rv0
      rw [iN_tn hpb, hd, iN_tn (by omega), ha]
      show cellE e9.2.2.2.2.1 _ 1 = cellE e9.2.2.2.2.1 [] 1
      rw [hc1, hc1]
  have hle := nd_sub j1 hsub
  have hk : kU.length ≤ es.length := by
    have h1 : (plJ (onE if0' if1' os') 0 es).length ≤ es.length * 1 := plJ_len (fun i e => onE_len i e) 0 es
    have h2 : kU.length ≤ ((xs0 if0' if1' os' es).map (keyQ (rv0 es) 1)).length := nd_sub u1 (fun x hx => by
      obtain ⟨v, hv, e⟩ := (u2 x).mp hx
      rw [e]
      exact List.mem_map_of_mem hv)
    rw [List.length_map] at h2
    have h3 : (xs0 if0' if1' os' es).length = (plJ (onE if0' if1' os') 0 es).length := List.length_map _
    omega
  refine ⟨?_, ?_, ?_, ?_⟩
  · show (gNQ so dn kp w9 if0 items 1 kd fr os (rvJ es fs) (xsJ if0 if1 os (Int32.ofNat 1) sc es fs) (plJ (prE if0 if1 os (Int32.ofNat 1) sc fs) 0 es).length).1.length ≤ (gNQ so' dn' kp w9' if0' items' 1 kd' fr' os' (rv0 es) (xs0 if0' if1' os' es) (plJ (onE if0' if1' os') 0 es).length).1.length
    rw [j4, u4]
    omega
  · show (gNQ so dn kp w9 if0 items 1 kd fr os (rvJ es fs) (xsJ if0 if1 os (Int32.ofNat 1) sc es fs) (plJ (prE if0 if1 os (Int32.ofNat 1) sc fs) 0 es).length).2 ≤ (gNQ so' dn' kp w9' if0' items' 1 kd' fr' os' (rv0 es) (xs0 if0' if1' os' es) (plJ (onE if0' if1' os') 0 es).length).2
    rw [j3, u3]
    exact hle
  · show (gNQ so' dn' kp w9' if0' items' 1 kd' fr' os' (rv0 es) (xs0 if0' if1' os' es) (plJ (onE if0' if1' os') 0 es).length).2 ≤ _
    rw [u3]
    exact hk
  · show (gNQ so' dn' kp w9' if0' items' 1 kd' fr' os' (rv0 es) (xs0 if0' if1' os' es) (plJ (onE if0' if1' os') 0 es).length).1.length ≤ _
    rw [u4]
    omega
theorem m3_os (σ : Nat → Nat) : ((wos σ bW_m3_b).take (wif1 bW_m3_b)).drop (wif0 bW_m3_b) = [(3, 1), (35, 0)] := rfl
theorem m3_kn {σ : Nat → Nat} {e : En} (h : ¬ hold e.2.2.2.2.1 1 = -1000000000) : mntB (wif0 bW_m3_b) (wif1 bW_m3_b) (resE e.2.2.1 (fun g => cellE e.2.2.2.2.1 [] g.toNatClampNeg) (((wos σ bW_m3_b).take (wif1 bW_m3_b)).drop (wif0 bW_m3_b))) = true := by
  rw [m3_os]
  have hh : hold e.2.2.2.2.1 1 = (e.2.2.2.2.1[1]?).getD (-1000000000) := rfl
  have hc : cellE e.2.2.2.2.1 [] 1 = hold e.2.2.2.2.1 1 := by
    cases h9 : e.2.2.2.2.1[1]? with
    | none =>
      rw [hh, h9] at h
      exact absurd rfl h
    | some y =>
      rw [cellE_l h9, hh, h9]
      rfl
  have e1 : resE e.2.2.1 (fun g => cellE e.2.2.2.2.1 [] g.toNatClampNeg) [(3, 1), (35, 0)] = chg35 (cellE e.2.2.2.2.1 [] 1) := rfl
  rw [e1, hc]
  unfold chg35
  rw [if_neg h]
  rfl
