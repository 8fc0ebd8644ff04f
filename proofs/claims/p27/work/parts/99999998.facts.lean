/-! the house: what a world tells of a statement (by hand) -/
def wfl (W : List WC) (h k : Nat) : WV := match W[h]? with
  | some (.inl q) => (q.2[k]?).getD wZ
  | some (.inr q) => (q.2[k]?).getD wZ
  | none => wZ
def wna (v : WV) : Nat := match v with
  | (.inl n) => n
  | _ => 0
def wkn (v : WV) : Nat := match v with
  | (.inr (.inr (.inl n))) => n
  | _ => 0
def wti (σ : Nat → Nat) (v : WV) : Int32 := match v with
  | (.inl n) => Int32.ofNat n
  | (.inr (.inr (.inr (.inr (.inl (k, vs)))))) => Int32.ofNat (wg vs (σ k))
  | _ => 0
def wisI (v : WV) : Bool := match v with
  | (.inl _) => true
  | _ => false
def wisK (v : WV) : Bool := match v with
  | (.inr (.inr (.inl _))) => true
  | _ => false
def wisD (v : WV) : Bool := match v with
  | (.inl _) => true
  | (.inr (.inr (.inr (.inr (.inl _))))) => true
  | _ => false
def wisN (v : WV) : Bool := match v with
  | (.inl _) => true
  | (.inr (.inr (.inr (.inr (.inl _))))) => true
  | (.inr (.inr (.inr (.inr (.inr j))))) => wIid j
  | _ => false
def ival (v : Value) : Int32 := match v with
  | .int x => x
  | _ => 0
def wcO (W : List WC) (h c n : Nat) : Bool := match W[h]? with
  | some (.inr q) => Nat.beq q.1 c && Nat.beq q.2.length n
  | _ => false
def wcX (W : List WC) (h c n : Nat) : Bool := match W[h]? with
  | some (.inl q) => Nat.beq q.1 c && Nat.beq q.2.length n
  | _ => false
def wXn (W : List WC) (h n : Nat) : Bool := (List.range n).all (fun k => wisN (wfl W h k))
def WH (A : Nat → Nat) (ρ σ : Nat → Nat) (ω : Nat → Value) (W : List WC) (hp : List XC) : Prop := (∀ j, wIid j = true → ∃ x, ω j = .int x) ∧ (∀ n, n < 17 → ρ n = A (60 + n)) ∧ ∀ (h : Nat) (c : WC), h < 17 → W[h]? = some c → hp[A (60 + h)]? = some (wtc ρ σ ω c)
section
variable {A ρ σ : Nat → Nat} {ω : Nat → Value} {W : List WC} {hp : List XC}
theorem wisI_s {v : WV} (h : wisI v = true) : wt ρ σ ω v = .int (Int32.ofNat (wna v)) := by
  match v, h with
  | (.inl _), _ => rfl
theorem wisK_s {v : WV} (h : wisK v = true) : wt ρ σ ω v = .retAddr (wkn v) := by
  match v, h with
  | (.inr (.inr (.inl _))), _ => rfl
theorem wisD_s {v : WV} (h : wisD v = true) : wt ρ σ ω v = .int (wti σ v) := by
  match v, h with
  | (.inl _), _ => rfl
  | (.inr (.inr (.inr (.inr (.inl _))))), _ => rfl
theorem wisN_s (H : WH A ρ σ ω W hp) {v : WV} (h : wisN v = true) : wt ρ σ ω v = .int (ival (wt ρ σ ω v)) := by
  match v, h with
  | (.inl _), _ => rfl
  | (.inr (.inr (.inr (.inr (.inl _))))), _ => rfl
  | (.inr (.inr (.inr (.inr (.inr j))))), h =>
    obtain ⟨x, hx⟩ := H.1 j h
    show ω j = .int (ival (ω j))
    rw [hx]
    rfl
theorem wO_at (H : WH A ρ σ ω W hp) {h c n : Nat} (hh : h < 17) (hb : wcO W h c n = true) : ∃ fs, hp[A (60 + h)]? = some (.inr (c, fs)) ∧ fs.length = n ∧ ∀ k, k < n → fs[k]? = some (wt ρ σ ω (wfl W h k)) := by
  unfold wcO at hb
  split at hb
  · rename_i q e
    have h2 := Bool.and_eq_true_iff.mp hb
    have e1 := Nat.eq_of_beq_eq_true h2.1
    have e2 := Nat.eq_of_beq_eq_true h2.2
    refine ⟨q.2.map (wt ρ σ ω), ?_, by rw [List.length_map]; exact e2, fun k hk => ?_⟩
    · rw [H.2.2 h _ hh e, ← e1]
      rfl
    · have e3 : wfl W h k = (q.2[k]?).getD wZ := by unfold wfl; rw [e]
      rw [List.getElem?_map, e3, List.getElem?_eq_getElem (show k < q.2.length by omega)]
      rfl
  · cases hb
theorem wX_at (H : WH A ρ σ ω W hp) {h c n : Nat} (hh : h < 17) (hb : wcX W h c n = true) : ∃ fs, hp[A (60 + h)]? = some (.inl (c, fs)) ∧ fs.length = n ∧ ∀ k, k < n → fs[k]? = some (wt ρ σ ω (wfl W h k)) := by
  unfold wcX at hb
  split at hb
  · rename_i q e
    have h2 := Bool.and_eq_true_iff.mp hb
    have e1 := Nat.eq_of_beq_eq_true h2.1
    have e2 := Nat.eq_of_beq_eq_true h2.2
    refine ⟨q.2.map (wt ρ σ ω), ?_, by rw [List.length_map]; exact e2, fun k hk => ?_⟩
    · rw [H.2.2 h _ hh e, ← e1]
      rfl
    · have e3 : wfl W h k = (q.2[k]?).getD wZ := by unfold wfl; rw [e]
      rw [List.getElem?_map, e3, List.getElem?_eq_getElem (show k < q.2.length by omega)]
      rfl
  · cases hb
theorem wXn_at (H : WH A ρ σ ω W hp) {h c n : Nat} (hh : h < 17) (hb : wcX W h c n = true) (hn : wXn W h n = true) : ∃ gs : List Int32, hp[A (60 + h)]? = some (.inl (c, gs.map Value.int)) ∧ gs.length = n ∧ ∀ k, k < n → gs[k]? = some (ival (wt ρ σ ω (wfl W h k))) := by
  obtain ⟨fs, f1, f2, f3⟩ := wX_at H hh hb
  refine ⟨fs.map ival, ?_, by rw [List.length_map]; exact f2, fun k hk => by rw [List.getElem?_map, f3 k hk]; rfl⟩
  rw [f1, List.map_map]
  refine congrArg (fun l => some (Sum.inl (c, l) : XC)) ?_
  refine List.ext_getElem? (fun k => ?_)
  rw [List.getElem?_map]
  by_cases hk : k < n
  · rw [f3 k hk, Option.map_some]
    exact congrArg some (wisN_s H (List.all_eq_true.mp hn k (List.mem_range.mpr hk)))
  · rw [List.getElem?_eq_none (by omega)]
    rfl
/-! a statement, its formula -/
def wif0 (W : List WC) : Nat := wna (wfl W 0 12)
def wif1 (W : List WC) : Nat := wna (wfl W 0 13)
def wits (W : List WC) : Nat := wna (wfl W 0 14)
def wvb (W : List WC) : Nat := wkn (wfl W 0 2)
def wkd (W : List WC) (i : Nat) : Nat := wkn (wfl W 3 i)
def wfr (W : List WC) (i : Nat) : Nat := wna (wfl W 5 i)
def wfn (W : List WC) : Nat := wna (wfl W 2 6)
def wos (σ : Nat → Nat) (W : List WC) : List (Nat × Int32) := (List.range (wfn W)).map (fun i => (wkn (wfl W 10 i), wti σ (wfl W 11 i)))
def wStB (W : List WC) : Bool := wcO W 0 12 20 && (wveq (wfl W 0 1) (wA 2) && (wisK (wfl W 0 2) && (wisI (wfl W 0 12) && (wisI (wfl W 0 13) && (wisI (wfl W 0 14) && (wveq (wfl W 0 16) (wA 3) && (wveq (wfl W 0 18) (wA 5) && (wcX W 3 25 120 && (wcX W 5 10 120 && (Nat.ble (wits W) 100 && (Nat.ble (wif0 W) 100 && (Nat.ble (wif1 W) (wfn W) && ((List.range (wits W)).all (fun i => wisK (wfl W 3 i) && wisI (wfl W 5 i)))))))))))))))
def wFoB (W : List WC) : Bool := wcO W 2 5 7 && (wveq (wfl W 2 0) (wA 10) && (wveq (wfl W 2 1) (wA 11) && (wveq (wfl W 2 2) (wA 12) && (wveq (wfl W 2 3) (wA 13) && (wveq (wfl W 2 4) (wA 14) && (wisI (wfl W 2 6) && (wcX W 10 27 120 && (wcX W 11 14 120 && (wXn W 11 120 && (wcX W 13 16 120 && (wXn W 13 120 && (Nat.ble (wfn W) 100 && ((List.range (wfn W)).all (fun i => wisK (wfl W 10 i) && wisD (wfl W 11 i)))))))))))))))
theorem wSt_s (H : WH A ρ σ ω W hp) (hb : wStB W = true) (hf : Nat.ble (wfn W) 100 = true) : hSt hp (A 60) (A 62) (A 63) (A 65) (wif0 W) (wif1 W) (wits W) (wvb W) (wkd W) (wfr W) := by
  unfold wStB at hb
  simp only [Bool.and_eq_true] at hb
  obtain ⟨b1, b2, b3, b4, b5, b6, b7, b8, b9, b10, b11, b12, b13, b14⟩ := hb
  obtain ⟨sf, s1, s2, s3⟩ := wO_at H (by decide) b1
  obtain ⟨kes, k1, k2, k3⟩ := wX_at H (by decide) b9
  obtain ⟨fes, f1, f2, f3⟩ := wX_at H (by decide) b10
  have c11 := Nat.le_of_ble_eq_true b11
  have c12 := Nat.le_of_ble_eq_true b12
  have c13 := Nat.le_of_ble_eq_true b13
  have cf := Nat.le_of_ble_eq_true hf
  refine ⟨sf, kes, fes, s1, ?_, ?_, ?_, ?_, ?_, ?_, ?_, k1, f1, fun i hi => ?_, by omega, by omega, by omega, by omega, by omega, by omega⟩
  · rw [s3 1 (by decide), wveq_s b2]
    show some (Value.ref (ρ 2)) = _
    rw [H.2.1 2 (by decide)]
  · rw [s3 2 (by decide), wisK_s b3]; rfl
  · rw [s3 12 (by decide), wisI_s b4]; rfl
  · rw [s3 13 (by decide), wisI_s b5]; rfl
  · rw [s3 14 (by decide), wisI_s b6]; rfl
  · rw [s3 16 (by decide), wveq_s b7]
    show some (Value.ref (ρ 3)) = _
    rw [H.2.1 3 (by decide)]
  · rw [s3 18 (by decide), wveq_s b8]
    show some (Value.ref (ρ 5)) = _
    rw [H.2.1 5 (by decide)]
  · have h9 := Bool.and_eq_true_iff.mp (List.all_eq_true.mp b14 i (List.mem_range.mpr hi))
    rw [k3 i (by omega), f3 i (by omega), wisK_s h9.1, wisI_s h9.2]
    exact ⟨rfl, rfl⟩
theorem wFo_s (H : WH A ρ σ ω W hp) (hb : wFoB W = true) : ∃ (ws : Value) (es : List Value) (gs vs : List Int32), hFo hp (A 62) (A 70) (A 71) (A 72) (A 73) (A 74) ws es gs (wos σ W) ∧ hp[A 73]? = some (.inl (16, vs.map Value.int)) ∧ vs.length = 120 := by
  unfold wFoB at hb
  simp only [Bool.and_eq_true] at hb
  obtain ⟨b1, b2, b3, b4, b5, b6, b7, b8, b9, b10, b11, b12, b13, b14⟩ := hb
  obtain ⟨sf, s1, s2, s3⟩ := wO_at H (by decide) b1
  obtain ⟨es, e1, e2, e3⟩ := wX_at H (by decide) b8
  obtain ⟨gs, g1, g2, g3⟩ := wXn_at H (by decide) b9 b10
  obtain ⟨vs, v1, v2, v3⟩ := wXn_at H (by decide) b11 b12
  have c13 := Nat.le_of_ble_eq_true b13
  have hl : (wos σ W).length = wfn W := by unfold wos; rw [List.length_map, List.length_range]
  refine ⟨wt ρ σ ω (wfl W 2 5), es, gs, vs, ⟨?_, e1, g1, fun i q hq => ?_, by omega, by omega, by omega⟩, v1, v2⟩
  · rw [s1, hl]
    refine congrArg (fun l => some (Sum.inr (5, l) : XC)) (List.ext_getElem? (fun k => ?_))
    by_cases h0 : k = 0
    · rw [h0, s3 0 (by decide), wveq_s b2]
      show some (Value.ref (ρ 10)) = _
      rw [H.2.1 10 (by decide)]
      rfl
    by_cases h1 : k = 1
    · rw [h1, s3 1 (by decide), wveq_s b3]
      show some (Value.ref (ρ 11)) = _
      rw [H.2.1 11 (by decide)]
      rfl
    by_cases h2 : k = 2
    · rw [h2, s3 2 (by decide), wveq_s b4]
      show some (Value.ref (ρ 12)) = _
      rw [H.2.1 12 (by decide)]
      rfl
    by_cases h3 : k = 3
    · rw [h3, s3 3 (by decide), wveq_s b5]
      show some (Value.ref (ρ 13)) = _
      rw [H.2.1 13 (by decide)]
      rfl
    by_cases h4 : k = 4
    · rw [h4, s3 4 (by decide), wveq_s b6]
      show some (Value.ref (ρ 14)) = _
      rw [H.2.1 14 (by decide)]
      rfl
    by_cases h5 : k = 5
    · rw [h5, s3 5 (by decide)]
      rfl
    by_cases h6 : k = 6
    · rw [h6, s3 6 (by decide), wisI_s b7]
      rfl
    · rw [List.getElem?_eq_none (by omega), List.getElem?_eq_none (by show 7 ≤ k; omega)]
  · have hi := (List.getElem?_eq_some_iff.mp hq).1
    rw [hl] at hi
    unfold wos at hq
    rw [List.getElem?_map, List.getElem?_range hi] at hq
    cases hq
    have h9 := Bool.and_eq_true_iff.mp (List.all_eq_true.mp b14 i (List.mem_range.mpr hi))
    rw [e3 i (by omega), g3 i (by omega), wisK_s h9.1, wisD_s h9.2]
    exact ⟨rfl, rfl⟩
end
/-! nothing is known any more of a statement -/
def wpos (j : Nat) : Nat × Nat := bif Nat.ble (j + 1) 900000 then (bif Nat.beq (j / 1000) 14 then (16, j % 1000) else (j / 1000 + 1, j % 1000)) else bif Nat.ble (j + 1) 900014 then (0, j - 900000 + 2) else bif Nat.ble (j + 1) 900018 then (1, j - 900014 + 3) else bif Nat.ble (j + 1) 900020 then (2, j - 900018 + 5) else (15, j - 910000)
def wsmV (h k : Nat) (g v : WV) : Bool := match g with
  | (.inr (.inl n)) => Nat.ble (n + 1) 17 && wveq v (.inr (.inl n))
  | (.inr (.inr (.inr (.inr (.inr j))))) => Nat.beq (wpos j).1 h && (Nat.beq (wpos j).2 k && (!(wIid j) || wisN v))
  | _ => false
def wsmL (h : Nat) : Nat → List WV → List WV → Bool
  | _, [], [] => true
  | k, g :: gs, v :: vs => wsmV h k g v && wsmL h (k + 1) gs vs
  | _, _, _ => false
def wsmC (h : Nat) (g c : WC) : Bool := match g, c with
  | .inl p, .inl q => Nat.beq p.1 q.1 && wsmL h 0 p.2 q.2
  | .inr p, .inr q => Nat.beq p.1 q.1 && wsmL h 0 p.2 q.2
  | _, _ => false
def wsmW : Nat → List WC → List WC → Bool
  | _, [], _ => true
  | h, g :: gs, c :: cs => wsmC h g c && wsmW (h + 1) gs cs
  | _, _, _ => false
def wels (g : WC) : List WV := match g with
  | .inl q => q.2
  | .inr q => q.2
def wsmB (W : List WC) : Bool := wsmW 0 wGen W
section
variable {A ρ σ : Nat → Nat} {ω : Nat → Value} {W : List WC} {hp : List XC}
theorem wsmW_at : ∀ (gs cs : List WC) (h0 : Nat), wsmW h0 gs cs = true → ∀ (h : Nat) (g : WC), gs[h]? = some g → ∃ c, cs[h]? = some c ∧ wsmC (h0 + h) g c = true
  | [], _, _, _, h, g, hg => by cases hg
  | g0 :: gs, [], _, hb, _, _, _ => by cases hb
  | g0 :: gs, c0 :: cs, h0, hb, h, g, hg => by
    have h2 := Bool.and_eq_true_iff.mp hb
    cases h with
    | zero => cases hg; exact ⟨c0, rfl, h2.1⟩
    | succ h =>
      obtain ⟨c, e1, e2⟩ := wsmW_at gs cs (h0 + 1) h2.2 h g hg
      exact ⟨c, e1, by rw [show h0 + (h + 1) = h0 + 1 + h by omega]; exact e2⟩
theorem wsmL_at {h : Nat} : ∀ (gs vs : List WV) (k0 : Nat), wsmL h k0 gs vs = true → gs.length = vs.length ∧ ∀ (k : Nat) (g v : WV), gs[k]? = some g → vs[k]? = some v → wsmV h (k0 + k) g v = true
  | [], [], _, _ => ⟨rfl, fun k g v hg => by cases hg⟩
  | [], _ :: _, _, hb => by cases hb
  | _ :: _, [], _, hb => by cases hb
  | g0 :: gs, v0 :: vs, k0, hb => by
    have h2 := Bool.and_eq_true_iff.mp hb
    obtain ⟨i1, i2⟩ := wsmL_at gs vs (k0 + 1) h2.2
    refine ⟨by rw [List.length_cons, List.length_cons, i1], fun k g v hg hv => ?_⟩
    cases k with
    | zero => cases hg; cases hv; exact h2.1
    | succ k =>
      have := i2 k g v hg hv
      rw [show k0 + 1 + k = k0 + (k + 1) by omega] at this
      exact this
theorem wsm_s (hw : ∀ j, (ω j).category = 1) (H : WH A ρ σ ω W hp) (hb : wsmB W = true) : hSc hp A := by
  obtain ⟨ω', hω'⟩ : ∃ ω' : Nat → Value, ω' = fun j => wt ρ σ ω (wfl W (wpos j).1 (wpos j).2) := ⟨_, rfl⟩
  -- a place of the picture
  have place : ∀ (h k : Nat) (g : WC) (j : Nat), h < 17 → wGen[h]? = some g → (wels g)[k]? = some (.inr (.inr (.inr (.inr (.inr j))))) → ω' j = wt ρ σ ω (wfl W h k) ∧ (wIid j = true → wisN (wfl W h k) = true) := by
    intro h k g j hh hg hk
    obtain ⟨c, c1, c2⟩ := wsmW_at wGen W 0 hb h g hg
    rw [Nat.zero_add] at c2
    rcases g with p | p
    · rcases c with q | q
      · have c3 := Bool.and_eq_true_iff.mp c2
        obtain ⟨l1, l2⟩ := wsmL_at p.2 q.2 0 c3.2
        have hkl := (List.getElem?_eq_some_iff.mp hk).1
        obtain ⟨v, hv⟩ : ∃ v, q.2[k]? = some v := ⟨_, List.getElem?_eq_getElem (show k < q.2.length by rw [← l1]; exact hkl)⟩
        have l3 := l2 k _ v hk hv
        rw [Nat.zero_add] at l3
        have l4 := Bool.and_eq_true_iff.mp l3
        have l5 := Bool.and_eq_true_iff.mp l4.2
        have hf : wfl W h k = v := by unfold wfl; rw [c1]; show (q.2[k]?).getD wZ = v; rw [hv]; rfl
        refine ⟨by rw [hω']; dsimp only; rw [Nat.eq_of_beq_eq_true l4.1, Nat.eq_of_beq_eq_true l5.1], fun hi => ?_⟩
        have l6 := l5.2
        rw [hi] at l6
        rw [hf]
        exact l6
      · cases c2
    · rcases c with q | q
      · cases c2
      · have c3 := Bool.and_eq_true_iff.mp c2
        obtain ⟨l1, l2⟩ := wsmL_at p.2 q.2 0 c3.2
        have hkl := (List.getElem?_eq_some_iff.mp hk).1
        obtain ⟨v, hv⟩ : ∃ v, q.2[k]? = some v := ⟨_, List.getElem?_eq_getElem (show k < q.2.length by rw [← l1]; exact hkl)⟩
        have l3 := l2 k _ v hk hv
        rw [Nat.zero_add] at l3
        have l4 := Bool.and_eq_true_iff.mp l3
        have l5 := Bool.and_eq_true_iff.mp l4.2
        have hf : wfl W h k = v := by unfold wfl; rw [c1]; show (q.2[k]?).getD wZ = v; rw [hv]; rfl
        refine ⟨by rw [hω']; dsimp only; rw [Nat.eq_of_beq_eq_true l4.1, Nat.eq_of_beq_eq_true l5.1], fun hi => ?_⟩
        have l6 := l5.2
        rw [hi] at l6
        rw [hf]
        exact l6
  obtain ⟨ω2, hω2⟩ : ∃ ω2 : Nat → Value, ω2 = fun j => if wIid j = true then .int (ival (ω' j)) else ω' j := ⟨_, rfl⟩
  have cat : ∀ v, (wt ρ σ ω v).category = 1 := fun v => wt_cat hw v
  have key : ∀ (h : Nat) (g : WC), h < 17 → wGen[h]? = some g → ∀ (gs vs : List WV), (∀ k : Nat, gs[k]? = (wels g)[k]?) → (∀ k : Nat, k < vs.length → vs[k]? = some (wfl W h k)) → wsmL h 0 gs vs = true → gs.map (wt (fun h => A (60 + h)) (fun _ => 0) ω2) = vs.map (wt ρ σ ω) := by
    intro h g hh hg gs vs hgs hvs hl
    obtain ⟨l1, l2⟩ := wsmL_at gs vs 0 hl
    refine List.ext_getElem? (fun k => ?_)
    rw [List.getElem?_map, List.getElem?_map]
    by_cases hk : k < gs.length
    · obtain ⟨x, hx⟩ : ∃ x, gs[k]? = some x := ⟨_, List.getElem?_eq_getElem hk⟩
      have hv := hvs k (by omega)
      rw [hx, hv, Option.map_some, Option.map_some]
      refine congrArg some ?_
      have l3 := l2 k x _ hx hv
      have hgk := hgs k
      rw [hx] at hgk
      match x, l3, hgk with
      | (.inr (.inl n)), l3, _ =>
        have l4 := Bool.and_eq_true_iff.mp l3
        rw [wveq_s l4.2]
        show Value.ref (A (60 + n)) = .ref (ρ n)
        rw [H.2.1 n (Nat.le_of_ble_eq_true l4.1)]
      | (.inr (.inr (.inr (.inr (.inr j))))), _, hgk =>
        obtain ⟨p1, p2⟩ := place h k g j hh hg hgk.symm
        show ω2 j = wt ρ σ ω (wfl W h k)
        rw [hω2]
        dsimp only
        split
        · rename_i hi
          rw [p1, ← wisN_s H (p2 hi)]
        · exact p1
      | (.inl _), l3, _ => cases l3
      | (.inr (.inr (.inl _))), l3, _ => cases l3
      | (.inr (.inr (.inr (.inl ())))), l3, _ => cases l3
      | (.inr (.inr (.inr (.inr (.inl _))))), l3, _ => cases l3
    · rw [List.getElem?_eq_none (by omega), List.getElem?_eq_none (by omega)]
      rfl
  refine ⟨ω2, fun j => ?_, fun j hj => ⟨_, by rw [hω2]; exact if_pos hj⟩, fun h g hg => ?_⟩
  · rw [hω2]
    dsimp only
    split
    · rfl
    · rw [hω']; exact cat _
  · have hlt := (List.getElem?_eq_some_iff.mp hg).1
    rw [wGen_len] at hlt
    obtain ⟨c, c1, c2⟩ := wsmW_at wGen W 0 hb h g hg
    rw [Nat.zero_add] at c2
    rw [H.2.2 h c hlt c1]
    have hvs : ∀ (vs : List WV), wels c = vs → ∀ k : Nat, k < vs.length → vs[k]? = some (wfl W h k) := fun vs hv k hk => by
      have : wfl W h k = (vs[k]?).getD wZ := by
        unfold wfl
        rw [c1, ← hv]
        rcases c with q | q <;> rfl
      rw [this, List.getElem?_eq_getElem hk]
      rfl
    rcases g with p | p
    · rcases c with q | q
      · have c3 := Bool.and_eq_true_iff.mp c2
        have := key h (.inl p) hlt hg p.2 q.2 (fun k => rfl) (hvs _ rfl) c3.2
        show some (Sum.inl (q.1, q.2.map (wt ρ σ ω)) : XC) = some (Sum.inl (p.1, p.2.map _))
        rw [this, Nat.eq_of_beq_eq_true c3.1]
      · cases c2
    · rcases c with q | q
      · cases c2
      · have c3 := Bool.and_eq_true_iff.mp c2
        have := key h (.inr p) hlt hg p.2 q.2 (fun k => rfl) (hvs _ rfl) c3.2
        show some (Sum.inr (q.1, q.2.map (wt ρ σ ω)) : XC) = some (Sum.inr (p.1, p.2.map _))
        rw [this, Nat.eq_of_beq_eq_true c3.1]
end
