/-! queries: lines are offered row by row, and the answer's end (written by wip/p27/c999992.py) -/
/-- what is told row after row -/
def ofG {σ : Type} (em : σ → Nat → Nat → σ) : Nat → Nat → σ → σ
  | 0, _, t => t
  | f + 1, i, t => ofG em f (i + 1) (em t i (i + 1))
/-- whether an answer is not too long -/
def anE (off top : Int32) : Int32 := if (150 : Int32) < (if top < off then top else off) then 0 else 1
theorem an_loop {S : List Int32} {σ : Type} {em : σ → Nat → Nat → σ} {J : σ → List XC → Nat → Nat → Prop} {K : σ → Nat → Nat → List XC → Nat → Nat → Prop} {q n : Nat} {top : Int32} (hn : n < 2 ^ 31 - 1) (hJ : ∀ t h nc ns, J t h nc ns → ∃ fs, h[q]? = some (.inr (7, fs)) ∧ fs[5]? = some (.int (Int32.ofNat n))) (hKq : ∀ t a b h nc ns, K t a b h nc ns → ∃ fs, h[q]? = some (.inr (7, fs))) (hR : ∀ t h nc ns i, J t h nc ns → i < n → Me S 6 151 [.ref q, .int (Int32.ofNat i), .int (Int32.ofNat (i + 1))] h (fun v h' c s => v = none ∧ K t i (i + 1) h' (nc + c) (ns + s))) (hOf : ∀ t h nc ns a b, K t a b h nc ns → Me S 2 157 [.ref q] h (fun v h' c s => v = none ∧ J (em t a b) h' (nc + c) (ns + s))) {Q : XO → Prop} : ∀ (f i : Nat) (t : σ) (h : List XC) (nc ns : Nat), i + f = n → J t h nc ns → (∀ h' nc' ns', J (ofG em f i t) h' nc' ns' → At S 8 139 209 [(5, .int top), (0, .ref q)] [] h' nc' ns' Q) → At S 8 139 180 [(6, .int (Int32.ofNat i)), (5, .int top), (0, .ref q)] [] h nc ns Q := by
  intro f
  induction f with
  | zero =>
    intro i t h nc ns hf hj hK
    obtain ⟨fs, hq, hf5⟩ := hJ t h nc ns hj
    refine At.go (q := xm139) rfl 2 (pc' := 183) (L' := [(6, .int (Int32.ofNat i)), (5, .int top), (0, .ref q)]) (st' := [.ref q, .int (Int32.ofNat i)]) rfl ?_
    refine At.gf rfl (by decide) hq hf5 ?_
    refine At.ic2 (tgt := 209) rfl rfl (fun _ => ?_) (fun h => absurd (h.symm.trans (decide_eq_true ((iN_le (a := n) (b := i) (by omega) (by omega)).mpr (by omega)))) (by decide))
    refine At.wk (L' := [(5, .int top), (0, .ref q)]) (List.forall_mem_cons.mpr ⟨List.mem_of_getElem? (i := 1) rfl, (List.forall_mem_cons.mpr ⟨List.mem_of_getElem? (i := 2) rfl, (fun _ h => (List.not_mem_nil h).elim)⟩)⟩) (show ([6, 5, 0] : List Nat).Nodup by decide) ?_
    exact hK h nc ns hj
  | succ f ih =>
    intro i t h nc ns hf hj hK
    obtain ⟨fs, hq, hf5⟩ := hJ t h nc ns hj
    refine At.go (q := xm139) rfl 2 (pc' := 183) (L' := [(6, .int (Int32.ofNat i)), (5, .int top), (0, .ref q)]) (st' := [.ref q, .int (Int32.ofNat i)]) rfl ?_
    refine At.gf rfl (by decide) hq hf5 ?_
    refine At.ic2 (tgt := 209) rfl rfl (fun h => absurd (h.symm.trans (decide_eq_false (fun h => absurd ((iN_le (a := n) (b := i) (by omega) (by omega)).mp h) (by omega)))) (by decide)) (fun _ => ?_)
    refine At.go (q := xm139) rfl 5 (pc' := 196) (L' := [(6, .int (Int32.ofNat i)), (5, .int top), (0, .ref q)]) (st' := [.int ((Int32.ofNat i) + 1), .int (Int32.ofNat i), .ref q]) rfl ?_
    refine At.clm (as := [.ref q, .int (Int32.ofNat i), .int ((Int32.ofNat i) + 1)]) (rest := []) rfl (by decide) rfl (Nat.le_of_ble_eq_true rfl) (Nat.le_of_ble_eq_true rfl) (xrck_o (by decide) (by decide) hq (by decide)) (Nat.le_of_ble_eq_true rfl) ((by rw [iN_s]; exact hR t h nc ns i hj (by omega))) (fun v9 h2 c2 s2 hv9 => ?_)
    obtain ⟨rfl, hk2⟩ := hv9
    obtain ⟨fs2, hq2⟩ := hKq t i (i + 1) h2 (nc + c2) (ns + s2) hk2
    refine At.go (q := xm139) rfl 1 (pc' := 200) (L' := [(6, .int (Int32.ofNat i)), (5, .int top), (0, .ref q)]) (st' := [.ref q]) rfl ?_
    refine At.clm (as := [.ref q]) (rest := []) rfl (by decide) rfl (Nat.le_of_ble_eq_true rfl) (Nat.le_of_ble_eq_true rfl) (xrck_o (by decide) (by decide) hq2 (by decide)) (Nat.le_of_ble_eq_true rfl) (hOf t h2 (nc + c2) (ns + s2) i (i + 1) hk2) (fun v9 h3 c3 s3 hv9 => ?_)
    obtain ⟨rfl, hj3⟩ := hv9
    refine At.go (q := xm139) rfl 2 (pc' := 180) (L' := [(6, .int ((Int32.ofNat i) + 1)), (5, .int top), (0, .ref q)]) (st' := []) rfl ?_
    rw [iN_s]
    refine At.wk (L' := [(6, .int (Int32.ofNat (i + 1))), (5, .int top), (0, .ref q)]) (List.forall_mem_cons.mpr ⟨List.mem_of_getElem? (i := 0) rfl, (List.forall_mem_cons.mpr ⟨List.mem_of_getElem? (i := 1) rfl, (List.forall_mem_cons.mpr ⟨List.mem_of_getElem? (i := 2) rfl, (fun _ h => (List.not_mem_nil h).elim)⟩)⟩)⟩) (show ([6, 5, 0] : List Nat).Nodup by decide) ?_
    exact ih (i + 1) (em t i (i + 1)) h3 (nc + c2 + c3) (ns + s2 + s3) (by omega) hj3 hK
theorem an_end {S : List Int32} {h : List XC} {q nc ns : Nat} {off top : Int32} {fs : List Value} {Q : XO → Prop} (hq : h[q]? = some (.inr (7, fs))) (hf8 : fs[8]? = some (.int off)) (hK : Q (.inl (some (.int (anE off top)), h, nc, ns))) : At S 8 139 209 [(5, .int top), (0, .ref q)] [] h nc ns Q := by
  refine At.go (q := xm139) rfl 1 (pc' := 210) (L' := [(5, .int top), (0, .ref q)]) (st' := [.ref q]) rfl ?_
  refine At.gf rfl (by decide) hq hf8 ?_
  refine At.go (q := xm139) rfl 1 (pc' := 215) (L' := [(5, .int top), (0, .ref q)]) (st' := [.int top, .int off]) rfl ?_
  refine At.sp rfl (by decide) (g := ([.int (if top < off then top else off)], h)) rfl ?_
  refine At.go (q := xm139) rfl 1 (pc' := 221) (L' := [(5, .int top), (0, .ref q)]) (st' := [.int 150, .int (if top < off then top else off)]) rfl ?_
  refine At.ic2 (tgt := 228) rfl rfl (fun h221 => ?_) (fun h221 => ?_)
  · refine At.go (q := xm139) rfl 1 (pc' := 229) (L' := [(5, .int top), (0, .ref q)]) (st' := [.int 0]) rfl ?_
    exact At.rt rfl rfl (by rw [show anE off top = 0 from if_pos (of_decide_eq_true h221)] at hK; exact hK)
  · refine At.go (q := xm139) rfl 2 (pc' := 229) (L' := [(5, .int top), (0, .ref q)]) (st' := [.int 1]) rfl ?_
    exact At.rt rfl rfl (by rw [show anE off top = 1 from if_neg (of_decide_eq_false h221)] at hK; exact hK)
