/-! queries: groups are offered (written by wip/p27/c999991.py) -/
/-- where the group that begins at a ends -/
def grE (C : Nat → Nat → Int32) (a : Nat) : Nat → Nat → Nat
  | 0, b => b
  | f + 1, b => if C a b = 0 then grE C a f (b + 1) else b
theorem grE_le (C : Nat → Nat → Int32) (a : Nat) : ∀ f b, b ≤ grE C a f b ∧ grE C a f b ≤ b + f := by
  intro f
  induction f with
  | zero => intro b; exact ⟨Nat.le_refl _, Nat.le_refl _⟩
  | succ f ih =>
    intro b
    have h := ih (b + 1)
    by_cases e : C a b = 0
    · rw [show grE C a (f + 1) b = grE C a f (b + 1) from if_pos e]; omega
    · rw [show grE C a (f + 1) b = b from if_neg e]; omega
/-- what is told group after group -/
def grG {σ : Type} (em : σ → Nat → Nat → σ) (C : Nat → Nat → Int32) (n : Nat) : Nat → Nat → σ → σ
  | 0, _, t => t
  | f + 1, a, t => if a < n then grG em C n f (grE C a (n - (a + 1)) (a + 1)) (em t a (grE C a (n - (a + 1)) (a + 1))) else t
theorem og_in {S : List Int32} {h : List XC} {q n a nc ns : Nat} {Q : XO → Prop} {fs : List Value} {pk : Nat → Int32} {C : Nat → Nat → Int32} (hq : h[q]? = some (.inr (7, fs))) (hf5 : fs[5]? = some (.int (Int32.ofNat n))) (hn : n < 2 ^ 31) (hpk : ∀ i, i < n → Pu S 0 152 [.ref q, .int (Int32.ofNat i)] h (.int (pk i))) (hcb : ∀ i j, i < n → j < n → Pu S 4 161 [.ref q, .int (pk i), .int (pk j)] h (.int (C i j))) (ha : a < n) : ∀ f b, b + f = n → At S 7 150 73 [(2, .int (Int32.ofNat (grE C a f b))), (1, .int (Int32.ofNat a)), (0, .ref q)] [] h nc ns Q → At S 7 150 42 [(2, .int (Int32.ofNat b)), (1, .int (Int32.ofNat a)), (0, .ref q)] [] h nc ns Q := by
  intro f
  induction f with
  | zero =>
    intro b hb hK
    refine At.go (q := xm150) rfl 2 (pc' := 44) (L' := [(2, .int (Int32.ofNat b)), (1, .int (Int32.ofNat a)), (0, .ref q)]) (st' := [.ref q, .int (Int32.ofNat b)]) rfl ?_
    refine At.gf rfl (by decide) hq hf5 ?_
    refine At.ic2 (tgt := 73) rfl rfl (fun _ => ?_) (fun h => absurd (h.symm.trans (decide_eq_true ((iN_le (a := n) (b := b) (by omega) (by omega)).mpr (by omega)))) (by decide))
    exact hK
  | succ f ih =>
    intro b hb hK
    refine At.go (q := xm150) rfl 2 (pc' := 44) (L' := [(2, .int (Int32.ofNat b)), (1, .int (Int32.ofNat a)), (0, .ref q)]) (st' := [.ref q, .int (Int32.ofNat b)]) rfl ?_
    refine At.gf rfl (by decide) hq hf5 ?_
    refine At.ic2 (tgt := 73) rfl rfl (fun h => absurd (h.symm.trans (decide_eq_false (fun h => absurd ((iN_le (a := n) (b := b) (by omega) (by omega)).mp h) (by omega)))) (by decide)) (fun _ => ?_)
    refine At.go (q := xm150) rfl 3 (pc' := 53) (L' := [(2, .int (Int32.ofNat b)), (1, .int (Int32.ofNat a)), (0, .ref q)]) (st' := [.int (Int32.ofNat a), .ref q, .ref q]) rfl ?_
    refine At.clp (as := [.ref q, .int (Int32.ofNat a)]) (rest := [.ref q]) rfl (by decide) rfl (Nat.le_of_ble_eq_true rfl) (Nat.le_of_ble_eq_true rfl) (xrck_o (by decide) (by decide) hq (by decide)) (Nat.le_of_ble_eq_true rfl) (hpk a ha) ?_
    refine At.go (q := xm150) rfl 2 (pc' := 58) (L' := [(2, .int (Int32.ofNat b)), (1, .int (Int32.ofNat a)), (0, .ref q)]) (st' := [.int (Int32.ofNat b), .ref q, .int (pk a), .ref q]) rfl ?_
    refine At.clp (as := [.ref q, .int (Int32.ofNat b)]) (rest := [.int (pk a), .ref q]) rfl (by decide) rfl (Nat.le_of_ble_eq_true rfl) (Nat.le_of_ble_eq_true rfl) (xrck_o (by decide) (by decide) hq (by decide)) (Nat.le_of_ble_eq_true rfl) (hpk b (by omega)) ?_
    refine At.clp (as := [.ref q, .int (pk a), .int (pk b)]) (rest := []) rfl (by decide) rfl (Nat.le_of_ble_eq_true rfl) (Nat.le_of_ble_eq_true rfl) (xrck_o (by decide) (by decide) hq (by decide)) (Nat.le_of_ble_eq_true rfl) (hcb a b ha (by omega)) ?_
    refine At.ic1 (tgt := 73) rfl rfl (fun h64 => ?_) (fun h64 => ?_)
    · rw [show grE C a (f + 1) b = b from if_neg (of_decide_eq_true h64)] at hK
      exact hK
    · rw [show grE C a (f + 1) b = grE C a f (b + 1) from if_pos (xne_f h64)] at hK
      refine At.go (q := xm150) rfl 2 (pc' := 42) (L' := [(2, .int ((Int32.ofNat b) + 1)), (1, .int (Int32.ofNat a)), (0, .ref q)]) (st' := []) rfl ?_
      rw [iN_s]
      refine At.wk (L' := [(2, .int (Int32.ofNat (b + 1))), (1, .int (Int32.ofNat a)), (0, .ref q)]) (List.forall_mem_cons.mpr ⟨List.mem_of_getElem? (i := 0) rfl, (List.forall_mem_cons.mpr ⟨List.mem_of_getElem? (i := 1) rfl, (List.forall_mem_cons.mpr ⟨List.mem_of_getElem? (i := 2) rfl, (fun _ h => (List.not_mem_nil h).elim)⟩)⟩)⟩) (show ([2, 1, 0] : List Nat).Nodup by decide) ?_
      exact ih (b + 1) (by omega) hK
theorem og_out {S : List Int32} {σ : Type} {em : σ → Nat → Nat → σ} {J : σ → List XC → Nat → Nat → Prop} {K : σ → Nat → Nat → List XC → Nat → Nat → Prop} {q st n : Nat} {co : Int32} {pk : Nat → Int32} {C : Nat → Nat → Int32} (hn : n < 2 ^ 31) (hJ : ∀ t h nc ns, J t h nc ns → ∃ fs sf, h[q]? = some (.inr (7, fs)) ∧ h[st]? = some (.inr (12, sf)) ∧ fs[0]? = some (.ref st) ∧ fs[5]? = some (.int (Int32.ofNat n)) ∧ sf[15]? = some (.int co)) (hKq : ∀ t a b h nc ns, K t a b h nc ns → ∃ fs, h[q]? = some (.inr (7, fs))) (hpk : ∀ t h nc ns, J t h nc ns → ∀ i, i < n → Pu S 0 152 [.ref q, .int (Int32.ofNat i)] h (.int (pk i))) (hcb : ∀ t h nc ns, J t h nc ns → ∀ i j, i < n → j < n → Pu S 4 161 [.ref q, .int (pk i), .int (pk j)] h (.int (C i j))) (hR : ∀ t h nc ns a b, J t h nc ns → a < b → b ≤ n → Me S 6 151 [.ref q, .int (Int32.ofNat a), .int (Int32.ofNat b)] h (fun v h' c s => v = none ∧ K t a b h' (nc + c) (ns + s))) (hOf : ∀ t h nc ns a b, K t a b h nc ns → Me S 2 157 [.ref q] h (fun v h' c s => v = none ∧ J (em t a b) h' (nc + c) (ns + s))) {Q : XO → Prop} : ∀ (f a : Nat) (t : σ) (h : List XC) (nc ns : Nat), n ≤ a + f → a ≤ n → J t h nc ns → (∀ h' nc' ns', J (grG em C n f a t) h' nc' ns' → Q (.inl (none, h', nc', ns'))) → At S 7 150 30 [(1, .int (Int32.ofNat a)), (0, .ref q)] [] h nc ns Q := by
  intro f
  induction f with
  | zero =>
    intro a t h nc ns hf ha hj hK
    obtain ⟨fs, sf, hq, hst, hf0, hf5, hs15⟩ := hJ t h nc ns hj
    refine At.go (q := xm150) rfl 2 (pc' := 32) (L' := [(1, .int (Int32.ofNat a)), (0, .ref q)]) (st' := [.ref q, .int (Int32.ofNat a)]) rfl ?_
    refine At.gf rfl (by decide) hq hf5 ?_
    refine At.ic2 (tgt := 88) rfl rfl (fun _ => ?_) (fun h => absurd (h.symm.trans (decide_eq_true ((iN_le (a := n) (b := a) (by omega) (by omega)).mpr (by omega)))) (by decide))
    exact At.rt rfl rfl (hK h nc ns hj)
  | succ f ih =>
    intro a t h nc ns hf ha hj hK
    obtain ⟨fs, sf, hq, hst, hf0, hf5, hs15⟩ := hJ t h nc ns hj
    by_cases han : a < n
    · refine At.go (q := xm150) rfl 2 (pc' := 32) (L' := [(1, .int (Int32.ofNat a)), (0, .ref q)]) (st' := [.ref q, .int (Int32.ofNat a)]) rfl ?_
      refine At.gf rfl (by decide) hq hf5 ?_
      refine At.ic2 (tgt := 88) rfl rfl (fun h => absurd (h.symm.trans (decide_eq_false (fun h => absurd ((iN_le (a := n) (b := a) (by omega) (by omega)).mp h) (by omega)))) (by decide)) (fun _ => ?_)
      refine At.go (q := xm150) rfl 4 (pc' := 42) (L' := [(2, .int ((Int32.ofNat a) + 1)), (1, .int (Int32.ofNat a)), (0, .ref q)]) (st' := []) rfl ?_
      rw [iN_s]
      refine At.wk (L' := [(2, .int (Int32.ofNat (a + 1))), (1, .int (Int32.ofNat a)), (0, .ref q)]) (List.forall_mem_cons.mpr ⟨List.mem_of_getElem? (i := 0) rfl, (List.forall_mem_cons.mpr ⟨List.mem_of_getElem? (i := 1) rfl, (List.forall_mem_cons.mpr ⟨List.mem_of_getElem? (i := 2) rfl, (fun _ h => (List.not_mem_nil h).elim)⟩)⟩)⟩) (show ([2, 1, 0] : List Nat).Nodup by decide) ?_
      refine og_in hq hf5 hn (hpk t h nc ns hj) (hcb t h nc ns hj) han (n - (a + 1)) (a + 1) (by omega) ?_
      have hb := grE_le C a (n - (a + 1)) (a + 1)
      rw [show grG em C n (f + 1) a t = grG em C n f (grE C a (n - (a + 1)) (a + 1)) (em t a (grE C a (n - (a + 1)) (a + 1))) from if_pos han] at hK
      obtain ⟨b, eb⟩ : ∃ b, b = grE C a (n - (a + 1)) (a + 1) := ⟨_, rfl⟩
      rw [← eb] at hb hK ⊢
      refine At.go (q := xm150) rfl 3 (pc' := 76) (L' := [(2, .int (Int32.ofNat b)), (1, .int (Int32.ofNat a)), (0, .ref q)]) (st' := [.int (Int32.ofNat b), .int (Int32.ofNat a), .ref q]) rfl ?_
      refine At.clm (as := [.ref q, .int (Int32.ofNat a), .int (Int32.ofNat b)]) (rest := []) rfl (by decide) rfl (Nat.le_of_ble_eq_true rfl) (Nat.le_of_ble_eq_true rfl) (xrck_o (by decide) (by decide) hq (by decide)) (Nat.le_of_ble_eq_true rfl) (hR t h nc ns a b hj (by omega) (by omega)) (fun v9 h2 c2 s2 hv9 => ?_)
      obtain ⟨rfl, hk2⟩ := hv9
      obtain ⟨fs2, hq2⟩ := hKq t a b h2 (nc + c2) (ns + s2) hk2
      refine At.go (q := xm150) rfl 1 (pc' := 80) (L' := [(2, .int (Int32.ofNat b)), (1, .int (Int32.ofNat a)), (0, .ref q)]) (st' := [.ref q]) rfl ?_
      refine At.clm (as := [.ref q]) (rest := []) rfl (by decide) rfl (Nat.le_of_ble_eq_true rfl) (Nat.le_of_ble_eq_true rfl) (xrck_o (by decide) (by decide) hq2 (by decide)) (Nat.le_of_ble_eq_true rfl) (hOf t h2 (nc + c2) (ns + s2) a b hk2) (fun v9 h3 c3 s3 hv9 => ?_)
      obtain ⟨rfl, hj3⟩ := hv9
      refine At.go (q := xm150) rfl 3 (pc' := 30) (L' := [(1, .int (Int32.ofNat b)), (2, .int (Int32.ofNat b)), (0, .ref q)]) (st' := []) rfl ?_
      refine At.wk (L' := [(1, .int (Int32.ofNat b)), (0, .ref q)]) (List.forall_mem_cons.mpr ⟨List.mem_of_getElem? (i := 0) rfl, (List.forall_mem_cons.mpr ⟨List.mem_of_getElem? (i := 2) rfl, (fun _ h => (List.not_mem_nil h).elim)⟩)⟩) (show ([1, 2, 0] : List Nat).Nodup by decide) ?_
      exact ih b (em t a b) h3 (nc + c2 + c3) (ns + s2 + s3) (by omega) (by omega) hj3 hK
    · refine At.go (q := xm150) rfl 2 (pc' := 32) (L' := [(1, .int (Int32.ofNat a)), (0, .ref q)]) (st' := [.ref q, .int (Int32.ofNat a)]) rfl ?_
      refine At.gf rfl (by decide) hq hf5 ?_
      refine At.ic2 (tgt := 88) rfl rfl (fun _ => ?_) (fun h => absurd (h.symm.trans (decide_eq_true ((iN_le (a := n) (b := a) (by omega) (by omega)).mpr (by omega)))) (by decide))
      rw [show grG em C n (f + 1) a t = t from if_neg han] at hK
      exact At.rt rfl rfl (hK h nc ns hj)
theorem m_groups0 {hp : List XC} {S : List Int32} {σ : Type} {em : σ → Nat → Nat → σ} {J : σ → List XC → Nat → Nat → Prop} {K : σ → Nat → Nat → List XC → Nat → Nat → Prop} {q st n : Nat} {co : Int32} {pk : Nat → Int32} {C : Nat → Nat → Int32} (hn : n < 2 ^ 31) (hJ : ∀ t h nc ns, J t h nc ns → ∃ fs sf, h[q]? = some (.inr (7, fs)) ∧ h[st]? = some (.inr (12, sf)) ∧ fs[0]? = some (.ref st) ∧ fs[5]? = some (.int (Int32.ofNat n)) ∧ sf[15]? = some (.int co)) (hKq : ∀ t a b h nc ns, K t a b h nc ns → ∃ fs, h[q]? = some (.inr (7, fs))) (hOf : ∀ t h nc ns a b, K t a b h nc ns → Me S 2 157 [.ref q] h (fun v h' c s => v = none ∧ J (em t a b) h' (nc + c) (ns + s))) {t : σ} (hj0 : J t hp 0 0) (hco : co = 0) (hR0 : Me S 6 151 [.ref q, .int 0, .int (Int32.ofNat n)] hp (fun v h' c s => v = none ∧ K t 0 n h' (0 + c) (0 + s))) : Me S 7 150 [.ref q] hp (fun v hp' c s => v = none ∧ J (em t 0 n) hp' c s) := by
  obtain ⟨fs, sf, hq, hst, hf0, hf5, hs15⟩ := hJ t hp 0 0 hj0
  refine At.go (q := xm150) rfl 1 (pc' := 1) (L' := [(0, .ref q)]) (st' := [.ref q]) rfl ?_
  refine At.gf rfl (by decide) hq hf0 ?_
  refine At.gf rfl (by decide) hst hs15 ?_
  refine At.ic1 (tgt := 24) rfl rfl (fun h => absurd (h.symm.trans (decide_eq_false (fun h => h hco))) (by decide)) (fun _ => ?_)
  refine At.go (q := xm150) rfl 3 (pc' := 13) (L' := [(0, .ref q)]) (st' := [.ref q, .int 0, .ref q]) rfl ?_
  refine At.gf rfl (by decide) hq hf5 ?_
  refine At.clm (as := [.ref q, .int 0, .int (Int32.ofNat n)]) (rest := []) rfl (by decide) rfl (Nat.le_of_ble_eq_true rfl) (Nat.le_of_ble_eq_true rfl) (xrck_o (by decide) (by decide) hq (by decide)) (Nat.le_of_ble_eq_true rfl) (hR0) (fun v9 h2 c2 s2 hv9 => ?_)
  obtain ⟨rfl, hk2⟩ := hv9
  obtain ⟨fs2, hq2⟩ := hKq t 0 n h2 (0 + c2) (0 + s2) hk2
  refine At.go (q := xm150) rfl 1 (pc' := 20) (L' := [(0, .ref q)]) (st' := [.ref q]) rfl ?_
  refine At.clm (as := [.ref q]) (rest := []) rfl (by decide) rfl (Nat.le_of_ble_eq_true rfl) (Nat.le_of_ble_eq_true rfl) (xrck_o (by decide) (by decide) hq2 (by decide)) (Nat.le_of_ble_eq_true rfl) (hOf t h2 (0 + c2) (0 + s2) 0 n hk2) (fun v9 h3 c3 s3 hv9 => ?_)
  obtain ⟨rfl, hj3⟩ := hv9
  exact At.rt rfl rfl ⟨_, _, _, _, rfl, rfl, hj3⟩
theorem m_groupsN {hp : List XC} {S : List Int32} {σ : Type} {em : σ → Nat → Nat → σ} {J : σ → List XC → Nat → Nat → Prop} {K : σ → Nat → Nat → List XC → Nat → Nat → Prop} {q st n : Nat} {co : Int32} {pk : Nat → Int32} {C : Nat → Nat → Int32} (hn : n < 2 ^ 31) (hJ : ∀ t h nc ns, J t h nc ns → ∃ fs sf, h[q]? = some (.inr (7, fs)) ∧ h[st]? = some (.inr (12, sf)) ∧ fs[0]? = some (.ref st) ∧ fs[5]? = some (.int (Int32.ofNat n)) ∧ sf[15]? = some (.int co)) (hKq : ∀ t a b h nc ns, K t a b h nc ns → ∃ fs, h[q]? = some (.inr (7, fs))) (hpk : ∀ t h nc ns, J t h nc ns → ∀ i, i < n → Pu S 0 152 [.ref q, .int (Int32.ofNat i)] h (.int (pk i))) (hcb : ∀ t h nc ns, J t h nc ns → ∀ i j, i < n → j < n → Pu S 4 161 [.ref q, .int (pk i), .int (pk j)] h (.int (C i j))) (hR : ∀ t h nc ns a b, J t h nc ns → a < b → b ≤ n → Me S 6 151 [.ref q, .int (Int32.ofNat a), .int (Int32.ofNat b)] h (fun v h' c s => v = none ∧ K t a b h' (nc + c) (ns + s))) (hOf : ∀ t h nc ns a b, K t a b h nc ns → Me S 2 157 [.ref q] h (fun v h' c s => v = none ∧ J (em t a b) h' (nc + c) (ns + s))) {t1 : σ} {fs sf : List Value} (hq : hp[q]? = some (.inr (7, fs))) (hst : hp[st]? = some (.inr (12, sf))) (hf0 : fs[0]? = some (.ref st)) (hf5 : fs[5]? = some (.int (Int32.ofNat n))) (hs15 : sf[15]? = some (.int co)) (hco : co ≠ 0) (hso : Me S 6 159 [.ref q] hp (fun v h' c s => v = none ∧ J t1 h' (0 + c) (0 + s))) : Me S 7 150 [.ref q] hp (fun v hp' c s => v = none ∧ J (grG em C n n 0 t1) hp' c s) := by
  refine At.go (q := xm150) rfl 1 (pc' := 1) (L' := [(0, .ref q)]) (st' := [.ref q]) rfl ?_
  refine At.gf rfl (by decide) hq hf0 ?_
  refine At.gf rfl (by decide) hst hs15 ?_
  refine At.ic1 (tgt := 24) rfl rfl (fun _ => ?_) (fun h => absurd (h.symm.trans (decide_eq_true hco)) (by decide))
  refine At.go (q := xm150) rfl 1 (pc' := 25) (L' := [(0, .ref q)]) (st' := [.ref q]) rfl ?_
  refine At.clm (as := [.ref q]) (rest := []) rfl (by decide) rfl (Nat.le_of_ble_eq_true rfl) (Nat.le_of_ble_eq_true rfl) (xrck_o (by decide) (by decide) hq (by decide)) (Nat.le_of_ble_eq_true rfl) (hso) (fun v9 h1 c1 s1 hv9 => ?_)
  obtain ⟨rfl, hj1⟩ := hv9
  refine At.go (q := xm150) rfl 2 (pc' := 30) (L' := [(1, .int 0), (0, .ref q)]) (st' := []) rfl ?_
  refine At.wk (L' := [(1, .int (Int32.ofNat 0)), (0, .ref q)]) (List.forall_mem_cons.mpr ⟨List.mem_of_getElem? (i := 0) rfl, (List.forall_mem_cons.mpr ⟨List.mem_of_getElem? (i := 1) rfl, (fun _ h => (List.not_mem_nil h).elim)⟩)⟩) (show ([1, 0] : List Nat).Nodup by decide) ?_
  exact og_out hn hJ hKq hpk hcb hR hOf n 0 t1 h1 (0 + c1) (0 + s1) (by omega) (by omega) hj1 (fun h' nc' ns' hj' => ⟨_, _, _, _, rfl, rfl, hj'⟩)
