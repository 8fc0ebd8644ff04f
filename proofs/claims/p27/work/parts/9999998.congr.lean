/-! queries: answers hang on the picks alone (by hand) -/
theorem pkL_tk {ps : List Int32} {n i : Nat} (hi : i < n) : pkL (ps.take n) i = pkL ps i := by
  unfold pkL
  rw [List.getElem?_take, if_pos hi]
theorem fdG_congr {r r' : Nat → Int32} : ∀ (j k : Nat) (a : Int32 × Int64 × Int32 × Int32), (∀ i, k ≤ i → i < k + j → r i = r' i) → fdG r j k a = fdG r' j k a
  | 0, _, _, _ => rfl
  | j + 1, k, a, h => by
    unfold fdG
    rw [h k (Nat.le_refl _) (by omega)]
    exact fdG_congr j (k + 1) _ (fun i h1 h2 => h i (by omega) (by omega))
theorem lineX_congr {kd : Nat → Nat} {seg : Nat → List (Nat × Int32)} {rv : Int32 → RV} {pk pk' : Nat → Int32} {a b k : Nat} (hab : a < b ∨ ¬ kd k = 3) (h : ∀ i, a ≤ i → i < b → pk i = pk' i) : lineX kd seg rv pk a b k = lineX kd seg rv pk' a b k := by
  unfold lineX
  by_cases h30 : kd k = 30
  · rw [if_pos h30, if_pos h30]
  rw [if_neg h30, if_neg h30]
  by_cases h3 : kd k = 3
  · rw [if_pos h3, if_pos h3, h a (Nat.le_refl _) (hab.resolve_right (fun h => h h3))]
  rw [if_neg h3, if_neg h3, fdG_congr (b - a) a _ (fun i h1 h2 => by rw [h i h1 (by omega)])]
theorem lineB_congr {kd : Nat → Nat} {seg : Nat → List (Nat × Int32)} {rv : Int32 → RV} {pk pk' : Nat → Int32} {w a b : Nat} (hab : a < b ∨ ∀ k, k < w → ¬ kd k = 3) (h : ∀ i, a ≤ i → i < b → pk i = pk' i) : lineB kd seg rv pk w a b = lineB kd seg rv pk' w a b := by
  unfold lineB
  exact List.map_congr_left (fun k hk => lineX_congr (hab.imp id (fun h => h k (List.mem_range.mp hk))) h)
theorem lineA_congr {rv : Int32 → RV} {pk pk' : Nat → Int32} {w a : Nat} (h : pk a = pk' a) : lineA rv pk w a = lineA rv pk' w a := by
  unfold lineA
  rw [h]
theorem ofG_congr {σ : Type} {em em' : σ → Nat → Nat → σ} {n : Nat} (h : ∀ t i, i < n → em t i (i + 1) = em' t i (i + 1)) : ∀ (f i : Nat) (t : σ), i + f ≤ n → ofG em f i t = ofG em' f i t
  | 0, _, _, _ => rfl
  | f + 1, i, t, hf => by
    unfold ofG
    rw [h t i (by omega)]
    exact ofG_congr h f (i + 1) _ (by omega)
theorem grE_congr {C C' : Nat → Nat → Int32} {n a : Nat} (ha : a < n) (h : ∀ i j, i < n → j < n → C i j = C' i j) : ∀ (f b : Nat), b + f ≤ n → grE C a f b = grE C' a f b
  | 0, _, _ => rfl
  | f + 1, b, hf => by
    unfold grE
    rw [h a b ha (by omega), grE_congr ha h f (b + 1) (by omega)]
theorem grG_congr {σ : Type} {em em' : σ → Nat → Nat → σ} {C C' : Nat → Nat → Int32} {n : Nat} (hC : ∀ i j, i < n → j < n → C i j = C' i j) (h : ∀ t a b, a < b → b ≤ n → em t a b = em' t a b) : ∀ (f a : Nat) (t : σ), grG em C n f a t = grG em' C' n f a t
  | 0, _, _ => rfl
  | f + 1, a, t => by
    unfold grG
    by_cases ha : a < n
    · have hb := grE_le C a (n - (a + 1)) (a + 1)
      rw [if_pos ha, if_pos ha, ← grE_congr ha hC (n - (a + 1)) (a + 1) (by omega), h t a _ (by omega) (by omega)]
      exact grG_congr hC h f _ _
    · rw [if_neg ha, if_neg ha]
theorem plJ_mem {f : Nat → En → List Nat} {P : Nat → Prop} : ∀ (i : Nat) (es : List En), (∀ j e, es[j]? = some e → ∀ p ∈ f (i + j) e, P p) → ∀ p ∈ plJ f i es, P p
  | _, [], _, p, hp => by cases hp
  | i, e :: es, h, p, hp => by
    unfold plJ at hp
    rcases List.mem_append.mp hp with hp | hp
    · exact h 0 e rfl p hp
    · exact plJ_mem (i + 1) es (fun j e' he p hp => h (j + 1) e' he p (by rw [show i + (j + 1) = i + 1 + j by omega]; exact hp)) p hp
theorem prL_mem {ok : En → Bool} {base : Nat} : ∀ (j : Nat) (rs : List En), ∀ p ∈ prL ok base j rs, ∃ k, j ≤ k ∧ k < j + rs.length ∧ p = base + k
  | _, [], p, hp => by cases hp
  | j, r :: rs, p, hp => by
    unfold prL at hp
    have key : p ∈ prL ok base (j + 1) rs → ∃ k, j ≤ k ∧ k < j + (r :: rs).length ∧ p = base + k := fun hp => by
      obtain ⟨k, h1, h2, h3⟩ := prL_mem (j + 1) rs p hp
      exact ⟨k, by omega, by rw [List.length_cons]; omega, h3⟩
    split at hp
    · rcases List.mem_cons.mp hp with hp | hp
      · exact ⟨j, Nat.le_refl _, by rw [List.length_cons]; omega, hp⟩
      · exact key hp
    · exact key hp
/-- which rows are picked, as numbers -/
def xs0 (if0 if1 : Nat) (os : List (Nat × Int32)) (e1 : List En) : List Int32 := (plJ (onE if0 if1 os) 0 e1).map Int32.ofNat
def xsJ (if0 if1 : Nat) (os : List (Nat × Int32)) (fc sc : Int32) (e1 e2 : List En) : List Int32 := (plJ (prE if0 if1 os fc sc e2) 0 e1).map Int32.ofNat
theorem xs0_va {if0 if1 : Nat} {os : List (Nat × Int32)} {e1 : List En} {ps : List Int32} {n : Nat} (hn : n = (plJ (onE if0 if1 os) 0 e1).length) (hps : ps.take n = xs0 if0 if1 os e1) : ∀ i, i < n → Va0 e1 (pkL ps i) := fun i hi => by
  rw [← pkL_tk hi, hps]
  unfold xs0 pkL
  have hi2 : i < (plJ (onE if0 if1 os) 0 e1).length := by omega
  rw [List.getElem?_map, List.getElem?_eq_getElem hi2]
  have hm := plJ_mem (P := fun p => p < e1.length) 0 e1 (f := onE if0 if1 os) (fun j e he p hp => by
    unfold onE at hp
    split at hp
    · rw [Nat.zero_add] at hp
      rw [List.mem_singleton.mp hp]
      exact (List.getElem?_eq_some_iff.mp he).1
    · cases hp) _ (List.getElem_mem hi2)
  exact ⟨_, hm, rfl⟩
theorem xsJ_va {if0 if1 : Nat} {os : List (Nat × Int32)} {fc sc : Int32} {e1 e2 : List En} {ps : List Int32} {n : Nat} (hn : n = (plJ (prE if0 if1 os fc sc e2) 0 e1).length) (hps : ps.take n = xsJ if0 if1 os fc sc e1 e2) : ∀ i, i < n → VaJ e1 e2 (pkL ps i) := fun i hi => by
  rw [← pkL_tk hi, hps]
  unfold xsJ pkL
  have hi2 : i < (plJ (prE if0 if1 os fc sc e2) 0 e1).length := by omega
  rw [List.getElem?_map, List.getElem?_eq_getElem hi2]
  have hm := plJ_mem (P := fun p => ∃ x y, x < e1.length ∧ y < e2.length ∧ p = x * e2.length + y) 0 e1 (f := prE if0 if1 os fc sc e2) (fun j e he p hp => by
    unfold prE at hp
    split at hp
    · cases hp
    · obtain ⟨k, h1, h2, h3⟩ := prL_mem 0 e2 p hp
      rw [Nat.zero_add] at h3
      exact ⟨j, k, (List.getElem?_eq_some_iff.mp he).1, by omega, h3⟩) _ (List.getElem_mem hi2)
  obtain ⟨x, y, h1, h2, h3⟩ := hm
  exact ⟨x, y, h1, h2, by rw [← h3]; rfl⟩
theorem plJ_len {f : Nat → En → List Nat} {m : Nat} (h : ∀ i e, (f i e).length ≤ m) : ∀ (i : Nat) (es : List En), (plJ f i es).length ≤ es.length * m
  | _, [] => Nat.zero_le _
  | i, e :: es => by
    unfold plJ
    rw [List.length_append, List.length_cons, Nat.succ_mul]
    have h1 := h i e
    have h2 := plJ_len h (i + 1) es
    omega
theorem onE_len {if0 if1 : Nat} {os : List (Nat × Int32)} (i : Nat) (e : En) : (onE if0 if1 os i e).length ≤ 1 := by
  unfold onE
  split
  · exact Nat.le_refl _
  · exact Nat.zero_le _
