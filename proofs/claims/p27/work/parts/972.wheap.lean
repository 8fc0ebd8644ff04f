/-! small worlds: the heap -/
section WHEAP
variable {ρ σ : Nat → Nat} {ω : Nat → Value}
def WR (ρ σ : Nat → Nat) (ω : Nat → Value) (W : List WC) (hp : List XC) : Prop := (∀ h c, W[h]? = some c → hp[ρ h]? = some (wtc ρ σ ω c)) ∧ ∀ h, W.length ≤ h → ρ h = hp.length + (h - W.length)
/-- nothing else is changed -/
def WF (ρ : Nat → Nat) (hp hp' : List XC) : Prop := ∀ a, (∀ h, ρ h ≠ a) → hp'[a]? = hp[a]?
theorem WF.rf (hp : List XC) : WF ρ hp hp := fun _ _ => rfl
theorem WF.tr {hp hp1 hp2 : List XC} (h1 : WF ρ hp hp1) (h2 : WF ρ hp1 hp2) : WF ρ hp hp2 := fun a ha => (h2 a ha).trans (h1 a ha)
theorem WR.set (hρ : ∀ a b, ρ a = ρ b → a = b) {W : List WC} {hp : List XC} (H : WR ρ σ ω W hp) {h : Nat} {c0 : WC} (hc : W[h]? = some c0) (c : WC) : WR ρ σ ω (W.set h c) (hp.set (ρ h) (wtc ρ σ ω c)) := by
  refine ⟨fun h' c' e => ?_, fun h' hl => by simp only [List.length_set] at hl ⊢; exact H.2 h' hl⟩
  rw [List.getElem?_set] at e
  split at e
  · rename_i eq
    subst eq
    split at e
    · cases e
      rw [List.getElem?_set_self (List.getElem?_eq_some_iff.mp (H.1 _ _ hc)).1]
    · cases e
  · rename_i ne
    rw [List.getElem?_set_ne (fun q => ne (hρ _ _ q))]
    exact H.1 _ _ e
theorem WF.set {hp : List XC} {h : Nat} {c : XC} : WF ρ hp (hp.set (ρ h) c) := fun a ha => List.getElem?_set_ne (ha h)
theorem WR.push {W : List WC} {hp : List XC} (H : WR ρ σ ω W hp) (c : WC) : WR ρ σ ω (W ++ [c]) (hp ++ [wtc ρ σ ω c]) := by
  refine ⟨fun h c' e => ?_, fun h hl => ?_⟩
  · by_cases hlt : h < W.length
    · rw [List.getElem?_append_left hlt] at e
      have := H.1 _ _ e
      rw [List.getElem?_append_left (List.getElem?_eq_some_iff.mp this).1]
      exact this
    · rw [List.getElem?_append_right (by omega)] at e
      have h0 : h - W.length = 0 := by
        have := (List.getElem?_eq_some_iff.mp e).1
        rw [List.length_singleton] at this
        omega
      rw [h0] at e
      cases e
      rw [H.2 h (by omega), h0, List.getElem?_append_right (by omega), Nat.add_zero, Nat.sub_self]
      rfl
  · simp only [List.length_append, List.length_singleton] at hl ⊢
    rw [H.2 h (by omega)]
    omega
theorem WF.push {W : List WC} {hp : List XC} (H : WR ρ σ ω W hp) (c : XC) : WF ρ hp (hp ++ [c]) := fun a ha => by
  by_cases hlt : a < hp.length
  · exact List.getElem?_append_left hlt
  · exact absurd (show ρ (W.length + (a - hp.length)) = a by rw [H.2 _ (by omega)]; omega) (ha _)
/-! instructions -/
def weq (v w : WV) : Option Bool :=
  match v, w with
  | (.inr (.inr (.inr (.inl ())))), (.inr (.inr (.inr (.inl ())))) => some true
  | (.inr (.inr (.inr (.inl ())))), (.inr (.inl _)) => some false
  | (.inr (.inl _)), (.inr (.inr (.inr (.inl ())))) => some false
  | (.inr (.inr (.inr (.inl ())))), (.inr (.inr (.inl _))) => some false
  | (.inr (.inr (.inl _))), (.inr (.inr (.inr (.inl ())))) => some false
  | (.inr (.inl x)), (.inr (.inl y)) => some (Nat.beq x y)
  | (.inr (.inl _)), (.inr (.inr (.inl n))) => bif (xKC[n]?).isSome then some false else none
  | (.inr (.inr (.inl n))), (.inr (.inl _)) => bif (xKC[n]?).isSome then some false else none
  | (.inr (.inr (.inl x))), (.inr (.inr (.inl y))) => bif Nat.beq x y then some true else bif xapart xKC x y then some false else none
  | _, _ => none
theorem wkc {n : Nat} (h : (xKC[n]?).isSome = true) : n < xKC.length := by
  obtain ⟨c, hc⟩ := Option.isSome_iff_exists.mp h
  exact (List.getElem?_eq_some_iff.mp hc).1
theorem weq_s (hρ : ∀ a b, ρ a = ρ b → a = b) {v w : WV} {b : Bool} (h : weq v w = some b) : xeq xKC (wt ρ σ ω v) (wt ρ σ ω w) = some b := by
  unfold weq at h
  split at h
  · cases h; rfl
  · cases h; rfl
  · cases h; rfl
  · cases h; rfl
  · cases h; rfl
  · rename_i x y
    cases h
    show some (decide (ρ x = ρ y)) = some (Nat.beq x y)
    rw [w_beq]
    exact congrArg some (decide_eq_decide.mpr ⟨hρ _ _, fun e => by rw [e]⟩)
  · rename_i n
    obtain ⟨h1, h2⟩ := w_cond h
    cases h2
    show (if n < xKC.length then some false else none) = some false
    rw [if_pos (wkc h1)]
  · rename_i n _
    obtain ⟨h1, h2⟩ := w_cond h
    cases h2
    show (if n < xKC.length then some false else none) = some false
    rw [if_pos (wkc h1)]
  · rename_i x y
    show (if x = y then some true else if xapart xKC x y = true then some false else none) = some b
    rw [w_beq] at h
    by_cases e : x = y
    · rw [decide_eq_true e] at h
      rw [if_pos e]
      exact h
    · rw [decide_eq_false e] at h
      obtain ⟨h1, h2⟩ := w_cond (show (bif xapart xKC x y then some false else none) = some b from h)
      cases h2
      rw [if_neg e, if_pos h1]
  · cases h
def wac (pc : Nat) (ins : Instr) (st : List WV) : Option (Nat × List WV) :=
  match ins with
  | .if_acmp .eq off => match st with
    | w :: v :: r => match weq v w with
      | some b => (wtj pc off).map (fun t => (bif b then t else pc + 3, r))
      | none => none
    | _ => none
  | .if_acmp .ne off => match st with
    | w :: v :: r => match weq v w with
      | some b => (wtj pc off).map (fun t => (bif b then pc + 3 else t, r))
      | none => none
    | _ => none
  | _ => none
theorem wac_s (hρ : ∀ a b, ρ a = ρ b → a = b) {pc pc' : Nat} {ins : Instr} {st st' : List WV} (h : wac pc ins st = some (pc', st')) : xac xKC pc ins (st.map (wt ρ σ ω)) = some (pc', st'.map (wt ρ σ ω)) := by
  unfold wac at h
  split at h
  · split at h
    · split at h
      · rename_i b hb
        obtain ⟨t, ht, he⟩ := Option.map_eq_some_iff.mp h
        cases he
        show (xeq xKC (wt ρ σ ω _) (wt ρ σ ω _)).bind (fun b => xtg pc b _ (List.map (wt ρ σ ω) _)) = _
        rw [weq_s hρ hb]
        show xtg pc b _ _ = _
        rw [xtg_of (wtj_s ht)]
        cases b <;> rfl
      · cases h
    · cases h
  · split at h
    · split at h
      · rename_i b hb
        obtain ⟨t, ht, he⟩ := Option.map_eq_some_iff.mp h
        cases he
        show (xeq xKC (wt ρ σ ω _) (wt ρ σ ω _)).bind (fun b => xtg pc (!b) _ (List.map (wt ρ σ ω) _)) = _
        rw [weq_s hρ hb]
        show xtg pc (!b) _ _ = _
        rw [xtg_of (wtj_s ht)]
        cases b <;> rfl
      · cases h
    · cases h
  · cases h
def wgf (nk ci k : Nat) (W : List WC) (st : List WV) : Option (List WV) :=
  match st with
  | (.inr (.inl h)) :: r => bif !(Nat.beq nk 2) then (match W[h]? with
    | some (.inr q) => bif Nat.beq q.1 ci then (match q.2[k]? with
      | some v => bif wnu v then some (v :: r) else none
      | none => none) else none
    | _ => none) else none
  | (.inr (.inr (.inl h))) :: r => bif !(Nat.beq nk 1) then (match xfld ci k xKC[h]? with
    | some v => (wcv v).map (fun w => w :: r)
    | none => none) else none
  | _ => none
theorem wgf_s {nk ci k : Nat} {W : List WC} {hp : List XC} (H : WR ρ σ ω W hp) {st st' : List WV} (h : wgf nk ci k W st = some st') : xgf nk xKC hp ci k (st.map (wt ρ σ ω)) = some (st'.map (wt ρ σ ω)) := by
  unfold wgf at h
  split at h
  · obtain ⟨h1, h2⟩ := w_condo h
    split at h2
    · rename_i q e
      obtain ⟨h3, h4⟩ := w_condo h2
      split at h4
      · rename_i v e2
        obtain ⟨h5, h6⟩ := w_cond h4
        cases h6
        show (if nk ≠ 2 then (xfld ci k hp[ρ _]?).map (fun v => v :: List.map (wt ρ σ ω) _) else none) = _
        rw [w_beq, ← decide_not] at h1
        rw [if_pos (of_decide_eq_true h1), H.1 _ _ e]
        rw [w_beq] at h3
        unfold xfld wtc
        dsimp only
        rw [if_pos (of_decide_eq_true h3), List.getElem?_map, e2]
        rfl
      · cases h4
    · cases h2
  · obtain ⟨h1, h2⟩ := w_condo h
    split at h2
    · rename_i v e
      obtain ⟨w, hw, rfl⟩ := Option.map_eq_some_iff.mp h2
      show (if nk ≠ 1 then (xfld ci k xKC[_]?).map (fun v => v :: List.map (wt ρ σ ω) _) else none) = _
      rw [w_beq, ← decide_not] at h1
      rw [if_pos (of_decide_eq_true h1), e]
      show some (v :: _) = some (wt ρ σ ω w :: _)
      rw [wcv_s hw]
    · cases h2
  · cases h
def wpf (ft : FieldType) (ci k : Nat) (W : List WC) (st : List WV) : Option (List WC × List WV) :=
  match st with
  | v :: (.inr (.inl h)) :: r => match W[h]? with
    | some (.inr q) => bif Nat.beq q.1 ci && Nat.ble (k + 1) q.2.length && wfi ft v then some (W.set h (.inr (ci, q.2.set k v)), r) else none
    | _ => none
  | _ => none
theorem wpf_s (hρ : ∀ a b, ρ a = ρ b → a = b) {ft : FieldType} {ci k : Nat} {W W' : List WC} {hp : List XC} (H : WR ρ σ ω W hp) {st st' : List WV} (h : wpf ft ci k W st = some (W', st')) : ∃ hp', xpf ft hp ci k (st.map (wt ρ σ ω)) = some (hp', st'.map (wt ρ σ ω)) ∧ WR ρ σ ω W' hp' ∧ WF ρ hp hp' := by
  unfold wpf at h
  split at h
  · split at h
    · rename_i v h0 r _ q e
      obtain ⟨h1, h2⟩ := w_cond h
      cases h2
      simp only [Bool.and_eq_true] at h1
      obtain ⟨⟨h1, h2⟩, h3⟩ := h1
      have h1 := Nat.eq_of_beq_eq_true h1
      have e9 := H.1 _ _ e
      refine ⟨hp.set (ρ h0) (.inr (ci, (q.2.map (wt ρ σ ω)).set k (wt ρ σ ω v))), ?_, ?_, WF.set⟩
      · show xpf ft hp ci k (wt ρ σ ω v :: .ref (ρ h0) :: List.map (wt ρ σ ω) _) = _
        unfold xpf
        dsimp only
        rw [e9]
        unfold wtc
        dsimp only
        rw [if_pos ⟨h1, by rw [List.length_map]; exact Nat.le_of_ble_eq_true h2, wfi_s h3⟩, h1]
      · have := WR.set hρ H e (.inr (ci, q.2.set k v))
        unfold wtc at this
        dsimp only at this
        rw [List.map_set] at this
        exact this
    · cases h
  · cases h
def wal (ins : Instr) (W : List WC) (st : List WV) : Option (List WV) :=
  match st with
  | (.inl j) :: (.inr (.inl h)) :: r => match W[h]? with
    | some (.inl q) => bif Nat.ble (q.1 + 1) 30 && xap ins (xTy q.1) && Nat.ble (j + 1) 2147483648 then (match q.2[j]? with
      | some v => bif wint v then some (v :: r) else none
      | none => none) else none
    | _ => none
  | (.inl j) :: (.inr (.inr (.inl h))) :: r => match xKC[h]? with
    | some (.inl q) => bif Nat.ble (q.1 + 1) 30 && xap ins (xTy q.1) && Nat.ble (j + 1) 2147483648 then (match q.2[j]? with
      | some (.int x) => some ((.inl (wi x.toInt)) :: r)
      | _ => none) else none
    | _ => none
  | _ => none
theorem wb31 {j : Nat} (h : Nat.ble (j + 1) 2147483648 = true) : ¬ Int32.ofNat j < 0 ∧ (Int32.ofNat j).toNatClampNeg = j := by
  have h := Nat.le_of_ble_eq_true h
  exact ⟨iN_nn (by omega), iN_tn (by omega)⟩
theorem wal_s {ins : Instr} {W : List WC} {hp : List XC} (H : WR ρ σ ω W hp) {st st' : List WV} (h : wal ins W st = some st') : xald xTy 30 ins xKC hp (st.map (wt ρ σ ω)) = some (st'.map (wt ρ σ ω)) := by
  unfold wal at h
  split at h
  · split at h
    · rename_i j h0 r _ q e
      obtain ⟨h1, h2⟩ := w_condo h
      simp only [Bool.and_eq_true] at h1
      obtain ⟨⟨h1, h3⟩, h4⟩ := h1
      obtain ⟨k1, k2⟩ := wb31 h4
      split at h2
      · rename_i v e2
        obtain ⟨h5, h6⟩ := w_cond h2
        cases h6
        obtain ⟨x, hx⟩ := wint_s (ρ := ρ) (σ := σ) (ω := ω) h5
        show xald xTy 30 ins xKC hp (.int (Int32.ofNat j) :: .ref (ρ h0) :: List.map (wt ρ σ ω) r) = _
        unfold xald
        dsimp only
        rw [H.1 _ _ e]
        unfold wtc
        dsimp only
        rw [if_pos ⟨Nat.le_of_ble_eq_true h1, h3⟩]
        unfold xael
        rw [if_neg k1, k2, List.getElem?_map, e2, List.map_cons, hx]
        dsimp only [Option.map]
        rw [hx]
      · cases h2
    · cases h
  · split at h
    · rename_i j h0 r _ q e
      obtain ⟨h1, h2⟩ := w_condo h
      simp only [Bool.and_eq_true] at h1
      obtain ⟨⟨h1, h3⟩, h4⟩ := h1
      obtain ⟨k1, k2⟩ := wb31 h4
      split at h2
      · rename_i x e2
        cases h2
        show xald xTy 30 ins xKC hp (.int (Int32.ofNat j) :: .retAddr h0 :: List.map (wt ρ σ ω) r) = _
        unfold xald
        dsimp only
        rw [e]
        dsimp only
        rw [if_pos ⟨Nat.le_of_ble_eq_true h1, h3⟩]
        unfold xael
        rw [if_neg k1, k2, e2]
        show some (Value.int x :: _) = some (Value.int (Int32.ofNat (wi x.toInt)) :: _)
        rw [wi_s, Int32.ofInt_toInt]
      · cases h2
    · cases h
  · cases h
def was (ins : Instr) (W : List WC) (st : List WV) : Option (List WC × List WV) :=
  match st with
  | v :: (.inl j) :: (.inr (.inl h)) :: r => match W[h]? with
    | some (.inl q) => bif Nat.ble (q.1 + 1) 30 && xap ins (xTy q.1) && Nat.ble (j + 1) 2147483648 && Nat.ble (j + 1) q.2.length && wint v && wfi (xTy q.1) v then some (W.set h (.inl (q.1, q.2.set j v)), r) else none
    | _ => none
  | _ => none
theorem wnar {ft : FieldType} {x : Int32} (h : xfit ft (.int x) = true) : vp_nar ft x = x := by
  have h := (xfit_s h (fun _ => 0) (fun _ => 0)).1
  unfold vp_nar
  rw [show narrow ft (.int x) = .int x from h]
theorem was_s (hρ : ∀ a b, ρ a = ρ b → a = b) {ins : Instr} {W W' : List WC} {hp : List XC} (H : WR ρ σ ω W hp) {st st' : List WV} (h : was ins W st = some (W', st')) : ∃ hp', xast xTy 30 ins hp (st.map (wt ρ σ ω)) = some (hp', st'.map (wt ρ σ ω)) ∧ WR ρ σ ω W' hp' ∧ WF ρ hp hp' := by
  unfold was at h
  split at h
  · split at h
    · rename_i v j h0 r _ q e
      obtain ⟨h1, h2⟩ := w_cond h
      cases h2
      simp only [Bool.and_eq_true] at h1
      obtain ⟨⟨⟨⟨⟨h1, h2⟩, h3⟩, h4⟩, h5⟩, h6⟩ := h1
      obtain ⟨k1, k2⟩ := wb31 h3
      obtain ⟨x, hx⟩ := wint_s (ρ := ρ) (σ := σ) (ω := ω) h5
      have h7 := wfi_s (ρ := ρ) (σ := σ) (ω := ω) h6
      rw [hx] at h7
      refine ⟨hp.set (ρ h0) (.inl (q.1, (q.2.map (wt ρ σ ω)).set j (.int x))), ?_, ?_, WF.set⟩
      · show xast xTy 30 ins hp (wt ρ σ ω v :: .int (Int32.ofNat j) :: .ref (ρ h0) :: List.map (wt ρ σ ω) _) = _
        rw [hx]
        unfold xast
        dsimp only
        rw [H.1 _ _ e]
        unfold wtc
        dsimp only
        rw [if_pos ⟨Nat.le_of_ble_eq_true h1, h2, k1, by rw [k2, List.length_map]; exact Nat.le_of_ble_eq_true h4⟩, k2, wnar h7]
      · have := WR.set hρ H e (.inl (q.1, q.2.set j v))
        unfold wtc at this
        dsimp only at this
        rw [List.map_set, hx] at this
        exact this
    · cases h
  · cases h
def waal (W : List WC) (st : List WV) : Option (List WV) :=
  match st with
  | (.inl j) :: (.inr (.inl h)) :: r => match W[h]? with
    | some (.inl q) => bif Nat.ble (q.1 + 1) 30 && refKind (xTy q.1) && Nat.ble (j + 1) 2147483648 then (match q.2[j]? with
      | some v => bif wisr v then some (v :: r) else none
      | none => none) else none
    | _ => none
  | (.inl j) :: (.inr (.inr (.inl h))) :: r => match xKC[h]? with
    | some (.inl q) => bif Nat.ble (q.1 + 1) 30 && refKind (xTy q.1) && Nat.ble (j + 1) 2147483648 then (match q.2[j]? with
      | some v => (match wcv v with
        | some w => bif wisr w then some (w :: r) else none
        | none => none)
      | none => none) else none
    | _ => none
  | _ => none
theorem waal_s {W : List WC} {hp : List XC} (H : WR ρ σ ω W hp) {st st' : List WV} (h : waal W st = some st') : xaal xTy 30 xKC hp (st.map (wt ρ σ ω)) = some (st'.map (wt ρ σ ω)) := by
  unfold waal at h
  split at h
  · split at h
    · rename_i j h0 r _ q e
      obtain ⟨h1, h2⟩ := w_condo h
      simp only [Bool.and_eq_true] at h1
      obtain ⟨⟨h1, h3⟩, h4⟩ := h1
      obtain ⟨k1, k2⟩ := wb31 h4
      split at h2
      · rename_i v e2
        obtain ⟨h5, h6⟩ := w_cond h2
        cases h6
        show xaal xTy 30 xKC hp (.int (Int32.ofNat j) :: .ref (ρ h0) :: List.map (wt ρ σ ω) r) = _
        unfold xaal
        dsimp only
        rw [H.1 _ _ e]
        unfold wtc
        dsimp only
        rw [if_pos ⟨Nat.le_of_ble_eq_true h1, h3, k1⟩, k2, List.getElem?_map, e2]
        show (if xisr (wt ρ σ ω v) = true then _ else _) = _
        rw [if_pos (wisr_s h5)]
        rfl
      · cases h2
    · cases h
  · split at h
    · rename_i j h0 r _ q e
      obtain ⟨h1, h2⟩ := w_condo h
      simp only [Bool.and_eq_true] at h1
      obtain ⟨⟨h1, h3⟩, h4⟩ := h1
      obtain ⟨k1, k2⟩ := wb31 h4
      split at h2
      · rename_i v e2
        split at h2
        · rename_i w e3
          obtain ⟨h5, h6⟩ := w_cond h2
          cases h6
          have e4 := wcv_s (ρ := ρ) (σ := σ) (ω := ω) e3
          have h7 := wisr_s (ρ := ρ) (σ := σ) (ω := ω) h5
          show xaal xTy 30 xKC hp (.int (Int32.ofNat j) :: .retAddr h0 :: List.map (wt ρ σ ω) r) = _
          unfold xaal
          dsimp only
          rw [e]
          dsimp only
          rw [if_pos ⟨Nat.le_of_ble_eq_true h1, h3, k1⟩, k2, e2]
          rw [e4] at h7
          show (if xisr v = true then _ else _) = _
          rw [if_pos h7, List.map_cons, e4]
        · cases h2
      · cases h2
    · cases h
  · cases h
def wcls (W : List WC) (v : WV) : Option Nat :=
  match v with
  | (.inr (.inl h)) => match W[h]? with
    | some (.inr q) => some q.1
    | _ => none
  | (.inr (.inr (.inl h))) => match xKC[h]? with
    | some (.inr q) => some q.1
    | _ => none
  | _ => none
theorem wcls_s {W : List WC} {hp : List XC} (H : WR ρ σ ω W hp) {v : WV} {c : Nat} (h : wcls W v = some c) : xcls xKC hp (wt ρ σ ω v) = some c := by
  unfold wcls at h
  split at h
  · split at h
    · rename_i h0 _ q e
      cases h
      show xcls xKC hp (.ref (ρ h0)) = _
      unfold xcls
      dsimp only
      rw [H.1 _ _ e]
      rfl
    · cases h
  · split at h
    · rename_i h0 _ q e
      cases h
      show xcls xKC hp (.retAddr h0) = _
      unfold xcls
      dsimp only
      rw [e]
    · cases h
  · cases h
def waas (W : List WC) (st : List WV) : Option (List WC × List WV) :=
  match st with
  | v :: (.inl j) :: (.inr (.inl h)) :: r => match W[h]? with
    | some (.inl q) => bif Nat.ble (q.1 + 1) 30 && refKind (xTy q.1) && Nat.ble (j + 1) 2147483648 && Nat.ble (j + 1) q.2.length then (match v with
      | (.inr (.inr (.inr (.inl ())))) => some (W.set h (.inl (q.1, q.2.set j v)), r)
      | v => (match wcls W v with
        | some c => bif xSP.any (fun p => Nat.beq p.1 c && Nat.beq p.2 q.1) then some (W.set h (.inl (q.1, q.2.set j v)), r) else none
        | none => none)) else none
    | _ => none
  | _ => none
theorem waas_s (hρ : ∀ a b, ρ a = ρ b → a = b) {W W' : List WC} {hp : List XC} (H : WR ρ σ ω W hp) {st st' : List WV} (h : waas W st = some (W', st')) : ∃ hp', xaas xTy 30 xSP xKC hp (st.map (wt ρ σ ω)) = some (hp', st'.map (wt ρ σ ω)) ∧ WR ρ σ ω W' hp' ∧ WF ρ hp hp' := by
  unfold waas at h
  split at h
  · split at h
    · rename_i v j h0 r _ q e
      obtain ⟨h1, h2⟩ := w_condo h
      simp only [Bool.and_eq_true] at h1
      obtain ⟨⟨⟨h1, h3⟩, h4⟩, h5⟩ := h1
      obtain ⟨k1, k2⟩ := wb31 h4
      have hs := WR.set hρ H e (.inl (q.1, q.2.set j v))
      unfold wtc at hs
      dsimp only at hs
      rw [List.map_set] at hs
      have hc : refKind (xTy q.1) = true := h3
      split at h2
      · cases h2
        refine ⟨_, ?_, hs, WF.set⟩
        show xaas xTy 30 xSP xKC hp (.null :: .int (Int32.ofNat j) :: .ref (ρ h0) :: List.map (wt ρ σ ω) _) = _
        unfold xaas
        dsimp only
        rw [H.1 _ _ e]
        unfold wtc
        dsimp only
        rw [if_pos ⟨Nat.le_of_ble_eq_true h1, hc, k1, by rw [k2, List.length_map]; exact Nat.le_of_ble_eq_true h5⟩, if_pos rfl, k2]
        rfl
      · split at h2
        · rename_i c e2
          obtain ⟨h6, h7⟩ := w_cond h2
          cases h7
          refine ⟨_, ?_, hs, WF.set⟩
          have e3 := wcls_s H e2
          show xaas xTy 30 xSP xKC hp (wt ρ σ ω v :: .int (Int32.ofNat j) :: .ref (ρ h0) :: List.map (wt ρ σ ω) _) = _
          unfold xaas
          dsimp only
          rw [H.1 _ _ e]
          unfold wtc
          dsimp only
          rw [if_pos ⟨Nat.le_of_ble_eq_true h1, hc, k1, by rw [k2, List.length_map]; exact Nat.le_of_ble_eq_true h5⟩, k2]
          by_cases hn : wt ρ σ ω v = .null
          · rw [if_pos hn]
          · rw [if_neg hn, e3]
            dsimp only
            refine if_pos ?_
            obtain ⟨p, hp1, hp2⟩ := List.any_eq_true.mp h6
            simp only [Bool.and_eq_true] at hp2
            rw [← Nat.eq_of_beq_eq_true hp2.1, ← Nat.eq_of_beq_eq_true hp2.2]
            exact hp1
        · cases h2
    · cases h
  · cases h
def waln (W : List WC) (st : List WV) : Option (List WV) :=
  match st with
  | (.inr (.inl h)) :: r => match W[h]? with
    | some (.inl q) => some ((.inl q.2.length) :: r)
    | _ => none
  | (.inr (.inr (.inl h))) :: r => match xKC[h]? with
    | some (.inl q) => some ((.inl q.2.length) :: r)
    | _ => none
  | _ => none
theorem waln_s {W : List WC} {hp : List XC} (H : WR ρ σ ω W hp) {st st' : List WV} (h : waln W st = some st') : xaln xKC hp (st.map (wt ρ σ ω)) = some (st'.map (wt ρ σ ω)) := by
  unfold waln at h
  split at h
  · split at h
    · rename_i h0 r _ q e
      cases h
      show (xlen hp[ρ h0]?).map (fun n => .int n :: List.map (wt ρ σ ω) r) = _
      rw [H.1 _ _ e]
      show some (Value.int (Int32.ofNat (q.2.map (wt ρ σ ω)).length) :: _) = _
      rw [List.length_map]
      rfl
    · cases h
  · split at h
    · rename_i h0 r _ q e
      cases h
      show (xlen xKC[h0]?).map (fun n => .int n :: List.map (wt ρ σ ω) r) = _
      rw [e]
      rfl
    · cases h
  · cases h
def wcas (cs : List Nat) (W : List WC) (st : List WV) : Option (List WV) :=
  match st with
  | (.inr (.inr (.inr (.inl ())))) :: r => some ((.inr (.inr (.inr (.inl ())))) :: r)
  | (.inr (.inl h)) :: r => match W[h]? with
    | some (.inr q) => bif cs.any (fun c => Nat.beq c q.1) then some ((.inr (.inl h)) :: r) else none
    | _ => none
  | _ => none
theorem wany {cs : List Nat} {c : Nat} (h : cs.any (fun x => Nat.beq x c) = true) : c ∈ cs := by
  obtain ⟨p, h1, h2⟩ := List.any_eq_true.mp h
  rw [← Nat.eq_of_beq_eq_true h2]
  exact h1
theorem wcas_s {cs : List Nat} {W : List WC} {hp : List XC} (H : WR ρ σ ω W hp) {st st' : List WV} (h : wcas cs W st = some st') : xcas cs hp (st.map (wt ρ σ ω)) = some (st'.map (wt ρ σ ω)) := by
  unfold wcas at h
  split at h
  · cases h; rfl
  · split at h
    · rename_i h0 r _ q e
      obtain ⟨h1, h2⟩ := w_cond h
      cases h2
      show xcas cs hp (.ref (ρ h0) :: List.map (wt ρ σ ω) r) = _
      unfold xcas
      dsimp only
      rw [if_neg (by intro h; cases h)]
      unfold xcls
      dsimp only
      rw [H.1 _ _ e]
      unfold wtc
      dsimp only
      rw [if_pos (wany h1)]
      rfl
    · cases h
  · cases h
/-- an instruction that makes nothing -/
def wstep (nL : Nat) (e : XI) (pc : Nat) (L : List (Nat × WV)) (st : List WV) (W : List WC) : Option (Nat × List (Nat × WV) × List WV × List WC) :=
  match e.1 with
  | 0 => (wpu e.2.1 st).map (fun q => (pc + xln e.2.1, L, q, W))
  | 1 => (wlo nL e.2.1 L st).map (fun q => (pc + xln e.2.1, q.1, q.2, W))
  | 2 => (wbr pc e.2.1 st).map (fun q => (q.1, L, q.2, W))
  | 3 => (wac pc e.2.1 st).map (fun q => (q.1, L, q.2, W))
  | 4 => (wgf (e.2.2.2.2.2.headD 0) e.2.2.1 e.2.2.2.1 W st).map (fun q => (pc + 3, L, q, W))
  | 5 => (wpf (xFT e.2.2.1 e.2.2.2.1) e.2.2.1 e.2.2.2.1 W st).map (fun q => (pc + 3, L, q.2, q.1))
  | 6 => (wcv e.2.2.2.2.1).map (fun v => (pc + 3, L, v :: st, W))
  | 7 => (wcv e.2.2.2.2.1).map (fun v => (pc + xln e.2.1, L, v :: st, W))
  | 8 => (wcv e.2.2.2.2.1).map (fun v => (pc + xln e.2.1, L, v :: st, W))
  | 12 => (wal e.2.1 W st).map (fun q => (pc + 1, L, q, W))
  | 13 => (was e.2.1 W st).map (fun q => (pc + 1, L, q.2, q.1))
  | 14 => (waal W st).map (fun q => (pc + 1, L, q, W))
  | 15 => (waas W st).map (fun q => (pc + 1, L, q.2, q.1))
  | 16 => (waln W st).map (fun q => (pc + 1, L, q, W))
  | 17 => (wcas e.2.2.2.2.2 W st).map (fun q => (pc + 3, L, q, W))
  | _ => none
theorem wstep_s (hρ : ∀ a b, ρ a = ρ b → a = b) (hω : ∀ j, (ω j).category = 1) {S : List Int32} {nL : Nat} {e : XI} {pc : Nat} {L : List (Nat × WV)} {st : List WV} {W : List WC} {hp : List XC} (H : WR ρ σ ω W hp) {g : Nat × List (Nat × WV) × List WV × List WC} (h : wstep nL e pc L st W = some g) :
    e.1 < 20 ∧ ∃ hp', xstep (xZ S) nL e pc (L.map (wq ρ σ ω)) (st.map (wt ρ σ ω)) hp = some (g.1, g.2.1.map (wq ρ σ ω), g.2.2.1.map (wt ρ σ ω), hp', 0, 0) ∧ WR ρ σ ω g.2.2.2 hp' ∧ WF ρ hp hp' := by
  obtain ⟨kd, ins, a, b, v, xs⟩ := e
  unfold wstep at h
  dsimp only at h
  split at h
  · obtain ⟨q, hq, rfl⟩ := Option.map_eq_some_iff.mp h
    exact ⟨Nat.le_of_ble_eq_true rfl, hp, by unfold xstep; dsimp only; rw [wpu_s hω hq]; rfl, H, WF.rf hp⟩
  · obtain ⟨q, hq, rfl⟩ := Option.map_eq_some_iff.mp h
    exact ⟨Nat.le_of_ble_eq_true rfl, hp, by unfold xstep; dsimp only; rw [wlo_s hω hq]; rfl, H, WF.rf hp⟩
  · obtain ⟨q, hq, rfl⟩ := Option.map_eq_some_iff.mp h
    exact ⟨Nat.le_of_ble_eq_true rfl, hp, by unfold xstep; dsimp only; rw [wbr_s hq]; rfl, H, WF.rf hp⟩
  · obtain ⟨q, hq, rfl⟩ := Option.map_eq_some_iff.mp h
    exact ⟨Nat.le_of_ble_eq_true rfl, hp, by unfold xstep; dsimp only; rw [show xac (xZ S).2.2.2.2.2.1 pc ins (st.map (wt ρ σ ω)) = _ from wac_s hρ hq]; rfl, H, WF.rf hp⟩
  · obtain ⟨q, hq, rfl⟩ := Option.map_eq_some_iff.mp h
    exact ⟨Nat.le_of_ble_eq_true rfl, hp, by unfold xstep; dsimp only; rw [show xgf (xs.headD 0) (xZ S).2.2.2.2.2.1 hp a b (st.map (wt ρ σ ω)) = _ from wgf_s H hq]; rfl, H, WF.rf hp⟩
  · obtain ⟨q, hq, rfl⟩ := Option.map_eq_some_iff.mp h
    obtain ⟨hp', h1, h2, h3⟩ := wpf_s hρ H hq
    exact ⟨Nat.le_of_ble_eq_true rfl, hp', by unfold xstep; dsimp only; rw [show xpf ((xZ S).2.2.2.1 a b) hp a b (st.map (wt ρ σ ω)) = _ from h1]; rfl, h2, h3⟩
  · obtain ⟨q, hq, rfl⟩ := Option.map_eq_some_iff.mp h
    exact ⟨Nat.le_of_ble_eq_true rfl, hp, by unfold xstep; dsimp only; rw [List.map_cons, wcv_s hq]; rfl, H, WF.rf hp⟩
  · obtain ⟨q, hq, rfl⟩ := Option.map_eq_some_iff.mp h
    exact ⟨Nat.le_of_ble_eq_true rfl, hp, by unfold xstep; dsimp only; rw [List.map_cons, wcv_s hq]; rfl, H, WF.rf hp⟩
  · obtain ⟨q, hq, rfl⟩ := Option.map_eq_some_iff.mp h
    exact ⟨Nat.le_of_ble_eq_true rfl, hp, by unfold xstep; dsimp only; rw [List.map_cons, wcv_s hq]; rfl, H, WF.rf hp⟩
  · obtain ⟨q, hq, rfl⟩ := Option.map_eq_some_iff.mp h
    exact ⟨Nat.le_of_ble_eq_true rfl, hp, by unfold xstep; dsimp only; rw [show xald (xZ S).1 (xZ S).2.1 ins (xZ S).2.2.2.2.2.1 hp (st.map (wt ρ σ ω)) = _ from wal_s H hq]; rfl, H, WF.rf hp⟩
  · obtain ⟨q, hq, rfl⟩ := Option.map_eq_some_iff.mp h
    obtain ⟨hp', h1, h2, h3⟩ := was_s hρ H hq
    exact ⟨Nat.le_of_ble_eq_true rfl, hp', by unfold xstep; dsimp only; rw [show xast (xZ S).1 (xZ S).2.1 ins hp (st.map (wt ρ σ ω)) = _ from h1]; rfl, h2, h3⟩
  · obtain ⟨q, hq, rfl⟩ := Option.map_eq_some_iff.mp h
    exact ⟨Nat.le_of_ble_eq_true rfl, hp, by unfold xstep; dsimp only; rw [show xaal (xZ S).1 (xZ S).2.1 (xZ S).2.2.2.2.2.1 hp (st.map (wt ρ σ ω)) = _ from waal_s H hq]; rfl, H, WF.rf hp⟩
  · obtain ⟨q, hq, rfl⟩ := Option.map_eq_some_iff.mp h
    obtain ⟨hp', h1, h2, h3⟩ := waas_s hρ H hq
    exact ⟨Nat.le_of_ble_eq_true rfl, hp', by unfold xstep; dsimp only; rw [show xaas (xZ S).1 (xZ S).2.1 (xZ S).2.2.1 (xZ S).2.2.2.2.2.1 hp (st.map (wt ρ σ ω)) = _ from h1]; rfl, h2, h3⟩
  · obtain ⟨q, hq, rfl⟩ := Option.map_eq_some_iff.mp h
    exact ⟨Nat.le_of_ble_eq_true rfl, hp, by unfold xstep; dsimp only; rw [show xaln (xZ S).2.2.2.2.2.1 hp (st.map (wt ρ σ ω)) = _ from waln_s H hq]; rfl, H, WF.rf hp⟩
  · obtain ⟨q, hq, rfl⟩ := Option.map_eq_some_iff.mp h
    exact ⟨Nat.le_of_ble_eq_true rfl, hp, by unfold xstep; dsimp only; rw [wcas_s H hq]; rfl, H, WF.rf hp⟩
  · cases h
end WHEAP
