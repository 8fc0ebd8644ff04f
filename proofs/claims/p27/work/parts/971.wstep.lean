/-! small worlds: one instruction -/
section WSTEP
variable {ρ σ : Nat → Nat} {ω : Nat → Value}
def wrg (m : Nat) (n : Int) : Bool :=
  match n with
  | .ofNat k => Nat.ble (k + 1) m
  | .negSucc k => Nat.ble (k + 1) m
theorem wrg_s {m : Nat} {n : Int} (h : wrg m n = true) : -(m : Int) ≤ n ∧ n ≤ (m : Int) - 1 := by
  cases n with
  | ofNat k =>
    have h := Nat.le_of_ble_eq_true h
    show -(m : Int) ≤ (k : Int) ∧ (k : Int) ≤ (m : Int) - 1
    omega
  | negSucc k =>
    have h := Nat.le_of_ble_eq_true h
    rw [Int.negSucc_eq]
    omega
def wvia (F : Int32 → Int32 → Int32) (x y : Nat) : Nat := wi (F (Int32.ofNat x) (Int32.ofNat y)).toInt
theorem wvia_s (F : Int32 → Int32 → Int32) (x y : Nat) : Int32.ofNat (wvia F x y) = F (Int32.ofNat x) (Int32.ofNat y) := by
  unfold wvia
  rw [wi_s, Int32.ofInt_toInt]
def wvi1 (F : Int32 → Int32) (x : Nat) : Nat := wi (F (Int32.ofNat x)).toInt
theorem wvi1_s (F : Int32 → Int32) (x : Nat) : Int32.ofNat (wvi1 F x) = F (Int32.ofNat x) := by
  unfold wvi1
  rw [wi_s, Int32.ofInt_toInt]
def wF_ishl : Int32 → Int32 → Int32 := fun x y => x <<< (y &&& 31)
def wF_ishr : Int32 → Int32 → Int32 := fun x y => x >>> (y &&& 31)
def wF_iushr : Int32 → Int32 → Int32 := fun x y => (x.toUInt32 >>> (y.toUInt32 &&& Int32.toUInt32 31)).toInt32
def wF_iand : Int32 → Int32 → Int32 := fun x y => x &&& y
def wF_ior : Int32 → Int32 → Int32 := fun x y => x ||| y
def wF_ixor : Int32 → Int32 → Int32 := fun x y => x ^^^ y
def wF_ineg : Int32 → Int32 := fun x => -x
def wF_i2b : Int32 → Int32 := fun x => x.toInt8.toInt32
def wF_i2c : Int32 → Int32 := fun x => (x.toUInt32 % 65536).toInt32
def wF_idiv : Int32 → Int32 → Int32 := fun x y => x / y
def wF_irem : Int32 → Int32 → Int32 := fun x y => x - x / y * y
def wpu (ins : Instr) (st : List WV) : Option (List WV) :=
  match ins with
  | .aconst_null => some ((.inr (.inr (.inr (.inl ())))) :: st)
  | .iconst n => some ((.inl (wi n)) :: st)
  | .bipush n => bif wrg 128 n then some ((.inl (wi n)) :: st) else none
  | .sipush n => bif wrg 32768 n then some ((.inl (wi n)) :: st) else none
  | .iadd => match st with
    | w :: v :: r => (wo2 wadd v w).map (fun u => u :: r)
    | _ => none
  | .isub => match st with
    | w :: v :: r => (wo2 wsub v w).map (fun u => u :: r)
    | _ => none
  | .imul => match st with
    | w :: v :: r => (wo2 wmul v w).map (fun u => u :: r)
    | _ => none
  | .ishl => match st with
    | w :: v :: r => (wo2 (wvia wF_ishl) v w).map (fun u => u :: r)
    | _ => none
  | .ishr => match st with
    | w :: v :: r => (wo2 (wvia wF_ishr) v w).map (fun u => u :: r)
    | _ => none
  | .iushr => match st with
    | w :: v :: r => (wo2 (wvia wF_iushr) v w).map (fun u => u :: r)
    | _ => none
  | .iand => match st with
    | w :: v :: r => (wo2 (wvia wF_iand) v w).map (fun u => u :: r)
    | _ => none
  | .ior => match st with
    | w :: v :: r => (wo2 (wvia wF_ior) v w).map (fun u => u :: r)
    | _ => none
  | .ixor => match st with
    | w :: v :: r => (wo2 (wvia wF_ixor) v w).map (fun u => u :: r)
    | _ => none
  | .ineg => match st with
    | v :: r => (wo1 (wvi1 wF_ineg) v).map (fun u => u :: r)
    | _ => none
  | .i2b => match st with
    | v :: r => (wo1 (wvi1 wF_i2b) v).map (fun u => u :: r)
    | _ => none
  | .i2c => match st with
    | v :: r => (wo1 (wvi1 wF_i2c) v).map (fun u => u :: r)
    | _ => none
  | .idiv => match st with
    | (.inl y) :: v :: r => bif Nat.beq (y % 4294967296) 0 then none else (wo2 (wvia wF_idiv) v ((.inl y))).map (fun u => u :: r)
    | _ => none
  | .irem => match st with
    | (.inl y) :: v :: r => bif Nat.beq (y % 4294967296) 0 then none else (wo2 (wvia wF_irem) v ((.inl y))).map (fun u => u :: r)
    | _ => none
  | .dup => match st with
    | v :: r => some (v :: v :: r)
    | _ => none
  | .pop => match st with
    | _ :: r => some r
    | _ => none
  | .dup_x1 => match st with
    | v :: w :: r => some (v :: w :: v :: r)
    | _ => none
  | .dup2 => match st with
    | v :: w :: r => some (v :: w :: v :: w :: r)
    | _ => none
  | _ => none
theorem wt_cat (hω : ∀ j, (ω j).category = 1) (v : WV) : (wt ρ σ ω v).category = 1 := by
  rcases v with n | n | n | _ | ⟨k, vs⟩ | n
  · rfl
  · rfl
  · rfl
  · rfl
  · rfl
  · exact hω n
theorem wpu_s (hω : ∀ j, (ω j).category = 1) {ins : Instr} {st st' : List WV} (h : wpu ins st = some st') : xpu ins (st.map (wt ρ σ ω)) = some (st'.map (wt ρ σ ω)) := by
  cases ins with
  | aconst_null => cases h; rfl
  | iconst n =>
    cases h
    show some (Value.int (Int32.ofInt n) :: _) = some (Value.int (Int32.ofNat (wi n)) :: _)
    rw [wi_s]
  | bipush n =>
    unfold wpu at h
    dsimp only at h
    cases hb : wrg 128 n with
    | false => rw [hb] at h; cases h
    | true =>
      rw [hb] at h
      cases h
      obtain ⟨h1, h2⟩ := wrg_s hb
      show some (Value.int (Int8.ofInt n).toInt32 :: _) = some (Value.int (Int32.ofNat (wi n)) :: _)
      rw [wi_s, Int8.toInt32_ofInt (by rw [show Int8.minValue.toInt = -128 from by decide]; omega) (by rw [show Int8.maxValue.toInt = 127 from by decide]; omega)]
  | sipush n =>
    unfold wpu at h
    dsimp only at h
    cases hb : wrg 32768 n with
    | false => rw [hb] at h; cases h
    | true =>
      rw [hb] at h
      cases h
      obtain ⟨h1, h2⟩ := wrg_s hb
      show some (Value.int (Int16.ofInt n).toInt32 :: _) = some (Value.int (Int32.ofNat (wi n)) :: _)
      rw [wi_s, Int16.toInt32_ofInt (by rw [show Int16.minValue.toInt = -32768 from by decide]; omega) (by rw [show Int16.maxValue.toInt = 32767 from by decide]; omega)]
  | iadd =>
    unfold wpu at h
    dsimp only at h
    split at h
    · obtain ⟨u, hu, rfl⟩ := Option.map_eq_some_iff.mp h
      obtain ⟨x, y, h1, h2, h3⟩ := wo2_s (ρ := ρ) (σ := σ) (ω := ω) wadd_s hu
      rw [List.map_cons, List.map_cons, List.map_cons, h1, h2, h3]
      rfl
    · cases h
  | isub =>
    unfold wpu at h
    dsimp only at h
    split at h
    · obtain ⟨u, hu, rfl⟩ := Option.map_eq_some_iff.mp h
      obtain ⟨x, y, h1, h2, h3⟩ := wo2_s (ρ := ρ) (σ := σ) (ω := ω) wsub_s hu
      rw [List.map_cons, List.map_cons, List.map_cons, h1, h2, h3]
      rfl
    · cases h
  | imul =>
    unfold wpu at h
    dsimp only at h
    split at h
    · obtain ⟨u, hu, rfl⟩ := Option.map_eq_some_iff.mp h
      obtain ⟨x, y, h1, h2, h3⟩ := wo2_s (ρ := ρ) (σ := σ) (ω := ω) wmul_s hu
      rw [List.map_cons, List.map_cons, List.map_cons, h1, h2, h3]
      rfl
    · cases h
  | ishl =>
    unfold wpu at h
    dsimp only at h
    split at h
    · obtain ⟨u, hu, rfl⟩ := Option.map_eq_some_iff.mp h
      obtain ⟨x, y, h1, h2, h3⟩ := wo2_s (ρ := ρ) (σ := σ) (ω := ω) (wvia_s wF_ishl) hu
      rw [List.map_cons, List.map_cons, List.map_cons, h1, h2, h3]
      rfl
    · cases h
  | ishr =>
    unfold wpu at h
    dsimp only at h
    split at h
    · obtain ⟨u, hu, rfl⟩ := Option.map_eq_some_iff.mp h
      obtain ⟨x, y, h1, h2, h3⟩ := wo2_s (ρ := ρ) (σ := σ) (ω := ω) (wvia_s wF_ishr) hu
      rw [List.map_cons, List.map_cons, List.map_cons, h1, h2, h3]
      rfl
    · cases h
  | iushr =>
    unfold wpu at h
    dsimp only at h
    split at h
    · obtain ⟨u, hu, rfl⟩ := Option.map_eq_some_iff.mp h
      obtain ⟨x, y, h1, h2, h3⟩ := wo2_s (ρ := ρ) (σ := σ) (ω := ω) (wvia_s wF_iushr) hu
      rw [List.map_cons, List.map_cons, List.map_cons, h1, h2, h3]
      rfl
    · cases h
  | iand =>
    unfold wpu at h
    dsimp only at h
    split at h
    · obtain ⟨u, hu, rfl⟩ := Option.map_eq_some_iff.mp h
      obtain ⟨x, y, h1, h2, h3⟩ := wo2_s (ρ := ρ) (σ := σ) (ω := ω) (wvia_s wF_iand) hu
      rw [List.map_cons, List.map_cons, List.map_cons, h1, h2, h3]
      rfl
    · cases h
  | ior =>
    unfold wpu at h
    dsimp only at h
    split at h
    · obtain ⟨u, hu, rfl⟩ := Option.map_eq_some_iff.mp h
      obtain ⟨x, y, h1, h2, h3⟩ := wo2_s (ρ := ρ) (σ := σ) (ω := ω) (wvia_s wF_ior) hu
      rw [List.map_cons, List.map_cons, List.map_cons, h1, h2, h3]
      rfl
    · cases h
  | ixor =>
    unfold wpu at h
    dsimp only at h
    split at h
    · obtain ⟨u, hu, rfl⟩ := Option.map_eq_some_iff.mp h
      obtain ⟨x, y, h1, h2, h3⟩ := wo2_s (ρ := ρ) (σ := σ) (ω := ω) (wvia_s wF_ixor) hu
      rw [List.map_cons, List.map_cons, List.map_cons, h1, h2, h3]
      rfl
    · cases h
  | ineg =>
    unfold wpu at h
    dsimp only at h
    split at h
    · obtain ⟨u, hu, rfl⟩ := Option.map_eq_some_iff.mp h
      obtain ⟨x, h1, h3⟩ := wo1_s (ρ := ρ) (σ := σ) (ω := ω) (wvi1_s wF_ineg) hu
      rw [List.map_cons, List.map_cons, h1, h3]
      rfl
    · cases h
  | i2b =>
    unfold wpu at h
    dsimp only at h
    split at h
    · obtain ⟨u, hu, rfl⟩ := Option.map_eq_some_iff.mp h
      obtain ⟨x, h1, h3⟩ := wo1_s (ρ := ρ) (σ := σ) (ω := ω) (wvi1_s wF_i2b) hu
      rw [List.map_cons, List.map_cons, h1, h3]
      rfl
    · cases h
  | i2c =>
    unfold wpu at h
    dsimp only at h
    split at h
    · obtain ⟨u, hu, rfl⟩ := Option.map_eq_some_iff.mp h
      obtain ⟨x, h1, h3⟩ := wo1_s (ρ := ρ) (σ := σ) (ω := ω) (wvi1_s wF_i2c) hu
      rw [List.map_cons, List.map_cons, h1, h3]
      rfl
    · cases h
  | idiv =>
    unfold wpu at h
    dsimp only at h
    split at h
    · rename_i y v r
      cases hb : Nat.beq (y % 4294967296) 0 with
      | true => rw [hb] at h; cases h
      | false =>
        rw [hb] at h
        obtain ⟨u, hu, rfl⟩ := Option.map_eq_some_iff.mp h
        obtain ⟨x, y9, h1, h2, h3⟩ := wo2_s (ρ := ρ) (σ := σ) (ω := ω) (wvia_s wF_idiv) hu
        cases h2
        have hy : ¬ Int32.ofNat y = 0 := fun e => Nat.ne_of_beq_eq_false hb ((w_eq y 0).mp e)
        rw [List.map_cons, List.map_cons, List.map_cons, h1, h3]
        exact if_neg hy
    · cases h
  | irem =>
    unfold wpu at h
    dsimp only at h
    split at h
    · rename_i y v r
      cases hb : Nat.beq (y % 4294967296) 0 with
      | true => rw [hb] at h; cases h
      | false =>
        rw [hb] at h
        obtain ⟨u, hu, rfl⟩ := Option.map_eq_some_iff.mp h
        obtain ⟨x, y9, h1, h2, h3⟩ := wo2_s (ρ := ρ) (σ := σ) (ω := ω) (wvia_s wF_irem) hu
        cases h2
        have hy : ¬ Int32.ofNat y = 0 := fun e => Nat.ne_of_beq_eq_false hb ((w_eq y 0).mp e)
        rw [List.map_cons, List.map_cons, List.map_cons, h1, h3]
        exact if_neg hy
    · cases h
  | dup =>
    unfold wpu at h
    dsimp only at h
    split at h
    · cases h
      show (if (wt ρ σ ω _).category = 1 then _ else _) = _
      rw [if_pos (wt_cat hω _)]
      rfl
    · cases h
  | pop =>
    unfold wpu at h
    dsimp only at h
    split at h
    · cases h
      show (if (wt ρ σ ω _).category = 1 then _ else _) = _
      rw [if_pos (wt_cat hω _)]
    · cases h
  | dup_x1 =>
    unfold wpu at h
    dsimp only at h
    split at h
    · cases h
      show (if (wt ρ σ ω _).category = 1 ∧ (wt ρ σ ω _).category = 1 then _ else _) = _
      rw [if_pos ⟨wt_cat hω _, wt_cat hω _⟩]
      rfl
    · cases h
  | dup2 =>
    unfold wpu at h
    dsimp only at h
    split at h
    · cases h
      show (if (wt ρ σ ω _).category = 1 ∧ (wt ρ σ ω _).category = 1 then _ else _) = _
      rw [if_pos ⟨wt_cat hω _, wt_cat hω _⟩]
      rfl
    · cases h
  | _ => cases h
/-! locals -/
def wlk (i : Nat) : List (Nat × WV) → Option WV
  | [] => none
  | q :: L => bif Nat.beq q.1 i then some q.2 else wlk i L
theorem wlk_s (i : Nat) : ∀ (L : List (Nat × WV)), xlk i (L.map (wq ρ σ ω)) = (wlk i L).map (wt ρ σ ω)
  | [] => rfl
  | q :: L => by
    show (if q.1 = i then some (wt ρ σ ω q.2) else xlk i (L.map (wq ρ σ ω))) = Option.map (wt ρ σ ω) (bif Nat.beq q.1 i then some q.2 else wlk i L)
    rw [w_beq]
    by_cases h : q.1 = i
    · rw [if_pos h, decide_eq_true h]; rfl
    · rw [if_neg h, decide_eq_false h]; exact wlk_s i L
def wst1 (i : Nat) (v : WV) (L : List (Nat × WV)) : List (Nat × WV) := (i, v) :: L.filter (fun q => !(Nat.beq q.1 i))
theorem wst1_s (hω : ∀ j, (ω j).category = 1) (i : Nat) (v : WV) (L : List (Nat × WV)) : xst1 i (wt ρ σ ω v) (L.map (wq ρ σ ω)) = (wst1 i v L).map (wq ρ σ ω) := by
  unfold xst1 wst1
  rw [List.map_cons, List.filter_map]
  refine congrArg (fun z => _ :: z) (congrArg (List.map (wq ρ σ ω)) (congrArg (fun f => List.filter f L) (funext fun q => ?_)))
  show (!(q.1 == i) && !(q.1 + 1 == i && (wt ρ σ ω q.2).category == 2)) = !(Nat.beq q.1 i)
  rw [wt_cat hω, show ((1 : Nat) == 2) = false from rfl, Bool.and_false, Bool.not_false, Bool.and_true, w_beq]
  rfl
def wldi (k : Nat) (L : List (Nat × WV)) (st : List WV) : Option (List (Nat × WV) × List WV) :=
  match wlk k L with
  | some v => bif wint v then some (L, v :: st) else none
  | none => none
def wlda (k : Nat) (L : List (Nat × WV)) (st : List WV) : Option (List (Nat × WV) × List WV) :=
  match wlk k L with
  | some v => bif wisr v then some (L, v :: st) else none
  | none => none
def wsti (nL k : Nat) (L : List (Nat × WV)) (st : List WV) : Option (List (Nat × WV) × List WV) :=
  match st with
  | v :: r => bif wint v && Nat.ble (k + 1) nL then some (wst1 k v L, r) else none
  | [] => none
def wsta (nL k : Nat) (L : List (Nat × WV)) (st : List WV) : Option (List (Nat × WV) × List WV) :=
  match st with
  | v :: r => bif wisr v && Nat.ble (k + 1) nL then some (wst1 k v L, r) else none
  | [] => none
def winc (nL k : Nat) (n : Int) (L : List (Nat × WV)) (st : List WV) : Option (List (Nat × WV) × List WV) :=
  match wlk k L with
  | some v => match wo1 (fun x => wadd x (wi n)) v with
    | some u => bif Nat.ble (k + 1) nL then some (wst1 k u L, st) else none
    | none => none
  | none => none
def wlo (nL : Nat) (ins : Instr) (L : List (Nat × WV)) (st : List WV) : Option (List (Nat × WV) × List WV) :=
  match ins with
  | .iload k => wldi k L st
  | .iload_n k => wldi k L st
  | .aload k => wlda k L st
  | .aload_n k => wlda k L st
  | .istore k => wsti nL k L st
  | .istore_n k => wsti nL k L st
  | .astore k => wsta nL k L st
  | .astore_n k => wsta nL k L st
  | .iinc k n => winc nL k n L st
  | _ => none
theorem w_cond {α : Type} {b : Bool} {x y : α} (h : (bif b then some x else none) = some y) : b = true ∧ x = y := by
  cases b with
  | false => cases h
  | true => cases h; exact ⟨rfl, rfl⟩
theorem w_condo {α : Type} {b : Bool} {x : Option α} {y : α} (h : (bif b then x else none) = some y) : b = true ∧ x = some y := by
  cases b with
  | false => cases h
  | true => exact ⟨rfl, h⟩
theorem wldi_s {k : Nat} {L L' : List (Nat × WV)} {st st' : List WV} (h : wldi k L st = some (L', st')) : xldi k (L.map (wq ρ σ ω)) (st.map (wt ρ σ ω)) = some (L'.map (wq ρ σ ω), st'.map (wt ρ σ ω)) := by
  unfold wldi at h
  split at h
  · rename_i v e
    obtain ⟨h1, h2⟩ := w_cond h
    cases h2
    obtain ⟨x, hx⟩ := wint_s (ρ := ρ) (σ := σ) (ω := ω) h1
    unfold xldi
    rw [wlk_s, e, List.map_cons, hx]
    dsimp only [Option.map]
    rw [hx]
  · cases h
theorem wlda_s {k : Nat} {L L' : List (Nat × WV)} {st st' : List WV} (h : wlda k L st = some (L', st')) : xlda k (L.map (wq ρ σ ω)) (st.map (wt ρ σ ω)) = some (L'.map (wq ρ σ ω), st'.map (wt ρ σ ω)) := by
  unfold wlda at h
  split at h
  · rename_i v e
    obtain ⟨h1, h2⟩ := w_cond h
    cases h2
    unfold xlda
    rw [wlk_s, e, List.map_cons]
    rcases v with n | n | n | _ | ⟨k, vs⟩ | n <;> first | rfl | cases h1
  · cases h
theorem wsti_s (hω : ∀ j, (ω j).category = 1) {nL k : Nat} {L L' : List (Nat × WV)} {st st' : List WV} (h : wsti nL k L st = some (L', st')) : xsti nL k (L.map (wq ρ σ ω)) (st.map (wt ρ σ ω)) = some (L'.map (wq ρ σ ω), st'.map (wt ρ σ ω)) := by
  unfold wsti at h
  split at h
  · rename_i v r
    obtain ⟨h1, h2⟩ := w_cond h
    cases h2
    rw [Bool.and_eq_true] at h1
    obtain ⟨x, hx⟩ := wint_s (ρ := ρ) (σ := σ) (ω := ω) h1.1
    rw [List.map_cons, ← wst1_s hω, hx]
    unfold xsti
    exact if_pos (Nat.le_of_ble_eq_true h1.2)
  · cases h
theorem wsta_s (hω : ∀ j, (ω j).category = 1) {nL k : Nat} {L L' : List (Nat × WV)} {st st' : List WV} (h : wsta nL k L st = some (L', st')) : xsta nL k (L.map (wq ρ σ ω)) (st.map (wt ρ σ ω)) = some (L'.map (wq ρ σ ω), st'.map (wt ρ σ ω)) := by
  unfold wsta at h
  split at h
  · rename_i v r
    obtain ⟨h1, h2⟩ := w_cond h
    cases h2
    rw [Bool.and_eq_true] at h1
    have hk := Nat.le_of_ble_eq_true h1.2
    rw [List.map_cons, ← wst1_s hω]
    have h1 := h1.1
    unfold xsta
    rcases v with n | n | n | _ | ⟨k, vs⟩ | n
    · cases h1
    · exact if_pos hk
    · exact if_pos hk
    · exact if_pos hk
    · cases h1
    · cases h1
  · cases h
theorem winc_s (hω : ∀ j, (ω j).category = 1) {nL k : Nat} {n : Int} {L L' : List (Nat × WV)} {st st' : List WV} (h : winc nL k n L st = some (L', st')) : xinc nL k n (L.map (wq ρ σ ω)) (st.map (wt ρ σ ω)) = some (L'.map (wq ρ σ ω), st'.map (wt ρ σ ω)) := by
  unfold winc at h
  split at h
  · rename_i v e
    split at h
    · rename_i u e2
      obtain ⟨h1, h2⟩ := w_cond h
      cases h2
      obtain ⟨x, hx, hu⟩ := wo1_s (ρ := ρ) (σ := σ) (ω := ω) (F := fun x => x + Int32.ofInt n) (fun x => by rw [wadd_s, wi_s]) e2
      unfold xinc
      rw [wlk_s, e]
      dsimp only [Option.map]
      rw [hx]
      dsimp only
      rw [if_pos (show k < nL from Nat.le_of_ble_eq_true h1), ← wst1_s hω, hu]
    · cases h
  · cases h
theorem wlo_s (hω : ∀ j, (ω j).category = 1) {nL : Nat} {ins : Instr} {L L' : List (Nat × WV)} {st st' : List WV} (h : wlo nL ins L st = some (L', st')) : xlo nL ins (L.map (wq ρ σ ω)) (st.map (wt ρ σ ω)) = some (L'.map (wq ρ σ ω), st'.map (wt ρ σ ω)) := by
  cases ins with
  | iload k => exact wldi_s h
  | iload_n k => exact wldi_s h
  | aload k => exact wlda_s h
  | aload_n k => exact wlda_s h
  | istore k => exact wsti_s hω h
  | istore_n k => exact wsti_s hω h
  | astore k => exact wsta_s hω h
  | astore_n k => exact wsta_s hω h
  | iinc k n => exact winc_s hω h
  | _ => cases h
/-! branches -/
def wtj (pc : Nat) (off : Int) : Option Nat :=
  match (pc : Int) + off with
  | .ofNat t => some t
  | .negSucc _ => none
theorem wtj_s {pc t : Nat} {off : Int} (h : wtj pc off = some t) : (pc : Int) + off = (t : Int) := by
  unfold wtj at h
  split at h
  · rename_i e; cases h; exact e
  · cases h
theorem xtj_of {pc t : Nat} {off : Int} {st : List Value} (h : (pc : Int) + off = (t : Int)) : xtj pc off st = some (t, st) := by
  unfold xtj
  rw [h, if_pos (Int.natCast_nonneg t), Int.toNat_natCast]
theorem xtj_st {pc : Nat} {off : Int} {st st' : List Value} {q : Nat × List Value} (h : xtj pc off st = some q) : xtj pc off st' = some (q.1, st') := by
  unfold xtj at h ⊢
  split at h
  · rename_i e; cases h; exact if_pos e
  · cases h
def wbr (pc : Nat) (ins : Instr) (st : List WV) : Option (Nat × List WV) :=
  match ins with
  | .goto off => (wtj pc off).map (fun t => (t, st))
  | .ifCond o off => match st with
    | v :: r => match wcp o v ((.inl 0)) with
      | some b => (wtj pc off).map (fun t => (bif b then t else pc + 3, r))
      | none => none
    | _ => none
  | .if_icmp o off => match st with
    | w :: v :: r => match wcp o v w with
      | some b => (wtj pc off).map (fun t => (bif b then t else pc + 3, r))
      | none => none
    | _ => none
  | .ifnull off => match st with
    | (.inr (.inr (.inr (.inl ())))) :: r => (wtj pc off).map (fun t => (t, r))
    | (.inr (.inl _)) :: r => some (pc + 3, r)
    | (.inr (.inr (.inl _))) :: r => some (pc + 3, r)
    | _ => none
  | .ifnonnull off => match st with
    | (.inr (.inr (.inr (.inl ())))) :: r => some (pc + 3, r)
    | (.inr (.inl _)) :: r => (wtj pc off).map (fun t => (t, r))
    | (.inr (.inr (.inl _))) :: r => (wtj pc off).map (fun t => (t, r))
    | _ => none
  | .tableswitch d lo hi offs => match st with
    | (.inl x) :: r => (xbr pc (.tableswitch d lo hi offs) [.int (Int32.ofNat x)]).map (fun q => (q.1, r))
    | _ => none
  | .lookupswitch d ps => match st with
    | (.inl x) :: r => (xbr pc (.lookupswitch d ps) [.int (Int32.ofNat x)]).map (fun q => (q.1, r))
    | _ => none
  | _ => none
theorem wbr_s {pc pc' : Nat} {ins : Instr} {st st' : List WV} (h : wbr pc ins st = some (pc', st')) : xbr pc ins (st.map (wt ρ σ ω)) = some (pc', st'.map (wt ρ σ ω)) := by
  cases ins with
  | goto off =>
    obtain ⟨t, ht, he⟩ := Option.map_eq_some_iff.mp h
    cases he
    exact xtj_of (wtj_s ht)
  | ifCond o off =>
    unfold wbr at h
    dsimp only at h
    split at h
    · split at h
      · rename_i b hb
        obtain ⟨t, ht, he⟩ := Option.map_eq_some_iff.mp h
        cases he
        obtain ⟨x, y, h1, h2, h3⟩ := wcp_s (ρ := ρ) (σ := σ) (ω := ω) hb
        cases h2
        rw [List.map_cons, h1]
        show xtg pc (xcm o x 0) off _ = _
        rw [xtg_of (wtj_s ht), show xcm o x 0 = b from h3]
        cases b <;> rfl
      · cases h
    · cases h
  | if_icmp o off =>
    unfold wbr at h
    dsimp only at h
    split at h
    · split at h
      · rename_i b hb
        obtain ⟨t, ht, he⟩ := Option.map_eq_some_iff.mp h
        cases he
        obtain ⟨x, y, h1, h2, h3⟩ := wcp_s (ρ := ρ) (σ := σ) (ω := ω) hb
        rw [List.map_cons, List.map_cons, h1, h2]
        show xtg pc (xcm o x y) off _ = _
        rw [xtg_of (wtj_s ht), h3]
        cases b <;> rfl
      · cases h
    · cases h
  | ifnull off =>
    unfold wbr at h
    dsimp only at h
    split at h
    · obtain ⟨t, ht, he⟩ := Option.map_eq_some_iff.mp h
      cases he
      exact xtj_of (wtj_s ht)
    · cases h; rfl
    · cases h; rfl
    · cases h
  | ifnonnull off =>
    unfold wbr at h
    dsimp only at h
    split at h
    · cases h; rfl
    · obtain ⟨t, ht, he⟩ := Option.map_eq_some_iff.mp h
      cases he
      exact xtj_of (wtj_s ht)
    · obtain ⟨t, ht, he⟩ := Option.map_eq_some_iff.mp h
      cases he
      exact xtj_of (wtj_s ht)
    · cases h
  | tableswitch d lo hi offs =>
    unfold wbr at h
    dsimp only at h
    split at h
    · obtain ⟨q, hq, he⟩ := Option.map_eq_some_iff.mp h
      cases he
      rw [List.map_cons]
      unfold xbr at hq ⊢
      dsimp only [wt] at hq ⊢
      split at hq
      · rename_i e
        rw [if_pos e]
        exact xtj_st hq
      · rename_i e
        rw [if_neg e]
        split at hq
        · exact xtj_st hq
        · cases hq
    · cases h
  | lookupswitch d ps =>
    unfold wbr at h
    dsimp only at h
    split at h
    · obtain ⟨q, hq, he⟩ := Option.map_eq_some_iff.mp h
      cases he
      rw [List.map_cons]
      unfold xbr at hq ⊢
      dsimp only [wt] at hq ⊢
      split at hq
      · rename_i e
        rw [if_pos e]
        exact xtj_st hq
      · cases hq
    · cases h
  | _ => cases h
end WSTEP
