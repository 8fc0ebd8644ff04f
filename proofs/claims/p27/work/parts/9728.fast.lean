/-! small worlds: one instruction, told faster: what doesn't depend on the state by itself -/
def lcode (ins : Instr) : Nat × Nat × Int :=
  match ins with
  | .iload k => (1, k, 0)
  | .iload_n k => (1, k, 0)
  | .aload k => (2, k, 0)
  | .aload_n k => (2, k, 0)
  | .istore k => (3, k, 0)
  | .istore_n k => (3, k, 0)
  | .astore k => (4, k, 0)
  | .astore_n k => (4, k, 0)
  | .iinc k n => (5, k, n)
  | _ => (0, 0, 0)
def wloF (nL : Nat) (c : Nat × Nat × Int) (L : List (Nat × WV)) (st : List WV) : Option (List (Nat × WV) × List WV) :=
  bif Nat.beq c.1 2 then wlda c.2.1 L st else bif Nat.beq c.1 1 then wldi c.2.1 L st else bif Nat.beq c.1 3 then wsti nL c.2.1 L st else bif Nat.beq c.1 4 then wsta nL c.2.1 L st else bif Nat.beq c.1 5 then winc nL c.2.1 c.2.2 L st else none
theorem wloF_s (nL : Nat) (ins : Instr) (L : List (Nat × WV)) (st : List WV) : wloF nL (lcode ins) L st = wlo nL ins L st := by
  cases ins <;> rfl
/-- 1 a constant, 2 iadd, 3 dup, 4 others -/
def pcode (ins : Instr) : Nat × Option WV :=
  match ins with
  | .aconst_null => (1, some (.inr (.inr (.inr (.inl ())))))
  | .iconst n => (1, some ((.inl (wi n))))
  | .bipush n => (1, bif wrg 128 n then some ((.inl (wi n))) else none)
  | .sipush n => (1, bif wrg 32768 n then some ((.inl (wi n))) else none)
  | .iadd => (2, none)
  | .dup => (3, none)
  | _ => (4, none)
def wpuF (ins : Instr) (c : Nat × Option WV) (st : List WV) : Option (List WV) :=
  bif Nat.beq c.1 1 then (match c.2 with
    | some v => some (v :: st)
    | none => none)
  else bif Nat.beq c.1 2 then (match st with
    | w :: v :: r => (wo2 wadd v w).map (fun u => u :: r)
    | _ => none)
  else bif Nat.beq c.1 3 then (match st with
    | v :: r => some (v :: v :: r)
    | _ => none)
  else wpu ins st
theorem wpuF_s (ins : Instr) (st : List WV) : wpuF ins (pcode ins) st = wpu ins st := by
  cases ins with
  | bipush n =>
    show (match (bif wrg 128 n then some (((.inl (wi n))) : WV) else none) with
      | some v => some (v :: st)
      | none => none) = bif wrg 128 n then some (((.inl (wi n))) :: st) else none
    cases wrg 128 n <;> rfl
  | sipush n =>
    show (match (bif wrg 32768 n then some (((.inl (wi n))) : WV) else none) with
      | some v => some (v :: st)
      | none => none) = bif wrg 32768 n then some (((.inl (wi n))) :: st) else none
    cases wrg 32768 n <;> rfl
  | _ => rfl
def ccode (o : ClassFile.Cond) : Nat :=
  match o with
  | .eq => 0
  | .ne => 1
  | .lt => 2
  | .ge => 3
  | .gt => 4
  | .le => 5
/-- 1 goto, 2 against 0, 3 of two, 4 null, 5 not null, 6 others; where to -/
def bcode (pc : Nat) (ins : Instr) : Nat × ClassFile.Cond × Option Nat :=
  match ins with
  | .goto off => (1, .eq, wtj pc off)
  | .ifCond o off => (2, o, wtj pc off)
  | .if_icmp o off => (3, o, wtj pc off)
  | .ifnull off => (4, .eq, wtj pc off)
  | .ifnonnull off => (5, .eq, wtj pc off)
  | _ => (6, .eq, none)
def wbrF (pc : Nat) (ins : Instr) (c : Nat × ClassFile.Cond × Option Nat) (st : List WV) : Option (Nat × List WV) :=
  bif Nat.beq c.1 3 then (match st with
    | w :: v :: r => match wcp c.2.1 v w with
      | some b => c.2.2.map (fun t => (bif b then t else pc + 3, r))
      | none => none
    | _ => none)
  else bif Nat.beq c.1 2 then (match st with
    | v :: r => match wcp c.2.1 v ((.inl 0)) with
      | some b => c.2.2.map (fun t => (bif b then t else pc + 3, r))
      | none => none
    | _ => none)
  else bif Nat.beq c.1 1 then c.2.2.map (fun t => (t, st))
  else wbr pc ins st
theorem wbrF_s (pc : Nat) (ins : Instr) (st : List WV) : wbrF pc ins (bcode pc ins) st = wbr pc ins st := by
  cases ins <;> rfl
def wstepF (nL : Nat) (e : XI) (pc : Nat) (L : List (Nat × WV)) (st : List WV) (W : List WC) : Option (Nat × List (Nat × WV) × List WV × List WC) :=
  bif Nat.beq e.1 1 then (wloF nL (lcode e.2.1) L st).map (fun q => (pc + xln e.2.1, q.1, q.2, W))
  else bif Nat.beq e.1 0 then (wpuF e.2.1 (pcode e.2.1) st).map (fun q => (pc + xln e.2.1, L, q, W))
  else bif Nat.beq e.1 2 then (wbrF pc e.2.1 (bcode pc e.2.1) st).map (fun q => (q.1, L, q.2, W))
  else bif Nat.beq e.1 4 then (wgf (e.2.2.2.2.2.headD 0) e.2.2.1 e.2.2.2.1 W st).map (fun q => (pc + 3, L, q, W))
  else bif Nat.ble 30 e.1 then none
  else wstep nL e pc L st W
theorem wstepF_s {nL : Nat} {e : XI} {pc : Nat} {L : List (Nat × WV)} {st : List WV} {W : List WC} {g : Nat × List (Nat × WV) × List WV × List WC} (h : wstepF nL e pc L st W = some g) : wstep nL e pc L st W = some g := by
  obtain ⟨kd, ins, a, b, v, xs⟩ := e
  unfold wstepF at h
  dsimp only at h
  rw [wloF_s, wpuF_s, wbrF_s] at h
  by_cases h1 : kd = 1
  · subst h1; exact h
  · rw [w_beq kd 1, decide_eq_false h1] at h
    by_cases h0 : kd = 0
    · subst h0; exact h
    · rw [w_beq kd 0, decide_eq_false h0] at h
      by_cases h2 : kd = 2
      · subst h2; exact h
      · rw [w_beq kd 2, decide_eq_false h2] at h
        by_cases h4 : kd = 4
        · subst h4; exact h
        · rw [w_beq kd 4, decide_eq_false h4] at h
          dsimp only [cond] at h
          cases h9 : Nat.ble 30 kd with
          | true => rw [h9] at h; cases h
          | false => rw [h9] at h; exact h
