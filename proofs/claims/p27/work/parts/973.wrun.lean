/-! small worlds: runs -/
abbrev WG : Type := Nat × List (Nat × WV) × List WV × List WC × Nat × Nat
/-- what is made: the world, its last place on the stack, the slots -/
def wnew (e : XI) (st : List WV) (W : List WC) : Option (List WV × List WC × Nat × Nat) :=
  match e.1 with
  | 9 => (wcvs (xDF e.2.2.1)).map (fun fs => ((.inr (.inl W.length)) :: st, W ++ [.inr (e.2.2.1, fs)], fs.length, 3))
  | 10 => match st with
    | (.inl n) :: r => bif Nat.ble n 100000 && Nat.ble (e.2.2.1 + 1) 30 then some ((.inr (.inl W.length)) :: r, W ++ [.inl (e.2.2.1, List.replicate n ((.inl 0)))], n, 2) else none
    | _ => none
  | 11 => match st with
    | (.inl n) :: r => bif Nat.ble n 100000 && Nat.ble (e.2.2.1 + 1) 30 then some ((.inr (.inl W.length)) :: r, W ++ [.inl (e.2.2.1, List.replicate n (.inr (.inr (.inr (.inl ())))))], n, 3) else none
    | _ => none
  | _ => none
/-- Object's constructor, max, min -/
def wspec (e : XI) (st : List WV) : Option (List WV) :=
  match e.1 with
  | 22 => match st with
    | (.inr (.inl _)) :: r => bif Nat.ble r.length 8 then some r else none
    | _ => none
  | 23 => match st with
    | w :: v :: r => bif Nat.ble r.length 8 then (wo2 wmax v w).map (fun u => u :: r) else none
    | _ => none
  | 25 => match st with
    | w :: v :: r => bif Nat.ble r.length 8 then (wo2 wmin v w).map (fun u => u :: r) else none
    | _ => none
  | _ => none
def wret (ret : Option FieldType) (ins : Instr) (st : List WV) : Bool :=
  match ins with
  | .ireturn => (match st, ret with
    | [v], some ft => wint v && wfi ft v
    | _, _ => false)
  | .areturn => (match st, ret with
    | [v], some ft => refKind ft && wisr v
    | _, _ => false)
  | .return_ => (match st, ret with
    | [], none => true
    | _, _ => false)
  | _ => false
def wargs : Nat → List WV → List (Nat × WV)
  | _, [] => []
  | i, v :: vs => (i, v) :: wargs (i + 1) vs
/-- so many off the stack, the first of them first -/
def wpop : Nat → List WV → List WV → Option (List WV × List WV)
  | 0, as, st => some (as, st)
  | n + 1, as, v :: st => wpop n (v :: as) st
  | _ + 1, _, [] => none
def wrck (W : List WC) (k : Nat) (cs : List Nat) (as : List WV) : Bool :=
  bif Nat.beq k 31 || Nat.beq k 36 || Nat.beq k 38 then true
  else match as with
  | v :: _ => bif Nat.beq k 32 || Nat.beq k 37 then (match v with
      | (.inr (.inl _)) => true
      | _ => false)
    else (match wcls W v with
      | some ci => cs.any (fun c => Nat.beq c ci)
      | none => false)
  | [] => false
/-- String.checkIndex passes -/
def wci (as : List WV) : Bool := match as with
  | [(.inl x), (.inl n)] => Nat.ble (x + 1) n && Nat.ble n 1000000
  | _ => false
/-- a run, to its end (place 100000) or to a place -/
def wslow (stub : Nat → Nat → List WC → List WV → Option (Nat × List (Nat × WV) × List WV)) (go : Nat → Nat → Nat → Nat → List (Nat × WV) → List WV → List WC → Nat → Nat → Option WG) (d y sp pc : Nat) (L : List (Nat × WV)) (st : List WV) (W : List WC) (c s : Nat) (e : XI) : Option WG :=
        match wnew e st W with
        | some g => go d y sp (pc + g.2.2.2) L g.1 g.2.1 (c + 1) (s + g.2.2.1)
        | none =>
          match d with
          | 0 => bif Nat.beq e.1 40 && wret (xmR (xMT y)) e.2.1 st then some (100000, [], st, W, c, s) else none
          | d' + 1 =>
            match wspec e st with
            | some r => go (d' + 1) y sp (pc + 3) L r W c s
            | none =>
              bif Nat.beq e.1 40 then (bif wret (xmR (xMT y)) e.2.1 st then some (100000, [], st, W, c, s) else none)
              else bif Nat.ble 30 e.1 && Nat.ble e.1 39 then
                match wpop e.2.2.2.1 [] st with
                | none => none
                | some q =>
                  bif Nat.ble q.2.length 8 && Nat.ble q.1.length (xmL (xMT e.2.2.1)) && wrck W e.1 e.2.2.2.2.2 q.1 then
                   bif Nat.beq e.2.2.1 35 && (Nat.ble 1 d' && wci q.1) then go (d' + 1) y sp (pc + 3) L q.2 W c s else
                      match (match stub d' e.2.2.1 W q.1 with
                        | some j => go d' e.2.2.1 200000 j.1 j.2.1 j.2.2 W 0 0
                        | none => go d' e.2.2.1 200000 0 (wargs 0 q.1) [] W 0 0) with
                      | some g => bif Nat.beq g.1 100000 then (match g.2.2.1 with
                        | [] => go (d' + 1) y sp (pc + 3) L q.2 g.2.2.2.1 (c + g.2.2.2.2.1) (s + g.2.2.2.2.2)
                        | [v] => go (d' + 1) y sp (pc + 3) L (v :: q.2) g.2.2.2.1 (c + g.2.2.2.2.1) (s + g.2.2.2.2.2)
                        | _ => none) else none
                      | none => none
                  else none
              else none
def wbody (stub : Nat → Nat → List WC → List WV → Option (Nat × List (Nat × WV) × List WV)) (go : Nat → Nat → Nat → Nat → List (Nat × WV) → List WV → List WC → Nat → Nat → Option WG) (d y sp pc : Nat) (L : List (Nat × WV)) (st : List WV) (W : List WC) (c s : Nat) : Option WG :=
  bif Nat.beq pc sp then some (pc, L, st, W, c, s) else
  match xmC (xMT y) pc with
  | none => none
  | some e =>
    match wstepF (xmL (xMT y)) e pc L st W with
    | some g => go d y sp g.1 g.2.1 g.2.2.1 g.2.2.2 c s
    | none => wslow stub go d y sp pc L st W c s e
def wrun (stub : Nat → Nat → List WC → List WV → Option (Nat × List (Nat × WV) × List WV)) : Nat → Nat → Nat → Nat → Nat → List (Nat × WV) → List WV → List WC → Nat → Nat → Option WG
  | 0, _, _, _, _, _, _, _, _, _ => none
  | n + 1, d, y, sp, pc, L, st, W, c, s => match pc with
    | 0 => wbody stub (wrun stub n) d y sp 0 L st W c s
    | p + 1 => wbody stub (wrun stub n) d y sp (p + 1) L st W c s
section WRUN
variable {ρ σ : Nat → Nat} {ω : Nat → Value} {S : List Int32} {stub : Nat → Nat → List WC → List WV → Option (Nat × List (Nat × WV) × List WV)}
theorem wcvs_len : ∀ {vs : List Value} {ws : List WV}, wcvs vs = some ws → ws.length = vs.length
  | [], ws, h => by cases h; rfl
  | v :: vs, ws, h => by
    unfold wcvs at h
    split at h
    · rename_i w ws' e1 e2
      cases h
      rw [List.length_cons, List.length_cons, wcvs_len e2]
    · cases h
theorem wtn {n : Nat} (h : n ≤ 100000) : ¬ Int32.ofNat n < 0 ∧ (Int32.ofNat n).toNatClampNeg = n := ⟨iN_nn (by omega), iN_tn (by omega)⟩
theorem wnew_s {e : XI} {pc nL : Nat} {L : List (Nat × Value)} {st : List WV} {W : List WC} {hp : List XC} (H : WR ρ σ ω W hp) {g : List WV × List WC × Nat × Nat} (h : wnew e st W = some g) :
    e.1 < 20 ∧ ∃ hp', xstep (xZ S) nL e pc L (st.map (wt ρ σ ω)) hp = some (pc + g.2.2.2, L, g.1.map (wt ρ σ ω), hp', 1, g.2.2.1) ∧ WR ρ σ ω g.2.1 hp' ∧ WF ρ hp hp' := by
  obtain ⟨kd, ins, a, b, v, xs⟩ := e
  have hl : ρ W.length = hp.length := by rw [H.2 _ (Nat.le_refl _), Nat.sub_self, Nat.add_zero]
  unfold wnew at h
  dsimp only at h
  split at h
  · obtain ⟨fs, hf, rfl⟩ := Option.map_eq_some_iff.mp h
    have hf2 := wcvs_s (ρ := ρ) (σ := σ) (ω := ω) hf
    have h9 := WR.push H (.inr (a, fs))
    unfold wtc at h9
    dsimp only at h9
    rw [hf2] at h9
    refine ⟨Nat.le_of_ble_eq_true rfl, _, ?_, h9, WF.push H _⟩
    show some (pc + 3, L, .ref hp.length :: st.map (wt ρ σ ω), hp ++ [.inr (a, xDF a)], 1, (xDF a).length) = some (pc + 3, L, .ref (ρ W.length) :: st.map (wt ρ σ ω), hp ++ [.inr (a, xDF a)], 1, fs.length)
    rw [hl, wcvs_len hf]
  · split at h
    · rename_i n r
      obtain ⟨h1, h2⟩ := w_cond h
      cases h2
      rw [Bool.and_eq_true] at h1
      obtain ⟨k1, k2⟩ := wtn (Nat.le_of_ble_eq_true h1.1)
      have h9 := WR.push H (.inl (a, List.replicate n ((.inl 0))))
      unfold wtc at h9
      dsimp only at h9
      rw [List.map_replicate] at h9
      refine ⟨Nat.le_of_ble_eq_true rfl, _, ?_, h9, WF.push H _⟩
      show xnwa (xZ S) a (.int 0) pc 2 L (.int (Int32.ofNat n) :: r.map (wt ρ σ ω)) hp = _
      unfold xnwa
      dsimp only
      rw [if_pos ⟨k1, by rw [k2]; exact Nat.le_of_ble_eq_true h1.1, Nat.le_of_ble_eq_true h1.2⟩, k2, ← hl]
      rfl
    · cases h
  · split at h
    · rename_i n r
      obtain ⟨h1, h2⟩ := w_cond h
      cases h2
      rw [Bool.and_eq_true] at h1
      obtain ⟨k1, k2⟩ := wtn (Nat.le_of_ble_eq_true h1.1)
      have h9 := WR.push H (.inl (a, List.replicate n (.inr (.inr (.inr (.inl ()))))))
      unfold wtc at h9
      dsimp only at h9
      rw [List.map_replicate] at h9
      refine ⟨Nat.le_of_ble_eq_true rfl, _, ?_, h9, WF.push H _⟩
      show xnwa (xZ S) a .null pc 3 L (.int (Int32.ofNat n) :: r.map (wt ρ σ ω)) hp = _
      unfold xnwa
      dsimp only
      rw [if_pos ⟨k1, by rw [k2]; exact Nat.le_of_ble_eq_true h1.1, Nat.le_of_ble_eq_true h1.2⟩, k2, ← hl]
      rfl
    · cases h
  · cases h
theorem wsum (hω : ∀ j, (ω j).category = 1) : ∀ (vs : List WV), xsum (vs.map (wt ρ σ ω)) = vs.length
  | [] => rfl
  | v :: vs => by
    have := wsum hω vs
    unfold xsum at this ⊢
    rw [List.map_cons, List.map_cons, List.sum_cons, this, wt_cat hω, List.length_cons, Nat.add_comm]
theorem wargs_s (hω : ∀ j, (ω j).category = 1) : ∀ (vs : List WV) (i : Nat), lv_args i (vs.map (wt ρ σ ω)) = (wargs i vs).map (wq ρ σ ω)
  | [], _ => rfl
  | v :: vs, i => by
    show (i, wt ρ σ ω v) :: lv_args (if (wt ρ σ ω v).category = 2 then i + 2 else i + 1) (vs.map (wt ρ σ ω)) = (i, wt ρ σ ω v) :: (wargs (i + 1) vs).map (wq ρ σ ω)
    rw [wt_cat hω, if_neg (by decide), wargs_s hω vs]
theorem wpop_s : ∀ {n : Nat} {as st : List WV} {q : List WV × List WV}, wpop n as st = some q → as.reverse ++ st = q.1.reverse ++ q.2 ∧ q.1.length = n + as.length
  | 0, as, st, q, h => by cases h; exact ⟨rfl, (Nat.zero_add _).symm⟩
  | n + 1, as, v :: st, q, h => by
    obtain ⟨h1, h2⟩ := wpop_s (n := n) (as := v :: as) (st := st) h
    refine ⟨?_, by rw [h2, List.length_cons]; omega⟩
    rw [← h1, List.reverse_cons, List.append_assoc]
    rfl
  | n + 1, as, [], q, h => by cases h
theorem wrck_s {W : List WC} {hp : List XC} (H : WR ρ σ ω W hp) {k : Nat} {cs : List Nat} {as : List WV} (h : wrck W k cs as = true) : xrck xKC hp k cs (as.map (wt ρ σ ω)) = true := by
  unfold wrck at h
  unfold xrck
  by_cases h1 : k = 31 ∨ k = 36 ∨ k = 38
  · rw [if_pos h1]
  · rw [if_neg h1]
    have e1 : (Nat.beq k 31 || Nat.beq k 36 || Nat.beq k 38) = false := by
      rw [w_beq, w_beq, w_beq, decide_eq_false (fun e => h1 (Or.inl e)), decide_eq_false (fun e => h1 (Or.inr (Or.inl e))), decide_eq_false (fun e => h1 (Or.inr (Or.inr e)))]
      rfl
    rw [e1] at h
    cases as with
    | nil => cases h
    | cons v vs =>
      rw [List.map_cons]
      dsimp only at h ⊢
      by_cases h2 : k = 32 ∨ k = 37
      · rw [if_pos h2]
        have e2 : (Nat.beq k 32 || Nat.beq k 37) = true := by
          rcases h2 with e | e <;> (subst e; rfl)
        rw [e2] at h
        rcases v with n | n | n | _ | ⟨k9, vs9⟩ | n <;> first | rfl | cases h
      · rw [if_neg h2]
        have e2 : (Nat.beq k 32 || Nat.beq k 37) = false := by
          rw [w_beq, w_beq, decide_eq_false (fun e => h2 (Or.inl e)), decide_eq_false (fun e => h2 (Or.inr e))]
          rfl
        rw [e2] at h
        dsimp only [cond] at h
        cases hc : wcls W v with
        | none => rw [hc] at h; cases h
        | some ci =>
          rw [hc] at h
          rw [wcls_s H hc]
          exact decide_eq_true (wany h)
theorem wret_s {ret : Option FieldType} {ins : Instr} {st : List WV} (h : wret ret ins st = true) : xret ret ins (st.map (wt ρ σ ω)) = some ((st.map (wt ρ σ ω)).head?) := by
  unfold wret at h
  split at h
  · split at h
    · rename_i v ft
      rw [Bool.and_eq_true] at h
      obtain ⟨x, hx⟩ := wint_s (ρ := ρ) (σ := σ) (ω := ω) h.1
      have h7 := wfi_s (ρ := ρ) (σ := σ) (ω := ω) h.2
      rw [hx] at h7
      show xret (some ft) .ireturn [wt ρ σ ω v] = some (some (wt ρ σ ω v))
      rw [hx]
      exact if_pos ((xfit_s h7 (fun _ => 0) (fun _ => 0)).1)
    · cases h
  · split at h
    · rename_i v ft
      rw [Bool.and_eq_true] at h
      show xret (some ft) .areturn [wt ρ σ ω v] = some (some (wt ρ σ ω v))
      exact if_pos ⟨h.1, wisr_s h.2⟩
    · cases h
  · split at h
    · rfl
    · cases h
  · cases h
theorem wspec_s (hω : ∀ j, (ω j).category = 1) {d : Nat} {e : XI} {st r : List WV} {hp : List XC} (h : wspec e st = some r) : (¬ e.1 < 20 ∧ e.1 < 30) ∧ xspec (xZ S) (d + 1) e (st.map (wt ρ σ ω)) hp = some (r.map (wt ρ σ ω), hp) := by
  obtain ⟨kd, ins, a, b, v, xs⟩ := e
  unfold wspec at h
  dsimp only at h
  split at h
  · split at h
    · obtain ⟨h1, h2⟩ := w_cond h
      cases h2
      refine ⟨⟨by omega, by omega⟩, ?_⟩
      show (if xsum (r.map (wt ρ σ ω)) ≤ 8 then some (r.map (wt ρ σ ω), hp) else none) = _
      rw [wsum hω]
      exact if_pos (Nat.le_of_ble_eq_true h1)
    · cases h
  · split at h
    · rename_i w v2 r2
      obtain ⟨h1, h2⟩ := w_condo h
      obtain ⟨u, hu, rfl⟩ := Option.map_eq_some_iff.mp h2
      refine ⟨⟨by omega, by omega⟩, ?_⟩
      obtain ⟨x, y, k1, k2, k3⟩ := wo2_s (ρ := ρ) (σ := σ) (ω := ω) (F := fun x y => if x < y then y else x) wmax_s hu
      rw [List.map_cons, List.map_cons, List.map_cons, k1, k2, k3]
      show (if xsum (r2.map (wt ρ σ ω)) ≤ 8 then some (_, hp) else none) = _
      rw [wsum hω]
      exact if_pos (Nat.le_of_ble_eq_true h1)
    · cases h
  · split at h
    · rename_i w v2 r2
      obtain ⟨h1, h2⟩ := w_condo h
      obtain ⟨u, hu, rfl⟩ := Option.map_eq_some_iff.mp h2
      refine ⟨⟨by omega, by omega⟩, ?_⟩
      obtain ⟨x, y, k1, k2, k3⟩ := wo2_s (ρ := ρ) (σ := σ) (ω := ω) (F := fun x y => if y < x then y else x) wmin_s hu
      rw [List.map_cons, List.map_cons, List.map_cons, k1, k2, k3]
      show (if xsum (r2.map (wt ρ σ ω)) ≤ 8 then some (_, hp) else none) = _
      rw [wsum hω]
      exact if_pos (Nat.le_of_ble_eq_true h1)
    · cases h
  · cases h
/-- where a stub goes, the method goes -/
def WS (S : List Int32) (stub : Nat → Nat → List WC → List WV → Option (Nat × List (Nat × WV) × List WV)) (ρ σ : Nat → Nat) (ω : Nat → Value) (hp0 : List XC) : Prop := ∀ d y W as j, stub d y W as = some j → ∀ hp, WR ρ σ ω W hp → WF ρ hp0 hp → ∀ Q, At S d y j.1 (j.2.1.map (wq ρ σ ω)) (j.2.2.map (wt ρ σ ω)) hp 0 0 Q → At S d y 0 (lv_args 0 (as.map (wt ρ σ ω))) [] hp 0 0 Q
theorem wrun_s (hρ : ∀ a b, ρ a = ρ b → a = b) (hω : ∀ j, (ω j).category = 1) {hp0 : List XC} (hS : WS S stub ρ σ ω hp0) : ∀ (n d y sp pc : Nat) (L : List (Nat × WV)) (st : List WV) (W : List WC) (c s : Nat) (g : WG), wrun stub n d y sp pc L st W c s = some g → ∀ (hp : List XC) (nc ns : Nat) (Q : XO → Prop), WR ρ σ ω W hp → WF ρ hp0 hp →
    (∀ hp', WR ρ σ ω g.2.2.2.1 hp' → WF ρ hp hp' → (g.1 = 100000 → sp ≠ 100000 → Q (.inl ((g.2.2.1.map (wt ρ σ ω)).head?, hp', nc + g.2.2.2.2.1, ns + g.2.2.2.2.2))) ∧ (g.1 = sp → At S d y sp (g.2.1.map (wq ρ σ ω)) (g.2.2.1.map (wt ρ σ ω)) hp' (nc + g.2.2.2.2.1) (ns + g.2.2.2.2.2) Q)) →
    sp ≠ 100000 → At S d y pc (L.map (wq ρ σ ω)) (st.map (wt ρ σ ω)) hp (nc + c) (ns + s) Q := by
  intro n
  induction n with
  | zero => intro d y sp pc L st W c s g h; cases h
  | succ n ih =>
    intro d y sp pc L st W c s g h hp nc ns Q H F0 K hsp
    have h : wbody stub (wrun stub n) d y sp pc L st W c s = some g := by cases pc <;> exact h
    unfold wbody at h
    cases hb : Nat.beq pc sp with
    | true =>
      rw [hb] at h
      cases h
      have hb := Nat.eq_of_beq_eq_true hb
      subst hb
      exact (K hp H (WF.rf hp)).2 rfl
    | false =>
      rw [hb] at h
      dsimp only [cond] at h
      cases hC : xmC (xMT y) pc with
      | none => rw [hC] at h; cases h
      | some e =>
        rw [hC] at h
        dsimp only at h
        cases h1 : wstepF (xmL (xMT y)) e pc L st W with
        | some g1 =>
          rw [h1] at h
          dsimp only at h
          obtain ⟨k1, hp1, k2, k3, k4⟩ := wstep_s hρ hω (S := S) H (wstepF_s h1)
          refine At.low hC k1 k2 ?_
          exact ih _ _ _ _ _ _ _ _ _ _ h hp1 nc ns Q k3 (F0.tr k4) (fun hp' j1 j2 => K hp' j1 (k4.tr j2)) hsp
        | none =>
          rw [h1] at h
          dsimp only at h
          unfold wslow at h
          cases h2 : wnew e st W with
          | some g1 =>
            rw [h2] at h
            dsimp only at h
            obtain ⟨k1, hp1, k2, k3, k4⟩ := wnew_s (S := S) (pc := pc) (nL := xmL (xMT y)) (L := L.map (wq ρ σ ω)) H h2
            refine At.low hC k1 k2 ?_
            have := ih _ _ _ _ _ _ _ _ _ _ h hp1 nc ns Q k3 (F0.tr k4) (fun hp' j1 j2 => K hp' j1 (k4.tr j2)) hsp
            rw [← Nat.add_assoc, ← Nat.add_assoc] at this
            exact this
          | none =>
            rw [h2] at h
            dsimp only at h
            have hret : (Nat.beq e.1 40 && wret (xmR (xMT y)) e.2.1 st) = true → some ((100000, [], st, W, c, s) : WG) = some g → At S d y pc (L.map (wq ρ σ ω)) (st.map (wt ρ σ ω)) hp (nc + c) (ns + s) Q := fun k1 k2 => by
              cases k2
              rw [Bool.and_eq_true] at k1
              have h40 := Nat.eq_of_beq_eq_true k1.1
              have k3 := wret_s (ρ := ρ) (σ := σ) (ω := ω) k1.2
              refine ⟨1, _, ?_, (K hp H (WF.rf hp)).1 rfl hsp⟩
              rw [xrun, hC]
              dsimp only
              rw [if_neg (by omega), if_neg (by omega), if_pos h40, k3]
              rfl
            cases d with
            | zero =>
              dsimp only at h
              obtain ⟨k1, k2⟩ := w_condo h
              exact hret k1 k2
            | succ d' =>
              dsimp only at h
              cases h3 : wspec e st with
              | some r =>
                rw [h3] at h
                dsimp only at h
                obtain ⟨k1, k2⟩ := wspec_s (S := S) (ρ := ρ) (σ := σ) hω (d := d') (hp := hp) h3
                refine At.sp hC k1 k2 ?_
                exact ih _ _ _ _ _ _ _ _ _ _ h hp nc ns Q H F0 K hsp
              | none =>
                rw [h3] at h
                dsimp only at h
                cases h4 : Nat.beq e.1 40 with
                | true =>
                  rw [h4] at h
                  obtain ⟨k1, k2⟩ := w_condo (show (bif wret (xmR (xMT y)) e.2.1 st then some ((100000, [], st, W, c, s) : WG) else none) = some g from h)
                  exact hret (by rw [h4, k1]; rfl) k2
                | false =>
                  rw [h4] at h
                  obtain ⟨k1, h⟩ := w_condo (show (bif Nat.ble 30 e.1 && Nat.ble e.1 39 then _ else none) = some g from h)
                  rw [Bool.and_eq_true] at k1
                  cases h5 : wpop e.2.2.2.1 [] st with
                  | none => rw [h5] at h; cases h
                  | some q =>
                    rw [h5] at h
                    dsimp only at h
                    obtain ⟨k2, h⟩ := w_condo h
                    simp only [Bool.and_eq_true] at k2
                    obtain ⟨⟨k2, k3⟩, k4⟩ := k2
                    obtain ⟨e1, e2⟩ := wpop_s h5
                    have e3 : st.map (wt ρ σ ω) = (q.1.map (wt ρ σ ω)).reverse ++ q.2.map (wt ρ σ ω) := by
                      rw [← List.map_reverse, ← List.map_append, ← e1]
                      rfl
                    have e4 : (q.1.map (wt ρ σ ω)).length = e.2.2.2.1 := by rw [List.length_map, e2]; rfl
                    have e5 : xsum (q.2.map (wt ρ σ ω)) ≤ 8 := by rw [wsum hω]; exact Nat.le_of_ble_eq_true k2
                    have e6 : xsum (q.1.map (wt ρ σ ω)) ≤ xmL (xMT e.2.2.1) := by rw [wsum hω]; exact Nat.le_of_ble_eq_true k3
                    have e7 : 30 ≤ e.1 ∧ e.1 < 40 := ⟨Nat.le_of_ble_eq_true k1.1, by have := Nat.le_of_ble_eq_true k1.2; omega⟩
                    rw [e3]
                    cases h35 : Nat.beq e.2.2.1 35 && (Nat.ble 1 d' && wci q.1) with
                    | true =>
                      rw [h35] at h
                      dsimp only [cond] at h
                      simp only [Bool.and_eq_true] at h35
                      obtain ⟨y1, y2, y3⟩ := h35
                      have y1 := Nat.eq_of_beq_eq_true y1
                      have y2 := Nat.le_of_ble_eq_true y2
                      unfold wci at y3
                      split at y3
                      · rename_i x9 n9 e9
                        rw [Bool.and_eq_true] at y3
                        refine At.clm hC e7 e4 e5 e6 (wrck_s H k4) (show 1 + 1 ≤ d' + 1 by omega) (R := fun v hp' c s => v = none ∧ hp' = hp ∧ c = 0 ∧ s = 0) (by rw [y1, e9]; exact m_sci (Nat.le_of_ble_eq_true y3.1) (Nat.le_of_ble_eq_true y3.2)) (fun v hp' c9 s9 hq => ?_)
                        obtain ⟨rfl, rfl, rfl, rfl⟩ := hq
                        exact ih _ _ _ _ _ _ _ _ _ _ h hp' nc ns Q H F0 K hsp
                      · cases y3
                    | false =>
                    rw [h35] at h
                    dsimp only [cond] at h
                    obtain ⟨g1, h7, h⟩ : ∃ g1 : WG, (match stub d' e.2.2.1 W q.1 with
                        | some j => wrun stub n d' e.2.2.1 200000 j.1 j.2.1 j.2.2 W 0 0
                        | none => wrun stub n d' e.2.2.1 200000 0 (wargs 0 q.1) [] W 0 0) = some g1 ∧ (bif Nat.beq g1.1 100000 then (match g1.2.2.1 with
                        | [] => wrun stub n (d' + 1) y sp (pc + 3) L q.2 g1.2.2.2.1 (c + g1.2.2.2.2.1) (s + g1.2.2.2.2.2)
                        | [v] => wrun stub n (d' + 1) y sp (pc + 3) L (v :: q.2) g1.2.2.2.1 (c + g1.2.2.2.2.1) (s + g1.2.2.2.2.2)
                        | _ => none) else none) = some g := by
                      split at h
                      · rename_i g1 h7
                        exact ⟨g1, h7, h⟩
                      · cases h
                    obtain ⟨k5, h⟩ := w_condo h
                    have k5 := Nat.eq_of_beq_eq_true k5
                    have k6 : At S d' e.2.2.1 0 (lv_args 0 (q.1.map (wt ρ σ ω))) [] hp 0 0 (fun o => ∃ hp', o = .inl ((g1.2.2.1.map (wt ρ σ ω)).head?, hp', 0 + g1.2.2.2.2.1, 0 + g1.2.2.2.2.2) ∧ WR ρ σ ω g1.2.2.2.1 hp' ∧ WF ρ hp hp') := by
                      split at h7
                      · rename_i j h6
                        refine hS _ _ _ _ _ h6 hp H F0 _ ?_
                        exact ih _ _ _ _ _ _ _ _ _ _ h7 hp 0 0 _ H F0 (fun hp' j1 j2 => ⟨fun _ _ => ⟨hp', rfl, j1, j2⟩, fun j3 => absurd (k5.symm.trans j3) (by decide)⟩) (by decide)
                      · rw [wargs_s hω]
                        exact ih _ _ _ _ _ _ _ _ _ _ h7 hp 0 0 _ H F0 (fun hp' j1 j2 => ⟨fun _ _ => ⟨hp', rfl, j1, j2⟩, fun j3 => absurd (k5.symm.trans j3) (by decide)⟩) (by decide)
                    refine At.cl hC e7 e4 e5 e6 (wrck_s H k4) (Nat.le_refl _) k6 (fun v hp' c9 s9 hq => ?_) (fun E hp' c9 s9 hq => ?_)
                    · obtain ⟨hp2, j1, j2, j3⟩ := hq
                      cases j1
                      rw [Nat.zero_add, Nat.zero_add, Nat.add_assoc, Nat.add_assoc]
                      split at h
                      · rename_i e9
                        rw [e9]
                        exact ih _ _ _ _ _ _ _ _ _ _ h hp' nc ns Q j2 (F0.tr j3) (fun hp3 i1 i2 => K hp3 i1 (j3.tr i2)) hsp
                      · rename_i v e9
                        rw [e9]
                        exact ih _ _ _ _ _ _ _ _ _ _ h hp' nc ns Q j2 (F0.tr j3) (fun hp3 i1 i2 => K hp3 i1 (j3.tr i2)) hsp
                      · cases h
                    · obtain ⟨hp2, j1, -⟩ := hq
                      cases j1
end WRUN
/-- no stubs -/
def wns (_ _ : Nat) (_ : List WC) (_ : List WV) : Option (Nat × List (Nat × WV) × List WV) := none
