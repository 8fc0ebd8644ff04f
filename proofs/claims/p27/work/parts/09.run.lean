/-! methods: class, name, code, locals, answer, handlers, what they catch (at, exception, goes on at, local, length), the code's rows -/
abbrev XM : Type := String × MethodName × ByteArray × Nat × Option FieldType × List (Nat × Nat × Nat × Nat) × List (Nat × Nat × Nat × Nat × Nat) × (Nat → Option XI)
def xmO (q : XM) : String := q.1
def xmN (q : XM) : MethodName := q.2.1
def xmB (q : XM) : ByteArray := q.2.2.1
def xmL (q : XM) : Nat := q.2.2.2.1
def xmR (q : XM) : Option FieldType := q.2.2.2.2.1
def xmH (q : XM) : List (Nat × Nat × Nat × Nat) := q.2.2.2.2.2.1
def xmX (q : XM) : List (Nat × Nat × Nat × Nat × Nat) := q.2.2.2.2.2.2.1
def xmC (q : XM) : Nat → Option XI := q.2.2.2.2.2.2.2
def xmI (q : XM) : Bool := decide ((xmN q).name = "<init>")
/-- how a method ends: with a value, or by an exception (its number); the heap, the cells and slots that were made -/
abbrev XO : Type := (Option Value × List XC × Nat × Nat) ⊕ (Nat × List XC × Nat × Nat)
def xoc : XO → Nat
  | .inl q => q.2.2.1
  | .inr q => q.2.2.1
def xos : XO → Nat
  | .inl q => q.2.2.2
  | .inr q => q.2.2.2
def xret (ret : Option FieldType) (i : Instr) (st : List Value) : Option (Option Value) :=
  match i with
  | .ireturn => match st, ret with
    | [.int x], some ft => if narrow ft (.int x) = .int x then some (some (.int x)) else none
    | _, _ => none
  | .lreturn => match st, ret with
    | [.long x], some .long => some (some (.long x))
    | _, _ => none
  | .areturn => match st, ret with
    | [v], some ft => if refKind ft = true ∧ xisr v = true then some (some v) else none
    | _, _ => none
  | .return_ => match st, ret with
    | [], none => some none
    | _, _ => none
  | _ => none
def xsum (vs : List Value) : Nat := (vs.map fun v => v.category).sum
/-- whether the receiver is as the call asks -/
def xrck (kc hp : List XC) (k : Nat) (cs : List Nat) (as : List Value) : Bool :=
  if k = 31 ∨ k = 36 ∨ k = 38 then true
  else match as with
  | v :: _ => if k = 32 ∨ k = 37 then (match v with
      | .ref _ => true
      | _ => false)
    else (match xcls kc hp v with
      | some ci => decide (ci ∈ cs)
      | none => false)
  | [] => false
def xdrop (k : Nat) (L : List (Nat × Value)) : List (Nat × Value) := L.filter (xf1 k)
def xfind (X : List (Nat × Nat × Nat × Nat × Nat)) (pc E : Nat) : Option (Nat × Nat × Nat) :=
  match X.find? (fun q => q.1 == pc && q.2.1 == E) with
  | some q => some q.2.2
  | none => none
/-- what is done without the code's rows: arraycopy, Object's constructor, getClass, Math.max, Math.min -/
def xspec (z : XP) (d : Nat) (e : XI) (st : List Value) (hp : List XC) : Option (List Value × List XC) :=
  if d = 0 then none else
  match e.1 with
  | 20 => match xcpy z hp st with
    | some q => if xsum q.2 ≤ 8 then some (q.2, q.1) else none
    | none => match xcpk z hp st with
      | some q => if xsum q.2 ≤ 8 then some (q.2, q.1) else none
      | none => none
  | 21 => match xcpk z hp st with
    | some q => if xsum q.2 ≤ 8 then some (q.2, q.1) else none
    | none => none
  | 22 => match st with
    | .ref _ :: r => if xsum r ≤ 8 then some (r, hp) else none
    | _ => none
  | 24 => match st with
    | .ref a :: r => match hp[a]? with
      | some (.inl q) => if xsum r ≤ 8 ∧ q.1 = e.2.2.1 ∧ q.1 < z.2.1 then some (.retAddr e.2.2.2.1 :: r, hp) else none
      | _ => none
    | _ => none
  | 23 => match st with
    | .int y :: .int x :: r => if xsum r ≤ 8 then some (.int (if x < y then y else x) :: r, hp) else none
    | _ => none
  | 25 => match st with
    | .int y :: .int x :: r => if xsum r ≤ 8 then some (.int (if y < x then y else x) :: r, hp) else none
    | _ => none
  | _ => none
def xrun (z : XP) (MT : Nat → XM) : Nat → Nat → Nat → Nat → List (Nat × Value) → List Value → List XC → Nat → Nat → Option XO
  | 0, _, _, _, _, _, _, _, _ => none
  | n + 1, d, y, pc, L, st, hp, nc, ns =>
    match xmC (MT y) pc with
    | none => none
    | some e =>
      if e.1 < 20 then
        match xstep z (xmL (MT y)) e pc L st hp with
        | none => none
        | some g => xrun z MT n d y g.1 g.2.1 g.2.2.1 g.2.2.2.1 (nc + g.2.2.2.2.1) (ns + g.2.2.2.2.2)
      else if e.1 < 30 then
        match xspec z d e st hp with
        | none => none
        | some q => xrun z MT n d y (pc + 3) L q.1 q.2 nc ns
      else if e.1 = 40 then (xret (xmR (MT y)) e.2.1 st).map (fun v => .inl (v, hp, nc, ns))
      else if e.1 = 41 then (if 8 ≤ d ∧ xsum st ≤ 8 then some (.inr (e.2.2.1, hp, nc + 1, ns + 6)) else none)
      else if e.1 = 42 then
        match d with
        | 0 => none
        | d' + 1 =>
          match st with
          | .int x2 :: .int x1 :: r =>
            if xsum r ≤ 7 ∧ 3 ≤ xmL (MT e.2.2.1) then
              match xrun z MT n d' e.2.2.1 0 [(0, .int x1), (1, .int x2), (2, .null)] [] [] 0 0, xrun z MT n d' e.2.2.1 0 [(0, .int x1), (1, .int x2), (2, .retAddr e.2.2.2.1)] [] [] 0 0 with
              | some (.inl (some (.int y1), [], 0, 0)), some (.inl (some (.int y2), [], 0, 0)) => if y1 = y2 then xrun z MT n (d' + 1) y (pc + 6) L (.int y1 :: r) hp nc ns else none
              | _, _ => none
            else none
          | _ => none
      else if e.1 = 43 then
        match d with
        | 0 => none
        | d' + 1 =>
          match st with
          | .ref a :: r =>
            match hp[a]? with
            | some (.inl q) => if xsum r ≤ 8 ∧ q.1 = e.2.2.1 ∧ q.1 < z.2.1 ∧ q.2.all (fun v => fits .byte (.int (xint v))) = true then xrun z MT n (d' + 1) y (pc + 6) L (.ref hp.length :: r) (hp ++ [.inl q]) (nc + 1) (ns + q.2.length) else none
            | _ => none
          | _ => none
      else
        match d with
        | 0 => none
        | d' + 1 =>
          if st.length < e.2.2.2.1 then none
          else if xsum (st.drop e.2.2.2.1) ≤ 8 ∧ xsum (st.take e.2.2.2.1).reverse ≤ xmL (MT e.2.2.1) ∧ xrck z.2.2.2.2.2.1 hp e.1 e.2.2.2.2.2 (st.take e.2.2.2.1).reverse = true then
            match xrun z MT n d' e.2.2.1 0 (lv_args 0 (st.take e.2.2.2.1).reverse) [] hp 0 0 with
            | none => none
            | some (.inl (v, hp', c1, s1)) => xrun z MT n (d' + 1) y (pc + 3) L (v.toList ++ st.drop e.2.2.2.1) hp' (nc + c1) (ns + s1)
            | some (.inr (E, hp', c1, s1)) => match xfind (xmX (MT y)) pc E with
              | none => if xmH (MT y) = [] then some (.inr (E, hp', nc + c1, ns + s1)) else none
              | some q => xrun z MT n (d' + 1) y (q.1 + q.2.2) (xdrop q.2.1 L) [] hp' (nc + c1) (ns + s1)
          else none
theorem xrun_mono (z : XP) (MT : Nat → XM) : ∀ (n d y pc : Nat) (L : List (Nat × Value)) (st : List Value) (hp : List XC) (nc ns : Nat) (o : XO), xrun z MT n d y pc L st hp nc ns = some o → nc ≤ xoc o ∧ ns ≤ xos o := by
  intro n
  induction n with
  | zero => intro d y pc L st hp nc ns o h; cases h
  | succ n ih =>
    intro d y pc L st hp nc ns o h
    unfold xrun at h
    split at h
    · cases h
    · split at h
      · split at h
        · cases h
        · obtain ⟨h1, h2⟩ := ih _ _ _ _ _ _ _ _ _ h
          exact ⟨by omega, by omega⟩
      · split at h
        · split at h
          · cases h
          · exact ih _ _ _ _ _ _ _ _ _ h
        · split at h
          · obtain ⟨v, -, rfl⟩ := Option.map_eq_some_iff.mp h
            exact ⟨Nat.le_refl _, Nat.le_refl _⟩
          · split at h
            · split at h
              · cases h
                exact ⟨Nat.le_add_right _ _, Nat.le_add_right _ _⟩
              · cases h
            · split at h
              · split at h
                · cases h
                · split at h
                  · split at h
                    · split at h
                      · split at h
                        · exact ih _ _ _ _ _ _ _ _ _ h
                        · cases h
                      · cases h
                    · cases h
                  · cases h
              split at h
              · split at h
                · cases h
                · split at h
                  · split at h
                    · split at h
                      · obtain ⟨h1, h2⟩ := ih _ _ _ _ _ _ _ _ _ h
                        exact ⟨by omega, by omega⟩
                      · cases h
                    · cases h
                  · cases h
              split at h
              · cases h
              · split at h
                · cases h
                · split at h
                  · split at h
                    · cases h
                    · obtain ⟨h1, h2⟩ := ih _ _ _ _ _ _ _ _ _ h
                      exact ⟨by omega, by omega⟩
                    · split at h
                      · split at h
                        · cases h
                          exact ⟨Nat.le_add_right _ _, Nat.le_add_right _ _⟩
                        · cases h
                      · obtain ⟨h1, h2⟩ := ih _ _ _ _ _ _ _ _ _ h
                        exact ⟨by omega, by omega⟩
                  · cases h
theorem xsum_c (ad η : Nat → Nat) (vs : List Value) : xsum (vs.map (xc ad η)) = xsum vs := by
  unfold xsum
  rw [List.map_map]
  exact congrArg List.sum (congrArg (fun f => List.map f vs) (funext fun v => xc_cat ad η v))
theorem xsl_len (vs : List Value) : (lg_sl vs).length = xsum vs := by
  induction vs with
  | nil => rfl
  | cons v vs ih =>
    have h1 : lg_sl (v :: vs) = (if v.category = 2 then [.val v, .second] else [.val v]) ++ lg_sl vs := rfl
    have h2 : xsum (v :: vs) = v.category + xsum vs := rfl
    rw [h1, h2, List.length_append, ih]
    rcases lv_cat v with h | h <;> rw [h] <;> rfl
theorem xargs (ad η : Nat → Nat) : ∀ (vs : List Value) (i : Nat), lv_args i (vs.map (xc ad η)) = (lv_args i vs).map (xq ad η)
  | [], _ => rfl
  | v :: vs, i => by
    show (i, xc ad η v) :: lv_args (if (xc ad η v).category = 2 then i + 2 else i + 1) (vs.map (xc ad η)) = (i, xc ad η v) :: (lv_args (if v.category = 2 then i + 2 else i + 1) vs).map (xq ad η)
    rw [xc_cat, xargs ad η vs]
theorem xargs_wf {n : Nat} : ∀ {vs : List Value} {i : Nat}, (∀ v ∈ vs, xv n v) → xwl n (lv_args i vs)
  | [], _, _ => fun q hq => by cases hq
  | v :: vs, i, h => fun q hq => (List.mem_cons.mp hq).elim (fun e => by rw [e]; exact h v List.mem_cons_self) (fun z => xargs_wf (i := if v.category = 2 then i + 2 else i + 1) (fun w hw => h w (List.mem_cons_of_mem _ hw)) q z)
