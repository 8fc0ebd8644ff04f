/-! instructions over the abstract heap: what they do (functions), and that the machine does it -/
def xfit (ft : FieldType) (v : Value) : Bool :=
  match v with
  | .retAddr _ => refKind ft
  | .ref _ => refKind ft
  | w => decide (narrow ft w = w) && fits ft w
theorem xfit_s {ft : FieldType} {v : Value} (h : xfit ft v = true) (ad η : Nat → Nat) : narrow ft (xc ad η v) = xc ad η v ∧ fits ft (xc ad η v) = true := by
  have hr : ∀ a : Nat, refKind ft = true → narrow ft (.ref a) = .ref a ∧ fits ft (.ref a) = true := fun a h => by cases ft <;> first | exact ⟨rfl, rfl⟩ | cases h
  cases v with
  | ref a => exact hr _ h
  | retAddr a => exact hr _ h
  | int x => unfold xfit at h; simp only [Bool.and_eq_true, decide_eq_true_eq] at h; exact h
  | long x => unfold xfit at h; simp only [Bool.and_eq_true, decide_eq_true_eq] at h; exact h
  | float x => unfold xfit at h; simp only [Bool.and_eq_true, decide_eq_true_eq] at h; exact h
  | double x => unfold xfit at h; simp only [Bool.and_eq_true, decide_eq_true_eq] at h; exact h
  | null => unfold xfit at h; simp only [Bool.and_eq_true, decide_eq_true_eq] at h; exact h
/-- an object's field -/
def xfld (ci k : Nat) : Option XC → Option Value
  | some (.inr (c, fs)) => if c = ci then fs[k]? else none
  | _ => none
theorem xfld_s {ci k : Nat} {o : Option XC} {v : Value} (h : xfld ci k o = some v) : ∃ fs, o = some (.inr (ci, fs)) ∧ fs[k]? = some v := by
  unfold xfld at h
  split at h
  · split at h
    · rename_i e; subst e; exact ⟨_, rfl, h⟩
    · cases h
  · cases h
def xgf (nk : Nat) (kc hp : List XC) (ci k : Nat) (st : List Value) : Option (List Value) :=
  match st with
  | .ref h :: r => if nk ≠ 2 then (xfld ci k hp[h]?).map (fun v => v :: r) else none
  | .retAddr h :: r => if nk ≠ 1 then (xfld ci k kc[h]?).map (fun v => v :: r) else none
  | _ => none
def xpf (fty : FieldType) (hp : List XC) (ci k : Nat) (st : List Value) : Option (List XC × List Value) :=
  match st with
  | v :: .ref h :: r => match hp[h]? with
    | some (.inr (c, fs)) => if c = ci ∧ k < fs.length ∧ xfit fty v = true then some (hp.set h (.inr (c, fs.set k v)), r) else none
    | _ => none
  | _ => none
theorem xpf_s {fty : FieldType} {hp hp' : List XC} {ci k : Nat} {st st' : List Value} (h : xpf fty hp ci k st = some (hp', st')) : ∃ v a fs, st = v :: .ref a :: st' ∧ hp[a]? = some (.inr (ci, fs)) ∧ k < fs.length ∧ xfit fty v = true ∧ hp' = hp.set a (.inr (ci, fs.set k v)) := by
  unfold xpf at h
  split at h
  · split at h
    · split at h
      · rename_i e1 e2
        cases h
        obtain ⟨rfl, h1, h2⟩ := e2
        exact ⟨_, _, _, rfl, e1, h1, h2, rfl⟩
      · cases h
    · cases h
  · cases h
/-- arrays of whole numbers -/
def xap (i : Instr) (t : FieldType) : Bool :=
  match i with
  | .iaload => decide (t = .int)
  | .iastore => decide (t = .int)
  | .caload => decide (t = .char)
  | .castore => decide (t = .char)
  | .baload => decide (t = .byte) || decide (t = .boolean)
  | .bastore => decide (t = .byte) || decide (t = .boolean)
  | .saload => decide (t = .short)
  | .sastore => decide (t = .short)
  | _ => false
def xael (j : Int32) (es : List Value) : Option Int32 :=
  if j < 0 then none else match es[j.toNatClampNeg]? with
  | some (.int x) => some x
  | _ => none
theorem xael_s {j : Int32} {es : List Value} {x : Int32} (h : xael j es = some x) : vp_in j es.length ∧ x = xint (es.getD j.toNatClampNeg .null) ∧ j.toNatClampNeg < es.length := by
  unfold xael at h
  split at h
  · cases h
  · rename_i h0
    split at h
    · rename_i y e
      cases h
      have hl := (List.getElem?_eq_some_iff.mp e).1
      refine ⟨fun q => q.elim h0 (fun z => by omega), ?_, hl⟩
      rw [List.getD_eq_getElem?_getD, e]
      rfl
    · cases h
def xald (ty : Nat → FieldType) (nt : Nat) (i : Instr) (kc hp : List XC) (st : List Value) : Option (List Value) :=
  match st with
  | .int j :: .ref h :: r => match hp[h]? with
    | some (.inl (t, es)) => if t < nt ∧ xap i (ty t) = true then (xael j es).map (fun x => .int x :: r) else none
    | _ => none
  | .int j :: .retAddr h :: r => match kc[h]? with
    | some (.inl (t, es)) => if t < nt ∧ xap i (ty t) = true then (xael j es).map (fun x => .int x :: r) else none
    | _ => none
  | _ => none
def xast (ty : Nat → FieldType) (nt : Nat) (i : Instr) (hp : List XC) (st : List Value) : Option (List XC × List Value) :=
  match st with
  | .int x :: .int j :: .ref h :: r => match hp[h]? with
    | some (.inl (t, es)) => if t < nt ∧ xap i (ty t) = true ∧ ¬ j < 0 ∧ j.toNatClampNeg < es.length then some (hp.set h (.inl (t, es.set j.toNatClampNeg (.int (vp_nar (ty t) x)))), r) else none
    | _ => none
  | _ => none
theorem xast_s {ty : Nat → FieldType} {nt : Nat} {i : Instr} {hp hp' : List XC} {st st' : List Value} (h : xast ty nt i hp st = some (hp', st')) : ∃ x j a t es, st = .int x :: .int j :: .ref a :: st' ∧ hp[a]? = some (.inl (t, es)) ∧ t < nt ∧ xap i (ty t) = true ∧ vp_in j es.length ∧ j.toNatClampNeg < es.length ∧ hp' = hp.set a (.inl (t, es.set j.toNatClampNeg (.int (vp_nar (ty t) x)))) := by
  unfold xast at h
  split at h
  · split at h
    · split at h
      · rename_i e1 e2
        cases h
        obtain ⟨h1, h2, h3, h4⟩ := e2
        exact ⟨_, _, _, _, _, rfl, e1, h1, h2, fun q => q.elim h3 (fun z => by omega), h4, rfl⟩
      · cases h
    · cases h
  · cases h
/-- whether it is a reference -/
def xisr : Value → Bool
  | .null => true
  | .ref _ => true
  | .retAddr _ => true
  | _ => false
theorem xisr_s {v : Value} (h : xisr v = true) : v = .null ∨ (∃ a, v = .ref a) ∨ ∃ a, v = .retAddr a := by
  cases v <;> first | exact Or.inl rfl | exact Or.inr (Or.inl ⟨_, rfl⟩) | exact Or.inr (Or.inr ⟨_, rfl⟩) | cases h
/-- references -/
def xaal (ty : Nat → FieldType) (nt : Nat) (kc hp : List XC) (st : List Value) : Option (List Value) :=
  match st with
  | .int j :: .ref h :: r => match hp[h]? with
    | some (.inl (t, es)) => if t < nt ∧ refKind (ty t) = true ∧ ¬ j < 0 then (es[j.toNatClampNeg]?).bind (fun v => if xisr v = true then some (v :: r) else none) else none
    | _ => none
  | .int j :: .retAddr h :: r => match kc[h]? with
    | some (.inl (t, es)) => if t < nt ∧ refKind (ty t) = true ∧ ¬ j < 0 then (es[j.toNatClampNeg]?).bind (fun v => if xisr v = true then some (v :: r) else none) else none
    | _ => none
  | _ => none
/-- an array's length -/
def xlen : Option XC → Option Int32
  | some (.inl (_, es)) => some (Int32.ofNat es.length)
  | _ => none
def xaln (kc hp : List XC) (st : List Value) : Option (List Value) :=
  match st with
  | .ref h :: r => (xlen hp[h]?).map (fun n => .int n :: r)
  | .retAddr h :: r => (xlen kc[h]?).map (fun n => .int n :: r)
  | _ => none
theorem xlen_s {o : Option XC} {n : Int32} (h : xlen o = some n) : ∃ t es, o = some (.inl (t, es)) ∧ n = Int32.ofNat es.length := by
  unfold xlen at h
  split at h
  · cases h; exact ⟨_, _, rfl, rfl⟩
  · cases h
section XROW
variable {p : Program} {l : Launch} {e : Env} {R : Room} {s : State} {m : MethodId} {args : Array Value} {below : List Frame} {meth : Method} {c : Code} {H : Heap} {locs : List Loc} {cells slots : Nat} {Q : State → Prop}
variable {cc : ByteArray} {pc : Nat} {ls : Array Slot}
variable {cl : List vw_C} {ty : Nat → FieldType} {nt : Nat} {D : va_G} {da ad η : Nat → Nat} {A : Nat → Prop} {kc hp hp' : List XC} {H0 : Heap} {st st' : List Value} {TB : List Cond} {own : String}
/-- how a field's entry of the pool is linked -/
def xlk9 (TB : List Cond) (own : String) (idx : Nat) (q : String × String × String × Bool) : Prop :=
  ∃ ref : String, (Cond.fieldLink own idx ref q.2.1 q.2.2.1 ∈ TB ∨ ∃ host, Cond.fieldLinkNest own idx ref q.2.1 q.2.2.1 host ∈ TB) ∧ (ref = q.1 ∨ Cond.sameField ref q.1 q.2.1 q.2.2.1 ∈ TB)
def xlk8 (TB : List Cond) (own : String) (idx : Nat) (q : String × String × String × Bool) : Prop := ∃ ref : String, Cond.fieldLink own idx ref q.2.1 q.2.2.1 ∈ TB ∧ (ref = q.1 ∨ Cond.sameField ref q.1 q.2.1 q.2.2.1 ∈ TB)
theorem xget_at {cN ci k idx : Nat} {C : String} {T : u_T} {ws : va_W} {a : Nat} {fs : List Value} {v : Value} {rest : List Value} (hx : p.tables.exec = Jvm.exec) (hb : c.code = cc) (hts : ∀ w ∈ TB, w.before args s = true) (hin : ∀ w ∈ u_ws C T cN, w ∈ TB) (hown : s.vm.findClass own = some m.cls) (hK : va_K D (xk cl) (xtys ty da nt) s) (hP : va_P D (xk cl) ws H)
    (hc : cl[ci]? = some (C, T, cN)) (hk : k < cN) (hl : xlk9 TB own idx (T k)) (q0 : Nat) (he : ws[q0]? = some (a, .inr (ci, fs))) (hv : fs[k]? = some v) (hd : decode cc pc = .ok (.getfield idx, 3))
    (kk : W p l e R s m args below meth c H locs cells slots Q (F0 m (pc + 3) ls (v :: rest))) : W p l e R s m args below meth c H locs cells slots Q (F0 m pc ls (.ref a :: rest)) := by
  obtain ⟨ref, h1, h2⟩ := hl
  have hsame : ∀ x, s.fieldFound? (T k).1 (T k).2.1 (T k).2.2.1 = some x → s.fieldFound? ref (T k).2.1 (T k).2.2.1 = some x := by
    rcases h2 with h2 | h2
    · subst h2; exact fun _ h => h
    · exact u_same (hts _ h2)
  rcases h1 with h1 | ⟨host, h1⟩
  · exact va_get hx hb hts hin hown hK hP q0 he (xk_of hP he hc) k hk (hts _ h1) hsame hv hd kk
  · exact va_getN hx hb hts hin hown hK hP q0 he (xk_of hP he hc) k hk (hts _ h1) hsame hv hd kk
/-- getfield -/
theorem xgf_sim {nk : Nat} {cN ci k idx : Nat} {C : String} {T : u_T} (hx : p.tables.exec = Jvm.exec) (hb : c.code = cc) (hts : ∀ w ∈ TB, w.before args s = true) (hin : ∀ w ∈ u_ws C T cN, w ∈ TB) (hown : s.vm.findClass own = some m.cls) (hK : va_K D (xk cl) (xtys ty da nt) s) (hP : va_P D (xk cl) (xw ty da ad η hp) H) (hKc : xkc cl ty ad A s s.heap kc) (hS9 : va_S A s.heap H locs) (hkw : xhw 0 kc)
    (hc : cl[ci]? = some (C, T, cN)) (hl : nk ≠ 2 → k < cN ∧ xlk9 TB own idx (T k)) (hlp : nk ≠ 1 → xlk8 TB own idx (T k)) (hd : decode cc pc = .ok (.getfield idx, 3)) (h : xgf nk kc hp ci k st = some st')
    (kk : W p l e R s m args below meth c H locs cells slots Q (F0 m (pc + 3) ls (st'.map (xc ad η)))) : W p l e R s m args below meth c H locs cells slots Q (F0 m pc ls (st.map (xc ad η))) := by
  unfold xgf at h
  split at h
  · split at h
    · rename_i hnk
      obtain ⟨v, hv, rfl⟩ := Option.map_eq_some_iff.mp h
      obtain ⟨fs, h1, h2⟩ := xfld_s hv
      exact xget_at hx hb hts hin hown hK hP hc (hl hnk).1 (hl hnk).2 _ (xw_get h1) (v := xc ad η v) (by rw [List.getElem?_map, h2]; rfl) hd kk
    · cases h
  · split at h
    · rename_i hnk
      obtain ⟨v, hv, rfl⟩ := Option.map_eq_some_iff.mp h
      obtain ⟨fs, h1, h2⟩ := xfld_s hv
      have e1 : xc ad ad v = xc ad η v := xc_g (fun k hk => absurd hk (Nat.not_lt_zero k)) (hkw _ (List.mem_of_getElem? h1) v (List.mem_of_getElem? h2))
      obtain ⟨r, g1, -, g3⟩ := hKc _ _ h1
      cases g1.symm.trans hc
      obtain ⟨ref, j1, j2⟩ := hlp hnk
      have hsame : ∀ x, s.fieldFound? (T k).1 (T k).2.1 (T k).2.2.1 = some x → s.fieldFound? ref (T k).2.1 (T k).2.2.1 = some x := by
        rcases j2 with j2 | j2
        · subst j2; exact fun _ h => h
        · exact u_same (hts _ j2)
      have g4 := g3 k v h2
      rw [e1] at g4
      exact vk_getf hx hb g4 hS9 hown (hts _ j1) hsame hd kk
    · cases h
  · cases h
/-- putfield -/
theorem xpf_sim {cN ci k idx : Nat} {C : String} {T : u_T} {fty : FieldType} (ty0 : Nat → FieldType) (hty : ∀ k, k < cN → parseFieldDescriptor (T k).2.2.1 = some (ty0 k)) (hnm : ∀ a, a < cN → ∀ b, b < cN → a ≠ b → (T a).2.1 ≠ (T b).2.1) (hx : p.tables.exec = Jvm.exec) (hb : c.code = cc) (hts : ∀ w ∈ TB, w.before args s = true) (hin : ∀ w ∈ u_ws C T cN, w ∈ TB) (hown : s.vm.findClass own = some m.cls) (hK : va_K D (xk cl) (xtys ty da nt) s) (hR : xR cl ty D da ad η A hp H) (hS : va_S A H0 H locs)
    (hc : cl[ci]? = some (C, T, cN)) (hk : k < cN) (hl : xlk9 TB own idx (T k)) (hfin : (T k).2.2.2 = false ∨ ((T k).2.2.2 = true ∧ meth.name = "<init>" ∧ (T k).1 = own ∧ Cond.fieldLink own idx (T k).1 (T k).2.1 (T k).2.2.1 ∈ TB)) (hft : ty0 k = fty) (hd : decode cc pc = .ok (.putfield idx, 3)) (h : xpf fty hp ci k st = some (hp', st'))
    (kk : ∀ (H1 : Heap) (locs1 : List Loc), xR cl ty D da ad η A hp' H1 → va_S A H0 H1 locs1 → W p l e R s m args below meth c H1 locs1 cells slots Q (F0 m (pc + 3) ls (st'.map (xc ad η)))) : W p l e R s m args below meth c H locs cells slots Q (F0 m pc ls (st.map (xc ad η))) := by
  obtain ⟨v, a, fs, rfl, h1, h2, h3, rfl⟩ := xpf_s h
  have hc := xk_of hR.1 (xw_get h1) hc
  subst hft
  obtain ⟨f1, f2⟩ := xfit_s h3 ad η
  have e1 : (xw ty da ad η hp).set a (η a, .inr (ci, (fs.map (xc ad η)).set k (xc ad η v))) = xw ty da ad η (hp.set a (.inr (ci, fs.set k v))) := by
    rw [← xw_set, show xe ty da ad η (.inr (ci, fs.set k v)) = .inr (ci, (fs.map (xc ad η)).set k (xc ad η v)) from congrArg (fun z => (Sum.inr (ci, z) : va_E)) List.map_set]
  have kk' : ∀ (H1 : Heap) (locs1 : List Loc), va_P D (xk cl) ((xw ty da ad η hp).set a (η a, .inr (ci, (fs.map (xc ad η)).set k (xc ad η v)))) H1 → va_D A ((xw ty da ad η hp).set a (η a, .inr (ci, (fs.map (xc ad η)).set k (xc ad η v)))) → va_S A H0 H1 locs1 → W p l e R s m args below meth c H1 locs1 cells slots Q (F0 m (pc + 3) ls (st'.map (xc ad η))) := fun H1 locs1 q1 q2 q3 => by
    rw [e1] at q1 q2
    exact kk H1 locs1 ⟨q1, q2⟩ q3
  have hl9 : k < (fs.map (xc ad η)).length := by rw [List.length_map]; exact h2
  rcases hfin with hfin | ⟨hfin, hin2, hdecl, hlf⟩
  · obtain ⟨ref, g1, g2⟩ := hl
    have hsame : ∀ x, s.fieldFound? (T k).1 (T k).2.1 (T k).2.2.1 = some x → s.fieldFound? ref (T k).2.1 (T k).2.2.1 = some x := by
      rcases g2 with g2 | g2
      · subst g2; exact fun _ h => h
      · exact u_same (hts _ g2)
    rcases g1 with g1 | ⟨host, g1⟩
    · exact va_put hx hb hts hin ty0 hty hnm hown hK hR.1 hR.2 hS a (xw_get h1) hc k hk (hts _ g1) hsame hfin (hty k hk) f1 f2 hl9 hd kk'
    · exact va_putN hx hb hts hin ty0 hty hnm hown hK hR.1 hR.2 hS a (xw_get h1) hc k hk (hts _ g1) hsame hfin (hty k hk) f1 f2 hl9 hd kk'
  · exact va_putF hx hb hts hin ty0 hty hnm hown hK hR.1 hR.2 hS a (xw_get h1) hc k hk (hts _ hlf) (fun _ h => h) hfin hin2 hdecl (hty k hk) f1 f2 hl9 hd kk'
theorem xae_p {t : FieldType} (h : refKind t = false) (ad η : Nat → Nat) (es : List Value) : xae t ad η es = (es.length, .inl (fun j => xint (es.getD j .null))) := by
  unfold xae; rw [if_neg (by rw [h]; decide)]
theorem xae_r {t : FieldType} (h : refKind t = true) (ad η : Nat → Nat) (es : List Value) : xae t ad η es = (es.length, .inr (.inr (.inr (.inr (fun j => xref ad η (es.getD j .null)))))) := by
  unfold xae; rw [if_pos h]
theorem xap_p {i : Instr} {t : FieldType} (h : xap i t = true) : refKind t = false := by
  unfold xap at h
  split at h
  all_goals first
    | (rw [of_decide_eq_true h]; rfl)
    | (rcases Bool.or_eq_true_iff.mp h with h | h <;> (rw [of_decide_eq_true h]; rfl))
    | cases h
theorem xald_at {i : Instr} {ws : va_W} {a t : Nat} {es : List Value} {j x : Int32} {rest : List Value} (hx : p.tables.exec = Jvm.exec) (hb : c.code = cc) (hK : va_K D (xk cl) (xtys ty da nt) s) (hP : va_P D (xk cl) ws H) (q0 : Nat) (he : ws[q0]? = some (a, .inl (da t, xae (ty t) ad η es))) (ht : t < nt) (hi : i = .iaload ∨ i = .caload ∨ i = .baload ∨ i = .saload) (hap : xap i (ty t) = true) (hj : xael j es = some x) (hd : decode cc pc = .ok (i, 1))
    (kk : W p l e R s m args below meth c H locs cells slots Q (F0 m (pc + 1) ls (.int x :: rest))) : W p l e R s m args below meth c H locs cells slots Q (F0 m pc ls (.int j :: .ref a :: rest)) := by
  obtain ⟨h1, h2, h3⟩ := xael_s hj
  rw [xae_p (xap_p hap)] at he
  subst h2
  rcases hi with rfl | rfl | rfl | rfl
  · exact va_iald hx hb hK hP q0 t he (by rw [xtys_get ht, of_decide_eq_true hap]) h1 hd kk
  · exact va_cald hx hb hK hP q0 t he (by rw [xtys_get ht, of_decide_eq_true hap]) h1 hd kk
  · rcases Bool.or_eq_true_iff.mp hap with hap | hap
    · exact va_bald hx hb hK hP q0 t he (by rw [xtys_get ht, of_decide_eq_true hap]) h1 hd kk
    · exact va_zald hx hb hK hP q0 t he (by rw [xtys_get ht, of_decide_eq_true hap]) h1 hd kk
  · exact va_sald hx hb hK hP q0 t he (by rw [xtys_get ht, of_decide_eq_true hap]) h1 hd kk
theorem xald_k {i : Instr} {a t : Nat} {es : List Value} {j x : Int32} {rest : List Value} (hx : p.tables.exec = Jvm.exec) (hb : c.code = cc) (hT : va_T (ty t) a es.length (fun j => xc ad ad (es.getD j .null)) A s s.heap) (hS9 : va_S A s.heap H locs) (hi : i = .iaload ∨ i = .caload ∨ i = .baload ∨ i = .saload) (hap : xap i (ty t) = true) (hj : xael j es = some x) (hd : decode cc pc = .ok (i, 1))
    (kk : W p l e R s m args below meth c H locs cells slots Q (F0 m (pc + 1) ls (.int x :: rest))) : W p l e R s m args below meth c H locs cells slots Q (F0 m pc ls (.int j :: .ref a :: rest)) := by
  have hj2 := hj
  obtain ⟨h1, h2, h3⟩ := xael_s hj
  have hv : (fun j => xc ad ad (es.getD j .null)) j.toNatClampNeg = .int x := by
    unfold xael at hj2
    split at hj2
    · cases hj2
    · split at hj2
      · rename_i y e9
        cases hj2
        show xc ad ad (es.getD j.toNatClampNeg .null) = _
        rw [List.getD_eq_getElem?_getD, e9]
        rfl
      · cases hj2
  rcases hi with rfl | rfl | rfl | rfl
  · rw [of_decide_eq_true hap] at hT
    exact va_ti hx hb hT hS9 h1 hv hd kk
  · rw [of_decide_eq_true hap] at hT
    exact va_tc hx hb hT hS9 h1 hv hd kk
  · rcases Bool.or_eq_true_iff.mp hap with hap | hap
    · rw [of_decide_eq_true hap] at hT
      exact va_tb hx hb hT hS9 h1 hv hd kk
    · rw [of_decide_eq_true hap] at hT
      exact va_tz hx hb hT hS9 h1 hv hd kk
  · rw [of_decide_eq_true hap] at hT
    exact va_ts hx hb hT hS9 h1 hv hd kk
/-- loads of whole numbers -/
theorem xald_sim {i : Instr} (hx : p.tables.exec = Jvm.exec) (hb : c.code = cc) (hK : va_K D (xk cl) (xtys ty da nt) s) (hP : va_P D (xk cl) (xw ty da ad η hp) H) (hKc : xkc cl ty ad A s s.heap kc) (hS9 : va_S A s.heap H locs) (hd : decode cc pc = .ok (i, 1)) (hi : i = .iaload ∨ i = .caload ∨ i = .baload ∨ i = .saload) (h : xald ty nt i kc hp st = some st')
    (kk : W p l e R s m args below meth c H locs cells slots Q (F0 m (pc + 1) ls (st'.map (xc ad η)))) : W p l e R s m args below meth c H locs cells slots Q (F0 m pc ls (st.map (xc ad η))) := by
  unfold xald at h
  split at h
  · split at h
    · split at h
      · rename_i e1 e2
        obtain ⟨x, hj, rfl⟩ := Option.map_eq_some_iff.mp h
        exact xald_at hx hb hK hP _ (xw_get e1) e2.1 hi e2.2 hj hd kk
      · cases h
    · cases h
  · split at h
    · split at h
      · rename_i e1 e2
        obtain ⟨x, hj, rfl⟩ := Option.map_eq_some_iff.mp h
        exact xald_k hx hb (hKc _ _ e1) hS9 hi e2.2 hj hd kk
      · cases h
    · cases h
  · cases h
/-- stores of whole numbers -/
theorem xast_sim {i : Instr} (hx : p.tables.exec = Jvm.exec) (hb : c.code = cc) (hK : va_K D (xk cl) (xtys ty da nt) s) (hR : xR cl ty D da ad η A hp H) (hS : va_S A H0 H locs) (hd : decode cc pc = .ok (i, 1)) (hi : i = .iastore ∨ i = .castore ∨ i = .bastore ∨ i = .sastore) (h : xast ty nt i hp st = some (hp', st'))
    (kk : ∀ (H1 : Heap) (locs1 : List Loc), xR cl ty D da ad η A hp' H1 → va_S A H0 H1 locs1 → W p l e R s m args below meth c H1 locs1 cells slots Q (F0 m (pc + 1) ls (st'.map (xc ad η)))) : W p l e R s m args below meth c H locs cells slots Q (F0 m pc ls (st.map (xc ad η))) := by
  obtain ⟨x, j, a, t, es, rfl, h1, h2, h3, h4, h5, rfl⟩ := xast_s h
  have hp9 := xap_p h3
  have he := xw_get (ty := ty) (da := da) (ad := ad) (η := η) h1
  have e0 : xe ty da ad η (.inl (t, es)) = .inl (da t, es.length, .inl (fun j => xint (es.getD j .null))) := congrArg (fun z => (Sum.inl (da t, z) : va_E)) (xae_p hp9 ad η es)
  rw [e0] at he
  have e1 : (xw ty da ad η hp).set a (η a, .inl (da t, es.length, .inl (upd (fun j => xint (es.getD j .null)) j.toNatClampNeg (vp_nar (ty t) x)))) = xw ty da ad η (hp.set a (.inl (t, es.set j.toNatClampNeg (.int (vp_nar (ty t) x))))) := by
    rw [← xw_set]
    refine congrArg (fun z => (xw ty da ad η hp).set a (η a, z)) ?_
    show _ = (Sum.inl (da t, xae (ty t) ad η _) : va_E)
    rw [xae_p hp9, List.length_set, xint_set h5]
  have kk' : ∀ (H1 : Heap) (locs1 : List Loc), va_P D (xk cl) ((xw ty da ad η hp).set a (η a, .inl (da t, es.length, .inl (upd (fun j => xint (es.getD j .null)) j.toNatClampNeg (vp_nar (ty t) x))))) H1 → va_D A ((xw ty da ad η hp).set a (η a, .inl (da t, es.length, .inl (upd (fun j => xint (es.getD j .null)) j.toNatClampNeg (vp_nar (ty t) x))))) → va_S A H0 H1 locs1 → W p l e R s m args below meth c H1 locs1 cells slots Q (F0 m (pc + 1) ls (st'.map (xc ad η))) := fun H1 locs1 q1 q2 q3 => by
    rw [e1] at q1 q2
    exact kk H1 locs1 ⟨q1, q2⟩ q3
  rcases hi with rfl | rfl | rfl | rfl
  · have ht9 : ty t = .int := of_decide_eq_true h3
    rw [ht9] at kk'
    exact va_iast hx hb hK hR.1 hR.2 hS a t he (by rw [xtys_get h2, ht9]) h4 hd kk'
  · have ht9 : ty t = .char := of_decide_eq_true h3
    rw [ht9] at kk'
    exact va_cast hx hb hK hR.1 hR.2 hS a t he (by rw [xtys_get h2, ht9]) h4 hd kk'
  · rcases Bool.or_eq_true_iff.mp h3 with h3 | h3
    · have ht9 : ty t = .byte := of_decide_eq_true h3
      rw [ht9] at kk'
      exact va_bast hx hb hK hR.1 hR.2 hS a t he (by rw [xtys_get h2, ht9]) h4 hd kk'
    · have ht9 : ty t = .boolean := of_decide_eq_true h3
      rw [ht9] at kk'
      exact va_zast hx hb hK hR.1 hR.2 hS a t he (by rw [xtys_get h2, ht9]) h4 hd kk'
  · have ht9 : ty t = .short := of_decide_eq_true h3
    rw [ht9] at kk'
    exact va_sast hx hb hK hR.1 hR.2 hS a t he (by rw [xtys_get h2, ht9]) h4 hd kk'
theorem xref_rf {v : Value} (h : v = .null ∨ (∃ a, v = .ref a) ∨ ∃ a, v = .retAddr a) (ad η : Nat → Nat) : va_rf (xref ad η v) = xc ad η v := by
  rcases h with rfl | ⟨a, rfl⟩ | ⟨a, rfl⟩ <;> rfl
end XROW
