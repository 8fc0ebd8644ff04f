/-! the abstract heap: arrays (kind, contents) and objects (class, fields); what it is in the machine's heap -/
abbrev XC : Type := (Nat × List Value) ⊕ (Nat × List Value)
def xint : Value → Int32
  | .int x => x
  | _ => 0
def xref (ad η : Nat → Nat) : Value → Option Nat
  | .ref h => some (η h)
  | .retAddr k => some (ad k)
  | _ => none
def xae (ty : FieldType) (ad η : Nat → Nat) (es : List Value) : vp_A :=
  if refKind ty = true then (es.length, .inr (.inr (.inr (.inr (fun j => xref ad η (es.getD j .null)))))) else (es.length, .inl (fun j => xint (es.getD j .null)))
def xe (ty : Nat → FieldType) (da ad η : Nat → Nat) : XC → va_E
  | .inl (t, es) => .inl (da t, xae (ty t) ad η es)
  | .inr (ci, fs) => .inr (ci, fs.map (xc ad η))
def xw (ty : Nat → FieldType) (da ad η : Nat → Nat) (hp : List XC) : va_W := hp.mapIdx (fun k c => (η k, xe ty da ad η c))
def xwf (n : Nat) : XC → Prop
  | .inl (_, es) => ∀ v ∈ es, xv n v
  | .inr (_, fs) => ∀ v ∈ fs, xv n v
def xhw (n : Nat) (hp : List XC) : Prop := ∀ c ∈ hp, xwf n c
theorem xwf_mono {n n' : Nat} (h : n ≤ n') {c : XC} (hc : xwf n c) : xwf n' c := by
  rcases c with ⟨t, es⟩ | ⟨t, es⟩ <;> exact fun v hv => xv_mono h (hc v hv)
theorem xhw_mono {n n' : Nat} (h : n ≤ n') {hp : List XC} (hc : xhw n hp) : xhw n' hp := fun c hm => xwf_mono h (hc c hm)
theorem xref_g {n : Nat} {ad η η' : Nat → Nat} (h : xg n η η') {v : Value} (hv : xv n v) : xref ad η' v = xref ad η v := by
  cases v <;> first | rfl | exact congrArg some (h _ hv)
theorem xget_wf {n : Nat} {es : List Value} (h : ∀ v ∈ es, xv n v) (j : Nat) : xv n (es.getD j .null) := by
  rw [List.getD_eq_getElem?_getD]
  cases hj : es[j]? with
  | none => trivial
  | some v => exact h v (List.mem_of_getElem? hj)
theorem xe_g {n : Nat} {ty : Nat → FieldType} {da ad η η' : Nat → Nat} (h : xg n η η') {c : XC} (hc : xwf n c) : xe ty da ad η' c = xe ty da ad η c := by
  rcases c with ⟨t, es⟩ | ⟨t, fs⟩
  · unfold xe xae
    dsimp only
    split
    · exact congrArg (fun f => (Sum.inl (da t, es.length, .inr (.inr (.inr (.inr f)))) : va_E)) (funext fun j => xref_g h (xget_wf hc j))
    · rfl
  · exact congrArg (fun f => (Sum.inr (t, f) : va_E)) (xc_gs h hc)
theorem xw_get {ty : Nat → FieldType} {da ad η : Nat → Nat} {hp : List XC} {k : Nat} {c : XC} (h : hp[k]? = some c) : (xw ty da ad η hp)[k]? = some (η k, xe ty da ad η c) := by
  unfold xw
  rw [List.getElem?_mapIdx, h]
  rfl
theorem xw_of {ty : Nat → FieldType} {da ad η : Nat → Nat} {hp : List XC} {k : Nat} {q : Nat × va_E} (h : (xw ty da ad η hp)[k]? = some q) : ∃ c, hp[k]? = some c ∧ q = (η k, xe ty da ad η c) := by
  unfold xw at h
  rw [List.getElem?_mapIdx] at h
  cases hc : hp[k]? with
  | none => rw [hc] at h; cases h
  | some c => rw [hc] at h; cases h; exact ⟨c, rfl, rfl⟩
theorem xw_set {ty : Nat → FieldType} {da ad η : Nat → Nat} {hp : List XC} {k : Nat} (c : XC) : (xw ty da ad η hp).set k (η k, xe ty da ad η c) = xw ty da ad η (hp.set k c) := by
  unfold xw
  refine List.ext_getElem? (fun j => ?_)
  rw [List.getElem?_mapIdx, List.getElem?_set, List.getElem?_set, List.getElem?_mapIdx, List.length_mapIdx]
  split
  · rename_i e
    subst e
    split <;> rfl
  · rfl
theorem xw_push {ty : Nat → FieldType} {da ad η : Nat → Nat} {hp : List XC} (hw : xhw hp.length hp) (q : Nat) (c : XC) (e : va_E) (he : xe ty da ad (va_up η hp.length q) c = e) : xw ty da ad (va_up η hp.length q) (hp ++ [c]) = xw ty da ad η hp ++ [(q, e)] := by
  unfold xw
  rw [List.mapIdx_append]
  congr 1
  · refine List.ext_getElem? (fun j => ?_)
    rw [List.getElem?_mapIdx, List.getElem?_mapIdx]
    cases hj : hp[j]? with
    | none => rfl
    | some x =>
      have hlt : j < hp.length := (List.getElem?_eq_some_iff.mp hj).1
      have e1 : va_up η hp.length q j = η j := if_neg (by omega)
      have e2 : xe ty da ad (va_up η hp.length q) x = xe ty da ad η x := xe_g (fun k hk => if_neg (by omega)) (hw x (List.mem_of_getElem? hj))
      show some (_, _) = some (_, _)
      rw [e1, e2]
  · have e1 : va_up η hp.length q (0 + hp.length) = q := if_pos (by omega)
    show [(va_up η hp.length q (0 + hp.length), _)] = [(_, _)]
    rw [e1, he]
theorem xup_g (η : Nat → Nat) (n q : Nat) : xg n η (va_up η n q) := fun k hk => if_neg (by omega)
/-- prim arrays after a write -/
theorem xint_set {es : List Value} {i : Nat} {x : Int32} (hi : i < es.length) : (fun j => xint ((es.set i (.int x)).getD j .null)) = upd (fun j => xint (es.getD j .null)) i x := by
  funext j
  unfold upd
  rw [List.getD_eq_getElem?_getD, List.getElem?_set]
  by_cases h : i = j
  · subst h
    rw [if_pos rfl, if_pos hi, if_pos rfl]
    rfl
  · rw [if_neg h, if_neg (Ne.symm h), ← List.getD_eq_getElem?_getD]
theorem xref_set {ad η : Nat → Nat} {es : List Value} {i : Nat} {v : Value} (hi : i < es.length) : (fun j => xref ad η ((es.set i v).getD j .null)) = va_up (fun j => xref ad η (es.getD j .null)) i (xref ad η v) := by
  funext j
  unfold va_up
  rw [List.getD_eq_getElem?_getD, List.getElem?_set]
  by_cases h : i = j
  · subst h
    rw [if_pos rfl, if_pos hi, if_pos rfl]
    rfl
  · rw [if_neg h, if_neg (Ne.symm h), ← List.getD_eq_getElem?_getD]
theorem xwf_set {n : Nat} {hp : List XC} {k : Nat} {c : XC} (h : xhw n hp) (hc : xwf n c) : xhw n (hp.set k c) := fun x hx => (List.mem_or_eq_of_mem_set hx).elim (h x) (fun e => by rw [e]; exact hc)
theorem xvs_set {n : Nat} {es : List Value} {k : Nat} {v : Value} (h : ∀ w ∈ es, xv n w) (hv : xv n v) : ∀ w ∈ es.set k v, xv n w := fun x hx => (List.mem_or_eq_of_mem_set hx).elim (h x) (fun e => by rw [e]; exact hv)
theorem xwf_push {hp : List XC} {c : XC} (h : xhw hp.length hp) (hc : xwf (hp.length + 1) c) : xhw (hp ++ [c]).length (hp ++ [c]) := by
  rw [List.length_append]
  exact fun x hx => (List.mem_append.mp hx).elim (fun z => xwf_mono (Nat.le_add_right _ _) (h x z)) (fun z => by rw [List.mem_singleton.mp z]; exact hc)
/-- the classes of which objects are made: the others (of constants alone) stand behind them -/
def xk (cl : List vw_C) : List vw_C := cl.take 16
theorem xk_get {cl : List vw_C} {ci : Nat} {r : vw_C} (h : (xk cl)[ci]? = some r) : cl[ci]? = some r := by
  unfold xk at h
  rw [List.getElem?_take] at h
  split at h
  · exact h
  · cases h
theorem xk_lt {cl : List vw_C} {ci : Nat} {r : vw_C} (h : (xk cl)[ci]? = some r) : ci < 16 := by
  unfold xk at h
  rw [List.getElem?_take] at h
  split at h
  · assumption
  · cases h
theorem xk_of {D : va_G} {cl : List vw_C} {ws : va_W} {H : Heap} {q0 a ci : Nat} {fs : List Value} {r : vw_C} (hP : va_P D (xk cl) ws H) (he : ws[q0]? = some (a, .inr (ci, fs))) (hc : cl[ci]? = some r) : (xk cl)[ci]? = some r := by
  obtain ⟨r', h1, -⟩ := hP q0 _ he
  cases (xk_get h1).symm.trans hc
  exact h1
/-- the machine's heap holds the abstract one, at addresses that are apart and in A -/
def xR (cl : List vw_C) (ty : Nat → FieldType) (D : va_G) (da ad η : Nat → Nat) (A : Nat → Prop) (hp : List XC) (H : Heap) : Prop := va_P D (xk cl) (xw ty da ad η hp) H ∧ va_D A (xw ty da ad η hp)
theorem xR_inj {cl : List vw_C} {ty : Nat → FieldType} {D : va_G} {da ad η : Nat → Nat} {A : Nat → Prop} {hp : List XC} {H : Heap} (h : xR cl ty D da ad η A hp H) {i j : Nat} (hi : i < hp.length) (hj : j < hp.length) (e : η i = η j) : i = j := by
  obtain ⟨c, hc⟩ : ∃ c, hp[i]? = some c := ⟨_, List.getElem?_eq_getElem hi⟩
  obtain ⟨c', hc'⟩ : ∃ c, hp[j]? = some c := ⟨_, List.getElem?_eq_getElem hj⟩
  exact h.2.1 i j _ _ (xw_get hc) (xw_get hc') e
theorem xR_lt {cl : List vw_C} {ty : Nat → FieldType} {D : va_G} {da ad η : Nat → Nat} {A : Nat → Prop} {hp : List XC} {H : Heap} (h : xR cl ty D da ad η A hp H) {i : Nat} (hi : i < hp.length) : η i < H.size := by
  obtain ⟨c, hc⟩ : ∃ c, hp[i]? = some c := ⟨_, List.getElem?_eq_getElem hi⟩
  exact (h.1 i _ (xw_get hc)).lt
theorem xR_A {cl : List vw_C} {ty : Nat → FieldType} {D : va_G} {da ad η : Nat → Nat} {A : Nat → Prop} {hp : List XC} {H : Heap} (h : xR cl ty D da ad η A hp H) {i : Nat} (hi : i < hp.length) : A (η i) := by
  obtain ⟨c, hc⟩ : ∃ c, hp[i]? = some c := ⟨_, List.getElem?_eq_getElem hi⟩
  exact h.2.2 i _ (xw_get hc)
/-- the array classes: their numbers, by their places in ty -/
def xtys (ty : Nat → FieldType) (da : Nat → Nat) (nt : Nat) : List (ClassId × FieldType) := (List.range nt).map (fun t => (da t, ty t))
theorem xtys_get {ty : Nat → FieldType} {da : Nat → Nat} {nt t : Nat} (h : t < nt) : (xtys ty da nt)[t]? = some (da t, ty t) := by
  unfold xtys
  rw [List.getElem?_map, List.getElem?_range h]
  rfl
/-- a constant: a cell outside A that nobody writes -/
def xkP (cl : List vw_C) (ty : Nat → FieldType) (ad : Nat → Nat) (A : Nat → Prop) (U : State) (H : Heap) (a : Nat) (c : XC) : Prop :=
  match c with
  | .inr q => ∃ r : vw_C, cl[q.1]? = some r ∧ va_O r.1 a A U H ∧ ∀ (j : Nat) (v : Value), q.2[j]? = some v → va_OF (r.2.1 j).1 (r.2.1 j).2.1 (r.2.1 j).2.2.1 (xc ad ad v) a A U H
  | .inl q => va_T (ty q.1) a q.2.length (fun j => xc ad ad (q.2.getD j .null)) A U H
def xkc (cl : List vw_C) (ty : Nat → FieldType) (ad : Nat → Nat) (A : Nat → Prop) (U : State) (H : Heap) (kc : List XC) : Prop := ∀ (k : Nat) (c : XC), kc[k]? = some c → xkP cl ty ad A U H (ad k) c
theorem xkc_moved {cl : List vw_C} {ty : Nat → FieldType} {ad : Nat → Nat} {A : Nat → Prop} {u U : State} {H : Heap} {kc : List XC} (hvm : u.vm.Alike U.vm) (h : xkc cl ty ad A u H kc) : xkc cl ty ad A U H kc := by
  intro k c hk
  have h9 := h k c hk
  rcases c with q | q
  · exact va_T.moved hvm h9
  · obtain ⟨r, h1, h2, h3⟩ := h9
    exact ⟨r, h1, va_O.moved hvm h2, fun j v hj => va_OF.moved hvm (h3 j v hj)⟩
theorem xkc_kept {cl : List vw_C} {ty : Nat → FieldType} {ad : Nat → Nat} {A : Nat → Prop} {U : State} {H H1 : Heap} {kc : List XC} (h : xkc cl ty ad A U H kc) (hq : ∀ a : Nat, a < H.size → ¬ A a → H1[a]? = H[a]?) : xkc cl ty ad A U H1 kc := by
  intro k c hk
  have h9 := h k c hk
  rcases c with q | q
  · exact va_T.kept h9 hq
  · obtain ⟨r, h1, h2, h3⟩ := h9
    exact ⟨r, h1, va_O.kept h2 hq, fun j v hj => va_OF.kept (h3 j v hj) hq⟩
theorem xkc_narrow {cl : List vw_C} {ty : Nat → FieldType} {ad : Nat → Nat} {A B : Nat → Prop} {U : State} {H : Heap} {kc : List XC} (h : xkc cl ty ad A U H kc) (hAB : ∀ q, B q → A q) : xkc cl ty ad B U H kc := by
  intro k c hk
  have h9 := h k c hk
  rcases c with q | q
  · exact va_T.narrow h9 hAB
  · obtain ⟨r, h1, h2, h3⟩ := h9
    exact ⟨r, h1, va_O.narrow h2 hAB, fun j v hj => va_OF.narrow (h3 j v hj) hAB⟩
