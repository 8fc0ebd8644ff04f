/-! the constants at the law's entry: their terms, their addresses -/
def xtm (k : Nat) : Term :=
  if k < 51 then xwS (xwN k)
  else if k < 221 then (match xNC.2.1[(k - 51) / 2]? with
    | some q => if (k - 51) % 2 = 0 then .string q.1 q.2.1 else .field (.string q.1 q.2.1) "java/lang/String" "value" "[B"
    | none => .arg 0)
  else if k = 221 then .static "Levelhouse" "WORDS" "[LLevelhouse$Word;"
  else if k = 222 then .static "Levelhouse$1" "$SwitchMap$Levelhouse$Word" "[I"
  else if k = 223 then .static "java/lang/Integer" "DigitTens" "[B"
  else if k = 224 then .static "java/lang/Integer" "DigitOnes" "[B"
  else if k = 225 then .static "java/util/ArrayList" "DEFAULTCAPACITY_EMPTY_ELEMENTDATA" "[Ljava/lang/Object;"
  else if k = 226 then .arg 0
  else if k = 227 then .mirror "[Ljava/lang/Object;"
  else .static "jdk/internal/util/Preconditions" "SIOOBE_FORMATTER" "Ljava/util/function/BiFunction;"
/-- where a constant lies -/
def xad (args : Array Value) (s : State) (k : Nat) : Nat := match (xtm k).eval args s none [] s with
  | some (.ref a) => a
  | _ => 0
theorem xad_of {args : Array Value} {s : State} {k a : Nat} (h : (xtm k).eval args s none [] s = some (.ref a)) : xad args s k = a := by
  unfold xad
  rw [h]
def xkL (j : Nat) : Bool := match xNC.2.1[j]?, xKC[51 + 2 * j]?, xKC[52 + 2 * j]? with
  | some q, some (.inr (c, [.retAddr b, .int z])), some (.inl (t, es)) => decide (c = 0) && decide (z = 0) && decide (t = 2) && decide (q.2.2.2 = 51 + 2 * j) && decide (b = 52 + 2 * j) && decide (es.length < 2 ^ 31) && es.all (fun v => decide (v = .int (xint v))) && decide (xtm (51 + 2 * j) = .string q.1 q.2.1) && decide (xtm (52 + 2 * j) = .field (.string q.1 q.2.1) "java/lang/String" "value" "[B")
  | _, _, _ => false
theorem xkL_ok : (List.range 85).all xkL = true := by decide +kernel
theorem xkL_s {j : Nat} (hj : j < 85) : ∃ q es, xNC.2.1[j]? = some q ∧ xKC[51 + 2 * j]? = some (.inr (0, [.retAddr (52 + 2 * j), .int 0])) ∧ xKC[52 + 2 * j]? = some (.inl (2, es)) ∧ q.2.2.2 = 51 + 2 * j ∧ es.length < 2 ^ 31 ∧ es.all (fun v => decide (v = .int (xint v))) = true ∧ xtm (51 + 2 * j) = .string q.1 q.2.1 ∧ xtm (52 + 2 * j) = .field (.string q.1 q.2.1) "java/lang/String" "value" "[B" := by
  have h := List.all_eq_true.mp xkL_ok j (List.mem_range.mpr hj)
  unfold xkL at h
  split at h
  · rename_i q c b z t es e1 e2 e3
    rw [Bool.and_eq_true, Bool.and_eq_true, Bool.and_eq_true, Bool.and_eq_true, Bool.and_eq_true, Bool.and_eq_true, Bool.and_eq_true, Bool.and_eq_true] at h
    obtain ⟨⟨⟨⟨⟨⟨⟨⟨h1, h2⟩, h3⟩, h4⟩, h5⟩, h6⟩, h7⟩, h8⟩, h9⟩ := h
    have h1 := of_decide_eq_true h1
    have h2 := of_decide_eq_true h2
    have h3 := of_decide_eq_true h3
    have h5 := of_decide_eq_true h5
    subst h1; subst h2; subst h3; subst h5
    exact ⟨q, es, e1, e2, e3, of_decide_eq_true h4, of_decide_eq_true h6, h7, of_decide_eq_true h8, of_decide_eq_true h9⟩
  · cases h
def xkW (k : Nat) : Bool := match xwt[k]?, xKC[k]? with
  | some q, some (.inr (c, [.int o, .retAddr b, .int z])) => decide (c = 16) && decide (o = Int32.ofNat k) && decide (z = q.2.2.2.2.2.2.2) && decide (51 ≤ b) && decide (b < 221) && decide ((b - 51) % 2 = 0) && decide (xtm b = .string q.2.2.2.2.2.1 q.2.2.2.2.2.2.1) && decide (xtm k = xwS q.1)
  | _, _ => false
theorem xkW_ok : (List.range 51).all xkW = true := by decide +kernel
theorem xkW_s {k : Nat} (hk : k < 51) : ∃ q b, xwt[k]? = some q ∧ xKC[k]? = some (.inr (16, [.int (Int32.ofNat k), .retAddr b, .int q.2.2.2.2.2.2.2])) ∧ (∃ j, j < 85 ∧ b = 51 + 2 * j) ∧ xtm b = .string q.2.2.2.2.2.1 q.2.2.2.2.2.2.1 ∧ xtm k = xwS q.1 := by
  have h := List.all_eq_true.mp xkW_ok k (List.mem_range.mpr hk)
  unfold xkW at h
  split at h
  · rename_i q c o b z e1 e2
    rw [Bool.and_eq_true, Bool.and_eq_true, Bool.and_eq_true, Bool.and_eq_true, Bool.and_eq_true, Bool.and_eq_true, Bool.and_eq_true] at h
    obtain ⟨⟨⟨⟨⟨⟨⟨h1, h2⟩, h3⟩, h4⟩, h5⟩, h6⟩, h7⟩, h8⟩ := h
    have h1 := of_decide_eq_true h1
    have h2 := of_decide_eq_true h2
    have h3 := of_decide_eq_true h3
    have h4 := of_decide_eq_true h4
    have h5 := of_decide_eq_true h5
    have h6 := of_decide_eq_true h6
    subst h1; subst h2; subst h3
    exact ⟨q, b, e1, e2, ⟨(b - 51) / 2, by omega, by omega⟩, of_decide_eq_true h7, of_decide_eq_true h8⟩
  · cases h
def xkA (k t : Nat) (vs : List Value) : Bool := match xKC[k]? with
  | some (.inl (t', es)) => decide (t' = t) && decide (es = vs)
  | _ => false
theorem xkA_s {k t : Nat} {vs : List Value} (h : xkA k t vs = true) : xKC[k]? = some (.inl (t, vs)) := by
  unfold xkA at h
  split at h
  · rename_i t' es e1
    rw [Bool.and_eq_true] at h
    rw [e1, of_decide_eq_true h.1, of_decide_eq_true h.2]
  · cases h
theorem xkA_ok : xKC[221]? = some (.inl (5, (List.range 51).map Value.retAddr)) ∧ xKC[222]? = some (.inl (0, xaS.map Value.int)) ∧ xKC[223]? = some (.inl (2, xaT.map Value.int)) ∧ xKC[224]? = some (.inl (2, xaO.map Value.int)) ∧ xKC[225]? = some (.inl (7, [])) ∧ xKC.length = 226 := ⟨xkA_s (by decide +kernel), xkA_s (by decide +kernel), xkA_s (by decide +kernel), xkA_s (by decide +kernel), xkA_s (by decide +kernel), by decide +kernel⟩
/-- what holds of the texts, the Words and the arrays -/
theorem xe_text {args : Array Value} {s : State} {A : Nat → Prop} (h0 : ∀ c ∈ xfl, c.before args s = true) (hA : ∀ a : Nat, a < s.heap.size → ¬ A a) {j : Nat} (hj : j < 85) : (xtm (51 + 2 * j)).eval args s none [] s = some (.ref (xad args s (51 + 2 * j))) ∧ (xtm (52 + 2 * j)).eval args s none [] s = some (.ref (xad args s (52 + 2 * j))) ∧ (∀ c, xKC[51 + 2 * j]? = some c → xkP xCL xTy (xad args s) A s s.heap (xad args s (51 + 2 * j)) c) ∧ ∀ c, xKC[52 + 2 * j]? = some c → xkP xCL xTy (xad args s) A s s.heap (xad args s (52 + 2 * j)) c := by
  obtain ⟨q, es, e1, e2, e3, e4, e5, e6, e7, e8⟩ := xkL_s hj
  have hb : xbytes q.2.2.2 = es.map xint := by
    unfold xbytes
    rw [e4, show 51 + 2 * j + 1 = 52 + 2 * j from by omega, e3]
  have hl : (xbytes q.2.2.2).length = es.length := by rw [hb, List.length_map]
  obtain ⟨a, t, g1, g2, g3, g4, g5, g6⟩ := xtx_at (A := A) h0 hA (List.mem_of_getElem? e1) (by rw [hl]; exact e5)
  rw [← e7] at g1
  rw [← e8] at g2
  have ea := xad_of g1
  have et := xad_of g2
  rw [ea, et]
  refine ⟨g1, g2, fun c hc => ?_, fun c hc => ?_⟩
  · cases e2.symm.trans hc
    refine ⟨_, rfl, g3, fun i v hi => ?_⟩
    match i, hi with
    | 0, hi =>
      cases hi
      show va_OF "java/lang/String" "value" "[B" (.ref (xad args s (52 + 2 * j))) a A s s.heap
      rw [et]
      exact g4
    | 1, hi =>
      cases hi
      exact g5
    | i + 2, hi => cases hi
  · cases e3.symm.trans hc
    show va_T .byte t es.length (fun i => xc (xad args s) (xad args s) (es.getD i .null)) A s s.heap
    rw [← hl]
    refine xT_congr g6 (fun i hi => ?_)
    rw [hl] at hi
    have hm : es.getD i .null ∈ es := by
      rw [List.getD_eq_getElem?_getD, List.getElem?_eq_getElem hi]
      exact List.getElem_mem hi
    have h9 := of_decide_eq_true (List.all_eq_true.mp e6 _ hm)
    rw [hb]
    conv => rhs; rw [h9]
    show Value.int _ = Value.int _
    refine congrArg Value.int ?_
    rw [List.getD_eq_getElem?_getD, List.getD_eq_getElem?_getD, List.getElem?_map, List.getElem?_eq_getElem hi]
    rfl
theorem xe_word {args : Array Value} {s : State} {A : Nat → Prop} (h0 : ∀ c ∈ xfl, c.before args s = true) (hA : ∀ a : Nat, a < s.heap.size → ¬ A a) {k : Nat} (hk : k < 51) : (xtm k).eval args s none [] s = some (.ref (xad args s k)) ∧ ∀ c, xKC[k]? = some c → xkP xCL xTy (xad args s) A s s.heap (xad args s k) c := by
  obtain ⟨q, b, e1, e2, ⟨j, hj, rfl⟩, e4, e5⟩ := xkW_s hk
  have ht := (xe_text (A := A) h0 hA hj).1
  rw [e4] at ht
  obtain ⟨a, g1, g2, g3, g4, g5⟩ := xw_at (A := A) h0 hA hk e1 ht
  rw [← e5] at g1
  have ea := xad_of g1
  rw [ea]
  refine ⟨g1, fun c hc => ?_⟩
  cases e2.symm.trans hc
  refine ⟨_, rfl, g2, fun i v hi => ?_⟩
  match i, hi with
  | 0, hi => cases hi; exact g3
  | 1, hi => cases hi; exact g4
  | 2, hi => cases hi; exact g5
  | i + 3, hi => cases hi
theorem xe_ints {ad : Nat → Nat} {s : State} {A : Nat → Prop} {H : Heap} {ty : FieldType} {t n : Nat} {es : List Int32} (h : va_T ty t n (fun j => .int (es.getD j 0)) A s H) (hn : n = es.length) : va_T ty t (es.map Value.int).length (fun j => xc ad ad ((es.map Value.int).getD j .null)) A s H := by
  subst hn
  rw [List.length_map]
  refine xT_congr h (fun i hi => ?_)
  rw [List.getD_eq_getElem?_getD, List.getD_eq_getElem?_getD, List.getElem?_map, List.getElem?_eq_getElem hi]
  rfl
theorem xe_arr {args : Array Value} {s : State} {A : Nat → Prop} (h0 : ∀ c ∈ xfl, c.before args s = true) (hA : ∀ a : Nat, a < s.heap.size → ¬ A a) {k : Nat} (hk : 221 ≤ k) (hk2 : k < 226) : (xtm k).eval args s none [] s = some (.ref (xad args s k)) ∧ ∀ c, xKC[k]? = some c → xkP xCL xTy (xad args s) A s s.heap (xad args s k) c := by
  obtain ⟨k1, k2, k3, k4, k5, -⟩ := xkA_ok
  rcases (by omega : k = 221 ∨ k = 222 ∨ k = 223 ∨ k = 224 ∨ k = 225) with rfl | rfl | rfl | rfl | rfl
  · obtain ⟨t, g1, g2⟩ := xaW_at (A := A) h0 hA (aw := xad args s) (fun j hj => by
      have h := (xe_word (A := A) h0 hA hj).1
      have e : xtm j = xwS (xwN j) := if_pos hj
      rw [← e]
      exact h)
    have ea := xad_of (k := 221) g1
    rw [ea]
    refine ⟨g1, fun c hc => ?_⟩
    cases k1.symm.trans hc
    refine xT_congr g2 (fun i hi => ?_)
    have hi : i < 51 := hi
    show _ = xc (xad args s) (xad args s) (List.getD ((List.range 51).map Value.retAddr) i .null)
    rw [List.getD_eq_getElem?_getD, List.getElem?_map, List.getElem?_range hi]
    rfl
  · obtain ⟨t, g1, g2⟩ := xaS_at (A := A) h0 hA
    have ea := xad_of (k := 222) g1
    rw [ea]
    refine ⟨g1, fun c hc => ?_⟩
    cases k2.symm.trans hc
    exact xe_ints g2 rfl
  · obtain ⟨t, g1, g2⟩ := xaT_at (A := A) h0 hA
    have ea := xad_of (k := 223) g1
    rw [ea]
    refine ⟨g1, fun c hc => ?_⟩
    cases k3.symm.trans hc
    exact xe_ints g2 rfl
  · obtain ⟨t, g1, g2⟩ := xaO_at (A := A) h0 hA
    have ea := xad_of (k := 224) g1
    rw [ea]
    refine ⟨g1, fun c hc => ?_⟩
    cases k4.symm.trans hc
    exact xe_ints g2 rfl
  · obtain ⟨t, g1, g2⟩ := xaE_at (A := A) h0 hA
    have ea := xad_of (k := 225) g1
    rw [ea]
    refine ⟨g1, fun c hc => ?_⟩
    cases k5.symm.trans hc
    exact xe_ints (es := []) g2 rfl
/-- every constant -/
theorem xe_all {args : Array Value} {s : State} {A : Nat → Prop} (h0 : ∀ c ∈ xfl, c.before args s = true) (hA : ∀ a : Nat, a < s.heap.size → ¬ A a) {k : Nat} (hk : k < 226) : (xtm k).eval args s none [] s = some (.ref (xad args s k)) ∧ ∀ c, xKC[k]? = some c → xkP xCL xTy (xad args s) A s s.heap (xad args s k) c := by
  by_cases h1 : k < 51
  · exact xe_word h0 hA h1
  · by_cases h2 : k < 221
    · obtain ⟨j, hj, h3⟩ : ∃ j, j < 85 ∧ (k = 51 + 2 * j ∨ k = 52 + 2 * j) := ⟨(k - 51) / 2, by omega, by omega⟩
      obtain ⟨g1, g2, g3, g4⟩ := xe_text (A := A) h0 hA hj
      rcases h3 with rfl | rfl
      · exact ⟨g1, g3⟩
      · exact ⟨g2, g4⟩
    · exact xe_arr h0 hA (by omega) hk
theorem xkc_at {args : Array Value} {s : State} {A : Nat → Prop} (h0 : ∀ c ∈ xfl, c.before args s = true) (hA : ∀ a : Nat, a < s.heap.size → ¬ A a) : xkc xCL xTy (xad args s) A s s.heap xKC := fun k c hk => (xe_all h0 hA (by rw [← xkA_ok.2.2.2.2.2]; exact (List.getElem?_eq_some_iff.mp hk).1)).2 c hk
theorem xkP_lt {cl : List vw_C} {ty : Nat → FieldType} {ad : Nat → Nat} {A : Nat → Prop} {U : State} {H : Heap} {a : Nat} {c : XC} (h : xkP cl ty ad A U H a c) : ¬ A a := by
  rcases c with q | q
  · obtain ⟨cell, -, -, -, -, -, -, h7⟩ := (show va_T _ _ _ _ _ _ _ from h)
    exact h7
  · obtain ⟨r, -, ⟨cell, -, -, -, h4⟩, -⟩ := h
    exact h4
theorem xkA_at {args : Array Value} {s : State} {A : Nat → Prop} (h0 : ∀ c ∈ xfl, c.before args s = true) (hA : ∀ a : Nat, a < s.heap.size → ¬ A a) : ∀ k, k < xKC.length → ¬ A (xad args s k) := fun k hk => xkP_lt (xkc_at h0 hA k _ (List.getElem?_eq_getElem hk))
