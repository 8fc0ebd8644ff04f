/-! queries: the lines that are kept (by hand) -/
theorem xq_all : ((List.range 51).all (fun a => (List.range 51).all (fun b => decide (xeq xKC (.retAddr a) (.retAddr b) = some (decide (a = b)))))) = true := by decide +kernel
/-- words are the same or not by their numbers -/
theorem xq_w {a b : Nat} (ha : a < 51) (hb : b < 51) : xeq xKC (.retAddr a) (.retAddr b) = some (decide (a = b)) :=
  of_decide_eq_true (List.all_eq_true.mp (List.all_eq_true.mp xq_all a (List.mem_range.mpr ha)) b (List.mem_range.mpr hb))
/-- whether a stretch of a formula can be worked out doesn't hang on the cells -/
theorem resR_ind {lb lb' : Int32} {cel cel' : Int32 → Int32} : ∀ (qs : List (Nat × Int32)) (ss ss' : List Int32), ss.length = ss'.length → (resR lb cel qs ss).isSome = (resR lb' cel' qs ss').isSome
  | [], _, _, _ => rfl
  | q :: qs, ss, ss', h => by
    unfold resR
    have key : ∀ (x : Option (List Int32)) (y : Option (List Int32)), x = resStep lb cel q ss → y = resStep lb' cel' q ss' → (x = none ∧ y = none) ∨ ∃ u v, x = some u ∧ y = some v ∧ u.length = v.length := by
      intro x y hx hy
      unfold resStep at hx hy
      by_cases h2 : q.1 = 2
      · rw [if_pos h2] at hx hy
        exact Or.inr ⟨_, _, hx, hy, congrArg (· + 1) h⟩
      rw [if_neg h2] at hx hy
      by_cases h3 : q.1 = 3
      · rw [if_pos h3] at hx hy
        exact Or.inr ⟨_, _, hx, hy, congrArg (· + 1) h⟩
      rw [if_neg h3] at hx hy
      by_cases h34 : q.1 = 34
      · rw [if_pos h34] at hx hy
        exact Or.inr ⟨_, _, hx, hy, congrArg (· + 1) h⟩
      rw [if_neg h34] at hx hy
      by_cases h29 : q.1 = 29
      · rw [if_pos h29] at hx hy
        exact Or.inr ⟨_, _, hx, hy, congrArg (· + 1) h⟩
      rw [if_neg h29] at hx hy
      by_cases h4 : q.1 = 4 ∨ q.1 = 35 ∨ q.1 = 50
      · rw [if_pos h4] at hx hy
        match ss, ss', h, hx, hy with
        | [], [], _, hx, hy => exact Or.inl ⟨hx, hy⟩
        | _ :: _, _ :: _, h, hx, hy => exact Or.inr ⟨_, _, hx, hy, h⟩
      rw [if_neg h4] at hx hy
      by_cases h9 : q.1 = 39 ∨ q.1 = 40 ∨ q.1 = 41 ∨ q.1 = 42 ∨ q.1 = 43 ∨ q.1 = 44 ∨ q.1 = 45 ∨ q.1 = 48 ∨ q.1 = 49
      · rw [if_pos h9] at hx hy
        match ss, ss', h, hx, hy with
        | [], [], _, hx, hy => exact Or.inl ⟨hx, hy⟩
        | [_], [_], _, hx, hy => exact Or.inl ⟨hx, hy⟩
        | _ :: _ :: r, _ :: _ :: r', h, hx, hy => exact Or.inr ⟨_, _, hx, hy, Nat.succ.inj h⟩
      rw [if_neg h9] at hx hy
      exact Or.inl ⟨hx, hy⟩
    rcases key _ _ rfl rfl with ⟨e1, e2⟩ | ⟨u, v, e1, e2, e3⟩
    · rw [e1, e2]
    · rw [e1, e2]
      exact resR_ind qs u v e3
theorem resR_ok {lb : Int32} {cel : Int32 → Int32} {qs : List (Nat × Int32)} (h : resOk qs = true) : (resR lb cel qs []).isSome = true := by
  rw [← h]
  exact resR_ind qs [] [] rfl
/-- the kept lines as numbers in a row -/
def LinR (lb : List Int32) (w : Nat) (ks : List (List Int32)) : Prop := ks.length * w ≤ lb.length ∧ ∀ (i : Nat) (l : List Int32), ks[i]? = some l → (lb.drop (i * w)).take w = l
/-- a line is put among those that are kept -/
def insP (so : Option Nat) (dn : Int32) (ks : List (List Int32)) (l : List Int32) : Nat := olP (fun i => cmpL so dn l ((ks[i]?).getD [])) ks.length
def insK (so : Option Nat) (dn : Int32) (kp : Nat) (ks : List (List Int32)) (l : List Int32) : List (List Int32) :=
  if kp ≤ insP so dn ks l then ks else (ks.take (insP so dn ks l) ++ l :: ks.drop (insP so dn ks l)).take (if ks.length < kp then ks.length + 1 else ks.length)
theorem insK_len {so : Option Nat} {dn : Int32} {kp : Nat} {ks : List (List Int32)} {l : List Int32} (h : ¬ kp ≤ insP so dn ks l) : (insK so dn kp ks l).length = if ks.length < kp then ks.length + 1 else ks.length := by
  have hP : insP so dn ks l ≤ ks.length := olP_le _ _
  unfold insK
  rw [if_neg h, List.length_take, List.length_append, List.length_cons, List.length_take, List.length_drop]
  split <;> omega
theorem drop_take_at {lb : List Int32} {a w j : Nat} : ((lb.drop a).take w)[j]? = if j < w then lb[a + j]? else none := by
  rw [List.getElem?_take, List.getElem?_drop]
theorem LinR.ins {lb lb' la : List Int32} {w kp P m : Nat} {ks : List (List Int32)} (h : LinR lb w ks) (hP : P ≤ ks.length) (hI : InsR lb lb' la P w (m * w)) : LinR lb' w ((ks.take P ++ la.take w :: ks.drop P).take m) := by
  obtain ⟨h1, h2⟩ := h
  obtain ⟨n1, n2⟩ := hI
  refine ⟨?_, fun i l hl => ?_⟩
  · rw [List.length_take]
    exact Nat.le_trans (Nat.mul_le_mul_right _ (Nat.min_le_left _ _)) n1
  · rw [List.getElem?_take] at hl
    split at hl
    · rename_i him
      have hiw : i * w + w ≤ m * w := by
        have := Nat.mul_le_mul_right w (show i + 1 ≤ m from him)
        rw [Nat.succ_mul] at this
        exact this
      rw [List.getElem?_append, List.length_take, Nat.min_eq_left hP] at hl
      refine List.ext_getElem? (fun j => ?_)
      rw [drop_take_at]
      split at hl
      · rename_i hiP
        rw [List.getElem?_take, if_pos hiP] at hl
        have q1 : i * w + w ≤ P * w := by
          have := Nat.mul_le_mul_right w (show i + 1 ≤ P from hiP)
          rw [Nat.succ_mul] at this
          exact this
        rw [← h2 i l hl, drop_take_at]
        split
        · rename_i hj
          rw [n2 _ (by omega), if_pos (by omega)]
        · rfl
      · rename_i hiP
        rw [List.getElem?_cons] at hl
        split at hl
        · rename_i hz
          cases hl
          have e0 : i = P := by omega
          subst e0
          rw [List.getElem?_take]
          split
          · rename_i hj
            rw [n2 _ (by omega), if_neg (by omega), if_pos (by omega), Nat.add_sub_cancel_left]
          · rfl
        · rename_i hz
          rw [List.getElem?_drop] at hl
          have e1 : P + (i - P - 1) = i - 1 := by omega
          rw [e1] at hl
          rw [← h2 _ l hl, drop_take_at]
          have q1 : (i - 1) * w + w = i * w := by
            have := Nat.succ_mul (i - 1) w
            rw [Nat.succ_eq_add_one, show i - 1 + 1 = i by omega] at this
            exact this.symm
          have q2 : P * w + w ≤ i * w := by
            have := Nat.mul_le_mul_right w (show P + 1 ≤ i by omega)
            rw [Nat.succ_mul] at this
            exact this
          split
          · rename_i hj
            rw [n2 _ (by omega), if_neg (by omega), if_neg (by omega), show i * w + j - w = (i - 1) * w + j by omega]
          · rfl
    · cases hl
/-! sorting depends on the picks alone -/
theorem sinkC_tk {key : Int32 → Int32} {size a n : Nat} {ps : List Int32} (hs : size ≤ n) (ha : 2 * a + 1 < size) : sinkC key size a (ps.take n) = sinkC key size a ps := by
  unfold sinkC
  by_cases h2 : 2 * a + 2 < size
  · have e1 : (ps.take n)[2 * a + 1]? = ps[2 * a + 1]? := by rw [List.getElem?_take, if_pos (by omega)]
    have e2 : (ps.take n)[2 * a + 2]? = ps[2 * a + 2]? := by rw [List.getElem?_take, if_pos (by omega)]
    rw [e1, e2]
  · rw [if_neg (fun h => h2 h.1), if_neg (fun h => h2 h.1)]
theorem sinkE_tk {key : Int32 → Int32} {size n : Nat} (hs : size ≤ n) : ∀ (f a : Nat) (ps : List Int32), (sinkE key size f a ps).take n = sinkE key size f a (ps.take n)
  | 0, _, _ => rfl
  | f + 1, a, ps => by
    unfold sinkE
    by_cases h : 2 * a + 1 < size
    · have hc := (sinkC_lt (key := key) (ps := ps) h).2
      have e1 : (ps.take n)[a]? = ps[a]? := by rw [List.getElem?_take, if_pos (by omega)]
      have e2 : (ps.take n)[sinkC key size a ps]? = ps[sinkC key size a ps]? := by rw [List.getElem?_take, if_pos (by omega)]
      rw [if_pos h, if_pos h, sinkC_tk hs h, e1, e2]
      split
      · rw [sinkE_tk hs f, List.take_set, List.take_set]
      · rfl
    · rw [if_neg h, if_neg h]
theorem bldE_tk {key : Int32 → Int32} {n : Nat} : ∀ (k : Nat) (ps : List Int32), (bldE key n k ps).take n = bldE key n k (ps.take n)
  | 0, _ => rfl
  | k + 1, ps => by
    unfold bldE
    rw [bldE_tk k, sinkE_tk (Nat.le_refl n)]
theorem outE_tk {key : Int32 → Int32} {n : Nat} : ∀ (i : Nat) (ps : List Int32), i < n → (outE key i ps).take n = outE key i (ps.take n)
  | 0, _, _ => rfl
  | i + 1, ps, h => by
    unfold outE
    rw [outE_tk i _ (by omega), sinkE_tk (show i + 1 ≤ n by omega), List.take_set, List.take_set]
    have e1 : (ps.take n)[i + 1]? = ps[i + 1]? := by rw [List.getElem?_take, if_pos (by omega)]
    have e2 : (ps.take n)[0]? = ps[0]? := by rw [List.getElem?_take, if_pos (by omega)]
    rw [e1, e2]
theorem sortE_tk {key : Int32 → Int32} {n : Nat} {ps : List Int32} (hn : n ≤ ps.length) : (sortE key n ps).take n = sortE key n (ps.take n) := by
  unfold sortE
  rcases Nat.eq_zero_or_pos n with h | h
  · subst h
    rfl
  · rw [outE_tk _ _ (by omega), bldE_tk]
theorem sortE_len {key : Int32 → Int32} {n : Nat} {ps : List Int32} : (sortE key n ps).length = ps.length := by
  unfold sortE
  rw [outE_len, bldE_len]
theorem sortE_V {V : Int32 → Prop} {key : Int32 → Int32} {n : Nat} {ps : List Int32} (hn : n ≤ ps.length) (h : allV V n ps) : allV V n (sortE key n ps) := fun i v hi hv => by
  have hm : v ∈ (sortE key n ps).take n := List.mem_of_getElem? (i := i) (by rw [List.getElem?_take, if_pos hi]; exact hv)
  have hm2 := (sortE_ok (key := key) hn).1.mem_iff.mp hm
  obtain ⟨j, hj⟩ := List.getElem?_of_mem hm2
  rw [List.getElem?_take] at hj
  split at hj
  · rename_i hjn
    exact h j v hjn hj
  · cases hj
