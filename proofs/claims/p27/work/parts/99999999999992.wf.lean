/-! what holds of a house's model at all times (by hand) -/
def isL4 (x : Int32) : Bool := decide (x = 0) || (decide (x = 1) || (decide (x = 16) || decide (x = 17)))
theorem isL4_c {x : Int32} (h : isL4 x = true) : x = 0 ∨ x = 1 ∨ x = 16 ∨ x = 17 := by
  unfold isL4 at h
  simpa only [Bool.or_eq_true, decide_eq_true_eq] using h
theorem isL4_wg (n : Nat) : isL4 (Int32.ofNat (wg [0, 1, 16, 17] n)) = true := by
  unfold wg
  match n with
  | 0 => decide
  | 1 => decide
  | 2 => decide
  | 3 => decide
  | n + 4 => show isL4 (Int32.ofNat 0) = true; decide
theorem isL4_nn {x : Int32} (h : isL4 x = true) : ¬ x < 0 := by
  rcases isL4_c h with e | e | e | e <;> (rw [e]; decide)
theorem isB_rf {x : Int32} (h : isL4 x = true) : isB x x = true := by
  rcases isL4_c h with e | e | e | e <;> (rw [e]; decide)
theorem isB_tr {a b c : Int32} (ha : isL4 a = true) (hb : isL4 b = true) (hc : isL4 c = true) (h1 : isB a b = true) (h2 : isB b c = true) : isB a c = true := by
  rcases isL4_c ha with e | e | e | e <;> rcases isL4_c hb with e2 | e2 | e2 | e2 <;> rcases isL4_c hc with e3 | e3 | e3 | e3 <;> (rw [e, e2] at h1; rw [e2, e3] at h2; rw [e, e3]; revert h1 h2; decide)
/-- labels below one of the four are one of the four -/
theorem isB_L4 {o l : Int32} (hl : isL4 l = true) (ho : isLb o = true) (h : isB o l = true) : isL4 o = true := by
  obtain ⟨n, hn, e⟩ : ∃ n, n < 64 ∧ o = Int32.ofNat n := by
    unfold isLb at ho
    have h1 := Bool.and_eq_true_iff.mp ho
    have h2 : ¬ o < 0 := fun h9 => by
      have := of_decide_eq_true h1.1
      exact absurd h9 (by first | exact this | exact Int32.not_lt.mpr this)
    have h3 : o < 64 := of_decide_eq_true h1.2
    refine ⟨o.toNatClampNeg, ?_, ?_⟩
    · have h4 := Int32.lt_iff_toInt_lt.mp h3
      have h5 : (64 : Int32).toInt = 64 := rfl
      have h6 : o.toNatClampNeg = o.toInt.toNat := rfl
      have h7 : 0 ≤ o.toInt := by
        have h99 : ¬ o.toInt < 0 := fun h9 => h2 (Int32.lt_iff_toInt_lt.mpr h9)
        omega
      omega
    · have h6 : o.toNatClampNeg = o.toInt.toNat := rfl
      have h7 : 0 ≤ o.toInt := by
        have h99 : ¬ o.toInt < 0 := fun h9 => h2 (Int32.lt_iff_toInt_lt.mpr h9)
        omega
      have h8 := o.toInt_lt
      have h4 := Int32.lt_iff_toInt_lt.mp h3
      have h5 : (64 : Int32).toInt = 64 := rfl
      refine Int32.toInt_inj.mp ?_
      rw [Int32.toInt_ofNat_of_lt (by omega), h6]
      omega
  rw [e] at h ⊢
  have key : ∀ n, n < 64 → ∀ l ∈ ([0, 1, 16, 17] : List Int32), isB (Int32.ofNat n) l = true → isL4 (Int32.ofNat n) = true := by decide +kernel
  refine key n hn l ?_ h
  rcases isL4_c hl with e9 | e9 | e9 | e9 <;> (rw [e9]; decide)
def EnOk (ts : List TQ) (st : List Nat) (es : List En) : Prop := Srt es ∧ (∀ e ∈ es, (∃ q ∈ ts, q.1.1 = e.2.2.2.2.2 ∧ q.2.1 = e.1 ∧ isB q.2.2.1.2.1 e.2.2.1 = true) ∧ e.2.2.2.2.2 ∈ st ∧ isL4 e.2.2.1 = true ∧ ¬ e.2.1 < -1000000000) ∧ ∀ sr lb, cntE es sr lb ≤ 12
def TabOk (M : HM) (md c : Nat) : Prop := (∀ q ∈ M.2.2.2.2.2.2, isL4 q.2.2.1.2.1 = true ∧ q.2.2.2.2.1.length = 64 ∧ (∀ (n : Nat) (x : Int32), q.2.2.2.2.1[n]? = some x → ∃ m : Nat, m ≤ c ∧ x = Int32.ofNat m) ∧ (∃ m : Nat, 1 ≤ m ∧ m ≤ md ∧ q.2.1 = Int32.ofNat m) ∧ ∀ r, some r ∈ q.2.2.1.2.2.2.2 → ∃ p ∈ M.2.2.2.2.2.2, p.1.1 = r.1 ∧ p.2.1 = r.2 ∧ isB p.2.2.1.2.1 q.2.2.1.2.1 = true ∧ p.2.1 < q.2.1) ∧ ∀ p ∈ M.2.2.2.2.2.2, ∀ q ∈ M.2.2.2.2.2.2, p.2.1 = q.2.1 ∨ p.1.1 = q.1.1 → p = q
def ChOk (ts : List TQ) (lb : Int32) (cs : List En) : Prop := ∀ e ∈ cs, e.2.2.1 = lb ∧ ∃ q ∈ ts, q.1.1 = e.2.2.2.2.2 ∧ q.2.1 = e.1 ∧ isB q.2.2.1.2.1 e.2.2.1 = true
def SesOk (M : HM) (s : SM) : Prop := isL4 s.1 = true ∧ EnOk M.2.2.2.2.2.2 M.1 s.2.2.2.1 ∧ (s.2.2.1 = false → s.2.2.2.1 = [] ∧ s.2.2.2.2.1 = []) ∧ ChOk M.2.2.2.2.2.2 s.1 s.2.2.2.2.1 ∧ s.2.2.2.2.2.1 ≤ M.2.2.1.length
def massM (M : HM) : Nat := M.2.2.1.length + sumL (fun i => (M.2.2.2.1 i).2.2.2.2.1.length) (List.range 8)
def WfM (M : HM) (c d : Nat) : Prop := StT M.2.2.2.2.2.2 M.1 ∧ WfT M ∧ (∃ md, M.2.2.2.2.2.1 = Int32.ofNat md ∧ md ≤ c ∧ TabOk M md c) ∧ M.1.Nodup ∧ (∀ l, M.1.countP (fun a => decide ((TIq M.2.2.2.2.2.2 a).2.1 = l)) ≤ 3) ∧ EnOk M.2.2.2.2.2.2 M.1 M.2.1 ∧ (∀ i, i < 8 → SesOk M (M.2.2.2.1 i)) ∧ massM M ≤ 48 * d ∧ M.2.2.2.2.1.length = 256
theorem TIq_at9 {ts : List TQ} (hu : ∀ p ∈ ts, ∀ q ∈ ts, p.1.1 = q.1.1 → p = q) {q : TQ} (hq : q ∈ ts) : TIq ts q.1.1 = q.2.2.1 := by
  unfold TIq
  cases h : ts.find? (fun p => decide (p.1.1 = q.1.1)) with
  | none => exact absurd (decide_eq_true (rfl : q.1.1 = q.1.1)) (List.find?_eq_none.mp h q hq)
  | some p =>
    have h1 := List.find?_some h
    have h2 := List.mem_of_find?_eq_some h
    rw [hu p h2 q hq (of_decide_eq_true h1)]
/-! how many there can be -/
theorem part_len {α β : Type} {p : β → α → Bool} {ks : List β} : ∀ {xs : List α}, (∀ x ∈ xs, ∃ k ∈ ks, p k x = true) → xs.length ≤ ((ks.map (fun k => xs.countP (p k))).sum)
  | [], _ => Nat.zero_le _
  | x :: xs, h => by
    have ih := part_len (p := p) (ks := ks) (xs := xs) (fun y hy => h y (List.mem_cons_of_mem _ hy))
    obtain ⟨k, hk, hp⟩ := h x List.mem_cons_self
    have key : ∀ ks : List β, (ks.map (fun k => xs.countP (p k))).sum ≤ (ks.map (fun k => (x :: xs).countP (p k))).sum ∧ (k ∈ ks → (ks.map (fun k => xs.countP (p k))).sum + 1 ≤ (ks.map (fun k => (x :: xs).countP (p k))).sum) := by
      intro ks
      induction ks with
      | nil => exact ⟨Nat.le_refl _, fun h9 => (List.not_mem_nil h9).elim⟩
      | cons k2 ks ih2 =>
        rw [List.map_cons, List.map_cons, List.sum_cons, List.sum_cons]
        have hc : xs.countP (p k2) ≤ (x :: xs).countP (p k2) := by rw [List.countP_cons]; exact Nat.le_add_right _ _
        refine ⟨by omega, fun h9 => ?_⟩
        rcases List.mem_cons.mp h9 with e | e
        · have hc2 : xs.countP (p k2) + 1 = (x :: xs).countP (p k2) := by rw [← e, List.countP_cons_of_pos hp]
          omega
        · have := ih2.2 e
          omega
    have := (key ks).2 hk
    rw [List.length_cons]
    omega
theorem sum_le9 {α : Type} {h : α → Nat} {n : Nat} : ∀ {l : List α}, (∀ x ∈ l, h x ≤ n) → (l.map h).sum ≤ l.length * n
  | [], _ => Nat.zero_le _
  | x :: l, hx => by
    have ih := sum_le9 (h := h) (n := n) (l := l) (fun y hy => hx y (List.mem_cons_of_mem _ hy))
    have := hx x List.mem_cons_self
    rw [List.map_cons, List.sum_cons, List.length_cons, Nat.succ_mul]
    omega
theorem std_len {M : HM} {c d : Nat} (h : WfM M c d) : M.1.length ≤ 12 := by
  obtain ⟨h1, h2, ⟨md, m1, m2, m3⟩, h4, h5, -⟩ := h
  have e := part_len (p := fun (l : Int32) (a : Nat) => decide ((TIq M.2.2.2.2.2.2 a).2.1 = l)) (ks := [0, 1, 16, 17]) (xs := M.1) (fun a ha => by
    obtain ⟨q, hq, e⟩ := h1 a ha
    have hu : TIq M.2.2.2.2.2.2 a = q.2.2.1 := by
      rw [← e]
      exact TIq_at9 (fun p hp q hq => fun e => m3.2 p hp q hq (Or.inr e)) hq
    have hl := isL4_c (m3.1 q hq).1
    refine ⟨(TIq M.2.2.2.2.2.2 a).2.1, ?_, decide_eq_true rfl⟩
    rw [hu]
    rcases hl with e9 | e9 | e9 | e9 <;> (rw [e9]; decide))
  have := sum_le9 (h := fun l : Int32 => M.1.countP (fun a => decide ((TIq M.2.2.2.2.2.2 a).2.1 = l))) (n := 3) (l := [0, 1, 16, 17]) (fun l _ => h5 l)
  have e2 : ([0, 1, 16, 17] : List Int32).length = 4 := rfl
  rw [e2] at this
  omega
theorem EnOk.cnt {ts : List TQ} {st : List Nat} {es : List En} (h : EnOk ts st es) (sr : Int32) : es.countP (fun e => decide (e.1 = sr)) ≤ 48 := by
  have e := part_len (p := fun (l : Int32) (x : En) => decide (x.2.2.1 = l)) (ks := [0, 1, 16, 17]) (xs := es.filter (fun e => decide (e.1 = sr))) (fun x hx => by
    have hl := isL4_c (h.2.1 x (List.mem_filter.mp hx).1).2.2.1
    refine ⟨x.2.2.1, ?_, decide_eq_true rfl⟩
    rcases hl with e9 | e9 | e9 | e9 <;> (rw [e9]; decide))
  have := sum_le9 (h := fun l : Int32 => (es.filter (fun e => decide (e.1 = sr))).countP (fun x => decide (x.2.2.1 = l))) (n := 12) (l := [0, 1, 16, 17]) (fun l _ => by
    rw [List.countP_filter]
    have h9 := h.2.2 sr l
    exact h9)
  have e2 : ([0, 1, 16, 17] : List Int32).length = 4 := rfl
  rw [e2] at this
  rw [List.countP_eq_length_filter]
  omega
theorem EnOk.len {ts : List TQ} {st : List Nat} {es : List En} (h : EnOk ts st es) (hu : ∀ p ∈ ts, ∀ q ∈ ts, p.2.1 = q.2.1 ∨ p.1.1 = q.1.1 → p = q) (hst : st.length ≤ 12) : es.length ≤ 576 := by
  have e := part_len (p := fun (a : Nat) (x : En) => decide (x.2.2.2.2.2 = a)) (ks := st) (xs := es) (fun x hx => ⟨_, (h.2.1 x hx).2.1, decide_eq_true rfl⟩)
  have := sum_le9 (h := fun a : Nat => es.countP (fun x => decide (x.2.2.2.2.2 = a))) (n := 48) (l := st) (fun a ha => by
    by_cases hz : ∃ x ∈ es, x.2.2.2.2.2 = a
    · obtain ⟨x, hx, ex⟩ := hz
      refine Nat.le_trans (List.countP_mono_left (fun y hy hya => ?_)) (h.cnt x.1)
      obtain ⟨q, hq, q1, q2, -⟩ := (h.2.1 x hx).1
      obtain ⟨p, hp, p1, p2, -⟩ := (h.2.1 y hy).1
      have e9 : p = q := hu p hp q hq (Or.inr (by rw [p1, q1, ex]; exact of_decide_eq_true hya))
      exact decide_eq_true (by rw [← p2, ← q2, e9])
    · rw [List.countP_eq_zero.mpr (fun y hy hya => hz ⟨y, hy, of_decide_eq_true hya⟩)]
      exact Nat.zero_le _)
  have := Nat.mul_le_mul_right 48 hst
  omega
