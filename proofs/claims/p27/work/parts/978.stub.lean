/-! small worlds: wordAt by a table -/
def wleq : List Nat → List Nat → Bool
  | [], [] => true
  | a :: as, b :: bs => Nat.beq a b && wleq as bs
  | _, _ => false
theorem wleq_s : ∀ {a b : List Nat}, wleq a b = decide (a = b)
  | [], [] => rfl
  | a :: as, b :: bs => by
    show (Nat.beq a b && wleq as bs) = _
    rw [wleq_s, w_beq, ← Bool.decide_and]
    exact decide_eq_decide.mpr ⟨fun h => by rw [h.1, h.2], fun h => List.cons.inj h⟩
  | [], b :: bs => rfl
  | a :: as, [] => rfl
/-- the words' texts -/
def wtab : List (List Nat) := [[], [], [], [], [], [103, 101, 116], [101, 97, 99, 104], [97, 108, 108], [102, 114, 111, 109], [106, 111, 105, 110], [111, 110], [105, 102], [98, 121], [117, 112], [100, 111, 119, 110], [116, 111, 112], [112, 117, 116], [110, 101, 120, 116], [115, 101, 116], [99, 117, 116], [116, 97, 98, 108, 101], [100, 114, 111, 112], [107, 101, 121], [97, 117, 116, 111], [110, 117, 109], [117, 110, 105, 113], [114, 101, 102], [108, 111, 119, 101, 114], [116, 111], [108, 97, 98, 101, 108], [99, 111, 117, 110, 116], [115, 117, 109], [108, 101, 97, 115, 116], [109, 111, 115, 116], [110, 111, 110, 101], [107, 110, 111, 119, 110], [40], [41], [44], [61], [35], [60], [62], [43], [45], [42], [47], [37], [38], [124], [33]]
def wtok (k : Nat) : Bool := match wtab[k]? with
  | some t => decide (t.map Int32.ofNat = (wkt k).2) && t.all (fun n => Nat.ble n 65535)
  | none => false
set_option maxRecDepth 100000 in
theorem wtok_all : (List.range 51).all wtok = true := by decide +kernel
/-- the first text from here on that is the one -/
def wdG (sl : List Nat) : List (List Nat) → Nat → Nat → Nat
  | [], _, o => o
  | t :: ts, k, o => bif wleq sl t then k else wdG sl ts (k + 1) o
theorem map_ofNat_inj : ∀ {a b : List Nat}, a.all (fun n => Nat.ble n 65535) = true → b.all (fun n => Nat.ble n 65535) = true → a.map Int32.ofNat = b.map Int32.ofNat → a = b
  | [], [], _, _, _ => rfl
  | [], _ :: _, _, _, h => by cases h
  | _ :: _, [], _, _, h => by cases h
  | a :: as, b :: bs, ha, hb, h => by
    rw [List.all_cons, Bool.and_eq_true] at ha hb
    rw [List.map_cons, List.map_cons] at h
    have h1 := (List.cons.inj h).1
    have h2 := Nat.le_of_ble_eq_true ha.1
    have h3 := Nat.le_of_ble_eq_true hb.1
    rw [iN_inj (by omega) (by omega) h1, map_ofNat_inj ha.2 hb.2 (List.cons.inj h).2]
theorem wdG_s {cs : List Int32} {f e o : Nat} {sl : List Nat} (hsl : (cs.drop f).take (e - f) = sl.map Int32.ofNat) (hs : sl.all (fun n => Nat.ble n 65535) = true) (hfe : f < e) : ∀ (n i : Nat), i + n = 51 → wdG sl (wtab.drop i) i o = wdF cs f e i n o := by
  intro n
  induction n with
  | zero =>
    intro i hi
    rw [List.drop_eq_nil_of_le (show wtab.length ≤ i by show 51 ≤ i; omega)]
    rfl
  | succ n ih =>
    intro i hi
    have hk := List.all_eq_true.mp wtok_all i (List.mem_range.mpr (by omega))
    unfold wtok at hk
    split at hk
    · rename_i t ht
      rw [Bool.and_eq_true] at hk
      have h1 := of_decide_eq_true hk.1
      rw [wdF_s, xdrop_q (l := wtab) (i := i), ht, Option.toList_some, List.singleton_append]
      unfold wdG
      rw [ih (i + 1) (by omega), wleq_s]
      have h2 : spl cs f e (wkt i).2 = decide (sl = t) := by
        unfold spl
        rw [decide_eq_true hfe, Bool.and_true, hsl, ← h1]
        exact decide_eq_decide.mpr ⟨map_ofNat_inj hs hk.2, fun q => by rw [q]⟩
      rw [h2]
      cases decide (sl = t) <;> rfl
    · cases hk
def wcodes : List WV → Option (List Nat)
  | [] => some []
  | (.inl n) :: vs => match wcodes vs with
    | some ns => bif Nat.ble n 65535 then some (n :: ns) else none
    | none => none
  | _ => none
/-- an array of numbers, some not known -/
def wtxt (v : WV) : Bool := match v with
  | (.inl _) => true
  | (.inr (.inr (.inr (.inr (.inl (_, _)))))) => true
  | (.inr (.inr (.inr (.inr (.inr j))))) => Nat.ble (j + 1) 1000
  | _ => false
def wwd (W : List WC) (as : List WV) : Option WV := match as with
    | [(.inr (.inl h)), (.inl f), (.inl e), (.inr (.inr (.inl o)))] => (match W[h]? with
      | some (.inl q) => bif Nat.beq q.1 1 && (Nat.ble (f + 1) e && (Nat.ble e q.2.length && (Nat.ble q.2.length 1000 && q.2.all wtxt))) then (match wcodes ((q.2.drop f).take (e - f)) with
        | some sl => some ((.inr (.inr (.inl (wdG sl wtab 0 o)))))
        | none => (match (q.2.drop f).take (e - f) with
          | [(.inr (.inr (.inr (.inr (.inl (_, (p :: ps)))))))] => bif (p :: ps).all (fun v => Nat.ble v 65535 && Nat.beq (wdG [v] wtab 0 o) o) then some ((.inr (.inr (.inl o)))) else none
          | _ => none)) else none
      | _ => none)
    | _ => none
def wst (d y : Nat) (W : List WC) (as : List WV) : Option (Nat × List (Nat × WV) × List WV) :=
  bif Nat.beq y 47 && Nat.ble 5 d then (match wwd W as with
    | some v => some (41, [], [v])
    | none => none) else none
section WST
variable {ρ σ : Nat → Nat} {ω : Nat → Value}
theorem wcodes_s : ∀ {vs : List WV} {ns : List Nat}, wcodes vs = some ns → vs.map (wt ρ σ ω) = (ns.map Int32.ofNat).map Value.int ∧ ns.all (fun n => Nat.ble n 65535) = true
  | [], ns, h => by cases h; exact ⟨rfl, rfl⟩
  | v :: vs, ns, h => by
    rcases v with n | n | n | n | q | n
    · unfold wcodes at h
      cases e2 : wcodes vs with
      | none => rw [e2] at h; cases h
      | some ns2 =>
        rw [e2] at h
        obtain ⟨h1, h2⟩ := w_cond h
        cases h2
        obtain ⟨h3, h4⟩ := wcodes_s e2
        refine ⟨?_, by rw [List.all_cons, h1, h4]; rfl⟩
        rw [List.map_cons, h3]
        rfl
    · cases h
    · cases h
    · cases h
    · cases h
    · cases h
theorem wtxt_s (hω : ∀ j, j < 1000 → ∃ x, ω j = .int x) {vs : List WV} (h : vs.all wtxt = true) : ∃ cs : List Int32, vs.map (wt ρ σ ω) = cs.map Value.int := by
  refine ⟨(vs.map (wt ρ σ ω)).map xint, ?_⟩
  rw [List.map_map, List.map_map]
  refine List.map_congr_left (fun v hv => ?_)
  have hv := List.all_eq_true.mp h v hv
  unfold wtxt at hv
  split at hv
  · rfl
  · rfl
  · rename_i j _
    obtain ⟨x, hx⟩ := hω j (Nat.le_of_ble_eq_true hv)
    show ω j = Value.int (xint (ω j))
    rw [hx]
    rfl
  · cases hv
theorem map_int_inj : ∀ {a b : List Int32}, a.map Value.int = b.map Value.int → a = b
  | [], [], _ => rfl
  | [], _ :: _, h => by cases h
  | _ :: _, [], h => by cases h
  | a :: as, b :: bs, h => by
    rw [List.map_cons, List.map_cons] at h
    rw [Value.int.inj (List.cons.inj h).1, map_int_inj (List.cons.inj h).2]
theorem wwd_s {S : List Int32} (hω : ∀ j, j < 1000 → ∃ x, ω j = .int x) {W : List WC} {as : List WV} {v : WV} (h : wwd W as = some v) {hp : List XC} (H : WR ρ σ ω W hp) : Pu S 5 47 (as.map (wt ρ σ ω)) hp (wt ρ σ ω v) ∧ ∃ k, v = (.inr (.inr (.inl k))) := by
  unfold wwd at h
  split at h
  · rename_i h0 f e o
    split at h
    · rename_i q eq
      obtain ⟨h3, h4⟩ := w_condo h
      simp only [Bool.and_eq_true] at h3
      obtain ⟨k1, k2, k3, k4, k5⟩ := h3
      have k1 := Nat.eq_of_beq_eq_true k1
      have k2 := Nat.le_of_ble_eq_true k2
      have k3 := Nat.le_of_ble_eq_true k3
      have k4 := Nat.le_of_ble_eq_true k4
      obtain ⟨cs, hcs⟩ := wtxt_s (ρ := ρ) (σ := σ) hω k5
      have ha := H.1 _ _ eq
      unfold wtc at ha
      dsimp only at ha
      rw [hcs, k1] at ha
      have hl : cs.length = q.2.length := by rw [← List.length_map (f := Value.int), ← hcs, List.length_map]
      have fin : ∀ sl : List Nat, ((q.2.drop f).take (e - f)).map (wt ρ σ ω) = (sl.map Int32.ofNat).map Value.int → sl.all (fun n => Nat.ble n 65535) = true → Pu S 5 47 [.ref (ρ h0), .int (Int32.ofNat f), .int (Int32.ofNat e), .retAddr o] hp (.retAddr (wdG sl wtab 0 o)) := by
        intro sl j1 j2
        have j3 : (cs.drop f).take (e - f) = sl.map Int32.ofNat := by
          rw [List.map_take, List.map_drop, hcs, ← List.map_drop, ← List.map_take] at j1
          exact map_int_inj j1
        have := m_wordAt (S := S) (o := o) ha (by omega) (show f ≤ e by omega) (by omega)
        rw [← wdG_s j3 j2 (by omega) 51 0 rfl] at this
        exact this
      split at h4
      · rename_i sl e4
        cases h4
        obtain ⟨j1, j2⟩ := wcodes_s (ρ := ρ) (σ := σ) (ω := ω) e4
        exact ⟨fin sl j1 j2, _, rfl⟩
      · split at h4
        · rename_i dk p ps e5
          obtain ⟨h5, h6⟩ := w_cond h4
          cases h6
          have h7 := List.all_eq_true.mp h5 _ (wg_mem (v := p) (vs := ps) (i := σ dk))
          rw [Bool.and_eq_true] at h7
          have h8 := fin [wg (p :: ps) (σ dk)] (by rw [e5]; rfl) (by rw [List.all_cons, h7.1]; rfl)
          rw [Nat.eq_of_beq_eq_true h7.2] at h8
          exact ⟨h8, _, rfl⟩
        · cases h4
    · cases h
  · cases h
/-- what a method answers, where its return is told -/
theorem At.ret41 {S : List Int32} {d k : Nat} {hp : List XC} {Q : XO → Prop} (h : At S d 47 41 [] [.retAddr k] hp 0 0 Q) : Q (.inl (some (.retAddr k), hp, 0, 0)) := by
  obtain ⟨n, o, h1, h2⟩ := h
  cases n with
  | zero => cases h1
  | succ n => cases h1; exact h2
theorem wst_s {S : List Int32} (hω : ∀ j, j < 1000 → ∃ x, ω j = .int x) (hp0 : List XC) : WS S wst ρ σ ω hp0 := by
  intro d y W as j h hp H _ Q hQ
  unfold wst at h
  obtain ⟨h1, h2⟩ := w_condo h
  rw [Bool.and_eq_true] at h1
  obtain ⟨h1, h3⟩ := h1
  have h1 := Nat.eq_of_beq_eq_true h1
  subst h1
  split at h2
  · rename_i v e
    cases h2
    obtain ⟨k1, k, rfl⟩ := wwd_s (S := S) hω e H
    exact (k1.deep (Nat.le_of_ble_eq_true h3)).mono (fun o ho => by rw [ho]; exact hQ.ret41)
  · cases h2
end WST
