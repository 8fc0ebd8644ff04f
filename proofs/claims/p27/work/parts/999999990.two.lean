/-! the house: two tables that a statement means (written by wip/p27/c999999990.py) -/
def wtb : List (Nat × Value) → Nat → Value
  | [], _ => .null
  | (n, v) :: l, j => if j = n then v else wtb l j
theorem wtb_cat : ∀ {l : List (Nat × Value)}, (∀ q ∈ l, q.2.category = 1) → ∀ j, (wtb l j).category = 1
  | [], _, _ => rfl
  | (n, v) :: l, h, j => by
    unfold wtb
    split
    · exact h _ List.mem_cons_self
    · exact wtb_cat (fun q hq => h q (List.mem_cons_of_mem _ hq)) j
section
variable {hp : List XC} {ow : Nat → Nat} {k : Nat} {A : Nat → Nat} {σ : Nat → Nat} {ω : Nat → Value} {std : List Nat}
theorem BT2 {T : List WC} {x27 x36 : Value} (hD : hLs hp (A 2) std) (hω : ∀ j, (ω j).category = 1) (how : ∀ j, j < 77 → ow (A j) = k + j ∧ A j < hp.length) {p q : TQ} (hp9 : hTq hp ow k p) (hq9 : hTq hp ow k q) (hne : p.1.1 ≠ q.1.1) (hlen : p.2.2.1.2.2.1.length ≠ q.2.2.1.2.2.1.length) (hso : ∀ a ∈ std, ∃ fs, hp[a]? = some (.inr (13, fs))) (c27 : x27.category = 1) (c36 : x36.category = 1)
    (hT : ∃ es kes res es2 kes2 res2, T = [wO 13 [wU 910020, wU 910021, wU 910022, wA 19, wA 20, wA 21, wU 910023, wU 910024, wU 910025], wX 23 es, wX 29 kes, wX 6 res, wO 13 [wU 910030, wU 910031, wU 910032, wA 23, wA 24, wA 25, wU 910033, wU 910034, wU 910035], wX 23 es2, wX 29 kes2, wX 6 res2] ∧ (∀ (ρ : Nat → Nat) (ω' : Nat → Value), ω' 910027 = x27 → ω' 910036 = x36 → (es.map (wt ρ σ ω') = p.2.2.1.2.2.1.map Value.int ∧ kes.map (wt ρ σ ω') = p.2.2.1.2.2.2.1.map Value.retAddr ∧ res.map (wt ρ σ ω') = p.2.2.1.2.2.2.2.map oref) ∧ es2.map (wt ρ σ ω') = q.2.2.1.2.2.1.map Value.int ∧ kes2.map (wt ρ σ ω') = q.2.2.1.2.2.2.1.map Value.retAddr ∧ res2.map (wt ρ σ ω') = q.2.2.1.2.2.2.2.map oref)) :
    ∃ ta ω', BT hp A ta σ ω ω' T bC2 std ∧ ta 0 = p.1.1 ∧ ta 4 = q.1.1 := by
  obtain ⟨v0, v1, v2, h1, c0, c1, c2⟩ := hD.cells
  obtain ⟨ca, ka, ra, chk, ga, dv, ⟨t1, t2, t3, t4⟩, t5, t6, t7, o1, o2, o3, o4⟩ := hp9.cells
  obtain ⟨ca2, ka2, ra2, chk2, ga2, dv2, ⟨u1, u2, u3, u4⟩, u5, u6, u7, q1, q2, q3, q4⟩ := hq9.cells
  have lp : p.2.2.1.2.2.2.1.length = p.2.2.1.2.2.1.length ∧ p.2.2.1.2.2.2.2.length = p.2.2.1.2.2.1.length := by
    obtain ⟨⟨x1, x2, x3, x4, x5, x6, -, -, -, -, y1, y2, -⟩, -⟩ := hp9
    exact ⟨y1, y2⟩
  have lq : q.2.2.1.2.2.2.1.length = q.2.2.1.2.2.1.length ∧ q.2.2.1.2.2.2.2.length = q.2.2.1.2.2.1.length := by
    obtain ⟨⟨x1, x2, x3, x4, x5, x6, -, -, -, -, y1, y2, -⟩, -⟩ := hq9
    exact ⟨y1, y2⟩
  have nc : ca ≠ ca2 := fun e => by
    rw [e, u5] at t5
    have := congrArg (fun l : Option XC => match l with | some (.inl z) => z.2.length | _ => 0) t5
    simp only [List.length_map] at this
    exact hlen this.symm
  have nk : ka ≠ ka2 := fun e => by
    rw [e, u6] at t6
    have := congrArg (fun l : Option XC => match l with | some (.inl z) => z.2.length | _ => 0) t6
    simp only [List.length_map] at this
    exact hlen (by rw [← lp.1, ← lq.1]; exact this.symm)
  have nr : ra ≠ ra2 := fun e => by
    rw [e, u7] at t7
    have := congrArg (fun l : Option XC => match l with | some (.inl z) => z.2.length | _ => 0) t7
    simp only [List.length_map] at this
    exact hlen (by rw [← lp.2, ← lq.2]; exact this.symm)
  obtain ⟨es, kes, res, es2, kes2, res2, hTe, hE⟩ := hT
  have hl : T.length = 8 := by rw [hTe]; rfl
  obtain ⟨ta, hta⟩ : ∃ ta : Nat → Nat, ta = fun m => if m = 0 then p.1.1 else if m = 1 then ca else if m = 2 then ka else if m = 3 then ra else if m = 4 then q.1.1 else if m = 5 then ca2 else if m = 6 then ka2 else ra2 := ⟨_, rfl⟩
  have a0 : ta 0 = p.1.1 := by rw [hta]; rfl
  have a1 : ta 1 = ca := by rw [hta]; rfl
  have a2 : ta 2 = ka := by rw [hta]; rfl
  have a3 : ta 3 = ra := by rw [hta]; rfl
  have a4 : ta 4 = q.1.1 := by rw [hta]; rfl
  have a5 : ta 5 = ca2 := by rw [hta]; rfl
  have a6 : ta 6 = ka2 := by rw [hta]; rfl
  have a7 : ta 7 = ra2 := by rw [hta]; rfl
  have hAn : ∀ (j x : Nat), j < 77 → (ow x = k + 300 ∨ ow x = k + 304) → A j ≠ x := fun j x hj hx e => by
    have := (how j hj).1
    rw [e] at this
    omega
  have cs : ∀ m, m < T.length → m = 0 ∨ m = 1 ∨ m = 2 ∨ m = 3 ∨ m = 4 ∨ m = 5 ∨ m = 6 ∨ m = 7 := fun m hm => by rw [hl] at hm; omega
  have n01 : p.1.1 ≠ ca := xn_ra t1 t5
  have n02 : p.1.1 ≠ ka := xn_ra t1 t6
  have n03 : p.1.1 ≠ ra := xn_ra t1 t7
  have n04 : p.1.1 ≠ q.1.1 := hne
  have n05 : p.1.1 ≠ ca2 := xn_ra t1 u5
  have n06 : p.1.1 ≠ ka2 := xn_ra t1 u6
  have n07 : p.1.1 ≠ ra2 := xn_ra t1 u7
  have n12 : ca ≠ ka := xn_kd t5 t6 (by decide)
  have n13 : ca ≠ ra := xn_kd t5 t7 (by decide)
  have n14 : ca ≠ q.1.1 := xn_ar t5 u1
  have n15 : ca ≠ ca2 := nc
  have n16 : ca ≠ ka2 := xn_kd t5 u6 (by decide)
  have n17 : ca ≠ ra2 := xn_kd t5 u7 (by decide)
  have n23 : ka ≠ ra := xn_kd t6 t7 (by decide)
  have n24 : ka ≠ q.1.1 := xn_ar t6 u1
  have n25 : ka ≠ ca2 := xn_kd t6 u5 (by decide)
  have n26 : ka ≠ ka2 := nk
  have n27 : ka ≠ ra2 := xn_kd t6 u7 (by decide)
  have n34 : ra ≠ q.1.1 := xn_ar t7 u1
  have n35 : ra ≠ ca2 := xn_kd t7 u5 (by decide)
  have n36 : ra ≠ ka2 := xn_kd t7 u6 (by decide)
  have n37 : ra ≠ ra2 := nr
  have n45 : q.1.1 ≠ ca2 := xn_ra u1 u5
  have n46 : q.1.1 ≠ ka2 := xn_ra u1 u6
  have n47 : q.1.1 ≠ ra2 := xn_ra u1 u7
  have n56 : ca2 ≠ ka2 := xn_kd u5 u6 (by decide)
  have n57 : ca2 ≠ ra2 := xn_kd u5 u7 (by decide)
  have n67 : ka2 ≠ ra2 := xn_kd u6 u7 (by decide)
  have hnd : ([p.1.1, ca, ka, ra, q.1.1, ca2, ka2, ra2] : List Nat).Nodup := by
    refine List.nodup_cons.mpr ⟨fun h => ?_, ?_⟩
    · simp only [List.mem_cons, List.not_mem_nil, or_false] at h
      rcases h with h | h | h | h | h | h | h
      · exact n01 h
      · exact n02 h
      · exact n03 h
      · exact n04 h
      · exact n05 h
      · exact n06 h
      · exact n07 h
    refine List.nodup_cons.mpr ⟨fun h => ?_, ?_⟩
    · simp only [List.mem_cons, List.not_mem_nil, or_false] at h
      rcases h with h | h | h | h | h | h
      · exact n12 h
      · exact n13 h
      · exact n14 h
      · exact n15 h
      · exact n16 h
      · exact n17 h
    refine List.nodup_cons.mpr ⟨fun h => ?_, ?_⟩
    · simp only [List.mem_cons, List.not_mem_nil, or_false] at h
      rcases h with h | h | h | h | h
      · exact n23 h
      · exact n24 h
      · exact n25 h
      · exact n26 h
      · exact n27 h
    refine List.nodup_cons.mpr ⟨fun h => ?_, ?_⟩
    · simp only [List.mem_cons, List.not_mem_nil, or_false] at h
      rcases h with h | h | h | h
      · exact n34 h
      · exact n35 h
      · exact n36 h
      · exact n37 h
    refine List.nodup_cons.mpr ⟨fun h => ?_, ?_⟩
    · simp only [List.mem_cons, List.not_mem_nil, or_false] at h
      rcases h with h | h | h
      · exact n45 h
      · exact n46 h
      · exact n47 h
    refine List.nodup_cons.mpr ⟨fun h => ?_, ?_⟩
    · simp only [List.mem_cons, List.not_mem_nil, or_false] at h
      rcases h with h | h
      · exact n56 h
      · exact n57 h
    refine List.nodup_cons.mpr ⟨fun h => ?_, ?_⟩
    · exact n67 (List.mem_singleton.mp h)
    refine List.nodup_cons.mpr ⟨fun h => ?_, ?_⟩
    · cases h
    exact List.nodup_nil
  have hat : ∀ m, m < T.length → ([p.1.1, ca, ka, ra, q.1.1, ca2, ka2, ra2] : List Nat)[m]? = some (ta m) := fun m hm => by
    rcases cs m hm with e | e | e | e | e | e | e | e
    · rw [e, a0]; rfl
    · rw [e, a1]; rfl
    · rw [e, a2]; rfl
    · rw [e, a3]; rfl
    · rw [e, a4]; rfl
    · rw [e, a5]; rfl
    · rw [e, a6]; rfl
    · rw [e, a7]; rfl
  obtain ⟨w, hw⟩ : ∃ w : Nat → Value, w = fun j => if j < 910010 then ω j else wtb [(910010, v0), (910011, v1), (910012, v2), (910020, .int p.2.1), (910021, .int p.2.2.1.1), (910022, .int p.2.2.1.2.1), (910023, chk), (910024, ga), (910025, dv), (910027, x27), (910030, .int q.2.1), (910031, .int q.2.2.1.1), (910032, .int q.2.2.1.2.1), (910033, chk2), (910034, ga2), (910035, dv2), (910036, x36)] j := ⟨_, rfl⟩
  have wc : ∀ j, (w j).category = 1 := fun j => by
    rw [hw]
    dsimp only
    split
    · exact hω j
    · refine wtb_cat (fun z hz => ?_) j
      simp only [List.mem_cons, List.not_mem_nil, or_false] at hz
      rcases hz with e | e | e | e | e | e | e | e | e | e | e | e | e | e | e | e | e
      · rw [e]; exact c0
      · rw [e]; exact c1
      · rw [e]; exact c2
      · rw [e]; exact rfl
      · rw [e]; exact rfl
      · rw [e]; exact rfl
      · rw [e]; exact t2
      · rw [e]; exact t3
      · rw [e]; exact t4
      · rw [e]; exact c27
      · rw [e]; exact rfl
      · rw [e]; exact rfl
      · rw [e]; exact rfl
      · rw [e]; exact u2
      · rw [e]; exact u3
      · rw [e]; exact u4
      · rw [e]; exact c36
  have wl : ∀ j, j < 910010 → ω j = w j := fun j hj => by rw [hw]; exact (if_pos hj).symm
  have w10 : w 910010 = v0 := by rw [hw]; rfl
  have w11 : w 910011 = v1 := by rw [hw]; rfl
  have w12 : w 910012 = v2 := by rw [hw]; rfl
  have w20 : w 910020 = .int p.2.1 := by rw [hw]; rfl
  have w21 : w 910021 = .int p.2.2.1.1 := by rw [hw]; rfl
  have w22 : w 910022 = .int p.2.2.1.2.1 := by rw [hw]; rfl
  have w23 : w 910023 = chk := by rw [hw]; rfl
  have w24 : w 910024 = ga := by rw [hw]; rfl
  have w25 : w 910025 = dv := by rw [hw]; rfl
  have w27 : w 910027 = x27 := by rw [hw]; rfl
  have w30 : w 910030 = .int q.2.1 := by rw [hw]; rfl
  have w31 : w 910031 = .int q.2.2.1.1 := by rw [hw]; rfl
  have w32 : w 910032 = .int q.2.2.1.2.1 := by rw [hw]; rfl
  have w33 : w 910033 = chk2 := by rw [hw]; rfl
  have w34 : w 910034 = ga2 := by rw [hw]; rfl
  have w35 : w 910035 = dv2 := by rw [hw]; rfl
  have w36 : w 910036 = x36 := by rw [hw]; rfl
  obtain ⟨ρ, hρ⟩ : ∃ ρ, ρ = rhoB A ta T.length hp.length := ⟨_, rfl⟩
  have r17 : ρ 17 = A 2 := by rw [hρ]; rfl
  have r18 : ρ 18 = ta 0 := by rw [hρ, hl]; rfl
  have r19 : ρ 19 = ta 1 := by rw [hρ, hl]; rfl
  have r20 : ρ 20 = ta 2 := by rw [hρ, hl]; rfl
  have r21 : ρ 21 = ta 3 := by rw [hρ, hl]; rfl
  have r22 : ρ 22 = ta 4 := by rw [hρ, hl]; rfl
  have r23 : ρ 23 = ta 5 := by rw [hρ, hl]; rfl
  have r24 : ρ 24 = ta 6 := by rw [hρ, hl]; rfl
  have r25 : ρ 25 = ta 7 := by rw [hρ, hl]; rfl
  have e9 := hE ρ w w27 w36
  have ob1 : wtc ρ σ w (wO 13 [wU 910020, wU 910021, wU 910022, wA 19, wA 20, wA 21, wU 910023, wU 910024, wU 910025]) = .inr (13, [.int p.2.1, .int p.2.2.1.1, .int p.2.2.1.2.1, .ref ca, .ref ka, .ref ra, chk, ga, dv]) := by
    show (Sum.inr (13, [w 910020, w 910021, w 910022, .ref (ρ 19), .ref (ρ 20), .ref (ρ 21), w 910023, w 910024, w 910025]) : XC) = _
    rw [w20, w21, w22, w23, w24, w25, r19, r20, r21, a1, a2, a3]
  have ob2 : wtc ρ σ w (wO 13 [wU 910030, wU 910031, wU 910032, wA 23, wA 24, wA 25, wU 910033, wU 910034, wU 910035]) = .inr (13, [.int q.2.1, .int q.2.2.1.1, .int q.2.2.1.2.1, .ref ca2, .ref ka2, .ref ra2, chk2, ga2, dv2]) := by
    show (Sum.inr (13, [w 910030, w 910031, w 910032, .ref (ρ 23), .ref (ρ 24), .ref (ρ 25), w 910033, w 910034, w 910035]) : XC) = _
    rw [w30, w31, w32, w33, w34, w35, r23, r24, r25, a5, a6, a7]
  have lo : wtc ρ σ w (wO 2 [wU 910010, wU 910011, wU 910012]) = .inr (2, [v0, v1, v2]) := by
    show (Sum.inr (2, [w 910010, w 910011, w 910012]) : XC) = _
    rw [w10, w11, w12]
  refine ⟨ta, w, ⟨fun a b ha hb e => ?_, fun a ha => ?_, fun a b ha hb => ?_, wc, wl, ?_, fun m c hc => ?_, fun c hc es' => ?_, fun z hz => ?_, ⟨_, List.mem_cons_self, rfl⟩, fun a ha => ?_⟩, a0, a4⟩
  · refine (List.getElem?_inj (show a < _ from by rw [hl] at ha; exact ha) hnd).mp ?_
    rw [hat a ha, hat b hb, e]
  · rcases cs a ha with e | e | e | e | e | e | e | e
    · rw [e, a0]; exact (List.getElem?_eq_some_iff.mp t1).1
    · rw [e, a1]; exact (List.getElem?_eq_some_iff.mp t5).1
    · rw [e, a2]; exact (List.getElem?_eq_some_iff.mp t6).1
    · rw [e, a3]; exact (List.getElem?_eq_some_iff.mp t7).1
    · rw [e, a4]; exact (List.getElem?_eq_some_iff.mp u1).1
    · rw [e, a5]; exact (List.getElem?_eq_some_iff.mp u5).1
    · rw [e, a6]; exact (List.getElem?_eq_some_iff.mp u6).1
    · rw [e, a7]; exact (List.getElem?_eq_some_iff.mp u7).1
  · rcases cs b hb with e | e | e | e | e | e | e | e
    · rw [e, a0]; exact hAn a _ ha (Or.inl o1)
    · rw [e, a1]; exact hAn a _ ha (Or.inr o2)
    · rw [e, a2]; exact hAn a _ ha (Or.inr o3)
    · rw [e, a3]; exact hAn a _ ha (Or.inr o4)
    · rw [e, a4]; exact hAn a _ ha (Or.inl q1)
    · rw [e, a5]; exact hAn a _ ha (Or.inr q2)
    · rw [e, a6]; exact hAn a _ ha (Or.inr q3)
    · rw [e, a7]; exact hAn a _ ha (Or.inr q4)
  · rw [w10, w11, w12]; exact h1
  · rw [← hρ]
    have hm := (List.getElem?_eq_some_iff.mp hc).1
    rw [hTe] at hc
    rcases cs m hm with e | e | e | e | e | e | e | e
    · rw [e] at hc ⊢
      cases hc
      rw [a0, t1, ob1]
    · rw [e] at hc ⊢
      cases hc
      rw [a1, t5, ← e9.1.1]
      rfl
    · rw [e] at hc ⊢
      cases hc
      rw [a2, t6, ← e9.1.2.1]
      rfl
    · rw [e] at hc ⊢
      cases hc
      rw [a3, t7, ← e9.1.2.2]
      rfl
    · rw [e] at hc ⊢
      cases hc
      rw [a4, u1, ob2]
    · rw [e] at hc ⊢
      cases hc
      rw [a5, u5, ← e9.2.1]
      rfl
    · rw [e] at hc ⊢
      cases hc
      rw [a6, u6, ← e9.2.2.1]
      rfl
    · rw [e] at hc ⊢
      cases hc
      rw [a7, u7, ← e9.2.2.2]
      rfl
  · rw [hTe] at hc
    rcases List.mem_cons.mp hc with e | hc
    · rw [e]; intro e; cases e
    rcases List.mem_cons.mp hc with e | hc
    · rw [e]; intro e; exact absurd (congrArg Prod.fst (Sum.inl.inj e)) (show ¬ (23 : Nat) = 7 by decide)
    rcases List.mem_cons.mp hc with e | hc
    · rw [e]; intro e; exact absurd (congrArg Prod.fst (Sum.inl.inj e)) (show ¬ (29 : Nat) = 7 by decide)
    rcases List.mem_cons.mp hc with e | hc
    · rw [e]; intro e; exact absurd (congrArg Prod.fst (Sum.inl.inj e)) (show ¬ (6 : Nat) = 7 by decide)
    rcases List.mem_cons.mp hc with e | hc
    · rw [e]; intro e; cases e
    rcases List.mem_cons.mp hc with e | hc
    · rw [e]; intro e; exact absurd (congrArg Prod.fst (Sum.inl.inj e)) (show ¬ (23 : Nat) = 7 by decide)
    rcases List.mem_cons.mp hc with e | hc
    · rw [e]; intro e; exact absurd (congrArg Prod.fst (Sum.inl.inj e)) (show ¬ (29 : Nat) = 7 by decide)
    rcases List.mem_cons.mp hc with e | hc
    · rw [e]; intro e; exact absurd (congrArg Prod.fst (Sum.inl.inj e)) (show ¬ (6 : Nat) = 7 by decide)
    cases hc
  · rw [← hρ]
    rcases List.mem_cons.mp hz with e | hz
    · rw [e]
      show hp[ρ 17]? = some (wtc ρ σ w (wO 2 [wU 910010, wU 910011, wU 910012]))
      rw [r17, lo]
      exact h1
    rcases List.mem_cons.mp hz with e | hz
    · rw [e]
      show hp[ρ 18]? = some (wtc ρ σ w (wO 13 [wU 910020, wU 910021, wU 910022, wA 19, wA 20, wA 21, wU 910023, wU 910024, wU 910025]))
      rw [r18, a0, ob1]
      exact t1
    rcases List.mem_cons.mp hz with e | hz
    · rw [e]
      show hp[ρ 22]? = some (wtc ρ σ w (wO 13 [wU 910030, wU 910031, wU 910032, wA 23, wA 24, wA 25, wU 910033, wU 910034, wU 910035]))
      rw [r22, a4, ob2]
      exact u1
    cases hz
  · rw [← hρ]
    by_cases e : a = p.1.1
    · refine Or.inr ⟨_, List.mem_cons_of_mem _ List.mem_cons_self, ?_⟩
      show a = ρ 18
      rw [r18, a0, e]
    by_cases e' : a = q.1.1
    · refine Or.inr ⟨_, List.mem_cons_of_mem _ (List.mem_cons_of_mem _ List.mem_cons_self), ?_⟩
      show a = ρ 22
      rw [r22, a4, e']
    refine Or.inl (fun m hm e2 => ?_)
    obtain ⟨fs, hf⟩ := hso a ha
    rcases cs m hm with e3 | e3 | e3 | e3 | e3 | e3 | e3 | e3
    · rw [e3, a0] at e2; exact e e2.symm
    · rw [e3, a1] at e2; rw [← e2, t5] at hf; cases hf
    · rw [e3, a2] at e2; rw [← e2, t6] at hf; cases hf
    · rw [e3, a3] at e2; rw [← e2, t7] at hf; cases hf
    · rw [e3, a4] at e2; exact e' e2.symm
    · rw [e3, a5] at e2; rw [← e2, u5] at hf; cases hf
    · rw [e3, a6] at e2; rw [← e2, u6] at hf; cases hf
    · rw [e3, a7] at e2; rw [← e2, u7] at hf; cases hf
end
