/-! the law's acts (by c99999999999999990.py) -/
theorem HSt.here {hp : List XC} {ow : Nat → Nat} {k : Nat} {A : Nat → Nat} {M : HM} {rf : Int32} {np nl c s : Nat} (h : HR hp ow k A M rf np nl) : HSt hp hp ow k A M rf np nl c s c s := ⟨ow, np, nl, fun _ _ => rfl, h, FrX.rf, by omega, by omega⟩
theorem WfM.bg {M : HM} {c d : Nat} (h : WfM M c d) (hd : d ≤ 30) : Srt M.2.1 ∧ EnT M.2.2.2.2.2.2 M.2.1 ∧ M.2.1.length ≤ 3000 ∧ M.2.2.1.length ≤ 30000 := by
  have hen := end_le (M := M)
  have hms := h.2.2.2.2.2.2.2.1
  exact ⟨h.2.2.2.2.2.1.1, h.2.2.2.2.2.1.ent (fun q hq => (h.wid hq).1), h.shf, by omega⟩
theorem mass2 {M : HM} {i : Nat} (hi : i < 8) : M.2.2.1.length + (M.2.2.2.1 i).2.2.2.2.1.length ≤ massM M := by
  have h := sum8e (h := fun i => (M.2.2.2.1 i).2.2.2.2.1.length) (h' := fun j => if j = i then 0 else (M.2.2.2.1 j).2.2.2.2.1.length) hi (fun j hj => by show (if j = i then 0 else _) = _; rw [if_neg hj])
  have e : massM M = M.2.2.1.length + sumL (fun i => (M.2.2.2.1 i).2.2.2.2.1.length) (List.range 8) := rfl
  rw [if_pos rfl] at h
  omega
theorem WfM.en {M : HM} {c d i : Nat} (h : WfM M c d) (hd : d ≤ 30) (hi : i < 8) : Srt (M.2.2.2.1 i).2.2.2.1 ∧ Srt M.2.1 ∧ EnT M.2.2.2.2.2.2 (M.2.2.2.1 i).2.2.2.2.1 ∧ M.2.1.length + (M.2.2.2.1 i).2.2.2.2.1.length ≤ 3000 ∧ M.2.2.1.length + (M.2.2.2.1 i).2.2.2.2.1.length ≤ 3000 ∧ (M.2.2.2.1 i).2.2.2.2.2.1 ≤ M.2.2.1.length ∧ ∀ e ∈ (M.2.2.2.1 i).2.2.2.2.1, ∀ f ∈ (bringAll M.2.1 (M.2.2.2.1 i).2.2.2.1 (M.2.2.2.1 i).2.2.2.2.1), f.1 = e.1 → f.2.2.2.2.2 = e.2.2.2.2.2 := by
  have hm := mass2 (M := M) hi
  have hms := h.2.2.2.2.2.2.2.1
  have hu := h.uq
  obtain ⟨a1, a2, a3, a4, a5⟩ := h.2.2.2.2.2.2.1 i hi
  have hs := h.2.2.2.2.2.1.len h.uq (std_len h)
  refine ⟨a2.1, h.2.2.2.2.2.1.1, fun e he => ?_, by omega, by omega, a5, fun e he f hf e9 => ?_⟩
  · obtain ⟨-, q, hq, q1, q2, q3⟩ := a4 e he
    exact ⟨q, hq, q1, q2, (h.wid hq).1⟩
  · obtain ⟨-, q, hq, q1, q2, q3⟩ := a4 e he
    obtain ⟨p, hp, p1, p2, -⟩ : ∃ p ∈ M.2.2.2.2.2.2, p.1.1 = f.2.2.2.2.2 ∧ p.2.1 = f.1 ∧ isB p.2.2.1.2.1 f.2.2.1 = true := by
      rcases mem_brAll _ _ f hf with h9 | h9
      · exact (h.2.2.2.2.2.1.2.1 f h9).1
      · exact (a2.2.1 f h9).1
    have e8 : p = q := hu p hp q hq (Or.inl (by rw [p2, q2, e9]))
    rw [← p1, ← q1, e8]
theorem a_beg0R {S : List Int32} {hp : List XC} {ow : Nat → Nat} {k : Nat} {A : Nat → Nat} {M : HM} {rf : Int32} {np nl i ln c d : Nat} {tv : Nat} (h : HR hp ow k A M rf np nl) (hi : i < 8) (hW : WfM M c d) (hd : d ≤ 30) (hln : (M.2.2.2.1 i).1 = Int32.ofNat ln) (hl64 : ln < 64) (hb : (M.2.2.2.1 i).2.2.1 = false) : Me S 13 250 [.ref (A 0), .int (Int32.ofNat i), .int 0, .ref tv] hp (fun v' hp' c s => v' = some (.long (10000 + Int32.ofNat (lookE (TIq M.2.2.2.2.2.2) M.2.1 (M.2.2.2.1 i).1).length).toInt64) ∧ HSt hp hp' ow k A (begM M i) rf np nl c s 0 0) := by
  have h0 := h.2.2.1
  refine At.go (q := xm250) rfl 5 (pc' := 33) (L' := [(0, .ref (A 0)), (1, .int (Int32.ofNat i)), (2, .int 0), (3, .ref tv)]) (st' := [.int (Int32.ofNat i), .ref (A 0), .int 10000]) rfl ?_
  obtain ⟨g1, g2, g3, g4⟩ := hW.bg hd
  refine At.cl (as := [.ref (A 0), .int (Int32.ofNat i)]) (rest := [.int 10000]) rfl (by decide) rfl (Nat.le_of_ble_eq_true rfl) (Nat.le_of_ble_eq_true rfl) (xrck_o (by decide) (by decide) h0 (by decide)) (Nat.le_of_ble_eq_true rfl) (h_begin (S := S) h hi hb g1 g2 g3 g4) (fun v2 h2 c2 s2 hq => ?_) (fun E h2 c2 s2 hq => ?_)
  · obtain ⟨v3, hp', c3, s3, e1, e2, e3⟩ := hq
    cases e1
    rw [e2]
    refine At.go (q := xm250) rfl 2 (pc' := 38) (L' := [(0, .ref (A 0)), (1, .int (Int32.ofNat i)), (2, .int 0), (3, .ref tv)]) (st' := [.long (10000 + Int32.ofNat (lookE (TIq M.2.2.2.2.2.2) M.2.1 (M.2.2.2.1 i).1).length).toInt64]) rfl ?_
    exact At.rt rfl rfl ⟨_, _, _, _, rfl, rfl, by rw [Nat.zero_add, Nat.zero_add]; exact e3⟩
  · obtain ⟨v3, hp', c3, s3, e1, -⟩ := hq
    cases e1
theorem a_begBR {S : List Int32} {hp : List XC} {ow : Nat → Nat} {k : Nat} {A : Nat → Nat} {M : HM} {rf : Int32} {np nl i ln c d : Nat} {tv : Nat} (h : HR hp ow k A M rf np nl) (hi : i < 8) (hW : WfM M c d) (hd : d ≤ 30) (hln : (M.2.2.2.1 i).1 = Int32.ofNat ln) (hl64 : ln < 64) (hb : (M.2.2.2.1 i).2.2.1 = true) : Me S 13 250 [.ref (A 0), .int (Int32.ofNat i), .int 0, .ref tv] hp (fun v' hp' c s => v' = some (.long (-500)) ∧ HSt hp hp' ow k A M rf np nl c s 1 6) := by
  have h0 := h.2.2.1
  refine At.go (q := xm250) rfl 5 (pc' := 33) (L' := [(0, .ref (A 0)), (1, .int (Int32.ofNat i)), (2, .int 0), (3, .ref tv)]) (st' := [.int (Int32.ofNat i), .ref (A 0), .int 10000]) rfl ?_
  refine At.cl (as := [.ref (A 0), .int (Int32.ofNat i)]) (rest := [.int 10000]) rfl (by decide) rfl (Nat.le_of_ble_eq_true rfl) (Nat.le_of_ble_eq_true rfl) (xrck_o (by decide) (by decide) h0 (by decide)) (Nat.le_of_ble_eq_true rfl) (h_beginB (S := S) h hi hb) (fun v2 h2 c2 s2 hq => ?_) (fun E h2 c2 s2 hq => ?_)
  · obtain ⟨hp', c3, s3, e1, -⟩ := hq
    cases e1
  · obtain ⟨hp', c3, s3, e1, e2, e3, e4⟩ := hq
    cases e1
    rw [e2, e3, e4]
    refine Or.inr ⟨(69, 4, 2), rfl, ?_⟩
    refine At.go (q := xm250) rfl 1 (pc' := 74) (L' := [(0, .ref (A 0)), (1, .int (Int32.ofNat i)), (2, .int 0), (3, .ref tv)]) (st' := [.long (-500)]) rfl ?_
    exact At.rt rfl rfl ⟨_, _, _, _, rfl, rfl, HSt.here h⟩
theorem a_end0R {S : List Int32} {hp : List XC} {ow : Nat → Nat} {k : Nat} {A : Nat → Nat} {M : HM} {rf : Int32} {np nl i ln c d : Nat} {tv : Nat} (h : HR hp ow k A M rf np nl) (hi : i < 8) (hW : WfM M c d) (hd : d ≤ 30) (hln : (M.2.2.2.1 i).1 = Int32.ofNat ln) (hl64 : ln < 64) (hb : (M.2.2.2.1 i).2.2.1 = true) (hr : endR M i = 0) : Me S 13 250 [.ref (A 0), .int (Int32.ofNat i), .int 1, .ref tv] hp (fun v' hp' c s => v' = some (.long (20000 + Int32.ofNat (M.2.2.2.1 i).2.2.2.2.1.length).toInt64) ∧ HSt hp hp' ow k A (en0M M i ln) 0 np nl c s 0 0) := by
  have h0 := h.2.2.1
  refine At.go (q := xm250) rfl 5 (pc' := 44) (L' := [(0, .ref (A 0)), (1, .int (Int32.ofNat i)), (2, .int 1), (3, .ref tv)]) (st' := [.int (Int32.ofNat i), .ref (A 0), .int 20000]) rfl ?_
  obtain ⟨g1, g2, g3, g4, g5, g6, g7⟩ := hW.en hd hi
  refine At.cl (as := [.ref (A 0), .int (Int32.ofNat i)]) (rest := [.int 20000]) rfl (by decide) rfl (Nat.le_of_ble_eq_true rfl) (Nat.le_of_ble_eq_true rfl) (xrck_o (by decide) (by decide) h0 (by decide)) (Nat.le_of_ble_eq_true rfl) (h_end0 (S := S) h hi hb hln hl64 g1 g2 g3 g4 g5 g6 g7 hr) (fun v2 h2 c2 s2 hq => ?_) (fun E h2 c2 s2 hq => ?_)
  · obtain ⟨v3, hp', c3, s3, e1, e2, e3⟩ := hq
    cases e1
    rw [e2]
    refine At.go (q := xm250) rfl 2 (pc' := 49) (L' := [(0, .ref (A 0)), (1, .int (Int32.ofNat i)), (2, .int 1), (3, .ref tv)]) (st' := [.long (20000 + Int32.ofNat (M.2.2.2.1 i).2.2.2.2.1.length).toInt64]) rfl ?_
    exact At.rt rfl rfl ⟨_, _, _, _, rfl, rfl, by rw [Nat.zero_add, Nat.zero_add]; exact e3⟩
  · obtain ⟨v3, hp', c3, s3, e1, -⟩ := hq
    cases e1
theorem a_end1R {S : List Int32} {hp : List XC} {ow : Nat → Nat} {k : Nat} {A : Nat → Nat} {M : HM} {rf : Int32} {np nl i ln c d : Nat} {tv : Nat} (h : HR hp ow k A M rf np nl) (hi : i < 8) (hW : WfM M c d) (hd : d ≤ 30) (hln : (M.2.2.2.1 i).1 = Int32.ofNat ln) (hl64 : ln < 64) (hb : (M.2.2.2.1 i).2.2.1 = true) (hr : ¬ endR M i = 0) : Me S 13 250 [.ref (A 0), .int (Int32.ofNat i), .int 1, .ref tv] hp (fun v' hp' c s => v' = some (.long (-2000 - endR M i).toInt64) ∧ HSt hp hp' ow k A (en1M M i ln) (endR M i) np nl c s 1 6) := by
  have h0 := h.2.2.1
  refine At.go (q := xm250) rfl 5 (pc' := 44) (L' := [(0, .ref (A 0)), (1, .int (Int32.ofNat i)), (2, .int 1), (3, .ref tv)]) (st' := [.int (Int32.ofNat i), .ref (A 0), .int 20000]) rfl ?_
  obtain ⟨g1, g2, g3, g4, g5, g6, g7⟩ := hW.en hd hi
  refine At.cl (as := [.ref (A 0), .int (Int32.ofNat i)]) (rest := [.int 20000]) rfl (by decide) rfl (Nat.le_of_ble_eq_true rfl) (Nat.le_of_ble_eq_true rfl) (xrck_o (by decide) (by decide) h0 (by decide)) (Nat.le_of_ble_eq_true rfl) (h_end1 (S := S) h hi hb hln hl64 g1 g2 g3 g4 g5 g6 g7 hr) (fun v2 h2 c2 s2 hq => ?_) (fun E h2 c2 s2 hq => ?_)
  · obtain ⟨hp', c3, s3, e1, -⟩ := hq
    cases e1
  · obtain ⟨hp', c3, s3, e1, e3⟩ := hq
    cases e1
    refine Or.inr ⟨(75, 4, 2), rfl, ?_⟩
    obtain ⟨ow2, np2, nl2, w2, hR2, f2, u3, u4⟩ := id e3
    have h02 := hR2.2.2.1
    have er : ((en1M M i ln).2.2.2.1 i).2.1 = endR M i := by
      show ((mS M i (sGiv (sRea (M.2.2.2.1 i) (endR M i)))).2.2.2.1 i).2.1 = _
      rw [mS_at]
      rfl
    have hre := h_reason (S := S) (M := en1M M i ln) hR2 hi (by rw [er]; exact hr) (by rw [er]; rcases endR_c M i with e | e | e | e | e <;> (rw [e]; decide))
    rw [er] at hre
    refine At.go (q := xm250) rfl 3 (pc' := 82) (L' := [(0, .ref (A 0)), (1, .int (Int32.ofNat i)), (2, .int 1), (3, .ref tv)]) (st' := [.int (Int32.ofNat i), .ref (A 0), .int (-2000)]) rfl ?_
    refine At.clp (as := [.ref (A 0), .int (Int32.ofNat i)]) (rest := [.int (-2000)]) rfl (by decide) rfl (Nat.le_of_ble_eq_true rfl) (Nat.le_of_ble_eq_true rfl) (xrck_o (by decide) (by decide) h02 (by decide)) (Nat.le_of_ble_eq_true rfl) hre ?_
    refine At.go (q := xm250) rfl 2 (pc' := 87) (L' := [(0, .ref (A 0)), (1, .int (Int32.ofNat i)), (2, .int 1), (3, .ref tv)]) (st' := [.long (-2000 - endR M i).toInt64]) rfl ?_
    exact At.rt rfl rfl ⟨_, _, _, _, rfl, rfl, by rw [Nat.zero_add, Nat.zero_add]; exact e3⟩
theorem a_endBR {S : List Int32} {hp : List XC} {ow : Nat → Nat} {k : Nat} {A : Nat → Nat} {M : HM} {rf : Int32} {np nl i ln c d : Nat} {tv : Nat} (h : HR hp ow k A M rf np nl) (hi : i < 8) (hW : WfM M c d) (hd : d ≤ 30) (hln : (M.2.2.2.1 i).1 = Int32.ofNat ln) (hl64 : ln < 64) (hb : (M.2.2.2.1 i).2.2.1 = false) : Me S 13 250 [.ref (A 0), .int (Int32.ofNat i), .int 1, .ref tv] hp (fun v' hp' c s => v' = some (.long (-500)) ∧ HSt hp hp' ow k A M rf np nl c s 1 6) := by
  have h0 := h.2.2.1
  refine At.go (q := xm250) rfl 5 (pc' := 44) (L' := [(0, .ref (A 0)), (1, .int (Int32.ofNat i)), (2, .int 1), (3, .ref tv)]) (st' := [.int (Int32.ofNat i), .ref (A 0), .int 20000]) rfl ?_
  refine At.cl (as := [.ref (A 0), .int (Int32.ofNat i)]) (rest := [.int 20000]) rfl (by decide) rfl (Nat.le_of_ble_eq_true rfl) (Nat.le_of_ble_eq_true rfl) (xrck_o (by decide) (by decide) h0 (by decide)) (Nat.le_of_ble_eq_true rfl) (h_endB (S := S) h hi hb) (fun v2 h2 c2 s2 hq => ?_) (fun E h2 c2 s2 hq => ?_)
  · obtain ⟨hp', c3, s3, e1, -⟩ := hq
    cases e1
  · obtain ⟨hp', c3, s3, e1, e2, e3, e4⟩ := hq
    cases e1
    rw [e2, e3, e4]
    refine Or.inr ⟨(69, 4, 2), rfl, ?_⟩
    refine At.go (q := xm250) rfl 1 (pc' := 74) (L' := [(0, .ref (A 0)), (1, .int (Int32.ofNat i)), (2, .int 1), (3, .ref tv)]) (st' := [.long (-500)]) rfl ?_
    exact At.rt rfl rfl ⟨_, _, _, _, rfl, rfl, HSt.here h⟩
theorem a_giv0R {S : List Int32} {hp : List XC} {ow : Nat → Nat} {k : Nat} {A : Nat → Nat} {M : HM} {rf : Int32} {np nl i ln c d : Nat} {tv : Nat} (h : HR hp ow k A M rf np nl) (hi : i < 8) (hW : WfM M c d) (hd : d ≤ 30) (hln : (M.2.2.2.1 i).1 = Int32.ofNat ln) (hl64 : ln < 64) (hb : (M.2.2.2.1 i).2.2.1 = true) : Me S 13 250 [.ref (A 0), .int (Int32.ofNat i), .int 2, .ref tv] hp (fun v' hp' c s => v' = some (.long (30000 + Int32.ofNat (M.2.2.2.1 i).2.2.2.2.1.length).toInt64) ∧ HSt hp hp' ow k A (givM M i) rf np nl c s 0 0) := by
  have h0 := h.2.2.1
  refine At.go (q := xm250) rfl 5 (pc' := 55) (L' := [(0, .ref (A 0)), (1, .int (Int32.ofNat i)), (2, .int 2), (3, .ref tv)]) (st' := [.int (Int32.ofNat i), .ref (A 0), .int 30000]) rfl ?_
  refine At.cl (as := [.ref (A 0), .int (Int32.ofNat i)]) (rest := [.int 30000]) rfl (by decide) rfl (Nat.le_of_ble_eq_true rfl) (Nat.le_of_ble_eq_true rfl) (xrck_o (by decide) (by decide) h0 (by decide)) (Nat.le_of_ble_eq_true rfl) (h_giveUp (S := S) h hi hb) (fun v2 h2 c2 s2 hq => ?_) (fun E h2 c2 s2 hq => ?_)
  · obtain ⟨v3, hp', c3, s3, e1, e2, e3⟩ := hq
    cases e1
    rw [e2]
    refine At.go (q := xm250) rfl 2 (pc' := 60) (L' := [(0, .ref (A 0)), (1, .int (Int32.ofNat i)), (2, .int 2), (3, .ref tv)]) (st' := [.long (30000 + Int32.ofNat (M.2.2.2.1 i).2.2.2.2.1.length).toInt64]) rfl ?_
    exact At.rt rfl rfl ⟨_, _, _, _, rfl, rfl, by rw [Nat.zero_add, Nat.zero_add]; exact e3⟩
  · obtain ⟨v3, hp', c3, s3, e1, -⟩ := hq
    cases e1
theorem a_givBR {S : List Int32} {hp : List XC} {ow : Nat → Nat} {k : Nat} {A : Nat → Nat} {M : HM} {rf : Int32} {np nl i ln c d : Nat} {tv : Nat} (h : HR hp ow k A M rf np nl) (hi : i < 8) (hW : WfM M c d) (hd : d ≤ 30) (hln : (M.2.2.2.1 i).1 = Int32.ofNat ln) (hl64 : ln < 64) (hb : (M.2.2.2.1 i).2.2.1 = false) : Me S 13 250 [.ref (A 0), .int (Int32.ofNat i), .int 2, .ref tv] hp (fun v' hp' c s => v' = some (.long (-500)) ∧ HSt hp hp' ow k A M rf np nl c s 1 6) := by
  have h0 := h.2.2.1
  refine At.go (q := xm250) rfl 5 (pc' := 55) (L' := [(0, .ref (A 0)), (1, .int (Int32.ofNat i)), (2, .int 2), (3, .ref tv)]) (st' := [.int (Int32.ofNat i), .ref (A 0), .int 30000]) rfl ?_
  refine At.cl (as := [.ref (A 0), .int (Int32.ofNat i)]) (rest := [.int 30000]) rfl (by decide) rfl (Nat.le_of_ble_eq_true rfl) (Nat.le_of_ble_eq_true rfl) (xrck_o (by decide) (by decide) h0 (by decide)) (Nat.le_of_ble_eq_true rfl) (h_giveUpB (S := S) h hi hb) (fun v2 h2 c2 s2 hq => ?_) (fun E h2 c2 s2 hq => ?_)
  · obtain ⟨hp', c3, s3, e1, -⟩ := hq
    cases e1
  · obtain ⟨hp', c3, s3, e1, e2, e3, e4⟩ := hq
    cases e1
    rw [e2, e3, e4]
    refine Or.inr ⟨(69, 4, 2), rfl, ?_⟩
    refine At.go (q := xm250) rfl 1 (pc' := 74) (L' := [(0, .ref (A 0)), (1, .int (Int32.ofNat i)), (2, .int 2), (3, .ref tv)]) (st' := [.long (-500)]) rfl ?_
    exact At.rt rfl rfl ⟨_, _, _, _, rfl, rfl, HSt.here h⟩
theorem a_beg0K {S : List Int32} {hp : List XC} {ow : Nat → Nat} {k : Nat} {A : Nat → Nat} {M : HM} {rf : Int32} {np nl i ln c d : Nat} {tv : Nat} (h : HR hp ow k A M rf np nl) (hi : i < 8) (hW : WfM M c d) (hd : d ≤ 30) (hln : (M.2.2.2.1 i).1 = Int32.ofNat ln) (hl64 : ln < 64) (hb : (M.2.2.2.1 i).2.2.1 = false) : Me S 13 250 [.ref (A 0), .int (Int32.ofNat i), .int 0, .retAddr tv] hp (fun v' hp' c s => v' = some (.long (10000 + Int32.ofNat (lookE (TIq M.2.2.2.2.2.2) M.2.1 (M.2.2.2.1 i).1).length).toInt64) ∧ HSt hp hp' ow k A (begM M i) rf np nl c s 0 0) := by
  have h0 := h.2.2.1
  refine At.go (q := xm250) rfl 5 (pc' := 33) (L' := [(0, .ref (A 0)), (1, .int (Int32.ofNat i)), (2, .int 0), (3, .retAddr tv)]) (st' := [.int (Int32.ofNat i), .ref (A 0), .int 10000]) rfl ?_
  obtain ⟨g1, g2, g3, g4⟩ := hW.bg hd
  refine At.cl (as := [.ref (A 0), .int (Int32.ofNat i)]) (rest := [.int 10000]) rfl (by decide) rfl (Nat.le_of_ble_eq_true rfl) (Nat.le_of_ble_eq_true rfl) (xrck_o (by decide) (by decide) h0 (by decide)) (Nat.le_of_ble_eq_true rfl) (h_begin (S := S) h hi hb g1 g2 g3 g4) (fun v2 h2 c2 s2 hq => ?_) (fun E h2 c2 s2 hq => ?_)
  · obtain ⟨v3, hp', c3, s3, e1, e2, e3⟩ := hq
    cases e1
    rw [e2]
    refine At.go (q := xm250) rfl 2 (pc' := 38) (L' := [(0, .ref (A 0)), (1, .int (Int32.ofNat i)), (2, .int 0), (3, .retAddr tv)]) (st' := [.long (10000 + Int32.ofNat (lookE (TIq M.2.2.2.2.2.2) M.2.1 (M.2.2.2.1 i).1).length).toInt64]) rfl ?_
    exact At.rt rfl rfl ⟨_, _, _, _, rfl, rfl, by rw [Nat.zero_add, Nat.zero_add]; exact e3⟩
  · obtain ⟨v3, hp', c3, s3, e1, -⟩ := hq
    cases e1
theorem a_begBK {S : List Int32} {hp : List XC} {ow : Nat → Nat} {k : Nat} {A : Nat → Nat} {M : HM} {rf : Int32} {np nl i ln c d : Nat} {tv : Nat} (h : HR hp ow k A M rf np nl) (hi : i < 8) (hW : WfM M c d) (hd : d ≤ 30) (hln : (M.2.2.2.1 i).1 = Int32.ofNat ln) (hl64 : ln < 64) (hb : (M.2.2.2.1 i).2.2.1 = true) : Me S 13 250 [.ref (A 0), .int (Int32.ofNat i), .int 0, .retAddr tv] hp (fun v' hp' c s => v' = some (.long (-500)) ∧ HSt hp hp' ow k A M rf np nl c s 1 6) := by
  have h0 := h.2.2.1
  refine At.go (q := xm250) rfl 5 (pc' := 33) (L' := [(0, .ref (A 0)), (1, .int (Int32.ofNat i)), (2, .int 0), (3, .retAddr tv)]) (st' := [.int (Int32.ofNat i), .ref (A 0), .int 10000]) rfl ?_
  refine At.cl (as := [.ref (A 0), .int (Int32.ofNat i)]) (rest := [.int 10000]) rfl (by decide) rfl (Nat.le_of_ble_eq_true rfl) (Nat.le_of_ble_eq_true rfl) (xrck_o (by decide) (by decide) h0 (by decide)) (Nat.le_of_ble_eq_true rfl) (h_beginB (S := S) h hi hb) (fun v2 h2 c2 s2 hq => ?_) (fun E h2 c2 s2 hq => ?_)
  · obtain ⟨hp', c3, s3, e1, -⟩ := hq
    cases e1
  · obtain ⟨hp', c3, s3, e1, e2, e3, e4⟩ := hq
    cases e1
    rw [e2, e3, e4]
    refine Or.inr ⟨(69, 4, 2), rfl, ?_⟩
    refine At.go (q := xm250) rfl 1 (pc' := 74) (L' := [(0, .ref (A 0)), (1, .int (Int32.ofNat i)), (2, .int 0), (3, .retAddr tv)]) (st' := [.long (-500)]) rfl ?_
    exact At.rt rfl rfl ⟨_, _, _, _, rfl, rfl, HSt.here h⟩
theorem a_end0K {S : List Int32} {hp : List XC} {ow : Nat → Nat} {k : Nat} {A : Nat → Nat} {M : HM} {rf : Int32} {np nl i ln c d : Nat} {tv : Nat} (h : HR hp ow k A M rf np nl) (hi : i < 8) (hW : WfM M c d) (hd : d ≤ 30) (hln : (M.2.2.2.1 i).1 = Int32.ofNat ln) (hl64 : ln < 64) (hb : (M.2.2.2.1 i).2.2.1 = true) (hr : endR M i = 0) : Me S 13 250 [.ref (A 0), .int (Int32.ofNat i), .int 1, .retAddr tv] hp (fun v' hp' c s => v' = some (.long (20000 + Int32.ofNat (M.2.2.2.1 i).2.2.2.2.1.length).toInt64) ∧ HSt hp hp' ow k A (en0M M i ln) 0 np nl c s 0 0) := by
  have h0 := h.2.2.1
  refine At.go (q := xm250) rfl 5 (pc' := 44) (L' := [(0, .ref (A 0)), (1, .int (Int32.ofNat i)), (2, .int 1), (3, .retAddr tv)]) (st' := [.int (Int32.ofNat i), .ref (A 0), .int 20000]) rfl ?_
  obtain ⟨g1, g2, g3, g4, g5, g6, g7⟩ := hW.en hd hi
  refine At.cl (as := [.ref (A 0), .int (Int32.ofNat i)]) (rest := [.int 20000]) rfl (by decide) rfl (Nat.le_of_ble_eq_true rfl) (Nat.le_of_ble_eq_true rfl) (xrck_o (by decide) (by decide) h0 (by decide)) (Nat.le_of_ble_eq_true rfl) (h_end0 (S := S) h hi hb hln hl64 g1 g2 g3 g4 g5 g6 g7 hr) (fun v2 h2 c2 s2 hq => ?_) (fun E h2 c2 s2 hq => ?_)
  · obtain ⟨v3, hp', c3, s3, e1, e2, e3⟩ := hq
    cases e1
    rw [e2]
    refine At.go (q := xm250) rfl 2 (pc' := 49) (L' := [(0, .ref (A 0)), (1, .int (Int32.ofNat i)), (2, .int 1), (3, .retAddr tv)]) (st' := [.long (20000 + Int32.ofNat (M.2.2.2.1 i).2.2.2.2.1.length).toInt64]) rfl ?_
    exact At.rt rfl rfl ⟨_, _, _, _, rfl, rfl, by rw [Nat.zero_add, Nat.zero_add]; exact e3⟩
  · obtain ⟨v3, hp', c3, s3, e1, -⟩ := hq
    cases e1
theorem a_end1K {S : List Int32} {hp : List XC} {ow : Nat → Nat} {k : Nat} {A : Nat → Nat} {M : HM} {rf : Int32} {np nl i ln c d : Nat} {tv : Nat} (h : HR hp ow k A M rf np nl) (hi : i < 8) (hW : WfM M c d) (hd : d ≤ 30) (hln : (M.2.2.2.1 i).1 = Int32.ofNat ln) (hl64 : ln < 64) (hb : (M.2.2.2.1 i).2.2.1 = true) (hr : ¬ endR M i = 0) : Me S 13 250 [.ref (A 0), .int (Int32.ofNat i), .int 1, .retAddr tv] hp (fun v' hp' c s => v' = some (.long (-2000 - endR M i).toInt64) ∧ HSt hp hp' ow k A (en1M M i ln) (endR M i) np nl c s 1 6) := by
  have h0 := h.2.2.1
  refine At.go (q := xm250) rfl 5 (pc' := 44) (L' := [(0, .ref (A 0)), (1, .int (Int32.ofNat i)), (2, .int 1), (3, .retAddr tv)]) (st' := [.int (Int32.ofNat i), .ref (A 0), .int 20000]) rfl ?_
  obtain ⟨g1, g2, g3, g4, g5, g6, g7⟩ := hW.en hd hi
  refine At.cl (as := [.ref (A 0), .int (Int32.ofNat i)]) (rest := [.int 20000]) rfl (by decide) rfl (Nat.le_of_ble_eq_true rfl) (Nat.le_of_ble_eq_true rfl) (xrck_o (by decide) (by decide) h0 (by decide)) (Nat.le_of_ble_eq_true rfl) (h_end1 (S := S) h hi hb hln hl64 g1 g2 g3 g4 g5 g6 g7 hr) (fun v2 h2 c2 s2 hq => ?_) (fun E h2 c2 s2 hq => ?_)
  · obtain ⟨hp', c3, s3, e1, -⟩ := hq
    cases e1
  · obtain ⟨hp', c3, s3, e1, e3⟩ := hq
    cases e1
    refine Or.inr ⟨(75, 4, 2), rfl, ?_⟩
    obtain ⟨ow2, np2, nl2, w2, hR2, f2, u3, u4⟩ := id e3
    have h02 := hR2.2.2.1
    have er : ((en1M M i ln).2.2.2.1 i).2.1 = endR M i := by
      show ((mS M i (sGiv (sRea (M.2.2.2.1 i) (endR M i)))).2.2.2.1 i).2.1 = _
      rw [mS_at]
      rfl
    have hre := h_reason (S := S) (M := en1M M i ln) hR2 hi (by rw [er]; exact hr) (by rw [er]; rcases endR_c M i with e | e | e | e | e <;> (rw [e]; decide))
    rw [er] at hre
    refine At.go (q := xm250) rfl 3 (pc' := 82) (L' := [(0, .ref (A 0)), (1, .int (Int32.ofNat i)), (2, .int 1), (3, .retAddr tv)]) (st' := [.int (Int32.ofNat i), .ref (A 0), .int (-2000)]) rfl ?_
    refine At.clp (as := [.ref (A 0), .int (Int32.ofNat i)]) (rest := [.int (-2000)]) rfl (by decide) rfl (Nat.le_of_ble_eq_true rfl) (Nat.le_of_ble_eq_true rfl) (xrck_o (by decide) (by decide) h02 (by decide)) (Nat.le_of_ble_eq_true rfl) hre ?_
    refine At.go (q := xm250) rfl 2 (pc' := 87) (L' := [(0, .ref (A 0)), (1, .int (Int32.ofNat i)), (2, .int 1), (3, .retAddr tv)]) (st' := [.long (-2000 - endR M i).toInt64]) rfl ?_
    exact At.rt rfl rfl ⟨_, _, _, _, rfl, rfl, by rw [Nat.zero_add, Nat.zero_add]; exact e3⟩
theorem a_endBK {S : List Int32} {hp : List XC} {ow : Nat → Nat} {k : Nat} {A : Nat → Nat} {M : HM} {rf : Int32} {np nl i ln c d : Nat} {tv : Nat} (h : HR hp ow k A M rf np nl) (hi : i < 8) (hW : WfM M c d) (hd : d ≤ 30) (hln : (M.2.2.2.1 i).1 = Int32.ofNat ln) (hl64 : ln < 64) (hb : (M.2.2.2.1 i).2.2.1 = false) : Me S 13 250 [.ref (A 0), .int (Int32.ofNat i), .int 1, .retAddr tv] hp (fun v' hp' c s => v' = some (.long (-500)) ∧ HSt hp hp' ow k A M rf np nl c s 1 6) := by
  have h0 := h.2.2.1
  refine At.go (q := xm250) rfl 5 (pc' := 44) (L' := [(0, .ref (A 0)), (1, .int (Int32.ofNat i)), (2, .int 1), (3, .retAddr tv)]) (st' := [.int (Int32.ofNat i), .ref (A 0), .int 20000]) rfl ?_
  refine At.cl (as := [.ref (A 0), .int (Int32.ofNat i)]) (rest := [.int 20000]) rfl (by decide) rfl (Nat.le_of_ble_eq_true rfl) (Nat.le_of_ble_eq_true rfl) (xrck_o (by decide) (by decide) h0 (by decide)) (Nat.le_of_ble_eq_true rfl) (h_endB (S := S) h hi hb) (fun v2 h2 c2 s2 hq => ?_) (fun E h2 c2 s2 hq => ?_)
  · obtain ⟨hp', c3, s3, e1, -⟩ := hq
    cases e1
  · obtain ⟨hp', c3, s3, e1, e2, e3, e4⟩ := hq
    cases e1
    rw [e2, e3, e4]
    refine Or.inr ⟨(69, 4, 2), rfl, ?_⟩
    refine At.go (q := xm250) rfl 1 (pc' := 74) (L' := [(0, .ref (A 0)), (1, .int (Int32.ofNat i)), (2, .int 1), (3, .retAddr tv)]) (st' := [.long (-500)]) rfl ?_
    exact At.rt rfl rfl ⟨_, _, _, _, rfl, rfl, HSt.here h⟩
theorem a_giv0K {S : List Int32} {hp : List XC} {ow : Nat → Nat} {k : Nat} {A : Nat → Nat} {M : HM} {rf : Int32} {np nl i ln c d : Nat} {tv : Nat} (h : HR hp ow k A M rf np nl) (hi : i < 8) (hW : WfM M c d) (hd : d ≤ 30) (hln : (M.2.2.2.1 i).1 = Int32.ofNat ln) (hl64 : ln < 64) (hb : (M.2.2.2.1 i).2.2.1 = true) : Me S 13 250 [.ref (A 0), .int (Int32.ofNat i), .int 2, .retAddr tv] hp (fun v' hp' c s => v' = some (.long (30000 + Int32.ofNat (M.2.2.2.1 i).2.2.2.2.1.length).toInt64) ∧ HSt hp hp' ow k A (givM M i) rf np nl c s 0 0) := by
  have h0 := h.2.2.1
  refine At.go (q := xm250) rfl 5 (pc' := 55) (L' := [(0, .ref (A 0)), (1, .int (Int32.ofNat i)), (2, .int 2), (3, .retAddr tv)]) (st' := [.int (Int32.ofNat i), .ref (A 0), .int 30000]) rfl ?_
  refine At.cl (as := [.ref (A 0), .int (Int32.ofNat i)]) (rest := [.int 30000]) rfl (by decide) rfl (Nat.le_of_ble_eq_true rfl) (Nat.le_of_ble_eq_true rfl) (xrck_o (by decide) (by decide) h0 (by decide)) (Nat.le_of_ble_eq_true rfl) (h_giveUp (S := S) h hi hb) (fun v2 h2 c2 s2 hq => ?_) (fun E h2 c2 s2 hq => ?_)
  · obtain ⟨v3, hp', c3, s3, e1, e2, e3⟩ := hq
    cases e1
    rw [e2]
    refine At.go (q := xm250) rfl 2 (pc' := 60) (L' := [(0, .ref (A 0)), (1, .int (Int32.ofNat i)), (2, .int 2), (3, .retAddr tv)]) (st' := [.long (30000 + Int32.ofNat (M.2.2.2.1 i).2.2.2.2.1.length).toInt64]) rfl ?_
    exact At.rt rfl rfl ⟨_, _, _, _, rfl, rfl, by rw [Nat.zero_add, Nat.zero_add]; exact e3⟩
  · obtain ⟨v3, hp', c3, s3, e1, -⟩ := hq
    cases e1
theorem a_givBK {S : List Int32} {hp : List XC} {ow : Nat → Nat} {k : Nat} {A : Nat → Nat} {M : HM} {rf : Int32} {np nl i ln c d : Nat} {tv : Nat} (h : HR hp ow k A M rf np nl) (hi : i < 8) (hW : WfM M c d) (hd : d ≤ 30) (hln : (M.2.2.2.1 i).1 = Int32.ofNat ln) (hl64 : ln < 64) (hb : (M.2.2.2.1 i).2.2.1 = false) : Me S 13 250 [.ref (A 0), .int (Int32.ofNat i), .int 2, .retAddr tv] hp (fun v' hp' c s => v' = some (.long (-500)) ∧ HSt hp hp' ow k A M rf np nl c s 1 6) := by
  have h0 := h.2.2.1
  refine At.go (q := xm250) rfl 5 (pc' := 55) (L' := [(0, .ref (A 0)), (1, .int (Int32.ofNat i)), (2, .int 2), (3, .retAddr tv)]) (st' := [.int (Int32.ofNat i), .ref (A 0), .int 30000]) rfl ?_
  refine At.cl (as := [.ref (A 0), .int (Int32.ofNat i)]) (rest := [.int 30000]) rfl (by decide) rfl (Nat.le_of_ble_eq_true rfl) (Nat.le_of_ble_eq_true rfl) (xrck_o (by decide) (by decide) h0 (by decide)) (Nat.le_of_ble_eq_true rfl) (h_giveUpB (S := S) h hi hb) (fun v2 h2 c2 s2 hq => ?_) (fun E h2 c2 s2 hq => ?_)
  · obtain ⟨hp', c3, s3, e1, -⟩ := hq
    cases e1
  · obtain ⟨hp', c3, s3, e1, e2, e3, e4⟩ := hq
    cases e1
    rw [e2, e3, e4]
    refine Or.inr ⟨(69, 4, 2), rfl, ?_⟩
    refine At.go (q := xm250) rfl 1 (pc' := 74) (L' := [(0, .ref (A 0)), (1, .int (Int32.ofNat i)), (2, .int 2), (3, .retAddr tv)]) (st' := [.long (-500)]) rfl ?_
    exact At.rt rfl rfl ⟨_, _, _, _, rfl, rfl, HSt.here h⟩
