/-! the house: what is asked (written by wip/p27/c999999994.py) -/
def sAns (s : SM) (r c : Nat) (a : List Int32) : SM := (s.1, s.2.1, s.2.2.1, s.2.2.2.1, s.2.2.2.2.1, s.2.2.2.2.2.1, (r, c, a), s.2.2.2.2.2.2.2)
theorem h_ask0 {S : List Int32} {hp : List XC} {ow : Nat → Nat} {k : Nat} {A : Nat → Nat} {M : HM} {np nl : Nat} {i kp w9 npk : Nat} {top : Int32} {t : QT} (h : HR hp ow k A M 0 np nl) (hi : i < 8) (hsr : Srt (vwE M i)) (hEt : EnT M.2.2.2.2.2.2 (vwE M i)) (hlen : (vwE M i).length ≤ 1500) (hlk : (lookE (TIq M.2.2.2.2.2.2) (vwE M i) (M.2.2.2.1 i).1).length ≤ 1500) (hkp : kp ≤ 150) (hw9 : kp * w9 ≤ 450) (hw99 : w9 ≤ 100) (hnpk : npk ≤ 3400) (han : anE (Int32.ofNat t.2) top = 0) (hans : ∀ (h1 : List XC) (q0 q1 : Value) (pa ln : Nat) (pn kp0 off0 so0 dn0 lc0 wd0 : Int32) (ps lbs las : List Int32), FrX (fun x => x = A 10 ∨ x = A 6) hp h1 → HR h1 ow k A M 0 np nl → h1[A 6]? = some (.inr (11, [.ref (A 10), .int (M.2.2.2.1 i).1])) → hSh h1 (A 10) (lookE (TIq M.2.2.2.2.2.2) (vwE M i) (M.2.2.2.1 i).1) → h1[A 8]? = some (.inr (7, [q0, q1, .ref (A 17), .ref (A 18), .ref pa, .int pn, .ref (A 19), .int kp0, .int off0, .int so0, .int dn0, .ref ln, .int lc0, .int wd0])) → h1[pa]? = some (.inl (18, ps.map Value.int)) → ps.length = np → h1[A 19]? = some (.inl (19, las.map Value.int)) → las.length = 120 → h1[ln]? = some (.inl (20, lbs.map Value.int)) → lbs.length = nl → Me S 8 139 [.ref (A 8), .ref (A 60), .ref (A 75), .ref (A (vwO M i)), .ref (A 6)] h1 (fun v hp' c s => v = some (.int (anE (Int32.ofNat t.2) top)) ∧ AnR h1 hp' (A 8) (A 60) (A 75) (A 17) (A 18) pa (A 19) ln (A 73) kp w9 120 120 np nl npk ((vwE M i).length + (lookE (TIq M.2.2.2.2.2.2) (vwE M i) (M.2.2.2.1 i).1).length) t c s)) : Me S 11 115 [.ref (A 0), .ref (A (20 + i))] hp (fun v hp' c s => v = some (.int (0)) ∧ HSt hp hp' ow k A M 109 np nl c s 1 900) := by
  obtain ⟨hO, how, h0, h1, h3, hD, hF, hE, hT, ⟨lv9, hG⟩, hC, hL9, hQ, hW, hS, hTq9, htd, hcap⟩ := id h
  refine At.go (q := xm115) rfl 2 (pc' := 2) (L' := [(0, .ref (A 0)), (1, .ref (A (20 + i)))]) (st' := [.ref (A (20 + i)), .ref (A 0)]) rfl ?_
  refine At.clm (as := [.ref (A 0), .ref (A (20 + i))]) (rest := []) rfl (by decide) rfl (Nat.le_of_ble_eq_true rfl) (Nat.le_of_ble_eq_true rfl) (xrck_o (by decide) (by decide) h0 (by decide)) (Nat.le_of_ble_eq_true rfl) (m_lookFor h hi hsr hEt (by omega)) (fun v9 h1' c1 s1 hv9 => ?_)
  obtain ⟨rfl, f1, g1, g2, g4, g5, g6⟩ := hv9
  obtain ⟨r1, r2, r3, r4⟩ := h.looked f1 g1 g2 g4 g5 g6 (by omega)
  have hvw := h_view (S := S) r1 hi
  have r1' := r1
  obtain ⟨kO, kow, k0, k1, k3, kD, kF, kE, kT, ⟨lv8, kG⟩, kC, kL9, kQ, kW, kS, kTq9, ktd, kcap⟩ := r1'
  obtain ⟨q0, q1, pa, ln, pn, kp0, off0, so0, dn0, lc0, wd0, ps, lbs, las, x1, x2, x3, x4, x5, x6, x7, x8, x9, x10, x11⟩ := kQ
  have hA9 := hans h1' q0 q1 pa ln pn kp0 off0 so0 dn0 lc0 wd0 ps lbs las f1 r1 g1 g2 x1 x2 x3 x5 x6 x7 x8
  refine At.go (q := xm115) rfl 2 (pc' := 7) (L' := [(0, .ref (A 0)), (1, .ref (A (20 + i)))]) (st' := [.ref (A 0)]) rfl ?_
  refine At.gf rfl (by decide) k0 rfl ?_
  refine At.go (q := xm115) rfl 1 (pc' := 11) (L' := [(0, .ref (A 0)), (1, .ref (A (20 + i)))]) (st' := [.ref (A 0), .ref (A 8)]) rfl ?_
  refine At.gf rfl (by decide) k0 rfl ?_
  refine At.go (q := xm115) rfl 1 (pc' := 15) (L' := [(0, .ref (A 0)), (1, .ref (A (20 + i)))]) (st' := [.ref (A 0), .ref (A 60), .ref (A 8)]) rfl ?_
  refine At.gf rfl (by decide) k0 rfl ?_
  refine At.go (q := xm115) rfl 2 (pc' := 20) (L' := [(0, .ref (A 0)), (1, .ref (A (20 + i)))]) (st' := [.ref (A (20 + i)), .ref (A 0), .ref (A 75), .ref (A 60), .ref (A 8)]) rfl ?_
  refine At.clp (as := [.ref (A 0), .ref (A (20 + i))]) (rest := [.ref (A 75), .ref (A 60), .ref (A 8)]) rfl (by decide) rfl (Nat.le_of_ble_eq_true rfl) (Nat.le_of_ble_eq_true rfl) (xrck_o (by decide) (by decide) k0 (by decide)) (Nat.le_of_ble_eq_true rfl) (hvw) ?_
  refine At.go (q := xm115) rfl 1 (pc' := 24) (L' := [(0, .ref (A 0)), (1, .ref (A (20 + i)))]) (st' := [.ref (A 0), .ref (A (vwO M i)), .ref (A 75), .ref (A 60), .ref (A 8)]) rfl ?_
  refine At.gf rfl (by decide) k0 rfl ?_
  refine At.clm (as := [.ref (A 8), .ref (A 60), .ref (A 75), .ref (A (vwO M i)), .ref (A 6)]) (rest := []) rfl (by decide) rfl (Nat.le_of_ble_eq_true rfl) (Nat.le_of_ble_eq_true rfl) (xrck_o (by decide) (by decide) x1 (by decide)) (Nat.le_of_ble_eq_true rfl) (hA9) (fun v9 h2 c2 s2 hv9 => ?_)
  obtain ⟨rfl, hR9⟩ := hv9
  obtain ⟨f2, pa', ln', pn', kp', off', so', dn', la', lb', ps', vs', las', lbs', y1, y2, y3, y4, y5, y6, y7, y8, y9, y10, ⟨es17, yE17⟩, ⟨es18, yE18⟩, y11, y12, y13, y14, y15, y16, y17, y18, y19⟩ := hR9
  have nn : ∀ j, j < 77 → j ≠ 17 → j ≠ 18 → j ≠ 8 → j ≠ 73 → j ≠ 19 → ¬ AnP (A 8) (A 17) (A 18) pa (A 19) ln (A 73) (A j) := fun j hj n1 n2 n3 n4 n5 e => by
    have u := (how j hj).1
    rcases e with e | e | e | e | e | e | e
    · rw [e, (how 17 (by decide)).1] at u; omega
    · rw [e, (how 18 (by decide)).1] at u; omega
    · rw [e, (how 8 (by decide)).1] at u; omega
    · rw [e, (how 73 (by decide)).1] at u; omega
    · rw [e, x10] at u; omega
    · rw [e, (how 19 (by decide)).1] at u; omega
    · rw [e, x11] at u; omega
  have hH2 := f2.ob k0 (by decide) (nn 0 (by decide) (by decide) (by decide) (by decide) (by decide) (by decide))
  obtain ⟨za, ab, a1, a2, a3, a4, a5, a6, a7, a8, a9, a10, a11, a12, a13, a14⟩ := kS i hi
  have nza : ¬ AnP (A 8) (A 17) (A 18) pa (A 19) ln (A 73) za := fun e => by
    rcases e with e | e | e | e | e | e | e
    · rw [e, (how 17 (by decide)).1] at a12; omega
    · rw [e, (how 18 (by decide)).1] at a12; omega
    · rw [e, (how 8 (by decide)).1] at a12; omega
    · rw [e, (how 73 (by decide)).1] at a12; omega
    · rw [e, x10] at a12; omega
    · rw [e, (how 19 (by decide)).1] at a12; omega
    · rw [e, x11] at a12; omega
  have hz2 := f2.ob a1 (by decide) (nn (20 + i) (by omega) (by omega) (by omega) (by omega) (by omega) (by omega))
  have hza2 := f2.2.2.1 _ _ a6 rfl (Or.inl nza)
  have hl1 := f1.1
  have hl2 := f2.1
  rw [han]
  refine At.go (q := xm115) rfl 3 (pc' := 36) (L' := [(0, .ref (A 0)), (1, .ref (A (20 + i)))]) (st' := [.int 109, .ref (A 0)]) rfl ?_
  refine At.pf rfl hH2 (Nat.le_of_ble_eq_true rfl) rfl ?_
  obtain ⟨h3, eh3⟩ : ∃ z, z = h2.set (A 0) (.inr (14, [.ref (A 1), .ref (A 2), .ref (A 3), .ref (A 4), .ref (A 5), .ref (A 60), .ref (A 75), .ref (A 6), .ref (A 7), .ref (A 8), .int M.2.2.2.2.2.1, .int 109])) := ⟨_, rfl⟩
  refine At.hpe eh3 ?_
  have f3 : FrX (fun x => x = A 0) h2 h3 := by rw [eh3]; exact FrX.so hH2 (by decide) rfl (by decide)
  have hH3 : h3[A 0]? = some (.inr (14, [.ref (A 1), .ref (A 2), .ref (A 3), .ref (A 4), .ref (A 5), .ref (A 60), .ref (A 75), .ref (A 6), .ref (A 7), .ref (A 8), .int M.2.2.2.2.2.1, .int 109])) := by rw [eh3]; exact xs_eq hH2
  have n0 : ∀ j, j < 77 → j ≠ 0 → ¬ A j = A 0 := fun j hj hn e => by have u := (how j hj).1; rw [e, (how 0 (by decide)).1] at u; omega
  refine At.go (q := xm115) rfl 1 (pc' := 40) (L' := [(0, .ref (A 0)), (1, .ref (A (20 + i)))]) (st' := [.int 0]) rfl ?_
  obtain ⟨Z, hZ⟩ : ∃ Z : Nat → Prop, Z = fun n => n = k + 10 ∨ n = k + 6 ∨ n = k + 17 ∨ n = k + 18 ∨ n = k + 8 ∨ n = k + 73 ∨ n = k + 200 ∨ n = k + 19 ∨ n = k + 201 ∨ n = k + 0 := ⟨_, rfl⟩
  have hz : ∀ n, Z n → n = k + 10 ∨ n = k + 6 ∨ n = k + 17 ∨ n = k + 18 ∨ n = k + 8 ∨ n = k + 73 ∨ n = k + 200 ∨ n = k + 19 ∨ n = k + 201 ∨ n = k + 0 := fun n z9 => by rw [hZ] at z9; exact z9
  have hzi : ∀ n, (n = k + 10 ∨ n = k + 6 ∨ n = k + 17 ∨ n = k + 18 ∨ n = k + 8 ∨ n = k + 73 ∨ n = k + 200 ∨ n = k + 19 ∨ n = k + 201 ∨ n = k + 0) → Z n := fun n z9 => by rw [hZ]; exact z9
  have hzk : ∀ n, Z n → k ≤ n ∧ n < k + 1000 := fun n z => by have z9 := hz n z; omega
  have fz1 : FrX (fun a => Z (ow a)) hp h1' := f1.mono (fun x _ e => by
    have e9 : x = A 10 ∨ x = A 6 := e
    show Z (ow x)
    rcases e9 with e9 | e9
    · rw [e9, (how _ (by omega)).1]; exact hzi _ (by omega)
    · rw [e9, (how _ (by omega)).1]; exact hzi _ (by omega))
  have fz2 : FrX (fun a => Z (ow a)) h1' h2 := f2.mono (fun x _ e => by
    show Z (ow x)
    rcases e with e | e | e | e | e | e | e
    · rw [e, (how 17 (by decide)).1]; exact hzi _ (by omega)
    · rw [e, (how 18 (by decide)).1]; exact hzi _ (by omega)
    · rw [e, (how 8 (by decide)).1]; exact hzi _ (by omega)
    · rw [e, (how 73 (by decide)).1]; exact hzi _ (by omega)
    · rw [e, x10]; exact hzi _ (by omega)
    · rw [e, (how 19 (by decide)).1]; exact hzi _ (by omega)
    · rw [e, x11]; exact hzi _ (by omega))
  have FT2 : FrX (fun a => Z (ow a)) hp h2 := FrX.tr fz1 fz2 (fun x hx => Or.inl hx)
  have fz3 : FrX (fun a => Z (ow a)) h2 h3 := f3.mono (fun x _ e => by have e9 : x = A 0 := e; show Z (ow x); rw [e9, (how 0 (by decide)).1]; exact hzi _ (by omega))
  have FT : FrX (fun a => Z (ow a)) hp h3 := FrX.tr FT2 fz3 (fun x hx => Or.inl hx)
  have hO2 := f2.2.1 kO
  obtain ⟨ow', how'⟩ : ∃ ow' : Nat → Nat, ow' = (fun a => if a < hp.length then ow a else if a = pa' then k + 200 else if a = ln' then k + 201 else k + 210 + i) := ⟨_, rfl⟩
  have ho1 : ∀ a, a < hp.length → ow' a = ow a := fun a ha => by rw [how']; exact if_pos ha
  have hpa' : ow' pa' = k + 200 := by
    by_cases hlt : pa' < hp.length
    · rw [ho1 _ hlt]
      rcases y13 with e | e
      · rw [e]; exact x10
      · omega
    · rw [how']; dsimp only; rw [if_neg hlt, if_pos rfl]
  have hnpl : ln' ≠ pa' := fun e => by rw [e, y2] at y5; cases y5
  have hln' : ow' ln' = k + 201 := by
    by_cases hlt : ln' < hp.length
    · rw [ho1 _ hlt]
      rcases y14 with e | e
      · rw [e]; exact x11
      · omega
    · rw [how']; dsimp only; rw [if_neg hlt, if_neg hnpl, if_pos rfl]
  have hm9 : max nl 900 = 900 := by omega
  have hQn : hQu h3 ow' k A ps'.length lb'.length := ⟨_, _, pa', ln', _, _, _, _, _, _, _, ps', lb', la', (f3.ob y1 (by decide) (fun e => xn_cl y1 hH2 (by decide) e)), (f3.2.2.1 _ _ y2 rfl (Or.inl (fun e => xn_ar y2 hH2 e))), rfl, by omega, (f3.2.2.1 _ _ y3 rfl (Or.inl (fun e => xn_ar y3 hH2 e))), y4, (f3.2.2.1 _ _ y5 rfl (Or.inl (fun e => xn_ar y5 hH2 e))), rfl, by omega, hpa', hln'⟩
  have hScn : hSc h3 A := hSc.stk (vs := vs') hW (fun j hj hn c hc h7 => FT.2.2.1 _ _ hc h7 (Or.inl (nz (how (60 + j) (by omega)).1 (fun z => by have z9 := hz _ z; omega)))) (f3.2.2.1 _ _ y11 rfl (Or.inl (fun e => xn_ar y11 hH2 e))) y12
  obtain ⟨lsk, hlsk1, hlsk2⟩ := g2
  have c10 := hcap 10 (by decide)
  have c17 := hcap 17 (by decide)
  have c18 := hcap 18 (by decide)
  have e17 : capL h1' (A 17) = capL hp (A 17) := h.capeq (Z := fun n => n = k + 10 ∨ n = k + 6) (f1.mono (fun x _ e => by have e9 : x = A 10 ∨ x = A 6 := e; show ow x = k + 10 ∨ ow x = k + 6; rcases e9 with e9 | e9 <;> rw [e9, (how _ (by omega)).1] <;> omega)) 17 (by decide) (by omega)
  have e18 : capL h1' (A 18) = capL hp (A 18) := h.capeq (Z := fun n => n = k + 10 ∨ n = k + 6) (f1.mono (fun x _ e => by have e9 : x = A 10 ∨ x = A 6 := e; show ow x = k + 10 ∨ ow x = k + 6; rcases e9 with e9 | e9 <;> rw [e9, (how _ (by omega)).1] <;> omega)) 18 (by decide) (by omega)
  have q10 : capL h3 (A 10) = capL h1' (A 10) := (f3.cap (n0 10 (by decide) (by decide)) hO2 (f2.ls (nn 10 (by decide) (by decide) (by decide) (by decide) (by decide) (by decide)) kO hlsk1)).trans (f2.cap (nn 10 (by decide) (by decide) (by decide) (by decide) (by decide) (by decide)) kO hlsk1)
  have q17 : capL h3 (A 17) = capL h2 (A 17) := f3.cap (n0 17 (by decide) (by decide)) hO2 y9
  have q18 : capL h3 (A 18) = capL h2 (A 18) := f3.cap (n0 18 (by decide) (by decide)) hO2 y10
  have hR : HR h3 ow' k A M 109 ps'.length lb'.length := h.upd (Z := Z) FT ho1 (fun z => by have z9 := hz _ z; omega) (fun z => by have z9 := hz _ z; omega) (Or.inr hH3) (Or.inl ⟨(fun z => by have z9 := hz _ z; omega), rfl⟩) (Or.inl ⟨(fun z => by have z9 := hz _ z; omega), rfl⟩) (Or.inl ⟨(fun z => by have z9 := hz _ z; omega), rfl⟩) (Or.inl ⟨(fun z => by have z9 := hz _ z; omega), rfl⟩) (Or.inr ⟨_, (f3.ob (f2.ob g1 (by decide) (nn 6 (by decide) (by decide) (by decide) (by decide) (by decide) (by decide))) (by decide) (n0 6 (by decide) (by decide)))⟩) (Or.inl ⟨(fun z => by have z9 := hz _ z; omega), (fun z => by have z9 := hz _ z; omega), (fun z => by have z9 := hz _ z; omega)⟩) (fun j hj => if e : j = 10 then Or.inr (by rw [e]; exact ⟨_, lsk, (f3.ls (n0 10 (by decide) (by decide)) hO2 (f2.ls (nn 10 (by decide) (by decide) (by decide) (by decide) (by decide) (by decide)) kO hlsk1)), ((hlsk2.fr f2).fr f3)⟩) else if e : j = 17 then Or.inr (by rw [e]; exact ⟨_, _, f3.ls (n0 17 (by decide) (by decide)) hO2 y9, yE17.fr f3⟩) else if e : j = 18 then Or.inr (by rw [e]; exact ⟨_, _, f3.ls (n0 18 (by decide) (by decide)) hO2 y10, yE18.fr f3⟩) else Or.inl (fun z => by simp only [List.mem_cons, List.not_mem_nil, or_false] at hj; have z9 := hz _ z; omega)) (Or.inr hQn) (Or.inr hScn) (fun j hj => Or.inl ⟨(fun z => by have z9 := hz _ z; omega), (fun z => by have z9 := hz _ z; omega), (fun z => by have z9 := hz _ z; omega), (fun z => by have z9 := hz _ z; omega), (fun z => by have z9 := hz _ z; omega), (fun z => by have z9 := hz _ z; omega), rfl⟩) (Or.inl ⟨(fun z => by have z9 := hz _ z; omega), (fun z => by have z9 := hz _ z; omega), (fun z => by have z9 := hz _ z; omega), (fun z => by have z9 := hz _ z; omega), rfl⟩) (fun j hj => if e : j = 10 then Or.inr (by rw [e]; omega) else if e : j = 17 then Or.inr (by rw [e]; omega) else if e : j = 18 then Or.inr (by rw [e]; omega) else Or.inl (fun z => by have j9 := lsI_c j hj; have z9 := hz _ z; omega))
  have ec := h.caps FT [10, 17, 18] (by decide) (fun j z hj => by have j9 := lsI_c j hj; have z9 := hz _ z; simp only [List.mem_cons, List.not_mem_nil, or_false]; omega)
  simp only [sumL, List.map_cons, List.map_nil, List.sum_cons, List.sum_nil] at ec
  exact At.rt rfl (xret_i rfl) ⟨_, _, _, _, rfl, rfl, ow', ps'.length, lb'.length, ho1, hR, FT.mono (fun x _ hx => hzk _ hx), by omega, by omega⟩
theorem h_ask1 {S : List Int32} {hp : List XC} {ow : Nat → Nat} {k : Nat} {A : Nat → Nat} {M : HM} {np nl : Nat} {i kp w9 npk : Nat} {top : Int32} {t : QT} (h : HR hp ow k A M 0 np nl) (hi : i < 8) (hsr : Srt (vwE M i)) (hEt : EnT M.2.2.2.2.2.2 (vwE M i)) (hlen : (vwE M i).length ≤ 1500) (hlk : (lookE (TIq M.2.2.2.2.2.2) (vwE M i) (M.2.2.2.1 i).1).length ≤ 1500) (hkp : kp ≤ 150) (hw9 : kp * w9 ≤ 450) (hw99 : w9 ≤ 100) (hnpk : npk ≤ 3400) (han : anE (Int32.ofNat t.2) top = 1) (hans : ∀ (h1 : List XC) (q0 q1 : Value) (pa ln : Nat) (pn kp0 off0 so0 dn0 lc0 wd0 : Int32) (ps lbs las : List Int32), FrX (fun x => x = A 10 ∨ x = A 6) hp h1 → HR h1 ow k A M 0 np nl → h1[A 6]? = some (.inr (11, [.ref (A 10), .int (M.2.2.2.1 i).1])) → hSh h1 (A 10) (lookE (TIq M.2.2.2.2.2.2) (vwE M i) (M.2.2.2.1 i).1) → h1[A 8]? = some (.inr (7, [q0, q1, .ref (A 17), .ref (A 18), .ref pa, .int pn, .ref (A 19), .int kp0, .int off0, .int so0, .int dn0, .ref ln, .int lc0, .int wd0])) → h1[pa]? = some (.inl (18, ps.map Value.int)) → ps.length = np → h1[A 19]? = some (.inl (19, las.map Value.int)) → las.length = 120 → h1[ln]? = some (.inl (20, lbs.map Value.int)) → lbs.length = nl → Me S 8 139 [.ref (A 8), .ref (A 60), .ref (A 75), .ref (A (vwO M i)), .ref (A 6)] h1 (fun v hp' c s => v = some (.int (anE (Int32.ofNat t.2) top)) ∧ AnR h1 hp' (A 8) (A 60) (A 75) (A 17) (A 18) pa (A 19) ln (A 73) kp w9 120 120 np nl npk ((vwE M i).length + (lookE (TIq M.2.2.2.2.2.2) (vwE M i) (M.2.2.2.1 i).1).length) t c s)) : Me S 11 115 [.ref (A 0), .ref (A (20 + i))] hp (fun v hp' c s => v = some (.int (Int32.ofNat t.1.length)) ∧ HSt hp hp' ow k A (mS M i (sAns (M.2.2.2.1 i) t.1.length w9 t.1.flatten)) 0 np nl c s 1 900) := by
  obtain ⟨hO, how, h0, h1, h3, hD, hF, hE, hT, ⟨lv9, hG⟩, hC, hL9, hQ, hW, hS, hTq9, htd, hcap⟩ := id h
  refine At.go (q := xm115) rfl 2 (pc' := 2) (L' := [(0, .ref (A 0)), (1, .ref (A (20 + i)))]) (st' := [.ref (A (20 + i)), .ref (A 0)]) rfl ?_
  refine At.clm (as := [.ref (A 0), .ref (A (20 + i))]) (rest := []) rfl (by decide) rfl (Nat.le_of_ble_eq_true rfl) (Nat.le_of_ble_eq_true rfl) (xrck_o (by decide) (by decide) h0 (by decide)) (Nat.le_of_ble_eq_true rfl) (m_lookFor h hi hsr hEt (by omega)) (fun v9 h1' c1 s1 hv9 => ?_)
  obtain ⟨rfl, f1, g1, g2, g4, g5, g6⟩ := hv9
  obtain ⟨r1, r2, r3, r4⟩ := h.looked f1 g1 g2 g4 g5 g6 (by omega)
  have hvw := h_view (S := S) r1 hi
  have r1' := r1
  obtain ⟨kO, kow, k0, k1, k3, kD, kF, kE, kT, ⟨lv8, kG⟩, kC, kL9, kQ, kW, kS, kTq9, ktd, kcap⟩ := r1'
  obtain ⟨q0, q1, pa, ln, pn, kp0, off0, so0, dn0, lc0, wd0, ps, lbs, las, x1, x2, x3, x4, x5, x6, x7, x8, x9, x10, x11⟩ := kQ
  have hA9 := hans h1' q0 q1 pa ln pn kp0 off0 so0 dn0 lc0 wd0 ps lbs las f1 r1 g1 g2 x1 x2 x3 x5 x6 x7 x8
  refine At.go (q := xm115) rfl 2 (pc' := 7) (L' := [(0, .ref (A 0)), (1, .ref (A (20 + i)))]) (st' := [.ref (A 0)]) rfl ?_
  refine At.gf rfl (by decide) k0 rfl ?_
  refine At.go (q := xm115) rfl 1 (pc' := 11) (L' := [(0, .ref (A 0)), (1, .ref (A (20 + i)))]) (st' := [.ref (A 0), .ref (A 8)]) rfl ?_
  refine At.gf rfl (by decide) k0 rfl ?_
  refine At.go (q := xm115) rfl 1 (pc' := 15) (L' := [(0, .ref (A 0)), (1, .ref (A (20 + i)))]) (st' := [.ref (A 0), .ref (A 60), .ref (A 8)]) rfl ?_
  refine At.gf rfl (by decide) k0 rfl ?_
  refine At.go (q := xm115) rfl 2 (pc' := 20) (L' := [(0, .ref (A 0)), (1, .ref (A (20 + i)))]) (st' := [.ref (A (20 + i)), .ref (A 0), .ref (A 75), .ref (A 60), .ref (A 8)]) rfl ?_
  refine At.clp (as := [.ref (A 0), .ref (A (20 + i))]) (rest := [.ref (A 75), .ref (A 60), .ref (A 8)]) rfl (by decide) rfl (Nat.le_of_ble_eq_true rfl) (Nat.le_of_ble_eq_true rfl) (xrck_o (by decide) (by decide) k0 (by decide)) (Nat.le_of_ble_eq_true rfl) (hvw) ?_
  refine At.go (q := xm115) rfl 1 (pc' := 24) (L' := [(0, .ref (A 0)), (1, .ref (A (20 + i)))]) (st' := [.ref (A 0), .ref (A (vwO M i)), .ref (A 75), .ref (A 60), .ref (A 8)]) rfl ?_
  refine At.gf rfl (by decide) k0 rfl ?_
  refine At.clm (as := [.ref (A 8), .ref (A 60), .ref (A 75), .ref (A (vwO M i)), .ref (A 6)]) (rest := []) rfl (by decide) rfl (Nat.le_of_ble_eq_true rfl) (Nat.le_of_ble_eq_true rfl) (xrck_o (by decide) (by decide) x1 (by decide)) (Nat.le_of_ble_eq_true rfl) (hA9) (fun v9 h2 c2 s2 hv9 => ?_)
  obtain ⟨rfl, hR9⟩ := hv9
  obtain ⟨f2, pa', ln', pn', kp', off', so', dn', la', lb', ps', vs', las', lbs', y1, y2, y3, y4, y5, y6, y7, y8, y9, y10, ⟨es17, yE17⟩, ⟨es18, yE18⟩, y11, y12, y13, y14, y15, y16, y17, y18, y19⟩ := hR9
  have nn : ∀ j, j < 77 → j ≠ 17 → j ≠ 18 → j ≠ 8 → j ≠ 73 → j ≠ 19 → ¬ AnP (A 8) (A 17) (A 18) pa (A 19) ln (A 73) (A j) := fun j hj n1 n2 n3 n4 n5 e => by
    have u := (how j hj).1
    rcases e with e | e | e | e | e | e | e
    · rw [e, (how 17 (by decide)).1] at u; omega
    · rw [e, (how 18 (by decide)).1] at u; omega
    · rw [e, (how 8 (by decide)).1] at u; omega
    · rw [e, (how 73 (by decide)).1] at u; omega
    · rw [e, x10] at u; omega
    · rw [e, (how 19 (by decide)).1] at u; omega
    · rw [e, x11] at u; omega
  have hH2 := f2.ob k0 (by decide) (nn 0 (by decide) (by decide) (by decide) (by decide) (by decide) (by decide))
  obtain ⟨za, ab, a1, a2, a3, a4, a5, a6, a7, a8, a9, a10, a11, a12, a13, a14⟩ := kS i hi
  have nza : ¬ AnP (A 8) (A 17) (A 18) pa (A 19) ln (A 73) za := fun e => by
    rcases e with e | e | e | e | e | e | e
    · rw [e, (how 17 (by decide)).1] at a12; omega
    · rw [e, (how 18 (by decide)).1] at a12; omega
    · rw [e, (how 8 (by decide)).1] at a12; omega
    · rw [e, (how 73 (by decide)).1] at a12; omega
    · rw [e, x10] at a12; omega
    · rw [e, (how 19 (by decide)).1] at a12; omega
    · rw [e, x11] at a12; omega
  have hz2 := f2.ob a1 (by decide) (nn (20 + i) (by omega) (by omega) (by omega) (by omega) (by omega) (by omega))
  have hza2 := f2.2.2.1 _ _ a6 rfl (Or.inl nza)
  have hl1 := f1.1
  have hl2 := f2.1
  rw [han]
  refine At.go (q := xm115) rfl 3 (pc' := 43) (L' := [(0, .ref (A 0)), (1, .ref (A (20 + i)))]) (st' := [.ref (A 0), .ref (A (20 + i))]) rfl ?_
  refine At.gf rfl (by decide) hH2 rfl ?_
  refine At.gf rfl (by decide) y1 rfl ?_
  refine At.go (q := xm115) rfl 1 (pc' := 50) (L' := [(0, .ref (A 0)), (1, .ref (A (20 + i)))]) (st' := [.ref (A 0), .ref ln', .ref (A (20 + i))]) rfl ?_
  refine At.gf rfl (by decide) hH2 rfl ?_
  refine At.gf rfl (by decide) y1 rfl ?_
  refine At.go (q := xm115) rfl 1 (pc' := 57) (L' := [(0, .ref (A 0)), (1, .ref (A (20 + i)))]) (st' := [.ref (A 0), .int (Int32.ofNat t.1.length), .ref ln', .ref (A (20 + i))]) rfl ?_
  refine At.gf rfl (by decide) hH2 rfl ?_
  refine At.gf rfl (by decide) y1 rfl ?_
  refine At.clm (as := [.ref (A (20 + i)), .ref ln', .int (Int32.ofNat t.1.length), .int (Int32.ofNat w9)]) (rest := []) rfl (by decide) rfl (Nat.le_of_ble_eq_true rfl) (Nat.le_of_ble_eq_true rfl) (xrck_o (by decide) (by decide) hz2 (by decide)) (Nat.le_of_ble_eq_true rfl) (m_keepAnswer hz2 y5 hza2 (by omega) (by omega) y6.1) (fun v9 h3 c3 s3 hv9 => ?_)
  obtain ⟨rfl, za3, ab3, f3, w1, w2, w3, w4, w5⟩ := hv9
  refine At.go (q := xm115) rfl 1 (pc' := 67) (L' := [(0, .ref (A 0)), (1, .ref (A (20 + i)))]) (st' := [.ref (A (20 + i))]) rfl ?_
  refine At.gf rfl (by decide) w1 rfl ?_
  obtain ⟨Z, hZ⟩ : ∃ Z : Nat → Prop, Z = fun n => n = k + 10 ∨ n = k + 6 ∨ n = k + 17 ∨ n = k + 18 ∨ n = k + 8 ∨ n = k + 73 ∨ n = k + 200 ∨ n = k + 19 ∨ n = k + 201 ∨ n = k + (20 + i) ∨ n = k + 210 + i := ⟨_, rfl⟩
  have hz : ∀ n, Z n → n = k + 10 ∨ n = k + 6 ∨ n = k + 17 ∨ n = k + 18 ∨ n = k + 8 ∨ n = k + 73 ∨ n = k + 200 ∨ n = k + 19 ∨ n = k + 201 ∨ n = k + (20 + i) ∨ n = k + 210 + i := fun n z9 => by rw [hZ] at z9; exact z9
  have hzi : ∀ n, (n = k + 10 ∨ n = k + 6 ∨ n = k + 17 ∨ n = k + 18 ∨ n = k + 8 ∨ n = k + 73 ∨ n = k + 200 ∨ n = k + 19 ∨ n = k + 201 ∨ n = k + (20 + i) ∨ n = k + 210 + i) → Z n := fun n z9 => by rw [hZ]; exact z9
  have hzk : ∀ n, Z n → k ≤ n ∧ n < k + 1000 := fun n z => by have z9 := hz n z; omega
  have fz1 : FrX (fun a => Z (ow a)) hp h1' := f1.mono (fun x _ e => by
    have e9 : x = A 10 ∨ x = A 6 := e
    show Z (ow x)
    rcases e9 with e9 | e9
    · rw [e9, (how _ (by omega)).1]; exact hzi _ (by omega)
    · rw [e9, (how _ (by omega)).1]; exact hzi _ (by omega))
  have fz2 : FrX (fun a => Z (ow a)) h1' h2 := f2.mono (fun x _ e => by
    show Z (ow x)
    rcases e with e | e | e | e | e | e | e
    · rw [e, (how 17 (by decide)).1]; exact hzi _ (by omega)
    · rw [e, (how 18 (by decide)).1]; exact hzi _ (by omega)
    · rw [e, (how 8 (by decide)).1]; exact hzi _ (by omega)
    · rw [e, (how 73 (by decide)).1]; exact hzi _ (by omega)
    · rw [e, x10]; exact hzi _ (by omega)
    · rw [e, (how 19 (by decide)).1]; exact hzi _ (by omega)
    · rw [e, x11]; exact hzi _ (by omega))
  have FT2 : FrX (fun a => Z (ow a)) hp h2 := FrX.tr fz1 fz2 (fun x hx => Or.inl hx)
  have fz3 : FrX (fun a => Z (ow a)) h2 h3 := f3.mono (fun x _ e => by
    show Z (ow x)
    rcases e with e | e
    · rw [e, (how (20 + i) (by omega)).1]; exact hzi _ (by omega)
    · rw [e, a12]; exact hzi _ (by omega))
  have FT : FrX (fun a => Z (ow a)) hp h3 := FrX.tr FT2 fz3 (fun x hx => Or.inl hx)
  have hO2 := f2.2.1 kO
  have n3 : ∀ j, j < 77 → j ≠ 20 + i → ¬ (A j = A (20 + i) ∨ A j = za) := fun j hj hn e => by
    have u := (how j hj).1
    rcases e with e | e
    · rw [e, (how (20 + i) (by omega)).1] at u; omega
    · rw [e, a12] at u; omega
  have nza3 : ∀ {a kd : Nat} {es : List Value}, h2[a]? = some (.inl (kd, es)) → kd ≠ 21 → ¬ (a = A (20 + i) ∨ a = za) := fun ha hk e => e.elim (fun e => xn_ar ha hz2 e) (fun e => xn_kd ha hza2 hk e)
  have hH3 := f3.ob hH2 (by decide) (n3 0 (by decide) (by omega))
  obtain ⟨zb, bb, b1, b2, b3, b4, b5, b6, b7, b8, b9, b10, b11, b12, b13, b14⟩ := hS i hi
  have hfl3 : ab3.take (t.1.length * w9) = t.1.flatten := w3.trans y6.flat
  have hbl := y6.1
  have hab3 : t.1.length * w9 ≤ ab3.length := by
    have e1 := congrArg List.length w3
    rw [List.length_take, List.length_take] at e1
    omega
  have hza3 : (fun a => if a < hp.length then ow a else if a = pa' then k + 200 else if a = ln' then k + 201 else k + 210 + i) za3 = k + 210 + i := by
    have hlz : za3 < h3.length := (List.getElem?_eq_some_iff.mp w2).1
    dsimp only
    rcases w4 with e | e
    · have hlt9 : za < hp.length := by
        have u1 := f1.ob b1 (by decide) (fun e9 => by have u := (how (20 + i) (by omega)).1; rcases e9 with e9 | e9 <;> (rw [e9, (how _ (by omega)).1] at u; omega))
        rw [a1] at u1
        cases u1
        exact (List.getElem?_eq_some_iff.mp b6).1
      rw [e, if_pos hlt9]
      exact a12
    · have p1 := (List.getElem?_eq_some_iff.mp y2).1
      have p2 := (List.getElem?_eq_some_iff.mp y5).1
      rw [if_neg (by omega), if_neg (by omega), if_neg (by omega)]
  have hcs3 : c3 ≤ 1 ∧ s3 ≤ 900 ∧ ab3.length ≤ 1000 := by rcases w5 with ⟨e1, e2, e3⟩ | ⟨e1, e2, e3, e4, e5⟩ <;> omega
  obtain ⟨ow', how'⟩ : ∃ ow' : Nat → Nat, ow' = (fun a => if a < hp.length then ow a else if a = pa' then k + 200 else if a = ln' then k + 201 else k + 210 + i) := ⟨_, rfl⟩
  have ho1 : ∀ a, a < hp.length → ow' a = ow a := fun a ha => by rw [how']; exact if_pos ha
  have hpa' : ow' pa' = k + 200 := by
    by_cases hlt : pa' < hp.length
    · rw [ho1 _ hlt]
      rcases y13 with e | e
      · rw [e]; exact x10
      · omega
    · rw [how']; dsimp only; rw [if_neg hlt, if_pos rfl]
  have hnpl : ln' ≠ pa' := fun e => by rw [e, y2] at y5; cases y5
  have hln' : ow' ln' = k + 201 := by
    by_cases hlt : ln' < hp.length
    · rw [ho1 _ hlt]
      rcases y14 with e | e
      · rw [e]; exact x11
      · omega
    · rw [how']; dsimp only; rw [if_neg hlt, if_neg hnpl, if_pos rfl]
  have hm9 : max nl 900 = 900 := by omega
  have hQn : hQu h3 ow' k A ps'.length lb'.length := ⟨_, _, pa', ln', _, _, _, _, _, _, _, ps', lb', la', (f3.ob y1 (by decide) (n3 8 (by decide) (by omega))), (f3.2.2.1 _ _ y2 rfl (Or.inl (nza3 y2 (by decide)))), rfl, by omega, (f3.2.2.1 _ _ y3 rfl (Or.inl (nza3 y3 (by decide)))), y4, (f3.2.2.1 _ _ y5 rfl (Or.inl (nza3 y5 (by decide)))), rfl, by omega, hpa', hln'⟩
  have hScn : hSc h3 A := hSc.stk (vs := vs') hW (fun j hj hn c hc h7 => FT.2.2.1 _ _ hc h7 (Or.inl (nz (how (60 + j) (by omega)).1 (fun z => by have z9 := hz _ z; omega)))) (f3.2.2.1 _ _ y11 rfl (Or.inl (nza3 y11 (by decide)))) y12
  obtain ⟨lsk, hlsk1, hlsk2⟩ := g2
  have c10 := hcap 10 (by decide)
  have c17 := hcap 17 (by decide)
  have c18 := hcap 18 (by decide)
  have e17 : capL h1' (A 17) = capL hp (A 17) := h.capeq (Z := fun n => n = k + 10 ∨ n = k + 6) (f1.mono (fun x _ e => by have e9 : x = A 10 ∨ x = A 6 := e; show ow x = k + 10 ∨ ow x = k + 6; rcases e9 with e9 | e9 <;> rw [e9, (how _ (by omega)).1] <;> omega)) 17 (by decide) (by omega)
  have e18 : capL h1' (A 18) = capL hp (A 18) := h.capeq (Z := fun n => n = k + 10 ∨ n = k + 6) (f1.mono (fun x _ e => by have e9 : x = A 10 ∨ x = A 6 := e; show ow x = k + 10 ∨ ow x = k + 6; rcases e9 with e9 | e9 <;> rw [e9, (how _ (by omega)).1] <;> omega)) 18 (by decide) (by omega)
  have q10 : capL h3 (A 10) = capL h1' (A 10) := (f3.cap (n3 10 (by decide) (by omega)) hO2 (f2.ls (nn 10 (by decide) (by decide) (by decide) (by decide) (by decide) (by decide)) kO hlsk1)).trans (f2.cap (nn 10 (by decide) (by decide) (by decide) (by decide) (by decide) (by decide)) kO hlsk1)
  have q17 : capL h3 (A 17) = capL h2 (A 17) := f3.cap (n3 17 (by decide) (by omega)) hO2 y9
  have q18 : capL h3 (A 18) = capL h2 (A 18) := f3.cap (n3 18 (by decide) (by omega)) hO2 y10
  have hR : HR h3 ow' k A (mS M i (sAns (M.2.2.2.1 i) t.1.length w9 t.1.flatten)) 0 ps'.length lb'.length := h.upd (Z := Z) FT ho1 (fun z => by have z9 := hz _ z; omega) (fun z => by have z9 := hz _ z; omega) (Or.inr hH3) (Or.inl ⟨(fun z => by have z9 := hz _ z; omega), rfl⟩) (Or.inl ⟨(fun z => by have z9 := hz _ z; omega), rfl⟩) (Or.inl ⟨(fun z => by have z9 := hz _ z; omega), rfl⟩) (Or.inl ⟨(fun z => by have z9 := hz _ z; omega), rfl⟩) (Or.inr ⟨_, (f3.ob (f2.ob g1 (by decide) (nn 6 (by decide) (by decide) (by decide) (by decide) (by decide) (by decide))) (by decide) (n3 6 (by decide) (by omega)))⟩) (Or.inl ⟨(fun z => by have z9 := hz _ z; omega), (fun z => by have z9 := hz _ z; omega), (fun z => by have z9 := hz _ z; omega)⟩) (fun j hj => if e : j = 10 then Or.inr (by rw [e]; exact ⟨_, lsk, (f3.ls (n3 10 (by decide) (by omega)) hO2 (f2.ls (nn 10 (by decide) (by decide) (by decide) (by decide) (by decide) (by decide)) kO hlsk1)), ((hlsk2.fr f2).fr f3)⟩) else if e : j = 17 then Or.inr (by rw [e]; exact ⟨_, _, f3.ls (n3 17 (by decide) (by omega)) hO2 y9, yE17.fr f3⟩) else if e : j = 18 then Or.inr (by rw [e]; exact ⟨_, _, f3.ls (n3 18 (by decide) (by omega)) hO2 y10, yE18.fr f3⟩) else Or.inl (fun z => by simp only [List.mem_cons, List.not_mem_nil, or_false] at hj; have z9 := hz _ z; omega)) (Or.inr hQn) (Or.inr hScn) (fun j hj => if e : j = i then by subst e; exact Or.inr (by rw [mS_at, how']; exact ⟨za3, ab3, w1, FT.ob b2 (by decide) (nz (how _ (by omega)).1 (fun z => by have z9 := hz _ z; omega)), FT.2.2.1 _ _ b3 rfl (Or.inl (nz (how _ (by omega)).1 (fun z => by have z9 := hz _ z; omega))), b4, b5, w2, (by omega), hfl3, hab3, Nat.le_trans y7 hkp, hw99, hza3, b13.fr FT hO (nz (how _ (by omega)).1 (fun z => by have z9 := hz _ z; omega)), b14.fr FT hO (nz (how _ (by omega)).1 (fun z => by have z9 := hz _ z; omega))⟩) else Or.inl ⟨(fun z => by have z9 := hz _ z; omega), (fun z => by have z9 := hz _ z; omega), (fun z => by have z9 := hz _ z; omega), (fun z => by have z9 := hz _ z; omega), (fun z => by have z9 := hz _ z; omega), (fun z => by have z9 := hz _ z; omega), mS_ne e⟩) (Or.inl ⟨(fun z => by have z9 := hz _ z; omega), (fun z => by have z9 := hz _ z; omega), (fun z => by have z9 := hz _ z; omega), (fun z => by have z9 := hz _ z; omega), rfl⟩) (fun j hj => if e : j = 10 then Or.inr (by rw [e]; omega) else if e : j = 17 then Or.inr (by rw [e]; omega) else if e : j = 18 then Or.inr (by rw [e]; omega) else Or.inl (fun z => by have j9 := lsI_c j hj; have z9 := hz _ z; omega))
  have ec := h.caps FT [10, 17, 18] (by decide) (fun j z hj => by have j9 := lsI_c j hj; have z9 := hz _ z; simp only [List.mem_cons, List.not_mem_nil, or_false]; omega)
  simp only [sumL, List.map_cons, List.map_nil, List.sum_cons, List.sum_nil] at ec
  exact At.rt rfl (xret_i rfl) ⟨_, _, _, _, rfl, rfl, ow', ps'.length, lb'.length, ho1, hR, FT.mono (fun x _ hx => hzk _ hx), by omega, by omega⟩
