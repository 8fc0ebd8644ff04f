/-! the house: dropTable (written by wip/p27/c9999999992.py) -/
def dropQ (q : TQ) : TQ := (q.1, q.2.1, q.2.2.1, q.2.2.2.1, q.2.2.2.2.1, true)
def dropT (ts : List TQ) (t : Nat) : List TQ := ts.map (fun q => if q.1.1 = t then dropQ q else q)
def mStd (M : HM) (st : List Nat) : HM := (st, M.2)
def drF (ts : List TQ) (sr : Int32) (as : List Nat) : List Nat := as.filter (fun a => !decide (SRq ts a = sr))
def sDrp (s : SM) (sr : Int32) : SM := (s.1, s.2.1, s.2.2.1, dropE s.2.2.2.1 sr, s.2.2.2.2)
def mDrp (M : HM) (sr : Int32) (j : Nat) : HM := (M.1, M.2.1, M.2.2.1, (fun i => if j ≤ i ∧ i < 8 then sDrp (M.2.2.2.1 i) sr else M.2.2.2.1 i), M.2.2.2.2)
theorem mDrp_8 {M : HM} {sr : Int32} : mDrp M sr 8 = M := by
  unfold mDrp
  rw [show (fun i => if 8 ≤ i ∧ i < 8 then sDrp (M.2.2.2.1 i) sr else M.2.2.2.1 i) = M.2.2.2.1 from funext fun i => if_neg (by omega)]
theorem mDrp_s {M : HM} {sr : Int32} {j : Nat} (hj : j < 8) : mDrp (mS M j (sDrp (M.2.2.2.1 j) sr)) sr (j + 1) = mDrp M sr j := by
  unfold mDrp
  refine congrArg (fun z => (M.1, M.2.1, M.2.2.1, z, M.2.2.2.2)) (funext fun i => ?_)
  by_cases e : i = j
  · subst e; rw [if_neg (by omega), mS_at, if_pos (by omega)]
  · rw [mS_ne e]
    by_cases h1 : j ≤ i ∧ i < 8
    · rw [if_pos (by omega), if_pos h1]
    · rw [if_neg (by omega), if_neg h1]
theorem HSu.flag {hp : List XC} {ow : Nat → Nat} {k : Nat} {A : Nat → Nat} {M : HM} {rf : Int32} {np nl : Nat} {q : TQ} {hp' : List XC} {ca ka ra ga : Nat} {chk dv : Value} (h : HR hp ow k A M rf np nl) (hq : q ∈ M.2.2.2.2.2.2) (ho : hp[q.1.1]? = some (.inr (13, [.int q.2.1, .int q.2.2.1.1, .int q.2.2.1.2.1, .ref ca, .ref ka, .ref ra, chk, .ref ga, dv]))) (e : hp' = hp.set q.1.1 (.inr (13, [.int q.2.1, .int q.2.2.1.1, .int q.2.2.1.2.1, .ref ca, .ref ka, .ref ra, chk, .ref ga, .int 1]))) : HSu hp hp' ow k A (mTabs M (dropT M.2.2.2.2.2.2 q.1.1)) rf np nl 0 0 0 0 ∧ FrX (fun x => x = q.1.1) hp hp' := by
  obtain ⟨hO, how, h0, h1, h3, hD, hF, hE, hT, ⟨lv9, hG⟩, hC, hL9, hQ, hW, hS, hTq9, htd, hcap⟩ := id h
  have f : FrX (fun x => x = q.1.1) hp hp' := by rw [e]; exact FrX.st ho rfl rfl rfl rfl (fun fs h => by cases h; exact ⟨.int 1, rfl⟩) (fun ci fs h => by cases h; exact ⟨_, rfl⟩)
  have hot := (hTq9 q hq).2.2.2.1
  obtain ⟨Z, hZ⟩ : ∃ Z : Nat → Prop, Z = fun n => n = k + 300 := ⟨_, rfl⟩
  have hz : ∀ n, Z n → n = k + 300 := fun n z9 => by rw [hZ] at z9; exact z9
  have hzi : ∀ n, (n = k + 300) → Z n := fun n z9 => by rw [hZ]; exact z9
  have hzk : ∀ n, Z n → k ≤ n ∧ n < k + 1000 := fun n z => by have z9 := hz n z; omega
  have f' : FrX (fun a => Z (ow a)) hp hp' := f.mono (fun x _ e => by have e9 : x = q.1.1 := e; show Z (ow x); rw [e9, hot]; exact hzi _ rfl)
  have hTn : ∀ p ∈ (mTabs M (dropT M.2.2.2.2.2.2 q.1.1)).2.2.2.2.2.2, hTq hp' ow k p := fun p hp9 => by
    obtain ⟨p0, hp0, rfl⟩ := List.mem_map.mp (show p ∈ dropT M.2.2.2.2.2.2 q.1.1 from hp9)
    obtain ⟨w1, w2, w3, w4, w5, wf9, w6, w7, w8, w9, w10⟩ := hTq9 p0 hp0
    have hx : ∀ a, (ow a = k + 301 ∨ ow a = k + 302 ∨ ow a = k + 303) → ¬ a = q.1.1 := fun a ha e => by rw [e, hot] at ha; omega
    have w10' : (p0.2.2.2.1 = false ∧ wf9[6]? = some .null) ∨ (p0.2.2.2.1 = true ∧ ∃ (cf oa aa pa wa : Nat) (ws : Value) (es : List Value) (gs vs : List Int32), wf9[6]? = some (.ref cf) ∧ hFo hp' cf oa aa pa p0.1.2.2 wa ws es gs osCK ∧ hp'[p0.1.2.2]? = some (.inl (16, vs.map Value.int)) ∧ vs.length = 3 ∧ ow cf = k + 302 ∧ ow oa = k + 302 ∧ ow aa = k + 302 ∧ ow p0.1.2.2 = k + 303) := by
      rcases w10 with w10 | ⟨c1', cf, oa, aa, pa, wa, ws, es, gs, vs, c2', c3', c4', c5', c6', c7', c8', c9'⟩
      · exact Or.inl w10
      · exact Or.inr ⟨c1', cf, oa, aa, pa, wa, ws, es, gs, vs, c2', c3'.fr f (hx _ (Or.inr (Or.inl c6'))) (hx _ (Or.inr (Or.inl c7'))) (hx _ (Or.inr (Or.inl c8'))), f.2.2.1 _ _ c4' rfl (Or.inl (hx _ (Or.inr (Or.inr c9')))), c5', c6', c7', c8', c9'⟩
    by_cases hpq : p0.1.1 = q.1.1
    · have : p0 = q := htd p0 hp0 q hq (Or.inl hpq)
      subst this
      rw [if_pos rfl]
      rw [ho] at w6
      cases w6
      exact ⟨w1.fr f, f.2.2.1 _ _ w2 rfl (Or.inl (hx _ (Or.inl w5))), w3, w4, w5, [.int p0.2.1, .int p0.2.2.1.1, .int p0.2.2.1.2.1, .ref ca, .ref ka, .ref ra, chk, .ref ga, .int 1], by rw [e]; exact xs_eq ho, w7, rfl, w9, w10'⟩
    · rw [if_neg hpq]
      exact ⟨w1.fr f, f.2.2.1 _ _ w2 rfl (Or.inl (hx _ (Or.inl w5))), w3, w4, w5, wf9, f.ob w6 (by decide) hpq, w7, w8, w9, w10'⟩
  have hTd : ∀ p ∈ (mTabs M (dropT M.2.2.2.2.2.2 q.1.1)).2.2.2.2.2.2, ∀ r ∈ (mTabs M (dropT M.2.2.2.2.2.2 q.1.1)).2.2.2.2.2.2, p.1.1 = r.1.1 ∨ p.1.2.1 = r.1.2.1 → p = r := fun p hp9 r hr9 he => by
    obtain ⟨p0, hp0, rfl⟩ := List.mem_map.mp (show p ∈ dropT M.2.2.2.2.2.2 q.1.1 from hp9)
    obtain ⟨r0, hr0, rfl⟩ := List.mem_map.mp (show r ∈ dropT M.2.2.2.2.2.2 q.1.1 from hr9)
    have k1 : ∀ x : TQ, (if x.1.1 = q.1.1 then dropQ x else x).1 = x.1 := fun x => by split <;> rfl
    rw [k1, k1] at he
    rw [htd p0 hp0 r0 hr0 he]
  exact ⟨HSu.of h f' hzk (h.upd (Z := Z) f' (fun _ _ => rfl) (fun z => by have z9 := hz _ z; omega) (fun z => by have z9 := hz _ z; omega) (Or.inl ⟨(fun z => by have z9 := hz _ z; omega), rfl, rfl⟩) (Or.inl ⟨(fun z => by have z9 := hz _ z; omega), rfl⟩) (Or.inl ⟨(fun z => by have z9 := hz _ z; omega), rfl⟩) (Or.inl ⟨(fun z => by have z9 := hz _ z; omega), rfl⟩) (Or.inl ⟨(fun z => by have z9 := hz _ z; omega), rfl⟩) (Or.inl (fun z => by have z9 := hz _ z; omega)) (Or.inl ⟨(fun z => by have z9 := hz _ z; omega), (fun z => by have z9 := hz _ z; omega), (fun z => by have z9 := hz _ z; omega)⟩) (fun j hj => Or.inl (fun z => by simp only [List.mem_cons, List.not_mem_nil, or_false] at hj; have z9 := hz _ z; omega)) (Or.inl ⟨(fun z => by have z9 := hz _ z; omega), (fun z => by have z9 := hz _ z; omega), (fun z => by have z9 := hz _ z; omega), (fun z => by have z9 := hz _ z; omega), rfl, rfl⟩) (Or.inl (fun j j1 j2 z => by have z9 := hz _ z; omega)) (fun j hj => Or.inl ⟨(fun z => by have z9 := hz _ z; omega), (fun z => by have z9 := hz _ z; omega), (fun z => by have z9 := hz _ z; omega), (fun z => by have z9 := hz _ z; omega), (fun z => by have z9 := hz _ z; omega), (fun z => by have z9 := hz _ z; omega), rfl⟩) (Or.inr ⟨hTn, hTd⟩) (fun j hj => Or.inl (fun z => by have j9 := lsI_c j hj; have z9 := hz _ z; omega))) [] (by decide) (fun j z hj => by have j9 := lsI_c j hj; have z9 := hz _ z; omega) (by simp only [sumL, List.map_nil, List.sum_nil]; omega) (by simp only [sumL, List.map_nil, List.sum_nil]; omega), f⟩
theorem HSu.std {hp : List XC} {ow : Nat → Nat} {k : Nat} {A : Nat → Nat} {M : HM} {rf : Int32} {np nl : Nat} {hp' : List XC} {st : List Nat} (h : HR hp ow k A M rf np nl) (f : FrX (fun x => x = A 2) hp hp') (hL : hLs hp' (A 2) st) (hcp : capL hp' (A 2) = capL hp (A 2)) : HSu hp hp' ow k A (mStd M st) rf np nl 0 0 0 0 := by
  obtain ⟨hO, how, h0, h1, h3, hD, hF, hE, hT, ⟨lv9, hG⟩, hC, hL9, hQ, hW, hS, hTq9, htd, hcap⟩ := id h
  obtain ⟨Z, hZ⟩ : ∃ Z : Nat → Prop, Z = fun n => n = k + 2 := ⟨_, rfl⟩
  have hz : ∀ n, Z n → n = k + 2 := fun n z9 => by rw [hZ] at z9; exact z9
  have hzi : ∀ n, (n = k + 2) → Z n := fun n z9 => by rw [hZ]; exact z9
  have hzk : ∀ n, Z n → k ≤ n ∧ n < k + 1000 := fun n z => by have z9 := hz n z; omega
  have f' : FrX (fun a => Z (ow a)) hp hp' := f.mono (fun x _ e => by
    have e9 : x = A 2 := e
    show Z (ow x)
    rw [e9, (how _ (by omega)).1]; exact hzi _ (by omega))
  have c2 := hcap 2 (by decide)
  exact HSu.of h f' hzk (h.upd (Z := Z) f' (fun _ _ => rfl) (fun z => by have z9 := hz _ z; omega) (fun z => by have z9 := hz _ z; omega) (Or.inl ⟨(fun z => by have z9 := hz _ z; omega), rfl, rfl⟩) (Or.inr hL) (Or.inl ⟨(fun z => by have z9 := hz _ z; omega), rfl⟩) (Or.inl ⟨(fun z => by have z9 := hz _ z; omega), rfl⟩) (Or.inl ⟨(fun z => by have z9 := hz _ z; omega), rfl⟩) (Or.inl (fun z => by have z9 := hz _ z; omega)) (Or.inl ⟨(fun z => by have z9 := hz _ z; omega), (fun z => by have z9 := hz _ z; omega), (fun z => by have z9 := hz _ z; omega)⟩) (fun j hj => Or.inl (fun z => by simp only [List.mem_cons, List.not_mem_nil, or_false] at hj; have z9 := hz _ z; omega)) (Or.inl ⟨(fun z => by have z9 := hz _ z; omega), (fun z => by have z9 := hz _ z; omega), (fun z => by have z9 := hz _ z; omega), (fun z => by have z9 := hz _ z; omega), rfl, rfl⟩) (Or.inl (fun j j1 j2 z => by have z9 := hz _ z; omega)) (fun j hj => Or.inl ⟨(fun z => by have z9 := hz _ z; omega), (fun z => by have z9 := hz _ z; omega), (fun z => by have z9 := hz _ z; omega), (fun z => by have z9 := hz _ z; omega), (fun z => by have z9 := hz _ z; omega), (fun z => by have z9 := hz _ z; omega), rfl⟩) (Or.inl ⟨(fun z => by have z9 := hz _ z; omega), (fun z => by have z9 := hz _ z; omega), (fun z => by have z9 := hz _ z; omega), (fun z => by have z9 := hz _ z; omega), rfl⟩) (fun j hj => if e : j = 2 then Or.inr (by rw [e]; omega) else Or.inl (fun z => by have j9 := lsI_c j hj; have z9 := hz _ z; omega))) [2] (by decide) (fun j z hj => by have j9 := lsI_c j hj; have z9 := hz _ z; simp only [List.mem_cons, List.not_mem_nil, or_false]; omega) (by simp only [sumL, List.map_cons, List.map_nil, List.sum_cons, List.sum_nil]; omega) (by simp only [sumL, List.map_cons, List.map_nil, List.sum_cons, List.sum_nil]; omega)
theorem dr_loop1 {S : List Int32} {ow : Nat → Nat} {k : Nat} {A : Nat → Nat} {M : HM} {rf : Int32} {np nl : Nat} {i : Nat} {q : TQ} {nc ns : Nat} {Q : XO → Prop} (hq : q ∈ M.2.2.2.2.2.2) : ∀ (n : Nat) (hp : List XC) (st : List Nat), n ≤ st.length → st.length ≤ 60000 → HR hp ow k A (mStd M st) rf np nl → StT M.2.2.2.2.2.2 st → (∀ hp', HSu hp hp' ow k A (mStd M (drF M.2.2.2.2.2.2 q.2.1 (st.take n) ++ st.drop n)) rf np nl 0 0 0 0 → At S 11 170 93 [(0, .ref (A 0)), (1, .ref (A (20 + i))), (2, .ref q.1.1)] [] hp' nc ns Q) → At S 11 170 53 [(3, .int ((Int32.ofNat n) - 1)), (0, .ref (A 0)), (1, .ref (A (20 + i))), (2, .ref q.1.1)] [] hp nc ns Q := by
  intro n
  induction n with
  | zero =>
    intro hp st hn hst h hSt hk
    refine At.go (q := xm170) rfl 1 (pc' := 54) (L' := [(3, .int ((Int32.ofNat 0) - 1)), (0, .ref (A 0)), (1, .ref (A (20 + i))), (2, .ref q.1.1)]) (st' := [.int ((Int32.ofNat 0) - 1)]) rfl ?_
    refine At.ic1 (tgt := 93) rfl rfl (fun _ => ?_) (fun h => absurd (h.symm.trans (show decide (Int32.ofNat 0 - 1 < 0) = true by decide)) (by decide))
    refine At.wk (L' := [(0, .ref (A 0)), (1, .ref (A (20 + i))), (2, .ref q.1.1)]) (List.forall_mem_cons.mpr ⟨List.mem_of_getElem? (i := 1) rfl, (List.forall_mem_cons.mpr ⟨List.mem_of_getElem? (i := 2) rfl, (List.forall_mem_cons.mpr ⟨List.mem_of_getElem? (i := 3) rfl, (fun _ h => (List.not_mem_nil h).elim)⟩)⟩)⟩) (show ([3, 0, 1, 2] : List Nat).Nodup by decide) ?_
    exact hk hp ⟨h, FrX.rf, by omega, by omega⟩
  | succ n ih =>
    intro hp st hn hst h hSt hk
    have hSd := fun (a : Nat) (ha : a ∈ st) => HR.std h hSt ha
    have hj : st[n]? = some (st[n]'(by omega)) := List.getElem?_eq_getElem _
    obtain ⟨a, ha⟩ : ∃ a, a = st[n]'(by omega) := ⟨_, rfl⟩
    rw [← ha] at hj
    obtain ⟨tf, ht⟩ := hSd _ (List.mem_of_getElem? hj)
    obtain ⟨hO, how, h0, h1, h3, hD, hF, hE, hT, ⟨lv9, hG⟩, hC, hL9, hQ, hW, hS, hTq9, htd, hcap⟩ := id h
    have hD' : hLs hp (A 2) st := hD
    obtain ⟨dfs, hDo⟩ := hD'.ob
    obtain ⟨b1, b2, b3, b4, b5, fs9, b6, b7, b8, b9, b10⟩ := hTq9 q hq
    have hfs : ∃ tf, fs9 = .int q.2.1 :: tf := by
      obtain ⟨ca, ka, ra, ga, chk, dv, u1, -⟩ := b1
      cases u1.symm.trans b6
      exact ⟨_, rfl⟩
    obtain ⟨tf9, rfl⟩ := hfs
    have htk : st.take (n + 1) = st.take n ++ [a] := by rw [List.take_add_one, hj]; rfl
    have hdr : st.drop n = a :: st.drop (n + 1) := by rw [ha]; exact List.drop_eq_getElem_cons (by omega)
    have hnn : (Int32.ofNat (n + 1)) - 1 = Int32.ofNat n := iN_m2
    rw [hnn]
    refine At.go (q := xm170) rfl 1 (pc' := 54) (L' := [(3, .int (Int32.ofNat n)), (0, .ref (A 0)), (1, .ref (A (20 + i))), (2, .ref q.1.1)]) (st' := [.int (Int32.ofNat n)]) rfl ?_
    refine At.ic1 (tgt := 93) rfl rfl (fun h => absurd (h.symm.trans (decide_eq_false (fun q9 => absurd ((iN_lt (a := n) (b := 0) (by omega) (by omega)).mp q9) (by omega)))) (by decide)) (fun _ => ?_)
    refine At.go (q := xm170) rfl 1 (pc' := 58) (L' := [(3, .int (Int32.ofNat n)), (0, .ref (A 0)), (1, .ref (A (20 + i))), (2, .ref q.1.1)]) (st' := [.ref (A 0)]) rfl ?_
    refine At.gf rfl (by decide) h0 rfl ?_
    refine At.go (q := xm170) rfl 1 (pc' := 62) (L' := [(3, .int (Int32.ofNat n)), (0, .ref (A 0)), (1, .ref (A (20 + i))), (2, .ref q.1.1)]) (st' := [.int (Int32.ofNat n), .ref (A 2)]) rfl ?_
    refine At.clp (as := [.ref (A 2), .int (Int32.ofNat n)]) (rest := []) rfl (by decide) rfl (Nat.le_of_ble_eq_true rfl) (Nat.le_of_ble_eq_true rfl) (xrck_o (by decide) (by decide) hDo (by decide)) (Nat.le_of_ble_eq_true rfl) (m_get hD' hj) ?_
    refine At.ca rfl ht (by decide) ?_
    refine At.gf rfl (by decide) ht rfl ?_
    refine At.go (q := xm170) rfl 1 (pc' := 72) (L' := [(3, .int (Int32.ofNat n)), (0, .ref (A 0)), (1, .ref (A (20 + i))), (2, .ref q.1.1)]) (st' := [.ref q.1.1, .int (SRq M.2.2.2.2.2.2 a)]) rfl ?_
    refine At.gf rfl (by decide) b6 rfl ?_
    refine At.ic2 (tgt := 87) rfl rfl (fun h75 => ?_) (fun h75 => ?_)
    · have hne : ¬ SRq M.2.2.2.2.2.2 a = q.2.1 := of_decide_eq_true h75
      have eF : drF M.2.2.2.2.2.2 q.2.1 (st.take (n + 1)) ++ st.drop (n + 1) = drF M.2.2.2.2.2.2 q.2.1 (st.take n) ++ st.drop n := by
        unfold drF
        rw [htk, List.filter_append, hdr, List.append_assoc]
        refine congrArg _ ?_
        rw [List.filter_cons_of_pos (by rw [decide_eq_false hne]; rfl)]
        rfl
      refine At.go (q := xm170) rfl 2 (pc' := 53) (L' := [(3, .int ((Int32.ofNat n) + (-1))), (0, .ref (A 0)), (1, .ref (A (20 + i))), (2, .ref q.1.1)]) (st' := []) rfl ?_
      rw [show (Int32.ofNat n) + (-1) = (Int32.ofNat n) - 1 from i32_neg1 _]
      refine At.wk (L' := [(3, .int ((Int32.ofNat n) - 1)), (0, .ref (A 0)), (1, .ref (A (20 + i))), (2, .ref q.1.1)]) (List.forall_mem_cons.mpr ⟨List.mem_of_getElem? (i := 0) rfl, (List.forall_mem_cons.mpr ⟨List.mem_of_getElem? (i := 1) rfl, (List.forall_mem_cons.mpr ⟨List.mem_of_getElem? (i := 2) rfl, (List.forall_mem_cons.mpr ⟨List.mem_of_getElem? (i := 3) rfl, (fun _ h => (List.not_mem_nil h).elim)⟩)⟩)⟩)⟩) (show ([3, 0, 1, 2] : List Nat).Nodup by decide) ?_
      exact ih hp st (by omega) hst h hSt (fun hp' hs => hk hp' (by rw [eF]; exact hs))
    · have heq : SRq M.2.2.2.2.2.2 a = q.2.1 := Decidable.not_not.mp (of_decide_eq_false h75)
      have eF : drF M.2.2.2.2.2.2 q.2.1 (st.take (n + 1)) ++ st.drop (n + 1) = drF M.2.2.2.2.2.2 q.2.1 ((st.eraseIdx n).take n) ++ (st.eraseIdx n).drop n := by
        have ltk : (st.take n).length = n := by rw [List.length_take]; omega
        have e1 : (st.eraseIdx n).take n = st.take n := by rw [List.eraseIdx_eq_take_drop_succ]; exact List.take_left' ltk
        have e2 : (st.eraseIdx n).drop n = st.drop (n + 1) := by rw [List.eraseIdx_eq_take_drop_succ]; exact List.drop_left' ltk
        rw [e1, e2]
        unfold drF
        rw [htk, List.filter_append, List.filter_cons_of_neg (by rw [decide_eq_true heq]; decide), List.filter_nil, List.append_nil]
      refine At.go (q := xm170) rfl 1 (pc' := 79) (L' := [(3, .int (Int32.ofNat n)), (0, .ref (A 0)), (1, .ref (A (20 + i))), (2, .ref q.1.1)]) (st' := [.ref (A 0)]) rfl ?_
      refine At.gf rfl (by decide) h0 rfl ?_
      refine At.go (q := xm170) rfl 1 (pc' := 83) (L' := [(3, .int (Int32.ofNat n)), (0, .ref (A 0)), (1, .ref (A (20 + i))), (2, .ref q.1.1)]) (st' := [.int (Int32.ofNat n), .ref (A 2)]) rfl ?_
      refine At.clm (as := [.ref (A 2), .int (Int32.ofNat n)]) (rest := []) rfl (by decide) rfl (Nat.le_of_ble_eq_true rfl) (Nat.le_of_ble_eq_true rfl) (xrck_o (by decide) (by decide) hDo (by decide)) (Nat.le_of_ble_eq_true rfl) (m_remove hD' hj) (fun v9 g1 c1 s1 hv9 => ?_)
      obtain ⟨rfl, f1, l1, rfl, rfl, l4⟩ := hv9
      have t1 : HSu hp g1 ow k A (mStd (mStd M st) (st.eraseIdx n)) rf np nl 0 0 0 0 := HSu.std h f1 l1 l4
      have r1 : HR g1 ow k A (mStd M (st.eraseIdx n)) rf np nl := t1.1
      refine At.go (q := xm170) rfl 3 (pc' := 53) (L' := [(3, .int ((Int32.ofNat n) + (-1))), (0, .ref (A 0)), (1, .ref (A (20 + i))), (2, .ref q.1.1)]) (st' := []) rfl ?_
      rw [show (Int32.ofNat n) + (-1) = (Int32.ofNat n) - 1 from i32_neg1 _]
      refine At.wk (L' := [(3, .int ((Int32.ofNat n) - 1)), (0, .ref (A 0)), (1, .ref (A (20 + i))), (2, .ref q.1.1)]) (List.forall_mem_cons.mpr ⟨List.mem_of_getElem? (i := 0) rfl, (List.forall_mem_cons.mpr ⟨List.mem_of_getElem? (i := 1) rfl, (List.forall_mem_cons.mpr ⟨List.mem_of_getElem? (i := 2) rfl, (List.forall_mem_cons.mpr ⟨List.mem_of_getElem? (i := 3) rfl, (fun _ h => (List.not_mem_nil h).elim)⟩)⟩)⟩)⟩) (show ([3, 0, 1, 2] : List Nat).Nodup by decide) ?_
      exact ih g1 (st.eraseIdx n) (by rw [List.length_eraseIdx]; split <;> omega) (by rw [List.length_eraseIdx]; split <;> omega) r1 (fun x hx => hSt x (List.mem_of_mem_eraseIdx hx)) (fun hp' hs => hk hp' (by have t3 := HSu.tr t1 hs; rw [eF]; exact t3))
