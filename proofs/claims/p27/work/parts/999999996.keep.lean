/-! the house: changes are kept (written by wip/p27/c999999996.py) -/
def mTabs (M : HM) (ts : List TQ) : HM := (M.1, M.2.1, M.2.2.1, M.2.2.2.1, M.2.2.2.2.1, M.2.2.2.2.2.1, ts)
def giveQ (q : TQ) (n : Nat) : TQ := (q.1, q.2.1, q.2.2.1, q.2.2.2.1, q.2.2.2.2.1.set n ((q.2.2.2.2.1[n]?).getD 0 + 1), q.2.2.2.2.2)
def giveT (ts : List TQ) (t n : Nat) : List TQ := ts.map (fun q => if q.1.1 = t then giveQ q n else q)
def sKeep (s : SM) (D ts : List En) : SM := (s.1, s.2.1, s.2.2.1, D, addCE s.2.2.2.2.1 ts, s.2.2.2.2.2)
/-- what a kept change makes of a house -/
def keepM (M : HM) (i : Nat) (D ts : List En) : HM := if (M.2.2.2.1 i).2.2.1 = true then mS M i (sKeep (M.2.2.2.1 i) D ts) else mEnded (mShelf M D) (M.2.2.1 ++ ts)
theorem h_keepT0 {S : List Int32} {hp : List XC} {ow : Nat → Nat} {k : Nat} {A : Nat → Nat} {M : HM} {rf : Int32} {np nl : Nat} (h : HR hp ow k A M rf np nl) {i : Nat} {al : Int32} {D ts ms : List En} (hi : i < 8) (hb : (M.2.2.2.1 i).2.2.1 = true) (hC9 : ChS hp A (M.2.2.2.1 i).1 al 0 D ts ms) (hlD : D.length ≤ 3000) (hlt : (M.2.2.2.1 i).2.2.2.2.1.length + ts.length ≤ 3000) (hle : M.2.2.1.length + ts.length ≤ 3400)  : Me S 9 186 [.ref (A 0), .ref (A (20 + i))] hp (fun v hp' c s => v = none ∧ HSu hp hp' ow k A (mS M i (sKeep (M.2.2.2.1 i) D ts)) rf np nl c s 0 0 ∧ hp'[A 7]? = some (.inr (3, [.ref (A 11), .ref (A 12), .ref (A 13), .ref (A 14), .int (M.2.2.2.1 i).1, .int al, .int 0]))) := by
  have hvw := h_view (S := S) h hi
  rw [show vwO M i = 36 + i from if_pos hb] at hvw
  obtain ⟨hO, how, h0, h1, h3, hD, hF, hE, hT, ⟨lv9, hG⟩, hC, hL9, hQ, hW, hS, hTq9, htd, hcap⟩ := id h
  obtain ⟨za, ab, a1, a2, a3, a4, a5, a6, a7, a8, a9, a10, a11, a12, a13, a14⟩ := hS i hi
  have ne : ∀ a b, a < 77 → b < 77 → a ≠ b → A a ≠ A b := fun a b ha hb hab e => by have u := (how a ha).1; rw [e, (how b hb).1] at u; omega
  have hb1 := a1
  rw [hb] at hb1
  obtain ⟨hc7, ⟨das, hd1, hd2⟩, ⟨tas, ht1, ht2⟩, ⟨mas, hm1, hm2⟩⟩ := hC9
  obtain ⟨es1, hE1, hE2⟩ := hE
  obtain ⟨fs1, hF1, hF2⟩ := hF
  obtain ⟨sa1, l1, l2⟩ := a13
  obtain ⟨ca1, l3, l4⟩ := a14
  obtain ⟨⟨clb, cal, cgi, hC1⟩, hC2, clv, hC3⟩ := hC
  have hel := hE2.1
  have hcl := l4.1
  have hdl := hd2.1
  have htl := ht2.1
  obtain ⟨Z, hZ⟩ : ∃ Z : Nat → Prop, Z = fun n => n = k + (44 + i) ∨ n = k + (52 + i) := ⟨_, rfl⟩
  have hz : ∀ n, Z n → n = k + (44 + i) ∨ n = k + (52 + i) := fun n z9 => by rw [hZ] at z9; exact z9
  have hzi : ∀ n, (n = k + (44 + i) ∨ n = k + (52 + i)) → Z n := fun n z9 => by rw [hZ]; exact z9
  have hzk : ∀ n, Z n → k ≤ n ∧ n < k + 1000 := fun n z => by have z9 := hz n z; omega
  refine At.go (q := xm186) rfl 2 (pc' := 2) (L' := [(0, .ref (A 0)), (1, .ref (A (20 + i)))]) (st' := [.ref (A (20 + i)), .ref (A 0)]) rfl ?_
  refine At.clp (as := [.ref (A 0), .ref (A (20 + i))]) (rest := []) rfl (by decide) rfl (Nat.le_of_ble_eq_true rfl) (Nat.le_of_ble_eq_true rfl) (xrck_o (by decide) (by decide) h0 (by decide)) (Nat.le_of_ble_eq_true rfl) (hvw) ?_
  refine At.go (q := xm186) rfl 1 (pc' := 6) (L' := [(0, .ref (A 0)), (1, .ref (A (20 + i)))]) (st' := [.ref (A 0), .ref (A (36 + i))]) rfl ?_
  refine At.gf rfl (by decide) h0 rfl ?_
  refine At.gf rfl (by decide) hc7 rfl ?_
  refine At.clm (as := [.ref (A (36 + i)), .ref (A 11)]) (rest := []) rfl (by decide) rfl (Nat.le_of_ble_eq_true rfl) (Nat.le_of_ble_eq_true rfl) (xrck_o (by decide) (by decide) a2 (by decide)) (Nat.le_of_ble_eq_true rfl) (m_fill a2 hC2 (ne (44 + i) 15 (by omega) (by decide) (by omega)) hO l1 hd1 hd2 (by omega)) (fun v9 g1 c1 s1 hv9 => ?_)
  obtain ⟨rfl, f1, ⟨vas, r1, r2⟩, r3, r4, r5⟩ := hv9
  have tH_1 := f1.ob h0 (by decide) (fun e => by have u := (how (0) (by omega)).1; have e9 : A 0 = A (44 + i) := e; rw [e9, (how _ (by omega)).1] at u; omega)
  have tz_1 := f1.ob hb1 (by decide) (fun e => by have u := (how ((20 + i)) (by omega)).1; have e9 : A (20 + i) = A (44 + i) := e; rw [e9, (how _ (by omega)).1] at u; omega)
  have tc7_1 := f1.ob hc7 (by decide) (fun e => by have u := (how (7) (by omega)).1; have e9 : A 7 = A (44 + i) := e; rw [e9, (how _ (by omega)).1] at u; omega)
  have ttL_1 := f1.ls (fun e => by have u := (how (12) (by omega)).1; have e9 : A 12 = A (44 + i) := e; rw [e9, (how _ (by omega)).1] at u; omega) hO ht1
  have ttE_1 := ht2.fr f1
  have tcL_1 := f1.ls (fun e => by have u := (how ((52 + i)) (by omega)).1; have e9 : A (52 + i) = A (44 + i) := e; rw [e9, (how _ (by omega)).1] at u; omega) hO l3
  have tcE_1 := l4.fr f1
  have cB_1 := (f1.cap (fun e => by have u := (how ((52 + i)) (by omega)).1; have e9 : A (52 + i) = A (44 + i) := e; rw [e9, (how _ (by omega)).1] at u; omega) hO l3).trans rfl
  have tO1 := f1.2.1 hO
  have fZ1 : FrX (fun a => Z (ow a)) hp g1 := f1.mono (fun x _ e => by
    have e9 : x = A (44 + i) := e
    show Z (ow x)
    rw [e9, (how _ (by omega)).1]; exact hzi _ (by omega))
  refine At.go (q := xm186) rfl 1 (pc' := 16) (L' := [(0, .ref (A 0)), (1, .ref (A (20 + i)))]) (st' := [.ref (A (20 + i))]) rfl ?_
  refine At.gf rfl (by decide) tz_1 rfl ?_
  refine At.go (q := xm186) rfl 3 (pc' := 24) (L' := [(0, .ref (A 0)), (1, .ref (A (20 + i)))]) (st' := [.ref (A 0), .ref (A (20 + i))]) rfl ?_
  refine At.gf rfl (by decide) tH_1 rfl ?_
  refine At.gf rfl (by decide) tc7_1 rfl ?_
  refine At.clm (as := [.ref (A (20 + i)), .ref (A 12)]) (rest := []) rfl (by decide) rfl (Nat.le_of_ble_eq_true rfl) (Nat.le_of_ble_eq_true rfl) (xrck_o (by decide) (by decide) tz_1 (by decide)) (Nat.le_of_ble_eq_true rfl) (m_addChanged (ne (52 + i) 12 (by omega) (by decide) (by omega)) tz_1 tO1 tcL_1 ttL_1 tcE_1 ttE_1 (by omega)) (fun v9 g2 c2 s2 hv9 => ?_)
  obtain ⟨rfl, f2, ⟨cas2, r6, r7⟩, r8, r9, r10⟩ := hv9
  have tH_2 := f2.ob tH_1 (by decide) (fun e => by have u := (how (0) (by omega)).1; have e9 : A 0 = A (52 + i) := e; rw [e9, (how _ (by omega)).1] at u; omega)
  have tz_2 := f2.ob tz_1 (by decide) (fun e => by have u := (how ((20 + i)) (by omega)).1; have e9 : A (20 + i) = A (52 + i) := e; rw [e9, (how _ (by omega)).1] at u; omega)
  have tc7_2 := f2.ob tc7_1 (by decide) (fun e => by have u := (how (7) (by omega)).1; have e9 : A 7 = A (52 + i) := e; rw [e9, (how _ (by omega)).1] at u; omega)
  have ttL_2 := f2.ls (fun e => by have u := (how (12) (by omega)).1; have e9 : A 12 = A (52 + i) := e; rw [e9, (how _ (by omega)).1] at u; omega) tO1 ttL_1
  have ttE_2 := ttE_1.fr f2
  have tvL_2 := f2.ls (fun e => by have u := (how ((44 + i)) (by omega)).1; have e9 : A (44 + i) = A (52 + i) := e; rw [e9, (how _ (by omega)).1] at u; omega) tO1 r1
  have tvE_2 := r2.fr f2
  have cA_2 := (f2.cap (fun e => by have u := (how ((44 + i)) (by omega)).1; have e9 : A (44 + i) = A (52 + i) := e; rw [e9, (how _ (by omega)).1] at u; omega) tO1 r1).trans rfl
  have tO2 := f2.2.1 tO1
  have fZ2 : FrX (fun a => Z (ow a)) g1 g2 := f2.mono (fun x _ e => by
    have e9 : x = A (52 + i) := e
    show Z (ow x)
    rw [e9, (how _ (by omega)).1]; exact hzi _ (by omega))
  have FT2 := FrX.tr fZ1 fZ2 (fun x hx => Or.inl hx)
  refine At.go (q := xm186) rfl 2 (pc' := 51) (L' := [(0, .ref (A 0)), (1, .ref (A (20 + i)))]) (st' := [.ref (A 0)]) rfl ?_
  refine At.gf rfl (by decide) tH_2 rfl ?_
  refine At.gf rfl (by decide) tc7_2 rfl ?_
  refine At.go (q := xm186) rfl 1 (pc' := 84) (L' := [(0, .ref (A 0)), (1, .ref (A (20 + i)))]) (st' := []) rfl ?_
  have hc44i := hcap (44 + i) ((by decide : ∀ i, i < 8 → 44 + i ∈ lsI) i hi)
  have hc52i := hcap (52 + i) ((by decide : ∀ i, i < 8 → 52 + i ∈ lsI) i hi)
  have xA := cA_2
  have xB := cB_1
  exact At.rt rfl rfl ⟨_, _, _, _, rfl, rfl, HSu.of h FT2 hzk (h.upd (Z := Z) FT2 (fun _ _ => rfl) (fun z => by have z9 := hz _ z; omega) (fun z => by have z9 := hz _ z; omega) (Or.inl ⟨(fun z => by have z9 := hz _ z; omega), rfl, rfl⟩) (Or.inl ⟨(fun z => by have z9 := hz _ z; omega), rfl⟩) (Or.inl ⟨(fun z => by have z9 := hz _ z; omega), rfl⟩) (Or.inl ⟨(fun z => by have z9 := hz _ z; omega), rfl⟩) (Or.inl ⟨(fun z => by have z9 := hz _ z; omega), rfl⟩) (Or.inl (fun z => by have z9 := hz _ z; omega)) (Or.inl ⟨(fun z => by have z9 := hz _ z; omega), (fun z => by have z9 := hz _ z; omega), (fun z => by have z9 := hz _ z; omega)⟩) (fun j hj => Or.inl (fun z => by simp only [List.mem_cons, List.not_mem_nil, or_false] at hj; have z9 := hz _ z; omega)) (Or.inl ⟨(fun z => by have z9 := hz _ z; omega), (fun z => by have z9 := hz _ z; omega), (fun z => by have z9 := hz _ z; omega), (fun z => by have z9 := hz _ z; omega), rfl, rfl⟩) (Or.inl (fun j j1 j2 z => by have z9 := hz _ z; omega)) (fun j hj => if e : j = i then by subst e; exact Or.inr (by rw [show (mS M j (sKeep (M.2.2.2.1 j) D ts)).2.2.2.1 j = sKeep (M.2.2.2.1 j) D ts from if_pos rfl]; exact ⟨za, ab, FT2.ob a1 (by decide) (nz (how _ (by omega)).1 (fun z => by have z9 := hz _ z; omega)), FT2.ob a2 (by decide) (nz (how _ (by omega)).1 (fun z => by have z9 := hz _ z; omega)), FT2.2.2.1 _ _ a3 rfl (Or.inl (nz (how _ (by omega)).1 (fun z => by have z9 := hz _ z; omega))), a4, a5, FT2.2.2.1 _ _ a6 rfl (Or.inl (nz a12 (fun z => by have z9 := hz _ z; omega))), a7, a8, a9, a10, a11, a12, ⟨_, tvL_2, tvE_2⟩, ⟨_, r6, r7⟩⟩) else Or.inl ⟨(fun z => by have z9 := hz _ z; omega), (fun z => by have z9 := hz _ z; omega), (fun z => by have z9 := hz _ z; omega), (fun z => by have z9 := hz _ z; omega), (fun z => by have z9 := hz _ z; omega), (fun z => by have z9 := hz _ z; omega), mS_ne (M := M) e⟩) (Or.inl ⟨(fun z => by have z9 := hz _ z; omega), (fun z => by have z9 := hz _ z; omega), (fun z => by have z9 := hz _ z; omega), (fun z => by have z9 := hz _ z; omega), rfl⟩) (fun j hj => if e : j = 44 + i then Or.inr (by rw [e]; omega) else if e : j = 52 + i then Or.inr (by rw [e]; omega) else Or.inl (fun z => by have j9 := lsI_c j hj; have z9 := hz _ z; omega))) [44 + i, 52 + i] ((by decide : ∀ i, i < 8 → ([44 + i, 52 + i] : List Nat).Sublist lsI) i hi) (fun j z hj => by have j9 := lsI_c j hj; have z9 := hz _ z; simp only [List.mem_cons, List.not_mem_nil, or_false]; omega) (by simp only [sumL, List.map_cons, List.map_nil, List.sum_cons, List.sum_nil]; omega) (by simp only [sumL, List.map_cons, List.map_nil, List.sum_cons, List.sum_nil]; omega), tc7_2⟩
theorem h_keepT1 {S : List Int32} {hp : List XC} {ow : Nat → Nat} {k : Nat} {A : Nat → Nat} {M : HM} {rf : Int32} {np nl : Nat} (h : HR hp ow k A M rf np nl) {i : Nat} {al : Int32} {D ts ms : List En} (hi : i < 8) (hb : (M.2.2.2.1 i).2.2.1 = true) (hC9 : ChS hp A (M.2.2.2.1 i).1 al 1 D ts ms) (hlD : D.length ≤ 3000) (hlt : (M.2.2.2.1 i).2.2.2.2.1.length + ts.length ≤ 3000) (hle : M.2.2.1.length + ts.length ≤ 3400) {q : TQ} {ln : Nat} {mf : List Value} (hq : q ∈ M.2.2.2.2.2.2) (hmf : hp[A 75]? = some (.inr (6, mf))) (hm4 : mf[4]? = some (.ref q.1.1)) (hln : (M.2.2.2.1 i).1 = Int32.ofNat ln) (hl64 : ln < 64) : Me S 9 186 [.ref (A 0), .ref (A (20 + i))] hp (fun v hp' c s => v = none ∧ HSu hp hp' ow k A (mTabs (mS M i (sKeep (M.2.2.2.1 i) D ts)) (giveT M.2.2.2.2.2.2 q.1.1 ln)) rf np nl c s 0 0 ∧ hp'[A 7]? = some (.inr (3, [.ref (A 11), .ref (A 12), .ref (A 13), .ref (A 14), .int (M.2.2.2.1 i).1, .int al, .int 1]))) := by
  have hvw := h_view (S := S) h hi
  rw [show vwO M i = 36 + i from if_pos hb] at hvw
  obtain ⟨hO, how, h0, h1, h3, hD, hF, hE, hT, ⟨lv9, hG⟩, hC, hL9, hQ, hW, hS, hTq9, htd, hcap⟩ := id h
  obtain ⟨za, ab, a1, a2, a3, a4, a5, a6, a7, a8, a9, a10, a11, a12, a13, a14⟩ := hS i hi
  have ne : ∀ a b, a < 77 → b < 77 → a ≠ b → A a ≠ A b := fun a b ha hb hab e => by have u := (how a ha).1; rw [e, (how b hb).1] at u; omega
  have hb1 := a1
  rw [hb] at hb1
  obtain ⟨hc7, ⟨das, hd1, hd2⟩, ⟨tas, ht1, ht2⟩, ⟨mas, hm1, hm2⟩⟩ := hC9
  obtain ⟨es1, hE1, hE2⟩ := hE
  obtain ⟨fs1, hF1, hF2⟩ := hF
  obtain ⟨sa1, l1, l2⟩ := a13
  obtain ⟨ca1, l3, l4⟩ := a14
  obtain ⟨⟨clb, cal, cgi, hC1⟩, hC2, clv, hC3⟩ := hC
  have hel := hE2.1
  have hcl := l4.1
  have hdl := hd2.1
  have htl := ht2.1
  obtain ⟨Z, hZ⟩ : ∃ Z : Nat → Prop, Z = fun n => n = k + (44 + i) ∨ n = k + (52 + i) ∨ n = k + 301 := ⟨_, rfl⟩
  have hz : ∀ n, Z n → n = k + (44 + i) ∨ n = k + (52 + i) ∨ n = k + 301 := fun n z9 => by rw [hZ] at z9; exact z9
  have hzi : ∀ n, (n = k + (44 + i) ∨ n = k + (52 + i) ∨ n = k + 301) → Z n := fun n z9 => by rw [hZ]; exact z9
  have hzk : ∀ n, Z n → k ≤ n ∧ n < k + 1000 := fun n z => by have z9 := hz n z; omega
  refine At.go (q := xm186) rfl 2 (pc' := 2) (L' := [(0, .ref (A 0)), (1, .ref (A (20 + i)))]) (st' := [.ref (A (20 + i)), .ref (A 0)]) rfl ?_
  refine At.clp (as := [.ref (A 0), .ref (A (20 + i))]) (rest := []) rfl (by decide) rfl (Nat.le_of_ble_eq_true rfl) (Nat.le_of_ble_eq_true rfl) (xrck_o (by decide) (by decide) h0 (by decide)) (Nat.le_of_ble_eq_true rfl) (hvw) ?_
  refine At.go (q := xm186) rfl 1 (pc' := 6) (L' := [(0, .ref (A 0)), (1, .ref (A (20 + i)))]) (st' := [.ref (A 0), .ref (A (36 + i))]) rfl ?_
  refine At.gf rfl (by decide) h0 rfl ?_
  refine At.gf rfl (by decide) hc7 rfl ?_
  refine At.clm (as := [.ref (A (36 + i)), .ref (A 11)]) (rest := []) rfl (by decide) rfl (Nat.le_of_ble_eq_true rfl) (Nat.le_of_ble_eq_true rfl) (xrck_o (by decide) (by decide) a2 (by decide)) (Nat.le_of_ble_eq_true rfl) (m_fill a2 hC2 (ne (44 + i) 15 (by omega) (by decide) (by omega)) hO l1 hd1 hd2 (by omega)) (fun v9 g1 c1 s1 hv9 => ?_)
  obtain ⟨rfl, f1, ⟨vas, r1, r2⟩, r3, r4, r5⟩ := hv9
  have tH_1 := f1.ob h0 (by decide) (fun e => by have u := (how (0) (by omega)).1; have e9 : A 0 = A (44 + i) := e; rw [e9, (how _ (by omega)).1] at u; omega)
  have tz_1 := f1.ob hb1 (by decide) (fun e => by have u := (how ((20 + i)) (by omega)).1; have e9 : A (20 + i) = A (44 + i) := e; rw [e9, (how _ (by omega)).1] at u; omega)
  have tc7_1 := f1.ob hc7 (by decide) (fun e => by have u := (how (7) (by omega)).1; have e9 : A 7 = A (44 + i) := e; rw [e9, (how _ (by omega)).1] at u; omega)
  have ttL_1 := f1.ls (fun e => by have u := (how (12) (by omega)).1; have e9 : A 12 = A (44 + i) := e; rw [e9, (how _ (by omega)).1] at u; omega) hO ht1
  have ttE_1 := ht2.fr f1
  have tcL_1 := f1.ls (fun e => by have u := (how ((52 + i)) (by omega)).1; have e9 : A (52 + i) = A (44 + i) := e; rw [e9, (how _ (by omega)).1] at u; omega) hO l3
  have tcE_1 := l4.fr f1
  have cB_1 := (f1.cap (fun e => by have u := (how ((52 + i)) (by omega)).1; have e9 : A (52 + i) = A (44 + i) := e; rw [e9, (how _ (by omega)).1] at u; omega) hO l3).trans rfl
  have tmf_1 := f1.ob hmf (by decide) (fun e => by have u := (how (75) (by omega)).1; have e9 : A 75 = A (44 + i) := e; rw [e9, (how _ (by omega)).1] at u; omega)
  have tO1 := f1.2.1 hO
  have fZ1 : FrX (fun a => Z (ow a)) hp g1 := f1.mono (fun x _ e => by
    have e9 : x = A (44 + i) := e
    show Z (ow x)
    rw [e9, (how _ (by omega)).1]; exact hzi _ (by omega))
  refine At.go (q := xm186) rfl 1 (pc' := 16) (L' := [(0, .ref (A 0)), (1, .ref (A (20 + i)))]) (st' := [.ref (A (20 + i))]) rfl ?_
  refine At.gf rfl (by decide) tz_1 rfl ?_
  refine At.go (q := xm186) rfl 3 (pc' := 24) (L' := [(0, .ref (A 0)), (1, .ref (A (20 + i)))]) (st' := [.ref (A 0), .ref (A (20 + i))]) rfl ?_
  refine At.gf rfl (by decide) tH_1 rfl ?_
  refine At.gf rfl (by decide) tc7_1 rfl ?_
  refine At.clm (as := [.ref (A (20 + i)), .ref (A 12)]) (rest := []) rfl (by decide) rfl (Nat.le_of_ble_eq_true rfl) (Nat.le_of_ble_eq_true rfl) (xrck_o (by decide) (by decide) tz_1 (by decide)) (Nat.le_of_ble_eq_true rfl) (m_addChanged (ne (52 + i) 12 (by omega) (by decide) (by omega)) tz_1 tO1 tcL_1 ttL_1 tcE_1 ttE_1 (by omega)) (fun v9 g2 c2 s2 hv9 => ?_)
  obtain ⟨rfl, f2, ⟨cas2, r6, r7⟩, r8, r9, r10⟩ := hv9
  have tH_2 := f2.ob tH_1 (by decide) (fun e => by have u := (how (0) (by omega)).1; have e9 : A 0 = A (52 + i) := e; rw [e9, (how _ (by omega)).1] at u; omega)
  have tz_2 := f2.ob tz_1 (by decide) (fun e => by have u := (how ((20 + i)) (by omega)).1; have e9 : A (20 + i) = A (52 + i) := e; rw [e9, (how _ (by omega)).1] at u; omega)
  have tc7_2 := f2.ob tc7_1 (by decide) (fun e => by have u := (how (7) (by omega)).1; have e9 : A 7 = A (52 + i) := e; rw [e9, (how _ (by omega)).1] at u; omega)
  have ttL_2 := f2.ls (fun e => by have u := (how (12) (by omega)).1; have e9 : A 12 = A (52 + i) := e; rw [e9, (how _ (by omega)).1] at u; omega) tO1 ttL_1
  have ttE_2 := ttE_1.fr f2
  have tmf_2 := f2.ob tmf_1 (by decide) (fun e => by have u := (how (75) (by omega)).1; have e9 : A 75 = A (52 + i) := e; rw [e9, (how _ (by omega)).1] at u; omega)
  have tvL_2 := f2.ls (fun e => by have u := (how ((44 + i)) (by omega)).1; have e9 : A (44 + i) = A (52 + i) := e; rw [e9, (how _ (by omega)).1] at u; omega) tO1 r1
  have tvE_2 := r2.fr f2
  have cA_2 := (f2.cap (fun e => by have u := (how ((44 + i)) (by omega)).1; have e9 : A (44 + i) = A (52 + i) := e; rw [e9, (how _ (by omega)).1] at u; omega) tO1 r1).trans rfl
  have tO2 := f2.2.1 tO1
  have fZ2 : FrX (fun a => Z (ow a)) g1 g2 := f2.mono (fun x _ e => by
    have e9 : x = A (52 + i) := e
    show Z (ow x)
    rw [e9, (how _ (by omega)).1]; exact hzi _ (by omega))
  have FT2 := FrX.tr fZ1 fZ2 (fun x hx => Or.inl hx)
  obtain ⟨b1, b2, b3, b4, b5, tf, b6, b7, b8, b9⟩ := hTq9 q hq
  have fy1 : FrX (fun a => (fun n => n = k + (44 + i) ∨ n = k + (52 + i)) (ow a)) hp g1 := f1.mono (fun x _ e => by have e9 : x = A (44 + i) := e; show ow x = k + (44 + i) ∨ ow x = k + (52 + i); rw [e9, (how _ (by omega)).1]; omega)
  have fy2 : FrX (fun a => (fun n => n = k + (44 + i) ∨ n = k + (52 + i)) (ow a)) g1 g2 := f2.mono (fun x _ e => by have e9 : x = A (52 + i) := e; show ow x = k + (44 + i) ∨ ow x = k + (52 + i); rw [e9, (how _ (by omega)).1]; omega)
  have fy : FrX (fun a => (fun n => n = k + (44 + i) ∨ n = k + (52 + i)) (ow a)) hp g2 := FrX.tr fy1 fy2 (fun x hx => Or.inl hx)
  have hT2 : ∀ p ∈ M.2.2.2.2.2.2, hTq g2 ow k p := fun p hp9 => hTq.fr (Z := fun n => n = k + (44 + i) ∨ n = k + (52 + i)) (hTq9 p hp9) fy (fun _ _ => rfl) (fun e => by have e9 : k + 300 = k + (44 + i) ∨ k + 300 = k + (52 + i) := e; omega) (fun e => by have e9 : k + 301 = k + (44 + i) ∨ k + 301 = k + (52 + i) := e; omega) (fun e => by have e9 : k + 302 = k + (44 + i) ∨ k + 302 = k + (52 + i) := e; omega) (fun e => by have e9 : k + 303 = k + (44 + i) ∨ k + 303 = k + (52 + i) := e; omega)
  obtain ⟨x1, x2, x3, x4, x5, xf, x6, x7, x8, x9⟩ := hT2 q hq
  have hgv : q.2.2.2.2.1[ln]? = some ((q.2.2.2.2.1[ln]?).getD 0) := by rw [List.getElem?_eq_getElem (show ln < q.2.2.2.2.1.length by omega)]; rfl
  rw [hln] at tz_2
  refine At.go (q := xm186) rfl 2 (pc' := 51) (L' := [(0, .ref (A 0)), (1, .ref (A (20 + i)))]) (st' := [.ref (A 0)]) rfl ?_
  refine At.gf rfl (by decide) tH_2 rfl ?_
  refine At.gf rfl (by decide) tc7_2 rfl ?_
  refine At.go (q := xm186) rfl 2 (pc' := 61) (L' := [(0, .ref (A 0)), (1, .ref (A (20 + i)))]) (st' := [.ref (A 0)]) rfl ?_
  refine At.gf rfl (by decide) tH_2 rfl ?_
  refine At.gf rfl (by decide) tmf_2 hm4 ?_
  refine At.go (q := xm186) rfl 2 (pc' := 71) (L' := [(0, .ref (A 0)), (1, .ref (A (20 + i)))]) (st' := [.ref (A 0)]) rfl ?_
  refine At.gf rfl (by decide) tH_2 rfl ?_
  refine At.gf rfl (by decide) tmf_2 hm4 ?_
  refine At.go (q := xm186) rfl 1 (pc' := 78) (L' := [(0, .ref (A 0)), (1, .ref (A (20 + i)))]) (st' := [.ref (A (20 + i)), .ref q.1.1]) rfl ?_
  refine At.gf rfl (by decide) tz_2 rfl ?_
  refine At.clm (as := [.ref q.1.1, .int (Int32.ofNat ln)]) (rest := []) rfl (by decide) rfl (Nat.le_of_ble_eq_true rfl) (Nat.le_of_ble_eq_true rfl) (xrck_o (by decide) (by decide) x6 (by decide)) (Nat.le_of_ble_eq_true rfl) (m_giveKey x6 x7 x2 hgv (by omega)) (fun v9 g3 c3 s3 hv9 => ?_)
  obtain ⟨rfl, eg3, rfl, rfl⟩ := hv9
  have f3 : FrX (fun x => x = q.1.2.1) g2 g3 := by rw [eg3]; exact FrX.st x2 rfl rfl rfl rfl (fun fs h => by cases h) (fun ci fs h => by cases h)
  have hc44i := hcap (44 + i) ((by decide : ∀ i, i < 8 → 44 + i ∈ lsI) i hi)
  have hc52i := hcap (52 + i) ((by decide : ∀ i, i < 8 → 52 + i ∈ lsI) i hi)
  have xA := cA_2
  have xB := cB_1
  have fz3 : FrX (fun a => Z (ow a)) g2 g3 := f3.mono (fun x _ e => by have e9 : x = q.1.2.1 := e; show Z (ow x); rw [e9, x5]; exact hzi _ (by omega))
  have FT9 := FrX.tr FT2 fz3 (fun x hx => Or.inl hx)
  have O2 := tO2
  have hng : ∀ j, j < 77 → ¬ A j = q.1.2.1 := fun j hj e => by have u := (how j hj).1; rw [e, x5] at u; omega
  have eA : capL g3 (A (44 + i)) = capL g2 (A (44 + i)) := f3.cap (hng _ (by omega)) O2 tvL_2
  have eO : capL g3 (A (52 + i)) = capL g2 (A (52 + i)) := f3.cap (hng _ (by omega)) O2 r6
  have hc73 : g3[A 7]? = some (.inr (3, [.ref (A 11), .ref (A 12), .ref (A 13), .ref (A 14), .int (M.2.2.2.1 i).1, .int al, .int 1])) := f3.ob tc7_2 (by decide) (hng 7 (by decide))
  have hTn : ∀ p ∈ (mTabs (mS M i (sKeep (M.2.2.2.1 i) D ts)) (giveT M.2.2.2.2.2.2 q.1.1 ln)).2.2.2.2.2.2, hTq g3 ow k p := fun p hp9 => by
    obtain ⟨p0, hp0, rfl⟩ := List.mem_map.mp (show p ∈ giveT M.2.2.2.2.2.2 q.1.1 ln from hp9)
    obtain ⟨w1, w2, w3, w4, w5, wf9, w6, w7, w8, w9, w10⟩ := hT2 p0 hp0
    have w10' : (p0.2.2.2.1 = false ∧ wf9[6]? = some .null) ∨ (p0.2.2.2.1 = true ∧ ∃ (cf oa aa pa wa : Nat) (ws : Value) (es : List Value) (gs vs : List Int32), wf9[6]? = some (.ref cf) ∧ hFo g3 cf oa aa pa p0.1.2.2 wa ws es gs osCK ∧ g3[p0.1.2.2]? = some (.inl (16, vs.map Value.int)) ∧ vs.length = 3 ∧ ow cf = k + 302 ∧ ow oa = k + 302 ∧ ow aa = k + 302 ∧ ow p0.1.2.2 = k + 303) := by
      rcases w10 with w10 | ⟨c1', cf, oa, aa, pa, wa, ws, es, gs, vs, c2', c3', c4', c5', c6', c7', c8', c9'⟩
      · exact Or.inl w10
      · have hx : ∀ a, (ow a = k + 302 ∨ ow a = k + 303) → ¬ a = q.1.2.1 := fun a ha e => by rw [e, x5] at ha; omega
        exact Or.inr ⟨c1', cf, oa, aa, pa, wa, ws, es, gs, vs, c2', c3'.fr f3 (hx _ (Or.inl c6')) (hx _ (Or.inl c7')) (hx _ (Or.inl c8')), f3.2.2.1 _ _ c4' rfl (Or.inl (hx _ (Or.inr c9'))), c5', c6', c7', c8', c9'⟩
    have hnt : ¬ p0.1.1 = q.1.2.1 := fun e => by rw [e, x5] at w4; omega
    by_cases hpq : p0.1.1 = q.1.1
    · have : p0 = q := htd p0 hp0 q hq (Or.inl hpq)
      subst this
      rw [if_pos rfl]
      exact ⟨w1.fr f3, by rw [eg3]; exact xs_eq x2, by show (List.set _ _ _).length = 64; rw [List.length_set]; exact w3, w4, w5, wf9, f3.ob w6 (by decide) hnt, w7, w8, w9, w10'⟩
    · rw [if_neg hpq]
      exact ⟨w1.fr f3, f3.2.2.1 _ _ w2 rfl (Or.inl (fun e => hpq (congrArg (fun z : TQ => z.1.1) (htd p0 hp0 q hq (Or.inr e))))), w3, w4, w5, wf9, f3.ob w6 (by decide) hnt, w7, w8, w9, w10'⟩
  have hTd : ∀ p ∈ (mTabs (mS M i (sKeep (M.2.2.2.1 i) D ts)) (giveT M.2.2.2.2.2.2 q.1.1 ln)).2.2.2.2.2.2, ∀ r ∈ (mTabs (mS M i (sKeep (M.2.2.2.1 i) D ts)) (giveT M.2.2.2.2.2.2 q.1.1 ln)).2.2.2.2.2.2, p.1.1 = r.1.1 ∨ p.1.2.1 = r.1.2.1 → p = r := fun p hp9 r hr9 he => by
    obtain ⟨p0, hp0, rfl⟩ := List.mem_map.mp (show p ∈ giveT M.2.2.2.2.2.2 q.1.1 ln from hp9)
    obtain ⟨r0, hr0, rfl⟩ := List.mem_map.mp (show r ∈ giveT M.2.2.2.2.2.2 q.1.1 ln from hr9)
    have k1 : ∀ x : TQ, (if x.1.1 = q.1.1 then giveQ x ln else x).1 = x.1 := fun x => by split <;> rfl
    rw [k1, k1] at he
    rw [htd p0 hp0 r0 hr0 he]
  exact At.rt rfl rfl ⟨_, _, _, _, rfl, rfl, HSu.of h FT9 hzk (h.upd (Z := Z) FT9 (fun _ _ => rfl) (fun z => by have z9 := hz _ z; omega) (fun z => by have z9 := hz _ z; omega) (Or.inl ⟨(fun z => by have z9 := hz _ z; omega), rfl, rfl⟩) (Or.inl ⟨(fun z => by have z9 := hz _ z; omega), rfl⟩) (Or.inl ⟨(fun z => by have z9 := hz _ z; omega), rfl⟩) (Or.inl ⟨(fun z => by have z9 := hz _ z; omega), rfl⟩) (Or.inl ⟨(fun z => by have z9 := hz _ z; omega), rfl⟩) (Or.inl (fun z => by have z9 := hz _ z; omega)) (Or.inl ⟨(fun z => by have z9 := hz _ z; omega), (fun z => by have z9 := hz _ z; omega), (fun z => by have z9 := hz _ z; omega)⟩) (fun j hj => Or.inl (fun z => by simp only [List.mem_cons, List.not_mem_nil, or_false] at hj; have z9 := hz _ z; omega)) (Or.inl ⟨(fun z => by have z9 := hz _ z; omega), (fun z => by have z9 := hz _ z; omega), (fun z => by have z9 := hz _ z; omega), (fun z => by have z9 := hz _ z; omega), rfl, rfl⟩) (Or.inl (fun j j1 j2 z => by have z9 := hz _ z; omega)) (fun j hj => if e : j = i then by subst e; exact Or.inr (by rw [show (mTabs (mS M j (sKeep (M.2.2.2.1 j) D ts)) (giveT M.2.2.2.2.2.2 q.1.1 ln)).2.2.2.1 j = sKeep (M.2.2.2.1 j) D ts from if_pos rfl]; exact ⟨za, ab, FT9.ob a1 (by decide) (nz (how _ (by omega)).1 (fun z => by have z9 := hz _ z; omega)), FT9.ob a2 (by decide) (nz (how _ (by omega)).1 (fun z => by have z9 := hz _ z; omega)), FT9.2.2.1 _ _ a3 rfl (Or.inl (nz (how _ (by omega)).1 (fun z => by have z9 := hz _ z; omega))), a4, a5, FT9.2.2.1 _ _ a6 rfl (Or.inl (nz a12 (fun z => by have z9 := hz _ z; omega))), a7, a8, a9, a10, a11, a12, ⟨_, (f3.ls (hng (44 + j) (by omega)) O2 tvL_2), (tvE_2.fr f3)⟩, ⟨_, (f3.ls (hng (52 + j) (by omega)) O2 r6), (r7.fr f3)⟩⟩) else Or.inl ⟨(fun z => by have z9 := hz _ z; omega), (fun z => by have z9 := hz _ z; omega), (fun z => by have z9 := hz _ z; omega), (fun z => by have z9 := hz _ z; omega), (fun z => by have z9 := hz _ z; omega), (fun z => by have z9 := hz _ z; omega), mS_ne (M := M) e⟩) (Or.inr ⟨hTn, hTd⟩) (fun j hj => if e : j = 44 + i then Or.inr (by rw [e]; omega) else if e : j = 52 + i then Or.inr (by rw [e]; omega) else Or.inl (fun z => by have j9 := lsI_c j hj; have z9 := hz _ z; omega))) [44 + i, 52 + i] ((by decide : ∀ i, i < 8 → ([44 + i, 52 + i] : List Nat).Sublist lsI) i hi) (fun j z hj => by have j9 := lsI_c j hj; have z9 := hz _ z; simp only [List.mem_cons, List.not_mem_nil, or_false]; omega) (by simp only [sumL, List.map_cons, List.map_nil, List.sum_cons, List.sum_nil]; omega) (by simp only [sumL, List.map_cons, List.map_nil, List.sum_cons, List.sum_nil]; omega), hc73⟩
theorem h_keepF0 {S : List Int32} {hp : List XC} {ow : Nat → Nat} {k : Nat} {A : Nat → Nat} {M : HM} {rf : Int32} {np nl : Nat} (h : HR hp ow k A M rf np nl) {i : Nat} {al : Int32} {D ts ms : List En} (hi : i < 8) (hb : (M.2.2.2.1 i).2.2.1 = false) (hC9 : ChS hp A (M.2.2.2.1 i).1 al 0 D ts ms) (hlD : D.length ≤ 3000) (hlt : (M.2.2.2.1 i).2.2.2.2.1.length + ts.length ≤ 3000) (hle : M.2.2.1.length + ts.length ≤ 3400)  : Me S 9 186 [.ref (A 0), .ref (A (20 + i))] hp (fun v hp' c s => v = none ∧ HSu hp hp' ow k A (mEnded (mShelf M D) (M.2.2.1 ++ ts)) rf np nl c s 0 0 ∧ hp'[A 7]? = some (.inr (3, [.ref (A 11), .ref (A 12), .ref (A 13), .ref (A 14), .int (M.2.2.2.1 i).1, .int al, .int 0]))) := by
  have hvw := h_view (S := S) h hi
  rw [show vwO M i = 3 from if_neg (by rw [hb]; decide)] at hvw
  obtain ⟨hO, how, h0, h1, h3, hD, hF, hE, hT, ⟨lv9, hG⟩, hC, hL9, hQ, hW, hS, hTq9, htd, hcap⟩ := id h
  obtain ⟨za, ab, a1, a2, a3, a4, a5, a6, a7, a8, a9, a10, a11, a12, a13, a14⟩ := hS i hi
  have ne : ∀ a b, a < 77 → b < 77 → a ≠ b → A a ≠ A b := fun a b ha hb hab e => by have u := (how a ha).1; rw [e, (how b hb).1] at u; omega
  have hb1 := a1
  rw [hb] at hb1
  obtain ⟨hc7, ⟨das, hd1, hd2⟩, ⟨tas, ht1, ht2⟩, ⟨mas, hm1, hm2⟩⟩ := hC9
  obtain ⟨es1, hE1, hE2⟩ := hE
  obtain ⟨fs1, hF1, hF2⟩ := hF
  obtain ⟨sa1, l1, l2⟩ := a13
  obtain ⟨ca1, l3, l4⟩ := a14
  obtain ⟨⟨clb, cal, cgi, hC1⟩, hC2, clv, hC3⟩ := hC
  have hel := hE2.1
  have hcl := l4.1
  have hdl := hd2.1
  have htl := ht2.1
  obtain ⟨Z, hZ⟩ : ∃ Z : Nat → Prop, Z = fun n => n = k + 9 ∨ n = k + 4 := ⟨_, rfl⟩
  have hz : ∀ n, Z n → n = k + 9 ∨ n = k + 4 := fun n z9 => by rw [hZ] at z9; exact z9
  have hzi : ∀ n, (n = k + 9 ∨ n = k + 4) → Z n := fun n z9 => by rw [hZ]; exact z9
  have hzk : ∀ n, Z n → k ≤ n ∧ n < k + 1000 := fun n z => by have z9 := hz n z; omega
  refine At.go (q := xm186) rfl 2 (pc' := 2) (L' := [(0, .ref (A 0)), (1, .ref (A (20 + i)))]) (st' := [.ref (A (20 + i)), .ref (A 0)]) rfl ?_
  refine At.clp (as := [.ref (A 0), .ref (A (20 + i))]) (rest := []) rfl (by decide) rfl (Nat.le_of_ble_eq_true rfl) (Nat.le_of_ble_eq_true rfl) (xrck_o (by decide) (by decide) h0 (by decide)) (Nat.le_of_ble_eq_true rfl) (hvw) ?_
  refine At.go (q := xm186) rfl 1 (pc' := 6) (L' := [(0, .ref (A 0)), (1, .ref (A (20 + i)))]) (st' := [.ref (A 0), .ref (A 3)]) rfl ?_
  refine At.gf rfl (by decide) h0 rfl ?_
  refine At.gf rfl (by decide) hc7 rfl ?_
  refine At.clm (as := [.ref (A 3), .ref (A 11)]) (rest := []) rfl (by decide) rfl (Nat.le_of_ble_eq_true rfl) (Nat.le_of_ble_eq_true rfl) (xrck_o (by decide) (by decide) h3 (by decide)) (Nat.le_of_ble_eq_true rfl) (m_fill h3 hC2 (ne 9 15 (by omega) (by decide) (by omega)) hO hF1 hd1 hd2 (by omega)) (fun v9 g1 c1 s1 hv9 => ?_)
  obtain ⟨rfl, f1, ⟨vas, r1, r2⟩, r3, r4, r5⟩ := hv9
  have tH_1 := f1.ob h0 (by decide) (fun e => by have u := (how (0) (by omega)).1; have e9 : A 0 = A 9 := e; rw [e9, (how _ (by omega)).1] at u; omega)
  have tz_1 := f1.ob hb1 (by decide) (fun e => by have u := (how ((20 + i)) (by omega)).1; have e9 : A (20 + i) = A 9 := e; rw [e9, (how _ (by omega)).1] at u; omega)
  have tc7_1 := f1.ob hc7 (by decide) (fun e => by have u := (how (7) (by omega)).1; have e9 : A 7 = A 9 := e; rw [e9, (how _ (by omega)).1] at u; omega)
  have ttL_1 := f1.ls (fun e => by have u := (how (12) (by omega)).1; have e9 : A 12 = A 9 := e; rw [e9, (how _ (by omega)).1] at u; omega) hO ht1
  have ttE_1 := ht2.fr f1
  have tEL_1 := f1.ls (fun e => by have u := (how (4) (by omega)).1; have e9 : A 4 = A 9 := e; rw [e9, (how _ (by omega)).1] at u; omega) hO hE1
  have tEE_1 := hE2.fr f1
  have cB_1 := (f1.cap (fun e => by have u := (how (4) (by omega)).1; have e9 : A 4 = A 9 := e; rw [e9, (how _ (by omega)).1] at u; omega) hO hE1).trans rfl
  have tO1 := f1.2.1 hO
  have fZ1 : FrX (fun a => Z (ow a)) hp g1 := f1.mono (fun x _ e => by
    have e9 : x = A 9 := e
    show Z (ow x)
    rw [e9, (how _ (by omega)).1]; exact hzi _ (by omega))
  refine At.go (q := xm186) rfl 1 (pc' := 16) (L' := [(0, .ref (A 0)), (1, .ref (A (20 + i)))]) (st' := [.ref (A (20 + i))]) rfl ?_
  refine At.gf rfl (by decide) tz_1 rfl ?_
  refine At.go (q := xm186) rfl 2 (pc' := 37) (L' := [(0, .ref (A 0)), (1, .ref (A (20 + i)))]) (st' := [.ref (A 0)]) rfl ?_
  refine At.gf rfl (by decide) tH_1 rfl ?_
  refine At.go (q := xm186) rfl 1 (pc' := 41) (L' := [(0, .ref (A 0)), (1, .ref (A (20 + i)))]) (st' := [.ref (A 0), .ref (A 4)]) rfl ?_
  refine At.gf rfl (by decide) tH_1 rfl ?_
  refine At.gf rfl (by decide) tc7_1 rfl ?_
  refine At.clm (as := [.ref (A 4), .ref (A 12)]) (rest := []) rfl (by decide) rfl (Nat.le_of_ble_eq_true rfl) (Nat.le_of_ble_eq_true rfl) rfl (Nat.le_of_ble_eq_true rfl) (m_addAll (ne 4 12 (by decide) (by decide) (by decide)) tO1 tEL_1 ttL_1 tEE_1 ttE_1 (by omega)) (fun v9 g2 c2 s2 hv9 => ?_)
  obtain ⟨rfl, f2, ⟨cas2, r6, r7⟩, r8, r9, r10⟩ := hv9
  have tH_2 := f2.ob tH_1 (by decide) (fun e => by have u := (how (0) (by omega)).1; have e9 : A 0 = A 4 := e; rw [e9, (how _ (by omega)).1] at u; omega)
  have tz_2 := f2.ob tz_1 (by decide) (fun e => by have u := (how ((20 + i)) (by omega)).1; have e9 : A (20 + i) = A 4 := e; rw [e9, (how _ (by omega)).1] at u; omega)
  have tc7_2 := f2.ob tc7_1 (by decide) (fun e => by have u := (how (7) (by omega)).1; have e9 : A 7 = A 4 := e; rw [e9, (how _ (by omega)).1] at u; omega)
  have ttL_2 := f2.ls (fun e => by have u := (how (12) (by omega)).1; have e9 : A 12 = A 4 := e; rw [e9, (how _ (by omega)).1] at u; omega) tO1 ttL_1
  have ttE_2 := ttE_1.fr f2
  have tvL_2 := f2.ls (fun e => by have u := (how (9) (by omega)).1; have e9 : A 9 = A 4 := e; rw [e9, (how _ (by omega)).1] at u; omega) tO1 r1
  have tvE_2 := r2.fr f2
  have cA_2 := (f2.cap (fun e => by have u := (how (9) (by omega)).1; have e9 : A 9 = A 4 := e; rw [e9, (how _ (by omega)).1] at u; omega) tO1 r1).trans rfl
  have tO2 := f2.2.1 tO1
  have fZ2 : FrX (fun a => Z (ow a)) g1 g2 := f2.mono (fun x _ e => by
    have e9 : x = A 4 := e
    show Z (ow x)
    rw [e9, (how _ (by omega)).1]; exact hzi _ (by omega))
  have FT2 := FrX.tr fZ1 fZ2 (fun x hx => Or.inl hx)
  refine At.go (q := xm186) rfl 1 (pc' := 51) (L' := [(0, .ref (A 0)), (1, .ref (A (20 + i)))]) (st' := [.ref (A 0)]) rfl ?_
  refine At.gf rfl (by decide) tH_2 rfl ?_
  refine At.gf rfl (by decide) tc7_2 rfl ?_
  refine At.go (q := xm186) rfl 1 (pc' := 84) (L' := [(0, .ref (A 0)), (1, .ref (A (20 + i)))]) (st' := []) rfl ?_
  have hc9 := hcap (9) (by decide)
  have hc4 := hcap (4) (by decide)
  have xA := cA_2
  have xB := cB_1
  rw [List.length_append] at r10
  exact At.rt rfl rfl ⟨_, _, _, _, rfl, rfl, HSu.of h FT2 hzk (h.upd (Z := Z) FT2 (fun _ _ => rfl) (fun z => by have z9 := hz _ z; omega) (fun z => by have z9 := hz _ z; omega) (Or.inl ⟨(fun z => by have z9 := hz _ z; omega), rfl, rfl⟩) (Or.inl ⟨(fun z => by have z9 := hz _ z; omega), rfl⟩) (Or.inr ⟨_, tvL_2, tvE_2⟩) (Or.inr ⟨_, r6, r7⟩) (Or.inl ⟨(fun z => by have z9 := hz _ z; omega), rfl⟩) (Or.inl (fun z => by have z9 := hz _ z; omega)) (Or.inl ⟨(fun z => by have z9 := hz _ z; omega), (fun z => by have z9 := hz _ z; omega), (fun z => by have z9 := hz _ z; omega)⟩) (fun j hj => Or.inl (fun z => by simp only [List.mem_cons, List.not_mem_nil, or_false] at hj; have z9 := hz _ z; omega)) (Or.inl ⟨(fun z => by have z9 := hz _ z; omega), (fun z => by have z9 := hz _ z; omega), (fun z => by have z9 := hz _ z; omega), (fun z => by have z9 := hz _ z; omega), rfl, rfl⟩) (Or.inl (fun j j1 j2 z => by have z9 := hz _ z; omega)) (fun j hj => Or.inl ⟨(fun z => by have z9 := hz _ z; omega), (fun z => by have z9 := hz _ z; omega), (fun z => by have z9 := hz _ z; omega), (fun z => by have z9 := hz _ z; omega), (fun z => by have z9 := hz _ z; omega), (fun z => by have z9 := hz _ z; omega), rfl⟩) (Or.inl ⟨(fun z => by have z9 := hz _ z; omega), (fun z => by have z9 := hz _ z; omega), (fun z => by have z9 := hz _ z; omega), (fun z => by have z9 := hz _ z; omega), rfl⟩) (fun j hj => if e : j = 9 then Or.inr (by rw [e]; omega) else if e : j = 4 then Or.inr (by rw [e]; omega) else Or.inl (fun z => by have j9 := lsI_c j hj; have z9 := hz _ z; omega))) [9, 4] (by decide) (fun j z hj => by have j9 := lsI_c j hj; have z9 := hz _ z; simp only [List.mem_cons, List.not_mem_nil, or_false]; omega) (by simp only [sumL, List.map_cons, List.map_nil, List.sum_cons, List.sum_nil]; omega) (by simp only [sumL, List.map_cons, List.map_nil, List.sum_cons, List.sum_nil]; omega), tc7_2⟩
theorem h_keepF1 {S : List Int32} {hp : List XC} {ow : Nat → Nat} {k : Nat} {A : Nat → Nat} {M : HM} {rf : Int32} {np nl : Nat} (h : HR hp ow k A M rf np nl) {i : Nat} {al : Int32} {D ts ms : List En} (hi : i < 8) (hb : (M.2.2.2.1 i).2.2.1 = false) (hC9 : ChS hp A (M.2.2.2.1 i).1 al 1 D ts ms) (hlD : D.length ≤ 3000) (hlt : (M.2.2.2.1 i).2.2.2.2.1.length + ts.length ≤ 3000) (hle : M.2.2.1.length + ts.length ≤ 3400) {q : TQ} {ln : Nat} {mf : List Value} (hq : q ∈ M.2.2.2.2.2.2) (hmf : hp[A 75]? = some (.inr (6, mf))) (hm4 : mf[4]? = some (.ref q.1.1)) (hln : (M.2.2.2.1 i).1 = Int32.ofNat ln) (hl64 : ln < 64) : Me S 9 186 [.ref (A 0), .ref (A (20 + i))] hp (fun v hp' c s => v = none ∧ HSu hp hp' ow k A (mTabs (mEnded (mShelf M D) (M.2.2.1 ++ ts)) (giveT M.2.2.2.2.2.2 q.1.1 ln)) rf np nl c s 0 0 ∧ hp'[A 7]? = some (.inr (3, [.ref (A 11), .ref (A 12), .ref (A 13), .ref (A 14), .int (M.2.2.2.1 i).1, .int al, .int 1]))) := by
  have hvw := h_view (S := S) h hi
  rw [show vwO M i = 3 from if_neg (by rw [hb]; decide)] at hvw
  obtain ⟨hO, how, h0, h1, h3, hD, hF, hE, hT, ⟨lv9, hG⟩, hC, hL9, hQ, hW, hS, hTq9, htd, hcap⟩ := id h
  obtain ⟨za, ab, a1, a2, a3, a4, a5, a6, a7, a8, a9, a10, a11, a12, a13, a14⟩ := hS i hi
  have ne : ∀ a b, a < 77 → b < 77 → a ≠ b → A a ≠ A b := fun a b ha hb hab e => by have u := (how a ha).1; rw [e, (how b hb).1] at u; omega
  have hb1 := a1
  rw [hb] at hb1
  obtain ⟨hc7, ⟨das, hd1, hd2⟩, ⟨tas, ht1, ht2⟩, ⟨mas, hm1, hm2⟩⟩ := hC9
  obtain ⟨es1, hE1, hE2⟩ := hE
  obtain ⟨fs1, hF1, hF2⟩ := hF
  obtain ⟨sa1, l1, l2⟩ := a13
  obtain ⟨ca1, l3, l4⟩ := a14
  obtain ⟨⟨clb, cal, cgi, hC1⟩, hC2, clv, hC3⟩ := hC
  have hel := hE2.1
  have hcl := l4.1
  have hdl := hd2.1
  have htl := ht2.1
  obtain ⟨Z, hZ⟩ : ∃ Z : Nat → Prop, Z = fun n => n = k + 9 ∨ n = k + 4 ∨ n = k + 301 := ⟨_, rfl⟩
  have hz : ∀ n, Z n → n = k + 9 ∨ n = k + 4 ∨ n = k + 301 := fun n z9 => by rw [hZ] at z9; exact z9
  have hzi : ∀ n, (n = k + 9 ∨ n = k + 4 ∨ n = k + 301) → Z n := fun n z9 => by rw [hZ]; exact z9
  have hzk : ∀ n, Z n → k ≤ n ∧ n < k + 1000 := fun n z => by have z9 := hz n z; omega
  refine At.go (q := xm186) rfl 2 (pc' := 2) (L' := [(0, .ref (A 0)), (1, .ref (A (20 + i)))]) (st' := [.ref (A (20 + i)), .ref (A 0)]) rfl ?_
  refine At.clp (as := [.ref (A 0), .ref (A (20 + i))]) (rest := []) rfl (by decide) rfl (Nat.le_of_ble_eq_true rfl) (Nat.le_of_ble_eq_true rfl) (xrck_o (by decide) (by decide) h0 (by decide)) (Nat.le_of_ble_eq_true rfl) (hvw) ?_
  refine At.go (q := xm186) rfl 1 (pc' := 6) (L' := [(0, .ref (A 0)), (1, .ref (A (20 + i)))]) (st' := [.ref (A 0), .ref (A 3)]) rfl ?_
  refine At.gf rfl (by decide) h0 rfl ?_
  refine At.gf rfl (by decide) hc7 rfl ?_
  refine At.clm (as := [.ref (A 3), .ref (A 11)]) (rest := []) rfl (by decide) rfl (Nat.le_of_ble_eq_true rfl) (Nat.le_of_ble_eq_true rfl) (xrck_o (by decide) (by decide) h3 (by decide)) (Nat.le_of_ble_eq_true rfl) (m_fill h3 hC2 (ne 9 15 (by omega) (by decide) (by omega)) hO hF1 hd1 hd2 (by omega)) (fun v9 g1 c1 s1 hv9 => ?_)
  obtain ⟨rfl, f1, ⟨vas, r1, r2⟩, r3, r4, r5⟩ := hv9
  have tH_1 := f1.ob h0 (by decide) (fun e => by have u := (how (0) (by omega)).1; have e9 : A 0 = A 9 := e; rw [e9, (how _ (by omega)).1] at u; omega)
  have tz_1 := f1.ob hb1 (by decide) (fun e => by have u := (how ((20 + i)) (by omega)).1; have e9 : A (20 + i) = A 9 := e; rw [e9, (how _ (by omega)).1] at u; omega)
  have tc7_1 := f1.ob hc7 (by decide) (fun e => by have u := (how (7) (by omega)).1; have e9 : A 7 = A 9 := e; rw [e9, (how _ (by omega)).1] at u; omega)
  have ttL_1 := f1.ls (fun e => by have u := (how (12) (by omega)).1; have e9 : A 12 = A 9 := e; rw [e9, (how _ (by omega)).1] at u; omega) hO ht1
  have ttE_1 := ht2.fr f1
  have tEL_1 := f1.ls (fun e => by have u := (how (4) (by omega)).1; have e9 : A 4 = A 9 := e; rw [e9, (how _ (by omega)).1] at u; omega) hO hE1
  have tEE_1 := hE2.fr f1
  have cB_1 := (f1.cap (fun e => by have u := (how (4) (by omega)).1; have e9 : A 4 = A 9 := e; rw [e9, (how _ (by omega)).1] at u; omega) hO hE1).trans rfl
  have tmf_1 := f1.ob hmf (by decide) (fun e => by have u := (how (75) (by omega)).1; have e9 : A 75 = A 9 := e; rw [e9, (how _ (by omega)).1] at u; omega)
  have tO1 := f1.2.1 hO
  have fZ1 : FrX (fun a => Z (ow a)) hp g1 := f1.mono (fun x _ e => by
    have e9 : x = A 9 := e
    show Z (ow x)
    rw [e9, (how _ (by omega)).1]; exact hzi _ (by omega))
  refine At.go (q := xm186) rfl 1 (pc' := 16) (L' := [(0, .ref (A 0)), (1, .ref (A (20 + i)))]) (st' := [.ref (A (20 + i))]) rfl ?_
  refine At.gf rfl (by decide) tz_1 rfl ?_
  refine At.go (q := xm186) rfl 2 (pc' := 37) (L' := [(0, .ref (A 0)), (1, .ref (A (20 + i)))]) (st' := [.ref (A 0)]) rfl ?_
  refine At.gf rfl (by decide) tH_1 rfl ?_
  refine At.go (q := xm186) rfl 1 (pc' := 41) (L' := [(0, .ref (A 0)), (1, .ref (A (20 + i)))]) (st' := [.ref (A 0), .ref (A 4)]) rfl ?_
  refine At.gf rfl (by decide) tH_1 rfl ?_
  refine At.gf rfl (by decide) tc7_1 rfl ?_
  refine At.clm (as := [.ref (A 4), .ref (A 12)]) (rest := []) rfl (by decide) rfl (Nat.le_of_ble_eq_true rfl) (Nat.le_of_ble_eq_true rfl) rfl (Nat.le_of_ble_eq_true rfl) (m_addAll (ne 4 12 (by decide) (by decide) (by decide)) tO1 tEL_1 ttL_1 tEE_1 ttE_1 (by omega)) (fun v9 g2 c2 s2 hv9 => ?_)
  obtain ⟨rfl, f2, ⟨cas2, r6, r7⟩, r8, r9, r10⟩ := hv9
  have tH_2 := f2.ob tH_1 (by decide) (fun e => by have u := (how (0) (by omega)).1; have e9 : A 0 = A 4 := e; rw [e9, (how _ (by omega)).1] at u; omega)
  have tz_2 := f2.ob tz_1 (by decide) (fun e => by have u := (how ((20 + i)) (by omega)).1; have e9 : A (20 + i) = A 4 := e; rw [e9, (how _ (by omega)).1] at u; omega)
  have tc7_2 := f2.ob tc7_1 (by decide) (fun e => by have u := (how (7) (by omega)).1; have e9 : A 7 = A 4 := e; rw [e9, (how _ (by omega)).1] at u; omega)
  have ttL_2 := f2.ls (fun e => by have u := (how (12) (by omega)).1; have e9 : A 12 = A 4 := e; rw [e9, (how _ (by omega)).1] at u; omega) tO1 ttL_1
  have ttE_2 := ttE_1.fr f2
  have tmf_2 := f2.ob tmf_1 (by decide) (fun e => by have u := (how (75) (by omega)).1; have e9 : A 75 = A 4 := e; rw [e9, (how _ (by omega)).1] at u; omega)
  have tvL_2 := f2.ls (fun e => by have u := (how (9) (by omega)).1; have e9 : A 9 = A 4 := e; rw [e9, (how _ (by omega)).1] at u; omega) tO1 r1
  have tvE_2 := r2.fr f2
  have cA_2 := (f2.cap (fun e => by have u := (how (9) (by omega)).1; have e9 : A 9 = A 4 := e; rw [e9, (how _ (by omega)).1] at u; omega) tO1 r1).trans rfl
  have tO2 := f2.2.1 tO1
  have fZ2 : FrX (fun a => Z (ow a)) g1 g2 := f2.mono (fun x _ e => by
    have e9 : x = A 4 := e
    show Z (ow x)
    rw [e9, (how _ (by omega)).1]; exact hzi _ (by omega))
  have FT2 := FrX.tr fZ1 fZ2 (fun x hx => Or.inl hx)
  obtain ⟨b1, b2, b3, b4, b5, tf, b6, b7, b8, b9⟩ := hTq9 q hq
  have fy1 : FrX (fun a => (fun n => n = k + 9 ∨ n = k + 4) (ow a)) hp g1 := f1.mono (fun x _ e => by have e9 : x = A 9 := e; show ow x = k + 9 ∨ ow x = k + 4; rw [e9, (how _ (by omega)).1]; omega)
  have fy2 : FrX (fun a => (fun n => n = k + 9 ∨ n = k + 4) (ow a)) g1 g2 := f2.mono (fun x _ e => by have e9 : x = A 4 := e; show ow x = k + 9 ∨ ow x = k + 4; rw [e9, (how _ (by omega)).1]; omega)
  have fy : FrX (fun a => (fun n => n = k + 9 ∨ n = k + 4) (ow a)) hp g2 := FrX.tr fy1 fy2 (fun x hx => Or.inl hx)
  have hT2 : ∀ p ∈ M.2.2.2.2.2.2, hTq g2 ow k p := fun p hp9 => hTq.fr (Z := fun n => n = k + 9 ∨ n = k + 4) (hTq9 p hp9) fy (fun _ _ => rfl) (fun e => by have e9 : k + 300 = k + 9 ∨ k + 300 = k + 4 := e; omega) (fun e => by have e9 : k + 301 = k + 9 ∨ k + 301 = k + 4 := e; omega) (fun e => by have e9 : k + 302 = k + 9 ∨ k + 302 = k + 4 := e; omega) (fun e => by have e9 : k + 303 = k + 9 ∨ k + 303 = k + 4 := e; omega)
  obtain ⟨x1, x2, x3, x4, x5, xf, x6, x7, x8, x9⟩ := hT2 q hq
  have hgv : q.2.2.2.2.1[ln]? = some ((q.2.2.2.2.1[ln]?).getD 0) := by rw [List.getElem?_eq_getElem (show ln < q.2.2.2.2.1.length by omega)]; rfl
  rw [hln] at tz_2
  refine At.go (q := xm186) rfl 1 (pc' := 51) (L' := [(0, .ref (A 0)), (1, .ref (A (20 + i)))]) (st' := [.ref (A 0)]) rfl ?_
  refine At.gf rfl (by decide) tH_2 rfl ?_
  refine At.gf rfl (by decide) tc7_2 rfl ?_
  refine At.go (q := xm186) rfl 2 (pc' := 61) (L' := [(0, .ref (A 0)), (1, .ref (A (20 + i)))]) (st' := [.ref (A 0)]) rfl ?_
  refine At.gf rfl (by decide) tH_2 rfl ?_
  refine At.gf rfl (by decide) tmf_2 hm4 ?_
  refine At.go (q := xm186) rfl 2 (pc' := 71) (L' := [(0, .ref (A 0)), (1, .ref (A (20 + i)))]) (st' := [.ref (A 0)]) rfl ?_
  refine At.gf rfl (by decide) tH_2 rfl ?_
  refine At.gf rfl (by decide) tmf_2 hm4 ?_
  refine At.go (q := xm186) rfl 1 (pc' := 78) (L' := [(0, .ref (A 0)), (1, .ref (A (20 + i)))]) (st' := [.ref (A (20 + i)), .ref q.1.1]) rfl ?_
  refine At.gf rfl (by decide) tz_2 rfl ?_
  refine At.clm (as := [.ref q.1.1, .int (Int32.ofNat ln)]) (rest := []) rfl (by decide) rfl (Nat.le_of_ble_eq_true rfl) (Nat.le_of_ble_eq_true rfl) (xrck_o (by decide) (by decide) x6 (by decide)) (Nat.le_of_ble_eq_true rfl) (m_giveKey x6 x7 x2 hgv (by omega)) (fun v9 g3 c3 s3 hv9 => ?_)
  obtain ⟨rfl, eg3, rfl, rfl⟩ := hv9
  have f3 : FrX (fun x => x = q.1.2.1) g2 g3 := by rw [eg3]; exact FrX.st x2 rfl rfl rfl rfl (fun fs h => by cases h) (fun ci fs h => by cases h)
  have hc9 := hcap (9) (by decide)
  have hc4 := hcap (4) (by decide)
  have xA := cA_2
  have xB := cB_1
  have fz3 : FrX (fun a => Z (ow a)) g2 g3 := f3.mono (fun x _ e => by have e9 : x = q.1.2.1 := e; show Z (ow x); rw [e9, x5]; exact hzi _ (by omega))
  have FT9 := FrX.tr FT2 fz3 (fun x hx => Or.inl hx)
  have O2 := tO2
  have hng : ∀ j, j < 77 → ¬ A j = q.1.2.1 := fun j hj e => by have u := (how j hj).1; rw [e, x5] at u; omega
  have eA : capL g3 (A 9) = capL g2 (A 9) := f3.cap (hng _ (by omega)) O2 tvL_2
  have eO : capL g3 (A 4) = capL g2 (A 4) := f3.cap (hng _ (by omega)) O2 r6
  have hc73 : g3[A 7]? = some (.inr (3, [.ref (A 11), .ref (A 12), .ref (A 13), .ref (A 14), .int (M.2.2.2.1 i).1, .int al, .int 1])) := f3.ob tc7_2 (by decide) (hng 7 (by decide))
  have hTn : ∀ p ∈ (mTabs (mEnded (mShelf M D) (M.2.2.1 ++ ts)) (giveT M.2.2.2.2.2.2 q.1.1 ln)).2.2.2.2.2.2, hTq g3 ow k p := fun p hp9 => by
    obtain ⟨p0, hp0, rfl⟩ := List.mem_map.mp (show p ∈ giveT M.2.2.2.2.2.2 q.1.1 ln from hp9)
    obtain ⟨w1, w2, w3, w4, w5, wf9, w6, w7, w8, w9, w10⟩ := hT2 p0 hp0
    have w10' : (p0.2.2.2.1 = false ∧ wf9[6]? = some .null) ∨ (p0.2.2.2.1 = true ∧ ∃ (cf oa aa pa wa : Nat) (ws : Value) (es : List Value) (gs vs : List Int32), wf9[6]? = some (.ref cf) ∧ hFo g3 cf oa aa pa p0.1.2.2 wa ws es gs osCK ∧ g3[p0.1.2.2]? = some (.inl (16, vs.map Value.int)) ∧ vs.length = 3 ∧ ow cf = k + 302 ∧ ow oa = k + 302 ∧ ow aa = k + 302 ∧ ow p0.1.2.2 = k + 303) := by
      rcases w10 with w10 | ⟨c1', cf, oa, aa, pa, wa, ws, es, gs, vs, c2', c3', c4', c5', c6', c7', c8', c9'⟩
      · exact Or.inl w10
      · have hx : ∀ a, (ow a = k + 302 ∨ ow a = k + 303) → ¬ a = q.1.2.1 := fun a ha e => by rw [e, x5] at ha; omega
        exact Or.inr ⟨c1', cf, oa, aa, pa, wa, ws, es, gs, vs, c2', c3'.fr f3 (hx _ (Or.inl c6')) (hx _ (Or.inl c7')) (hx _ (Or.inl c8')), f3.2.2.1 _ _ c4' rfl (Or.inl (hx _ (Or.inr c9'))), c5', c6', c7', c8', c9'⟩
    have hnt : ¬ p0.1.1 = q.1.2.1 := fun e => by rw [e, x5] at w4; omega
    by_cases hpq : p0.1.1 = q.1.1
    · have : p0 = q := htd p0 hp0 q hq (Or.inl hpq)
      subst this
      rw [if_pos rfl]
      exact ⟨w1.fr f3, by rw [eg3]; exact xs_eq x2, by show (List.set _ _ _).length = 64; rw [List.length_set]; exact w3, w4, w5, wf9, f3.ob w6 (by decide) hnt, w7, w8, w9, w10'⟩
    · rw [if_neg hpq]
      exact ⟨w1.fr f3, f3.2.2.1 _ _ w2 rfl (Or.inl (fun e => hpq (congrArg (fun z : TQ => z.1.1) (htd p0 hp0 q hq (Or.inr e))))), w3, w4, w5, wf9, f3.ob w6 (by decide) hnt, w7, w8, w9, w10'⟩
  have hTd : ∀ p ∈ (mTabs (mEnded (mShelf M D) (M.2.2.1 ++ ts)) (giveT M.2.2.2.2.2.2 q.1.1 ln)).2.2.2.2.2.2, ∀ r ∈ (mTabs (mEnded (mShelf M D) (M.2.2.1 ++ ts)) (giveT M.2.2.2.2.2.2 q.1.1 ln)).2.2.2.2.2.2, p.1.1 = r.1.1 ∨ p.1.2.1 = r.1.2.1 → p = r := fun p hp9 r hr9 he => by
    obtain ⟨p0, hp0, rfl⟩ := List.mem_map.mp (show p ∈ giveT M.2.2.2.2.2.2 q.1.1 ln from hp9)
    obtain ⟨r0, hr0, rfl⟩ := List.mem_map.mp (show r ∈ giveT M.2.2.2.2.2.2 q.1.1 ln from hr9)
    have k1 : ∀ x : TQ, (if x.1.1 = q.1.1 then giveQ x ln else x).1 = x.1 := fun x => by split <;> rfl
    rw [k1, k1] at he
    rw [htd p0 hp0 r0 hr0 he]
  rw [List.length_append] at r10
  exact At.rt rfl rfl ⟨_, _, _, _, rfl, rfl, HSu.of h FT9 hzk (h.upd (Z := Z) FT9 (fun _ _ => rfl) (fun z => by have z9 := hz _ z; omega) (fun z => by have z9 := hz _ z; omega) (Or.inl ⟨(fun z => by have z9 := hz _ z; omega), rfl, rfl⟩) (Or.inl ⟨(fun z => by have z9 := hz _ z; omega), rfl⟩) (Or.inr ⟨_, (f3.ls (hng 9 (by omega)) O2 tvL_2), (tvE_2.fr f3)⟩) (Or.inr ⟨_, (f3.ls (hng 4 (by omega)) O2 r6), (r7.fr f3)⟩) (Or.inl ⟨(fun z => by have z9 := hz _ z; omega), rfl⟩) (Or.inl (fun z => by have z9 := hz _ z; omega)) (Or.inl ⟨(fun z => by have z9 := hz _ z; omega), (fun z => by have z9 := hz _ z; omega), (fun z => by have z9 := hz _ z; omega)⟩) (fun j hj => Or.inl (fun z => by simp only [List.mem_cons, List.not_mem_nil, or_false] at hj; have z9 := hz _ z; omega)) (Or.inl ⟨(fun z => by have z9 := hz _ z; omega), (fun z => by have z9 := hz _ z; omega), (fun z => by have z9 := hz _ z; omega), (fun z => by have z9 := hz _ z; omega), rfl, rfl⟩) (Or.inl (fun j j1 j2 z => by have z9 := hz _ z; omega)) (fun j hj => Or.inl ⟨(fun z => by have z9 := hz _ z; omega), (fun z => by have z9 := hz _ z; omega), (fun z => by have z9 := hz _ z; omega), (fun z => by have z9 := hz _ z; omega), (fun z => by have z9 := hz _ z; omega), (fun z => by have z9 := hz _ z; omega), rfl⟩) (Or.inr ⟨hTn, hTd⟩) (fun j hj => if e : j = 9 then Or.inr (by rw [e]; omega) else if e : j = 4 then Or.inr (by rw [e]; omega) else Or.inl (fun z => by have j9 := lsI_c j hj; have z9 := hz _ z; omega))) [9, 4] (by decide) (fun j z hj => by have j9 := lsI_c j hj; have z9 := hz _ z; simp only [List.mem_cons, List.not_mem_nil, or_false]; omega) (by simp only [sumL, List.map_cons, List.map_nil, List.sum_cons, List.sum_nil]; omega) (by simp only [sumL, List.map_cons, List.map_nil, List.sum_cons, List.sum_nil]; omega), hc73⟩
