/-! the house: rows are put and altered (written by wip/p27/c999999997.py) -/
/-- a change that touches its draft, what it touched and made, and the stack -/
theorem HSu.ch {hp : List XC} {ow : Nat → Nat} {k : Nat} {A : Nat → Nat} {M : HM} {rf : Int32} {np nl : Nat} {hp' : List XC} {c s Kc Ks : Nat} {lb al gi : Int32} {D ts ms : List En} {vs : List Int32} (h : HR hp ow k A M rf np nl) (f : FrX (fun x => x = A 7 ∨ x = A 15 ∨ x = A 12 ∨ x = A 13 ∨ x = A 73) hp hp') (hC9 : ChS hp' A lb al gi D ts ms) (hv : hp'[A 73]? = some (.inl (16, vs.map Value.int))) (hl : vs.length = 120) (k1 : capL hp' (A 15) ≤ 7000) (k2 : capL hp' (A 12) ≤ 7000) (k3 : capL hp' (A 13) ≤ 7000) (hc : c + (capL hp (A 15) + capL hp (A 12) + capL hp (A 13)) ≤ capL hp' (A 15) + capL hp' (A 12) + capL hp' (A 13) + Kc) (hs : s + 4 * (capL hp (A 15) + capL hp (A 12) + capL hp (A 13)) ≤ 4 * (capL hp' (A 15) + capL hp' (A 12) + capL hp' (A 13)) + Ks) : HSu hp hp' ow k A M rf np nl c s Kc Ks := by
  obtain ⟨hO, how, h0, h1, h3, hD, hF, hE, hT, ⟨lv9, hG⟩, hC, hL9, hQ, hW, hS, hTq9, htd, hcap⟩ := id h
  obtain ⟨⟨clb, cal, cgi, hC1⟩, hC2, clv, hC3⟩ := hC
  obtain ⟨g1, g2, g3, g4⟩ := hC9
  obtain ⟨Z, hZ⟩ : ∃ Z : Nat → Prop, Z = fun n => n = k + 7 ∨ n = k + 15 ∨ n = k + 12 ∨ n = k + 13 ∨ n = k + 73 := ⟨_, rfl⟩
  have hz : ∀ n, Z n → n = k + 7 ∨ n = k + 15 ∨ n = k + 12 ∨ n = k + 13 ∨ n = k + 73 := fun n z9 => by rw [hZ] at z9; exact z9
  have hzi : ∀ n, (n = k + 7 ∨ n = k + 15 ∨ n = k + 12 ∨ n = k + 13 ∨ n = k + 73) → Z n := fun n z9 => by rw [hZ]; exact z9
  have hzk : ∀ n, Z n → k ≤ n ∧ n < k + 1000 := fun n z => by have z9 := hz n z; omega
  have f' : FrX (fun a => Z (ow a)) hp hp' := f.mono (fun x _ e => by
    have e9 : x = A 7 ∨ x = A 15 ∨ x = A 12 ∨ x = A 13 ∨ x = A 73 := e
    show Z (ow x)
    rcases e9 with e9 | e9 | e9 | e9 | e9
    · rw [e9, (how _ (by omega)).1]; exact hzi _ (by omega)
    · rw [e9, (how _ (by omega)).1]; exact hzi _ (by omega)
    · rw [e9, (how _ (by omega)).1]; exact hzi _ (by omega)
    · rw [e9, (how _ (by omega)).1]; exact hzi _ (by omega)
    · rw [e9, (how _ (by omega)).1]; exact hzi _ (by omega))
  have hScn : hSc hp' A := hSc.stk (vs := vs) hW (fun j hj hn c hc h7 => f'.2.2.1 _ _ hc h7 (Or.inl (nz (how (60 + j) (by omega)).1 (fun z => by have z9 := hz _ z; omega)))) hv hl
  exact HSu.of h f' hzk (h.upd (Z := Z) f' (fun _ _ => rfl) (fun z => by have z9 := hz _ z; omega) (fun z => by have z9 := hz _ z; omega) (Or.inl ⟨(fun z => by have z9 := hz _ z; omega), rfl, rfl⟩) (Or.inl ⟨(fun z => by have z9 := hz _ z; omega), rfl⟩) (Or.inl ⟨(fun z => by have z9 := hz _ z; omega), rfl⟩) (Or.inl ⟨(fun z => by have z9 := hz _ z; omega), rfl⟩) (Or.inl ⟨(fun z => by have z9 := hz _ z; omega), rfl⟩) (Or.inl (fun z => by have z9 := hz _ z; omega)) (Or.inr ⟨⟨_, _, _, g1⟩, f'.ob hC2 (by decide) (nz (how 11 (by decide)).1 (fun z => by have z9 := hz _ z; omega)), clv, f'.ob hC3 (by decide) (nz (how 14 (by decide)).1 (fun z => by have z9 := hz _ z; omega))⟩) (fun j hj => if e : j = 15 then Or.inr (by rw [e]; exact ⟨_, g2⟩) else if e : j = 12 then Or.inr (by rw [e]; exact ⟨_, g3⟩) else if e : j = 13 then Or.inr (by rw [e]; exact ⟨_, g4⟩) else Or.inl (fun z => by simp only [List.mem_cons, List.not_mem_nil, or_false] at hj; have z9 := hz _ z; omega)) (Or.inl ⟨(fun z => by have z9 := hz _ z; omega), (fun z => by have z9 := hz _ z; omega), (fun z => by have z9 := hz _ z; omega), (fun z => by have z9 := hz _ z; omega), rfl, rfl⟩) (Or.inr hScn) (fun j hj => Or.inl ⟨(fun z => by have z9 := hz _ z; omega), (fun z => by have z9 := hz _ z; omega), (fun z => by have z9 := hz _ z; omega), (fun z => by have z9 := hz _ z; omega), (fun z => by have z9 := hz _ z; omega), (fun z => by have z9 := hz _ z; omega), rfl⟩) (Or.inl ⟨(fun z => by have z9 := hz _ z; omega), (fun z => by have z9 := hz _ z; omega), (fun z => by have z9 := hz _ z; omega), (fun z => by have z9 := hz _ z; omega), rfl⟩) (fun j hj => if e : j = 15 then Or.inr (by rw [e]; omega) else if e : j = 12 then Or.inr (by rw [e]; omega) else if e : j = 13 then Or.inr (by rw [e]; omega) else Or.inl (fun z => by have j9 := lsI_c j hj; have z9 := hz _ z; omega))) [15, 12, 13] (by decide) (fun j z hj => by have j9 := lsI_c j hj; have z9 := hz _ z; simp only [List.mem_cons, List.not_mem_nil, or_false]; omega) (by simp only [sumL, List.map_cons, List.map_nil, List.sum_cons, List.sum_nil]; omega) (by simp only [sumL, List.map_cons, List.map_nil, List.sum_cons, List.sum_nil]; omega)
/-- the cells of a row that is put -/
def putCs (gv : Bool) (q : TQ) (lb : Nat) (vl : Nat → Int32) : List Int32 := putC gv (64 * ((q.2.2.2.2.1[lb]?).getD 0 + 1) + Int32.ofNat lb) vl q.2.2.1.2.2.1.length
def putRc (D : List En) (sr : Int32) (lb : Nat) (cs : List Int32) : Int32 := if ((cs[0]?).getD (0 : Int32)) = -1000000000 then 110 else match findE D (sr, ((cs[0]?).getD (0 : Int32)), Int32.ofNat lb) with | some f => if f.2.2.2.1 = true then 0 else 107 | none => 0
def putEn (q : TQ) (lb : Nat) (cs : List Int32) : En := (q.2.1, ((cs[0]?).getD (0 : Int32)), Int32.ofNat lb, false, cs, q.1.1)
theorem h_put {S : List Int32} {hp : List XC} {ow : Nat → Nat} {k : Nat} {A : Nat → Nat} {M : HM} {rf : Int32} {np nl : Nat} {if0 if1 items vb : Nat} {kd fr : Nat → Nat} {os : List (Nat × Int32)} {sf mf ces : List Value} {ws : Value} {es : List Value} {gs : List Int32} (h : HR hp ow k A M rf np nl) {lb : Nat} {al gi : Int32} {D ts ms : List En} {q : TQ} {gv b27 : Bool} (hC9 : ChS hp A (Int32.ofNat lb) al gi D ts ms) (hS9 : StF hp A if0 if1 items vb kd fr os sf mf ces ws es gs) (hq : q ∈ M.2.2.2.2.2.2) (hm4 : mf[4]? = some (.ref q.1.1)) (hlb : lb < 64) (hsD : Srt D) (hlD : D.length ≤ 3000) (hlt : ts.length ≤ 3000) (hlm : ms.length ≤ 3000) (hN : os.length ≤ 120) (e16 : xeq xKC (.retAddr vb) (.retAddr 16) = some true) (e27 : xeq xKC (.retAddr vb) (.retAddr 27) = some b27) (hi0 : 0 < items) (e17 : xeq xKC (.retAddr (kd 0)) (.retAddr 17) = some gv) (hnm : ∀ (i : Nat) (q : Nat × Int32), os[i]? = some q → q.1 = 3 → ∃ j : Nat, j ≤ 100000 ∧ q.2 = Int32.ofNat j) (hw : q.2.2.1.2.2.1.length ≤ 100) (hw1 : 1 ≤ q.2.2.1.2.2.1.length) (hitm : ∀ i, i < q.2.2.1.2.2.1.length → ¬ (i = 0 ∧ gv = true) → i < items ∧ fr i ≤ itTo items if0 os.length i true fr ∧ itTo items if0 os.length i true fr ≤ os.length ∧ (resR (-1000000000) (fun _ => -1000000000) ((os.take (itTo items if0 os.length i true fr)).drop (fr i)) []).isSome = true) : Me S 8 191 [.ref (A 7), .ref (A 60), .ref (A 75)] hp (fun v hp' c s => v = some (.int (putRc D q.2.1 lb (putCs gv q lb (fun i => resE (-1000000000) (fun _ => -1000000000) ((os.take (itTo items if0 os.length i true fr)).drop (fr i)))))) ∧ HSu hp hp' ow k A M rf np nl c s 2 105 ∧ ChS hp' A (Int32.ofNat lb) (if putRc D q.2.1 lb (putCs gv q lb (fun i => resE (-1000000000) (fun _ => -1000000000) ((os.take (itTo items if0 os.length i true fr)).drop (fr i)))) = 0 then 1 else al) (bI gv) (if putRc D q.2.1 lb (putCs gv q lb (fun i => resE (-1000000000) (fun _ => -1000000000) ((os.take (itTo items if0 os.length i true fr)).drop (fr i)))) = 0 then storeE D (putEn q lb (putCs gv q lb (fun i => resE (-1000000000) (fun _ => -1000000000) ((os.take (itTo items if0 os.length i true fr)).drop (fr i))))) else D) (if putRc D q.2.1 lb (putCs gv q lb (fun i => resE (-1000000000) (fun _ => -1000000000) ((os.take (itTo items if0 os.length i true fr)).drop (fr i)))) = 0 then ts ++ [putEn q lb (putCs gv q lb (fun i => resE (-1000000000) (fun _ => -1000000000) ((os.take (itTo items if0 os.length i true fr)).drop (fr i))))] else ts) (if putRc D q.2.1 lb (putCs gv q lb (fun i => resE (-1000000000) (fun _ => -1000000000) ((os.take (itTo items if0 os.length i true fr)).drop (fr i)))) = 0 then ms ++ [putEn q lb (putCs gv q lb (fun i => resE (-1000000000) (fun _ => -1000000000) ((os.take (itTo items if0 os.length i true fr)).drop (fr i))))] else ms) ∧ (∃ vs : List Int32, hp'[A 73]? = some (.inl (16, vs.map Value.int)) ∧ vs.length = 120) ∧ FrX (fun x => x = A 7 ∨ x = A 15 ∨ x = A 12 ∨ x = A 13 ∨ x = A 73) hp hp') := by
  obtain ⟨hO, how, h0, h1, h3, hD, hF, hE, hT, ⟨lv9, hG⟩, hC, hL9, hQ, hW, hS, hTq9, htd, hcap⟩ := id h
  have ne : ∀ a b, a < 77 → b < 77 → a ≠ b → A a ≠ A b := fun a b ha hb hab e => by have u := (how a ha).1; rw [e, (how b hb).1] at u; omega
  obtain ⟨hc7, ⟨das, hd1, hd2⟩, ⟨tas, ht1, ht2⟩, ⟨mas, hm1, hm2⟩⟩ := hC9
  obtain ⟨s1, s2, s3, ⟨v0, s4, s5⟩, s6, s7⟩ := hS9
  obtain ⟨⟨clb, cal, cgi, hC1⟩, hC2, clv, hC3⟩ := hC
  have hdl := hd2.1
  have htl := ht2.1
  have hml := hm2.1
  obtain ⟨b1, b2, b3, b4, b5, fs, b6, b7, b8, b9, b10⟩ := hTq9 q hq
  have hfs : ∃ tf, fs = .int q.2.1 :: tf := by
    obtain ⟨ca, ka, ra, ga, chk, dv, u1, -⟩ := b1
    cases u1.symm.trans b6
    exact ⟨_, rfl⟩
  obtain ⟨tf, rfl⟩ := hfs
  have c15 := hcap 15 (by decide)
  have c12 := hcap 12 (by decide)
  have c13 := hcap 13 (by decide)
  have hgv : q.2.2.2.2.1[lb]? = some ((q.2.2.2.2.1[lb]?).getD 0) := by rw [List.getElem?_eq_getElem (show lb < q.2.2.2.2.1.length by omega)]; rfl
  obtain ⟨cs, ecs⟩ : ∃ cs, cs = (putCs gv q lb (fun i => resE (-1000000000) (fun _ => -1000000000) ((os.take (itTo items if0 os.length i true fr)).drop (fr i)))) := ⟨_, rfl⟩
  have hcl : cs.length = q.2.2.1.2.2.1.length := by rw [ecs]; unfold putCs putC; rw [List.length_map, List.length_range]
  have hk0 : cs[0]? = some (((cs[0]?).getD (0 : Int32))) := by rw [List.getElem?_eq_getElem (show 0 < cs.length by omega)]; rfl
  obtain ⟨key, ekey⟩ : ∃ key, key = ((cs[0]?).getD (0 : Int32)) := ⟨_, rfl⟩
  have hkey : cs[0]? = some key := by rw [ekey]; exact hk0
  refine me_imp (m_put (S := S) (l := A 15) (T := q.2.2.1) (key := key) hc7 hC2 (ne 15 12 (by decide) (by decide) (by decide)) (ne 15 13 (by decide) (by decide) (by decide)) (ne 12 13 (by decide) (by decide) (by decide)) hO hd1 ht1 hm1 hd2 ht2 hm2 hsD (by omega) (by omega) (by omega) s6 hm4 b1 b6 b7 b2 hgv (by omega) s1 s3 s4 (by omega) (by omega) e16 e27 hi0 e17 hnm (by omega) hw1 hitm (by rw [← hkey, ecs]; rfl)) (fun v hp' c s hv => ?_)
  rw [← ecs]
  have hpc : putC gv (64 * ((q.2.2.2.2.1[lb]?).getD 0 + 1) + Int32.ofNat lb) (fun i => resE (-1000000000) (fun _ => -1000000000) ((os.take (itTo items if0 os.length i true fr)).drop (fr i))) q.2.2.1.2.2.1.length = cs := ecs.symm
  rw [hpc] at hv
  obtain ⟨vs, hvs, hv⟩ := hv
  have f1 : FrX (fun x => x = A 7) hp (hp.set (A 7) (.inr (3, [.ref (A 11), .ref (A 12), .ref (A 13), .ref (A 14), .int (Int32.ofNat lb), .int al, .int (bI gv)]))) := FrX.so hc7 (by decide) rfl (by decide)
  have x7 : (hp.set (A 7) (.inr (3, [.ref (A 11), .ref (A 12), .ref (A 13), .ref (A 14), .int (Int32.ofNat lb), .int al, .int (bI gv)])))[A 7]? = some (.inr (3, [.ref (A 11), .ref (A 12), .ref (A 13), .ref (A 14), .int (Int32.ofNat lb), .int al, .int (bI gv)])) := xs_eq hc7
  have s41 := f1.2.2.1 _ _ s4 rfl (Or.inl (fun e => ne 73 7 (by decide) (by decide) (by decide) e))
  have f2 := hPut_fr (vs := vs) (cs := cs) s41
  have y7 := f2.ob x7 (by decide) (fun e => ne 7 73 (by decide) (by decide) (by decide) e)
  have y73 := hPut_sa (vs := vs) (cs := cs) s41
  have F2 : FrX (fun x => x = A 7 ∨ x = A 15 ∨ x = A 12 ∨ x = A 13 ∨ x = A 73) hp (hPut (hp.set (A 7) (.inr (3, [.ref (A 11), .ref (A 12), .ref (A 13), .ref (A 14), .int (Int32.ofNat lb), .int al, .int (bI gv)]))) (A 73) vs cs) := FrX.tr (f1.mono (fun x _ e => Or.inl e)) (f2.mono (fun x _ e => Or.inr (Or.inr (Or.inr (Or.inr e))))) (fun x hx => Or.inl hx)
  have hv120 : vs.length = 120 := by omega
  have fin : ∀ rc : Int32, rc ≠ 0 → putRc D q.2.1 lb cs = rc → v = some (.int rc) → hp' = hPut (hp.set (A 7) (.inr (3, [.ref (A 11), .ref (A 12), .ref (A 13), .ref (A 14), .int (Int32.ofNat lb), .int al, .int (bI gv)]))) (A 73) vs cs → c = 1 → s = q.2.2.1.2.2.1.length → v = some (.int (putRc D q.2.1 lb cs)) ∧ HSu hp hp' ow k A M rf np nl c s 2 105 ∧ ChS hp' A (Int32.ofNat lb) (if putRc D q.2.1 lb cs = 0 then 1 else al) (bI gv) (if putRc D q.2.1 lb cs = 0 then storeE D (putEn q lb cs) else D) (if putRc D q.2.1 lb cs = 0 then ts ++ [putEn q lb cs] else ts) (if putRc D q.2.1 lb cs = 0 then ms ++ [putEn q lb cs] else ms) ∧ (∃ vs : List Int32, hp'[A 73]? = some (.inl (16, vs.map Value.int)) ∧ vs.length = 120) ∧ FrX (fun x => x = A 7 ∨ x = A 15 ∨ x = A 12 ∨ x = A 13 ∨ x = A 73) hp hp' := fun rc hrc e1 e2 e3 e4 e5 => by
    rw [e1, if_neg hrc, if_neg hrc, if_neg hrc, if_neg hrc]
    subst e3 e4 e5
    have F3 : FrX (fun x => x = A 7 ∨ x = A 73) hp (hPut (hp.set (A 7) (.inr (3, [.ref (A 11), .ref (A 12), .ref (A 13), .ref (A 14), .int (Int32.ofNat lb), .int al, .int (bI gv)]))) (A 73) vs cs) := FrX.tr (f1.mono (fun x _ e => Or.inl e)) (f2.mono (fun x _ e => Or.inr e)) (fun x hx => Or.inl hx)
    have e15 := F3.cap (fun e => by rcases e with e | e <;> exact ne 15 _ (by decide) (by decide) (by decide) e) hO hd1
    have e12 := F3.cap (fun e => by rcases e with e | e <;> exact ne 12 _ (by decide) (by decide) (by decide) e) hO ht1
    have e13 := F3.cap (fun e => by rcases e with e | e <;> exact ne 13 _ (by decide) (by decide) (by decide) e) hO hm1
    have hC' : ChS (hPut (hp.set (A 7) (.inr (3, [.ref (A 11), .ref (A 12), .ref (A 13), .ref (A 14), .int (Int32.ofNat lb), .int al, .int (bI gv)]))) (A 73) vs cs) A (Int32.ofNat lb) al (bI gv) D ts ms := ⟨y7, ⟨das, F3.ls (fun e => by rcases e with e | e <;> exact ne 15 _ (by decide) (by decide) (by decide) e) hO hd1, hd2.fr F3⟩, ⟨tas, F3.ls (fun e => by rcases e with e | e <;> exact ne 12 _ (by decide) (by decide) (by decide) e) hO ht1, ht2.fr F3⟩, ⟨mas, F3.ls (fun e => by rcases e with e | e <;> exact ne 13 _ (by decide) (by decide) (by decide) e) hO hm1, hm2.fr F3⟩⟩
    exact ⟨e2, HSu.ch h F2 hC' y73 hv120 (by omega) (by omega) (by omega) (by omega) (by omega), hC', ⟨vs, y73, hv120⟩, F2⟩
  rcases hv with ⟨a1, a2, a3, a4, a5⟩ | ⟨a1, ⟨f, hf1, hf2⟩, a2, a3, a4, a5⟩ | ⟨a1, hf, a2, c1, s1, hM, a4, a5⟩
  · exact fin 110 (by decide) (by unfold putRc; rw [← ekey, if_pos a1]) a2 a3 a4 a5
  · exact fin 107 (by decide) (by unfold putRc; rw [← ekey, if_neg a1, hf1]; show (if f.2.2.2.1 = true then (0 : Int32) else 107) = 107; rw [hf2]; rfl) a2 a3 a4 a5
  · have hrc : putRc D q.2.1 lb cs = 0 := by
      unfold putRc
      rw [← ekey, if_neg a1]
      cases e9 : findE D (q.2.1, key, Int32.ofNat lb) with
      | none => rfl
      | some f => show (if f.2.2.2.1 = true then (0 : Int32) else 107) = 0; rw [hf f e9]; rfl
    rw [hrc, if_pos rfl, if_pos rfl, if_pos rfl, if_pos rfl]
    obtain ⟨m1, m2, m3, m4, m5, m6, m7, m8, m9, m10, m11, m12⟩ := hM
    have f3 : FrX (fun x => x = A 7) (hPut (hp.set (A 7) (.inr (3, [.ref (A 11), .ref (A 12), .ref (A 13), .ref (A 14), .int (Int32.ofNat lb), .int al, .int (bI gv)]))) (A 73) vs cs) ((hPut (hp.set (A 7) (.inr (3, [.ref (A 11), .ref (A 12), .ref (A 13), .ref (A 14), .int (Int32.ofNat lb), .int al, .int (bI gv)]))) (A 73) vs cs).set (A 7) (.inr (3, [.ref (A 11), .ref (A 12), .ref (A 13), .ref (A 14), .int (Int32.ofNat lb), .int 1, .int (bI gv)]))) := FrX.so y7 (by decide) rfl (by decide)
    have z7 : ((hPut (hp.set (A 7) (.inr (3, [.ref (A 11), .ref (A 12), .ref (A 13), .ref (A 14), .int (Int32.ofNat lb), .int al, .int (bI gv)]))) (A 73) vs cs).set (A 7) (.inr (3, [.ref (A 11), .ref (A 12), .ref (A 13), .ref (A 14), .int (Int32.ofNat lb), .int 1, .int (bI gv)])))[A 7]? = some (.inr (3, [.ref (A 11), .ref (A 12), .ref (A 13), .ref (A 14), .int (Int32.ofNat lb), .int 1, .int (bI gv)])) := xs_eq y7
    have F3 : FrX (fun x => x = A 7 ∨ x = A 73) hp _ := FrX.tr (FrX.tr (f1.mono (fun x _ e => Or.inl e)) (f2.mono (fun x _ e => Or.inr e)) (fun x hx => Or.inl hx)) (f3.mono (fun x _ e => Or.inl e)) (fun x hx => Or.inl hx)
    have e15 := F3.cap (fun e => by rcases e with e | e <;> exact ne 15 _ (by decide) (by decide) (by decide) e) hO hd1
    have e12 := F3.cap (fun e => by rcases e with e | e <;> exact ne 12 _ (by decide) (by decide) (by decide) e) hO ht1
    have e13 := F3.cap (fun e => by rcases e with e | e <;> exact ne 13 _ (by decide) (by decide) (by decide) e) hO hm1
    have F4 : FrX (fun x => x = A 7 ∨ x = A 15 ∨ x = A 12 ∨ x = A 13 ∨ x = A 73) hp hp' := FrX.tr (FrX.tr F2 (f3.mono (fun x _ e => Or.inl e)) (fun x hx => Or.inl hx)) (FrX.mono m1 (fun x _ (e : x = A 15 ∨ x = A 12 ∨ x = A 13) => Or.inr (e.elim Or.inl (fun e => Or.inr (e.elim Or.inl (fun e => Or.inr (Or.inl e))))))) (fun x hx => Or.inl hx)
    have hen : putEn q lb cs = (q.2.1, key, Int32.ofNat lb, false, cs, q.1.1) := by unfold putEn; rw [ekey]
    have z73 := m1.2.2.1 _ _ (f3.2.2.1 _ _ y73 rfl (Or.inl (fun e => ne 73 7 (by decide) (by decide) (by decide) e))) rfl (Or.inl (fun e => by rcases e with e | e | e <;> exact ne 73 _ (by decide) (by decide) (by decide) e))
    have w7 := m1.ob z7 (by decide) (fun e => by rcases e with e | e | e <;> exact ne 7 _ (by decide) (by decide) (by decide) e)
    have hC' : ChS hp' A (Int32.ofNat lb) 1 (bI gv) (storeE D (putEn q lb cs)) (ts ++ [putEn q lb cs]) (ms ++ [putEn q lb cs]) := by rw [hen]; exact ⟨w7, m2, m3, m4⟩
    have hsl := storeE_len hsD (q.2.1, key, Int32.ofNat lb, false, cs, q.1.1)
    rw [List.length_append] at m11 m12
    have h1l : ([(q.2.1, key, Int32.ofNat lb, false, cs, q.1.1)] : List En).length = 1 := rfl
    exact ⟨a2, HSu.ch h F4 hC' z73 hv120 (by omega) (by omega) (by omega) (by omega) (by omega), hC', ⟨vs, z73, hv120⟩, F4⟩
