/-! what a statement does to a house, as a function of its model (by hand) -/
/-- what is told, the letter of a refusal or 0, the house -/
abbrev RM : Type := Int32 × Int32 × HM
def cntR (r : RM) (i ln : Nat) : RM := if r.2.1 = 0 then (r.1, 0, mTally r.2.2 (addT r.2.2.2.2.2.2.1 (ln * 4 + 0))) else (0, r.2.1, mTally (mS r.2.2 i (sRea (r.2.2.2.2.2.1 i) r.2.1)) (addT r.2.2.2.2.2.2.1 (ln * 4 + 1)))
def fltR (M : HM) (ln f : Nat) : RM := (-1 - Int32.ofNat f, 0, mTally M (addT M.2.2.2.2.1 (ln * 4 + 2)))
def putM (M : HM) (i ln : Nat) (q : TQ) (gv : Bool) (vl : Nat → Int32) : RM := if putRc (vwE M i) q.2.1 ln (putCs gv q ln vl) = 0 then (if judgeQ M q (storeE (vwE M i) (putEn q ln (putCs gv q ln vl))) [putEn q ln (putCs gv q ln vl)] (M.2.2.2.1 i).1 = 0 then (1, 0, keepG M i (storeE (vwE M i) (putEn q ln (putCs gv q ln vl))) [putEn q ln (putCs gv q ln vl)] gv q.1.1 ln) else (0, judgeQ M q (storeE (vwE M i) (putEn q ln (putCs gv q ln vl))) [putEn q ln (putCs gv q ln vl)] (M.2.2.2.1 i).1, M)) else (0, putRc (vwE M i) q.2.1 ln (putCs gv q ln vl), M)
def altA (M : HM) (i : Nat) (st : A3 → En → A3) (al : List En) : A3 := al.foldl st (vwE M i, [], [])
def altM (M : HM) (i ln : Nat) (q : TQ) (st : A3 → En → A3) (al : List En) : RM := if judgeQ M q (altA M i st al).1 (altA M i st al).2.2 (M.2.2.2.1 i).1 = 0 then (Int32.ofNat al.length, 0, keepG M i (altA M i st al).1 (altA M i st al).2.1 false q.1.1 ln) else (0, judgeQ M q (altA M i st al).1 (altA M i st al).2.2 (M.2.2.2.1 i).1, M)
def lowM (M : HM) (i : Nat) (q : TQ) (key other : Int32) : RM := if lowRc (vwE M i) q key other (M.2.2.2.1 i).1 = 0 then (if (M.2.2.2.1 i).2.2.1 = true then (0, 116, M) else (1, 0, mEnded (mShelf M (lowD (vwE M i) (lowO (vwE M i) q key other (M.2.2.2.1 i).1))) (M.2.2.1 ++ (lowO (vwE M i) q key other (M.2.2.2.1 i).1).toList))) else (0, lowRc (vwE M i) q key other (M.2.2.2.1 i).1, M)
def drM (M : HM) (i : Nat) (q : TQ) : RM := if q.2.2.1.2.1 = (M.2.2.2.1 i).1 then (if (M.2.2.2.1 i).2.2.1 = true then (0, 116, M) else (1, 0, drpM M q)) else (0, 116, M)
def mkR (M : HM) (i : Nat) (nm : Int32) : Nat × Bool × Nat := mkL (TIq M.2.2.2.2.2.2) (M.2.2.2.1 i).1 nm M.1 0 0 false 0
def mkM (M : HM) (i : Nat) (nm : Int32) (q' : TQ) : RM := if (mkR M i nm).2.1 = true ∨ 3 ≤ (mkR M i nm).1 ∨ (M.2.2.2.1 i).2.2.1 = true then (0, 116, M) else (Int32.ofNat ((mkR M i nm).1 + 1), 0, mStd (mTabs (mMade M (M.2.2.2.2.2.1 + 1)) (M.2.2.2.2.2.2 ++ [q'])) (insAt M.1 (mkR M i nm).2.2 q'.1.1))
def getM (M : HM) (i w : Nat) (top : Int32) (t : QT) : RM := if anE (Int32.ofNat t.2) top = 1 then (Int32.ofNat t.1.length, 0, mS M i (sAns (M.2.2.2.1 i) t.1.length w t.1.flatten)) else (0, 109, M)
/-- how a run of a statement ends -/
def QR (hp : List XC) (ow : Nat → Nat) (k : Nat) (A : Nat → Nat) (np nl Kc Ks : Nat) (P : RM → Prop) : XO → Prop := fun o => ∃ (r : RM) (hp' : List XC) (c s : Nat), P r ∧ HSt hp hp' ow k A r.2.2 r.2.1 np nl c s Kc Ks ∧ ((r.2.1 = 0 ∧ o = .inl (some (.int r.1), hp', c, s)) ∨ (¬ r.2.1 = 0 ∧ o = .inr (3, hp', c, s)))
theorem HSt.mono {hp hp' : List XC} {ow : Nat → Nat} {k : Nat} {A : Nat → Nat} {M' : HM} {rf' : Int32} {np nl c s Kc Ks Kc' Ks' : Nat} (h : HSt hp hp' ow k A M' rf' np nl c s Kc Ks) (h1 : Kc ≤ Kc') (h2 : Ks ≤ Ks') : HSt hp hp' ow k A M' rf' np nl c s Kc' Ks' := by
  obtain ⟨ow', np', nl', a, b, d, e, f⟩ := h
  exact ⟨ow', np', nl', a, b, d, by omega, by omega⟩
section
variable {hp g : List XC} {ow : Nat → Nat} {k : Nat} {A : Nat → Nat} {np nl Kc Ks K J i ln : Nat} {told rs : Int32} {M2 : HM} {hp' : List XC} {c s : Nat}
theorem QR.k0 (e : rs = 0) (h : HSt g hp' ow k A (mTally M2 (addT M2.2.2.2.2.1 (ln * 4 + 0))) 0 np nl c s K J) (hK : K ≤ Kc) (hJ : J ≤ Ks) : QR g ow k A np nl Kc Ks (fun r => r = cntR (told, rs, M2) i ln) (.inl (some (.int told), hp', c, s)) := by
  have e2 : cntR (told, rs, M2) i ln = (told, 0, mTally M2 (addT M2.2.2.2.2.1 (ln * 4 + 0))) := if_pos e
  refine ⟨_, hp', c, s, rfl, ?_, Or.inl ?_⟩
  · rw [e2]; exact h.mono hK hJ
  · rw [e2]; exact ⟨rfl, rfl⟩
theorem QR.k1 (e : ¬ rs = 0) (h : HSt g hp' ow k A (mTally (mS M2 i (sRea (M2.2.2.2.1 i) rs)) (addT M2.2.2.2.2.1 (ln * 4 + 1))) rs np nl c s K J) (hK : K ≤ Kc) (hJ : J ≤ Ks) : QR g ow k A np nl Kc Ks (fun r => r = cntR (told, rs, M2) i ln) (.inr (3, hp', c, s)) := by
  have e2 : cntR (told, rs, M2) i ln = (0, rs, mTally (mS M2 i (sRea (M2.2.2.2.1 i) rs)) (addT M2.2.2.2.2.1 (ln * 4 + 1))) := if_neg e
  refine ⟨_, hp', c, s, rfl, ?_, Or.inr ?_⟩
  · rw [e2]; exact h.mono hK hJ
  · rw [e2]; exact ⟨e, rfl⟩
theorem QR.imp {P P' : RM → Prop} {o : XO} (h : QR g ow k A np nl Kc Ks P o) (f : ∀ r, P r → P' r) : QR g ow k A np nl Kc Ks P' o := by
  obtain ⟨r, hp', c, s, a, b⟩ := h
  exact ⟨r, hp', c, s, f r a, b⟩
theorem QR.lift {P : RM → Prop} {o : XO} (f : FrX (fun a => k ≤ ow a ∧ ow a < k + 1000) hp g) (hc : capsH g A = capsH hp A) (h : QR g ow k A np nl Kc Ks P o) : QR hp ow k A np nl Kc Ks P o := by
  obtain ⟨r, hp', c, s, a, b, d⟩ := h
  refine ⟨r, hp', c, s, a, ?_, d⟩
  have := HSt.tr (c1 := 0) (s1 := 0) (K1 := 0) (J1 := 0) (hp := hp) (np := np) (nl := nl) (fun _ _ => rfl) f (by omega) (by omega) b
  simpa only [Nat.zero_add] using this
end
/-- of each session: its label is one of four, its lists are in order -/
def WfV (M : HM) (i : Nat) : Prop := Srt (vwE M i) ∧ EnT M.2.2.2.2.2.2 (vwE M i) ∧ (vwE M i).length ≤ 600 ∧ StT M.2.2.2.2.2.2 M.1 ∧ M.1.length ≤ 2000 ∧ M.2.2.1.length ≤ 2000 ∧ (M.2.2.2.1 i).2.2.2.2.1.length ≤ 1500 ∧ (∀ q ∈ M.2.2.2.2.2.2, ∀ f ∈ vwE M i, f.1 = q.2.1 → f.2.2.2.2.2 = q.1.1) ∧ (∀ q ∈ M.2.2.2.2.2.2, 1 ≤ q.2.2.1.2.2.1.length ∧ q.2.2.1.2.2.1.length ≤ 100)
theorem look_len {TI : Nat → Tb} {es : List En} {lb : Int32} : (lookE TI es lb).length ≤ es.length := by
  obtain ⟨ys, e, hs⟩ := fold_sub (TI := TI) (es := es) (lb := lb) es []
  have : lookE TI es lb = ys := e.trans (List.nil_append _)
  rw [this]
  exact hs.length_le
theorem look_mem {TI : Nat → Tb} {es : List En} {lb : Int32} {e : En} (h : e ∈ lookE TI es lb) : e ∈ es := by
  obtain ⟨ys, e2, hs⟩ := fold_sub (TI := TI) (es := es) (lb := lb) es []
  have e3 : lookE TI es lb = ys := e2.trans (List.nil_append _)
  rw [e3] at h
  exact hs.subset h
theorem EnT.sub {ts : List TQ} {es fs : List En} (h : EnT ts es) (hs : ∀ e ∈ fs, e ∈ es) : EnT ts fs := fun e he => h e (hs e he)
/-! the world of a bound statement, taken apart -/
def stfB (W : List WC) : Bool := wStB W && (wFoB W && (wcO W 15 6 10 && wcX W 16 17 120))
def wnmB (W : List WC) : Bool := (List.range (wfn W)).all (fun i => !(Nat.beq (wkn (wfl W 10 i)) 3) || (wisI (wfl W 11 i) && Nat.ble (wna (wfl W 11 i)) 100000))
def wrs (W : List WC) (f t : Nat) : Bool := resOk (((wos (fun _ => 0) W).take t).drop f)
theorem wos_len {σ : Nat → Nat} {W : List WC} : (wos σ W).length = wfn W := by unfold wos; rw [List.length_map, List.length_range]
theorem wnmb_s {σ : Nat → Nat} {W : List WC} (hb : wnmB W = true) : ∀ (i : Nat) (q : Nat × Int32), (wos σ W)[i]? = some q → q.1 = 3 → ∃ j : Nat, j ≤ 100000 ∧ q.2 = Int32.ofNat j := fun i q hq h3 => by
  have hi := (List.getElem?_eq_some_iff.mp hq).1
  rw [wos_len] at hi
  unfold wos at hq
  rw [List.getElem?_map, List.getElem?_range hi] at hq
  cases hq
  have h9 := List.all_eq_true.mp hb i (List.mem_range.mpr hi)
  rcases (Bool.or_eq_true _ _).mp h9 with e | e
  · have h3' : wkn (wfl W 10 i) = 3 := h3
    rw [h3'] at e
    cases e
  · have e2 := Bool.and_eq_true_iff.mp e
    refine ⟨wna (wfl W 11 i), Nat.le_of_ble_eq_true e2.2, ?_⟩
    show wti σ (wfl W 11 i) = _
    generalize wfl W 11 i = v at e2
    match v, e2.1 with
    | .inl n, _ => rfl
theorem resR_fst {lb lb' : Int32} {cel cel' : Int32 → Int32} : ∀ (qs qs' : List (Nat × Int32)) (ss ss' : List Int32), qs.map Prod.fst = qs'.map Prod.fst → ss.length = ss'.length → (resR lb cel qs ss).isSome = (resR lb' cel' qs' ss').isSome
  | [], [], _, _, _, _ => rfl
  | [], _ :: _, _, _, h, _ => by cases h
  | _ :: _, [], _, _, h, _ => by cases h
  | q :: qs, q' :: qs', ss, ss', hq, h => by
    have hq1 : q.1 = q'.1 := (List.cons.inj hq).1
    have hq2 := (List.cons.inj hq).2
    unfold resR
    have key : ∀ (x : Option (List Int32)) (y : Option (List Int32)), x = resStep lb cel q ss → y = resStep lb' cel' q' ss' → (x = none ∧ y = none) ∨ ∃ u v, x = some u ∧ y = some v ∧ u.length = v.length := by
      intro x y hx hy
      unfold resStep at hx hy
      rw [← hq1] at hy
      by_cases h2 : q.1 = 2
      · rw [if_pos h2] at hx hy
        exact Or.inr ⟨_, _, hx, hy, congrArg (· + 1) h⟩
      rw [if_neg h2] at hx hy
      by_cases h3 : q.1 = 3
      · rw [if_pos h3] at hx hy
        exact Or.inr ⟨_, _, hx, hy, congrArg (· + 1) h⟩
      rw [if_neg h3] at hx hy
      by_cases h34 : q.1 = 34
      · rw [if_pos h34] at hx hy
        exact Or.inr ⟨_, _, hx, hy, congrArg (· + 1) h⟩
      rw [if_neg h34] at hx hy
      by_cases h29 : q.1 = 29
      · rw [if_pos h29] at hx hy
        exact Or.inr ⟨_, _, hx, hy, congrArg (· + 1) h⟩
      rw [if_neg h29] at hx hy
      by_cases h4 : q.1 = 4 ∨ q.1 = 35 ∨ q.1 = 50
      · rw [if_pos h4] at hx hy
        match ss, ss', h, hx, hy with
        | [], [], _, hx, hy => exact Or.inl ⟨hx, hy⟩
        | _ :: _, _ :: _, h, hx, hy => exact Or.inr ⟨_, _, hx, hy, h⟩
      rw [if_neg h4] at hx hy
      by_cases h9 : q.1 = 39 ∨ q.1 = 40 ∨ q.1 = 41 ∨ q.1 = 42 ∨ q.1 = 43 ∨ q.1 = 44 ∨ q.1 = 45 ∨ q.1 = 48 ∨ q.1 = 49
      · rw [if_pos h9] at hx hy
        match ss, ss', h, hx, hy with
        | [], [], _, hx, hy => exact Or.inl ⟨hx, hy⟩
        | [_], [_], _, hx, hy => exact Or.inl ⟨hx, hy⟩
        | _ :: _ :: r, _ :: _ :: r', h, hx, hy => exact Or.inr ⟨_, _, hx, hy, Nat.succ.inj h⟩
      rw [if_neg h9] at hx hy
      exact Or.inl ⟨hx, hy⟩
    rcases key _ _ rfl rfl with ⟨e1, e2⟩ | ⟨u, v, e1, e2, e3⟩
    · rw [e1, e2]
    · rw [e1, e2]
      exact resR_fst qs qs' u v hq2 e3
theorem wrs_ok {σ : Nat → Nat} {W : List WC} {f t : Nat} (h : wrs W f t = true) : resOk (((wos σ W).take t).drop f) = true := by
  rw [← h]
  unfold wrs resOk
  refine resR_fst _ _ [] [] ?_ rfl
  rw [List.map_drop, List.map_take, List.map_drop, List.map_take]
  refine congrArg (fun l => (List.take t l).drop f) ?_
  unfold wos
  rw [List.map_map, List.map_map]
  rfl
def wFrB (W : List WC) : Bool := (W.take 17).all (fun c => match c with
  | .inl q => !(Nat.beq q.1 7)
  | .inr q => !(Nat.beq q.1 2))
section
variable {A ρ σ : Nat → Nat} {ω : Nat → Value} {W : List WC} {hp : List XC}
theorem WH.stf (H : WH A ρ σ ω W hp) (hb : stfB W = true) : ∃ (sf mf ces : List Value) (ws : Value) (es : List Value) (gs : List Int32), StF hp A (wif0 W) (wif1 W) (wits W) (wvb W) (wkd W) (wfr W) (wos σ W) sf mf ces ws es gs ∧ (∀ k, k < 20 → sf[k]? = some (wt ρ σ ω (wfl W 0 k))) ∧ (∀ k, k < 10 → mf[k]? = some (wt ρ σ ω (wfl W 15 k))) ∧ (∀ k, k < 120 → ces[k]? = some (wt ρ σ ω (wfl W 16 k))) ∧ ces.length = 120 := by
  have hb' := hb
  unfold stfB at hb'
  simp only [Bool.and_eq_true] at hb'
  obtain ⟨b1, b2, b3, b4⟩ := hb'
  have bf : Nat.ble (wfn W) 100 = true := by
    have b9 := b2
    unfold wFoB at b9
    simp only [Bool.and_eq_true] at b9
    exact b9.2.2.2.2.2.2.2.2.2.2.2.2.1
  have bo : wcO W 0 12 20 = true := by
    have b9 := b1
    unfold wStB at b9
    simp only [Bool.and_eq_true] at b9
    exact b9.1
  obtain ⟨sf, s1, s2, s3⟩ := wO_at H (by decide) bo
  obtain ⟨mf, m1, m2, m3⟩ := wO_at H (by decide) b3
  obtain ⟨ces, c1, c2, c3⟩ := wX_at H (by decide) b4
  obtain ⟨ws, es, gs, vs, f1, f2, f3⟩ := wFo_s H b2
  exact ⟨sf, mf, ces, ws, es, gs, ⟨wSt_s H b1 bf, s1, f1, ⟨vs, f2, f3⟩, m1, c1⟩, s3, m3, c3, c2⟩
theorem WH.fr {P : Nat → Prop} {hp' : List XC} (H : WH A ρ σ ω W hp) (f : FrX P hp hp') (hP : ∀ n, n < 17 → ¬ P (A (60 + n))) (hk : wFrB W = true) : WH A ρ σ ω W hp' := by
  refine ⟨H.1, H.2.1, fun h c hh hc => ?_⟩
  have hm : c ∈ W.take 17 := List.mem_of_getElem? (by rw [List.getElem?_take, if_pos hh]; exact hc)
  have hk1 := List.all_eq_true.mp hk c hm
  have h0 := H.2.2 h c hh hc
  match c, hk1, h0 with
  | .inl q, hk1, h0 =>
    have hn : ¬ q.1 = 7 := fun e2 => by
      have hk2 : (!(Nat.beq q.1 7)) = true := hk1
      rw [e2] at hk2
      cases hk2
    exact f.2.2.1 _ _ h0 (decide_eq_false hn) (Or.inl (hP h hh))
  | .inr q, hk1, h0 =>
    have hn : ¬ q.1 = 2 := fun e2 => by
      have hk2 : (!(Nat.beq q.1 2)) = true := hk1
      rw [e2] at hk2
      cases hk2
    exact f.ob h0 hn (hP h hh)
end
