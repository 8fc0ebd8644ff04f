/-! a formula's result: the loop -/
theorem xset_id {hp : List XC} {a : Nat} {c : XC} (h : hp[a]? = some c) : hp.set a c = hp := by
  refine List.ext_getElem? (fun i => ?_)
  rw [List.getElem?_set]
  split
  · rename_i e
    subst e
    rw [if_pos (List.getElem?_eq_some_iff.mp h).1, h]
  · rfl
/-- one word of a formula: what it makes of the stack, the last one first -/
def resStep (lb : Int32) (cel : Int32 → Int32) (q : Nat × Int32) (ss : List Int32) : Option (List Int32) :=
  if q.1 = 2 then some (q.2 :: ss) else if q.1 = 3 then some (cel q.2 :: ss) else if q.1 = 34 then some (-1000000000 :: ss) else if q.1 = 29 then some (lb :: ss) else
  if q.1 = 4 ∨ q.1 = 35 ∨ q.1 = 50 then (match ss with
    | v :: r => some ((if q.1 = 4 then chg4 v else if q.1 = 35 then chg35 v else chg50 v) :: r)
    | _ => none)
  else if q.1 = 39 ∨ q.1 = 40 ∨ q.1 = 41 ∨ q.1 = 42 ∨ q.1 = 43 ∨ q.1 = 44 ∨ q.1 = 45 ∨ q.1 = 48 ∨ q.1 = 49 then (match ss with
    | v :: u :: r => some ((if q.1 = 39 then cmb39 u v else if q.1 = 40 then cmb40 u v else if q.1 = 41 then cmb41 u v else if q.1 = 42 then cmb42 u v else if q.1 = 43 then cmb43 u v else if q.1 = 44 then cmb44 u v else if q.1 = 45 then cmb45 u v else if q.1 = 48 then cmb48 u v else cmb49 u v) :: r)
    | _ => none)
  else none
def resR (lb : Int32) (cel : Int32 → Int32) : List (Nat × Int32) → List Int32 → Option (List Int32)
  | [], ss => some ss
  | q :: qs, ss => match resStep lb cel q ss with
    | some ss' => resR lb cel qs ss'
    | none => none
/-- what a stretch of a formula is worth -/
def resE (lb : Int32) (cel : Int32 → Int32) (qs : List (Nat × Int32)) : Int32 := match resR lb cel qs [] with
  | some ss => ss.getLast?.getD (-1000000000)
  | none => -1000000000
/-- a formula that can be worked out -/
def resOk (qs : List (Nat × Int32)) : Bool := (resR 0 (fun _ => 0) qs []).isSome
theorem stk_push {vs : List Int32} {s : List Int32} {k : Nat} {x : Int32} (h : vs.take k = s) (hk : k < vs.length) : (vs.set k x).take (k + 1) = s ++ [x] := by
  rw [List.take_add_one, List.take_set_of_le (Nat.le_refl k), h, List.getElem?_set_self hk]
  rfl
theorem stk_top {vs : List Int32} {s : List Int32} {x : Int32} (h : vs.take (s.length + 1) = s ++ [x]) : vs[s.length]? = some x ∧ vs.take s.length = s := by
  have h1 : (vs.take (s.length + 1))[s.length]? = some x := by
    rw [h, List.getElem?_append_right (Nat.le_refl _), Nat.sub_self]
    rfl
  rw [List.getElem?_take] at h1
  rw [if_pos (Nat.lt_succ_self _)] at h1
  refine ⟨h1, ?_⟩
  have h2 : (vs.take (s.length + 1)).take s.length = s := by rw [h, List.take_left]
  rw [List.take_take, Nat.min_eq_left (Nat.le_succ _)] at h2
  exact h2
/-- the formula at an address: its words and arguments, its stack's array -/
def hFo (hp : List XC) (a oa aa pa sa wa : Nat) (ws : Value) (es : List Value) (gs : List Int32) (os : List (Nat × Int32)) : Prop :=
  hp[a]? = some (.inr (5, [.ref oa, .ref aa, .ref pa, .ref sa, .ref wa, ws, .int (Int32.ofNat os.length)])) ∧ hp[oa]? = some (.inl (27, es)) ∧ hp[aa]? = some (.inl (14, gs.map Value.int)) ∧ (∀ (i : Nat) (q : Nat × Int32), os[i]? = some q → es[i]? = some (.retAddr q.1) ∧ gs[i]? = some q.2) ∧ os.length ≤ 1000 ∧ es.length ≤ 1000 ∧ gs.length ≤ 1000
section HFO
variable {hp : List XC} {a oa aa pa sa wa : Nat} {ws : Value} {es : List Value} {gs : List Int32} {os : List (Nat × Int32)}
theorem hFo.ho (h : hFo hp a oa aa pa sa wa ws es gs os) : hp[a]? = some (.inr (5, [.ref oa, .ref aa, .ref pa, .ref sa, .ref wa, ws, .int (Int32.ofNat os.length)])) := h.1
theorem hFo.hoa (h : hFo hp a oa aa pa sa wa ws es gs os) : hp[oa]? = some (.inl (27, es)) := h.2.1
theorem hFo.haa (h : hFo hp a oa aa pa sa wa ws es gs os) : hp[aa]? = some (.inl (14, gs.map Value.int)) := h.2.2.1
theorem hFo.hos (h : hFo hp a oa aa pa sa wa ws es gs os) : ∀ (i : Nat) (q : Nat × Int32), os[i]? = some q → es[i]? = some (.retAddr q.1) ∧ gs[i]? = some q.2 := h.2.2.2.1
theorem hFo.hn (h : hFo hp a oa aa pa sa wa ws es gs os) : os.length ≤ 1000 := h.2.2.2.2.1
theorem hFo.hel (h : hFo hp a oa aa pa sa wa ws es gs os) : es.length ≤ 1000 := h.2.2.2.2.2.1
theorem hFo.hgl (h : hFo hp a oa aa pa sa wa ws es gs os) : gs.length ≤ 1000 := h.2.2.2.2.2.2
end HFO
theorem hFo.set {hp : List XC} {a oa aa pa sa wa : Nat} {ws : Value} {es : List Value} {gs vs vs' : List Int32} {os : List (Nat × Int32)} (h : hFo hp a oa aa pa sa wa ws es gs os) (hs : hp[sa]? = some (.inl (16, vs.map Value.int))) : hFo (hp.set sa (.inl (16, vs'.map Value.int))) a oa aa pa sa wa ws es gs os :=
  ⟨xs_ne (xn_ar hs h.ho) h.ho, xs_ne (xn_kd hs h.hoa (by decide)) h.hoa, xs_ne (xn_kd hs h.haa (by decide)) h.haa, h.hos, h.hn, h.hel, h.hgl⟩
theorem hFo.ng {hp : List XC} {a oa aa pa sa wa : Nat} {ws : Value} {es : List Value} {gs : List Int32} {os : List (Nat × Int32)} (h : hFo hp a oa aa pa sa wa ws es gs os) : os.length ≤ gs.length := by
  cases hn : os.length with
  | zero => exact Nat.zero_le _
  | succ k =>
    obtain ⟨q, hq⟩ : ∃ q, os[k]? = some q := ⟨_, List.getElem?_eq_getElem (by omega)⟩
    have := (List.getElem?_eq_some_iff.mp (h.hos k q hq).2).1
    omega
theorem hEn.fs {hp : List XC} {x sa : Nat} {e : En} {vs vs' : List Int32} (h : hEn hp x e) (hs : hp[sa]? = some (.inl (16, vs.map Value.int))) : hEn (hp.set sa (.inl (16, vs'.map Value.int))) x e :=
  h.fr (P := fun y => y = sa) (FrX.st hs rfl rfl rfl rfl (fun fs h => by cases h) (fun ci fs h => by cases h))
theorem res_loop0 {S : List Int32} {a oa aa pa sa wa t N : Nat} {ws : Value} {es : List Value} {gs : List Int32} {os : List (Nat × Int32)} {ss' : List Int32} (htn : t ≤ os.length) (hN : os.length ≤ N) (hN2 : N ≤ 1000) (hnm : ∀ (i : Nat) (q : Nat × Int32), os[i]? = some q → q.1 = 3 → ∃ j : Nat, j ≤ 100000 ∧ q.2 = Int32.ofNat j) : ∀ (j i : Nat) (hp : List XC) (ss vs : List Int32) {nc ns : Nat}, i + j = t → hFo hp a oa aa pa sa wa ws es gs os → hp[sa]? = some (.inl (16, vs.map Value.int)) → vs.length = N → vs.take ss.length = ss.reverse → ss.length ≤ i → resR (-1000000000) (fun _ => -1000000000) ((os.take t).drop i) ss = some ss' →
    At S 4 143 10 [(5, .int (Int32.ofNat ss.length)), (6, .int (Int32.ofNat i)), (0, .ref a), (2, .int (Int32.ofNat t)), (3, .null), (4, .null)] [] hp nc ns (fun o => ∃ vs' : List Int32, vs'.length = N ∧ o = .inl (some (.int (ss'.getLast?.getD (-1000000000))), hp.set sa (.inl (16, vs'.map Value.int)), nc, ns)) := by
  intro j
  induction j with
  | zero =>
    intro i hp ss vs nc ns hi hF hsa hvN hst hsl  hr
    rw [List.drop_eq_nil_of_le (by rw [List.length_take]; omega)] at hr
    rw [← show ss = ss' from Option.some.inj hr]
    have hid : hp.set sa (.inl (16, vs.map Value.int)) = hp := xset_id hsa
    have h9 := hF.hn
    cases hq : ss.getLast? with
    | none =>
      rw [List.getLast?_eq_none_iff] at hq
      subst hq
      exact res_end0 (D := 0) hF.ho hF.hoa hsa (by omega) (by omega) ⟨vs, hvN, by rw [hid]; rfl⟩
    | some x =>
      obtain ⟨D, hD⟩ : ∃ D, ss.length = D + 1 := ⟨ss.length - 1, by cases ss with
        | nil => cases hq
        | cons p ps => exact rfl⟩
      rw [hD]
      refine res_end1 hF.ho hF.hoa hsa (by omega) (by omega) (by omega) (x := x) ?_ ⟨vs, hvN, by rw [hid]; rfl⟩
      have h1 : (vs.take ss.length)[0]? = some x := by rw [hst, ← List.head?_eq_getElem?, List.head?_reverse, hq]
      rw [List.getElem?_take, if_pos (by omega)] at h1
      exact h1
  | succ j ih =>
    intro i hp ss vs nc ns hi hF hsa hvN hst hsl  hr
    obtain ⟨q, hq⟩ : ∃ q, os[i]? = some q := ⟨_, List.getElem?_eq_getElem (by omega)⟩
    have h9 := hF.hn
    have h8 := hF.hel
    have h7 := hF.hgl
    obtain ⟨he, hg⟩ := hF.hos i q hq
    have hel := (List.getElem?_eq_some_iff.mp he).1
    have hgn := hF.ng
    have hq2 : (os.take t)[i]? = some q := by rw [List.getElem?_take, if_pos (by omega)]; exact hq
    rw [xdrop_q (i := i), hq2, Option.toList_some, List.singleton_append] at hr
    refine res_head hF.ho hF.hoa (by omega) (by omega) hel h9 (by omega) h8 ?_
    obtain ⟨w, g⟩ := q
    dsimp only at he hg
    unfold resR at hr
    have key : ∀ (ss2 : List Int32) (x : Int32) (k : Nat), resR (-1000000000) (fun _ => -1000000000) ((os.take t).drop (i + 1)) ss2 = some ss' → (vs.set k x).take ss2.length = ss2.reverse → ss2.length ≤ i + 1 → At S 4 143 10 [(5, .int (Int32.ofNat ss2.length)), (6, .int (Int32.ofNat (i + 1))), (0, .ref a), (2, .int (Int32.ofNat t)), (3, .null), (4, .null)] [] (hp.set sa (.inl (16, (vs.set k x).map Value.int))) nc ns (fun o => ∃ vs' : List Int32, vs'.length = N ∧ o = .inl (some (.int (ss'.getLast?.getD (-1000000000))), hp.set sa (.inl (16, vs'.map Value.int)), nc, ns)) := by
      intro ss2 x k k1 k2 k3
      refine (ih (i + 1) (hp.set sa (.inl (16, (vs.set k x).map Value.int))) ss2 (vs.set k x) (by omega) (hF.set hsa) (xs_eq hsa) (by rw [List.length_set]; exact hvN) k2 k3  k1).mono (fun o h => ?_)
      obtain ⟨vs', j1, j2⟩ := h
      rw [List.set_set] at j2
      exact ⟨vs', j1, j2⟩
    have hpush : ∀ x, (vs.set ss.length x).take (x :: ss).length = (x :: ss).reverse := fun x => by
      rw [List.length_cons, List.reverse_cons]
      exact stk_push hst (by omega)
    by_cases w2 : w = 2
    · subst w2
      dsimp only [resStep] at hr
      exact res_numn hF.ho hF.hoa hF.haa hsa he (by omega) h9 h7 (by omega) (by omega) hgn hg (by omega) (key _ _ _ hr (hpush _) (by rw [List.length_cons]; omega))
    by_cases w3 : w = 3
    · subst w3
      dsimp only [resStep] at hr
      exact res_name0 hF.ho hF.hoa hF.haa hsa he (by omega) h9 h7 (by omega) (by omega) hgn hg (by omega) m_cellOf0 (key _ _ _ hr (hpush _) (by rw [List.length_cons]; omega))
    by_cases w34 : w = 34
    · subst w34
      dsimp only [resStep] at hr
      exact res_nonen hF.ho hF.hoa hF.haa hsa he (by omega) h9 h7 (by omega) (by omega) (key _ _ _ hr (hpush _) (by rw [List.length_cons]; omega))
    by_cases w29 : w = 29
    · subst w29
      dsimp only [resStep] at hr
      exact res_lab0 hF.ho hF.hoa hF.haa hsa he (by omega) h9 h7 (by omega) (by omega) (key _ _ _ hr (hpush _) (by rw [List.length_cons]; omega))
    cases ss with
    | nil =>
      exfalso
      unfold resStep at hr
      dsimp only at hr
      rw [if_neg w2, if_neg w3, if_neg w34, if_neg w29] at hr
      split at hr
      · rename_i e9
        split at e9
        · cases e9
        · split at e9 <;> cases e9
      · cases hr
    | cons v r =>
      rw [List.length_cons, List.reverse_cons, ← List.length_reverse] at hst
      obtain ⟨ht1, ht2⟩ := stk_top hst
      rw [List.length_reverse] at ht1 ht2
      have hun : ∀ x, (vs.set r.length x).take (x :: r).length = (x :: r).reverse := fun x => by
        rw [List.length_cons, List.reverse_cons]
        exact stk_push ht2 (by rw [List.length_cons] at hsl; omega)
      have hsl2 : r.length + 1 ≤ i := hsl
      by_cases w4 : w = 4
      · subst w4
        dsimp only [resStep] at hr
        exact res_w4n hF.ho hF.hoa hF.haa hsa he (by omega) h9 h7 (by omega) (by omega) ht1 (key _ _ _ hr (hun _) (by rw [List.length_cons]; omega))
      by_cases w35 : w = 35
      · subst w35
        dsimp only [resStep] at hr
        exact res_w35n hF.ho hF.hoa hF.haa hsa he (by omega) h9 h7 (by omega) (by omega) ht1 (key _ _ _ hr (hun _) (by rw [List.length_cons]; omega))
      by_cases w50 : w = 50
      · subst w50
        dsimp only [resStep] at hr
        exact res_w50n hF.ho hF.hoa hF.haa hsa he (by omega) h9 h7 (by omega) (by omega) ht1 (key _ _ _ hr (hun _) (by rw [List.length_cons]; omega))
      cases r with
      | nil =>
        exfalso
        unfold resStep at hr
        dsimp only at hr
        rw [if_neg w2, if_neg w3, if_neg w34, if_neg w29, if_neg (by intro h; omega)] at hr
        split at hr
        · rename_i e9
          split at e9 <;> cases e9
        · cases hr
      | cons u r =>
        rw [List.length_cons, List.reverse_cons, ← List.length_reverse] at ht2
        obtain ⟨hu1, hu2⟩ := stk_top ht2
        rw [List.length_reverse] at hu1 hu2
        have hbin : ∀ x, (vs.set r.length x).take (x :: r).length = (x :: r).reverse := fun x => by
          rw [List.length_cons, List.reverse_cons]
          exact stk_push hu2 (by rw [List.length_cons] at hsl2; omega)
        have hsl3 : r.length + 1 + 1 ≤ i := hsl2
        by_cases w39 : w = 39
        · subst w39
          dsimp only [resStep] at hr
          exact res_w39n hF.ho hF.hoa hF.haa hsa he (by omega) h9 h7 (by omega) (by omega) hu1 ht1 (key _ _ _ hr (hbin _) (by rw [List.length_cons]; omega))
        by_cases w40 : w = 40
        · subst w40
          dsimp only [resStep] at hr
          exact res_w40n hF.ho hF.hoa hF.haa hsa he (by omega) h9 h7 (by omega) (by omega) hu1 ht1 (key _ _ _ hr (hbin _) (by rw [List.length_cons]; omega))
        by_cases w41 : w = 41
        · subst w41
          dsimp only [resStep] at hr
          exact res_w41n hF.ho hF.hoa hF.haa hsa he (by omega) h9 h7 (by omega) (by omega) hu1 ht1 (key _ _ _ hr (hbin _) (by rw [List.length_cons]; omega))
        by_cases w42 : w = 42
        · subst w42
          dsimp only [resStep] at hr
          exact res_w42n hF.ho hF.hoa hF.haa hsa he (by omega) h9 h7 (by omega) (by omega) hu1 ht1 (key _ _ _ hr (hbin _) (by rw [List.length_cons]; omega))
        by_cases w43 : w = 43
        · subst w43
          dsimp only [resStep] at hr
          exact res_w43n hF.ho hF.hoa hF.haa hsa he (by omega) h9 h7 (by omega) (by omega) hu1 ht1 (key _ _ _ hr (hbin _) (by rw [List.length_cons]; omega))
        by_cases w44 : w = 44
        · subst w44
          dsimp only [resStep] at hr
          exact res_w44n hF.ho hF.hoa hF.haa hsa he (by omega) h9 h7 (by omega) (by omega) hu1 ht1 (key _ _ _ hr (hbin _) (by rw [List.length_cons]; omega))
        by_cases w45 : w = 45
        · subst w45
          dsimp only [resStep] at hr
          exact res_w45n hF.ho hF.hoa hF.haa hsa he (by omega) h9 h7 (by omega) (by omega) hu1 ht1 (key _ _ _ hr (hbin _) (by rw [List.length_cons]; omega))
        by_cases w48 : w = 48
        · subst w48
          dsimp only [resStep] at hr
          exact res_w48n hF.ho hF.hoa hF.haa hsa he (by omega) h9 h7 (by omega) (by omega) hu1 ht1 (key _ _ _ hr (hbin _) (by rw [List.length_cons]; omega))
        by_cases w49 : w = 49
        · subst w49
          dsimp only [resStep] at hr
          exact res_w49n hF.ho hF.hoa hF.haa hsa he (by omega) h9 h7 (by omega) (by omega) hu1 ht1 (key _ _ _ hr (hbin _) (by rw [List.length_cons]; omega))
        exfalso
        unfold resStep at hr
        dsimp only at hr
        rw [if_neg w2, if_neg w3, if_neg w34, if_neg w29, if_neg (by intro h; omega), if_neg (by intro h; omega)] at hr
        cases hr
/-- the result -/
theorem m_result0 {S : List Int32} {hp : List XC} {a oa aa pa sa wa fr t : Nat} {ws : Value} {es : List Value} {gs vs : List Int32} {os : List (Nat × Int32)} (hF : hFo hp a oa aa pa sa wa ws es gs os) (hsa : hp[sa]? = some (.inl (16, vs.map Value.int))) (hN : os.length ≤ vs.length) (hN2 : vs.length ≤ 1000) (htn : t ≤ os.length) (hft : fr ≤ t) (hnm : ∀ (i : Nat) (q : Nat × Int32), os[i]? = some q → q.1 = 3 → ∃ j : Nat, j ≤ 100000 ∧ q.2 = Int32.ofNat j) (hok : (resR (-1000000000) (fun _ => -1000000000) ((os.take t).drop fr) []).isSome = true) : Me S 4 143 [.ref a, .int (Int32.ofNat fr), .int (Int32.ofNat t), .null, .null] hp (fun v hp' c s => v = some (.int (resE (-1000000000) (fun _ => -1000000000) ((os.take t).drop fr))) ∧ (∃ vs' : List Int32, vs'.length = vs.length ∧ hp' = hp.set sa (.inl (16, vs'.map Value.int))) ∧ c = 0 ∧ s = 0) := by
  obtain ⟨ss', hss⟩ := Option.isSome_iff_exists.mp hok
  have h9 := hF.hn
  refine res_start0 (by omega) ?_
  refine (res_loop0 htn hN hN2 hnm (t - fr) fr hp [] vs (by omega) hF hsa rfl rfl (Nat.zero_le _)  hss).mono (fun o h => ?_)
  obtain ⟨vs', j1, j2⟩ := h
  refine ⟨_, _, _, _, j2, ?_, ⟨vs', j1, rfl⟩, rfl, rfl⟩
  unfold resE
  rw [hss]
theorem res_loop1 {S : List Int32} {a oa aa pa sa wa t N : Nat} {ws : Value} {es : List Value} {gs : List Int32} {os : List (Nat × Int32)} {o1 : Nat} {e : En} {ss' : List Int32} (htn : t ≤ os.length) (hN : os.length ≤ N) (hN2 : N ≤ 1000) (hnm : ∀ (i : Nat) (q : Nat × Int32), os[i]? = some q → q.1 = 3 → ∃ j : Nat, j ≤ 100000 ∧ q.2 = Int32.ofNat j) : ∀ (j i : Nat) (hp : List XC) (ss vs : List Int32) {nc ns : Nat}, i + j = t → hFo hp a oa aa pa sa wa ws es gs os → hp[sa]? = some (.inl (16, vs.map Value.int)) → vs.length = N → vs.take ss.length = ss.reverse → ss.length ≤ i → hEn hp o1 e → resR e.2.2.1 (fun g => cellE e.2.2.2.2.1 [] g.toNatClampNeg) ((os.take t).drop i) ss = some ss' →
    At S 4 143 10 [(5, .int (Int32.ofNat ss.length)), (6, .int (Int32.ofNat i)), (0, .ref a), (2, .int (Int32.ofNat t)), (3, .ref o1), (4, .null)] [] hp nc ns (fun o => ∃ vs' : List Int32, vs'.length = N ∧ o = .inl (some (.int (ss'.getLast?.getD (-1000000000))), hp.set sa (.inl (16, vs'.map Value.int)), nc, ns)) := by
  intro j
  induction j with
  | zero =>
    intro i hp ss vs nc ns hi hF hsa hvN hst hsl hX hr
    rw [List.drop_eq_nil_of_le (by rw [List.length_take]; omega)] at hr
    rw [← show ss = ss' from Option.some.inj hr]
    have hid : hp.set sa (.inl (16, vs.map Value.int)) = hp := xset_id hsa
    have h9 := hF.hn
    cases hq : ss.getLast? with
    | none =>
      rw [List.getLast?_eq_none_iff] at hq
      subst hq
      exact res_end0 (D := 0) hF.ho hF.hoa hsa (by omega) (by omega) ⟨vs, hvN, by rw [hid]; rfl⟩
    | some x =>
      obtain ⟨D, hD⟩ : ∃ D, ss.length = D + 1 := ⟨ss.length - 1, by cases ss with
        | nil => cases hq
        | cons p ps => exact rfl⟩
      rw [hD]
      refine res_end1 hF.ho hF.hoa hsa (by omega) (by omega) (by omega) (x := x) ?_ ⟨vs, hvN, by rw [hid]; rfl⟩
      have h1 : (vs.take ss.length)[0]? = some x := by rw [hst, ← List.head?_eq_getElem?, List.head?_reverse, hq]
      rw [List.getElem?_take, if_pos (by omega)] at h1
      exact h1
  | succ j ih =>
    intro i hp ss vs nc ns hi hF hsa hvN hst hsl hX hr
    obtain ⟨q, hq⟩ : ∃ q, os[i]? = some q := ⟨_, List.getElem?_eq_getElem (by omega)⟩
    have h9 := hF.hn
    have h8 := hF.hel
    have h7 := hF.hgl
    obtain ⟨he, hg⟩ := hF.hos i q hq
    have hel := (List.getElem?_eq_some_iff.mp he).1
    have hgn := hF.ng
    have hq2 : (os.take t)[i]? = some q := by rw [List.getElem?_take, if_pos (by omega)]; exact hq
    rw [xdrop_q (i := i), hq2, Option.toList_some, List.singleton_append] at hr
    refine res_head hF.ho hF.hoa (by omega) (by omega) hel h9 (by omega) h8 ?_
    obtain ⟨w, g⟩ := q
    dsimp only at he hg
    unfold resR at hr
    have key : ∀ (ss2 : List Int32) (x : Int32) (k : Nat), resR e.2.2.1 (fun g => cellE e.2.2.2.2.1 [] g.toNatClampNeg) ((os.take t).drop (i + 1)) ss2 = some ss' → (vs.set k x).take ss2.length = ss2.reverse → ss2.length ≤ i + 1 → At S 4 143 10 [(5, .int (Int32.ofNat ss2.length)), (6, .int (Int32.ofNat (i + 1))), (0, .ref a), (2, .int (Int32.ofNat t)), (3, .ref o1), (4, .null)] [] (hp.set sa (.inl (16, (vs.set k x).map Value.int))) nc ns (fun o => ∃ vs' : List Int32, vs'.length = N ∧ o = .inl (some (.int (ss'.getLast?.getD (-1000000000))), hp.set sa (.inl (16, vs'.map Value.int)), nc, ns)) := by
      intro ss2 x k k1 k2 k3
      refine (ih (i + 1) (hp.set sa (.inl (16, (vs.set k x).map Value.int))) ss2 (vs.set k x) (by omega) (hF.set hsa) (xs_eq hsa) (by rw [List.length_set]; exact hvN) k2 k3 (hX.fs hsa) k1).mono (fun o h => ?_)
      obtain ⟨vs', j1, j2⟩ := h
      rw [List.set_set] at j2
      exact ⟨vs', j1, j2⟩
    have hpush : ∀ x, (vs.set ss.length x).take (x :: ss).length = (x :: ss).reverse := fun x => by
      rw [List.length_cons, List.reverse_cons]
      exact stk_push hst (by omega)
    by_cases w2 : w = 2
    · subst w2
      dsimp only [resStep] at hr
      exact res_numn hF.ho hF.hoa hF.haa hsa he (by omega) h9 h7 (by omega) (by omega) hgn hg (by omega) (key _ _ _ hr (hpush _) (by rw [List.length_cons]; omega))
    by_cases w3 : w = 3
    · subst w3
      dsimp only [resStep] at hr
      obtain ⟨jj, hj1, hj2⟩ := hnm i _ hq rfl
      dsimp only at hj2
      subst hj2
      rw [if_neg (by decide), if_pos rfl, iN_tn (by omega)] at hr
      exact res_name1 hF.ho hF.hoa hF.haa hsa he (by omega) h9 h7 (by omega) (by omega) hgn hg (by omega) (m_cellOf1 hX hj1) (key _ _ _ hr (hpush _) (by rw [List.length_cons]; omega))
    by_cases w34 : w = 34
    · subst w34
      dsimp only [resStep] at hr
      exact res_nonen hF.ho hF.hoa hF.haa hsa he (by omega) h9 h7 (by omega) (by omega) (key _ _ _ hr (hpush _) (by rw [List.length_cons]; omega))
    by_cases w29 : w = 29
    · subst w29
      dsimp only [resStep] at hr
      obtain ⟨c, fs, hx, -, -, -⟩ := hX
      exact res_lab1 hF.ho hF.hoa hF.haa hsa he (by omega) h9 h7 (by omega) (by omega) hx (key _ _ _ hr (hpush _) (by rw [List.length_cons]; omega))
    cases ss with
    | nil =>
      exfalso
      unfold resStep at hr
      dsimp only at hr
      rw [if_neg w2, if_neg w3, if_neg w34, if_neg w29] at hr
      split at hr
      · rename_i e9
        split at e9
        · cases e9
        · split at e9 <;> cases e9
      · cases hr
    | cons v r =>
      rw [List.length_cons, List.reverse_cons, ← List.length_reverse] at hst
      obtain ⟨ht1, ht2⟩ := stk_top hst
      rw [List.length_reverse] at ht1 ht2
      have hun : ∀ x, (vs.set r.length x).take (x :: r).length = (x :: r).reverse := fun x => by
        rw [List.length_cons, List.reverse_cons]
        exact stk_push ht2 (by rw [List.length_cons] at hsl; omega)
      have hsl2 : r.length + 1 ≤ i := hsl
      by_cases w4 : w = 4
      · subst w4
        dsimp only [resStep] at hr
        exact res_w4n hF.ho hF.hoa hF.haa hsa he (by omega) h9 h7 (by omega) (by omega) ht1 (key _ _ _ hr (hun _) (by rw [List.length_cons]; omega))
      by_cases w35 : w = 35
      · subst w35
        dsimp only [resStep] at hr
        exact res_w35n hF.ho hF.hoa hF.haa hsa he (by omega) h9 h7 (by omega) (by omega) ht1 (key _ _ _ hr (hun _) (by rw [List.length_cons]; omega))
      by_cases w50 : w = 50
      · subst w50
        dsimp only [resStep] at hr
        exact res_w50n hF.ho hF.hoa hF.haa hsa he (by omega) h9 h7 (by omega) (by omega) ht1 (key _ _ _ hr (hun _) (by rw [List.length_cons]; omega))
      cases r with
      | nil =>
        exfalso
        unfold resStep at hr
        dsimp only at hr
        rw [if_neg w2, if_neg w3, if_neg w34, if_neg w29, if_neg (by intro h; omega)] at hr
        split at hr
        · rename_i e9
          split at e9 <;> cases e9
        · cases hr
      | cons u r =>
        rw [List.length_cons, List.reverse_cons, ← List.length_reverse] at ht2
        obtain ⟨hu1, hu2⟩ := stk_top ht2
        rw [List.length_reverse] at hu1 hu2
        have hbin : ∀ x, (vs.set r.length x).take (x :: r).length = (x :: r).reverse := fun x => by
          rw [List.length_cons, List.reverse_cons]
          exact stk_push hu2 (by rw [List.length_cons] at hsl2; omega)
        have hsl3 : r.length + 1 + 1 ≤ i := hsl2
        by_cases w39 : w = 39
        · subst w39
          dsimp only [resStep] at hr
          exact res_w39n hF.ho hF.hoa hF.haa hsa he (by omega) h9 h7 (by omega) (by omega) hu1 ht1 (key _ _ _ hr (hbin _) (by rw [List.length_cons]; omega))
        by_cases w40 : w = 40
        · subst w40
          dsimp only [resStep] at hr
          exact res_w40n hF.ho hF.hoa hF.haa hsa he (by omega) h9 h7 (by omega) (by omega) hu1 ht1 (key _ _ _ hr (hbin _) (by rw [List.length_cons]; omega))
        by_cases w41 : w = 41
        · subst w41
          dsimp only [resStep] at hr
          exact res_w41n hF.ho hF.hoa hF.haa hsa he (by omega) h9 h7 (by omega) (by omega) hu1 ht1 (key _ _ _ hr (hbin _) (by rw [List.length_cons]; omega))
        by_cases w42 : w = 42
        · subst w42
          dsimp only [resStep] at hr
          exact res_w42n hF.ho hF.hoa hF.haa hsa he (by omega) h9 h7 (by omega) (by omega) hu1 ht1 (key _ _ _ hr (hbin _) (by rw [List.length_cons]; omega))
        by_cases w43 : w = 43
        · subst w43
          dsimp only [resStep] at hr
          exact res_w43n hF.ho hF.hoa hF.haa hsa he (by omega) h9 h7 (by omega) (by omega) hu1 ht1 (key _ _ _ hr (hbin _) (by rw [List.length_cons]; omega))
        by_cases w44 : w = 44
        · subst w44
          dsimp only [resStep] at hr
          exact res_w44n hF.ho hF.hoa hF.haa hsa he (by omega) h9 h7 (by omega) (by omega) hu1 ht1 (key _ _ _ hr (hbin _) (by rw [List.length_cons]; omega))
        by_cases w45 : w = 45
        · subst w45
          dsimp only [resStep] at hr
          exact res_w45n hF.ho hF.hoa hF.haa hsa he (by omega) h9 h7 (by omega) (by omega) hu1 ht1 (key _ _ _ hr (hbin _) (by rw [List.length_cons]; omega))
        by_cases w48 : w = 48
        · subst w48
          dsimp only [resStep] at hr
          exact res_w48n hF.ho hF.hoa hF.haa hsa he (by omega) h9 h7 (by omega) (by omega) hu1 ht1 (key _ _ _ hr (hbin _) (by rw [List.length_cons]; omega))
        by_cases w49 : w = 49
        · subst w49
          dsimp only [resStep] at hr
          exact res_w49n hF.ho hF.hoa hF.haa hsa he (by omega) h9 h7 (by omega) (by omega) hu1 ht1 (key _ _ _ hr (hbin _) (by rw [List.length_cons]; omega))
        exfalso
        unfold resStep at hr
        dsimp only at hr
        rw [if_neg w2, if_neg w3, if_neg w34, if_neg w29, if_neg (by intro h; omega), if_neg (by intro h; omega)] at hr
        cases hr
/-- the result -/
theorem m_result1 {S : List Int32} {hp : List XC} {a oa aa pa sa wa fr t : Nat} {ws : Value} {es : List Value} {gs vs : List Int32} {os : List (Nat × Int32)} {o1 : Nat} {e : En} (hF : hFo hp a oa aa pa sa wa ws es gs os) (hsa : hp[sa]? = some (.inl (16, vs.map Value.int))) (hN : os.length ≤ vs.length) (hN2 : vs.length ≤ 1000) (htn : t ≤ os.length) (hft : fr ≤ t) (hnm : ∀ (i : Nat) (q : Nat × Int32), os[i]? = some q → q.1 = 3 → ∃ j : Nat, j ≤ 100000 ∧ q.2 = Int32.ofNat j) (hX : hEn hp o1 e) (hok : (resR e.2.2.1 (fun g => cellE e.2.2.2.2.1 [] g.toNatClampNeg) ((os.take t).drop fr) []).isSome = true) : Me S 4 143 [.ref a, .int (Int32.ofNat fr), .int (Int32.ofNat t), .ref o1, .null] hp (fun v hp' c s => v = some (.int (resE e.2.2.1 (fun g => cellE e.2.2.2.2.1 [] g.toNatClampNeg) ((os.take t).drop fr))) ∧ (∃ vs' : List Int32, vs'.length = vs.length ∧ hp' = hp.set sa (.inl (16, vs'.map Value.int))) ∧ c = 0 ∧ s = 0) := by
  obtain ⟨ss', hss⟩ := Option.isSome_iff_exists.mp hok
  have h9 := hF.hn
  refine res_start1 (by omega) ?_
  refine (res_loop1 htn hN hN2 hnm (t - fr) fr hp [] vs (by omega) hF hsa rfl rfl (Nat.zero_le _) hX hss).mono (fun o h => ?_)
  obtain ⟨vs', j1, j2⟩ := h
  refine ⟨_, _, _, _, j2, ?_, ⟨vs', j1, rfl⟩, rfl, rfl⟩
  unfold resE
  rw [hss]
theorem res_loop2 {S : List Int32} {a oa aa pa sa wa t N : Nat} {ws : Value} {es : List Value} {gs : List Int32} {os : List (Nat × Int32)} {o1 o2 : Nat} {e f : En} {ss' : List Int32} (htn : t ≤ os.length) (hN : os.length ≤ N) (hN2 : N ≤ 1000) (hnm : ∀ (i : Nat) (q : Nat × Int32), os[i]? = some q → q.1 = 3 → ∃ j : Nat, j ≤ 100000 ∧ q.2 = Int32.ofNat j) : ∀ (j i : Nat) (hp : List XC) (ss vs : List Int32) {nc ns : Nat}, i + j = t → hFo hp a oa aa pa sa wa ws es gs os → hp[sa]? = some (.inl (16, vs.map Value.int)) → vs.length = N → vs.take ss.length = ss.reverse → ss.length ≤ i → hEn hp o1 e → hEn hp o2 f → resR (joinE e.2.2.1 f.2.2.1) (fun g => cellE e.2.2.2.2.1 f.2.2.2.2.1 g.toNatClampNeg) ((os.take t).drop i) ss = some ss' →
    At S 4 143 10 [(5, .int (Int32.ofNat ss.length)), (6, .int (Int32.ofNat i)), (0, .ref a), (2, .int (Int32.ofNat t)), (3, .ref o1), (4, .ref o2)] [] hp nc ns (fun o => ∃ vs' : List Int32, vs'.length = N ∧ o = .inl (some (.int (ss'.getLast?.getD (-1000000000))), hp.set sa (.inl (16, vs'.map Value.int)), nc, ns)) := by
  intro j
  induction j with
  | zero =>
    intro i hp ss vs nc ns hi hF hsa hvN hst hsl hX hW hr
    rw [List.drop_eq_nil_of_le (by rw [List.length_take]; omega)] at hr
    rw [← show ss = ss' from Option.some.inj hr]
    have hid : hp.set sa (.inl (16, vs.map Value.int)) = hp := xset_id hsa
    have h9 := hF.hn
    cases hq : ss.getLast? with
    | none =>
      rw [List.getLast?_eq_none_iff] at hq
      subst hq
      exact res_end0 (D := 0) hF.ho hF.hoa hsa (by omega) (by omega) ⟨vs, hvN, by rw [hid]; rfl⟩
    | some x =>
      obtain ⟨D, hD⟩ : ∃ D, ss.length = D + 1 := ⟨ss.length - 1, by cases ss with
        | nil => cases hq
        | cons p ps => exact rfl⟩
      rw [hD]
      refine res_end1 hF.ho hF.hoa hsa (by omega) (by omega) (by omega) (x := x) ?_ ⟨vs, hvN, by rw [hid]; rfl⟩
      have h1 : (vs.take ss.length)[0]? = some x := by rw [hst, ← List.head?_eq_getElem?, List.head?_reverse, hq]
      rw [List.getElem?_take, if_pos (by omega)] at h1
      exact h1
  | succ j ih =>
    intro i hp ss vs nc ns hi hF hsa hvN hst hsl hX hW hr
    obtain ⟨q, hq⟩ : ∃ q, os[i]? = some q := ⟨_, List.getElem?_eq_getElem (by omega)⟩
    have h9 := hF.hn
    have h8 := hF.hel
    have h7 := hF.hgl
    obtain ⟨he, hg⟩ := hF.hos i q hq
    have hel := (List.getElem?_eq_some_iff.mp he).1
    have hgn := hF.ng
    have hq2 : (os.take t)[i]? = some q := by rw [List.getElem?_take, if_pos (by omega)]; exact hq
    rw [xdrop_q (i := i), hq2, Option.toList_some, List.singleton_append] at hr
    refine res_head hF.ho hF.hoa (by omega) (by omega) hel h9 (by omega) h8 ?_
    obtain ⟨w, g⟩ := q
    dsimp only at he hg
    unfold resR at hr
    have key : ∀ (ss2 : List Int32) (x : Int32) (k : Nat), resR (joinE e.2.2.1 f.2.2.1) (fun g => cellE e.2.2.2.2.1 f.2.2.2.2.1 g.toNatClampNeg) ((os.take t).drop (i + 1)) ss2 = some ss' → (vs.set k x).take ss2.length = ss2.reverse → ss2.length ≤ i + 1 → At S 4 143 10 [(5, .int (Int32.ofNat ss2.length)), (6, .int (Int32.ofNat (i + 1))), (0, .ref a), (2, .int (Int32.ofNat t)), (3, .ref o1), (4, .ref o2)] [] (hp.set sa (.inl (16, (vs.set k x).map Value.int))) nc ns (fun o => ∃ vs' : List Int32, vs'.length = N ∧ o = .inl (some (.int (ss'.getLast?.getD (-1000000000))), hp.set sa (.inl (16, vs'.map Value.int)), nc, ns)) := by
      intro ss2 x k k1 k2 k3
      refine (ih (i + 1) (hp.set sa (.inl (16, (vs.set k x).map Value.int))) ss2 (vs.set k x) (by omega) (hF.set hsa) (xs_eq hsa) (by rw [List.length_set]; exact hvN) k2 k3 (hX.fs hsa) (hW.fs hsa) k1).mono (fun o h => ?_)
      obtain ⟨vs', j1, j2⟩ := h
      rw [List.set_set] at j2
      exact ⟨vs', j1, j2⟩
    have hpush : ∀ x, (vs.set ss.length x).take (x :: ss).length = (x :: ss).reverse := fun x => by
      rw [List.length_cons, List.reverse_cons]
      exact stk_push hst (by omega)
    by_cases w2 : w = 2
    · subst w2
      dsimp only [resStep] at hr
      exact res_numr hF.ho hF.hoa hF.haa hsa he (by omega) h9 h7 (by omega) (by omega) hgn hg (by omega) (key _ _ _ hr (hpush _) (by rw [List.length_cons]; omega))
    by_cases w3 : w = 3
    · subst w3
      dsimp only [resStep] at hr
      obtain ⟨jj, hj1, hj2⟩ := hnm i _ hq rfl
      dsimp only at hj2
      subst hj2
      rw [if_neg (by decide), if_pos rfl, iN_tn (by omega)] at hr
      exact res_name2 hF.ho hF.hoa hF.haa hsa he (by omega) h9 h7 (by omega) (by omega) hgn hg (by omega) (m_cellOf2 hX hj1 hW) (key _ _ _ hr (hpush _) (by rw [List.length_cons]; omega))
    by_cases w34 : w = 34
    · subst w34
      dsimp only [resStep] at hr
      exact res_noner hF.ho hF.hoa hF.haa hsa he (by omega) h9 h7 (by omega) (by omega) (key _ _ _ hr (hpush _) (by rw [List.length_cons]; omega))
    by_cases w29 : w = 29
    · subst w29
      dsimp only [resStep] at hr
      obtain ⟨c, fs, hx, -, -, -⟩ := hX
      obtain ⟨c2, fs2, hw, -, -, -⟩ := hW
      exact res_lab2 hF.ho hF.hoa hF.haa hsa he (by omega) h9 h7 (by omega) (by omega) hx hw (key _ _ _ hr (hpush _) (by rw [List.length_cons]; omega))
    cases ss with
    | nil =>
      exfalso
      unfold resStep at hr
      dsimp only at hr
      rw [if_neg w2, if_neg w3, if_neg w34, if_neg w29] at hr
      split at hr
      · rename_i e9
        split at e9
        · cases e9
        · split at e9 <;> cases e9
      · cases hr
    | cons v r =>
      rw [List.length_cons, List.reverse_cons, ← List.length_reverse] at hst
      obtain ⟨ht1, ht2⟩ := stk_top hst
      rw [List.length_reverse] at ht1 ht2
      have hun : ∀ x, (vs.set r.length x).take (x :: r).length = (x :: r).reverse := fun x => by
        rw [List.length_cons, List.reverse_cons]
        exact stk_push ht2 (by rw [List.length_cons] at hsl; omega)
      have hsl2 : r.length + 1 ≤ i := hsl
      by_cases w4 : w = 4
      · subst w4
        dsimp only [resStep] at hr
        exact res_w4r hF.ho hF.hoa hF.haa hsa he (by omega) h9 h7 (by omega) (by omega) ht1 (key _ _ _ hr (hun _) (by rw [List.length_cons]; omega))
      by_cases w35 : w = 35
      · subst w35
        dsimp only [resStep] at hr
        exact res_w35r hF.ho hF.hoa hF.haa hsa he (by omega) h9 h7 (by omega) (by omega) ht1 (key _ _ _ hr (hun _) (by rw [List.length_cons]; omega))
      by_cases w50 : w = 50
      · subst w50
        dsimp only [resStep] at hr
        exact res_w50r hF.ho hF.hoa hF.haa hsa he (by omega) h9 h7 (by omega) (by omega) ht1 (key _ _ _ hr (hun _) (by rw [List.length_cons]; omega))
      cases r with
      | nil =>
        exfalso
        unfold resStep at hr
        dsimp only at hr
        rw [if_neg w2, if_neg w3, if_neg w34, if_neg w29, if_neg (by intro h; omega)] at hr
        split at hr
        · rename_i e9
          split at e9 <;> cases e9
        · cases hr
      | cons u r =>
        rw [List.length_cons, List.reverse_cons, ← List.length_reverse] at ht2
        obtain ⟨hu1, hu2⟩ := stk_top ht2
        rw [List.length_reverse] at hu1 hu2
        have hbin : ∀ x, (vs.set r.length x).take (x :: r).length = (x :: r).reverse := fun x => by
          rw [List.length_cons, List.reverse_cons]
          exact stk_push hu2 (by rw [List.length_cons] at hsl2; omega)
        have hsl3 : r.length + 1 + 1 ≤ i := hsl2
        by_cases w39 : w = 39
        · subst w39
          dsimp only [resStep] at hr
          exact res_w39r hF.ho hF.hoa hF.haa hsa he (by omega) h9 h7 (by omega) (by omega) hu1 ht1 (key _ _ _ hr (hbin _) (by rw [List.length_cons]; omega))
        by_cases w40 : w = 40
        · subst w40
          dsimp only [resStep] at hr
          exact res_w40r hF.ho hF.hoa hF.haa hsa he (by omega) h9 h7 (by omega) (by omega) hu1 ht1 (key _ _ _ hr (hbin _) (by rw [List.length_cons]; omega))
        by_cases w41 : w = 41
        · subst w41
          dsimp only [resStep] at hr
          exact res_w41r hF.ho hF.hoa hF.haa hsa he (by omega) h9 h7 (by omega) (by omega) hu1 ht1 (key _ _ _ hr (hbin _) (by rw [List.length_cons]; omega))
        by_cases w42 : w = 42
        · subst w42
          dsimp only [resStep] at hr
          exact res_w42r hF.ho hF.hoa hF.haa hsa he (by omega) h9 h7 (by omega) (by omega) hu1 ht1 (key _ _ _ hr (hbin _) (by rw [List.length_cons]; omega))
        by_cases w43 : w = 43
        · subst w43
          dsimp only [resStep] at hr
          exact res_w43r hF.ho hF.hoa hF.haa hsa he (by omega) h9 h7 (by omega) (by omega) hu1 ht1 (key _ _ _ hr (hbin _) (by rw [List.length_cons]; omega))
        by_cases w44 : w = 44
        · subst w44
          dsimp only [resStep] at hr
          exact res_w44r hF.ho hF.hoa hF.haa hsa he (by omega) h9 h7 (by omega) (by omega) hu1 ht1 (key _ _ _ hr (hbin _) (by rw [List.length_cons]; omega))
        by_cases w45 : w = 45
        · subst w45
          dsimp only [resStep] at hr
          exact res_w45r hF.ho hF.hoa hF.haa hsa he (by omega) h9 h7 (by omega) (by omega) hu1 ht1 (key _ _ _ hr (hbin _) (by rw [List.length_cons]; omega))
        by_cases w48 : w = 48
        · subst w48
          dsimp only [resStep] at hr
          exact res_w48r hF.ho hF.hoa hF.haa hsa he (by omega) h9 h7 (by omega) (by omega) hu1 ht1 (key _ _ _ hr (hbin _) (by rw [List.length_cons]; omega))
        by_cases w49 : w = 49
        · subst w49
          dsimp only [resStep] at hr
          exact res_w49r hF.ho hF.hoa hF.haa hsa he (by omega) h9 h7 (by omega) (by omega) hu1 ht1 (key _ _ _ hr (hbin _) (by rw [List.length_cons]; omega))
        exfalso
        unfold resStep at hr
        dsimp only at hr
        rw [if_neg w2, if_neg w3, if_neg w34, if_neg w29, if_neg (by intro h; omega), if_neg (by intro h; omega)] at hr
        cases hr
/-- the result -/
theorem m_result2 {S : List Int32} {hp : List XC} {a oa aa pa sa wa fr t : Nat} {ws : Value} {es : List Value} {gs vs : List Int32} {os : List (Nat × Int32)} {o1 o2 : Nat} {e f : En} (hF : hFo hp a oa aa pa sa wa ws es gs os) (hsa : hp[sa]? = some (.inl (16, vs.map Value.int))) (hN : os.length ≤ vs.length) (hN2 : vs.length ≤ 1000) (htn : t ≤ os.length) (hft : fr ≤ t) (hnm : ∀ (i : Nat) (q : Nat × Int32), os[i]? = some q → q.1 = 3 → ∃ j : Nat, j ≤ 100000 ∧ q.2 = Int32.ofNat j) (hX : hEn hp o1 e) (hW : hEn hp o2 f) (hok : (resR (joinE e.2.2.1 f.2.2.1) (fun g => cellE e.2.2.2.2.1 f.2.2.2.2.1 g.toNatClampNeg) ((os.take t).drop fr) []).isSome = true) : Me S 4 143 [.ref a, .int (Int32.ofNat fr), .int (Int32.ofNat t), .ref o1, .ref o2] hp (fun v hp' c s => v = some (.int (resE (joinE e.2.2.1 f.2.2.1) (fun g => cellE e.2.2.2.2.1 f.2.2.2.2.1 g.toNatClampNeg) ((os.take t).drop fr))) ∧ (∃ vs' : List Int32, vs'.length = vs.length ∧ hp' = hp.set sa (.inl (16, vs'.map Value.int))) ∧ c = 0 ∧ s = 0) := by
  obtain ⟨ss', hss⟩ := Option.isSome_iff_exists.mp hok
  have h9 := hF.hn
  refine res_start2 (by omega) ?_
  refine (res_loop2 htn hN hN2 hnm (t - fr) fr hp [] vs (by omega) hF hsa rfl rfl (Nat.zero_le _) hX hW hss).mono (fun o h => ?_)
  obtain ⟨vs', j1, j2⟩ := h
  refine ⟨_, _, _, _, j2, ?_, ⟨vs', j1, rfl⟩, rfl, rfl⟩
  unfold resE
  rw [hss]
