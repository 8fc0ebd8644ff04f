/-! what can be asked of houses that are alike (by hand) -/
section
variable {w : Int32 → Bool} {f : Int32 → Int32} {g : Nat → Nat} {M N : HM} {c d c' d' i j ln : Nat} {lb nm : Int32} {q q' : TQ} {SP : Int32 → Prop} {TI UI : Nat → Tb} {es fs ls : List En}
theorem sumE_map (hf : Mono9 SP f) {sr : Int32} (hs : SP sr) : ∀ (ls : List En) (a : Int64), (∀ x ∈ ls, SP x.1) → sumE (ls.map (mapE f g)) (f sr) a = sumE ls sr a
  | [], _, _ => rfl
  | x :: ls, a, h => by
    have e : sumR (f sr) a (mapE f g x) = sumR sr a x := by
      unfold sumR
      show (if f x.1 = f sr then sumC (a * 31 + x.2.2.1.toInt64) x.2.2.2.2.1 else a) = _
      by_cases hx : x.1 = sr
      · rw [if_pos hx, if_pos (congrArg f hx)]
      · rw [if_neg hx, if_neg (fun h9 => hx ((hf x.1 sr (h x List.mem_cons_self) hs).2.mp h9))]
    show sumE (ls.map (mapE f g)) (f sr) (sumR (f sr) a (mapE f g x)) = sumE ls sr (sumR sr a x)
    rw [e]
    exact sumE_map hf hs ls _ (fun y hy => h y (List.mem_cons_of_mem _ hy))
theorem fold_flt {β : Type} {sM sN : β → Nat → β} {p : Nat → Bool} {g : Nat → Nat} : ∀ (as : List Nat) (acc : β), (∀ a ∈ as, p a = true → ∀ acc, sN acc (g a) = sM acc a) → (∀ a ∈ as, p a = false → ∀ acc, sM acc a = acc) → ((as.filter p).map g).foldl sN acc = as.foldl sM acc
  | [], _, _, _ => rfl
  | a :: as, acc, h1, h2 => by
    have ih := fun acc => fold_flt as acc (fun b hb => h1 b (List.mem_cons_of_mem _ hb)) (fun b hb => h2 b (List.mem_cons_of_mem _ hb))
    by_cases hz : p a = true
    · rw [List.filter_cons_of_pos hz, List.map_cons, List.foldl_cons, List.foldl_cons, h1 a List.mem_cons_self hz, ih]
    · rw [List.filter_cons_of_neg hz, List.foldl_cons, ih, h2 a List.mem_cons_self (Bool.eq_false_iff.mpr hz)]
theorem lo_ck (hw : ∀ l lb, w lb = true → isB l lb = true → w l = true) (R : Rel w f g M N) (hM : WfM M c d) (hN : WfM N c' d') (hi : i < 8) (hl : w (M.2.2.2.1 i).1 = true) : ckE N i = ckE M i := by
  have hu : ∀ p ∈ M.2.2.2.2.2.2, ∀ q ∈ M.2.2.2.2.2.2, p.1.1 = q.1.1 → p = q := fun p hp q hq e => hM.uq p hp q hq (Or.inr e)
  unfold ckE
  rw [low_lk hw R hM hN hi hl, R.lab hi, R.vw hi hl, phi_cntB (fun l h9 => hw l _ hl h9), R.2.2.1]
  refine congrArg (fun z : Int64 => z * 31 + (Int32.ofNat (cntB (vwE M i) (M.2.2.2.1 i).1 false)).toInt64) ?_
  refine fold_flt M.1 _ (fun a ha hz acc => ?_) (fun a ha hz acc => ?_)
  · obtain ⟨q, hq, e⟩ := hM.1 a ha
    rw [← e, TIq_at9 hu hq] at hz
    obtain ⟨q', hq', k1, k2, k3⟩ := R.tb hN hq hz
    unfold ckS
    rw [← e, k2, k3, TIq_at9 hu hq, SRq_at9 hu hq, k1.2.2.1, k1.2.2.2.1, k1.2.1, sumE_map R.1 ⟨q, hq, rfl, hz⟩ _ _ (fun x hx => (lk_sp hw R hM hN hi hl x hx).1)]
  · unfold ckS
    refine if_neg (fun h9 => ?_)
    rw [hw _ _ hl h9] at hz
    cases hz
theorem lo_tbs (hw : ∀ l lb, w lb = true → isB l lb = true → w l = true) (R : Rel w f g M N) (hM : WfM M c d) (hN : WfM N c' d') (hl : w lb = true) : tbsE N.2.2.2.2.2.2 N.1 lb = tbsE M.2.2.2.2.2.2 M.1 lb := by
  have hu : ∀ p ∈ M.2.2.2.2.2.2, ∀ q ∈ M.2.2.2.2.2.2, p.1.1 = q.1.1 → p = q := fun p hp q hq e => hM.uq p hp q hq (Or.inr e)
  unfold tbsE
  rw [R.2.2.1, List.countP_map, List.countP_filter]
  refine List.countP_congr (fun a ha => ?_)
  show ((isB (TIq N.2.2.2.2.2.2 (g a)).2.1 lb && w (TIq M.2.2.2.2.2.2 a).2.1) = true) ↔ _
  by_cases hz : w (TIq M.2.2.2.2.2.2 a).2.1 = true
  · obtain ⟨q, hq, e⟩ := hM.1 a ha
    have hz2 := hz
    rw [← e, TIq_at9 hu hq] at hz2
    obtain ⟨q', hq', k1, k2, k3⟩ := R.tb hN hq hz2
    rw [hz, Bool.and_true, ← e, k2, TIq_at9 hu hq, k1.2.2.2.1]
  · rw [Bool.eq_false_iff.mpr hz, Bool.and_false]
    constructor
    · intro h; cases h
    · intro h
      exact absurd (hw _ _ hl h) hz
theorem lo_seen (hw : ∀ l lb, w lb = true → isB l lb = true → w l = true) (R : Rel w f g M N) (hM : WfM M c d) (hN : WfM N c' d') (hi : i < 8) (hl : w (M.2.2.2.1 i).1 = true) : (lookE (TIq N.2.2.2.2.2.2) (vwE N i) (N.2.2.2.1 i).1).length = (lookE (TIq M.2.2.2.2.2.2) (vwE M i) (M.2.2.2.1 i).1).length := by
  rw [low_lk hw R hM hN hi hl, List.length_map]
theorem lo_begin (hw : ∀ l lb, w lb = true → isB l lb = true → w l = true) (R : Rel w f g M N) (hM : WfM M c d) (hN : WfM N c' d') (hi : i < 8) (hl : w (M.2.2.2.1 i).1 = true) : (lookE (TIq N.2.2.2.2.2.2) N.2.1 (N.2.2.2.1 i).1).length = (lookE (TIq M.2.2.2.2.2.2) M.2.1 (M.2.2.2.1 i).1).length := by
  rw [R.2.2.2.1, R.lab hi, phi_look R.1 (R.ls hw hM hN hM.2.2.2.2.2.1.ex) (fun l h9 => hw l _ hl h9), List.length_map]
theorem lo_ch (R : Rel w f g M N) (hi : i < 8) (hl : w (M.2.2.2.1 i).1 = true) : (N.2.2.2.1 i).2.2.2.2.1.length = (M.2.2.2.1 i).2.2.2.2.1.length := by
  obtain ⟨s1, s2⟩ := R.2.2.2.2.1 i hi
  rw [(s2 hl).2.2.1, List.length_map]
theorem lo_ans (R : Rel w f g M N) (hi : i < 8) (hl : w (M.2.2.2.1 i).1 = true) : (N.2.2.2.1 i).2.2.2.2.2.2.1 = (M.2.2.2.1 i).2.2.2.2.2.2.1 := ((R.2.2.2.2.1 i hi).2 hl).2.2.2.1
theorem lo_aud (R : Rel w f g M N) (hln : (M.2.2.2.1 i).1 = Int32.ofNat ln) (hl64 : ln < 64) (hl : w (M.2.2.2.1 i).1 = true) {k : Nat} (hk : k < 4) : N.2.2.2.2.1[ln * 4 + k]? = M.2.2.2.2.1[ln * 4 + k]? := R.2.2.2.2.2 ln hl64 (by rw [← hln]; exact hl) k hk
/-! soundness -/
theorem hasK_ex {sr k : Int32} (hk : hasK es sr k = true) : ∃ x ∈ es, x.1 = sr ∧ x.2.1 = k := by
  cases h : es[plc es (sr, k, 0)]? with
  | none => rw [hasK_n h] at hk; cases hk
  | some x =>
    rw [hasK_s h] at hk
    obtain ⟨h1, h2⟩ := Bool.and_eq_true_iff.mp hk
    exact ⟨x, List.mem_of_getElem? h, of_decide_eq_true h2, of_decide_eq_true h1⟩
theorem hasK_of {sr k : Int32} {x : En} (hs : Srt es) (hx : x ∈ es) (h1 : x.1 = sr) (h2 : x.2.1 = k) (h3 : ¬ x.2.2.1 < 0) : hasK es sr k = true := by
  obtain ⟨i, hi⟩ := List.getElem?_of_mem hx
  have hn : ¬ ltP (eP x) (sr, k, 0) := fun h => by
    rcases h with h | ⟨-, h | ⟨-, h⟩⟩
    · exact Int32.lt_irrefl (by rw [← h1] at h; exact h)
    · exact Int32.lt_irrefl (by rw [← h2] at h; exact h)
    · exact h3 h
  have hp : ¬ i < plc es (sr, k, 0) := fun h => hn ((srt_at hs (sr, k, 0) hi).mpr h)
  have hil := (List.getElem?_eq_some_iff.mp hi).1
  obtain ⟨y, hy⟩ : ∃ y, es[plc es (sr, k, 0)]? = some y := ⟨_, List.getElem?_eq_getElem (by omega)⟩
  have hyn : ¬ ltP (eP y) (sr, k, 0) := fun h => by
    have := (srt_at hs (sr, k, 0) hy).mp h
    omega
  have key : y.1 = sr ∧ y.2.1 = k := by
    by_cases e : plc es (sr, k, 0) = i
    · rw [e, hi] at hy
      cases hy
      exact ⟨h1, h2⟩
    · have hlt := srt_lt hs (i := plc es (sr, k, 0)) (j := i) (by omega) hy hi
      rcases hlt with h | ⟨e1, h | ⟨e2, h⟩⟩
      · exact absurd (Or.inl (by rw [← h1]; exact h)) hyn
      · have e1 : y.1 = x.1 := e1
        exact absurd (Or.inr ⟨e1.trans h1, Or.inl (by rw [← h2]; exact h)⟩) hyn
      · have e1 : y.1 = x.1 := e1
        have e2 : y.2.1 = x.2.1 := e2
        exact ⟨e1.trans h1, e2.trans h2⟩
  rw [hasK_s hy, decide_eq_true key.1, decide_eq_true key.2]
  rfl
theorem hasK_sub {sr k : Int32} (hs : Srt fs) (h0 : Lab0 fs) (h : ∀ x ∈ es, x ∈ fs) (hk : hasK es sr k = true) : hasK fs sr k = true := by
  obtain ⟨x, hx, h1, h2⟩ := hasK_ex hk
  exact hasK_of hs (h x hx) h1 h2 (h0 x (h x hx))
theorem metE_sub {T : Tb} {e : En} (hs : Srt fs) (h0 : Lab0 fs) (h : ∀ x ∈ es, x ∈ fs) (hm : metE es T e = true) : metE fs T e = true := by
  unfold metE metFrom at hm ⊢
  refine List.all_eq_true.mpr (fun n hn => ?_)
  have h9 := List.all_eq_true.mp hm n hn
  cases hr : T.2.2.2.2[n]? with
  | none => unfold okAt; rw [hr]
  | some o =>
    cases o with
    | none => exact okAt_n hr
    | some r =>
      rw [okAt_r hr] at h9 ⊢
      rcases (Bool.or_eq_true _ _).mp h9 with h8 | h8
      · exact (Bool.or_eq_true _ _).mpr (Or.inl h8)
      · exact (Bool.or_eq_true _ _).mpr (Or.inr (hasK_sub hs h0 h h8))
theorem fold_met : ∀ (xs acc : List En), ∀ e ∈ xs.foldl (lookStep TI es lb) acc, e ∈ acc ∨ ∃ ac, (∀ y ∈ ac, y ∈ xs.foldl (lookStep TI es lb) acc) ∧ metE ac (TI e.2.2.2.2.2) e = true
  | [], _, e, he => Or.inl he
  | x :: xs, acc, e, he => by
    obtain ⟨ys, e9, -⟩ := fold_sub (TI := TI) (es := es) (lb := lb) xs (lookStep TI es lb acc x)
    rcases fold_met xs (lookStep TI es lb acc x) e he with h | h
    · unfold lookStep at h
      split at h
      · rename_i hc
        rcases List.mem_append.mp h with h9 | h9
        · exact Or.inl h9
        · rw [List.mem_singleton.mp h9]
          refine Or.inr ⟨acc, fun y hy => ?_, (Bool.and_eq_true_iff.mp hc).2⟩
          show y ∈ xs.foldl (lookStep TI es lb) (lookStep TI es lb acc x)
          rw [e9]
          refine List.mem_append_left _ ?_
          unfold lookStep
          rw [if_pos hc]
          exact List.mem_append_left _ hy
      · exact Or.inl h
    · exact Or.inr h
theorem look_met (hs : Srt es) (h0 : Lab0 es) : metAll TI (lookE TI es lb) = true := List.all_eq_true.mpr (fun e he => by
  rcases fold_met es [] e he with h | ⟨ac, h1, h2⟩
  · exact (List.not_mem_nil h).elim
  · exact metE_sub (hs.sublist look_sub) (fun x hx => h0 x (look_mem hx)) h1 h2)
theorem WfM.snd (h : WfM M c d) (hd : d ≤ 30) (hj : j < 8) : sndM M j := by
  have hv := h.v hj hd
  refine ⟨hv.1, hv.2.1, Nat.le_trans hv.2.2.1 (by decide), List.all_eq_true.mpr (fun e he => ?_), look_met hv.1 (ep_l0 (fun e he => (h.vw hj).2.1 e he))⟩
  exact decide_eq_true ((h.vw hj).2.2 e.1 e.2.2.1)
end
