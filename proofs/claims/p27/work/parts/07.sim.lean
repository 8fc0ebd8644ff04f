section XSIM
variable {p : Program} {l : Launch} {e9 : Env} {R : Room} {s : State} {m : MethodId} {args : Array Value} {below : List Frame} {meth : Method} {c : Code} {H : Heap} {locs : List Loc} {cells slots : Nat} {Q : State → Prop}
variable {cc : ByteArray} {pc pc' : Nat} {ls : Array Slot}
variable {cl : List vw_C} {z : XP} {D : va_G} {da ad η : Nat → Nat} {A : Nat → Prop} {hp hp' : List XC} {st st' : List Value} {TB : List Cond} {ST : List (String × String × String × Value)} {NC : XN} {own : String} {isInit : Bool} {L L' : List (Nat × Value)} {nL dc ds : Nat}
theorem xl_g {n : Nat} {ad η η' : Nat → Nat} (h : xg n η η') {L : List (Nat × Value)} (hL : xwl n L) : L.map (xq ad η') = L.map (xq ad η) := List.map_congr_left (fun q hm => congrArg (fun v => (q.1, v)) (xc_g h (hL q hm)))
/-- what holds of a frame's locals, stack and heap -/
def xwm (z : XP) (L : List (Nat × Value)) (st : List Value) (hp : List XC) : Prop := xhw hp.length hp ∧ xwl hp.length L ∧ (∀ v ∈ st, xv hp.length v) ∧ xnt z hp
theorem xnt_set {hp : List XC} {k t : Nat} {es : List Value} (h : xnt z hp) (ht : t < z.2.1) : xnt z (hp.set k (.inl (t, es))) := fun c hc t' es' e => (List.mem_or_eq_of_mem_set hc).elim (fun q => h c q t' es' e) (fun q => by rw [q] at e; cases e; exact ht)
theorem xnt_seto {hp : List XC} {k t : Nat} {es : List Value} (h : xnt z hp) : xnt z (hp.set k (.inr (t, es))) := fun c hc t' es' e => (List.mem_or_eq_of_mem_set hc).elim (fun q => h c q t' es' e) (fun q => by rw [q] at e; cases e)
theorem xnt_push {hp : List XC} {c : XC} (h : xnt z hp) (ht : ∀ t es, c = Sum.inl (t, es) → t < z.2.1) : xnt z (hp ++ [c]) := fun d hd t' es' e => (List.mem_append.mp hd).elim (fun q => h d q t' es' e) (fun q => by rw [List.mem_singleton.mp q] at e; exact ht t' es' e)
theorem xwm_st {L : List (Nat × Value)} {st st' : List Value} {hp : List XC} (h : xwm z L st hp) (h' : ∀ v ∈ st', xv hp.length v) : xwm z L st' hp := ⟨h.1, h.2.1, h', h.2.2.2⟩
theorem xkc_v {n : Nat} {hp kc : List XC} {c : XC} {v : Value} {es : List Value} (hk : xhw 0 kc) {k t : Nat} (h1 : kc[k]? = some (.inl (t, es))) (hv : v ∈ es) : xv n v := xv_mono (Nat.zero_le n) (hk _ (List.mem_of_getElem? h1) v hv)
set_option maxHeartbeats 4000000 in
theorem xstep_sim {e : XI} (hT : xtb z cl TB) (hF : xfr z cl TB ST p s m args meth c own cc isInit D da ad A) (hN : xnc NC ad s) (he : xok z cl TB ST NC own cc isInit pc e) (hl : lv_has ls nL (L.map (xq ad η))) (hR : xR cl z.1 D da ad η A hp H) (hM : xwm z L st hp) (hS : va_S A s.heap H locs)
    (h : xstep z nL e pc L st hp = some (pc', L', st', hp', dc, ds)) (h1 : cells + dc ≤ R.cells) (h2 : slots + ds ≤ R.slots)
    (kk : ∀ (ls' : Array Slot) (η' : Nat → Nat) (H1 : Heap) (locs1 : List Loc), xg hp.length η η' → lv_has ls' nL (L'.map (xq ad η')) → xR cl z.1 D da ad η' A hp' H1 → xwm z L' st' hp' → hp.length ≤ hp'.length → va_S A s.heap H1 locs1 → W p l e9 R s m args below meth c H1 locs1 (cells + dc) (slots + ds) Q (F0 m pc' ls' (st'.map (xc ad η')))) :
    W p l e9 R s m args below meth c H locs cells slots Q (F0 m pc ls (st.map (xc ad η))) := by
  obtain ⟨hx, hb, hown, hts, hinit, hK, hcs, hA⟩ := hF
  obtain ⟨t1, t2, t3, t4⟩ := hT
  obtain ⟨k, i, a, b, v, xs⟩ := e
  have hKc : xkc cl z.1 ad A s s.heap z.2.2.2.2.2.1 := hcs.1
  have hM' := hM
  obtain ⟨m1, m2, m3, m4⟩ := hM
  unfold xstep at h
  dsimp only at h
  split at h
  · obtain ⟨q, hq, he2⟩ := Option.map_eq_some_iff.mp h
    cases he2
    exact xpu_sim hx hb hq he (kk ls η H locs (xg_rf _ _) hl hR (xwm_st hM' (xpu_wf hq m3)) (Nat.le_refl _) hS)
  · obtain ⟨q, hq, he2⟩ := Option.map_eq_some_iff.mp h
    obtain ⟨L9, st9⟩ := q
    cases he2
    obtain ⟨w1, w2⟩ := xlo_wf hq m2 m3
    exact xlo_sim hx hb hq he hl (fun ls' hl' => kk ls' η H locs (xg_rf _ _) hl' hR ⟨m1, w1, w2, m4⟩ (Nat.le_refl _) hS)
  · obtain ⟨q, hq, he2⟩ := Option.map_eq_some_iff.mp h
    obtain ⟨pc9, st9⟩ := q
    cases he2
    obtain ⟨len, hd, hlen⟩ := he
    exact xbr_sim hx hb hq hd hlen (kk ls η H locs (xg_rf _ _) hl hR (xwm_st hM' (xbr_wf hq m3)) (Nat.le_refl _) hS)
  · obtain ⟨q, hq, he2⟩ := Option.map_eq_some_iff.mp h
    obtain ⟨pc9, st9⟩ := q
    cases he2
    refine xac_sim hx hb hR hKc hcs.2.1 m3 he hq (kk ls η H locs (xg_rf _ _) hl hR (xwm_st hM' ?_) (Nat.le_refl _) hS)
    unfold xac at hq
    split at hq
    · split at hq
      · obtain ⟨b9, -, h9⟩ := Option.bind_eq_some_iff.mp hq
        obtain ⟨_, _, _, rfl⟩ := xtg_s h9
        exact xvs_t (xvs_t m3)
      · cases hq
    · split at hq
      · obtain ⟨b9, -, h9⟩ := Option.bind_eq_some_iff.mp hq
        obtain ⟨_, _, _, rfl⟩ := xtg_s h9
        exact xvs_t (xvs_t m3)
      · cases hq
    · cases hq
  · obtain ⟨q, hq, he2⟩ := Option.map_eq_some_iff.mp h
    cases he2
    obtain ⟨idx, ⟨C, T, cN⟩, hd, hc, hlk, hlp⟩ := he
    obtain ⟨g1, g2, g3⟩ := t1 a _ hc
    refine xgf_sim hx hb hts g1 hown hK hR.1 hKc hS t4 hc hlk hlp hd hq (kk ls η H locs (xg_rf _ _) hl hR (xwm_st hM' ?_) (Nat.le_refl _) hS)
    unfold xgf at hq
    split at hq
    · split at hq
      · obtain ⟨w, hw9, rfl⟩ := Option.map_eq_some_iff.mp hq
        obtain ⟨fs, f1, f2⟩ := xfld_s hw9
        exact xvs_c (m1 _ (List.mem_of_getElem? f1) w (List.mem_of_getElem? f2)) (xvs_t m3)
      · cases hq
    · split at hq
      · obtain ⟨w, hw9, rfl⟩ := Option.map_eq_some_iff.mp hq
        obtain ⟨fs, f1, f2⟩ := xfld_s hw9
        exact xvs_c (xv_mono (Nat.zero_le _) (t4 _ (List.mem_of_getElem? f1) w (List.mem_of_getElem? f2))) (xvs_t m3)
      · cases hq
    · cases hq
  · obtain ⟨q, hq, he2⟩ := Option.map_eq_some_iff.mp h
    obtain ⟨hp9, st9⟩ := q
    cases he2
    obtain ⟨idx, ⟨C, T, cN⟩, hd, hc, hk, hlk, hfin⟩ := he
    obtain ⟨g1, g2, g3⟩ := t1 a _ hc
    have hq2 := hq
    obtain ⟨w, a9, fs, rfl, f1, f2, f3, rfl⟩ := xpf_s hq2
    refine xpf_sim (z.2.2.2.1 a) g2 g3 hx hb hts g1 hown hK hR hS hc hk hlk (hfin.imp id (fun q => ⟨q.1, hinit q.2.1, q.2.2⟩)) rfl hd hq (fun H1 locs1 q1 q2 => kk ls η H1 locs1 (xg_rf _ _) hl q1 ?_ (by rw [List.length_set]; exact Nat.le_refl _) q2)
    refine ⟨?_, ?_, ?_, xnt_seto m4⟩
    · rw [List.length_set]
      exact xwf_set m1 (xvs_set (m1 _ (List.mem_of_getElem? f1)) (m3 _ List.mem_cons_self))
    · rw [List.length_set]; exact m2
    · rw [List.length_set]; exact xvs_t (xvs_t m3)
  · cases h
    obtain ⟨idx, q, hd, hq, hqv, ⟨hq0, hq9⟩, hlk⟩ := he
    dsimp only at hqv
    subst hqv
    exact xgs_sim hlk ((hcs.2.2.1 q hq).2 hq9) hq0 hx hb hts hown hS hd (kk ls η H locs (xg_rf _ _) hl hR (xwm_st hM' (xvs_c (xv_mono (Nat.zero_le _) hq0) m3)) (Nat.le_refl _) hS)
  · cases h
    rcases he with ⟨idx, x, hd, hi, hv, hc⟩ | ⟨idx, x, hd, hi, hv, hc⟩ | ⟨idx, x, hd, hi, hv, hc⟩
    · dsimp only at hi hv
      subst hi; subst hv
      exact lv_ldc hx hb hown (hts _ hc) hd (kk ls η H locs (xg_rf _ _) hl hR (xwm_st hM' (xvs_c trivial m3)) (Nat.le_refl _) hS)
    · dsimp only at hi hv
      subst hi; subst hv
      exact lv_ldc2 hx hb hown (hts _ hc) hd (kk ls η H locs (xg_rf _ _) hl hR (xwm_st hM' (xvs_c trivial m3)) (Nat.le_refl _) hS)
    · dsimp only at hi hv
      subst hi; subst hv
      exact lv_ldcw hx hb hown (hts _ hc) hd (kk ls η H locs (xg_rf _ _) hl hR (xwm_st hM' (xvs_c trivial m3)) (Nat.le_refl _) hS)
  · cases h
    obtain ⟨idx, k9, hv, ⟨tx, hm, ⟨hd, hi⟩ | ⟨hd, hi⟩⟩ | ⟨C, hm, hd, hi, hc⟩⟩ := he
    · dsimp only at hi hv
      subst hi; subst hv
      exact va_ldcS hx hb hown (hN.2.1 _ hm) hd (kk ls η H locs (xg_rf _ _) hl hR (xwm_st hM' (xvs_c trivial m3)) (Nat.le_refl _) hS)
    · dsimp only at hi hv
      subst hi; subst hv
      exact xldcw hx hb hown (hN.2.1 _ hm) hd (kk ls η H locs (xg_rf _ _) hl hR (xwm_st hM' (xvs_c trivial m3)) (Nat.le_refl _) hS)
    · dsimp only at hi hv
      subst hi; subst hv
      exact va_ldcM hx hb hown (hts _ hc) (hN.2.2 _ hm) hd (kk ls η H locs (xg_rf _ _) hl hR (xwm_st hM' (xvs_c trivial m3)) (Nat.le_refl _) hS)
  · cases h
    obtain ⟨idx, ⟨C, T, cN⟩, hd, hc, hlk, hins, hini, hlen, hdef, hz⟩ := he
    obtain ⟨g1, g2, g3⟩ := t1 a _ (xk_get hc)
    dsimp only at hlen hdef hz h2 hins hini hlk
    have hz2 : ∀ f g : Nat → Nat, (z.2.2.2.2.1 a).map (xc f g) = z.2.2.2.2.1 a := fun f g => by
      conv => rhs; rw [← List.map_id (z.2.2.2.2.1 a)]
      exact List.map_congr_left (fun v hv => by rcases hz v hv with rfl | rfl | rfl <;> rfl)
    rw [hlen] at h2 kk
    refine xnew_sim (z.2.2.2.1 a) g2 g1 hc hlk hins hini hdef hz2 hx hb hts hown hK hR m1 m3 hS hA h1 h2 hd (fun q H1 q1 q2 => kk ls _ H1 locs (xup_g _ _ _) ?_ q1 ?_ (by rw [List.length_append]; exact Nat.le_add_right _ _) q2)
    · rw [xl_g (xup_g _ _ _) m2]; exact hl
    · have hlen9 : (hp ++ [(Sum.inr (a, z.2.2.2.2.1 a) : XC)]).length = hp.length + 1 := by rw [List.length_append]; rfl
      refine ⟨xwf_push m1 (fun v hv => by rcases hz v hv with rfl | rfl | rfl <;> trivial), ?_, ?_, xnt_push m4 (fun t es e => by cases e)⟩
      · rw [hlen9]; exact fun q hq => xv_mono (Nat.le_succ _) (m2 q hq)
      · rw [hlen9]; exact xvs_c (Nat.lt_succ_self _) (fun v hv => xv_mono (Nat.le_succ _) (m3 v hv))
  · unfold xnwa at h
    split at h
    · split at h
      · rename_i n r e1
        cases h
        obtain ⟨at9, hd, hat, hdef, hbt, harr⟩ := he
        refine xnwa_sim e1.2.2 hat hdef hbt harr e1.1 e1.2.1 hx hb hts hK hR m1 (xvs_t m3) hS hA h1 h2 hd (fun q H1 q1 q2 => kk ls _ H1 locs (xup_g _ _ _) ?_ q1 ?_ (by rw [List.length_append]; exact Nat.le_add_right _ _) q2)
        · rw [xl_g (xup_g _ _ _) m2]; exact hl
        · have hlen9 : (hp ++ [(Sum.inl (a, List.replicate n.toNatClampNeg (.int 0)) : XC)]).length = hp.length + 1 := by rw [List.length_append]; rfl
          refine ⟨xwf_push m1 (fun v hv => by rw [(List.mem_replicate.mp hv).2]; trivial), ?_, ?_, xnt_push m4 (fun t es e => by cases e; exact e1.2.2)⟩
          · rw [hlen9]; exact fun q hq => xv_mono (Nat.le_succ _) (m2 q hq)
          · rw [hlen9]; exact xvs_c (Nat.lt_succ_self _) (fun v hv => xv_mono (Nat.le_succ _) (xvs_t m3 v hv))
      · cases h
    · cases h
  · unfold xnwa at h
    split at h
    · split at h
      · rename_i n r e1
        cases h
        obtain ⟨idx, C, hd, hat, hlk, harr⟩ := he
        refine xnwq_sim e1.2.2 hat hlk harr e1.1 e1.2.1 hx hb hts hown hK hR m1 (xvs_t m3) hS hA h1 h2 hd (fun q H1 q1 q2 => kk ls _ H1 locs (xup_g _ _ _) ?_ q1 ?_ (by rw [List.length_append]; exact Nat.le_add_right _ _) q2)
        · rw [xl_g (xup_g _ _ _) m2]; exact hl
        · have hlen9 : (hp ++ [(Sum.inl (a, List.replicate n.toNatClampNeg .null) : XC)]).length = hp.length + 1 := by rw [List.length_append]; rfl
          refine ⟨xwf_push m1 (fun v hv => by rw [(List.mem_replicate.mp hv).2]; trivial), ?_, ?_, xnt_push m4 (fun t es e => by cases e; exact e1.2.2)⟩
          · rw [hlen9]; exact fun q hq => xv_mono (Nat.le_succ _) (m2 q hq)
          · rw [hlen9]; exact xvs_c (Nat.lt_succ_self _) (fun v hv => xv_mono (Nat.le_succ _) (xvs_t m3 v hv))
      · cases h
    · cases h
  · obtain ⟨q, hq, he2⟩ := Option.map_eq_some_iff.mp h
    cases he2
    refine xald_sim hx hb hK hR.1 hKc hS he.1 he.2 hq (kk ls η H locs (xg_rf _ _) hl hR (xwm_st hM' ?_) (Nat.le_refl _) hS)
    unfold xald at hq
    split at hq
    · split at hq
      · split at hq
        · obtain ⟨x, -, rfl⟩ := Option.map_eq_some_iff.mp hq
          exact xvs_c trivial (xvs_t (xvs_t m3))
        · cases hq
      · cases hq
    · split at hq
      · split at hq
        · obtain ⟨x, -, rfl⟩ := Option.map_eq_some_iff.mp hq
          exact xvs_c trivial (xvs_t (xvs_t m3))
        · cases hq
      · cases hq
    · cases hq
  · obtain ⟨q, hq, he2⟩ := Option.map_eq_some_iff.mp h
    obtain ⟨hp9, st9⟩ := q
    cases he2
    have hq2 := hq
    obtain ⟨x, j, a9, t, es, rfl, f1, f2, f3, f4, f5, rfl⟩ := xast_s hq2
    refine xast_sim hx hb hK hR hS he.1 he.2 hq (fun H1 locs1 q1 q2 => kk ls η H1 locs1 (xg_rf _ _) hl q1 ?_ (by rw [List.length_set]; exact Nat.le_refl _) q2)
    refine ⟨?_, ?_, ?_, xnt_set m4 f2⟩
    · rw [List.length_set]
      exact xwf_set m1 (xvs_set (m1 _ (List.mem_of_getElem? f1)) trivial)
    · rw [List.length_set]; exact m2
    · rw [List.length_set]; exact xvs_t (xvs_t (xvs_t m3))
  · obtain ⟨q, hq, he2⟩ := Option.map_eq_some_iff.mp h
    cases he2
    refine xaal_sim t3 hx hb hK hR.1 hKc hS t4 he hq (kk ls η H locs (xg_rf _ _) hl hR (xwm_st hM' ?_) (Nat.le_refl _) hS)
    unfold xaal at hq
    split at hq
    · split at hq
      · split at hq
        · rename_i f1 f2
          obtain ⟨w, f3, hq⟩ := Option.bind_eq_some_iff.mp hq
          split at hq
          · cases hq
            exact xvs_c (m1 _ (List.mem_of_getElem? f1) w (List.mem_of_getElem? f3)) (xvs_t (xvs_t m3))
          · cases hq
        · cases hq
      · cases hq
    · split at hq
      · split at hq
        · rename_i f1 f2
          obtain ⟨w, f3, hq⟩ := Option.bind_eq_some_iff.mp hq
          split at hq
          · cases hq
            exact xvs_c (xv_mono (Nat.zero_le _) (t4 _ (List.mem_of_getElem? f1) w (List.mem_of_getElem? f3))) (xvs_t (xvs_t m3))
          · cases hq
        · cases hq
      · cases hq
    · cases hq
  · obtain ⟨q, hq, he2⟩ := Option.map_eq_some_iff.mp h
    obtain ⟨hp9, st9⟩ := q
    cases he2
    have hq2 := hq
    obtain ⟨w, j, a9, t, es, rfl, f1, f2, f3, f4, f5, f6, rfl⟩ := xaas_s hq2
    refine xaas_sim t2 t3 hx hb hts hK hR hKc hS hS he hq (fun H1 locs1 q1 q2 => kk ls η H1 locs1 (xg_rf _ _) hl q1 ?_ (by rw [List.length_set]; exact Nat.le_refl _) q2)
    refine ⟨?_, ?_, ?_, xnt_set m4 f2⟩
    · rw [List.length_set]
      exact xwf_set m1 (xvs_set (m1 _ (List.mem_of_getElem? f1)) (m3 _ List.mem_cons_self))
    · rw [List.length_set]; exact m2
    · rw [List.length_set]; exact xvs_t (xvs_t (xvs_t m3))
  · obtain ⟨q, hq, he2⟩ := Option.map_eq_some_iff.mp h
    cases he2
    refine xaln_sim m4 hx hb hK hR.1 hKc hS he hq (kk ls η H locs (xg_rf _ _) hl hR (xwm_st hM' ?_) (Nat.le_refl _) hS)
    unfold xaln at hq
    split at hq
    · obtain ⟨n, -, rfl⟩ := Option.map_eq_some_iff.mp hq
      exact xvs_c trivial (xvs_t m3)
    · obtain ⟨n, -, rfl⟩ := Option.map_eq_some_iff.mp hq
      exact xvs_c trivial (xvs_t m3)
    · cases hq
  · obtain ⟨q, hq, he2⟩ := Option.map_eq_some_iff.mp h
    cases he2
    obtain ⟨idx, nm, hd, hlk, hca⟩ := he
    have hq9 : st' = st := by
      unfold xcas at hq
      split at hq
      · split at hq
        · cases hq; rfl
        · split at hq
          · split at hq
            · cases hq; rfl
            · cases hq
          · cases hq
      · cases hq
    subst hq9
    exact xcas_sim hlk hca hx hb hts hown hK hR.1 hd hq (kk ls η H locs (xg_rf _ _) hl hR hM' (Nat.le_refl _) hS)
  · obtain ⟨q, hq, he2⟩ := Option.map_eq_some_iff.mp h
    cases he2
    unfold xsld at hq
    split at hq
    · rename_i j k r
      split at hq
      · rename_i e1
        obtain ⟨rfl, h0⟩ := e1
        obtain ⟨x, hx9, rfl⟩ := Option.map_eq_some_iff.mp hq
        have hlt := (List.getElem?_eq_some_iff.mp hx9).1
        have k9 := kk ls η H locs (xg_rf _ _) hl hR (xwm_st hM' (xvs_c trivial (xvs_t (xvs_t m3)))) (Nat.le_refl _) hS
        have e2 : x = (fun j => z.2.2.2.2.2.2.getD j 0) j.toNatClampNeg := by
          show _ = z.2.2.2.2.2.2.getD j.toNatClampNeg 0
          rw [List.getD_eq_getElem?_getD, hx9]
          rfl
        rw [e2] at k9
        exact va_sld hx hb hcs.2.2.2.2.2.1 hcs.2.2.2.2.2.2.1 hcs.2.2.2.2.2.2.2 hS (fun q => q.elim h0 (fun y => by omega)) he k9
      · cases hq
    · cases hq
  · obtain ⟨q, hq, he2⟩ := Option.map_eq_some_iff.mp h
    cases he2
    unfold xsln at hq
    split at hq
    · split at hq
      · rename_i e1
        cases hq
        subst e1
        exact va_slen hx hb hcs.2.2.2.2.2.1 hcs.2.2.2.2.2.2.1 hcs.2.2.2.2.2.2.2 hS he (kk ls η H locs (xg_rf _ _) hl hR (xwm_st hM' (xvs_c trivial (xvs_t m3))) (Nat.le_refl _) hS)
      · cases hq
    · cases hq
  · cases h
end XSIM
