section XADEQ
variable {z : XP} {MT : Nat → XM} {EX : Nat → String} {cl : List vw_C} {TB : List Cond} {ST : List (String × String × String × Value)} {NC : XN} {l : Launch}
theorem lv_less {ls : Array Slot} {nL : Nat} {l1 l2 : List (Nat × Value)} (h : lv_has ls nL l1) (hs : ∀ q ∈ l2, q ∈ l1) : lv_has ls nL l2 := ⟨h.1, h.2.1, fun q hq => h.2.2 q (hs q hq)⟩
theorem xdrop_in {ad η : Nat → Nat} {k a : Nat} {L : List (Nat × Value)} : ∀ q ∈ (xdrop k L).map (xq ad η), q ∈ (k, Value.ref a) :: (L.map (xq ad η)).filter (fun q => !(q.1 == k) && !(q.1 + 1 == k && q.2.category == 2)) := by
  intro q hq
  obtain ⟨w, hw, rfl⟩ := List.mem_map.mp hq
  obtain ⟨h1, h2⟩ := List.mem_filter.mp hw
  refine List.mem_cons_of_mem _ (List.mem_filter.mpr ⟨List.mem_map_of_mem h1, ?_⟩)
  unfold xf1 at h2
  show (!(w.1 == k) && !(w.1 + 1 == k && (xc ad η w.2).category == 2)) = true
  rw [xc_cat]
  exact h2
theorem xdrop_wf {n k : Nat} {L : List (Nat × Value)} (h : xwl n L) : xwl n (xdrop k L) := fun q hq => h q (List.mem_filter.mp hq).1
theorem xcpy_wf {hp hp' : List XC} {st st' : List Value} {L : List (Nat × Value)} (hM : xwm z L st hp) (h : xcpy z hp st = some (hp', st')) : xwm z L st' hp' ∧ hp'.length = hp.length := by
  obtain ⟨m1, m2, m3, m4⟩ := hM
  obtain ⟨n, dp, a1, sp, a0, t0, e0, t1, e1, rfl, h1, h2, h3, h4, -, -, -, -, -, -, -, -, rfl⟩ := xcpy_s h
  refine ⟨⟨?_, ?_, ?_, xnt_set m4 h4⟩, List.length_set⟩
  · rw [List.length_set]
    exact xwf_set m1 (fun v hv => xcpl_mem (P := xv hp.length) (m1 _ (List.mem_of_getElem? h1)) (m1 _ (List.mem_of_getElem? h2)) v hv)
  · rw [List.length_set]; exact m2
  · rw [List.length_set]; exact xvs_t (xvs_t (xvs_t (xvs_t (xvs_t m3))))
theorem xcpk_wf {hp hp' : List XC} {st st' : List Value} {L : List (Nat × Value)} (hk0 : xhw 0 z.2.2.2.2.2.1) (hM : xwm z L st hp) (h : xcpk z hp st = some (hp', st')) : xwm z L st' hp' ∧ hp'.length = hp.length := by
  obtain ⟨m1, m2, m3, m4⟩ := hM
  obtain ⟨n, dp, a1, sp, k, t0, e0, t1, e1, rfl, h1, h2, -, -, h5, -, -, -, -, -, -, rfl⟩ := xcpk_s h
  refine ⟨⟨?_, ?_, ?_, xnt_set m4 h5⟩, List.length_set⟩
  · rw [List.length_set]
    exact xwf_set m1 (fun v hv => xcpl_mem (P := xv hp.length) (fun w hw => xv_mono (Nat.zero_le _) (hk0 _ (List.mem_of_getElem? h1) w hw)) (m1 _ (List.mem_of_getElem? h2)) v hv)
  · rw [List.length_set]; exact m2
  · rw [List.length_set]; exact xvs_t (xvs_t (xvs_t (xvs_t (xvs_t m3))))
set_option maxHeartbeats 2000000 in
theorem xspec_sim {p : Program} {e9 : Env} {R : Room} {s : State} {m : MethodId} {args : Array Value} {below : List Frame} {meth : Method} {c : Code} {H : Heap} {locs : List Loc} {cells slots : Nat} {Q : State → Prop} {cc : ByteArray} {pc d nL : Nat} {ls : Array Slot} {D : va_G} {da ad η : Nat → Nat} {A : Nat → Prop} {hp : List XC} {st : List Value} {own : String} {isInit : Bool} {L : List (Nat × Value)} {e : XI} {q : List Value × List XC}
    (hT : xtb z cl TB) (hF : xfr z cl TB ST p s m args meth c own cc isInit D da ad A) (hN : xnc NC ad s) (hrow : xokb z MT EX cl TB ST NC own cc pc e) (hml : c.maxLocals = nL) (hfr : d ≤ R.frames) (hlo : 40 * d ≤ R.locals) (hcl : cells ≤ R.cells) (hsl : slots ≤ R.slots) (hl : lv_has ls nL (L.map (xq ad η))) (hR : xR cl z.1 D da ad η A hp H) (hwm : xwm z L st hp) (hS : va_S A s.heap H locs) (h : xspec z d e st hp = some q)
    (kk : ∀ (H1 : Heap) (locs1 : List Loc), xR cl z.1 D da ad η A q.2 H1 → xwm z L q.1 q.2 → q.2.length = hp.length → va_S A s.heap H1 locs1 → W p l e9 R s m args below meth c H1 locs1 cells slots Q (F0 m (pc + 3) ls (q.1.map (xc ad η)))) :
    W p l e9 R s m args below meth c H locs cells slots Q (F0 m pc ls (st.map (xc ad η))) := by
  obtain ⟨hx, hb, hown, hts, hinit, hK, hcs, hA⟩ := hF
  have hKc : xkc cl z.1 ad A s s.heap z.2.2.2.2.2.1 := hcs.1
  have hls : c.maxLocals = ls.size := by rw [hml]; exact hl.1.symm
  obtain ⟨k, i, a, b, v, xs⟩ := e
  unfold xspec at h
  split at h
  · cases h
  · rename_i hd0
    dsimp only at h
    split at h
    · split at h
      · rename_i q9 hq
        split at h
        · rename_i hsum
          cases h
          obtain ⟨idx, g1, g2, g3, g4, g5⟩ := hrow
          obtain ⟨w1, w2⟩ := xcpy_wf hwm hq
          exact xcpy_sim hT g2 g3 g4 g5 hx hb hls hts hown hK hR hKc hS (by omega) (by omega) hsum g1 hq (fun H1 locs1 q1 q2 => kk H1 locs1 q1 w1 w2 q2)
        · cases h
      · split at h
        · rename_i q9 hq
          split at h
          · rename_i hsum
            cases h
            obtain ⟨idx, g1, g2, g3, g4, g5⟩ := hrow
            obtain ⟨w1, w2⟩ := xcpk_wf hT.2.2.2 hwm hq
            exact xcpk_sim g2 g3 g4 g5 hx hb hls hts hown hK hR hKc hS (by omega) (by omega) hsum g1 hq (fun H1 locs1 q1 q2 => kk H1 locs1 q1 w1 w2 q2)
          · cases h
        · cases h
    · split at h
      · rename_i q9 hq
        split at h
        · rename_i hsum
          cases h
          obtain ⟨idx, g1, g2, g3, g4, g5⟩ := hrow
          obtain ⟨w1, w2⟩ := xcpk_wf hT.2.2.2 hwm hq
          exact xcpk_sim g2 g3 g4 g5 hx hb hls hts hown hK hR hKc hS (by omega) (by omega) hsum g1 hq (fun H1 locs1 q1 q2 => kk H1 locs1 q1 w1 w2 q2)
        · cases h
      · cases h
    · split at h
      · rename_i a9 r
        split at h
        · rename_i hsum
          cases h
          obtain ⟨idx, g1, g2, g3, g4⟩ := hrow
          have hsum9 : ((r.map (xc ad η)).map fun v => v.category).sum ≤ 8 := by
            have := xsum_c ad η r
            unfold xsum at this hsum
            omega
          refine W.objInit hx hb hown (hts _ g2) (hts _ g3) (hts _ g4) (g := F0 m pc ls ((Value.ref a9 :: r).map (xc ad η))) rfl hls.symm rfl g1 (by omega) ?_ ?_
          · show 2 * 0 + ((r.map (xc ad η)).map fun v => v.category).sum + 12 ≤ R.locals
            omega
          · exact W.eq (g2 := F0 m (pc + 3) ls (r.map (xc ad η))) rfl (kk H locs hR (xwm_st hwm (xvs_t hwm.2.2.1)) rfl hS)
        · cases h
      · cases h
    · split at h
      · rename_i a9 r
        split at h
        · rename_i q9 ha
          split at h
          · rename_i hsum
            obtain ⟨hs1, hs2, hs3⟩ := hsum
            cases h
            obtain ⟨t9, es9⟩ := q9
            dsimp only at hs2 hs3
            subst hs2
            obtain ⟨idx, E, C, g1, g2, g3, g4, g5, g6, g7, g8, g9⟩ := hrow
            exact xgcl_sim g2 hs3 g3 (hN.2.2 _ g4) g5 g6 g7 g8 g9 hx hb hls hts hown hK hR.1 ha (by omega) (by omega) hs1 g1 (kk H locs hR (xwm_st hwm (xvs_c trivial (xvs_t hwm.2.2.1))) rfl hS)
          · cases h
        · cases h
      · cases h
    · split at h
      · rename_i y9 x9 r
        split at h
        · rename_i hsum
          cases h
          obtain ⟨idx, g1, g2, g3, g4, g5⟩ := hrow
          have hsum9 : ((r.map (xc ad η)).map fun v => v.category).sum ≤ 8 := by
            have := xsum_c ad η r
            unfold xsum at this hsum
            omega
          exact va_mmax hx hb hls hown (hts _ g2) (hts _ g3) (hts _ g4) (hts _ g5) (by omega) (by omega) hcl hsl g1 (kk H locs hR (xwm_st hwm (xvs_c trivial (xvs_t (xvs_t hwm.2.2.1)))) rfl hS)
        · cases h
      · cases h
    · split at h
      · rename_i y9 x9 r
        split at h
        · rename_i hsum
          cases h
          obtain ⟨idx, g1, g2, g3, g4, g5⟩ := hrow
          have hsum9 : ((r.map (xc ad η)).map fun v => v.category).sum ≤ 8 := by
            have := xsum_c ad η r
            unfold xsum at this hsum
            omega
          exact va_mmin hx hb hls hown (hts _ g2) (hts _ g3) (hts _ g4) (hts _ g5) (by omega) (by omega) hcl hsl g1 (kk H locs hR (xwm_st hwm (xvs_c trivial (xvs_t (xvs_t hwm.2.2.1)))) rfl hS)
        · cases h
      · cases h
    · cases h
/-- clone of an array of bytes, and the cast behind it -/
theorem xcln_sim {p : Program} {e9 : Env} {R : Room} {s : State} {m : MethodId} {args : Array Value} {below : List Frame} {meth : Method} {c : Code} {H : Heap} {locs : List Loc} {cells slots : Nat} {Q : State → Prop} {cc : ByteArray} {pc nL : Nat} {ls : Array Slot} {D : va_G} {da ad η : Nat → Nat} {A : Nat → Prop} {hp : List XC} {r : List Value} {own : String} {isInit : Bool} {L : List (Nat × Value)} {a t idx i2 : Nat} {es : List Value}
    (hF : xfr z cl TB ST p s m args meth c own cc isInit D da ad A) (hml : c.maxLocals = nL) (hfr : 1 ≤ R.frames) (hlo : 40 ≤ R.locals) (hl : lv_has ls nL (L.map (xq ad η))) (hR : xR cl z.1 D da ad η A hp H) (hwm : xwm z L (.ref a :: r) hp) (hS : va_S A s.heap H locs)
    (ha : hp[a]? = some (.inl (t, es))) (ht : t < z.2.1) (hty : z.1 t = .byte) (hfit : es.all (fun v => fits .byte (.int (xint v))) = true) (hsum : xsum r ≤ 8) (hc : cells + 1 ≤ R.cells) (hs : slots + es.length ≤ R.slots)
    (g1 : decode cc pc = .ok (.invokevirtual idx, 3)) (g2 : decode cc (pc + 3) = .ok (.checkcast i2, 3)) (w1 : Cond.methodLink own idx ⟨"[B", "clone", "()Ljava/lang/Object;"⟩ ∈ TB) (w2 : Cond.sameMethod "[B" "java/lang/Object" "clone" "()Ljava/lang/Object;" ∈ TB) (w3 : Cond.native ⟨"java/lang/Object", "clone", "()Ljava/lang/Object;"⟩ ∈ TB) (w4 : Cond.instanceMethod ⟨"java/lang/Object", "clone", "()Ljava/lang/Object;"⟩ ∈ TB)
    (w5 : Cond.selects "[B" ⟨"[B", "clone", "()Ljava/lang/Object;"⟩ ⟨"java/lang/Object", "clone", "()Ljava/lang/Object;"⟩ ∈ TB) (w6 : Cond.castable "[B" "java/lang/Cloneable" ∈ TB) (w7 : Cond.classLink own i2 "[B" ∈ TB)
    (kk : ∀ (q : Nat) (H1 : Heap), xR cl z.1 D da ad (va_up η hp.length q) A (hp ++ [.inl (t, es)]) H1 → va_S A s.heap H1 locs → W p l e9 R s m args below meth c H1 locs (cells + 1) (slots + es.length) Q (F0 m (pc + 6) ls ((.ref hp.length :: r).map (xc ad (va_up η hp.length q))))) :
    W p l e9 R s m args below meth c H locs cells slots Q (F0 m pc ls ((.ref a :: r).map (xc ad η))) := by
  obtain ⟨hx, hb, hown, hts, hinit, hK, hcs, hA⟩ := hF
  have hls : c.maxLocals = ls.size := by rw [hml]; exact hl.1.symm
  have hnm : s.vm.findClass "[B" = some (da t) := va_nm_byte (by
    have h := (hK.2 t _ (xtys_get ht)).2
    rw [hty] at h
    exact h)
  have hx0 : xae (z.1 t) ad η es = (es.length, .inl (fun j => xint (es.getD j .null))) := xae_p (by rw [hty]; rfl) ad η es
  have hw : (xw z.1 da ad η hp)[a]? = some (η a, .inl (da t, (es.length, .inl (fun j => xint (es.getD j .null))))) := by
    have h9 := xw_get (ty := z.1) (da := da) (ad := ad) (η := η) ha
    rw [show xe z.1 da ad η (.inl (t, es)) = .inl (da t, xae (z.1 t) ad η es) from rfl, hx0] at h9
    exact h9
  have hxl : (xw z.1 da ad η hp).length = hp.length := by
    unfold xw
    exact List.length_mapIdx
  have hsum9 : ((r.map (xc ad η)).map fun v => v.category).sum ≤ 8 := by
    have := xsum_c ad η r
    unfold xsum at this hsum
    omega
  refine va_clone hx hb hls hown (hts _ w1) (hts _ w2) (hts _ w3) (hts _ w4) (hts _ w5) (va_Nw.of rfl (hts _ w6)) hK hR.1 hR.2 hS hA a t hw (xtys_get ht) hnm ?_ hfr (by omega) hc hs g1 (fun q H1 q1 q2 q3 q4 => ?_)
  · rw [hty]
    refine va_fit (F := fun j => .int (xint (es.getD j .null))) (fun i hi => ?_)
    have h8 := List.all_eq_true.mp hfit (es.getD i .null) (by rw [List.getD_eq_getElem?_getD, List.getElem?_eq_getElem hi]; exact List.getElem_mem hi)
    exact h8
  · refine va_castA hx hb hown (hts _ w7) q2 hp.length (cA := da t) (x := (es.length, .inl (fun j => xint (es.getD j .null)))) ?_ hnm g2 ?_
    · rw [List.getElem?_append_right (by rw [hxl]; exact Nat.le_refl _), hxl, Nat.sub_self]
      rfl
    · have e9 := xw_push (ty := z.1) (da := da) (ad := ad) (η := η) hwm.1 q (.inl (t, es)) (.inl (da t, (es.length, .inl (fun j => xint (es.getD j .null))))) ((xe_g (xup_g η hp.length q) (hwm.1 _ (List.mem_of_getElem? ha))).trans (by rw [show xe z.1 da ad η (.inl (t, es)) = .inl (da t, xae (z.1 t) ad η es) from rfl, hx0]))
      rw [← e9] at q2 q3
      have k9 := kk q H1 ⟨q2, q3⟩ q4
      have e8 : (.ref hp.length :: r : List Value).map (xc ad (va_up η hp.length q)) = .ref q :: r.map (xc ad η) := by
        rw [List.map_cons, xc_gs (xup_g η hp.length q) (xvs_t hwm.2.2.1)]
        exact congrArg (fun z => Value.ref z :: r.map (xc ad η)) (if_pos rfl)
      rw [e8] at k9
      exact k9
set_option maxHeartbeats 2000000 in
/-- a static of which only 'null or a reference' is known, as a call's last argument, where the callee answers alike for both -/
theorem xunk_sim {p : Program} {e9 : Env} {R : Room} {s : State} {m : MethodId} {args : Array Value} {below : List Frame} {meth : Method} {c : Code} {H : Heap} {locs : List Loc} {cells slots : Nat} {Q : State → Prop} {cc : ByteArray} {pc d n nL yy k9 idx : Nat} {ls : Array Slot} {D : va_G} {da ad η : Nat → Nat} {A : Nat → Prop} {hp : List XC} {r : List Value} {own : String} {isInit : Bool} {L : List (Nat × Value)} {x1 x2 y1 : Int32} {q : String × String × String × Value} {b : UInt32}
    (ih : xgo z MT EX cl TB ST NC l n) (hT : xtb z cl TB) (hMT : ∀ y, (∃ pc e, xmC (MT y) pc = some e) → xmk z MT EX cl TB ST NC (MT y)) (hTW : ∀ w ∈ TB, ∀ (a a' : Array Value) (u U : State), w.before a u = true → u.WarmedH U.vm → w.before a' U = true) (hF : xfr z cl TB ST p s m args meth c own cc isInit D da ad A) (hN : xnc NC ad s)
    (g1 : decode cc pc = .ok (.getstatic idx, 3)) (g2 : q ∈ ST) (g3 : q.2.2.2 = .float b) (g4 : b.toNat = k9) (g5 : Cond.fieldLink own idx q.1 q.2.1 q.2.2.1 ∈ TB) (hrow : xokb z MT EX cl TB ST NC own cc (pc + 3) (31, .nop, yy, 3, .null, [])) (hml : c.maxLocals = nL) (hfr : d + 1 ≤ R.frames) (hlo : 40 * (d + 1) ≤ R.locals) (hl : lv_has ls nL (L.map (xq ad η))) (hR : xR cl z.1 D da ad η A hp H) (hwm : xwm z L (.int x2 :: .int x1 :: r) hp) (hS : va_S A s.heap H locs) (hsum : xsum r ≤ 7) (h3 : 3 ≤ xmL (MT yy))
    (hr1 : xrun z MT n d yy 0 [(0, .int x1), (1, .int x2), (2, .null)] [] [] 0 0 = some (.inl (some (.int y1), [], 0, 0))) (hr2 : xrun z MT n d yy 0 [(0, .int x1), (1, .int x2), (2, .retAddr k9)] [] [] 0 0 = some (.inl (some (.int y1), [], 0, 0))) {hc : cells ≤ R.cells} {hs : slots ≤ R.slots}
    (kk : ∀ (locs1 : List Loc) (H1 : Heap), xR cl z.1 D da ad η A hp H1 → va_S A s.heap H1 locs1 → W p l e9 R s m args below meth c H1 locs1 cells slots Q (F0 m (pc + 6) ls ((.int y1 :: r).map (xc ad η)))) :
    W p l e9 R s m args below meth c H locs cells slots Q (F0 m pc ls ((.int x2 :: .int x1 :: r).map (xc ad η))) := by
  obtain ⟨hx, hb, hown, hts, hinit, hK, hcs, hA⟩ := hF
  have main : ∀ v3 : Value, xv 0 v3 → v3.category = 1 → xrun z MT n d yy 0 (lv_args 0 [.int x1, .int x2, v3]) [] [] 0 0 = some (.inl (some (.int y1), [], 0, 0)) → W p l e9 R s m args below meth c H locs cells slots Q (F0 m (pc + 3) ls ((v3 :: .int x2 :: .int x1 :: r).map (xc ad η))) := by
    intro v3 hv3 hcat hrun
    have hcall : ∃ pc8 e8, xmC (MT yy) pc8 = some e8 := by
      cases n with
      | zero => cases hrun
      | succ n =>
        unfold xrun at hrun
        split at hrun
        · cases hrun
        · rename_i e8 hC8
          exact ⟨_, _, hC8⟩
    have hw3 : ∀ v ∈ [Value.int x1, .int x2, v3], xv ([] : List XC).length v := fun v hv => by
      rcases List.mem_cons.mp hv with rfl | hv
      · trivial
      · rcases List.mem_cons.mp hv with rfl | hv
        · trivial
        · rw [List.mem_singleton.mp hv]; exact hv3
    have hs3 : xsum [Value.int x1, .int x2, v3] ≤ xmL (MT yy) := by
      show 1 + (1 + (v3.category + 0)) ≤ _
      omega
    have hmet := xmet ih hrun hs3 hw3 (fun c hc => by cases hc) (fun c hc => by cases hc) (hMT _ hcall) D da ad η H.size
    have hfree : ∀ q, va_A (xw z.1 da ad η []) H.size q → A q := fun q hq => by
      rcases hq with ⟨k, e8, hq⟩ | hq
      · cases hq
      · exact hA q (Nat.le_trans hS.1 hq)
    have hP0 : va_P D (xk cl) (xw z.1 da ad η []) H := fun k q hq => by cases hq
    have hD0 : ∀ B : Nat → Prop, va_D B (xw z.1 da ad η []) := fun B => ⟨fun i j p q hi => (by cases hi), fun k q hq => (by cases hq)⟩
    have hPc : ∀ U : State, U.heap = H → s.WarmedH U.vm → xPc z cl ST NC D da ad η H.size [] [.int x1, .int x2, v3] (([.int x1, .int x2, v3].map (xc ad η)).toArray) U := fun U hU hW => by
      refine ⟨rfl, by rw [hU], ⟨by rw [hU]; exact hP0, hD0 _⟩, va_K.moved hW.alike hK, ?_, xnc_warm hW hN⟩
      rw [hU]
      exact xcs_narrow (xcs_moved hW.alike (xcs_kept hcs hS.1 hS.2.1)) hfree
    refine xback (A1 := va_A (xw z.1 da ad η []) H.size) (xcall (e := (31, .nop, yy, 3, .null, [])) (as := [.int x1, .int x2, v3]) (rest := r) (D := D) (da := da) (ad := ad) (η := η) (hp := []) ⟨hx, hb, hml, hown, hts⟩ hmet hTW (hMT _ hcall) hrow ⟨show ¬ (31 : Nat) < 30 by decide, show (31 : Nat) ≠ 40 by decide, show (31 : Nat) ≠ 41 by decide, show (31 : Nat) ≠ 42 by decide, show (31 : Nat) ≠ 43 by decide⟩ rfl rfl (by show d + 1 ≤ R.frames; exact hfr) (by show 39 + 40 * d ≤ R.locals; omega) hK hP0 hcs.1 hS xPc_blind hPc rfl rfl hl.1 (by omega) ⟨hc, hs⟩) hS hfree (fun _ _ _ q => q.2) (fun _ _ _ q => q.2) (fun q _ hq => hfree q hq) ?_ ?_
    · intro v st₀ t H1 locs1 h0 ht hvm hq hS1
      obtain ⟨⟨v', hp', c8, s8, η', ho, hoc, hv8, hg1, hlen1, hR1, hhw1, hnt1, hK1⟩, hFF⟩ := hq
      cases ho
      cases hoc
      refine kk locs1 H1 ⟨hR.1.kept (fun k q hk => ?_), hR.2⟩ hS1
      have hq9 := hFF.2 q.1 (by rw [h0]; exact (hR.1 k q hk).lt) (fun z9 => by
        rcases z9 with ⟨k8, e8, hq8⟩ | hq8
        · cases hq8
        · exact absurd (hR.1 k q hk).lt (by omega))
      rw [h0, ht] at hq9
      exact hq9
    · intro E ce q st₀ t H1 locs1 h0 ht hvm hq hS1 g1 g2 g3
      obtain ⟨⟨Ei, hp', c8, s8, η', ho, -⟩, -⟩ := hq
      cases ho
  rcases (hcs.2.2.1 q g2).1 b g3 with hZ | hZ
  · exact va_gets hx hb hZ hS hown (hts _ g5) (fun _ h => h) g1 (main .null trivial rfl hr1)
  · rw [g4] at hZ
    exact va_gets hx hb hZ hS hown (hts _ g5) (fun _ h => h) g1 (main (.retAddr k9) trivial rfl hr2)
set_option maxHeartbeats 4000000 in
theorem xadeq (hT : xtb z cl TB) (hMT : ∀ y, (∃ pc e, xmC (MT y) pc = some e) → xmk z MT EX cl TB ST NC (MT y)) (hTW : ∀ w ∈ TB, ∀ (a a' : Array Value) (u U : State), w.before a u = true → u.WarmedH U.vm → w.before a' U = true) (hlt : l.stackTraces = false) : ∀ n, xgo z MT EX cl TB ST NC l n := by
  intro n
  induction n with
  | zero => intro d y pc L st hp nc ns o h; cases h
  | succ n ih =>
    intro d y pc L st hp nc ns o h p e R s m args below meth c H locs ls D da ad η0 η A hp0 hF hNC hret hlk hml hex hfr hlo hl hR hwm hS hg hlen hcc hss
    unfold xrun at h
    split at h
    · cases h
    · rename_i e0 hC
      have hk := hMT y ⟨pc, e0, hC⟩
      obtain ⟨hk1, hk2, hk3, hk4, hk5, hk6, hk7, hk8⟩ := hk
      have hrow := hk7 pc e0 hC
      have hF' := hF
      obtain ⟨hx, hb, hown, hts, hinit, hK, hcs, hA⟩ := hF'
      have hKc : xkc cl z.1 ad A s s.heap z.2.2.2.2.2.1 := hcs.1
      split at h
      · rename_i h20
        rw [if_pos h20] at hrow
        split at h
        · cases h
        · rename_i g hst
          obtain ⟨pc', L', st', hp', dc, ds⟩ := g
          obtain ⟨o1, o2⟩ := xrun_mono z MT _ _ _ _ _ _ _ _ _ _ h
          dsimp only at o1 o2 h
          exact xstep_sim hT hF hNC hrow hl hR hwm hS hst (Nat.le_trans o1 hcc) (Nat.le_trans o2 hss) (fun ls' η' H1 locs1 q1 q2 q3 q4 q5 q6 =>
            ih d y pc' L' st' hp' (nc + dc) (ns + ds) o h p e R s m args below meth c H1 locs1 ls' D da ad η0 η' A hp0 hF hNC hret hlk hml hex hfr hlo q2 q3 q4 q6 (xg_tr hlen hg q1) (Nat.le_trans hlen q5) hcc hss)
      · rename_i h20
        rw [if_neg h20] at hrow
        obtain ⟨hrow, hrow41⟩ := hrow
        split at h
        · rename_i e30
          split at h
          · cases h
          · rename_i q hq
            have hmo := xrun_mono z MT _ _ _ _ _ _ _ _ _ _ h
            exact xspec_sim hT hF hNC hrow hml hfr hlo (Nat.le_trans hmo.1 hcc) (Nat.le_trans hmo.2 hss) hl hR hwm hS hq (fun H1 locs1 q1 q2 q3 q4 =>
              ih d y (pc + 3) L q.1 q.2 nc ns o h p e R s m args below meth c H1 locs1 ls D da ad η0 η A hp0 hF hNC hret hlk hml hex hfr hlo hl q1 q2 q4 hg (by rw [q3]; exact hlen) hcc hss)
        · rename_i n30
          split at h
          · rename_i e40
            unfold xokb at hrow
            rw [e40] at hrow
            obtain ⟨v, hv, rfl⟩ := Option.map_eq_some_iff.mp h
            have hd : decode (xmB (MT y)) pc = .ok (e0.2.1, 1) := hrow
            have hend : ∀ (t : State), t.heap = H → s.WarmedH t.vm → xend z cl D da ad η0 A hp0 hp η t := fun t ht hW => ⟨hg, hlen, by rw [ht]; exact hR, hwm.1, hwm.2.2.2, va_K.moved hW.alike hK⟩
            unfold xret at hv
            split at hv
            · rename_i hi
              rw [hi] at hd
              split at hv
              · rename_i x ft hft
                split at hv
                · rename_i hn
                  cases hv
                  exact vx_ret (W.zret hx hb (hret.trans hft) hn (fun t ht hW => ⟨⟨some (.int x), hp, nc, ns, η, rfl, rfl, (fun w hw => by cases hw; trivial), hend t ht hW⟩, hS.F ht⟩) hS.2.2 hd)
                · cases hv
              · cases hv
            · rename_i hi
              rw [hi] at hd
              split at hv
              · rename_i x hft
                cases hv
                exact vx_ret (W.lret hx hb (hret.trans hft) (fun t ht hW => ⟨⟨some (.long x), hp, nc, ns, η, rfl, rfl, (fun w hw => by cases hw; trivial), hend t ht hW⟩, hS.F ht⟩) hS.2.2 hd)
              · cases hv
            · rename_i hi
              rw [hi] at hd
              split at hv
              · rename_i w ft hft
                split at hv
                · rename_i hn
                  cases hv
                  refine vx_ret (W.aret (v := xc ad η w) hx hb (hret.trans hft) ?_ ?_ (fun t ht hW => ⟨⟨some w, hp, nc, ns, η, rfl, rfl, (fun w' hw => by cases hw; exact hwm.2.2.1 _ List.mem_cons_self), hend t ht hW⟩, hS.F ht⟩) hS.2.2 hd)
                  · have h1 := hn.1
                    cases ft <;> first | exact Or.inl ⟨_, rfl⟩ | exact Or.inr ⟨_, rfl⟩ | cases h1
                  · rcases xisr_s hn.2 with rfl | ⟨a, rfl⟩ | ⟨a, rfl⟩
                    · exact Or.inl rfl
                    · exact Or.inr ⟨_, rfl⟩
                    · exact Or.inr ⟨_, rfl⟩
                · cases hv
              · cases hv
            · rename_i hi
              rw [hi] at hd
              split at hv
              · rename_i hft
                cases hv
                exact vx_ret (W.vret hx hb (hret.trans hft) (fun t ht hW => ⟨⟨none, hp, nc, ns, η, rfl, rfl, (fun w hw => by cases hw), hend t ht hW⟩, hS.F ht⟩) hS.2.2 hd)
              · cases hv
            · cases hv
          · split at h
            · rename_i e41
              have hH := hrow41 e41
              unfold xokb at hrow
              rw [e41] at hrow
              obtain ⟨ik, ic, names, d0, d3, d4, d7, hfit, hnames, hlk9, hini, hat, hgood, hlen4⟩ := hrow
              split at h
              · rename_i hcond
                cases h
                have hsum9 : ((st.map (xc ad η)).map fun v => v.category).sum ≤ 8 := by
                  have h1 := xsum_c ad η st
                  have h2 := hcond.2
                  unfold xsum at h1 h2
                  omega
                have hcc' : nc + 1 ≤ R.cells := hcc
                have hss' : ns + 6 ≤ R.slots := hss
                refine vx_throw0 hx hb hlt hown hfit hnames (hts _ hlk9) (hts _ hini) (fun w hw => hts _ (hat w hw)) hgood hcs.2.2.2.1 hcs.2.2.2.2.1 hS (by rw [hml]; exact hl.1) d0 d3 d4 d7 ?_ ?_ ?_ hcc' hss' hlk ?_ hS.2.2 (Nat.le_refl _) (Nat.le_refl _)
                · rw [hex, hH]; exact fun x hx9 => by cases hx9
                · omega
                · omega
                · intro t hvm hz hq
                  exact ⟨⟨_, hp, _, _, η, rfl, rfl, hg, hlen, ⟨hR.1.kept (fun k q hk => hq _ (hR.1 k q hk).lt), hR.2⟩, hwm.1, hwm.2.2.2, va_K.moved hvm hK⟩, Nat.le_trans hS.1 hz, fun q h1 h2 => (hq q (Nat.lt_of_lt_of_le h1 hS.1)).trans (hS.2.1 q h1 h2)⟩
              · cases h
            · rename_i n40 n41
              split at h
              · rename_i e42
                unfold xokb at hrow
                rw [e42] at hrow
                obtain ⟨⟨idx, q9, b9, g1, g2, g3, g4, g5⟩, hrow2⟩ := hrow
                split at h
                · cases h
                · rename_i d'
                  split at h
                  · rename_i x2 x1 r
                    split at h
                    · rename_i hcond
                      split at h
                      · rename_i y1 y2 hr1 hr2
                        split at h
                        · rename_i hy
                          subst hy
                          refine xunk_sim (yy := e0.2.2.1) ih hT hMT hTW hF hNC g1 g2 g3 g4 g5 hrow2 hml hfr hlo hl hR hwm hS hcond.1 hcond.2 hr1 hr2 (hc := Nat.le_trans (xrun_mono z MT _ _ _ _ _ _ _ _ _ _ h).1 hcc) (hs := Nat.le_trans (xrun_mono z MT _ _ _ _ _ _ _ _ _ _ h).2 hss) (fun locs1 H1 j1 j2 => ?_)
                          exact ih (d' + 1) y (pc + 6) L (.int y1 :: r) hp nc ns o h p e R s m args below meth c H1 locs1 ls D da ad η0 η A hp0 hF hNC hret hlk hml hex hfr hlo hl j1 (xwm_st hwm (xvs_c trivial (xvs_t (xvs_t hwm.2.2.1)))) j2 hg hlen hcc hss
                        · cases h
                      · cases h
                    · cases h
                  · cases h
              · rename_i n42
                split at h
                · rename_i e43
                  unfold xokb at hrow
                  rw [e43] at hrow
                  obtain ⟨hty, idx, i2, g1, g2, w1, w2, w3, w4, w5, w6, w7⟩ := hrow
                  split at h
                  · cases h
                  · rename_i d'
                    split at h
                    · rename_i a9 r
                      split at h
                      · rename_i q9 ha
                        split at h
                        · rename_i hcond
                          obtain ⟨b1, b2, b3, b4⟩ := hcond
                          obtain ⟨t9, es9⟩ := q9
                          dsimp only at b2 b3 b4 h
                          subst b2
                          obtain ⟨m1, m2, m3, m4⟩ := hwm
                          have hmo := xrun_mono z MT _ _ _ _ _ _ _ _ _ _ h
                          refine xcln_sim hF hml (by omega) (by omega) hl hR ⟨m1, m2, m3, m4⟩ hS ha b3 hty b4 b1 (Nat.le_trans hmo.1 hcc) (Nat.le_trans hmo.2 hss) g1 g2 w1 w2 w3 w4 w5 w6 w7 (fun q H1 j1 j2 => ?_)
                          have hlen9 : (hp ++ [(Sum.inl (e0.2.2.1, es9) : XC)]).length = hp.length + 1 := by rw [List.length_append]; rfl
                          refine ih (d' + 1) y (pc + 6) L (.ref hp.length :: r) (hp ++ [.inl (e0.2.2.1, es9)]) (nc + 1) (ns + es9.length) o h p e R s m args below meth c H1 locs ls D da ad η0 (va_up η hp.length q) A hp0 hF hNC hret hlk hml hex hfr hlo ?_ j1 ⟨xwf_push (c := .inl (e0.2.2.1, es9)) m1 (fun v hv => xv_mono (Nat.le_succ _) (m1 _ (List.mem_of_getElem? ha) v hv)), ?_, ?_, xnt_push m4 (fun t es e => by cases e; exact b3)⟩ j2 (fun k hk => (if_neg (by omega)).trans (hg k hk)) (by rw [hlen9]; omega) hcc hss
                          · rw [xl_g (xup_g _ _ _) m2]; exact hl
                          · rw [hlen9]; exact fun q hq => xv_mono (Nat.le_succ _) (m2 q hq)
                          · rw [hlen9]; exact xvs_c (Nat.lt_succ_self _) (fun v hv => xv_mono (Nat.le_succ _) (xvs_t m3 v hv))
                        · cases h
                      · cases h
                    · cases h
                rename_i n43
                split at h
                · cases h
                · rename_i d'
                  split at h
                  · cases h
                  · rename_i hstl
                    split at h
                    · rename_i hcond
                      obtain ⟨c1, c2, c3⟩ := hcond
                      have hbl : (st.take e0.2.2.2.1).reverse.length = e0.2.2.2.1 := by
                        rw [List.length_reverse, List.length_take, Nat.min_eq_left (by omega)]
                      have hst9 : st.map (xc ad η) = ((st.take e0.2.2.2.1).reverse.map (xc ad η)).reverse ++ (st.drop e0.2.2.2.1).map (xc ad η) := by
                        rw [← List.map_reverse, List.reverse_reverse, ← List.map_append, List.take_append_drop]
                      have hwa : ∀ v ∈ (st.take e0.2.2.2.1).reverse, xv hp.length v := fun v hv => hwm.2.2.1 v (List.mem_of_mem_take (List.mem_reverse.mp hv))
                      have hwr : ∀ v ∈ st.drop e0.2.2.2.1, xv hp.length v := fun v hv => hwm.2.2.1 v (List.mem_of_mem_drop hv)
                      have hne : ¬ e0.1 < 30 ∧ e0.1 ≠ 40 ∧ e0.1 ≠ 41 ∧ e0.1 ≠ 42 ∧ e0.1 ≠ 43 := ⟨n30, n40, n41, n42, n43⟩
                      have hfree : ∀ q, va_A (xw z.1 da ad η hp) H.size q → A q := fun q hq => by
                        rcases hq with ⟨k, e8, hq⟩ | hq
                        · exact hR.2.2 k _ hq
                        · exact hA q (Nat.le_trans hS.1 hq)
                      have hPc : ∀ U : State, U.heap = H → s.WarmedH U.vm → xPc z cl ST NC D da ad η H.size hp (st.take e0.2.2.2.1).reverse (((st.take e0.2.2.2.1).reverse.map (xc ad η)).toArray) U := fun U hU hW => by
                        refine ⟨rfl, by rw [hU], ⟨by rw [hU]; exact hR.1, hR.2.weaken (fun _ _ _ _ => trivial)⟩, va_K.moved hW.alike hK, ?_, xnc_warm hW hNC⟩
                        rw [hU]
                        exact xcs_narrow (xcs_moved hW.alike (xcs_kept hcs hS.1 hS.2.1)) hfree
                      rw [hst9]
                      split at h
                      · cases h
                      · rename_i v1 hp1 k1 k2 hrun
                        obtain ⟨o1, o2⟩ := xrun_mono z MT _ _ _ _ _ _ _ _ _ _ h
                        have hcall : ∃ pc8 e8, xmC (MT e0.2.2.1) pc8 = some e8 := by
                          cases n with
                          | zero => cases hrun
                          | succ n =>
                            unfold xrun at hrun
                            split at hrun
                            · cases hrun
                            · rename_i e8 hC8
                              exact ⟨_, _, hC8⟩
                        have hmet := xmet ih hrun c2 hwa hwm.1 hwm.2.2.2 (hMT _ hcall) D da ad η H.size
                        refine xback (A1 := va_A (xw z.1 da ad η hp) H.size) (xcall (D := D) (da := da) (ad := ad) (η := η) (hp := hp) ⟨hx, hb, hml, hown, hts⟩ hmet hTW (hMT _ hcall) hrow hne rfl rfl (by show d' + 1 ≤ R.frames; exact hfr) (by show 39 + 40 * d' ≤ R.locals; omega) hK hR.1 hKc hS xPc_blind hPc hbl c3 hl.1 c1 ⟨Nat.le_trans o1 hcc, Nat.le_trans o2 hss⟩) hS hfree (fun _ _ _ q => q.2) (fun _ _ _ q => q.2) (fun q _ hq => hfree q hq) ?_ ?_
                        · intro v st₀ t H1 locs1 h0 ht hvm hq hS1
                          obtain ⟨⟨v', hp', c8, s8, η', ho, hoc, hv8, hg1, hlen1, hR1, hhw1, hnt1, hK1⟩, -⟩ := hq
                          cases ho
                          cases hoc
                          have e9 : (v1.map (xc ad η')).toList ++ (st.drop e0.2.2.2.1).map (xc ad η) = (v1.toList ++ st.drop e0.2.2.2.1).map (xc ad η') := by
                            rw [List.map_append, xc_gs hg1 hwr]
                            cases v1 <;> rfl
                          rw [e9]
                          refine ih (d' + 1) y (pc + 3) L _ hp1 (nc + k1) (ns + k2) o h p e R s m args below meth c H1 locs1 ls D da ad η0 η' A hp0 hF hNC hret hlk hml hex hfr hlo ?_ ?_ ?_ hS1 (xg_tr hlen hg hg1) (Nat.le_trans hlen hlen1) hcc hss
                          · rw [xl_g hg1 hwm.2.1]; exact hl
                          · rw [← ht]; exact ⟨hR1.1, hR1.2.weaken (fun k q _ hq => hfree _ hq)⟩
                          · refine ⟨hhw1, fun q hq => xv_mono hlen1 (hwm.2.1 q hq), fun w hw => ?_, hnt1⟩
                            rcases List.mem_append.mp hw with hw | hw
                            · cases v1 with
                              | none => cases hw
                              | some w1 => rw [List.mem_singleton.mp hw]; exact hv8 w1 rfl
                            · exact xv_mono hlen1 (hwr w hw)
                        · intro E ce q st₀ t H1 locs1 h0 ht hvm hq hS1 g1 g2 g3
                          obtain ⟨⟨Ei, hp', c8, s8, η', ho, -⟩, -⟩ := hq
                          cases ho
                      · rename_i E1 hp1 k1 k2 hrun
                        have hcall : ∃ pc8 e8, xmC (MT e0.2.2.1) pc8 = some e8 := by
                          cases n with
                          | zero => cases hrun
                          | succ n =>
                            unfold xrun at hrun
                            split at hrun
                            · cases hrun
                            · rename_i e8 hC8
                              exact ⟨_, _, hC8⟩
                        have hmet := xmet ih hrun c2 hwa hwm.1 hwm.2.2.2 (hMT _ hcall) D da ad η H.size
                        have ho9 : nc + k1 ≤ xoc o ∧ ns + k2 ≤ xos o := by
                          split at h
                          · split at h
                            · cases h; exact ⟨Nat.le_refl _, Nat.le_refl _⟩
                            · cases h
                          · exact xrun_mono z MT _ _ _ _ _ _ _ _ _ _ h
                        refine xback (A1 := va_A (xw z.1 da ad η hp) H.size) (xcall (D := D) (da := da) (ad := ad) (η := η) (hp := hp) ⟨hx, hb, hml, hown, hts⟩ hmet hTW (hMT _ hcall) hrow hne rfl rfl (by show d' + 1 ≤ R.frames; exact hfr) (by show 39 + 40 * d' ≤ R.locals; omega) hK hR.1 hKc hS xPc_blind hPc hbl c3 hl.1 c1 ⟨Nat.le_trans ho9.1 hcc, Nat.le_trans ho9.2 hss⟩) hS hfree (fun _ _ _ q => q.2) (fun _ _ _ q => q.2) (fun q _ hq => hfree q hq) ?_ ?_
                        · intro v st₀ t H1 locs1 h0 ht hvm hq hS1
                          obtain ⟨⟨v', hp', c8, s8, η', ho, -⟩, -⟩ := hq
                          cases ho
                        · intro E ce q st₀ t H1 locs1 h0 ht hvm hq hS1 g1 g2 g3
                          obtain ⟨⟨Ei, hp', c8, s8, η', ho, hE, hg1, hlen1, hR1, hhw1, hnt1, hK1⟩, -⟩ := hq
                          cases ho
                          subst hE
                          have hR2 : xR cl z.1 D da ad η' A hp1 H1 := by rw [← ht]; exact ⟨hR1.1, hR1.2.weaken (fun k q _ hq => hfree _ hq)⟩
                          split at h
                          · split at h
                            · rename_i hH
                              cases h
                              refine vx_out (by rw [hex, hH]; exact fun x hx9 => by cases hx9) hlk g1 g2 g3 (fun t' ht' hvm' => ⟨⟨_, hp1, _, _, η', rfl, rfl, xg_tr hlen hg hg1, Nat.le_trans hlen hlen1, by rw [ht']; exact hR2, hhw1, hnt1, va_K.moved hvm' hK⟩, hS1.F ht'⟩) hS1.2.2 (Nat.le_refl _) (Nat.le_refl _)
                            · cases h
                          · rename_i qx hfind
                            have hmem : (pc, E1, qx) ∈ xmX (MT y) := by
                              unfold xfind at hfind
                              split at hfind
                              · rename_i q9 hq9
                                cases hfind
                                have m9 := List.mem_of_find?_eq_some hq9
                                have p9 := List.find?_some hq9
                                simp only [Bool.and_eq_true, beq_iff_eq] at p9
                                rw [← p9.1, ← p9.2]
                                exact m9
                              · cases hfind
                            obtain ⟨pre, yy, suf, nm, j1, j2, j3, j4, j5, j6, j7, j8, j9⟩ := hk8 _ hmem
                            refine vx_catch (name := nm) hown pre yy suf (by rw [hex]; exact j1) (fun w hw => (j2 w hw).imp id (fun q => ⟨q.1, q.2.choose, hts _ q.2.choose_spec.1, hNC.1 _ q.2.choose_spec.2⟩)) j3 j4 (hts _ j5) (hts _ j6) g1 g2 g3 ?_
                            rw [j7]
                            dsimp only at j8 j9 h ⊢
                            have kk : ∀ ls' : Array Slot, lv_has ls' (xmL (MT y)) ((qx.2.1, Value.ref q) :: (L.map (xq ad η)).filter (fun q => !(q.1 == qx.2.1) && !(q.1 + 1 == qx.2.1 && q.2.category == 2))) → W p l e R s m args below meth c H1 locs1 (nc + k1) (ns + k2) (vx_MQ below (fun _ => xQ z cl D da ad η0 A hp0 o) (xX z EX cl D da ad η0 A hp0 o) args s (xoc o) (xos o) A) (F0 m (qx.1 + qx.2.2) ls' []) := fun ls' hl' => by
                              refine ih (d' + 1) y (qx.1 + qx.2.2) (xdrop qx.2.1 L) [] hp1 (nc + k1) (ns + k2) o h p e R s m args below meth c H1 locs1 ls' D da ad η0 η' A hp0 hF hNC hret hlk hml hex hfr hlo ?_ hR2 ?_ hS1 (xg_tr hlen hg hg1) (Nat.le_trans hlen hlen1) hcc hss
                              · rw [xl_g hg1 (xdrop_wf hwm.2.1)]
                                exact lv_less hl' xdrop_in
                              · exact ⟨hhw1, fun q hq => xv_mono hlen1 (xdrop_wf hwm.2.1 q hq), (fun w hw => by cases hw), hnt1⟩
                            rcases j9 with ⟨j9, j10⟩ | ⟨kf, j9, j10, j11⟩
                            · rw [j10] at kk
                              exact lv_astore hx hb j9 hl j8 rfl kk
                            · rw [j11] at kk
                              exact lv_astore_n hx hb j9 j10 hl j8 rfl kk
                    · cases h
end XADEQ
