/-! System.arraycopy -/
def xcpl (e0 e1 : List Value) (sp dp n : Nat) : List Value := e1.take dp ++ ((e0.drop sp).take n ++ e1.drop (dp + n))
theorem xcpl_len {e0 e1 : List Value} {sp dp n : Nat} (h0 : sp + n ≤ e0.length) (h1 : dp + n ≤ e1.length) : (xcpl e0 e1 sp dp n).length = e1.length := by
  unfold xcpl
  rw [List.length_append, List.length_append, List.length_take, List.length_take, List.length_drop, List.length_drop]
  omega
theorem xcpl_get {e0 e1 : List Value} {sp dp n : Nat} (h0 : sp + n ≤ e0.length) (h1 : dp + n ≤ e1.length) (j : Nat) : (xcpl e0 e1 sp dp n).getD j .null = if dp ≤ j ∧ j < dp + n then e0.getD (sp + (j - dp)) .null else e1.getD j .null := by
  unfold xcpl
  simp only [List.getD_eq_getElem?_getD]
  by_cases a : j < dp
  · rw [if_neg (by omega), List.getElem?_append_left (by rw [List.length_take]; omega), List.getElem?_take, if_pos a]
  · rw [List.getElem?_append_right (by rw [List.length_take]; omega), List.length_take, Nat.min_eq_left (by omega)]
    by_cases b : j < dp + n
    · rw [if_pos (by omega), List.getElem?_append_left (by rw [List.length_take, List.length_drop]; omega), List.getElem?_take, if_pos (by omega), List.getElem?_drop]
    · rw [if_neg (by omega), List.getElem?_append_right (by rw [List.length_take, List.length_drop]; omega), List.length_take, List.length_drop, Nat.min_eq_left (by omega), List.getElem?_drop]
      congr 2
      omega
theorem xcpl_mem {P : Value → Prop} {e0 e1 : List Value} {sp dp n : Nat} (h0 : ∀ v ∈ e0, P v) (h1 : ∀ v ∈ e1, P v) : ∀ v ∈ xcpl e0 e1 sp dp n, P v := by
  intro v hv
  unfold xcpl at hv
  rcases List.mem_append.mp hv with hv | hv
  · exact h1 v (List.mem_of_mem_take hv)
  · rcases List.mem_append.mp hv with hv | hv
    · exact h0 v (List.mem_of_mem_drop (List.mem_of_mem_take hv))
    · exact h1 v (List.mem_of_mem_drop hv)
/-- what may be copied: numbers that fit, null, objects of classes that may be stored -/
def xcpo (z : XP) (hp : List XC) (t1 : Nat) (v : Value) : Bool :=
  if refKind (z.1 t1) = true then (match v with
    | .null => true
    | w => match xcls z.2.2.2.2.2.1 hp w with
      | some ci => decide ((ci, t1) ∈ z.2.2.1)
      | none => false)
  else fits (z.1 t1) (.int (xint v))
def xcpy (z : XP) (hp : List XC) (st : List Value) : Option (List XC × List Value) :=
  match st with
  | .int n :: .int dp :: .ref a1 :: .int sp :: .ref a0 :: r => match hp[a0]?, hp[a1]? with
    | some (.inl (t0, e0)), some (.inl (t1, e1)) =>
      if t0 < z.2.1 ∧ t1 < z.2.1 ∧ refKind (z.1 t0) = refKind (z.1 t1) ∧ (refKind (z.1 t0) = false → z.1 t0 = z.1 t1) ∧ ¬ sp < 0 ∧ ¬ dp < 0 ∧ ¬ n < 0 ∧ sp.toNatClampNeg + n.toNatClampNeg ≤ e0.length ∧ dp.toNatClampNeg + n.toNatClampNeg ≤ e1.length ∧ ((e0.drop sp.toNatClampNeg).take n.toNatClampNeg).all (xcpo z hp t1) = true then
        some (hp.set a1 (.inl (t1, xcpl e0 e1 sp.toNatClampNeg dp.toNatClampNeg n.toNatClampNeg)), r)
      else none
    | _, _ => none
  | _ => none
theorem xcpy_s {z : XP} {hp hp' : List XC} {st st' : List Value} (h : xcpy z hp st = some (hp', st')) : ∃ n dp a1 sp a0 t0 e0 t1 e1, st = .int n :: .int dp :: .ref a1 :: .int sp :: .ref a0 :: st' ∧ hp[a0]? = some (.inl (t0, e0)) ∧ hp[a1]? = some (.inl (t1, e1)) ∧ t0 < z.2.1 ∧ t1 < z.2.1 ∧ refKind (z.1 t0) = refKind (z.1 t1) ∧ (refKind (z.1 t0) = false → z.1 t0 = z.1 t1) ∧ ¬ sp < 0 ∧ ¬ dp < 0 ∧ ¬ n < 0 ∧ sp.toNatClampNeg + n.toNatClampNeg ≤ e0.length ∧ dp.toNatClampNeg + n.toNatClampNeg ≤ e1.length ∧ ((e0.drop sp.toNatClampNeg).take n.toNatClampNeg).all (xcpo z hp t1) = true ∧ hp' = hp.set a1 (.inl (t1, xcpl e0 e1 sp.toNatClampNeg dp.toNatClampNeg n.toNatClampNeg)) := by
  unfold xcpy at h
  split at h
  · split at h
    · split at h
      · rename_i e1 e2 e3
        cases h
        obtain ⟨h1, h2, h3, h4, h5, h6, h7, h8, h9, h10⟩ := e3
        exact ⟨_, _, _, _, _, _, _, _, _, rfl, e1, e2, h1, h2, h3, h4, h5, h6, h7, h8, h9, h10, rfl⟩
      · cases h
    · cases h
  · cases h
theorem xcpy_el {e0 : List Value} {sp n : Nat} {P : Value → Bool} (hn : sp + n ≤ e0.length) (h : ((e0.drop sp).take n).all P = true) {i : Nat} (hi : i < n) : P (e0.getD (sp + i) .null) = true := by
  refine List.all_eq_true.mp h _ ?_
  rw [List.getD_eq_getElem?_getD]
  have hlt : sp + i < e0.length := by omega
  rw [List.getElem?_eq_getElem hlt]
  refine List.mem_of_getElem? (i := i) ?_
  rw [List.getElem?_take, if_pos hi, List.getElem?_drop, List.getElem?_eq_getElem hlt]
  rfl
section XCPY
variable {p : Program} {l : Launch} {e : Env} {R : Room} {s : State} {m : MethodId} {args : Array Value} {below : List Frame} {meth : Method} {c : Code} {H : Heap} {locs : List Loc} {cells slots : Nat} {Q : State → Prop}
variable {cc : ByteArray} {pc : Nat} {ls : Array Slot}
variable {cl : List vw_C} {z : XP} {D : va_G} {da ad η : Nat → Nat} {A : Nat → Prop} {hp hp' : List XC} {H0 : Heap} {st st' : List Value} {TB : List Cond} {own : String}
theorem xcpy_sim {idx : Nat} (hT : xtb z cl TB) (hlk : Cond.methodLink own idx arraycopyName ∈ TB) (hnat : Cond.native arraycopyName ∈ TB) (hstat : Cond.static arraycopyName ∈ TB) (hini : Cond.initialized "java/lang/System" ∈ TB) (hx : p.tables.exec = Jvm.exec) (hb : c.code = cc) (hml : c.maxLocals = ls.size) (hts : ∀ w ∈ TB, w.before args s = true) (hown : s.vm.findClass own = some m.cls) (hK : va_K D (xk cl) (xtys z.1 da z.2.1) s) (hR : xR cl z.1 D da ad η A hp H) (hKc : xkc cl z.1 ad A s s.heap z.2.2.2.2.2.1) (hS : va_S A s.heap H locs)
    (hframes : 1 ≤ R.frames) (hlocals : 40 ≤ R.locals) (hcat : (st'.map fun v => v.category).sum ≤ 8) (hd : decode cc pc = .ok (.invokestatic idx, 3)) (h : xcpy z hp st = some (hp', st'))
    (kk : ∀ (H1 : Heap) (locs1 : List Loc), xR cl z.1 D da ad η A hp' H1 → va_S A s.heap H1 locs1 → W p l e R s m args below meth c H1 locs1 cells slots Q (F0 m (pc + 3) ls (st'.map (xc ad η)))) : W p l e R s m args below meth c H locs cells slots Q (F0 m pc ls (st.map (xc ad η))) := by
  obtain ⟨t1', t2', t3', -⟩ := hT
  obtain ⟨n, dp, a1, sp, a0, t0, e0, t1, e1, rfl, h1, h2, h3, h4, h5, h6, h7, h8, h9, h10, h11, h12, rfl⟩ := xcpy_s h
  have hcat9 : ((st'.map (xc ad η)).map fun v => v.category).sum ≤ 8 := by
    rw [List.map_map, show (fun v : Value => v.category) ∘ xc ad η = fun v => v.category from funext (fun v => xc_cat ad η v)]
    exact hcat
  have hw9 : nativeFrameWords "java/lang/System" "arraycopy" 5 + 11 ≤ 32 := by decide
  have g1 := xw_get (ty := z.1) (da := da) (ad := ad) (η := η) h1
  have g2 := xw_get (ty := z.1) (da := da) (ad := ad) (η := η) h2
  by_cases hr : refKind (z.1 t1) = true
  · have hr0 := h5.trans hr
    obtain ⟨C0, hC0⟩ := t3' t0 h3 hr0
    obtain ⟨C1, hC1⟩ := t3' t1 h4 hr
    have k0 : xe z.1 da ad η (.inl (t0, e0)) = .inl (da t0, e0.length, .inr (.inr (.inr (.inr (fun j => xref ad η (e0.getD j .null)))))) := congrArg (fun y => (Sum.inl (da t0, y) : va_E)) (xae_r hr0 ad η e0)
    have k1 : xe z.1 da ad η (.inl (t1, e1)) = .inl (da t1, e1.length, .inr (.inr (.inr (.inr (fun j => xref ad η (e1.getD j .null)))))) := congrArg (fun y => (Sum.inl (da t1, y) : va_E)) (xae_r hr ad η e1)
    rw [k0] at g1
    rw [k1] at g2
    have e9 : (xw z.1 da ad η hp).set a1 (η a1, .inl (da t1, e1.length, .inr (.inr (.inr (.inr (va_cpy (fun j => xref ad η (e0.getD j .null)) (fun j => xref ad η (e1.getD j .null)) sp.toNatClampNeg dp.toNatClampNeg n.toNatClampNeg)))))) = xw z.1 da ad η (hp.set a1 (.inl (t1, xcpl e0 e1 sp.toNatClampNeg dp.toNatClampNeg n.toNatClampNeg))) := by
      rw [← xw_set]
      refine congrArg (fun y => (xw z.1 da ad η hp).set a1 (η a1, y)) ?_
      show _ = (Sum.inl (da t1, xae (z.1 t1) ad η _) : va_E)
      rw [xae_r hr, xcpl_len h10 h11]
      refine congrArg (fun f => (Sum.inl (da t1, e1.length, .inr (.inr (.inr (.inr f)))) : va_E)) (funext fun j => ?_)
      rw [xcpl_get h10 h11]
      unfold va_cpy
      split <;> rfl
    refine va_copyM hx hb hml hown (hts _ hlk) (hts _ hnat) (hts _ hstat) (hts _ hini) hK hR.1 hR.2 hS a0 a1 t0 t1 g1 g2 (by rw [xtys_get h3, hC0]) (by rw [xtys_get h4, hC1]) h7 h8 h9 h10 h11 (fun i hi y hy => ?_) hframes (by omega) hd (fun H1 locs1 q1 q2 q3 => ?_)
    · have hP := xcpy_el h10 h12 hi
      unfold xcpo at hP
      rw [if_pos hr] at hP
      have hy9 : xref ad η (e0.getD (sp.toNatClampNeg + i) .null) = some y := hy
      generalize e0.getD (sp.toNatClampNeg + i) .null = v at hP hy9
      split at hP
      · cases hy9
      · split at hP
        · rename_i ci hci
          obtain ⟨C', j1, j2⟩ := t2' _ (of_decide_eq_true hP)
          cases hC1.symm.trans j1
          rcases xcls_s hci with ⟨q, fs, rfl, hq⟩ | ⟨q, fs, rfl, hq⟩
          · cases hy9
            exact xany hts hK hR.1 (xw_get hq) j2
          · cases hy9
            exact xanyk hK hts (hKc _ _ hq) hS j2
        · cases hP
    · rw [e9] at q1 q2
      exact kk H1 locs1 ⟨q1, q2⟩ q3
  · have hr1 : refKind (z.1 t1) = false := Bool.eq_false_iff.mpr hr
    have hr0 := h5.trans hr1
    have ht := h6 hr0
    have k0 : xe z.1 da ad η (.inl (t0, e0)) = .inl (da t0, e0.length, .inl (fun j => xint (e0.getD j .null))) := congrArg (fun y => (Sum.inl (da t0, y) : va_E)) (xae_p hr0 ad η e0)
    have k1 : xe z.1 da ad η (.inl (t1, e1)) = .inl (da t1, e1.length, .inl (fun j => xint (e1.getD j .null))) := congrArg (fun y => (Sum.inl (da t1, y) : va_E)) (xae_p hr1 ad η e1)
    rw [k0] at g1
    rw [k1] at g2
    have e9 : (xw z.1 da ad η hp).set a1 (η a1, .inl (da t1, e1.length, .inl (va_cpy (fun j => xint (e0.getD j .null)) (fun j => xint (e1.getD j .null)) sp.toNatClampNeg dp.toNatClampNeg n.toNatClampNeg))) = xw z.1 da ad η (hp.set a1 (.inl (t1, xcpl e0 e1 sp.toNatClampNeg dp.toNatClampNeg n.toNatClampNeg))) := by
      rw [← xw_set]
      refine congrArg (fun y => (xw z.1 da ad η hp).set a1 (η a1, y)) ?_
      show _ = (Sum.inl (da t1, xae (z.1 t1) ad η _) : va_E)
      rw [xae_p hr1, xcpl_len h10 h11]
      refine congrArg (fun f => (Sum.inl (da t1, e1.length, .inl f) : va_E)) (funext fun j => ?_)
      rw [xcpl_get h10 h11]
      unfold va_cpy
      split <;> rfl
    refine va_copyi hx hb hml hown (hts _ hlk) (hts _ hnat) (hts _ hstat) (hts _ hini) hK hR.1 hR.2 hS a0 a1 t0 t1 g1 g2 (by rw [xtys_get h3, ht]) (xtys_get h4) hr1 h7 h8 h9 h10 h11 (fun i hi => ?_) hframes (by omega) hd (fun H1 locs1 q1 q2 q3 => ?_)
    · have hP := xcpy_el h10 h12 hi
      unfold xcpo at hP
      rw [if_neg hr] at hP
      exact hP
    · rw [e9] at q1 q2
      exact kk H1 locs1 ⟨q1, q2⟩ q3
theorem xT_congr {ty : FieldType} {t N : Nat} {f g : Nat → Value} {U : State} (h : va_T ty t N f A U H) (he : ∀ j, j < N → f j = g j) : va_T ty t N g A U H := by
  obtain ⟨cell, h1, h2, h3, h4, h5, h6, h7⟩ := h
  exact ⟨cell, h1, h2, h3, h4, h5, fun j hj => by rw [← he j hj]; exact h6 j hj, h7⟩
/-- bytes out of a constant -/
def xcpk (z : XP) (hp : List XC) (st : List Value) : Option (List XC × List Value) :=
  match st with
  | .int n :: .int dp :: .ref a1 :: .int sp :: .retAddr k :: r => match z.2.2.2.2.2.1[k]?, hp[a1]? with
    | some (.inl (t0, e0)), some (.inl (t1, e1)) =>
      if z.1 t0 = .byte ∧ z.1 t1 = .byte ∧ t1 < z.2.1 ∧ ¬ sp < 0 ∧ ¬ dp < 0 ∧ ¬ n < 0 ∧ sp.toNatClampNeg + n.toNatClampNeg ≤ e0.length ∧ dp.toNatClampNeg + n.toNatClampNeg ≤ e1.length ∧ e0.all (fun v => decide (v = .int (xint v)) && fits .byte (.int (xint v))) = true then
        some (hp.set a1 (.inl (t1, xcpl e0 e1 sp.toNatClampNeg dp.toNatClampNeg n.toNatClampNeg)), r)
      else none
    | _, _ => none
  | _ => none
theorem xcpk_s {z : XP} {hp hp' : List XC} {st st' : List Value} (h : xcpk z hp st = some (hp', st')) : ∃ n dp a1 sp k t0 e0 t1 e1, st = .int n :: .int dp :: .ref a1 :: .int sp :: .retAddr k :: st' ∧ z.2.2.2.2.2.1[k]? = some (.inl (t0, e0)) ∧ hp[a1]? = some (.inl (t1, e1)) ∧ z.1 t0 = .byte ∧ z.1 t1 = .byte ∧ t1 < z.2.1 ∧ ¬ sp < 0 ∧ ¬ dp < 0 ∧ ¬ n < 0 ∧ sp.toNatClampNeg + n.toNatClampNeg ≤ e0.length ∧ dp.toNatClampNeg + n.toNatClampNeg ≤ e1.length ∧ e0.all (fun v => decide (v = .int (xint v)) && fits .byte (.int (xint v))) = true ∧ hp' = hp.set a1 (.inl (t1, xcpl e0 e1 sp.toNatClampNeg dp.toNatClampNeg n.toNatClampNeg)) := by
  unfold xcpk at h
  split at h
  · split at h
    · split at h
      · rename_i e1 e2 e3
        cases h
        obtain ⟨h1, h2, h3, h4, h5, h6, h7, h8, h9⟩ := e3
        exact ⟨_, _, _, _, _, _, _, _, _, rfl, e1, e2, h1, h2, h3, h4, h5, h6, h7, h8, h9, rfl⟩
      · cases h
    · cases h
  · cases h
theorem xcpk_sim {idx : Nat} (hlk : Cond.methodLink own idx arraycopyName ∈ TB) (hnat : Cond.native arraycopyName ∈ TB) (hstat : Cond.static arraycopyName ∈ TB) (hini : Cond.initialized "java/lang/System" ∈ TB) (hx : p.tables.exec = Jvm.exec) (hb : c.code = cc) (hml : c.maxLocals = ls.size) (hts : ∀ w ∈ TB, w.before args s = true) (hown : s.vm.findClass own = some m.cls) (hK : va_K D (xk cl) (xtys z.1 da z.2.1) s) (hR : xR cl z.1 D da ad η A hp H) (hKc : xkc cl z.1 ad A s s.heap z.2.2.2.2.2.1) (hS : va_S A s.heap H locs)
    (hframes : 1 ≤ R.frames) (hlocals : 40 ≤ R.locals) (hcat : (st'.map fun v => v.category).sum ≤ 8) (hd : decode cc pc = .ok (.invokestatic idx, 3)) (h : xcpk z hp st = some (hp', st'))
    (kk : ∀ (H1 : Heap) (locs1 : List Loc), xR cl z.1 D da ad η A hp' H1 → va_S A s.heap H1 locs1 → W p l e R s m args below meth c H1 locs1 cells slots Q (F0 m (pc + 3) ls (st'.map (xc ad η)))) : W p l e R s m args below meth c H locs cells slots Q (F0 m pc ls (st.map (xc ad η))) := by
  obtain ⟨n, dp, a1, sp, k, t0, e0, t1, e1, rfl, h1, h2, h3, h4, h5, h6, h7, h8, h9, h10, h11, rfl⟩ := xcpk_s h
  have hcat9 : ((st'.map (xc ad η)).map fun v => v.category).sum ≤ 8 := by
    rw [List.map_map, show (fun v : Value => v.category) ∘ xc ad η = fun v => v.category from funext (fun v => xc_cat ad η v)]
    exact hcat
  have hw9 : nativeFrameWords "java/lang/System" "arraycopy" 5 + 11 ≤ 32 := by decide
  have hr1 : refKind (z.1 t1) = false := by rw [h4]; rfl
  have g2 := xw_get (ty := z.1) (da := da) (ad := ad) (η := η) h2
  have k1 : xe z.1 da ad η (.inl (t1, e1)) = .inl (da t1, e1.length, .inl (fun j => xint (e1.getD j .null))) := congrArg (fun y => (Sum.inl (da t1, y) : va_E)) (xae_p hr1 ad η e1)
  rw [k1] at g2
  have hel : ∀ j, j < e0.length → e0.getD j .null = .int (xint (e0.getD j .null)) ∧ fits .byte (.int (xint (e0.getD j .null))) = true := fun j hj => by
    have hm : e0.getD j .null ∈ e0 := by
      rw [List.getD_eq_getElem?_getD, List.getElem?_eq_getElem hj]
      exact List.getElem_mem hj
    have h9 := List.all_eq_true.mp h11 _ hm
    simp only [Bool.and_eq_true, decide_eq_true_eq] at h9
    exact h9
  have hT0 : va_T (z.1 t0) (ad k) e0.length (fun j => xc ad ad (e0.getD j .null)) A s s.heap := hKc _ _ h1
  rw [h3] at hT0
  have hT1 : va_T .byte (ad k) e0.length (fun j => .int ((fun j => xint (e0.getD j .null)) j)) A s s.heap := xT_congr hT0 (fun j hj => by
    show xc ad ad (e0.getD j .null) = .int (xint (e0.getD j .null))
    conv => lhs; rw [(hel j hj).1]
    rfl)
  have e9 : (xw z.1 da ad η hp).set a1 (η a1, .inl (da t1, e1.length, .inl (va_cpy (fun j => xint (e0.getD j .null)) (fun j => xint (e1.getD j .null)) sp.toNatClampNeg dp.toNatClampNeg n.toNatClampNeg))) = xw z.1 da ad η (hp.set a1 (.inl (t1, xcpl e0 e1 sp.toNatClampNeg dp.toNatClampNeg n.toNatClampNeg))) := by
    rw [← xw_set]
    refine congrArg (fun y => (xw z.1 da ad η hp).set a1 (η a1, y)) ?_
    show _ = (Sum.inl (da t1, xae (z.1 t1) ad η _) : va_E)
    rw [xae_p hr1, xcpl_len h9 h10]
    refine congrArg (fun f => (Sum.inl (da t1, e1.length, .inl f) : va_E)) (funext fun j => ?_)
    rw [xcpl_get h9 h10]
    unfold va_cpy
    split <;> rfl
  refine vk_copyt hx hb hml hown (hts _ hlk) (hts _ hnat) (hts _ hstat) (hts _ hini) hK hR.1 hR.2 hS hT1 a1 t1 g2 (by rw [xtys_get h5, h4]) h6 h7 h8 h9 h10 (fun i hi => (hel _ (by omega)).2) hframes (by omega) hd (fun H1 locs1 q1 q2 q3 => ?_)
  rw [e9] at q1 q2
  exact kk H1 locs1 ⟨q1, q2⟩ q3
theorem xcell_o (cA : ClassId) (x : vp_A) : (vp_cell cA x).vm = .none ∧ (vp_cell cA x).cls = cA := by
  obtain ⟨n, f | f | f | f | f⟩ := x <;> exact ⟨rfl, rfl⟩
/-- getClass() of an array of one kind -/
theorem xgcl_sim {idx a t k : Nat} {es : List Value} {E C : String} {r : List Value} (hT : z.1 t = .object E) (ht : t < z.2.1) (hC : "[" ++ (FieldType.object E).toString = C) (hM : va_Mi C (ad k) s) (hlk : Cond.methodLink own idx ⟨"java/lang/Object", "getClass", "()Ljava/lang/Class;"⟩ ∈ TB) (hdecl : Cond.declares ⟨"java/lang/Object", "getClass", "()Ljava/lang/Class;"⟩ ∈ TB) (hsel : Cond.selects C ⟨"java/lang/Object", "getClass", "()Ljava/lang/Class;"⟩ ⟨"java/lang/Object", "getClass", "()Ljava/lang/Class;"⟩ ∈ TB) (hinst : Cond.instanceMethod ⟨"java/lang/Object", "getClass", "()Ljava/lang/Class;"⟩ ∈ TB) (hnat : Cond.native ⟨"java/lang/Object", "getClass", "()Ljava/lang/Class;"⟩ ∈ TB)
    (hx : p.tables.exec = Jvm.exec) (hb : c.code = cc) (hml : c.maxLocals = ls.size) (hts : ∀ w ∈ TB, w.before args s = true) (hown : s.vm.findClass own = some m.cls) (hK : va_K D (xk cl) (xtys z.1 da z.2.1) s) (hP : va_P D (xk cl) (xw z.1 da ad η hp) H) (ha : hp[a]? = some (.inl (t, es)))
    (hframes : 1 ≤ R.frames) (hlocals : 40 ≤ R.locals) (hcat : (r.map fun v => v.category).sum ≤ 8) (hd : decode cc pc = .ok (.invokevirtual idx, 3))
    (kk : W p l e R s m args below meth c H locs cells slots Q (F0 m (pc + 3) ls ((.retAddr k :: r).map (xc ad η)))) : W p l e R s m args below meth c H locs cells slots Q (F0 m pc ls ((.ref a :: r).map (xc ad η))) := by
  have hcat9 : ((r.map (xc ad η)).map fun v => v.category).sum ≤ 8 := by
    rw [List.map_map, show (fun v : Value => v.category) ∘ xc ad η = fun v => v.category from funext (fun v => xc_cat ad η v)]
    exact hcat
  have h1 := (hK.2 t _ (xtys_get ht)).2
  rw [hT] at h1
  obtain ⟨_, _, -, -, -, h2⟩ := h1
  rw [hC] at h2
  have h3 : H[η a]? = some (vp_cell (da t) (xae (z.1 t) ad η es)) := hP a _ (xw_get ha)
  obtain ⟨c1, c2⟩ := xcell_o (da t) (xae (z.1 t) ad η es)
  exact va_getC hx hb hml hown (hts _ hlk) (hts _ hdecl) (hts _ hsel) (hts _ hinst) (hts _ hnat) hM ⟨_, h3, by rw [c1]; rfl, by rw [c2]; exact h2⟩ hframes (by omega) hd kk
end XCPY
