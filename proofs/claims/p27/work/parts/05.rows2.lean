/-! references in arrays, lengths, casts, statics, what is made -/
section XROW2
variable {p : Program} {l : Launch} {e : Env} {R : Room} {s : State} {m : MethodId} {args : Array Value} {below : List Frame} {meth : Method} {c : Code} {H : Heap} {locs : List Loc} {cells slots : Nat} {Q : State → Prop}
variable {cc : ByteArray} {pc : Nat} {ls : Array Slot}
variable {cl : List vw_C} {ty : Nat → FieldType} {nt : Nat} {D : va_G} {da ad η : Nat → Nat} {A : Nat → Prop} {kc hp hp' : List XC} {H0 : Heap} {st st' : List Value} {TB : List Cond} {own : String}
theorem xaal_at {ws : va_W} {a t : Nat} {es : List Value} {j : Int32} {v : Value} {C : String} {rest : List Value} (hx : p.tables.exec = Jvm.exec) (hb : c.code = cc) (hK : va_K D (xk cl) (xtys ty da nt) s) (hP : va_P D (xk cl) ws H) (q0 : Nat) (he : ws[q0]? = some (a, .inl (da t, xae (ty t) ad η es))) (ht : t < nt) (hC : ty t = .object C) (h0 : ¬ j < 0) (hj : es[j.toNatClampNeg]? = some v) (hv : xisr v = true) (hd : decode cc pc = .ok (.aaload, 1))
    (kk : W p l e R s m args below meth c H locs cells slots Q (F0 m (pc + 1) ls (xc ad η v :: rest))) : W p l e R s m args below meth c H locs cells slots Q (F0 m pc ls (.int j :: .ref a :: rest)) := by
  rw [xae_r (by rw [hC]; rfl)] at he
  have hl := (List.getElem?_eq_some_iff.mp hj).1
  have e1 : va_rf ((fun j => xref ad η (es.getD j .null)) j.toNatClampNeg) = xc ad η v := by
    show va_rf (xref ad η (es.getD j.toNatClampNeg .null)) = _
    rw [List.getD_eq_getElem?_getD, hj]
    exact xref_rf (xisr_s hv) ad η
  rw [← e1] at kk
  exact va_aldq hx hb hK hP q0 t he (by rw [xtys_get ht, hC]) (fun q => q.elim h0 (fun z => by omega)) hd kk
theorem xaal_sim (hT : ∀ t, t < nt → refKind (ty t) = true → ∃ C, ty t = .object C) (hx : p.tables.exec = Jvm.exec) (hb : c.code = cc) (hK : va_K D (xk cl) (xtys ty da nt) s) (hP : va_P D (xk cl) (xw ty da ad η hp) H) (hKc : xkc cl ty ad A s s.heap kc) (hS9 : va_S A s.heap H locs) (hkw : xhw 0 kc) (hd : decode cc pc = .ok (.aaload, 1)) (h : xaal ty nt kc hp st = some st')
    (kk : W p l e R s m args below meth c H locs cells slots Q (F0 m (pc + 1) ls (st'.map (xc ad η)))) : W p l e R s m args below meth c H locs cells slots Q (F0 m pc ls (st.map (xc ad η))) := by
  unfold xaal at h
  split at h
  · split at h
    · split at h
      · rename_i e1 e2
        obtain ⟨v, hj, h⟩ := Option.bind_eq_some_iff.mp h
        split at h
        · rename_i hv
          cases h
          obtain ⟨C, hC⟩ := hT _ e2.1 e2.2.1
          exact xaal_at hx hb hK hP _ (xw_get e1) e2.1 hC e2.2.2 hj hv hd kk
        · cases h
      · cases h
    · cases h
  · split at h
    · split at h
      · rename_i e1 e2
        obtain ⟨v, hj, h⟩ := Option.bind_eq_some_iff.mp h
        split at h
        · rename_i hv
          cases h
          obtain ⟨C, hC⟩ := hT _ e2.1 e2.2.1
          have e9 : xc ad ad v = xc ad η v := xc_g (fun k hk => absurd hk (Nat.not_lt_zero k)) (hkw _ (List.mem_of_getElem? e1) v (List.mem_of_getElem? hj))
          have hT9 : va_T (ty _) _ _ _ A s s.heap := hKc _ _ e1
          have hl9 := (List.getElem?_eq_some_iff.mp hj).1
          rw [hC] at hT9
          refine vb_tq hx hb hT9 hS9 (fun q => q.elim e2.2.2 (fun z => Nat.not_le.mpr hl9 z)) (v := xc ad η v) ?_ hd kk
          rw [← e9]
          show xc ad ad (List.getD _ _ .null) = _
          rw [List.getD_eq_getElem?_getD, hj]
          rfl
        · cases h
      · cases h
    · cases h
  · cases h
/-- the class of an object, and what it may be taken for: (class, array kind) and (class, class name's number) -/
def xca (TB : List Cond) (cl : List vw_C) (ci : Nat) (E : String) : Prop := ∃ r : vw_C, cl[ci]? = some r ∧ (r.1 = E ∨ Cond.castable r.1 E ∈ TB)
theorem xany {ws : va_W} {a q0 ci : Nat} {fs : List Value} {E : String} (hts : ∀ w ∈ TB, w.before args s = true) (hK : va_K D (xk cl) (xtys ty da nt) s) (hP : va_P D (xk cl) ws H) (he : ws[q0]? = some (a, .inr (ci, fs))) (hca : xca TB cl ci E) : va_Any E s H a := by
  obtain ⟨r, hc, hE⟩ := hca
  obtain ⟨r', h1, cell, g1, g2, g3, -⟩ := hP q0 _ he
  cases (xk_get h1).symm.trans hc
  have hat : ClassAt s r.1 (D.1 ci) := (hK.1 ci r h1).2
  obtain ⟨f1, kC, f2, f3⟩ := hat
  refine ⟨cell, g1, by rw [g3]; rfl, ⟨kC, by rw [g2]; exact f2⟩, fun comp hcomp => ?_⟩
  rw [g2]
  rcases hE with hE | hE
  · rw [← hE] at hcomp
    cases f1.symm.trans hcomp
    exact va_assign ⟨f1, kC, f2, f3⟩
  · obtain ⟨c0, t0, k1, k2, k3⟩ := Cond.castable_spec (hts _ hE)
    cases f1.symm.trans k1
    cases hcomp.symm.trans k2
    exact k3
theorem xasn (vm : Vm) (c : ClassId) : vm.assignable c c = true := by
  unfold Vm.assignable Vm.assignableAux
  simp
theorem xanyk {a ci : Nat} {fs : List Value} {E : String} (hK : va_K D (xk cl) (xtys ty da nt) s) (hts : ∀ w ∈ TB, w.before args s = true) (hk : xkP cl ty ad A s s.heap a (.inr (ci, fs))) (hS9 : va_S A s.heap H locs) (hca : xca TB cl ci E) : va_Any E s H a := by
  obtain ⟨r, hc, hE⟩ := hca
  obtain ⟨r', g1, g2, -⟩ := hk
  cases g1.symm.trans hc
  obtain ⟨cell, j1, j2, j3⟩ := va_Orecv g2 hS9
  obtain ⟨kC, f2, -⟩ := Vm.findClass_spec j3
  refine ⟨cell, j1, j2, ⟨kC, f2⟩, fun comp hcomp => ?_⟩
  rcases hE with hE | hE
  · rw [← hE] at hcomp
    cases j3.symm.trans hcomp
    exact xasn _ _
  · obtain ⟨c0, t0, k1, k2, k3⟩ := Cond.castable_spec (hts _ hE)
    cases j3.symm.trans k1
    cases hcomp.symm.trans k2
    exact k3
/-- the class number of an object -/
def xcls (kc hp : List XC) : Value → Option Nat
  | .ref h => match hp[h]? with
    | some (.inr (ci, _)) => some ci
    | _ => none
  | .retAddr h => match kc[h]? with
    | some (.inr (ci, _)) => some ci
    | _ => none
  | _ => none
theorem xcls_s {kc hp : List XC} {v : Value} {ci : Nat} (h : xcls kc hp v = some ci) : (∃ a fs, v = .ref a ∧ hp[a]? = some (.inr (ci, fs))) ∨ ∃ a fs, v = .retAddr a ∧ kc[a]? = some (.inr (ci, fs)) := by
  unfold xcls at h
  split at h
  · split at h
    · rename_i e; cases h; exact Or.inl ⟨_, _, rfl, e⟩
    · cases h
  · split at h
    · rename_i e; cases h; exact Or.inr ⟨_, _, rfl, e⟩
    · cases h
  · cases h
def xaas (ty : Nat → FieldType) (nt : Nat) (cst : List (Nat × Nat)) (kc hp : List XC) (st : List Value) : Option (List XC × List Value) :=
  match st with
  | v :: .int j :: .ref h :: r => match hp[h]? with
    | some (.inl (t, es)) =>
      if t < nt ∧ refKind (ty t) = true ∧ ¬ j < 0 ∧ j.toNatClampNeg < es.length then
        if v = .null then some (hp.set h (.inl (t, es.set j.toNatClampNeg v)), r)
        else match xcls kc hp v with
          | some ci => if (ci, t) ∈ cst then some (hp.set h (.inl (t, es.set j.toNatClampNeg v)), r) else none
          | none => none
      else none
    | _ => none
  | _ => none
theorem xaas_s {cst : List (Nat × Nat)} (h : xaas ty nt cst kc hp st = some (hp', st')) : ∃ v j a t es, st = v :: .int j :: .ref a :: st' ∧ hp[a]? = some (.inl (t, es)) ∧ t < nt ∧ refKind (ty t) = true ∧ ¬ j < 0 ∧ j.toNatClampNeg < es.length ∧ (v = .null ∨ ∃ ci, xcls kc hp v = some ci ∧ (ci, t) ∈ cst) ∧ hp' = hp.set a (.inl (t, es.set j.toNatClampNeg v)) := by
  unfold xaas at h
  split at h
  · split at h
    · split at h
      · rename_i e1 e2
        split at h
        · rename_i e3
          cases h
          exact ⟨_, _, _, _, _, rfl, e1, e2.1, e2.2.1, e2.2.2.1, e2.2.2.2, Or.inl e3, rfl⟩
        · split at h
          · rename_i ci e4
            split at h
            · rename_i e5
              cases h
              exact ⟨_, _, _, _, _, rfl, e1, e2.1, e2.2.1, e2.2.2.1, e2.2.2.2, Or.inr ⟨_, e4, e5⟩, rfl⟩
            · cases h
          · cases h
      · cases h
    · cases h
  · cases h
theorem xaas_sim {cst : List (Nat × Nat)} (hcst : ∀ q ∈ cst, ∃ C, ty q.2 = .object C ∧ xca TB cl q.1 C) (hT : ∀ t, t < nt → refKind (ty t) = true → ∃ C, ty t = .object C) (hx : p.tables.exec = Jvm.exec) (hb : c.code = cc) (hts : ∀ w ∈ TB, w.before args s = true) (hK : va_K D (xk cl) (xtys ty da nt) s) (hR : xR cl ty D da ad η A hp H) (hKc : xkc cl ty ad A s s.heap kc) (hS9 : va_S A s.heap H locs) (hS : va_S A H0 H locs) (hd : decode cc pc = .ok (.aastore, 1)) (h : xaas ty nt cst kc hp st = some (hp', st'))
    (kk : ∀ (H1 : Heap) (locs1 : List Loc), xR cl ty D da ad η A hp' H1 → va_S A H0 H1 locs1 → W p l e R s m args below meth c H1 locs1 cells slots Q (F0 m (pc + 1) ls (st'.map (xc ad η)))) : W p l e R s m args below meth c H locs cells slots Q (F0 m pc ls (st.map (xc ad η))) := by
  obtain ⟨v, j, a, t, es, rfl, h1, h2, h3, h4, h5, h6, rfl⟩ := xaas_s h
  obtain ⟨C, hC⟩ := hT t h2 h3
  have he := xw_get (ty := ty) (da := da) (ad := ad) (η := η) h1
  have e0 : xe ty da ad η (.inl (t, es)) = .inl (da t, es.length, .inr (.inr (.inr (.inr (fun j => xref ad η (es.getD j .null)))))) := congrArg (fun z => (Sum.inl (da t, z) : va_E)) (xae_r h3 ad η es)
  rw [e0] at he
  have hin : vp_in j es.length := fun q => q.elim h4 (fun z => by omega)
  have e1 : (xw ty da ad η hp).set a (η a, .inl (da t, es.length, .inr (.inr (.inr (.inr (va_up (fun j => xref ad η (es.getD j .null)) j.toNatClampNeg (xref ad η v))))))) = xw ty da ad η (hp.set a (.inl (t, es.set j.toNatClampNeg v))) := by
    rw [← xw_set]
    refine congrArg (fun z => (xw ty da ad η hp).set a (η a, z)) ?_
    show _ = (Sum.inl (da t, xae (ty t) ad η _) : va_E)
    rw [xae_r h3, List.length_set, xref_set h5]
  have kk' : ∀ (H1 : Heap) (locs1 : List Loc), va_P D (xk cl) ((xw ty da ad η hp).set a (η a, .inl (da t, es.length, .inr (.inr (.inr (.inr (va_up (fun j => xref ad η (es.getD j .null)) j.toNatClampNeg (xref ad η v)))))))) H1 → va_D A ((xw ty da ad η hp).set a (η a, .inl (da t, es.length, .inr (.inr (.inr (.inr (va_up (fun j => xref ad η (es.getD j .null)) j.toNatClampNeg (xref ad η v)))))))) → va_S A H0 H1 locs1 → W p l e R s m args below meth c H1 locs1 cells slots Q (F0 m (pc + 1) ls (st'.map (xc ad η))) := fun H1 locs1 q1 q2 q3 => by
    rw [e1] at q1 q2
    exact kk H1 locs1 ⟨q1, q2⟩ q3
  have ht9 : (xtys ty da nt)[t]? = some (da t, .object C) := by rw [xtys_get h2, hC]
  rcases h6 with rfl | ⟨ci, h6, h7⟩
  · exact va_astqN hx hb hK hR.1 hR.2 hS a t he ht9 hin hd kk'
  · obtain ⟨C', g1, g2⟩ := hcst _ h7
    cases hC.symm.trans g1
    rcases xcls_s h6 with ⟨q, fs, rfl, hq⟩ | ⟨q, fs, rfl, hq⟩
    · exact va_astqM hx hb hK hR.1 hR.2 hS a t he ht9 (xany hts hK hR.1 (xw_get hq) g2) hin hd kk'
    · exact va_astqM hx hb hK hR.1 hR.2 hS a t he ht9 (xanyk hK hts (hKc _ _ hq) hS9 g2) hin hd kk'
theorem xaln_at {ws : va_W} {a t : Nat} {es : List Value} {rest : List Value} (hx : p.tables.exec = Jvm.exec) (hb : c.code = cc) (hK : va_K D (xk cl) (xtys ty da nt) s) (hP : va_P D (xk cl) ws H) (q0 : Nat) (he : ws[q0]? = some (a, .inl (da t, xae (ty t) ad η es))) (ht : t < nt) (hd : decode cc pc = .ok (.arraylength, 1))
    (kk : W p l e R s m args below meth c H locs cells slots Q (F0 m (pc + 1) ls (.int (Int32.ofNat es.length) :: rest))) : W p l e R s m args below meth c H locs cells slots Q (F0 m pc ls (.ref a :: rest)) := by
  have e1 : (xae (ty t) ad η es).1 = es.length := by unfold xae; split <;> rfl
  exact va_alen hx hb hK hP q0 t he (xtys_get ht) (by rw [e1]) hd kk
theorem xaln_sim (hnt : ∀ c ∈ hp, ∀ t es, c = Sum.inl (t, es) → t < nt) (hx : p.tables.exec = Jvm.exec) (hb : c.code = cc) (hK : va_K D (xk cl) (xtys ty da nt) s) (hP : va_P D (xk cl) (xw ty da ad η hp) H) (hKc : xkc cl ty ad A s s.heap kc) (hS9 : va_S A s.heap H locs) (hd : decode cc pc = .ok (.arraylength, 1)) (h : xaln kc hp st = some st')
    (kk : W p l e R s m args below meth c H locs cells slots Q (F0 m (pc + 1) ls (st'.map (xc ad η)))) : W p l e R s m args below meth c H locs cells slots Q (F0 m pc ls (st.map (xc ad η))) := by
  unfold xaln at h
  split at h
  · obtain ⟨n, hn, rfl⟩ := Option.map_eq_some_iff.mp h
    obtain ⟨t, es, h1, rfl⟩ := xlen_s hn
    exact xaln_at hx hb hK hP _ (xw_get h1) (hnt _ (List.mem_of_getElem? h1) _ _ rfl) hd kk
  · obtain ⟨n, hn, rfl⟩ := Option.map_eq_some_iff.mp h
    obtain ⟨t, es, h1, rfl⟩ := xlen_s hn
    exact va_tlen hx hb (hKc _ _ h1) hS9 rfl hd kk
  · cases h
/-- checkcast: null, or an object of one of these classes -/
def xcas (cs : List Nat) (hp : List XC) (st : List Value) : Option (List Value) :=
  match st with
  | v :: r => if v = .null then some (v :: r) else match xcls [] hp v with
    | some ci => if ci ∈ cs then some (v :: r) else none
    | none => none
  | _ => none
theorem xcas_at {ws : va_W} {a q0 ci idx : Nat} {fs : List Value} {nm : String} {rest : List Value} (hx : p.tables.exec = Jvm.exec) (hb : c.code = cc) (hts : ∀ w ∈ TB, w.before args s = true) (hown : s.vm.findClass own = some m.cls) (hK : va_K D (xk cl) (xtys ty da nt) s) (hP : va_P D (xk cl) ws H) (he : ws[q0]? = some (a, .inr (ci, fs))) (hl : Cond.classLink own idx nm ∈ TB) (hca : xca TB cl ci nm) (hd : decode cc pc = .ok (.checkcast idx, 3))
    (kk : W p l e R s m args below meth c H locs cells slots Q (F0 m (pc + 3) ls (.ref a :: rest))) : W p l e R s m args below meth c H locs cells slots Q (F0 m pc ls (.ref a :: rest)) := by
  obtain ⟨r, hc, hE⟩ := hca
  have hc := xk_of hP he hc
  have hr := va_recv hK hP hc he
  rcases hE with hE | hE
  · subst hE
    exact va_castS hx hb hown (hts _ hl) (hK.1 ci r hc).2 hr hd kk
  · exact va_castY hx hb hown (hts _ hl) (va_Nw.of rfl (hts _ hE)) hr hd kk
theorem xcas_sim {cs : List Nat} {idx : Nat} {nm : String} (hl : Cond.classLink own idx nm ∈ TB) (hcs : ∀ ci ∈ cs, xca TB cl ci nm) (hx : p.tables.exec = Jvm.exec) (hb : c.code = cc) (hts : ∀ w ∈ TB, w.before args s = true) (hown : s.vm.findClass own = some m.cls) (hK : va_K D (xk cl) (xtys ty da nt) s) (hP : va_P D (xk cl) (xw ty da ad η hp) H) (hd : decode cc pc = .ok (.checkcast idx, 3)) (h : xcas cs hp st = some st')
    (kk : W p l e R s m args below meth c H locs cells slots Q (F0 m (pc + 3) ls (st'.map (xc ad η)))) : W p l e R s m args below meth c H locs cells slots Q (F0 m pc ls (st.map (xc ad η))) := by
  unfold xcas at h
  split at h
  · split at h
    · rename_i hv
      cases h
      subst hv
      exact lv_castN hx hb hd kk
    · split at h
      · rename_i ci e1
        split at h
        · rename_i e2
          cases h
          rcases xcls_s e1 with ⟨q, fs, rfl, hq⟩ | ⟨q, fs, rfl, hq⟩
          · exact xcas_at hx hb hts hown hK hP (xw_get hq) hl (hcs _ e2) hd kk
          · cases hq
        · cases h
      · cases h
  · cases h
/-- a static that nobody writes -/
theorem xgs_sim {idx : Nat} {q : String × String × String × Value} (hl : xlk9 TB own idx (q.1, q.2.1, q.2.2.1, false)) (hZ : va_Z q.1 q.2.1 q.2.2.1 (xc ad ad q.2.2.2) A s s.heap) (hq : xv 0 q.2.2.2) (hx : p.tables.exec = Jvm.exec) (hb : c.code = cc) (hts : ∀ w ∈ TB, w.before args s = true) (hown : s.vm.findClass own = some m.cls) (hS : va_S A s.heap H locs) (hd : decode cc pc = .ok (.getstatic idx, 3))
    (kk : W p l e R s m args below meth c H locs cells slots Q (F0 m (pc + 3) ls ((q.2.2.2 :: st).map (xc ad η)))) : W p l e R s m args below meth c H locs cells slots Q (F0 m pc ls (st.map (xc ad η))) := by
  have e9 : xc ad ad q.2.2.2 = xc ad η q.2.2.2 := xc_g (fun k hk => absurd hk (Nat.not_lt_zero k)) hq
  rw [e9] at hZ
  obtain ⟨ref, h1, h2⟩ := hl
  have hsame : ∀ x, s.fieldFound? q.1 q.2.1 q.2.2.1 = some x → s.fieldFound? ref q.2.1 q.2.2.1 = some x := by
    rcases h2 with h2 | h2
    · subst h2; exact fun _ h => h
    · exact u_same (hts _ h2)
  rcases h1 with h1 | ⟨host, h1⟩
  · exact va_gets hx hb hZ hS hown (hts _ h1) hsame hd kk
  · exact va_getsN hx hb hZ hS hown (hts _ h1) hsame hd kk
/-- new -/
theorem xnew_sim {cN ci idx : Nat} {C : String} {T : u_T} {fs : List Value} (ty0 : Nat → FieldType) (hty : ∀ k, k < cN → parseFieldDescriptor (T k).2.2.1 = some (ty0 k)) (hin : ∀ w ∈ u_ws C T cN, w ∈ TB) (hc : (xk cl)[ci]? = some (C, T, cN)) (hcl : Cond.classLink own idx C ∈ TB) (hins : Cond.instantiable C cN ∈ TB) (hini : Cond.initialized C ∈ TB) (hfs : ∀ j, j < cN → defaultValue (ty0 j) = vp_V fs j) (hf0 : ∀ f g : Nat → Nat, fs.map (xc f g) = fs)
    (hx : p.tables.exec = Jvm.exec) (hb : c.code = cc) (hts : ∀ w ∈ TB, w.before args s = true) (hown : s.vm.findClass own = some m.cls) (hK : va_K D (xk cl) (xtys ty da nt) s) (hR : xR cl ty D da ad η A hp H) (hw : xhw hp.length hp) (hsw : ∀ v ∈ st, xv hp.length v) (hS : va_S A H0 H locs) (hA : ∀ q, H0.size ≤ q → A q) (h1 : cells + 1 ≤ R.cells) (h2 : slots + cN ≤ R.slots) (hd : decode cc pc = .ok (.new idx, 3))
    (kk : ∀ (q : Nat) (H1 : Heap), xR cl ty D da ad (va_up η hp.length q) A (hp ++ [.inr (ci, fs)]) H1 → va_S A H0 H1 locs → W p l e R s m args below meth c H1 locs (cells + 1) (slots + cN) Q (F0 m (pc + 3) ls ((.ref hp.length :: st).map (xc ad (va_up η hp.length q))))) : W p l e R s m args below meth c H locs cells slots Q (F0 m pc ls (st.map (xc ad η))) := by
  refine va_new hx hb hts hin ty0 hty hown (hts _ hcl) (hts _ hins) (hts _ hini) hK hR.1 hR.2 hS hA hc hfs h1 h2 hd (fun q H1 q1 q2 q3 => ?_)
  have e9 := xw_push (ty := ty) (da := da) (ad := ad) (η := η) hw q (.inr (ci, fs)) (.inr (ci, fs)) (congrArg (fun z => (Sum.inr (ci, z) : va_E)) (hf0 _ _))
  rw [← e9] at q1 q2
  have k9 := kk q H1 ⟨q1, q2⟩ q3
  have e8 : (.ref hp.length :: st : List Value).map (xc ad (va_up η hp.length q)) = .ref q :: st.map (xc ad η) := by
    rw [List.map_cons, xc_gs (xup_g η hp.length q) hsw]
    exact congrArg (fun z => Value.ref z :: st.map (xc ad η)) (if_pos rfl)
  rw [e8] at k9
  exact k9
theorem va_RA_inj {U : State} {a b : ClassId} {t : FieldType} (h1 : va_RA U a t) (h2 : va_RA U b t) : a = b := by
  cases t with
  | object C =>
    obtain ⟨_, _, -, -, -, h1⟩ := h1
    obtain ⟨_, _, -, -, -, h2⟩ := h2
    exact Option.some.inj (h1.symm.trans h2)
  | _ => exact Option.some.inj ((show U.vm.findClass _ = some a from h1).symm.trans h2)
theorem xtys_len {ty : Nat → FieldType} {da : Nat → Nat} {nt : Nat} : (xtys ty da nt).length = nt := by
  unfold xtys; rw [List.length_map, List.length_range]
theorem xda {t : Nat} {cA : ClassId} (hK : va_K D (xk cl) (xtys ty da nt) s) (ht : t < nt) (hn : va_K D (xk cl) (xtys ty da nt ++ [(cA, ty t)]) s) : cA = da t :=
  va_RA_inj (hn.2 nt (cA, ty t) (by rw [List.getElem?_append_right (by rw [xtys_len]; exact Nat.le_refl _), xtys_len, Nat.sub_self]; rfl)).2 (hK.2 t _ (xtys_get ht)).2
theorem xint_rep (n : Nat) : (fun j => xint ((List.replicate n (Value.int 0)).getD j .null)) = fun _ => (0 : Int32) := by
  funext j
  rw [List.getD_eq_getElem?_getD, List.getElem?_replicate]
  split <;> rfl
theorem xref_rep (ad η : Nat → Nat) (n : Nat) : (fun j => xref ad η ((List.replicate n Value.null).getD j .null)) = fun _ => none := by
  funext j
  rw [List.getD_eq_getElem?_getD, List.getElem?_replicate]
  split <;> rfl
/-- newarray -/
theorem xnwa_sim {atype : ArrayType} {t : Nat} {n : Int32} (ht : t < nt) (hat : newarray.typeOf atype = ty t) (hdef : defaultValue (ty t) = .int 0) (hbt : componentBytes (ty t) ≤ 4) (harr : Cond.arrayClass (ty t) ∈ TB) (hn : ¬ n < 0) (hnm : n.toNatClampNeg ≤ 100000)
    (hx : p.tables.exec = Jvm.exec) (hb : c.code = cc) (hts : ∀ w ∈ TB, w.before args s = true) (hK : va_K D (xk cl) (xtys ty da nt) s) (hR : xR cl ty D da ad η A hp H) (hw : xhw hp.length hp) (hsw : ∀ v ∈ st, xv hp.length v) (hS : va_S A H0 H locs) (hA : ∀ q, H0.size ≤ q → A q) (h1 : cells + 1 ≤ R.cells) (h2 : slots + n.toNatClampNeg ≤ R.slots) (hd : decode cc pc = .ok (.newarray atype, 2))
    (kk : ∀ (q : Nat) (H1 : Heap), xR cl ty D da ad (va_up η hp.length q) A (hp ++ [.inl (t, List.replicate n.toNatClampNeg (.int 0))]) H1 → va_S A H0 H1 locs → W p l e R s m args below meth c H1 locs (cells + 1) (slots + n.toNatClampNeg) Q (F0 m (pc + 2) ls ((.ref hp.length :: st).map (xc ad (va_up η hp.length q))))) : W p l e R s m args below meth c H locs cells slots Q (F0 m pc ls ((.int n :: st).map (xc ad η))) := by
  have hrk : refKind (ty t) = false := by
    cases hty : ty t <;> rw [hty] at hdef <;> first | rfl | cases hdef
  refine va_newa (N' := n.toNatClampNeg) (a0 := (n.toNatClampNeg, .inl (fun _ => 0))) hx hb (by rw [hat]; exact hts _ harr) hat hK hR.1 hR.2 hS hA (fun cA => by rw [hdef]; rfl) hn rfl ?_ h1 h2 hd (fun q cA H1 q0 q1 q2 q3 => ?_)
  · exact Nat.le_trans (Nat.mul_le_mul hnm hbt) (Nat.le_of_ble_eq_true rfl)
  · have ec := xda hK ht q0
    subst ec
    have e9 := xw_push (ty := ty) (da := da) (ad := ad) (η := η) hw q (.inl (t, List.replicate n.toNatClampNeg (.int 0))) (.inl (da t, n.toNatClampNeg, .inl (fun _ => 0))) (congrArg (fun z => (Sum.inl (da t, z) : va_E)) (by rw [xae_p hrk, List.length_replicate, xint_rep]))
    rw [← e9] at q1 q2
    have k9 := kk q H1 ⟨q1, q2⟩ q3
    have e8 : (.ref hp.length :: st : List Value).map (xc ad (va_up η hp.length q)) = .ref q :: st.map (xc ad η) := by
      rw [List.map_cons, xc_gs (xup_g η hp.length q) hsw]
      exact congrArg (fun z => Value.ref z :: st.map (xc ad η)) (if_pos rfl)
    rw [e8] at k9
    exact k9
/-- anewarray -/
theorem xnwq_sim {idx t : Nat} {C : String} {n : Int32} (ht : t < nt) (hat : ty t = .object C) (hcl : Cond.classLink own idx C ∈ TB) (harr : Cond.arrayOver (.object C) ∈ TB) (hn : ¬ n < 0) (hnm : n.toNatClampNeg ≤ 100000)
    (hx : p.tables.exec = Jvm.exec) (hb : c.code = cc) (hts : ∀ w ∈ TB, w.before args s = true) (hown : s.vm.findClass own = some m.cls) (hK : va_K D (xk cl) (xtys ty da nt) s) (hR : xR cl ty D da ad η A hp H) (hw : xhw hp.length hp) (hsw : ∀ v ∈ st, xv hp.length v) (hS : va_S A H0 H locs) (hA : ∀ q, H0.size ≤ q → A q) (h1 : cells + 1 ≤ R.cells) (h2 : slots + n.toNatClampNeg ≤ R.slots) (hd : decode cc pc = .ok (.anewarray idx, 3))
    (kk : ∀ (q : Nat) (H1 : Heap), xR cl ty D da ad (va_up η hp.length q) A (hp ++ [.inl (t, List.replicate n.toNatClampNeg .null)]) H1 → va_S A H0 H1 locs → W p l e R s m args below meth c H1 locs (cells + 1) (slots + n.toNatClampNeg) Q (F0 m (pc + 3) ls ((.ref hp.length :: st).map (xc ad (va_up η hp.length q))))) : W p l e R s m args below meth c H locs cells slots Q (F0 m pc ls ((.int n :: st).map (xc ad η))) := by
  refine va_newq (N' := n.toNatClampNeg) hx hb hown (hts _ hcl) (va_AO.of (hts _ harr)) hK hR.1 hR.2 hS hA hn rfl ?_ h1 h2 hd (fun q cA H1 q0 q1 q2 q3 => ?_)
  · exact Nat.le_trans (Nat.mul_le_mul_right 4 hnm) (Nat.le_of_ble_eq_true rfl)
  · rw [← hat] at q0
    have ec := xda hK ht q0
    subst ec
    have hrk : refKind (ty t) = true := by rw [hat]; rfl
    have e9 := xw_push (ty := ty) (da := da) (ad := ad) (η := η) hw q (.inl (t, List.replicate n.toNatClampNeg .null)) (.inl (da t, n.toNatClampNeg, .inr (.inr (.inr (.inr (fun _ => none)))))) (congrArg (fun z => (Sum.inl (da t, z) : va_E)) (by rw [xae_r hrk, List.length_replicate, xref_rep]))
    rw [← e9] at q1 q2
    have k9 := kk q H1 ⟨q1, q2⟩ q3
    have e8 : (.ref hp.length :: st : List Value).map (xc ad (va_up η hp.length q)) = .ref q :: st.map (xc ad η) := by
      rw [List.map_cons, xc_gs (xup_g η hp.length q) hsw]
      exact congrArg (fun z => Value.ref z :: st.map (xc ad η)) (if_pos rfl)
    rw [e8] at k9
    exact k9
/-- two constants that are told apart by their first field -/
def xapart (kc : List XC) (a b : Nat) : Bool :=
  match kc[a]?, kc[b]? with
  | some (.inr (ci, .int x :: _)), some (.inr (cj, .int y :: _)) => decide (ci = cj) && decide (x ≠ y)
  | _, _ => false
def xeq (kc : List XC) (v w : Value) : Option Bool :=
  match v, w with
  | .null, .null => some true
  | .null, .ref _ => some false
  | .ref _, .null => some false
  | .null, .retAddr _ => some false
  | .retAddr _, .null => some false
  | .ref a, .ref b => some (decide (a = b))
  | .ref _, .retAddr k => if k < kc.length then some false else none
  | .retAddr k, .ref _ => if k < kc.length then some false else none
  | .retAddr a, .retAddr b => if a = b then some true else if xapart kc a b = true then some false else none
  | _, _ => none
theorem xapart_s (hKc : xkc cl ty ad A s H kc) {a b : Nat} (h : xapart kc a b = true) : ad a ≠ ad b := by
  unfold xapart at h
  split at h
  · rename_i ci x r1 cj y r2 e1 e2
    simp only [Bool.and_eq_true, decide_eq_true_eq] at h
    obtain ⟨rfl, hxy⟩ := h
    intro hab
    obtain ⟨q1, g1, -, g3⟩ := hKc _ _ e1
    obtain ⟨q2, j1, -, j3⟩ := hKc _ _ e2
    cases g1.symm.trans j1
    obtain ⟨c1, k1, i1, f1, cell1, u1, u2, u3, u4, u5, u6⟩ := g3 0 (.int x) rfl
    obtain ⟨c2, k2, i2, f2, cell2, v1, v2, v3, v4, v5, v6⟩ := j3 0 (.int y) rfl
    cases u1.symm.trans v1
    rw [hab] at u3
    cases u3.symm.trans v3
    exact hxy (Value.int.inj (Option.some.inj (u5.symm.trans v5)))
  · cases h
theorem xeq_s (hR : xR cl ty D da ad η A hp H) (hKc : xkc cl ty ad A s s.heap kc) (hkA : ∀ k, k < kc.length → ¬ A (ad k)) {v w : Value} {b : Bool} (hv : xv hp.length v) (hw : xv hp.length w) (h : xeq kc v w = some b) :
    xisr v = true ∧ xisr w = true ∧ (b = true → xref ad η v = xref ad η w) ∧ (b = false → ¬ xref ad η v = xref ad η w) := by
  unfold xeq at h
  split at h
  · cases h; exact ⟨rfl, rfl, fun _ => rfl, (fun q => by cases q)⟩
  · cases h; exact ⟨rfl, rfl, (fun q => by cases q), (fun _ q => by cases q)⟩
  · cases h; exact ⟨rfl, rfl, (fun q => by cases q), (fun _ q => by cases q)⟩
  · cases h; exact ⟨rfl, rfl, (fun q => by cases q), (fun _ q => by cases q)⟩
  · cases h; exact ⟨rfl, rfl, (fun q => by cases q), (fun _ q => by cases q)⟩
  · cases h
    exact ⟨rfl, rfl, fun q => by rw [of_decide_eq_true q], fun q z => of_decide_eq_false q (xR_inj hR hv hw (Option.some.inj z))⟩
  · split at h
    · rename_i k hk
      cases h
      exact ⟨rfl, rfl, (fun q => by cases q), fun _ z => hkA _ hk (by rw [← Option.some.inj z]; exact xR_A hR hv)⟩
    · cases h
  · split at h
    · rename_i k hk
      cases h
      exact ⟨rfl, rfl, (fun q => by cases q), fun _ z => hkA _ hk (by rw [Option.some.inj z]; exact xR_A hR hw)⟩
    · cases h
  · split at h
    · rename_i e9
      cases h
      subst e9
      exact ⟨rfl, rfl, fun _ => rfl, (fun q => by cases q)⟩
    · split at h
      · rename_i e9
        cases h
        exact ⟨rfl, rfl, (fun q => by cases q), fun _ z => xapart_s hKc e9 (Option.some.inj z)⟩
      · cases h
  · cases h
/-- comparing references -/
def xac (kc : List XC) (pc : Nat) (i : Instr) (st : List Value) : Option (Nat × List Value) :=
  match i with
  | .if_acmp .eq off => match st with
    | w :: v :: r => (xeq kc v w).bind (fun b => xtg pc b off r)
    | _ => none
  | .if_acmp .ne off => match st with
    | w :: v :: r => (xeq kc v w).bind (fun b => xtg pc (!b) off r)
    | _ => none
  | _ => none
theorem xac_sim {i : Instr} {pc' : Nat} (hx : p.tables.exec = Jvm.exec) (hb : c.code = cc) (hR : xR cl ty D da ad η A hp H) (hKc : xkc cl ty ad A s s.heap kc) (hkA : ∀ k, k < kc.length → ¬ A (ad k)) (hsw : ∀ v ∈ st, xv hp.length v) (hd : decode cc pc = .ok (i, 3)) (h : xac kc pc i st = some (pc', st'))
    (kk : W p l e R s m args below meth c H locs cells slots Q (F0 m pc' ls (st'.map (xc ad η)))) : W p l e R s m args below meth c H locs cells slots Q (F0 m pc ls (st.map (xc ad η))) := by
  unfold xac at h
  split at h
  · split at h
    · rename_i w v r
      obtain ⟨b, hb9, h⟩ := Option.bind_eq_some_iff.mp h
      obtain ⟨tgt, ht, rfl, rfl⟩ := xtg_s h
      obtain ⟨g1, g2, g3, g4⟩ := xeq_s hR hKc hkA (hsw v (List.mem_cons_of_mem _ List.mem_cons_self)) (hsw w List.mem_cons_self) hb9
      show W p l e R s m args below meth c H locs cells slots Q (F0 m pc ls (xc ad η w :: xc ad η v :: st'.map (xc ad η)))
      rw [← xref_rf (xisr_s g1) ad η, ← xref_rf (xisr_s g2) ad η]
      refine lv_acmp_eq hx hb hd ht (fun z => ?_) (fun z => ?_)
      · cases b with
        | true => exact kk
        | false => exact absurd z (g4 rfl)
      · cases b with
        | true => exact absurd (g3 rfl) z
        | false => exact kk
    · cases h
  · split at h
    · rename_i w v r
      obtain ⟨b, hb9, h⟩ := Option.bind_eq_some_iff.mp h
      obtain ⟨tgt, ht, rfl, rfl⟩ := xtg_s h
      obtain ⟨g1, g2, g3, g4⟩ := xeq_s hR hKc hkA (hsw v (List.mem_cons_of_mem _ List.mem_cons_self)) (hsw w List.mem_cons_self) hb9
      show W p l e R s m args below meth c H locs cells slots Q (F0 m pc ls (xc ad η w :: xc ad η v :: st'.map (xc ad η)))
      rw [← xref_rf (xisr_s g1) ad η, ← xref_rf (xisr_s g2) ad η]
      refine lv_acmp_ne hx hb hd ht (fun z => ?_) (fun z => ?_)
      · cases b with
        | true => exact absurd (g3 rfl) z
        | false => exact kk
      · cases b with
        | true => exact kk
        | false => exact absurd z (g4 rfl)
    · cases h
  · cases h
end XROW2
