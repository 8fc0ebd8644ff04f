/-- what is claimed of a run: the machine goes on to the same end -/
def xgo (z : XP) (MT : Nat → XM) (EX : Nat → String) (cl : List vw_C) (TB : List Cond) (ST : List (String × String × String × Value)) (NC : XN) (l : Launch) (n : Nat) : Prop :=
  ∀ (d y pc : Nat) (L : List (Nat × Value)) (st : List Value) (hp : List XC) (nc ns : Nat) (o : XO), xrun z MT n d y pc L st hp nc ns = some o →
    ∀ (p : Program) (e : Env) (R : Room) (s : State) (m : MethodId) (args : Array Value) (below : List Frame) (meth : Method) (c : Code) (H : Heap) (locs : List Loc) (ls : Array Slot) (D : va_G) (da ad η0 η : Nat → Nat) (A : Nat → Prop) (hp0 : List XC),
      xfr z cl TB ST p s m args meth c (xmO (MT y)) (xmB (MT y)) (xmI (MT y)) D da ad A → xnc NC ad s → meth.sig.returnType = xmR (MT y) → meth.locks = false → c.maxLocals = xmL (MT y) → c.exceptionTable.toList = tableOf (xmH (MT y)) →
      d ≤ R.frames → 40 * d ≤ R.locals → lv_has ls (xmL (MT y)) (L.map (xq ad η)) → xR cl z.1 D da ad η A hp H → xwm z L st hp → va_S A s.heap H locs → xg hp0.length η0 η → hp0.length ≤ hp.length → xoc o ≤ R.cells → xos o ≤ R.slots →
      W p l e R s m args below meth c H locs nc ns (vx_MQ below (fun _ => xQ z cl D da ad η0 A hp0 o) (xX z EX cl D da ad η0 A hp0 o) args s (xoc o) (xos o) A) (F0 m pc ls (st.map (xc ad η)))
/-- the word that names a method's code -/
def xcw (q : XM) : Cond := if xmH q = [] then Cond.code (xmN q) (xmB q) (xmL q) (xmR q) else Cond.codeWith (xmN q) (xmB q) (xmL q) (xmR q) (xmH q)
def xrm (d : Nat) (o : XO) : Room := { frames := d, cells := xoc o, slots := xos o, locals := 40 * d }
section XMET
variable {z : XP} {MT : Nat → XM} {EX : Nat → String} {cl : List vw_C} {TB : List Cond} {ST : List (String × String × String × Value)} {NC : XN} {l : Launch}
theorem xmet {n d y : Nat} {as : List Value} {hp : List XC} {o : XO} (ih : xgo z MT EX cl TB ST NC l n) (hrun : xrun z MT n d y 0 (lv_args 0 as) [] hp 0 0 = some o) (hlen : xsum as ≤ xmL (MT y)) (hwf : ∀ v ∈ as, xv hp.length v) (hhw : xhw hp.length hp) (hnt : xnt z hp) (hk : xmk z MT EX cl TB ST NC (MT y)) (D : va_G) (da ad η : Nat → Nat) (sz : Nat) :
    vx_Met l (xmN (MT y)) (xcw (MT y) :: TB) (xrm d o) (xPc z cl ST NC D da ad η sz hp as) (fun _ => xQ z cl D da ad η (va_A (xw z.1 da ad η hp) sz) hp o) (xX z EX cl D da ad η (va_A (xw z.1 da ad η hp) sz) hp o) (xoc o) (xos o) (va_A (xw z.1 da ad η hp) sz) := by
  obtain ⟨hk1, hk2, hk3, hk4, hk5, hk6, hk7, hk8⟩ := hk
  have body : ∀ (p : Program) (e : Env) (s : State) (m : MethodId) (args : Array Value) (below : List Frame) (meth : Method) (c : Code) (s₁ : State), BodyLoose p l (xmN (MT y)) (headSpec (xcw (MT y) :: TB) (xrm d o)) (xmB (MT y)) (xmL (MT y)) (xmR (MT y)) e s m args below meth c s₁ → c.maxLocals = xmL (MT y) → c.exceptionTable.toList = tableOf (xmH (MT y)) → xPc z cl ST NC D da ad η sz hp as args s →
      W p l e (headSpec (xcw (MT y) :: TB) (xrm d o)).room s m args below meth c s.heap [] 0 0 (vx_MQ below (fun _ => xQ z cl D da ad η (va_A (xw z.1 da ad η hp) sz) hp o) (xX z EX cl D da ad η (va_A (xw z.1 da ad η hp) sz) hp o) args s (xoc o) (xos o) (va_A (xw z.1 da ad η hp) sz)) (entryFrame m args (xmL (MT y))) := by
    intro p e s m args below meth c s₁ B hml hex hv
    obtain ⟨rfl, hsz, hR0, hK, hcs, hnc⟩ := hv
    have hts0 := atoms_spec (ws := xcw (MT y) :: TB) B.pre
    have hts : ∀ w ∈ TB, w.before (as.map (xc ad η)).toArray s = true := fun w hw => hts0 w (List.mem_cons_of_mem _ hw)
    have hown : s.vm.findClass (xmO (MT y)) = some m.cls := by rw [← hk2]; exact findClass_of_methodNamed B.named
    have hname : meth.name = (xmN (MT y)).name := (name_of_methodNamed B.named B.method).1
    have hl := lv_entry (as.map (xc ad η)) (n := xmL (MT y)) (by rw [xsl_len, xsum_c]; exact hlen)
    rw [xargs] at hl
    rw [lg_entry_eq]
    subst hsz
    exact ih d y 0 _ [] hp 0 0 o hrun p e _ s m _ below meth c s.heap [] _ D da ad η η _ hp ⟨B.exec, B.bytes, hown, hts, fun q => by rw [hname]; exact of_decide_eq_true q, hK, hcs, fun q hq => Or.inr hq⟩ hnc B.returns B.notSynchronized hml hex (Nat.le_refl _) (Nat.le_refl _) hl ⟨hR0.1, hR0.2.self⟩ ⟨hhw, xargs_wf hwf, (fun v hv => by cases hv), hnt⟩ va_S.rf (xg_rf _ _) (Nat.le_refl _) (Nat.le_refl _) (Nat.le_refl _)
  by_cases hH : xmH (MT y) = []
  · have e1 : xcw (MT y) = Cond.code (xmN (MT y)) (xmB (MT y)) (xmL (MT y)) (xmR (MT y)) := if_pos hH
    refine vx_ofW (cc := xmB (MT y)) (maxL := xmL (MT y)) (ret := xmR (MT y)) (ws' := TB) hk1 (by rw [e1]) (fun p e s m args below meth c s₁ B hml hex hv => body p e s m args below meth c s₁ B hml ?_ hv)
    rw [hH]
    exact List.eq_nil_iff_forall_not_mem.mpr (fun x hx => hex x hx)
  · have e1 : xcw (MT y) = Cond.codeWith (xmN (MT y)) (xmB (MT y)) (xmL (MT y)) (xmR (MT y)) (xmH (MT y)) := if_neg hH
    refine vx_ofWH (cc := xmB (MT y)) (maxL := xmL (MT y)) (ret := xmR (MT y)) (hh := xmH (MT y)) (ws' := TB) hk1 (by rw [e1]) (fun p e s m args below meth c s₁ B hml hv => body p e s m args below meth c s₁ B hml ?_ hv)
    have hts0 := atoms_spec (ws := xcw (MT y) :: TB) B.pre
    exact vx_table (x := xmN (MT y)) B (hts0 _ (by rw [← e1]; exact List.mem_cons_self))
end XMET
