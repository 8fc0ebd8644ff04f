/-! one instruction: (kind, instruction, two numbers, a value, numbers) -/
abbrev XI : Type := Nat × Instr × Nat × Nat × Value × List Nat
abbrev XG : Type := Nat × List (Nat × Value) × List Value × List XC × Nat × Nat
/-- what of the system stands still: the array types, their number, which class may be stored in which array, the classes' field types and first values, the constants, the script -/
abbrev XP : Type := (Nat → FieldType) × Nat × List (Nat × Nat) × (Nat → Nat → FieldType) × (Nat → List Value) × List XC × List Int32
def xnwa (z : XP) (t : Nat) (v : Value) (pc len : Nat) (L : List (Nat × Value)) (st : List Value) (hp : List XC) : Option XG :=
  match st with
  | .int n :: r => if ¬ n < 0 ∧ n.toNatClampNeg ≤ 100000 ∧ t < z.2.1 then some (pc + len, L, .ref hp.length :: r, hp ++ [.inl (t, List.replicate n.toNatClampNeg v)], 1, n.toNatClampNeg) else none
  | _ => none
def xsld (z : XP) (st : List Value) : Option (List Value) :=
  match st with
  | .int j :: .retAddr k :: r => if k = z.2.2.2.2.2.1.length ∧ ¬ j < 0 then (z.2.2.2.2.2.2[j.toNatClampNeg]?).map (fun x => .int x :: r) else none
  | _ => none
def xsln (z : XP) (st : List Value) : Option (List Value) :=
  match st with
  | .retAddr k :: r => if k = z.2.2.2.2.2.1.length then some (.int (Int32.ofNat z.2.2.2.2.2.2.length) :: r) else none
  | _ => none
def xstep (z : XP) (nL : Nat) (e : XI) (pc : Nat) (L : List (Nat × Value)) (st : List Value) (hp : List XC) : Option XG :=
  match e.1 with
  | 0 => (xpu e.2.1 st).map (fun q => (pc + xln e.2.1, L, q, hp, 0, 0))
  | 1 => (xlo nL e.2.1 L st).map (fun q => (pc + xln e.2.1, q.1, q.2, hp, 0, 0))
  | 2 => (xbr pc e.2.1 st).map (fun q => (q.1, L, q.2, hp, 0, 0))
  | 3 => (xac z.2.2.2.2.2.1 pc e.2.1 st).map (fun q => (q.1, L, q.2, hp, 0, 0))
  | 4 => (xgf (e.2.2.2.2.2.headD 0) z.2.2.2.2.2.1 hp e.2.2.1 e.2.2.2.1 st).map (fun q => (pc + 3, L, q, hp, 0, 0))
  | 5 => (xpf (z.2.2.2.1 e.2.2.1 e.2.2.2.1) hp e.2.2.1 e.2.2.2.1 st).map (fun q => (pc + 3, L, q.2, q.1, 0, 0))
  | 6 => some (pc + 3, L, e.2.2.2.2.1 :: st, hp, 0, 0)
  | 7 => some (pc + xln e.2.1, L, e.2.2.2.2.1 :: st, hp, 0, 0)
  | 8 => some (pc + xln e.2.1, L, e.2.2.2.2.1 :: st, hp, 0, 0)
  | 9 => some (pc + 3, L, .ref hp.length :: st, hp ++ [.inr (e.2.2.1, z.2.2.2.2.1 e.2.2.1)], 1, (z.2.2.2.2.1 e.2.2.1).length)
  | 10 => xnwa z e.2.2.1 (.int 0) pc 2 L st hp
  | 11 => xnwa z e.2.2.1 .null pc 3 L st hp
  | 12 => (xald z.1 z.2.1 e.2.1 z.2.2.2.2.2.1 hp st).map (fun q => (pc + 1, L, q, hp, 0, 0))
  | 13 => (xast z.1 z.2.1 e.2.1 hp st).map (fun q => (pc + 1, L, q.2, q.1, 0, 0))
  | 14 => (xaal z.1 z.2.1 z.2.2.2.2.2.1 hp st).map (fun q => (pc + 1, L, q, hp, 0, 0))
  | 15 => (xaas z.1 z.2.1 z.2.2.1 z.2.2.2.2.2.1 hp st).map (fun q => (pc + 1, L, q.2, q.1, 0, 0))
  | 16 => (xaln z.2.2.2.2.2.1 hp st).map (fun q => (pc + 1, L, q, hp, 0, 0))
  | 17 => (xcas e.2.2.2.2.2 hp st).map (fun q => (pc + 3, L, q, hp, 0, 0))
  | 18 => (xsld z st).map (fun q => (pc + 1, L, q, hp, 0, 0))
  | 19 => (xsln z st).map (fun q => (pc + 1, L, q, hp, 0, 0))
  | _ => none
/-- classes that aren't one another's, texts (class, entry, text, constant), class objects (class, constant) -/
abbrev XN : Type := List (String × String) × List (String × Nat × String × Nat) × List (String × Nat)
def xnc (N : XN) (ad : Nat → Nat) (s : State) : Prop := (∀ q ∈ N.1, va_Nc q.1 q.2 s) ∧ (∀ q ∈ N.2.1, vk_R q.1 q.2.1 q.2.2.1 (ad q.2.2.2) s) ∧ ∀ q ∈ N.2.2, va_Mi q.1 (ad q.2) s
theorem xnc_warm {N : XN} {ad : Nat → Nat} {s U : State} (hW : s.WarmedH U.vm) (h : xnc N ad s) : xnc N ad U := ⟨fun q hq => va_Nc.moved hW.alike (h.1 q hq), fun q hq => vk_R.warm hW (h.2.1 q hq), fun q hq => va_Mi.moved hW.alike (h.2.2 q hq)⟩
theorem xnc_same {N : XN} {ad : Nat → Nat} {u U : State} (hv : U.vm = u.vm) (h : xnc N ad u) : xnc N ad U := ⟨fun q hq => va_Nc.moved (by rw [hv]; exact Vm.Alike.refl _) (h.1 q hq), fun q hq => vk_R.same hv (h.2.1 q hq), fun q hq => va_Mi.moved (by rw [hv]; exact Vm.Alike.refl _) (h.2.2 q hq)⟩
section XLDW
variable {p : Program} {l : Launch} {e : Env} {R : Room} {s : State} {m : MethodId} {args : Array Value} {below : List Frame} {meth : Method} {c : Code} {H : Heap} {locs : List Loc} {cells slots : Nat} {Q : State → Prop}
variable {cc : ByteArray} {pc : Nat} {ls : Array Slot} {rest : List Value}
/-- ldc_w of a text (follows Stand.ldcString) -/
theorem xldw {T : State} (X : Stand p l e R s m args below meth c T locs cells slots) (hexec : p.tables.exec = Jvm.exec) {own text : String} {index : Nat} {a : Addr} (hown : s.vm.findClass own = some m.cls)
    (hconst : (Cond.stringRef own index text).before args s = true) (hev : (Term.string own index).eval args s none [] s = some (.ref a)) {g : JFrame} (hg : g.method = m) (hdg : decode c.code g.pc = .ok (.ldc_w index, 3)) :
    ∀ target, Steps p.tables e below (T.setTop { g with pc := g.pc + 3, stack := .ref a :: g.stack }) target → Steps p.tables e below (T.setTop g) target := by
  obtain ⟨k, cf, i, a', hk, hcf, hcp, -, hr, hev'⟩ := Cond.stringRef_spec hown hconst
  cases hev.symm.trans hev'
  obtain ⟨k', hk', he⟩ := X.warmed.alike.2.2 _ _ hk
  have hr' : k'.resolved[index]? = some (some (.string a)) := by
    rcases X.warmed.entry hk hk' index with h | ⟨h, -⟩
    · rw [h]; exact hr
    · rw [hr] at h; cases h
  intro target hrest
  subst hg
  jvm_step X.here [hexec, hdg, ldc_w.wp_string (e := e) (s := T) (f := g) X.here.top hk' (by rw [he]; exact hcf) hcp hr']
  exact hrest
theorem xldcw (hexec : p.tables.exec = Jvm.exec) (hb : c.code = cc) {own tx : String} {index q : Nat} (hown : s.vm.findClass own = some m.cls) (hZ : vk_R own index tx q s) (hdg : decode cc pc = .ok (.ldc_w index, 3))
    (k : W p l e R s m args below meth c H locs cells slots Q (F0 m (pc + 3) ls (.ref q :: rest))) : W p l e R s m args below meth c H locs cells slots Q (F0 m pc ls rest) := by
  intro T hT X
  obtain ⟨t, a1, b1⟩ := k T hT X
  exact ⟨t, xldw X hexec hown (text := tx) (a := q) hZ.1 hZ.2 (g := F0 m pc ls rest) rfl (by rw [hb]; exact hdg) t a1, b1⟩
end XLDW
/-- what a table's row says of the class file and the tables' words -/
def xok (z : XP) (cl : List vw_C) (TB : List Cond) (ST : List (String × String × String × Value)) (NC : XN) (own : String) (cc : ByteArray) (isInit : Bool) (pc : Nat) (e : XI) : Prop :=
  match e.1 with
  | 0 => decode cc pc = .ok (e.2.1, xln e.2.1)
  | 1 => decode cc pc = .ok (e.2.1, xln e.2.1)
  | 2 => ∃ len, decode cc pc = .ok (e.2.1, len) ∧ (xsw e.2.1 = true ∨ len = 3)
  | 3 => decode cc pc = .ok (e.2.1, 3)
  | 4 => ∃ idx r, decode cc pc = .ok (.getfield idx, 3) ∧ cl[e.2.2.1]? = some r ∧ (e.2.2.2.2.2.headD 0 ≠ 2 → e.2.2.2.1 < r.2.2 ∧ xlk9 TB own idx (r.2.1 e.2.2.2.1)) ∧ (e.2.2.2.2.2.headD 0 ≠ 1 → xlk8 TB own idx (r.2.1 e.2.2.2.1))
  | 5 => ∃ idx r, decode cc pc = .ok (.putfield idx, 3) ∧ cl[e.2.2.1]? = some r ∧ e.2.2.2.1 < r.2.2 ∧ xlk9 TB own idx (r.2.1 e.2.2.2.1) ∧ ((r.2.1 e.2.2.2.1).2.2.2 = false ∨ ((r.2.1 e.2.2.2.1).2.2.2 = true ∧ isInit = true ∧ (r.2.1 e.2.2.2.1).1 = own ∧ Cond.fieldLink own idx (r.2.1 e.2.2.2.1).1 (r.2.1 e.2.2.2.1).2.1 (r.2.1 e.2.2.2.1).2.2.1 ∈ TB))
  | 6 => ∃ idx q, decode cc pc = .ok (.getstatic idx, 3) ∧ q ∈ ST ∧ q.2.2.2 = e.2.2.2.2.1 ∧ (xv 0 q.2.2.2 ∧ ∀ b, q.2.2.2 ≠ .float b) ∧ xlk9 TB own idx (q.1, q.2.1, q.2.2.1, false)
  | 7 => (∃ idx x, decode cc pc = .ok (.ldc idx, 2) ∧ e.2.1 = .ldc idx ∧ e.2.2.2.2.1 = .int x ∧ Cond.constant own idx x ∈ TB) ∨ (∃ idx x, decode cc pc = .ok (.ldc2_w idx, 3) ∧ e.2.1 = .ldc2_w idx ∧ e.2.2.2.2.1 = .long x ∧ Cond.constantLong own idx x ∈ TB) ∨ (∃ idx x, decode cc pc = .ok (.ldc_w idx, 3) ∧ e.2.1 = .ldc_w idx ∧ e.2.2.2.2.1 = .int x ∧ Cond.constant own idx x ∈ TB)
  | 8 => ∃ idx k, e.2.2.2.2.1 = .retAddr k ∧ ((∃ tx, (own, idx, tx, k) ∈ NC.2.1 ∧ ((decode cc pc = .ok (.ldc idx, 2) ∧ e.2.1 = .ldc idx) ∨ (decode cc pc = .ok (.ldc_w idx, 3) ∧ e.2.1 = .ldc_w idx))) ∨ ∃ C, (C, k) ∈ NC.2.2 ∧ decode cc pc = .ok (.ldc idx, 2) ∧ e.2.1 = .ldc idx ∧ Cond.classLink own idx C ∈ TB)
  | 9 => ∃ idx r, decode cc pc = .ok (.new idx, 3) ∧ (xk cl)[e.2.2.1]? = some r ∧ Cond.classLink own idx r.1 ∈ TB ∧ Cond.instantiable r.1 r.2.2 ∈ TB ∧ Cond.initialized r.1 ∈ TB ∧ (z.2.2.2.2.1 e.2.2.1).length = r.2.2 ∧ (∀ j, j < r.2.2 → defaultValue (z.2.2.2.1 e.2.2.1 j) = vp_V (z.2.2.2.2.1 e.2.2.1) j) ∧ ∀ v ∈ z.2.2.2.2.1 e.2.2.1, v = .int 0 ∨ v = .long 0 ∨ v = .null
  | 10 => ∃ at9, decode cc pc = .ok (.newarray at9, 2) ∧ newarray.typeOf at9 = z.1 e.2.2.1 ∧ defaultValue (z.1 e.2.2.1) = .int 0 ∧ componentBytes (z.1 e.2.2.1) ≤ 4 ∧ Cond.arrayClass (z.1 e.2.2.1) ∈ TB
  | 11 => ∃ idx C, decode cc pc = .ok (.anewarray idx, 3) ∧ z.1 e.2.2.1 = .object C ∧ Cond.classLink own idx C ∈ TB ∧ Cond.arrayOver (.object C) ∈ TB
  | 12 => decode cc pc = .ok (e.2.1, 1) ∧ (e.2.1 = .iaload ∨ e.2.1 = .caload ∨ e.2.1 = .baload ∨ e.2.1 = .saload)
  | 13 => decode cc pc = .ok (e.2.1, 1) ∧ (e.2.1 = .iastore ∨ e.2.1 = .castore ∨ e.2.1 = .bastore ∨ e.2.1 = .sastore)
  | 14 => decode cc pc = .ok (.aaload, 1)
  | 15 => decode cc pc = .ok (.aastore, 1)
  | 16 => decode cc pc = .ok (.arraylength, 1)
  | 17 => ∃ idx nm, decode cc pc = .ok (.checkcast idx, 3) ∧ Cond.classLink own idx nm ∈ TB ∧ ∀ ci ∈ e.2.2.2.2.2, xca TB cl ci nm
  | 18 => decode cc pc = .ok (.iaload, 1)
  | 19 => decode cc pc = .ok (.arraylength, 1)
  | _ => True
/-- the classes' own facts, and the arrays' -/
def xtb (z : XP) (cl : List vw_C) (TB : List Cond) : Prop :=
  (∀ ci r, cl[ci]? = some r → (∀ w ∈ u_ws r.1 r.2.1 r.2.2, w ∈ TB) ∧ (∀ k, k < r.2.2 → parseFieldDescriptor (r.2.1 k).2.2.1 = some (z.2.2.2.1 ci k)) ∧ (∀ a, a < r.2.2 → ∀ b, b < r.2.2 → a ≠ b → (r.2.1 a).2.1 ≠ (r.2.1 b).2.1)) ∧
  (∀ q ∈ z.2.2.1, ∃ C, z.1 q.2 = .object C ∧ xca TB cl q.1 C) ∧ (∀ t, t < z.2.1 → refKind (z.1 t) = true → ∃ C, z.1 t = .object C) ∧
  xhw 0 z.2.2.2.2.2.1
/-- the arrays of a heap are of known kinds -/
def xnt (z : XP) (hp : List XC) : Prop := ∀ c ∈ hp, ∀ t es, c = Sum.inl (t, es) → t < z.2.1
/-- a static's value; of one that is told by .float k only this: null, or the constant k -/
def xZv (ad : Nat → Nat) (A : Nat → Prop) (U : State) (H : Heap) (q : String × String × String × Value) : Prop :=
  (∀ b, q.2.2.2 = .float b → va_Z q.1 q.2.1 q.2.2.1 .null A U H ∨ va_Z q.1 q.2.1 q.2.2.1 (.ref (ad b.toNat)) A U H) ∧ ((∀ b, q.2.2.2 ≠ .float b) → va_Z q.1 q.2.1 q.2.2.1 (xc ad ad q.2.2.2) A U H)
theorem xZv.moved {ad : Nat → Nat} {A : Nat → Prop} {u U : State} {H : Heap} {q : String × String × String × Value} (hvm : u.vm.Alike U.vm) (h : xZv ad A u H q) : xZv ad A U H q := ⟨fun b hb => (h.1 b hb).imp (va_Z.moved hvm) (va_Z.moved hvm), fun hn => va_Z.moved hvm (h.2 hn)⟩
theorem xZv.kept {ad : Nat → Nat} {A : Nat → Prop} {U : State} {H H1 : Heap} {q : String × String × String × Value} (h : xZv ad A U H q) (hq : ∀ a : Nat, a < H.size → ¬ A a → H1[a]? = H[a]?) : xZv ad A U H1 q := ⟨fun b hb => (h.1 b hb).imp (fun z => va_Z.kept z hq) (fun z => va_Z.kept z hq), fun hn => va_Z.kept (h.2 hn) hq⟩
theorem xZv.narrow {ad : Nat → Nat} {A B : Nat → Prop} {U : State} {H : Heap} {q : String × String × String × Value} (h : xZv ad A U H q) (hAB : ∀ q, B q → A q) : xZv ad B U H q := ⟨fun b hb => (h.1 b hb).imp (fun z => va_Z.narrow z hAB) (fun z => va_Z.narrow z hAB), fun hn => va_Z.narrow (h.2 hn) hAB⟩
/-- what doesn't change while a method runs: constants, statics, the script -/
def xcs (z : XP) (cl : List vw_C) (ST : List (String × String × String × Value)) (ad : Nat → Nat) (A : Nat → Prop) (s : State) (H : Heap) : Prop :=
  xkc cl z.1 ad A s H z.2.2.2.2.2.1 ∧ (∀ k, k < z.2.2.2.2.2.1.length → ¬ A (ad k)) ∧ (∀ q ∈ ST, xZv ad A s H q) ∧
  vx_Zq Bundle.tN "UNASSIGNED_STACK" Bundle.steD A s H ∧ vx_Zq Bundle.tN "SUPPRESSED_SENTINEL" Bundle.listD A s H ∧
  va_X (ad z.2.2.2.2.2.1.length) z.2.2.2.2.2.2.length (fun j => z.2.2.2.2.2.2.getD j 0) s H ∧ ad z.2.2.2.2.2.1.length < H.size ∧ ¬ A (ad z.2.2.2.2.2.1.length)
theorem xcs_kept {z : XP} {cl : List vw_C} {ST : List (String × String × String × Value)} {ad : Nat → Nat} {A : Nat → Prop} {s : State} {H H1 : Heap} (h : xcs z cl ST ad A s H) (hz : H.size ≤ H1.size) (hq : ∀ a : Nat, a < H.size → ¬ A a → H1[a]? = H[a]?) : xcs z cl ST ad A s H1 := by
  obtain ⟨h1, h2, h3, h4, h5, h6, h7, h8⟩ := h
  exact ⟨xkc_kept h1 hq, h2, fun q hm => (h3 q hm).kept hq, h4.kept hq, h5.kept hq, h6.kept (hq _ h7 h8), Nat.lt_of_lt_of_le h7 hz, h8⟩
theorem xcs_moved {z : XP} {cl : List vw_C} {ST : List (String × String × String × Value)} {ad : Nat → Nat} {A : Nat → Prop} {s U : State} {H : Heap} (hvm : s.vm.Alike U.vm) (h : xcs z cl ST ad A s H) : xcs z cl ST ad A U H := by
  obtain ⟨h1, h2, h3, h4, h5, h6, h7, h8⟩ := h
  exact ⟨xkc_moved hvm h1, h2, fun q hm => (h3 q hm).moved hvm, vx_Zq.moved hvm h4, vx_Zq.moved hvm h5, h6.moved hvm, h7, h8⟩
theorem xcs_narrow {z : XP} {cl : List vw_C} {ST : List (String × String × String × Value)} {ad : Nat → Nat} {A B : Nat → Prop} {s : State} {H : Heap} (h : xcs z cl ST ad A s H) (hAB : ∀ q, B q → A q) : xcs z cl ST ad B s H := by
  obtain ⟨h1, h2, h3, h4, h5, h6, h7, h8⟩ := h
  exact ⟨xkc_narrow h1 hAB, fun k hk q => h2 k hk (hAB _ q), fun q hm => (h3 q hm).narrow hAB, h4.narrow hAB, h5.narrow hAB, h6, h7, fun q => h8 (hAB _ q)⟩
/-- the frame's facts -/
def xfr (z : XP) (cl : List vw_C) (TB : List Cond) (ST : List (String × String × String × Value)) (p : Program) (s : State) (m : MethodId) (args : Array Value) (meth : Method) (c : Code) (own : String) (cc : ByteArray) (isInit : Bool) (D : va_G) (da ad : Nat → Nat) (A : Nat → Prop) : Prop :=
  p.tables.exec = Jvm.exec ∧ c.code = cc ∧ s.vm.findClass own = some m.cls ∧ (∀ w ∈ TB, w.before args s = true) ∧ (isInit = true → meth.name = "<init>") ∧ va_K D (xk cl) (xtys z.1 da z.2.1) s ∧ xcs z cl ST ad A s s.heap ∧ ∀ q, s.heap.size ≤ q → A q
