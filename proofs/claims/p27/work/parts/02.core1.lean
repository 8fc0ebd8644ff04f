/-! An abstract machine: values whose references are handles, a heap that is a list of cells. First: values, pure instructions, locals, branches. -/
def xc (ad η : Nat → Nat) : Value → Value
  | .ref h => .ref (η h)
  | .retAddr k => .ref (ad k)
  | v => v
theorem xc_cat (ad η : Nat → Nat) (v : Value) : (xc ad η v).category = v.category := by cases v <;> rfl
/-- a value's handles are below n -/
def xv (n : Nat) : Value → Prop
  | .ref h => h < n
  | _ => True
theorem xv_mono {n n' : Nat} (h : n ≤ n') {v : Value} (hv : xv n v) : xv n' v := by
  cases v <;> first | exact Nat.lt_of_lt_of_le hv h | exact trivial
/-- two readings of the handles agree below n -/
def xg (n : Nat) (η η' : Nat → Nat) : Prop := ∀ k, k < n → η' k = η k
theorem xg_rf (n : Nat) (η : Nat → Nat) : xg n η η := fun _ _ => rfl
theorem xg_tr {n n' : Nat} {a b c : Nat → Nat} (h : n ≤ n') (h1 : xg n a b) (h2 : xg n' b c) : xg n a c := fun k hk => (h2 k (Nat.lt_of_lt_of_le hk h)).trans (h1 k hk)
theorem xc_g {n : Nat} {ad η η' : Nat → Nat} (h : xg n η η') {v : Value} (hv : xv n v) : xc ad η' v = xc ad η v := by
  cases v <;> first | rfl | exact congrArg Value.ref (h _ hv)
theorem xc_gs {n : Nat} {ad η η' : Nat → Nat} (h : xg n η η') {vs : List Value} (hv : ∀ v ∈ vs, xv n v) : vs.map (xc ad η') = vs.map (xc ad η) := List.map_congr_left (fun v hm => xc_g h (hv v hm))
/-- the length of an instruction (switches: any) -/
def xln : Instr → Nat
  | .aload _ => 2 | .astore _ => 2 | .iload _ => 2 | .istore _ => 2 | .lload _ => 2 | .lstore _ => 2 | .fload _ => 2 | .fstore _ => 2 | .dload _ => 2 | .dstore _ => 2
  | .bipush _ => 2 | .ldc _ => 2 | .newarray _ => 2
  | .sipush _ => 3 | .iinc _ _ => 3 | .getfield _ => 3 | .putfield _ => 3 | .getstatic _ => 3 | .putstatic _ => 3
  | .invokespecial _ => 3 | .invokestatic _ => 3 | .invokevirtual _ => 3 | .invokeinterface _ _ => 5
  | .new _ => 3 | .anewarray _ => 3 | .checkcast _ => 3 | .instanceof _ => 3 | .ldc_w _ => 3 | .ldc2_w _ => 3
  | .goto _ => 3 | .ifCond _ _ => 3 | .if_icmp _ _ => 3 | .if_acmp _ _ => 3 | .ifnull _ => 3 | .ifnonnull _ => 3
  | _ => 1
def x1i (f : Int32 → Value) : List Value → Option (List Value)
  | .int x :: r => some (f x :: r)
  | _ => none
def x2i (f : Int32 → Int32 → Value) : List Value → Option (List Value)
  | .int y :: .int x :: r => some (f x y :: r)
  | _ => none
def x1l (f : Int64 → Value) : List Value → Option (List Value)
  | .long x :: r => some (f x :: r)
  | _ => none
def x2l (f : Int64 → Int64 → Value) : List Value → Option (List Value)
  | .long y :: .long x :: r => some (f x y :: r)
  | _ => none
def xli (f : Int64 → Int32 → Value) : List Value → Option (List Value)
  | .int y :: .long x :: r => some (f x y :: r)
  | _ => none
theorem x1i_s {f : Int32 → Value} {st st' : List Value} (h : x1i f st = some st') : ∃ x r, st = .int x :: r ∧ st' = f x :: r := by
  unfold x1i at h
  split at h
  · cases h; exact ⟨_, _, rfl, rfl⟩
  · cases h
theorem x2i_s {f : Int32 → Int32 → Value} {st st' : List Value} (h : x2i f st = some st') : ∃ x y r, st = .int y :: .int x :: r ∧ st' = f x y :: r := by
  unfold x2i at h
  split at h
  · cases h; exact ⟨_, _, _, rfl, rfl⟩
  · cases h
theorem x1l_s {f : Int64 → Value} {st st' : List Value} (h : x1l f st = some st') : ∃ x r, st = .long x :: r ∧ st' = f x :: r := by
  unfold x1l at h
  split at h
  · cases h; exact ⟨_, _, rfl, rfl⟩
  · cases h
theorem x2l_s {f : Int64 → Int64 → Value} {st st' : List Value} (h : x2l f st = some st') : ∃ x y r, st = .long y :: .long x :: r ∧ st' = f x y :: r := by
  unfold x2l at h
  split at h
  · cases h; exact ⟨_, _, _, rfl, rfl⟩
  · cases h
theorem xli_s {f : Int64 → Int32 → Value} {st st' : List Value} (h : xli f st = some st') : ∃ x y r, st = .int y :: .long x :: r ∧ st' = f x y :: r := by
  unfold xli at h
  split at h
  · cases h; exact ⟨_, _, _, rfl, rfl⟩
  · cases h
/-- what changes the stack alone -/
def xpu (i : Instr) (st : List Value) : Option (List Value) :=
  match i with
  | .aconst_null => some (.null :: st)
  | .iconst n => some (.int (Int32.ofInt n) :: st)
  | .bipush n => some (.int (Int8.ofInt n).toInt32 :: st)
  | .sipush n => some (.int (Int16.ofInt n).toInt32 :: st)
  | .lconst n => some (.long (Int64.ofNat (n : Nat)) :: st)
  | .iadd => x2i (fun x y => .int (x + y)) st
  | .isub => x2i (fun x y => .int (x - y)) st
  | .imul => x2i (fun x y => .int (x * y)) st
  | .iand => x2i (fun x y => .int (x &&& y)) st
  | .ior => x2i (fun x y => .int (x ||| y)) st
  | .ixor => x2i (fun x y => .int (x ^^^ y)) st
  | .ishl => x2i (fun x y => .int (x <<< (y &&& 31))) st
  | .ishr => x2i (fun x y => .int (x >>> (y &&& 31))) st
  | .iushr => x2i (fun x y => .int ((x.toUInt32 >>> (y.toUInt32 &&& Int32.toUInt32 31)).toInt32)) st
  | .idiv => match st with
    | .int y :: .int x :: r => if y = 0 then none else some (.int (x / y) :: r)
    | _ => none
  | .irem => match st with
    | .int y :: .int x :: r => if y = 0 then none else some (.int (x - x / y * y) :: r)
    | _ => none
  | .ineg => x1i (fun x => .int (-x)) st
  | .ladd => x2l (fun x y => .long (x + y)) st
  | .lsub => x2l (fun x y => .long (x - y)) st
  | .lmul => x2l (fun x y => .long (x * y)) st
  | .land => x2l (fun x y => .long (x &&& y)) st
  | .lor => x2l (fun x y => .long (x ||| y)) st
  | .lxor => x2l (fun x y => .long (x ^^^ y)) st
  | .lneg => x1l (fun x => .long (-x)) st
  | .lshl => xli (fun x y => .long (x <<< (y.toInt64 &&& 63))) st
  | .lshr => xli (fun x y => .long (x >>> (y.toInt64 &&& 63))) st
  | .lushr => xli (fun x y => .long ((x.toUInt64 >>> (y.toInt64.toUInt64 &&& Int64.toUInt64 63)).toInt64)) st
  | .lcmp => x2l (fun x y => .int (lg_cmp x y)) st
  | .i2l => x1i (fun x => .long x.toInt64) st
  | .l2i => x1l (fun x => .int x.toInt32) st
  | .i2b => x1i (fun x => .int x.toInt8.toInt32) st
  | .i2s => x1i (fun x => .int x.toInt16.toInt32) st
  | .i2c => x1i (fun x => .int (x.toUInt32 % 65536).toInt32) st
  | .dup => match st with
    | v :: r => if v.category = 1 then some (v :: v :: r) else none
    | _ => none
  | .pop => match st with
    | v :: r => if v.category = 1 then some r else none
    | _ => none
  | .dup_x1 => match st with
    | v :: w :: r => if v.category = 1 ∧ w.category = 1 then some (v :: w :: v :: r) else none
    | _ => none
  | .dup2 => match st with
    | v :: w :: r => if v.category = 1 ∧ w.category = 1 then some (v :: w :: v :: w :: r) else none
    | _ => none
  | _ => none
theorem xvs_c {n : Nat} {v : Value} {st : List Value} (hv : xv n v) (h : ∀ w ∈ st, xv n w) : ∀ w ∈ v :: st, xv n w := fun w hw => (List.mem_cons.mp hw).elim (fun e => by rw [e]; exact hv) (h w)
theorem xvs_t {n : Nat} {v : Value} {st : List Value} (h : ∀ w ∈ v :: st, xv n w) : ∀ w ∈ st, xv n w := fun w hw => h w (List.mem_cons_of_mem _ hw)
theorem xpu_wf {n : Nat} {i : Instr} {st st' : List Value} (h : xpu i st = some st') (hw : ∀ v ∈ st, xv n v) : ∀ v ∈ st', xv n v := by
  cases i with
  | aconst_null => cases h; exact fun v hv => (List.mem_cons.mp hv).elim (fun e => by rw [e]; trivial) (hw v)
  | iconst k => cases h; exact fun v hv => (List.mem_cons.mp hv).elim (fun e => by rw [e]; trivial) (hw v)
  | bipush k => cases h; exact fun v hv => (List.mem_cons.mp hv).elim (fun e => by rw [e]; trivial) (hw v)
  | sipush k => cases h; exact fun v hv => (List.mem_cons.mp hv).elim (fun e => by rw [e]; trivial) (hw v)
  | lconst k => cases h; exact fun v hv => (List.mem_cons.mp hv).elim (fun e => by rw [e]; trivial) (hw v)
  | iadd => obtain ⟨x, y, r, rfl, rfl⟩ := x2i_s h; exact xvs_c trivial (xvs_t (xvs_t hw))
  | isub => obtain ⟨x, y, r, rfl, rfl⟩ := x2i_s h; exact xvs_c trivial (xvs_t (xvs_t hw))
  | imul => obtain ⟨x, y, r, rfl, rfl⟩ := x2i_s h; exact xvs_c trivial (xvs_t (xvs_t hw))
  | iand => obtain ⟨x, y, r, rfl, rfl⟩ := x2i_s h; exact xvs_c trivial (xvs_t (xvs_t hw))
  | ior => obtain ⟨x, y, r, rfl, rfl⟩ := x2i_s h; exact xvs_c trivial (xvs_t (xvs_t hw))
  | ixor => obtain ⟨x, y, r, rfl, rfl⟩ := x2i_s h; exact xvs_c trivial (xvs_t (xvs_t hw))
  | ishl => obtain ⟨x, y, r, rfl, rfl⟩ := x2i_s h; exact xvs_c trivial (xvs_t (xvs_t hw))
  | ishr => obtain ⟨x, y, r, rfl, rfl⟩ := x2i_s h; exact xvs_c trivial (xvs_t (xvs_t hw))
  | iushr => obtain ⟨x, y, r, rfl, rfl⟩ := x2i_s h; exact xvs_c trivial (xvs_t (xvs_t hw))
  | idiv =>
    unfold xpu at h; dsimp only at h
    split at h
    · split at h
      · cases h
      · cases h; exact xvs_c trivial (xvs_t (xvs_t hw))
    · cases h
  | irem =>
    unfold xpu at h; dsimp only at h
    split at h
    · split at h
      · cases h
      · cases h; exact xvs_c trivial (xvs_t (xvs_t hw))
    · cases h
  | ineg => obtain ⟨x, r, rfl, rfl⟩ := x1i_s h; exact xvs_c trivial (xvs_t hw)
  | ladd => obtain ⟨x, y, r, rfl, rfl⟩ := x2l_s h; exact xvs_c trivial (xvs_t (xvs_t hw))
  | lsub => obtain ⟨x, y, r, rfl, rfl⟩ := x2l_s h; exact xvs_c trivial (xvs_t (xvs_t hw))
  | lmul => obtain ⟨x, y, r, rfl, rfl⟩ := x2l_s h; exact xvs_c trivial (xvs_t (xvs_t hw))
  | land => obtain ⟨x, y, r, rfl, rfl⟩ := x2l_s h; exact xvs_c trivial (xvs_t (xvs_t hw))
  | lor => obtain ⟨x, y, r, rfl, rfl⟩ := x2l_s h; exact xvs_c trivial (xvs_t (xvs_t hw))
  | lxor => obtain ⟨x, y, r, rfl, rfl⟩ := x2l_s h; exact xvs_c trivial (xvs_t (xvs_t hw))
  | lneg => obtain ⟨x, r, rfl, rfl⟩ := x1l_s h; exact xvs_c trivial (xvs_t hw)
  | lshl => obtain ⟨x, y, r, rfl, rfl⟩ := xli_s h; exact xvs_c trivial (xvs_t (xvs_t hw))
  | lshr => obtain ⟨x, y, r, rfl, rfl⟩ := xli_s h; exact xvs_c trivial (xvs_t (xvs_t hw))
  | lushr => obtain ⟨x, y, r, rfl, rfl⟩ := xli_s h; exact xvs_c trivial (xvs_t (xvs_t hw))
  | lcmp => obtain ⟨x, y, r, rfl, rfl⟩ := x2l_s h; exact xvs_c trivial (xvs_t (xvs_t hw))
  | i2l => obtain ⟨x, r, rfl, rfl⟩ := x1i_s h; exact xvs_c trivial (xvs_t hw)
  | l2i => obtain ⟨x, r, rfl, rfl⟩ := x1l_s h; exact xvs_c trivial (xvs_t hw)
  | i2b => obtain ⟨x, r, rfl, rfl⟩ := x1i_s h; exact xvs_c trivial (xvs_t hw)
  | i2s => obtain ⟨x, r, rfl, rfl⟩ := x1i_s h; exact xvs_c trivial (xvs_t hw)
  | i2c => obtain ⟨x, r, rfl, rfl⟩ := x1i_s h; exact xvs_c trivial (xvs_t hw)
  | dup =>
    unfold xpu at h; dsimp only at h
    split at h
    · split at h
      · cases h; exact xvs_c (hw _ List.mem_cons_self) hw
      · cases h
    · cases h
  | pop =>
    unfold xpu at h; dsimp only at h
    split at h
    · split at h
      · cases h; exact xvs_t hw
      · cases h
    · cases h
  | dup_x1 =>
    unfold xpu at h; dsimp only at h
    split at h
    · split at h
      · cases h; exact xvs_c (hw _ List.mem_cons_self) (xvs_c (hw _ (List.mem_cons_of_mem _ List.mem_cons_self)) (xvs_c (hw _ List.mem_cons_self) (xvs_t (xvs_t hw))))
      · cases h
    · cases h
  | dup2 =>
    unfold xpu at h; dsimp only at h
    split at h
    · split at h
      · cases h; exact xvs_c (hw _ List.mem_cons_self) (xvs_c (hw _ (List.mem_cons_of_mem _ List.mem_cons_self)) hw)
      · cases h
    · cases h
  | _ => cases h
section XPU
variable {p : Program} {l : Launch} {e : Env} {R : Room} {s : State} {m : MethodId} {args : Array Value} {below : List Frame} {meth : Method} {c : Code} {H : Heap} {locs : List Loc} {cells slots : Nat} {Q : State → Prop}
variable {cc : ByteArray} {pc : Nat} {ls : Array Slot}
theorem xpu_sim (hx : p.tables.exec = Jvm.exec) (hb : c.code = cc) {ad η : Nat → Nat} {i : Instr} {st st' : List Value} (h : xpu i st = some st') (hd : decode cc pc = .ok (i, xln i))
    (k : W p l e R s m args below meth c H locs cells slots Q (F0 m (pc + xln i) ls (st'.map (xc ad η)))) : W p l e R s m args below meth c H locs cells slots Q (F0 m pc ls (st.map (xc ad η))) := by
  cases i with
  | aconst_null => cases h; exact lv_null hx hb hd k
  | iconst n => cases h; exact lv_iconst hx hb hd rfl k
  | bipush n => cases h; exact lv_bipush hx hb hd rfl k
  | sipush n => cases h; exact lv_sipush hx hb hd rfl k
  | lconst n => cases h; exact lv_lconst hx hb hd rfl k
  | iadd => obtain ⟨x, y, r, rfl, rfl⟩ := x2i_s h; exact lv_iadd hx hb hd k
  | isub => obtain ⟨x, y, r, rfl, rfl⟩ := x2i_s h; exact lv_isub hx hb hd k
  | imul => obtain ⟨x, y, r, rfl, rfl⟩ := x2i_s h; exact lv_imul hx hb hd k
  | iand => obtain ⟨x, y, r, rfl, rfl⟩ := x2i_s h; exact lv_iand hx hb hd k
  | ior => obtain ⟨x, y, r, rfl, rfl⟩ := x2i_s h; exact lv_ior hx hb hd k
  | ixor => obtain ⟨x, y, r, rfl, rfl⟩ := x2i_s h; exact lv_ixor hx hb hd k
  | ishl => obtain ⟨x, y, r, rfl, rfl⟩ := x2i_s h; exact lv_ishl hx hb hd k
  | ishr => obtain ⟨x, y, r, rfl, rfl⟩ := x2i_s h; exact lv_ishr hx hb hd k
  | iushr => obtain ⟨x, y, r, rfl, rfl⟩ := x2i_s h; exact lv_iushr hx hb hd rfl k
  | idiv =>
    unfold xpu at h; dsimp only at h
    split at h
    · split at h
      · cases h
      · rename_i h0; cases h; exact lv_idiv hx hb hd h0 k
    · cases h
  | irem =>
    unfold xpu at h; dsimp only at h
    split at h
    · split at h
      · cases h
      · rename_i h0; cases h; exact lv_irem hx hb hd h0 k
    · cases h
  | ineg => obtain ⟨x, r, rfl, rfl⟩ := x1i_s h; exact lv_ineg hx hb hd k
  | ladd => obtain ⟨x, y, r, rfl, rfl⟩ := x2l_s h; exact lv_ladd hx hb hd k
  | lsub => obtain ⟨x, y, r, rfl, rfl⟩ := x2l_s h; exact lv_lsub hx hb hd k
  | lmul => obtain ⟨x, y, r, rfl, rfl⟩ := x2l_s h; exact lv_lmul hx hb hd k
  | land => obtain ⟨x, y, r, rfl, rfl⟩ := x2l_s h; exact lv_land hx hb hd k
  | lor => obtain ⟨x, y, r, rfl, rfl⟩ := x2l_s h; exact lv_lor hx hb hd k
  | lxor => obtain ⟨x, y, r, rfl, rfl⟩ := x2l_s h; exact lv_lxor hx hb hd k
  | lneg => obtain ⟨x, r, rfl, rfl⟩ := x1l_s h; exact lv_lneg hx hb hd k
  | lshl => obtain ⟨x, y, r, rfl, rfl⟩ := xli_s h; exact lv_lshl hx hb hd rfl k
  | lshr => obtain ⟨x, y, r, rfl, rfl⟩ := xli_s h; exact lv_lshr hx hb hd rfl k
  | lushr => obtain ⟨x, y, r, rfl, rfl⟩ := xli_s h; exact lv_lushr hx hb hd rfl k
  | lcmp => obtain ⟨x, y, r, rfl, rfl⟩ := x2l_s h; exact W.lcmp hx hb hd k
  | i2l => obtain ⟨x, r, rfl, rfl⟩ := x1i_s h; exact lv_i2l hx hb hd rfl k
  | l2i => obtain ⟨x, r, rfl, rfl⟩ := x1l_s h; exact lv_l2i hx hb hd rfl k
  | i2b => obtain ⟨x, r, rfl, rfl⟩ := x1i_s h; exact lv_i2b hx hb hd rfl k
  | i2s => obtain ⟨x, r, rfl, rfl⟩ := x1i_s h; exact lv_i2s hx hb hd rfl k
  | i2c => obtain ⟨x, r, rfl, rfl⟩ := x1i_s h; exact lv_i2c hx hb hd rfl k
  | dup =>
    unfold xpu at h; dsimp only at h
    split at h
    · split at h
      · rename_i h0; cases h; exact lv_dup hx hb hd (by rw [xc_cat]; exact h0) k
      · cases h
    · cases h
  | pop =>
    unfold xpu at h; dsimp only at h
    split at h
    · split at h
      · rename_i h0; cases h; exact lv_pop hx hb hd (by rw [xc_cat]; exact h0) k
      · cases h
    · cases h
  | dup_x1 =>
    unfold xpu at h; dsimp only at h
    split at h
    · split at h
      · rename_i h0; cases h; exact lv_dup_x1 hx hb hd (by rw [xc_cat]; exact h0.1) (by rw [xc_cat]; exact h0.2) k
      · cases h
    · cases h
  | dup2 =>
    unfold xpu at h; dsimp only at h
    split at h
    · split at h
      · rename_i h0; cases h; exact lv_dup2_11 hx hb hd (by rw [xc_cat]; exact h0.1) (by rw [xc_cat]; exact h0.2) k
      · cases h
    · cases h
  | _ => cases h
end XPU
/-! locals -/
def xq (ad η : Nat → Nat) (q : Nat × Value) : Nat × Value := (q.1, xc ad η q.2)
def xlk (i : Nat) : List (Nat × Value) → Option Value
  | [] => none
  | q :: L => if q.1 = i then some q.2 else xlk i L
theorem xlk_mem {i : Nat} {v : Value} : ∀ {L : List (Nat × Value)}, xlk i L = some v → (i, v) ∈ L
  | [], h => by cases h
  | q :: L, h => by
    unfold xlk at h
    split at h
    · rename_i e
      cases h
      rw [← e]
      exact List.mem_cons_self
    · exact List.mem_cons_of_mem _ (xlk_mem h)
def xf1 (i : Nat) (q : Nat × Value) : Bool := !(q.1 == i) && !(q.1 + 1 == i && q.2.category == 2)
def xf2 (i : Nat) (q : Nat × Value) : Bool := !(q.1 == i) && (!(q.1 == i + 1) && !(q.1 + 1 == i && q.2.category == 2))
def xst1 (i : Nat) (v : Value) (L : List (Nat × Value)) : List (Nat × Value) := (i, v) :: L.filter (xf1 i)
def xst2 (i : Nat) (v : Value) (L : List (Nat × Value)) : List (Nat × Value) := (i, v) :: L.filter (xf2 i)
theorem xst1_map (ad η : Nat → Nat) (i : Nat) (v : Value) (L : List (Nat × Value)) : (i, xc ad η v) :: (L.map (xq ad η)).filter (fun q => !(q.1 == i) && !(q.1 + 1 == i && q.2.category == 2)) = (xst1 i v L).map (xq ad η) := by
  unfold xst1
  rw [List.map_cons, List.filter_map]
  refine congrArg (fun z => _ :: z) (congrArg (List.map (xq ad η)) (congrArg (fun f => List.filter f L) (funext fun q => ?_)))
  simp only [Function.comp, xq, xf1, xc_cat]
theorem xst2_map (ad η : Nat → Nat) (i : Nat) (v : Value) (L : List (Nat × Value)) : (i, xc ad η v) :: (L.map (xq ad η)).filter (fun q => !(q.1 == i) && (!(q.1 == i + 1) && !(q.1 + 1 == i && q.2.category == 2))) = (xst2 i v L).map (xq ad η) := by
  unfold xst2
  rw [List.map_cons, List.filter_map]
  refine congrArg (fun z => _ :: z) (congrArg (List.map (xq ad η)) (congrArg (fun f => List.filter f L) (funext fun q => ?_)))
  simp only [Function.comp, xq, xf2, xc_cat]
def xldi (k : Nat) (L : List (Nat × Value)) (st : List Value) : Option (List (Nat × Value) × List Value) :=
  match xlk k L with
  | some (.int x) => some (L, .int x :: st)
  | _ => none
def xldl (k : Nat) (L : List (Nat × Value)) (st : List Value) : Option (List (Nat × Value) × List Value) :=
  match xlk k L with
  | some (.long x) => some (L, .long x :: st)
  | _ => none
def xlda (k : Nat) (L : List (Nat × Value)) (st : List Value) : Option (List (Nat × Value) × List Value) :=
  match xlk k L with
  | some (.ref a) => some (L, .ref a :: st)
  | some .null => some (L, .null :: st)
  | some (.retAddr a) => some (L, .retAddr a :: st)
  | _ => none
def xsti (nL k : Nat) (L : List (Nat × Value)) (st : List Value) : Option (List (Nat × Value) × List Value) :=
  match st with
  | .int x :: r => if k < nL then some (xst1 k (.int x) L, r) else none
  | _ => none
def xstl (nL k : Nat) (L : List (Nat × Value)) (st : List Value) : Option (List (Nat × Value) × List Value) :=
  match st with
  | .long x :: r => if k + 1 < nL then some (xst2 k (.long x) L, r) else none
  | _ => none
def xsta (nL k : Nat) (L : List (Nat × Value)) (st : List Value) : Option (List (Nat × Value) × List Value) :=
  match st with
  | .ref a :: r => if k < nL then some (xst1 k (.ref a) L, r) else none
  | .null :: r => if k < nL then some (xst1 k .null L, r) else none
  | .retAddr a :: r => if k < nL then some (xst1 k (.retAddr a) L, r) else none
  | _ => none
def xinc (nL k : Nat) (n : Int) (L : List (Nat × Value)) (st : List Value) : Option (List (Nat × Value) × List Value) :=
  match xlk k L with
  | some (.int x) => if k < nL then some (xst1 k (.int (x + Int32.ofInt n)) L, st) else none
  | _ => none
/-- what reads and writes the locals -/
def xlo (nL : Nat) (i : Instr) (L : List (Nat × Value)) (st : List Value) : Option (List (Nat × Value) × List Value) :=
  match i with
  | .iload k => xldi k L st
  | .iload_n k => xldi k L st
  | .lload k => xldl k L st
  | .lload_n k => xldl k L st
  | .aload k => xlda k L st
  | .aload_n k => xlda k L st
  | .istore k => xsti nL k L st
  | .istore_n k => xsti nL k L st
  | .lstore k => xstl nL k L st
  | .lstore_n k => xstl nL k L st
  | .astore k => xsta nL k L st
  | .astore_n k => xsta nL k L st
  | .iinc k n => xinc nL k n L st
  | _ => none
theorem xldi_s {k : Nat} {L L' : List (Nat × Value)} {st st' : List Value} (h : xldi k L st = some (L', st')) : ∃ x, (k, Value.int x) ∈ L ∧ L' = L ∧ st' = .int x :: st := by
  unfold xldi at h
  split at h
  · rename_i x e; cases h; exact ⟨x, xlk_mem e, rfl, rfl⟩
  · cases h
theorem xldl_s {k : Nat} {L L' : List (Nat × Value)} {st st' : List Value} (h : xldl k L st = some (L', st')) : ∃ x, (k, Value.long x) ∈ L ∧ L' = L ∧ st' = .long x :: st := by
  unfold xldl at h
  split at h
  · rename_i x e; cases h; exact ⟨x, xlk_mem e, rfl, rfl⟩
  · cases h
theorem xlda_s {k : Nat} {L L' : List (Nat × Value)} {st st' : List Value} (h : xlda k L st = some (L', st')) : (∃ a, (k, Value.ref a) ∈ L ∧ L' = L ∧ st' = .ref a :: st) ∨ ((k, Value.null) ∈ L ∧ L' = L ∧ st' = .null :: st) ∨ (∃ a, (k, Value.retAddr a) ∈ L ∧ L' = L ∧ st' = .retAddr a :: st) := by
  unfold xlda at h
  split at h
  · rename_i x e; cases h; exact Or.inl ⟨x, xlk_mem e, rfl, rfl⟩
  · rename_i e; cases h; exact Or.inr (Or.inl ⟨xlk_mem e, rfl, rfl⟩)
  · rename_i x e; cases h; exact Or.inr (Or.inr ⟨x, xlk_mem e, rfl, rfl⟩)
  · cases h
theorem xsti_s {nL k : Nat} {L L' : List (Nat × Value)} {st st' : List Value} (h : xsti nL k L st = some (L', st')) : ∃ x, st = .int x :: st' ∧ k < nL ∧ L' = xst1 k (.int x) L := by
  unfold xsti at h
  split at h
  · split at h
    · rename_i e; cases h; exact ⟨_, rfl, e, rfl⟩
    · cases h
  · cases h
theorem xstl_s {nL k : Nat} {L L' : List (Nat × Value)} {st st' : List Value} (h : xstl nL k L st = some (L', st')) : ∃ x, st = .long x :: st' ∧ k + 1 < nL ∧ L' = xst2 k (.long x) L := by
  unfold xstl at h
  split at h
  · split at h
    · rename_i e; cases h; exact ⟨_, rfl, e, rfl⟩
    · cases h
  · cases h
theorem xsta_s {nL k : Nat} {L L' : List (Nat × Value)} {st st' : List Value} (h : xsta nL k L st = some (L', st')) : k < nL ∧ ((∃ a, st = .ref a :: st' ∧ L' = xst1 k (.ref a) L) ∨ (st = .null :: st' ∧ L' = xst1 k .null L) ∨ (∃ a, st = .retAddr a :: st' ∧ L' = xst1 k (.retAddr a) L)) := by
  unfold xsta at h
  split at h
  · split at h
    · rename_i e; cases h; exact ⟨e, Or.inl ⟨_, rfl, rfl⟩⟩
    · cases h
  · split at h
    · rename_i e; cases h; exact ⟨e, Or.inr (Or.inl ⟨rfl, rfl⟩)⟩
    · cases h
  · split at h
    · rename_i e; cases h; exact ⟨e, Or.inr (Or.inr ⟨_, rfl, rfl⟩)⟩
    · cases h
  · cases h
theorem xinc_s {nL k : Nat} {n : Int} {L L' : List (Nat × Value)} {st st' : List Value} (h : xinc nL k n L st = some (L', st')) : ∃ x, (k, Value.int x) ∈ L ∧ k < nL ∧ L' = xst1 k (.int (x + Int32.ofInt n)) L ∧ st' = st := by
  unfold xinc at h
  split at h
  · rename_i x e
    split at h
    · rename_i e2; cases h; exact ⟨x, xlk_mem e, e2, rfl, rfl⟩
    · cases h
  · cases h
/-- a list of locals whose handles are below n -/
def xwl (n : Nat) (L : List (Nat × Value)) : Prop := ∀ q ∈ L, xv n q.2
theorem xwl_1 {n i : Nat} {v : Value} {L : List (Nat × Value)} (hv : xv n v) (h : xwl n L) : xwl n (xst1 i v L) := fun q hq => (List.mem_cons.mp hq).elim (fun e => by rw [e]; exact hv) (fun z => h q (List.mem_filter.mp z).1)
theorem xwl_2 {n i : Nat} {v : Value} {L : List (Nat × Value)} (hv : xv n v) (h : xwl n L) : xwl n (xst2 i v L) := fun q hq => (List.mem_cons.mp hq).elim (fun e => by rw [e]; exact hv) (fun z => h q (List.mem_filter.mp z).1)
theorem xlo_wf {n nL : Nat} {i : Instr} {L L' : List (Nat × Value)} {st st' : List Value} (h : xlo nL i L st = some (L', st')) (hL : xwl n L) (hw : ∀ v ∈ st, xv n v) : xwl n L' ∧ ∀ v ∈ st', xv n v := by
  have a1 : ∀ {k : Nat}, xldi k L st = some (L', st') → xwl n L' ∧ ∀ v ∈ st', xv n v := fun h => by
    obtain ⟨x, -, rfl, rfl⟩ := xldi_s h; exact ⟨hL, xvs_c trivial hw⟩
  have a2 : ∀ {k : Nat}, xldl k L st = some (L', st') → xwl n L' ∧ ∀ v ∈ st', xv n v := fun h => by
    obtain ⟨x, -, rfl, rfl⟩ := xldl_s h; exact ⟨hL, xvs_c trivial hw⟩
  have a3 : ∀ {k : Nat}, xlda k L st = some (L', st') → xwl n L' ∧ ∀ v ∈ st', xv n v := fun h => by
    rcases xlda_s h with ⟨x, hm, rfl, rfl⟩ | ⟨-, rfl, rfl⟩ | ⟨x, -, rfl, rfl⟩
    · exact ⟨hL, xvs_c (hL _ hm) hw⟩
    · exact ⟨hL, xvs_c trivial hw⟩
    · exact ⟨hL, xvs_c trivial hw⟩
  have a4 : ∀ {k : Nat}, xsti nL k L st = some (L', st') → xwl n L' ∧ ∀ v ∈ st', xv n v := fun h => by
    obtain ⟨x, rfl, -, rfl⟩ := xsti_s h; exact ⟨xwl_1 trivial hL, xvs_t hw⟩
  have a5 : ∀ {k : Nat}, xstl nL k L st = some (L', st') → xwl n L' ∧ ∀ v ∈ st', xv n v := fun h => by
    obtain ⟨x, rfl, -, rfl⟩ := xstl_s h; exact ⟨xwl_2 trivial hL, xvs_t hw⟩
  have a6 : ∀ {k : Nat}, xsta nL k L st = some (L', st') → xwl n L' ∧ ∀ v ∈ st', xv n v := fun h => by
    rcases xsta_s h with ⟨-, ⟨x, rfl, rfl⟩ | ⟨rfl, rfl⟩ | ⟨x, rfl, rfl⟩⟩
    · exact ⟨xwl_1 (hw _ List.mem_cons_self) hL, xvs_t hw⟩
    · exact ⟨xwl_1 trivial hL, xvs_t hw⟩
    · exact ⟨xwl_1 trivial hL, xvs_t hw⟩
  cases i with
  | iload k => exact a1 h
  | iload_n k => exact a1 h
  | lload k => exact a2 h
  | lload_n k => exact a2 h
  | aload k => exact a3 h
  | aload_n k => exact a3 h
  | istore k => exact a4 h
  | istore_n k => exact a4 h
  | lstore k => exact a5 h
  | lstore_n k => exact a5 h
  | astore k => exact a6 h
  | astore_n k => exact a6 h
  | iinc k n =>
    obtain ⟨x, -, -, rfl, rfl⟩ := xinc_s h
    exact ⟨xwl_1 trivial hL, hw⟩
  | _ => cases h
section XLO
variable {p : Program} {l : Launch} {e : Env} {R : Room} {s : State} {m : MethodId} {args : Array Value} {below : List Frame} {meth : Method} {c : Code} {H : Heap} {locs : List Loc} {cells slots : Nat} {Q : State → Prop}
variable {cc : ByteArray} {pc : Nat} {ls : Array Slot}
theorem xlo_at {ad η : Nat → Nat} {nL k : Nat} {v : Value} {L : List (Nat × Value)} (hl : lv_has ls nL (L.map (xq ad η))) (hm : (k, v) ∈ L) : ls[k]? = some (.val (xc ad η v)) := hl.2.2 (xq ad η (k, v)) (List.mem_map_of_mem hm)
theorem xlo_sim (hx : p.tables.exec = Jvm.exec) (hb : c.code = cc) {ad η : Nat → Nat} {nL : Nat} {i : Instr} {L L' : List (Nat × Value)} {st st' : List Value} (h : xlo nL i L st = some (L', st')) (hd : decode cc pc = .ok (i, xln i)) (hl : lv_has ls nL (L.map (xq ad η)))
    (k : ∀ ls' : Array Slot, lv_has ls' nL (L'.map (xq ad η)) → W p l e R s m args below meth c H locs cells slots Q (F0 m (pc + xln i) ls' (st'.map (xc ad η)))) : W p l e R s m args below meth c H locs cells slots Q (F0 m pc ls (st.map (xc ad η))) := by
  cases i with
  | iload k9 => obtain ⟨x, hm, rfl, rfl⟩ := xldi_s h; exact lv_iload hx hb hd (xlo_at hl hm) (k ls hl)
  | iload_n k9 => obtain ⟨x, hm, rfl, rfl⟩ := xldi_s h; exact lv_iload_n hx hb hd rfl (xlo_at hl hm) (k ls hl)
  | lload k9 => obtain ⟨x, hm, rfl, rfl⟩ := xldl_s h; exact lv_lload hx hb hd (xlo_at hl hm) (k ls hl)
  | lload_n k9 => obtain ⟨x, hm, rfl, rfl⟩ := xldl_s h; exact lv_lload_n hx hb hd rfl (xlo_at hl hm) (k ls hl)
  | aload k9 =>
    rcases xlda_s h with ⟨x, hm, rfl, rfl⟩ | ⟨hm, rfl, rfl⟩ | ⟨x, hm, rfl, rfl⟩
    · exact lv_aload hx hb hd (xlo_at hl hm) (k ls hl)
    · exact lv_aloadN hx hb hd (xlo_at hl hm) (k ls hl)
    · exact lv_aload hx hb hd (xlo_at hl hm) (k ls hl)
  | aload_n k9 =>
    rcases xlda_s h with ⟨x, hm, rfl, rfl⟩ | ⟨hm, rfl, rfl⟩ | ⟨x, hm, rfl, rfl⟩
    · exact lv_aload_n hx hb hd rfl (xlo_at hl hm) (k ls hl)
    · exact lv_aload_nN hx hb hd rfl (xlo_at hl hm) (k ls hl)
    · exact lv_aload_n hx hb hd rfl (xlo_at hl hm) (k ls hl)
  | istore k9 => obtain ⟨x, rfl, hn, rfl⟩ := xsti_s h; exact lv_istore hx hb hd hl hn (xst1_map ad η k9 (.int x) L) k
  | istore_n k9 => obtain ⟨x, rfl, hn, rfl⟩ := xsti_s h; exact lv_istore_n hx hb hd rfl hl hn (xst1_map ad η k9 (.int x) L) k
  | lstore k9 => obtain ⟨x, rfl, hn, rfl⟩ := xstl_s h; exact lv_lstore hx hb hd hl hn (xst2_map ad η k9 (.long x) L) k
  | lstore_n k9 => obtain ⟨x, rfl, hn, rfl⟩ := xstl_s h; exact lv_lstore_n hx hb hd rfl hl hn (xst2_map ad η k9 (.long x) L) k
  | astore k9 =>
    rcases xsta_s h with ⟨hn, ⟨x, rfl, rfl⟩ | ⟨rfl, rfl⟩ | ⟨x, rfl, rfl⟩⟩
    · exact lv_astore hx hb hd hl hn (xst1_map ad η k9 (.ref x) L) k
    · exact lv_astoreN hx hb hd hl hn (xst1_map ad η k9 .null L) k
    · exact lv_astore hx hb hd hl hn (xst1_map ad η k9 (.retAddr x) L) k
  | astore_n k9 =>
    rcases xsta_s h with ⟨hn, ⟨x, rfl, rfl⟩ | ⟨rfl, rfl⟩ | ⟨x, rfl, rfl⟩⟩
    · exact lv_astore_n hx hb hd rfl hl hn (xst1_map ad η k9 (.ref x) L) k
    · exact lv_astore_nN hx hb hd rfl hl hn (xst1_map ad η k9 .null L) k
    · exact lv_astore_n hx hb hd rfl hl hn (xst1_map ad η k9 (.retAddr x) L) k
  | iinc k9 n9 =>
    obtain ⟨x, hm, hn, rfl, rfl⟩ := xinc_s h
    obtain ⟨j, hj⟩ := List.getElem?_of_mem hm
    exact lv_iinc (k := j) hx hb hd hl (by rw [List.getElem?_map, hj]; rfl) rfl hn (xst1_map ad η k9 (.int (x + Int32.ofInt n9)) L) k
  | _ => cases h
end XLO
/-! branches -/
def xsw : Instr → Bool
  | .tableswitch _ _ _ _ => true
  | .lookupswitch _ _ => true
  | _ => false
def xcm (o : ClassFile.Cond) (x y : Int32) : Bool :=
  match o with
  | .eq => decide (x = y)
  | .ne => decide (¬ x = y)
  | .lt => decide (x < y)
  | .ge => decide (y ≤ x)
  | .gt => decide (y < x)
  | .le => decide (x ≤ y)
def xtg (pc : Nat) (t : Bool) (off : Int) (st : List Value) : Option (Nat × List Value) :=
  if 0 ≤ (pc : Int) + off then some (if t = true then ((pc : Int) + off).toNat else pc + 3, st) else none
def xtj (pc : Nat) (off : Int) (st : List Value) : Option (Nat × List Value) :=
  if 0 ≤ (pc : Int) + off then some (((pc : Int) + off).toNat, st) else none
/-- where it goes on, and with what stack -/
def xbr (pc : Nat) (i : Instr) (st : List Value) : Option (Nat × List Value) :=
  match i with
  | .goto off => xtj pc off st
  | .ifCond o off => match st with
    | .int x :: r => xtg pc (xcm o x 0) off r
    | _ => none
  | .if_icmp o off => match st with
    | .int y :: .int x :: r => xtg pc (xcm o x y) off r
    | _ => none
  | .ifnull off => match st with
    | .null :: r => xtj pc off r
    | .ref _ :: r => some (pc + 3, r)
    | .retAddr _ :: r => some (pc + 3, r)
    | _ => none
  | .ifnonnull off => match st with
    | .null :: r => some (pc + 3, r)
    | .ref _ :: r => xtj pc off r
    | .retAddr _ :: r => xtj pc off r
    | _ => none
  | .tableswitch d lo hi offs => match st with
    | .int x :: r => if x.toInt < lo ∨ hi < x.toInt then xtj pc d r else match offs[(x.toInt - lo).toNat]? with
      | some o => xtj pc o r
      | none => none
    | _ => none
  | .lookupswitch d ps => match st with
    | .int x :: r => if (ps.toList.zip (ps.toList.drop 1)).all (fun (a, next) => a.1 < next.1) = true then xtj pc (Op.lookupswitch.offset ps.toList d x.toInt) r else none
    | _ => none
  | _ => none
theorem xtg_s {pc pc' : Nat} {t : Bool} {off : Int} {st st' : List Value} (h : xtg pc t off st = some (pc', st')) : ∃ tgt : Nat, (pc : Int) + off = (tgt : Int) ∧ pc' = (if t = true then tgt else pc + 3) ∧ st' = st := by
  unfold xtg at h
  split at h
  · rename_i e; cases h; exact ⟨_, (Int.toNat_of_nonneg e).symm, rfl, rfl⟩
  · cases h
theorem xtj_s {pc pc' : Nat} {off : Int} {st st' : List Value} (h : xtj pc off st = some (pc', st')) : (pc : Int) + off = (pc' : Int) ∧ st' = st := by
  unfold xtj at h
  split at h
  · rename_i e; cases h; exact ⟨(Int.toNat_of_nonneg e).symm, rfl⟩
  · cases h
theorem xbr_wf {n pc pc' : Nat} {i : Instr} {st st' : List Value} (h : xbr pc i st = some (pc', st')) (hw : ∀ v ∈ st, xv n v) : ∀ v ∈ st', xv n v := by
  cases i with
  | goto off => rw [(xtj_s h).2]; exact hw
  | ifCond o off =>
    unfold xbr at h; dsimp only at h
    split at h
    · obtain ⟨_, _, _, rfl⟩ := xtg_s h; exact xvs_t hw
    · cases h
  | if_icmp o off =>
    unfold xbr at h; dsimp only at h
    split at h
    · obtain ⟨_, _, _, rfl⟩ := xtg_s h; exact xvs_t (xvs_t hw)
    · cases h
  | ifnull off =>
    unfold xbr at h; dsimp only at h
    split at h
    · rw [(xtj_s h).2]; exact xvs_t hw
    · cases h; exact xvs_t hw
    · cases h; exact xvs_t hw
    · cases h
  | ifnonnull off =>
    unfold xbr at h; dsimp only at h
    split at h
    · cases h; exact xvs_t hw
    · rw [(xtj_s h).2]; exact xvs_t hw
    · rw [(xtj_s h).2]; exact xvs_t hw
    · cases h
  | tableswitch d lo hi offs =>
    unfold xbr at h; dsimp only at h
    split at h
    · split at h
      · rw [(xtj_s h).2]; exact xvs_t hw
      · split at h
        · rw [(xtj_s h).2]; exact xvs_t hw
        · cases h
    · cases h
  | lookupswitch d ps =>
    unfold xbr at h; dsimp only at h
    split at h
    · split at h
      · rw [(xtj_s h).2]; exact xvs_t hw
      · cases h
    · cases h
  | _ => cases h
section XBR
variable {p : Program} {l : Launch} {e : Env} {R : Room} {s : State} {m : MethodId} {args : Array Value} {below : List Frame} {meth : Method} {c : Code} {H : Heap} {locs : List Loc} {cells slots : Nat} {Q : State → Prop}
variable {cc : ByteArray} {pc : Nat} {ls : Array Slot}
theorem xtg_k {P : Prop} [Decidable P] {tgt : Nat} {st : List Value} (k : W p l e R s m args below meth c H locs cells slots Q (F0 m (if decide P = true then tgt else pc + 3) ls st)) :
    (P → W p l e R s m args below meth c H locs cells slots Q (F0 m tgt ls st)) ∧ (¬ P → W p l e R s m args below meth c H locs cells slots Q (F0 m (pc + 3) ls st)) :=
  ⟨fun z => by rw [if_pos (decide_eq_true z)] at k; exact k, fun z => by rw [if_neg (fun y => z (of_decide_eq_true y))] at k; exact k⟩
theorem xbr_icm (hx : p.tables.exec = Jvm.exec) (hb : c.code = cc) {o : ClassFile.Cond} {off : Int} {x y : Int32} {r : List Value} {tgt : Nat} (ht : (pc : Int) + off = (tgt : Int)) (hd : decode cc pc = .ok (.if_icmp o off, 3))
    (k : W p l e R s m args below meth c H locs cells slots Q (F0 m (if xcm o x y = true then tgt else pc + 3) ls r)) : W p l e R s m args below meth c H locs cells slots Q (F0 m pc ls (.int y :: .int x :: r)) := by
  cases o with
  | eq => exact lv_icmp_eq hx hb hd ht (xtg_k k).1 (xtg_k k).2
  | ne => exact lv_icmp_ne hx hb hd ht (xtg_k k).1 (fun z => (xtg_k k).2 (fun q => q z))
  | lt => exact lv_icmp_lt hx hb hd ht (xtg_k k).1 (xtg_k k).2
  | ge => exact lv_icmp_ge hx hb hd ht (xtg_k k).1 (xtg_k k).2
  | gt => exact lv_icmp_gt hx hb hd ht (xtg_k k).1 (xtg_k k).2
  | le => exact lv_icmp_le hx hb hd ht (xtg_k k).1 (xtg_k k).2
theorem xbr_ifc (hx : p.tables.exec = Jvm.exec) (hb : c.code = cc) {o : ClassFile.Cond} {off : Int} {x : Int32} {r : List Value} {tgt : Nat} (ht : (pc : Int) + off = (tgt : Int)) (hd : decode cc pc = .ok (.ifCond o off, 3))
    (k : W p l e R s m args below meth c H locs cells slots Q (F0 m (if xcm o x 0 = true then tgt else pc + 3) ls r)) : W p l e R s m args below meth c H locs cells slots Q (F0 m pc ls (.int x :: r)) := by
  cases o with
  | eq => exact lv_if_eq hx hb hd ht (xtg_k k).1 (xtg_k k).2
  | ne => exact lv_if_ne hx hb hd ht (xtg_k k).1 (fun z => (xtg_k k).2 (fun q => q z))
  | lt => exact lv_if_lt hx hb hd ht (xtg_k k).1 (xtg_k k).2
  | ge => exact lv_if_ge hx hb hd ht (xtg_k k).1 (xtg_k k).2
  | gt => exact lv_if_gt hx hb hd ht (xtg_k k).1 (xtg_k k).2
  | le => exact lv_if_le hx hb hd ht (xtg_k k).1 (xtg_k k).2
theorem xbr_sim (hx : p.tables.exec = Jvm.exec) (hb : c.code = cc) {ad η : Nat → Nat} {i : Instr} {len pc' : Nat} {st st' : List Value} (h : xbr pc i st = some (pc', st')) (hd : decode cc pc = .ok (i, len)) (hlen : xsw i = true ∨ len = 3)
    (k : W p l e R s m args below meth c H locs cells slots Q (F0 m pc' ls (st'.map (xc ad η)))) : W p l e R s m args below meth c H locs cells slots Q (F0 m pc ls (st.map (xc ad η))) := by
  cases i with
  | goto off =>
    obtain ⟨ht, rfl⟩ := xtj_s h
    obtain rfl : len = 3 := hlen.resolve_left (fun q => by cases q)
    exact lv_goto hx hb hd ht k
  | ifCond o off =>
    obtain rfl : len = 3 := hlen.resolve_left (fun q => by cases q)
    unfold xbr at h; dsimp only at h
    split at h
    · obtain ⟨tgt, ht, rfl, rfl⟩ := xtg_s h
      exact xbr_ifc hx hb ht hd k
    · cases h
  | if_icmp o off =>
    obtain rfl : len = 3 := hlen.resolve_left (fun q => by cases q)
    unfold xbr at h; dsimp only at h
    split at h
    · obtain ⟨tgt, ht, rfl, rfl⟩ := xtg_s h
      exact xbr_icm hx hb ht hd k
    · cases h
  | ifnull off =>
    obtain rfl : len = 3 := hlen.resolve_left (fun q => by cases q)
    unfold xbr at h; dsimp only at h
    split at h
    · obtain ⟨ht, rfl⟩ := xtj_s h
      exact lv_ifnullN hx hb hd ht k
    · cases h
      exact lv_ifnull hx hb hd k
    · cases h
      exact lv_ifnull hx hb hd k
    · cases h
  | ifnonnull off =>
    obtain rfl : len = 3 := hlen.resolve_left (fun q => by cases q)
    unfold xbr at h; dsimp only at h
    split at h
    · cases h
      exact lv_ifnonnullN hx hb hd k
    · obtain ⟨ht, rfl⟩ := xtj_s h
      exact lv_ifnonnull hx hb hd ht k
    · obtain ⟨ht, rfl⟩ := xtj_s h
      exact lv_ifnonnull hx hb hd ht k
    · cases h
  | tableswitch d lo hi offs =>
    unfold xbr at h; dsimp only at h
    split at h
    · split at h
      · rename_i h1
        obtain ⟨ht, rfl⟩ := xtj_s h
        exact lv_tableOut hx hb hd h1 ht k
      · rename_i h1
        split at h
        · rename_i o ho
          obtain ⟨ht, rfl⟩ := xtj_s h
          exact lv_tableIn hx hb hd (fun z => h1 (Or.inl z)) (fun z => h1 (Or.inr z)) ho ht k
        · cases h
    · cases h
  | lookupswitch d ps =>
    unfold xbr at h; dsimp only at h
    split at h
    · split at h
      · rename_i h1
        obtain ⟨ht, rfl⟩ := xtj_s h
        exact lv_lookup hx hb hd h1 rfl ht k
      · cases h
    · cases h
  | _ => cases h
end XBR
