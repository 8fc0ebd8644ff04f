/-! the tables' words that stay true in every later state of the machine -/
def xgw (w : Cond) : Bool := goodWord w || (match w with
  | .fieldLinkNest .. => true
  | .methodLinkNest .. => true
  | .castable .. => true
  | .declares _ => true
  | .arrayOver t => (match t with
    | .object _ => true
    | _ => false)
  | _ => false)
theorem xgw_s {w : Cond} (h : xgw w = true) {a a' : Array Value} {u U : State} (hb : w.before a u = true) (hW : u.WarmedH U.vm) : w.before a' U = true := by
  unfold xgw at h
  rcases Bool.or_eq_true_iff.mp h with h | h
  · exact word_at hW (good_of_word h) hb
  · split at h
    · exact va_Nw.use rfl (va_Nw.warmF hW (va_Nw.of rfl hb))
    · exact va_Nw.use rfl (va_Nw.warmM hW (va_Nw.of rfl hb))
    · exact va_Nw.use rfl (va_Nw.warmC hW (va_Nw.of rfl hb))
    · rename_i x h9
      have h1 : (Cond.declares x).before a (u.setVm U.vm) = true := by
        rw [Cond.declares_setVm hW.alike]
        exact hb
      exact va_tabs rfl (rfl : (u.setVm U.vm).vm = U.vm) h1
    · split at h
      · exact va_AO.use (va_AO.moved hW.alike (va_AO.of hb))
      · cases h
    · cases h
/-- private methods of AbstractStringBuilder, called on a StringBuilder: they are chosen themselves -/
def xsbN : List MethodName := [⟨"java/lang/AbstractStringBuilder", "appendNull", "()Ljava/lang/AbstractStringBuilder;"⟩, ⟨"java/lang/AbstractStringBuilder", "ensureCapacityInternal", "(I)V"⟩, ⟨"java/lang/AbstractStringBuilder", "newCapacity", "(I)I"⟩, ⟨"java/lang/AbstractStringBuilder", "putStringAt", "(ILjava/lang/String;)V"⟩, ⟨"java/lang/AbstractStringBuilder", "inflateIfNeededFor", "(Ljava/lang/String;)V"⟩, ⟨"java/lang/AbstractStringBuilder", "inflate", "()V"⟩]
def xsb : List Cond := xsbN.map (fun y => Cond.selects "java/lang/StringBuilder" y y)
def xTB : List Cond := (xsb ++ lw_tbl).filter xgw
theorem xTB_w : ∀ w ∈ xTB, ∀ (a a' : Array Value) (u U : State), w.before a u = true → u.WarmedH U.vm → w.before a' U = true := fun w hw a a' u U hb hW => xgw_s (List.mem_filter.mp hw).2 hb hW
theorem tm (i : Nat) {w : Cond} (h : lw_tbl[i]? = some w) (hg : xgw w = true) : w ∈ xTB := List.mem_filter.mpr ⟨List.mem_append_right _ (List.mem_of_getElem? h), hg⟩
theorem tz (i : Nat) {w : Cond} (h : xsb[i]? = some w) (hg : xgw w = true) : w ∈ xTB := List.mem_filter.mpr ⟨List.mem_append_left _ (List.mem_of_getElem? h), hg⟩
/-! tables as trees -/
def xnode (k : Nat) (g h : Nat → Option XI) : Nat → Option XI := fun pc => cond (Nat.blt pc k) (g pc) (h pc)
def xleaf (p : Nat) (e : XI) : Nat → Option XI := fun pc => cond (Nat.beq pc p) (some e) none
theorem xnode_ok {R : Nat → XI → Prop} {k : Nat} {g h : Nat → Option XI} (h1 : ∀ pc e, g pc = some e → R pc e) (h2 : ∀ pc e, h pc = some e → R pc e) : ∀ pc e, xnode k g h pc = some e → R pc e := fun pc e he => by
  unfold xnode at he
  cases hb : Nat.blt pc k with
  | true => rw [hb] at he; exact h1 pc e he
  | false => rw [hb] at he; exact h2 pc e he
theorem xleaf_ok {R : Nat → XI → Prop} {p : Nat} {e0 : XI} (h : R p e0) : ∀ pc e, xleaf p e0 pc = some e → R pc e := fun pc e he => by
  unfold xleaf at he
  cases hb : Nat.beq pc p with
  | true =>
    rw [hb] at he
    cases he
    rw [Nat.eq_of_beq_eq_true hb]
    exact h
  | false => rw [hb] at he; cases he
def xmnode (k : Nat) (g h : Nat → XM) : Nat → XM := fun y => cond (Nat.blt y k) (g y) (h y)
theorem xmnode_ok {P : XM → Prop} {k : Nat} {g h : Nat → XM} (h1 : ∀ y, P (g y)) (h2 : ∀ y, P (h y)) : ∀ y, P (xmnode k g h y) := fun y => by
  unfold xmnode
  cases Nat.blt y k with
  | true => exact h1 y
  | false => exact h2 y
def xmnone : XM := ("", ⟨"", "", ""⟩, ⟨#[]⟩, 0, none, [], [], fun _ => none)
def xmleaf (k : Nat) (q : XM) : Nat → XM := fun y => cond (Nat.beq y k) q xmnone
theorem xmleaf_ok {P : XM → Prop} {k : Nat} {q : XM} (h : P q) (h0 : P xmnone) : ∀ y, P (xmleaf k q y) := fun y => by
  unfold xmleaf
  cases Nat.beq y k with
  | true => exact h
  | false => exact h0
