/-! runs of the law's methods over the abstract machine: a step at a time, backwards -/
/-- from here the run comes to an end of which Q holds -/
def At (S : List Int32) (d y pc : Nat) (L : List (Nat × Value)) (st : List Value) (hp : List XC) (nc ns : Nat) (Q : XO → Prop) : Prop := ∃ n o, xrun (xZ S) xMT n d y pc L st hp nc ns = some o ∧ Q o
/-- a method that leaves the heap as it was: its answer -/
def Pu (S : List Int32) (d y : Nat) (as : List Value) (hp : List XC) (v : Value) : Prop := At S d y 0 (lv_args 0 as) [] hp 0 0 (fun o => o = .inl (some v, hp, 0, 0))
/-- a method's answer, heap, cells and slots -/
def Me (S : List Int32) (d y : Nat) (as : List Value) (hp : List XC) (R : Option Value → List XC → Nat → Nat → Prop) : Prop := At S d y 0 (lv_args 0 as) [] hp 0 0 (fun o => ∃ v hp' c s, o = .inl (v, hp', c, s) ∧ R v hp' c s)
/-- a method that throws -/
def Th (S : List Int32) (d y : Nat) (as : List Value) (hp : List XC) (E : Nat) (R : List XC → Nat → Nat → Prop) : Prop := At S d y 0 (lv_args 0 as) [] hp 0 0 (fun o => ∃ hp' c s, o = .inr (E, hp', c, s) ∧ R hp' c s)
def xps1 (q : XM) (e : XI) (pc : Nat) (L : List (Nat × Value)) (st : List Value) : Option (Nat × List (Nat × Value) × List Value) :=
  match e.1 with
  | 0 => (xpu e.2.1 st).map (fun r => (pc + xln e.2.1, L, r))
  | 1 => (xlo (xmL q) e.2.1 L st).map (fun r => (pc + xln e.2.1, r.1, r.2))
  | 2 => (xbr pc e.2.1 st).map (fun r => (r.1, L, r.2))
  | 6 => some (pc + 3, L, e.2.2.2.2.1 :: st)
  | 7 => some (pc + xln e.2.1, L, e.2.2.2.2.1 :: st)
  | 8 => some (pc + xln e.2.1, L, e.2.2.2.2.1 :: st)
  | _ => none
/-- so many steps that touch neither heap nor other methods -/
def xps (q : XM) : Nat → Nat → List (Nat × Value) → List Value → Option (Nat × List (Nat × Value) × List Value)
  | 0, pc, L, st => some (pc, L, st)
  | k + 1, pc, L, st => match xmC q pc with
    | some e => match xps1 q e pc L st with
      | some g => xps q k g.1 g.2.1 g.2.2
      | none => none
    | none => none
section XAT
variable {S : List Int32} {d Y pc : Nat} {L : List (Nat × Value)} {st : List Value} {hp : List XC} {nc ns : Nat} {Q : XO → Prop}
theorem At.low {e : XI} {g : XG} (hC : xmC (xMT Y) pc = some e) (he : e.1 < 20) (hg : xstep (xZ S) (xmL (xMT Y)) e pc L st hp = some g) (kk : At S d Y g.1 g.2.1 g.2.2.1 g.2.2.2.1 (nc + g.2.2.2.2.1) (ns + g.2.2.2.2.2) Q) : At S d Y pc L st hp nc ns Q := by
  obtain ⟨n, o, h, hq⟩ := kk
  refine ⟨n + 1, o, ?_, hq⟩
  rw [xrun, hC]
  dsimp only
  rw [if_pos he, hg]
  exact h
theorem xps1_s {q : XM} {e : XI} {g : Nat × List (Nat × Value) × List Value} (h : xps1 q e pc L st = some g) : e.1 < 20 ∧ xstep (xZ S) (xmL q) e pc L st hp = some (g.1, g.2.1, g.2.2, hp, 0, 0) := by
  obtain ⟨k, i, a, b, v, xs⟩ := e
  unfold xps1 at h
  dsimp only at h
  split at h
  · obtain ⟨r, hr, rfl⟩ := Option.map_eq_some_iff.mp h
    exact ⟨Nat.le_of_ble_eq_true rfl, by unfold xstep; dsimp only; rw [hr]; rfl⟩
  · obtain ⟨r, hr, rfl⟩ := Option.map_eq_some_iff.mp h
    exact ⟨Nat.le_of_ble_eq_true rfl, by unfold xstep; dsimp only; rw [hr]; rfl⟩
  · obtain ⟨r, hr, rfl⟩ := Option.map_eq_some_iff.mp h
    exact ⟨Nat.le_of_ble_eq_true rfl, by unfold xstep; dsimp only; rw [hr]; rfl⟩
  · cases h; exact ⟨Nat.le_of_ble_eq_true rfl, rfl⟩
  · cases h; exact ⟨Nat.le_of_ble_eq_true rfl, rfl⟩
  · cases h; exact ⟨Nat.le_of_ble_eq_true rfl, rfl⟩
  · cases h
theorem At.stepsq {q : XM} (hq : xMT Y = q) : ∀ (k : Nat) {pc pc' : Nat} {L L' : List (Nat × Value)} {st st' : List Value}, xps q k pc L st = some (pc', L', st') → At S d Y pc' L' st' hp nc ns Q → At S d Y pc L st hp nc ns Q := by
  intro k
  induction k with
  | zero => intro pc pc' L L' st st' h kk; cases h; exact kk
  | succ k ih =>
    intro pc pc' L L' st st' h kk
    unfold xps at h
    split at h
    · rename_i e hC
      split at h
      · rename_i g hg
        obtain ⟨h1, h2⟩ := xps1_s (S := S) (hp := hp) hg
        exact At.low (by rw [hq]; exact hC) h1 (by rw [hq]; exact h2) (ih h kk)
      · cases h
    · cases h
theorem At.go {q : XM} (hq : xMT Y = q) (k : Nat) {pc' : Nat} {L' : List (Nat × Value)} {st' : List Value} (h : xps q k pc L st = some (pc', L', st')) (kk : At S d Y pc' L' st' hp nc ns Q) : At S d Y pc L st hp nc ns Q := At.stepsq hq k h kk
theorem xtg_of {pc tgt : Nat} {t : Bool} {off : Int} {st : List Value} (ht : (pc : Int) + off = (tgt : Int)) : xtg pc t off st = some (if t = true then tgt else pc + 3, st) := by
  unfold xtg
  rw [ht, if_pos (Int.natCast_nonneg tgt), Int.toNat_natCast]
/-- a branch on two numbers -/
theorem At.ic2 {o : ClassFile.Cond} {off : Int} {tgt : Nat} {x y : Int32} (hC : xmC (xMT Y) pc = some (2, .if_icmp o off, 0, 0, .null, [])) (ht : (pc : Int) + off = (tgt : Int)) (k1 : xcm o x y = true → At S d Y tgt L st hp nc ns Q) (k2 : xcm o x y = false → At S d Y (pc + 3) L st hp nc ns Q) : At S d Y pc L (.int y :: .int x :: st) hp nc ns Q := by
  refine At.low hC (show 2 < 20 by decide) (g := (if xcm o x y = true then tgt else pc + 3, L, st, hp, 0, 0)) ?_ ?_
  · show (xtg pc (xcm o x y) off st).map _ = _
    rw [xtg_of ht]
    rfl
  · dsimp only
    cases h : xcm o x y with
    | true => rw [if_pos rfl]; exact k1 h
    | false => rw [if_neg (by decide)]; exact k2 h
/-- a branch on a number and 0 -/
theorem At.ic1 {o : ClassFile.Cond} {off : Int} {tgt : Nat} {x : Int32} (hC : xmC (xMT Y) pc = some (2, .ifCond o off, 0, 0, .null, [])) (ht : (pc : Int) + off = (tgt : Int)) (k1 : xcm o x 0 = true → At S d Y tgt L st hp nc ns Q) (k2 : xcm o x 0 = false → At S d Y (pc + 3) L st hp nc ns Q) : At S d Y pc L (.int x :: st) hp nc ns Q := by
  refine At.low hC (show 2 < 20 by decide) (g := (if xcm o x 0 = true then tgt else pc + 3, L, st, hp, 0, 0)) ?_ ?_
  · show (xtg pc (xcm o x 0) off st).map _ = _
    rw [xtg_of ht]
    rfl
  · dsimp only
    cases h : xcm o x 0 with
    | true => rw [if_pos rfl]; exact k1 h
    | false => rw [if_neg (by decide)]; exact k2 h
/-- references: the same or not -/
theorem At.ace {off : Int} {tgt : Nat} {v w : Value} {b : Bool} (hC : xmC (xMT Y) pc = some (3, .if_acmp .eq off, 0, 0, .null, [])) (ht : (pc : Int) + off = (tgt : Int)) (hb : xeq xKC v w = some b) (k1 : b = true → At S d Y tgt L st hp nc ns Q) (k2 : b = false → At S d Y (pc + 3) L st hp nc ns Q) : At S d Y pc L (w :: v :: st) hp nc ns Q := by
  refine At.low hC (show 3 < 20 by decide) (g := (if b = true then tgt else pc + 3, L, st, hp, 0, 0)) ?_ ?_
  · show ((xeq xKC v w).bind (fun b => xtg pc b off st)).map _ = _
    rw [hb]
    show (xtg pc b off st).map _ = _
    rw [xtg_of ht]
    rfl
  · dsimp only
    cases b with
    | true => rw [if_pos rfl]; exact k1 rfl
    | false => rw [if_neg (by decide)]; exact k2 rfl
theorem At.acn {off : Int} {tgt : Nat} {v w : Value} {b : Bool} (hC : xmC (xMT Y) pc = some (3, .if_acmp .ne off, 0, 0, .null, [])) (ht : (pc : Int) + off = (tgt : Int)) (hb : xeq xKC v w = some b) (k1 : b = false → At S d Y tgt L st hp nc ns Q) (k2 : b = true → At S d Y (pc + 3) L st hp nc ns Q) : At S d Y pc L (w :: v :: st) hp nc ns Q := by
  refine At.low hC (show 3 < 20 by decide) (g := (if (!b) = true then tgt else pc + 3, L, st, hp, 0, 0)) ?_ ?_
  · show ((xeq xKC v w).bind (fun b => xtg pc (!b) off st)).map _ = _
    rw [hb]
    show (xtg pc (!b) off st).map _ = _
    rw [xtg_of ht]
    rfl
  · dsimp only
    cases b with
    | false => rw [if_pos (show (!false) = true from rfl)]; exact k1 rfl
    | true => rw [if_neg (by decide)]; exact k2 rfl
/-- fields -/
theorem At.gf {ci k a : Nat} {xs : List Nat} {fs : List Value} {v : Value} (hC : xmC (xMT Y) pc = some (4, .nop, ci, k, .null, xs)) (hx : xs.headD 0 ≠ 2) (ho : hp[a]? = some (.inr (ci, fs))) (hf : fs[k]? = some v) (kk : At S d Y (pc + 3) L (v :: st) hp nc ns Q) : At S d Y pc L (.ref a :: st) hp nc ns Q := by
  refine At.low hC (show 4 < 20 by decide) (g := (pc + 3, L, v :: st, hp, 0, 0)) ?_ kk
  show (xgf (xs.headD 0) xKC hp ci k (.ref a :: st)).map _ = _
  unfold xgf
  dsimp only
  rw [if_pos hx, ho]
  unfold xfld
  dsimp only
  rw [if_pos rfl, hf]
  rfl
theorem At.gk {ci k a : Nat} {xs : List Nat} {fs : List Value} {v : Value} (hC : xmC (xMT Y) pc = some (4, .nop, ci, k, .null, xs)) (hx : xs.headD 0 ≠ 1) (ho : xKC[a]? = some (.inr (ci, fs))) (hf : fs[k]? = some v) (kk : At S d Y (pc + 3) L (v :: st) hp nc ns Q) : At S d Y pc L (.retAddr a :: st) hp nc ns Q := by
  refine At.low hC (show 4 < 20 by decide) (g := (pc + 3, L, v :: st, hp, 0, 0)) ?_ kk
  show (xgf (xs.headD 0) xKC hp ci k (.retAddr a :: st)).map _ = _
  unfold xgf
  dsimp only
  rw [if_pos hx, ho]
  unfold xfld
  dsimp only
  rw [if_pos rfl, hf]
  rfl
theorem At.pf {ci k a : Nat} {fs : List Value} {v : Value} (hC : xmC (xMT Y) pc = some (5, .nop, ci, k, .null, [])) (ho : hp[a]? = some (.inr (ci, fs))) (hk : k < fs.length) (hf : xfit (xFT ci k) v = true) (kk : At S d Y (pc + 3) L st (hp.set a (.inr (ci, fs.set k v))) nc ns Q) : At S d Y pc L (v :: .ref a :: st) hp nc ns Q := by
  refine At.low hC (show 5 < 20 by decide) (g := (pc + 3, L, st, hp.set a (.inr (ci, fs.set k v)), 0, 0)) ?_ kk
  show (xpf (xFT ci k) hp ci k (v :: .ref a :: st)).map _ = _
  unfold xpf
  dsimp only
  rw [ho]
  dsimp only
  rw [if_pos ⟨rfl, hk, hf⟩]
  rfl
theorem At.nw {ci : Nat} (hC : xmC (xMT Y) pc = some (9, .nop, ci, 0, .null, [])) (kk : At S d Y (pc + 3) L (.ref hp.length :: st) (hp ++ [.inr (ci, xDF ci)]) (nc + 1) (ns + (xDF ci).length) Q) : At S d Y pc L st hp nc ns Q := At.low hC (show 9 < 20 by decide) (g := (pc + 3, L, .ref hp.length :: st, hp ++ [.inr (ci, xDF ci)], 1, (xDF ci).length)) rfl kk
theorem At.na {t : Nat} {n : Int32} (hC : xmC (xMT Y) pc = some (10, .nop, t, 0, .null, [])) (h0 : ¬ n < 0) (hn : n.toNatClampNeg ≤ 100000) (ht : t < xnt9) (kk : At S d Y (pc + 2) L (.ref hp.length :: st) (hp ++ [.inl (t, List.replicate n.toNatClampNeg (.int 0))]) (nc + 1) (ns + n.toNatClampNeg) Q) : At S d Y pc L (.int n :: st) hp nc ns Q := by
  refine At.low hC (show 10 < 20 by decide) (g := (pc + 2, L, .ref hp.length :: st, hp ++ [.inl (t, List.replicate n.toNatClampNeg (.int 0))], 1, n.toNatClampNeg)) ?_ kk
  show xnwa (xZ S) t (.int 0) pc 2 L (.int n :: st) hp = _
  unfold xnwa
  dsimp only
  exact if_pos ⟨h0, hn, ht⟩
theorem At.nq {t : Nat} {n : Int32} (hC : xmC (xMT Y) pc = some (11, .nop, t, 0, .null, [])) (h0 : ¬ n < 0) (hn : n.toNatClampNeg ≤ 100000) (ht : t < xnt9) (kk : At S d Y (pc + 3) L (.ref hp.length :: st) (hp ++ [.inl (t, List.replicate n.toNatClampNeg .null)]) (nc + 1) (ns + n.toNatClampNeg) Q) : At S d Y pc L (.int n :: st) hp nc ns Q := by
  refine At.low hC (show 11 < 20 by decide) (g := (pc + 3, L, .ref hp.length :: st, hp ++ [.inl (t, List.replicate n.toNatClampNeg .null)], 1, n.toNatClampNeg)) ?_ kk
  show xnwa (xZ S) t .null pc 3 L (.int n :: st) hp = _
  unfold xnwa
  dsimp only
  exact if_pos ⟨h0, hn, ht⟩
/-- arrays of numbers -/
theorem At.al {i : Instr} {a t : Nat} {es : List Value} {j x : Int32} (hC : xmC (xMT Y) pc = some (12, i, 0, 0, .null, [])) (ha : hp[a]? = some (.inl (t, es))) (ht : t < xnt9) (hi : xap i (xTy t) = true) (h0 : ¬ j < 0) (hj : es[j.toNatClampNeg]? = some (.int x)) (kk : At S d Y (pc + 1) L (.int x :: st) hp nc ns Q) : At S d Y pc L (.int j :: .ref a :: st) hp nc ns Q := by
  refine At.low hC (show 12 < 20 by decide) (g := (pc + 1, L, .int x :: st, hp, 0, 0)) ?_ kk
  show (xald xTy xnt9 i xKC hp (.int j :: .ref a :: st)).map _ = _
  unfold xald
  dsimp only
  rw [ha]
  dsimp only
  rw [if_pos ⟨ht, hi⟩]
  unfold xael
  rw [if_neg h0, hj]
  rfl
theorem At.ak {i : Instr} {a t : Nat} {es : List Value} {j x : Int32} (hC : xmC (xMT Y) pc = some (12, i, 0, 0, .null, [])) (ha : xKC[a]? = some (.inl (t, es))) (ht : t < xnt9) (hi : xap i (xTy t) = true) (h0 : ¬ j < 0) (hj : es[j.toNatClampNeg]? = some (.int x)) (kk : At S d Y (pc + 1) L (.int x :: st) hp nc ns Q) : At S d Y pc L (.int j :: .retAddr a :: st) hp nc ns Q := by
  refine At.low hC (show 12 < 20 by decide) (g := (pc + 1, L, .int x :: st, hp, 0, 0)) ?_ kk
  show (xald xTy xnt9 i xKC hp (.int j :: .retAddr a :: st)).map _ = _
  unfold xald
  dsimp only
  rw [ha]
  dsimp only
  rw [if_pos ⟨ht, hi⟩]
  unfold xael
  rw [if_neg h0, hj]
  rfl
theorem At.as {i : Instr} {a t : Nat} {es : List Value} {j x : Int32} (hC : xmC (xMT Y) pc = some (13, i, 0, 0, .null, [])) (ha : hp[a]? = some (.inl (t, es))) (ht : t < xnt9) (hi : xap i (xTy t) = true) (h0 : ¬ j < 0) (hj : j.toNatClampNeg < es.length) (kk : At S d Y (pc + 1) L st (hp.set a (.inl (t, es.set j.toNatClampNeg (.int (vp_nar (xTy t) x))))) nc ns Q) : At S d Y pc L (.int x :: .int j :: .ref a :: st) hp nc ns Q := by
  refine At.low hC (show 13 < 20 by decide) (g := (pc + 1, L, st, hp.set a (.inl (t, es.set j.toNatClampNeg (.int (vp_nar (xTy t) x)))), 0, 0)) ?_ kk
  show (xast xTy xnt9 i hp (.int x :: .int j :: .ref a :: st)).map _ = _
  unfold xast
  dsimp only
  rw [ha]
  dsimp only
  rw [if_pos ⟨ht, hi, h0, hj⟩]
  rfl
/-- arrays of references -/
theorem At.ql {a t : Nat} {es : List Value} {j : Int32} {v : Value} (hC : xmC (xMT Y) pc = some (14, .nop, 0, 0, .null, [])) (ha : hp[a]? = some (.inl (t, es))) (ht : t < xnt9) (hi : refKind (xTy t) = true) (h0 : ¬ j < 0) (hj : es[j.toNatClampNeg]? = some v) (hv : xisr v = true) (kk : At S d Y (pc + 1) L (v :: st) hp nc ns Q) : At S d Y pc L (.int j :: .ref a :: st) hp nc ns Q := by
  refine At.low hC (show 14 < 20 by decide) (g := (pc + 1, L, v :: st, hp, 0, 0)) ?_ kk
  show (xaal xTy xnt9 xKC hp (.int j :: .ref a :: st)).map _ = _
  unfold xaal
  dsimp only
  rw [ha]
  dsimp only
  rw [if_pos ⟨ht, hi, h0⟩, hj]
  dsimp only [Option.bind]
  rw [if_pos hv]
  rfl
theorem At.qk {a t : Nat} {es : List Value} {j : Int32} {v : Value} (hC : xmC (xMT Y) pc = some (14, .nop, 0, 0, .null, [])) (ha : xKC[a]? = some (.inl (t, es))) (ht : t < xnt9) (hi : refKind (xTy t) = true) (h0 : ¬ j < 0) (hj : es[j.toNatClampNeg]? = some v) (hv : xisr v = true) (kk : At S d Y (pc + 1) L (v :: st) hp nc ns Q) : At S d Y pc L (.int j :: .retAddr a :: st) hp nc ns Q := by
  refine At.low hC (show 14 < 20 by decide) (g := (pc + 1, L, v :: st, hp, 0, 0)) ?_ kk
  show (xaal xTy xnt9 xKC hp (.int j :: .retAddr a :: st)).map _ = _
  unfold xaal
  dsimp only
  rw [ha]
  dsimp only
  rw [if_pos ⟨ht, hi, h0⟩, hj]
  dsimp only [Option.bind]
  rw [if_pos hv]
  rfl
theorem At.qs {a t : Nat} {es : List Value} {j : Int32} {v : Value} (hC : xmC (xMT Y) pc = some (15, .nop, 0, 0, .null, [])) (ha : hp[a]? = some (.inl (t, es))) (ht : t < xnt9) (hi : refKind (xTy t) = true) (h0 : ¬ j < 0) (hj : j.toNatClampNeg < es.length) (hv : v = .null ∨ ∃ ci, xcls xKC hp v = some ci ∧ (ci, t) ∈ xSP) (kk : At S d Y (pc + 1) L st (hp.set a (.inl (t, es.set j.toNatClampNeg v))) nc ns Q) : At S d Y pc L (v :: .int j :: .ref a :: st) hp nc ns Q := by
  refine At.low hC (show 15 < 20 by decide) (g := (pc + 1, L, st, hp.set a (.inl (t, es.set j.toNatClampNeg v)), 0, 0)) ?_ kk
  show (xaas xTy xnt9 xSP xKC hp (v :: .int j :: .ref a :: st)).map _ = _
  unfold xaas
  dsimp only
  rw [ha]
  dsimp only
  rw [if_pos ⟨ht, hi, h0, hj⟩]
  by_cases hn : v = .null
  · rw [if_pos hn]; rfl
  · rw [if_neg hn]
    rcases hv with hv | ⟨ci, h1, h2⟩
    · exact absurd hv hn
    · rw [h1]
      dsimp only
      rw [if_pos h2]
      rfl
theorem At.ln {a t : Nat} {es : List Value} (hC : xmC (xMT Y) pc = some (16, .nop, 0, 0, .null, [])) (ha : hp[a]? = some (.inl (t, es))) (kk : At S d Y (pc + 1) L (.int (Int32.ofNat es.length) :: st) hp nc ns Q) : At S d Y pc L (.ref a :: st) hp nc ns Q := by
  refine At.low hC (show 16 < 20 by decide) (g := (pc + 1, L, .int (Int32.ofNat es.length) :: st, hp, 0, 0)) ?_ kk
  show (xaln xKC hp (.ref a :: st)).map _ = _
  unfold xaln
  dsimp only
  rw [ha]
  rfl
theorem At.lk {a t : Nat} {es : List Value} (hC : xmC (xMT Y) pc = some (16, .nop, 0, 0, .null, [])) (ha : xKC[a]? = some (.inl (t, es))) (kk : At S d Y (pc + 1) L (.int (Int32.ofNat es.length) :: st) hp nc ns Q) : At S d Y pc L (.retAddr a :: st) hp nc ns Q := by
  refine At.low hC (show 16 < 20 by decide) (g := (pc + 1, L, .int (Int32.ofNat es.length) :: st, hp, 0, 0)) ?_ kk
  show (xaln xKC hp (.retAddr a :: st)).map _ = _
  unfold xaln
  dsimp only
  rw [ha]
  rfl
/-- a cast -/
theorem At.ca {a ci : Nat} {cs : List Nat} {fs : List Value} (hC : xmC (xMT Y) pc = some (17, .nop, 0, 0, .null, cs)) (ho : hp[a]? = some (.inr (ci, fs))) (hm : ci ∈ cs) (kk : At S d Y (pc + 3) L (.ref a :: st) hp nc ns Q) : At S d Y pc L (.ref a :: st) hp nc ns Q := by
  refine At.low hC (show 17 < 20 by decide) (g := (pc + 3, L, .ref a :: st, hp, 0, 0)) ?_ kk
  show (xcas cs hp (.ref a :: st)).map _ = _
  unfold xcas
  dsimp only
  rw [if_neg (by intro h; cases h)]
  unfold xcls
  dsimp only
  rw [ho]
  dsimp only
  rw [if_pos hm]
  rfl
/-- what is done without rows -/
theorem At.sp {e : XI} {g : List Value × List XC} (hC : xmC (xMT Y) pc = some e) (he : ¬ e.1 < 20 ∧ e.1 < 30) (hg : xspec (xZ S) d e st hp = some g) (kk : At S d Y (pc + 3) L g.1 g.2 nc ns Q) : At S d Y pc L st hp nc ns Q := by
  obtain ⟨n, o, h, hq⟩ := kk
  refine ⟨n + 1, o, ?_, hq⟩
  rw [xrun, hC]
  dsimp only
  rw [if_neg he.1, if_pos he.2, hg]
  exact h
/-- an end -/
theorem At.rt {i : Instr} {v : Option Value} (hC : xmC (xMT Y) pc = some (40, i, 0, 0, .null, [])) (h : xret (xmR (xMT Y)) i st = some v) (hq : Q (.inl (v, hp, nc, ns))) : At S d Y pc L st hp nc ns Q := by
  refine ⟨1, _, ?_, hq⟩
  rw [xrun, hC]
  show (xret (xmR (xMT Y)) i st).map _ = _
  rw [h]
  rfl
theorem At.tw {E b : Nat} {v : Value} {xs : List Nat} {i : Instr} (hC : xmC (xMT Y) pc = some (41, i, E, b, v, xs)) (h8 : 8 ≤ d) (hs : xsum st ≤ 8) (hq : Q (.inr (E, hp, nc + 1, ns + 6))) : At S d Y pc L st hp nc ns Q := by
  refine ⟨1, _, ?_, hq⟩
  rw [xrun, hC]
  show (if 8 ≤ d ∧ xsum st ≤ 8 then _ else _) = _
  rw [if_pos ⟨h8, hs⟩]
/-- more depth, weaker ends -/
theorem At.deep {d' : Nat} (h : d ≤ d') (k : At S d Y pc L st hp nc ns Q) : At S d' Y pc L st hp nc ns Q := by
  obtain ⟨n, o, h1, h2⟩ := k
  exact ⟨n, o, xrun_deeps h h1, h2⟩
theorem At.mono {Q' : XO → Prop} (k : At S d Y pc L st hp nc ns Q) (h : ∀ o, Q o → Q' o) : At S d Y pc L st hp nc ns Q' := by
  obtain ⟨n, o, h1, h2⟩ := k
  exact ⟨n, o, h1, h _ h2⟩
/-- a call: of whatever outcome -/
theorem At.cl {e : XI} {d' : Nat} {as rest : List Value} {QC : XO → Prop} (hC : xmC (xMT Y) pc = some e) (hk : 30 ≤ e.1 ∧ e.1 < 40) (hlen : as.length = e.2.2.2.1) (hs1 : xsum rest ≤ 8) (hs2 : xsum as ≤ xmL (xMT e.2.2.1)) (hr : xrck xKC hp e.1 e.2.2.2.2.2 as = true) (hd : d' + 1 ≤ d) (hcal : At S d' e.2.2.1 0 (lv_args 0 as) [] hp 0 0 QC)
    (k1 : ∀ v hp' c s, QC (.inl (v, hp', c, s)) → At S d Y (pc + 3) L (v.toList ++ rest) hp' (nc + c) (ns + s) Q)
    (k2 : ∀ E hp' c s, QC (.inr (E, hp', c, s)) → (xfind (xmX (xMT Y)) pc E = none ∧ xmH (xMT Y) = [] ∧ Q (.inr (E, hp', nc + c, ns + s))) ∨ ∃ q, xfind (xmX (xMT Y)) pc E = some q ∧ At S d Y (q.1 + q.2.2) (xdrop q.2.1 L) [] hp' (nc + c) (ns + s) Q) : At S d Y pc L (as.reverse ++ rest) hp nc ns Q := by
  obtain ⟨n, o, h1, h2⟩ := hcal
  obtain ⟨d2, rfl⟩ : ∃ d2, d = d2 + 1 := ⟨d - 1, by omega⟩
  have h1 := xrun_deeps (show d' ≤ d2 by omega) h1
  have c20 : ¬ e.1 < 20 := by omega
  have c30 : ¬ e.1 < 30 := by omega
  have c40 : ¬ e.1 = 40 := by omega
  have c41 : ¬ e.1 = 41 := by omega
  have c42 : ¬ e.1 = 42 := by omega
  have c43 : ¬ e.1 = 43 := by omega
  have e1 : (as.reverse ++ rest).drop e.2.2.2.1 = rest := by rw [← hlen, ← List.length_reverse, List.drop_left]
  have e2 : ((as.reverse ++ rest).take e.2.2.2.1).reverse = as := by rw [← hlen, ← List.length_reverse, List.take_left, List.reverse_reverse]
  have e3 : ¬ (as.reverse ++ rest).length < e.2.2.2.1 := by rw [List.length_append, List.length_reverse]; omega
  rcases o with ⟨v, hp', c, s⟩ | ⟨E, hp', c, s⟩
  · obtain ⟨m, o, h3, h4⟩ := k1 v hp' c s h2
    have f1 := xrun_fuels (Nat.le_max_left n m) h1
    have f2 := xrun_fuels (Nat.le_max_right n m) h3
    refine ⟨max n m + 1, o, ?_, h4⟩
    rw [xrun, hC]
    dsimp only
    rw [if_neg c20, if_neg c30, if_neg c40, if_neg c41, if_neg c42, if_neg c43, if_neg e3, e1, e2, if_pos ⟨hs1, hs2, hr⟩, f1]
    exact f2
  · rcases k2 E hp' c s h2 with ⟨g1, g2, g3⟩ | ⟨q, g1, m, o, h3, h4⟩
    · refine ⟨n + 1, _, ?_, g3⟩
      rw [xrun, hC]
      dsimp only
      rw [if_neg c20, if_neg c30, if_neg c40, if_neg c41, if_neg c42, if_neg c43, if_neg e3, e1, e2, if_pos ⟨hs1, hs2, hr⟩, h1]
      dsimp only
      rw [g1]
      dsimp only
      rw [if_pos g2]
    · have f1 := xrun_fuels (Nat.le_max_left n m) h1
      have f2 := xrun_fuels (Nat.le_max_right n m) h3
      refine ⟨max n m + 1, o, ?_, h4⟩
      rw [xrun, hC]
      dsimp only
      rw [if_neg c20, if_neg c30, if_neg c40, if_neg c41, if_neg c42, if_neg c43, if_neg e3, e1, e2, if_pos ⟨hs1, hs2, hr⟩, f1]
      dsimp only
      rw [g1]
      exact f2
theorem At.clm {e : XI} {d' : Nat} {as rest : List Value} {R : Option Value → List XC → Nat → Nat → Prop} (hC : xmC (xMT Y) pc = some e) (hk : 30 ≤ e.1 ∧ e.1 < 40) (hlen : as.length = e.2.2.2.1) (hs1 : xsum rest ≤ 8) (hs2 : xsum as ≤ xmL (xMT e.2.2.1)) (hr : xrck xKC hp e.1 e.2.2.2.2.2 as = true) (hd : d' + 1 ≤ d) (hcal : Me S d' e.2.2.1 as hp R) (k1 : ∀ v hp' c s, R v hp' c s → At S d Y (pc + 3) L (v.toList ++ rest) hp' (nc + c) (ns + s) Q) : At S d Y pc L (as.reverse ++ rest) hp nc ns Q := by
  refine At.cl hC hk hlen hs1 hs2 hr hd hcal (fun v hp' c s h => ?_) (fun E hp' c s h => ?_)
  · obtain ⟨v9, hp9, c9, s9, e9, h9⟩ := h
    cases e9
    exact k1 v hp' c s h9
  · obtain ⟨v9, hp9, c9, s9, e9, h9⟩ := h
    cases e9
theorem At.clp {e : XI} {d' : Nat} {as rest : List Value} {v : Value} (hC : xmC (xMT Y) pc = some e) (hk : 30 ≤ e.1 ∧ e.1 < 40) (hlen : as.length = e.2.2.2.1) (hs1 : xsum rest ≤ 8) (hs2 : xsum as ≤ xmL (xMT e.2.2.1)) (hr : xrck xKC hp e.1 e.2.2.2.2.2 as = true) (hd : d' + 1 ≤ d) (hcal : Pu S d' e.2.2.1 as hp v) (k1 : At S d Y (pc + 3) L (v :: rest) hp nc ns Q) : At S d Y pc L (as.reverse ++ rest) hp nc ns Q := by
  refine At.cl hC hk hlen hs1 hs2 hr hd hcal (fun v' hp' c s h => ?_) (fun E hp' c s h => ?_)
  · cases h
    exact k1
  · cases h
/-- receivers -/
theorem xrck_o {k a ci : Nat} {cs : List Nat} {fs : List Value} {as : List Value} (h1 : ¬ (k = 31 ∨ k = 36 ∨ k = 38)) (h2 : ¬ (k = 32 ∨ k = 37)) (ho : hp[a]? = some (.inr (ci, fs))) (hm : ci ∈ cs) : xrck xKC hp k cs (.ref a :: as) = true := by
  unfold xrck
  rw [if_neg h1]
  dsimp only
  rw [if_neg h2]
  unfold xcls
  dsimp only
  rw [ho]
  exact decide_eq_true hm
theorem xrck_k {k a ci : Nat} {cs : List Nat} {fs : List Value} {as : List Value} (h1 : ¬ (k = 31 ∨ k = 36 ∨ k = 38)) (h2 : ¬ (k = 32 ∨ k = 37)) (ho : xKC[a]? = some (.inr (ci, fs))) (hm : ci ∈ cs) : xrck xKC hp k cs (.retAddr a :: as) = true := by
  unfold xrck
  rw [if_neg h1]
  dsimp only
  rw [if_neg h2]
  unfold xcls
  dsimp only
  rw [ho]
  exact decide_eq_true hm
/-- the heap after a write -/
theorem xs_eq {a : Nat} {c c' : XC} (h : hp[a]? = some c) : (hp.set a c')[a]? = some c' := by
  rw [List.getElem?_set_self (List.getElem?_eq_some_iff.mp h).1]
theorem xs_ne {a b : Nat} {c : XC} {o : Option XC} (hn : a ≠ b) (h : hp[b]? = o) : (hp.set a c)[b]? = o := by
  rw [List.getElem?_set_ne hn]
  exact h
theorem xa_lt {b : Nat} {c : XC} {cs : List XC} (h : hp[b]? = some c) : (hp ++ cs)[b]? = some c := by
  rw [List.getElem?_append_left (List.getElem?_eq_some_iff.mp h).1]
  exact h
theorem xa_eq {c : XC} : (hp ++ [c])[hp.length]? = some c := by
  rw [List.getElem?_append_right (Nat.le_refl _), Nat.sub_self]
  rfl
theorem xn_ar {a b t : Nat} {es : List Value} {q : Nat × List Value} (h1 : hp[a]? = some (.inl (t, es))) (h2 : hp[b]? = some (.inr q)) : a ≠ b := fun e => by
  rw [e, h2] at h1
  cases h1
theorem xn_ra {a b t : Nat} {es : List Value} {q : Nat × List Value} (h1 : hp[a]? = some (.inr q)) (h2 : hp[b]? = some (.inl (t, es))) : a ≠ b := fun e => by
  rw [e, h2] at h1
  cases h1
theorem xn_cl {a b i j : Nat} {fs gs : List Value} (h1 : hp[a]? = some (.inr (i, fs))) (h2 : hp[b]? = some (.inr (j, gs))) (hn : i ≠ j) : a ≠ b := fun e => by
  rw [e, h2] at h1
  cases h1
  exact hn rfl
theorem xn_kd {a b i j : Nat} {fs gs : List Value} (h1 : hp[a]? = some (.inl (i, fs))) (h2 : hp[b]? = some (.inl (j, gs))) (hn : i ≠ j) : a ≠ b := fun e => by
  rw [e, h2] at h1
  cases h1
  exact hn rfl
end XAT
