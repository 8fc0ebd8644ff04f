/-! no session has a text that was not run (by g_tx.py, out of 94) -/
def LzM (M : HM) : Prop := ∀ i, (M.2.2.2.1 i).2.2.2.2.2.2.2.1 = 0
section
variable {M : HM} {c d i ln : Nat} {q q1 : TQ} {nm nm2 : Int32}
theorem lz_s {s : SM} (h : LzM M) (hs : s.2.2.2.2.2.2.2.1 = 0) : LzM (mS M i s) := fun j => by
  by_cases e : j = i
  · subst e
    rw [mS_at]
    exact hs
  · rw [mS_ne e]
    exact h j
theorem lz_kM {D ts : List En} (h : LzM M) : LzM (keepM M i D ts) := by
  unfold keepM
  split
  · exact lz_s h (h i)
  · exact h
theorem lz_kG {D ts : List En} {gv : Bool} {t : Nat} (h : LzM M) : LzM (keepG M i D ts gv t ln) := by
  unfold keepG
  split
  · exact lz_kM h
  · exact lz_kM h
theorem lz_put {gv : Bool} {vl : Nat → Int32} (h : LzM M) : LzM (putM M i ln q gv vl).2.2 := by
  unfold putM
  split
  · split
    · exact lz_kG h
    · exact h
  · exact h
theorem lz_alt {st : A3 → En → A3} {al : List En} (h : LzM M) : LzM (altM M i ln q st al).2.2 := by
  unfold altM
  split
  · exact lz_kG h
  · exact h
theorem lz_low {key other : Int32} (h : LzM M) : LzM (lowM M i q key other).2.2 := by
  unfold lowM
  split
  · split
    · exact h
    · exact h
  · exact h
theorem lz_dr (h : LzM M) : LzM (drM M i q).2.2 := by
  unfold drM
  split
  · split
    · exact h
    · intro j
      show (if 0 ≤ j ∧ j < 8 then sDrp (M.2.2.2.1 j) q.2.1 else M.2.2.2.1 j).2.2.2.2.2.2.2.1 = 0
      split
      · exact h j
      · exact h j
  · exact h
theorem lz_mk (h : LzM M) : LzM (mkM M i nm q1).2.2 := by
  unfold mkM
  split
  · exact h
  · exact h
theorem lz_get {w9 : Nat} {top : Int32} {t : QT} (h : LzM M) : LzM (getM M i w9 top t).2.2 := by
  unfold getM
  split
  · exact lz_s h (h i)
  · exact h
theorem lz_cnt {r : RM} (h : LzM r.2.2) : LzM (cntR r i ln).2.2 := by
  unfold cntR
  split
  · exact h
  · exact lz_s h (h i)
def FLz (F : MF) : Prop := ∀ (M : HM) (i ln : Nat) (r : RM), LzM M → F M i ln r → LzM r.2.2
theorem flz_f1 {fl : Nat} {G : GT} (h : ∀ (q : TQ) (M : HM) (i ln : Nat), LzM M → LzM (G q M i ln).2.2) : FLz (f1 nm fl G) := fun M i ln r hM hF => by
  cases e : tnM M (M.2.2.2.1 i).1 nm with
  | none => rw [f1_N e hF]; exact hM
  | some t =>
    obtain ⟨q, hq, q1, hr⟩ := f1_S e hF
    rw [hr]
    exact lz_cnt (h q M i ln hM)
theorem flz_f2 {fl f9 : Nat} {G : GT2} (h : ∀ (q q2 : TQ) (M : HM) (i ln : Nat), LzM M → LzM (G q q2 M i ln).2.2) : FLz (f2 nm nm2 fl f9 G) := fun M i ln r hM hF => by
  rcases f2_cs hF with ⟨e, hr⟩ | ⟨t, e, e2, hr⟩ | ⟨t, t2, e, e2, q, hq, q2, hq2, e3, e4, hr⟩
  · rw [hr]; exact hM
  · rw [hr]; exact hM
  · rw [hr]; exact lz_cnt (h q q2 M i ln hM)
theorem flz_fF {fl : Nat} : FLz (fF fl) := fun M i ln r hM hF => by
  rw [show r = fltR M ln fl from hF]; exact hM
theorem flz_fA : FLz fA := fun M i ln r hM hF => by
  obtain ⟨n, hn, hr⟩ := hF
  rw [hr]; exact lz_cnt (lz_mk hM)
theorem flz_fU : FLz fU := fun M i ln r hM hF => by
  obtain ⟨n, hn, hr⟩ := hF
  rw [hr]; exact lz_cnt (lz_mk hM)
theorem flz_fB {fl : Nat} : FLz (fB fl) := fun M i ln r hM hF => by
  rcases fB_cs hF with ⟨e, hr⟩ | ⟨t, e, q, hq, q1, n, hn, hr⟩
  · rw [hr]; exact hM
  · rw [hr]; exact lz_cnt (lz_mk hM)
theorem flz_pbad (σ : Nat → Nat) : FLz (F_pbad σ) := fun M i ln r hM hF => by
  rcases pbad_cs hF with ⟨e, hr⟩ | ⟨e, hr⟩
  · rw [hr]; exact hM
  · rw [hr]; exact hM
end
/-! no text changes who is in a transaction (by g_tx.py, out of 94) -/
def BzM (b : Nat → Bool) (M : HM) : Prop := ∀ i, (M.2.2.2.1 i).2.2.1 = b i
section
variable {M : HM} {c d i ln : Nat} {q q1 : TQ} {nm nm2 : Int32} {b9 : Nat → Bool}
theorem bz9_s {s : SM} (h : BzM b9 M) (hs : s.2.2.1 = b9 i) : BzM b9 (mS M i s) := fun j => by
  by_cases e : j = i
  · subst e
    rw [mS_at]
    exact hs
  · rw [mS_ne e]
    exact h j
theorem bz9_kM {D ts : List En} (h : BzM b9 M) : BzM b9 (keepM M i D ts) := by
  unfold keepM
  split
  · exact bz9_s h (h i)
  · exact h
theorem bz9_kG {D ts : List En} {gv : Bool} {t : Nat} (h : BzM b9 M) : BzM b9 (keepG M i D ts gv t ln) := by
  unfold keepG
  split
  · exact bz9_kM h
  · exact bz9_kM h
theorem bz9_put {gv : Bool} {vl : Nat → Int32} (h : BzM b9 M) : BzM b9 (putM M i ln q gv vl).2.2 := by
  unfold putM
  split
  · split
    · exact bz9_kG h
    · exact h
  · exact h
theorem bz9_alt {st : A3 → En → A3} {al : List En} (h : BzM b9 M) : BzM b9 (altM M i ln q st al).2.2 := by
  unfold altM
  split
  · exact bz9_kG h
  · exact h
theorem bz9_low {key other : Int32} (h : BzM b9 M) : BzM b9 (lowM M i q key other).2.2 := by
  unfold lowM
  split
  · split
    · exact h
    · exact h
  · exact h
theorem bz9_dr (h : BzM b9 M) : BzM b9 (drM M i q).2.2 := by
  unfold drM
  split
  · split
    · exact h
    · intro j
      show (if 0 ≤ j ∧ j < 8 then sDrp (M.2.2.2.1 j) q.2.1 else M.2.2.2.1 j).2.2.1 = b9 j
      split
      · exact h j
      · exact h j
  · exact h
theorem bz9_mk (h : BzM b9 M) : BzM b9 (mkM M i nm q1).2.2 := by
  unfold mkM
  split
  · exact h
  · exact h
theorem bz9_get {w9 : Nat} {top : Int32} {t : QT} (h : BzM b9 M) : BzM b9 (getM M i w9 top t).2.2 := by
  unfold getM
  split
  · exact bz9_s h (h i)
  · exact h
theorem bz9_cnt {r : RM} (h : BzM b9 r.2.2) : BzM b9 (cntR r i ln).2.2 := by
  unfold cntR
  split
  · exact h
  · exact bz9_s h (h i)
def FBz (F : MF) : Prop := ∀ (b9 : Nat → Bool) (M : HM) (i ln : Nat) (r : RM), BzM b9 M → F M i ln r → BzM b9 r.2.2
theorem fbz_f1 {fl : Nat} {G : GT} (h : ∀ (b9 : Nat → Bool) (q : TQ) (M : HM) (i ln : Nat), BzM b9 M → BzM b9 (G q M i ln).2.2) : FBz (f1 nm fl G) := fun b9 M i ln r hM hF => by
  cases e : tnM M (M.2.2.2.1 i).1 nm with
  | none => rw [f1_N e hF]; exact hM
  | some t =>
    obtain ⟨q, hq, q1, hr⟩ := f1_S e hF
    rw [hr]
    exact bz9_cnt (h b9 q M i ln hM)
theorem fbz_f2 {fl f9 : Nat} {G : GT2} (h : ∀ (b9 : Nat → Bool) (q q2 : TQ) (M : HM) (i ln : Nat), BzM b9 M → BzM b9 (G q q2 M i ln).2.2) : FBz (f2 nm nm2 fl f9 G) := fun b9 M i ln r hM hF => by
  rcases f2_cs hF with ⟨e, hr⟩ | ⟨t, e, e2, hr⟩ | ⟨t, t2, e, e2, q, hq, q2, hq2, e3, e4, hr⟩
  · rw [hr]; exact hM
  · rw [hr]; exact hM
  · rw [hr]; exact bz9_cnt (h b9 q q2 M i ln hM)
theorem fbz_fF {fl : Nat} : FBz (fF fl) := fun b9 M i ln r hM hF => by
  rw [show r = fltR M ln fl from hF]; exact hM
theorem fbz_fA : FBz fA := fun b9 M i ln r hM hF => by
  obtain ⟨n, hn, hr⟩ := hF
  rw [hr]; exact bz9_cnt (bz9_mk hM)
theorem fbz_fU : FBz fU := fun b9 M i ln r hM hF => by
  obtain ⟨n, hn, hr⟩ := hF
  rw [hr]; exact bz9_cnt (bz9_mk hM)
theorem fbz_fB {fl : Nat} : FBz (fB fl) := fun b9 M i ln r hM hF => by
  rcases fB_cs hF with ⟨e, hr⟩ | ⟨t, e, q, hq, q1, n, hn, hr⟩
  · rw [hr]; exact hM
  · rw [hr]; exact bz9_cnt (bz9_mk hM)
theorem fbz_pbad (σ : Nat → Nat) : FBz (F_pbad σ) := fun b9 M i ln r hM hF => by
  rcases pbad_cs hF with ⟨e, hr⟩ | ⟨e, hr⟩
  · rw [hr]; exact hM
  · rw [hr]; exact hM
end
