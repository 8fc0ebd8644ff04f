/-! what is refused changes nothing that is seen; a transaction isn't disturbed (by hand) -/
section
variable {M N : HM} {c d i j ln : Nat} {q q' : TQ} {nm nm2 : Int32}
theorem ck_tl {t : List Int32} : ckE (mTally M t) i = ckE M i := rfl
theorem ck_ms {s : SM} (h1 : s.1 = (M.2.2.2.1 i).1) (h2 : s.2.2.1 = (M.2.2.2.1 i).2.2.1) (h3 : s.2.2.2.1 = (M.2.2.2.1 i).2.2.2.1) : ckE (mS M i s) i = ckE M i := by
  have hv : vwE (mS M i s) i = vwE M i := by
    unfold vwE
    rw [mS_at, h2, h3]
    rfl
  have hl : ((mS M i s).2.2.2.1 i).1 = (M.2.2.2.1 i).1 := by rw [mS_at, h1]
  unfold ckE
  rw [hv, hl]
  rfl
/-- another session's step leaves a transaction's sight -/
def Wt (M M' : HM) (i : Nat) : Prop := M'.1 = M.1 ∧ (∀ a, TIq M'.2.2.2.2.2.2 a = TIq M.2.2.2.2.2.2 a) ∧ (∀ a, SRq M'.2.2.2.2.2.2 a = SRq M.2.2.2.2.2.2 a) ∧ ∀ j, j ≠ i → M'.2.2.2.1 j = M.2.2.2.1 j
theorem Wt.rf : Wt M M i := ⟨rfl, fun _ => rfl, fun _ => rfl, fun _ _ => rfl⟩
theorem Wt.tr {M1 M2 : HM} (h : Wt M M1 i) (k : Wt M1 M2 i) : Wt M M2 i := ⟨k.1.trans h.1, fun a => (k.2.1 a).trans (h.2.1 a), fun a => (k.2.2.1 a).trans (h.2.2.1 a), fun j hj => (k.2.2.2 j hj).trans (h.2.2.2 j hj)⟩
theorem Wt.ck {M' : HM} (h : Wt M M' i) (hj : j ≠ i) (hb : (M.2.2.2.1 j).2.2.1 = true) : ckE M' j = ckE M j := by
  obtain ⟨h1, h2, h3, h4⟩ := h
  have e1 : TIq M'.2.2.2.2.2.2 = TIq M.2.2.2.2.2.2 := funext h2
  have hv : vwE M' j = vwE M j := by
    unfold vwE
    rw [h4 j hj, if_pos hb, if_pos hb]
  have e2 : ∀ ls l, ckS M'.2.2.2.2.2.2 ls l = ckS M.2.2.2.2.2.2 ls l := fun ls l => funext fun acc => funext fun a => by
    unfold ckS
    rw [e1, h3]
  unfold ckE
  rw [hv, h4 j hj, e1, e2, h1]
theorem wt_s {s : SM} : Wt M (mS M i s) i := ⟨rfl, fun _ => rfl, fun _ => rfl, fun j hj => mS_ne hj⟩
theorem wt_tl {t : List Int32} : Wt M (mTally M t) i := ⟨rfl, fun _ => rfl, fun _ => rfl, fun _ _ => rfl⟩
theorem wt_sh {D ts : List En} : Wt M (mEnded (mShelf M D) ts) i := ⟨rfl, fun _ => rfl, fun _ => rfl, fun _ _ => rfl⟩
theorem wt_map {φ : TQ → TQ} (hφ : φok φ) : Wt M (mTabs M (M.2.2.2.2.2.2.map φ)) i := ⟨rfl, fun a => TIq_map (fun q => congrArg Prod.fst (hφ q).1) (fun q => (hφ q).2.2) a, fun a => SRq_map (fun q => congrArg Prod.fst (hφ q).1) (fun q => (hφ q).2.1) a, fun _ _ => rfl⟩
theorem wt_kM {D ts : List En} : Wt M (keepM M i D ts) i := by
  unfold keepM
  split
  · exact wt_s
  · exact wt_sh
theorem wt_kG {D ts : List En} {gv : Bool} {t : Nat} : Wt M (keepG M i D ts gv t ln) i := by
  unfold keepG
  split
  · have h := wt_map (M := keepM M i D ts) (i := i) (giveT_ok t ln)
    rw [keepM_ts] at h
    exact wt_kM.tr h
  · exact wt_kM
theorem wt_cnt {r : RM} (h : Wt M r.2.2 i) : Wt M (cntR r i ln).2.2 i := by
  unfold cntR
  split
  · exact h.tr wt_tl
  · exact (h.tr wt_s).tr wt_tl
theorem wt_put {gv : Bool} {vl : Nat → Int32} : Wt M (putM M i ln q gv vl).2.2 i := by
  unfold putM
  split
  · split
    · exact wt_kG
    · exact Wt.rf
  · exact Wt.rf
theorem wt_alt {st : A3 → En → A3} {al : List En} : Wt M (altM M i ln q st al).2.2 i := by
  unfold altM
  split
  · exact wt_kG
  · exact Wt.rf
theorem wt_low {key other : Int32} : Wt M (lowM M i q key other).2.2 i := by
  unfold lowM
  split
  · split
    · exact Wt.rf
    · exact wt_sh
  · exact Wt.rf
theorem wt_get {w9 : Nat} {top : Int32} {t : QT} : Wt M (getM M i w9 top t).2.2 i := by
  unfold getM
  split
  · exact wt_s
  · exact Wt.rf
/-- what is told, and what is seen -/
def Tld (M : HM) (i : Nat) (r : RM) : Prop := (r.2.1 = 0 ∧ ¬ r.1 < 0) ∨ ckE r.2.2 i = ckE M i
theorem tld_cnt {r : RM} (h : Tld M i r) (hr : ¬ r.2.1 = 0 → ckE r.2.2 i = ckE M i) : Tld M i (cntR r i ln) := by
  unfold cntR
  by_cases hz : r.2.1 = 0
  · rw [if_pos hz]
    rcases h with h | h
    · exact Or.inl ⟨rfl, h.2⟩
    · exact Or.inr h
  · rw [if_neg hz]
    refine Or.inr ?_
    show ckE (mS r.2.2 i (sRea (r.2.2.2.2.2.1 i) r.2.1)) i = _
    exact (ck_ms (M := r.2.2) (i := i) (s := sRea (r.2.2.2.2.2.1 i) r.2.1) rfl rfl rfl).trans (hr hz)
theorem tld_put {gv : Bool} {vl : Nat → Int32} : Tld M i (cntR (putM M i ln q gv vl) i ln) := by
  refine tld_cnt ?_ (fun hz => ?_)
  · unfold putM
    split
    · split
      · exact Or.inl ⟨rfl, by show ¬ (1 : Int32) < 0; decide⟩
      · exact Or.inr rfl
    · exact Or.inr rfl
  · unfold putM at hz ⊢
    split
    · rename_i h1
      rw [if_pos h1] at hz
      split
      · rename_i h2
        rw [if_pos h2] at hz
        exact absurd rfl hz
      · rfl
    · rfl
theorem tld_alt {st : A3 → En → A3} {al : List En} (hl : al.length < 1000) : Tld M i (cntR (altM M i ln q st al) i ln) := by
  refine tld_cnt ?_ (fun hz => ?_)
  · unfold altM
    split
    · exact Or.inl ⟨rfl, by show ¬ Int32.ofNat al.length < 0; exact iN_nn (by omega)⟩
    · exact Or.inr rfl
  · unfold altM at hz ⊢
    split
    · rename_i h1
      rw [if_pos h1] at hz
      exact absurd rfl hz
    · rfl
theorem tld_low {key other : Int32} : Tld M i (cntR (lowM M i q key other) i ln) := by
  refine tld_cnt ?_ (fun hz => ?_)
  · unfold lowM
    split
    · split
      · exact Or.inr rfl
      · exact Or.inl ⟨rfl, by show ¬ (1 : Int32) < 0; decide⟩
    · exact Or.inr rfl
  · unfold lowM at hz ⊢
    split
    · rename_i h1
      rw [if_pos h1] at hz
      split
      · rfl
      · rename_i h2
        rw [if_neg h2] at hz
        exact absurd rfl hz
    · rfl
theorem tld_dr : Tld M i (cntR (drM M i q) i ln) := by
  refine tld_cnt ?_ (fun hz => ?_)
  · unfold drM
    split
    · split
      · exact Or.inr rfl
      · exact Or.inl ⟨rfl, by show ¬ (1 : Int32) < 0; decide⟩
    · exact Or.inr rfl
  · unfold drM at hz ⊢
    split
    · rename_i h1
      rw [if_pos h1] at hz
      split
      · rfl
      · rename_i h2
        rw [if_neg h2] at hz
        exact absurd rfl hz
    · rfl
theorem tld_get {w9 : Nat} {top : Int32} {t : QT} : Tld M i (cntR (getM M i w9 top t) i ln) := by
  have e : ckE (getM M i w9 top t).2.2 i = ckE M i := by
    unfold getM
    split
    · exact ck_ms rfl rfl rfl
    · rfl
  exact tld_cnt (Or.inr e) (fun _ => e)
theorem tld_mk {q1 : TQ} : Tld M i (cntR (mkM M i nm q1) i ln) := by
  refine tld_cnt ?_ (fun hz => ?_)
  · unfold mkM
    split
    · exact Or.inr rfl
    · rename_i h
      refine Or.inl ⟨rfl, ?_⟩
      show ¬ Int32.ofNat ((mkR M i nm).1 + 1) < 0
      have h3 : ¬ 3 ≤ (mkR M i nm).1 := fun h9 => h (Or.inr (Or.inl h9))
      exact iN_nn (by omega)
  · unfold mkM at hz ⊢
    split
    · rfl
    · rename_i h1
      rw [if_neg h1] at hz
      exact absurd rfl hz
theorem tld_flt {fl : Nat} : Tld M i (fltR M ln fl) := Or.inr rfl
def FTl (F : MF) : Prop := ∀ (M : HM) (i ln c d : Nat) (r : RM), WfM M c d → i < 8 → F M i ln r → Tld M i r
def FWt (F : MF) : Prop := ∀ (M : HM) (i ln : Nat) (r : RM), F M i ln r → Wt M r.2.2 i
theorem ftl_f1 {fl : Nat} {G : GT} (h : ∀ (q : TQ) (M : HM) (i ln c d : Nat), WfM M c d → i < 8 → Tld M i (cntR (G q M i ln) i ln)) : FTl (f1 nm fl G) := fun M i ln c d r hM hi hF => by
  cases e : tnM M (M.2.2.2.1 i).1 nm with
  | none => rw [f1_N e hF]; exact tld_flt
  | some t =>
    obtain ⟨q, hq, q1, hr⟩ := f1_S e hF
    rw [hr]
    exact h q M i ln c d hM hi
theorem fwt_f1 {fl : Nat} {G : GT} (h : ∀ (q : TQ) (M : HM) (i ln : Nat), Wt M (G q M i ln).2.2 i) : FWt (f1 nm fl G) := fun M i ln r hF => by
  cases e : tnM M (M.2.2.2.1 i).1 nm with
  | none => rw [f1_N e hF]; exact wt_tl
  | some t =>
    obtain ⟨q, hq, q1, hr⟩ := f1_S e hF
    rw [hr]
    exact wt_cnt (h q M i ln)
theorem ftl_f2 {fl f9 wd : Nat} {top : Int32} {T : TQ → TQ → HM → Nat → QT} : FTl (f2 nm nm2 fl f9 (fun q q2 M i ln => getM M i wd top (T q q2 M i))) := fun M i ln c d r hM hi hF => by
  rcases f2_cs hF with ⟨e, hr⟩ | ⟨t, e, e2, hr⟩ | ⟨t, t2, e, e2, q, hq, q2, hq2, e3, e4, hr⟩
  · rw [hr]; exact tld_flt
  · rw [hr]; exact tld_flt
  · rw [hr]; exact tld_get
theorem fwt_f2 {fl f9 wd : Nat} {top : Int32} {T : TQ → TQ → HM → Nat → QT} : FWt (f2 nm nm2 fl f9 (fun q q2 M i ln => getM M i wd top (T q q2 M i))) := fun M i ln r hF => by
  rcases f2_cs hF with ⟨e, hr⟩ | ⟨t, e, e2, hr⟩ | ⟨t, t2, e, e2, q, hq, q2, hq2, e3, e4, hr⟩
  · rw [hr]; exact wt_tl
  · rw [hr]; exact wt_tl
  · rw [hr]; exact wt_cnt wt_get
theorem ftl_fF {fl : Nat} : FTl (fF fl) := fun M i ln c d r hM hi hF => by
  rw [show r = fltR M ln fl from hF]; exact tld_flt
theorem fwt_fF {fl : Nat} : FWt (fF fl) := fun M i ln r hF => by
  rw [show r = fltR M ln fl from hF]; exact wt_tl
theorem ftl_fA : FTl fA := fun M i ln c d r hM hi hF => by
  obtain ⟨n, hn, hr⟩ := hF
  rw [hr]; exact tld_mk
theorem ftl_fU : FTl fU := fun M i ln c d r hM hi hF => by
  obtain ⟨n, hn, hr⟩ := hF
  rw [hr]; exact tld_mk
theorem ftl_fB {fl : Nat} : FTl (fB fl) := fun M i ln c d r hM hi hF => by
  rcases fB_cs hF with ⟨e, hr⟩ | ⟨t, e, q, hq, q1, n, hn, hr⟩
  · rw [hr]; exact tld_flt
  · rw [hr]; exact tld_mk
theorem ftl_pbad (σ : Nat → Nat) : FTl (F_pbad σ) := fun M i ln c d r hM hi hF => by
  rcases pbad_cs hF with ⟨e, hr⟩ | ⟨e, hr⟩
  · rw [hr]; exact tld_flt
  · rw [hr]; exact tld_flt
theorem fwt_pbad (σ : Nat → Nat) : FWt (F_pbad σ) := fun M i ln r hF => by
  rcases pbad_cs hF with ⟨e, hr⟩ | ⟨e, hr⟩
  · rw [hr]; exact wt_tl
  · rw [hr]; exact wt_tl
end
