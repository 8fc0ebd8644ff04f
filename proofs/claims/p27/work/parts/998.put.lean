/-! a row put: its cells (written by wip/p27/c998.py) -/
theorem hSt.fr {P : Nat → Prop} {hp hp' : List XC} {s c ka fa if0 if1 items vb : Nat} {kd fr : Nat → Nat} (h : hSt hp s c ka fa if0 if1 items vb kd fr) (f : FrX P hp hp') (h1 : ¬ P s) (h2 : ¬ P ka) (h3 : ¬ P fa) : hSt hp' s c ka fa if0 if1 items vb kd fr := by
  obtain ⟨sf, kes, fes, hs, k1, k2, k12, k13, k14, k16, k18, hka, hfa, r⟩ := h
  exact ⟨sf, kes, fes, f.2.2.1 _ _ hs rfl (Or.inl h1), k1, k2, k12, k13, k14, k16, k18, f.2.2.1 _ _ hka rfl (Or.inl h2), f.2.2.1 _ _ hfa rfl (Or.inl h3), r⟩
theorem hFo.fr {P : Nat → Prop} {hp hp' : List XC} {a oa aa pa sa wa : Nat} {ws : Value} {es : List Value} {gs : List Int32} {os : List (Nat × Int32)} (h : hFo hp a oa aa pa sa wa ws es gs os) (f : FrX P hp hp') (h1 : ¬ P a) (h2 : ¬ P oa) (h3 : ¬ P aa) : hFo hp' a oa aa pa sa wa ws es gs os :=
  ⟨f.2.2.1 _ _ h.ho rfl (Or.inl h1), f.2.2.1 _ _ h.hoa rfl (Or.inl h2), f.2.2.1 _ _ h.haa rfl (Or.inl h3), h.hos, h.hn, h.hel, h.hgl⟩
/-- a heap with another stack and a new row of numbers behind it -/
def hPut (hq : List XC) (sa : Nat) (vs cs : List Int32) : List XC := hq.set sa (.inl (16, vs.map Value.int)) ++ [.inl (24, cs.map Value.int)]
section HPUT
variable {hq : List XC} {sa : Nat} {v0 vs vs' cs cs' : List Int32}
theorem hPut_fr (hsa : hq[sa]? = some (.inl (16, v0.map Value.int))) : FrX (fun x => x = sa) hq (hPut hq sa vs cs) :=
  FrX.tr (FrX.st hsa rfl rfl rfl rfl (fun fs h => by cases h) (fun ci fs h => by cases h)) (FrX.nw (P := fun _ => False) (fun a n e h => by cases h)) (fun x h => h.elim)
theorem hPut_na : (hPut hq sa vs cs)[hq.length]? = some (.inl (24, cs.map Value.int)) := by
  unfold hPut
  rw [List.getElem?_append_right (by rw [List.length_set]; exact Nat.le_refl _), List.length_set, Nat.sub_self]
  rfl
theorem hPut_sa (hsa : hq[sa]? = some (.inl (16, v0.map Value.int))) : (hPut hq sa vs cs)[sa]? = some (.inl (16, vs.map Value.int)) := xa_lt (xs_eq hsa)
theorem hPut_ss (hsa : hq[sa]? = some (.inl (16, v0.map Value.int))) : (hPut hq sa vs cs).set sa (.inl (16, vs'.map Value.int)) = hPut hq sa vs' cs := by
  unfold hPut
  rw [List.set_append_left _ _ (by rw [List.length_set]; exact (List.getElem?_eq_some_iff.mp hsa).1), List.set_set]
theorem hPut_sc : (hPut hq sa vs cs).set hq.length (.inl (24, cs'.map Value.int)) = hPut hq sa vs cs' := by
  unfold hPut
  rw [List.set_append_right _ _ (by rw [List.length_set]; exact Nat.le_refl _), List.length_set, Nat.sub_self]
  rfl
end HPUT
/-- the cells of a row that is put -/
def putC (gv : Bool) (nk : Int32) (it : Nat → Int32) (w : Nat) : List Int32 := (List.range w).map (fun i => if i = 0 ∧ gv = true then nk else it i)
theorem putC_s {gv : Bool} {nk : Int32} {it : Nat → Int32} {i w : Nat} {cs : List Int32} (hl : cs.length = w) (h : cs.take i = putC gv nk it i) (hi : i < w) {x : Int32} (hx : x = if i = 0 ∧ gv = true then nk else it i) : (cs.set i x).take (i + 1) = putC gv nk it (i + 1) := by
  rw [stk_push h (by omega)]
  unfold putC
  rw [List.range_succ, List.map_append, hx]
  rfl
theorem put_loop8 {S : List Int32} {hq : List XC} {ch d t mm g lb s m tb ga c ka fa if0 if1 items vb oa aa pa sa wa w : Nat} {al : Int32} {gv : Bool} {kd fr : Nat → Nat} {os : List (Nat × Int32)} {ws : Value} {es tf : List Value} {gs v0 gvs : List Int32} {gn : Int32} (hc0 : hq[ch]? = some (.inr (3, [.ref d, .ref t, .ref mm, .ref g, .int (Int32.ofNat lb), .int al, .int (bI gv)]))) (hS : hSt hq s c ka fa if0 if1 items vb kd fr) (hF : hFo hq c oa aa pa sa wa ws es gs os) (hsa : hq[sa]? = some (.inl (16, v0.map Value.int))) (hN : os.length ≤ v0.length) (hN2 : v0.length ≤ 1000) (ht : hq[tb]? = some (.inr (13, tf))) (h7 : tf[7]? = some (.ref ga)) (hga : hq[ga]? = some (.inl (22, gvs.map Value.int))) (hgn : gvs[lb]? = some gn) (hgl : gvs.length ≤ 1000) (e16 : xeq xKC (.retAddr vb) (.retAddr 16) = some true) {b27 : Bool} (e27 : xeq xKC (.retAddr vb) (.retAddr 27) = some b27) (hnm : ∀ (i : Nat) (q : Nat × Int32), os[i]? = some q → q.1 = 3 → ∃ j : Nat, j ≤ 100000 ∧ q.2 = Int32.ofNat j) (hw : w ≤ 1000) (hitm : ∀ i, i < w → ¬ (i = 0 ∧ gv = true) → i < items ∧ fr i ≤ itTo items if0 os.length i true fr ∧ itTo items if0 os.length i true fr ≤ os.length ∧ (resR (-1000000000) (fun _ => -1000000000) ((os.take (itTo items if0 os.length i true fr)).drop (fr i)) []).isSome = true) {Q : XO → Prop} {nc ns : Nat} (hK : ∀ (i : Int32) (vs : List Int32), vs.length = v0.length → At S 8 191 93 [(5, .int i), (0, .ref ch), (1, .ref s), (2, .ref m), (3, .ref tb), (4, .ref hq.length)] [] (hPut hq sa vs (putC gv (64 * (gn + 1) + Int32.ofNat lb) (fun i => resE (-1000000000) (fun _ => -1000000000) ((os.take (itTo items if0 os.length i true fr)).drop (fr i))) w)) nc ns Q) : ∀ (j i : Nat) (vs cs : List Int32), i + j = w → vs.length = v0.length → cs.length = w → cs.take i = putC gv (64 * (gn + 1) + Int32.ofNat lb) (fun i => resE (-1000000000) (fun _ => -1000000000) ((os.take (itTo items if0 os.length i true fr)).drop (fr i))) i → At S 8 191 43 [(5, .int (Int32.ofNat i)), (0, .ref ch), (1, .ref s), (2, .ref m), (3, .ref tb), (4, .ref hq.length)] [] (hPut hq sa vs cs) nc ns Q := by
  intro j
  induction j with
  | zero =>
    intro i vs cs hi hv hcl hct
    have hna := hPut_na (hq := hq) (sa := sa) (vs := vs) (cs := cs)
    refine At.go (q := xm191) rfl 2 (pc' := 47) (L' := [(5, .int (Int32.ofNat i)), (0, .ref ch), (1, .ref s), (2, .ref m), (3, .ref tb), (4, .ref hq.length)]) (st' := [.ref hq.length, .int (Int32.ofNat i)]) rfl ?_
    refine At.ln rfl hna ?_
    rw [List.length_map]
    refine At.ic2 (tgt := 93) rfl rfl (fun _ => ?_) (fun h => absurd (decide_eq_true ((iN_le (a := cs.length) (b := i) (by omega) (by omega)).mpr (by omega))) (by rw [show decide (Int32.ofNat cs.length ≤ Int32.ofNat i) = false from h]; decide))
    rw [List.take_of_length_le (by omega)] at hct
    rw [hct, show i = w by omega]
    exact hK _ vs hv
  | succ j ih =>
    intro i vs cs hi hv hcl hct
    have hna := hPut_na (hq := hq) (sa := sa) (vs := vs) (cs := cs)
    have f9 := hPut_fr (vs := vs) (cs := cs) hsa
    have hc := f9.ob hc0 (by decide) (fun e => xn_ra hc0 hsa e)
    have hS9 : hSt (hPut hq sa vs cs) s c ka fa if0 if1 items vb kd fr := by
      have hS8 := hS
      obtain ⟨sf, kes, fes, k0, k1, k2, k3, k4, k5, k6, k7, k8, k9, -⟩ := hS8
      exact hS.fr f9 (fun e => xn_ra k0 hsa e) (fun e => xn_kd k8 hsa (by decide) e) (fun e => xn_kd k9 hsa (by decide) e)
    have hF9 := hF.fr f9 (fun e => xn_ra hF.ho hsa e) (fun e => xn_kd hF.hoa hsa (by decide) e) (fun e => xn_kd hF.haa hsa (by decide) e)
    have hsa9 := hPut_sa (vs := vs) (cs := cs) hsa
    obtain ⟨v8, ht9⟩ := f9.2.2.2.2.1 _ _ ht
    have h79 : (tf.set 8 v8)[7]? = some (.ref ga) := by rw [List.getElem?_set_ne (by decide)]; exact h7
    have hga9 := f9.2.2.1 _ _ hga rfl (Or.inl (fun e => xn_kd hga hsa (by decide) e))
    have hgi := (List.getElem?_eq_some_iff.mp hgn).1
    have hs9 := hS9
    obtain ⟨sf9, kes9, fes9, hs0, -⟩ := hs9
    have key : ∀ (x : Int32) (vs2 : List Int32), vs2.length = v0.length → x = (if i = 0 ∧ gv = true then (64 * (gn + 1) + Int32.ofNat lb) else (fun i => resE (-1000000000) (fun _ => -1000000000) ((os.take (itTo items if0 os.length i true fr)).drop (fr i))) i) → At S 8 191 43 [(5, .int (Int32.ofNat (i + 1))), (0, .ref ch), (1, .ref s), (2, .ref m), (3, .ref tb), (4, .ref hq.length)] [] (hPut hq sa vs2 (cs.set i x)) nc ns Q := fun x vs2 h2 hx => ih (i + 1) vs2 (cs.set i x) (by omega) h2 (by rw [List.length_set]; exact hcl) (putC_s hcl hct (by omega) hx)
    refine At.go (q := xm191) rfl 2 (pc' := 47) (L' := [(5, .int (Int32.ofNat i)), (0, .ref ch), (1, .ref s), (2, .ref m), (3, .ref tb), (4, .ref hq.length)]) (st' := [.ref hq.length, .int (Int32.ofNat i)]) rfl ?_
    refine At.ln rfl hna ?_
    rw [List.length_map]
    refine At.ic2 (tgt := 93) rfl rfl (fun h => absurd ((iN_le (a := cs.length) (b := i) (by omega) (by omega)).mp (of_decide_eq_true h)) (by omega)) (fun _ => ?_)
    refine At.go (q := xm191) rfl 3 (pc' := 57) (L' := [(5, .int (Int32.ofNat i)), (0, .ref ch), (1, .ref s), (2, .ref m), (3, .ref tb), (4, .ref hq.length)]) (st' := [.int (Int32.ofNat i), .int (Int32.ofNat i), .ref hq.length]) rfl ?_
    refine At.ic1 (tgt := 78) rfl rfl (fun h57 => ?_) (fun h57 => ?_)
    · have hi0 : ¬ (i = 0 ∧ gv = true) := fun h => of_decide_eq_true h57 (by rw [h.1]; rfl)
      obtain ⟨q1, q2, q3, q4⟩ := hitm i (by omega) hi0
      refine At.go (q := xm191) rfl 4 (pc' := 83) (L' := [(5, .int (Int32.ofNat i)), (0, .ref ch), (1, .ref s), (2, .ref m), (3, .ref tb), (4, .ref hq.length)]) (st' := [.null, .null, .int (Int32.ofNat i), .ref s, .int (Int32.ofNat i), .ref hq.length]) rfl ?_
      refine At.clm (as := [.ref s, .int (Int32.ofNat i), .null, .null]) (rest := [.int (Int32.ofNat i), .ref hq.length]) rfl (by decide) rfl (Nat.le_of_ble_eq_true rfl) (Nat.le_of_ble_eq_true rfl) (xrck_o (by decide) (by decide) hs0 (by decide)) (Nat.le_of_ble_eq_true rfl) (m_itemRes0 hS9 hF9 hsa9 (by omega) (by omega) hnm (m_itemFrom hS9 q1) (m_itemTo hS9 (by omega) e16 e27 hF9) q3 q2 q4) (fun v9 hp1 c1 s1 hv9 => ?_)
      obtain ⟨rfl, ⟨vs2, hl2, rfl⟩, rfl, rfl⟩ := hv9
      rw [hPut_ss hsa]
      refine At.as (j := Int32.ofNat i) rfl hPut_na (by decide) rfl (iN_nn (by omega)) (by rw [iN_tn (by omega), List.length_map]; omega) ?_
      rw [iN_tn (by omega)]
      refine At.go (q := xm191) rfl 2 (pc' := 43) (L' := [(5, .int ((Int32.ofNat i) + 1)), (0, .ref ch), (1, .ref s), (2, .ref m), (3, .ref tb), (4, .ref hq.length)]) (st' := []) rfl ?_
      rw [iN_s]
      refine At.wk (L' := [(5, .int (Int32.ofNat (i + 1))), (0, .ref ch), (1, .ref s), (2, .ref m), (3, .ref tb), (4, .ref hq.length)]) (List.forall_mem_cons.mpr ⟨List.mem_of_getElem? (i := 0) rfl, (List.forall_mem_cons.mpr ⟨List.mem_of_getElem? (i := 1) rfl, (List.forall_mem_cons.mpr ⟨List.mem_of_getElem? (i := 2) rfl, (List.forall_mem_cons.mpr ⟨List.mem_of_getElem? (i := 3) rfl, (List.forall_mem_cons.mpr ⟨List.mem_of_getElem? (i := 4) rfl, (List.forall_mem_cons.mpr ⟨List.mem_of_getElem? (i := 5) rfl, (fun _ h => (List.not_mem_nil h).elim)⟩)⟩)⟩)⟩)⟩)⟩) (show ([5, 0, 1, 2, 3, 4] : List Nat).Nodup by decide) ?_
      have hk9 := key _ vs2 (by omega) (by rw [if_neg hi0])
      rw [← hPut_sc (cs := cs), List.map_set] at hk9
      exact hk9
    · have hi1 : i = 0 := iN_inj (by omega) (by omega) (xne_f h57)
      refine At.go (q := xm191) rfl 1 (pc' := 61) (L' := [(5, .int (Int32.ofNat i)), (0, .ref ch), (1, .ref s), (2, .ref m), (3, .ref tb), (4, .ref hq.length)]) (st' := [.ref ch, .int (Int32.ofNat i), .ref hq.length]) rfl ?_
      refine At.gf rfl (by decide) hc rfl ?_
      refine At.ic1 (tgt := 78) rfl rfl (fun h64 => ?_) (fun h64 => ?_)
      · have hi0 : ¬ (i = 0 ∧ gv = true) := fun h => by have := bI0 (of_decide_eq_true h64); rw [h.2] at this; cases this
        obtain ⟨q1, q2, q3, q4⟩ := hitm i (by omega) hi0
        refine At.go (q := xm191) rfl 4 (pc' := 83) (L' := [(5, .int (Int32.ofNat i)), (0, .ref ch), (1, .ref s), (2, .ref m), (3, .ref tb), (4, .ref hq.length)]) (st' := [.null, .null, .int (Int32.ofNat i), .ref s, .int (Int32.ofNat i), .ref hq.length]) rfl ?_
        refine At.clm (as := [.ref s, .int (Int32.ofNat i), .null, .null]) (rest := [.int (Int32.ofNat i), .ref hq.length]) rfl (by decide) rfl (Nat.le_of_ble_eq_true rfl) (Nat.le_of_ble_eq_true rfl) (xrck_o (by decide) (by decide) hs0 (by decide)) (Nat.le_of_ble_eq_true rfl) (m_itemRes0 hS9 hF9 hsa9 (by omega) (by omega) hnm (m_itemFrom hS9 q1) (m_itemTo hS9 (by omega) e16 e27 hF9) q3 q2 q4) (fun v9 hp1 c1 s1 hv9 => ?_)
        obtain ⟨rfl, ⟨vs2, hl2, rfl⟩, rfl, rfl⟩ := hv9
        rw [hPut_ss hsa]
        refine At.as (j := Int32.ofNat i) rfl hPut_na (by decide) rfl (iN_nn (by omega)) (by rw [iN_tn (by omega), List.length_map]; omega) ?_
        rw [iN_tn (by omega)]
        refine At.go (q := xm191) rfl 2 (pc' := 43) (L' := [(5, .int ((Int32.ofNat i) + 1)), (0, .ref ch), (1, .ref s), (2, .ref m), (3, .ref tb), (4, .ref hq.length)]) (st' := []) rfl ?_
        rw [iN_s]
        refine At.wk (L' := [(5, .int (Int32.ofNat (i + 1))), (0, .ref ch), (1, .ref s), (2, .ref m), (3, .ref tb), (4, .ref hq.length)]) (List.forall_mem_cons.mpr ⟨List.mem_of_getElem? (i := 0) rfl, (List.forall_mem_cons.mpr ⟨List.mem_of_getElem? (i := 1) rfl, (List.forall_mem_cons.mpr ⟨List.mem_of_getElem? (i := 2) rfl, (List.forall_mem_cons.mpr ⟨List.mem_of_getElem? (i := 3) rfl, (List.forall_mem_cons.mpr ⟨List.mem_of_getElem? (i := 4) rfl, (List.forall_mem_cons.mpr ⟨List.mem_of_getElem? (i := 5) rfl, (fun _ h => (List.not_mem_nil h).elim)⟩)⟩)⟩)⟩)⟩)⟩) (show ([5, 0, 1, 2, 3, 4] : List Nat).Nodup by decide) ?_
        have hk9 := key _ vs2 (by omega) (by rw [if_neg hi0])
        rw [← hPut_sc (cs := cs), List.map_set] at hk9
        exact hk9
      · have hgv : gv = true := bI1 (of_decide_eq_false h64)
        refine At.go (q := xm191) rfl 2 (pc' := 69) (L' := [(5, .int (Int32.ofNat i)), (0, .ref ch), (1, .ref s), (2, .ref m), (3, .ref tb), (4, .ref hq.length)]) (st' := [.ref ch, .ref tb, .int (Int32.ofNat i), .ref hq.length]) rfl ?_
        refine At.gf rfl (by decide) hc rfl ?_
        refine At.clp (as := [.ref tb, .int (Int32.ofNat lb)]) (rest := [.int (Int32.ofNat i), .ref hq.length]) rfl (by decide) rfl (Nat.le_of_ble_eq_true rfl) (Nat.le_of_ble_eq_true rfl) (xrck_o (by decide) (by decide) ht9 (by decide)) (Nat.le_of_ble_eq_true rfl) (m_nextKey ht9 h79 hga9 hgn hgl) ?_
        refine At.go (q := xm191) rfl 1 (pc' := 86) (L' := [(5, .int (Int32.ofNat i)), (0, .ref ch), (1, .ref s), (2, .ref m), (3, .ref tb), (4, .ref hq.length)]) (st' := [.int (64 * (gn + 1) + Int32.ofNat lb), .int (Int32.ofNat i), .ref hq.length]) rfl ?_
        refine At.as (j := Int32.ofNat i) rfl hna (by decide) rfl (iN_nn (by omega)) (by rw [iN_tn (by omega), List.length_map]; omega) ?_
        rw [iN_tn (by omega)]
        refine At.go (q := xm191) rfl 2 (pc' := 43) (L' := [(5, .int ((Int32.ofNat i) + 1)), (0, .ref ch), (1, .ref s), (2, .ref m), (3, .ref tb), (4, .ref hq.length)]) (st' := []) rfl ?_
        rw [iN_s]
        refine At.wk (L' := [(5, .int (Int32.ofNat (i + 1))), (0, .ref ch), (1, .ref s), (2, .ref m), (3, .ref tb), (4, .ref hq.length)]) (List.forall_mem_cons.mpr ⟨List.mem_of_getElem? (i := 0) rfl, (List.forall_mem_cons.mpr ⟨List.mem_of_getElem? (i := 1) rfl, (List.forall_mem_cons.mpr ⟨List.mem_of_getElem? (i := 2) rfl, (List.forall_mem_cons.mpr ⟨List.mem_of_getElem? (i := 3) rfl, (List.forall_mem_cons.mpr ⟨List.mem_of_getElem? (i := 4) rfl, (List.forall_mem_cons.mpr ⟨List.mem_of_getElem? (i := 5) rfl, (fun _ h => (List.not_mem_nil h).elim)⟩)⟩)⟩)⟩)⟩)⟩) (show ([5, 0, 1, 2, 3, 4] : List Nat).Nodup by decide) ?_
        have hk9 := key _ vs hv (by rw [if_pos ⟨hi1, hgv⟩])
        rw [← hPut_sc (cs := cs), List.map_set] at hk9
        exact hk9
