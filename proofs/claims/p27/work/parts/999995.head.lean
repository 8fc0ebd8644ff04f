/-! queries: an answer's beginning (written by wip/p27/c999995.py) -/
theorem an_headNN {S : List Int32} {hp : List XC} {q st mn v g l1 l2 pa li ln r kw nc ns : Nat} {q0 q1 : Value} {pn kp off so dn lc wd oa tp aw : Int32} {sf mf rf les : List Value} {b14 : Bool} {Q : XO → Prop} (hq : hp[q]? = some (.inr (7, [q0, q1, .ref l1, .ref l2, .ref pa, .int pn, .ref li, .int kp, .int off, .int so, .int dn, .ref ln, .int lc, .int wd]))) (hst : hp[st]? = some (.inr (12, sf))) (hm : hp[mn]? = some (.inr (6, mf))) (hli : hp[li]? = some (.inl (19, les))) (hr : hp[r]? = some (.inr (8, rf))) (hs0 : sf[0]? = some (.ref r)) (hs9 : sf[9]? = some (.int oa)) (hs10 : sf[10]? = some (.int tp)) (haw : ∀ h, FrX (fun x => x = q) hp h → Pu S 1 106 [.ref mn] h (.int aw)) (hoa : oa < 0) (hkw : ∀ h, FrX (fun x => x = q) hp h → Pu S 0 52 [.ref r, .int (oa - 1)] h (.retAddr kw)) (e14 : xeq xKC (.retAddr kw) (.retAddr 14) = some b14) (htp : tp < 0) (hK : ∀ h', FrX (fun x => x = q) hp h' → h'[q]? = some (.inr (7, [.ref st, .ref mn, .ref l1, .ref l2, .ref pa, .int pn, .ref li, .int (if 150 < (999999999 : Int32) then 150 else (999999999 : Int32)), .int 0, .int (-1), .int (bI b14), .ref ln, .int 0, .int (if (Int32.ofNat les.length) < aw then (Int32.ofNat les.length) else aw)])) → At S 8 139 129 [(5, .int 999999999), (0, .ref q), (2, .ref mn), (3, .ref v), (4, .ref g)] [] h' nc ns Q) : At S 8 139 0 [(0, .ref q), (1, .ref st), (2, .ref mn), (3, .ref v), (4, .ref g)] [] hp nc ns Q := by
  have F0 : FrX (fun x => x = q) hp hp := FrX.rf
  refine At.go (q := xm139) rfl 2 (pc' := 2) (L' := [(0, .ref q), (1, .ref st), (2, .ref mn), (3, .ref v), (4, .ref g)]) (st' := [.ref st, .ref q]) rfl ?_
  refine At.pf rfl hq (Nat.le_of_ble_eq_true rfl) rfl ?_
  obtain ⟨k1, ek1⟩ : ∃ h, h = hp.set q (.inr (7, [.ref st, q1, .ref l1, .ref l2, .ref pa, .int pn, .ref li, .int kp, .int off, .int so, .int dn, .ref ln, .int lc, .int wd])) := ⟨_, rfl⟩
  refine At.hpe ek1 ?_
  have fk1_q : k1[q]? = some (.inr (7, [.ref st, q1, .ref l1, .ref l2, .ref pa, .int pn, .ref li, .int kp, .int off, .int so, .int dn, .ref ln, .int lc, .int wd])) := by rw [ek1]; exact xs_eq hq
  have fk1_st : k1[st]? = some (.inr (12, sf)) := by rw [ek1]; exact xs_ne (xn_cl hq hst (by decide)) hst
  have fk1_mn : k1[mn]? = some (.inr (6, mf)) := by rw [ek1]; exact xs_ne (xn_cl hq hm (by decide)) hm
  have fk1_li : k1[li]? = some (.inl (19, les)) := by rw [ek1]; exact xs_ne (xn_ra hq hli) hli
  have fk1_r : k1[r]? = some (.inr (8, rf)) := by rw [ek1]; exact xs_ne (xn_cl hq hr (by decide)) hr
  have F1 : FrX (fun x => x = q) hp k1 := FrX.tr F0 (show FrX (fun x => x = q) hp k1 by rw [ek1]; exact FrX.so hq (by decide) rfl (by decide)) (fun x h => Or.inl h)
  refine At.go (q := xm139) rfl 2 (pc' := 7) (L' := [(0, .ref q), (1, .ref st), (2, .ref mn), (3, .ref v), (4, .ref g)]) (st' := [.ref mn, .ref q]) rfl ?_
  refine At.pf rfl fk1_q (Nat.le_of_ble_eq_true rfl) rfl ?_
  obtain ⟨k2, ek2⟩ : ∃ h, h = k1.set q (.inr (7, [.ref st, .ref mn, .ref l1, .ref l2, .ref pa, .int pn, .ref li, .int kp, .int off, .int so, .int dn, .ref ln, .int lc, .int wd])) := ⟨_, rfl⟩
  refine At.hpe ek2 ?_
  have fk2_q : k2[q]? = some (.inr (7, [.ref st, .ref mn, .ref l1, .ref l2, .ref pa, .int pn, .ref li, .int kp, .int off, .int so, .int dn, .ref ln, .int lc, .int wd])) := by rw [ek2]; exact xs_eq fk1_q
  have fk2_st : k2[st]? = some (.inr (12, sf)) := by rw [ek2]; exact xs_ne (xn_cl fk1_q fk1_st (by decide)) fk1_st
  have fk2_mn : k2[mn]? = some (.inr (6, mf)) := by rw [ek2]; exact xs_ne (xn_cl fk1_q fk1_mn (by decide)) fk1_mn
  have fk2_li : k2[li]? = some (.inl (19, les)) := by rw [ek2]; exact xs_ne (xn_ra fk1_q fk1_li) fk1_li
  have fk2_r : k2[r]? = some (.inr (8, rf)) := by rw [ek2]; exact xs_ne (xn_cl fk1_q fk1_r (by decide)) fk1_r
  have F2 : FrX (fun x => x = q) hp k2 := FrX.tr F1 (show FrX (fun x => x = q) k1 k2 by rw [ek2]; exact FrX.so fk1_q (by decide) rfl (by decide)) (fun x h => Or.inl h)
  refine At.go (q := xm139) rfl 2 (pc' := 12) (L' := [(0, .ref q), (1, .ref st), (2, .ref mn), (3, .ref v), (4, .ref g)]) (st' := [.ref mn, .ref q]) rfl ?_
  refine At.clp (as := [.ref mn]) (rest := [.ref q]) rfl (by decide) rfl (Nat.le_of_ble_eq_true rfl) (Nat.le_of_ble_eq_true rfl) (xrck_o (by decide) (by decide) fk2_mn (by decide)) (Nat.le_of_ble_eq_true rfl) (haw _ F2) ?_
  refine At.go (q := xm139) rfl 1 (pc' := 16) (L' := [(0, .ref q), (1, .ref st), (2, .ref mn), (3, .ref v), (4, .ref g)]) (st' := [.ref q, .int aw, .ref q]) rfl ?_
  refine At.gf rfl (by decide) fk2_q rfl ?_
  refine At.ln rfl fk2_li ?_
  refine At.sp rfl (by decide) (g := ([.int (if (Int32.ofNat les.length) < aw then (Int32.ofNat les.length) else aw), .ref q], k2)) rfl ?_
  refine At.pf rfl fk2_q (Nat.le_of_ble_eq_true rfl) xfit_i ?_
  obtain ⟨k3, ek3⟩ : ∃ h, h = k2.set q (.inr (7, [.ref st, .ref mn, .ref l1, .ref l2, .ref pa, .int pn, .ref li, .int kp, .int off, .int so, .int dn, .ref ln, .int lc, .int (if (Int32.ofNat les.length) < aw then (Int32.ofNat les.length) else aw)])) := ⟨_, rfl⟩
  refine At.hpe ek3 ?_
  have fk3_q : k3[q]? = some (.inr (7, [.ref st, .ref mn, .ref l1, .ref l2, .ref pa, .int pn, .ref li, .int kp, .int off, .int so, .int dn, .ref ln, .int lc, .int (if (Int32.ofNat les.length) < aw then (Int32.ofNat les.length) else aw)])) := by rw [ek3]; exact xs_eq fk2_q
  have fk3_st : k3[st]? = some (.inr (12, sf)) := by rw [ek3]; exact xs_ne (xn_cl fk2_q fk2_st (by decide)) fk2_st
  have fk3_mn : k3[mn]? = some (.inr (6, mf)) := by rw [ek3]; exact xs_ne (xn_cl fk2_q fk2_mn (by decide)) fk2_mn
  have fk3_li : k3[li]? = some (.inl (19, les)) := by rw [ek3]; exact xs_ne (xn_ra fk2_q fk2_li) fk2_li
  have fk3_r : k3[r]? = some (.inr (8, rf)) := by rw [ek3]; exact xs_ne (xn_cl fk2_q fk2_r (by decide)) fk2_r
  have F3 : FrX (fun x => x = q) hp k3 := FrX.tr F2 (show FrX (fun x => x = q) k2 k3 by rw [ek3]; exact FrX.so fk2_q (by decide) rfl (by decide)) (fun x h => Or.inl h)
  refine At.go (q := xm139) rfl 2 (pc' := 28) (L' := [(0, .ref q), (1, .ref st), (2, .ref mn), (3, .ref v), (4, .ref g)]) (st' := [.ref st, .ref q]) rfl ?_
  refine At.gf rfl (by decide) fk3_st hs9 ?_
  refine At.ic1 (tgt := 38) rfl rfl (fun h => absurd (h.symm.trans (decide_eq_false (fun h => absurd hoa (Int32.not_lt.mpr h)))) (by decide)) (fun _ => ?_)
  refine At.go (q := xm139) rfl 2 (pc' := 51) (L' := [(0, .ref q), (1, .ref st), (2, .ref mn), (3, .ref v), (4, .ref g)]) (st' := [.int (-1), .ref q]) rfl ?_
  refine At.pf rfl fk3_q (Nat.le_of_ble_eq_true rfl) rfl ?_
  obtain ⟨k4, ek4⟩ : ∃ h, h = k3.set q (.inr (7, [.ref st, .ref mn, .ref l1, .ref l2, .ref pa, .int pn, .ref li, .int kp, .int off, .int (-1), .int dn, .ref ln, .int lc, .int (if (Int32.ofNat les.length) < aw then (Int32.ofNat les.length) else aw)])) := ⟨_, rfl⟩
  refine At.hpe ek4 ?_
  have fk4_q : k4[q]? = some (.inr (7, [.ref st, .ref mn, .ref l1, .ref l2, .ref pa, .int pn, .ref li, .int kp, .int off, .int (-1), .int dn, .ref ln, .int lc, .int (if (Int32.ofNat les.length) < aw then (Int32.ofNat les.length) else aw)])) := by rw [ek4]; exact xs_eq fk3_q
  have fk4_st : k4[st]? = some (.inr (12, sf)) := by rw [ek4]; exact xs_ne (xn_cl fk3_q fk3_st (by decide)) fk3_st
  have fk4_mn : k4[mn]? = some (.inr (6, mf)) := by rw [ek4]; exact xs_ne (xn_cl fk3_q fk3_mn (by decide)) fk3_mn
  have fk4_li : k4[li]? = some (.inl (19, les)) := by rw [ek4]; exact xs_ne (xn_ra fk3_q fk3_li) fk3_li
  have fk4_r : k4[r]? = some (.inr (8, rf)) := by rw [ek4]; exact xs_ne (xn_cl fk3_q fk3_r (by decide)) fk3_r
  have F4 : FrX (fun x => x = q) hp k4 := FrX.tr F3 (show FrX (fun x => x = q) k3 k4 by rw [ek4]; exact FrX.so fk3_q (by decide) rfl (by decide)) (fun x h => Or.inl h)
  refine At.go (q := xm139) rfl 2 (pc' := 56) (L' := [(0, .ref q), (1, .ref st), (2, .ref mn), (3, .ref v), (4, .ref g)]) (st' := [.ref st, .ref q]) rfl ?_
  refine At.gf rfl (by decide) fk4_st hs0 ?_
  refine At.go (q := xm139) rfl 1 (pc' := 60) (L' := [(0, .ref q), (1, .ref st), (2, .ref mn), (3, .ref v), (4, .ref g)]) (st' := [.ref st, .ref r, .ref q]) rfl ?_
  refine At.gf rfl (by decide) fk4_st hs9 ?_
  refine At.go (q := xm139) rfl 2 (pc' := 65) (L' := [(0, .ref q), (1, .ref st), (2, .ref mn), (3, .ref v), (4, .ref g)]) (st' := [.int (oa - 1), .ref r, .ref q]) rfl ?_
  refine At.clp (as := [.ref r, .int (oa - 1)]) (rest := [.ref q]) rfl (by decide) rfl (Nat.le_of_ble_eq_true rfl) (Nat.le_of_ble_eq_true rfl) (xrck_o (by decide) (by decide) fk4_r (by decide)) (Nat.le_of_ble_eq_true rfl) (hkw _ F4) ?_
  refine At.go (q := xm139) rfl 1 (pc' := 71) (L' := [(0, .ref q), (1, .ref st), (2, .ref mn), (3, .ref v), (4, .ref g)]) (st' := [.retAddr 14, .retAddr kw, .ref q]) rfl ?_
  refine At.acn (tgt := 78) (b := b14) rfl rfl e14 (fun h71 => ?_) (fun h71 => ?_)
  · rw [h71] at hK
    refine At.go (q := xm139) rfl 1 (pc' := 79) (L' := [(0, .ref q), (1, .ref st), (2, .ref mn), (3, .ref v), (4, .ref g)]) (st' := [.int 0, .ref q]) rfl ?_
    refine At.pf rfl fk4_q (Nat.le_of_ble_eq_true rfl) rfl ?_
    obtain ⟨k5, ek5⟩ : ∃ h, h = k4.set q (.inr (7, [.ref st, .ref mn, .ref l1, .ref l2, .ref pa, .int pn, .ref li, .int kp, .int off, .int (-1), .int 0, .ref ln, .int lc, .int (if (Int32.ofNat les.length) < aw then (Int32.ofNat les.length) else aw)])) := ⟨_, rfl⟩
    refine At.hpe ek5 ?_
    have fk5_q : k5[q]? = some (.inr (7, [.ref st, .ref mn, .ref l1, .ref l2, .ref pa, .int pn, .ref li, .int kp, .int off, .int (-1), .int 0, .ref ln, .int lc, .int (if (Int32.ofNat les.length) < aw then (Int32.ofNat les.length) else aw)])) := by rw [ek5]; exact xs_eq fk4_q
    have fk5_st : k5[st]? = some (.inr (12, sf)) := by rw [ek5]; exact xs_ne (xn_cl fk4_q fk4_st (by decide)) fk4_st
    have fk5_mn : k5[mn]? = some (.inr (6, mf)) := by rw [ek5]; exact xs_ne (xn_cl fk4_q fk4_mn (by decide)) fk4_mn
    have fk5_li : k5[li]? = some (.inl (19, les)) := by rw [ek5]; exact xs_ne (xn_ra fk4_q fk4_li) fk4_li
    have fk5_r : k5[r]? = some (.inr (8, rf)) := by rw [ek5]; exact xs_ne (xn_cl fk4_q fk4_r (by decide)) fk4_r
    have F5 : FrX (fun x => x = q) hp k5 := FrX.tr F4 (show FrX (fun x => x = q) k4 k5 by rw [ek5]; exact FrX.so fk4_q (by decide) rfl (by decide)) (fun x h => Or.inl h)
    refine At.go (q := xm139) rfl 1 (pc' := 83) (L' := [(0, .ref q), (1, .ref st), (2, .ref mn), (3, .ref v), (4, .ref g)]) (st' := [.ref st]) rfl ?_
    refine At.gf rfl (by decide) fk5_st hs10 ?_
    refine At.ic1 (tgt := 94) rfl rfl (fun h => absurd (h.symm.trans (decide_eq_false (fun h => absurd htp (Int32.not_lt.mpr h)))) (by decide)) (fun _ => ?_)
    refine At.go (q := xm139) rfl 6 (pc' := 113) (L' := [(5, .int 999999999), (0, .ref q), (1, .ref st), (2, .ref mn), (3, .ref v), (4, .ref g)]) (st' := [.int 150, .int 999999999, .ref q]) rfl ?_
    refine At.sp rfl (by decide) (g := ([.int (if 150 < (999999999 : Int32) then 150 else (999999999 : Int32)), .ref q], k5)) rfl ?_
    refine At.pf rfl fk5_q (Nat.le_of_ble_eq_true rfl) xfit_i ?_
    obtain ⟨k6, ek6⟩ : ∃ h, h = k5.set q (.inr (7, [.ref st, .ref mn, .ref l1, .ref l2, .ref pa, .int pn, .ref li, .int (if 150 < (999999999 : Int32) then 150 else (999999999 : Int32)), .int off, .int (-1), .int 0, .ref ln, .int lc, .int (if (Int32.ofNat les.length) < aw then (Int32.ofNat les.length) else aw)])) := ⟨_, rfl⟩
    refine At.hpe ek6 ?_
    have fk6_q : k6[q]? = some (.inr (7, [.ref st, .ref mn, .ref l1, .ref l2, .ref pa, .int pn, .ref li, .int (if 150 < (999999999 : Int32) then 150 else (999999999 : Int32)), .int off, .int (-1), .int 0, .ref ln, .int lc, .int (if (Int32.ofNat les.length) < aw then (Int32.ofNat les.length) else aw)])) := by rw [ek6]; exact xs_eq fk5_q
    have fk6_st : k6[st]? = some (.inr (12, sf)) := by rw [ek6]; exact xs_ne (xn_cl fk5_q fk5_st (by decide)) fk5_st
    have fk6_mn : k6[mn]? = some (.inr (6, mf)) := by rw [ek6]; exact xs_ne (xn_cl fk5_q fk5_mn (by decide)) fk5_mn
    have fk6_li : k6[li]? = some (.inl (19, les)) := by rw [ek6]; exact xs_ne (xn_ra fk5_q fk5_li) fk5_li
    have fk6_r : k6[r]? = some (.inr (8, rf)) := by rw [ek6]; exact xs_ne (xn_cl fk5_q fk5_r (by decide)) fk5_r
    have F6 : FrX (fun x => x = q) hp k6 := FrX.tr F5 (show FrX (fun x => x = q) k5 k6 by rw [ek6]; exact FrX.so fk5_q (by decide) rfl (by decide)) (fun x h => Or.inl h)
    refine At.go (q := xm139) rfl 2 (pc' := 121) (L' := [(5, .int 999999999), (0, .ref q), (1, .ref st), (2, .ref mn), (3, .ref v), (4, .ref g)]) (st' := [.int 0, .ref q]) rfl ?_
    refine At.pf rfl fk6_q (Nat.le_of_ble_eq_true rfl) rfl ?_
    obtain ⟨k7, ek7⟩ : ∃ h, h = k6.set q (.inr (7, [.ref st, .ref mn, .ref l1, .ref l2, .ref pa, .int pn, .ref li, .int (if 150 < (999999999 : Int32) then 150 else (999999999 : Int32)), .int 0, .int (-1), .int 0, .ref ln, .int lc, .int (if (Int32.ofNat les.length) < aw then (Int32.ofNat les.length) else aw)])) := ⟨_, rfl⟩
    refine At.hpe ek7 ?_
    have fk7_q : k7[q]? = some (.inr (7, [.ref st, .ref mn, .ref l1, .ref l2, .ref pa, .int pn, .ref li, .int (if 150 < (999999999 : Int32) then 150 else (999999999 : Int32)), .int 0, .int (-1), .int 0, .ref ln, .int lc, .int (if (Int32.ofNat les.length) < aw then (Int32.ofNat les.length) else aw)])) := by rw [ek7]; exact xs_eq fk6_q
    have fk7_st : k7[st]? = some (.inr (12, sf)) := by rw [ek7]; exact xs_ne (xn_cl fk6_q fk6_st (by decide)) fk6_st
    have fk7_mn : k7[mn]? = some (.inr (6, mf)) := by rw [ek7]; exact xs_ne (xn_cl fk6_q fk6_mn (by decide)) fk6_mn
    have fk7_li : k7[li]? = some (.inl (19, les)) := by rw [ek7]; exact xs_ne (xn_ra fk6_q fk6_li) fk6_li
    have fk7_r : k7[r]? = some (.inr (8, rf)) := by rw [ek7]; exact xs_ne (xn_cl fk6_q fk6_r (by decide)) fk6_r
    have F7 : FrX (fun x => x = q) hp k7 := FrX.tr F6 (show FrX (fun x => x = q) k6 k7 by rw [ek7]; exact FrX.so fk6_q (by decide) rfl (by decide)) (fun x h => Or.inl h)
    refine At.go (q := xm139) rfl 2 (pc' := 126) (L' := [(5, .int 999999999), (0, .ref q), (1, .ref st), (2, .ref mn), (3, .ref v), (4, .ref g)]) (st' := [.int 0, .ref q]) rfl ?_
    refine At.pf rfl fk7_q (Nat.le_of_ble_eq_true rfl) rfl ?_
    obtain ⟨k8, ek8⟩ : ∃ h, h = k7.set q (.inr (7, [.ref st, .ref mn, .ref l1, .ref l2, .ref pa, .int pn, .ref li, .int (if 150 < (999999999 : Int32) then 150 else (999999999 : Int32)), .int 0, .int (-1), .int 0, .ref ln, .int 0, .int (if (Int32.ofNat les.length) < aw then (Int32.ofNat les.length) else aw)])) := ⟨_, rfl⟩
    refine At.hpe ek8 ?_
    have fk8_q : k8[q]? = some (.inr (7, [.ref st, .ref mn, .ref l1, .ref l2, .ref pa, .int pn, .ref li, .int (if 150 < (999999999 : Int32) then 150 else (999999999 : Int32)), .int 0, .int (-1), .int 0, .ref ln, .int 0, .int (if (Int32.ofNat les.length) < aw then (Int32.ofNat les.length) else aw)])) := by rw [ek8]; exact xs_eq fk7_q
    have fk8_st : k8[st]? = some (.inr (12, sf)) := by rw [ek8]; exact xs_ne (xn_cl fk7_q fk7_st (by decide)) fk7_st
    have fk8_mn : k8[mn]? = some (.inr (6, mf)) := by rw [ek8]; exact xs_ne (xn_cl fk7_q fk7_mn (by decide)) fk7_mn
    have fk8_li : k8[li]? = some (.inl (19, les)) := by rw [ek8]; exact xs_ne (xn_ra fk7_q fk7_li) fk7_li
    have fk8_r : k8[r]? = some (.inr (8, rf)) := by rw [ek8]; exact xs_ne (xn_cl fk7_q fk7_r (by decide)) fk7_r
    have F8 : FrX (fun x => x = q) hp k8 := FrX.tr F7 (show FrX (fun x => x = q) k7 k8 by rw [ek8]; exact FrX.so fk7_q (by decide) rfl (by decide)) (fun x h => Or.inl h)
    refine At.wk (L' := [(5, .int 999999999), (0, .ref q), (2, .ref mn), (3, .ref v), (4, .ref g)]) (List.forall_mem_cons.mpr ⟨List.mem_of_getElem? (i := 0) rfl, (List.forall_mem_cons.mpr ⟨List.mem_of_getElem? (i := 1) rfl, (List.forall_mem_cons.mpr ⟨List.mem_of_getElem? (i := 3) rfl, (List.forall_mem_cons.mpr ⟨List.mem_of_getElem? (i := 4) rfl, (List.forall_mem_cons.mpr ⟨List.mem_of_getElem? (i := 5) rfl, (fun _ h => (List.not_mem_nil h).elim)⟩)⟩)⟩)⟩)⟩) (show ([5, 0, 1, 2, 3, 4] : List Nat).Nodup by decide) ?_
    exact hK _ F8 fk8_q
  · rw [h71] at hK
    refine At.go (q := xm139) rfl 2 (pc' := 79) (L' := [(0, .ref q), (1, .ref st), (2, .ref mn), (3, .ref v), (4, .ref g)]) (st' := [.int 1, .ref q]) rfl ?_
    refine At.pf rfl fk4_q (Nat.le_of_ble_eq_true rfl) rfl ?_
    obtain ⟨k5, ek5⟩ : ∃ h, h = k4.set q (.inr (7, [.ref st, .ref mn, .ref l1, .ref l2, .ref pa, .int pn, .ref li, .int kp, .int off, .int (-1), .int 1, .ref ln, .int lc, .int (if (Int32.ofNat les.length) < aw then (Int32.ofNat les.length) else aw)])) := ⟨_, rfl⟩
    refine At.hpe ek5 ?_
    have fk5_q : k5[q]? = some (.inr (7, [.ref st, .ref mn, .ref l1, .ref l2, .ref pa, .int pn, .ref li, .int kp, .int off, .int (-1), .int 1, .ref ln, .int lc, .int (if (Int32.ofNat les.length) < aw then (Int32.ofNat les.length) else aw)])) := by rw [ek5]; exact xs_eq fk4_q
    have fk5_st : k5[st]? = some (.inr (12, sf)) := by rw [ek5]; exact xs_ne (xn_cl fk4_q fk4_st (by decide)) fk4_st
    have fk5_mn : k5[mn]? = some (.inr (6, mf)) := by rw [ek5]; exact xs_ne (xn_cl fk4_q fk4_mn (by decide)) fk4_mn
    have fk5_li : k5[li]? = some (.inl (19, les)) := by rw [ek5]; exact xs_ne (xn_ra fk4_q fk4_li) fk4_li
    have fk5_r : k5[r]? = some (.inr (8, rf)) := by rw [ek5]; exact xs_ne (xn_cl fk4_q fk4_r (by decide)) fk4_r
    have F5 : FrX (fun x => x = q) hp k5 := FrX.tr F4 (show FrX (fun x => x = q) k4 k5 by rw [ek5]; exact FrX.so fk4_q (by decide) rfl (by decide)) (fun x h => Or.inl h)
    refine At.go (q := xm139) rfl 1 (pc' := 83) (L' := [(0, .ref q), (1, .ref st), (2, .ref mn), (3, .ref v), (4, .ref g)]) (st' := [.ref st]) rfl ?_
    refine At.gf rfl (by decide) fk5_st hs10 ?_
    refine At.ic1 (tgt := 94) rfl rfl (fun h => absurd (h.symm.trans (decide_eq_false (fun h => absurd htp (Int32.not_lt.mpr h)))) (by decide)) (fun _ => ?_)
    refine At.go (q := xm139) rfl 6 (pc' := 113) (L' := [(5, .int 999999999), (0, .ref q), (1, .ref st), (2, .ref mn), (3, .ref v), (4, .ref g)]) (st' := [.int 150, .int 999999999, .ref q]) rfl ?_
    refine At.sp rfl (by decide) (g := ([.int (if 150 < (999999999 : Int32) then 150 else (999999999 : Int32)), .ref q], k5)) rfl ?_
    refine At.pf rfl fk5_q (Nat.le_of_ble_eq_true rfl) xfit_i ?_
    obtain ⟨k6, ek6⟩ : ∃ h, h = k5.set q (.inr (7, [.ref st, .ref mn, .ref l1, .ref l2, .ref pa, .int pn, .ref li, .int (if 150 < (999999999 : Int32) then 150 else (999999999 : Int32)), .int off, .int (-1), .int 1, .ref ln, .int lc, .int (if (Int32.ofNat les.length) < aw then (Int32.ofNat les.length) else aw)])) := ⟨_, rfl⟩
    refine At.hpe ek6 ?_
    have fk6_q : k6[q]? = some (.inr (7, [.ref st, .ref mn, .ref l1, .ref l2, .ref pa, .int pn, .ref li, .int (if 150 < (999999999 : Int32) then 150 else (999999999 : Int32)), .int off, .int (-1), .int 1, .ref ln, .int lc, .int (if (Int32.ofNat les.length) < aw then (Int32.ofNat les.length) else aw)])) := by rw [ek6]; exact xs_eq fk5_q
    have fk6_st : k6[st]? = some (.inr (12, sf)) := by rw [ek6]; exact xs_ne (xn_cl fk5_q fk5_st (by decide)) fk5_st
    have fk6_mn : k6[mn]? = some (.inr (6, mf)) := by rw [ek6]; exact xs_ne (xn_cl fk5_q fk5_mn (by decide)) fk5_mn
    have fk6_li : k6[li]? = some (.inl (19, les)) := by rw [ek6]; exact xs_ne (xn_ra fk5_q fk5_li) fk5_li
    have fk6_r : k6[r]? = some (.inr (8, rf)) := by rw [ek6]; exact xs_ne (xn_cl fk5_q fk5_r (by decide)) fk5_r
    have F6 : FrX (fun x => x = q) hp k6 := FrX.tr F5 (show FrX (fun x => x = q) k5 k6 by rw [ek6]; exact FrX.so fk5_q (by decide) rfl (by decide)) (fun x h => Or.inl h)
    refine At.go (q := xm139) rfl 2 (pc' := 121) (L' := [(5, .int 999999999), (0, .ref q), (1, .ref st), (2, .ref mn), (3, .ref v), (4, .ref g)]) (st' := [.int 0, .ref q]) rfl ?_
    refine At.pf rfl fk6_q (Nat.le_of_ble_eq_true rfl) rfl ?_
    obtain ⟨k7, ek7⟩ : ∃ h, h = k6.set q (.inr (7, [.ref st, .ref mn, .ref l1, .ref l2, .ref pa, .int pn, .ref li, .int (if 150 < (999999999 : Int32) then 150 else (999999999 : Int32)), .int 0, .int (-1), .int 1, .ref ln, .int lc, .int (if (Int32.ofNat les.length) < aw then (Int32.ofNat les.length) else aw)])) := ⟨_, rfl⟩
    refine At.hpe ek7 ?_
    have fk7_q : k7[q]? = some (.inr (7, [.ref st, .ref mn, .ref l1, .ref l2, .ref pa, .int pn, .ref li, .int (if 150 < (999999999 : Int32) then 150 else (999999999 : Int32)), .int 0, .int (-1), .int 1, .ref ln, .int lc, .int (if (Int32.ofNat les.length) < aw then (Int32.ofNat les.length) else aw)])) := by rw [ek7]; exact xs_eq fk6_q
    have fk7_st : k7[st]? = some (.inr (12, sf)) := by rw [ek7]; exact xs_ne (xn_cl fk6_q fk6_st (by decide)) fk6_st
    have fk7_mn : k7[mn]? = some (.inr (6, mf)) := by rw [ek7]; exact xs_ne (xn_cl fk6_q fk6_mn (by decide)) fk6_mn
    have fk7_li : k7[li]? = some (.inl (19, les)) := by rw [ek7]; exact xs_ne (xn_ra fk6_q fk6_li) fk6_li
    have fk7_r : k7[r]? = some (.inr (8, rf)) := by rw [ek7]; exact xs_ne (xn_cl fk6_q fk6_r (by decide)) fk6_r
    have F7 : FrX (fun x => x = q) hp k7 := FrX.tr F6 (show FrX (fun x => x = q) k6 k7 by rw [ek7]; exact FrX.so fk6_q (by decide) rfl (by decide)) (fun x h => Or.inl h)
    refine At.go (q := xm139) rfl 2 (pc' := 126) (L' := [(5, .int 999999999), (0, .ref q), (1, .ref st), (2, .ref mn), (3, .ref v), (4, .ref g)]) (st' := [.int 0, .ref q]) rfl ?_
    refine At.pf rfl fk7_q (Nat.le_of_ble_eq_true rfl) rfl ?_
    obtain ⟨k8, ek8⟩ : ∃ h, h = k7.set q (.inr (7, [.ref st, .ref mn, .ref l1, .ref l2, .ref pa, .int pn, .ref li, .int (if 150 < (999999999 : Int32) then 150 else (999999999 : Int32)), .int 0, .int (-1), .int 1, .ref ln, .int 0, .int (if (Int32.ofNat les.length) < aw then (Int32.ofNat les.length) else aw)])) := ⟨_, rfl⟩
    refine At.hpe ek8 ?_
    have fk8_q : k8[q]? = some (.inr (7, [.ref st, .ref mn, .ref l1, .ref l2, .ref pa, .int pn, .ref li, .int (if 150 < (999999999 : Int32) then 150 else (999999999 : Int32)), .int 0, .int (-1), .int 1, .ref ln, .int 0, .int (if (Int32.ofNat les.length) < aw then (Int32.ofNat les.length) else aw)])) := by rw [ek8]; exact xs_eq fk7_q
    have fk8_st : k8[st]? = some (.inr (12, sf)) := by rw [ek8]; exact xs_ne (xn_cl fk7_q fk7_st (by decide)) fk7_st
    have fk8_mn : k8[mn]? = some (.inr (6, mf)) := by rw [ek8]; exact xs_ne (xn_cl fk7_q fk7_mn (by decide)) fk7_mn
    have fk8_li : k8[li]? = some (.inl (19, les)) := by rw [ek8]; exact xs_ne (xn_ra fk7_q fk7_li) fk7_li
    have fk8_r : k8[r]? = some (.inr (8, rf)) := by rw [ek8]; exact xs_ne (xn_cl fk7_q fk7_r (by decide)) fk7_r
    have F8 : FrX (fun x => x = q) hp k8 := FrX.tr F7 (show FrX (fun x => x = q) k7 k8 by rw [ek8]; exact FrX.so fk7_q (by decide) rfl (by decide)) (fun x h => Or.inl h)
    refine At.wk (L' := [(5, .int 999999999), (0, .ref q), (2, .ref mn), (3, .ref v), (4, .ref g)]) (List.forall_mem_cons.mpr ⟨List.mem_of_getElem? (i := 0) rfl, (List.forall_mem_cons.mpr ⟨List.mem_of_getElem? (i := 1) rfl, (List.forall_mem_cons.mpr ⟨List.mem_of_getElem? (i := 3) rfl, (List.forall_mem_cons.mpr ⟨List.mem_of_getElem? (i := 4) rfl, (List.forall_mem_cons.mpr ⟨List.mem_of_getElem? (i := 5) rfl, (fun _ h => (List.not_mem_nil h).elim)⟩)⟩)⟩)⟩)⟩) (show ([5, 0, 1, 2, 3, 4] : List Nat).Nodup by decide) ?_
    exact hK _ F8 fk8_q
theorem an_headNS {S : List Int32} {hp : List XC} {q st mn v g l1 l2 pa li ln r kw nc ns : Nat} {q0 q1 : Value} {pn kp off so dn lc wd oa tp aw : Int32} {sf mf rf les : List Value} {b14 : Bool} {Q : XO → Prop} (hq : hp[q]? = some (.inr (7, [q0, q1, .ref l1, .ref l2, .ref pa, .int pn, .ref li, .int kp, .int off, .int so, .int dn, .ref ln, .int lc, .int wd]))) (hst : hp[st]? = some (.inr (12, sf))) (hm : hp[mn]? = some (.inr (6, mf))) (hli : hp[li]? = some (.inl (19, les))) (hr : hp[r]? = some (.inr (8, rf))) (hs0 : sf[0]? = some (.ref r)) (hs9 : sf[9]? = some (.int oa)) (hs10 : sf[10]? = some (.int tp)) (haw : ∀ h, FrX (fun x => x = q) hp h → Pu S 1 106 [.ref mn] h (.int aw)) (hoa : oa < 0) (hkw : ∀ h, FrX (fun x => x = q) hp h → Pu S 0 52 [.ref r, .int (oa - 1)] h (.retAddr kw)) (e14 : xeq xKC (.retAddr kw) (.retAddr 14) = some b14) (htp : ¬ tp < 0) {tv : Int32} (htv : ∀ h, FrX (fun x => x = q) hp h → Pu S 0 62 [.ref r, .int tp] h (.int tv)) (hK : ∀ h', FrX (fun x => x = q) hp h' → h'[q]? = some (.inr (7, [.ref st, .ref mn, .ref l1, .ref l2, .ref pa, .int pn, .ref li, .int (if 150 < (tv : Int32) then 150 else (tv : Int32)), .int 0, .int (-1), .int (bI b14), .ref ln, .int 0, .int (if (Int32.ofNat les.length) < aw then (Int32.ofNat les.length) else aw)])) → At S 8 139 129 [(5, .int tv), (0, .ref q), (2, .ref mn), (3, .ref v), (4, .ref g)] [] h' nc ns Q) : At S 8 139 0 [(0, .ref q), (1, .ref st), (2, .ref mn), (3, .ref v), (4, .ref g)] [] hp nc ns Q := by
  have F0 : FrX (fun x => x = q) hp hp := FrX.rf
  refine At.go (q := xm139) rfl 2 (pc' := 2) (L' := [(0, .ref q), (1, .ref st), (2, .ref mn), (3, .ref v), (4, .ref g)]) (st' := [.ref st, .ref q]) rfl ?_
  refine At.pf rfl hq (Nat.le_of_ble_eq_true rfl) rfl ?_
  obtain ⟨k1, ek1⟩ : ∃ h, h = hp.set q (.inr (7, [.ref st, q1, .ref l1, .ref l2, .ref pa, .int pn, .ref li, .int kp, .int off, .int so, .int dn, .ref ln, .int lc, .int wd])) := ⟨_, rfl⟩
  refine At.hpe ek1 ?_
  have fk1_q : k1[q]? = some (.inr (7, [.ref st, q1, .ref l1, .ref l2, .ref pa, .int pn, .ref li, .int kp, .int off, .int so, .int dn, .ref ln, .int lc, .int wd])) := by rw [ek1]; exact xs_eq hq
  have fk1_st : k1[st]? = some (.inr (12, sf)) := by rw [ek1]; exact xs_ne (xn_cl hq hst (by decide)) hst
  have fk1_mn : k1[mn]? = some (.inr (6, mf)) := by rw [ek1]; exact xs_ne (xn_cl hq hm (by decide)) hm
  have fk1_li : k1[li]? = some (.inl (19, les)) := by rw [ek1]; exact xs_ne (xn_ra hq hli) hli
  have fk1_r : k1[r]? = some (.inr (8, rf)) := by rw [ek1]; exact xs_ne (xn_cl hq hr (by decide)) hr
  have F1 : FrX (fun x => x = q) hp k1 := FrX.tr F0 (show FrX (fun x => x = q) hp k1 by rw [ek1]; exact FrX.so hq (by decide) rfl (by decide)) (fun x h => Or.inl h)
  refine At.go (q := xm139) rfl 2 (pc' := 7) (L' := [(0, .ref q), (1, .ref st), (2, .ref mn), (3, .ref v), (4, .ref g)]) (st' := [.ref mn, .ref q]) rfl ?_
  refine At.pf rfl fk1_q (Nat.le_of_ble_eq_true rfl) rfl ?_
  obtain ⟨k2, ek2⟩ : ∃ h, h = k1.set q (.inr (7, [.ref st, .ref mn, .ref l1, .ref l2, .ref pa, .int pn, .ref li, .int kp, .int off, .int so, .int dn, .ref ln, .int lc, .int wd])) := ⟨_, rfl⟩
  refine At.hpe ek2 ?_
  have fk2_q : k2[q]? = some (.inr (7, [.ref st, .ref mn, .ref l1, .ref l2, .ref pa, .int pn, .ref li, .int kp, .int off, .int so, .int dn, .ref ln, .int lc, .int wd])) := by rw [ek2]; exact xs_eq fk1_q
  have fk2_st : k2[st]? = some (.inr (12, sf)) := by rw [ek2]; exact xs_ne (xn_cl fk1_q fk1_st (by decide)) fk1_st
  have fk2_mn : k2[mn]? = some (.inr (6, mf)) := by rw [ek2]; exact xs_ne (xn_cl fk1_q fk1_mn (by decide)) fk1_mn
  have fk2_li : k2[li]? = some (.inl (19, les)) := by rw [ek2]; exact xs_ne (xn_ra fk1_q fk1_li) fk1_li
  have fk2_r : k2[r]? = some (.inr (8, rf)) := by rw [ek2]; exact xs_ne (xn_cl fk1_q fk1_r (by decide)) fk1_r
  have F2 : FrX (fun x => x = q) hp k2 := FrX.tr F1 (show FrX (fun x => x = q) k1 k2 by rw [ek2]; exact FrX.so fk1_q (by decide) rfl (by decide)) (fun x h => Or.inl h)
  refine At.go (q := xm139) rfl 2 (pc' := 12) (L' := [(0, .ref q), (1, .ref st), (2, .ref mn), (3, .ref v), (4, .ref g)]) (st' := [.ref mn, .ref q]) rfl ?_
  refine At.clp (as := [.ref mn]) (rest := [.ref q]) rfl (by decide) rfl (Nat.le_of_ble_eq_true rfl) (Nat.le_of_ble_eq_true rfl) (xrck_o (by decide) (by decide) fk2_mn (by decide)) (Nat.le_of_ble_eq_true rfl) (haw _ F2) ?_
  refine At.go (q := xm139) rfl 1 (pc' := 16) (L' := [(0, .ref q), (1, .ref st), (2, .ref mn), (3, .ref v), (4, .ref g)]) (st' := [.ref q, .int aw, .ref q]) rfl ?_
  refine At.gf rfl (by decide) fk2_q rfl ?_
  refine At.ln rfl fk2_li ?_
  refine At.sp rfl (by decide) (g := ([.int (if (Int32.ofNat les.length) < aw then (Int32.ofNat les.length) else aw), .ref q], k2)) rfl ?_
  refine At.pf rfl fk2_q (Nat.le_of_ble_eq_true rfl) xfit_i ?_
  obtain ⟨k3, ek3⟩ : ∃ h, h = k2.set q (.inr (7, [.ref st, .ref mn, .ref l1, .ref l2, .ref pa, .int pn, .ref li, .int kp, .int off, .int so, .int dn, .ref ln, .int lc, .int (if (Int32.ofNat les.length) < aw then (Int32.ofNat les.length) else aw)])) := ⟨_, rfl⟩
  refine At.hpe ek3 ?_
  have fk3_q : k3[q]? = some (.inr (7, [.ref st, .ref mn, .ref l1, .ref l2, .ref pa, .int pn, .ref li, .int kp, .int off, .int so, .int dn, .ref ln, .int lc, .int (if (Int32.ofNat les.length) < aw then (Int32.ofNat les.length) else aw)])) := by rw [ek3]; exact xs_eq fk2_q
  have fk3_st : k3[st]? = some (.inr (12, sf)) := by rw [ek3]; exact xs_ne (xn_cl fk2_q fk2_st (by decide)) fk2_st
  have fk3_mn : k3[mn]? = some (.inr (6, mf)) := by rw [ek3]; exact xs_ne (xn_cl fk2_q fk2_mn (by decide)) fk2_mn
  have fk3_li : k3[li]? = some (.inl (19, les)) := by rw [ek3]; exact xs_ne (xn_ra fk2_q fk2_li) fk2_li
  have fk3_r : k3[r]? = some (.inr (8, rf)) := by rw [ek3]; exact xs_ne (xn_cl fk2_q fk2_r (by decide)) fk2_r
  have F3 : FrX (fun x => x = q) hp k3 := FrX.tr F2 (show FrX (fun x => x = q) k2 k3 by rw [ek3]; exact FrX.so fk2_q (by decide) rfl (by decide)) (fun x h => Or.inl h)
  refine At.go (q := xm139) rfl 2 (pc' := 28) (L' := [(0, .ref q), (1, .ref st), (2, .ref mn), (3, .ref v), (4, .ref g)]) (st' := [.ref st, .ref q]) rfl ?_
  refine At.gf rfl (by decide) fk3_st hs9 ?_
  refine At.ic1 (tgt := 38) rfl rfl (fun h => absurd (h.symm.trans (decide_eq_false (fun h => absurd hoa (Int32.not_lt.mpr h)))) (by decide)) (fun _ => ?_)
  refine At.go (q := xm139) rfl 2 (pc' := 51) (L' := [(0, .ref q), (1, .ref st), (2, .ref mn), (3, .ref v), (4, .ref g)]) (st' := [.int (-1), .ref q]) rfl ?_
  refine At.pf rfl fk3_q (Nat.le_of_ble_eq_true rfl) rfl ?_
  obtain ⟨k4, ek4⟩ : ∃ h, h = k3.set q (.inr (7, [.ref st, .ref mn, .ref l1, .ref l2, .ref pa, .int pn, .ref li, .int kp, .int off, .int (-1), .int dn, .ref ln, .int lc, .int (if (Int32.ofNat les.length) < aw then (Int32.ofNat les.length) else aw)])) := ⟨_, rfl⟩
  refine At.hpe ek4 ?_
  have fk4_q : k4[q]? = some (.inr (7, [.ref st, .ref mn, .ref l1, .ref l2, .ref pa, .int pn, .ref li, .int kp, .int off, .int (-1), .int dn, .ref ln, .int lc, .int (if (Int32.ofNat les.length) < aw then (Int32.ofNat les.length) else aw)])) := by rw [ek4]; exact xs_eq fk3_q
  have fk4_st : k4[st]? = some (.inr (12, sf)) := by rw [ek4]; exact xs_ne (xn_cl fk3_q fk3_st (by decide)) fk3_st
  have fk4_mn : k4[mn]? = some (.inr (6, mf)) := by rw [ek4]; exact xs_ne (xn_cl fk3_q fk3_mn (by decide)) fk3_mn
  have fk4_li : k4[li]? = some (.inl (19, les)) := by rw [ek4]; exact xs_ne (xn_ra fk3_q fk3_li) fk3_li
  have fk4_r : k4[r]? = some (.inr (8, rf)) := by rw [ek4]; exact xs_ne (xn_cl fk3_q fk3_r (by decide)) fk3_r
  have F4 : FrX (fun x => x = q) hp k4 := FrX.tr F3 (show FrX (fun x => x = q) k3 k4 by rw [ek4]; exact FrX.so fk3_q (by decide) rfl (by decide)) (fun x h => Or.inl h)
  refine At.go (q := xm139) rfl 2 (pc' := 56) (L' := [(0, .ref q), (1, .ref st), (2, .ref mn), (3, .ref v), (4, .ref g)]) (st' := [.ref st, .ref q]) rfl ?_
  refine At.gf rfl (by decide) fk4_st hs0 ?_
  refine At.go (q := xm139) rfl 1 (pc' := 60) (L' := [(0, .ref q), (1, .ref st), (2, .ref mn), (3, .ref v), (4, .ref g)]) (st' := [.ref st, .ref r, .ref q]) rfl ?_
  refine At.gf rfl (by decide) fk4_st hs9 ?_
  refine At.go (q := xm139) rfl 2 (pc' := 65) (L' := [(0, .ref q), (1, .ref st), (2, .ref mn), (3, .ref v), (4, .ref g)]) (st' := [.int (oa - 1), .ref r, .ref q]) rfl ?_
  refine At.clp (as := [.ref r, .int (oa - 1)]) (rest := [.ref q]) rfl (by decide) rfl (Nat.le_of_ble_eq_true rfl) (Nat.le_of_ble_eq_true rfl) (xrck_o (by decide) (by decide) fk4_r (by decide)) (Nat.le_of_ble_eq_true rfl) (hkw _ F4) ?_
  refine At.go (q := xm139) rfl 1 (pc' := 71) (L' := [(0, .ref q), (1, .ref st), (2, .ref mn), (3, .ref v), (4, .ref g)]) (st' := [.retAddr 14, .retAddr kw, .ref q]) rfl ?_
  refine At.acn (tgt := 78) (b := b14) rfl rfl e14 (fun h71 => ?_) (fun h71 => ?_)
  · rw [h71] at hK
    refine At.go (q := xm139) rfl 1 (pc' := 79) (L' := [(0, .ref q), (1, .ref st), (2, .ref mn), (3, .ref v), (4, .ref g)]) (st' := [.int 0, .ref q]) rfl ?_
    refine At.pf rfl fk4_q (Nat.le_of_ble_eq_true rfl) rfl ?_
    obtain ⟨k5, ek5⟩ : ∃ h, h = k4.set q (.inr (7, [.ref st, .ref mn, .ref l1, .ref l2, .ref pa, .int pn, .ref li, .int kp, .int off, .int (-1), .int 0, .ref ln, .int lc, .int (if (Int32.ofNat les.length) < aw then (Int32.ofNat les.length) else aw)])) := ⟨_, rfl⟩
    refine At.hpe ek5 ?_
    have fk5_q : k5[q]? = some (.inr (7, [.ref st, .ref mn, .ref l1, .ref l2, .ref pa, .int pn, .ref li, .int kp, .int off, .int (-1), .int 0, .ref ln, .int lc, .int (if (Int32.ofNat les.length) < aw then (Int32.ofNat les.length) else aw)])) := by rw [ek5]; exact xs_eq fk4_q
    have fk5_st : k5[st]? = some (.inr (12, sf)) := by rw [ek5]; exact xs_ne (xn_cl fk4_q fk4_st (by decide)) fk4_st
    have fk5_mn : k5[mn]? = some (.inr (6, mf)) := by rw [ek5]; exact xs_ne (xn_cl fk4_q fk4_mn (by decide)) fk4_mn
    have fk5_li : k5[li]? = some (.inl (19, les)) := by rw [ek5]; exact xs_ne (xn_ra fk4_q fk4_li) fk4_li
    have fk5_r : k5[r]? = some (.inr (8, rf)) := by rw [ek5]; exact xs_ne (xn_cl fk4_q fk4_r (by decide)) fk4_r
    have F5 : FrX (fun x => x = q) hp k5 := FrX.tr F4 (show FrX (fun x => x = q) k4 k5 by rw [ek5]; exact FrX.so fk4_q (by decide) rfl (by decide)) (fun x h => Or.inl h)
    refine At.go (q := xm139) rfl 1 (pc' := 83) (L' := [(0, .ref q), (1, .ref st), (2, .ref mn), (3, .ref v), (4, .ref g)]) (st' := [.ref st]) rfl ?_
    refine At.gf rfl (by decide) fk5_st hs10 ?_
    refine At.ic1 (tgt := 94) rfl rfl (fun _ => ?_) (fun h => absurd (h.symm.trans (decide_eq_true (Int32.not_lt.mp htp))) (by decide))
    refine At.go (q := xm139) rfl 1 (pc' := 95) (L' := [(0, .ref q), (1, .ref st), (2, .ref mn), (3, .ref v), (4, .ref g)]) (st' := [.ref st]) rfl ?_
    refine At.gf rfl (by decide) fk5_st hs0 ?_
    refine At.go (q := xm139) rfl 1 (pc' := 99) (L' := [(0, .ref q), (1, .ref st), (2, .ref mn), (3, .ref v), (4, .ref g)]) (st' := [.ref st, .ref r]) rfl ?_
    refine At.gf rfl (by decide) fk5_st hs10 ?_
    refine At.clp (as := [.ref r, .int tp]) (rest := []) rfl (by decide) rfl (Nat.le_of_ble_eq_true rfl) (Nat.le_of_ble_eq_true rfl) (xrck_o (by decide) (by decide) fk5_r (by decide)) (Nat.le_of_ble_eq_true rfl) (htv _ F5) ?_
    refine At.go (q := xm139) rfl 4 (pc' := 113) (L' := [(5, .int tv), (0, .ref q), (1, .ref st), (2, .ref mn), (3, .ref v), (4, .ref g)]) (st' := [.int 150, .int tv, .ref q]) rfl ?_
    refine At.sp rfl (by decide) (g := ([.int (if 150 < tv then 150 else tv), .ref q], k5)) rfl ?_
    refine At.pf rfl fk5_q (Nat.le_of_ble_eq_true rfl) xfit_i ?_
    obtain ⟨k6, ek6⟩ : ∃ h, h = k5.set q (.inr (7, [.ref st, .ref mn, .ref l1, .ref l2, .ref pa, .int pn, .ref li, .int (if 150 < tv then 150 else tv), .int off, .int (-1), .int 0, .ref ln, .int lc, .int (if (Int32.ofNat les.length) < aw then (Int32.ofNat les.length) else aw)])) := ⟨_, rfl⟩
    refine At.hpe ek6 ?_
    have fk6_q : k6[q]? = some (.inr (7, [.ref st, .ref mn, .ref l1, .ref l2, .ref pa, .int pn, .ref li, .int (if 150 < tv then 150 else tv), .int off, .int (-1), .int 0, .ref ln, .int lc, .int (if (Int32.ofNat les.length) < aw then (Int32.ofNat les.length) else aw)])) := by rw [ek6]; exact xs_eq fk5_q
    have fk6_st : k6[st]? = some (.inr (12, sf)) := by rw [ek6]; exact xs_ne (xn_cl fk5_q fk5_st (by decide)) fk5_st
    have fk6_mn : k6[mn]? = some (.inr (6, mf)) := by rw [ek6]; exact xs_ne (xn_cl fk5_q fk5_mn (by decide)) fk5_mn
    have fk6_li : k6[li]? = some (.inl (19, les)) := by rw [ek6]; exact xs_ne (xn_ra fk5_q fk5_li) fk5_li
    have fk6_r : k6[r]? = some (.inr (8, rf)) := by rw [ek6]; exact xs_ne (xn_cl fk5_q fk5_r (by decide)) fk5_r
    have F6 : FrX (fun x => x = q) hp k6 := FrX.tr F5 (show FrX (fun x => x = q) k5 k6 by rw [ek6]; exact FrX.so fk5_q (by decide) rfl (by decide)) (fun x h => Or.inl h)
    refine At.go (q := xm139) rfl 2 (pc' := 121) (L' := [(5, .int tv), (0, .ref q), (1, .ref st), (2, .ref mn), (3, .ref v), (4, .ref g)]) (st' := [.int 0, .ref q]) rfl ?_
    refine At.pf rfl fk6_q (Nat.le_of_ble_eq_true rfl) rfl ?_
    obtain ⟨k7, ek7⟩ : ∃ h, h = k6.set q (.inr (7, [.ref st, .ref mn, .ref l1, .ref l2, .ref pa, .int pn, .ref li, .int (if 150 < tv then 150 else tv), .int 0, .int (-1), .int 0, .ref ln, .int lc, .int (if (Int32.ofNat les.length) < aw then (Int32.ofNat les.length) else aw)])) := ⟨_, rfl⟩
    refine At.hpe ek7 ?_
    have fk7_q : k7[q]? = some (.inr (7, [.ref st, .ref mn, .ref l1, .ref l2, .ref pa, .int pn, .ref li, .int (if 150 < tv then 150 else tv), .int 0, .int (-1), .int 0, .ref ln, .int lc, .int (if (Int32.ofNat les.length) < aw then (Int32.ofNat les.length) else aw)])) := by rw [ek7]; exact xs_eq fk6_q
    have fk7_st : k7[st]? = some (.inr (12, sf)) := by rw [ek7]; exact xs_ne (xn_cl fk6_q fk6_st (by decide)) fk6_st
    have fk7_mn : k7[mn]? = some (.inr (6, mf)) := by rw [ek7]; exact xs_ne (xn_cl fk6_q fk6_mn (by decide)) fk6_mn
    have fk7_li : k7[li]? = some (.inl (19, les)) := by rw [ek7]; exact xs_ne (xn_ra fk6_q fk6_li) fk6_li
    have fk7_r : k7[r]? = some (.inr (8, rf)) := by rw [ek7]; exact xs_ne (xn_cl fk6_q fk6_r (by decide)) fk6_r
    have F7 : FrX (fun x => x = q) hp k7 := FrX.tr F6 (show FrX (fun x => x = q) k6 k7 by rw [ek7]; exact FrX.so fk6_q (by decide) rfl (by decide)) (fun x h => Or.inl h)
    refine At.go (q := xm139) rfl 2 (pc' := 126) (L' := [(5, .int tv), (0, .ref q), (1, .ref st), (2, .ref mn), (3, .ref v), (4, .ref g)]) (st' := [.int 0, .ref q]) rfl ?_
    refine At.pf rfl fk7_q (Nat.le_of_ble_eq_true rfl) rfl ?_
    obtain ⟨k8, ek8⟩ : ∃ h, h = k7.set q (.inr (7, [.ref st, .ref mn, .ref l1, .ref l2, .ref pa, .int pn, .ref li, .int (if 150 < tv then 150 else tv), .int 0, .int (-1), .int 0, .ref ln, .int 0, .int (if (Int32.ofNat les.length) < aw then (Int32.ofNat les.length) else aw)])) := ⟨_, rfl⟩
    refine At.hpe ek8 ?_
    have fk8_q : k8[q]? = some (.inr (7, [.ref st, .ref mn, .ref l1, .ref l2, .ref pa, .int pn, .ref li, .int (if 150 < tv then 150 else tv), .int 0, .int (-1), .int 0, .ref ln, .int 0, .int (if (Int32.ofNat les.length) < aw then (Int32.ofNat les.length) else aw)])) := by rw [ek8]; exact xs_eq fk7_q
    have fk8_st : k8[st]? = some (.inr (12, sf)) := by rw [ek8]; exact xs_ne (xn_cl fk7_q fk7_st (by decide)) fk7_st
    have fk8_mn : k8[mn]? = some (.inr (6, mf)) := by rw [ek8]; exact xs_ne (xn_cl fk7_q fk7_mn (by decide)) fk7_mn
    have fk8_li : k8[li]? = some (.inl (19, les)) := by rw [ek8]; exact xs_ne (xn_ra fk7_q fk7_li) fk7_li
    have fk8_r : k8[r]? = some (.inr (8, rf)) := by rw [ek8]; exact xs_ne (xn_cl fk7_q fk7_r (by decide)) fk7_r
    have F8 : FrX (fun x => x = q) hp k8 := FrX.tr F7 (show FrX (fun x => x = q) k7 k8 by rw [ek8]; exact FrX.so fk7_q (by decide) rfl (by decide)) (fun x h => Or.inl h)
    refine At.wk (L' := [(5, .int tv), (0, .ref q), (2, .ref mn), (3, .ref v), (4, .ref g)]) (List.forall_mem_cons.mpr ⟨List.mem_of_getElem? (i := 0) rfl, (List.forall_mem_cons.mpr ⟨List.mem_of_getElem? (i := 1) rfl, (List.forall_mem_cons.mpr ⟨List.mem_of_getElem? (i := 3) rfl, (List.forall_mem_cons.mpr ⟨List.mem_of_getElem? (i := 4) rfl, (List.forall_mem_cons.mpr ⟨List.mem_of_getElem? (i := 5) rfl, (fun _ h => (List.not_mem_nil h).elim)⟩)⟩)⟩)⟩)⟩) (show ([5, 0, 1, 2, 3, 4] : List Nat).Nodup by decide) ?_
    exact hK _ F8 fk8_q
  · rw [h71] at hK
    refine At.go (q := xm139) rfl 2 (pc' := 79) (L' := [(0, .ref q), (1, .ref st), (2, .ref mn), (3, .ref v), (4, .ref g)]) (st' := [.int 1, .ref q]) rfl ?_
    refine At.pf rfl fk4_q (Nat.le_of_ble_eq_true rfl) rfl ?_
    obtain ⟨k5, ek5⟩ : ∃ h, h = k4.set q (.inr (7, [.ref st, .ref mn, .ref l1, .ref l2, .ref pa, .int pn, .ref li, .int kp, .int off, .int (-1), .int 1, .ref ln, .int lc, .int (if (Int32.ofNat les.length) < aw then (Int32.ofNat les.length) else aw)])) := ⟨_, rfl⟩
    refine At.hpe ek5 ?_
    have fk5_q : k5[q]? = some (.inr (7, [.ref st, .ref mn, .ref l1, .ref l2, .ref pa, .int pn, .ref li, .int kp, .int off, .int (-1), .int 1, .ref ln, .int lc, .int (if (Int32.ofNat les.length) < aw then (Int32.ofNat les.length) else aw)])) := by rw [ek5]; exact xs_eq fk4_q
    have fk5_st : k5[st]? = some (.inr (12, sf)) := by rw [ek5]; exact xs_ne (xn_cl fk4_q fk4_st (by decide)) fk4_st
    have fk5_mn : k5[mn]? = some (.inr (6, mf)) := by rw [ek5]; exact xs_ne (xn_cl fk4_q fk4_mn (by decide)) fk4_mn
    have fk5_li : k5[li]? = some (.inl (19, les)) := by rw [ek5]; exact xs_ne (xn_ra fk4_q fk4_li) fk4_li
    have fk5_r : k5[r]? = some (.inr (8, rf)) := by rw [ek5]; exact xs_ne (xn_cl fk4_q fk4_r (by decide)) fk4_r
    have F5 : FrX (fun x => x = q) hp k5 := FrX.tr F4 (show FrX (fun x => x = q) k4 k5 by rw [ek5]; exact FrX.so fk4_q (by decide) rfl (by decide)) (fun x h => Or.inl h)
    refine At.go (q := xm139) rfl 1 (pc' := 83) (L' := [(0, .ref q), (1, .ref st), (2, .ref mn), (3, .ref v), (4, .ref g)]) (st' := [.ref st]) rfl ?_
    refine At.gf rfl (by decide) fk5_st hs10 ?_
    refine At.ic1 (tgt := 94) rfl rfl (fun _ => ?_) (fun h => absurd (h.symm.trans (decide_eq_true (Int32.not_lt.mp htp))) (by decide))
    refine At.go (q := xm139) rfl 1 (pc' := 95) (L' := [(0, .ref q), (1, .ref st), (2, .ref mn), (3, .ref v), (4, .ref g)]) (st' := [.ref st]) rfl ?_
    refine At.gf rfl (by decide) fk5_st hs0 ?_
    refine At.go (q := xm139) rfl 1 (pc' := 99) (L' := [(0, .ref q), (1, .ref st), (2, .ref mn), (3, .ref v), (4, .ref g)]) (st' := [.ref st, .ref r]) rfl ?_
    refine At.gf rfl (by decide) fk5_st hs10 ?_
    refine At.clp (as := [.ref r, .int tp]) (rest := []) rfl (by decide) rfl (Nat.le_of_ble_eq_true rfl) (Nat.le_of_ble_eq_true rfl) (xrck_o (by decide) (by decide) fk5_r (by decide)) (Nat.le_of_ble_eq_true rfl) (htv _ F5) ?_
    refine At.go (q := xm139) rfl 4 (pc' := 113) (L' := [(5, .int tv), (0, .ref q), (1, .ref st), (2, .ref mn), (3, .ref v), (4, .ref g)]) (st' := [.int 150, .int tv, .ref q]) rfl ?_
    refine At.sp rfl (by decide) (g := ([.int (if 150 < tv then 150 else tv), .ref q], k5)) rfl ?_
    refine At.pf rfl fk5_q (Nat.le_of_ble_eq_true rfl) xfit_i ?_
    obtain ⟨k6, ek6⟩ : ∃ h, h = k5.set q (.inr (7, [.ref st, .ref mn, .ref l1, .ref l2, .ref pa, .int pn, .ref li, .int (if 150 < tv then 150 else tv), .int off, .int (-1), .int 1, .ref ln, .int lc, .int (if (Int32.ofNat les.length) < aw then (Int32.ofNat les.length) else aw)])) := ⟨_, rfl⟩
    refine At.hpe ek6 ?_
    have fk6_q : k6[q]? = some (.inr (7, [.ref st, .ref mn, .ref l1, .ref l2, .ref pa, .int pn, .ref li, .int (if 150 < tv then 150 else tv), .int off, .int (-1), .int 1, .ref ln, .int lc, .int (if (Int32.ofNat les.length) < aw then (Int32.ofNat les.length) else aw)])) := by rw [ek6]; exact xs_eq fk5_q
    have fk6_st : k6[st]? = some (.inr (12, sf)) := by rw [ek6]; exact xs_ne (xn_cl fk5_q fk5_st (by decide)) fk5_st
    have fk6_mn : k6[mn]? = some (.inr (6, mf)) := by rw [ek6]; exact xs_ne (xn_cl fk5_q fk5_mn (by decide)) fk5_mn
    have fk6_li : k6[li]? = some (.inl (19, les)) := by rw [ek6]; exact xs_ne (xn_ra fk5_q fk5_li) fk5_li
    have fk6_r : k6[r]? = some (.inr (8, rf)) := by rw [ek6]; exact xs_ne (xn_cl fk5_q fk5_r (by decide)) fk5_r
    have F6 : FrX (fun x => x = q) hp k6 := FrX.tr F5 (show FrX (fun x => x = q) k5 k6 by rw [ek6]; exact FrX.so fk5_q (by decide) rfl (by decide)) (fun x h => Or.inl h)
    refine At.go (q := xm139) rfl 2 (pc' := 121) (L' := [(5, .int tv), (0, .ref q), (1, .ref st), (2, .ref mn), (3, .ref v), (4, .ref g)]) (st' := [.int 0, .ref q]) rfl ?_
    refine At.pf rfl fk6_q (Nat.le_of_ble_eq_true rfl) rfl ?_
    obtain ⟨k7, ek7⟩ : ∃ h, h = k6.set q (.inr (7, [.ref st, .ref mn, .ref l1, .ref l2, .ref pa, .int pn, .ref li, .int (if 150 < tv then 150 else tv), .int 0, .int (-1), .int 1, .ref ln, .int lc, .int (if (Int32.ofNat les.length) < aw then (Int32.ofNat les.length) else aw)])) := ⟨_, rfl⟩
    refine At.hpe ek7 ?_
    have fk7_q : k7[q]? = some (.inr (7, [.ref st, .ref mn, .ref l1, .ref l2, .ref pa, .int pn, .ref li, .int (if 150 < tv then 150 else tv), .int 0, .int (-1), .int 1, .ref ln, .int lc, .int (if (Int32.ofNat les.length) < aw then (Int32.ofNat les.length) else aw)])) := by rw [ek7]; exact xs_eq fk6_q
    have fk7_st : k7[st]? = some (.inr (12, sf)) := by rw [ek7]; exact xs_ne (xn_cl fk6_q fk6_st (by decide)) fk6_st
    have fk7_mn : k7[mn]? = some (.inr (6, mf)) := by rw [ek7]; exact xs_ne (xn_cl fk6_q fk6_mn (by decide)) fk6_mn
    have fk7_li : k7[li]? = some (.inl (19, les)) := by rw [ek7]; exact xs_ne (xn_ra fk6_q fk6_li) fk6_li
    have fk7_r : k7[r]? = some (.inr (8, rf)) := by rw [ek7]; exact xs_ne (xn_cl fk6_q fk6_r (by decide)) fk6_r
    have F7 : FrX (fun x => x = q) hp k7 := FrX.tr F6 (show FrX (fun x => x = q) k6 k7 by rw [ek7]; exact FrX.so fk6_q (by decide) rfl (by decide)) (fun x h => Or.inl h)
    refine At.go (q := xm139) rfl 2 (pc' := 126) (L' := [(5, .int tv), (0, .ref q), (1, .ref st), (2, .ref mn), (3, .ref v), (4, .ref g)]) (st' := [.int 0, .ref q]) rfl ?_
    refine At.pf rfl fk7_q (Nat.le_of_ble_eq_true rfl) rfl ?_
    obtain ⟨k8, ek8⟩ : ∃ h, h = k7.set q (.inr (7, [.ref st, .ref mn, .ref l1, .ref l2, .ref pa, .int pn, .ref li, .int (if 150 < tv then 150 else tv), .int 0, .int (-1), .int 1, .ref ln, .int 0, .int (if (Int32.ofNat les.length) < aw then (Int32.ofNat les.length) else aw)])) := ⟨_, rfl⟩
    refine At.hpe ek8 ?_
    have fk8_q : k8[q]? = some (.inr (7, [.ref st, .ref mn, .ref l1, .ref l2, .ref pa, .int pn, .ref li, .int (if 150 < tv then 150 else tv), .int 0, .int (-1), .int 1, .ref ln, .int 0, .int (if (Int32.ofNat les.length) < aw then (Int32.ofNat les.length) else aw)])) := by rw [ek8]; exact xs_eq fk7_q
    have fk8_st : k8[st]? = some (.inr (12, sf)) := by rw [ek8]; exact xs_ne (xn_cl fk7_q fk7_st (by decide)) fk7_st
    have fk8_mn : k8[mn]? = some (.inr (6, mf)) := by rw [ek8]; exact xs_ne (xn_cl fk7_q fk7_mn (by decide)) fk7_mn
    have fk8_li : k8[li]? = some (.inl (19, les)) := by rw [ek8]; exact xs_ne (xn_ra fk7_q fk7_li) fk7_li
    have fk8_r : k8[r]? = some (.inr (8, rf)) := by rw [ek8]; exact xs_ne (xn_cl fk7_q fk7_r (by decide)) fk7_r
    have F8 : FrX (fun x => x = q) hp k8 := FrX.tr F7 (show FrX (fun x => x = q) k7 k8 by rw [ek8]; exact FrX.so fk7_q (by decide) rfl (by decide)) (fun x h => Or.inl h)
    refine At.wk (L' := [(5, .int tv), (0, .ref q), (2, .ref mn), (3, .ref v), (4, .ref g)]) (List.forall_mem_cons.mpr ⟨List.mem_of_getElem? (i := 0) rfl, (List.forall_mem_cons.mpr ⟨List.mem_of_getElem? (i := 1) rfl, (List.forall_mem_cons.mpr ⟨List.mem_of_getElem? (i := 3) rfl, (List.forall_mem_cons.mpr ⟨List.mem_of_getElem? (i := 4) rfl, (List.forall_mem_cons.mpr ⟨List.mem_of_getElem? (i := 5) rfl, (fun _ h => (List.not_mem_nil h).elim)⟩)⟩)⟩)⟩)⟩) (show ([5, 0, 1, 2, 3, 4] : List Nat).Nodup by decide) ?_
    exact hK _ F8 fk8_q
theorem an_headSN {S : List Int32} {hp : List XC} {q st mn v g l1 l2 pa li ln r kw nc ns : Nat} {q0 q1 : Value} {pn kp off so dn lc wd oa tp aw : Int32} {sf mf rf les : List Value} {b14 : Bool} {Q : XO → Prop} (hq : hp[q]? = some (.inr (7, [q0, q1, .ref l1, .ref l2, .ref pa, .int pn, .ref li, .int kp, .int off, .int so, .int dn, .ref ln, .int lc, .int wd]))) (hst : hp[st]? = some (.inr (12, sf))) (hm : hp[mn]? = some (.inr (6, mf))) (hli : hp[li]? = some (.inl (19, les))) (hr : hp[r]? = some (.inr (8, rf))) (hs0 : sf[0]? = some (.ref r)) (hs9 : sf[9]? = some (.int oa)) (hs10 : sf[10]? = some (.int tp)) (haw : ∀ h, FrX (fun x => x = q) hp h → Pu S 1 106 [.ref mn] h (.int aw)) (hoa : ¬ oa < 0) {ov : Int32} (hov : ∀ h, FrX (fun x => x = q) hp h → Pu S 0 62 [.ref r, .int oa] h (.int ov)) (hkw : ∀ h, FrX (fun x => x = q) hp h → Pu S 0 52 [.ref r, .int (oa - 1)] h (.retAddr kw)) (e14 : xeq xKC (.retAddr kw) (.retAddr 14) = some b14) (htp : tp < 0) (hK : ∀ h', FrX (fun x => x = q) hp h' → h'[q]? = some (.inr (7, [.ref st, .ref mn, .ref l1, .ref l2, .ref pa, .int pn, .ref li, .int (if 150 < (999999999 : Int32) then 150 else (999999999 : Int32)), .int 0, .int (ov - 1), .int (bI b14), .ref ln, .int 0, .int (if (Int32.ofNat les.length) < aw then (Int32.ofNat les.length) else aw)])) → At S 8 139 129 [(5, .int 999999999), (0, .ref q), (2, .ref mn), (3, .ref v), (4, .ref g)] [] h' nc ns Q) : At S 8 139 0 [(0, .ref q), (1, .ref st), (2, .ref mn), (3, .ref v), (4, .ref g)] [] hp nc ns Q := by
  have F0 : FrX (fun x => x = q) hp hp := FrX.rf
  refine At.go (q := xm139) rfl 2 (pc' := 2) (L' := [(0, .ref q), (1, .ref st), (2, .ref mn), (3, .ref v), (4, .ref g)]) (st' := [.ref st, .ref q]) rfl ?_
  refine At.pf rfl hq (Nat.le_of_ble_eq_true rfl) rfl ?_
  obtain ⟨k1, ek1⟩ : ∃ h, h = hp.set q (.inr (7, [.ref st, q1, .ref l1, .ref l2, .ref pa, .int pn, .ref li, .int kp, .int off, .int so, .int dn, .ref ln, .int lc, .int wd])) := ⟨_, rfl⟩
  refine At.hpe ek1 ?_
  have fk1_q : k1[q]? = some (.inr (7, [.ref st, q1, .ref l1, .ref l2, .ref pa, .int pn, .ref li, .int kp, .int off, .int so, .int dn, .ref ln, .int lc, .int wd])) := by rw [ek1]; exact xs_eq hq
  have fk1_st : k1[st]? = some (.inr (12, sf)) := by rw [ek1]; exact xs_ne (xn_cl hq hst (by decide)) hst
  have fk1_mn : k1[mn]? = some (.inr (6, mf)) := by rw [ek1]; exact xs_ne (xn_cl hq hm (by decide)) hm
  have fk1_li : k1[li]? = some (.inl (19, les)) := by rw [ek1]; exact xs_ne (xn_ra hq hli) hli
  have fk1_r : k1[r]? = some (.inr (8, rf)) := by rw [ek1]; exact xs_ne (xn_cl hq hr (by decide)) hr
  have F1 : FrX (fun x => x = q) hp k1 := FrX.tr F0 (show FrX (fun x => x = q) hp k1 by rw [ek1]; exact FrX.so hq (by decide) rfl (by decide)) (fun x h => Or.inl h)
  refine At.go (q := xm139) rfl 2 (pc' := 7) (L' := [(0, .ref q), (1, .ref st), (2, .ref mn), (3, .ref v), (4, .ref g)]) (st' := [.ref mn, .ref q]) rfl ?_
  refine At.pf rfl fk1_q (Nat.le_of_ble_eq_true rfl) rfl ?_
  obtain ⟨k2, ek2⟩ : ∃ h, h = k1.set q (.inr (7, [.ref st, .ref mn, .ref l1, .ref l2, .ref pa, .int pn, .ref li, .int kp, .int off, .int so, .int dn, .ref ln, .int lc, .int wd])) := ⟨_, rfl⟩
  refine At.hpe ek2 ?_
  have fk2_q : k2[q]? = some (.inr (7, [.ref st, .ref mn, .ref l1, .ref l2, .ref pa, .int pn, .ref li, .int kp, .int off, .int so, .int dn, .ref ln, .int lc, .int wd])) := by rw [ek2]; exact xs_eq fk1_q
  have fk2_st : k2[st]? = some (.inr (12, sf)) := by rw [ek2]; exact xs_ne (xn_cl fk1_q fk1_st (by decide)) fk1_st
  have fk2_mn : k2[mn]? = some (.inr (6, mf)) := by rw [ek2]; exact xs_ne (xn_cl fk1_q fk1_mn (by decide)) fk1_mn
  have fk2_li : k2[li]? = some (.inl (19, les)) := by rw [ek2]; exact xs_ne (xn_ra fk1_q fk1_li) fk1_li
  have fk2_r : k2[r]? = some (.inr (8, rf)) := by rw [ek2]; exact xs_ne (xn_cl fk1_q fk1_r (by decide)) fk1_r
  have F2 : FrX (fun x => x = q) hp k2 := FrX.tr F1 (show FrX (fun x => x = q) k1 k2 by rw [ek2]; exact FrX.so fk1_q (by decide) rfl (by decide)) (fun x h => Or.inl h)
  refine At.go (q := xm139) rfl 2 (pc' := 12) (L' := [(0, .ref q), (1, .ref st), (2, .ref mn), (3, .ref v), (4, .ref g)]) (st' := [.ref mn, .ref q]) rfl ?_
  refine At.clp (as := [.ref mn]) (rest := [.ref q]) rfl (by decide) rfl (Nat.le_of_ble_eq_true rfl) (Nat.le_of_ble_eq_true rfl) (xrck_o (by decide) (by decide) fk2_mn (by decide)) (Nat.le_of_ble_eq_true rfl) (haw _ F2) ?_
  refine At.go (q := xm139) rfl 1 (pc' := 16) (L' := [(0, .ref q), (1, .ref st), (2, .ref mn), (3, .ref v), (4, .ref g)]) (st' := [.ref q, .int aw, .ref q]) rfl ?_
  refine At.gf rfl (by decide) fk2_q rfl ?_
  refine At.ln rfl fk2_li ?_
  refine At.sp rfl (by decide) (g := ([.int (if (Int32.ofNat les.length) < aw then (Int32.ofNat les.length) else aw), .ref q], k2)) rfl ?_
  refine At.pf rfl fk2_q (Nat.le_of_ble_eq_true rfl) xfit_i ?_
  obtain ⟨k3, ek3⟩ : ∃ h, h = k2.set q (.inr (7, [.ref st, .ref mn, .ref l1, .ref l2, .ref pa, .int pn, .ref li, .int kp, .int off, .int so, .int dn, .ref ln, .int lc, .int (if (Int32.ofNat les.length) < aw then (Int32.ofNat les.length) else aw)])) := ⟨_, rfl⟩
  refine At.hpe ek3 ?_
  have fk3_q : k3[q]? = some (.inr (7, [.ref st, .ref mn, .ref l1, .ref l2, .ref pa, .int pn, .ref li, .int kp, .int off, .int so, .int dn, .ref ln, .int lc, .int (if (Int32.ofNat les.length) < aw then (Int32.ofNat les.length) else aw)])) := by rw [ek3]; exact xs_eq fk2_q
  have fk3_st : k3[st]? = some (.inr (12, sf)) := by rw [ek3]; exact xs_ne (xn_cl fk2_q fk2_st (by decide)) fk2_st
  have fk3_mn : k3[mn]? = some (.inr (6, mf)) := by rw [ek3]; exact xs_ne (xn_cl fk2_q fk2_mn (by decide)) fk2_mn
  have fk3_li : k3[li]? = some (.inl (19, les)) := by rw [ek3]; exact xs_ne (xn_ra fk2_q fk2_li) fk2_li
  have fk3_r : k3[r]? = some (.inr (8, rf)) := by rw [ek3]; exact xs_ne (xn_cl fk2_q fk2_r (by decide)) fk2_r
  have F3 : FrX (fun x => x = q) hp k3 := FrX.tr F2 (show FrX (fun x => x = q) k2 k3 by rw [ek3]; exact FrX.so fk2_q (by decide) rfl (by decide)) (fun x h => Or.inl h)
  refine At.go (q := xm139) rfl 2 (pc' := 28) (L' := [(0, .ref q), (1, .ref st), (2, .ref mn), (3, .ref v), (4, .ref g)]) (st' := [.ref st, .ref q]) rfl ?_
  refine At.gf rfl (by decide) fk3_st hs9 ?_
  refine At.ic1 (tgt := 38) rfl rfl (fun _ => ?_) (fun h => absurd (h.symm.trans (decide_eq_true (Int32.not_lt.mp hoa))) (by decide))
  refine At.go (q := xm139) rfl 1 (pc' := 39) (L' := [(0, .ref q), (1, .ref st), (2, .ref mn), (3, .ref v), (4, .ref g)]) (st' := [.ref st, .ref q]) rfl ?_
  refine At.gf rfl (by decide) fk3_st hs0 ?_
  refine At.go (q := xm139) rfl 1 (pc' := 43) (L' := [(0, .ref q), (1, .ref st), (2, .ref mn), (3, .ref v), (4, .ref g)]) (st' := [.ref st, .ref r, .ref q]) rfl ?_
  refine At.gf rfl (by decide) fk3_st hs9 ?_
  refine At.clp (as := [.ref r, .int oa]) (rest := [.ref q]) rfl (by decide) rfl (Nat.le_of_ble_eq_true rfl) (Nat.le_of_ble_eq_true rfl) (xrck_o (by decide) (by decide) fk3_r (by decide)) (Nat.le_of_ble_eq_true rfl) (hov _ F3) ?_
  refine At.go (q := xm139) rfl 2 (pc' := 51) (L' := [(0, .ref q), (1, .ref st), (2, .ref mn), (3, .ref v), (4, .ref g)]) (st' := [.int (ov - 1), .ref q]) rfl ?_
  refine At.pf rfl fk3_q (Nat.le_of_ble_eq_true rfl) xfit_i ?_
  obtain ⟨k4, ek4⟩ : ∃ h, h = k3.set q (.inr (7, [.ref st, .ref mn, .ref l1, .ref l2, .ref pa, .int pn, .ref li, .int kp, .int off, .int (ov - 1), .int dn, .ref ln, .int lc, .int (if (Int32.ofNat les.length) < aw then (Int32.ofNat les.length) else aw)])) := ⟨_, rfl⟩
  refine At.hpe ek4 ?_
  have fk4_q : k4[q]? = some (.inr (7, [.ref st, .ref mn, .ref l1, .ref l2, .ref pa, .int pn, .ref li, .int kp, .int off, .int (ov - 1), .int dn, .ref ln, .int lc, .int (if (Int32.ofNat les.length) < aw then (Int32.ofNat les.length) else aw)])) := by rw [ek4]; exact xs_eq fk3_q
  have fk4_st : k4[st]? = some (.inr (12, sf)) := by rw [ek4]; exact xs_ne (xn_cl fk3_q fk3_st (by decide)) fk3_st
  have fk4_mn : k4[mn]? = some (.inr (6, mf)) := by rw [ek4]; exact xs_ne (xn_cl fk3_q fk3_mn (by decide)) fk3_mn
  have fk4_li : k4[li]? = some (.inl (19, les)) := by rw [ek4]; exact xs_ne (xn_ra fk3_q fk3_li) fk3_li
  have fk4_r : k4[r]? = some (.inr (8, rf)) := by rw [ek4]; exact xs_ne (xn_cl fk3_q fk3_r (by decide)) fk3_r
  have F4 : FrX (fun x => x = q) hp k4 := FrX.tr F3 (show FrX (fun x => x = q) k3 k4 by rw [ek4]; exact FrX.so fk3_q (by decide) rfl (by decide)) (fun x h => Or.inl h)
  refine At.go (q := xm139) rfl 2 (pc' := 56) (L' := [(0, .ref q), (1, .ref st), (2, .ref mn), (3, .ref v), (4, .ref g)]) (st' := [.ref st, .ref q]) rfl ?_
  refine At.gf rfl (by decide) fk4_st hs0 ?_
  refine At.go (q := xm139) rfl 1 (pc' := 60) (L' := [(0, .ref q), (1, .ref st), (2, .ref mn), (3, .ref v), (4, .ref g)]) (st' := [.ref st, .ref r, .ref q]) rfl ?_
  refine At.gf rfl (by decide) fk4_st hs9 ?_
  refine At.go (q := xm139) rfl 2 (pc' := 65) (L' := [(0, .ref q), (1, .ref st), (2, .ref mn), (3, .ref v), (4, .ref g)]) (st' := [.int (oa - 1), .ref r, .ref q]) rfl ?_
  refine At.clp (as := [.ref r, .int (oa - 1)]) (rest := [.ref q]) rfl (by decide) rfl (Nat.le_of_ble_eq_true rfl) (Nat.le_of_ble_eq_true rfl) (xrck_o (by decide) (by decide) fk4_r (by decide)) (Nat.le_of_ble_eq_true rfl) (hkw _ F4) ?_
  refine At.go (q := xm139) rfl 1 (pc' := 71) (L' := [(0, .ref q), (1, .ref st), (2, .ref mn), (3, .ref v), (4, .ref g)]) (st' := [.retAddr 14, .retAddr kw, .ref q]) rfl ?_
  refine At.acn (tgt := 78) (b := b14) rfl rfl e14 (fun h71 => ?_) (fun h71 => ?_)
  · rw [h71] at hK
    refine At.go (q := xm139) rfl 1 (pc' := 79) (L' := [(0, .ref q), (1, .ref st), (2, .ref mn), (3, .ref v), (4, .ref g)]) (st' := [.int 0, .ref q]) rfl ?_
    refine At.pf rfl fk4_q (Nat.le_of_ble_eq_true rfl) rfl ?_
    obtain ⟨k5, ek5⟩ : ∃ h, h = k4.set q (.inr (7, [.ref st, .ref mn, .ref l1, .ref l2, .ref pa, .int pn, .ref li, .int kp, .int off, .int (ov - 1), .int 0, .ref ln, .int lc, .int (if (Int32.ofNat les.length) < aw then (Int32.ofNat les.length) else aw)])) := ⟨_, rfl⟩
    refine At.hpe ek5 ?_
    have fk5_q : k5[q]? = some (.inr (7, [.ref st, .ref mn, .ref l1, .ref l2, .ref pa, .int pn, .ref li, .int kp, .int off, .int (ov - 1), .int 0, .ref ln, .int lc, .int (if (Int32.ofNat les.length) < aw then (Int32.ofNat les.length) else aw)])) := by rw [ek5]; exact xs_eq fk4_q
    have fk5_st : k5[st]? = some (.inr (12, sf)) := by rw [ek5]; exact xs_ne (xn_cl fk4_q fk4_st (by decide)) fk4_st
    have fk5_mn : k5[mn]? = some (.inr (6, mf)) := by rw [ek5]; exact xs_ne (xn_cl fk4_q fk4_mn (by decide)) fk4_mn
    have fk5_li : k5[li]? = some (.inl (19, les)) := by rw [ek5]; exact xs_ne (xn_ra fk4_q fk4_li) fk4_li
    have fk5_r : k5[r]? = some (.inr (8, rf)) := by rw [ek5]; exact xs_ne (xn_cl fk4_q fk4_r (by decide)) fk4_r
    have F5 : FrX (fun x => x = q) hp k5 := FrX.tr F4 (show FrX (fun x => x = q) k4 k5 by rw [ek5]; exact FrX.so fk4_q (by decide) rfl (by decide)) (fun x h => Or.inl h)
    refine At.go (q := xm139) rfl 1 (pc' := 83) (L' := [(0, .ref q), (1, .ref st), (2, .ref mn), (3, .ref v), (4, .ref g)]) (st' := [.ref st]) rfl ?_
    refine At.gf rfl (by decide) fk5_st hs10 ?_
    refine At.ic1 (tgt := 94) rfl rfl (fun h => absurd (h.symm.trans (decide_eq_false (fun h => absurd htp (Int32.not_lt.mpr h)))) (by decide)) (fun _ => ?_)
    refine At.go (q := xm139) rfl 6 (pc' := 113) (L' := [(5, .int 999999999), (0, .ref q), (1, .ref st), (2, .ref mn), (3, .ref v), (4, .ref g)]) (st' := [.int 150, .int 999999999, .ref q]) rfl ?_
    refine At.sp rfl (by decide) (g := ([.int (if 150 < (999999999 : Int32) then 150 else (999999999 : Int32)), .ref q], k5)) rfl ?_
    refine At.pf rfl fk5_q (Nat.le_of_ble_eq_true rfl) xfit_i ?_
    obtain ⟨k6, ek6⟩ : ∃ h, h = k5.set q (.inr (7, [.ref st, .ref mn, .ref l1, .ref l2, .ref pa, .int pn, .ref li, .int (if 150 < (999999999 : Int32) then 150 else (999999999 : Int32)), .int off, .int (ov - 1), .int 0, .ref ln, .int lc, .int (if (Int32.ofNat les.length) < aw then (Int32.ofNat les.length) else aw)])) := ⟨_, rfl⟩
    refine At.hpe ek6 ?_
    have fk6_q : k6[q]? = some (.inr (7, [.ref st, .ref mn, .ref l1, .ref l2, .ref pa, .int pn, .ref li, .int (if 150 < (999999999 : Int32) then 150 else (999999999 : Int32)), .int off, .int (ov - 1), .int 0, .ref ln, .int lc, .int (if (Int32.ofNat les.length) < aw then (Int32.ofNat les.length) else aw)])) := by rw [ek6]; exact xs_eq fk5_q
    have fk6_st : k6[st]? = some (.inr (12, sf)) := by rw [ek6]; exact xs_ne (xn_cl fk5_q fk5_st (by decide)) fk5_st
    have fk6_mn : k6[mn]? = some (.inr (6, mf)) := by rw [ek6]; exact xs_ne (xn_cl fk5_q fk5_mn (by decide)) fk5_mn
    have fk6_li : k6[li]? = some (.inl (19, les)) := by rw [ek6]; exact xs_ne (xn_ra fk5_q fk5_li) fk5_li
    have fk6_r : k6[r]? = some (.inr (8, rf)) := by rw [ek6]; exact xs_ne (xn_cl fk5_q fk5_r (by decide)) fk5_r
    have F6 : FrX (fun x => x = q) hp k6 := FrX.tr F5 (show FrX (fun x => x = q) k5 k6 by rw [ek6]; exact FrX.so fk5_q (by decide) rfl (by decide)) (fun x h => Or.inl h)
    refine At.go (q := xm139) rfl 2 (pc' := 121) (L' := [(5, .int 999999999), (0, .ref q), (1, .ref st), (2, .ref mn), (3, .ref v), (4, .ref g)]) (st' := [.int 0, .ref q]) rfl ?_
    refine At.pf rfl fk6_q (Nat.le_of_ble_eq_true rfl) rfl ?_
    obtain ⟨k7, ek7⟩ : ∃ h, h = k6.set q (.inr (7, [.ref st, .ref mn, .ref l1, .ref l2, .ref pa, .int pn, .ref li, .int (if 150 < (999999999 : Int32) then 150 else (999999999 : Int32)), .int 0, .int (ov - 1), .int 0, .ref ln, .int lc, .int (if (Int32.ofNat les.length) < aw then (Int32.ofNat les.length) else aw)])) := ⟨_, rfl⟩
    refine At.hpe ek7 ?_
    have fk7_q : k7[q]? = some (.inr (7, [.ref st, .ref mn, .ref l1, .ref l2, .ref pa, .int pn, .ref li, .int (if 150 < (999999999 : Int32) then 150 else (999999999 : Int32)), .int 0, .int (ov - 1), .int 0, .ref ln, .int lc, .int (if (Int32.ofNat les.length) < aw then (Int32.ofNat les.length) else aw)])) := by rw [ek7]; exact xs_eq fk6_q
    have fk7_st : k7[st]? = some (.inr (12, sf)) := by rw [ek7]; exact xs_ne (xn_cl fk6_q fk6_st (by decide)) fk6_st
    have fk7_mn : k7[mn]? = some (.inr (6, mf)) := by rw [ek7]; exact xs_ne (xn_cl fk6_q fk6_mn (by decide)) fk6_mn
    have fk7_li : k7[li]? = some (.inl (19, les)) := by rw [ek7]; exact xs_ne (xn_ra fk6_q fk6_li) fk6_li
    have fk7_r : k7[r]? = some (.inr (8, rf)) := by rw [ek7]; exact xs_ne (xn_cl fk6_q fk6_r (by decide)) fk6_r
    have F7 : FrX (fun x => x = q) hp k7 := FrX.tr F6 (show FrX (fun x => x = q) k6 k7 by rw [ek7]; exact FrX.so fk6_q (by decide) rfl (by decide)) (fun x h => Or.inl h)
    refine At.go (q := xm139) rfl 2 (pc' := 126) (L' := [(5, .int 999999999), (0, .ref q), (1, .ref st), (2, .ref mn), (3, .ref v), (4, .ref g)]) (st' := [.int 0, .ref q]) rfl ?_
    refine At.pf rfl fk7_q (Nat.le_of_ble_eq_true rfl) rfl ?_
    obtain ⟨k8, ek8⟩ : ∃ h, h = k7.set q (.inr (7, [.ref st, .ref mn, .ref l1, .ref l2, .ref pa, .int pn, .ref li, .int (if 150 < (999999999 : Int32) then 150 else (999999999 : Int32)), .int 0, .int (ov - 1), .int 0, .ref ln, .int 0, .int (if (Int32.ofNat les.length) < aw then (Int32.ofNat les.length) else aw)])) := ⟨_, rfl⟩
    refine At.hpe ek8 ?_
    have fk8_q : k8[q]? = some (.inr (7, [.ref st, .ref mn, .ref l1, .ref l2, .ref pa, .int pn, .ref li, .int (if 150 < (999999999 : Int32) then 150 else (999999999 : Int32)), .int 0, .int (ov - 1), .int 0, .ref ln, .int 0, .int (if (Int32.ofNat les.length) < aw then (Int32.ofNat les.length) else aw)])) := by rw [ek8]; exact xs_eq fk7_q
    have fk8_st : k8[st]? = some (.inr (12, sf)) := by rw [ek8]; exact xs_ne (xn_cl fk7_q fk7_st (by decide)) fk7_st
    have fk8_mn : k8[mn]? = some (.inr (6, mf)) := by rw [ek8]; exact xs_ne (xn_cl fk7_q fk7_mn (by decide)) fk7_mn
    have fk8_li : k8[li]? = some (.inl (19, les)) := by rw [ek8]; exact xs_ne (xn_ra fk7_q fk7_li) fk7_li
    have fk8_r : k8[r]? = some (.inr (8, rf)) := by rw [ek8]; exact xs_ne (xn_cl fk7_q fk7_r (by decide)) fk7_r
    have F8 : FrX (fun x => x = q) hp k8 := FrX.tr F7 (show FrX (fun x => x = q) k7 k8 by rw [ek8]; exact FrX.so fk7_q (by decide) rfl (by decide)) (fun x h => Or.inl h)
    refine At.wk (L' := [(5, .int 999999999), (0, .ref q), (2, .ref mn), (3, .ref v), (4, .ref g)]) (List.forall_mem_cons.mpr ⟨List.mem_of_getElem? (i := 0) rfl, (List.forall_mem_cons.mpr ⟨List.mem_of_getElem? (i := 1) rfl, (List.forall_mem_cons.mpr ⟨List.mem_of_getElem? (i := 3) rfl, (List.forall_mem_cons.mpr ⟨List.mem_of_getElem? (i := 4) rfl, (List.forall_mem_cons.mpr ⟨List.mem_of_getElem? (i := 5) rfl, (fun _ h => (List.not_mem_nil h).elim)⟩)⟩)⟩)⟩)⟩) (show ([5, 0, 1, 2, 3, 4] : List Nat).Nodup by decide) ?_
    exact hK _ F8 fk8_q
  · rw [h71] at hK
    refine At.go (q := xm139) rfl 2 (pc' := 79) (L' := [(0, .ref q), (1, .ref st), (2, .ref mn), (3, .ref v), (4, .ref g)]) (st' := [.int 1, .ref q]) rfl ?_
    refine At.pf rfl fk4_q (Nat.le_of_ble_eq_true rfl) rfl ?_
    obtain ⟨k5, ek5⟩ : ∃ h, h = k4.set q (.inr (7, [.ref st, .ref mn, .ref l1, .ref l2, .ref pa, .int pn, .ref li, .int kp, .int off, .int (ov - 1), .int 1, .ref ln, .int lc, .int (if (Int32.ofNat les.length) < aw then (Int32.ofNat les.length) else aw)])) := ⟨_, rfl⟩
    refine At.hpe ek5 ?_
    have fk5_q : k5[q]? = some (.inr (7, [.ref st, .ref mn, .ref l1, .ref l2, .ref pa, .int pn, .ref li, .int kp, .int off, .int (ov - 1), .int 1, .ref ln, .int lc, .int (if (Int32.ofNat les.length) < aw then (Int32.ofNat les.length) else aw)])) := by rw [ek5]; exact xs_eq fk4_q
    have fk5_st : k5[st]? = some (.inr (12, sf)) := by rw [ek5]; exact xs_ne (xn_cl fk4_q fk4_st (by decide)) fk4_st
    have fk5_mn : k5[mn]? = some (.inr (6, mf)) := by rw [ek5]; exact xs_ne (xn_cl fk4_q fk4_mn (by decide)) fk4_mn
    have fk5_li : k5[li]? = some (.inl (19, les)) := by rw [ek5]; exact xs_ne (xn_ra fk4_q fk4_li) fk4_li
    have fk5_r : k5[r]? = some (.inr (8, rf)) := by rw [ek5]; exact xs_ne (xn_cl fk4_q fk4_r (by decide)) fk4_r
    have F5 : FrX (fun x => x = q) hp k5 := FrX.tr F4 (show FrX (fun x => x = q) k4 k5 by rw [ek5]; exact FrX.so fk4_q (by decide) rfl (by decide)) (fun x h => Or.inl h)
    refine At.go (q := xm139) rfl 1 (pc' := 83) (L' := [(0, .ref q), (1, .ref st), (2, .ref mn), (3, .ref v), (4, .ref g)]) (st' := [.ref st]) rfl ?_
    refine At.gf rfl (by decide) fk5_st hs10 ?_
    refine At.ic1 (tgt := 94) rfl rfl (fun h => absurd (h.symm.trans (decide_eq_false (fun h => absurd htp (Int32.not_lt.mpr h)))) (by decide)) (fun _ => ?_)
    refine At.go (q := xm139) rfl 6 (pc' := 113) (L' := [(5, .int 999999999), (0, .ref q), (1, .ref st), (2, .ref mn), (3, .ref v), (4, .ref g)]) (st' := [.int 150, .int 999999999, .ref q]) rfl ?_
    refine At.sp rfl (by decide) (g := ([.int (if 150 < (999999999 : Int32) then 150 else (999999999 : Int32)), .ref q], k5)) rfl ?_
    refine At.pf rfl fk5_q (Nat.le_of_ble_eq_true rfl) xfit_i ?_
    obtain ⟨k6, ek6⟩ : ∃ h, h = k5.set q (.inr (7, [.ref st, .ref mn, .ref l1, .ref l2, .ref pa, .int pn, .ref li, .int (if 150 < (999999999 : Int32) then 150 else (999999999 : Int32)), .int off, .int (ov - 1), .int 1, .ref ln, .int lc, .int (if (Int32.ofNat les.length) < aw then (Int32.ofNat les.length) else aw)])) := ⟨_, rfl⟩
    refine At.hpe ek6 ?_
    have fk6_q : k6[q]? = some (.inr (7, [.ref st, .ref mn, .ref l1, .ref l2, .ref pa, .int pn, .ref li, .int (if 150 < (999999999 : Int32) then 150 else (999999999 : Int32)), .int off, .int (ov - 1), .int 1, .ref ln, .int lc, .int (if (Int32.ofNat les.length) < aw then (Int32.ofNat les.length) else aw)])) := by rw [ek6]; exact xs_eq fk5_q
    have fk6_st : k6[st]? = some (.inr (12, sf)) := by rw [ek6]; exact xs_ne (xn_cl fk5_q fk5_st (by decide)) fk5_st
    have fk6_mn : k6[mn]? = some (.inr (6, mf)) := by rw [ek6]; exact xs_ne (xn_cl fk5_q fk5_mn (by decide)) fk5_mn
    have fk6_li : k6[li]? = some (.inl (19, les)) := by rw [ek6]; exact xs_ne (xn_ra fk5_q fk5_li) fk5_li
    have fk6_r : k6[r]? = some (.inr (8, rf)) := by rw [ek6]; exact xs_ne (xn_cl fk5_q fk5_r (by decide)) fk5_r
    have F6 : FrX (fun x => x = q) hp k6 := FrX.tr F5 (show FrX (fun x => x = q) k5 k6 by rw [ek6]; exact FrX.so fk5_q (by decide) rfl (by decide)) (fun x h => Or.inl h)
    refine At.go (q := xm139) rfl 2 (pc' := 121) (L' := [(5, .int 999999999), (0, .ref q), (1, .ref st), (2, .ref mn), (3, .ref v), (4, .ref g)]) (st' := [.int 0, .ref q]) rfl ?_
    refine At.pf rfl fk6_q (Nat.le_of_ble_eq_true rfl) rfl ?_
    obtain ⟨k7, ek7⟩ : ∃ h, h = k6.set q (.inr (7, [.ref st, .ref mn, .ref l1, .ref l2, .ref pa, .int pn, .ref li, .int (if 150 < (999999999 : Int32) then 150 else (999999999 : Int32)), .int 0, .int (ov - 1), .int 1, .ref ln, .int lc, .int (if (Int32.ofNat les.length) < aw then (Int32.ofNat les.length) else aw)])) := ⟨_, rfl⟩
    refine At.hpe ek7 ?_
    have fk7_q : k7[q]? = some (.inr (7, [.ref st, .ref mn, .ref l1, .ref l2, .ref pa, .int pn, .ref li, .int (if 150 < (999999999 : Int32) then 150 else (999999999 : Int32)), .int 0, .int (ov - 1), .int 1, .ref ln, .int lc, .int (if (Int32.ofNat les.length) < aw then (Int32.ofNat les.length) else aw)])) := by rw [ek7]; exact xs_eq fk6_q
    have fk7_st : k7[st]? = some (.inr (12, sf)) := by rw [ek7]; exact xs_ne (xn_cl fk6_q fk6_st (by decide)) fk6_st
    have fk7_mn : k7[mn]? = some (.inr (6, mf)) := by rw [ek7]; exact xs_ne (xn_cl fk6_q fk6_mn (by decide)) fk6_mn
    have fk7_li : k7[li]? = some (.inl (19, les)) := by rw [ek7]; exact xs_ne (xn_ra fk6_q fk6_li) fk6_li
    have fk7_r : k7[r]? = some (.inr (8, rf)) := by rw [ek7]; exact xs_ne (xn_cl fk6_q fk6_r (by decide)) fk6_r
    have F7 : FrX (fun x => x = q) hp k7 := FrX.tr F6 (show FrX (fun x => x = q) k6 k7 by rw [ek7]; exact FrX.so fk6_q (by decide) rfl (by decide)) (fun x h => Or.inl h)
    refine At.go (q := xm139) rfl 2 (pc' := 126) (L' := [(5, .int 999999999), (0, .ref q), (1, .ref st), (2, .ref mn), (3, .ref v), (4, .ref g)]) (st' := [.int 0, .ref q]) rfl ?_
    refine At.pf rfl fk7_q (Nat.le_of_ble_eq_true rfl) rfl ?_
    obtain ⟨k8, ek8⟩ : ∃ h, h = k7.set q (.inr (7, [.ref st, .ref mn, .ref l1, .ref l2, .ref pa, .int pn, .ref li, .int (if 150 < (999999999 : Int32) then 150 else (999999999 : Int32)), .int 0, .int (ov - 1), .int 1, .ref ln, .int 0, .int (if (Int32.ofNat les.length) < aw then (Int32.ofNat les.length) else aw)])) := ⟨_, rfl⟩
    refine At.hpe ek8 ?_
    have fk8_q : k8[q]? = some (.inr (7, [.ref st, .ref mn, .ref l1, .ref l2, .ref pa, .int pn, .ref li, .int (if 150 < (999999999 : Int32) then 150 else (999999999 : Int32)), .int 0, .int (ov - 1), .int 1, .ref ln, .int 0, .int (if (Int32.ofNat les.length) < aw then (Int32.ofNat les.length) else aw)])) := by rw [ek8]; exact xs_eq fk7_q
    have fk8_st : k8[st]? = some (.inr (12, sf)) := by rw [ek8]; exact xs_ne (xn_cl fk7_q fk7_st (by decide)) fk7_st
    have fk8_mn : k8[mn]? = some (.inr (6, mf)) := by rw [ek8]; exact xs_ne (xn_cl fk7_q fk7_mn (by decide)) fk7_mn
    have fk8_li : k8[li]? = some (.inl (19, les)) := by rw [ek8]; exact xs_ne (xn_ra fk7_q fk7_li) fk7_li
    have fk8_r : k8[r]? = some (.inr (8, rf)) := by rw [ek8]; exact xs_ne (xn_cl fk7_q fk7_r (by decide)) fk7_r
    have F8 : FrX (fun x => x = q) hp k8 := FrX.tr F7 (show FrX (fun x => x = q) k7 k8 by rw [ek8]; exact FrX.so fk7_q (by decide) rfl (by decide)) (fun x h => Or.inl h)
    refine At.wk (L' := [(5, .int 999999999), (0, .ref q), (2, .ref mn), (3, .ref v), (4, .ref g)]) (List.forall_mem_cons.mpr ⟨List.mem_of_getElem? (i := 0) rfl, (List.forall_mem_cons.mpr ⟨List.mem_of_getElem? (i := 1) rfl, (List.forall_mem_cons.mpr ⟨List.mem_of_getElem? (i := 3) rfl, (List.forall_mem_cons.mpr ⟨List.mem_of_getElem? (i := 4) rfl, (List.forall_mem_cons.mpr ⟨List.mem_of_getElem? (i := 5) rfl, (fun _ h => (List.not_mem_nil h).elim)⟩)⟩)⟩)⟩)⟩) (show ([5, 0, 1, 2, 3, 4] : List Nat).Nodup by decide) ?_
    exact hK _ F8 fk8_q
theorem an_headSS {S : List Int32} {hp : List XC} {q st mn v g l1 l2 pa li ln r kw nc ns : Nat} {q0 q1 : Value} {pn kp off so dn lc wd oa tp aw : Int32} {sf mf rf les : List Value} {b14 : Bool} {Q : XO → Prop} (hq : hp[q]? = some (.inr (7, [q0, q1, .ref l1, .ref l2, .ref pa, .int pn, .ref li, .int kp, .int off, .int so, .int dn, .ref ln, .int lc, .int wd]))) (hst : hp[st]? = some (.inr (12, sf))) (hm : hp[mn]? = some (.inr (6, mf))) (hli : hp[li]? = some (.inl (19, les))) (hr : hp[r]? = some (.inr (8, rf))) (hs0 : sf[0]? = some (.ref r)) (hs9 : sf[9]? = some (.int oa)) (hs10 : sf[10]? = some (.int tp)) (haw : ∀ h, FrX (fun x => x = q) hp h → Pu S 1 106 [.ref mn] h (.int aw)) (hoa : ¬ oa < 0) {ov : Int32} (hov : ∀ h, FrX (fun x => x = q) hp h → Pu S 0 62 [.ref r, .int oa] h (.int ov)) (hkw : ∀ h, FrX (fun x => x = q) hp h → Pu S 0 52 [.ref r, .int (oa - 1)] h (.retAddr kw)) (e14 : xeq xKC (.retAddr kw) (.retAddr 14) = some b14) (htp : ¬ tp < 0) {tv : Int32} (htv : ∀ h, FrX (fun x => x = q) hp h → Pu S 0 62 [.ref r, .int tp] h (.int tv)) (hK : ∀ h', FrX (fun x => x = q) hp h' → h'[q]? = some (.inr (7, [.ref st, .ref mn, .ref l1, .ref l2, .ref pa, .int pn, .ref li, .int (if 150 < (tv : Int32) then 150 else (tv : Int32)), .int 0, .int (ov - 1), .int (bI b14), .ref ln, .int 0, .int (if (Int32.ofNat les.length) < aw then (Int32.ofNat les.length) else aw)])) → At S 8 139 129 [(5, .int tv), (0, .ref q), (2, .ref mn), (3, .ref v), (4, .ref g)] [] h' nc ns Q) : At S 8 139 0 [(0, .ref q), (1, .ref st), (2, .ref mn), (3, .ref v), (4, .ref g)] [] hp nc ns Q := by
  have F0 : FrX (fun x => x = q) hp hp := FrX.rf
  refine At.go (q := xm139) rfl 2 (pc' := 2) (L' := [(0, .ref q), (1, .ref st), (2, .ref mn), (3, .ref v), (4, .ref g)]) (st' := [.ref st, .ref q]) rfl ?_
  refine At.pf rfl hq (Nat.le_of_ble_eq_true rfl) rfl ?_
  obtain ⟨k1, ek1⟩ : ∃ h, h = hp.set q (.inr (7, [.ref st, q1, .ref l1, .ref l2, .ref pa, .int pn, .ref li, .int kp, .int off, .int so, .int dn, .ref ln, .int lc, .int wd])) := ⟨_, rfl⟩
  refine At.hpe ek1 ?_
  have fk1_q : k1[q]? = some (.inr (7, [.ref st, q1, .ref l1, .ref l2, .ref pa, .int pn, .ref li, .int kp, .int off, .int so, .int dn, .ref ln, .int lc, .int wd])) := by rw [ek1]; exact xs_eq hq
  have fk1_st : k1[st]? = some (.inr (12, sf)) := by rw [ek1]; exact xs_ne (xn_cl hq hst (by decide)) hst
  have fk1_mn : k1[mn]? = some (.inr (6, mf)) := by rw [ek1]; exact xs_ne (xn_cl hq hm (by decide)) hm
  have fk1_li : k1[li]? = some (.inl (19, les)) := by rw [ek1]; exact xs_ne (xn_ra hq hli) hli
  have fk1_r : k1[r]? = some (.inr (8, rf)) := by rw [ek1]; exact xs_ne (xn_cl hq hr (by decide)) hr
  have F1 : FrX (fun x => x = q) hp k1 := FrX.tr F0 (show FrX (fun x => x = q) hp k1 by rw [ek1]; exact FrX.so hq (by decide) rfl (by decide)) (fun x h => Or.inl h)
  refine At.go (q := xm139) rfl 2 (pc' := 7) (L' := [(0, .ref q), (1, .ref st), (2, .ref mn), (3, .ref v), (4, .ref g)]) (st' := [.ref mn, .ref q]) rfl ?_
  refine At.pf rfl fk1_q (Nat.le_of_ble_eq_true rfl) rfl ?_
  obtain ⟨k2, ek2⟩ : ∃ h, h = k1.set q (.inr (7, [.ref st, .ref mn, .ref l1, .ref l2, .ref pa, .int pn, .ref li, .int kp, .int off, .int so, .int dn, .ref ln, .int lc, .int wd])) := ⟨_, rfl⟩
  refine At.hpe ek2 ?_
  have fk2_q : k2[q]? = some (.inr (7, [.ref st, .ref mn, .ref l1, .ref l2, .ref pa, .int pn, .ref li, .int kp, .int off, .int so, .int dn, .ref ln, .int lc, .int wd])) := by rw [ek2]; exact xs_eq fk1_q
  have fk2_st : k2[st]? = some (.inr (12, sf)) := by rw [ek2]; exact xs_ne (xn_cl fk1_q fk1_st (by decide)) fk1_st
  have fk2_mn : k2[mn]? = some (.inr (6, mf)) := by rw [ek2]; exact xs_ne (xn_cl fk1_q fk1_mn (by decide)) fk1_mn
  have fk2_li : k2[li]? = some (.inl (19, les)) := by rw [ek2]; exact xs_ne (xn_ra fk1_q fk1_li) fk1_li
  have fk2_r : k2[r]? = some (.inr (8, rf)) := by rw [ek2]; exact xs_ne (xn_cl fk1_q fk1_r (by decide)) fk1_r
  have F2 : FrX (fun x => x = q) hp k2 := FrX.tr F1 (show FrX (fun x => x = q) k1 k2 by rw [ek2]; exact FrX.so fk1_q (by decide) rfl (by decide)) (fun x h => Or.inl h)
  refine At.go (q := xm139) rfl 2 (pc' := 12) (L' := [(0, .ref q), (1, .ref st), (2, .ref mn), (3, .ref v), (4, .ref g)]) (st' := [.ref mn, .ref q]) rfl ?_
  refine At.clp (as := [.ref mn]) (rest := [.ref q]) rfl (by decide) rfl (Nat.le_of_ble_eq_true rfl) (Nat.le_of_ble_eq_true rfl) (xrck_o (by decide) (by decide) fk2_mn (by decide)) (Nat.le_of_ble_eq_true rfl) (haw _ F2) ?_
  refine At.go (q := xm139) rfl 1 (pc' := 16) (L' := [(0, .ref q), (1, .ref st), (2, .ref mn), (3, .ref v), (4, .ref g)]) (st' := [.ref q, .int aw, .ref q]) rfl ?_
  refine At.gf rfl (by decide) fk2_q rfl ?_
  refine At.ln rfl fk2_li ?_
  refine At.sp rfl (by decide) (g := ([.int (if (Int32.ofNat les.length) < aw then (Int32.ofNat les.length) else aw), .ref q], k2)) rfl ?_
  refine At.pf rfl fk2_q (Nat.le_of_ble_eq_true rfl) xfit_i ?_
  obtain ⟨k3, ek3⟩ : ∃ h, h = k2.set q (.inr (7, [.ref st, .ref mn, .ref l1, .ref l2, .ref pa, .int pn, .ref li, .int kp, .int off, .int so, .int dn, .ref ln, .int lc, .int (if (Int32.ofNat les.length) < aw then (Int32.ofNat les.length) else aw)])) := ⟨_, rfl⟩
  refine At.hpe ek3 ?_
  have fk3_q : k3[q]? = some (.inr (7, [.ref st, .ref mn, .ref l1, .ref l2, .ref pa, .int pn, .ref li, .int kp, .int off, .int so, .int dn, .ref ln, .int lc, .int (if (Int32.ofNat les.length) < aw then (Int32.ofNat les.length) else aw)])) := by rw [ek3]; exact xs_eq fk2_q
  have fk3_st : k3[st]? = some (.inr (12, sf)) := by rw [ek3]; exact xs_ne (xn_cl fk2_q fk2_st (by decide)) fk2_st
  have fk3_mn : k3[mn]? = some (.inr (6, mf)) := by rw [ek3]; exact xs_ne (xn_cl fk2_q fk2_mn (by decide)) fk2_mn
  have fk3_li : k3[li]? = some (.inl (19, les)) := by rw [ek3]; exact xs_ne (xn_ra fk2_q fk2_li) fk2_li
  have fk3_r : k3[r]? = some (.inr (8, rf)) := by rw [ek3]; exact xs_ne (xn_cl fk2_q fk2_r (by decide)) fk2_r
  have F3 : FrX (fun x => x = q) hp k3 := FrX.tr F2 (show FrX (fun x => x = q) k2 k3 by rw [ek3]; exact FrX.so fk2_q (by decide) rfl (by decide)) (fun x h => Or.inl h)
  refine At.go (q := xm139) rfl 2 (pc' := 28) (L' := [(0, .ref q), (1, .ref st), (2, .ref mn), (3, .ref v), (4, .ref g)]) (st' := [.ref st, .ref q]) rfl ?_
  refine At.gf rfl (by decide) fk3_st hs9 ?_
  refine At.ic1 (tgt := 38) rfl rfl (fun _ => ?_) (fun h => absurd (h.symm.trans (decide_eq_true (Int32.not_lt.mp hoa))) (by decide))
  refine At.go (q := xm139) rfl 1 (pc' := 39) (L' := [(0, .ref q), (1, .ref st), (2, .ref mn), (3, .ref v), (4, .ref g)]) (st' := [.ref st, .ref q]) rfl ?_
  refine At.gf rfl (by decide) fk3_st hs0 ?_
  refine At.go (q := xm139) rfl 1 (pc' := 43) (L' := [(0, .ref q), (1, .ref st), (2, .ref mn), (3, .ref v), (4, .ref g)]) (st' := [.ref st, .ref r, .ref q]) rfl ?_
  refine At.gf rfl (by decide) fk3_st hs9 ?_
  refine At.clp (as := [.ref r, .int oa]) (rest := [.ref q]) rfl (by decide) rfl (Nat.le_of_ble_eq_true rfl) (Nat.le_of_ble_eq_true rfl) (xrck_o (by decide) (by decide) fk3_r (by decide)) (Nat.le_of_ble_eq_true rfl) (hov _ F3) ?_
  refine At.go (q := xm139) rfl 2 (pc' := 51) (L' := [(0, .ref q), (1, .ref st), (2, .ref mn), (3, .ref v), (4, .ref g)]) (st' := [.int (ov - 1), .ref q]) rfl ?_
  refine At.pf rfl fk3_q (Nat.le_of_ble_eq_true rfl) xfit_i ?_
  obtain ⟨k4, ek4⟩ : ∃ h, h = k3.set q (.inr (7, [.ref st, .ref mn, .ref l1, .ref l2, .ref pa, .int pn, .ref li, .int kp, .int off, .int (ov - 1), .int dn, .ref ln, .int lc, .int (if (Int32.ofNat les.length) < aw then (Int32.ofNat les.length) else aw)])) := ⟨_, rfl⟩
  refine At.hpe ek4 ?_
  have fk4_q : k4[q]? = some (.inr (7, [.ref st, .ref mn, .ref l1, .ref l2, .ref pa, .int pn, .ref li, .int kp, .int off, .int (ov - 1), .int dn, .ref ln, .int lc, .int (if (Int32.ofNat les.length) < aw then (Int32.ofNat les.length) else aw)])) := by rw [ek4]; exact xs_eq fk3_q
  have fk4_st : k4[st]? = some (.inr (12, sf)) := by rw [ek4]; exact xs_ne (xn_cl fk3_q fk3_st (by decide)) fk3_st
  have fk4_mn : k4[mn]? = some (.inr (6, mf)) := by rw [ek4]; exact xs_ne (xn_cl fk3_q fk3_mn (by decide)) fk3_mn
  have fk4_li : k4[li]? = some (.inl (19, les)) := by rw [ek4]; exact xs_ne (xn_ra fk3_q fk3_li) fk3_li
  have fk4_r : k4[r]? = some (.inr (8, rf)) := by rw [ek4]; exact xs_ne (xn_cl fk3_q fk3_r (by decide)) fk3_r
  have F4 : FrX (fun x => x = q) hp k4 := FrX.tr F3 (show FrX (fun x => x = q) k3 k4 by rw [ek4]; exact FrX.so fk3_q (by decide) rfl (by decide)) (fun x h => Or.inl h)
  refine At.go (q := xm139) rfl 2 (pc' := 56) (L' := [(0, .ref q), (1, .ref st), (2, .ref mn), (3, .ref v), (4, .ref g)]) (st' := [.ref st, .ref q]) rfl ?_
  refine At.gf rfl (by decide) fk4_st hs0 ?_
  refine At.go (q := xm139) rfl 1 (pc' := 60) (L' := [(0, .ref q), (1, .ref st), (2, .ref mn), (3, .ref v), (4, .ref g)]) (st' := [.ref st, .ref r, .ref q]) rfl ?_
  refine At.gf rfl (by decide) fk4_st hs9 ?_
  refine At.go (q := xm139) rfl 2 (pc' := 65) (L' := [(0, .ref q), (1, .ref st), (2, .ref mn), (3, .ref v), (4, .ref g)]) (st' := [.int (oa - 1), .ref r, .ref q]) rfl ?_
  refine At.clp (as := [.ref r, .int (oa - 1)]) (rest := [.ref q]) rfl (by decide) rfl (Nat.le_of_ble_eq_true rfl) (Nat.le_of_ble_eq_true rfl) (xrck_o (by decide) (by decide) fk4_r (by decide)) (Nat.le_of_ble_eq_true rfl) (hkw _ F4) ?_
  refine At.go (q := xm139) rfl 1 (pc' := 71) (L' := [(0, .ref q), (1, .ref st), (2, .ref mn), (3, .ref v), (4, .ref g)]) (st' := [.retAddr 14, .retAddr kw, .ref q]) rfl ?_
  refine At.acn (tgt := 78) (b := b14) rfl rfl e14 (fun h71 => ?_) (fun h71 => ?_)
  · rw [h71] at hK
    refine At.go (q := xm139) rfl 1 (pc' := 79) (L' := [(0, .ref q), (1, .ref st), (2, .ref mn), (3, .ref v), (4, .ref g)]) (st' := [.int 0, .ref q]) rfl ?_
    refine At.pf rfl fk4_q (Nat.le_of_ble_eq_true rfl) rfl ?_
    obtain ⟨k5, ek5⟩ : ∃ h, h = k4.set q (.inr (7, [.ref st, .ref mn, .ref l1, .ref l2, .ref pa, .int pn, .ref li, .int kp, .int off, .int (ov - 1), .int 0, .ref ln, .int lc, .int (if (Int32.ofNat les.length) < aw then (Int32.ofNat les.length) else aw)])) := ⟨_, rfl⟩
    refine At.hpe ek5 ?_
    have fk5_q : k5[q]? = some (.inr (7, [.ref st, .ref mn, .ref l1, .ref l2, .ref pa, .int pn, .ref li, .int kp, .int off, .int (ov - 1), .int 0, .ref ln, .int lc, .int (if (Int32.ofNat les.length) < aw then (Int32.ofNat les.length) else aw)])) := by rw [ek5]; exact xs_eq fk4_q
    have fk5_st : k5[st]? = some (.inr (12, sf)) := by rw [ek5]; exact xs_ne (xn_cl fk4_q fk4_st (by decide)) fk4_st
    have fk5_mn : k5[mn]? = some (.inr (6, mf)) := by rw [ek5]; exact xs_ne (xn_cl fk4_q fk4_mn (by decide)) fk4_mn
    have fk5_li : k5[li]? = some (.inl (19, les)) := by rw [ek5]; exact xs_ne (xn_ra fk4_q fk4_li) fk4_li
    have fk5_r : k5[r]? = some (.inr (8, rf)) := by rw [ek5]; exact xs_ne (xn_cl fk4_q fk4_r (by decide)) fk4_r
    have F5 : FrX (fun x => x = q) hp k5 := FrX.tr F4 (show FrX (fun x => x = q) k4 k5 by rw [ek5]; exact FrX.so fk4_q (by decide) rfl (by decide)) (fun x h => Or.inl h)
    refine At.go (q := xm139) rfl 1 (pc' := 83) (L' := [(0, .ref q), (1, .ref st), (2, .ref mn), (3, .ref v), (4, .ref g)]) (st' := [.ref st]) rfl ?_
    refine At.gf rfl (by decide) fk5_st hs10 ?_
    refine At.ic1 (tgt := 94) rfl rfl (fun _ => ?_) (fun h => absurd (h.symm.trans (decide_eq_true (Int32.not_lt.mp htp))) (by decide))
    refine At.go (q := xm139) rfl 1 (pc' := 95) (L' := [(0, .ref q), (1, .ref st), (2, .ref mn), (3, .ref v), (4, .ref g)]) (st' := [.ref st]) rfl ?_
    refine At.gf rfl (by decide) fk5_st hs0 ?_
    refine At.go (q := xm139) rfl 1 (pc' := 99) (L' := [(0, .ref q), (1, .ref st), (2, .ref mn), (3, .ref v), (4, .ref g)]) (st' := [.ref st, .ref r]) rfl ?_
    refine At.gf rfl (by decide) fk5_st hs10 ?_
    refine At.clp (as := [.ref r, .int tp]) (rest := []) rfl (by decide) rfl (Nat.le_of_ble_eq_true rfl) (Nat.le_of_ble_eq_true rfl) (xrck_o (by decide) (by decide) fk5_r (by decide)) (Nat.le_of_ble_eq_true rfl) (htv _ F5) ?_
    refine At.go (q := xm139) rfl 4 (pc' := 113) (L' := [(5, .int tv), (0, .ref q), (1, .ref st), (2, .ref mn), (3, .ref v), (4, .ref g)]) (st' := [.int 150, .int tv, .ref q]) rfl ?_
    refine At.sp rfl (by decide) (g := ([.int (if 150 < tv then 150 else tv), .ref q], k5)) rfl ?_
    refine At.pf rfl fk5_q (Nat.le_of_ble_eq_true rfl) xfit_i ?_
    obtain ⟨k6, ek6⟩ : ∃ h, h = k5.set q (.inr (7, [.ref st, .ref mn, .ref l1, .ref l2, .ref pa, .int pn, .ref li, .int (if 150 < tv then 150 else tv), .int off, .int (ov - 1), .int 0, .ref ln, .int lc, .int (if (Int32.ofNat les.length) < aw then (Int32.ofNat les.length) else aw)])) := ⟨_, rfl⟩
    refine At.hpe ek6 ?_
    have fk6_q : k6[q]? = some (.inr (7, [.ref st, .ref mn, .ref l1, .ref l2, .ref pa, .int pn, .ref li, .int (if 150 < tv then 150 else tv), .int off, .int (ov - 1), .int 0, .ref ln, .int lc, .int (if (Int32.ofNat les.length) < aw then (Int32.ofNat les.length) else aw)])) := by rw [ek6]; exact xs_eq fk5_q
    have fk6_st : k6[st]? = some (.inr (12, sf)) := by rw [ek6]; exact xs_ne (xn_cl fk5_q fk5_st (by decide)) fk5_st
    have fk6_mn : k6[mn]? = some (.inr (6, mf)) := by rw [ek6]; exact xs_ne (xn_cl fk5_q fk5_mn (by decide)) fk5_mn
    have fk6_li : k6[li]? = some (.inl (19, les)) := by rw [ek6]; exact xs_ne (xn_ra fk5_q fk5_li) fk5_li
    have fk6_r : k6[r]? = some (.inr (8, rf)) := by rw [ek6]; exact xs_ne (xn_cl fk5_q fk5_r (by decide)) fk5_r
    have F6 : FrX (fun x => x = q) hp k6 := FrX.tr F5 (show FrX (fun x => x = q) k5 k6 by rw [ek6]; exact FrX.so fk5_q (by decide) rfl (by decide)) (fun x h => Or.inl h)
    refine At.go (q := xm139) rfl 2 (pc' := 121) (L' := [(5, .int tv), (0, .ref q), (1, .ref st), (2, .ref mn), (3, .ref v), (4, .ref g)]) (st' := [.int 0, .ref q]) rfl ?_
    refine At.pf rfl fk6_q (Nat.le_of_ble_eq_true rfl) rfl ?_
    obtain ⟨k7, ek7⟩ : ∃ h, h = k6.set q (.inr (7, [.ref st, .ref mn, .ref l1, .ref l2, .ref pa, .int pn, .ref li, .int (if 150 < tv then 150 else tv), .int 0, .int (ov - 1), .int 0, .ref ln, .int lc, .int (if (Int32.ofNat les.length) < aw then (Int32.ofNat les.length) else aw)])) := ⟨_, rfl⟩
    refine At.hpe ek7 ?_
    have fk7_q : k7[q]? = some (.inr (7, [.ref st, .ref mn, .ref l1, .ref l2, .ref pa, .int pn, .ref li, .int (if 150 < tv then 150 else tv), .int 0, .int (ov - 1), .int 0, .ref ln, .int lc, .int (if (Int32.ofNat les.length) < aw then (Int32.ofNat les.length) else aw)])) := by rw [ek7]; exact xs_eq fk6_q
    have fk7_st : k7[st]? = some (.inr (12, sf)) := by rw [ek7]; exact xs_ne (xn_cl fk6_q fk6_st (by decide)) fk6_st
    have fk7_mn : k7[mn]? = some (.inr (6, mf)) := by rw [ek7]; exact xs_ne (xn_cl fk6_q fk6_mn (by decide)) fk6_mn
    have fk7_li : k7[li]? = some (.inl (19, les)) := by rw [ek7]; exact xs_ne (xn_ra fk6_q fk6_li) fk6_li
    have fk7_r : k7[r]? = some (.inr (8, rf)) := by rw [ek7]; exact xs_ne (xn_cl fk6_q fk6_r (by decide)) fk6_r
    have F7 : FrX (fun x => x = q) hp k7 := FrX.tr F6 (show FrX (fun x => x = q) k6 k7 by rw [ek7]; exact FrX.so fk6_q (by decide) rfl (by decide)) (fun x h => Or.inl h)
    refine At.go (q := xm139) rfl 2 (pc' := 126) (L' := [(5, .int tv), (0, .ref q), (1, .ref st), (2, .ref mn), (3, .ref v), (4, .ref g)]) (st' := [.int 0, .ref q]) rfl ?_
    refine At.pf rfl fk7_q (Nat.le_of_ble_eq_true rfl) rfl ?_
    obtain ⟨k8, ek8⟩ : ∃ h, h = k7.set q (.inr (7, [.ref st, .ref mn, .ref l1, .ref l2, .ref pa, .int pn, .ref li, .int (if 150 < tv then 150 else tv), .int 0, .int (ov - 1), .int 0, .ref ln, .int 0, .int (if (Int32.ofNat les.length) < aw then (Int32.ofNat les.length) else aw)])) := ⟨_, rfl⟩
    refine At.hpe ek8 ?_
    have fk8_q : k8[q]? = some (.inr (7, [.ref st, .ref mn, .ref l1, .ref l2, .ref pa, .int pn, .ref li, .int (if 150 < tv then 150 else tv), .int 0, .int (ov - 1), .int 0, .ref ln, .int 0, .int (if (Int32.ofNat les.length) < aw then (Int32.ofNat les.length) else aw)])) := by rw [ek8]; exact xs_eq fk7_q
    have fk8_st : k8[st]? = some (.inr (12, sf)) := by rw [ek8]; exact xs_ne (xn_cl fk7_q fk7_st (by decide)) fk7_st
    have fk8_mn : k8[mn]? = some (.inr (6, mf)) := by rw [ek8]; exact xs_ne (xn_cl fk7_q fk7_mn (by decide)) fk7_mn
    have fk8_li : k8[li]? = some (.inl (19, les)) := by rw [ek8]; exact xs_ne (xn_ra fk7_q fk7_li) fk7_li
    have fk8_r : k8[r]? = some (.inr (8, rf)) := by rw [ek8]; exact xs_ne (xn_cl fk7_q fk7_r (by decide)) fk7_r
    have F8 : FrX (fun x => x = q) hp k8 := FrX.tr F7 (show FrX (fun x => x = q) k7 k8 by rw [ek8]; exact FrX.so fk7_q (by decide) rfl (by decide)) (fun x h => Or.inl h)
    refine At.wk (L' := [(5, .int tv), (0, .ref q), (2, .ref mn), (3, .ref v), (4, .ref g)]) (List.forall_mem_cons.mpr ⟨List.mem_of_getElem? (i := 0) rfl, (List.forall_mem_cons.mpr ⟨List.mem_of_getElem? (i := 1) rfl, (List.forall_mem_cons.mpr ⟨List.mem_of_getElem? (i := 3) rfl, (List.forall_mem_cons.mpr ⟨List.mem_of_getElem? (i := 4) rfl, (List.forall_mem_cons.mpr ⟨List.mem_of_getElem? (i := 5) rfl, (fun _ h => (List.not_mem_nil h).elim)⟩)⟩)⟩)⟩)⟩) (show ([5, 0, 1, 2, 3, 4] : List Nat).Nodup by decide) ?_
    exact hK _ F8 fk8_q
  · rw [h71] at hK
    refine At.go (q := xm139) rfl 2 (pc' := 79) (L' := [(0, .ref q), (1, .ref st), (2, .ref mn), (3, .ref v), (4, .ref g)]) (st' := [.int 1, .ref q]) rfl ?_
    refine At.pf rfl fk4_q (Nat.le_of_ble_eq_true rfl) rfl ?_
    obtain ⟨k5, ek5⟩ : ∃ h, h = k4.set q (.inr (7, [.ref st, .ref mn, .ref l1, .ref l2, .ref pa, .int pn, .ref li, .int kp, .int off, .int (ov - 1), .int 1, .ref ln, .int lc, .int (if (Int32.ofNat les.length) < aw then (Int32.ofNat les.length) else aw)])) := ⟨_, rfl⟩
    refine At.hpe ek5 ?_
    have fk5_q : k5[q]? = some (.inr (7, [.ref st, .ref mn, .ref l1, .ref l2, .ref pa, .int pn, .ref li, .int kp, .int off, .int (ov - 1), .int 1, .ref ln, .int lc, .int (if (Int32.ofNat les.length) < aw then (Int32.ofNat les.length) else aw)])) := by rw [ek5]; exact xs_eq fk4_q
    have fk5_st : k5[st]? = some (.inr (12, sf)) := by rw [ek5]; exact xs_ne (xn_cl fk4_q fk4_st (by decide)) fk4_st
    have fk5_mn : k5[mn]? = some (.inr (6, mf)) := by rw [ek5]; exact xs_ne (xn_cl fk4_q fk4_mn (by decide)) fk4_mn
    have fk5_li : k5[li]? = some (.inl (19, les)) := by rw [ek5]; exact xs_ne (xn_ra fk4_q fk4_li) fk4_li
    have fk5_r : k5[r]? = some (.inr (8, rf)) := by rw [ek5]; exact xs_ne (xn_cl fk4_q fk4_r (by decide)) fk4_r
    have F5 : FrX (fun x => x = q) hp k5 := FrX.tr F4 (show FrX (fun x => x = q) k4 k5 by rw [ek5]; exact FrX.so fk4_q (by decide) rfl (by decide)) (fun x h => Or.inl h)
    refine At.go (q := xm139) rfl 1 (pc' := 83) (L' := [(0, .ref q), (1, .ref st), (2, .ref mn), (3, .ref v), (4, .ref g)]) (st' := [.ref st]) rfl ?_
    refine At.gf rfl (by decide) fk5_st hs10 ?_
    refine At.ic1 (tgt := 94) rfl rfl (fun _ => ?_) (fun h => absurd (h.symm.trans (decide_eq_true (Int32.not_lt.mp htp))) (by decide))
    refine At.go (q := xm139) rfl 1 (pc' := 95) (L' := [(0, .ref q), (1, .ref st), (2, .ref mn), (3, .ref v), (4, .ref g)]) (st' := [.ref st]) rfl ?_
    refine At.gf rfl (by decide) fk5_st hs0 ?_
    refine At.go (q := xm139) rfl 1 (pc' := 99) (L' := [(0, .ref q), (1, .ref st), (2, .ref mn), (3, .ref v), (4, .ref g)]) (st' := [.ref st, .ref r]) rfl ?_
    refine At.gf rfl (by decide) fk5_st hs10 ?_
    refine At.clp (as := [.ref r, .int tp]) (rest := []) rfl (by decide) rfl (Nat.le_of_ble_eq_true rfl) (Nat.le_of_ble_eq_true rfl) (xrck_o (by decide) (by decide) fk5_r (by decide)) (Nat.le_of_ble_eq_true rfl) (htv _ F5) ?_
    refine At.go (q := xm139) rfl 4 (pc' := 113) (L' := [(5, .int tv), (0, .ref q), (1, .ref st), (2, .ref mn), (3, .ref v), (4, .ref g)]) (st' := [.int 150, .int tv, .ref q]) rfl ?_
    refine At.sp rfl (by decide) (g := ([.int (if 150 < tv then 150 else tv), .ref q], k5)) rfl ?_
    refine At.pf rfl fk5_q (Nat.le_of_ble_eq_true rfl) xfit_i ?_
    obtain ⟨k6, ek6⟩ : ∃ h, h = k5.set q (.inr (7, [.ref st, .ref mn, .ref l1, .ref l2, .ref pa, .int pn, .ref li, .int (if 150 < tv then 150 else tv), .int off, .int (ov - 1), .int 1, .ref ln, .int lc, .int (if (Int32.ofNat les.length) < aw then (Int32.ofNat les.length) else aw)])) := ⟨_, rfl⟩
    refine At.hpe ek6 ?_
    have fk6_q : k6[q]? = some (.inr (7, [.ref st, .ref mn, .ref l1, .ref l2, .ref pa, .int pn, .ref li, .int (if 150 < tv then 150 else tv), .int off, .int (ov - 1), .int 1, .ref ln, .int lc, .int (if (Int32.ofNat les.length) < aw then (Int32.ofNat les.length) else aw)])) := by rw [ek6]; exact xs_eq fk5_q
    have fk6_st : k6[st]? = some (.inr (12, sf)) := by rw [ek6]; exact xs_ne (xn_cl fk5_q fk5_st (by decide)) fk5_st
    have fk6_mn : k6[mn]? = some (.inr (6, mf)) := by rw [ek6]; exact xs_ne (xn_cl fk5_q fk5_mn (by decide)) fk5_mn
    have fk6_li : k6[li]? = some (.inl (19, les)) := by rw [ek6]; exact xs_ne (xn_ra fk5_q fk5_li) fk5_li
    have fk6_r : k6[r]? = some (.inr (8, rf)) := by rw [ek6]; exact xs_ne (xn_cl fk5_q fk5_r (by decide)) fk5_r
    have F6 : FrX (fun x => x = q) hp k6 := FrX.tr F5 (show FrX (fun x => x = q) k5 k6 by rw [ek6]; exact FrX.so fk5_q (by decide) rfl (by decide)) (fun x h => Or.inl h)
    refine At.go (q := xm139) rfl 2 (pc' := 121) (L' := [(5, .int tv), (0, .ref q), (1, .ref st), (2, .ref mn), (3, .ref v), (4, .ref g)]) (st' := [.int 0, .ref q]) rfl ?_
    refine At.pf rfl fk6_q (Nat.le_of_ble_eq_true rfl) rfl ?_
    obtain ⟨k7, ek7⟩ : ∃ h, h = k6.set q (.inr (7, [.ref st, .ref mn, .ref l1, .ref l2, .ref pa, .int pn, .ref li, .int (if 150 < tv then 150 else tv), .int 0, .int (ov - 1), .int 1, .ref ln, .int lc, .int (if (Int32.ofNat les.length) < aw then (Int32.ofNat les.length) else aw)])) := ⟨_, rfl⟩
    refine At.hpe ek7 ?_
    have fk7_q : k7[q]? = some (.inr (7, [.ref st, .ref mn, .ref l1, .ref l2, .ref pa, .int pn, .ref li, .int (if 150 < tv then 150 else tv), .int 0, .int (ov - 1), .int 1, .ref ln, .int lc, .int (if (Int32.ofNat les.length) < aw then (Int32.ofNat les.length) else aw)])) := by rw [ek7]; exact xs_eq fk6_q
    have fk7_st : k7[st]? = some (.inr (12, sf)) := by rw [ek7]; exact xs_ne (xn_cl fk6_q fk6_st (by decide)) fk6_st
    have fk7_mn : k7[mn]? = some (.inr (6, mf)) := by rw [ek7]; exact xs_ne (xn_cl fk6_q fk6_mn (by decide)) fk6_mn
    have fk7_li : k7[li]? = some (.inl (19, les)) := by rw [ek7]; exact xs_ne (xn_ra fk6_q fk6_li) fk6_li
    have fk7_r : k7[r]? = some (.inr (8, rf)) := by rw [ek7]; exact xs_ne (xn_cl fk6_q fk6_r (by decide)) fk6_r
    have F7 : FrX (fun x => x = q) hp k7 := FrX.tr F6 (show FrX (fun x => x = q) k6 k7 by rw [ek7]; exact FrX.so fk6_q (by decide) rfl (by decide)) (fun x h => Or.inl h)
    refine At.go (q := xm139) rfl 2 (pc' := 126) (L' := [(5, .int tv), (0, .ref q), (1, .ref st), (2, .ref mn), (3, .ref v), (4, .ref g)]) (st' := [.int 0, .ref q]) rfl ?_
    refine At.pf rfl fk7_q (Nat.le_of_ble_eq_true rfl) rfl ?_
    obtain ⟨k8, ek8⟩ : ∃ h, h = k7.set q (.inr (7, [.ref st, .ref mn, .ref l1, .ref l2, .ref pa, .int pn, .ref li, .int (if 150 < tv then 150 else tv), .int 0, .int (ov - 1), .int 1, .ref ln, .int 0, .int (if (Int32.ofNat les.length) < aw then (Int32.ofNat les.length) else aw)])) := ⟨_, rfl⟩
    refine At.hpe ek8 ?_
    have fk8_q : k8[q]? = some (.inr (7, [.ref st, .ref mn, .ref l1, .ref l2, .ref pa, .int pn, .ref li, .int (if 150 < tv then 150 else tv), .int 0, .int (ov - 1), .int 1, .ref ln, .int 0, .int (if (Int32.ofNat les.length) < aw then (Int32.ofNat les.length) else aw)])) := by rw [ek8]; exact xs_eq fk7_q
    have fk8_st : k8[st]? = some (.inr (12, sf)) := by rw [ek8]; exact xs_ne (xn_cl fk7_q fk7_st (by decide)) fk7_st
    have fk8_mn : k8[mn]? = some (.inr (6, mf)) := by rw [ek8]; exact xs_ne (xn_cl fk7_q fk7_mn (by decide)) fk7_mn
    have fk8_li : k8[li]? = some (.inl (19, les)) := by rw [ek8]; exact xs_ne (xn_ra fk7_q fk7_li) fk7_li
    have fk8_r : k8[r]? = some (.inr (8, rf)) := by rw [ek8]; exact xs_ne (xn_cl fk7_q fk7_r (by decide)) fk7_r
    have F8 : FrX (fun x => x = q) hp k8 := FrX.tr F7 (show FrX (fun x => x = q) k7 k8 by rw [ek8]; exact FrX.so fk7_q (by decide) rfl (by decide)) (fun x h => Or.inl h)
    refine At.wk (L' := [(5, .int tv), (0, .ref q), (2, .ref mn), (3, .ref v), (4, .ref g)]) (List.forall_mem_cons.mpr ⟨List.mem_of_getElem? (i := 0) rfl, (List.forall_mem_cons.mpr ⟨List.mem_of_getElem? (i := 1) rfl, (List.forall_mem_cons.mpr ⟨List.mem_of_getElem? (i := 3) rfl, (List.forall_mem_cons.mpr ⟨List.mem_of_getElem? (i := 4) rfl, (List.forall_mem_cons.mpr ⟨List.mem_of_getElem? (i := 5) rfl, (fun _ h => (List.not_mem_nil h).elim)⟩)⟩)⟩)⟩)⟩) (show ([5, 0, 1, 2, 3, 4] : List Nat).Nodup by decide) ?_
    exact hK _ F8 fk8_q
