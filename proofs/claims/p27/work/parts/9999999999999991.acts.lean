/-! transactions at houses that are alike, whole (by hand) -/
section
variable {w : Int32 → Bool} {f : Int32 → Int32} {g : Nat → Nat} {M N : HM} {c d c' d' i j ln : Nat} {lb : Int32}
theorem Rel.tlyH {x : Nat} (hx : x < 4) (R : Rel w f g M N) (hl : w (Int32.ofNat ln) = false) : Rel w f g (mTally M (addT M.2.2.2.2.1 (ln * 4 + x))) N := by
  obtain ⟨a1, a2, a3, a4, a5, a6⟩ := R
  refine ⟨a1, a2, a3, a4, a5, fun n hn hln9 j hj => ?_⟩
  rw [a6 n hn hln9 j hj]
  exact (addT_hi hx hj (fun e => by rw [e, hl] at hln9; cases hln9)).symm
def begM (M : HM) (i : Nat) : HM := mS M i (sBeg (M.2.2.2.1 i) M.2.1 M.2.2.1.length)
def givM (M : HM) (i : Nat) : HM := mS M i (sGiv (M.2.2.2.1 i))
def entM (M : HM) (i : Nat) (lb : Int32) : HM := mS M i (lb, 0, false, [], [], (M.2.2.2.1 i).2.2.2.2.2.1, (0, 0, []), 0, (M.2.2.2.1 i).2.2.2.2.2.2.2.2)
def en0M (M : HM) (i ln : Nat) : HM := mTally (mEnded (mShelf (mS M i (sGiv (M.2.2.2.1 i))) (bringAll M.2.1 (M.2.2.2.1 i).2.2.2.1 (M.2.2.2.1 i).2.2.2.2.1)) (M.2.2.1 ++ (M.2.2.2.1 i).2.2.2.2.1)) (addT M.2.2.2.2.1 (ln * 4 + 3))
def en1M (M : HM) (i ln : Nat) : HM := mTally (mS M i (sGiv (sRea (M.2.2.2.1 i) (endR M i)))) (addT M.2.2.2.2.1 (ln * 4 + 1))
theorem wfh_beg (h : WfH M c d) (hi : i < 8) (hb : (M.2.2.2.1 i).2.2.1 = false) : WfH (begM M i) c d := ⟨wf_beg h.1 hi hb, h.2.1, h.2.2⟩
theorem wfh_giv (h : WfH M c d) (hi : i < 8) : WfH (givM M i) c d := ⟨wf_giv h.1 hi, h.2.1, h.2.2⟩
theorem wfh_ent (h : WfH M c d) (hi : i < 8) (hl : isL4 lb = true) : WfH (entM M i lb) c d := ⟨wf_ent h.1 hi hl, h.2.1, h.2.2⟩
theorem wfh_en0 (h : WfH M c d) (hi : i < 8) (he : endR M i = 0) : WfH (en0M M i ln) c d := by
  refine ⟨wf_end0 h.1 hi he (by rw [addT_len]; exact h.1.2.2.2.2.2.2.2.2), wfe_of h.2.1 rfl (fun e he => ?_), h.2.2⟩
  rcases List.mem_append.mp he with h9 | h9
  · exact Or.inl h9
  · exact Or.inr ((h.1.2.2.2.2.2.2.1 i hi).2.2.2.1 e h9).2
theorem wfh_en1 (h : WfH M c d) (hi : i < 8) : WfH (en1M M i ln) c d := ⟨wf_end1 h.1 hi (by rw [addT_len]; exact h.1.2.2.2.2.2.2.2.2), h.2.1, h.2.2⟩
theorem lbk_beg : LbK M (begM M i) := lbk_s rfl
theorem lbk_giv : LbK M (givM M i) := lbk_s rfl
theorem lbk_en0 : LbK M (en0M M i ln) := lbk_s (M := M) (s := sGiv (M.2.2.2.1 i)) rfl
theorem lbk_en1 : LbK M (en1M M i ln) := lbk_s (M := M) (s := sGiv (sRea (M.2.2.2.1 i) (endR M i))) rfl
theorem wt_beg : Wt M (begM M i) i := wt_s
theorem wt_giv : Wt M (givM M i) i := wt_s
theorem wt_en0 : Wt M (en0M M i ln) i := ((wt_s (M := M) (s := sGiv (M.2.2.2.1 i))).tr wt_sh).tr wt_tl
theorem wt_en1 : Wt M (en1M M i ln) i := (wt_s (M := M) (s := sGiv (sRea (M.2.2.2.1 i) (endR M i)))).tr wt_tl
theorem lo_beg (R : Rel w f g M N) (hi : i < 8) (hl : w (M.2.2.2.1 i).1 = true) : Rel w f g (begM M i) (begM N i) := R.beg hi hl
theorem lo_giv (R : Rel w f g M N) (hi : i < 8) : Rel w f g (givM M i) (givM N i) := R.giv hi
theorem lo_ent (R : Rel w f g M N) : Rel w f g (entM M i lb) (entM N i lb) := R.ent
theorem lo_en0 (hw : ∀ l lb, w lb = true → isB l lb = true → w l = true) (R : Rel w f g M N) (hM : WfH M c d) (hN : WfH N c' d') (hi : i < 8) (hb : (M.2.2.2.1 i).2.2.1 = true) (hln : (M.2.2.2.1 i).1 = Int32.ofNat ln) (hl64 : ln < 64) (hl : w (M.2.2.2.1 i).1 = true) : Rel w f g (en0M M i ln) (en0M N i ln) :=
  (R.fin0 hw hM.1 hN.1 hM.2.1 hi hb hl).tly (R.aT (by decide) hl64 (by rw [← hln]; exact hl) hM.1.2.2.2.2.2.2.2.2 hN.1.2.2.2.2.2.2.2.2)
theorem lo_en1 (R : Rel w f g M N) (hM : WfH M c d) (hN : WfH N c' d') (hi : i < 8) (hln : (M.2.2.2.1 i).1 = Int32.ofNat ln) (hl64 : ln < 64) (hl : w (M.2.2.2.1 i).1 = true) : Rel w f g (en1M M i ln) (en1M N i ln) := by
  obtain ⟨s1, s2⟩ := R.2.2.2.2.1 i hi
  have R2 : Rel w f g (mS M i (sGiv (sRea (M.2.2.2.1 i) (endR M i)))) (mS N i (sGiv (sRea (N.2.2.2.1 i) (endR N i)))) := R.ses ⟨s1, fun hl9 => by
    obtain ⟨b1, b2, b3, b4, b5⟩ := s2 hl9
    exact ⟨rfl, rfl, rfl, b4, fun h => Bool.noConfusion (show false = true from h)⟩⟩
  exact R2.tly (R.aT (by decide) hl64 (by rw [← hln]; exact hl) hM.1.2.2.2.2.2.2.2.2 hN.1.2.2.2.2.2.2.2.2)
theorem hi_beg (R : Rel w f g M N) (hi : i < 8) (hl : w (M.2.2.2.1 i).1 = false) : Rel w f g (begM M i) N := R.sesH hi rfl hl
theorem hi_giv (R : Rel w f g M N) (hi : i < 8) (hl : w (M.2.2.2.1 i).1 = false) : Rel w f g (givM M i) N := R.sesH hi rfl hl
theorem hi_en0 (R : Rel w f g M N) (hM : WfH M c d) (hi : i < 8) (hln : (M.2.2.2.1 i).1 = Int32.ofNat ln) (hl : w (M.2.2.2.1 i).1 = false) : Rel w f g (en0M M i ln) N :=
  Rel.tlyH (x := 3) (by decide) (R.fin0H hM.1 hi hl) (by rw [← hln]; exact hl)
theorem hi_en1 (R : Rel w f g M N) (hi : i < 8) (hln : (M.2.2.2.1 i).1 = Int32.ofNat ln) (hl : w (M.2.2.2.1 i).1 = false) : Rel w f g (en1M M i ln) N :=
  Rel.tlyH (x := 1) (by decide) (R.sesH (s := sGiv (sRea (M.2.2.2.1 i) (endR M i))) hi rfl hl) (by rw [← hln]; exact hl)
theorem lo_endR (hw : ∀ l lb, w lb = true → isB l lb = true → w l = true) (R : Rel w f g M N) (hM : WfH M c d) (hN : WfH N c' d') (hi : i < 8) (hb : (M.2.2.2.1 i).2.2.1 = true) (hl : w (M.2.2.2.1 i).1 = true) : endR N i = endR M i := (R.endR9 hw hM.1 hN.1 hM.2.1 hi hb hl).1
/-- the three statements of the law's end -/
theorem m1_cs {σ : Nat → Nat} {r : RM} (h : F_m1 σ M i ln r) : (tnM M (M.2.2.2.1 i).1 28697814 = none ∧ r = fltR M ln 11) ∨ ∃ t, tnM M (M.2.2.2.1 i).1 28697814 = some t := by
  unfold F_m1 at h
  cases e : tnM M (M.2.2.2.1 i).1 28697814 with
  | none => exact Or.inl ⟨rfl, f1_N e h⟩
  | some t => exact Or.inr ⟨t, rfl⟩
theorem get_told {w9 : Nat} {top : Int32} {t : QT} (h : (getM M i w9 top t).2.1 = 0) : anE (Int32.ofNat t.2) top = 1 ∧ (getM M i w9 top t).1 = Int32.ofNat t.1.length := by
  unfold getM at h ⊢
  by_cases hz : anE (Int32.ofNat t.2) top = 1
  · rw [if_pos hz] at h ⊢
    exact ⟨hz, rfl⟩
  · rw [if_neg hz] at h
    exact absurd (show (109 : Int32) = 0 from h) (by decide)
theorem get_good {w9 : Nat} {top : Int32} {t : QT} (h : anE (Int32.ofNat t.2) top = 1) : getM M i w9 top t = (Int32.ofNat t.1.length, 0, mS M i (sAns (M.2.2.2.1 i) t.1.length w9 t.1.flatten)) := if_pos h
theorem anE_1 {n : Nat} (h : n ≤ 150) : anE (Int32.ofNat n) 999999999 = 1 := by
  unfold anE
  have h1 : ¬ (999999999 : Int32) < Int32.ofNat n := fun h9 => by
    have := (iN_lt (a := 999999999) (b := n) (by omega) (by omega)).mp h9
    omega
  rw [if_neg h1, if_neg (fun h9 => by
    have := (iN_lt (a := 150) (b := n) (by omega) (by omega)).mp h9
    omega)]
theorem gth48 (hC : WfC M i) {sr : Int32} {b : Bool} : (gthE b (vwE M i) (lookE (TIq M.2.2.2.2.2.2) (vwE M i) (M.2.2.2.1 i).1) sr (M.2.2.2.1 i).1).length ≤ 48 := by
  have key : ∀ es : List En, es.Sublist (vwE M i) → (es.filter (gthP sr (M.2.2.2.1 i).1)).length ≤ 48 := fun es hs => by
    rw [← List.countP_eq_length_filter]
    refine Nat.le_trans (Nat.le_trans (hs.countP_le) ?_) (hC sr)
    exact List.countP_mono_left (fun x _ hx => (Bool.and_eq_true_iff.mp hx).1)
  unfold gthE
  cases b with
  | true => exact key _ (List.Sublist.refl _)
  | false => exact key _ look_sub
/-- what a get leaves as it was -/
theorem get_vw {w9 : Nat} {top : Int32} {t : QT} : vwE (getM M i w9 top t).2.2 i = vwE M i ∧ (getM M i w9 top t).2.2.2.2.2.2.2.2 = M.2.2.2.2.2.2 ∧ ((getM M i w9 top t).2.2.2.2.2.1 i).1 = (M.2.2.2.1 i).1 ∧ (getM M i w9 top t).2.2.1 = M.1 := by
  unfold getM
  split
  · refine ⟨?_, rfl, ?_, rfl⟩
    · show vwE (mS M i (sAns (M.2.2.2.1 i) t.1.length w9 t.1.flatten)) i = _
      unfold vwE
      rw [mS_at]
      rfl
    · show ((mS M i (sAns (M.2.2.2.1 i) t.1.length w9 t.1.flatten)).2.2.2.1 i).1 = _
      rw [mS_at]
      rfl
  · exact ⟨rfl, rfl, rfl, rfl⟩
theorem cnt_vw {r : RM} : vwE (cntR r i ln).2.2 i = vwE r.2.2 i ∧ (cntR r i ln).2.2.2.2.2.2.2.2 = r.2.2.2.2.2.2.2.2 ∧ ((cntR r i ln).2.2.2.2.2.1 i).1 = (r.2.2.2.2.2.1 i).1 ∧ (cntR r i ln).2.2.1 = r.2.2.1 ∧ (cntR r i ln).2.1 = r.2.1 ∧ (r.2.1 = 0 → (cntR r i ln).1 = r.1) := by
  unfold cntR
  by_cases hz : r.2.1 = 0
  · rw [if_pos hz]
    exact ⟨rfl, rfl, rfl, rfl, hz.symm, fun _ => rfl⟩
  · rw [if_neg hz]
    refine ⟨?_, rfl, ?_, rfl, rfl, fun h => absurd h hz⟩
    · show vwE (mS r.2.2 i (sRea (r.2.2.2.2.2.1 i) r.2.1)) i = _
      unfold vwE
      rw [mS_at]
      rfl
    · show ((mS r.2.2 i (sRea (r.2.2.2.2.2.1 i) r.2.1)).2.2.2.1 i).1 = _
      rw [mS_at]
      rfl
end
