/-! one act of a session, over models; the law's acts (by hand) -/
def ActP (how : Nat) (F : MF) (cs : List Nat) (M : HM) (i ln : Nat) (tv : Int64) (M' : HM) : Prop := match how with
  | 0 => ((M.2.2.2.1 i).2.2.1 = false ∧ tv = (10000 + Int32.ofNat (lookE (TIq M.2.2.2.2.2.2) M.2.1 (M.2.2.2.1 i).1).length).toInt64 ∧ M' = begM M i) ∨ ((M.2.2.2.1 i).2.2.1 = true ∧ tv = -500 ∧ M' = M)
  | 1 => ((M.2.2.2.1 i).2.2.1 = true ∧ endR M i = 0 ∧ tv = (20000 + Int32.ofNat (M.2.2.2.1 i).2.2.2.2.1.length).toInt64 ∧ M' = en0M M i ln) ∨ ((M.2.2.2.1 i).2.2.1 = true ∧ ¬ endR M i = 0 ∧ tv = (-2000 - endR M i).toInt64 ∧ M' = en1M M i ln) ∨ ((M.2.2.2.1 i).2.2.1 = false ∧ tv = -500 ∧ M' = M)
  | 2 => ((M.2.2.2.1 i).2.2.1 = true ∧ tv = (30000 + Int32.ofNat (M.2.2.2.1 i).2.2.2.2.1.length).toInt64 ∧ M' = givM M i) ∨ ((M.2.2.2.1 i).2.2.1 = false ∧ tv = -500 ∧ M' = M)
  | _ => ∃ r, F (M1l (saidM M i cs) i) i ln r ∧ tv = (tdV r).toInt64 ∧ M' = r.2.2
def ml (M : HM) (i : Nat) (cs : List Nat) : HM := M1l (saidM M i cs) i
theorem t64_neg {x : Int32} (h : x.toInt64 < 0) : x < 0 := by
  rw [Int64.lt_iff_toInt_lt, Int32.toInt_toInt64] at h
  refine Int32.lt_iff_toInt_lt.mpr ?_
  have e : (0 : Int64).toInt = 0 := by decide
  have e2 : (0 : Int32).toInt = 0 := by decide
  rw [e] at h
  rw [e2]
  exact h
section
variable {w : Int32 → Bool} {f : Int32 → Int32} {g : Nat → Nat} {M N M' N' : HM} {c d c' d' i ln how : Nat} {cs : List Nat} {F : MF} {tv tv' : Int64}
theorem ml_lab : ((ml M i cs).2.2.2.1 i).1 = (M.2.2.2.1 i).1 := l1_lab.trans said_lab
theorem ml_lbk : LbK M (ml M i cs) := fun j => (lbk_s (M := saidM M i cs) (i := i) (s := sLen ((saidM M i cs).2.2.2.1 i) 0) rfl j).trans (said_lbk (M := M) (i := i) (cs := cs) j)
theorem ml_wt : Wt M (ml M i cs) i := Wt.tr said_wt (wt_s (M := saidM M i cs) (s := sLen ((saidM M i cs).2.2.2.1 i) 0))
theorem ml_ck : ckE (ml M i cs) i = ckE M i := (ck_ms (M := saidM M i cs) (s := sLen ((saidM M i cs).2.2.2.1 i) 0) rfl rfl rfl).trans said_ck
theorem ml_wf (h : WfH M c d) (hi : i < 8) : WfH (ml M i cs) c d := (h.said hi).l1 hi
theorem act_wf (hF : FWf F) (hW : WfH M c d) (hi : i < 8) (hln : (M.2.2.2.1 i).1 = Int32.ofNat ln) (hl64 : ln < 64) (hc : c + 1 ≤ 1000) (h : ActP how F cs M i ln tv M') : WfH M' (c + 1) (d + 1) ∧ LbK M M' := by
  have hm : ∀ {M2 : HM}, WfH M2 c d → WfH M2 (c + 1) (d + 1) := fun k => k.mono (by omega) (by omega)
  match how, h with
  | 0, h =>
    rcases h with ⟨h1, -, rfl⟩ | ⟨-, -, rfl⟩
    · exact ⟨hm (wfh_beg hW hi h1), lbk_beg⟩
    · exact ⟨hm hW, fun _ => rfl⟩
  | 1, h =>
    rcases h with ⟨h1, h2, -, rfl⟩ | ⟨h1, h2, -, rfl⟩ | ⟨-, -, rfl⟩
    · exact ⟨hm (wfh_en0 hW hi h2), lbk_en0⟩
    · exact ⟨hm (wfh_en1 hW hi), lbk_en1⟩
    · exact ⟨hm hW, fun _ => rfl⟩
  | 2, h =>
    rcases h with ⟨h1, -, rfl⟩ | ⟨-, -, rfl⟩
    · exact ⟨hm (wfh_giv hW hi), lbk_giv⟩
    · exact ⟨hm hW, fun _ => rfl⟩
  | n + 3, h =>
    obtain ⟨r, h1, -, rfl⟩ := h
    obtain ⟨k1, k2⟩ := hF (ml M i cs) i ln c d r (ml_wf hW hi) hi (by rw [ml_lab]; exact hln) hl64 hc h1
    exact ⟨k1, fun j => (k2 j).trans (ml_lbk j)⟩
theorem bz_abs {a b : Bool} (h1 : a = true) (h2 : b = false) (e : b = a) {P : Prop} : P := by
  rw [h1, h2] at e
  cases e
theorem act_lo (hw : ∀ l lb, w lb = true → isB l lb = true → w l = true) (hF : FLo F) (R : Rel w f g M N) (hM : WfH M c d) (hN : WfH N c' d') (hi : i < 8) (hln : (M.2.2.2.1 i).1 = Int32.ofNat ln) (hl64 : ln < 64) (hl : w (M.2.2.2.1 i).1 = true) (hc : c + 1 ≤ 1000) (hc' : c' + 1 ≤ 1000) (h : ActP how F cs M i ln tv M') (k : ActP how F cs N i ln tv' N') : tv' = tv ∧ ∃ f' g', Rel w f' g' M' N' := by
  have eb := R.busy hi hl
  have ech := lo_ch R hi hl
  match how, h, k with
  | 0, h, k =>
    rcases h with ⟨h1, h2, rfl⟩ | ⟨h1, h2, rfl⟩
    · rcases k with ⟨k1, k2, rfl⟩ | ⟨k1, k2, rfl⟩
      · exact ⟨by rw [h2, k2, lo_begin hw R hM.1 hN.1 hi hl], f, g, lo_beg R hi hl⟩
      · exact bz_abs k1 h1 eb.symm
    · rcases k with ⟨k1, k2, rfl⟩ | ⟨k1, k2, rfl⟩
      · exact bz_abs h1 k1 eb
      · exact ⟨by rw [h2, k2], f, g, R⟩
  | 1, h, k =>
    rcases h with ⟨h1, h3, h2, rfl⟩ | ⟨h1, h3, h2, rfl⟩ | ⟨h1, h2, rfl⟩
    · have ee := lo_endR hw R hM hN hi h1 hl
      rcases k with ⟨k1, k3, k2, rfl⟩ | ⟨k1, k3, k2, rfl⟩ | ⟨k1, k2, rfl⟩
      · exact ⟨by rw [h2, k2, ech], f, g, lo_en0 hw R hM hN hi h1 hln hl64 hl⟩
      · exact absurd (ee.trans h3) k3
      · exact bz_abs h1 k1 eb
    · have ee := lo_endR hw R hM hN hi h1 hl
      rcases k with ⟨k1, k3, k2, rfl⟩ | ⟨k1, k3, k2, rfl⟩ | ⟨k1, k2, rfl⟩
      · exact absurd (ee.symm.trans k3) h3
      · exact ⟨by rw [h2, k2, ee], f, g, lo_en1 R hM hN hi hln hl64 hl⟩
      · exact bz_abs h1 k1 eb
    · rcases k with ⟨k1, k3, k2, rfl⟩ | ⟨k1, k3, k2, rfl⟩ | ⟨k1, k2, rfl⟩
      · exact bz_abs k1 h1 eb.symm
      · exact bz_abs k1 h1 eb.symm
      · exact ⟨by rw [h2, k2], f, g, R⟩
  | 2, h, k =>
    rcases h with ⟨h1, h2, rfl⟩ | ⟨h1, h2, rfl⟩
    · rcases k with ⟨k1, k2, rfl⟩ | ⟨k1, k2, rfl⟩
      · exact ⟨by rw [h2, k2, ech], f, g, lo_giv R hi⟩
      · exact bz_abs h1 k1 eb
    · rcases k with ⟨k1, k2, rfl⟩ | ⟨k1, k2, rfl⟩
      · exact bz_abs k1 h1 eb.symm
      · exact ⟨by rw [h2, k2], f, g, R⟩
  | n + 3, h, k =>
    obtain ⟨r, h1, h2, rfl⟩ := h
    obtain ⟨r', k1, k2, rfl⟩ := k
    obtain ⟨f', g', e1, e2, R'⟩ := hF w f g (ml M i cs) (ml N i cs) i ln c d c' d' r r' hw ((lo_said R hi).l1 hi) (ml_wf hM hi) (ml_wf hN hi) hi (by rw [ml_lab]; exact hln) hl64 (by rw [ml_lab]; exact hl) hc hc' h1 k1
    refine ⟨?_, f', g', R'⟩
    rw [h2, k2]
    unfold tdV
    rw [e1, e2]
theorem act_hi (hw : ∀ l lb, w lb = true → isB l lb = true → w l = true) (hF : FHi F) (R : Rel w f g M N) (hM : WfH M c d) (hi : i < 8) (hln : (M.2.2.2.1 i).1 = Int32.ofNat ln) (hl64 : ln < 64) (hl : w (M.2.2.2.1 i).1 = false) (hc : c + 1 ≤ 1000) (h : ActP how F cs M i ln tv M') : Rel w f g M' N := by
  match how, h with
  | 0, h =>
    rcases h with ⟨h1, h2, rfl⟩ | ⟨h1, h2, rfl⟩
    · exact hi_beg R hi hl
    · exact R
  | 1, h =>
    rcases h with ⟨h1, h3, h2, rfl⟩ | ⟨h1, h3, h2, rfl⟩ | ⟨h1, h2, rfl⟩
    · exact hi_en0 R hM hi hln hl
    · exact hi_en1 R hi hln hl
    · exact R
  | 2, h =>
    rcases h with ⟨h1, h2, rfl⟩ | ⟨h1, h2, rfl⟩
    · exact hi_giv R hi hl
    · exact R
  | n + 3, h =>
    obtain ⟨r, h1, h2, rfl⟩ := h
    exact hF w f g (ml M i cs) N i ln c d r hw ((hi_said R hi hl).l1H hi (by rw [said_lab]; exact hl)) (ml_wf hM hi) hi (by rw [ml_lab]; exact hln) hl64 (by rw [ml_lab]; exact hl) hc h1
theorem act_wt (hF : FWt F) (h : ActP how F cs M i ln tv M') : Wt M M' i := by
  match how, h with
  | 0, h =>
    rcases h with ⟨h1, h2, rfl⟩ | ⟨h1, h2, rfl⟩
    · exact wt_beg
    · exact Wt.rf
  | 1, h =>
    rcases h with ⟨h1, h3, h2, rfl⟩ | ⟨h1, h3, h2, rfl⟩ | ⟨h1, h2, rfl⟩
    · exact wt_en0
    · exact wt_en1
    · exact Wt.rf
  | 2, h =>
    rcases h with ⟨h1, h2, rfl⟩ | ⟨h1, h2, rfl⟩
    · exact wt_giv
    · exact Wt.rf
  | n + 3, h =>
    obtain ⟨r, h1, h2, rfl⟩ := h
    exact Wt.tr ml_wt (hF (ml M i cs) i ln r h1)
theorem act_td (hF : FTl F) (hM : WfH M c d) (hi : i < 8) (hh : 3 ≤ how) (h : ActP how F cs M i ln tv M') (hn : tv < 0) : ckE M' i = ckE M i := by
  match how, h with
  | 0, h => exact absurd hh (by decide)
  | 1, h => exact absurd hh (by decide)
  | 2, h => exact absurd hh (by decide)
  | n + 3, h =>
    obtain ⟨r, h1, h2, rfl⟩ := h
    rw [h2] at hn
    rcases hF (ml M i cs) i ln c d r (ml_wf hM hi).1 hi h1 with ⟨k1, k2⟩ | k1
    · have h9 := t64_neg hn
      unfold tdV at h9
      rw [if_pos k1] at h9
      exact absurd h9 k2
    · exact k1.trans ml_ck
theorem ml_lz (h : LzM M) : LzM (ml M i cs) := fun j => by
  by_cases e : j = i
  · rw [e]
    show ((mS (saidM M i cs) i (sLen ((saidM M i cs).2.2.2.1 i) 0)).2.2.2.1 i).2.2.2.2.2.2.2.1 = 0
    rw [mS_at]
    rfl
  · show ((mS (saidM M i cs) i (sLen ((saidM M i cs).2.2.2.1 i) 0)).2.2.2.1 j).2.2.2.2.2.2.2.1 = 0
    rw [mS_ne e]
    show ((mS M i (tyF (sLen (M.2.2.2.1 i) 0) cs)).2.2.2.1 j).2.2.2.2.2.2.2.1 = 0
    rw [mS_ne e]
    exact h j
theorem act_lz (hF : FLz F) (hM : LzM M) (h : ActP how F cs M i ln tv M') : LzM M' := by
  match how, h with
  | 0, h =>
    rcases h with ⟨h1, h2, rfl⟩ | ⟨h1, h2, rfl⟩
    · exact lz_s hM (hM i)
    · exact hM
  | 1, h =>
    rcases h with ⟨h1, h3, h2, rfl⟩ | ⟨h1, h3, h2, rfl⟩ | ⟨h1, h2, rfl⟩
    · exact lz_s (M := M) (s := sGiv (M.2.2.2.1 i)) hM (hM i)
    · exact lz_s (M := M) (s := sGiv (sRea (M.2.2.2.1 i) (endR M i))) hM (hM i)
    · exact hM
  | 2, h =>
    rcases h with ⟨h1, h2, rfl⟩ | ⟨h1, h2, rfl⟩
    · exact lz_s hM (hM i)
    · exact hM
  | n + 3, h =>
    obtain ⟨r, h1, h2, rfl⟩ := h
    exact hF (ml M i cs) i ln r (ml_lz hM) h1
theorem ml_bz : BzM (fun j => (M.2.2.2.1 j).2.2.1) (ml M i cs) := fun j => by
  by_cases e : j = i
  · rw [e]
    show ((mS (saidM M i cs) i (sLen ((saidM M i cs).2.2.2.1 i) 0)).2.2.2.1 i).2.2.1 = (M.2.2.2.1 i).2.2.1
    rw [mS_at]
    show ((mS M i (tyF (sLen (M.2.2.2.1 i) 0) cs)).2.2.2.1 i).2.2.1 = (M.2.2.2.1 i).2.2.1
    rw [mS_at]
    exact (tyF_k cs (sLen (M.2.2.2.1 i) 0)).2.2.1
  · show ((mS (saidM M i cs) i (sLen ((saidM M i cs).2.2.2.1 i) 0)).2.2.2.1 j).2.2.1 = (M.2.2.2.1 j).2.2.1
    rw [mS_ne e]
    show ((mS M i (tyF (sLen (M.2.2.2.1 i) 0) cs)).2.2.2.1 j).2.2.1 = (M.2.2.2.1 j).2.2.1
    rw [mS_ne e]
theorem act_bz (hF : FBz F) (h : ActP how F cs M i ln tv M') {j : Nat} (hj : j ≠ i) : (M'.2.2.2.1 j).2.2.1 = (M.2.2.2.1 j).2.2.1 := by
  have k : ∀ {s : SM}, ((mS M i s).2.2.2.1 j).2.2.1 = (M.2.2.2.1 j).2.2.1 := fun {s} => by rw [mS_ne hj]
  match how, h with
  | 0, h =>
    rcases h with ⟨h1, h2, rfl⟩ | ⟨h1, h2, rfl⟩
    · exact k (s := sBeg (M.2.2.2.1 i) M.2.1 M.2.2.1.length)
    · rfl
  | 1, h =>
    rcases h with ⟨h1, h3, h2, rfl⟩ | ⟨h1, h3, h2, rfl⟩ | ⟨h1, h2, rfl⟩
    · exact k (s := sGiv (M.2.2.2.1 i))
    · exact k (s := sGiv (sRea (M.2.2.2.1 i) (endR M i)))
    · rfl
  | 2, h =>
    rcases h with ⟨h1, h2, rfl⟩ | ⟨h1, h2, rfl⟩
    · exact k (s := sGiv (M.2.2.2.1 i))
    · rfl
  | n + 3, h =>
    obtain ⟨r, h1, h2, rfl⟩ := h
    exact hF (fun j => (M.2.2.2.1 j).2.2.1) (ml M i cs) i ln r ml_bz h1 j
theorem act_op (h : ActP how F cs M i ln tv M') : ¬ how = 0 ∨ tv < 0 ∨ (M'.2.2.2.1 i).2.2.1 = true := by
  match how, h with
  | 0, h =>
    rcases h with ⟨h1, h2, rfl⟩ | ⟨h1, h2, rfl⟩
    · refine Or.inr (Or.inr ?_)
      show ((mS M i (sBeg (M.2.2.2.1 i) M.2.1 M.2.2.1.length)).2.2.2.1 i).2.2.1 = true
      rw [mS_at]
      rfl
    · exact Or.inr (Or.inl (by rw [h2]; decide))
  | n + 1, h => exact Or.inl (Nat.succ_ne_zero n)
end
theorem HR.t120 {hp : List XC} {ow : Nat → Nat} {k : Nat} {A : Nat → Nat} {M : HM} {rf : Int32} {np nl i : Nat} (h : HR hp ow k A M rf np nl) (hi : i < 8) : (M.2.2.2.1 i).2.2.2.2.2.2.2.2.length = 120 := by
  obtain ⟨hO, how, h0, h1, h3, hD, hF, hE, hT, ⟨lv9, hG⟩, hC, hL9, hQ, hW, hS, hTq9, htd, hcap⟩ := id h
  obtain ⟨za, ab, a1, a2, a3, a4, a5, a6, a7, a8, a9, a10, a11, a12, a13, a14⟩ := hS i hi
  exact a4
theorem me_up {S : List Int32} {d d' y : Nat} {as : List Value} {hp : List XC} {R R' : Option Value → List XC → Nat → Nat → Prop} (hd : d ≤ d') (h : Me S d y as hp R) (f : ∀ v hp' c s, R v hp' c s → R' v hp' c s) : Me S d' y as hp R' := At.deep hd (me_imp h f)
theorem m_actsR {S : List Int32} {hp : List XC} {ow : Nat → Nat} {k : Nat} {A : Nat → Nat} {M : HM} {rf : Int32} {np nl i ln c d how tv : Nat} {cs : List Nat} {F : MF} (h : HR hp ow k A M rf np nl) (hi : i < 8) (hk : k + 1000 ≤ 3000) (hT : hTn9 hp ow (.ref tv) cs) (hcs : ∀ c ∈ cs, 32 ≤ c ∧ c ≤ 126) (hl : cs.length < 120) (hR : TxRun cs F) (hP : FRs F) (hW : WfH M c d) (hd : d ≤ 30) (hc : c < 400) (hln : (M.2.2.2.1 i).1 = Int32.ofNat ln) (hl64 : ln < 64) (hh : how < 12) : Me S 14 250 [.ref (A 0), .int (Int32.ofNat i), .int (Int32.ofNat how), .ref tv] hp (fun v' hp' c s => ∃ tw M' rf', v' = some (.long tw) ∧ ActP how F cs M i ln tw M' ∧ HSt hp hp' ow k A M' rf' np nl c s 99 50000) := by
  match how, hh with
  | 0, _ =>
    cases hb : (M.2.2.2.1 i).2.2.1 with
    | false => exact me_up (by decide) (a_beg0R (tv := tv) h hi hW.1 hd hln hl64 hb) (fun v hp' c s q => ⟨_, _, _, q.1, Or.inl ⟨hb, rfl, rfl⟩, q.2.mono (by decide) (by decide)⟩)
    | true => exact me_up (by decide) (a_begBR (tv := tv) h hi hW.1 hd hln hl64 hb) (fun v hp' c s q => ⟨_, _, _, q.1, Or.inr ⟨hb, rfl, rfl⟩, q.2.mono (by decide) (by decide)⟩)
  | 1, _ =>
    cases hb : (M.2.2.2.1 i).2.2.1 with
    | false => exact me_up (by decide) (a_endBR (tv := tv) h hi hW.1 hd hln hl64 hb) (fun v hp' c s q => ⟨_, _, _, q.1, Or.inr (Or.inr ⟨hb, rfl, rfl⟩), q.2.mono (by decide) (by decide)⟩)
    | true =>
      by_cases hr : endR M i = 0
      · exact me_up (by decide) (a_end0R (tv := tv) h hi hW.1 hd hln hl64 hb hr) (fun v hp' c s q => ⟨_, _, _, q.1, Or.inl ⟨hb, hr, rfl, rfl⟩, q.2.mono (by decide) (by decide)⟩)
      · exact me_up (by decide) (a_end1R (tv := tv) h hi hW.1 hd hln hl64 hb hr) (fun v hp' c s q => ⟨_, _, _, q.1, Or.inr (Or.inl ⟨hb, hr, rfl, rfl⟩), q.2.mono (by decide) (by decide)⟩)
  | 2, _ =>
    cases hb : (M.2.2.2.1 i).2.2.1 with
    | false => exact me_up (by decide) (a_givBR (tv := tv) h hi hW.1 hd hln hl64 hb) (fun v hp' c s q => ⟨_, _, _, q.1, Or.inr ⟨hb, rfl, rfl⟩, q.2.mono (by decide) (by decide)⟩)
    | true => exact me_up (by decide) (a_giv0R (tv := tv) h hi hW.1 hd hln hl64 hb) (fun v hp' c s q => ⟨_, _, _, q.1, Or.inl ⟨hb, rfl, rfl⟩, q.2.mono (by decide) (by decide)⟩)
  | n + 3, hh =>
    refine me_imp (a_txtR (how := n + 3) (ln := ln) (P := fun r => F (M1l (saidM M i cs) i) i ln r) h hi hk hT hcs hl (fun g ow1 np1 nl1 hg => hR S g ow1 k A M rf np1 nl1 i ln c d hg hi hW hd hc hln hl64 (h.t120 hi)) (fun r hr => hP _ i ln r hr) (by omega) (by omega)) (fun v hp' c s q => ?_)
    obtain ⟨r, q1, q2, q3⟩ := q
    exact ⟨_, _, _, q2, ⟨r, q1, rfl, rfl⟩, q3⟩
theorem m_actsK {S : List Int32} {hp : List XC} {ow : Nat → Nat} {k : Nat} {A : Nat → Nat} {M : HM} {rf : Int32} {np nl i ln c d how tv : Nat} {cs : List Nat} {F : MF} (h : HR hp ow k A M rf np nl) (hi : i < 8) (hk : k + 1000 ≤ 3000) (hT : hTn9 hp ow (.retAddr tv) cs) (hcs : ∀ c ∈ cs, 32 ≤ c ∧ c ≤ 126) (hl : cs.length < 120) (hR : TxRun cs F) (hP : FRs F) (hW : WfH M c d) (hd : d ≤ 30) (hc : c < 400) (hln : (M.2.2.2.1 i).1 = Int32.ofNat ln) (hl64 : ln < 64) (hh : how < 12) : Me S 14 250 [.ref (A 0), .int (Int32.ofNat i), .int (Int32.ofNat how), .retAddr tv] hp (fun v' hp' c s => ∃ tw M' rf', v' = some (.long tw) ∧ ActP how F cs M i ln tw M' ∧ HSt hp hp' ow k A M' rf' np nl c s 99 50000) := by
  match how, hh with
  | 0, _ =>
    cases hb : (M.2.2.2.1 i).2.2.1 with
    | false => exact me_up (by decide) (a_beg0K (tv := tv) h hi hW.1 hd hln hl64 hb) (fun v hp' c s q => ⟨_, _, _, q.1, Or.inl ⟨hb, rfl, rfl⟩, q.2.mono (by decide) (by decide)⟩)
    | true => exact me_up (by decide) (a_begBK (tv := tv) h hi hW.1 hd hln hl64 hb) (fun v hp' c s q => ⟨_, _, _, q.1, Or.inr ⟨hb, rfl, rfl⟩, q.2.mono (by decide) (by decide)⟩)
  | 1, _ =>
    cases hb : (M.2.2.2.1 i).2.2.1 with
    | false => exact me_up (by decide) (a_endBK (tv := tv) h hi hW.1 hd hln hl64 hb) (fun v hp' c s q => ⟨_, _, _, q.1, Or.inr (Or.inr ⟨hb, rfl, rfl⟩), q.2.mono (by decide) (by decide)⟩)
    | true =>
      by_cases hr : endR M i = 0
      · exact me_up (by decide) (a_end0K (tv := tv) h hi hW.1 hd hln hl64 hb hr) (fun v hp' c s q => ⟨_, _, _, q.1, Or.inl ⟨hb, hr, rfl, rfl⟩, q.2.mono (by decide) (by decide)⟩)
      · exact me_up (by decide) (a_end1K (tv := tv) h hi hW.1 hd hln hl64 hb hr) (fun v hp' c s q => ⟨_, _, _, q.1, Or.inr (Or.inl ⟨hb, hr, rfl, rfl⟩), q.2.mono (by decide) (by decide)⟩)
  | 2, _ =>
    cases hb : (M.2.2.2.1 i).2.2.1 with
    | false => exact me_up (by decide) (a_givBK (tv := tv) h hi hW.1 hd hln hl64 hb) (fun v hp' c s q => ⟨_, _, _, q.1, Or.inr ⟨hb, rfl, rfl⟩, q.2.mono (by decide) (by decide)⟩)
    | true => exact me_up (by decide) (a_giv0K (tv := tv) h hi hW.1 hd hln hl64 hb) (fun v hp' c s q => ⟨_, _, _, q.1, Or.inl ⟨hb, rfl, rfl⟩, q.2.mono (by decide) (by decide)⟩)
  | n + 3, hh =>
    refine me_imp (a_txtK (how := n + 3) (ln := ln) (P := fun r => F (M1l (saidM M i cs) i) i ln r) h hi hk hT hcs hl (fun g ow1 np1 nl1 hg => hR S g ow1 k A M rf np1 nl1 i ln c d hg hi hW hd hc hln hl64 (h.t120 hi)) (fun r hr => hP _ i ln r hr) (by omega) (by omega)) (fun v hp' c s q => ?_)
    obtain ⟨r, q1, q2, q3⟩ := q
    exact ⟨_, _, _, q2, ⟨r, q1, rfl, rfl⟩, q3⟩
theorem m_acts {S : List Int32} {hp : List XC} {ow : Nat → Nat} {k : Nat} {A : Nat → Nat} {M : HM} {rf : Int32} {np nl i ln c d how : Nat} {t : Value} {cs : List Nat} {F : MF} (h : HR hp ow k A M rf np nl) (hi : i < 8) (hk : k + 1000 ≤ 3000) (hT : hTn9 hp ow t cs) (hcs : ∀ c ∈ cs, 32 ≤ c ∧ c ≤ 126) (hl : cs.length < 120) (hR : TxRun cs F) (hP : FRs F) (hW : WfH M c d) (hd : d ≤ 30) (hc : c < 400) (hln : (M.2.2.2.1 i).1 = Int32.ofNat ln) (hl64 : ln < 64) (hh : how < 12) : Me S 14 250 [.ref (A 0), .int (Int32.ofNat i), .int (Int32.ofNat how), t] hp (fun v' hp' c s => ∃ tw M' rf', v' = some (.long tw) ∧ ActP how F cs M i ln tw M' ∧ HSt hp hp' ow k A M' rf' np nl c s 99 50000) := by
  obtain ⟨⟨-, -, ⟨a, va, r, e, g1, g2⟩ | ⟨q, vk, r, e, g1, g2⟩⟩, -⟩ := id hT
  · subst e
    exact m_actsR h hi hk hT hcs hl hR hP hW hd hc hln hl64 hh
  · subst e
    exact m_actsK h hi hk hT hcs hl hR hP hW hd hc hln hl64 hh
