/-! what holds at all times is kept by statements (by hand) -/
section
variable {M : HM} {c d i ln : Nat} {q : TQ}
theorem WfM.vw (h : WfM M c d) (hi : i < 8) : EnOk M.2.2.2.2.2.2 M.1 (vwE M i) := by
  unfold vwE
  split
  · exact (h.2.2.2.2.2.2.1 i hi).2.1
  · exact h.2.2.2.2.2.1
theorem WfM.uq (h : WfM M c d) : ∀ p ∈ M.2.2.2.2.2.2, ∀ q ∈ M.2.2.2.2.2.2, p.2.1 = q.2.1 ∨ p.1.1 = q.1.1 → p = q := by
  obtain ⟨h1, h2, ⟨md, m1, m2, m3, m4⟩, -⟩ := h
  exact m4
theorem WfM.lab (h : WfM M c d) (hi : i < 8) : isL4 (M.2.2.2.1 i).1 = true := (h.2.2.2.2.2.2.1 i hi).1
theorem WfM.tlab (h : WfM M c d) (hq : q ∈ M.2.2.2.2.2.2) : isL4 q.2.2.1.2.1 = true := by
  obtain ⟨h1, h2, ⟨md, m1, m2, m3, m4⟩, -⟩ := h
  exact (m3 q hq).1
theorem WfM.wid (h : WfM M c d) (hq : q ∈ M.2.2.2.2.2.2) : 1 ≤ q.2.2.1.2.2.1.length ∧ q.2.2.1.2.2.1.length ≤ 100 := by
  rcases h.2.1 q hq with e | e
  · rw [e.2.1]; decide
  · rw [e.2.1]; decide
theorem EnOk.ent {ts : List TQ} {st : List Nat} {es : List En} (h : EnOk ts st es) (hw : ∀ q ∈ ts, 1 ≤ q.2.2.1.2.2.1.length) : EnT ts es := fun e he => by
  obtain ⟨⟨q, hq, q1, q2, -⟩, -⟩ := h.2.1 e he
  exact ⟨q, hq, q1, q2, hw q hq⟩
theorem WfM.v (h : WfM M c d) (hi : i < 8) (hd : d ≤ 30) : WfV M i := by
  have hv := h.vw hi
  have hsl := std_len h
  have h1 := h.uq
  have hch := ch_le (M := M) hi
  have hen := end_le (M := M)
  have hms := h.2.2.2.2.2.2.2.1
  have hlen := hv.len h1 hsl
  refine ⟨hv.1, hv.ent (fun q hq => (h.wid hq).1), by omega, h.1, by omega, by omega, by omega, fun q hq e he e1 => ?_, fun q hq => h.wid hq⟩
  obtain ⟨⟨p, hp, p1, p2, -⟩, -⟩ := hv.2.1 e he
  have e9 : p = q := h1 p hp q hq (Or.inl (by rw [p2, e1]))
  rw [← p1, e9]
theorem WfM.cc (h : WfM M c d) (hi : i < 8) : WfC M i := fun sr => (h.vw hi).cnt sr
theorem WfM.shl (h : WfM M c d) : ∀ i, i < 8 → (M.2.2.2.1 i).2.2.2.1.length ≤ 3000 := fun i hi => by
  have := (h.2.2.2.2.2.2.1 i hi).2.1.len h.uq (std_len h)
  omega
theorem WfM.shf (h : WfM M c d) : M.2.1.length ≤ 3000 := by
  have := h.2.2.2.2.2.1.len h.uq (std_len h)
  omega
theorem putC0 {gv : Bool} {nk : Int32} {it : Nat → Int32} {n : Nat} (hn : 1 ≤ n) : ((putC gv nk it n)[0]?).getD 0 = if gv = true then nk else it 0 := by
  unfold putC
  rw [List.getElem?_map, List.getElem?_range (by omega)]
  show (if 0 = 0 ∧ gv = true then nk else it 0) = _
  by_cases h : gv = true
  · rw [if_pos ⟨rfl, h⟩, if_pos h]
  · rw [if_neg (fun e => h e.2), if_neg h]
theorem i_6411 (m ln : Nat) : 64 * (Int32.ofNat m + 1) + Int32.ofNat ln = Int32.ofNat (64 * (m + 1) + ln) := by
  rw [Int32.ofNat_add, Int32.ofNat_mul, Int32.ofNat_add]
  rfl
theorem wf_put {gv : Bool} {vl : Nat → Int32} (h : WfM M c d) (hi : i < 8) (hln : (M.2.2.2.1 i).1 = Int32.ofNat ln) (hl64 : ln < 64) (hq : q ∈ M.2.2.2.2.2.2) (hst : q.1.1 ∈ M.1) (hb : isB q.2.2.1.2.1 (M.2.2.2.1 i).1 = true) (hv : gv = true ∨ ¬ vl 0 < -1000000000) (hc : c + 1 ≤ 1000) : WfM (putM M i ln q gv vl).2.2 (c + 1) (d + 1) := by
  have hM : WfM M (c + 1) (d + 1) := h.mono (by omega) (by omega)
  unfold putM
  split
  · split
    · rename_i hrc hj
      have hw := h.wid hq
      have hkey : ¬ (putEn q ln (putCs gv q ln vl)).2.1 < -1000000000 := by
        show ¬ ((putCs gv q ln vl)[0]?).getD 0 < -1000000000
        unfold putCs
        rw [putC0 hw.1]
        by_cases hg : gv = true
        · rw [if_pos hg]
          obtain ⟨h1, h2, ⟨md, m1, m2, m3, m4⟩, -⟩ := h
          obtain ⟨a1, a2, a3, -⟩ := m3 q hq
          have hx : q.2.2.2.2.1[ln]? = some (q.2.2.2.2.1[ln]'(by omega)) := List.getElem?_eq_getElem (by omega)
          obtain ⟨m, hm, e⟩ := a3 ln _ hx
          rw [hx, Option.getD_some, e, i_6411]
          exact fun h9 => iN_nn (by omega) (i32_tr h9 (by decide))
        · rw [if_neg hg]
          rcases hv with h9 | h9
          · exact absurd h9 hg
          · exact h9
      have hep : EP M.2.2.2.2.2.2 M.1 (putEn q ln (putCs gv q ln vl)) := ⟨⟨q, hq, rfl, rfl, by show isB q.2.2.1.2.1 (Int32.ofNat ln) = true; rw [← hln]; exact hb⟩, hst, by show isL4 (Int32.ofNat ln) = true; rw [← hln]; exact h.lab hi, hkey⟩
      have hcn : cntE (storeE (vwE M i) (putEn q ln (putCs gv q ln vl))) q.2.1 (Int32.ofNat ln) ≤ 12 := by
        rw [← hln]
        exact judge0_cnt hj
      refine h.kG hi ((h.vw hi).put hep hcn) (fun e he => ?_) (by show (1 : Nat) ≤ 48; omega) hc
      rw [List.mem_singleton.mp he]
      exact ⟨hln.symm, q, hq, rfl, rfl, by show isB q.2.2.1.2.1 (Int32.ofNat ln) = true; rw [← hln]; exact hb⟩
    · exact hM
  · exact hM
theorem alP_look {fm : Int32 → List Int32 → Bool} {r : En} (h : WfM M c d) (hi : i < 8) (hr : r ∈ alP fm q.2.1 (lookE (TIq M.2.2.2.2.2.2) (vwE M i) (M.2.2.2.1 i).1)) : r ∈ vwE M i ∧ r.1 = q.2.1 ∧ isB r.2.2.1 (M.2.2.2.1 i).1 = true := by
  obtain ⟨h1, h2, -⟩ := alP_mem hr
  exact ⟨look_mem h1, h2, look_isB h1⟩
theorem EP.at {r : En} (h : WfM M c d) (hi : i < 8) (hr : r ∈ vwE M i) (hb : isB r.2.2.1 (M.2.2.2.1 i).1 = true) (x : Bool) (cs : List Int32) : EP M.2.2.2.2.2.2 M.1 (r.1, r.2.1, (M.2.2.2.1 i).1, x, cs, r.2.2.2.2.2) := by
  obtain ⟨⟨p, hp, p1, p2, p3⟩, hs, h4, hk⟩ := (h.vw hi).2.1 r hr
  exact ⟨⟨p, hp, p1, p2, isB_tr (h.tlab hp) h4 (h.lab hi) p3 hb⟩, hs, h.lab hi, hk⟩
theorem wf_alt {st : A3 → En → A3} {al : List En} (h : WfM M c d) (hi : i < 8) (hD : judgeQ M q (altA M i st al).1 (altA M i st al).2.2 (M.2.2.2.1 i).1 = 0 → EnOk M.2.2.2.2.2.2 M.1 (altA M i st al).1) (hts : ChOk M.2.2.2.2.2.2 (M.2.2.2.1 i).1 (altA M i st al).2.1) (hl : (altA M i st al).2.1.length ≤ 48) (hc : c + 1 ≤ 1000) : WfM (altM M i ln q st al).2.2 (c + 1) (d + 1) := by
  unfold altM
  split
  · rename_i hj
    exact h.kG hi (hD hj) hts hl hc
  · exact h.mono (by omega) (by omega)
theorem ChOk.of {ts : List TQ} {st : List Nat} {lb : Int32} {cs : List En} (h : ∀ e ∈ cs, EP ts st e) (hl : ∀ e ∈ cs, e.2.2.1 = lb) : ChOk ts lb cs := fun e he => by
  obtain ⟨⟨q, hq, q1, q2, q3⟩, -⟩ := h e he
  exact ⟨hl e he, q, hq, q1, q2, q3⟩
theorem al48 {fm : Int32 → List Int32 → Bool} {sr : Int32} (h : WfM M c d) (hi : i < 8) : (alP fm sr (lookE (TIq M.2.2.2.2.2.2) (vwE M i) (M.2.2.2.1 i).1)).length ≤ 48 := by
  have h1 := alP_cnt (fm := fm) (sr := sr) (ls := (lookE (TIq M.2.2.2.2.2.2) (vwE M i) (M.2.2.2.1 i).1))
  have h2 := (look_sub (TI := TIq M.2.2.2.2.2.2) (es := vwE M i) (lb := (M.2.2.2.1 i).1)).countP_le (p := fun e => decide (e.1 = sr))
  have h3 := h.cc hi sr
  omega
theorem wf_cut {fm : Int32 → List Int32 → Bool} (h : WfM M c d) (hi : i < 8) (hc : c + 1 ≤ 1000) : WfM (cutM M i ln q fm).2.2 (c + 1) (d + 1) := by
  have hr : ∀ r ∈ alP fm q.2.1 (lookE (TIq M.2.2.2.2.2.2) (vwE M i) (M.2.2.2.1 i).1), EP M.2.2.2.2.2.2 M.1 (veilE r (M.2.2.2.1 i).1) ∧ r.1 = q.2.1 := fun r hr => by
    obtain ⟨h1, h2, h3⟩ := alP_look h hi hr
    exact ⟨EP.at h hi h1 h3 true [], h2⟩
  have hA := AI.fC (B := EP M.2.2.2.2.2.2 M.1) (lb := (M.2.2.2.1 i).1) (alP fm q.2.1 (lookE (TIq M.2.2.2.2.2.2) (vwE M i) (M.2.2.2.1 i).1)) (vwE M i).length 0 (vwE M i, [], []) ⟨(h.vw hi).1, fun e he => (h.vw hi).2.1 e he, fun e he => (List.not_mem_nil he).elim, fun e he => (List.not_mem_nil he).elim, Nat.le_refl _, Nat.le_refl _, Nat.le_refl _⟩ (fun r hr9 => (hr r hr9).1)
  obtain ⟨a1, a2, a3, a4, a5, a6, a7⟩ := hA
  have := al48 (fm := fm) (sr := q.2.1) h hi
  exact wf_alt h hi (fun hj => (h.vw hi).fC hr (judge0_cnt hj)) (ChOk.of a3 (fold_C_lab _ _ (fun x hx => (List.not_mem_nil hx).elim))) (by unfold altA; omega) hc
theorem wf_set {col : Nat} {fm : Int32 → List Int32 → Bool} {fv : Int32 → List Int32 → Int32} (h : WfM M c d) (hi : i < 8) (hc : c + 1 ≤ 1000) : WfM (setM M i ln q col fm fv).2.2 (c + 1) (d + 1) := by
  have hr : ∀ r ∈ alP fm q.2.1 (lookE (TIq M.2.2.2.2.2.2) (vwE M i) (M.2.2.2.1 i).1), EP M.2.2.2.2.2.2 M.1 (rowS M.2.2.2.2.2.2 (M.2.2.2.1 i).1 col fv r) ∧ (rowS M.2.2.2.2.2.2 (M.2.2.2.1 i).1 col fv r).1 = q.2.1 ∧ (rowS M.2.2.2.2.2.2 (M.2.2.2.1 i).1 col fv r).2.2.1 = (M.2.2.2.1 i).1 := fun r hr => by
    obtain ⟨h1, h2, h3⟩ := alP_look h hi hr
    exact ⟨EP.at h hi h1 h3 false _, h2, rfl⟩
  have hA := AI.fS (B := EP M.2.2.2.2.2.2 M.1) (row := rowS M.2.2.2.2.2.2 (M.2.2.2.1 i).1 col fv) (alP fm q.2.1 (lookE (TIq M.2.2.2.2.2.2) (vwE M i) (M.2.2.2.1 i).1)) (vwE M i).length 0 (vwE M i, [], []) ⟨(h.vw hi).1, fun e he => (h.vw hi).2.1 e he, fun e he => (List.not_mem_nil he).elim, fun e he => (List.not_mem_nil he).elim, Nat.le_refl _, Nat.le_refl _, Nat.le_refl _⟩ (fun r hr9 => (hr r hr9).1)
  obtain ⟨a1, a2, a3, a4, a5, a6, a7⟩ := hA
  have := al48 (fm := fm) (sr := q.2.1) h hi
  exact wf_alt h hi (fun hj => (h.vw hi).fS hr (judge0_cnt hj)) (ChOk.of a3 (fold_S_lab _ _ (fun r hr9 => (hr r hr9).2.2) (fun x hx => (List.not_mem_nil hx).elim))) (by unfold altA; omega) hc
theorem wf_get {w : Nat} {top : Int32} {t : QT} (h : WfM M c d) (hi : i < 8) : WfM (getM M i w top t).2.2 (c + 1) (d + 1) := by
  unfold getM
  split
  · exact (h.ses hi (s := sAns (M.2.2.2.1 i) t.1.length w t.1.flatten) (h.2.2.2.2.2.2.1 i hi) (Nat.le_refl _)).mono (by omega) (by omega)
  · exact h.mono (by omega) (by omega)
theorem wf_low {key other : Int32} (h : WfM M c d) (hi : i < 8) (hq : q ∈ M.2.2.2.2.2.2) (hst : q.1.1 ∈ M.1) : WfM (lowM M i q key other).2.2 (c + 1) (d + 1) := by
  have hM : WfM M (c + 1) (d + 1) := h.mono (by omega) (by omega)
  unfold lowM
  split
  · rename_i hrc
    split
    · exact hM
    · rename_i hb
      have hvw : vwE M i = M.2.1 := if_neg hb
      rw [hvw] at hrc ⊢
      unfold lowRc at hrc
      cases ho : lowO M.2.1 q key other (M.2.2.2.1 i).1 with
      | none =>
        rw [ho] at hrc
        have hrc' : (if lowC key other (M.2.2.2.1 i).1 q.2.2.1.2.1 = 0 then (107 : Int32) else lowC key other (M.2.2.2.1 i).1 q.2.2.1.2.1) = 0 := hrc
        by_cases hz : lowC key other (M.2.2.2.1 i).1 q.2.2.1.2.1 = 0
        · rw [if_pos hz] at hrc'
          exact absurd hrc' (by decide)
        · rw [if_neg hz] at hrc'
          exact absurd hrc' hz
      | some e =>
        rw [ho] at hrc
        have hrc' : (if 12 < cntE (storeE M.2.1 e) q.2.1 other then (102 : Int32) else 0) = 0 := hrc
        have hcn : cntE (storeE M.2.1 e) q.2.1 other ≤ 12 := by
          by_cases hz : 12 < cntE (storeE M.2.1 e) q.2.1 other
          · rw [if_pos hz] at hrc'
            exact absurd hrc' (by decide)
          · omega
        obtain ⟨g1, g2, g3, g4⟩ : lowC key other (M.2.2.2.1 i).1 q.2.2.1.2.1 = 0 ∧ e.1 = q.2.1 ∧ e.2.2.1 = other ∧ e.2.2.2.2.2 = q.1.1 ∧ ¬ e.2.1 < -1000000000 := by
          unfold lowO at ho
          by_cases hz : lowC key other (M.2.2.2.1 i).1 q.2.2.1.2.1 = 0
          · rw [if_pos hz] at ho
            cases hf : findE M.2.1 (q.2.1, key, (M.2.2.2.1 i).1) with
            | none => rw [hf] at ho; cases ho
            | some x =>
              rw [hf] at ho
              have ho' : (if x.2.2.2.1 = true then none else some (q.2.1, key, other, false, x.2.2.2.2.1, q.1.1)) = some e := ho
              split at ho'
              · cases ho'
              · cases ho'
                have hk := (h.2.2.2.2.2.1.2.1 x (find_mem9 hf)).2.2.2
                have e9 := find_at9 hf
                refine ⟨hz, rfl, rfl, rfl, ?_⟩
                show ¬ key < -1000000000
                rw [← show x.2.1 = key from congrArg (fun p : Pl => p.2.1) e9]
                exact hk
          · rw [if_neg hz] at ho
            cases ho
        have hlc : isLb other = true ∧ isB other (M.2.2.2.1 i).1 = true ∧ isB q.2.2.1.2.1 other = true := by
          unfold lowC at g1
          by_cases hz : key = -1000000000
          · rw [if_pos hz] at g1
            exact absurd g1 (by decide)
          · rw [if_neg hz] at g1
            by_cases hy : (isLb other && (decide (¬ other = (M.2.2.2.1 i).1) && (isB other (M.2.2.2.1 i).1 && isB q.2.2.1.2.1 other))) = true
            · simp only [Bool.and_eq_true] at hy
              exact ⟨hy.1, hy.2.2.1, hy.2.2.2⟩
            · rw [if_neg hy] at g1
              exact absurd g1 (by decide)
        have hep : EP M.2.2.2.2.2.2 M.1 e := ⟨⟨q, hq, g4.1.symm, g2.symm, by rw [g3]; exact hlc.2.2⟩, by rw [g4.1]; exact hst, by rw [g3]; exact isB_L4 (h.lab hi) hlc.1 hlc.2.1, g4.2⟩
        have hD : EnOk M.2.2.2.2.2.2 M.1 (storeE M.2.1 e) := h.2.2.2.2.2.1.put hep (by rw [g2, g3]; exact hcn)
        obtain ⟨h1, h2, h3, h4, h5, h6, h7, h8, h9⟩ := h
        refine WfM.mono (c := c) (d := d + 1) ⟨h1, h2, h3, h4, h5, hD, fun j hj => (h7 j hj).of (fun es he => he) (fun lb cs he => he) (by show _ ≤ (M.2.2.1 ++ [e]).length; rw [List.length_append]; exact Nat.le_add_right _ _), ?_, h9⟩ (by omega) (Nat.le_refl _)
        show massM (mEnded (mShelf M (lowD M.2.1 (some e))) (M.2.2.1 ++ (some e).toList)) ≤ 48 * (d + 1)
        have e3 : massM (mEnded (mShelf M (lowD M.2.1 (some e))) (M.2.2.1 ++ (some e).toList)) = (M.2.2.1 ++ [e]).length + sumL (fun i => (M.2.2.2.1 i).2.2.2.2.1.length) (List.range 8) := rfl
        have e4 : massM M = M.2.2.1.length + sumL (fun i => (M.2.2.2.1 i).2.2.2.2.1.length) (List.range 8) := rfl
        rw [List.length_append, List.length_singleton] at e3
        omega
  · exact hM
end
