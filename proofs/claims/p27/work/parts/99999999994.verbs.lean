/-! the house: statements that change rows are done (by hand) -/
theorem mem_store {es : List En} {e f : En} (h : f ∈ storeE es e) : f = e ∨ f ∈ es := by
  unfold storeE at h
  rcases List.mem_append.mp h with h | h
  · exact Or.inr (List.mem_filter.mp h).1
  rcases List.mem_cons.mp h with h | h
  · exact Or.inl h
  · exact Or.inr (List.mem_filter.mp h).1
theorem mem_tk {es : List En} {e f : En} {lb : Int32} (h : f ∈ tkE es e lb) : f ∈ es := (List.mem_filter.mp h).1
theorem mem_cut {es : List En} {e f : En} {lb : Int32} (h : f ∈ cutE es e lb) : f = veilE e lb ∨ f ∈ es := by
  unfold cutE at h
  split at h
  · rcases mem_store h with h | h
    · exact Or.inl h
    · exact Or.inr (mem_tk h)
  · exact Or.inr (mem_tk h)
theorem find_mem9 {es : List En} {p : Pl} {f : En} (h : findE es p = some f) : f ∈ es := List.mem_of_find?_eq_some h
theorem mem_cutT {es : List En} {e f : En} {lb : Int32} (h : f ∈ cutT es e lb) : f = veilE e lb ∨ f ∈ es := by
  unfold cutT at h
  split at h
  · exact Or.inl (List.mem_singleton.mp h)
  · cases hf : findE es (e.1, e.2.1, lb) with
    | none => rw [hf] at h; cases h
    | some x =>
      rw [hf] at h
      have : f = x := List.mem_singleton.mp h
      rw [this]
      exact Or.inr (find_mem9 hf)
theorem cutT_le9 {es : List En} {e : En} {lb : Int32} : (cutT es e lb).length ≤ 1 := by
  unfold cutT
  split
  · exact Nat.le_refl 1
  · cases findE es (e.1, e.2.1, lb) with
    | none => exact Nat.zero_le _
    | some x => exact Nat.le_refl 1
theorem tk_len {es : List En} {e : En} {lb : Int32} : (tkE es e lb).length ≤ es.length := List.length_filter_le _ _
theorem cutE_le9 {es : List En} {e : En} {lb : Int32} : (cutE es e lb).length ≤ es.length + 1 := by
  unfold cutE
  split
  · have := store_len9 (tkE es e lb) (veilE e lb)
    have := tk_len (es := es) (e := e) (lb := lb)
    omega
  · have := tk_len (es := es) (e := e) (lb := lb)
    omega
/-- what holds of entries, what is touched, what is made, while rows are altered -/
def AI (B : En → Prop) (n m : Nat) (a : A3) : Prop := Srt a.1 ∧ (∀ e ∈ a.1, B e) ∧ (∀ e ∈ a.2.1, B e) ∧ (∀ e ∈ a.2.2, B e) ∧ a.1.length ≤ n ∧ a.2.1.length ≤ m ∧ a.2.2.length ≤ m
theorem AI.stS {B : En → Prop} {n m : Nat} {a : A3} {r : En} {row : En → En} (h : AI B n m a) (hr : B (row r)) : AI B (n + 1) (m + 1) (stepS row a r) := by
  obtain ⟨h1, h2, h3, h4, h5, h6, h7⟩ := h
  have := store_len9 a.1 (row r)
  refine ⟨h1.store _, fun e he => ?_, fun e he => ?_, fun e he => ?_, by show (storeE a.1 (row r)).length ≤ _; omega, by show (a.2.1 ++ [row r]).length ≤ _; rw [List.length_append, List.length_singleton]; omega, by show (a.2.2 ++ [row r]).length ≤ _; rw [List.length_append, List.length_singleton]; omega⟩
  · rcases mem_store he with e2 | e2
    · rw [e2]; exact hr
    · exact h2 e e2
  · rcases List.mem_append.mp he with e2 | e2
    · exact h3 e e2
    · rw [List.mem_singleton.mp e2]; exact hr
  · rcases List.mem_append.mp he with e2 | e2
    · exact h4 e e2
    · rw [List.mem_singleton.mp e2]; exact hr
theorem AI.stC {B : En → Prop} {n m : Nat} {a : A3} {r : En} {lb : Int32} (h : AI B n m a) (hr : B (veilE r lb)) : AI B (n + 1) (m + 1) (stepC lb a r) := by
  obtain ⟨h1, h2, h3, h4, h5, h6, h7⟩ := h
  have c1 := cutE_le9 (es := a.1) (e := r) (lb := lb)
  have c2 := cutT_le9 (es := a.1) (e := r) (lb := lb)
  refine ⟨cut_srt h1, fun e he => ?_, fun e he => ?_, h4, by show (cutE a.1 r lb).length ≤ _; omega, by show (a.2.1 ++ cutT a.1 r lb).length ≤ _; rw [List.length_append]; omega, by show a.2.2.length ≤ _; omega⟩
  · rcases mem_cut he with e2 | e2
    · rw [e2]; exact hr
    · exact h2 e e2
  · rcases List.mem_append.mp he with e2 | e2
    · exact h3 e e2
    · rcases mem_cutT e2 with e2 | e2
      · rw [e2]; exact hr
      · exact h2 e e2
theorem AI.fS {B : En → Prop} {row : En → En} : ∀ (al : List En) (n m : Nat) (a : A3), AI B n m a → (∀ r ∈ al, B (row r)) → AI B (n + al.length) (m + al.length) (al.foldl (stepS row) a)
  | [], _, _, _, h, _ => h
  | r :: al, n, m, a, h, hr => by
    have := AI.fS al (n + 1) (m + 1) _ (h.stS (row := row) (hr r List.mem_cons_self)) (fun r9 h9 => hr r9 (List.mem_cons_of_mem _ h9))
    rw [List.length_cons, show n + (al.length + 1) = n + 1 + al.length by omega, show m + (al.length + 1) = m + 1 + al.length by omega]
    exact this
theorem AI.fC {B : En → Prop} {lb : Int32} : ∀ (al : List En) (n m : Nat) (a : A3), AI B n m a → (∀ r ∈ al, B (veilE r lb)) → AI B (n + al.length) (m + al.length) (al.foldl (stepC lb) a)
  | [], _, _, _, h, _ => h
  | r :: al, n, m, a, h, hr => by
    have := AI.fC al (n + 1) (m + 1) _ (h.stC (lb := lb) (hr r List.mem_cons_self)) (fun r9 h9 => hr r9 (List.mem_cons_of_mem _ h9))
    rw [List.length_cons, show n + (al.length + 1) = n + 1 + al.length by omega, show m + (al.length + 1) = m + 1 + al.length by omega]
    exact this
theorem altP_mem {sr : Int32} {mnt : En → Bool} : ∀ {ls : List En} {lk : Option Int32} {r : En}, r ∈ altP sr mnt lk ls → r ∈ ls ∧ r.1 = sr ∧ mnt r = true
  | [], _, _, h => by cases h
  | x :: ls, lk, r, h => by
    unfold altP at h
    split at h
    · rename_i hc
      rcases List.mem_cons.mp h with e | e
      · rw [e]; exact ⟨List.mem_cons_self, hc.1, hc.2.2⟩
      · obtain ⟨a, b⟩ := altP_mem e
        exact ⟨List.mem_cons_of_mem _ a, b⟩
    · obtain ⟨a, b⟩ := altP_mem h
      exact ⟨List.mem_cons_of_mem _ a, b⟩
/-- which rows are altered, by what is asked of their labels and cells -/
def alP (fm : Int32 → List Int32 → Bool) (sr : Int32) (ls : List En) : List En := altP sr (fun r => fm r.2.2.1 r.2.2.2.2.1) none ls.reverse
theorem alP_mem {fm : Int32 → List Int32 → Bool} {sr : Int32} {ls : List En} {r : En} (h : r ∈ alP fm sr ls) : r ∈ ls ∧ r.1 = sr ∧ fm r.2.2.1 r.2.2.2.2.1 = true := by
  obtain ⟨a, b, c⟩ := altP_mem h
  exact ⟨List.mem_reverse.mp a, b, c⟩
theorem alP_len {fm : Int32 → List Int32 → Bool} {sr : Int32} {ls : List En} : (alP fm sr ls).length ≤ ls.length := by
  have := altP_len (sr := sr) (mnt := fun r => fm r.2.2.1 r.2.2.2.2.1) (ls := ls.reverse) (lk := none)
  rw [List.length_reverse] at this
  exact this
def rowS (ts : List TQ) (lb : Int32) (col : Nat) (fv : Int32 → List Int32 → Int32) (r : En) : En := (r.1, r.2.1, lb, false, setC r.2.2.2.2.1 ((TIq ts) r.2.2.2.2.2).2.2.1.length col (fv r.2.2.1 r.2.2.2.2.1), r.2.2.2.2.2)
def setM (M : HM) (i ln : Nat) (q : TQ) (col : Nat) (fm : Int32 → List Int32 → Bool) (fv : Int32 → List Int32 → Int32) : RM := altM M i ln q (stepS (rowS M.2.2.2.2.2.2 (M.2.2.2.1 i).1 col fv)) (alP fm q.2.1 (lookE (TIq M.2.2.2.2.2.2) (vwE M i) (M.2.2.2.1 i).1))
def cutM (M : HM) (i ln : Nat) (q : TQ) (fm : Int32 → List Int32 → Bool) : RM := altM M i ln q (stepC (M.2.2.2.1 i).1) (alP fm q.2.1 (lookE (TIq M.2.2.2.2.2.2) (vwE M i) (M.2.2.2.1 i).1))
/-- the formulas of a bound statement -/
def putV (σ : Nat → Nat) (W : List WC) : Nat → Int32 := fun i => resE (-1000000000) (fun _ => -1000000000) (((wos σ W).take (itTo (wits W) (wif0 W) (wos σ W).length i true (wfr W))).drop (wfr W i))
def fmW (σ : Nat → Nat) (W : List WC) : Int32 → List Int32 → Bool := fun lb cs => mntB (wif0 W) (wif1 W) (resE lb (fun g => cellE cs [] g.toNatClampNeg) (((wos σ W).take (wif1 W)).drop (wif0 W)))
def fvW (σ : Nat → Nat) (W : List WC) : Int32 → List Int32 → Int32 := fun lb cs => resE lb (fun g => cellE cs [] g.toNatClampNeg) (((wos σ W).take (itTo (wits W) (wif0 W) (wos σ W).length 0 false (wfr W))).drop (wfr W 0))
theorem putRc_fit {D : List En} {sr : Int32} {lb : Nat} {cs : List Int32} : xfit (xFT 14 11) (.int (putRc D sr lb cs)) = true := by
  unfold putRc
  split
  · decide
  · split
    · split
      · decide
      · decide
    · decide
theorem EnT.of {ts : List TQ} {es fs : List En} (h : EnT ts es) (hb : ∀ e ∈ fs, ∃ r ∈ es, r.1 = e.1 ∧ r.2.2.2.2.2 = e.2.2.2.2.2) : EnT ts fs := fun e he => by
  obtain ⟨r, hr, e1, e2⟩ := hb e he
  obtain ⟨q, hq, q1, q2, q3⟩ := h r hr
  exact ⟨q, hq, q1.trans e2, q2.trans e1, q3⟩
/-- of the draft, while the rows of a table are altered -/
def BsE (es : List En) (e : En) : Prop := ∃ r ∈ es, r.1 = e.1 ∧ r.2.2.2.2.2 = e.2.2.2.2.2
def oneB (W : List WC) : Bool := stfB W && wveq (wfl W 15 4) (wA 18)
def putB (gv : Bool) (w : Nat) (W : List WC) : Bool := oneB W && (wveq (wfl W 0 2) (wK 16) && (Nat.ble 1 (wits W) && (Nat.ble (wkd W 0) 50 && (decide (gv = decide (wkd W 0 = 17)) && (wnmB W && (List.range w).all (fun i => (Nat.beq i 0 && gv) || (Nat.ble (i + 1) (wits W) && (Nat.ble (wfr W i) (itTo (wits W) (wif0 W) (wfn W) i true (wfr W)) && (Nat.ble (itTo (wits W) (wif0 W) (wfn W) i true (wfr W)) (wfn W) && wrs W (wfr W i) (itTo (wits W) (wif0 W) (wfn W) i true (wfr W)))))))))))
def altB (W : List WC) : Bool := oneB W && (wnmB W && (Nat.ble (wif1 W) (wfn W) && (Nat.ble (wfn W) 120 && (Nat.ble (wif1 W) (wif0 W) || wrs W (wif0 W) (wif1 W)))))
def cutB (W : List WC) : Bool := altB W && wveq (wfl W 0 2) (wK 19)
def setB (col : Nat) (W : List WC) : Bool := altB W && (wveq (wfl W 0 2) (wK 18) && (wveq (wfl W 15 9) (wA 16) && (wveq (wfl W 16 0) (wI col) && (wveq (wfl W 0 15) (wI 1) && (Nat.ble 1 (wits W) && (Nat.ble (wfr W 0) (itTo (wits W) (wif0 W) (wfn W) 0 false (wfr W)) && (Nat.ble (itTo (wits W) (wif0 W) (wfn W) 0 false (wfr W)) (wfn W) && wrs W (wfr W 0) (itTo (wits W) (wif0 W) (wfn W) 0 false (wfr W)))))))))
theorem bf_120 {W : List WC} (hb : stfB W = true) : wfn W ≤ 100 := by
  unfold stfB at hb
  simp only [Bool.and_eq_true] at hb
  have b9 := hb.2.1
  unfold wFoB at b9
  simp only [Bool.and_eq_true] at b9
  exact Nat.le_of_ble_eq_true b9.2.2.2.2.2.2.2.2.2.2.2.2.1
theorem one_s {A ρ σ : Nat → Nat} {ω : Nat → Value} {W : List WC} {hp : List XC} (H : WH A ρ σ ω W hp) (hb : oneB W = true) {t : Nat} (h18 : ρ 18 = t) : ∃ (sf mf ces : List Value) (ws : Value) (es : List Value) (gs : List Int32), StF hp A (wif0 W) (wif1 W) (wits W) (wvb W) (wkd W) (wfr W) (wos σ W) sf mf ces ws es gs ∧ mf[4]? = some (.ref t) ∧ (∀ k, k < 20 → sf[k]? = some (wt ρ σ ω (wfl W 0 k))) ∧ (∀ k, k < 10 → mf[k]? = some (wt ρ σ ω (wfl W 15 k))) ∧ (∀ k, k < 120 → ces[k]? = some (wt ρ σ ω (wfl W 16 k))) ∧ ces.length = 120 := by
  obtain ⟨b1, b2⟩ := Bool.and_eq_true_iff.mp hb
  obtain ⟨sf, mf, ces, ws, es, gs, hS9, s3, m3, c3, c2⟩ := H.stf b1
  refine ⟨sf, mf, ces, ws, es, gs, hS9, ?_, s3, m3, c3, c2⟩
  rw [m3 4 (by decide), wveq_s b2]
  show some (Value.ref (ρ 18)) = _
  rw [h18]
theorem v_put {S : List Int32} {g : List XC} {ow : Nat → Nat} {k : Nat} {A : Nat → Nat} {M : HM} {np nl i ln : Nat} {ρ σ : Nat → Nat} {ω : Nat → Value} {W : List WC} {q : TQ} {gv : Bool} {w : Nat} (h : HR g ow k A M 0 np nl) (hi : i < 8) (hln : (M.2.2.2.1 i).1 = Int32.ofNat ln) (hl64 : ln < 64) (hV : WfV M i) (H : WH A ρ σ ω W g) (hb : putB gv w W = true) (hq : q ∈ M.2.2.2.2.2.2) (h18 : ρ 18 = q.1.1) (hqw : q.2.2.1.2.2.1.length = w) : At S 12 40 66 [(3, .int (Int32.ofNat 4294967295)), (2, .ref (A (20 + i))), (0, .ref (A 0))] [] g 0 0 (QR g ow k A np nl 3 111 (fun r => r = cntR (putM M i ln q gv (putV σ W)) i ln)) := by
  unfold putB at hb
  simp only [Bool.and_eq_true] at hb
  obtain ⟨b1, b2, b3, b4, b5, b6, b7⟩ := hb
  have bf := bf_120 (Bool.and_eq_true_iff.mp b1).1
  obtain ⟨sf, mf, ces, ws, es, gs, hS9, hm4, s3, m3, c3, c2⟩ := one_s H b1 h18
  obtain ⟨hsr, hEt, hlen, hSt, hst9, hend, hch, hsame, hwid⟩ := hV
  have h2v : sf[2]? = some (.retAddr 16) := by rw [s3 2 (by decide), wveq_s b2]; rfl
  have hvb : wvb W = 16 := by show wkn (wfl W 0 2) = 16; rw [wveq_s b2]; rfl
  have e17 : xeq xKC (.retAddr (wkd W 0)) (.retAddr 17) = some gv := by
    rw [xq_w (by have := Nat.le_of_ble_eq_true b4; omega) (by decide), of_decide_eq_true b5]
  obtain ⟨vl, hvl⟩ : ∃ vl, vl = putV σ W := ⟨_, rfl⟩
  obtain ⟨cs, hcs⟩ : ∃ cs, cs = putCs gv q ln vl := ⟨_, rfl⟩
  obtain ⟨rc, hrc⟩ : ∃ rc, rc = putRc (vwE M i) q.2.1 ln cs := ⟨_, rfl⟩
  have hop : ∀ h1 : List XC, HR h1 ow k A M 0 np nl → ChS h1 A (M.2.2.2.1 i).1 0 0 (vwE M i) [] [] → StF h1 A (wif0 W) (wif1 W) (wits W) (wvb W) (wkd W) (wfr W) (wos σ W) sf mf ces ws es gs → Me S 8 191 [.ref (A 7), .ref (A 60), .ref (A 75)] h1 (fun v hp' c s => v = some (.int rc) ∧ HSu h1 hp' ow k A M 0 np nl c s 2 105 ∧ ChS hp' A (M.2.2.2.1 i).1 (if rc = 0 then 1 else 0) (bI gv) (if rc = 0 then storeE (vwE M i) (putEn q ln cs) else vwE M i) (if rc = 0 then [] ++ [putEn q ln cs] else []) (if rc = 0 then [] ++ [putEn q ln cs] else []) ∧ (∃ vs : List Int32, hp'[A 73]? = some (.inl (16, vs.map Value.int)) ∧ vs.length = 120) ∧ FrX (fun x => x = A 7 ∨ x = A 15 ∨ x = A 12 ∨ x = A 13 ∨ x = A 73) h1 hp') := fun h1 r1 c1 f1 => by
    rw [hln] at c1 ⊢
    rw [hrc, hcs, hvl]
    refine h_put (gv := gv) (b27 := false) r1 c1 f1 hq hm4 hl64 hsr (by omega) (by show 0 ≤ 3000; omega) (by show 0 ≤ 3000; omega) (by rw [wos_len]; omega) (by rw [hvb]; decide) (by rw [hvb]; decide) (Nat.le_of_ble_eq_true b3) e17 (wnmb_s b6) (hwid q hq).2 (hwid q hq).1 (fun j hj hn => ?_)
    rw [hqw] at hj
    have h9 := List.all_eq_true.mp b7 j (List.mem_range.mpr hj)
    rcases (Bool.or_eq_true _ _).mp h9 with e | e
    · obtain ⟨e1, e2⟩ := Bool.and_eq_true_iff.mp e
      exact absurd ⟨Nat.eq_of_beq_eq_true e1, e2⟩ hn
    · simp only [Bool.and_eq_true] at e
      obtain ⟨e1, e2, e3, e4⟩ := e
      have e1 := Nat.le_of_ble_eq_true e1
      rw [wos_len]
      exact ⟨by omega, Nat.le_of_ble_eq_true e2, Nat.le_of_ble_eq_true e3, resR_ok (wrs_ok e4)⟩
  have hfit0 : xfit (xFT 14 11) (.int rc) = true := by rw [hrc]; exact putRc_fit
  by_cases hr : rc = 0
  · rw [if_pos hr, if_pos hr, if_pos hr] at hop
    have hD : Srt (storeE (vwE M i) (putEn q ln cs)) := hsr.store _
    have hmD : ∀ f ∈ storeE (vwE M i) (putEn q ln cs), f = putEn q ln cs ∨ f ∈ vwE M i := fun f hf => mem_store hf
    have hEe : EnT M.2.2.2.2.2.2 [putEn q ln cs] := fun e he => by rw [List.mem_singleton.mp he]; exact ⟨q, hq, rfl, rfl, (hwid q hq).1⟩
    have hED : EnT M.2.2.2.2.2.2 (storeE (vwE M i) (putEn q ln cs)) := fun e he => by
      rcases hmD e he with e2 | e2
      · exact hEe e (by rw [e2]; exact List.mem_singleton.mpr rfl)
      · exact hEt e e2
    have hsm : ∀ f ∈ storeE (vwE M i) (putEn q ln cs), f.1 = q.2.1 → f.2.2.2.2.2 = q.1.1 := fun f hf e => by
      rcases hmD f hf with e2 | e2
      · rw [e2]; rfl
      · exact hsame q hq f e2 e
    have hlD := store_len9 (vwE M i) (putEn q ln cs)
    by_cases hj : judgeQ M q (storeE (vwE M i) (putEn q ln cs)) [putEn q ln cs] (M.2.2.2.1 i).1 = 0
    · have e9 : putM M i ln q gv (putV σ W) = (1, 0, keepG M i (storeE (vwE M i) (putEn q ln cs)) [putEn q ln cs] gv q.1.1 ln) := by
        unfold putM
        rw [← hvl, ← hcs, ← hrc, if_pos hr, if_pos hj]
      rw [e9]
      have hlk : ((keepG M i (storeE (vwE M i) (putEn q ln cs)) [putEn q ln cs] gv q.1.1 ln).2.2.2.1 i).1 = Int32.ofNat ln := by
        rw [← hln]
        unfold keepG keepM
        split
        · split
          · show ((mS M i (sKeep (M.2.2.2.1 i) _ _)).2.2.2.1 i).1 = _
            rw [mS_at]; rfl
          · rfl
        · split
          · rw [mS_at]; rfl
          · rfl
      exact run_a (vb := 16) h hi hlk hl64 hS9.2.1 h2v (Or.inl rfl) (h_alt16k h hi hsr hEt (by omega) hS9 h2v hq hm4 hop hfit0 hr (hwid q hq).1 hD hED hEe (by omega) hsm hj (by show _ + ([] ++ [putEn q ln cs]).length ≤ _; rw [List.nil_append, List.length_singleton]; omega) (by show _ + ([] ++ [putEn q ln cs]).length ≤ _; rw [List.nil_append, List.length_singleton]; omega) hln hl64) (by decide) (fun e hp' c s h9 => QR.k0 rfl h9 (by decide) (by decide)) (fun e => absurd rfl e)
    · have e9 : putM M i ln q gv (putV σ W) = (0, judgeQ M q (storeE (vwE M i) (putEn q ln cs)) [putEn q ln cs] (M.2.2.2.1 i).1, M) := by
        unfold putM
        rw [← hvl, ← hcs, ← hrc, if_pos hr, if_neg hj]
      rw [e9]
      exact run_a (vb := 16) h hi hln hl64 hS9.2.1 h2v (Or.inl rfl) (h_alt16j (ln := ln) h hi hsr hEt (by omega) hS9 h2v hq hm4 hop hfit0 hr (hwid q hq).1 hD hED hEe (by omega) hsm hj) judgeQ_fit (fun e => absurd e hj) (fun e hp' c s h9 => QR.k1 hj h9 (by decide) (by decide))
  · have e9 : putM M i ln q gv (putV σ W) = (0, rc, M) := by
      unfold putM
      rw [← hvl, ← hcs, ← hrc, if_neg hr]
    rw [e9]
    exact run_a (vb := 16) h hi hln hl64 hS9.2.1 h2v (Or.inl rfl) (h_alt16r (ln := ln) h hi hsr hEt (by omega) hS9 h2v hq hm4 hop hfit0 hr) hfit0 (fun e => absurd e hr) (fun e hp' c s h9 => QR.k1 hr h9 (by decide) (by decide))
