/-! two houses that are alike: put, set, cut (by hand) -/
section
variable {w : Int32 → Bool} {f : Int32 → Int32} {g : Nat → Nat} {M N : HM} {c d c' d' i ln : Nat} {lb nm : Int32} {q q' : TQ} {SP : Int32 → Prop} {TI UI : Nat → Tb}
theorem ep_l0 {ts : List TQ} {st : List Nat} {es : List En} (h : ∀ e ∈ es, EP ts st e) : Lab0 es := fun e he => isL4_nn (h e he).2.2.1
theorem ep_k0 {ts : List TQ} {st : List Nat} {es : List En} (h : ∀ e ∈ es, EP ts st e) : Key0 es := fun e he => (h e he).2.2.2
theorem ep_ex {ts : List TQ} {st : List Nat} {es : List En} (h : ∀ e ∈ es, EP ts st e) : ∀ e ∈ es, ∃ q ∈ ts, q.1.1 = e.2.2.2.2.2 ∧ q.2.1 = e.1 ∧ isB q.2.2.1.2.1 e.2.2.1 = true := fun e he => (h e he).1
theorem putRc_phi {es : List En} {sr : Int32} {cs : List Int32} (hf : Mono9 SP f) (h : LoS w SP f g TI UI es) (hl : w (Int32.ofNat ln) = true) (hs : SP sr) : putRc (phi w f g es) (f sr) ln cs = putRc es sr ln cs := by
  unfold putRc
  rw [phi_find hf h hl hs]
  by_cases hz : (cs[0]?).getD (0 : Int32) = -1000000000
  · rw [if_pos hz, if_pos hz]
  · rw [if_neg hz, if_neg hz]
    cases findE es (sr, (cs[0]?).getD 0, Int32.ofNat ln) with
    | none => rfl
    | some x => rfl
theorem judgeQ_phi (hw : ∀ l lb, w lb = true → isB l lb = true → w l = true) (R : Rel w f g M N) (hM : WfM M c d) (hN : WfM N c' d') {st : List Nat} {D ms : List En} (hs : Srt D) (hD : ∀ e ∈ D, EP M.2.2.2.2.2.2 st e) (hms : ∀ e ∈ ms, EP M.2.2.2.2.2.2 st e ∧ w e.2.2.1 = true) (hl : w lb = true) (hq : q ∈ M.2.2.2.2.2.2) (lq : w q.2.2.1.2.1 = true) (k : TqR w f g (SPm w M) q q') : judgeQ N q' (phi w f g D) (ms.map (mapE f g)) lb = judgeQ M q D ms lb := by
  have hLS := R.ls hw hM hN (ep_ex hD)
  have hLm := R.ls hw hM hN (es := ms) (fun e he => (hms e he).1.1)
  unfold judgeQ
  rw [k.2.1, k.2.2.2.2.2.2.1]
  exact phi_judge R.1 hLS hs (ep_l0 hD) (ep_k0 hD) (fun l h9 => hw l lb hl h9) hl ⟨q, hq, rfl, lq⟩ k.2.2.2.2.2.1 (fun x hx => (hLm x hx (hms x hx).2).2) (fun x => rfl)
theorem ckF_map {x : En} : ckF (mapE f g x) = ckF x := rfl
theorem low_put (hw : ∀ l lb, w lb = true → isB l lb = true → w l = true) (R : Rel w f g M N) (hM : WfM M c d) (hN : WfM N c' d') (hi : i < 8) (hln : (M.2.2.2.1 i).1 = Int32.ofNat ln) (hl64 : ln < 64) (hl : w (M.2.2.2.1 i).1 = true) (hq : q ∈ M.2.2.2.2.2.2) (hb : isB q.2.2.1.2.1 (M.2.2.2.1 i).1 = true) (hq' : q' ∈ N.2.2.2.2.2.2) (k : TqR w f g (SPm w M) q q') {gv : Bool} {vl : Nat → Int32} (hst : q.1.1 ∈ M.1) (hv : gv = true ∨ ¬ vl 0 < -1000000000) (hc : c ≤ 1000) : RelR w f g (putM M i ln q gv vl) (putM N i ln q' gv vl) := by
  have lq : w q.2.2.1.2.1 = true := hw _ _ hl hb
  have hlo : w (Int32.ofNat ln) = true := by rw [← hln]; exact hl
  have hes := (hM.vw hi).2.1
  have hLS := R.ls hw hM hN (hM.vw hi).ex
  have hvw := R.vw hi hl
  have hSq : SPm w M q.2.1 := ⟨q, hq, rfl, lq⟩
  have hcs : putCs gv q' ln vl = putCs gv q ln vl := by
    unfold putCs
    rw [k.2.2.2.2.2.2.2.1 ln hl64 hlo, k.2.2.2.2.1]
  obtain ⟨cs, ecs⟩ : ∃ cs, cs = putCs gv q ln vl := ⟨_, rfl⟩
  have hen : putEn q' ln cs = mapE f g (putEn q ln cs) := by
    unfold putEn
    rw [k.2.1, k.1]
    rfl
  have hlabN := R.lab hi
  unfold putM
  rw [hvw, hcs, ← ecs, k.2.1, putRc_phi R.1 hLS hlo hSq, hlabN]
  by_cases hz : putRc (vwE M i) q.2.1 ln cs = 0
  · rw [if_pos hz, if_pos hz]
    have hkey : ¬ (putEn q ln cs).2.1 < -1000000000 := by
      show ¬ ((cs[0]?).getD 0) < -1000000000
      rw [ecs]
      unfold putCs
      rw [putC0 (hM.wid hq).1]
      by_cases hg : gv = true
      · rw [if_pos hg]
        have hgl := hM.gl hq
        obtain ⟨h1, h2, ⟨md, m1, m2, m3, m4⟩, -⟩ := hM
        obtain ⟨a1, a2, a3, -⟩ := m3 q hq
        have hx : q.2.2.2.2.1[ln]? = some (q.2.2.2.2.1[ln]'(by omega)) := List.getElem?_eq_getElem (by omega)
        obtain ⟨m, hm, e⟩ := a3 ln _ hx
        rw [hx, Option.getD_some, e, i_6411]
        exact fun h9 => iN_nn (by omega) (i32_tr h9 (by decide))
      · rw [if_neg hg]
        rcases hv with h9 | h9
        · exact absurd h9 hg
        · exact h9
    have hep : EP M.2.2.2.2.2.2 M.1 (putEn q ln cs) := ⟨⟨q, hq, rfl, rfl, by show isB q.2.2.1.2.1 (Int32.ofNat ln) = true; rw [← hln]; exact hb⟩, hst, by show isL4 (Int32.ofNat ln) = true; rw [← hln]; exact hM.lab hi, hkey⟩
    have hsto : storeE (phi w f g (vwE M i)) (putEn q' ln cs) = phi w f g (storeE (vwE M i) (putEn q ln cs)) := by
      rw [hen]
      exact phi_store R.1 hLS hlo hSq
    have hj : judgeQ N q' (phi w f g (storeE (vwE M i) (putEn q ln cs))) [putEn q' ln cs] (M.2.2.2.1 i).1 = judgeQ M q (storeE (vwE M i) (putEn q ln cs)) [putEn q ln cs] (M.2.2.2.1 i).1 := by
      rw [hen]
      exact judgeQ_phi hw R hM hN (ms := [putEn q ln cs]) ((hM.vw hi).1.store _) (fun e he => by
        rcases mem_store he with h9 | h9
        · rw [h9]; exact hep
        · exact hes e h9) (fun e he => by rw [List.mem_singleton.mp he]; exact ⟨hep, hlo⟩) hl hq lq k
    rw [hsto, hj]
    by_cases hjz : judgeQ M q (storeE (vwE M i) (putEn q ln cs)) [putEn q ln cs] (M.2.2.2.1 i).1 = 0
    · rw [if_pos hjz, if_pos hjz]
      refine ⟨rfl, rfl, ?_⟩
      have := R.kG hw hM hN hi hln hl64 hl (gv := gv) (D := storeE (vwE M i) (putEn q ln cs)) (ts := [putEn q ln cs]) (ts' := [putEn q' ln cs]) rfl (by rw [hen]; rfl) (fun e he => by rw [List.mem_singleton.mp he]; exact hln.symm) (fun e he => by rw [List.mem_singleton.mp he]; exact hSq) hq lq
      rw [← k.1] at this
      exact this
    · rw [if_neg hjz, if_neg hjz]
      exact ⟨rfl, rfl, R⟩
  · rw [if_neg hz, if_neg hz]
    exact ⟨rfl, rfl, R⟩
theorem hi_put (R : Rel w f g M N) (hM : WfM M c d) (hi : i < 8) (hln : (M.2.2.2.1 i).1 = Int32.ofNat ln) (hl : w (M.2.2.2.1 i).1 = false) {gv : Bool} {vl : Nat → Int32} : Rel w f g (putM M i ln q gv vl).2.2 N := by
  unfold putM
  split
  · split
    · exact R.kGH hM hi hln hl (phi_store_hi (hM.vw hi).1 (by show w (Int32.ofNat ln) = false; rw [← hln]; exact hl)) (fun e he => by rw [List.mem_singleton.mp he]; exact hln.symm)
    · exact R
  · exact R
/-- rows altered -/
theorem low_alt (hw : ∀ l lb, w lb = true → isB l lb = true → w l = true) (R : Rel w f g M N) (hM : WfM M c d) (hN : WfM N c' d') (hi : i < 8) (hln : (M.2.2.2.1 i).1 = Int32.ofNat ln) (hl64 : ln < 64) (hl : w (M.2.2.2.1 i).1 = true) (hq : q ∈ M.2.2.2.2.2.2) (hb : isB q.2.2.1.2.1 (M.2.2.2.1 i).1 = true) (hq' : q' ∈ N.2.2.2.2.2.2) (k : TqR w f g (SPm w M) q q') {st st' : A3 → En → A3} {al : List En} (hA : altA N i st' (al.map (mapE f g)) = mA3 w f g (altA M i st al)) (hs : Srt (altA M i st al).1) (hD : ∀ e ∈ (altA M i st al).1, EP M.2.2.2.2.2.2 M.1 e) (ht : ∀ e ∈ (altA M i st al).2.1, EP M.2.2.2.2.2.2 M.1 e ∧ e.2.2.1 = (M.2.2.2.1 i).1) (hm : ∀ e ∈ (altA M i st al).2.2, EP M.2.2.2.2.2.2 M.1 e ∧ e.2.2.1 = (M.2.2.2.1 i).1) : RelR w f g (altM M i ln q st al) (altM N i ln q' st' (al.map (mapE f g))) := by
  have lq : w q.2.2.1.2.1 = true := hw _ _ hl hb
  have hlabN := R.lab hi
  unfold altM
  rw [hA, hlabN]
  have hj : judgeQ N q' (mA3 w f g (altA M i st al)).1 (mA3 w f g (altA M i st al)).2.2 (M.2.2.2.1 i).1 = judgeQ M q (altA M i st al).1 (altA M i st al).2.2 (M.2.2.2.1 i).1 := judgeQ_phi hw R hM hN hs hD (fun e he => ⟨(hm e he).1, by rw [(hm e he).2]; exact hl⟩) hl hq lq k
  rw [hj, List.length_map]
  by_cases hz : judgeQ M q (altA M i st al).1 (altA M i st al).2.2 (M.2.2.2.1 i).1 = 0
  · rw [if_pos hz, if_pos hz]
    refine ⟨rfl, rfl, ?_⟩
    have hLt := R.ls hw hM hN (es := (altA M i st al).2.1) (fun e he => (ht e he).1.1)
    have := R.kG hw hM hN hi hln hl64 hl (gv := false) (D := (altA M i st al).1) (ts := (altA M i st al).2.1) (ts' := (mA3 w f g (altA M i st al)).2.1) rfl rfl (fun e he => (ht e he).2) (fun e he => (hLt e he (by rw [(ht e he).2]; exact hl)).1) hq lq
    rw [← k.1] at this
    exact this
  · rw [if_neg hz, if_neg hz]
    exact ⟨rfl, rfl, R⟩
theorem low_lk (hw : ∀ l lb, w lb = true → isB l lb = true → w l = true) (R : Rel w f g M N) (hM : WfM M c d) (hN : WfM N c' d') (hi : i < 8) (hl : w (M.2.2.2.1 i).1 = true) : lookE (TIq N.2.2.2.2.2.2) (vwE N i) (N.2.2.2.1 i).1 = (lookE (TIq M.2.2.2.2.2.2) (vwE M i) (M.2.2.2.1 i).1).map (mapE f g) := by
  rw [R.vw hi hl, R.lab hi]
  exact phi_look R.1 (R.ls hw hM hN (hM.vw hi).ex) (fun l h9 => hw l _ hl h9)
theorem lk_sp (hw : ∀ l lb, w lb = true → isB l lb = true → w l = true) (R : Rel w f g M N) (hM : WfM M c d) (hN : WfM N c' d') (hi : i < 8) (hl : w (M.2.2.2.1 i).1 = true) : ∀ x ∈ (lookE (TIq M.2.2.2.2.2.2) (vwE M i) (M.2.2.2.1 i).1), SPm w M x.1 ∧ TbM f g (SPm w M) (TIq M.2.2.2.2.2.2 x.2.2.2.2.2) (TIq N.2.2.2.2.2.2 (g x.2.2.2.2.2)) := fun x hx =>
  R.ls hw hM hN (hM.vw hi).ex x (look_mem hx) (hw _ _ hl (look_isB hx))
theorem low_al (hw : ∀ l lb, w lb = true → isB l lb = true → w l = true) (R : Rel w f g M N) (hM : WfM M c d) (hN : WfM N c' d') (hi : i < 8) (hln : (M.2.2.2.1 i).1 = Int32.ofNat ln) (hl64 : ln < 64) (hl : w (M.2.2.2.1 i).1 = true) (hq : q ∈ M.2.2.2.2.2.2) (hb : isB q.2.2.1.2.1 (M.2.2.2.1 i).1 = true) (hq' : q' ∈ N.2.2.2.2.2.2) (k : TqR w f g (SPm w M) q q') {fm : Int32 → List Int32 → Bool} : alP fm q'.2.1 (lookE (TIq N.2.2.2.2.2.2) (vwE N i) (N.2.2.2.1 i).1) = (alP fm q.2.1 (lookE (TIq M.2.2.2.2.2.2) (vwE M i) (M.2.2.2.1 i).1)).map (mapE f g) := by
  rw [low_lk hw R hM hN hi hl, k.2.1]
  exact alP_map R.1 (fun x hx => (lk_sp hw R hM hN hi hl x hx).1) ⟨q, hq, rfl, hw _ _ hl hb⟩
theorem fold_S_l2 {row : En → En} {l : Int32} (h : ∀ r, (row r).2.2.1 = l) : ∀ (al : List En) (a : A3), (∀ x ∈ a.2.2, x.2.2.1 = l) → ∀ x ∈ (al.foldl (stepS row) a).2.2, x.2.2.1 = l
  | [], _, h9 => h9
  | r :: al, a, h9 => fold_S_l2 h al (stepS row a r) (fun x hx => by
      rcases List.mem_append.mp hx with h8 | h8
      · exact h9 x h8
      · rw [List.mem_singleton.mp h8]; exact h r)
theorem set_ok (hM : WfM M c d) (hi : i < 8) {al : List En} {row : En → En} (hr : ∀ r ∈ al, EP M.2.2.2.2.2.2 M.1 (row r)) (hl : ∀ r, (row r).2.2.1 = lb) : Srt (altA M i (stepS row) al).1 ∧ (∀ e ∈ (altA M i (stepS row) al).1, EP M.2.2.2.2.2.2 M.1 e) ∧ (∀ e ∈ (altA M i (stepS row) al).2.1, EP M.2.2.2.2.2.2 M.1 e ∧ e.2.2.1 = lb) ∧ ∀ e ∈ (altA M i (stepS row) al).2.2, EP M.2.2.2.2.2.2 M.1 e ∧ e.2.2.1 = lb := by
  unfold altA
  obtain ⟨a1, a2, a3, a4, -⟩ := AI.fS (B := EP M.2.2.2.2.2.2 M.1) (row := row) al (vwE M i).length 0 (vwE M i, [], []) ⟨(hM.vw hi).1, fun e he => (hM.vw hi).2.1 e he, fun e he => (List.not_mem_nil he).elim, fun e he => (List.not_mem_nil he).elim, Nat.le_refl _, Nat.le_refl _, Nat.le_refl _⟩ hr
  exact ⟨a1, a2, fun e he => ⟨a3 e he, fold_S_lab (lb := lb) al (vwE M i, [], []) (fun r hr9 => hl r) (fun x hx => (List.not_mem_nil hx).elim) e he⟩, fun e he => ⟨a4 e he, fold_S_l2 hl al (vwE M i, [], []) (fun x hx => (List.not_mem_nil hx).elim) e he⟩⟩
theorem rowS_map (R : Rel w f g M N) {l : Int32} {col : Nat} {fv : Int32 → List Int32 → Int32} {r : En} (h : (TIq N.2.2.2.2.2.2 (g r.2.2.2.2.2)).2.2.1.length = (TIq M.2.2.2.2.2.2 r.2.2.2.2.2).2.2.1.length) : rowS N.2.2.2.2.2.2 l col fv (mapE f g r) = mapE f g (rowS M.2.2.2.2.2.2 l col fv r) := by
  unfold rowS mapE
  dsimp only
  rw [h]
theorem low_setA (hw : ∀ l lb, w lb = true → isB l lb = true → w l = true) (R : Rel w f g M N) (hM : WfM M c d) (hN : WfM N c' d') (hi : i < 8) (hl : w (M.2.2.2.1 i).1 = true) {sr : Int32} {col : Nat} {fm : Int32 → List Int32 → Bool} {fv : Int32 → List Int32 → Int32} : altA N i (stepS (rowS N.2.2.2.2.2.2 (M.2.2.2.1 i).1 col fv)) ((alP fm sr (lookE (TIq M.2.2.2.2.2.2) (vwE M i) (M.2.2.2.1 i).1)).map (mapE f g)) = mA3 w f g (altA M i (stepS (rowS M.2.2.2.2.2.2 (M.2.2.2.1 i).1 col fv)) (alP fm sr (lookE (TIq M.2.2.2.2.2.2) (vwE M i) (M.2.2.2.1 i).1))) := by
  unfold altA
  rw [R.vw hi hl]
  have hLS := R.ls hw hM hN (hM.vw hi).ex
  exact fold_S (TI := TIq M.2.2.2.2.2.2) (UI := TIq N.2.2.2.2.2.2) R.1 (row := rowS M.2.2.2.2.2.2 (M.2.2.2.1 i).1 col fv) (row' := rowS N.2.2.2.2.2.2 (M.2.2.2.1 i).1 col fv) (alP fm sr (lookE (TIq M.2.2.2.2.2.2) (vwE M i) (M.2.2.2.1 i).1)) (vwE M i, [], []) hLS (fun r hr9 => by
    have h1 := (alP_mem hr9).1
    obtain ⟨s1, s2⟩ := lk_sp hw R hM hN hi hl r h1
    exact ⟨rowS_map R s2.1, hl, s1, fun _ => ⟨s1, s2⟩⟩)
theorem low_set (hw : ∀ l lb, w lb = true → isB l lb = true → w l = true) (R : Rel w f g M N) (hM : WfM M c d) (hN : WfM N c' d') (hi : i < 8) (hln : (M.2.2.2.1 i).1 = Int32.ofNat ln) (hl64 : ln < 64) (hl : w (M.2.2.2.1 i).1 = true) (hq : q ∈ M.2.2.2.2.2.2) (hb : isB q.2.2.1.2.1 (M.2.2.2.1 i).1 = true) (hq' : q' ∈ N.2.2.2.2.2.2) (k : TqR w f g (SPm w M) q q') {col : Nat} {fm : Int32 → List Int32 → Bool} {fv : Int32 → List Int32 → Int32} : RelR w f g (setM M i ln q col fm fv) (setM N i ln q' col fm fv) := by
  have hr : ∀ r ∈ alP fm q.2.1 (lookE (TIq M.2.2.2.2.2.2) (vwE M i) (M.2.2.2.1 i).1), EP M.2.2.2.2.2.2 M.1 (rowS M.2.2.2.2.2.2 (M.2.2.2.1 i).1 col fv r) := fun r hr => by
    obtain ⟨h1, h2, h3⟩ := alP_look hM hi hr
    exact EP.at hM hi h1 h3 false _
  obtain ⟨a1, a2, a3, a4⟩ := set_ok (lb := (M.2.2.2.1 i).1) hM hi hr (fun r => rfl)
  have hA := low_setA hw R hM hN hi hl (sr := q.2.1) (col := col) (fm := fm) (fv := fv)
  unfold setM
  rw [low_al hw R hM hN hi hln hl64 hl hq hb hq' k, R.lab hi]
  exact low_alt hw R hM hN hi hln hl64 hl hq hb hq' k hA a1 a2 a3 a4
theorem low_cut (hw : ∀ l lb, w lb = true → isB l lb = true → w l = true) (R : Rel w f g M N) (hM : WfM M c d) (hN : WfM N c' d') (hi : i < 8) (hln : (M.2.2.2.1 i).1 = Int32.ofNat ln) (hl64 : ln < 64) (hl : w (M.2.2.2.1 i).1 = true) (hq : q ∈ M.2.2.2.2.2.2) (hb : isB q.2.2.1.2.1 (M.2.2.2.1 i).1 = true) (hq' : q' ∈ N.2.2.2.2.2.2) (k : TqR w f g (SPm w M) q q') {fm : Int32 → List Int32 → Bool} : RelR w f g (cutM M i ln q fm) (cutM N i ln q' fm) := by
  have hlabN := R.lab hi
  have hr : ∀ r ∈ alP fm q.2.1 (lookE (TIq M.2.2.2.2.2.2) (vwE M i) (M.2.2.2.1 i).1), EP M.2.2.2.2.2.2 M.1 (veilE r (M.2.2.2.1 i).1) := fun r hr => by
    obtain ⟨h1, h2, h3⟩ := alP_look hM hi hr
    exact EP.at hM hi h1 h3 true []
  have hA := AI.fC (B := EP M.2.2.2.2.2.2 M.1) (lb := (M.2.2.2.1 i).1) (alP fm q.2.1 (lookE (TIq M.2.2.2.2.2.2) (vwE M i) (M.2.2.2.1 i).1)) (vwE M i).length 0 (vwE M i, [], []) ⟨(hM.vw hi).1, fun e he => (hM.vw hi).2.1 e he, fun e he => (List.not_mem_nil he).elim, fun e he => (List.not_mem_nil he).elim, Nat.le_refl _, Nat.le_refl _, Nat.le_refl _⟩ hr
  obtain ⟨a1, a2, a3, a4, -⟩ := hA
  have hml : ∀ (al : List En) (a : A3), (∀ x ∈ a.2.2, x.2.2.1 = (M.2.2.2.1 i).1) → ∀ x ∈ (al.foldl (stepC (M.2.2.2.1 i).1) a).2.2, x.2.2.1 = (M.2.2.2.1 i).1 := by
    intro al
    induction al with
    | nil => intro a h; exact h
    | cons r al ih => intro a h; exact ih (stepC (M.2.2.2.1 i).1 a r) h
  unfold cutM
  rw [low_al hw R hM hN hi hln hl64 hl hq hb hq' k, hlabN]
  refine low_alt hw R hM hN hi hln hl64 hl hq hb hq' k ?_ a1 a2 (fun e he => ⟨a3 e he, fold_C_lab _ _ (fun x hx => (List.not_mem_nil hx).elim) e he⟩) (fun e he => ⟨a4 e he, hml _ _ (fun x hx => (List.not_mem_nil hx).elim) e he⟩)
  unfold altA
  rw [R.vw hi hl]
  have hLS := R.ls hw hM hN (hM.vw hi).ex
  exact fold_C (TI := TIq M.2.2.2.2.2.2) (UI := TIq N.2.2.2.2.2.2) R.1 (lb := (M.2.2.2.1 i).1) (fun l h9 => hw l _ hl h9) hl (isL4_nn (hM.lab hi)) (alP fm q.2.1 (lookE (TIq M.2.2.2.2.2.2) (vwE M i) (M.2.2.2.1 i).1)) (vwE M i, [], []) hLS (hM.vw hi).1 (ep_l0 (fun e he => (hM.vw hi).2.1 e he)) (fun r hr9 => by
    have h1 := (alP_mem hr9).1
    obtain ⟨s1, s2⟩ := lk_sp hw R hM hN hi hl r h1
    exact ⟨s1, fun _ => ⟨s1, s2⟩⟩)
theorem hi_alt (R : Rel w f g M N) (hM : WfM M c d) (hi : i < 8) (hln : (M.2.2.2.1 i).1 = Int32.ofNat ln) (hl : w (M.2.2.2.1 i).1 = false) {st : A3 → En → A3} {al : List En} (hD : phi w f g (altA M i st al).1 = phi w f g (vwE M i)) (ht : ∀ e ∈ (altA M i st al).2.1, e.2.2.1 = (M.2.2.2.1 i).1) : Rel w f g (altM M i ln q st al).2.2 N := by
  unfold altM
  split
  · exact R.kGH hM hi hln hl hD ht
  · exact R
theorem hi_set (R : Rel w f g M N) (hM : WfM M c d) (hi : i < 8) (hln : (M.2.2.2.1 i).1 = Int32.ofNat ln) (hl : w (M.2.2.2.1 i).1 = false) {col : Nat} {fm : Int32 → List Int32 → Bool} {fv : Int32 → List Int32 → Int32} : Rel w f g (setM M i ln q col fm fv).2.2 N :=
  hi_alt R hM hi hln hl (fold_S_hi _ _ (hM.vw hi).1 (fun r hr => hl)) (fold_S_lab _ _ (fun r hr9 => rfl) (fun x hx => (List.not_mem_nil hx).elim))
theorem hi_cut (R : Rel w f g M N) (hM : WfM M c d) (hi : i < 8) (hln : (M.2.2.2.1 i).1 = Int32.ofNat ln) (hl : w (M.2.2.2.1 i).1 = false) {fm : Int32 → List Int32 → Bool} : Rel w f g (cutM M i ln q fm).2.2 N :=
  hi_alt R hM hi hln hl (fold_C_hi hl _ _ (hM.vw hi).1) (fold_C_lab _ _ (fun x hx => (List.not_mem_nil hx).elim))
end
