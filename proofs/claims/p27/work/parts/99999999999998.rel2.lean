/-! two houses that are alike: what is kept of a change (by hand) -/
section
variable {w : Int32 → Bool} {f : Int32 → Int32} {g : Nat → Nat} {M N : HM} {c d c' d' i ln : Nat} {lb nm : Int32}
theorem Rel.inj (R : Rel w f g M N) (hM : WfM M c d) (hN : WfM N c' d') {p q : TQ} (hp : p ∈ M.2.2.2.2.2.2) (hq : q ∈ M.2.2.2.2.2.2) (lp : w p.2.2.1.2.1 = true) (lq : w q.2.2.1.2.1 = true) (e : g p.1.1 = g q.1.1) : p = q := by
  obtain ⟨p', hp', h1, -⟩ := R.tb hN hp lp
  obtain ⟨q', hq', h2, -⟩ := R.tb hN hq lq
  have e2 : p' = q' := hN.uq p' hp' q' hq' (Or.inr (by rw [h1.1, h2.1, e]))
  have e3 : f p.2.1 = f q.2.1 := by rw [← h1.2.1, ← h2.2.1, e2]
  exact hM.uq p hp q hq (Or.inl (((R.1 p.2.1 q.2.1 ⟨p, hp, rfl, lp⟩ ⟨q, hq, rfl, lq⟩).2).mp e3))
theorem SPm_map {φ : TQ → TQ} (hφ : φok φ) : SPm w (mTabs M (M.2.2.2.2.2.2.map φ)) = SPm w M := by
  funext s
  refine propext ⟨fun ⟨q, hq, h1, h2⟩ => ?_, fun ⟨q, hq, h1, h2⟩ => ?_⟩
  · obtain ⟨p, hp, e⟩ := List.mem_map.mp hq
    rw [← e, (hφ p).2.1] at h1
    rw [← e, (hφ p).2.2] at h2
    exact ⟨p, hp, h1, h2⟩
  · exact ⟨φ q, List.mem_map_of_mem hq, by rw [(hφ q).2.1]; exact h1, by rw [(hφ q).2.2]; exact h2⟩
theorem Rel.tabs {φ ψ : TQ → TQ} (R : Rel w f g M N) (hφ : φok φ) (hψ : φok ψ) (h : ∀ q ∈ M.2.2.2.2.2.2, w q.2.2.1.2.1 = true → ∀ q' ∈ N.2.2.2.2.2.2, TqR w f g (SPm w M) q q' → TqR w f g (SPm w M) (φ q) (ψ q')) : Rel w f g (mTabs M (M.2.2.2.2.2.2.map φ)) (mTabs N (N.2.2.2.2.2.2.map ψ)) := by
  obtain ⟨h1, h2, h3, h4, h5, h6⟩ := R
  refine ⟨by rw [SPm_map hφ]; exact h1, fun q hq hl => ?_, ?_, h4, h5, h6⟩
  · obtain ⟨p, hp, e⟩ := List.mem_map.mp hq
    rw [← e, (hφ p).2.2] at hl
    obtain ⟨q', hq', k⟩ := h2 p hp hl
    rw [← e, SPm_map hφ]
    exact ⟨ψ q', List.mem_map_of_mem hq', h p hp hl q' hq' k⟩
  · show N.1 = (M.1.filter (fun a => w (TIq (M.2.2.2.2.2.2.map φ) a).2.1)).map g
    rw [show (fun a => w (TIq (M.2.2.2.2.2.2.map φ) a).2.1) = (fun a => w (TIq M.2.2.2.2.2.2 a).2.1) from funext (fun a => by rw [TIq_map (fun q => congrArg Prod.fst (hφ q).1) (fun q => (hφ q).2.2)])]
    exact h3
theorem Rel.tabsH {φ : TQ → TQ} (R : Rel w f g M N) (hφ : φok φ) (h : ∀ q ∈ M.2.2.2.2.2.2, w q.2.2.1.2.1 = true → ∀ q' ∈ N.2.2.2.2.2.2, TqR w f g (SPm w M) q q' → TqR w f g (SPm w M) (φ q) q') : Rel w f g (mTabs M (M.2.2.2.2.2.2.map φ)) N := by
  obtain ⟨h1, h2, h3, h4, h5, h6⟩ := R
  refine ⟨by rw [SPm_map hφ]; exact h1, fun q hq hl => ?_, ?_, h4, h5, h6⟩
  · obtain ⟨p, hp, e⟩ := List.mem_map.mp hq
    rw [← e, (hφ p).2.2] at hl
    obtain ⟨q', hq', k⟩ := h2 p hp hl
    rw [← e, SPm_map hφ]
    exact ⟨q', hq', h p hp hl q' hq' k⟩
  · show N.1 = (M.1.filter (fun a => w (TIq (M.2.2.2.2.2.2.map φ) a).2.1)).map g
    rw [show (fun a => w (TIq (M.2.2.2.2.2.2.map φ) a).2.1) = (fun a => w (TIq M.2.2.2.2.2.2 a).2.1) from funext (fun a => by rw [TIq_map (fun q => congrArg Prod.fst (hφ q).1) (fun q => (hφ q).2.2)])]
    exact h3
theorem gv_at {q : TQ} {n k : Nat} (hl : q.2.2.2.2.1.length = 64) : (giveQ q n).2.2.2.2.1[k]? = if n = k then (if n < 64 then some ((q.2.2.2.2.1[n]?).getD 0 + 1) else none) else q.2.2.2.2.1[k]? := by
  show (q.2.2.2.2.1.set n ((q.2.2.2.2.1[n]?).getD 0 + 1))[k]? = _
  rw [List.getElem?_set, hl]
theorem WfM.gl (h : WfM M c d) {q : TQ} (hq : q ∈ M.2.2.2.2.2.2) : q.2.2.2.2.1.length = 64 := by
  obtain ⟨h1, h2, ⟨md, m1, m2, m3, m4⟩, -⟩ := h
  exact (m3 q hq).2.1
theorem Rel.gv (R : Rel w f g M N) (hM : WfM M c d) (hN : WfM N c' d') {p : TQ} (hp : p ∈ M.2.2.2.2.2.2) (lp : w p.2.2.1.2.1 = true) (hln : ln < 64) (hl : w (Int32.ofNat ln) = true) : Rel w f g (mTabs M (giveT M.2.2.2.2.2.2 p.1.1 ln)) (mTabs N (giveT N.2.2.2.2.2.2 (g p.1.1) ln)) := by
  refine R.tabs (giveT_ok _ _) (giveT_ok _ _) (fun q hq lq q' hq' k => ?_)
  by_cases e : q.1.1 = p.1.1
  · have e2 : q'.1.1 = g p.1.1 := by rw [k.1, e]
    rw [if_pos e, if_pos e2]
    obtain ⟨k1, k2, k3, k4, k5, k6, k7, k8, k9⟩ := k
    refine ⟨k1, k2, k3, k4, k5, k6, k7, fun n hn hw9 => ?_, k9⟩
    rw [gv_at (hN.gl hq'), gv_at (hM.gl hq), k8 ln hln hl, k8 n hn hw9]
  · have e2 : ¬ q'.1.1 = g p.1.1 := fun h9 => e (by
      rw [k.1] at h9
      rw [R.inj hM hN hq hp lq lp h9])
    rw [if_neg e, if_neg e2]
    exact k
theorem Rel.gvH (R : Rel w f g M N) (hM : WfM M c d) {t : Nat} (hl : w (Int32.ofNat ln) = false) : Rel w f g (mTabs M (giveT M.2.2.2.2.2.2 t ln)) N := by
  refine R.tabsH (giveT_ok _ _) (fun q hq lq q' hq' k => ?_)
  by_cases e : q.1.1 = t
  · rw [if_pos e]
    obtain ⟨k1, k2, k3, k4, k5, k6, k7, k8, k9⟩ := k
    refine ⟨k1, k2, k3, k4, k5, k6, k7, fun n hn hw9 => ?_, k9⟩
    rw [gv_at (hM.gl hq), if_neg (fun e9 => by rw [e9, hw9] at hl; cases hl)]
    exact k8 n hn hw9
  · rw [if_neg e]
    exact k
theorem phi_app {a b : List En} : phi w f g (a ++ b) = phi w f g a ++ phi w f g b := by
  unfold phi
  rw [low_app, List.map_append]
theorem phi_low {a : List En} (h : ∀ e ∈ a, w e.2.2.1 = true) : phi w f g a = a.map (mapE f g) := by
  unfold phi lowF
  rw [List.filter_eq_self.mpr h]
theorem phi_hi {a : List En} (h : ∀ e ∈ a, w e.2.2.1 = false) : phi w f g a = [] := by
  unfold phi lowF
  rw [List.filter_eq_nil_iff.mpr (fun e he h9 => by rw [h e he] at h9; cases h9)]
  rfl
theorem hasCE_map {SP : Int32 → Prop} (hf : Mono9 SP f) {fs : List En} {e : En} (hS : ∀ x ∈ fs, SP x.1) (he : SP e.1) : hasCE (fs.map (mapE f g)) (mapE f g e) = hasCE fs e := by
  unfold hasCE
  rw [List.any_map]
  exact any_congr9 (fun x hx => decide_eq_decide.mpr (eq_map (g := g) hf (hS x hx) he))
theorem addCE_map {SP : Int32 → Prop} (hf : Mono9 SP f) : ∀ (ts fs : List En), (∀ x ∈ fs, SP x.1) → (∀ x ∈ ts, SP x.1) → addCE (fs.map (mapE f g)) (ts.map (mapE f g)) = (addCE fs ts).map (mapE f g)
  | [], _, _, _ => rfl
  | t :: ts, fs, h1, h2 => by
    have e : ∀ (fs : List En) (t : En) (ts : List En), addCE fs (t :: ts) = addCE (if hasCE fs t = true then fs else fs ++ [t]) ts := fun _ _ _ => rfl
    show addCE (fs.map (mapE f g)) (mapE f g t :: ts.map (mapE f g)) = _
    rw [e, e, hasCE_map hf h1 (h2 t List.mem_cons_self)]
    by_cases hc : hasCE fs t = true
    · rw [if_pos hc, if_pos hc]
      exact addCE_map hf ts fs h1 (fun x hx => h2 x (List.mem_cons_of_mem _ hx))
    · rw [if_neg hc, if_neg hc]
      have := addCE_map hf ts (fs ++ [t]) (fun x hx => by
        rcases List.mem_append.mp hx with h9 | h9
        · exact h1 x h9
        · rw [List.mem_singleton.mp h9]; exact h2 t List.mem_cons_self) (fun x hx => h2 x (List.mem_cons_of_mem _ hx))
      rw [List.map_append] at this
      exact this
theorem Rel.chs (hw : ∀ l lb, w lb = true → isB l lb = true → w l = true) (R : Rel w f g M N) (hM : WfM M c d) (hi : i < 8) (hl : w (M.2.2.2.1 i).1 = true) : ∀ e ∈ (M.2.2.2.1 i).2.2.2.2.1, SPm w M e.1 := fun e he => by
  obtain ⟨e1, q, hq, q1, q2, q3⟩ := (hM.2.2.2.2.2.2.1 i hi).2.2.2.1 e he
  rw [e1] at q3
  exact ⟨q, hq, q2, hw _ _ hl q3⟩
/-- a change that is kept, low -/
theorem Rel.kM (hw : ∀ l lb, w lb = true → isB l lb = true → w l = true) (R : Rel w f g M N) (hM : WfM M c d) (hN : WfM N c' d') (hi : i < 8) (hl : w (M.2.2.2.1 i).1 = true) {D ts D' ts' : List En} (hD : D' = phi w f g D) (hts : ts' = ts.map (mapE f g)) (hlab : ∀ e ∈ ts, e.2.2.1 = (M.2.2.2.1 i).1) (hsp : ∀ e ∈ ts, SPm w M e.1) : Rel w f g (keepM M i D ts) (keepM N i D' ts') := by
  unfold keepM
  rw [R.busy hi hl]
  obtain ⟨s1, s2⟩ := R.2.2.2.2.1 i hi
  obtain ⟨b1, b2, b3, b4, b5⟩ := s2 hl
  by_cases hb : (M.2.2.2.1 i).2.2.1 = true
  · rw [if_pos hb, if_pos hb]
    refine R.ses ⟨s1, fun _ => ⟨b1, hD, ?_, b4, b5⟩⟩
    show addCE (N.2.2.2.1 i).2.2.2.2.1 ts' = (addCE (M.2.2.2.1 i).2.2.2.2.1 ts).map (mapE f g)
    rw [b3, hts]
    exact addCE_map R.1 ts (M.2.2.2.1 i).2.2.2.2.1 (R.chs hw hM hi hl) hsp
  · rw [if_neg hb, if_neg hb]
    obtain ⟨h1, h2, h3, h4, h5, h6⟩ := R
    refine ⟨h1, h2, h3, hD, fun j hj => ?_, h6⟩
    obtain ⟨t1, t2⟩ := h5 j hj
    refine ⟨t1, fun hlj => ?_⟩
    obtain ⟨a1, a2, a3, a4, a5⟩ := t2 hlj
    refine ⟨a1, a2, a3, a4, fun hbj => ?_⟩
    have l1 := (hM.2.2.2.2.2.2.1 j hj).2.2.2.2
    have l2 := (hN.2.2.2.2.2.2.1 j hj).2.2.2.2
    show (N.2.2.1 ++ ts').drop (N.2.2.2.1 j).2.2.2.2.2.1 = phi w f g ((M.2.2.1 ++ ts).drop (M.2.2.2.1 j).2.2.2.2.2.1)
    rw [List.drop_append_of_le_length l2, List.drop_append_of_le_length l1, phi_app, a5 hbj, hts, phi_low (a := ts) (fun e he => by rw [hlab e he]; exact hl)]
theorem keepM_ts {D ts : List En} : (keepM M i D ts).2.2.2.2.2.2 = M.2.2.2.2.2.2 := by
  unfold keepM
  split <;> rfl
theorem Rel.kG (hw : ∀ l lb, w lb = true → isB l lb = true → w l = true) (R : Rel w f g M N) (hM : WfM M c d) (hN : WfM N c' d') (hi : i < 8) (hln : (M.2.2.2.1 i).1 = Int32.ofNat ln) (hl64 : ln < 64) (hl : w (M.2.2.2.1 i).1 = true) {D ts D' ts' : List En} {gv : Bool} {p : TQ} (hD : D' = phi w f g D) (hts : ts' = ts.map (mapE f g)) (hlab : ∀ e ∈ ts, e.2.2.1 = (M.2.2.2.1 i).1) (hsp : ∀ e ∈ ts, SPm w M e.1) (hp : p ∈ M.2.2.2.2.2.2) (lp : w p.2.2.1.2.1 = true) : Rel w f g (keepG M i D ts gv p.1.1 ln) (keepG N i D' ts' gv (g p.1.1) ln) := by
  have hk := R.kM hw hM hN hi hl hD hts hlab hsp
  unfold keepG
  split
  · have e1 := keepM_ts (M := M) (i := i) (D := D) (ts := ts)
    have e2 := keepM_ts (M := N) (i := i) (D := D') (ts := ts')
    have hR : Rel w f g (mTabs (keepM M i D ts) (giveT (keepM M i D ts).2.2.2.2.2.2 p.1.1 ln)) (mTabs (keepM N i D' ts') (giveT (keepM N i D' ts').2.2.2.2.2.2 (g p.1.1) ln)) := by
      refine hk.tabs (giveT_ok _ _) (giveT_ok _ _) (fun q hq lq q' hq' k => ?_)
      rw [e1] at hq
      rw [e2] at hq'
      have hSP : SPm w (keepM M i D ts) = SPm w M := by funext s; unfold SPm; rw [e1]
      rw [hSP] at k ⊢
      by_cases e : q.1.1 = p.1.1
      · have e3 : q'.1.1 = g p.1.1 := by rw [k.1, e]
        rw [if_pos e, if_pos e3]
        obtain ⟨k1, k2, k3, k4, k5, k6, k7, k8, k9⟩ := k
        refine ⟨k1, k2, k3, k4, k5, k6, k7, fun n hn hw9 => ?_, k9⟩
        rw [gv_at (hN.gl hq'), gv_at (hM.gl hq), k8 ln hl64 (by rw [← hln]; exact hl), k8 n hn hw9]
      · have e3 : ¬ q'.1.1 = g p.1.1 := fun h9 => e (by
          rw [k.1] at h9
          rw [R.inj hM hN hq hp lq lp h9])
        rw [if_neg e, if_neg e3]
        exact k
    rw [e1, e2] at hR
    exact hR
  · exact hk
/-- a change that is kept, not low -/
theorem Rel.kMH (R : Rel w f g M N) (hM : WfM M c d) (hi : i < 8) (hl : w (M.2.2.2.1 i).1 = false) {D ts : List En} (hD : phi w f g D = phi w f g (vwE M i)) (hlab : ∀ e ∈ ts, e.2.2.1 = (M.2.2.2.1 i).1) : Rel w f g (keepM M i D ts) N := by
  unfold keepM
  by_cases hb : (M.2.2.2.1 i).2.2.1 = true
  · rw [if_pos hb]
    exact R.sesH hi rfl hl
  · rw [if_neg hb]
    have hvw : vwE M i = M.2.1 := if_neg hb
    rw [hvw] at hD
    obtain ⟨h1, h2, h3, h4, h5, h6⟩ := R
    refine ⟨h1, h2, h3, h4.trans hD.symm, fun j hj => ?_, h6⟩
    obtain ⟨t1, t2⟩ := h5 j hj
    refine ⟨t1, fun hlj => ?_⟩
    obtain ⟨a1, a2, a3, a4, a5⟩ := t2 hlj
    refine ⟨a1, a2, a3, a4, fun hbj => ?_⟩
    have l1 := (hM.2.2.2.2.2.2.1 j hj).2.2.2.2
    show N.2.2.1.drop (N.2.2.2.1 j).2.2.2.2.2.1 = phi w f g ((M.2.2.1 ++ ts).drop (M.2.2.2.1 j).2.2.2.2.2.1)
    rw [List.drop_append_of_le_length l1, phi_app, a5 hbj, phi_hi (a := ts) (fun e he => by rw [hlab e he]; exact hl), List.append_nil]
theorem Rel.kGH (R : Rel w f g M N) (hM : WfM M c d) (hi : i < 8) (hln : (M.2.2.2.1 i).1 = Int32.ofNat ln) (hl : w (M.2.2.2.1 i).1 = false) {D ts : List En} {gv : Bool} {t : Nat} (hD : phi w f g D = phi w f g (vwE M i)) (hlab : ∀ e ∈ ts, e.2.2.1 = (M.2.2.2.1 i).1) : Rel w f g (keepG M i D ts gv t ln) N := by
  have hk := R.kMH hM hi hl hD hlab
  unfold keepG
  split
  · have e1 := keepM_ts (M := M) (i := i) (D := D) (ts := ts)
    have hR : Rel w f g (mTabs (keepM M i D ts) (giveT (keepM M i D ts).2.2.2.2.2.2 t ln)) N := by
      refine hk.tabsH (giveT_ok _ _) (fun q hq lq q' hq' k => ?_)
      rw [e1] at hq
      by_cases e : q.1.1 = t
      · rw [if_pos e]
        obtain ⟨k1, k2, k3, k4, k5, k6, k7, k8, k9⟩ := k
        refine ⟨k1, k2, k3, k4, k5, k6, k7, fun n hn hw9 => ?_, k9⟩
        rw [gv_at (hM.gl hq), if_neg (fun e9 => by rw [hln, e9, hw9] at hl; cases hl)]
        exact k8 n hn hw9
      · rw [if_neg e]
        exact k
    rw [e1] at hR
    exact hR
  · exact hk
end
