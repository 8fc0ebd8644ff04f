/-! secrecy over the models: the low entries, by other names (by hand) -/
def phi (w : Int32 → Bool) (f : Int32 → Int32) (g : Nat → Nat) (es : List En) : List En := (lowF w es).map (mapE f g)
/-- the low entries' tables have their like in the other house -/
def LoS (w : Int32 → Bool) (SP : Int32 → Prop) (f : Int32 → Int32) (g : Nat → Nat) (TI UI : Nat → Tb) (es : List En) : Prop := ∀ x ∈ es, w x.2.2.1 = true → SP x.1 ∧ TbM f g SP (TI x.2.2.2.2.2) (UI (g x.2.2.2.2.2))
section
variable {w : Int32 → Bool} {SP : Int32 → Prop} {f : Int32 → Int32} {g : Nat → Nat} {TI UI : Nat → Tb} {es fs : List En} {lb sr k l : Int32} {e : En}
theorem lowF_sp (h : LoS w SP f g TI UI es) : ∀ x ∈ lowF w es, SP x.1 ∧ TbM f g SP (TI x.2.2.2.2.2) (UI (g x.2.2.2.2.2)) := fun x hx => by
  obtain ⟨h1, h2⟩ := List.mem_filter.mp hx
  exact h x h1 h2
theorem LoS.sub (h : LoS w SP f g TI UI es) (hs : ∀ x ∈ fs, x ∈ es) : LoS w SP f g TI UI fs := fun x hx hl => h x (hs x hx) hl
theorem phi_look (hf : Mono9 SP f) (h : LoS w SP f g TI UI es) (hw : ∀ l, isB l lb = true → w l = true) : lookE UI (phi w f g es) lb = (lookE TI es lb).map (mapE f g) := by
  have h1 := look_map (TI := TI) (UI := UI) (lb := lb) hf (lowF_sp h)
  have h2 := look_low (TI := TI) (es := es) (lb := lb) (p := fun e => w e.2.2.1) (fun e he => hw _ he)
  unfold phi
  rw [h1]
  exact congrArg (List.map (mapE f g)) h2
theorem phi_store (hf : Mono9 SP f) (h : LoS w SP f g TI UI es) (hl : w e.2.2.1 = true) (he : SP e.1) : storeE (phi w f g es) (mapE f g e) = phi w f g (storeE es e) := by
  unfold phi
  rw [store_low hl]
  exact store_map hf (fun x hx => (lowF_sp h x hx).1) he
theorem phi_store_hi (hs : Srt es) (hl : w e.2.2.1 = false) : phi w f g (storeE es e) = phi w f g es := by
  unfold phi
  rw [store_high hs hl]
theorem phi_cnt (hf : Mono9 SP f) (h : LoS w SP f g TI UI es) (hl : w lb = true) (hs : SP sr) : cntE (phi w f g es) (f sr) lb = cntE es sr lb := by
  unfold phi
  rw [cnt_map hf (fun x hx => (lowF_sp h x hx).1) hs, cnt_low hl]
theorem phi_tws (hf : Mono9 SP f) (h : LoS w SP f g TI UI es) {T U : Tb} (hs : Srt es) (h0 : Lab0 es) (hk : Key0 es) (hl : w lb = true) (hsr : SP sr) (hT : TbM f g SP T U) : hasTwsE U (phi w f g es) (f sr) lb = hasTwsE T es sr lb := by
  unfold phi
  rw [hasTws_map hf (low_srt hs) (lab0_low h0) (key0_low hk) (fun x hx => (lowF_sp h x hx).1) hsr hT, hasTws_low hs h0 hk hl]
theorem phi_find (hf : Mono9 SP f) (h : LoS w SP f g TI UI es) (hl : w l = true) (hs : SP sr) : findE (phi w f g es) (f sr, k, l) = (findE es (sr, k, l)).map (mapE f g) := by
  unfold phi
  rw [find_map9 hf hs (fun x hx => (lowF_sp h x hx).1), find_low (show w ((sr, k, l) : Pl).2.2 = true from hl)]
theorem phi_cut (hf : Mono9 SP f) (h : LoS w SP f g TI UI es) (hs : Srt es) (h0 : Lab0 es) (hw : ∀ l, isB l lb = true → w l = true) (hl : w lb = true) (he : SP e.1) : cutE (phi w f g es) (mapE f g e) lb = phi w f g (cutE es e lb) := by
  unfold phi
  rw [cut_low hs h0 hw hl]
  exact cut_map hf (low_srt hs) (lab0_low h0) (fun x hx => (lowF_sp h x hx).1) he
theorem phi_cut_hi (hs : Srt es) (hl : w lb = false) : phi w f g (cutE es e lb) = phi w f g es := by
  unfold phi
  rw [cut_high hs hl]
theorem cutT_map (hf : Mono9 SP f) (hs : Srt es) (h0 : Lab0 es) (hS : ∀ x ∈ es, SP x.1) (he : SP e.1) : cutT (es.map (mapE f g)) (mapE f g e) lb = (cutT es e lb).map (mapE f g) := by
  have h1 : tkE (es.map (mapE f g)) (mapE f g e) lb = (tkE es e lb).map (mapE f g) := take_map hf hS he
  have hS2 : ∀ x ∈ tkE es e lb, SP x.1 := fun x hx => hS x (List.mem_filter.mp hx).1
  have h2 : hasChE ((tkE es e lb).map (mapE f g)) (f e.1) e.2.1 lb = hasChE (tkE es e lb) e.1 e.2.1 lb := hasCh_map hf (hs.filter _) (lab0_take h0) hS2 he
  have h3 := find_map9 (g := g) hf (k := e.2.1) (l := lb) he hS
  unfold cutT
  rw [h1]
  show (if hasChE ((tkE es e lb).map (mapE f g)) (f e.1) e.2.1 lb = true then [veilE (mapE f g e) lb] else (findE (es.map (mapE f g)) (f e.1, e.2.1, lb)).toList) = _
  rw [h2, h3]
  split
  · rfl
  · cases findE es (e.1, e.2.1, lb) with
    | none => rfl
    | some x => rfl
theorem phi_cutT (hf : Mono9 SP f) (h : LoS w SP f g TI UI es) (hs : Srt es) (h0 : Lab0 es) (hw : ∀ l, isB l lb = true → w l = true) (hl : w lb = true) (he : SP e.1) : cutT (phi w f g es) (mapE f g e) lb = (cutT es e lb).map (mapE f g) := by
  unfold phi
  rw [cutT_map hf (low_srt hs) (lab0_low h0) (fun x hx => (lowF_sp h x hx).1) he, cutT_low hs h0 hw hl]
theorem phi_bring (hf : Mono9 SP f) (h : LoS w SP f g TI UI es) (h2 : LoS w SP f g TI UI fs) (hl : w l = true) (hs : SP sr) : bringE (phi w f g es) (phi w f g fs) (f sr, k, l) = phi w f g (bringE es fs (sr, k, l)) := by
  unfold phi
  rw [bring_low (show w ((sr, k, l) : Pl).2.2 = true from hl)]
  exact bring_map hf (fun x hx => (lowF_sp h x hx).1) (fun x hx => (lowF_sp h2 x hx).1) hs
theorem phi_drop (hf : Mono9 SP f) (h : LoS w SP f g TI UI es) (hs : SP sr) : dropE (phi w f g es) (f sr) = phi w f g (dropE es sr) := by
  unfold phi
  rw [drop_low]
  have hS : ∀ x ∈ lowF w es, SP x.1 := fun x hx => (lowF_sp h x hx).1
  generalize lowF w es = xs at hS
  unfold dropE
  rw [List.filter_map]
  refine congrArg (List.map (mapE f g)) (filter_congr9 (fun x hx => ?_))
  show (!decide (f x.1 = f sr)) = !decide (x.1 = sr)
  rw [decide_eq_decide.mpr (hf x.1 sr (hS x hx) hs).2]
theorem phi_drop_hi (hd : ∀ x ∈ es, w x.2.2.1 = true → ¬ x.1 = sr) : phi w f g (dropE es sr) = phi w f g es := by
  unfold phi
  rw [drop_low]
  unfold dropE
  rw [List.filter_eq_self.mpr (fun x hx => by
    obtain ⟨h1, h2⟩ := List.mem_filter.mp hx
    rw [decide_eq_false (hd x h1 h2)]
    rfl)]
theorem phi_cntB {vo : Bool} (hw : ∀ l, isB l lb = true → w l = true) : cntB (phi w f g es) lb vo = cntB es lb vo := by
  unfold phi cntB
  rw [List.countP_map]
  unfold lowF
  rw [List.countP_filter]
  refine List.countP_congr (fun x hx => ?_)
  show ((fCB lb vo x && w x.2.2.1) = true) ↔ _
  unfold fCB
  constructor
  · intro h
    exact (Bool.and_eq_true_iff.mp h).1
  · intro h
    exact Bool.and_eq_true_iff.mpr ⟨h, hw _ (Bool.and_eq_true_iff.mp h).1⟩
theorem gth_map (hf : Mono9 SP f) {xs : List En} (hS : ∀ x ∈ xs, isB x.2.2.1 lb = true → SP x.1) (hs : SP sr) : (xs.map (mapE f g)).filter (gthP (f sr) lb) = (xs.filter (gthP sr lb)).map (mapE f g) := by
  rw [List.filter_map]
  refine congrArg (List.map (mapE f g)) (filter_congr9 (fun x hx => ?_))
  show (decide (f x.1 = f sr) && (!x.2.2.2.1 && isB x.2.2.1 lb)) = (decide (x.1 = sr) && (!x.2.2.2.1 && isB x.2.2.1 lb))
  by_cases hb : isB x.2.2.1 lb = true
  · rw [decide_eq_decide.mpr (hf x.1 sr (hS x hx hb) hs).2]
  · rw [Bool.eq_false_iff.mpr hb, Bool.and_false, Bool.and_false, Bool.and_false]
theorem gth_low (hw : ∀ l, isB l lb = true → w l = true) : (lowF w es).filter (gthP sr lb) = es.filter (gthP sr lb) := by
  unfold lowF
  rw [List.filter_filter]
  refine filter_congr9 (fun x hx => ?_)
  cases h : gthP sr lb x with
  | false => rfl
  | true =>
    unfold gthP at h
    have h1 := (Bool.and_eq_true_iff.mp (Bool.and_eq_true_iff.mp h).2).2
    rw [hw _ h1]
    rfl
theorem phi_gth (hf : Mono9 SP f) (h : LoS w SP f g TI UI es) (hw : ∀ l, isB l lb = true → w l = true) (hs : SP sr) {b : Bool} : gthE b (phi w f g es) (lookE UI (phi w f g es) lb) (f sr) lb = (gthE b es (lookE TI es lb) sr lb).map (mapE f g) := by
  unfold gthE
  cases b with
  | true =>
    show (phi w f g es).filter (gthP (f sr) lb) = (es.filter (gthP sr lb)).map (mapE f g)
    rw [← gth_low (es := es) hw]
    exact gth_map hf (fun x hx _ => (lowF_sp h x hx).1) hs
  | false =>
    show (lookE UI (phi w f g es) lb).filter (gthP (f sr) lb) = ((lookE TI es lb).filter (gthP sr lb)).map (mapE f g)
    rw [phi_look hf h hw]
    exact gth_map hf (fun x hx hb => (h x (look_mem hx) (hw _ hb)).1) hs
theorem fold_isB {xs acc : List En} {es9 : List En} : (∀ x ∈ acc, isB x.2.2.1 lb = true) → ∀ x ∈ xs.foldl (lookStep TI es9 lb) acc, isB x.2.2.1 lb = true := by
  induction xs generalizing acc with
  | nil => intro h; exact h
  | cons y ys ih =>
    intro h
    refine ih (fun x hx => ?_)
    unfold lookStep at hx
    split at hx
    · rename_i hc
      rcases List.mem_append.mp hx with hx | hx
      · exact h x hx
      · rw [List.mem_singleton.mp hx]
        exact chs_below (Bool.and_eq_true_iff.mp hc).1
    · exact h x hx
theorem look_isB {x : En} (hx : x ∈ lookE TI es lb) : isB x.2.2.1 lb = true := fold_isB (xs := es) (acc := []) (fun y hy => (List.not_mem_nil hy).elim) x hx
/-- what is made is judged alike -/
theorem phi_judge (hf : Mono9 SP f) (h : LoS w SP f g TI UI es) {T U : Tb} {ms : List En} {ck ck' : En → Bool} (hs : Srt es) (h0 : Lab0 es) (hk : Key0 es) (hw : ∀ l, isB l lb = true → w l = true) (hl : w lb = true) (hsr : SP sr) (hT : TbM f g SP T U) (hm : ∀ x ∈ ms, TbM f g SP (TI x.2.2.2.2.2) (UI (g x.2.2.2.2.2))) (hck : ∀ x, ck' (mapE f g x) = ck x) : judgeE UI U (phi w f g es) (ms.map (mapE f g)) (f sr) lb ck' = judgeE TI T es ms sr lb ck := by
  unfold judgeE
  rw [phi_cnt hf h hl hsr, phi_tws hf h hs h0 hk hl hsr hT, phi_look hf h hw, List.all_map, List.all_map]
  have hS : ∀ x ∈ lookE TI es lb, SP x.1 := fun x hx => (h x (look_mem hx) (hw _ (look_isB hx))).1
  rw [all_congr9 (p := (fun e => metE ((lookE TI es lb).map (mapE f g)) (UI e.2.2.2.2.2) e) ∘ mapE f g) (q := fun e => metE (lookE TI es lb) (TI e.2.2.2.2.2) e) (fun x hx => metE_map hf hS (hm x hx)), all_congr9 (p := ck' ∘ mapE f g) (q := ck) (fun x _ => hck x)]
theorem altP_map (hf : Mono9 SP f) {mnt mnt' : En → Bool} (hm : ∀ x, mnt' (mapE f g x) = mnt x) : ∀ (ls : List En) (lk : Option Int32), (∀ x ∈ ls, SP x.1) → SP sr → altP (f sr) mnt' lk (ls.map (mapE f g)) = (altP sr mnt lk ls).map (mapE f g)
  | [], _, _, _ => rfl
  | x :: ls, lk, hS, hs => by
    have h1 := altP_map hf hm ls lk (fun y hy => hS y (List.mem_cons_of_mem _ hy)) hs
    have h2 := altP_map hf hm ls (some x.2.1) (fun y hy => hS y (List.mem_cons_of_mem _ hy)) hs
    have hq : (f x.1 = f sr ∧ ¬ lk = some x.2.1 ∧ mnt' (mapE f g x) = true) ↔ (x.1 = sr ∧ ¬ lk = some x.2.1 ∧ mnt x = true) := by
      rw [(hf x.1 sr (hS x List.mem_cons_self) hs).2, hm x]
    show altP (f sr) mnt' lk (mapE f g x :: ls.map (mapE f g)) = _
    unfold altP
    by_cases hc : x.1 = sr ∧ ¬ lk = some x.2.1 ∧ mnt x = true
    · rw [if_pos hc, List.map_cons]
      refine (if_pos (hq.mpr hc)).trans ?_
      exact congrArg (fun l => mapE f g x :: l) h2
    · rw [if_neg hc]
      exact (if_neg (fun h9 => hc (hq.mp h9))).trans h1
theorem alP_map (hf : Mono9 SP f) {fm : Int32 → List Int32 → Bool} {ls : List En} (hS : ∀ x ∈ ls, SP x.1) (hs : SP sr) : alP fm (f sr) (ls.map (mapE f g)) = (alP fm sr ls).map (mapE f g) := by
  unfold alP
  rw [← List.map_reverse]
  exact altP_map hf (fun x => rfl) ls.reverse none (fun x hx => hS x (List.mem_reverse.mp hx)) hs
end
