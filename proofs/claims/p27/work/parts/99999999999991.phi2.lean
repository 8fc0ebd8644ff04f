/-! secrecy over the models: rows altered, tables found (by hand) -/
section
variable {w : Int32 → Bool} {SP : Int32 → Prop} {f : Int32 → Int32} {g : Nat → Nat} {TI UI : Nat → Tb}
def LSp (w : Int32 → Bool) (SP : Int32 → Prop) (f : Int32 → Int32) (g : Nat → Nat) (TI UI : Nat → Tb) (x : En) : Prop := w x.2.2.1 = true → SP x.1 ∧ TbM f g SP (TI x.2.2.2.2.2) (UI (g x.2.2.2.2.2))
def mA3 (w : Int32 → Bool) (f : Int32 → Int32) (g : Nat → Nat) (a : A3) : A3 := (phi w f g a.1, a.2.1.map (mapE f g), a.2.2.map (mapE f g))
theorem LoS.store {es : List En} {e : En} (h : LoS w SP f g TI UI es) (he : LSp w SP f g TI UI e) : LoS w SP f g TI UI (storeE es e) := fun x hx => by
  rcases mem_store hx with h9 | h9
  · rw [h9]; exact he
  · exact h x h9
theorem LoS.cut {es : List En} {e : En} {lb : Int32} (h : LoS w SP f g TI UI es) (he : LSp w SP f g TI UI (veilE e lb)) : LoS w SP f g TI UI (cutE es e lb) := fun x hx => by
  rcases mem_cut hx with h9 | h9
  · rw [h9]; exact he
  · exact h x h9
theorem fold_S (hf : Mono9 SP f) {row row' : En → En} : ∀ (al : List En) (a : A3), LoS w SP f g TI UI a.1 → (∀ r ∈ al, row' (mapE f g r) = mapE f g (row r) ∧ w (row r).2.2.1 = true ∧ SP (row r).1 ∧ LSp w SP f g TI UI (row r)) → (al.map (mapE f g)).foldl (stepS row') (mA3 w f g a) = mA3 w f g (al.foldl (stepS row) a)
  | [], _, _, _ => rfl
  | r :: al, a, h, hr => by
    obtain ⟨h1, h2, h3, h4⟩ := hr r List.mem_cons_self
    have e1 : stepS row' (mA3 w f g a) (mapE f g r) = mA3 w f g (stepS row a r) := by
      show (storeE (phi w f g a.1) (row' (mapE f g r)), a.2.1.map (mapE f g) ++ [row' (mapE f g r)], a.2.2.map (mapE f g) ++ [row' (mapE f g r)]) = (phi w f g (storeE a.1 (row r)), (a.2.1 ++ [row r]).map (mapE f g), (a.2.2 ++ [row r]).map (mapE f g))
      rw [h1, phi_store hf h h2 h3, List.map_append, List.map_append]
      rfl
    show (al.map (mapE f g)).foldl (stepS row') (stepS row' (mA3 w f g a) (mapE f g r)) = _
    rw [e1]
    exact fold_S hf al (stepS row a r) (h.store h4) (fun x hx => hr x (List.mem_cons_of_mem _ hx))
theorem fold_C (hf : Mono9 SP f) {lb : Int32} (hw : ∀ l, isB l lb = true → w l = true) (hl : w lb = true) (hn : ¬ lb < 0) : ∀ (al : List En) (a : A3), LoS w SP f g TI UI a.1 → Srt a.1 → Lab0 a.1 → (∀ r ∈ al, SP r.1 ∧ LSp w SP f g TI UI (veilE r lb)) → (al.map (mapE f g)).foldl (stepC lb) (mA3 w f g a) = mA3 w f g (al.foldl (stepC lb) a)
  | [], _, _, _, _, _ => rfl
  | r :: al, a, h, hs, h0, hr => by
    obtain ⟨h3, h4⟩ := hr r List.mem_cons_self
    have e1 : stepC lb (mA3 w f g a) (mapE f g r) = mA3 w f g (stepC lb a r) := by
      show (cutE (phi w f g a.1) (mapE f g r) lb, a.2.1.map (mapE f g) ++ cutT (phi w f g a.1) (mapE f g r) lb, a.2.2.map (mapE f g)) = (phi w f g (cutE a.1 r lb), (a.2.1 ++ cutT a.1 r lb).map (mapE f g), a.2.2.map (mapE f g))
      rw [phi_cut hf h hs h0 hw hl h3, phi_cutT hf h hs h0 hw hl h3, List.map_append]
    show (al.map (mapE f g)).foldl (stepC lb) (stepC lb (mA3 w f g a) (mapE f g r)) = _
    rw [e1]
    exact fold_C hf hw hl hn al (stepC lb a r) (h.cut h4) (cut_srt hs) (cut_lab0 h0 hn) (fun x hx => hr x (List.mem_cons_of_mem _ hx))
theorem fold_S_hi {row : En → En} : ∀ (al : List En) (a : A3), Srt a.1 → (∀ r ∈ al, w (row r).2.2.1 = false) → phi w f g (al.foldl (stepS row) a).1 = phi w f g a.1
  | [], _, _, _ => rfl
  | r :: al, a, hs, hr => by
    show phi w f g (al.foldl (stepS row) (stepS row a r)).1 = _
    rw [fold_S_hi al (stepS row a r) (hs.store _) (fun x hx => hr x (List.mem_cons_of_mem _ hx))]
    exact phi_store_hi hs (hr r List.mem_cons_self)
theorem fold_C_hi {lb : Int32} (hl : w lb = false) : ∀ (al : List En) (a : A3), Srt a.1 → phi w f g (al.foldl (stepC lb) a).1 = phi w f g a.1
  | [], _, _ => rfl
  | r :: al, a, hs => by
    show phi w f g (al.foldl (stepC lb) (stepC lb a r)).1 = _
    rw [fold_C_hi hl al (stepC lb a r) (cut_srt hs)]
    exact phi_cut_hi hs hl
end
/-! what is touched is at the label -/
theorem fold_S_lab {row : En → En} {lb : Int32} : ∀ (al : List En) (a : A3), (∀ r ∈ al, (row r).2.2.1 = lb) → (∀ x ∈ a.2.1, x.2.2.1 = lb) → ∀ x ∈ (al.foldl (stepS row) a).2.1, x.2.2.1 = lb
  | [], _, _, h => h
  | r :: al, a, hr, h => fold_S_lab al (stepS row a r) (fun x hx => hr x (List.mem_cons_of_mem _ hx)) (fun x hx => by
    rcases List.mem_append.mp hx with h9 | h9
    · exact h x h9
    · rw [List.mem_singleton.mp h9]; exact hr r List.mem_cons_self)
theorem fold_C_lab {lb : Int32} : ∀ (al : List En) (a : A3), (∀ x ∈ a.2.1, x.2.2.1 = lb) → ∀ x ∈ (al.foldl (stepC lb) a).2.1, x.2.2.1 = lb
  | [], _, h => h
  | r :: al, a, h => fold_C_lab al (stepC lb a r) (fun x hx => by
    rcases List.mem_append.mp hx with h9 | h9
    · exact h x h9
    · exact cutT_lab x h9)
/-! tables found: the last one that can be meant -/
def tnP (TI : Nat → Tb) (lb nm : Int32) (a : Nat) : Bool := decide ((TI a).1 = nm) && isB (TI a).2.1 lb
theorem tnM_last {M : HM} {lb nm : Int32} : tnM M lb nm = (M.1.filter (tnP (TIq M.2.2.2.2.2.2) lb nm)).getLast? := by
  have key : ∀ n, n ≤ M.1.length → (match tnE (tsM M) nm lb n with | some j => M.1[j]? | none => none) = ((M.1.take n).filter (tnP (TIq M.2.2.2.2.2.2) lb nm)).getLast? := by
    intro n
    induction n with
    | zero => intro _; rfl
    | succ n ih =>
      intro hn
      obtain ⟨a, ha⟩ : ∃ a, M.1[n]? = some a := ⟨_, List.getElem?_eq_getElem (by omega)⟩
      have hts : (tsM M)[n]? = some ((TIq M.2.2.2.2.2.2 a).1, (TIq M.2.2.2.2.2.2 a).2.1) := by
        unfold tsM
        rw [List.getElem?_map, ha]
        rfl
      rw [List.take_add_one, ha, List.filter_append]
      have e9 : tnE (tsM M) nm lb (n + 1) = if (TIq M.2.2.2.2.2.2 a).1 = nm ∧ isB (TIq M.2.2.2.2.2.2 a).2.1 lb = true then some n else tnE (tsM M) nm lb n := by
        simp only [tnE, hts]
      rw [e9]
      by_cases hp : (TIq M.2.2.2.2.2.2 a).1 = nm ∧ isB (TIq M.2.2.2.2.2.2 a).2.1 lb = true
      · have hq : tnP (TIq M.2.2.2.2.2.2) lb nm a = true := Bool.and_eq_true_iff.mpr ⟨decide_eq_true hp.1, hp.2⟩
        rw [if_pos hp]
        show M.1[n]? = (_ ++ [a].filter (tnP (TIq M.2.2.2.2.2.2) lb nm)).getLast?
        rw [List.filter_cons_of_pos hq, List.filter_nil, List.getLast?_append, ha]
        rfl
      · have hq : ¬ tnP (TIq M.2.2.2.2.2.2) lb nm a = true := fun h9 => hp ⟨of_decide_eq_true (Bool.and_eq_true_iff.mp h9).1, (Bool.and_eq_true_iff.mp h9).2⟩
        rw [if_neg hp, ih (by omega)]
        show _ = (_ ++ [a].filter (tnP (TIq M.2.2.2.2.2.2) lb nm)).getLast?
        rw [List.filter_cons_of_neg hq, List.filter_nil, List.append_nil]
  have h := key (tsM M).length (by rw [tsM_len]; exact Nat.le_refl _)
  unfold tnM
  rw [tsM_len] at h ⊢
  rw [List.take_of_length_le (Nat.le_refl _)] at h
  exact h
