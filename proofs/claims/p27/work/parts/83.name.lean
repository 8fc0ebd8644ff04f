/-! tables under other names: what is seen is the same -/
def mapE (f : Int32 → Int32) (g : Nat → Nat) (e : En) : En := (f e.1, e.2.1, e.2.2.1, e.2.2.2.1, e.2.2.2.2.1, g e.2.2.2.2.2)
/-- serials keep their order -/
def Mono9 (SP : Int32 → Prop) (f : Int32 → Int32) : Prop := ∀ a b, SP a → SP b → (f a < f b ↔ a < b) ∧ (f a = f b ↔ a = b)
theorem any_congr9 {α : Type} {p q : α → Bool} : ∀ {l : List α}, (∀ x ∈ l, p x = q x) → l.any p = l.any q
  | [], _ => rfl
  | x :: l, h => by
    rw [List.any_cons, List.any_cons, h x (List.mem_cons_self ..), any_congr9 (fun y hy => h y (List.mem_cons_of_mem _ hy))]
theorem all_congr9 {α : Type} {p q : α → Bool} : ∀ {l : List α}, (∀ x ∈ l, p x = q x) → l.all p = l.all q
  | [], _ => rfl
  | x :: l, h => by
    rw [List.all_cons, List.all_cons, h x (List.mem_cons_self ..), all_congr9 (fun y hy => h y (List.mem_cons_of_mem _ hy))]
theorem filter_congr9 {α : Type} {p q : α → Bool} : ∀ {l : List α}, (∀ x ∈ l, p x = q x) → l.filter p = l.filter q
  | [], _ => rfl
  | x :: l, h => by
    rw [List.filter_cons, List.filter_cons, h x (List.mem_cons_self ..), filter_congr9 (fun y hy => h y (List.mem_cons_of_mem _ hy))]
theorem sameK_map {SP : Int32 → Prop} {f : Int32 → Int32} {g : Nat → Nat} (hf : Mono9 SP f) {e x : En} (he : SP e.1) (hx : SP x.1) : sameK (mapE f g e) (mapE f g x) = sameK e x := by
  have h : decide (f x.1 = f e.1) = decide (x.1 = e.1) := decide_eq_decide.mpr (hf _ _ hx he).2
  show (decide (x.2.1 = e.2.1) && decide (f x.1 = f e.1)) = _
  rw [h]
  rfl
theorem chs_map {SP : Int32 → Prop} {f : Int32 → Int32} {g : Nat → Nat} (hf : Mono9 SP f) {es : List En} {e : En} {lb : Int32} (hS : ∀ x ∈ es, SP x.1) (he : SP e.1) : chs (es.map (mapE f g)) (mapE f g e) lb = chs es e lb := by
  have h : (es.map (mapE f g)).any (fun x => sameK (mapE f g e) x && covers9 (mapE f g e) lb x) = es.any (fun x => sameK e x && covers9 e lb x) := by
    rw [List.any_map]
    exact any_congr9 (fun x hx => by
      show (sameK (mapE f g e) (mapE f g x) && covers9 e lb x) = _
      rw [sameK_map hf he (hS x hx)])
  unfold chs
  rw [h]
  rfl
theorem ltB_map {SP : Int32 → Prop} {f : Int32 → Int32} {g : Nat → Nat} (hf : Mono9 SP f) {e : En} {s k l : Int32} (he : SP e.1) (hs : SP s) : ltB (eP (mapE f g e)) (f s, k, l) = ltB (eP e) (s, k, l) := by
  have h1 := hf _ _ he hs
  have h2 : ltP (eP (mapE f g e)) (f s, k, l) ↔ ltP (eP e) (s, k, l) := by
    show (f e.1 < f s ∨ (f e.1 = f s ∧ _)) ↔ (e.1 < s ∨ (e.1 = s ∧ _))
    rw [h1.1, h1.2]
    exact Iff.rfl
  cases h3 : ltB (eP e) (s, k, l) with
  | true => exact ltB_iff.mpr (h2.mpr (ltB_iff.mp h3))
  | false => exact ltB_not.mpr (fun h => ltB_not.mp h3 (h2.mp h))
theorem plc_map {SP : Int32 → Prop} {f : Int32 → Int32} {g : Nat → Nat} (hf : Mono9 SP f) {es : List En} {s k l : Int32} (hS : ∀ x ∈ es, SP x.1) (hs : SP s) : plc (es.map (mapE f g)) (f s, k, l) = plc es (s, k, l) := by
  unfold plc
  rw [List.filter_map, List.length_map]
  exact congrArg List.length (filter_congr9 (fun x hx => ltB_map hf (hS x hx) hs))
theorem hasK_map {SP : Int32 → Prop} {f : Int32 → Int32} {g : Nat → Nat} (hf : Mono9 SP f) {es : List En} {s k : Int32} (hS : ∀ x ∈ es, SP x.1) (hs : SP s) : hasK (es.map (mapE f g)) (f s) k = hasK es s k := by
  unfold hasK
  rw [plc_map hf hS hs, List.getElem?_map]
  cases h : es[plc es (s, k, 0)]? with
  | none => rfl
  | some x =>
    show (decide (x.2.1 = k) && decide (f x.1 = f s)) = (decide (x.2.1 = k) && decide (x.1 = s))
    rw [decide_eq_decide.mpr (hf _ _ (hS x (List.mem_of_getElem? h)) hs).2]
/-- references under other names -/
def mapR (f : Int32 → Int32) (g : Nat → Nat) (r : Option (Nat × Int32)) : Option (Nat × Int32) := r.map (fun q => (g q.1, f q.2))
theorem okAt_map {SP : Int32 → Prop} {f : Int32 → Int32} {g : Nat → Nat} (hf : Mono9 SP f) {es : List En} {rs : List (Option (Nat × Int32))} {cs : List Int32} {j : Nat} (hS : ∀ x ∈ es, SP x.1) (hr : ∀ r, some r ∈ rs → SP r.2) : okAt (es.map (mapE f g)) (rs.map (mapR f g)) cs j = okAt es rs cs j := by
  unfold okAt
  rw [List.getElem?_map]
  cases h : rs[j]? with
  | none => rfl
  | some o =>
    cases o with
    | none => rfl
    | some r =>
      show (_ || hasK (es.map (mapE f g)) (f r.2) _) = (_ || hasK es r.2 _)
      rw [hasK_map hf hS (hr r (List.mem_of_getElem? h))]
/-- a table under another name -/
def TbM (f : Int32 → Int32) (g : Nat → Nat) (SP : Int32 → Prop) (T U : Tb) : Prop := U.2.2.1.length = T.2.2.1.length ∧ U.2.2.2.1 = T.2.2.2.1 ∧ U.2.2.2.2 = T.2.2.2.2.map (mapR f g) ∧ ∀ r, some r ∈ T.2.2.2.2 → SP r.2
theorem metE_map {SP : Int32 → Prop} {f : Int32 → Int32} {g : Nat → Nat} (hf : Mono9 SP f) {es : List En} {e : En} {T U : Tb} (hS : ∀ x ∈ es, SP x.1) (hT : TbM f g SP T U) : metE (es.map (mapE f g)) U (mapE f g e) = metE es T e := by
  unfold metE metFrom
  rw [hT.1, hT.2.2.1]
  exact all_congr9 (fun j _ => okAt_map hf hS hT.2.2.2)
theorem look_map_fold {SP : Int32 → Prop} {f : Int32 → Int32} {g : Nat → Nat} (hf : Mono9 SP f) {TI UI : Nat → Tb} {es : List En} {lb : Int32} (hS : ∀ x ∈ es, SP x.1) : ∀ (xs acc : List En), (∀ x ∈ xs, SP x.1 ∧ TbM f g SP (TI x.2.2.2.2.2) (UI (g x.2.2.2.2.2))) → (∀ x ∈ acc, SP x.1) → (xs.map (mapE f g)).foldl (lookStep UI (es.map (mapE f g)) lb) (acc.map (mapE f g)) = (xs.foldl (lookStep TI es lb) acc).map (mapE f g)
  | [], _, _, _ => rfl
  | x :: xs, acc, hx, ha => by
    obtain ⟨h1, h2⟩ := hx x (List.mem_cons_self ..)
    have hxs := fun y hy => hx y (List.mem_cons_of_mem _ hy)
    have hc : (chs (es.map (mapE f g)) (mapE f g x) lb && metE (acc.map (mapE f g)) (UI (g x.2.2.2.2.2)) (mapE f g x)) = (chs es x lb && metE acc (TI x.2.2.2.2.2) x) := by
      rw [chs_map hf hS h1, metE_map hf ha h2]
    have hst : lookStep UI (es.map (mapE f g)) lb (acc.map (mapE f g)) (mapE f g x) = (lookStep TI es lb acc x).map (mapE f g) := by
      show (if (chs (es.map (mapE f g)) (mapE f g x) lb && metE (acc.map (mapE f g)) (UI (g x.2.2.2.2.2)) (mapE f g x)) = true then _ else _) = _
      rw [hc]
      unfold lookStep
      split
      · rw [List.map_append]
        rfl
      · rfl
    rw [List.map_cons, List.foldl_cons, List.foldl_cons, hst]
    refine look_map_fold hf hS xs _ hxs ?_
    unfold lookStep
    split
    · intro y hy
      rcases List.mem_append.mp hy with hy | hy
      · exact ha y hy
      · rw [List.mem_singleton.mp hy]; exact h1
    · exact ha
/-- what is seen, where tables have other names -/
theorem look_map {SP : Int32 → Prop} {f : Int32 → Int32} {g : Nat → Nat} (hf : Mono9 SP f) {TI UI : Nat → Tb} {es : List En} {lb : Int32} (hS : ∀ x ∈ es, SP x.1 ∧ TbM f g SP (TI x.2.2.2.2.2) (UI (g x.2.2.2.2.2))) : lookE UI (es.map (mapE f g)) lb = (lookE TI es lb).map (mapE f g) := look_map_fold hf (fun x hx => (hS x hx).1) es [] hS (fun _ h => (List.not_mem_nil h).elim)
