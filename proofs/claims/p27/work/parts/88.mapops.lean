/-! changes, where tables have other names -/
theorem eq_map {SP : Int32 → Prop} {f : Int32 → Int32} {g : Nat → Nat} (hf : Mono9 SP f) {x : En} {s k l : Int32} (hx : SP x.1) (hs : SP s) : eP (mapE f g x) = (f s, k, l) ↔ eP x = (s, k, l) := by
  constructor
  · intro h
    have h1 : f x.1 = f s := congrArg (fun p : Pl => p.1) h
    have h2 : x.2.1 = k := congrArg (fun p : Pl => p.2.1) h
    have h3 : x.2.2.1 = l := congrArg (fun p : Pl => p.2.2) h
    show (x.1, x.2.1, x.2.2.1) = _
    rw [(hf _ _ hx hs).2.mp h1, h2, h3]
  · intro h
    have h1 : x.1 = s := congrArg (fun p : Pl => p.1) h
    have h2 : x.2.1 = k := congrArg (fun p : Pl => p.2.1) h
    have h3 : x.2.2.1 = l := congrArg (fun p : Pl => p.2.2) h
    show (f x.1, x.2.1, x.2.2.1) = _
    rw [h1, h2, h3]
theorem ltB_map2 {SP : Int32 → Prop} {f : Int32 → Int32} {g : Nat → Nat} (hf : Mono9 SP f) {x y : En} (hx : SP x.1) (hy : SP y.1) : ltB (eP (mapE f g x)) (eP (mapE f g y)) = ltB (eP x) (eP y) := ltB_map hf hx hy
theorem srt_map {SP : Int32 → Prop} {f : Int32 → Int32} {g : Nat → Nat} (hf : Mono9 SP f) : ∀ {es : List En}, (∀ x ∈ es, SP x.1) → Srt es → Srt (es.map (mapE f g))
  | [], _, _ => List.Pairwise.nil
  | x :: xs, hS, hs => by
    have h1 := List.pairwise_cons.mp hs
    refine List.pairwise_cons.mpr ⟨fun y hy => ?_, srt_map hf (fun z hz => hS z (List.mem_cons_of_mem _ hz)) h1.2⟩
    obtain ⟨z, hz, rfl⟩ := List.mem_map.mp hy
    refine ltB_iff.mp ?_
    rw [ltB_map2 hf (hS x (List.mem_cons_self ..)) (hS z (List.mem_cons_of_mem _ hz))]
    exact ltB_iff.mpr (h1.1 z hz)
theorem store_map {SP : Int32 → Prop} {f : Int32 → Int32} {g : Nat → Nat} (hf : Mono9 SP f) {es : List En} {e : En} (hS : ∀ x ∈ es, SP x.1) (he : SP e.1) : storeE (es.map (mapE f g)) (mapE f g e) = (storeE es e).map (mapE f g) := by
  unfold storeE
  rw [List.filter_map, List.filter_map, List.map_append, List.map_cons]
  have h1 : es.filter ((fun x => ltB (eP x) (eP (mapE f g e))) ∘ mapE f g) = es.filter (fun x => ltB (eP x) (eP e)) := filter_congr9 (fun x hx => ltB_map2 hf (hS x hx) he)
  have h2 : es.filter ((fun x => ltB (eP (mapE f g e)) (eP x)) ∘ mapE f g) = es.filter (fun x => ltB (eP e) (eP x)) := filter_congr9 (fun x hx => ltB_map2 hf he (hS x hx))
  rw [h1, h2]
theorem take_map {SP : Int32 → Prop} {f : Int32 → Int32} {g : Nat → Nat} (hf : Mono9 SP f) {es : List En} {s k l : Int32} (hS : ∀ x ∈ es, SP x.1) (hs : SP s) : takeE (es.map (mapE f g)) (f s, k, l) = (takeE es (s, k, l)).map (mapE f g) := by
  unfold takeE
  rw [List.filter_map]
  refine congrArg (List.map (mapE f g)) (filter_congr9 (fun x hx => ?_))
  exact decide_eq_decide.mpr (not_congr (eq_map hf (hS x hx) hs))
theorem find_map9 {SP : Int32 → Prop} {f : Int32 → Int32} {g : Nat → Nat} (hf : Mono9 SP f) {s k l : Int32} (hs : SP s) : ∀ {es : List En}, (∀ x ∈ es, SP x.1) → findE (es.map (mapE f g)) (f s, k, l) = (findE es (s, k, l)).map (mapE f g)
  | [], _ => rfl
  | x :: xs, hS => by
    have ih := find_map9 (g := g) hf (k := k) (l := l) hs (fun z hz => hS z (List.mem_cons_of_mem _ hz))
    have h1 : decide (eP (mapE f g x) = (f s, k, l)) = decide (eP x = (s, k, l)) := decide_eq_decide.mpr (eq_map hf (hS x (List.mem_cons_self ..)) hs)
    unfold findE at ih ⊢
    rw [List.map_cons, List.find?_cons, List.find?_cons, h1]
    cases decide (eP x = (s, k, l)) with
    | true => rfl
    | false => exact ih
theorem cnt_map {SP : Int32 → Prop} {f : Int32 → Int32} {g : Nat → Nat} (hf : Mono9 SP f) {es : List En} {sr lb : Int32} (hS : ∀ x ∈ es, SP x.1) (hs : SP sr) : cntE (es.map (mapE f g)) (f sr) lb = cntE es sr lb := by
  unfold cntE
  rw [List.countP_map]
  refine List.countP_congr (fun x hx => ?_)
  show (decide (x.2.2.1 = lb) && decide (f x.1 = f sr)) = true ↔ _
  rw [decide_eq_decide.mpr (hf _ _ (hS x hx) hs).2]
theorem lab0_map {f : Int32 → Int32} {g : Nat → Nat} {es : List En} (h : Lab0 es) : Lab0 (es.map (mapE f g)) := fun y hy => by
  obtain ⟨z, hz, rfl⟩ := List.mem_map.mp hy
  exact h z hz
theorem key0_map {f : Int32 → Int32} {g : Nat → Nat} {es : List En} (h : Key0 es) : Key0 (es.map (mapE f g)) := fun y hy => by
  obtain ⟨z, hz, rfl⟩ := List.mem_map.mp hy
  exact h z hz
theorem hasCh_map {SP : Int32 → Prop} {f : Int32 → Int32} {g : Nat → Nat} (hf : Mono9 SP f) {es : List En} {sr k lb : Int32} (hs : Srt es) (h0 : Lab0 es) (hS : ∀ x ∈ es, SP x.1) (hsr : SP sr) : hasChE (es.map (mapE f g)) (f sr) k lb = hasChE es sr k lb := by
  rw [hasChE_any hs h0, hasChE_any (srt_map hf hS hs) (lab0_map h0), List.any_map]
  refine any_congr9 (fun x hx => ?_)
  show (sameK (f sr, k, 0, false, [], 0) (mapE f g x) && chs (es.map (mapE f g)) (mapE f g x) lb) = _
  rw [chs_map hf hS (hS x hx)]
  have h1 : sameK (f sr, k, 0, false, [], 0) (mapE f g x) = sameK (sr, k, 0, false, [], 0) x := by
    show (decide (x.2.1 = k) && decide (f x.1 = f sr)) = _
    rw [decide_eq_decide.mpr (hf _ _ (hS x hx) hsr).2]
    rfl
  rw [h1]
theorem atSL_map {SP : Int32 → Prop} {f : Int32 → Int32} {g : Nat → Nat} (hf : Mono9 SP f) {es : List En} {sr lb : Int32} (hS : ∀ x ∈ es, SP x.1) (hsr : SP sr) : atSL (es.map (mapE f g)) (f sr) lb = (atSL es sr lb).map (mapE f g) := by
  unfold atSL
  rw [List.filter_map]
  refine congrArg (List.map (mapE f g)) (filter_congr9 (fun x hx => ?_))
  show (decide (f x.1 = f sr) && decide (x.2.2.1 = lb)) = _
  rw [decide_eq_decide.mpr (hf _ _ (hS x hx) hsr).2]
theorem twL_map {f : Int32 → Int32} {g : Nat → Nat} {T U : Tb} (h1 : U.2.2.1.length = T.2.2.1.length) (h2 : U.2.2.2.1 = T.2.2.2.1) : ∀ (xs acc : List En), twL U (acc.map (mapE f g)) (xs.map (mapE f g)) = twL T acc xs
  | [], _ => rfl
  | x :: xs, acc => by
    have ht : ∀ y, twinE U (mapE f g y) (mapE f g x) = twinE T y x := fun y => by
      unfold twinE
      rw [h1, h2]
      rfl
    have ih := twL_map (f := f) (g := g) h1 h2 xs (acc ++ [x])
    rw [List.map_append] at ih
    show ((acc.map (mapE f g)).any (fun y => twinE U y (mapE f g x)) || twL U (acc.map (mapE f g) ++ [mapE f g x]) (xs.map (mapE f g))) = (acc.any (fun y => twinE T y x) || twL T (acc ++ [x]) xs)
    have ha : (acc.map (mapE f g)).any (fun y => twinE U y (mapE f g x)) = acc.any (fun y => twinE T y x) := by
      rw [List.any_map]
      exact any_congr9 (fun y _ => ht y)
    rw [ha]
    exact congrArg (fun q => (acc.any (fun y => twinE T y x) || q)) ih
theorem hasTws_map {SP : Int32 → Prop} {f : Int32 → Int32} {g : Nat → Nat} (hf : Mono9 SP f) {T U : Tb} {es : List En} {sr lb : Int32} (hs : Srt es) (h0 : Lab0 es) (hk : Key0 es) (hS : ∀ x ∈ es, SP x.1) (hsr : SP sr) (hT : TbM f g SP T U) : hasTwsE U (es.map (mapE f g)) (f sr) lb = hasTwsE T es sr lb := by
  rw [hasTws_all hs h0 hk, hasTws_all (srt_map hf hS hs) (lab0_map h0) (key0_map hk), atSL_map hf hS hsr]
  exact twL_map hT.1 hT.2.1 _ []
theorem cut_map {SP : Int32 → Prop} {f : Int32 → Int32} {g : Nat → Nat} (hf : Mono9 SP f) {es : List En} {e : En} {lb : Int32} (hs : Srt es) (h0 : Lab0 es) (hS : ∀ x ∈ es, SP x.1) (he : SP e.1) : cutE (es.map (mapE f g)) (mapE f g e) lb = (cutE es e lb).map (mapE f g) := by
  have h1 : tkE (es.map (mapE f g)) (mapE f g e) lb = (tkE es e lb).map (mapE f g) := take_map hf hS he
  have hS2 : ∀ x ∈ tkE es e lb, SP x.1 := fun x hx => hS x (List.mem_filter.mp hx).1
  have hs2 : Srt (tkE es e lb) := hs.filter _
  have h2 : hasChE ((tkE es e lb).map (mapE f g)) (f e.1) e.2.1 lb = hasChE (tkE es e lb) e.1 e.2.1 lb := hasCh_map hf hs2 (lab0_take h0) hS2 he
  have h3 : storeE ((tkE es e lb).map (mapE f g)) (mapE f g (veilE e lb)) = (storeE (tkE es e lb) (veilE e lb)).map (mapE f g) := store_map hf hS2 he
  unfold cutE
  rw [h1]
  show (if hasChE ((tkE es e lb).map (mapE f g)) (f e.1) e.2.1 lb = true then storeE ((tkE es e lb).map (mapE f g)) (mapE f g (veilE e lb)) else (tkE es e lb).map (mapE f g)) = _
  rw [h2, h3]
  split <;> rfl
theorem bring_map {SP : Int32 → Prop} {f : Int32 → Int32} {g : Nat → Nat} (hf : Mono9 SP f) {es fs : List En} {s k l : Int32} (hS : ∀ x ∈ es, SP x.1) (hF : ∀ x ∈ fs, SP x.1) (hs : SP s) : bringE (es.map (mapE f g)) (fs.map (mapE f g)) (f s, k, l) = (bringE es fs (s, k, l)).map (mapE f g) := by
  have h1 := find_map9 (g := g) hf (k := k) (l := l) hs hF
  cases hq : findE fs (s, k, l) with
  | none =>
    rw [hq] at h1
    rw [bring_n hq, bring_n h1]
    exact take_map hf hS hs
  | some x =>
    rw [hq] at h1
    rw [bring_s hq, bring_s h1]
    unfold findE at hq
    exact store_map hf hS (hF x (List.mem_of_find?_eq_some hq))
