/-! fewer locals, in any order -/
def ndk (L : List (Nat × Value)) : Prop := (L.map Prod.fst).Nodup
theorem xlk_of : ∀ {L : List (Nat × Value)} {i : Nat} {v : Value}, ndk L → (i, v) ∈ L → xlk i L = some v
  | [], _, _, _, h => by cases h
  | q :: L, i, v, hn, h => by
    unfold xlk
    have h2 := List.nodup_cons.mp hn
    rcases List.mem_cons.mp h with h | h
    · rw [← h, if_pos rfl]
    · rw [if_neg (fun e => h2.1 (List.mem_map.mpr ⟨(i, v), h, e.symm⟩))]
      exact xlk_of h2.2 h
theorem ndk_f {L : List (Nat × Value)} (f : Nat × Value → Bool) (h : ndk L) : ndk (L.filter f) := by
  unfold ndk at h ⊢
  exact h.sublist ((List.filter_sublist (p := f) (l := L)).map Prod.fst)
theorem ndk_c {L : List (Nat × Value)} {f : Nat × Value → Bool} {k : Nat} {v : Value} (hf : ∀ q, f q = true → q.1 ≠ k) (h : ndk L) : ndk ((k, v) :: L.filter f) := by
  refine List.nodup_cons.mpr ⟨fun q => ?_, ndk_f f h⟩
  obtain ⟨x, hx, e⟩ := List.mem_map.mp q
  exact hf x (List.mem_filter.mp hx).2 e
theorem xf1_ne {k : Nat} {q : Nat × Value} (h : xf1 k q = true) : q.1 ≠ k := by
  unfold xf1 at h
  intro e
  rw [e, beq_self_eq_true] at h
  cases h
theorem xf2_ne {k : Nat} {q : Nat × Value} (h : xf2 k q = true) : q.1 ≠ k := by
  unfold xf2 at h
  intro e
  rw [e, beq_self_eq_true] at h
  cases h
theorem sub_c {L L' : List (Nat × Value)} {f : Nat × Value → Bool} {x : Nat × Value} (hs : ∀ q ∈ L', q ∈ L) : ∀ q ∈ x :: L'.filter f, q ∈ x :: L.filter f := fun q hq => by
  rcases List.mem_cons.mp hq with h | h
  · rw [h]; exact List.mem_cons_self
  · exact List.mem_cons_of_mem _ (List.mem_filter.mpr ⟨hs q (List.mem_filter.mp h).1, (List.mem_filter.mp h).2⟩)
theorem xldi_wk {k : Nat} {L L' : List (Nat × Value)} {st : List Value} {g : List (Nat × Value) × List Value} (hs : ∀ q ∈ L', q ∈ L) (hn : ndk L) (h : xldi k L' st = some g) : ∃ L2, xldi k L st = some (L2, g.2) ∧ (∀ q ∈ g.1, q ∈ L2) ∧ ndk L2 := by
  obtain ⟨L9, st9⟩ := g
  obtain ⟨x, h1, rfl, rfl⟩ := xldi_s h
  refine ⟨L, ?_, hs, hn⟩
  unfold xldi
  rw [xlk_of hn (hs _ h1)]
theorem xldl_wk {k : Nat} {L L' : List (Nat × Value)} {st : List Value} {g : List (Nat × Value) × List Value} (hs : ∀ q ∈ L', q ∈ L) (hn : ndk L) (h : xldl k L' st = some g) : ∃ L2, xldl k L st = some (L2, g.2) ∧ (∀ q ∈ g.1, q ∈ L2) ∧ ndk L2 := by
  obtain ⟨L9, st9⟩ := g
  obtain ⟨x, h1, rfl, rfl⟩ := xldl_s h
  refine ⟨L, ?_, hs, hn⟩
  unfold xldl
  rw [xlk_of hn (hs _ h1)]
theorem xlda_wk {k : Nat} {L L' : List (Nat × Value)} {st : List Value} {g : List (Nat × Value) × List Value} (hs : ∀ q ∈ L', q ∈ L) (hn : ndk L) (h : xlda k L' st = some g) : ∃ L2, xlda k L st = some (L2, g.2) ∧ (∀ q ∈ g.1, q ∈ L2) ∧ ndk L2 := by
  unfold xlda at h
  split at h
  · rename_i a e
    cases h
    exact ⟨L, by unfold xlda; rw [xlk_of hn (hs _ (xlk_mem e))], hs, hn⟩
  · rename_i e
    cases h
    exact ⟨L, by unfold xlda; rw [xlk_of hn (hs _ (xlk_mem e))], hs, hn⟩
  · rename_i a e
    cases h
    exact ⟨L, by unfold xlda; rw [xlk_of hn (hs _ (xlk_mem e))], hs, hn⟩
  · cases h
theorem xsti_wk {nL k : Nat} {L L' : List (Nat × Value)} {st : List Value} {g : List (Nat × Value) × List Value} (hs : ∀ q ∈ L', q ∈ L) (hn : ndk L) (h : xsti nL k L' st = some g) : ∃ L2, xsti nL k L st = some (L2, g.2) ∧ (∀ q ∈ g.1, q ∈ L2) ∧ ndk L2 := by
  unfold xsti at h ⊢
  split at h
  · split at h
    · rename_i hk
      cases h
      exact ⟨_, if_pos hk, sub_c hs, ndk_c (fun _ => xf1_ne) hn⟩
    · cases h
  · cases h
theorem xstl_wk {nL k : Nat} {L L' : List (Nat × Value)} {st : List Value} {g : List (Nat × Value) × List Value} (hs : ∀ q ∈ L', q ∈ L) (hn : ndk L) (h : xstl nL k L' st = some g) : ∃ L2, xstl nL k L st = some (L2, g.2) ∧ (∀ q ∈ g.1, q ∈ L2) ∧ ndk L2 := by
  unfold xstl at h ⊢
  split at h
  · split at h
    · rename_i hk
      cases h
      exact ⟨_, if_pos hk, sub_c hs, ndk_c (fun _ => xf2_ne) hn⟩
    · cases h
  · cases h
theorem xsta_wk {nL k : Nat} {L L' : List (Nat × Value)} {st : List Value} {g : List (Nat × Value) × List Value} (hs : ∀ q ∈ L', q ∈ L) (hn : ndk L) (h : xsta nL k L' st = some g) : ∃ L2, xsta nL k L st = some (L2, g.2) ∧ (∀ q ∈ g.1, q ∈ L2) ∧ ndk L2 := by
  unfold xsta at h ⊢
  split at h
  · split at h
    · rename_i hk
      cases h
      exact ⟨_, if_pos hk, sub_c hs, ndk_c (fun _ => xf1_ne) hn⟩
    · cases h
  · split at h
    · rename_i hk
      cases h
      exact ⟨_, if_pos hk, sub_c hs, ndk_c (fun _ => xf1_ne) hn⟩
    · cases h
  · split at h
    · rename_i hk
      cases h
      exact ⟨_, if_pos hk, sub_c hs, ndk_c (fun _ => xf1_ne) hn⟩
    · cases h
  · cases h
theorem xinc_wk {nL k : Nat} {n : Int} {L L' : List (Nat × Value)} {st : List Value} {g : List (Nat × Value) × List Value} (hs : ∀ q ∈ L', q ∈ L) (hn : ndk L) (h : xinc nL k n L' st = some g) : ∃ L2, xinc nL k n L st = some (L2, g.2) ∧ (∀ q ∈ g.1, q ∈ L2) ∧ ndk L2 := by
  obtain ⟨L9, st9⟩ := g
  obtain ⟨x, h1, hk, rfl, rfl⟩ := xinc_s h
  refine ⟨_, ?_, sub_c hs, ndk_c (fun _ => xf1_ne) hn⟩
  unfold xinc
  rw [xlk_of hn (hs _ h1)]
  exact if_pos hk
theorem xlo_wk {nL : Nat} {i : Instr} {L L' : List (Nat × Value)} {st : List Value} {g : List (Nat × Value) × List Value} (hs : ∀ q ∈ L', q ∈ L) (hn : ndk L) (h : xlo nL i L' st = some g) : ∃ L2, xlo nL i L st = some (L2, g.2) ∧ (∀ q ∈ g.1, q ∈ L2) ∧ ndk L2 := by
  cases i <;> first | exact xldi_wk hs hn h | exact xldl_wk hs hn h | exact xlda_wk hs hn h | exact xsti_wk hs hn h | exact xstl_wk hs hn h | exact xsta_wk hs hn h | exact xinc_wk hs hn h | cases h
section XWK
variable {z : XP} {MT : Nat → XM}
theorem xstep_wk {nL : Nat} {e : XI} {pc : Nat} {L L' : List (Nat × Value)} {st : List Value} {hp : List XC} {g : XG} (hs : ∀ q ∈ L', q ∈ L) (hn : ndk L) (h : xstep z nL e pc L' st hp = some g) : ∃ L2, xstep z nL e pc L st hp = some (g.1, L2, g.2.2) ∧ (∀ q ∈ g.2.1, q ∈ L2) ∧ ndk L2 := by
  obtain ⟨k, i, a, b, v, xs⟩ := e
  unfold xstep at h ⊢
  dsimp only at h ⊢
  split at h
  · obtain ⟨q, hq, rfl⟩ := Option.map_eq_some_iff.mp h
    exact ⟨L, by dsimp only; rw [hq]; rfl, hs, hn⟩
  · obtain ⟨q, hq, rfl⟩ := Option.map_eq_some_iff.mp h
    obtain ⟨L2, h1, h2, h3⟩ := xlo_wk hs hn hq
    exact ⟨L2, by dsimp only; rw [h1]; rfl, h2, h3⟩
  · obtain ⟨q, hq, rfl⟩ := Option.map_eq_some_iff.mp h
    exact ⟨L, by dsimp only; rw [hq]; rfl, hs, hn⟩
  · obtain ⟨q, hq, rfl⟩ := Option.map_eq_some_iff.mp h
    exact ⟨L, by dsimp only; rw [hq]; rfl, hs, hn⟩
  · obtain ⟨q, hq, rfl⟩ := Option.map_eq_some_iff.mp h
    exact ⟨L, by dsimp only; rw [hq]; rfl, hs, hn⟩
  · obtain ⟨q, hq, rfl⟩ := Option.map_eq_some_iff.mp h
    exact ⟨L, by dsimp only; rw [hq]; rfl, hs, hn⟩
  · cases h; exact ⟨L, rfl, hs, hn⟩
  · cases h; exact ⟨L, rfl, hs, hn⟩
  · cases h; exact ⟨L, rfl, hs, hn⟩
  · cases h; exact ⟨L, rfl, hs, hn⟩
  · unfold xnwa at h ⊢
    split at h
    · split at h
      · rename_i hc
        cases h
        exact ⟨L, if_pos hc, hs, hn⟩
      · cases h
    · cases h
  · unfold xnwa at h ⊢
    split at h
    · split at h
      · rename_i hc
        cases h
        exact ⟨L, if_pos hc, hs, hn⟩
      · cases h
    · cases h
  · obtain ⟨q, hq, rfl⟩ := Option.map_eq_some_iff.mp h
    exact ⟨L, by dsimp only; rw [hq]; rfl, hs, hn⟩
  · obtain ⟨q, hq, rfl⟩ := Option.map_eq_some_iff.mp h
    exact ⟨L, by dsimp only; rw [hq]; rfl, hs, hn⟩
  · obtain ⟨q, hq, rfl⟩ := Option.map_eq_some_iff.mp h
    exact ⟨L, by dsimp only; rw [hq]; rfl, hs, hn⟩
  · obtain ⟨q, hq, rfl⟩ := Option.map_eq_some_iff.mp h
    exact ⟨L, by dsimp only; rw [hq]; rfl, hs, hn⟩
  · obtain ⟨q, hq, rfl⟩ := Option.map_eq_some_iff.mp h
    exact ⟨L, by dsimp only; rw [hq]; rfl, hs, hn⟩
  · obtain ⟨q, hq, rfl⟩ := Option.map_eq_some_iff.mp h
    exact ⟨L, by dsimp only; rw [hq]; rfl, hs, hn⟩
  · obtain ⟨q, hq, rfl⟩ := Option.map_eq_some_iff.mp h
    exact ⟨L, by dsimp only; rw [hq]; rfl, hs, hn⟩
  · obtain ⟨q, hq, rfl⟩ := Option.map_eq_some_iff.mp h
    exact ⟨L, by dsimp only; rw [hq]; rfl, hs, hn⟩
  · cases h
theorem xrun_wk : ∀ {n d y pc : Nat} {L L' : List (Nat × Value)} {st : List Value} {hp : List XC} {nc ns : Nat} {o : XO}, (∀ q ∈ L', q ∈ L) → ndk L → xrun z MT n d y pc L' st hp nc ns = some o → xrun z MT n d y pc L st hp nc ns = some o := by
  intro n
  induction n with
  | zero => intro d y pc L L' st hp nc ns o _ _ h; cases h
  | succ n ih =>
    intro d y pc L L' st hp nc ns o hs hn h
    rw [xrun] at h ⊢
    cases hC : xmC (MT y) pc with
    | none => rw [hC] at h; cases h
    | some e =>
      rw [hC] at h
      dsimp only at h ⊢
      by_cases n20 : e.1 < 20
      · rw [if_pos n20] at h ⊢
        cases hg : xstep z (xmL (MT y)) e pc L' st hp with
        | none => rw [hg] at h; cases h
        | some g =>
          rw [hg] at h
          obtain ⟨L2, h1, h2, h3⟩ := xstep_wk hs hn hg
          rw [h1]
          exact ih h2 h3 h
      rw [if_neg n20] at h ⊢
      by_cases n30 : e.1 < 30
      · rw [if_pos n30] at h ⊢
        cases hg : xspec z d e st hp with
        | none => rw [hg] at h; cases h
        | some g => rw [hg] at h; exact ih hs hn h
      rw [if_neg n30] at h ⊢
      by_cases n40 : e.1 = 40
      · rw [if_pos n40] at h ⊢; exact h
      rw [if_neg n40] at h ⊢
      by_cases n41 : e.1 = 41
      · rw [if_pos n41] at h ⊢; exact h
      rw [if_neg n41] at h ⊢
      by_cases n42 : e.1 = 42
      · rw [if_pos n42] at h ⊢
        cases d with
        | zero => cases h
        | succ d' =>
          dsimp only at h ⊢
          split at h
          · rename_i x2 x1 r
            split at h
            · rename_i hc
              try dsimp only
              rw [if_pos hc]
              split at h
              · rename_i y1 y2 e1 e2
                try rw [e1, e2]
                split at h
                · rename_i hy
                  subst hy
                  show (if y1 = y1 then xrun z MT n (d' + 1) y (pc + 6) L (.int y1 :: r) hp nc ns else none) = some o
                  rw [if_pos rfl]
                  exact ih hs hn h
                · cases h
              · cases h
            · cases h
          · cases h
      rw [if_neg n42] at h ⊢
      by_cases n43 : e.1 = 43
      · rw [if_pos n43] at h ⊢
        cases d with
        | zero => cases h
        | succ d' =>
          dsimp only at h ⊢
          split at h
          · rename_i a r
            split at h
            · rename_i q e1
              split at h
              · rename_i hc
                try dsimp only
                try rw [e1]
                try dsimp only
                rw [if_pos hc]
                exact ih hs hn h
              · cases h
            · cases h
          · cases h
      rw [if_neg n43] at h ⊢
      cases d with
      | zero => cases h
      | succ d' =>
        dsimp only at h ⊢
        by_cases hl : st.length < e.2.2.2.1
        · rw [if_pos hl] at h; cases h
        rw [if_neg hl] at h ⊢
        split at h
        · rename_i hc
          rw [if_pos hc]
          split at h
          · cases h
          · rename_i v hp' c1 s1 e1
            try rw [e1]
            exact ih hs hn h
          · rename_i E hp' c1 s1 e1
            try rw [e1]
            try dsimp only
            split at h
            · rename_i e2
              try rw [e2]
              exact h
            · rename_i q e2
              try rw [e2]
              exact ih (fun x hx => List.mem_filter.mpr ⟨hs x (List.mem_filter.mp hx).1, (List.mem_filter.mp hx).2⟩) (ndk_f _ hn) h
        · cases h
end XWK
/-- a run with fewer locals told -/
theorem At.wk {S : List Int32} {d Y pc : Nat} {L L' : List (Nat × Value)} {st : List Value} {hp : List XC} {nc ns : Nat} {Q : XO → Prop} (hs : ∀ q ∈ L', q ∈ L) (hn : ndk L) (k : At S d Y pc L' st hp nc ns Q) : At S d Y pc L st hp nc ns Q := by
  obtain ⟨n, o, h1, h2⟩ := k
  exact ⟨n, o, xrun_wk hs hn h1, h2⟩
