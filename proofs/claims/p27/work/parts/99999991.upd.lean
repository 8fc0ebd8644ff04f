/-! the house: what a step must tell (by hand) -/
def mS (M : HM) (i : Nat) (s : SM) : HM := (M.1, M.2.1, M.2.2.1, (fun j => if j = i then s else M.2.2.2.1 j), M.2.2.2.2)
def mShelf (M : HM) (es : List En) : HM := (M.1, es, M.2.2)
def mEnded (M : HM) (es : List En) : HM := (M.1, M.2.1, es, M.2.2.2)
def mTally (M : HM) (ts : List Int32) : HM := (M.1, M.2.1, M.2.2.1, M.2.2.2.1, ts, M.2.2.2.2.2)
theorem mS_at {M : HM} {i : Nat} {s : SM} : (mS M i s).2.2.2.1 i = s := if_pos rfl
theorem mS_ne {M : HM} {i j : Nat} {s : SM} (h : j ≠ i) : (mS M i s).2.2.2.1 j = M.2.2.2.1 j := if_neg h
theorem sumL_eq {f g : Nat → Nat} : ∀ {js l : List Nat}, js.Sublist l → l.Nodup → (∀ j ∈ l, j ∉ js → g j = f j) → sumL f js + sumL g l = sumL g js + sumL f l := by
  intro js l h
  induction h with
  | slnil => intro _ _; rfl
  | @cons js l a h ih =>
    intro hn hg
    have h2 := List.nodup_cons.mp hn
    have e := ih h2.2 (fun j hj hjs => hg j (List.mem_cons_of_mem _ hj) hjs)
    have ea := hg a List.mem_cons_self (fun hm => h2.1 (h.subset hm))
    unfold sumL at e ⊢
    rw [List.map_cons, List.map_cons, List.sum_cons, List.sum_cons]
    omega
  | @cons_cons js l a h ih =>
    intro hn hg
    have h2 := List.nodup_cons.mp hn
    have e := ih h2.2 (fun j hj hjs => hg j (List.mem_cons_of_mem _ hj) (fun hm => (List.mem_cons.mp hm).elim (fun e => h2.1 (e ▸ hj)) hjs))
    unfold sumL at e ⊢
    rw [List.map_cons, List.map_cons, List.map_cons, List.map_cons, List.sum_cons, List.sum_cons, List.sum_cons, List.sum_cons]
    omega
section
variable {hp hp' : List XC} {ow ow' : Nat → Nat} {k : Nat} {A : Nat → Nat} {Z : Nat → Prop} {M M' : HM} {rf rf' : Int32} {np nl np' nl' : Nat}
theorem HR.lists (h : HR hp ow k A M rf np nl) : ∀ j ∈ lsI, ∃ as, hLs hp (A j) as := by
  obtain ⟨hO, how, h0, h1, h3, hD, hF, hE, hT, hG, hC, hL9, hQ, hW, hS, hTq9, htd, hcap⟩ := h
  intro j hj
  have hs : ∀ {l : Nat} {es : List En}, hSh hp l es → ∃ as, hLs hp l as := fun h => ⟨h.choose, h.choose_spec.1⟩
  have hz : ∀ i, i < 8 → (∃ as, hLs hp (A (44 + i)) as) ∧ ∃ as, hLs hp (A (52 + i)) as := fun i hi => by
    obtain ⟨za, ab, a1, a2, a3, a4, a5, a6, a7, a8, a9, a10, a11, a12, a13, a14⟩ := hS i hi
    exact ⟨hs a13, hs a14⟩
  have h7 : ∀ j ∈ ([10, 15, 12, 13, 16, 17, 18] : List Nat), ∃ as, hLs hp (A j) as := fun j hj => by
    obtain ⟨es, h⟩ := hL9 j hj
    exact hs h
  by_cases c1 : j = 2
  · subst c1; exact ⟨_, hD⟩
  by_cases c2 : j = 9
  · subst c2; exact hs hF
  by_cases c3 : j = 4
  · subst c3; exact hs hE
  by_cases c4 : j ∈ ([10, 15, 12, 13, 16, 17, 18] : List Nat)
  · exact h7 j c4
  have c5 : (44 ≤ j ∧ j < 52) ∨ (52 ≤ j ∧ j < 60) := by
    unfold lsI at hj
    simp only [List.mem_cons, List.not_mem_nil, or_false] at hj c4
    omega
  rcases c5 with c5 | c5
  · have := (hz (j - 44) (by omega)).1
    rw [show 44 + (j - 44) = j by omega] at this
    exact this
  · have := (hz (j - 52) (by omega)).2
    rw [show 52 + (j - 52) = j by omega] at this
    exact this
theorem lsI_lt : ∀ j ∈ lsI, j < 77 := by decide
theorem HR.capeq (h : HR hp ow k A M rf np nl) (f : FrX (fun a => Z (ow a)) hp hp') : ∀ j ∈ lsI, ¬ Z (k + j) → capL hp' (A j) = capL hp (A j) := fun j hj hz => by
  obtain ⟨as, hl⟩ := h.lists j hj
  exact f.cap (nz (h.2.1 j (lsI_lt j hj)).1 hz) h.1 hl
/-- the costs of a step are told by the lists that it writes -/
theorem HR.caps (h : HR hp ow k A M rf np nl) (f : FrX (fun a => Z (ow a)) hp hp') (js : List Nat) (hs : js.Sublist lsI) (hz : ∀ j, Z (k + j) → j ∈ lsI → j ∈ js) : sumL (fun j => capL hp (A j)) js + capsH hp' A = sumL (fun j => capL hp' (A j)) js + capsH hp A :=
  sumL_eq hs (by decide) (fun j hj hn => h.capeq f j hj (fun hzj => hn (hz j hzj hj)))
/-- the new picture: each part is told anew, or wasn't written -/
theorem HR.upd (h : HR hp ow k A M rf np nl) (f : FrX (fun a => Z (ow a)) hp hp') (hw : ∀ a, a < hp.length → ow' a = ow a)
    (z1 : ¬ Z (k + 1)) (z3 : ¬ Z (k + 3))
    (c0 : (¬ Z (k + 0) ∧ M'.2.2.2.2.2.1 = M.2.2.2.2.2.1 ∧ rf' = rf) ∨ hp'[A 0]? = some (.inr (14, [.ref (A 1), .ref (A 2), .ref (A 3), .ref (A 4), .ref (A 5), .ref (A 60), .ref (A 75), .ref (A 6), .ref (A 7), .ref (A 8), .int M'.2.2.2.2.2.1, .int rf'])))
    (cD : (¬ Z (k + 2) ∧ M'.1 = M.1) ∨ hLs hp' (A 2) M'.1) (cF : (¬ Z (k + 9) ∧ M'.2.1 = M.2.1) ∨ hSh hp' (A 9) M'.2.1) (cE : (¬ Z (k + 4) ∧ M'.2.2.1 = M.2.2.1) ∨ hSh hp' (A 4) M'.2.2.1)
    (cT : (¬ Z (k + 5) ∧ M'.2.2.2.2.1 = M.2.2.2.2.1) ∨ (hp'[A 5]? = some (.inl (8, M'.2.2.2.2.1.map Value.int)) ∧ M'.2.2.2.2.1.length = 256))
    (cG : ¬ Z (k + 6) ∨ ∃ lv, hp'[A 6]? = some (.inr (11, [.ref (A 10), lv]))) (cC : (¬ Z (k + 7) ∧ ¬ Z (k + 11) ∧ ¬ Z (k + 14)) ∨ hCh hp' A)
    (cL : ∀ j ∈ ([10, 15, 12, 13, 16, 17, 18] : List Nat), ¬ Z (k + j) ∨ ∃ es, hSh hp' (A j) es)
    (cQ : (¬ Z (k + 8) ∧ ¬ Z (k + 19) ∧ ¬ Z (k + 200) ∧ ¬ Z (k + 201) ∧ np' = np ∧ nl' = nl) ∨ hQu hp' ow' k A np' nl')
    (cW : (∀ j, 60 ≤ j → j < 77 → ¬ Z (k + j)) ∨ hSc hp' A)
    (cS : ∀ i, i < 8 → (¬ Z (k + (20 + i)) ∧ ¬ Z (k + (28 + i)) ∧ ¬ Z (k + (36 + i)) ∧ ¬ Z (k + (44 + i)) ∧ ¬ Z (k + (52 + i)) ∧ ¬ Z (k + 210 + i) ∧ M'.2.2.2.1 i = M.2.2.2.1 i) ∨ hSe hp' ow' k A i (M'.2.2.2.1 i))
    (cB : (¬ Z (k + 300) ∧ ¬ Z (k + 301) ∧ ¬ Z (k + 302) ∧ ¬ Z (k + 303) ∧ M'.2.2.2.2.2.2 = M.2.2.2.2.2.2) ∨ ((∀ q ∈ M'.2.2.2.2.2.2, hTq hp' ow' k q) ∧ ∀ p ∈ M'.2.2.2.2.2.2, ∀ q ∈ M'.2.2.2.2.2.2, p.1.1 = q.1.1 ∨ p.1.2.1 = q.1.2.1 → p = q))
    (ccp : ∀ j ∈ lsI, ¬ Z (k + j) ∨ capL hp' (A j) ≤ 7000) : HR hp' ow' k A M' rf' np' nl' := by
  have hlo := h.lists
  have hce := h.capeq f
  obtain ⟨hO, how, h0, h1, h3, hD, hF, hE, hT, hG, hC, hL9, hQ, hW, hS, hTq9, htd, hcap⟩ := h
  have how1 : ∀ j, j < 77 → ow (A j) = k + j := fun j hj => (how j hj).1
  refine ⟨f.2.1 hO, fun j hj => ⟨(hw _ (how j hj).2).trans (how1 j hj), Nat.lt_of_lt_of_le (how j hj).2 f.1⟩, ?_, f.2.2.1 _ _ h1 rfl (Or.inl (nz (how1 1 (by decide)) z1)), f.ob h3 (by decide) (nz (how1 3 (by decide)) z3), ?_, ?_, ?_, ?_, ?_, ?_, ?_, ?_, ?_, ?_, ?_, ?_, ?_⟩
  · rcases c0 with ⟨z, e1, e2⟩ | c
    · rw [e1, e2]; exact f.ob h0 (by decide) (nz (how1 0 (by decide)) z)
    · exact c
  · rcases cD with ⟨z, e⟩ | c
    · rw [e]; exact f.ls (nz (how1 2 (by decide)) z) hO hD
    · exact c
  · rcases cF with ⟨z, e⟩ | c
    · rw [e]; exact hF.fr f hO (nz (how1 9 (by decide)) z)
    · exact c
  · rcases cE with ⟨z, e⟩ | c
    · rw [e]; exact hE.fr f hO (nz (how1 4 (by decide)) z)
    · exact c
  · rcases cT with ⟨z, e⟩ | c
    · rw [e]; exact ⟨f.2.2.1 _ _ hT.1 rfl (Or.inl (nz (how1 5 (by decide)) z)), hT.2⟩
    · exact c
  · rcases cG with z | c
    · obtain ⟨lv, hG⟩ := hG
      exact ⟨lv, f.ob hG (by decide) (nz (how1 6 (by decide)) z)⟩
    · exact c
  · rcases cC with ⟨z, z', z''⟩ | c
    · exact hC.fr f how1 z z' z''
    · exact c
  · intro j hj
    rcases cL j hj with z | c
    · obtain ⟨es, he⟩ := hL9 j hj
      exact ⟨es, he.fr f hO (nz (how1 j ((by decide : ∀ j ∈ ([10, 15, 12, 13, 16, 17, 18] : List Nat), j < 77) j hj)) z)⟩
    · exact c
  · rcases cQ with ⟨z, z', z'', z3, e1, e2⟩ | c
    · rw [e1, e2]; exact hQ.fr f how1 hw z z' z'' z3
    · exact c
  · rcases cW with z | c
    · exact hW.fr f how1 z
    · exact c
  · intro i hi
    rcases cS i hi with ⟨y1, y2, y3, y4, y5, y6, e⟩ | c
    · rw [e]; exact (hS i hi).fr f hO hi how1 hw y1 y2 y3 y4 y5 y6
    · exact c
  · rcases cB with ⟨y1, y2, y3, y4, e⟩ | c
    · rw [e]; exact fun q hq => (hTq9 q hq).fr f hw y1 y2 y3 y4
    · exact c.1
  · rcases cB with ⟨y1, y2, y3, y4, e⟩ | c
    · rw [e]; exact htd
    · exact c.2
  · intro j hj
    rcases ccp j hj with z | c
    · rw [hce j hj z]; exact hcap j hj
    · exact c
end
theorem lsI_c : ∀ j ∈ lsI, j < 77 ∧ ((44 ≤ j ∧ j < 60) ∨ j = 2 ∨ j = 4 ∨ j = 9 ∨ j = 10 ∨ j = 12 ∨ j = 13 ∨ j = 15 ∨ j = 16 ∨ j = 17 ∨ j = 18) := by decide
/-- what a step of a house leaves -/
def HSt (hp hp' : List XC) (ow : Nat → Nat) (k : Nat) (A : Nat → Nat) (M' : HM) (rf' : Int32) (np nl c s Kc Ks : Nat) : Prop := ∃ (ow' : Nat → Nat) (np' nl' : Nat), (∀ a, a < hp.length → ow' a = ow a) ∧ HR hp' ow' k A M' rf' np' nl' ∧ FrX (fun a => k ≤ ow a ∧ ow a < k + 1000) hp hp' ∧ c + (capsH hp A + np + nl) ≤ capsH hp' A + np' + nl' + Kc ∧ s + (4 * (capsH hp A + np) + 900 * nl) ≤ 4 * (capsH hp' A + np') + 900 * nl' + Ks
theorem HSt.of {hp hp' : List XC} {ow : Nat → Nat} {k : Nat} {A : Nat → Nat} {M M' : HM} {rf rf' : Int32} {np nl c s Kc Ks : Nat} {Z : Nat → Prop} (h : HR hp ow k A M rf np nl) (f : FrX (fun a => Z (ow a)) hp hp') (hZ : ∀ n, Z n → k ≤ n ∧ n < k + 1000) (hR : HR hp' ow k A M' rf' np nl) (js : List Nat) (hs : js.Sublist lsI) (hz : ∀ j, Z (k + j) → j ∈ lsI → j ∈ js) (hc : c + sumL (fun j => capL hp (A j)) js ≤ sumL (fun j => capL hp' (A j)) js + Kc) (hs9 : s + 4 * sumL (fun j => capL hp (A j)) js ≤ 4 * sumL (fun j => capL hp' (A j)) js + Ks) : HSt hp hp' ow k A M' rf' np nl c s Kc Ks := by
  have e := h.caps f js hs hz
  exact ⟨ow, np, nl, fun _ _ => rfl, hR, f.mono (fun x _ hx => hZ _ hx), by omega, by omega⟩
theorem HSt.tr {hp h1 h2 : List XC} {ow : Nat → Nat} {k : Nat} {A : Nat → Nat} {M2 : HM} {rf2 : Int32} {np nl np1 nl1 c1 s1 c2 s2 K1 J1 K2 J2 : Nat} {ow1 : Nat → Nat} (hw : ∀ a, a < hp.length → ow1 a = ow a) (f : FrX (fun a => k ≤ ow a ∧ ow a < k + 1000) hp h1) (e1 : c1 + (capsH hp A + np + nl) ≤ capsH h1 A + np1 + nl1 + K1) (e2 : s1 + (4 * (capsH hp A + np) + 900 * nl) ≤ 4 * (capsH h1 A + np1) + 900 * nl1 + J1) (h : HSt h1 h2 ow1 k A M2 rf2 np1 nl1 c2 s2 K2 J2) : HSt hp h2 ow k A M2 rf2 np nl (c1 + c2) (s1 + s2) (K1 + K2) (J1 + J2) := by
  obtain ⟨ow2, np2, nl2, w2, hR, f2, u1, u2⟩ := h
  refine ⟨ow2, np2, nl2, fun a ha => (w2 a (Nat.lt_of_lt_of_le ha f.1)).trans (hw a ha), hR, FrX.tr f f2 (fun x hx => ?_), by omega, by omega⟩
  rcases Nat.lt_or_ge x hp.length with hl | hl
  · rw [hw x hl] at hx
    exact Or.inl hx
  · exact Or.inr hl
