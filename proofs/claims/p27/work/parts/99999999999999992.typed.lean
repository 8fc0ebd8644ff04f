/-! a session to which a text was said (by hand) -/
theorem tyF_k : ∀ (cs : List Nat) (s : SM), (tyF s cs).1 = s.1 ∧ (tyF s cs).2.1 = s.2.1 ∧ (tyF s cs).2.2.1 = s.2.2.1 ∧ (tyF s cs).2.2.2.1 = s.2.2.2.1 ∧ (tyF s cs).2.2.2.2.1 = s.2.2.2.2.1 ∧ (tyF s cs).2.2.2.2.2.1 = s.2.2.2.2.2.1 ∧ (tyF s cs).2.2.2.2.2.2.1 = s.2.2.2.2.2.2.1
  | [], _ => ⟨rfl, rfl, rfl, rfl, rfl, rfl, rfl⟩
  | c :: cs, s => tyF_k cs (sTyp s (Int32.ofNat c))
theorem tyF_len : ∀ (cs : List Nat) (s : SM), (tyF s cs).2.2.2.2.2.2.2.1 = s.2.2.2.2.2.2.2.1 + cs.length
  | [], _ => rfl
  | c :: cs, s => by
    have h := tyF_len cs (sTyp s (Int32.ofNat c))
    show (tyF (sTyp s (Int32.ofNat c)) cs).2.2.2.2.2.2.2.1 = _
    rw [h, List.length_cons]
    show s.2.2.2.2.2.2.2.1 + 1 + cs.length = _
    omega
theorem set_tk {l : List Int32} {n : Nat} {c : Int32} (h : n < l.length) : (l.set n c).take (n + 1) = l.take n ++ [c] := by
  have e : (l.set n c).take n = l.take n := List.ext_getElem? (fun j => by
    rw [List.getElem?_take, List.getElem?_take]
    by_cases h9 : j < n
    · rw [if_pos h9, if_pos h9, List.getElem?_set_ne (by omega)]
    · rw [if_neg h9, if_neg h9])
  rw [List.take_add_one, e, List.getElem?_set_self h]
  rfl
theorem tyF_txt : ∀ (cs : List Nat) (s : SM), s.2.2.2.2.2.2.2.1 + cs.length ≤ s.2.2.2.2.2.2.2.2.length → (tyF s cs).2.2.2.2.2.2.2.2.take (s.2.2.2.2.2.2.2.1 + cs.length) = s.2.2.2.2.2.2.2.2.take s.2.2.2.2.2.2.2.1 ++ cs.map Int32.ofNat
  | [], s, _ => by
    rw [List.map_nil, List.append_nil]
    rfl
  | c :: cs, s, h => by
    rw [List.length_cons] at h
    have ih := tyF_txt cs (sTyp s (Int32.ofNat c)) (by
      show s.2.2.2.2.2.2.2.1 + 1 + cs.length ≤ (s.2.2.2.2.2.2.2.2.set s.2.2.2.2.2.2.2.1 (Int32.ofNat c)).length
      rw [List.length_set]
      omega)
    have e1 : (sTyp s (Int32.ofNat c)).2.2.2.2.2.2.2.1 = s.2.2.2.2.2.2.2.1 + 1 := rfl
    have e2 : (sTyp s (Int32.ofNat c)).2.2.2.2.2.2.2.2 = s.2.2.2.2.2.2.2.2.set s.2.2.2.2.2.2.2.1 (Int32.ofNat c) := rfl
    rw [e1, e2, set_tk (by omega)] at ih
    show (tyF (sTyp s (Int32.ofNat c)) cs).2.2.2.2.2.2.2.2.take (s.2.2.2.2.2.2.2.1 + (c :: cs).length) = _
    rw [List.length_cons, show s.2.2.2.2.2.2.2.1 + (cs.length + 1) = s.2.2.2.2.2.2.2.1 + 1 + cs.length by omega, ih, List.map_cons, List.append_assoc]
    rfl
def saidM (M : HM) (i : Nat) (cs : List Nat) : HM := mS M i (tyF (sLen (M.2.2.2.1 i) 0) cs)
section
variable {w : Int32 → Bool} {f : Int32 → Int32} {g : Nat → Nat} {M N : HM} {c d i ln : Nat} {cs : List Nat} {σ : Nat → Nat} {rt : List WV}
/-- what a run of a text asks of the text -/
theorem said_t (hl : cs.length ≤ (M.2.2.2.1 i).2.2.2.2.2.2.2.2.length) (hw : wtT σ rt = (cs.map Int32.ofNat).map Value.int) (hr : rt.length = cs.length) : (((saidM M i cs).2.2.2.1 i).2.2.2.2.2.2.2.2.take rt.length).map Value.int = wtT σ rt ∧ ((saidM M i cs).2.2.2.1 i).2.2.2.2.2.2.2.1 = rt.length := by
  have e : (saidM M i cs).2.2.2.1 i = tyF (sLen (M.2.2.2.1 i) 0) cs := mS_at
  have e1 := tyF_txt cs (sLen (M.2.2.2.1 i) 0) (by show 0 + cs.length ≤ (M.2.2.2.1 i).2.2.2.2.2.2.2.2.length; omega)
  have e2 := tyF_len cs (sLen (M.2.2.2.1 i) 0)
  have z : (sLen (M.2.2.2.1 i) 0).2.2.2.2.2.2.2.1 = 0 := rfl
  rw [z, Nat.zero_add] at e1 e2
  rw [List.take_zero, List.nil_append] at e1
  rw [e, hr, e1, hw]
  exact ⟨rfl, e2⟩
theorem said_lab : ((saidM M i cs).2.2.2.1 i).1 = (M.2.2.2.1 i).1 := by
  show ((mS M i (tyF (sLen (M.2.2.2.1 i) 0) cs)).2.2.2.1 i).1 = _
  rw [mS_at]
  exact (tyF_k cs _).1
theorem said_lbk : LbK M (saidM M i cs) := lbk_s (tyF_k cs _).1
theorem said_wt : Wt M (saidM M i cs) i := wt_s
theorem said_ck : ckE (saidM M i cs) i = ckE M i := by
  obtain ⟨h1, h2, h3, h4, h5, h6, h7⟩ := tyF_k cs (sLen (M.2.2.2.1 i) 0)
  exact ck_ms h1 h3 h4
theorem WfH.said (h : WfH M c d) (hi : i < 8) : WfH (saidM M i cs) c d := by
  obtain ⟨h1, h2, h3, h4, h5, h6, h7⟩ := tyF_k cs (sLen (M.2.2.2.1 i) 0)
  refine ⟨h.1.ses hi (s := tyF (sLen (M.2.2.2.1 i) 0) cs) ?_ (by rw [h5]; exact Nat.le_refl _), h.2.1, h.2.2⟩
  obtain ⟨a1, a2, a3, a4, a5⟩ := h.1.2.2.2.2.2.2.1 i hi
  unfold SesOk
  rw [h1, h3, h4, h5, h6]
  exact ⟨a1, a2, a3, a4, a5⟩
theorem lo_said (R : Rel w f g M N) (hi : i < 8) : Rel w f g (saidM M i cs) (saidM N i cs) := by
  obtain ⟨s1, s2⟩ := R.2.2.2.2.1 i hi
  obtain ⟨h1, h2, h3, h4, h5, h6, h7⟩ := tyF_k cs (sLen (M.2.2.2.1 i) 0)
  obtain ⟨k1, k2, k3, k4, k5, k6, k7⟩ := tyF_k cs (sLen (N.2.2.2.1 i) 0)
  refine R.ses ⟨by rw [h1, k1]; exact s1, fun hl => ?_⟩
  rw [h1] at hl
  obtain ⟨b1, b2, b3, b4, b5⟩ := s2 hl
  rw [h3, h4, h5, h6, h7, k3, k4, k5, k6, k7]
  exact ⟨b1, b2, b3, b4, b5⟩
theorem hi_said (R : Rel w f g M N) (hi : i < 8) (hl : w (M.2.2.2.1 i).1 = false) : Rel w f g (saidM M i cs) N := R.sesH hi (tyF_k cs _).1 hl
end
