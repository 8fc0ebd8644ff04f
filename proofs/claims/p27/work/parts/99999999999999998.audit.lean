/-! what is counted (by hand) -/
def audC (k : Nat) : Int32 := if k = 0 then 100 else if k = 1 then 114 else if k = 2 then 102 else 99
theorem l4_lb {x : Int32} (h : isL4 x = true) : isLb x = true := by
  rcases isL4_c h with e | e | e | e <;> (rw [e]; decide)
theorem l4_pl {x : Int32} {ln : Nat} (h : isL4 x = true) (e : x = Int32.ofNat ln) (hl : ln < 64) {j : Nat} (hj : j < 4) : x * 4 + Int32.ofNat j = Int32.ofNat (ln * 4 + j) := by
  rw [e]
  have e1 : Int32.ofNat ln * 4 = Int32.ofNat (ln * 4) := (Int32.ofNat_mul ln 4).symm
  rw [e1]
  exact (Int32.ofNat_add (ln * 4) j).symm
theorem h_aud {S : List Int32} {hp : List XC} {ow : Nat → Nat} {k : Nat} {A : Nat → Nat} {M : HM} {rf : Int32} {np nl i ln c d j : Nat} (h : HR hp ow k A M rf np nl) (hi : i < 8) (hW : WfM M c d) (hln : (M.2.2.2.1 i).1 = Int32.ofNat ln) (hl64 : ln < 64) (hj : j < 4) : Pu S 2 268 [.ref (A 0), .int (Int32.ofNat i), .int (M.2.2.2.1 i).1, .int (audC j)] hp (.int ((M.2.2.2.2.1[ln * 4 + j]?).getD 0)) := by
  have h4 := hW.lab hi
  have hlen := hW.2.2.2.2.2.2.2.2
  obtain ⟨v, hv⟩ : ∃ v, M.2.2.2.2.1[ln * 4 + j]? = some v := ⟨_, List.getElem?_eq_getElem (by omega)⟩
  rw [hv]
  refine h_audit h hi hv ?_ (isB_rf h4)
  rw [← l4_pl h4 hln hl64 hj]
  match j, hj with
  | 0, _ => exact m_tally0 (l4_lb h4)
  | 1, _ => exact m_tally1 (l4_lb h4)
  | 2, _ => exact m_tally2 (l4_lb h4)
  | 3, _ => exact m_tally3 (l4_lb h4)
