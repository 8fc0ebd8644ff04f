/-! the house: the law's texts are run (written by wip/p27/c999999999990.py) -/
theorem wg4_3 (n : Nat) : wg [0, 1, 2, 3] n ≤ 3 := by
  unfold wg
  match n with
  | 0 => decide
  | 1 => decide
  | 2 => decide
  | 3 => decide
  | n + 4 => show 0 ≤ 3; decide
theorem hsl1 {M : HM} {i : Nat} (h : ∀ i, i < 8 → (M.2.2.2.1 i).2.2.2.1.length ≤ 3000) : ∀ j, j < 8 → ((M1l M i).2.2.2.1 j).2.2.2.1.length ≤ 3000 := fun j hj => by
  unfold M1l
  by_cases e : j = i
  · subst e
    rw [mS_at]
    exact h j hj
  · rw [mS_ne e]
    exact h j hj
theorem wr_tan : wrB rt_tan rW_tan 4294967295 = true := by decide +kernel
theorem wb_tan_ : wfrB (List.range 17) (rW_tan.take 15 ++ (wM0 ++ [])) bW_tan_ = true := by decide +kernel
theorem ws_tan_ : wsmB bW_tan_ = true := by decide +kernel
def F_tan (_ : Nat → Nat) : MF := fA
theorem sh_tan {S : List Int32} {hp : List XC} {ow : Nat → Nat} {k : Nat} {A : Nat → Nat} {M : HM} {rf : Int32} {np nl i : Nat} {σ : Nat → Nat} (h : HR hp ow k A M rf np nl) (hi : i < 8) (hV : WfV M i) (hC : WfC M i) (hT : WfT M) (hlab : (M.2.2.2.1 i).1 = Int32.ofNat (wg [0, 1, 16, 17] (σ 10))) (hmd : M.2.2.2.2.2.1 + 1 = nSr σ) (hsl : ∀ i, i < 8 → (M.2.2.2.1 i).2.2.2.1.length ≤ 3000) (hshf : M.2.1.length ≤ 3000) (ht : ((M.2.2.2.1 i).2.2.2.2.2.2.2.2.take rt_tan.length).map Value.int = wtT σ rt_tan) (hlen : (M.2.2.2.1 i).2.2.2.2.2.2.2.1 = rt_tan.length) : At S 12 40 0 [(0, .ref (A 0)), (1, .int (Int32.ofNat i))] [] hp 0 0 (QR hp ow k A np nl 99 50000 (fun r => F_tan σ (M1l M i) i (wg [0, 1, 16, 17] (σ 10)) r)) := by
  have hSt : StT M.2.2.2.2.2.2 M.1 := hV.2.2.2.1
  refine r_zero h hi hSt hlab ht hlen rd_tan wr_tan bd_tan_ wb_tan_ ws_tan_ (fun h4 ρ ω' hR hω h17 hW => ?_)
  have eq9 : tQ_tan h4.length σ = nqA h4.length (M.2.2.2.2.2.1 + 1) (M.2.2.2.1 i).1 := by rw [hmd, hlab]; rfl
  refine At.mono (v_mk (K := 5) (J := 79) (nm := 14348907) (ta := 1) (q' := tQ_tan h4.length σ) hR hi (l1_lab.trans hlab) (wgl_64 _) hV.l1 hW (by decide +kernel) (fun g2 hl2 hR2 hW2 => ?_) mkR_pl) (fun o ho => (ho.mono (by decide) (by decide)).imp (fun r hr => ?_))
  · rw [← hl2, show (M1l M i).2.2.2.2.2.1 + 1 = nSr σ from hmd]
    rw [← hmd]
    have := h_new_tan (S := S) hR2 hSt hω h17 hW2
    rw [← hmd] at this
    exact this
  · show ∃ n, frs (M1l M i) n ∧ r = cntR (mkM (M1l M i) i 14348907 (nqA n ((M1l M i).2.2.2.2.2.1 + 1) ((M1l M i).2.2.2.1 i).1)) i _
    refine ⟨h4.length, frs_of hR, ?_⟩
    rw [l1_lab, show (M1l M i).2.2.2.2.2.1 + 1 = M.2.2.2.2.2.1 + 1 from rfl, ← eq9]
    exact hr
theorem wr_tau : wrB rt_tau rW_tau 4294967295 = true := by decide +kernel
theorem wb_tau_ : wfrB (List.range 17) (rW_tau.take 15 ++ (wM0 ++ [])) bW_tau_ = true := by decide +kernel
theorem ws_tau_ : wsmB bW_tau_ = true := by decide +kernel
def F_tau (_ : Nat → Nat) : MF := fU
theorem sh_tau {S : List Int32} {hp : List XC} {ow : Nat → Nat} {k : Nat} {A : Nat → Nat} {M : HM} {rf : Int32} {np nl i : Nat} {σ : Nat → Nat} (h : HR hp ow k A M rf np nl) (hi : i < 8) (hV : WfV M i) (hC : WfC M i) (hT : WfT M) (hlab : (M.2.2.2.1 i).1 = Int32.ofNat (wg [0, 1, 16, 17] (σ 10))) (hmd : M.2.2.2.2.2.1 + 1 = nSr σ) (hsl : ∀ i, i < 8 → (M.2.2.2.1 i).2.2.2.1.length ≤ 3000) (hshf : M.2.1.length ≤ 3000) (ht : ((M.2.2.2.1 i).2.2.2.2.2.2.2.2.take rt_tau.length).map Value.int = wtT σ rt_tau) (hlen : (M.2.2.2.1 i).2.2.2.2.2.2.2.1 = rt_tau.length) : At S 12 40 0 [(0, .ref (A 0)), (1, .int (Int32.ofNat i))] [] hp 0 0 (QR hp ow k A np nl 99 50000 (fun r => F_tau σ (M1l M i) i (wg [0, 1, 16, 17] (σ 10)) r)) := by
  have hSt : StT M.2.2.2.2.2.2 M.1 := hV.2.2.2.1
  refine r_zero h hi hSt hlab ht hlen rd_tau wr_tau bd_tau_ wb_tau_ ws_tau_ (fun h4 ρ ω' hR hω h17 hW => ?_)
  have eq9 : tQ_tau h4.length σ = nqU h4.length (M.2.2.2.2.2.1 + 1) (M.2.2.2.1 i).1 := by rw [hmd, hlab]; rfl
  refine At.mono (v_mk (K := 11) (J := 101) (nm := 14348907) (ta := 1) (q' := tQ_tau h4.length σ) hR hi (l1_lab.trans hlab) (wgl_64 _) hV.l1 hW (by decide +kernel) (fun g2 hl2 hR2 hW2 => ?_) mkR_pl) (fun o ho => (ho.mono (by decide) (by decide)).imp (fun r hr => ?_))
  · rw [← hl2, show (M1l M i).2.2.2.2.2.1 + 1 = nSr σ from hmd]
    rw [← hmd]
    have := h_new_tau (S := S) hR2 hSt hω h17 hW2
    rw [← hmd] at this
    exact this
  · show ∃ n, frs (M1l M i) n ∧ r = cntR (mkM (M1l M i) i 14348907 (nqU n ((M1l M i).2.2.2.2.2.1 + 1) ((M1l M i).2.2.2.1 i).1)) i _
    refine ⟨h4.length, frs_of hR, ?_⟩
    rw [l1_lab, show (M1l M i).2.2.2.2.2.1 + 1 = M.2.2.2.2.2.1 + 1 from rfl, ← eq9]
    exact hr
theorem wr_tb : wrB rt_tb rW_tb 4294967295 = true := by decide +kernel
theorem wb_tb_n : wfrB (List.range 17) (rW_tb.take 15 ++ (wM0 ++ [])) bW_tb_n = true := by decide +kernel
theorem ws_tb_n : wsmB bW_tb_n = true := by decide +kernel
theorem wb_tb_a : wfrB (List.range 17) (rW_tb.take 15 ++ (wM0 ++ bT0)) bW_tb_a = true := by decide +kernel
theorem ws_tb_a : wsmB bW_tb_a = true := by decide +kernel
def F_tb (_ : Nat → Nat) : MF := fB 21
theorem sh_tb {S : List Int32} {hp : List XC} {ow : Nat → Nat} {k : Nat} {A : Nat → Nat} {M : HM} {rf : Int32} {np nl i : Nat} {σ : Nat → Nat} (h : HR hp ow k A M rf np nl) (hi : i < 8) (hV : WfV M i) (hC : WfC M i) (hT : WfT M) (hlab : (M.2.2.2.1 i).1 = Int32.ofNat (wg [0, 1, 16, 17] (σ 10))) (hmd : M.2.2.2.2.2.1 + 1 = nSr σ) (hsl : ∀ i, i < 8 → (M.2.2.2.1 i).2.2.2.1.length ≤ 3000) (hshf : M.2.1.length ≤ 3000) (ht : ((M.2.2.2.1 i).2.2.2.2.2.2.2.2.take rt_tb.length).map Value.int = wtT σ rt_tb) (hlen : (M.2.2.2.1 i).2.2.2.2.2.2.2.1 = rt_tb.length) : At S 12 40 0 [(0, .ref (A 0)), (1, .int (Int32.ofNat i))] [] hp 0 0 (QR hp ow k A np nl 99 50000 (fun r => F_tb σ (M1l M i) i (wg [0, 1, 16, 17] (σ 10)) r)) := by
  have hSt : StT M.2.2.2.2.2.2 M.1 := hV.2.2.2.1
  cases htn : tnM M (M.2.2.2.1 i).1 14348907 with
  | none =>
    exact r_none h hi hSt hlab ht hlen rd_tb wr_tb bd_tb_n wb_tb_n ws_tb_n (fun p hp => by rw [List.mem_singleton.mp hp]; exact ⟨rfl, 14348907, fun _ _ => rfl, htn⟩) (fun h4 ρ ω' hR hω h17 hW => At.mono (v_flt hR hi (l1_lab.trans hlab) (wgl_64 _) (by decide)) (fun o ho => (ho.mono (by decide) (by decide)).imp (fun r hr => fB_none htn hr)))
  | some t =>
    obtain ⟨q, hq, hqt, hts, hqn, hqb, -⟩ := h.found hSt htn
    have ta := hT.a hq hqn
    have hqs : q.1.1 ∈ M.1 := by rw [hqt]; exact hts
    refine r_a h hi hSt hlab ht hlen rd_tb wr_tb bd_tb_a wb_tb_a ws_tb_a hq hqs ta (fun p hp => by rw [List.mem_singleton.mp hp]; exact ⟨14348907, fun _ _ => rfl, Or.inr ⟨rfl, by rw [hqt]; exact htn⟩⟩) (fun h4 ρ ω' hR hω h17 hW h18 => ?_)
    have eq9 : tQ_tb h4.length σ q.1.1 q.2.1 = nqB h4.length (M.2.2.2.2.2.1 + 1) (M.2.2.2.1 i).1 q.1.1 q.2.1 := by rw [hmd, hlab]; rfl
    have hj9 : ∃ j, tnE (tsM M) 14348907 (Int32.ofNat (wg [0, 1, 16, 17] (σ 10))) (tsM M).length = some j ∧ M.1[j]? = some q.1.1 := by
      rw [hlab] at htn
      obtain ⟨j, j1, j2, -⟩ := tnM_some htn
      exact ⟨j, j1, by rw [hqt]; exact j2⟩
    refine At.mono (v_mk (K := 5) (J := 82) (nm := 28697814) (ta := 1) (q' := tQ_tb h4.length σ q.1.1 q.2.1) hR hi (l1_lab.trans hlab) (wgl_64 _) hV.l1 hW (by decide +kernel) (fun g2 hl2 hR2 hW2 => ?_) mkR_pl) (fun o ho => (ho.mono (by decide) (by decide)).imp (fun r hr => ?_))
    · rw [← hl2, show (M1l M i).2.2.2.2.2.1 + 1 = nSr σ from hmd]
      rw [← hmd]
      have := h_new_tb (S := S) hR2 hSt hω h17 hW2 hq ta hqs hj9
      rw [← hmd] at this
      exact this
    · refine fB_some htn hq hqt (frs_of hR) ?_
      rw [← eq9]
      exact hr
theorem wr_drop : wrB rt_drop rW_drop 4294967295 = true := by decide +kernel
theorem wb_drop_n : wfrB (List.range 17) (rW_drop.take 15 ++ (wM0 ++ [])) bW_drop_n = true := by decide +kernel
theorem ws_drop_n : wsmB bW_drop_n = true := by decide +kernel
theorem wb_drop_a : wfrB (List.range 17) (rW_drop.take 15 ++ (wM0 ++ bT0)) bW_drop_a = true := by decide +kernel
theorem ws_drop_a : wsmB bW_drop_a = true := by decide +kernel
theorem wb_drop_b : wfrB (List.range 17) (rW_drop.take 15 ++ (wM0 ++ bT1)) bW_drop_b = true := by decide +kernel
theorem ws_drop_b : wsmB bW_drop_b = true := by decide +kernel
def F_drop (σ : Nat → Nat) : MF := f1 (Int32.ofNat (wg [14348907, 28697814] (σ 9))) 5 (fun q M i ln => drM M i q)
theorem sh_drop {S : List Int32} {hp : List XC} {ow : Nat → Nat} {k : Nat} {A : Nat → Nat} {M : HM} {rf : Int32} {np nl i : Nat} {σ : Nat → Nat} (h : HR hp ow k A M rf np nl) (hi : i < 8) (hV : WfV M i) (hC : WfC M i) (hT : WfT M) (hlab : (M.2.2.2.1 i).1 = Int32.ofNat (wg [0, 1, 16, 17] (σ 10))) (hmd : M.2.2.2.2.2.1 + 1 = nSr σ) (hsl : ∀ i, i < 8 → (M.2.2.2.1 i).2.2.2.1.length ≤ 3000) (hshf : M.2.1.length ≤ 3000) (ht : ((M.2.2.2.1 i).2.2.2.2.2.2.2.2.take rt_drop.length).map Value.int = wtT σ rt_drop) (hlen : (M.2.2.2.1 i).2.2.2.2.2.2.2.1 = rt_drop.length) : At S 12 40 0 [(0, .ref (A 0)), (1, .int (Int32.ofNat i))] [] hp 0 0 (QR hp ow k A np nl 99 50000 (fun r => F_drop σ (M1l M i) i (wg [0, 1, 16, 17] (σ 10)) r)) := by
  have hSt : StT M.2.2.2.2.2.2 M.1 := hV.2.2.2.1
  cases htn : tnM M (M.2.2.2.1 i).1 (Int32.ofNat (wg [14348907, 28697814] (σ 9))) with
  | none =>
    exact r_none h hi hSt hlab ht hlen rd_drop wr_drop bd_drop_n wb_drop_n ws_drop_n (fun p hp => by rw [List.mem_singleton.mp hp]; exact ⟨rfl, (Int32.ofNat (wg [14348907, 28697814] (σ 9))), fun _ _ => rfl, htn⟩) (fun h4 ρ ω' hR hω h17 hW => At.mono (v_flt hR hi (l1_lab.trans hlab) (wgl_64 _) (by decide)) (fun o ho => (ho.mono (by decide) (by decide)).imp (fun r hr => f1_none htn hr)))
  | some t =>
    obtain ⟨q, hq, hqt, hts, hqn, hqb, -⟩ := h.found hSt htn
    rcases hT q hq with tx | tx
    · skip
      refine r_a h hi hSt hlab ht hlen rd_drop wr_drop bd_drop_a wb_drop_a ws_drop_a hq (by rw [hqt]; exact hts) tx (fun p hp => by rw [List.mem_singleton.mp hp]; exact ⟨(Int32.ofNat (wg [14348907, 28697814] (σ 9))), fun _ _ => rfl, Or.inr ⟨rfl, by rw [hqt]; exact htn⟩⟩) (fun h4 ρ ω' hR hω h17 hW h18 => At.mono (v_drop hR hi (l1_lab.trans hlab) (wgl_64 _) hV.l1 hW (by decide +kernel) hq h18 (hsl1 hsl) hshf) (fun o ho => (ho.mono (by decide) (by decide)).imp (fun r hr => f1_some htn hq hqt ?_)))
      exact hr
    · skip
      refine r_b h hi hSt hlab ht hlen rd_drop wr_drop bd_drop_b wb_drop_b ws_drop_b hq (by rw [hqt]; exact hts) tx (fun p hp => by rw [List.mem_singleton.mp hp]; exact ⟨(Int32.ofNat (wg [14348907, 28697814] (σ 9))), fun _ _ => rfl, Or.inr ⟨rfl, by rw [hqt]; exact htn⟩⟩) (fun h4 ρ ω' hR hω h17 hW h18 => At.mono (v_drop hR hi (l1_lab.trans hlab) (wgl_64 _) hV.l1 hW (by decide +kernel) hq h18 (hsl1 hsl) hshf) (fun o ho => (ho.mono (by decide) (by decide)).imp (fun r hr => f1_some htn hq hqt ?_)))
      exact hr
theorem wr_gsum : wrB rt_gsum rW_gsum 4294967295 = true := by decide +kernel
theorem wb_gsum_n : wfrB (List.range 17) (rW_gsum.take 15 ++ (wM0 ++ [])) bW_gsum_n = true := by decide +kernel
theorem ws_gsum_n : wsmB bW_gsum_n = true := by decide +kernel
theorem wb_gsum_a : wfrB (List.range 17) (rW_gsum.take 15 ++ (wM0 ++ bT0)) bW_gsum_a = true := by decide +kernel
theorem ws_gsum_a : wsmB bW_gsum_a = true := by decide +kernel
theorem wb_gsum_b : wfrB (List.range 17) (rW_gsum.take 15 ++ (wM0 ++ bT1)) bW_gsum_b = true := by decide +kernel
theorem ws_gsum_b : wsmB bW_gsum_b = true := by decide +kernel
def F_gsum (σ : Nat → Nat) : MF := f1 (Int32.ofNat (wg [14348907, 28697814] (σ 9))) 22 (fun q M i ln => getM M i 2 999999999 (nmC q (q0G none (bI (decide ((0 : Nat) = 14))) 150 2 (wif0 bW_gsum_a) (wif1 bW_gsum_a) (wits bW_gsum_a) (wkd bW_gsum_a) (wfr bW_gsum_a) (wos σ bW_gsum_a) (gthE false (vwE M i) (lookE (TIq M.2.2.2.2.2.2) (vwE M i) (M.2.2.2.1 i).1) q.2.1 (M.2.2.2.1 i).1)) (q0G none (bI (decide ((0 : Nat) = 14))) 150 2 (wif0 bW_gsum_b) (wif1 bW_gsum_b) (wits bW_gsum_b) (wkd bW_gsum_b) (wfr bW_gsum_b) (wos σ bW_gsum_b) (gthE false (vwE M i) (lookE (TIq M.2.2.2.2.2.2) (vwE M i) (M.2.2.2.1 i).1) q.2.1 (M.2.2.2.1 i).1))))
theorem sh_gsum {S : List Int32} {hp : List XC} {ow : Nat → Nat} {k : Nat} {A : Nat → Nat} {M : HM} {rf : Int32} {np nl i : Nat} {σ : Nat → Nat} (h : HR hp ow k A M rf np nl) (hi : i < 8) (hV : WfV M i) (hC : WfC M i) (hT : WfT M) (hlab : (M.2.2.2.1 i).1 = Int32.ofNat (wg [0, 1, 16, 17] (σ 10))) (hmd : M.2.2.2.2.2.1 + 1 = nSr σ) (hsl : ∀ i, i < 8 → (M.2.2.2.1 i).2.2.2.1.length ≤ 3000) (hshf : M.2.1.length ≤ 3000) (ht : ((M.2.2.2.1 i).2.2.2.2.2.2.2.2.take rt_gsum.length).map Value.int = wtT σ rt_gsum) (hlen : (M.2.2.2.1 i).2.2.2.2.2.2.2.1 = rt_gsum.length) : At S 12 40 0 [(0, .ref (A 0)), (1, .int (Int32.ofNat i))] [] hp 0 0 (QR hp ow k A np nl 99 50000 (fun r => F_gsum σ (M1l M i) i (wg [0, 1, 16, 17] (σ 10)) r)) := by
  have hSt : StT M.2.2.2.2.2.2 M.1 := hV.2.2.2.1
  cases htn : tnM M (M.2.2.2.1 i).1 (Int32.ofNat (wg [14348907, 28697814] (σ 9))) with
  | none =>
    exact r_none h hi hSt hlab ht hlen rd_gsum wr_gsum bd_gsum_n wb_gsum_n ws_gsum_n (fun p hp => by rw [List.mem_singleton.mp hp]; exact ⟨rfl, (Int32.ofNat (wg [14348907, 28697814] (σ 9))), fun _ _ => rfl, htn⟩) (fun h4 ρ ω' hR hω h17 hW => At.mono (v_flt hR hi (l1_lab.trans hlab) (wgl_64 _) (by decide)) (fun o ho => (ho.mono (by decide) (by decide)).imp (fun r hr => f1_none htn hr)))
  | some t =>
    obtain ⟨q, hq, hqt, hts, hqn, hqb, -⟩ := h.found hSt htn
    rcases hT q hq with tx | tx
    · skip
      refine r_a h hi hSt hlab ht hlen rd_gsum wr_gsum bd_gsum_a wb_gsum_a ws_gsum_a hq (by rw [hqt]; exact hts) tx (fun p hp => by rw [List.mem_singleton.mp hp]; exact ⟨(Int32.ofNat (wg [14348907, 28697814] (σ 9))), fun _ _ => rfl, Or.inr ⟨rfl, by rw [hqt]; exact htn⟩⟩) (fun h4 ρ ω' hR hω h17 hW h18 => At.mono (v_0G (b := false) (w := 2) hR hi (l1_lab.trans hlab) (wgl_64 _) hV.l1 hW hq h18 (by decide +kernel) (by decide +kernel) (by decide +kernel) (by decide +kernel) (by decide +kernel) (by decide +kernel)) (fun o ho => (ho.mono (by decide) (by decide)).imp (fun r hr => f1_some htn hq hqt ?_)))
      simp only [nmC_a tx]
      exact hr
    · skip
      refine r_b h hi hSt hlab ht hlen rd_gsum wr_gsum bd_gsum_b wb_gsum_b ws_gsum_b hq (by rw [hqt]; exact hts) tx (fun p hp => by rw [List.mem_singleton.mp hp]; exact ⟨(Int32.ofNat (wg [14348907, 28697814] (σ 9))), fun _ _ => rfl, Or.inr ⟨rfl, by rw [hqt]; exact htn⟩⟩) (fun h4 ρ ω' hR hω h17 hW h18 => At.mono (v_0G (b := false) (w := 2) hR hi (l1_lab.trans hlab) (wgl_64 _) hV.l1 hW hq h18 (by decide +kernel) (by decide +kernel) (by decide +kernel) (by decide +kernel) (by decide +kernel) (by decide +kernel)) (fun o ho => (ho.mono (by decide) (by decide)).imp (fun r hr => f1_some htn hq hqt ?_)))
      simp only [nmC_b tx]
      exact hr
theorem wr_pa0 : wrB rt_pa0 rW_pa0 4294967295 = true := by decide +kernel
theorem wb_pa0_n : wfrB (List.range 17) (rW_pa0.take 15 ++ (wM0 ++ [])) bW_pa0_n = true := by decide +kernel
theorem ws_pa0_n : wsmB bW_pa0_n = true := by decide +kernel
theorem wb_pa0_a : wfrB (List.range 17) (rW_pa0.take 15 ++ (wM0 ++ bT0)) bW_pa0_a = true := by decide +kernel
theorem ws_pa0_a : wsmB bW_pa0_a = true := by decide +kernel
def F_pa0 (σ : Nat → Nat) : MF := f1 14348907 4 (fun q M i ln => putM M i ln q false (putV σ bW_pa0_a))
theorem sh_pa0 {S : List Int32} {hp : List XC} {ow : Nat → Nat} {k : Nat} {A : Nat → Nat} {M : HM} {rf : Int32} {np nl i : Nat} {σ : Nat → Nat} (h : HR hp ow k A M rf np nl) (hi : i < 8) (hV : WfV M i) (hC : WfC M i) (hT : WfT M) (hlab : (M.2.2.2.1 i).1 = Int32.ofNat (wg [0, 1, 16, 17] (σ 10))) (hmd : M.2.2.2.2.2.1 + 1 = nSr σ) (hsl : ∀ i, i < 8 → (M.2.2.2.1 i).2.2.2.1.length ≤ 3000) (hshf : M.2.1.length ≤ 3000) (ht : ((M.2.2.2.1 i).2.2.2.2.2.2.2.2.take rt_pa0.length).map Value.int = wtT σ rt_pa0) (hlen : (M.2.2.2.1 i).2.2.2.2.2.2.2.1 = rt_pa0.length) : At S 12 40 0 [(0, .ref (A 0)), (1, .int (Int32.ofNat i))] [] hp 0 0 (QR hp ow k A np nl 99 50000 (fun r => F_pa0 σ (M1l M i) i (wg [0, 1, 16, 17] (σ 10)) r)) := by
  have hSt : StT M.2.2.2.2.2.2 M.1 := hV.2.2.2.1
  cases htn : tnM M (M.2.2.2.1 i).1 14348907 with
  | none =>
    exact r_none h hi hSt hlab ht hlen rd_pa0 wr_pa0 bd_pa0_n wb_pa0_n ws_pa0_n (fun p hp => by rw [List.mem_singleton.mp hp]; exact ⟨rfl, 14348907, fun _ _ => rfl, htn⟩) (fun h4 ρ ω' hR hω h17 hW => At.mono (v_flt hR hi (l1_lab.trans hlab) (wgl_64 _) (by decide)) (fun o ho => (ho.mono (by decide) (by decide)).imp (fun r hr => f1_none htn hr)))
  | some t =>
    obtain ⟨q, hq, hqt, hts, hqn, hqb, -⟩ := h.found hSt htn
    have tx := hT.a hq hqn
    refine r_a h hi hSt hlab ht hlen rd_pa0 wr_pa0 bd_pa0_a wb_pa0_a ws_pa0_a hq (by rw [hqt]; exact hts) tx (fun p hp => by rw [List.mem_singleton.mp hp]; exact ⟨14348907, fun _ _ => rfl, Or.inr ⟨rfl, by rw [hqt]; exact htn⟩⟩) (fun h4 ρ ω' hR hω h17 hW h18 => At.mono (v_put (gv := false) (w := 2) hR hi (l1_lab.trans hlab) (wgl_64 _) hV.l1 hW (by decide +kernel) hq h18 (by rw [tx.2.1]; rfl)) (fun o ho => (ho.mono (by decide) (by decide)).imp (fun r hr => f1_some htn hq hqt ?_)))
    exact hr
theorem wr_pa1 : wrB rt_pa1 rW_pa1 4294967295 = true := by decide +kernel
theorem wb_pa1_n : wfrB (List.range 17) (rW_pa1.take 15 ++ (wM0 ++ [])) bW_pa1_n = true := by decide +kernel
theorem ws_pa1_n : wsmB bW_pa1_n = true := by decide +kernel
theorem wb_pa1_a : wfrB (List.range 17) (rW_pa1.take 15 ++ (wM0 ++ bT0)) bW_pa1_a = true := by decide +kernel
theorem ws_pa1_a : wsmB bW_pa1_a = true := by decide +kernel
def F_pa1 (σ : Nat → Nat) : MF := f1 14348907 4 (fun q M i ln => putM M i ln q false (putV σ bW_pa1_a))
theorem sh_pa1 {S : List Int32} {hp : List XC} {ow : Nat → Nat} {k : Nat} {A : Nat → Nat} {M : HM} {rf : Int32} {np nl i : Nat} {σ : Nat → Nat} (h : HR hp ow k A M rf np nl) (hi : i < 8) (hV : WfV M i) (hC : WfC M i) (hT : WfT M) (hlab : (M.2.2.2.1 i).1 = Int32.ofNat (wg [0, 1, 16, 17] (σ 10))) (hmd : M.2.2.2.2.2.1 + 1 = nSr σ) (hsl : ∀ i, i < 8 → (M.2.2.2.1 i).2.2.2.1.length ≤ 3000) (hshf : M.2.1.length ≤ 3000) (ht : ((M.2.2.2.1 i).2.2.2.2.2.2.2.2.take rt_pa1.length).map Value.int = wtT σ rt_pa1) (hlen : (M.2.2.2.1 i).2.2.2.2.2.2.2.1 = rt_pa1.length) : At S 12 40 0 [(0, .ref (A 0)), (1, .int (Int32.ofNat i))] [] hp 0 0 (QR hp ow k A np nl 99 50000 (fun r => F_pa1 σ (M1l M i) i (wg [0, 1, 16, 17] (σ 10)) r)) := by
  have hSt : StT M.2.2.2.2.2.2 M.1 := hV.2.2.2.1
  cases htn : tnM M (M.2.2.2.1 i).1 14348907 with
  | none =>
    exact r_none h hi hSt hlab ht hlen rd_pa1 wr_pa1 bd_pa1_n wb_pa1_n ws_pa1_n (fun p hp => by rw [List.mem_singleton.mp hp]; exact ⟨rfl, 14348907, fun _ _ => rfl, htn⟩) (fun h4 ρ ω' hR hω h17 hW => At.mono (v_flt hR hi (l1_lab.trans hlab) (wgl_64 _) (by decide)) (fun o ho => (ho.mono (by decide) (by decide)).imp (fun r hr => f1_none htn hr)))
  | some t =>
    obtain ⟨q, hq, hqt, hts, hqn, hqb, -⟩ := h.found hSt htn
    have tx := hT.a hq hqn
    refine r_a h hi hSt hlab ht hlen rd_pa1 wr_pa1 bd_pa1_a wb_pa1_a ws_pa1_a hq (by rw [hqt]; exact hts) tx (fun p hp => by rw [List.mem_singleton.mp hp]; exact ⟨14348907, fun _ _ => rfl, Or.inr ⟨rfl, by rw [hqt]; exact htn⟩⟩) (fun h4 ρ ω' hR hω h17 hW h18 => At.mono (v_put (gv := false) (w := 2) hR hi (l1_lab.trans hlab) (wgl_64 _) hV.l1 hW (by decide +kernel) hq h18 (by rw [tx.2.1]; rfl)) (fun o ho => (ho.mono (by decide) (by decide)).imp (fun r hr => f1_some htn hq hqt ?_)))
    exact hr
theorem wr_pa2 : wrB rt_pa2 rW_pa2 4294967295 = true := by decide +kernel
theorem wb_pa2_n : wfrB (List.range 17) (rW_pa2.take 15 ++ (wM0 ++ [])) bW_pa2_n = true := by decide +kernel
theorem ws_pa2_n : wsmB bW_pa2_n = true := by decide +kernel
theorem wb_pa2_a : wfrB (List.range 17) (rW_pa2.take 15 ++ (wM0 ++ bT0)) bW_pa2_a = true := by decide +kernel
theorem ws_pa2_a : wsmB bW_pa2_a = true := by decide +kernel
def F_pa2 (σ : Nat → Nat) : MF := f1 14348907 4 (fun q M i ln => putM M i ln q false (putV σ bW_pa2_a))
theorem sh_pa2 {S : List Int32} {hp : List XC} {ow : Nat → Nat} {k : Nat} {A : Nat → Nat} {M : HM} {rf : Int32} {np nl i : Nat} {σ : Nat → Nat} (h : HR hp ow k A M rf np nl) (hi : i < 8) (hV : WfV M i) (hC : WfC M i) (hT : WfT M) (hlab : (M.2.2.2.1 i).1 = Int32.ofNat (wg [0, 1, 16, 17] (σ 10))) (hmd : M.2.2.2.2.2.1 + 1 = nSr σ) (hsl : ∀ i, i < 8 → (M.2.2.2.1 i).2.2.2.1.length ≤ 3000) (hshf : M.2.1.length ≤ 3000) (ht : ((M.2.2.2.1 i).2.2.2.2.2.2.2.2.take rt_pa2.length).map Value.int = wtT σ rt_pa2) (hlen : (M.2.2.2.1 i).2.2.2.2.2.2.2.1 = rt_pa2.length) : At S 12 40 0 [(0, .ref (A 0)), (1, .int (Int32.ofNat i))] [] hp 0 0 (QR hp ow k A np nl 99 50000 (fun r => F_pa2 σ (M1l M i) i (wg [0, 1, 16, 17] (σ 10)) r)) := by
  have hSt : StT M.2.2.2.2.2.2 M.1 := hV.2.2.2.1
  cases htn : tnM M (M.2.2.2.1 i).1 14348907 with
  | none =>
    exact r_none h hi hSt hlab ht hlen rd_pa2 wr_pa2 bd_pa2_n wb_pa2_n ws_pa2_n (fun p hp => by rw [List.mem_singleton.mp hp]; exact ⟨rfl, 14348907, fun _ _ => rfl, htn⟩) (fun h4 ρ ω' hR hω h17 hW => At.mono (v_flt hR hi (l1_lab.trans hlab) (wgl_64 _) (by decide)) (fun o ho => (ho.mono (by decide) (by decide)).imp (fun r hr => f1_none htn hr)))
  | some t =>
    obtain ⟨q, hq, hqt, hts, hqn, hqb, -⟩ := h.found hSt htn
    have tx := hT.a hq hqn
    refine r_a h hi hSt hlab ht hlen rd_pa2 wr_pa2 bd_pa2_a wb_pa2_a ws_pa2_a hq (by rw [hqt]; exact hts) tx (fun p hp => by rw [List.mem_singleton.mp hp]; exact ⟨14348907, fun _ _ => rfl, Or.inr ⟨rfl, by rw [hqt]; exact htn⟩⟩) (fun h4 ρ ω' hR hω h17 hW h18 => At.mono (v_put (gv := false) (w := 2) hR hi (l1_lab.trans hlab) (wgl_64 _) hV.l1 hW (by decide +kernel) hq h18 (by rw [tx.2.1]; rfl)) (fun o ho => (ho.mono (by decide) (by decide)).imp (fun r hr => f1_some htn hq hqt ?_)))
    exact hr
theorem wr_bad : wrB rt_bad rW_bad 12 = true := by decide +kernel
def F_bad (_ : Nat → Nat) : MF := fF 12
theorem sh_bad {S : List Int32} {hp : List XC} {ow : Nat → Nat} {k : Nat} {A : Nat → Nat} {M : HM} {rf : Int32} {np nl i : Nat} {σ : Nat → Nat} (h : HR hp ow k A M rf np nl) (hi : i < 8) (hV : WfV M i) (hC : WfC M i) (hT : WfT M) (hlab : (M.2.2.2.1 i).1 = Int32.ofNat (wg [0, 1, 16, 17] (σ 10))) (hmd : M.2.2.2.2.2.1 + 1 = nSr σ) (hsl : ∀ i, i < 8 → (M.2.2.2.1 i).2.2.2.1.length ≤ 3000) (hshf : M.2.1.length ≤ 3000) (ht : ((M.2.2.2.1 i).2.2.2.2.2.2.2.2.take rt_bad.length).map Value.int = wtT σ rt_bad) (hlen : (M.2.2.2.1 i).2.2.2.2.2.2.2.1 = rt_bad.length) : At S 12 40 0 [(0, .ref (A 0)), (1, .int (Int32.ofNat i))] [] hp 0 0 (QR hp ow k A np nl 99 50000 (fun r => F_bad σ (M1l M i) i (wg [0, 1, 16, 17] (σ 10)) r)) := by
  exact r_read (W := []) (rn := 0) h hi ht hlen rd_bad wr_bad (by decide) (by decide +kernel) (fun h4 hR => At.mono (v_flt hR hi (l1_lab.trans hlab) (wgl_64 _) (by decide)) (fun o ho => ho.mono (by decide) (by decide)))
theorem wr_pbad : wrB rt_pbad rW_pbad 4294967295 = true := by decide +kernel
theorem wb_pbad_n : wfrB (List.range 17) (rW_pbad.take 15 ++ (wM0 ++ [])) bW_pbad_n = true := by decide +kernel
theorem ws_pbad_n : wsmB bW_pbad_n = true := by decide +kernel
theorem wb_pbad_a : wfrB (List.range 17) (rW_pbad.take 15 ++ (wM0 ++ bT0)) bW_pbad_a = true := by decide +kernel
theorem ws_pbad_a : wsmB bW_pbad_a = true := by decide +kernel
def F_pbad (_ : Nat → Nat) : MF := fun M i ln r => match tnM M (M.2.2.2.1 i).1 14348907 with
  | none => r = fltR M ln 4
  | some _ => r = fltR M ln 7
theorem sh_pbad {S : List Int32} {hp : List XC} {ow : Nat → Nat} {k : Nat} {A : Nat → Nat} {M : HM} {rf : Int32} {np nl i : Nat} {σ : Nat → Nat} (h : HR hp ow k A M rf np nl) (hi : i < 8) (hV : WfV M i) (hC : WfC M i) (hT : WfT M) (hlab : (M.2.2.2.1 i).1 = Int32.ofNat (wg [0, 1, 16, 17] (σ 10))) (hmd : M.2.2.2.2.2.1 + 1 = nSr σ) (hsl : ∀ i, i < 8 → (M.2.2.2.1 i).2.2.2.1.length ≤ 3000) (hshf : M.2.1.length ≤ 3000) (ht : ((M.2.2.2.1 i).2.2.2.2.2.2.2.2.take rt_pbad.length).map Value.int = wtT σ rt_pbad) (hlen : (M.2.2.2.1 i).2.2.2.2.2.2.2.1 = rt_pbad.length) : At S 12 40 0 [(0, .ref (A 0)), (1, .int (Int32.ofNat i))] [] hp 0 0 (QR hp ow k A np nl 99 50000 (fun r => F_pbad σ (M1l M i) i (wg [0, 1, 16, 17] (σ 10)) r)) := by
  have hSt : StT M.2.2.2.2.2.2 M.1 := hV.2.2.2.1
  cases htn : tnM M (M.2.2.2.1 i).1 14348907 with
  | none =>
    exact r_none h hi hSt hlab ht hlen rd_pbad wr_pbad bd_pbad_n wb_pbad_n ws_pbad_n (fun p hp => by rw [List.mem_singleton.mp hp]; exact ⟨rfl, 14348907, fun _ _ => rfl, htn⟩) (fun h4 ρ ω' hR hω h17 hW => At.mono (v_flt hR hi (l1_lab.trans hlab) (wgl_64 _) (by decide)) (fun o ho => (ho.mono (by decide) (by decide)).imp (fun r hr => by unfold F_pbad; rw [l1_lab, l1_tn, htn]; exact hr)))
  | some t =>
    obtain ⟨q, hq, hqt, hts, hqn, hqb, -⟩ := h.found hSt htn
    exact r_a h hi hSt hlab ht hlen rd_pbad wr_pbad bd_pbad_a wb_pbad_a ws_pbad_a hq (by rw [hqt]; exact hts) (hT.a hq hqn) (fun p hp => by rw [List.mem_singleton.mp hp]; exact ⟨14348907, fun _ _ => rfl, Or.inr ⟨rfl, by rw [hqt]; exact htn⟩⟩) (fun h4 ρ ω' hR hω h17 hW _ => At.mono (v_flt hR hi (l1_lab.trans hlab) (wgl_64 _) (by decide)) (fun o ho => (ho.mono (by decide) (by decide)).imp (fun r hr => by unfold F_pbad; rw [l1_lab, l1_tn, htn]; exact hr)))
theorem wr_lo0 : wrB rt_lo0 rW_lo0 4294967295 = true := by decide +kernel
theorem wb_lo0_n : wfrB (List.range 17) (rW_lo0.take 15 ++ (wM0 ++ [])) bW_lo0_n = true := by decide +kernel
theorem ws_lo0_n : wsmB bW_lo0_n = true := by decide +kernel
theorem wb_lo0_a : wfrB (List.range 17) (rW_lo0.take 15 ++ (wM0 ++ bT0)) bW_lo0_a = true := by decide +kernel
theorem ws_lo0_a : wsmB bW_lo0_a = true := by decide +kernel
def F_lo0 (σ : Nat → Nat) : MF := f1 14348907 6 (fun q M i ln => lowM M i q (lowV σ bW_lo0_a 0) (lowV σ bW_lo0_a 1))
theorem sh_lo0 {S : List Int32} {hp : List XC} {ow : Nat → Nat} {k : Nat} {A : Nat → Nat} {M : HM} {rf : Int32} {np nl i : Nat} {σ : Nat → Nat} (h : HR hp ow k A M rf np nl) (hi : i < 8) (hV : WfV M i) (hC : WfC M i) (hT : WfT M) (hlab : (M.2.2.2.1 i).1 = Int32.ofNat (wg [0, 1, 16, 17] (σ 10))) (hmd : M.2.2.2.2.2.1 + 1 = nSr σ) (hsl : ∀ i, i < 8 → (M.2.2.2.1 i).2.2.2.1.length ≤ 3000) (hshf : M.2.1.length ≤ 3000) (ht : ((M.2.2.2.1 i).2.2.2.2.2.2.2.2.take rt_lo0.length).map Value.int = wtT σ rt_lo0) (hlen : (M.2.2.2.1 i).2.2.2.2.2.2.2.1 = rt_lo0.length) : At S 12 40 0 [(0, .ref (A 0)), (1, .int (Int32.ofNat i))] [] hp 0 0 (QR hp ow k A np nl 99 50000 (fun r => F_lo0 σ (M1l M i) i (wg [0, 1, 16, 17] (σ 10)) r)) := by
  have hSt : StT M.2.2.2.2.2.2 M.1 := hV.2.2.2.1
  cases htn : tnM M (M.2.2.2.1 i).1 14348907 with
  | none =>
    exact r_none h hi hSt hlab ht hlen rd_lo0 wr_lo0 bd_lo0_n wb_lo0_n ws_lo0_n (fun p hp => by rw [List.mem_singleton.mp hp]; exact ⟨rfl, 14348907, fun _ _ => rfl, htn⟩) (fun h4 ρ ω' hR hω h17 hW => At.mono (v_flt hR hi (l1_lab.trans hlab) (wgl_64 _) (by decide)) (fun o ho => (ho.mono (by decide) (by decide)).imp (fun r hr => f1_none htn hr)))
  | some t =>
    obtain ⟨q, hq, hqt, hts, hqn, hqb, -⟩ := h.found hSt htn
    have tx := hT.a hq hqn
    refine r_a h hi hSt hlab ht hlen rd_lo0 wr_lo0 bd_lo0_a wb_lo0_a ws_lo0_a hq (by rw [hqt]; exact hts) tx (fun p hp => by rw [List.mem_singleton.mp hp]; exact ⟨14348907, fun _ _ => rfl, Or.inr ⟨rfl, by rw [hqt]; exact htn⟩⟩) (fun h4 ρ ω' hR hω h17 hW h18 => At.mono (v_low hR hi (l1_lab.trans hlab) (wgl_64 _) hV.l1 hW (by decide +kernel) hq h18) (fun o ho => (ho.mono (by decide) (by decide)).imp (fun r hr => f1_some htn hq hqt ?_)))
    exact hr
theorem wr_lo16 : wrB rt_lo16 rW_lo16 4294967295 = true := by decide +kernel
theorem wb_lo16_n : wfrB (List.range 17) (rW_lo16.take 15 ++ (wM0 ++ [])) bW_lo16_n = true := by decide +kernel
theorem ws_lo16_n : wsmB bW_lo16_n = true := by decide +kernel
theorem wb_lo16_a : wfrB (List.range 17) (rW_lo16.take 15 ++ (wM0 ++ bT0)) bW_lo16_a = true := by decide +kernel
theorem ws_lo16_a : wsmB bW_lo16_a = true := by decide +kernel
def F_lo16 (σ : Nat → Nat) : MF := f1 14348907 6 (fun q M i ln => lowM M i q (lowV σ bW_lo16_a 0) (lowV σ bW_lo16_a 1))
theorem sh_lo16 {S : List Int32} {hp : List XC} {ow : Nat → Nat} {k : Nat} {A : Nat → Nat} {M : HM} {rf : Int32} {np nl i : Nat} {σ : Nat → Nat} (h : HR hp ow k A M rf np nl) (hi : i < 8) (hV : WfV M i) (hC : WfC M i) (hT : WfT M) (hlab : (M.2.2.2.1 i).1 = Int32.ofNat (wg [0, 1, 16, 17] (σ 10))) (hmd : M.2.2.2.2.2.1 + 1 = nSr σ) (hsl : ∀ i, i < 8 → (M.2.2.2.1 i).2.2.2.1.length ≤ 3000) (hshf : M.2.1.length ≤ 3000) (ht : ((M.2.2.2.1 i).2.2.2.2.2.2.2.2.take rt_lo16.length).map Value.int = wtT σ rt_lo16) (hlen : (M.2.2.2.1 i).2.2.2.2.2.2.2.1 = rt_lo16.length) : At S 12 40 0 [(0, .ref (A 0)), (1, .int (Int32.ofNat i))] [] hp 0 0 (QR hp ow k A np nl 99 50000 (fun r => F_lo16 σ (M1l M i) i (wg [0, 1, 16, 17] (σ 10)) r)) := by
  have hSt : StT M.2.2.2.2.2.2 M.1 := hV.2.2.2.1
  cases htn : tnM M (M.2.2.2.1 i).1 14348907 with
  | none =>
    exact r_none h hi hSt hlab ht hlen rd_lo16 wr_lo16 bd_lo16_n wb_lo16_n ws_lo16_n (fun p hp => by rw [List.mem_singleton.mp hp]; exact ⟨rfl, 14348907, fun _ _ => rfl, htn⟩) (fun h4 ρ ω' hR hω h17 hW => At.mono (v_flt hR hi (l1_lab.trans hlab) (wgl_64 _) (by decide)) (fun o ho => (ho.mono (by decide) (by decide)).imp (fun r hr => f1_none htn hr)))
  | some t =>
    obtain ⟨q, hq, hqt, hts, hqn, hqb, -⟩ := h.found hSt htn
    have tx := hT.a hq hqn
    refine r_a h hi hSt hlab ht hlen rd_lo16 wr_lo16 bd_lo16_a wb_lo16_a ws_lo16_a hq (by rw [hqt]; exact hts) tx (fun p hp => by rw [List.mem_singleton.mp hp]; exact ⟨14348907, fun _ _ => rfl, Or.inr ⟨rfl, by rw [hqt]; exact htn⟩⟩) (fun h4 ρ ω' hR hω h17 hW h18 => At.mono (v_low hR hi (l1_lab.trans hlab) (wgl_64 _) hV.l1 hW (by decide +kernel) hq h18) (fun o ho => (ho.mono (by decide) (by decide)).imp (fun r hr => f1_some htn hq hqt ?_)))
    exact hr
theorem wr_geach : wrB rt_geach rW_geach 4294967295 = true := by decide +kernel
theorem wb_geach_n : wfrB (List.range 17) (rW_geach.take 15 ++ (wM0 ++ [])) bW_geach_n = true := by decide +kernel
theorem ws_geach_n : wsmB bW_geach_n = true := by decide +kernel
theorem wb_geach_a : wfrB (List.range 17) (rW_geach.take 15 ++ (wM0 ++ bT0)) bW_geach_a = true := by decide +kernel
theorem ws_geach_a : wsmB bW_geach_a = true := by decide +kernel
theorem wb_geach_b : wfrB (List.range 17) (rW_geach.take 15 ++ (wM0 ++ bT1)) bW_geach_b = true := by decide +kernel
theorem ws_geach_b : wsmB bW_geach_b = true := by decide +kernel
def F_geach (σ : Nat → Nat) : MF := f1 (Int32.ofNat (wg [14348907, 28697814] (σ 9))) 24 (fun q M i ln => getM M i 3 999999999 (nmC q (q0B none (bI (decide ((0 : Nat) = 14))) 150 3 (wif0 bW_geach_a) (wif1 bW_geach_a) (wits bW_geach_a) (wkd bW_geach_a) (wfr bW_geach_a) (wos σ bW_geach_a) (gthE true (vwE M i) (lookE (TIq M.2.2.2.2.2.2) (vwE M i) (M.2.2.2.1 i).1) q.2.1 (M.2.2.2.1 i).1)) (q0B none (bI (decide ((0 : Nat) = 14))) 150 3 (wif0 bW_geach_b) (wif1 bW_geach_b) (wits bW_geach_b) (wkd bW_geach_b) (wfr bW_geach_b) (wos σ bW_geach_b) (gthE true (vwE M i) (lookE (TIq M.2.2.2.2.2.2) (vwE M i) (M.2.2.2.1 i).1) q.2.1 (M.2.2.2.1 i).1))))
theorem sh_geach {S : List Int32} {hp : List XC} {ow : Nat → Nat} {k : Nat} {A : Nat → Nat} {M : HM} {rf : Int32} {np nl i : Nat} {σ : Nat → Nat} (h : HR hp ow k A M rf np nl) (hi : i < 8) (hV : WfV M i) (hC : WfC M i) (hT : WfT M) (hlab : (M.2.2.2.1 i).1 = Int32.ofNat (wg [0, 1, 16, 17] (σ 10))) (hmd : M.2.2.2.2.2.1 + 1 = nSr σ) (hsl : ∀ i, i < 8 → (M.2.2.2.1 i).2.2.2.1.length ≤ 3000) (hshf : M.2.1.length ≤ 3000) (ht : ((M.2.2.2.1 i).2.2.2.2.2.2.2.2.take rt_geach.length).map Value.int = wtT σ rt_geach) (hlen : (M.2.2.2.1 i).2.2.2.2.2.2.2.1 = rt_geach.length) : At S 12 40 0 [(0, .ref (A 0)), (1, .int (Int32.ofNat i))] [] hp 0 0 (QR hp ow k A np nl 99 50000 (fun r => F_geach σ (M1l M i) i (wg [0, 1, 16, 17] (σ 10)) r)) := by
  have hSt : StT M.2.2.2.2.2.2 M.1 := hV.2.2.2.1
  cases htn : tnM M (M.2.2.2.1 i).1 (Int32.ofNat (wg [14348907, 28697814] (σ 9))) with
  | none =>
    exact r_none h hi hSt hlab ht hlen rd_geach wr_geach bd_geach_n wb_geach_n ws_geach_n (fun p hp => by rw [List.mem_singleton.mp hp]; exact ⟨rfl, (Int32.ofNat (wg [14348907, 28697814] (σ 9))), fun _ _ => rfl, htn⟩) (fun h4 ρ ω' hR hω h17 hW => At.mono (v_flt hR hi (l1_lab.trans hlab) (wgl_64 _) (by decide)) (fun o ho => (ho.mono (by decide) (by decide)).imp (fun r hr => f1_none htn hr)))
  | some t =>
    obtain ⟨q, hq, hqt, hts, hqn, hqb, -⟩ := h.found hSt htn
    rcases hT q hq with tx | tx
    · skip
      refine r_a h hi hSt hlab ht hlen rd_geach wr_geach bd_geach_a wb_geach_a ws_geach_a hq (by rw [hqt]; exact hts) tx (fun p hp => by rw [List.mem_singleton.mp hp]; exact ⟨(Int32.ofNat (wg [14348907, 28697814] (σ 9))), fun _ _ => rfl, Or.inr ⟨rfl, by rw [hqt]; exact htn⟩⟩) (fun h4 ρ ω' hR hω h17 hW h18 => At.mono (v_0B (b := true) (w := 3) hR hi (l1_lab.trans hlab) (wgl_64 _) hV.l1 hW hq h18 (by decide +kernel) (by decide +kernel) (by decide +kernel) (by decide +kernel) (by decide +kernel) (by decide +kernel)) (fun o ho => (ho.mono (by decide) (by decide)).imp (fun r hr => f1_some htn hq hqt ?_)))
      simp only [nmC_a tx]
      exact hr
    · skip
      refine r_b h hi hSt hlab ht hlen rd_geach wr_geach bd_geach_b wb_geach_b ws_geach_b hq (by rw [hqt]; exact hts) tx (fun p hp => by rw [List.mem_singleton.mp hp]; exact ⟨(Int32.ofNat (wg [14348907, 28697814] (σ 9))), fun _ _ => rfl, Or.inr ⟨rfl, by rw [hqt]; exact htn⟩⟩) (fun h4 ρ ω' hR hω h17 hW h18 => At.mono (v_0B (b := true) (w := 3) hR hi (l1_lab.trans hlab) (wgl_64 _) hV.l1 hW hq h18 (by decide +kernel) (by decide +kernel) (by decide +kernel) (by decide +kernel) (by decide +kernel) (by decide +kernel)) (fun o ho => (ho.mono (by decide) (by decide)).imp (fun r hr => f1_some htn hq hqt ?_)))
      simp only [nmC_b tx]
      exact hr
theorem wr_gjoin : wrB rt_gjoin rW_gjoin 4294967295 = true := by decide +kernel
theorem wb_gjoin_nn : wfrB (List.range 17) (rW_gjoin.take 15 ++ (wM0 ++ [])) bW_gjoin_nn = true := by decide +kernel
theorem ws_gjoin_nn : wsmB bW_gjoin_nn = true := by decide +kernel
theorem wb_gjoin_na : wfrB (List.range 17) (rW_gjoin.take 15 ++ (wM0 ++ bT0)) bW_gjoin_na = true := by decide +kernel
theorem ws_gjoin_na : wsmB bW_gjoin_na = true := by decide +kernel
theorem wb_gjoin_bn : wfrB (List.range 17) (rW_gjoin.take 15 ++ (wM0 ++ bT1)) bW_gjoin_bn = true := by decide +kernel
theorem ws_gjoin_bn : wsmB bW_gjoin_bn = true := by decide +kernel
theorem wb_gjoin_ba : wfrB (List.range 17) (rW_gjoin.take 15 ++ (wM0 ++ bT2)) bW_gjoin_ba = true := by decide +kernel
theorem ws_gjoin_ba : wsmB bW_gjoin_ba = true := by decide +kernel
def F_gjoin (σ : Nat → Nat) : MF := f2 28697814 14348907 11 18 (fun q q2 M i ln => getM M i 1 999999999 (qJB none (bI (decide ((0 : Nat) = 14))) 150 1 (wif0 bW_gjoin_ba) (wif1 bW_gjoin_ba) (wits bW_gjoin_ba) (wkd bW_gjoin_ba) (wfr bW_gjoin_ba) (wos σ bW_gjoin_ba) (Int32.ofNat 1) (Int32.ofNat 0) (gthE false (vwE M i) (lookE (TIq M.2.2.2.2.2.2) (vwE M i) (M.2.2.2.1 i).1) q.2.1 (M.2.2.2.1 i).1) (gthE false (vwE M i) (lookE (TIq M.2.2.2.2.2.2) (vwE M i) (M.2.2.2.1 i).1) q2.2.1 (M.2.2.2.1 i).1)))
theorem sh_gjoin {S : List Int32} {hp : List XC} {ow : Nat → Nat} {k : Nat} {A : Nat → Nat} {M : HM} {rf : Int32} {np nl i : Nat} {σ : Nat → Nat} (h : HR hp ow k A M rf np nl) (hi : i < 8) (hV : WfV M i) (hC : WfC M i) (hT : WfT M) (hlab : (M.2.2.2.1 i).1 = Int32.ofNat (wg [0, 1, 16, 17] (σ 10))) (hmd : M.2.2.2.2.2.1 + 1 = nSr σ) (hsl : ∀ i, i < 8 → (M.2.2.2.1 i).2.2.2.1.length ≤ 3000) (hshf : M.2.1.length ≤ 3000) (ht : ((M.2.2.2.1 i).2.2.2.2.2.2.2.2.take rt_gjoin.length).map Value.int = wtT σ rt_gjoin) (hlen : (M.2.2.2.1 i).2.2.2.2.2.2.2.1 = rt_gjoin.length) : At S 12 40 0 [(0, .ref (A 0)), (1, .int (Int32.ofNat i))] [] hp 0 0 (QR hp ow k A np nl 99 50000 (fun r => F_gjoin σ (M1l M i) i (wg [0, 1, 16, 17] (σ 10)) r)) := by
  have hSt : StT M.2.2.2.2.2.2 M.1 := hV.2.2.2.1
  cases htn : tnM M (M.2.2.2.1 i).1 28697814 with
  | none =>
    cases htm : tnM M (M.2.2.2.1 i).1 14348907 with
    | none =>
      exact r_none h hi hSt hlab ht hlen rd_gjoin wr_gjoin bd_gjoin_nn wb_gjoin_nn ws_gjoin_nn (List.forall_mem_cons.mpr ⟨⟨rfl, 28697814, fun _ _ => rfl, htn⟩, List.forall_mem_singleton.mpr ⟨rfl, 14348907, fun _ _ => rfl, htm⟩⟩) (fun h4 ρ ω' hR hω h17 hW => At.mono (v_flt hR hi (l1_lab.trans hlab) (wgl_64 _) (by decide)) (fun o ho => (ho.mono (by decide) (by decide)).imp (fun r hr => f2_none htn hr)))
    | some t =>
      obtain ⟨q, hq, hqt, hts, hqn, hqb, -⟩ := h.found hSt htm
      exact r_a h hi hSt hlab ht hlen rd_gjoin wr_gjoin bd_gjoin_na wb_gjoin_na ws_gjoin_na hq (by rw [hqt]; exact hts) (hT.a hq hqn) (List.forall_mem_cons.mpr ⟨⟨28697814, fun _ _ => rfl, Or.inl ⟨rfl, htn⟩⟩, List.forall_mem_singleton.mpr ⟨14348907, fun _ _ => rfl, Or.inr ⟨rfl, by rw [hqt]; exact htm⟩⟩⟩) (fun h4 ρ ω' hR hω h17 hW _ => At.mono (v_flt hR hi (l1_lab.trans hlab) (wgl_64 _) (by decide)) (fun o ho => (ho.mono (by decide) (by decide)).imp (fun r hr => f2_none htn hr)))
  | some t =>
    obtain ⟨q, hq, hqt, hts, hqn, hqb, -⟩ := h.found hSt htn
    have tb := hT.b hq hqn
    cases htm : tnM M (M.2.2.2.1 i).1 14348907 with
    | none =>
      exact r_b h hi hSt hlab ht hlen rd_gjoin wr_gjoin bd_gjoin_bn wb_gjoin_bn ws_gjoin_bn hq (by rw [hqt]; exact hts) tb (List.forall_mem_cons.mpr ⟨⟨28697814, fun _ _ => rfl, Or.inr ⟨rfl, by rw [hqt]; exact htn⟩⟩, List.forall_mem_singleton.mpr ⟨14348907, fun _ _ => rfl, Or.inl ⟨rfl, htm⟩⟩⟩) (fun h4 ρ ω' hR hω h17 hW _ => At.mono (v_flt hR hi (l1_lab.trans hlab) (wgl_64 _) (by decide)) (fun o ho => (ho.mono (by decide) (by decide)).imp (fun r hr => f2_sn htn htm hr)))
    | some t2 =>
      obtain ⟨q2, hq2, hqt2, hts2, hqn2, hqb2, -⟩ := h.found hSt htm
      have ta := hT.a hq2 hqn2
      have hne : q.1.1 ≠ q2.1.1 := fun e => by
        have htd : ∀ p ∈ M.2.2.2.2.2.2, ∀ q ∈ M.2.2.2.2.2.2, p.1.1 = q.1.1 ∨ p.1.2.1 = q.1.2.1 → p = q := h.2.2.2.2.2.2.2.2.2.2.2.2.2.2.2.2.1
        have e2 := htd q hq q2 hq2 (Or.inl e)
        rw [e2, hqn2] at hqn
        exact absurd hqn (by decide)
      exact r_ba h hi hSt hlab ht hlen rd_gjoin wr_gjoin bd_gjoin_ba wb_gjoin_ba ws_gjoin_ba hq hq2 tb ta hne (List.forall_mem_cons.mpr ⟨⟨28697814, fun _ _ => rfl, Or.inl ⟨rfl, by rw [hqt]; exact htn⟩⟩, List.forall_mem_singleton.mpr ⟨14348907, fun _ _ => rfl, Or.inr ⟨rfl, by rw [hqt2]; exact htm⟩⟩⟩) (fun h4 ρ ω' hR hω h17 hW h18 h22 => At.mono (v_JB (b := false) (w := 1) (j := 5) (fc := 1) (sc := 0) hR hi (l1_lab.trans hlab) (wgl_64 _) hV.l1 hW hq h18 (by decide +kernel) (by decide +kernel) (by decide +kernel) (by decide +kernel) (by decide +kernel) hq2 h22 (by decide +kernel) (WfC.gg hC.l1)) (fun o ho => (ho.mono (by decide) (by decide)).imp (fun r hr => f2_ss htn htm hq hq2 hqt hqt2 hr)))
theorem wr_gby : wrB rt_gby rW_gby 4294967295 = true := by decide +kernel
theorem wb_gby_n : wfrB (List.range 17) (rW_gby.take 15 ++ (wM0 ++ [])) bW_gby_n = true := by decide +kernel
theorem ws_gby_n : wsmB bW_gby_n = true := by decide +kernel
theorem wb_gby_a : wfrB (List.range 17) (rW_gby.take 15 ++ (wM0 ++ bT0)) bW_gby_a = true := by decide +kernel
theorem ws_gby_a : wsmB bW_gby_a = true := by decide +kernel
theorem wb_gby_b : wfrB (List.range 17) (rW_gby.take 15 ++ (wM0 ++ bT1)) bW_gby_b = true := by decide +kernel
theorem ws_gby_b : wsmB bW_gby_b = true := by decide +kernel
def F_gby (σ : Nat → Nat) : MF := f1 (Int32.ofNat (wg [14348907, 28697814] (σ 9))) 25 (fun q M i ln => getM M i 3 (Int32.ofNat (wg [0, 1, 2, 3] (σ 6))) (nmC q (q0N none (bI (decide ((0 : Nat) = 14))) (wg [0, 1, 2, 3] (σ 6)) 3 (wif0 bW_gby_a) (wif1 bW_gby_a) (wits bW_gby_a) 1 (wkd bW_gby_a) (wfr bW_gby_a) (wos σ bW_gby_a) (gthE false (vwE M i) (lookE (TIq M.2.2.2.2.2.2) (vwE M i) (M.2.2.2.1 i).1) q.2.1 (M.2.2.2.1 i).1)) (q0N none (bI (decide ((0 : Nat) = 14))) (wg [0, 1, 2, 3] (σ 6)) 3 (wif0 bW_gby_b) (wif1 bW_gby_b) (wits bW_gby_b) 2 (wkd bW_gby_b) (wfr bW_gby_b) (wos σ bW_gby_b) (gthE false (vwE M i) (lookE (TIq M.2.2.2.2.2.2) (vwE M i) (M.2.2.2.1 i).1) q.2.1 (M.2.2.2.1 i).1))))
theorem sh_gby {S : List Int32} {hp : List XC} {ow : Nat → Nat} {k : Nat} {A : Nat → Nat} {M : HM} {rf : Int32} {np nl i : Nat} {σ : Nat → Nat} (h : HR hp ow k A M rf np nl) (hi : i < 8) (hV : WfV M i) (hC : WfC M i) (hT : WfT M) (hlab : (M.2.2.2.1 i).1 = Int32.ofNat (wg [0, 1, 16, 17] (σ 10))) (hmd : M.2.2.2.2.2.1 + 1 = nSr σ) (hsl : ∀ i, i < 8 → (M.2.2.2.1 i).2.2.2.1.length ≤ 3000) (hshf : M.2.1.length ≤ 3000) (ht : ((M.2.2.2.1 i).2.2.2.2.2.2.2.2.take rt_gby.length).map Value.int = wtT σ rt_gby) (hlen : (M.2.2.2.1 i).2.2.2.2.2.2.2.1 = rt_gby.length) : At S 12 40 0 [(0, .ref (A 0)), (1, .int (Int32.ofNat i))] [] hp 0 0 (QR hp ow k A np nl 99 50000 (fun r => F_gby σ (M1l M i) i (wg [0, 1, 16, 17] (σ 10)) r)) := by
  have hSt : StT M.2.2.2.2.2.2 M.1 := hV.2.2.2.1
  cases htn : tnM M (M.2.2.2.1 i).1 (Int32.ofNat (wg [14348907, 28697814] (σ 9))) with
  | none =>
    exact r_none h hi hSt hlab ht hlen rd_gby wr_gby bd_gby_n wb_gby_n ws_gby_n (fun p hp => by rw [List.mem_singleton.mp hp]; exact ⟨rfl, (Int32.ofNat (wg [14348907, 28697814] (σ 9))), fun _ _ => rfl, htn⟩) (fun h4 ρ ω' hR hω h17 hW => At.mono (v_flt hR hi (l1_lab.trans hlab) (wgl_64 _) (by decide)) (fun o ho => (ho.mono (by decide) (by decide)).imp (fun r hr => f1_none htn hr)))
  | some t =>
    obtain ⟨q, hq, hqt, hts, hqn, hqb, -⟩ := h.found hSt htn
    rcases hT q hq with tx | tx
    · skip
      refine r_a h hi hSt hlab ht hlen rd_gby wr_gby bd_gby_a wb_gby_a ws_gby_a hq (by rw [hqt]; exact hts) tx (fun p hp => by rw [List.mem_singleton.mp hp]; exact ⟨(Int32.ofNat (wg [14348907, 28697814] (σ 9))), fun _ _ => rfl, Or.inr ⟨rfl, by rw [hqt]; exact htn⟩⟩) (fun h4 ρ ω' hR hω h17 hW h18 => At.mono (v_0NT (col := 1) (o2 := 14) (kt := (wg [0, 1, 2, 3] (σ 6))) (b := false) (w := 3) hR hi (l1_lab.trans hlab) (wgl_64 _) hV.l1 hW hq h18 (by decide +kernel) (by decide +kernel) rfl (by have := wg4_3 (σ 6); omega) (by decide +kernel) (by decide +kernel) (by decide +kernel) (by decide +kernel)) (fun o ho => (ho.mono (by decide) (by decide)).imp (fun r hr => f1_some htn hq hqt ?_)))
      simp only [nmC_a tx]
      exact hr
    · skip
      refine r_b h hi hSt hlab ht hlen rd_gby wr_gby bd_gby_b wb_gby_b ws_gby_b hq (by rw [hqt]; exact hts) tx (fun p hp => by rw [List.mem_singleton.mp hp]; exact ⟨(Int32.ofNat (wg [14348907, 28697814] (σ 9))), fun _ _ => rfl, Or.inr ⟨rfl, by rw [hqt]; exact htn⟩⟩) (fun h4 ρ ω' hR hω h17 hW h18 => At.mono (v_0NT (col := 2) (o2 := 14) (kt := (wg [0, 1, 2, 3] (σ 6))) (b := false) (w := 3) hR hi (l1_lab.trans hlab) (wgl_64 _) hV.l1 hW hq h18 (by decide +kernel) (by decide +kernel) rfl (by have := wg4_3 (σ 6); omega) (by decide +kernel) (by decide +kernel) (by decide +kernel) (by decide +kernel)) (fun o ho => (ho.mono (by decide) (by decide)).imp (fun r hr => f1_some htn hq hqt ?_)))
      simp only [nmC_b tx]
      exact hr
theorem wr_glab : wrB rt_glab rW_glab 4294967295 = true := by decide +kernel
theorem wb_glab_n : wfrB (List.range 17) (rW_glab.take 15 ++ (wM0 ++ [])) bW_glab_n = true := by decide +kernel
theorem ws_glab_n : wsmB bW_glab_n = true := by decide +kernel
theorem wb_glab_a : wfrB (List.range 17) (rW_glab.take 15 ++ (wM0 ++ bT0)) bW_glab_a = true := by decide +kernel
theorem ws_glab_a : wsmB bW_glab_a = true := by decide +kernel
theorem wb_glab_b : wfrB (List.range 17) (rW_glab.take 15 ++ (wM0 ++ bT1)) bW_glab_b = true := by decide +kernel
theorem ws_glab_b : wsmB bW_glab_b = true := by decide +kernel
def F_glab (σ : Nat → Nat) : MF := f1 (Int32.ofNat (wg [14348907, 28697814] (σ 9))) 15 (fun q M i ln => getM M i 1 999999999 (nmC q (q0B none (bI (decide ((0 : Nat) = 14))) 150 1 (wif0 bW_glab_a) (wif1 bW_glab_a) (wits bW_glab_a) (wkd bW_glab_a) (wfr bW_glab_a) (wos σ bW_glab_a) (gthE false (vwE M i) (lookE (TIq M.2.2.2.2.2.2) (vwE M i) (M.2.2.2.1 i).1) q.2.1 (M.2.2.2.1 i).1)) (q0B none (bI (decide ((0 : Nat) = 14))) 150 1 (wif0 bW_glab_b) (wif1 bW_glab_b) (wits bW_glab_b) (wkd bW_glab_b) (wfr bW_glab_b) (wos σ bW_glab_b) (gthE false (vwE M i) (lookE (TIq M.2.2.2.2.2.2) (vwE M i) (M.2.2.2.1 i).1) q.2.1 (M.2.2.2.1 i).1))))
theorem sh_glab {S : List Int32} {hp : List XC} {ow : Nat → Nat} {k : Nat} {A : Nat → Nat} {M : HM} {rf : Int32} {np nl i : Nat} {σ : Nat → Nat} (h : HR hp ow k A M rf np nl) (hi : i < 8) (hV : WfV M i) (hC : WfC M i) (hT : WfT M) (hlab : (M.2.2.2.1 i).1 = Int32.ofNat (wg [0, 1, 16, 17] (σ 10))) (hmd : M.2.2.2.2.2.1 + 1 = nSr σ) (hsl : ∀ i, i < 8 → (M.2.2.2.1 i).2.2.2.1.length ≤ 3000) (hshf : M.2.1.length ≤ 3000) (ht : ((M.2.2.2.1 i).2.2.2.2.2.2.2.2.take rt_glab.length).map Value.int = wtT σ rt_glab) (hlen : (M.2.2.2.1 i).2.2.2.2.2.2.2.1 = rt_glab.length) : At S 12 40 0 [(0, .ref (A 0)), (1, .int (Int32.ofNat i))] [] hp 0 0 (QR hp ow k A np nl 99 50000 (fun r => F_glab σ (M1l M i) i (wg [0, 1, 16, 17] (σ 10)) r)) := by
  have hSt : StT M.2.2.2.2.2.2 M.1 := hV.2.2.2.1
  cases htn : tnM M (M.2.2.2.1 i).1 (Int32.ofNat (wg [14348907, 28697814] (σ 9))) with
  | none =>
    exact r_none h hi hSt hlab ht hlen rd_glab wr_glab bd_glab_n wb_glab_n ws_glab_n (fun p hp => by rw [List.mem_singleton.mp hp]; exact ⟨rfl, (Int32.ofNat (wg [14348907, 28697814] (σ 9))), fun _ _ => rfl, htn⟩) (fun h4 ρ ω' hR hω h17 hW => At.mono (v_flt hR hi (l1_lab.trans hlab) (wgl_64 _) (by decide)) (fun o ho => (ho.mono (by decide) (by decide)).imp (fun r hr => f1_none htn hr)))
  | some t =>
    obtain ⟨q, hq, hqt, hts, hqn, hqb, -⟩ := h.found hSt htn
    rcases hT q hq with tx | tx
    · skip
      refine r_a h hi hSt hlab ht hlen rd_glab wr_glab bd_glab_a wb_glab_a ws_glab_a hq (by rw [hqt]; exact hts) tx (fun p hp => by rw [List.mem_singleton.mp hp]; exact ⟨(Int32.ofNat (wg [14348907, 28697814] (σ 9))), fun _ _ => rfl, Or.inr ⟨rfl, by rw [hqt]; exact htn⟩⟩) (fun h4 ρ ω' hR hω h17 hW h18 => At.mono (v_0B (b := false) (w := 1) hR hi (l1_lab.trans hlab) (wgl_64 _) hV.l1 hW hq h18 (by decide +kernel) (by decide +kernel) (by decide +kernel) (by decide +kernel) (by decide +kernel) (by decide +kernel)) (fun o ho => (ho.mono (by decide) (by decide)).imp (fun r hr => f1_some htn hq hqt ?_)))
      simp only [nmC_a tx]
      exact hr
    · skip
      refine r_b h hi hSt hlab ht hlen rd_glab wr_glab bd_glab_b wb_glab_b ws_glab_b hq (by rw [hqt]; exact hts) tx (fun p hp => by rw [List.mem_singleton.mp hp]; exact ⟨(Int32.ofNat (wg [14348907, 28697814] (σ 9))), fun _ _ => rfl, Or.inr ⟨rfl, by rw [hqt]; exact htn⟩⟩) (fun h4 ρ ω' hR hω h17 hW h18 => At.mono (v_0B (b := false) (w := 1) hR hi (l1_lab.trans hlab) (wgl_64 _) hV.l1 hW hq h18 (by decide +kernel) (by decide +kernel) (by decide +kernel) (by decide +kernel) (by decide +kernel) (by decide +kernel)) (fun o ho => (ho.mono (by decide) (by decide)).imp (fun r hr => f1_some htn hq hqt ?_)))
      simp only [nmC_b tx]
      exact hr
theorem wr_m1 : wrB rt_m1 rW_m1 4294967295 = true := by decide +kernel
theorem wb_m1_n : wfrB (List.range 17) (rW_m1.take 15 ++ (wM0 ++ [])) bW_m1_n = true := by decide +kernel
theorem ws_m1_n : wsmB bW_m1_n = true := by decide +kernel
theorem wb_m1_b : wfrB (List.range 17) (rW_m1.take 15 ++ (wM0 ++ bT1)) bW_m1_b = true := by decide +kernel
theorem ws_m1_b : wsmB bW_m1_b = true := by decide +kernel
def F_m1 (σ : Nat → Nat) : MF := f1 28697814 11 (fun q M i ln => getM M i 1 999999999 (q0B none (bI (decide ((0 : Nat) = 14))) 150 1 (wif0 bW_m1_b) (wif1 bW_m1_b) (wits bW_m1_b) (wkd bW_m1_b) (wfr bW_m1_b) (wos σ bW_m1_b) (gthE false (vwE M i) (lookE (TIq M.2.2.2.2.2.2) (vwE M i) (M.2.2.2.1 i).1) q.2.1 (M.2.2.2.1 i).1)))
theorem sh_m1 {S : List Int32} {hp : List XC} {ow : Nat → Nat} {k : Nat} {A : Nat → Nat} {M : HM} {rf : Int32} {np nl i : Nat} {σ : Nat → Nat} (h : HR hp ow k A M rf np nl) (hi : i < 8) (hV : WfV M i) (hC : WfC M i) (hT : WfT M) (hlab : (M.2.2.2.1 i).1 = Int32.ofNat (wg [0, 1, 16, 17] (σ 10))) (hmd : M.2.2.2.2.2.1 + 1 = nSr σ) (hsl : ∀ i, i < 8 → (M.2.2.2.1 i).2.2.2.1.length ≤ 3000) (hshf : M.2.1.length ≤ 3000) (ht : ((M.2.2.2.1 i).2.2.2.2.2.2.2.2.take rt_m1.length).map Value.int = wtT σ rt_m1) (hlen : (M.2.2.2.1 i).2.2.2.2.2.2.2.1 = rt_m1.length) : At S 12 40 0 [(0, .ref (A 0)), (1, .int (Int32.ofNat i))] [] hp 0 0 (QR hp ow k A np nl 99 50000 (fun r => F_m1 σ (M1l M i) i (wg [0, 1, 16, 17] (σ 10)) r)) := by
  have hSt : StT M.2.2.2.2.2.2 M.1 := hV.2.2.2.1
  cases htn : tnM M (M.2.2.2.1 i).1 28697814 with
  | none =>
    exact r_none h hi hSt hlab ht hlen rd_m1 wr_m1 bd_m1_n wb_m1_n ws_m1_n (fun p hp => by rw [List.mem_singleton.mp hp]; exact ⟨rfl, 28697814, fun _ _ => rfl, htn⟩) (fun h4 ρ ω' hR hω h17 hW => At.mono (v_flt hR hi (l1_lab.trans hlab) (wgl_64 _) (by decide)) (fun o ho => (ho.mono (by decide) (by decide)).imp (fun r hr => f1_none htn hr)))
  | some t =>
    obtain ⟨q, hq, hqt, hts, hqn, hqb, -⟩ := h.found hSt htn
    have tx := hT.b hq hqn
    refine r_b h hi hSt hlab ht hlen rd_m1 wr_m1 bd_m1_b wb_m1_b ws_m1_b hq (by rw [hqt]; exact hts) tx (fun p hp => by rw [List.mem_singleton.mp hp]; exact ⟨28697814, fun _ _ => rfl, Or.inr ⟨rfl, by rw [hqt]; exact htn⟩⟩) (fun h4 ρ ω' hR hω h17 hW h18 => At.mono (v_0B (b := false) (w := 1) hR hi (l1_lab.trans hlab) (wgl_64 _) hV.l1 hW hq h18 (by decide +kernel) (by decide +kernel) (by decide +kernel) (by decide +kernel) (by decide +kernel) (by decide +kernel)) (fun o ho => (ho.mono (by decide) (by decide)).imp (fun r hr => f1_some htn hq hqt ?_)))
    exact hr
theorem wr_m2 : wrB rt_m2 rW_m2 4294967295 = true := by decide +kernel
theorem wb_m2_nn : wfrB (List.range 17) (rW_m2.take 15 ++ (wM0 ++ [])) bW_m2_nn = true := by decide +kernel
theorem ws_m2_nn : wsmB bW_m2_nn = true := by decide +kernel
theorem wb_m2_na : wfrB (List.range 17) (rW_m2.take 15 ++ (wM0 ++ bT0)) bW_m2_na = true := by decide +kernel
theorem ws_m2_na : wsmB bW_m2_na = true := by decide +kernel
theorem wb_m2_bn : wfrB (List.range 17) (rW_m2.take 15 ++ (wM0 ++ bT1)) bW_m2_bn = true := by decide +kernel
theorem ws_m2_bn : wsmB bW_m2_bn = true := by decide +kernel
theorem wb_m2_ba : wfrB (List.range 17) (rW_m2.take 15 ++ (wM0 ++ bT2)) bW_m2_ba = true := by decide +kernel
theorem ws_m2_ba : wsmB bW_m2_ba = true := by decide +kernel
def F_m2 (σ : Nat → Nat) : MF := f2 28697814 14348907 17 24 (fun q q2 M i ln => getM M i 2 999999999 (qJN none (bI (decide ((0 : Nat) = 14))) 150 2 (wif0 bW_m2_ba) (wif1 bW_m2_ba) (wits bW_m2_ba) 1 (wkd bW_m2_ba) (wfr bW_m2_ba) (wos σ bW_m2_ba) (Int32.ofNat 1) (Int32.ofNat 0) (gthE false (vwE M i) (lookE (TIq M.2.2.2.2.2.2) (vwE M i) (M.2.2.2.1 i).1) q.2.1 (M.2.2.2.1 i).1) (gthE false (vwE M i) (lookE (TIq M.2.2.2.2.2.2) (vwE M i) (M.2.2.2.1 i).1) q2.2.1 (M.2.2.2.1 i).1)))
theorem sh_m2 {S : List Int32} {hp : List XC} {ow : Nat → Nat} {k : Nat} {A : Nat → Nat} {M : HM} {rf : Int32} {np nl i : Nat} {σ : Nat → Nat} (h : HR hp ow k A M rf np nl) (hi : i < 8) (hV : WfV M i) (hC : WfC M i) (hT : WfT M) (hlab : (M.2.2.2.1 i).1 = Int32.ofNat (wg [0, 1, 16, 17] (σ 10))) (hmd : M.2.2.2.2.2.1 + 1 = nSr σ) (hsl : ∀ i, i < 8 → (M.2.2.2.1 i).2.2.2.1.length ≤ 3000) (hshf : M.2.1.length ≤ 3000) (ht : ((M.2.2.2.1 i).2.2.2.2.2.2.2.2.take rt_m2.length).map Value.int = wtT σ rt_m2) (hlen : (M.2.2.2.1 i).2.2.2.2.2.2.2.1 = rt_m2.length) : At S 12 40 0 [(0, .ref (A 0)), (1, .int (Int32.ofNat i))] [] hp 0 0 (QR hp ow k A np nl 99 50000 (fun r => F_m2 σ (M1l M i) i (wg [0, 1, 16, 17] (σ 10)) r)) := by
  have hSt : StT M.2.2.2.2.2.2 M.1 := hV.2.2.2.1
  cases htn : tnM M (M.2.2.2.1 i).1 28697814 with
  | none =>
    cases htm : tnM M (M.2.2.2.1 i).1 14348907 with
    | none =>
      exact r_none h hi hSt hlab ht hlen rd_m2 wr_m2 bd_m2_nn wb_m2_nn ws_m2_nn (List.forall_mem_cons.mpr ⟨⟨rfl, 28697814, fun _ _ => rfl, htn⟩, List.forall_mem_singleton.mpr ⟨rfl, 14348907, fun _ _ => rfl, htm⟩⟩) (fun h4 ρ ω' hR hω h17 hW => At.mono (v_flt hR hi (l1_lab.trans hlab) (wgl_64 _) (by decide)) (fun o ho => (ho.mono (by decide) (by decide)).imp (fun r hr => f2_none htn hr)))
    | some t =>
      obtain ⟨q, hq, hqt, hts, hqn, hqb, -⟩ := h.found hSt htm
      exact r_a h hi hSt hlab ht hlen rd_m2 wr_m2 bd_m2_na wb_m2_na ws_m2_na hq (by rw [hqt]; exact hts) (hT.a hq hqn) (List.forall_mem_cons.mpr ⟨⟨28697814, fun _ _ => rfl, Or.inl ⟨rfl, htn⟩⟩, List.forall_mem_singleton.mpr ⟨14348907, fun _ _ => rfl, Or.inr ⟨rfl, by rw [hqt]; exact htm⟩⟩⟩) (fun h4 ρ ω' hR hω h17 hW _ => At.mono (v_flt hR hi (l1_lab.trans hlab) (wgl_64 _) (by decide)) (fun o ho => (ho.mono (by decide) (by decide)).imp (fun r hr => f2_none htn hr)))
  | some t =>
    obtain ⟨q, hq, hqt, hts, hqn, hqb, -⟩ := h.found hSt htn
    have tb := hT.b hq hqn
    cases htm : tnM M (M.2.2.2.1 i).1 14348907 with
    | none =>
      exact r_b h hi hSt hlab ht hlen rd_m2 wr_m2 bd_m2_bn wb_m2_bn ws_m2_bn hq (by rw [hqt]; exact hts) tb (List.forall_mem_cons.mpr ⟨⟨28697814, fun _ _ => rfl, Or.inr ⟨rfl, by rw [hqt]; exact htn⟩⟩, List.forall_mem_singleton.mpr ⟨14348907, fun _ _ => rfl, Or.inl ⟨rfl, htm⟩⟩⟩) (fun h4 ρ ω' hR hω h17 hW _ => At.mono (v_flt hR hi (l1_lab.trans hlab) (wgl_64 _) (by decide)) (fun o ho => (ho.mono (by decide) (by decide)).imp (fun r hr => f2_sn htn htm hr)))
    | some t2 =>
      obtain ⟨q2, hq2, hqt2, hts2, hqn2, hqb2, -⟩ := h.found hSt htm
      have ta := hT.a hq2 hqn2
      have hne : q.1.1 ≠ q2.1.1 := fun e => by
        have htd : ∀ p ∈ M.2.2.2.2.2.2, ∀ q ∈ M.2.2.2.2.2.2, p.1.1 = q.1.1 ∨ p.1.2.1 = q.1.2.1 → p = q := h.2.2.2.2.2.2.2.2.2.2.2.2.2.2.2.2.1
        have e2 := htd q hq q2 hq2 (Or.inl e)
        rw [e2, hqn2] at hqn
        exact absurd hqn (by decide)
      exact r_ba h hi hSt hlab ht hlen rd_m2 wr_m2 bd_m2_ba wb_m2_ba ws_m2_ba hq hq2 tb ta hne (List.forall_mem_cons.mpr ⟨⟨28697814, fun _ _ => rfl, Or.inl ⟨rfl, by rw [hqt]; exact htn⟩⟩, List.forall_mem_singleton.mpr ⟨14348907, fun _ _ => rfl, Or.inr ⟨rfl, by rw [hqt2]; exact htm⟩⟩⟩) (fun h4 ρ ω' hR hω h17 hW h18 h22 => At.mono (v_JN (b := false) (w := 2) (j := 7) (fc := 1) (sc := 0) (col := 1) hR hi (l1_lab.trans hlab) (wgl_64 _) hV.l1 hW hq h18 (by decide +kernel) (by decide +kernel) (by decide +kernel) (by decide +kernel) (by decide +kernel) hq2 h22 (by decide +kernel) (WfC.gg hC.l1)) (fun o ho => (ho.mono (by decide) (by decide)).imp (fun r hr => f2_ss htn htm hq hq2 hqt hqt2 hr)))
theorem wr_m3 : wrB rt_m3 rW_m3 4294967295 = true := by decide +kernel
theorem wb_m3_n : wfrB (List.range 17) (rW_m3.take 15 ++ (wM0 ++ [])) bW_m3_n = true := by decide +kernel
theorem ws_m3_n : wsmB bW_m3_n = true := by decide +kernel
theorem wb_m3_b : wfrB (List.range 17) (rW_m3.take 15 ++ (wM0 ++ bT1)) bW_m3_b = true := by decide +kernel
theorem ws_m3_b : wsmB bW_m3_b = true := by decide +kernel
def F_m3 (σ : Nat → Nat) : MF := f1 28697814 17 (fun q M i ln => getM M i 2 999999999 (q0N none (bI (decide ((0 : Nat) = 14))) 150 2 (wif0 bW_m3_b) (wif1 bW_m3_b) (wits bW_m3_b) 1 (wkd bW_m3_b) (wfr bW_m3_b) (wos σ bW_m3_b) (gthE false (vwE M i) (lookE (TIq M.2.2.2.2.2.2) (vwE M i) (M.2.2.2.1 i).1) q.2.1 (M.2.2.2.1 i).1)))
theorem sh_m3 {S : List Int32} {hp : List XC} {ow : Nat → Nat} {k : Nat} {A : Nat → Nat} {M : HM} {rf : Int32} {np nl i : Nat} {σ : Nat → Nat} (h : HR hp ow k A M rf np nl) (hi : i < 8) (hV : WfV M i) (hC : WfC M i) (hT : WfT M) (hlab : (M.2.2.2.1 i).1 = Int32.ofNat (wg [0, 1, 16, 17] (σ 10))) (hmd : M.2.2.2.2.2.1 + 1 = nSr σ) (hsl : ∀ i, i < 8 → (M.2.2.2.1 i).2.2.2.1.length ≤ 3000) (hshf : M.2.1.length ≤ 3000) (ht : ((M.2.2.2.1 i).2.2.2.2.2.2.2.2.take rt_m3.length).map Value.int = wtT σ rt_m3) (hlen : (M.2.2.2.1 i).2.2.2.2.2.2.2.1 = rt_m3.length) : At S 12 40 0 [(0, .ref (A 0)), (1, .int (Int32.ofNat i))] [] hp 0 0 (QR hp ow k A np nl 99 50000 (fun r => F_m3 σ (M1l M i) i (wg [0, 1, 16, 17] (σ 10)) r)) := by
  have hSt : StT M.2.2.2.2.2.2 M.1 := hV.2.2.2.1
  cases htn : tnM M (M.2.2.2.1 i).1 28697814 with
  | none =>
    exact r_none h hi hSt hlab ht hlen rd_m3 wr_m3 bd_m3_n wb_m3_n ws_m3_n (fun p hp => by rw [List.mem_singleton.mp hp]; exact ⟨rfl, 28697814, fun _ _ => rfl, htn⟩) (fun h4 ρ ω' hR hω h17 hW => At.mono (v_flt hR hi (l1_lab.trans hlab) (wgl_64 _) (by decide)) (fun o ho => (ho.mono (by decide) (by decide)).imp (fun r hr => f1_none htn hr)))
  | some t =>
    obtain ⟨q, hq, hqt, hts, hqn, hqb, -⟩ := h.found hSt htn
    have tx := hT.b hq hqn
    refine r_b h hi hSt hlab ht hlen rd_m3 wr_m3 bd_m3_b wb_m3_b ws_m3_b hq (by rw [hqt]; exact hts) tx (fun p hp => by rw [List.mem_singleton.mp hp]; exact ⟨28697814, fun _ _ => rfl, Or.inr ⟨rfl, by rw [hqt]; exact htn⟩⟩) (fun h4 ρ ω' hR hω h17 hW h18 => At.mono (v_0N (col := 1) (b := false) (w := 2) hR hi (l1_lab.trans hlab) (wgl_64 _) hV.l1 hW hq h18 (by decide +kernel) (by decide +kernel) (by decide +kernel) (by decide +kernel) (by decide +kernel) (by decide +kernel)) (fun o ho => (ho.mono (by decide) (by decide)).imp (fun r hr => f1_some htn hq hqt ?_)))
    exact hr
