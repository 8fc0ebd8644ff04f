/-! the house: the law's texts are run (written by wip/p27/c999999999990.py) -/
theorem wr_s100 : wrB rt_s100 rW_s100 4294967295 = true := by decide +kernel
theorem wb_s100_n : wfrB (List.range 17) (rW_s100.take 15 ++ (wM0 ++ [])) bW_s100_n = true := by decide +kernel
theorem ws_s100_n : wsmB bW_s100_n = true := by decide +kernel
theorem wb_s100_a : wfrB (List.range 17) (rW_s100.take 15 ++ (wM0 ++ bT0)) bW_s100_a = true := by decide +kernel
theorem ws_s100_a : wsmB bW_s100_a = true := by decide +kernel
theorem wb_s100_b : wfrB (List.range 17) (rW_s100.take 15 ++ (wM0 ++ bT1)) bW_s100_b = true := by decide +kernel
theorem ws_s100_b : wsmB bW_s100_b = true := by decide +kernel
def F_s100 (σ : Nat → Nat) : MF := f1 (Int32.ofNat (wg [14348907, 28697814] (σ 9))) 4 (fun q M i ln => setM M i ln q (nmC q 1 2) (nmC q (fmW σ bW_s100_a) (fmW σ bW_s100_b)) (nmC q (fvW σ bW_s100_a) (fvW σ bW_s100_b)))
theorem sh_s100 {S : List Int32} {hp : List XC} {ow : Nat → Nat} {k : Nat} {A : Nat → Nat} {M : HM} {rf : Int32} {np nl i : Nat} {σ : Nat → Nat} (h : HR hp ow k A M rf np nl) (hi : i < 8) (hV : WfV M i) (hC : WfC M i) (hT : WfT M) (hlab : (M.2.2.2.1 i).1 = Int32.ofNat (wg [0, 1, 16, 17] (σ 10))) (hmd : M.2.2.2.2.2.1 + 1 = nSr σ) (hsl : ∀ i, i < 8 → (M.2.2.2.1 i).2.2.2.1.length ≤ 3000) (hshf : M.2.1.length ≤ 3000) (ht : ((M.2.2.2.1 i).2.2.2.2.2.2.2.2.take rt_s100.length).map Value.int = wtT σ rt_s100) (hlen : (M.2.2.2.1 i).2.2.2.2.2.2.2.1 = rt_s100.length) : At S 12 40 0 [(0, .ref (A 0)), (1, .int (Int32.ofNat i))] [] hp 0 0 (QR hp ow k A np nl 99 50000 (fun r => F_s100 σ (M1l M i) i (wg [0, 1, 16, 17] (σ 10)) r)) := by
  have hSt : StT M.2.2.2.2.2.2 M.1 := hV.2.2.2.1
  cases htn : tnM M (M.2.2.2.1 i).1 (Int32.ofNat (wg [14348907, 28697814] (σ 9))) with
  | none =>
    exact r_none h hi hSt hlab ht hlen rd_s100 wr_s100 bd_s100_n wb_s100_n ws_s100_n (fun p hp => by rw [List.mem_singleton.mp hp]; exact ⟨rfl, (Int32.ofNat (wg [14348907, 28697814] (σ 9))), fun _ _ => rfl, htn⟩) (fun h4 ρ ω' hR hω h17 hW => At.mono (v_flt hR hi (l1_lab.trans hlab) (wgl_64 _) (by decide)) (fun o ho => (ho.mono (by decide) (by decide)).imp (fun r hr => f1_none htn hr)))
  | some t =>
    obtain ⟨q, hq, hqt, hts, hqn, hqb, -⟩ := h.found hSt htn
    rcases hT q hq with tx | tx
    · skip
      refine r_a h hi hSt hlab ht hlen rd_s100 wr_s100 bd_s100_a wb_s100_a ws_s100_a hq (by rw [hqt]; exact hts) tx (fun p hp => by rw [List.mem_singleton.mp hp]; exact ⟨(Int32.ofNat (wg [14348907, 28697814] (σ 9))), fun _ _ => rfl, Or.inr ⟨rfl, by rw [hqt]; exact htn⟩⟩) (fun h4 ρ ω' hR hω h17 hW h18 => At.mono (v_set (col := 1) hR hi (l1_lab.trans hlab) (wgl_64 _) hV.l1 hW (by decide +kernel) hq h18 (by decide) (by rw [tx.2.1]; decide) (WfC.al hC.l1)) (fun o ho => (ho.mono (by decide) (by decide)).imp (fun r hr => f1_some htn hq hqt ?_)))
      simp only [nmC_a tx]
      exact hr
    · skip
      refine r_b h hi hSt hlab ht hlen rd_s100 wr_s100 bd_s100_b wb_s100_b ws_s100_b hq (by rw [hqt]; exact hts) tx (fun p hp => by rw [List.mem_singleton.mp hp]; exact ⟨(Int32.ofNat (wg [14348907, 28697814] (σ 9))), fun _ _ => rfl, Or.inr ⟨rfl, by rw [hqt]; exact htn⟩⟩) (fun h4 ρ ω' hR hω h17 hW h18 => At.mono (v_set (col := 2) hR hi (l1_lab.trans hlab) (wgl_64 _) hV.l1 hW (by decide +kernel) hq h18 (by decide) (by rw [tx.2.1]; decide) (WfC.al hC.l1)) (fun o ho => (ho.mono (by decide) (by decide)).imp (fun r hr => f1_some htn hq hqt ?_)))
      simp only [nmC_b tx]
      exact hr
theorem wr_s101 : wrB rt_s101 rW_s101 4294967295 = true := by decide +kernel
theorem wb_s101_n : wfrB (List.range 17) (rW_s101.take 15 ++ (wM0 ++ [])) bW_s101_n = true := by decide +kernel
theorem ws_s101_n : wsmB bW_s101_n = true := by decide +kernel
theorem wb_s101_a : wfrB (List.range 17) (rW_s101.take 15 ++ (wM0 ++ bT0)) bW_s101_a = true := by decide +kernel
theorem ws_s101_a : wsmB bW_s101_a = true := by decide +kernel
theorem wb_s101_b : wfrB (List.range 17) (rW_s101.take 15 ++ (wM0 ++ bT1)) bW_s101_b = true := by decide +kernel
theorem ws_s101_b : wsmB bW_s101_b = true := by decide +kernel
def F_s101 (σ : Nat → Nat) : MF := f1 (Int32.ofNat (wg [14348907, 28697814] (σ 9))) 4 (fun q M i ln => setM M i ln q (nmC q 1 2) (nmC q (fmW σ bW_s101_a) (fmW σ bW_s101_b)) (nmC q (fvW σ bW_s101_a) (fvW σ bW_s101_b)))
theorem sh_s101 {S : List Int32} {hp : List XC} {ow : Nat → Nat} {k : Nat} {A : Nat → Nat} {M : HM} {rf : Int32} {np nl i : Nat} {σ : Nat → Nat} (h : HR hp ow k A M rf np nl) (hi : i < 8) (hV : WfV M i) (hC : WfC M i) (hT : WfT M) (hlab : (M.2.2.2.1 i).1 = Int32.ofNat (wg [0, 1, 16, 17] (σ 10))) (hmd : M.2.2.2.2.2.1 + 1 = nSr σ) (hsl : ∀ i, i < 8 → (M.2.2.2.1 i).2.2.2.1.length ≤ 3000) (hshf : M.2.1.length ≤ 3000) (ht : ((M.2.2.2.1 i).2.2.2.2.2.2.2.2.take rt_s101.length).map Value.int = wtT σ rt_s101) (hlen : (M.2.2.2.1 i).2.2.2.2.2.2.2.1 = rt_s101.length) : At S 12 40 0 [(0, .ref (A 0)), (1, .int (Int32.ofNat i))] [] hp 0 0 (QR hp ow k A np nl 99 50000 (fun r => F_s101 σ (M1l M i) i (wg [0, 1, 16, 17] (σ 10)) r)) := by
  have hSt : StT M.2.2.2.2.2.2 M.1 := hV.2.2.2.1
  cases htn : tnM M (M.2.2.2.1 i).1 (Int32.ofNat (wg [14348907, 28697814] (σ 9))) with
  | none =>
    exact r_none h hi hSt hlab ht hlen rd_s101 wr_s101 bd_s101_n wb_s101_n ws_s101_n (fun p hp => by rw [List.mem_singleton.mp hp]; exact ⟨rfl, (Int32.ofNat (wg [14348907, 28697814] (σ 9))), fun _ _ => rfl, htn⟩) (fun h4 ρ ω' hR hω h17 hW => At.mono (v_flt hR hi (l1_lab.trans hlab) (wgl_64 _) (by decide)) (fun o ho => (ho.mono (by decide) (by decide)).imp (fun r hr => f1_none htn hr)))
  | some t =>
    obtain ⟨q, hq, hqt, hts, hqn, hqb, -⟩ := h.found hSt htn
    rcases hT q hq with tx | tx
    · skip
      refine r_a h hi hSt hlab ht hlen rd_s101 wr_s101 bd_s101_a wb_s101_a ws_s101_a hq (by rw [hqt]; exact hts) tx (fun p hp => by rw [List.mem_singleton.mp hp]; exact ⟨(Int32.ofNat (wg [14348907, 28697814] (σ 9))), fun _ _ => rfl, Or.inr ⟨rfl, by rw [hqt]; exact htn⟩⟩) (fun h4 ρ ω' hR hω h17 hW h18 => At.mono (v_set (col := 1) hR hi (l1_lab.trans hlab) (wgl_64 _) hV.l1 hW (by decide +kernel) hq h18 (by decide) (by rw [tx.2.1]; decide) (WfC.al hC.l1)) (fun o ho => (ho.mono (by decide) (by decide)).imp (fun r hr => f1_some htn hq hqt ?_)))
      simp only [nmC_a tx]
      exact hr
    · skip
      refine r_b h hi hSt hlab ht hlen rd_s101 wr_s101 bd_s101_b wb_s101_b ws_s101_b hq (by rw [hqt]; exact hts) tx (fun p hp => by rw [List.mem_singleton.mp hp]; exact ⟨(Int32.ofNat (wg [14348907, 28697814] (σ 9))), fun _ _ => rfl, Or.inr ⟨rfl, by rw [hqt]; exact htn⟩⟩) (fun h4 ρ ω' hR hω h17 hW h18 => At.mono (v_set (col := 2) hR hi (l1_lab.trans hlab) (wgl_64 _) hV.l1 hW (by decide +kernel) hq h18 (by decide) (by rw [tx.2.1]; decide) (WfC.al hC.l1)) (fun o ho => (ho.mono (by decide) (by decide)).imp (fun r hr => f1_some htn hq hqt ?_)))
      simp only [nmC_b tx]
      exact hr
theorem wr_s102 : wrB rt_s102 rW_s102 4294967295 = true := by decide +kernel
theorem wb_s102_n : wfrB (List.range 17) (rW_s102.take 15 ++ (wM0 ++ [])) bW_s102_n = true := by decide +kernel
theorem ws_s102_n : wsmB bW_s102_n = true := by decide +kernel
theorem wb_s102_a : wfrB (List.range 17) (rW_s102.take 15 ++ (wM0 ++ bT0)) bW_s102_a = true := by decide +kernel
theorem ws_s102_a : wsmB bW_s102_a = true := by decide +kernel
theorem wb_s102_b : wfrB (List.range 17) (rW_s102.take 15 ++ (wM0 ++ bT1)) bW_s102_b = true := by decide +kernel
theorem ws_s102_b : wsmB bW_s102_b = true := by decide +kernel
def F_s102 (σ : Nat → Nat) : MF := f1 (Int32.ofNat (wg [14348907, 28697814] (σ 9))) 4 (fun q M i ln => setM M i ln q (nmC q 1 2) (nmC q (fmW σ bW_s102_a) (fmW σ bW_s102_b)) (nmC q (fvW σ bW_s102_a) (fvW σ bW_s102_b)))
theorem sh_s102 {S : List Int32} {hp : List XC} {ow : Nat → Nat} {k : Nat} {A : Nat → Nat} {M : HM} {rf : Int32} {np nl i : Nat} {σ : Nat → Nat} (h : HR hp ow k A M rf np nl) (hi : i < 8) (hV : WfV M i) (hC : WfC M i) (hT : WfT M) (hlab : (M.2.2.2.1 i).1 = Int32.ofNat (wg [0, 1, 16, 17] (σ 10))) (hmd : M.2.2.2.2.2.1 + 1 = nSr σ) (hsl : ∀ i, i < 8 → (M.2.2.2.1 i).2.2.2.1.length ≤ 3000) (hshf : M.2.1.length ≤ 3000) (ht : ((M.2.2.2.1 i).2.2.2.2.2.2.2.2.take rt_s102.length).map Value.int = wtT σ rt_s102) (hlen : (M.2.2.2.1 i).2.2.2.2.2.2.2.1 = rt_s102.length) : At S 12 40 0 [(0, .ref (A 0)), (1, .int (Int32.ofNat i))] [] hp 0 0 (QR hp ow k A np nl 99 50000 (fun r => F_s102 σ (M1l M i) i (wg [0, 1, 16, 17] (σ 10)) r)) := by
  have hSt : StT M.2.2.2.2.2.2 M.1 := hV.2.2.2.1
  cases htn : tnM M (M.2.2.2.1 i).1 (Int32.ofNat (wg [14348907, 28697814] (σ 9))) with
  | none =>
    exact r_none h hi hSt hlab ht hlen rd_s102 wr_s102 bd_s102_n wb_s102_n ws_s102_n (fun p hp => by rw [List.mem_singleton.mp hp]; exact ⟨rfl, (Int32.ofNat (wg [14348907, 28697814] (σ 9))), fun _ _ => rfl, htn⟩) (fun h4 ρ ω' hR hω h17 hW => At.mono (v_flt hR hi (l1_lab.trans hlab) (wgl_64 _) (by decide)) (fun o ho => (ho.mono (by decide) (by decide)).imp (fun r hr => f1_none htn hr)))
  | some t =>
    obtain ⟨q, hq, hqt, hts, hqn, hqb, -⟩ := h.found hSt htn
    rcases hT q hq with tx | tx
    · skip
      refine r_a h hi hSt hlab ht hlen rd_s102 wr_s102 bd_s102_a wb_s102_a ws_s102_a hq (by rw [hqt]; exact hts) tx (fun p hp => by rw [List.mem_singleton.mp hp]; exact ⟨(Int32.ofNat (wg [14348907, 28697814] (σ 9))), fun _ _ => rfl, Or.inr ⟨rfl, by rw [hqt]; exact htn⟩⟩) (fun h4 ρ ω' hR hω h17 hW h18 => At.mono (v_set (col := 1) hR hi (l1_lab.trans hlab) (wgl_64 _) hV.l1 hW (by decide +kernel) hq h18 (by decide) (by rw [tx.2.1]; decide) (WfC.al hC.l1)) (fun o ho => (ho.mono (by decide) (by decide)).imp (fun r hr => f1_some htn hq hqt ?_)))
      simp only [nmC_a tx]
      exact hr
    · skip
      refine r_b h hi hSt hlab ht hlen rd_s102 wr_s102 bd_s102_b wb_s102_b ws_s102_b hq (by rw [hqt]; exact hts) tx (fun p hp => by rw [List.mem_singleton.mp hp]; exact ⟨(Int32.ofNat (wg [14348907, 28697814] (σ 9))), fun _ _ => rfl, Or.inr ⟨rfl, by rw [hqt]; exact htn⟩⟩) (fun h4 ρ ω' hR hω h17 hW h18 => At.mono (v_set (col := 2) hR hi (l1_lab.trans hlab) (wgl_64 _) hV.l1 hW (by decide +kernel) hq h18 (by decide) (by rw [tx.2.1]; decide) (WfC.al hC.l1)) (fun o ho => (ho.mono (by decide) (by decide)).imp (fun r hr => f1_some htn hq hqt ?_)))
      simp only [nmC_b tx]
      exact hr
theorem wr_s103 : wrB rt_s103 rW_s103 4294967295 = true := by decide +kernel
theorem wb_s103_n : wfrB (List.range 17) (rW_s103.take 15 ++ (wM0 ++ [])) bW_s103_n = true := by decide +kernel
theorem ws_s103_n : wsmB bW_s103_n = true := by decide +kernel
theorem wb_s103_a : wfrB (List.range 17) (rW_s103.take 15 ++ (wM0 ++ bT0)) bW_s103_a = true := by decide +kernel
theorem ws_s103_a : wsmB bW_s103_a = true := by decide +kernel
theorem wb_s103_b : wfrB (List.range 17) (rW_s103.take 15 ++ (wM0 ++ bT1)) bW_s103_b = true := by decide +kernel
theorem ws_s103_b : wsmB bW_s103_b = true := by decide +kernel
def F_s103 (σ : Nat → Nat) : MF := f1 (Int32.ofNat (wg [14348907, 28697814] (σ 9))) 4 (fun q M i ln => setM M i ln q (nmC q 1 2) (nmC q (fmW σ bW_s103_a) (fmW σ bW_s103_b)) (nmC q (fvW σ bW_s103_a) (fvW σ bW_s103_b)))
theorem sh_s103 {S : List Int32} {hp : List XC} {ow : Nat → Nat} {k : Nat} {A : Nat → Nat} {M : HM} {rf : Int32} {np nl i : Nat} {σ : Nat → Nat} (h : HR hp ow k A M rf np nl) (hi : i < 8) (hV : WfV M i) (hC : WfC M i) (hT : WfT M) (hlab : (M.2.2.2.1 i).1 = Int32.ofNat (wg [0, 1, 16, 17] (σ 10))) (hmd : M.2.2.2.2.2.1 + 1 = nSr σ) (hsl : ∀ i, i < 8 → (M.2.2.2.1 i).2.2.2.1.length ≤ 3000) (hshf : M.2.1.length ≤ 3000) (ht : ((M.2.2.2.1 i).2.2.2.2.2.2.2.2.take rt_s103.length).map Value.int = wtT σ rt_s103) (hlen : (M.2.2.2.1 i).2.2.2.2.2.2.2.1 = rt_s103.length) : At S 12 40 0 [(0, .ref (A 0)), (1, .int (Int32.ofNat i))] [] hp 0 0 (QR hp ow k A np nl 99 50000 (fun r => F_s103 σ (M1l M i) i (wg [0, 1, 16, 17] (σ 10)) r)) := by
  have hSt : StT M.2.2.2.2.2.2 M.1 := hV.2.2.2.1
  cases htn : tnM M (M.2.2.2.1 i).1 (Int32.ofNat (wg [14348907, 28697814] (σ 9))) with
  | none =>
    exact r_none h hi hSt hlab ht hlen rd_s103 wr_s103 bd_s103_n wb_s103_n ws_s103_n (fun p hp => by rw [List.mem_singleton.mp hp]; exact ⟨rfl, (Int32.ofNat (wg [14348907, 28697814] (σ 9))), fun _ _ => rfl, htn⟩) (fun h4 ρ ω' hR hω h17 hW => At.mono (v_flt hR hi (l1_lab.trans hlab) (wgl_64 _) (by decide)) (fun o ho => (ho.mono (by decide) (by decide)).imp (fun r hr => f1_none htn hr)))
  | some t =>
    obtain ⟨q, hq, hqt, hts, hqn, hqb, -⟩ := h.found hSt htn
    rcases hT q hq with tx | tx
    · skip
      refine r_a h hi hSt hlab ht hlen rd_s103 wr_s103 bd_s103_a wb_s103_a ws_s103_a hq (by rw [hqt]; exact hts) tx (fun p hp => by rw [List.mem_singleton.mp hp]; exact ⟨(Int32.ofNat (wg [14348907, 28697814] (σ 9))), fun _ _ => rfl, Or.inr ⟨rfl, by rw [hqt]; exact htn⟩⟩) (fun h4 ρ ω' hR hω h17 hW h18 => At.mono (v_set (col := 1) hR hi (l1_lab.trans hlab) (wgl_64 _) hV.l1 hW (by decide +kernel) hq h18 (by decide) (by rw [tx.2.1]; decide) (WfC.al hC.l1)) (fun o ho => (ho.mono (by decide) (by decide)).imp (fun r hr => f1_some htn hq hqt ?_)))
      simp only [nmC_a tx]
      exact hr
    · skip
      refine r_b h hi hSt hlab ht hlen rd_s103 wr_s103 bd_s103_b wb_s103_b ws_s103_b hq (by rw [hqt]; exact hts) tx (fun p hp => by rw [List.mem_singleton.mp hp]; exact ⟨(Int32.ofNat (wg [14348907, 28697814] (σ 9))), fun _ _ => rfl, Or.inr ⟨rfl, by rw [hqt]; exact htn⟩⟩) (fun h4 ρ ω' hR hω h17 hW h18 => At.mono (v_set (col := 2) hR hi (l1_lab.trans hlab) (wgl_64 _) hV.l1 hW (by decide +kernel) hq h18 (by decide) (by rw [tx.2.1]; decide) (WfC.al hC.l1)) (fun o ho => (ho.mono (by decide) (by decide)).imp (fun r hr => f1_some htn hq hqt ?_)))
      simp only [nmC_b tx]
      exact hr
theorem wr_s110 : wrB rt_s110 rW_s110 4294967295 = true := by decide +kernel
theorem wb_s110_n : wfrB (List.range 17) (rW_s110.take 15 ++ (wM0 ++ [])) bW_s110_n = true := by decide +kernel
theorem ws_s110_n : wsmB bW_s110_n = true := by decide +kernel
theorem wb_s110_a : wfrB (List.range 17) (rW_s110.take 15 ++ (wM0 ++ bT0)) bW_s110_a = true := by decide +kernel
theorem ws_s110_a : wsmB bW_s110_a = true := by decide +kernel
theorem wb_s110_b : wfrB (List.range 17) (rW_s110.take 15 ++ (wM0 ++ bT1)) bW_s110_b = true := by decide +kernel
theorem ws_s110_b : wsmB bW_s110_b = true := by decide +kernel
def F_s110 (σ : Nat → Nat) : MF := f1 (Int32.ofNat (wg [14348907, 28697814] (σ 9))) 4 (fun q M i ln => setM M i ln q (nmC q 1 2) (nmC q (fmW σ bW_s110_a) (fmW σ bW_s110_b)) (nmC q (fvW σ bW_s110_a) (fvW σ bW_s110_b)))
theorem sh_s110 {S : List Int32} {hp : List XC} {ow : Nat → Nat} {k : Nat} {A : Nat → Nat} {M : HM} {rf : Int32} {np nl i : Nat} {σ : Nat → Nat} (h : HR hp ow k A M rf np nl) (hi : i < 8) (hV : WfV M i) (hC : WfC M i) (hT : WfT M) (hlab : (M.2.2.2.1 i).1 = Int32.ofNat (wg [0, 1, 16, 17] (σ 10))) (hmd : M.2.2.2.2.2.1 + 1 = nSr σ) (hsl : ∀ i, i < 8 → (M.2.2.2.1 i).2.2.2.1.length ≤ 3000) (hshf : M.2.1.length ≤ 3000) (ht : ((M.2.2.2.1 i).2.2.2.2.2.2.2.2.take rt_s110.length).map Value.int = wtT σ rt_s110) (hlen : (M.2.2.2.1 i).2.2.2.2.2.2.2.1 = rt_s110.length) : At S 12 40 0 [(0, .ref (A 0)), (1, .int (Int32.ofNat i))] [] hp 0 0 (QR hp ow k A np nl 99 50000 (fun r => F_s110 σ (M1l M i) i (wg [0, 1, 16, 17] (σ 10)) r)) := by
  have hSt : StT M.2.2.2.2.2.2 M.1 := hV.2.2.2.1
  cases htn : tnM M (M.2.2.2.1 i).1 (Int32.ofNat (wg [14348907, 28697814] (σ 9))) with
  | none =>
    exact r_none h hi hSt hlab ht hlen rd_s110 wr_s110 bd_s110_n wb_s110_n ws_s110_n (fun p hp => by rw [List.mem_singleton.mp hp]; exact ⟨rfl, (Int32.ofNat (wg [14348907, 28697814] (σ 9))), fun _ _ => rfl, htn⟩) (fun h4 ρ ω' hR hω h17 hW => At.mono (v_flt hR hi (l1_lab.trans hlab) (wgl_64 _) (by decide)) (fun o ho => (ho.mono (by decide) (by decide)).imp (fun r hr => f1_none htn hr)))
  | some t =>
    obtain ⟨q, hq, hqt, hts, hqn, hqb, -⟩ := h.found hSt htn
    rcases hT q hq with tx | tx
    · skip
      refine r_a h hi hSt hlab ht hlen rd_s110 wr_s110 bd_s110_a wb_s110_a ws_s110_a hq (by rw [hqt]; exact hts) tx (fun p hp => by rw [List.mem_singleton.mp hp]; exact ⟨(Int32.ofNat (wg [14348907, 28697814] (σ 9))), fun _ _ => rfl, Or.inr ⟨rfl, by rw [hqt]; exact htn⟩⟩) (fun h4 ρ ω' hR hω h17 hW h18 => At.mono (v_set (col := 1) hR hi (l1_lab.trans hlab) (wgl_64 _) hV.l1 hW (by decide +kernel) hq h18 (by decide) (by rw [tx.2.1]; decide) (WfC.al hC.l1)) (fun o ho => (ho.mono (by decide) (by decide)).imp (fun r hr => f1_some htn hq hqt ?_)))
      simp only [nmC_a tx]
      exact hr
    · skip
      refine r_b h hi hSt hlab ht hlen rd_s110 wr_s110 bd_s110_b wb_s110_b ws_s110_b hq (by rw [hqt]; exact hts) tx (fun p hp => by rw [List.mem_singleton.mp hp]; exact ⟨(Int32.ofNat (wg [14348907, 28697814] (σ 9))), fun _ _ => rfl, Or.inr ⟨rfl, by rw [hqt]; exact htn⟩⟩) (fun h4 ρ ω' hR hω h17 hW h18 => At.mono (v_set (col := 2) hR hi (l1_lab.trans hlab) (wgl_64 _) hV.l1 hW (by decide +kernel) hq h18 (by decide) (by rw [tx.2.1]; decide) (WfC.al hC.l1)) (fun o ho => (ho.mono (by decide) (by decide)).imp (fun r hr => f1_some htn hq hqt ?_)))
      simp only [nmC_b tx]
      exact hr
theorem wr_s111 : wrB rt_s111 rW_s111 4294967295 = true := by decide +kernel
theorem wb_s111_n : wfrB (List.range 17) (rW_s111.take 15 ++ (wM0 ++ [])) bW_s111_n = true := by decide +kernel
theorem ws_s111_n : wsmB bW_s111_n = true := by decide +kernel
theorem wb_s111_a : wfrB (List.range 17) (rW_s111.take 15 ++ (wM0 ++ bT0)) bW_s111_a = true := by decide +kernel
theorem ws_s111_a : wsmB bW_s111_a = true := by decide +kernel
theorem wb_s111_b : wfrB (List.range 17) (rW_s111.take 15 ++ (wM0 ++ bT1)) bW_s111_b = true := by decide +kernel
theorem ws_s111_b : wsmB bW_s111_b = true := by decide +kernel
def F_s111 (σ : Nat → Nat) : MF := f1 (Int32.ofNat (wg [14348907, 28697814] (σ 9))) 4 (fun q M i ln => setM M i ln q (nmC q 1 2) (nmC q (fmW σ bW_s111_a) (fmW σ bW_s111_b)) (nmC q (fvW σ bW_s111_a) (fvW σ bW_s111_b)))
theorem sh_s111 {S : List Int32} {hp : List XC} {ow : Nat → Nat} {k : Nat} {A : Nat → Nat} {M : HM} {rf : Int32} {np nl i : Nat} {σ : Nat → Nat} (h : HR hp ow k A M rf np nl) (hi : i < 8) (hV : WfV M i) (hC : WfC M i) (hT : WfT M) (hlab : (M.2.2.2.1 i).1 = Int32.ofNat (wg [0, 1, 16, 17] (σ 10))) (hmd : M.2.2.2.2.2.1 + 1 = nSr σ) (hsl : ∀ i, i < 8 → (M.2.2.2.1 i).2.2.2.1.length ≤ 3000) (hshf : M.2.1.length ≤ 3000) (ht : ((M.2.2.2.1 i).2.2.2.2.2.2.2.2.take rt_s111.length).map Value.int = wtT σ rt_s111) (hlen : (M.2.2.2.1 i).2.2.2.2.2.2.2.1 = rt_s111.length) : At S 12 40 0 [(0, .ref (A 0)), (1, .int (Int32.ofNat i))] [] hp 0 0 (QR hp ow k A np nl 99 50000 (fun r => F_s111 σ (M1l M i) i (wg [0, 1, 16, 17] (σ 10)) r)) := by
  have hSt : StT M.2.2.2.2.2.2 M.1 := hV.2.2.2.1
  cases htn : tnM M (M.2.2.2.1 i).1 (Int32.ofNat (wg [14348907, 28697814] (σ 9))) with
  | none =>
    exact r_none h hi hSt hlab ht hlen rd_s111 wr_s111 bd_s111_n wb_s111_n ws_s111_n (fun p hp => by rw [List.mem_singleton.mp hp]; exact ⟨rfl, (Int32.ofNat (wg [14348907, 28697814] (σ 9))), fun _ _ => rfl, htn⟩) (fun h4 ρ ω' hR hω h17 hW => At.mono (v_flt hR hi (l1_lab.trans hlab) (wgl_64 _) (by decide)) (fun o ho => (ho.mono (by decide) (by decide)).imp (fun r hr => f1_none htn hr)))
  | some t =>
    obtain ⟨q, hq, hqt, hts, hqn, hqb, -⟩ := h.found hSt htn
    rcases hT q hq with tx | tx
    · skip
      refine r_a h hi hSt hlab ht hlen rd_s111 wr_s111 bd_s111_a wb_s111_a ws_s111_a hq (by rw [hqt]; exact hts) tx (fun p hp => by rw [List.mem_singleton.mp hp]; exact ⟨(Int32.ofNat (wg [14348907, 28697814] (σ 9))), fun _ _ => rfl, Or.inr ⟨rfl, by rw [hqt]; exact htn⟩⟩) (fun h4 ρ ω' hR hω h17 hW h18 => At.mono (v_set (col := 1) hR hi (l1_lab.trans hlab) (wgl_64 _) hV.l1 hW (by decide +kernel) hq h18 (by decide) (by rw [tx.2.1]; decide) (WfC.al hC.l1)) (fun o ho => (ho.mono (by decide) (by decide)).imp (fun r hr => f1_some htn hq hqt ?_)))
      simp only [nmC_a tx]
      exact hr
    · skip
      refine r_b h hi hSt hlab ht hlen rd_s111 wr_s111 bd_s111_b wb_s111_b ws_s111_b hq (by rw [hqt]; exact hts) tx (fun p hp => by rw [List.mem_singleton.mp hp]; exact ⟨(Int32.ofNat (wg [14348907, 28697814] (σ 9))), fun _ _ => rfl, Or.inr ⟨rfl, by rw [hqt]; exact htn⟩⟩) (fun h4 ρ ω' hR hω h17 hW h18 => At.mono (v_set (col := 2) hR hi (l1_lab.trans hlab) (wgl_64 _) hV.l1 hW (by decide +kernel) hq h18 (by decide) (by rw [tx.2.1]; decide) (WfC.al hC.l1)) (fun o ho => (ho.mono (by decide) (by decide)).imp (fun r hr => f1_some htn hq hqt ?_)))
      simp only [nmC_b tx]
      exact hr
theorem wr_s112 : wrB rt_s112 rW_s112 4294967295 = true := by decide +kernel
theorem wb_s112_n : wfrB (List.range 17) (rW_s112.take 15 ++ (wM0 ++ [])) bW_s112_n = true := by decide +kernel
theorem ws_s112_n : wsmB bW_s112_n = true := by decide +kernel
theorem wb_s112_a : wfrB (List.range 17) (rW_s112.take 15 ++ (wM0 ++ bT0)) bW_s112_a = true := by decide +kernel
theorem ws_s112_a : wsmB bW_s112_a = true := by decide +kernel
theorem wb_s112_b : wfrB (List.range 17) (rW_s112.take 15 ++ (wM0 ++ bT1)) bW_s112_b = true := by decide +kernel
theorem ws_s112_b : wsmB bW_s112_b = true := by decide +kernel
def F_s112 (σ : Nat → Nat) : MF := f1 (Int32.ofNat (wg [14348907, 28697814] (σ 9))) 4 (fun q M i ln => setM M i ln q (nmC q 1 2) (nmC q (fmW σ bW_s112_a) (fmW σ bW_s112_b)) (nmC q (fvW σ bW_s112_a) (fvW σ bW_s112_b)))
theorem sh_s112 {S : List Int32} {hp : List XC} {ow : Nat → Nat} {k : Nat} {A : Nat → Nat} {M : HM} {rf : Int32} {np nl i : Nat} {σ : Nat → Nat} (h : HR hp ow k A M rf np nl) (hi : i < 8) (hV : WfV M i) (hC : WfC M i) (hT : WfT M) (hlab : (M.2.2.2.1 i).1 = Int32.ofNat (wg [0, 1, 16, 17] (σ 10))) (hmd : M.2.2.2.2.2.1 + 1 = nSr σ) (hsl : ∀ i, i < 8 → (M.2.2.2.1 i).2.2.2.1.length ≤ 3000) (hshf : M.2.1.length ≤ 3000) (ht : ((M.2.2.2.1 i).2.2.2.2.2.2.2.2.take rt_s112.length).map Value.int = wtT σ rt_s112) (hlen : (M.2.2.2.1 i).2.2.2.2.2.2.2.1 = rt_s112.length) : At S 12 40 0 [(0, .ref (A 0)), (1, .int (Int32.ofNat i))] [] hp 0 0 (QR hp ow k A np nl 99 50000 (fun r => F_s112 σ (M1l M i) i (wg [0, 1, 16, 17] (σ 10)) r)) := by
  have hSt : StT M.2.2.2.2.2.2 M.1 := hV.2.2.2.1
  cases htn : tnM M (M.2.2.2.1 i).1 (Int32.ofNat (wg [14348907, 28697814] (σ 9))) with
  | none =>
    exact r_none h hi hSt hlab ht hlen rd_s112 wr_s112 bd_s112_n wb_s112_n ws_s112_n (fun p hp => by rw [List.mem_singleton.mp hp]; exact ⟨rfl, (Int32.ofNat (wg [14348907, 28697814] (σ 9))), fun _ _ => rfl, htn⟩) (fun h4 ρ ω' hR hω h17 hW => At.mono (v_flt hR hi (l1_lab.trans hlab) (wgl_64 _) (by decide)) (fun o ho => (ho.mono (by decide) (by decide)).imp (fun r hr => f1_none htn hr)))
  | some t =>
    obtain ⟨q, hq, hqt, hts, hqn, hqb, -⟩ := h.found hSt htn
    rcases hT q hq with tx | tx
    · skip
      refine r_a h hi hSt hlab ht hlen rd_s112 wr_s112 bd_s112_a wb_s112_a ws_s112_a hq (by rw [hqt]; exact hts) tx (fun p hp => by rw [List.mem_singleton.mp hp]; exact ⟨(Int32.ofNat (wg [14348907, 28697814] (σ 9))), fun _ _ => rfl, Or.inr ⟨rfl, by rw [hqt]; exact htn⟩⟩) (fun h4 ρ ω' hR hω h17 hW h18 => At.mono (v_set (col := 1) hR hi (l1_lab.trans hlab) (wgl_64 _) hV.l1 hW (by decide +kernel) hq h18 (by decide) (by rw [tx.2.1]; decide) (WfC.al hC.l1)) (fun o ho => (ho.mono (by decide) (by decide)).imp (fun r hr => f1_some htn hq hqt ?_)))
      simp only [nmC_a tx]
      exact hr
    · skip
      refine r_b h hi hSt hlab ht hlen rd_s112 wr_s112 bd_s112_b wb_s112_b ws_s112_b hq (by rw [hqt]; exact hts) tx (fun p hp => by rw [List.mem_singleton.mp hp]; exact ⟨(Int32.ofNat (wg [14348907, 28697814] (σ 9))), fun _ _ => rfl, Or.inr ⟨rfl, by rw [hqt]; exact htn⟩⟩) (fun h4 ρ ω' hR hω h17 hW h18 => At.mono (v_set (col := 2) hR hi (l1_lab.trans hlab) (wgl_64 _) hV.l1 hW (by decide +kernel) hq h18 (by decide) (by rw [tx.2.1]; decide) (WfC.al hC.l1)) (fun o ho => (ho.mono (by decide) (by decide)).imp (fun r hr => f1_some htn hq hqt ?_)))
      simp only [nmC_b tx]
      exact hr
theorem wr_s113 : wrB rt_s113 rW_s113 4294967295 = true := by decide +kernel
theorem wb_s113_n : wfrB (List.range 17) (rW_s113.take 15 ++ (wM0 ++ [])) bW_s113_n = true := by decide +kernel
theorem ws_s113_n : wsmB bW_s113_n = true := by decide +kernel
theorem wb_s113_a : wfrB (List.range 17) (rW_s113.take 15 ++ (wM0 ++ bT0)) bW_s113_a = true := by decide +kernel
theorem ws_s113_a : wsmB bW_s113_a = true := by decide +kernel
theorem wb_s113_b : wfrB (List.range 17) (rW_s113.take 15 ++ (wM0 ++ bT1)) bW_s113_b = true := by decide +kernel
theorem ws_s113_b : wsmB bW_s113_b = true := by decide +kernel
def F_s113 (σ : Nat → Nat) : MF := f1 (Int32.ofNat (wg [14348907, 28697814] (σ 9))) 4 (fun q M i ln => setM M i ln q (nmC q 1 2) (nmC q (fmW σ bW_s113_a) (fmW σ bW_s113_b)) (nmC q (fvW σ bW_s113_a) (fvW σ bW_s113_b)))
theorem sh_s113 {S : List Int32} {hp : List XC} {ow : Nat → Nat} {k : Nat} {A : Nat → Nat} {M : HM} {rf : Int32} {np nl i : Nat} {σ : Nat → Nat} (h : HR hp ow k A M rf np nl) (hi : i < 8) (hV : WfV M i) (hC : WfC M i) (hT : WfT M) (hlab : (M.2.2.2.1 i).1 = Int32.ofNat (wg [0, 1, 16, 17] (σ 10))) (hmd : M.2.2.2.2.2.1 + 1 = nSr σ) (hsl : ∀ i, i < 8 → (M.2.2.2.1 i).2.2.2.1.length ≤ 3000) (hshf : M.2.1.length ≤ 3000) (ht : ((M.2.2.2.1 i).2.2.2.2.2.2.2.2.take rt_s113.length).map Value.int = wtT σ rt_s113) (hlen : (M.2.2.2.1 i).2.2.2.2.2.2.2.1 = rt_s113.length) : At S 12 40 0 [(0, .ref (A 0)), (1, .int (Int32.ofNat i))] [] hp 0 0 (QR hp ow k A np nl 99 50000 (fun r => F_s113 σ (M1l M i) i (wg [0, 1, 16, 17] (σ 10)) r)) := by
  have hSt : StT M.2.2.2.2.2.2 M.1 := hV.2.2.2.1
  cases htn : tnM M (M.2.2.2.1 i).1 (Int32.ofNat (wg [14348907, 28697814] (σ 9))) with
  | none =>
    exact r_none h hi hSt hlab ht hlen rd_s113 wr_s113 bd_s113_n wb_s113_n ws_s113_n (fun p hp => by rw [List.mem_singleton.mp hp]; exact ⟨rfl, (Int32.ofNat (wg [14348907, 28697814] (σ 9))), fun _ _ => rfl, htn⟩) (fun h4 ρ ω' hR hω h17 hW => At.mono (v_flt hR hi (l1_lab.trans hlab) (wgl_64 _) (by decide)) (fun o ho => (ho.mono (by decide) (by decide)).imp (fun r hr => f1_none htn hr)))
  | some t =>
    obtain ⟨q, hq, hqt, hts, hqn, hqb, -⟩ := h.found hSt htn
    rcases hT q hq with tx | tx
    · skip
      refine r_a h hi hSt hlab ht hlen rd_s113 wr_s113 bd_s113_a wb_s113_a ws_s113_a hq (by rw [hqt]; exact hts) tx (fun p hp => by rw [List.mem_singleton.mp hp]; exact ⟨(Int32.ofNat (wg [14348907, 28697814] (σ 9))), fun _ _ => rfl, Or.inr ⟨rfl, by rw [hqt]; exact htn⟩⟩) (fun h4 ρ ω' hR hω h17 hW h18 => At.mono (v_set (col := 1) hR hi (l1_lab.trans hlab) (wgl_64 _) hV.l1 hW (by decide +kernel) hq h18 (by decide) (by rw [tx.2.1]; decide) (WfC.al hC.l1)) (fun o ho => (ho.mono (by decide) (by decide)).imp (fun r hr => f1_some htn hq hqt ?_)))
      simp only [nmC_a tx]
      exact hr
    · skip
      refine r_b h hi hSt hlab ht hlen rd_s113 wr_s113 bd_s113_b wb_s113_b ws_s113_b hq (by rw [hqt]; exact hts) tx (fun p hp => by rw [List.mem_singleton.mp hp]; exact ⟨(Int32.ofNat (wg [14348907, 28697814] (σ 9))), fun _ _ => rfl, Or.inr ⟨rfl, by rw [hqt]; exact htn⟩⟩) (fun h4 ρ ω' hR hω h17 hW h18 => At.mono (v_set (col := 2) hR hi (l1_lab.trans hlab) (wgl_64 _) hV.l1 hW (by decide +kernel) hq h18 (by decide) (by rw [tx.2.1]; decide) (WfC.al hC.l1)) (fun o ho => (ho.mono (by decide) (by decide)).imp (fun r hr => f1_some htn hq hqt ?_)))
      simp only [nmC_b tx]
      exact hr
theorem wr_s120 : wrB rt_s120 rW_s120 4294967295 = true := by decide +kernel
theorem wb_s120_n : wfrB (List.range 17) (rW_s120.take 15 ++ (wM0 ++ [])) bW_s120_n = true := by decide +kernel
theorem ws_s120_n : wsmB bW_s120_n = true := by decide +kernel
theorem wb_s120_a : wfrB (List.range 17) (rW_s120.take 15 ++ (wM0 ++ bT0)) bW_s120_a = true := by decide +kernel
theorem ws_s120_a : wsmB bW_s120_a = true := by decide +kernel
theorem wb_s120_b : wfrB (List.range 17) (rW_s120.take 15 ++ (wM0 ++ bT1)) bW_s120_b = true := by decide +kernel
theorem ws_s120_b : wsmB bW_s120_b = true := by decide +kernel
def F_s120 (σ : Nat → Nat) : MF := f1 (Int32.ofNat (wg [14348907, 28697814] (σ 9))) 4 (fun q M i ln => setM M i ln q (nmC q 1 2) (nmC q (fmW σ bW_s120_a) (fmW σ bW_s120_b)) (nmC q (fvW σ bW_s120_a) (fvW σ bW_s120_b)))
theorem sh_s120 {S : List Int32} {hp : List XC} {ow : Nat → Nat} {k : Nat} {A : Nat → Nat} {M : HM} {rf : Int32} {np nl i : Nat} {σ : Nat → Nat} (h : HR hp ow k A M rf np nl) (hi : i < 8) (hV : WfV M i) (hC : WfC M i) (hT : WfT M) (hlab : (M.2.2.2.1 i).1 = Int32.ofNat (wg [0, 1, 16, 17] (σ 10))) (hmd : M.2.2.2.2.2.1 + 1 = nSr σ) (hsl : ∀ i, i < 8 → (M.2.2.2.1 i).2.2.2.1.length ≤ 3000) (hshf : M.2.1.length ≤ 3000) (ht : ((M.2.2.2.1 i).2.2.2.2.2.2.2.2.take rt_s120.length).map Value.int = wtT σ rt_s120) (hlen : (M.2.2.2.1 i).2.2.2.2.2.2.2.1 = rt_s120.length) : At S 12 40 0 [(0, .ref (A 0)), (1, .int (Int32.ofNat i))] [] hp 0 0 (QR hp ow k A np nl 99 50000 (fun r => F_s120 σ (M1l M i) i (wg [0, 1, 16, 17] (σ 10)) r)) := by
  have hSt : StT M.2.2.2.2.2.2 M.1 := hV.2.2.2.1
  cases htn : tnM M (M.2.2.2.1 i).1 (Int32.ofNat (wg [14348907, 28697814] (σ 9))) with
  | none =>
    exact r_none h hi hSt hlab ht hlen rd_s120 wr_s120 bd_s120_n wb_s120_n ws_s120_n (fun p hp => by rw [List.mem_singleton.mp hp]; exact ⟨rfl, (Int32.ofNat (wg [14348907, 28697814] (σ 9))), fun _ _ => rfl, htn⟩) (fun h4 ρ ω' hR hω h17 hW => At.mono (v_flt hR hi (l1_lab.trans hlab) (wgl_64 _) (by decide)) (fun o ho => (ho.mono (by decide) (by decide)).imp (fun r hr => f1_none htn hr)))
  | some t =>
    obtain ⟨q, hq, hqt, hts, hqn, hqb, -⟩ := h.found hSt htn
    rcases hT q hq with tx | tx
    · skip
      refine r_a h hi hSt hlab ht hlen rd_s120 wr_s120 bd_s120_a wb_s120_a ws_s120_a hq (by rw [hqt]; exact hts) tx (fun p hp => by rw [List.mem_singleton.mp hp]; exact ⟨(Int32.ofNat (wg [14348907, 28697814] (σ 9))), fun _ _ => rfl, Or.inr ⟨rfl, by rw [hqt]; exact htn⟩⟩) (fun h4 ρ ω' hR hω h17 hW h18 => At.mono (v_set (col := 1) hR hi (l1_lab.trans hlab) (wgl_64 _) hV.l1 hW (by decide +kernel) hq h18 (by decide) (by rw [tx.2.1]; decide) (WfC.al hC.l1)) (fun o ho => (ho.mono (by decide) (by decide)).imp (fun r hr => f1_some htn hq hqt ?_)))
      simp only [nmC_a tx]
      exact hr
    · skip
      refine r_b h hi hSt hlab ht hlen rd_s120 wr_s120 bd_s120_b wb_s120_b ws_s120_b hq (by rw [hqt]; exact hts) tx (fun p hp => by rw [List.mem_singleton.mp hp]; exact ⟨(Int32.ofNat (wg [14348907, 28697814] (σ 9))), fun _ _ => rfl, Or.inr ⟨rfl, by rw [hqt]; exact htn⟩⟩) (fun h4 ρ ω' hR hω h17 hW h18 => At.mono (v_set (col := 2) hR hi (l1_lab.trans hlab) (wgl_64 _) hV.l1 hW (by decide +kernel) hq h18 (by decide) (by rw [tx.2.1]; decide) (WfC.al hC.l1)) (fun o ho => (ho.mono (by decide) (by decide)).imp (fun r hr => f1_some htn hq hqt ?_)))
      simp only [nmC_b tx]
      exact hr
theorem wr_s121 : wrB rt_s121 rW_s121 4294967295 = true := by decide +kernel
theorem wb_s121_n : wfrB (List.range 17) (rW_s121.take 15 ++ (wM0 ++ [])) bW_s121_n = true := by decide +kernel
theorem ws_s121_n : wsmB bW_s121_n = true := by decide +kernel
theorem wb_s121_a : wfrB (List.range 17) (rW_s121.take 15 ++ (wM0 ++ bT0)) bW_s121_a = true := by decide +kernel
theorem ws_s121_a : wsmB bW_s121_a = true := by decide +kernel
theorem wb_s121_b : wfrB (List.range 17) (rW_s121.take 15 ++ (wM0 ++ bT1)) bW_s121_b = true := by decide +kernel
theorem ws_s121_b : wsmB bW_s121_b = true := by decide +kernel
def F_s121 (σ : Nat → Nat) : MF := f1 (Int32.ofNat (wg [14348907, 28697814] (σ 9))) 4 (fun q M i ln => setM M i ln q (nmC q 1 2) (nmC q (fmW σ bW_s121_a) (fmW σ bW_s121_b)) (nmC q (fvW σ bW_s121_a) (fvW σ bW_s121_b)))
theorem sh_s121 {S : List Int32} {hp : List XC} {ow : Nat → Nat} {k : Nat} {A : Nat → Nat} {M : HM} {rf : Int32} {np nl i : Nat} {σ : Nat → Nat} (h : HR hp ow k A M rf np nl) (hi : i < 8) (hV : WfV M i) (hC : WfC M i) (hT : WfT M) (hlab : (M.2.2.2.1 i).1 = Int32.ofNat (wg [0, 1, 16, 17] (σ 10))) (hmd : M.2.2.2.2.2.1 + 1 = nSr σ) (hsl : ∀ i, i < 8 → (M.2.2.2.1 i).2.2.2.1.length ≤ 3000) (hshf : M.2.1.length ≤ 3000) (ht : ((M.2.2.2.1 i).2.2.2.2.2.2.2.2.take rt_s121.length).map Value.int = wtT σ rt_s121) (hlen : (M.2.2.2.1 i).2.2.2.2.2.2.2.1 = rt_s121.length) : At S 12 40 0 [(0, .ref (A 0)), (1, .int (Int32.ofNat i))] [] hp 0 0 (QR hp ow k A np nl 99 50000 (fun r => F_s121 σ (M1l M i) i (wg [0, 1, 16, 17] (σ 10)) r)) := by
  have hSt : StT M.2.2.2.2.2.2 M.1 := hV.2.2.2.1
  cases htn : tnM M (M.2.2.2.1 i).1 (Int32.ofNat (wg [14348907, 28697814] (σ 9))) with
  | none =>
    exact r_none h hi hSt hlab ht hlen rd_s121 wr_s121 bd_s121_n wb_s121_n ws_s121_n (fun p hp => by rw [List.mem_singleton.mp hp]; exact ⟨rfl, (Int32.ofNat (wg [14348907, 28697814] (σ 9))), fun _ _ => rfl, htn⟩) (fun h4 ρ ω' hR hω h17 hW => At.mono (v_flt hR hi (l1_lab.trans hlab) (wgl_64 _) (by decide)) (fun o ho => (ho.mono (by decide) (by decide)).imp (fun r hr => f1_none htn hr)))
  | some t =>
    obtain ⟨q, hq, hqt, hts, hqn, hqb, -⟩ := h.found hSt htn
    rcases hT q hq with tx | tx
    · skip
      refine r_a h hi hSt hlab ht hlen rd_s121 wr_s121 bd_s121_a wb_s121_a ws_s121_a hq (by rw [hqt]; exact hts) tx (fun p hp => by rw [List.mem_singleton.mp hp]; exact ⟨(Int32.ofNat (wg [14348907, 28697814] (σ 9))), fun _ _ => rfl, Or.inr ⟨rfl, by rw [hqt]; exact htn⟩⟩) (fun h4 ρ ω' hR hω h17 hW h18 => At.mono (v_set (col := 1) hR hi (l1_lab.trans hlab) (wgl_64 _) hV.l1 hW (by decide +kernel) hq h18 (by decide) (by rw [tx.2.1]; decide) (WfC.al hC.l1)) (fun o ho => (ho.mono (by decide) (by decide)).imp (fun r hr => f1_some htn hq hqt ?_)))
      simp only [nmC_a tx]
      exact hr
    · skip
      refine r_b h hi hSt hlab ht hlen rd_s121 wr_s121 bd_s121_b wb_s121_b ws_s121_b hq (by rw [hqt]; exact hts) tx (fun p hp => by rw [List.mem_singleton.mp hp]; exact ⟨(Int32.ofNat (wg [14348907, 28697814] (σ 9))), fun _ _ => rfl, Or.inr ⟨rfl, by rw [hqt]; exact htn⟩⟩) (fun h4 ρ ω' hR hω h17 hW h18 => At.mono (v_set (col := 2) hR hi (l1_lab.trans hlab) (wgl_64 _) hV.l1 hW (by decide +kernel) hq h18 (by decide) (by rw [tx.2.1]; decide) (WfC.al hC.l1)) (fun o ho => (ho.mono (by decide) (by decide)).imp (fun r hr => f1_some htn hq hqt ?_)))
      simp only [nmC_b tx]
      exact hr
theorem wr_s122 : wrB rt_s122 rW_s122 4294967295 = true := by decide +kernel
theorem wb_s122_n : wfrB (List.range 17) (rW_s122.take 15 ++ (wM0 ++ [])) bW_s122_n = true := by decide +kernel
theorem ws_s122_n : wsmB bW_s122_n = true := by decide +kernel
theorem wb_s122_a : wfrB (List.range 17) (rW_s122.take 15 ++ (wM0 ++ bT0)) bW_s122_a = true := by decide +kernel
theorem ws_s122_a : wsmB bW_s122_a = true := by decide +kernel
theorem wb_s122_b : wfrB (List.range 17) (rW_s122.take 15 ++ (wM0 ++ bT1)) bW_s122_b = true := by decide +kernel
theorem ws_s122_b : wsmB bW_s122_b = true := by decide +kernel
def F_s122 (σ : Nat → Nat) : MF := f1 (Int32.ofNat (wg [14348907, 28697814] (σ 9))) 4 (fun q M i ln => setM M i ln q (nmC q 1 2) (nmC q (fmW σ bW_s122_a) (fmW σ bW_s122_b)) (nmC q (fvW σ bW_s122_a) (fvW σ bW_s122_b)))
theorem sh_s122 {S : List Int32} {hp : List XC} {ow : Nat → Nat} {k : Nat} {A : Nat → Nat} {M : HM} {rf : Int32} {np nl i : Nat} {σ : Nat → Nat} (h : HR hp ow k A M rf np nl) (hi : i < 8) (hV : WfV M i) (hC : WfC M i) (hT : WfT M) (hlab : (M.2.2.2.1 i).1 = Int32.ofNat (wg [0, 1, 16, 17] (σ 10))) (hmd : M.2.2.2.2.2.1 + 1 = nSr σ) (hsl : ∀ i, i < 8 → (M.2.2.2.1 i).2.2.2.1.length ≤ 3000) (hshf : M.2.1.length ≤ 3000) (ht : ((M.2.2.2.1 i).2.2.2.2.2.2.2.2.take rt_s122.length).map Value.int = wtT σ rt_s122) (hlen : (M.2.2.2.1 i).2.2.2.2.2.2.2.1 = rt_s122.length) : At S 12 40 0 [(0, .ref (A 0)), (1, .int (Int32.ofNat i))] [] hp 0 0 (QR hp ow k A np nl 99 50000 (fun r => F_s122 σ (M1l M i) i (wg [0, 1, 16, 17] (σ 10)) r)) := by
  have hSt : StT M.2.2.2.2.2.2 M.1 := hV.2.2.2.1
  cases htn : tnM M (M.2.2.2.1 i).1 (Int32.ofNat (wg [14348907, 28697814] (σ 9))) with
  | none =>
    exact r_none h hi hSt hlab ht hlen rd_s122 wr_s122 bd_s122_n wb_s122_n ws_s122_n (fun p hp => by rw [List.mem_singleton.mp hp]; exact ⟨rfl, (Int32.ofNat (wg [14348907, 28697814] (σ 9))), fun _ _ => rfl, htn⟩) (fun h4 ρ ω' hR hω h17 hW => At.mono (v_flt hR hi (l1_lab.trans hlab) (wgl_64 _) (by decide)) (fun o ho => (ho.mono (by decide) (by decide)).imp (fun r hr => f1_none htn hr)))
  | some t =>
    obtain ⟨q, hq, hqt, hts, hqn, hqb, -⟩ := h.found hSt htn
    rcases hT q hq with tx | tx
    · skip
      refine r_a h hi hSt hlab ht hlen rd_s122 wr_s122 bd_s122_a wb_s122_a ws_s122_a hq (by rw [hqt]; exact hts) tx (fun p hp => by rw [List.mem_singleton.mp hp]; exact ⟨(Int32.ofNat (wg [14348907, 28697814] (σ 9))), fun _ _ => rfl, Or.inr ⟨rfl, by rw [hqt]; exact htn⟩⟩) (fun h4 ρ ω' hR hω h17 hW h18 => At.mono (v_set (col := 1) hR hi (l1_lab.trans hlab) (wgl_64 _) hV.l1 hW (by decide +kernel) hq h18 (by decide) (by rw [tx.2.1]; decide) (WfC.al hC.l1)) (fun o ho => (ho.mono (by decide) (by decide)).imp (fun r hr => f1_some htn hq hqt ?_)))
      simp only [nmC_a tx]
      exact hr
    · skip
      refine r_b h hi hSt hlab ht hlen rd_s122 wr_s122 bd_s122_b wb_s122_b ws_s122_b hq (by rw [hqt]; exact hts) tx (fun p hp => by rw [List.mem_singleton.mp hp]; exact ⟨(Int32.ofNat (wg [14348907, 28697814] (σ 9))), fun _ _ => rfl, Or.inr ⟨rfl, by rw [hqt]; exact htn⟩⟩) (fun h4 ρ ω' hR hω h17 hW h18 => At.mono (v_set (col := 2) hR hi (l1_lab.trans hlab) (wgl_64 _) hV.l1 hW (by decide +kernel) hq h18 (by decide) (by rw [tx.2.1]; decide) (WfC.al hC.l1)) (fun o ho => (ho.mono (by decide) (by decide)).imp (fun r hr => f1_some htn hq hqt ?_)))
      simp only [nmC_b tx]
      exact hr
theorem wr_s123 : wrB rt_s123 rW_s123 4294967295 = true := by decide +kernel
theorem wb_s123_n : wfrB (List.range 17) (rW_s123.take 15 ++ (wM0 ++ [])) bW_s123_n = true := by decide +kernel
theorem ws_s123_n : wsmB bW_s123_n = true := by decide +kernel
theorem wb_s123_a : wfrB (List.range 17) (rW_s123.take 15 ++ (wM0 ++ bT0)) bW_s123_a = true := by decide +kernel
theorem ws_s123_a : wsmB bW_s123_a = true := by decide +kernel
theorem wb_s123_b : wfrB (List.range 17) (rW_s123.take 15 ++ (wM0 ++ bT1)) bW_s123_b = true := by decide +kernel
theorem ws_s123_b : wsmB bW_s123_b = true := by decide +kernel
def F_s123 (σ : Nat → Nat) : MF := f1 (Int32.ofNat (wg [14348907, 28697814] (σ 9))) 4 (fun q M i ln => setM M i ln q (nmC q 1 2) (nmC q (fmW σ bW_s123_a) (fmW σ bW_s123_b)) (nmC q (fvW σ bW_s123_a) (fvW σ bW_s123_b)))
theorem sh_s123 {S : List Int32} {hp : List XC} {ow : Nat → Nat} {k : Nat} {A : Nat → Nat} {M : HM} {rf : Int32} {np nl i : Nat} {σ : Nat → Nat} (h : HR hp ow k A M rf np nl) (hi : i < 8) (hV : WfV M i) (hC : WfC M i) (hT : WfT M) (hlab : (M.2.2.2.1 i).1 = Int32.ofNat (wg [0, 1, 16, 17] (σ 10))) (hmd : M.2.2.2.2.2.1 + 1 = nSr σ) (hsl : ∀ i, i < 8 → (M.2.2.2.1 i).2.2.2.1.length ≤ 3000) (hshf : M.2.1.length ≤ 3000) (ht : ((M.2.2.2.1 i).2.2.2.2.2.2.2.2.take rt_s123.length).map Value.int = wtT σ rt_s123) (hlen : (M.2.2.2.1 i).2.2.2.2.2.2.2.1 = rt_s123.length) : At S 12 40 0 [(0, .ref (A 0)), (1, .int (Int32.ofNat i))] [] hp 0 0 (QR hp ow k A np nl 99 50000 (fun r => F_s123 σ (M1l M i) i (wg [0, 1, 16, 17] (σ 10)) r)) := by
  have hSt : StT M.2.2.2.2.2.2 M.1 := hV.2.2.2.1
  cases htn : tnM M (M.2.2.2.1 i).1 (Int32.ofNat (wg [14348907, 28697814] (σ 9))) with
  | none =>
    exact r_none h hi hSt hlab ht hlen rd_s123 wr_s123 bd_s123_n wb_s123_n ws_s123_n (fun p hp => by rw [List.mem_singleton.mp hp]; exact ⟨rfl, (Int32.ofNat (wg [14348907, 28697814] (σ 9))), fun _ _ => rfl, htn⟩) (fun h4 ρ ω' hR hω h17 hW => At.mono (v_flt hR hi (l1_lab.trans hlab) (wgl_64 _) (by decide)) (fun o ho => (ho.mono (by decide) (by decide)).imp (fun r hr => f1_none htn hr)))
  | some t =>
    obtain ⟨q, hq, hqt, hts, hqn, hqb, -⟩ := h.found hSt htn
    rcases hT q hq with tx | tx
    · skip
      refine r_a h hi hSt hlab ht hlen rd_s123 wr_s123 bd_s123_a wb_s123_a ws_s123_a hq (by rw [hqt]; exact hts) tx (fun p hp => by rw [List.mem_singleton.mp hp]; exact ⟨(Int32.ofNat (wg [14348907, 28697814] (σ 9))), fun _ _ => rfl, Or.inr ⟨rfl, by rw [hqt]; exact htn⟩⟩) (fun h4 ρ ω' hR hω h17 hW h18 => At.mono (v_set (col := 1) hR hi (l1_lab.trans hlab) (wgl_64 _) hV.l1 hW (by decide +kernel) hq h18 (by decide) (by rw [tx.2.1]; decide) (WfC.al hC.l1)) (fun o ho => (ho.mono (by decide) (by decide)).imp (fun r hr => f1_some htn hq hqt ?_)))
      simp only [nmC_a tx]
      exact hr
    · skip
      refine r_b h hi hSt hlab ht hlen rd_s123 wr_s123 bd_s123_b wb_s123_b ws_s123_b hq (by rw [hqt]; exact hts) tx (fun p hp => by rw [List.mem_singleton.mp hp]; exact ⟨(Int32.ofNat (wg [14348907, 28697814] (σ 9))), fun _ _ => rfl, Or.inr ⟨rfl, by rw [hqt]; exact htn⟩⟩) (fun h4 ρ ω' hR hω h17 hW h18 => At.mono (v_set (col := 2) hR hi (l1_lab.trans hlab) (wgl_64 _) hV.l1 hW (by decide +kernel) hq h18 (by decide) (by rw [tx.2.1]; decide) (WfC.al hC.l1)) (fun o ho => (ho.mono (by decide) (by decide)).imp (fun r hr => f1_some htn hq hqt ?_)))
      simp only [nmC_b tx]
      exact hr
