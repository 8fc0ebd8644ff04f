/-! the house: the law's texts are run (written by wip/p27/c999999999990.py) -/
theorem wr_s000 : wrB rt_s000 rW_s000 4294967295 = true := by decide +kernel
theorem wb_s000_n : wfrB (List.range 17) (rW_s000.take 15 ++ (wM0 ++ [])) bW_s000_n = true := by decide +kernel
theorem ws_s000_n : wsmB bW_s000_n = true := by decide +kernel
theorem wb_s000_a : wfrB (List.range 17) (rW_s000.take 15 ++ (wM0 ++ bT0)) bW_s000_a = true := by decide +kernel
theorem ws_s000_a : wsmB bW_s000_a = true := by decide +kernel
theorem wb_s000_b : wfrB (List.range 17) (rW_s000.take 15 ++ (wM0 ++ bT1)) bW_s000_b = true := by decide +kernel
theorem ws_s000_b : wsmB bW_s000_b = true := by decide +kernel
def F_s000 (σ : Nat → Nat) : MF := f1 (Int32.ofNat (wg [14348907, 28697814] (σ 9))) 4 (fun q M i ln => setM M i ln q (nmC q 1 2) (nmC q (fmW σ bW_s000_a) (fmW σ bW_s000_b)) (nmC q (fvW σ bW_s000_a) (fvW σ bW_s000_b)))
theorem sh_s000 {S : List Int32} {hp : List XC} {ow : Nat → Nat} {k : Nat} {A : Nat → Nat} {M : HM} {rf : Int32} {np nl i : Nat} {σ : Nat → Nat} (h : HR hp ow k A M rf np nl) (hi : i < 8) (hV : WfV M i) (hC : WfC M i) (hT : WfT M) (hlab : (M.2.2.2.1 i).1 = Int32.ofNat (wg [0, 1, 16, 17] (σ 10))) (hmd : M.2.2.2.2.2.1 + 1 = nSr σ) (hsl : ∀ i, i < 8 → (M.2.2.2.1 i).2.2.2.1.length ≤ 3000) (hshf : M.2.1.length ≤ 3000) (ht : ((M.2.2.2.1 i).2.2.2.2.2.2.2.2.take rt_s000.length).map Value.int = wtT σ rt_s000) (hlen : (M.2.2.2.1 i).2.2.2.2.2.2.2.1 = rt_s000.length) : At S 12 40 0 [(0, .ref (A 0)), (1, .int (Int32.ofNat i))] [] hp 0 0 (QR hp ow k A np nl 99 50000 (fun r => F_s000 σ (M1l M i) i (wg [0, 1, 16, 17] (σ 10)) r)) := by
  have hSt : StT M.2.2.2.2.2.2 M.1 := hV.2.2.2.1
  cases htn : tnM M (M.2.2.2.1 i).1 (Int32.ofNat (wg [14348907, 28697814] (σ 9))) with
  | none =>
    exact r_none h hi hSt hlab ht hlen rd_s000 wr_s000 bd_s000_n wb_s000_n ws_s000_n (fun p hp => by rw [List.mem_singleton.mp hp]; exact ⟨rfl, (Int32.ofNat (wg [14348907, 28697814] (σ 9))), fun _ _ => rfl, htn⟩) (fun h4 ρ ω' hR hω h17 hW => At.mono (v_flt hR hi (l1_lab.trans hlab) (wgl_64 _) (by decide)) (fun o ho => (ho.mono (by decide) (by decide)).imp (fun r hr => f1_none htn hr)))
  | some t =>
    obtain ⟨q, hq, hqt, hts, hqn, hqb, -⟩ := h.found hSt htn
    rcases hT q hq with tx | tx
    · skip
      refine r_a h hi hSt hlab ht hlen rd_s000 wr_s000 bd_s000_a wb_s000_a ws_s000_a hq (by rw [hqt]; exact hts) tx (fun p hp => by rw [List.mem_singleton.mp hp]; exact ⟨(Int32.ofNat (wg [14348907, 28697814] (σ 9))), fun _ _ => rfl, Or.inr ⟨rfl, by rw [hqt]; exact htn⟩⟩) (fun h4 ρ ω' hR hω h17 hW h18 => At.mono (v_set (col := 1) hR hi (l1_lab.trans hlab) (wgl_64 _) hV.l1 hW (by decide +kernel) hq h18 (by decide) (by rw [tx.2.1]; decide) (WfC.al hC.l1)) (fun o ho => (ho.mono (by decide) (by decide)).imp (fun r hr => f1_some htn hq hqt ?_)))
      simp only [nmC_a tx]
      exact hr
    · skip
      refine r_b h hi hSt hlab ht hlen rd_s000 wr_s000 bd_s000_b wb_s000_b ws_s000_b hq (by rw [hqt]; exact hts) tx (fun p hp => by rw [List.mem_singleton.mp hp]; exact ⟨(Int32.ofNat (wg [14348907, 28697814] (σ 9))), fun _ _ => rfl, Or.inr ⟨rfl, by rw [hqt]; exact htn⟩⟩) (fun h4 ρ ω' hR hω h17 hW h18 => At.mono (v_set (col := 2) hR hi (l1_lab.trans hlab) (wgl_64 _) hV.l1 hW (by decide +kernel) hq h18 (by decide) (by rw [tx.2.1]; decide) (WfC.al hC.l1)) (fun o ho => (ho.mono (by decide) (by decide)).imp (fun r hr => f1_some htn hq hqt ?_)))
      simp only [nmC_b tx]
      exact hr
theorem wr_s001 : wrB rt_s001 rW_s001 4294967295 = true := by decide +kernel
theorem wb_s001_n : wfrB (List.range 17) (rW_s001.take 15 ++ (wM0 ++ [])) bW_s001_n = true := by decide +kernel
theorem ws_s001_n : wsmB bW_s001_n = true := by decide +kernel
theorem wb_s001_a : wfrB (List.range 17) (rW_s001.take 15 ++ (wM0 ++ bT0)) bW_s001_a = true := by decide +kernel
theorem ws_s001_a : wsmB bW_s001_a = true := by decide +kernel
theorem wb_s001_b : wfrB (List.range 17) (rW_s001.take 15 ++ (wM0 ++ bT1)) bW_s001_b = true := by decide +kernel
theorem ws_s001_b : wsmB bW_s001_b = true := by decide +kernel
def F_s001 (σ : Nat → Nat) : MF := f1 (Int32.ofNat (wg [14348907, 28697814] (σ 9))) 4 (fun q M i ln => setM M i ln q (nmC q 1 2) (nmC q (fmW σ bW_s001_a) (fmW σ bW_s001_b)) (nmC q (fvW σ bW_s001_a) (fvW σ bW_s001_b)))
theorem sh_s001 {S : List Int32} {hp : List XC} {ow : Nat → Nat} {k : Nat} {A : Nat → Nat} {M : HM} {rf : Int32} {np nl i : Nat} {σ : Nat → Nat} (h : HR hp ow k A M rf np nl) (hi : i < 8) (hV : WfV M i) (hC : WfC M i) (hT : WfT M) (hlab : (M.2.2.2.1 i).1 = Int32.ofNat (wg [0, 1, 16, 17] (σ 10))) (hmd : M.2.2.2.2.2.1 + 1 = nSr σ) (hsl : ∀ i, i < 8 → (M.2.2.2.1 i).2.2.2.1.length ≤ 3000) (hshf : M.2.1.length ≤ 3000) (ht : ((M.2.2.2.1 i).2.2.2.2.2.2.2.2.take rt_s001.length).map Value.int = wtT σ rt_s001) (hlen : (M.2.2.2.1 i).2.2.2.2.2.2.2.1 = rt_s001.length) : At S 12 40 0 [(0, .ref (A 0)), (1, .int (Int32.ofNat i))] [] hp 0 0 (QR hp ow k A np nl 99 50000 (fun r => F_s001 σ (M1l M i) i (wg [0, 1, 16, 17] (σ 10)) r)) := by
  have hSt : StT M.2.2.2.2.2.2 M.1 := hV.2.2.2.1
  cases htn : tnM M (M.2.2.2.1 i).1 (Int32.ofNat (wg [14348907, 28697814] (σ 9))) with
  | none =>
    exact r_none h hi hSt hlab ht hlen rd_s001 wr_s001 bd_s001_n wb_s001_n ws_s001_n (fun p hp => by rw [List.mem_singleton.mp hp]; exact ⟨rfl, (Int32.ofNat (wg [14348907, 28697814] (σ 9))), fun _ _ => rfl, htn⟩) (fun h4 ρ ω' hR hω h17 hW => At.mono (v_flt hR hi (l1_lab.trans hlab) (wgl_64 _) (by decide)) (fun o ho => (ho.mono (by decide) (by decide)).imp (fun r hr => f1_none htn hr)))
  | some t =>
    obtain ⟨q, hq, hqt, hts, hqn, hqb, -⟩ := h.found hSt htn
    rcases hT q hq with tx | tx
    · skip
      refine r_a h hi hSt hlab ht hlen rd_s001 wr_s001 bd_s001_a wb_s001_a ws_s001_a hq (by rw [hqt]; exact hts) tx (fun p hp => by rw [List.mem_singleton.mp hp]; exact ⟨(Int32.ofNat (wg [14348907, 28697814] (σ 9))), fun _ _ => rfl, Or.inr ⟨rfl, by rw [hqt]; exact htn⟩⟩) (fun h4 ρ ω' hR hω h17 hW h18 => At.mono (v_set (col := 1) hR hi (l1_lab.trans hlab) (wgl_64 _) hV.l1 hW (by decide +kernel) hq h18 (by decide) (by rw [tx.2.1]; decide) (WfC.al hC.l1)) (fun o ho => (ho.mono (by decide) (by decide)).imp (fun r hr => f1_some htn hq hqt ?_)))
      simp only [nmC_a tx]
      exact hr
    · skip
      refine r_b h hi hSt hlab ht hlen rd_s001 wr_s001 bd_s001_b wb_s001_b ws_s001_b hq (by rw [hqt]; exact hts) tx (fun p hp => by rw [List.mem_singleton.mp hp]; exact ⟨(Int32.ofNat (wg [14348907, 28697814] (σ 9))), fun _ _ => rfl, Or.inr ⟨rfl, by rw [hqt]; exact htn⟩⟩) (fun h4 ρ ω' hR hω h17 hW h18 => At.mono (v_set (col := 2) hR hi (l1_lab.trans hlab) (wgl_64 _) hV.l1 hW (by decide +kernel) hq h18 (by decide) (by rw [tx.2.1]; decide) (WfC.al hC.l1)) (fun o ho => (ho.mono (by decide) (by decide)).imp (fun r hr => f1_some htn hq hqt ?_)))
      simp only [nmC_b tx]
      exact hr
theorem wr_s002 : wrB rt_s002 rW_s002 4294967295 = true := by decide +kernel
theorem wb_s002_n : wfrB (List.range 17) (rW_s002.take 15 ++ (wM0 ++ [])) bW_s002_n = true := by decide +kernel
theorem ws_s002_n : wsmB bW_s002_n = true := by decide +kernel
theorem wb_s002_a : wfrB (List.range 17) (rW_s002.take 15 ++ (wM0 ++ bT0)) bW_s002_a = true := by decide +kernel
theorem ws_s002_a : wsmB bW_s002_a = true := by decide +kernel
theorem wb_s002_b : wfrB (List.range 17) (rW_s002.take 15 ++ (wM0 ++ bT1)) bW_s002_b = true := by decide +kernel
theorem ws_s002_b : wsmB bW_s002_b = true := by decide +kernel
def F_s002 (σ : Nat → Nat) : MF := f1 (Int32.ofNat (wg [14348907, 28697814] (σ 9))) 4 (fun q M i ln => setM M i ln q (nmC q 1 2) (nmC q (fmW σ bW_s002_a) (fmW σ bW_s002_b)) (nmC q (fvW σ bW_s002_a) (fvW σ bW_s002_b)))
theorem sh_s002 {S : List Int32} {hp : List XC} {ow : Nat → Nat} {k : Nat} {A : Nat → Nat} {M : HM} {rf : Int32} {np nl i : Nat} {σ : Nat → Nat} (h : HR hp ow k A M rf np nl) (hi : i < 8) (hV : WfV M i) (hC : WfC M i) (hT : WfT M) (hlab : (M.2.2.2.1 i).1 = Int32.ofNat (wg [0, 1, 16, 17] (σ 10))) (hmd : M.2.2.2.2.2.1 + 1 = nSr σ) (hsl : ∀ i, i < 8 → (M.2.2.2.1 i).2.2.2.1.length ≤ 3000) (hshf : M.2.1.length ≤ 3000) (ht : ((M.2.2.2.1 i).2.2.2.2.2.2.2.2.take rt_s002.length).map Value.int = wtT σ rt_s002) (hlen : (M.2.2.2.1 i).2.2.2.2.2.2.2.1 = rt_s002.length) : At S 12 40 0 [(0, .ref (A 0)), (1, .int (Int32.ofNat i))] [] hp 0 0 (QR hp ow k A np nl 99 50000 (fun r => F_s002 σ (M1l M i) i (wg [0, 1, 16, 17] (σ 10)) r)) := by
  have hSt : StT M.2.2.2.2.2.2 M.1 := hV.2.2.2.1
  cases htn : tnM M (M.2.2.2.1 i).1 (Int32.ofNat (wg [14348907, 28697814] (σ 9))) with
  | none =>
    exact r_none h hi hSt hlab ht hlen rd_s002 wr_s002 bd_s002_n wb_s002_n ws_s002_n (fun p hp => by rw [List.mem_singleton.mp hp]; exact ⟨rfl, (Int32.ofNat (wg [14348907, 28697814] (σ 9))), fun _ _ => rfl, htn⟩) (fun h4 ρ ω' hR hω h17 hW => At.mono (v_flt hR hi (l1_lab.trans hlab) (wgl_64 _) (by decide)) (fun o ho => (ho.mono (by decide) (by decide)).imp (fun r hr => f1_none htn hr)))
  | some t =>
    obtain ⟨q, hq, hqt, hts, hqn, hqb, -⟩ := h.found hSt htn
    rcases hT q hq with tx | tx
    · skip
      refine r_a h hi hSt hlab ht hlen rd_s002 wr_s002 bd_s002_a wb_s002_a ws_s002_a hq (by rw [hqt]; exact hts) tx (fun p hp => by rw [List.mem_singleton.mp hp]; exact ⟨(Int32.ofNat (wg [14348907, 28697814] (σ 9))), fun _ _ => rfl, Or.inr ⟨rfl, by rw [hqt]; exact htn⟩⟩) (fun h4 ρ ω' hR hω h17 hW h18 => At.mono (v_set (col := 1) hR hi (l1_lab.trans hlab) (wgl_64 _) hV.l1 hW (by decide +kernel) hq h18 (by decide) (by rw [tx.2.1]; decide) (WfC.al hC.l1)) (fun o ho => (ho.mono (by decide) (by decide)).imp (fun r hr => f1_some htn hq hqt ?_)))
      simp only [nmC_a tx]
      exact hr
    · skip
      refine r_b h hi hSt hlab ht hlen rd_s002 wr_s002 bd_s002_b wb_s002_b ws_s002_b hq (by rw [hqt]; exact hts) tx (fun p hp => by rw [List.mem_singleton.mp hp]; exact ⟨(Int32.ofNat (wg [14348907, 28697814] (σ 9))), fun _ _ => rfl, Or.inr ⟨rfl, by rw [hqt]; exact htn⟩⟩) (fun h4 ρ ω' hR hω h17 hW h18 => At.mono (v_set (col := 2) hR hi (l1_lab.trans hlab) (wgl_64 _) hV.l1 hW (by decide +kernel) hq h18 (by decide) (by rw [tx.2.1]; decide) (WfC.al hC.l1)) (fun o ho => (ho.mono (by decide) (by decide)).imp (fun r hr => f1_some htn hq hqt ?_)))
      simp only [nmC_b tx]
      exact hr
theorem wr_s003 : wrB rt_s003 rW_s003 4294967295 = true := by decide +kernel
theorem wb_s003_n : wfrB (List.range 17) (rW_s003.take 15 ++ (wM0 ++ [])) bW_s003_n = true := by decide +kernel
theorem ws_s003_n : wsmB bW_s003_n = true := by decide +kernel
theorem wb_s003_a : wfrB (List.range 17) (rW_s003.take 15 ++ (wM0 ++ bT0)) bW_s003_a = true := by decide +kernel
theorem ws_s003_a : wsmB bW_s003_a = true := by decide +kernel
theorem wb_s003_b : wfrB (List.range 17) (rW_s003.take 15 ++ (wM0 ++ bT1)) bW_s003_b = true := by decide +kernel
theorem ws_s003_b : wsmB bW_s003_b = true := by decide +kernel
def F_s003 (σ : Nat → Nat) : MF := f1 (Int32.ofNat (wg [14348907, 28697814] (σ 9))) 4 (fun q M i ln => setM M i ln q (nmC q 1 2) (nmC q (fmW σ bW_s003_a) (fmW σ bW_s003_b)) (nmC q (fvW σ bW_s003_a) (fvW σ bW_s003_b)))
theorem sh_s003 {S : List Int32} {hp : List XC} {ow : Nat → Nat} {k : Nat} {A : Nat → Nat} {M : HM} {rf : Int32} {np nl i : Nat} {σ : Nat → Nat} (h : HR hp ow k A M rf np nl) (hi : i < 8) (hV : WfV M i) (hC : WfC M i) (hT : WfT M) (hlab : (M.2.2.2.1 i).1 = Int32.ofNat (wg [0, 1, 16, 17] (σ 10))) (hmd : M.2.2.2.2.2.1 + 1 = nSr σ) (hsl : ∀ i, i < 8 → (M.2.2.2.1 i).2.2.2.1.length ≤ 3000) (hshf : M.2.1.length ≤ 3000) (ht : ((M.2.2.2.1 i).2.2.2.2.2.2.2.2.take rt_s003.length).map Value.int = wtT σ rt_s003) (hlen : (M.2.2.2.1 i).2.2.2.2.2.2.2.1 = rt_s003.length) : At S 12 40 0 [(0, .ref (A 0)), (1, .int (Int32.ofNat i))] [] hp 0 0 (QR hp ow k A np nl 99 50000 (fun r => F_s003 σ (M1l M i) i (wg [0, 1, 16, 17] (σ 10)) r)) := by
  have hSt : StT M.2.2.2.2.2.2 M.1 := hV.2.2.2.1
  cases htn : tnM M (M.2.2.2.1 i).1 (Int32.ofNat (wg [14348907, 28697814] (σ 9))) with
  | none =>
    exact r_none h hi hSt hlab ht hlen rd_s003 wr_s003 bd_s003_n wb_s003_n ws_s003_n (fun p hp => by rw [List.mem_singleton.mp hp]; exact ⟨rfl, (Int32.ofNat (wg [14348907, 28697814] (σ 9))), fun _ _ => rfl, htn⟩) (fun h4 ρ ω' hR hω h17 hW => At.mono (v_flt hR hi (l1_lab.trans hlab) (wgl_64 _) (by decide)) (fun o ho => (ho.mono (by decide) (by decide)).imp (fun r hr => f1_none htn hr)))
  | some t =>
    obtain ⟨q, hq, hqt, hts, hqn, hqb, -⟩ := h.found hSt htn
    rcases hT q hq with tx | tx
    · skip
      refine r_a h hi hSt hlab ht hlen rd_s003 wr_s003 bd_s003_a wb_s003_a ws_s003_a hq (by rw [hqt]; exact hts) tx (fun p hp => by rw [List.mem_singleton.mp hp]; exact ⟨(Int32.ofNat (wg [14348907, 28697814] (σ 9))), fun _ _ => rfl, Or.inr ⟨rfl, by rw [hqt]; exact htn⟩⟩) (fun h4 ρ ω' hR hω h17 hW h18 => At.mono (v_set (col := 1) hR hi (l1_lab.trans hlab) (wgl_64 _) hV.l1 hW (by decide +kernel) hq h18 (by decide) (by rw [tx.2.1]; decide) (WfC.al hC.l1)) (fun o ho => (ho.mono (by decide) (by decide)).imp (fun r hr => f1_some htn hq hqt ?_)))
      simp only [nmC_a tx]
      exact hr
    · skip
      refine r_b h hi hSt hlab ht hlen rd_s003 wr_s003 bd_s003_b wb_s003_b ws_s003_b hq (by rw [hqt]; exact hts) tx (fun p hp => by rw [List.mem_singleton.mp hp]; exact ⟨(Int32.ofNat (wg [14348907, 28697814] (σ 9))), fun _ _ => rfl, Or.inr ⟨rfl, by rw [hqt]; exact htn⟩⟩) (fun h4 ρ ω' hR hω h17 hW h18 => At.mono (v_set (col := 2) hR hi (l1_lab.trans hlab) (wgl_64 _) hV.l1 hW (by decide +kernel) hq h18 (by decide) (by rw [tx.2.1]; decide) (WfC.al hC.l1)) (fun o ho => (ho.mono (by decide) (by decide)).imp (fun r hr => f1_some htn hq hqt ?_)))
      simp only [nmC_b tx]
      exact hr
theorem wr_s010 : wrB rt_s010 rW_s010 4294967295 = true := by decide +kernel
theorem wb_s010_n : wfrB (List.range 17) (rW_s010.take 15 ++ (wM0 ++ [])) bW_s010_n = true := by decide +kernel
theorem ws_s010_n : wsmB bW_s010_n = true := by decide +kernel
theorem wb_s010_a : wfrB (List.range 17) (rW_s010.take 15 ++ (wM0 ++ bT0)) bW_s010_a = true := by decide +kernel
theorem ws_s010_a : wsmB bW_s010_a = true := by decide +kernel
theorem wb_s010_b : wfrB (List.range 17) (rW_s010.take 15 ++ (wM0 ++ bT1)) bW_s010_b = true := by decide +kernel
theorem ws_s010_b : wsmB bW_s010_b = true := by decide +kernel
def F_s010 (σ : Nat → Nat) : MF := f1 (Int32.ofNat (wg [14348907, 28697814] (σ 9))) 4 (fun q M i ln => setM M i ln q (nmC q 1 2) (nmC q (fmW σ bW_s010_a) (fmW σ bW_s010_b)) (nmC q (fvW σ bW_s010_a) (fvW σ bW_s010_b)))
theorem sh_s010 {S : List Int32} {hp : List XC} {ow : Nat → Nat} {k : Nat} {A : Nat → Nat} {M : HM} {rf : Int32} {np nl i : Nat} {σ : Nat → Nat} (h : HR hp ow k A M rf np nl) (hi : i < 8) (hV : WfV M i) (hC : WfC M i) (hT : WfT M) (hlab : (M.2.2.2.1 i).1 = Int32.ofNat (wg [0, 1, 16, 17] (σ 10))) (hmd : M.2.2.2.2.2.1 + 1 = nSr σ) (hsl : ∀ i, i < 8 → (M.2.2.2.1 i).2.2.2.1.length ≤ 3000) (hshf : M.2.1.length ≤ 3000) (ht : ((M.2.2.2.1 i).2.2.2.2.2.2.2.2.take rt_s010.length).map Value.int = wtT σ rt_s010) (hlen : (M.2.2.2.1 i).2.2.2.2.2.2.2.1 = rt_s010.length) : At S 12 40 0 [(0, .ref (A 0)), (1, .int (Int32.ofNat i))] [] hp 0 0 (QR hp ow k A np nl 99 50000 (fun r => F_s010 σ (M1l M i) i (wg [0, 1, 16, 17] (σ 10)) r)) := by
  have hSt : StT M.2.2.2.2.2.2 M.1 := hV.2.2.2.1
  cases htn : tnM M (M.2.2.2.1 i).1 (Int32.ofNat (wg [14348907, 28697814] (σ 9))) with
  | none =>
    exact r_none h hi hSt hlab ht hlen rd_s010 wr_s010 bd_s010_n wb_s010_n ws_s010_n (fun p hp => by rw [List.mem_singleton.mp hp]; exact ⟨rfl, (Int32.ofNat (wg [14348907, 28697814] (σ 9))), fun _ _ => rfl, htn⟩) (fun h4 ρ ω' hR hω h17 hW => At.mono (v_flt hR hi (l1_lab.trans hlab) (wgl_64 _) (by decide)) (fun o ho => (ho.mono (by decide) (by decide)).imp (fun r hr => f1_none htn hr)))
  | some t =>
    obtain ⟨q, hq, hqt, hts, hqn, hqb, -⟩ := h.found hSt htn
    rcases hT q hq with tx | tx
    · skip
      refine r_a h hi hSt hlab ht hlen rd_s010 wr_s010 bd_s010_a wb_s010_a ws_s010_a hq (by rw [hqt]; exact hts) tx (fun p hp => by rw [List.mem_singleton.mp hp]; exact ⟨(Int32.ofNat (wg [14348907, 28697814] (σ 9))), fun _ _ => rfl, Or.inr ⟨rfl, by rw [hqt]; exact htn⟩⟩) (fun h4 ρ ω' hR hω h17 hW h18 => At.mono (v_set (col := 1) hR hi (l1_lab.trans hlab) (wgl_64 _) hV.l1 hW (by decide +kernel) hq h18 (by decide) (by rw [tx.2.1]; decide) (WfC.al hC.l1)) (fun o ho => (ho.mono (by decide) (by decide)).imp (fun r hr => f1_some htn hq hqt ?_)))
      simp only [nmC_a tx]
      exact hr
    · skip
      refine r_b h hi hSt hlab ht hlen rd_s010 wr_s010 bd_s010_b wb_s010_b ws_s010_b hq (by rw [hqt]; exact hts) tx (fun p hp => by rw [List.mem_singleton.mp hp]; exact ⟨(Int32.ofNat (wg [14348907, 28697814] (σ 9))), fun _ _ => rfl, Or.inr ⟨rfl, by rw [hqt]; exact htn⟩⟩) (fun h4 ρ ω' hR hω h17 hW h18 => At.mono (v_set (col := 2) hR hi (l1_lab.trans hlab) (wgl_64 _) hV.l1 hW (by decide +kernel) hq h18 (by decide) (by rw [tx.2.1]; decide) (WfC.al hC.l1)) (fun o ho => (ho.mono (by decide) (by decide)).imp (fun r hr => f1_some htn hq hqt ?_)))
      simp only [nmC_b tx]
      exact hr
theorem wr_s011 : wrB rt_s011 rW_s011 4294967295 = true := by decide +kernel
theorem wb_s011_n : wfrB (List.range 17) (rW_s011.take 15 ++ (wM0 ++ [])) bW_s011_n = true := by decide +kernel
theorem ws_s011_n : wsmB bW_s011_n = true := by decide +kernel
theorem wb_s011_a : wfrB (List.range 17) (rW_s011.take 15 ++ (wM0 ++ bT0)) bW_s011_a = true := by decide +kernel
theorem ws_s011_a : wsmB bW_s011_a = true := by decide +kernel
theorem wb_s011_b : wfrB (List.range 17) (rW_s011.take 15 ++ (wM0 ++ bT1)) bW_s011_b = true := by decide +kernel
theorem ws_s011_b : wsmB bW_s011_b = true := by decide +kernel
def F_s011 (σ : Nat → Nat) : MF := f1 (Int32.ofNat (wg [14348907, 28697814] (σ 9))) 4 (fun q M i ln => setM M i ln q (nmC q 1 2) (nmC q (fmW σ bW_s011_a) (fmW σ bW_s011_b)) (nmC q (fvW σ bW_s011_a) (fvW σ bW_s011_b)))
theorem sh_s011 {S : List Int32} {hp : List XC} {ow : Nat → Nat} {k : Nat} {A : Nat → Nat} {M : HM} {rf : Int32} {np nl i : Nat} {σ : Nat → Nat} (h : HR hp ow k A M rf np nl) (hi : i < 8) (hV : WfV M i) (hC : WfC M i) (hT : WfT M) (hlab : (M.2.2.2.1 i).1 = Int32.ofNat (wg [0, 1, 16, 17] (σ 10))) (hmd : M.2.2.2.2.2.1 + 1 = nSr σ) (hsl : ∀ i, i < 8 → (M.2.2.2.1 i).2.2.2.1.length ≤ 3000) (hshf : M.2.1.length ≤ 3000) (ht : ((M.2.2.2.1 i).2.2.2.2.2.2.2.2.take rt_s011.length).map Value.int = wtT σ rt_s011) (hlen : (M.2.2.2.1 i).2.2.2.2.2.2.2.1 = rt_s011.length) : At S 12 40 0 [(0, .ref (A 0)), (1, .int (Int32.ofNat i))] [] hp 0 0 (QR hp ow k A np nl 99 50000 (fun r => F_s011 σ (M1l M i) i (wg [0, 1, 16, 17] (σ 10)) r)) := by
  have hSt : StT M.2.2.2.2.2.2 M.1 := hV.2.2.2.1
  cases htn : tnM M (M.2.2.2.1 i).1 (Int32.ofNat (wg [14348907, 28697814] (σ 9))) with
  | none =>
    exact r_none h hi hSt hlab ht hlen rd_s011 wr_s011 bd_s011_n wb_s011_n ws_s011_n (fun p hp => by rw [List.mem_singleton.mp hp]; exact ⟨rfl, (Int32.ofNat (wg [14348907, 28697814] (σ 9))), fun _ _ => rfl, htn⟩) (fun h4 ρ ω' hR hω h17 hW => At.mono (v_flt hR hi (l1_lab.trans hlab) (wgl_64 _) (by decide)) (fun o ho => (ho.mono (by decide) (by decide)).imp (fun r hr => f1_none htn hr)))
  | some t =>
    obtain ⟨q, hq, hqt, hts, hqn, hqb, -⟩ := h.found hSt htn
    rcases hT q hq with tx | tx
    · skip
      refine r_a h hi hSt hlab ht hlen rd_s011 wr_s011 bd_s011_a wb_s011_a ws_s011_a hq (by rw [hqt]; exact hts) tx (fun p hp => by rw [List.mem_singleton.mp hp]; exact ⟨(Int32.ofNat (wg [14348907, 28697814] (σ 9))), fun _ _ => rfl, Or.inr ⟨rfl, by rw [hqt]; exact htn⟩⟩) (fun h4 ρ ω' hR hω h17 hW h18 => At.mono (v_set (col := 1) hR hi (l1_lab.trans hlab) (wgl_64 _) hV.l1 hW (by decide +kernel) hq h18 (by decide) (by rw [tx.2.1]; decide) (WfC.al hC.l1)) (fun o ho => (ho.mono (by decide) (by decide)).imp (fun r hr => f1_some htn hq hqt ?_)))
      simp only [nmC_a tx]
      exact hr
    · skip
      refine r_b h hi hSt hlab ht hlen rd_s011 wr_s011 bd_s011_b wb_s011_b ws_s011_b hq (by rw [hqt]; exact hts) tx (fun p hp => by rw [List.mem_singleton.mp hp]; exact ⟨(Int32.ofNat (wg [14348907, 28697814] (σ 9))), fun _ _ => rfl, Or.inr ⟨rfl, by rw [hqt]; exact htn⟩⟩) (fun h4 ρ ω' hR hω h17 hW h18 => At.mono (v_set (col := 2) hR hi (l1_lab.trans hlab) (wgl_64 _) hV.l1 hW (by decide +kernel) hq h18 (by decide) (by rw [tx.2.1]; decide) (WfC.al hC.l1)) (fun o ho => (ho.mono (by decide) (by decide)).imp (fun r hr => f1_some htn hq hqt ?_)))
      simp only [nmC_b tx]
      exact hr
theorem wr_s012 : wrB rt_s012 rW_s012 4294967295 = true := by decide +kernel
theorem wb_s012_n : wfrB (List.range 17) (rW_s012.take 15 ++ (wM0 ++ [])) bW_s012_n = true := by decide +kernel
theorem ws_s012_n : wsmB bW_s012_n = true := by decide +kernel
theorem wb_s012_a : wfrB (List.range 17) (rW_s012.take 15 ++ (wM0 ++ bT0)) bW_s012_a = true := by decide +kernel
theorem ws_s012_a : wsmB bW_s012_a = true := by decide +kernel
theorem wb_s012_b : wfrB (List.range 17) (rW_s012.take 15 ++ (wM0 ++ bT1)) bW_s012_b = true := by decide +kernel
theorem ws_s012_b : wsmB bW_s012_b = true := by decide +kernel
def F_s012 (σ : Nat → Nat) : MF := f1 (Int32.ofNat (wg [14348907, 28697814] (σ 9))) 4 (fun q M i ln => setM M i ln q (nmC q 1 2) (nmC q (fmW σ bW_s012_a) (fmW σ bW_s012_b)) (nmC q (fvW σ bW_s012_a) (fvW σ bW_s012_b)))
theorem sh_s012 {S : List Int32} {hp : List XC} {ow : Nat → Nat} {k : Nat} {A : Nat → Nat} {M : HM} {rf : Int32} {np nl i : Nat} {σ : Nat → Nat} (h : HR hp ow k A M rf np nl) (hi : i < 8) (hV : WfV M i) (hC : WfC M i) (hT : WfT M) (hlab : (M.2.2.2.1 i).1 = Int32.ofNat (wg [0, 1, 16, 17] (σ 10))) (hmd : M.2.2.2.2.2.1 + 1 = nSr σ) (hsl : ∀ i, i < 8 → (M.2.2.2.1 i).2.2.2.1.length ≤ 3000) (hshf : M.2.1.length ≤ 3000) (ht : ((M.2.2.2.1 i).2.2.2.2.2.2.2.2.take rt_s012.length).map Value.int = wtT σ rt_s012) (hlen : (M.2.2.2.1 i).2.2.2.2.2.2.2.1 = rt_s012.length) : At S 12 40 0 [(0, .ref (A 0)), (1, .int (Int32.ofNat i))] [] hp 0 0 (QR hp ow k A np nl 99 50000 (fun r => F_s012 σ (M1l M i) i (wg [0, 1, 16, 17] (σ 10)) r)) := by
  have hSt : StT M.2.2.2.2.2.2 M.1 := hV.2.2.2.1
  cases htn : tnM M (M.2.2.2.1 i).1 (Int32.ofNat (wg [14348907, 28697814] (σ 9))) with
  | none =>
    exact r_none h hi hSt hlab ht hlen rd_s012 wr_s012 bd_s012_n wb_s012_n ws_s012_n (fun p hp => by rw [List.mem_singleton.mp hp]; exact ⟨rfl, (Int32.ofNat (wg [14348907, 28697814] (σ 9))), fun _ _ => rfl, htn⟩) (fun h4 ρ ω' hR hω h17 hW => At.mono (v_flt hR hi (l1_lab.trans hlab) (wgl_64 _) (by decide)) (fun o ho => (ho.mono (by decide) (by decide)).imp (fun r hr => f1_none htn hr)))
  | some t =>
    obtain ⟨q, hq, hqt, hts, hqn, hqb, -⟩ := h.found hSt htn
    rcases hT q hq with tx | tx
    · skip
      refine r_a h hi hSt hlab ht hlen rd_s012 wr_s012 bd_s012_a wb_s012_a ws_s012_a hq (by rw [hqt]; exact hts) tx (fun p hp => by rw [List.mem_singleton.mp hp]; exact ⟨(Int32.ofNat (wg [14348907, 28697814] (σ 9))), fun _ _ => rfl, Or.inr ⟨rfl, by rw [hqt]; exact htn⟩⟩) (fun h4 ρ ω' hR hω h17 hW h18 => At.mono (v_set (col := 1) hR hi (l1_lab.trans hlab) (wgl_64 _) hV.l1 hW (by decide +kernel) hq h18 (by decide) (by rw [tx.2.1]; decide) (WfC.al hC.l1)) (fun o ho => (ho.mono (by decide) (by decide)).imp (fun r hr => f1_some htn hq hqt ?_)))
      simp only [nmC_a tx]
      exact hr
    · skip
      refine r_b h hi hSt hlab ht hlen rd_s012 wr_s012 bd_s012_b wb_s012_b ws_s012_b hq (by rw [hqt]; exact hts) tx (fun p hp => by rw [List.mem_singleton.mp hp]; exact ⟨(Int32.ofNat (wg [14348907, 28697814] (σ 9))), fun _ _ => rfl, Or.inr ⟨rfl, by rw [hqt]; exact htn⟩⟩) (fun h4 ρ ω' hR hω h17 hW h18 => At.mono (v_set (col := 2) hR hi (l1_lab.trans hlab) (wgl_64 _) hV.l1 hW (by decide +kernel) hq h18 (by decide) (by rw [tx.2.1]; decide) (WfC.al hC.l1)) (fun o ho => (ho.mono (by decide) (by decide)).imp (fun r hr => f1_some htn hq hqt ?_)))
      simp only [nmC_b tx]
      exact hr
theorem wr_s013 : wrB rt_s013 rW_s013 4294967295 = true := by decide +kernel
theorem wb_s013_n : wfrB (List.range 17) (rW_s013.take 15 ++ (wM0 ++ [])) bW_s013_n = true := by decide +kernel
theorem ws_s013_n : wsmB bW_s013_n = true := by decide +kernel
theorem wb_s013_a : wfrB (List.range 17) (rW_s013.take 15 ++ (wM0 ++ bT0)) bW_s013_a = true := by decide +kernel
theorem ws_s013_a : wsmB bW_s013_a = true := by decide +kernel
theorem wb_s013_b : wfrB (List.range 17) (rW_s013.take 15 ++ (wM0 ++ bT1)) bW_s013_b = true := by decide +kernel
theorem ws_s013_b : wsmB bW_s013_b = true := by decide +kernel
def F_s013 (σ : Nat → Nat) : MF := f1 (Int32.ofNat (wg [14348907, 28697814] (σ 9))) 4 (fun q M i ln => setM M i ln q (nmC q 1 2) (nmC q (fmW σ bW_s013_a) (fmW σ bW_s013_b)) (nmC q (fvW σ bW_s013_a) (fvW σ bW_s013_b)))
theorem sh_s013 {S : List Int32} {hp : List XC} {ow : Nat → Nat} {k : Nat} {A : Nat → Nat} {M : HM} {rf : Int32} {np nl i : Nat} {σ : Nat → Nat} (h : HR hp ow k A M rf np nl) (hi : i < 8) (hV : WfV M i) (hC : WfC M i) (hT : WfT M) (hlab : (M.2.2.2.1 i).1 = Int32.ofNat (wg [0, 1, 16, 17] (σ 10))) (hmd : M.2.2.2.2.2.1 + 1 = nSr σ) (hsl : ∀ i, i < 8 → (M.2.2.2.1 i).2.2.2.1.length ≤ 3000) (hshf : M.2.1.length ≤ 3000) (ht : ((M.2.2.2.1 i).2.2.2.2.2.2.2.2.take rt_s013.length).map Value.int = wtT σ rt_s013) (hlen : (M.2.2.2.1 i).2.2.2.2.2.2.2.1 = rt_s013.length) : At S 12 40 0 [(0, .ref (A 0)), (1, .int (Int32.ofNat i))] [] hp 0 0 (QR hp ow k A np nl 99 50000 (fun r => F_s013 σ (M1l M i) i (wg [0, 1, 16, 17] (σ 10)) r)) := by
  have hSt : StT M.2.2.2.2.2.2 M.1 := hV.2.2.2.1
  cases htn : tnM M (M.2.2.2.1 i).1 (Int32.ofNat (wg [14348907, 28697814] (σ 9))) with
  | none =>
    exact r_none h hi hSt hlab ht hlen rd_s013 wr_s013 bd_s013_n wb_s013_n ws_s013_n (fun p hp => by rw [List.mem_singleton.mp hp]; exact ⟨rfl, (Int32.ofNat (wg [14348907, 28697814] (σ 9))), fun _ _ => rfl, htn⟩) (fun h4 ρ ω' hR hω h17 hW => At.mono (v_flt hR hi (l1_lab.trans hlab) (wgl_64 _) (by decide)) (fun o ho => (ho.mono (by decide) (by decide)).imp (fun r hr => f1_none htn hr)))
  | some t =>
    obtain ⟨q, hq, hqt, hts, hqn, hqb, -⟩ := h.found hSt htn
    rcases hT q hq with tx | tx
    · skip
      refine r_a h hi hSt hlab ht hlen rd_s013 wr_s013 bd_s013_a wb_s013_a ws_s013_a hq (by rw [hqt]; exact hts) tx (fun p hp => by rw [List.mem_singleton.mp hp]; exact ⟨(Int32.ofNat (wg [14348907, 28697814] (σ 9))), fun _ _ => rfl, Or.inr ⟨rfl, by rw [hqt]; exact htn⟩⟩) (fun h4 ρ ω' hR hω h17 hW h18 => At.mono (v_set (col := 1) hR hi (l1_lab.trans hlab) (wgl_64 _) hV.l1 hW (by decide +kernel) hq h18 (by decide) (by rw [tx.2.1]; decide) (WfC.al hC.l1)) (fun o ho => (ho.mono (by decide) (by decide)).imp (fun r hr => f1_some htn hq hqt ?_)))
      simp only [nmC_a tx]
      exact hr
    · skip
      refine r_b h hi hSt hlab ht hlen rd_s013 wr_s013 bd_s013_b wb_s013_b ws_s013_b hq (by rw [hqt]; exact hts) tx (fun p hp => by rw [List.mem_singleton.mp hp]; exact ⟨(Int32.ofNat (wg [14348907, 28697814] (σ 9))), fun _ _ => rfl, Or.inr ⟨rfl, by rw [hqt]; exact htn⟩⟩) (fun h4 ρ ω' hR hω h17 hW h18 => At.mono (v_set (col := 2) hR hi (l1_lab.trans hlab) (wgl_64 _) hV.l1 hW (by decide +kernel) hq h18 (by decide) (by rw [tx.2.1]; decide) (WfC.al hC.l1)) (fun o ho => (ho.mono (by decide) (by decide)).imp (fun r hr => f1_some htn hq hqt ?_)))
      simp only [nmC_b tx]
      exact hr
theorem wr_s020 : wrB rt_s020 rW_s020 4294967295 = true := by decide +kernel
theorem wb_s020_n : wfrB (List.range 17) (rW_s020.take 15 ++ (wM0 ++ [])) bW_s020_n = true := by decide +kernel
theorem ws_s020_n : wsmB bW_s020_n = true := by decide +kernel
theorem wb_s020_a : wfrB (List.range 17) (rW_s020.take 15 ++ (wM0 ++ bT0)) bW_s020_a = true := by decide +kernel
theorem ws_s020_a : wsmB bW_s020_a = true := by decide +kernel
theorem wb_s020_b : wfrB (List.range 17) (rW_s020.take 15 ++ (wM0 ++ bT1)) bW_s020_b = true := by decide +kernel
theorem ws_s020_b : wsmB bW_s020_b = true := by decide +kernel
def F_s020 (σ : Nat → Nat) : MF := f1 (Int32.ofNat (wg [14348907, 28697814] (σ 9))) 4 (fun q M i ln => setM M i ln q (nmC q 1 2) (nmC q (fmW σ bW_s020_a) (fmW σ bW_s020_b)) (nmC q (fvW σ bW_s020_a) (fvW σ bW_s020_b)))
theorem sh_s020 {S : List Int32} {hp : List XC} {ow : Nat → Nat} {k : Nat} {A : Nat → Nat} {M : HM} {rf : Int32} {np nl i : Nat} {σ : Nat → Nat} (h : HR hp ow k A M rf np nl) (hi : i < 8) (hV : WfV M i) (hC : WfC M i) (hT : WfT M) (hlab : (M.2.2.2.1 i).1 = Int32.ofNat (wg [0, 1, 16, 17] (σ 10))) (hmd : M.2.2.2.2.2.1 + 1 = nSr σ) (hsl : ∀ i, i < 8 → (M.2.2.2.1 i).2.2.2.1.length ≤ 3000) (hshf : M.2.1.length ≤ 3000) (ht : ((M.2.2.2.1 i).2.2.2.2.2.2.2.2.take rt_s020.length).map Value.int = wtT σ rt_s020) (hlen : (M.2.2.2.1 i).2.2.2.2.2.2.2.1 = rt_s020.length) : At S 12 40 0 [(0, .ref (A 0)), (1, .int (Int32.ofNat i))] [] hp 0 0 (QR hp ow k A np nl 99 50000 (fun r => F_s020 σ (M1l M i) i (wg [0, 1, 16, 17] (σ 10)) r)) := by
  have hSt : StT M.2.2.2.2.2.2 M.1 := hV.2.2.2.1
  cases htn : tnM M (M.2.2.2.1 i).1 (Int32.ofNat (wg [14348907, 28697814] (σ 9))) with
  | none =>
    exact r_none h hi hSt hlab ht hlen rd_s020 wr_s020 bd_s020_n wb_s020_n ws_s020_n (fun p hp => by rw [List.mem_singleton.mp hp]; exact ⟨rfl, (Int32.ofNat (wg [14348907, 28697814] (σ 9))), fun _ _ => rfl, htn⟩) (fun h4 ρ ω' hR hω h17 hW => At.mono (v_flt hR hi (l1_lab.trans hlab) (wgl_64 _) (by decide)) (fun o ho => (ho.mono (by decide) (by decide)).imp (fun r hr => f1_none htn hr)))
  | some t =>
    obtain ⟨q, hq, hqt, hts, hqn, hqb, -⟩ := h.found hSt htn
    rcases hT q hq with tx | tx
    · skip
      refine r_a h hi hSt hlab ht hlen rd_s020 wr_s020 bd_s020_a wb_s020_a ws_s020_a hq (by rw [hqt]; exact hts) tx (fun p hp => by rw [List.mem_singleton.mp hp]; exact ⟨(Int32.ofNat (wg [14348907, 28697814] (σ 9))), fun _ _ => rfl, Or.inr ⟨rfl, by rw [hqt]; exact htn⟩⟩) (fun h4 ρ ω' hR hω h17 hW h18 => At.mono (v_set (col := 1) hR hi (l1_lab.trans hlab) (wgl_64 _) hV.l1 hW (by decide +kernel) hq h18 (by decide) (by rw [tx.2.1]; decide) (WfC.al hC.l1)) (fun o ho => (ho.mono (by decide) (by decide)).imp (fun r hr => f1_some htn hq hqt ?_)))
      simp only [nmC_a tx]
      exact hr
    · skip
      refine r_b h hi hSt hlab ht hlen rd_s020 wr_s020 bd_s020_b wb_s020_b ws_s020_b hq (by rw [hqt]; exact hts) tx (fun p hp => by rw [List.mem_singleton.mp hp]; exact ⟨(Int32.ofNat (wg [14348907, 28697814] (σ 9))), fun _ _ => rfl, Or.inr ⟨rfl, by rw [hqt]; exact htn⟩⟩) (fun h4 ρ ω' hR hω h17 hW h18 => At.mono (v_set (col := 2) hR hi (l1_lab.trans hlab) (wgl_64 _) hV.l1 hW (by decide +kernel) hq h18 (by decide) (by rw [tx.2.1]; decide) (WfC.al hC.l1)) (fun o ho => (ho.mono (by decide) (by decide)).imp (fun r hr => f1_some htn hq hqt ?_)))
      simp only [nmC_b tx]
      exact hr
theorem wr_s021 : wrB rt_s021 rW_s021 4294967295 = true := by decide +kernel
theorem wb_s021_n : wfrB (List.range 17) (rW_s021.take 15 ++ (wM0 ++ [])) bW_s021_n = true := by decide +kernel
theorem ws_s021_n : wsmB bW_s021_n = true := by decide +kernel
theorem wb_s021_a : wfrB (List.range 17) (rW_s021.take 15 ++ (wM0 ++ bT0)) bW_s021_a = true := by decide +kernel
theorem ws_s021_a : wsmB bW_s021_a = true := by decide +kernel
theorem wb_s021_b : wfrB (List.range 17) (rW_s021.take 15 ++ (wM0 ++ bT1)) bW_s021_b = true := by decide +kernel
theorem ws_s021_b : wsmB bW_s021_b = true := by decide +kernel
def F_s021 (σ : Nat → Nat) : MF := f1 (Int32.ofNat (wg [14348907, 28697814] (σ 9))) 4 (fun q M i ln => setM M i ln q (nmC q 1 2) (nmC q (fmW σ bW_s021_a) (fmW σ bW_s021_b)) (nmC q (fvW σ bW_s021_a) (fvW σ bW_s021_b)))
theorem sh_s021 {S : List Int32} {hp : List XC} {ow : Nat → Nat} {k : Nat} {A : Nat → Nat} {M : HM} {rf : Int32} {np nl i : Nat} {σ : Nat → Nat} (h : HR hp ow k A M rf np nl) (hi : i < 8) (hV : WfV M i) (hC : WfC M i) (hT : WfT M) (hlab : (M.2.2.2.1 i).1 = Int32.ofNat (wg [0, 1, 16, 17] (σ 10))) (hmd : M.2.2.2.2.2.1 + 1 = nSr σ) (hsl : ∀ i, i < 8 → (M.2.2.2.1 i).2.2.2.1.length ≤ 3000) (hshf : M.2.1.length ≤ 3000) (ht : ((M.2.2.2.1 i).2.2.2.2.2.2.2.2.take rt_s021.length).map Value.int = wtT σ rt_s021) (hlen : (M.2.2.2.1 i).2.2.2.2.2.2.2.1 = rt_s021.length) : At S 12 40 0 [(0, .ref (A 0)), (1, .int (Int32.ofNat i))] [] hp 0 0 (QR hp ow k A np nl 99 50000 (fun r => F_s021 σ (M1l M i) i (wg [0, 1, 16, 17] (σ 10)) r)) := by
  have hSt : StT M.2.2.2.2.2.2 M.1 := hV.2.2.2.1
  cases htn : tnM M (M.2.2.2.1 i).1 (Int32.ofNat (wg [14348907, 28697814] (σ 9))) with
  | none =>
    exact r_none h hi hSt hlab ht hlen rd_s021 wr_s021 bd_s021_n wb_s021_n ws_s021_n (fun p hp => by rw [List.mem_singleton.mp hp]; exact ⟨rfl, (Int32.ofNat (wg [14348907, 28697814] (σ 9))), fun _ _ => rfl, htn⟩) (fun h4 ρ ω' hR hω h17 hW => At.mono (v_flt hR hi (l1_lab.trans hlab) (wgl_64 _) (by decide)) (fun o ho => (ho.mono (by decide) (by decide)).imp (fun r hr => f1_none htn hr)))
  | some t =>
    obtain ⟨q, hq, hqt, hts, hqn, hqb, -⟩ := h.found hSt htn
    rcases hT q hq with tx | tx
    · skip
      refine r_a h hi hSt hlab ht hlen rd_s021 wr_s021 bd_s021_a wb_s021_a ws_s021_a hq (by rw [hqt]; exact hts) tx (fun p hp => by rw [List.mem_singleton.mp hp]; exact ⟨(Int32.ofNat (wg [14348907, 28697814] (σ 9))), fun _ _ => rfl, Or.inr ⟨rfl, by rw [hqt]; exact htn⟩⟩) (fun h4 ρ ω' hR hω h17 hW h18 => At.mono (v_set (col := 1) hR hi (l1_lab.trans hlab) (wgl_64 _) hV.l1 hW (by decide +kernel) hq h18 (by decide) (by rw [tx.2.1]; decide) (WfC.al hC.l1)) (fun o ho => (ho.mono (by decide) (by decide)).imp (fun r hr => f1_some htn hq hqt ?_)))
      simp only [nmC_a tx]
      exact hr
    · skip
      refine r_b h hi hSt hlab ht hlen rd_s021 wr_s021 bd_s021_b wb_s021_b ws_s021_b hq (by rw [hqt]; exact hts) tx (fun p hp => by rw [List.mem_singleton.mp hp]; exact ⟨(Int32.ofNat (wg [14348907, 28697814] (σ 9))), fun _ _ => rfl, Or.inr ⟨rfl, by rw [hqt]; exact htn⟩⟩) (fun h4 ρ ω' hR hω h17 hW h18 => At.mono (v_set (col := 2) hR hi (l1_lab.trans hlab) (wgl_64 _) hV.l1 hW (by decide +kernel) hq h18 (by decide) (by rw [tx.2.1]; decide) (WfC.al hC.l1)) (fun o ho => (ho.mono (by decide) (by decide)).imp (fun r hr => f1_some htn hq hqt ?_)))
      simp only [nmC_b tx]
      exact hr
theorem wr_s022 : wrB rt_s022 rW_s022 4294967295 = true := by decide +kernel
theorem wb_s022_n : wfrB (List.range 17) (rW_s022.take 15 ++ (wM0 ++ [])) bW_s022_n = true := by decide +kernel
theorem ws_s022_n : wsmB bW_s022_n = true := by decide +kernel
theorem wb_s022_a : wfrB (List.range 17) (rW_s022.take 15 ++ (wM0 ++ bT0)) bW_s022_a = true := by decide +kernel
theorem ws_s022_a : wsmB bW_s022_a = true := by decide +kernel
theorem wb_s022_b : wfrB (List.range 17) (rW_s022.take 15 ++ (wM0 ++ bT1)) bW_s022_b = true := by decide +kernel
theorem ws_s022_b : wsmB bW_s022_b = true := by decide +kernel
def F_s022 (σ : Nat → Nat) : MF := f1 (Int32.ofNat (wg [14348907, 28697814] (σ 9))) 4 (fun q M i ln => setM M i ln q (nmC q 1 2) (nmC q (fmW σ bW_s022_a) (fmW σ bW_s022_b)) (nmC q (fvW σ bW_s022_a) (fvW σ bW_s022_b)))
theorem sh_s022 {S : List Int32} {hp : List XC} {ow : Nat → Nat} {k : Nat} {A : Nat → Nat} {M : HM} {rf : Int32} {np nl i : Nat} {σ : Nat → Nat} (h : HR hp ow k A M rf np nl) (hi : i < 8) (hV : WfV M i) (hC : WfC M i) (hT : WfT M) (hlab : (M.2.2.2.1 i).1 = Int32.ofNat (wg [0, 1, 16, 17] (σ 10))) (hmd : M.2.2.2.2.2.1 + 1 = nSr σ) (hsl : ∀ i, i < 8 → (M.2.2.2.1 i).2.2.2.1.length ≤ 3000) (hshf : M.2.1.length ≤ 3000) (ht : ((M.2.2.2.1 i).2.2.2.2.2.2.2.2.take rt_s022.length).map Value.int = wtT σ rt_s022) (hlen : (M.2.2.2.1 i).2.2.2.2.2.2.2.1 = rt_s022.length) : At S 12 40 0 [(0, .ref (A 0)), (1, .int (Int32.ofNat i))] [] hp 0 0 (QR hp ow k A np nl 99 50000 (fun r => F_s022 σ (M1l M i) i (wg [0, 1, 16, 17] (σ 10)) r)) := by
  have hSt : StT M.2.2.2.2.2.2 M.1 := hV.2.2.2.1
  cases htn : tnM M (M.2.2.2.1 i).1 (Int32.ofNat (wg [14348907, 28697814] (σ 9))) with
  | none =>
    exact r_none h hi hSt hlab ht hlen rd_s022 wr_s022 bd_s022_n wb_s022_n ws_s022_n (fun p hp => by rw [List.mem_singleton.mp hp]; exact ⟨rfl, (Int32.ofNat (wg [14348907, 28697814] (σ 9))), fun _ _ => rfl, htn⟩) (fun h4 ρ ω' hR hω h17 hW => At.mono (v_flt hR hi (l1_lab.trans hlab) (wgl_64 _) (by decide)) (fun o ho => (ho.mono (by decide) (by decide)).imp (fun r hr => f1_none htn hr)))
  | some t =>
    obtain ⟨q, hq, hqt, hts, hqn, hqb, -⟩ := h.found hSt htn
    rcases hT q hq with tx | tx
    · skip
      refine r_a h hi hSt hlab ht hlen rd_s022 wr_s022 bd_s022_a wb_s022_a ws_s022_a hq (by rw [hqt]; exact hts) tx (fun p hp => by rw [List.mem_singleton.mp hp]; exact ⟨(Int32.ofNat (wg [14348907, 28697814] (σ 9))), fun _ _ => rfl, Or.inr ⟨rfl, by rw [hqt]; exact htn⟩⟩) (fun h4 ρ ω' hR hω h17 hW h18 => At.mono (v_set (col := 1) hR hi (l1_lab.trans hlab) (wgl_64 _) hV.l1 hW (by decide +kernel) hq h18 (by decide) (by rw [tx.2.1]; decide) (WfC.al hC.l1)) (fun o ho => (ho.mono (by decide) (by decide)).imp (fun r hr => f1_some htn hq hqt ?_)))
      simp only [nmC_a tx]
      exact hr
    · skip
      refine r_b h hi hSt hlab ht hlen rd_s022 wr_s022 bd_s022_b wb_s022_b ws_s022_b hq (by rw [hqt]; exact hts) tx (fun p hp => by rw [List.mem_singleton.mp hp]; exact ⟨(Int32.ofNat (wg [14348907, 28697814] (σ 9))), fun _ _ => rfl, Or.inr ⟨rfl, by rw [hqt]; exact htn⟩⟩) (fun h4 ρ ω' hR hω h17 hW h18 => At.mono (v_set (col := 2) hR hi (l1_lab.trans hlab) (wgl_64 _) hV.l1 hW (by decide +kernel) hq h18 (by decide) (by rw [tx.2.1]; decide) (WfC.al hC.l1)) (fun o ho => (ho.mono (by decide) (by decide)).imp (fun r hr => f1_some htn hq hqt ?_)))
      simp only [nmC_b tx]
      exact hr
theorem wr_s023 : wrB rt_s023 rW_s023 4294967295 = true := by decide +kernel
theorem wb_s023_n : wfrB (List.range 17) (rW_s023.take 15 ++ (wM0 ++ [])) bW_s023_n = true := by decide +kernel
theorem ws_s023_n : wsmB bW_s023_n = true := by decide +kernel
theorem wb_s023_a : wfrB (List.range 17) (rW_s023.take 15 ++ (wM0 ++ bT0)) bW_s023_a = true := by decide +kernel
theorem ws_s023_a : wsmB bW_s023_a = true := by decide +kernel
theorem wb_s023_b : wfrB (List.range 17) (rW_s023.take 15 ++ (wM0 ++ bT1)) bW_s023_b = true := by decide +kernel
theorem ws_s023_b : wsmB bW_s023_b = true := by decide +kernel
def F_s023 (σ : Nat → Nat) : MF := f1 (Int32.ofNat (wg [14348907, 28697814] (σ 9))) 4 (fun q M i ln => setM M i ln q (nmC q 1 2) (nmC q (fmW σ bW_s023_a) (fmW σ bW_s023_b)) (nmC q (fvW σ bW_s023_a) (fvW σ bW_s023_b)))
theorem sh_s023 {S : List Int32} {hp : List XC} {ow : Nat → Nat} {k : Nat} {A : Nat → Nat} {M : HM} {rf : Int32} {np nl i : Nat} {σ : Nat → Nat} (h : HR hp ow k A M rf np nl) (hi : i < 8) (hV : WfV M i) (hC : WfC M i) (hT : WfT M) (hlab : (M.2.2.2.1 i).1 = Int32.ofNat (wg [0, 1, 16, 17] (σ 10))) (hmd : M.2.2.2.2.2.1 + 1 = nSr σ) (hsl : ∀ i, i < 8 → (M.2.2.2.1 i).2.2.2.1.length ≤ 3000) (hshf : M.2.1.length ≤ 3000) (ht : ((M.2.2.2.1 i).2.2.2.2.2.2.2.2.take rt_s023.length).map Value.int = wtT σ rt_s023) (hlen : (M.2.2.2.1 i).2.2.2.2.2.2.2.1 = rt_s023.length) : At S 12 40 0 [(0, .ref (A 0)), (1, .int (Int32.ofNat i))] [] hp 0 0 (QR hp ow k A np nl 99 50000 (fun r => F_s023 σ (M1l M i) i (wg [0, 1, 16, 17] (σ 10)) r)) := by
  have hSt : StT M.2.2.2.2.2.2 M.1 := hV.2.2.2.1
  cases htn : tnM M (M.2.2.2.1 i).1 (Int32.ofNat (wg [14348907, 28697814] (σ 9))) with
  | none =>
    exact r_none h hi hSt hlab ht hlen rd_s023 wr_s023 bd_s023_n wb_s023_n ws_s023_n (fun p hp => by rw [List.mem_singleton.mp hp]; exact ⟨rfl, (Int32.ofNat (wg [14348907, 28697814] (σ 9))), fun _ _ => rfl, htn⟩) (fun h4 ρ ω' hR hω h17 hW => At.mono (v_flt hR hi (l1_lab.trans hlab) (wgl_64 _) (by decide)) (fun o ho => (ho.mono (by decide) (by decide)).imp (fun r hr => f1_none htn hr)))
  | some t =>
    obtain ⟨q, hq, hqt, hts, hqn, hqb, -⟩ := h.found hSt htn
    rcases hT q hq with tx | tx
    · skip
      refine r_a h hi hSt hlab ht hlen rd_s023 wr_s023 bd_s023_a wb_s023_a ws_s023_a hq (by rw [hqt]; exact hts) tx (fun p hp => by rw [List.mem_singleton.mp hp]; exact ⟨(Int32.ofNat (wg [14348907, 28697814] (σ 9))), fun _ _ => rfl, Or.inr ⟨rfl, by rw [hqt]; exact htn⟩⟩) (fun h4 ρ ω' hR hω h17 hW h18 => At.mono (v_set (col := 1) hR hi (l1_lab.trans hlab) (wgl_64 _) hV.l1 hW (by decide +kernel) hq h18 (by decide) (by rw [tx.2.1]; decide) (WfC.al hC.l1)) (fun o ho => (ho.mono (by decide) (by decide)).imp (fun r hr => f1_some htn hq hqt ?_)))
      simp only [nmC_a tx]
      exact hr
    · skip
      refine r_b h hi hSt hlab ht hlen rd_s023 wr_s023 bd_s023_b wb_s023_b ws_s023_b hq (by rw [hqt]; exact hts) tx (fun p hp => by rw [List.mem_singleton.mp hp]; exact ⟨(Int32.ofNat (wg [14348907, 28697814] (σ 9))), fun _ _ => rfl, Or.inr ⟨rfl, by rw [hqt]; exact htn⟩⟩) (fun h4 ρ ω' hR hω h17 hW h18 => At.mono (v_set (col := 2) hR hi (l1_lab.trans hlab) (wgl_64 _) hV.l1 hW (by decide +kernel) hq h18 (by decide) (by rw [tx.2.1]; decide) (WfC.al hC.l1)) (fun o ho => (ho.mono (by decide) (by decide)).imp (fun r hr => f1_some htn hq hqt ?_)))
      simp only [nmC_b tx]
      exact hr
