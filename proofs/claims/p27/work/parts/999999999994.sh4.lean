/-! the house: the law's texts are run (written by wip/p27/c999999999990.py) -/
theorem wr_ga00 : wrB rt_ga00 rW_ga00 4294967295 = true := by decide +kernel
theorem wb_ga00_n : wfrB (List.range 17) (rW_ga00.take 15 ++ (wM0 ++ [])) bW_ga00_n = true := by decide +kernel
theorem ws_ga00_n : wsmB bW_ga00_n = true := by decide +kernel
theorem wb_ga00_a : wfrB (List.range 17) (rW_ga00.take 15 ++ (wM0 ++ bT0)) bW_ga00_a = true := by decide +kernel
theorem ws_ga00_a : wsmB bW_ga00_a = true := by decide +kernel
theorem wb_ga00_b : wfrB (List.range 17) (rW_ga00.take 15 ++ (wM0 ++ bT1)) bW_ga00_b = true := by decide +kernel
theorem ws_ga00_b : wsmB bW_ga00_b = true := by decide +kernel
def F_ga00 (σ : Nat → Nat) : MF := f1 (Int32.ofNat (wg [14348907, 28697814] (σ 9))) 13 (fun q M i ln => getM M i (nmC q 2 3) 999999999 (nmC q (q0A none (bI (decide ((0 : Nat) = 14))) 150 2 (wif0 bW_ga00_a) (wif1 bW_ga00_a) (wos σ bW_ga00_a) (gthE false (vwE M i) (lookE (TIq M.2.2.2.2.2.2) (vwE M i) (M.2.2.2.1 i).1) q.2.1 (M.2.2.2.1 i).1)) (q0A none (bI (decide ((0 : Nat) = 14))) 150 3 (wif0 bW_ga00_b) (wif1 bW_ga00_b) (wos σ bW_ga00_b) (gthE false (vwE M i) (lookE (TIq M.2.2.2.2.2.2) (vwE M i) (M.2.2.2.1 i).1) q.2.1 (M.2.2.2.1 i).1))))
theorem sh_ga00 {S : List Int32} {hp : List XC} {ow : Nat → Nat} {k : Nat} {A : Nat → Nat} {M : HM} {rf : Int32} {np nl i : Nat} {σ : Nat → Nat} (h : HR hp ow k A M rf np nl) (hi : i < 8) (hV : WfV M i) (hC : WfC M i) (hT : WfT M) (hlab : (M.2.2.2.1 i).1 = Int32.ofNat (wg [0, 1, 16, 17] (σ 10))) (hmd : M.2.2.2.2.2.1 + 1 = nSr σ) (hsl : ∀ i, i < 8 → (M.2.2.2.1 i).2.2.2.1.length ≤ 3000) (hshf : M.2.1.length ≤ 3000) (ht : ((M.2.2.2.1 i).2.2.2.2.2.2.2.2.take rt_ga00.length).map Value.int = wtT σ rt_ga00) (hlen : (M.2.2.2.1 i).2.2.2.2.2.2.2.1 = rt_ga00.length) : At S 12 40 0 [(0, .ref (A 0)), (1, .int (Int32.ofNat i))] [] hp 0 0 (QR hp ow k A np nl 99 50000 (fun r => F_ga00 σ (M1l M i) i (wg [0, 1, 16, 17] (σ 10)) r)) := by
  have hSt : StT M.2.2.2.2.2.2 M.1 := hV.2.2.2.1
  cases htn : tnM M (M.2.2.2.1 i).1 (Int32.ofNat (wg [14348907, 28697814] (σ 9))) with
  | none =>
    exact r_none h hi hSt hlab ht hlen rd_ga00 wr_ga00 bd_ga00_n wb_ga00_n ws_ga00_n (fun p hp => by rw [List.mem_singleton.mp hp]; exact ⟨rfl, (Int32.ofNat (wg [14348907, 28697814] (σ 9))), fun _ _ => rfl, htn⟩) (fun h4 ρ ω' hR hω h17 hW => At.mono (v_flt hR hi (l1_lab.trans hlab) (wgl_64 _) (by decide)) (fun o ho => (ho.mono (by decide) (by decide)).imp (fun r hr => f1_none htn hr)))
  | some t =>
    obtain ⟨q, hq, hqt, hts, hqn, hqb, -⟩ := h.found hSt htn
    rcases hT q hq with tx | tx
    · skip
      refine r_a h hi hSt hlab ht hlen rd_ga00 wr_ga00 bd_ga00_a wb_ga00_a ws_ga00_a hq (by rw [hqt]; exact hts) tx (fun p hp => by rw [List.mem_singleton.mp hp]; exact ⟨(Int32.ofNat (wg [14348907, 28697814] (σ 9))), fun _ _ => rfl, Or.inr ⟨rfl, by rw [hqt]; exact htn⟩⟩) (fun h4 ρ ω' hR hω h17 hW h18 => At.mono (v_0A (b := false) (w := 2) hR hi (l1_lab.trans hlab) (wgl_64 _) hV.l1 hW hq h18 (by decide +kernel) (by decide +kernel) (by decide +kernel) (by decide +kernel) (by rw [tx.2.1]; rfl) (by decide) (by decide +kernel)) (fun o ho => (ho.mono (by decide) (by decide)).imp (fun r hr => f1_some htn hq hqt ?_)))
      simp only [nmC_a tx]
      exact hr
    · skip
      refine r_b h hi hSt hlab ht hlen rd_ga00 wr_ga00 bd_ga00_b wb_ga00_b ws_ga00_b hq (by rw [hqt]; exact hts) tx (fun p hp => by rw [List.mem_singleton.mp hp]; exact ⟨(Int32.ofNat (wg [14348907, 28697814] (σ 9))), fun _ _ => rfl, Or.inr ⟨rfl, by rw [hqt]; exact htn⟩⟩) (fun h4 ρ ω' hR hω h17 hW h18 => At.mono (v_0A (b := false) (w := 3) hR hi (l1_lab.trans hlab) (wgl_64 _) hV.l1 hW hq h18 (by decide +kernel) (by decide +kernel) (by decide +kernel) (by decide +kernel) (by rw [tx.2.1]; rfl) (by decide) (by decide +kernel)) (fun o ho => (ho.mono (by decide) (by decide)).imp (fun r hr => f1_some htn hq hqt ?_)))
      simp only [nmC_b tx]
      exact hr
theorem wr_ga01 : wrB rt_ga01 rW_ga01 4294967295 = true := by decide +kernel
theorem wb_ga01_n : wfrB (List.range 17) (rW_ga01.take 15 ++ (wM0 ++ [])) bW_ga01_n = true := by decide +kernel
theorem ws_ga01_n : wsmB bW_ga01_n = true := by decide +kernel
theorem wb_ga01_a : wfrB (List.range 17) (rW_ga01.take 15 ++ (wM0 ++ bT0)) bW_ga01_a = true := by decide +kernel
theorem ws_ga01_a : wsmB bW_ga01_a = true := by decide +kernel
theorem wb_ga01_b : wfrB (List.range 17) (rW_ga01.take 15 ++ (wM0 ++ bT1)) bW_ga01_b = true := by decide +kernel
theorem ws_ga01_b : wsmB bW_ga01_b = true := by decide +kernel
def F_ga01 (σ : Nat → Nat) : MF := f1 (Int32.ofNat (wg [14348907, 28697814] (σ 9))) 13 (fun q M i ln => getM M i (nmC q 2 3) 999999999 (nmC q (q0A (some 1) (bI (decide ((14 : Nat) = 14))) 150 2 (wif0 bW_ga01_a) (wif1 bW_ga01_a) (wos σ bW_ga01_a) (gthE false (vwE M i) (lookE (TIq M.2.2.2.2.2.2) (vwE M i) (M.2.2.2.1 i).1) q.2.1 (M.2.2.2.1 i).1)) (q0A (some 1) (bI (decide ((14 : Nat) = 14))) 150 3 (wif0 bW_ga01_b) (wif1 bW_ga01_b) (wos σ bW_ga01_b) (gthE false (vwE M i) (lookE (TIq M.2.2.2.2.2.2) (vwE M i) (M.2.2.2.1 i).1) q.2.1 (M.2.2.2.1 i).1))))
theorem sh_ga01 {S : List Int32} {hp : List XC} {ow : Nat → Nat} {k : Nat} {A : Nat → Nat} {M : HM} {rf : Int32} {np nl i : Nat} {σ : Nat → Nat} (h : HR hp ow k A M rf np nl) (hi : i < 8) (hV : WfV M i) (hC : WfC M i) (hT : WfT M) (hlab : (M.2.2.2.1 i).1 = Int32.ofNat (wg [0, 1, 16, 17] (σ 10))) (hmd : M.2.2.2.2.2.1 + 1 = nSr σ) (hsl : ∀ i, i < 8 → (M.2.2.2.1 i).2.2.2.1.length ≤ 3000) (hshf : M.2.1.length ≤ 3000) (ht : ((M.2.2.2.1 i).2.2.2.2.2.2.2.2.take rt_ga01.length).map Value.int = wtT σ rt_ga01) (hlen : (M.2.2.2.1 i).2.2.2.2.2.2.2.1 = rt_ga01.length) : At S 12 40 0 [(0, .ref (A 0)), (1, .int (Int32.ofNat i))] [] hp 0 0 (QR hp ow k A np nl 99 50000 (fun r => F_ga01 σ (M1l M i) i (wg [0, 1, 16, 17] (σ 10)) r)) := by
  have hSt : StT M.2.2.2.2.2.2 M.1 := hV.2.2.2.1
  cases htn : tnM M (M.2.2.2.1 i).1 (Int32.ofNat (wg [14348907, 28697814] (σ 9))) with
  | none =>
    exact r_none h hi hSt hlab ht hlen rd_ga01 wr_ga01 bd_ga01_n wb_ga01_n ws_ga01_n (fun p hp => by rw [List.mem_singleton.mp hp]; exact ⟨rfl, (Int32.ofNat (wg [14348907, 28697814] (σ 9))), fun _ _ => rfl, htn⟩) (fun h4 ρ ω' hR hω h17 hW => At.mono (v_flt hR hi (l1_lab.trans hlab) (wgl_64 _) (by decide)) (fun o ho => (ho.mono (by decide) (by decide)).imp (fun r hr => f1_none htn hr)))
  | some t =>
    obtain ⟨q, hq, hqt, hts, hqn, hqb, -⟩ := h.found hSt htn
    rcases hT q hq with tx | tx
    · skip
      refine r_a h hi hSt hlab ht hlen rd_ga01 wr_ga01 bd_ga01_a wb_ga01_a ws_ga01_a hq (by rw [hqt]; exact hts) tx (fun p hp => by rw [List.mem_singleton.mp hp]; exact ⟨(Int32.ofNat (wg [14348907, 28697814] (σ 9))), fun _ _ => rfl, Or.inr ⟨rfl, by rw [hqt]; exact htn⟩⟩) (fun h4 ρ ω' hR hω h17 hW h18 => At.mono (v_0AD (o := 8) (ko := 1) (b := false) (w := 2) hR hi (l1_lab.trans hlab) (wgl_64 _) hV.l1 hW hq h18 (by decide +kernel) (by decide +kernel) (by decide +kernel) (by decide +kernel) (by rw [tx.2.1]; rfl) (by decide) (by decide) (by decide +kernel)) (fun o ho => (ho.mono (by decide) (by decide)).imp (fun r hr => f1_some htn hq hqt ?_)))
      simp only [nmC_a tx]
      exact hr
    · skip
      refine r_b h hi hSt hlab ht hlen rd_ga01 wr_ga01 bd_ga01_b wb_ga01_b ws_ga01_b hq (by rw [hqt]; exact hts) tx (fun p hp => by rw [List.mem_singleton.mp hp]; exact ⟨(Int32.ofNat (wg [14348907, 28697814] (σ 9))), fun _ _ => rfl, Or.inr ⟨rfl, by rw [hqt]; exact htn⟩⟩) (fun h4 ρ ω' hR hω h17 hW h18 => At.mono (v_0AD (o := 8) (ko := 1) (b := false) (w := 3) hR hi (l1_lab.trans hlab) (wgl_64 _) hV.l1 hW hq h18 (by decide +kernel) (by decide +kernel) (by decide +kernel) (by decide +kernel) (by rw [tx.2.1]; rfl) (by decide) (by decide) (by decide +kernel)) (fun o ho => (ho.mono (by decide) (by decide)).imp (fun r hr => f1_some htn hq hqt ?_)))
      simp only [nmC_b tx]
      exact hr
theorem wr_ga10 : wrB rt_ga10 rW_ga10 4294967295 = true := by decide +kernel
theorem wb_ga10_n : wfrB (List.range 17) (rW_ga10.take 15 ++ (wM0 ++ [])) bW_ga10_n = true := by decide +kernel
theorem ws_ga10_n : wsmB bW_ga10_n = true := by decide +kernel
theorem wb_ga10_a : wfrB (List.range 17) (rW_ga10.take 15 ++ (wM0 ++ bT0)) bW_ga10_a = true := by decide +kernel
theorem ws_ga10_a : wsmB bW_ga10_a = true := by decide +kernel
theorem wb_ga10_b : wfrB (List.range 17) (rW_ga10.take 15 ++ (wM0 ++ bT1)) bW_ga10_b = true := by decide +kernel
theorem ws_ga10_b : wsmB bW_ga10_b = true := by decide +kernel
def F_ga10 (σ : Nat → Nat) : MF := f1 (Int32.ofNat (wg [14348907, 28697814] (σ 9))) 13 (fun q M i ln => getM M i (nmC q 2 3) 999999999 (nmC q (q0A none (bI (decide ((0 : Nat) = 14))) 150 2 (wif0 bW_ga10_a) (wif1 bW_ga10_a) (wos σ bW_ga10_a) (gthE false (vwE M i) (lookE (TIq M.2.2.2.2.2.2) (vwE M i) (M.2.2.2.1 i).1) q.2.1 (M.2.2.2.1 i).1)) (q0A none (bI (decide ((0 : Nat) = 14))) 150 3 (wif0 bW_ga10_b) (wif1 bW_ga10_b) (wos σ bW_ga10_b) (gthE false (vwE M i) (lookE (TIq M.2.2.2.2.2.2) (vwE M i) (M.2.2.2.1 i).1) q.2.1 (M.2.2.2.1 i).1))))
theorem sh_ga10 {S : List Int32} {hp : List XC} {ow : Nat → Nat} {k : Nat} {A : Nat → Nat} {M : HM} {rf : Int32} {np nl i : Nat} {σ : Nat → Nat} (h : HR hp ow k A M rf np nl) (hi : i < 8) (hV : WfV M i) (hC : WfC M i) (hT : WfT M) (hlab : (M.2.2.2.1 i).1 = Int32.ofNat (wg [0, 1, 16, 17] (σ 10))) (hmd : M.2.2.2.2.2.1 + 1 = nSr σ) (hsl : ∀ i, i < 8 → (M.2.2.2.1 i).2.2.2.1.length ≤ 3000) (hshf : M.2.1.length ≤ 3000) (ht : ((M.2.2.2.1 i).2.2.2.2.2.2.2.2.take rt_ga10.length).map Value.int = wtT σ rt_ga10) (hlen : (M.2.2.2.1 i).2.2.2.2.2.2.2.1 = rt_ga10.length) : At S 12 40 0 [(0, .ref (A 0)), (1, .int (Int32.ofNat i))] [] hp 0 0 (QR hp ow k A np nl 99 50000 (fun r => F_ga10 σ (M1l M i) i (wg [0, 1, 16, 17] (σ 10)) r)) := by
  have hSt : StT M.2.2.2.2.2.2 M.1 := hV.2.2.2.1
  cases htn : tnM M (M.2.2.2.1 i).1 (Int32.ofNat (wg [14348907, 28697814] (σ 9))) with
  | none =>
    exact r_none h hi hSt hlab ht hlen rd_ga10 wr_ga10 bd_ga10_n wb_ga10_n ws_ga10_n (fun p hp => by rw [List.mem_singleton.mp hp]; exact ⟨rfl, (Int32.ofNat (wg [14348907, 28697814] (σ 9))), fun _ _ => rfl, htn⟩) (fun h4 ρ ω' hR hω h17 hW => At.mono (v_flt hR hi (l1_lab.trans hlab) (wgl_64 _) (by decide)) (fun o ho => (ho.mono (by decide) (by decide)).imp (fun r hr => f1_none htn hr)))
  | some t =>
    obtain ⟨q, hq, hqt, hts, hqn, hqb, -⟩ := h.found hSt htn
    rcases hT q hq with tx | tx
    · skip
      refine r_a h hi hSt hlab ht hlen rd_ga10 wr_ga10 bd_ga10_a wb_ga10_a ws_ga10_a hq (by rw [hqt]; exact hts) tx (fun p hp => by rw [List.mem_singleton.mp hp]; exact ⟨(Int32.ofNat (wg [14348907, 28697814] (σ 9))), fun _ _ => rfl, Or.inr ⟨rfl, by rw [hqt]; exact htn⟩⟩) (fun h4 ρ ω' hR hω h17 hW h18 => At.mono (v_0A (b := false) (w := 2) hR hi (l1_lab.trans hlab) (wgl_64 _) hV.l1 hW hq h18 (by decide +kernel) (by decide +kernel) (by decide +kernel) (by decide +kernel) (by rw [tx.2.1]; rfl) (by decide) (by decide +kernel)) (fun o ho => (ho.mono (by decide) (by decide)).imp (fun r hr => f1_some htn hq hqt ?_)))
      simp only [nmC_a tx]
      exact hr
    · skip
      refine r_b h hi hSt hlab ht hlen rd_ga10 wr_ga10 bd_ga10_b wb_ga10_b ws_ga10_b hq (by rw [hqt]; exact hts) tx (fun p hp => by rw [List.mem_singleton.mp hp]; exact ⟨(Int32.ofNat (wg [14348907, 28697814] (σ 9))), fun _ _ => rfl, Or.inr ⟨rfl, by rw [hqt]; exact htn⟩⟩) (fun h4 ρ ω' hR hω h17 hW h18 => At.mono (v_0A (b := false) (w := 3) hR hi (l1_lab.trans hlab) (wgl_64 _) hV.l1 hW hq h18 (by decide +kernel) (by decide +kernel) (by decide +kernel) (by decide +kernel) (by rw [tx.2.1]; rfl) (by decide) (by decide +kernel)) (fun o ho => (ho.mono (by decide) (by decide)).imp (fun r hr => f1_some htn hq hqt ?_)))
      simp only [nmC_b tx]
      exact hr
theorem wr_ga11 : wrB rt_ga11 rW_ga11 4294967295 = true := by decide +kernel
theorem wb_ga11_n : wfrB (List.range 17) (rW_ga11.take 15 ++ (wM0 ++ [])) bW_ga11_n = true := by decide +kernel
theorem ws_ga11_n : wsmB bW_ga11_n = true := by decide +kernel
theorem wb_ga11_a : wfrB (List.range 17) (rW_ga11.take 15 ++ (wM0 ++ bT0)) bW_ga11_a = true := by decide +kernel
theorem ws_ga11_a : wsmB bW_ga11_a = true := by decide +kernel
theorem wb_ga11_b : wfrB (List.range 17) (rW_ga11.take 15 ++ (wM0 ++ bT1)) bW_ga11_b = true := by decide +kernel
theorem ws_ga11_b : wsmB bW_ga11_b = true := by decide +kernel
def F_ga11 (σ : Nat → Nat) : MF := f1 (Int32.ofNat (wg [14348907, 28697814] (σ 9))) 13 (fun q M i ln => getM M i (nmC q 2 3) 999999999 (nmC q (q0A (some 1) (bI (decide ((14 : Nat) = 14))) 150 2 (wif0 bW_ga11_a) (wif1 bW_ga11_a) (wos σ bW_ga11_a) (gthE false (vwE M i) (lookE (TIq M.2.2.2.2.2.2) (vwE M i) (M.2.2.2.1 i).1) q.2.1 (M.2.2.2.1 i).1)) (q0A (some 1) (bI (decide ((14 : Nat) = 14))) 150 3 (wif0 bW_ga11_b) (wif1 bW_ga11_b) (wos σ bW_ga11_b) (gthE false (vwE M i) (lookE (TIq M.2.2.2.2.2.2) (vwE M i) (M.2.2.2.1 i).1) q.2.1 (M.2.2.2.1 i).1))))
theorem sh_ga11 {S : List Int32} {hp : List XC} {ow : Nat → Nat} {k : Nat} {A : Nat → Nat} {M : HM} {rf : Int32} {np nl i : Nat} {σ : Nat → Nat} (h : HR hp ow k A M rf np nl) (hi : i < 8) (hV : WfV M i) (hC : WfC M i) (hT : WfT M) (hlab : (M.2.2.2.1 i).1 = Int32.ofNat (wg [0, 1, 16, 17] (σ 10))) (hmd : M.2.2.2.2.2.1 + 1 = nSr σ) (hsl : ∀ i, i < 8 → (M.2.2.2.1 i).2.2.2.1.length ≤ 3000) (hshf : M.2.1.length ≤ 3000) (ht : ((M.2.2.2.1 i).2.2.2.2.2.2.2.2.take rt_ga11.length).map Value.int = wtT σ rt_ga11) (hlen : (M.2.2.2.1 i).2.2.2.2.2.2.2.1 = rt_ga11.length) : At S 12 40 0 [(0, .ref (A 0)), (1, .int (Int32.ofNat i))] [] hp 0 0 (QR hp ow k A np nl 99 50000 (fun r => F_ga11 σ (M1l M i) i (wg [0, 1, 16, 17] (σ 10)) r)) := by
  have hSt : StT M.2.2.2.2.2.2 M.1 := hV.2.2.2.1
  cases htn : tnM M (M.2.2.2.1 i).1 (Int32.ofNat (wg [14348907, 28697814] (σ 9))) with
  | none =>
    exact r_none h hi hSt hlab ht hlen rd_ga11 wr_ga11 bd_ga11_n wb_ga11_n ws_ga11_n (fun p hp => by rw [List.mem_singleton.mp hp]; exact ⟨rfl, (Int32.ofNat (wg [14348907, 28697814] (σ 9))), fun _ _ => rfl, htn⟩) (fun h4 ρ ω' hR hω h17 hW => At.mono (v_flt hR hi (l1_lab.trans hlab) (wgl_64 _) (by decide)) (fun o ho => (ho.mono (by decide) (by decide)).imp (fun r hr => f1_none htn hr)))
  | some t =>
    obtain ⟨q, hq, hqt, hts, hqn, hqb, -⟩ := h.found hSt htn
    rcases hT q hq with tx | tx
    · skip
      refine r_a h hi hSt hlab ht hlen rd_ga11 wr_ga11 bd_ga11_a wb_ga11_a ws_ga11_a hq (by rw [hqt]; exact hts) tx (fun p hp => by rw [List.mem_singleton.mp hp]; exact ⟨(Int32.ofNat (wg [14348907, 28697814] (σ 9))), fun _ _ => rfl, Or.inr ⟨rfl, by rw [hqt]; exact htn⟩⟩) (fun h4 ρ ω' hR hω h17 hW h18 => At.mono (v_0AD (o := 8) (ko := 1) (b := false) (w := 2) hR hi (l1_lab.trans hlab) (wgl_64 _) hV.l1 hW hq h18 (by decide +kernel) (by decide +kernel) (by decide +kernel) (by decide +kernel) (by rw [tx.2.1]; rfl) (by decide) (by decide) (by decide +kernel)) (fun o ho => (ho.mono (by decide) (by decide)).imp (fun r hr => f1_some htn hq hqt ?_)))
      simp only [nmC_a tx]
      exact hr
    · skip
      refine r_b h hi hSt hlab ht hlen rd_ga11 wr_ga11 bd_ga11_b wb_ga11_b ws_ga11_b hq (by rw [hqt]; exact hts) tx (fun p hp => by rw [List.mem_singleton.mp hp]; exact ⟨(Int32.ofNat (wg [14348907, 28697814] (σ 9))), fun _ _ => rfl, Or.inr ⟨rfl, by rw [hqt]; exact htn⟩⟩) (fun h4 ρ ω' hR hω h17 hW h18 => At.mono (v_0AD (o := 8) (ko := 1) (b := false) (w := 3) hR hi (l1_lab.trans hlab) (wgl_64 _) hV.l1 hW hq h18 (by decide +kernel) (by decide +kernel) (by decide +kernel) (by decide +kernel) (by rw [tx.2.1]; rfl) (by decide) (by decide) (by decide +kernel)) (fun o ho => (ho.mono (by decide) (by decide)).imp (fun r hr => f1_some htn hq hqt ?_)))
      simp only [nmC_b tx]
      exact hr
theorem wr_ga20 : wrB rt_ga20 rW_ga20 4294967295 = true := by decide +kernel
theorem wb_ga20_n : wfrB (List.range 17) (rW_ga20.take 15 ++ (wM0 ++ [])) bW_ga20_n = true := by decide +kernel
theorem ws_ga20_n : wsmB bW_ga20_n = true := by decide +kernel
theorem wb_ga20_a : wfrB (List.range 17) (rW_ga20.take 15 ++ (wM0 ++ bT0)) bW_ga20_a = true := by decide +kernel
theorem ws_ga20_a : wsmB bW_ga20_a = true := by decide +kernel
theorem wb_ga20_b : wfrB (List.range 17) (rW_ga20.take 15 ++ (wM0 ++ bT1)) bW_ga20_b = true := by decide +kernel
theorem ws_ga20_b : wsmB bW_ga20_b = true := by decide +kernel
def F_ga20 (σ : Nat → Nat) : MF := f1 (Int32.ofNat (wg [14348907, 28697814] (σ 9))) 13 (fun q M i ln => getM M i (nmC q 2 3) 999999999 (nmC q (q0A none (bI (decide ((0 : Nat) = 14))) 150 2 (wif0 bW_ga20_a) (wif1 bW_ga20_a) (wos σ bW_ga20_a) (gthE false (vwE M i) (lookE (TIq M.2.2.2.2.2.2) (vwE M i) (M.2.2.2.1 i).1) q.2.1 (M.2.2.2.1 i).1)) (q0A none (bI (decide ((0 : Nat) = 14))) 150 3 (wif0 bW_ga20_b) (wif1 bW_ga20_b) (wos σ bW_ga20_b) (gthE false (vwE M i) (lookE (TIq M.2.2.2.2.2.2) (vwE M i) (M.2.2.2.1 i).1) q.2.1 (M.2.2.2.1 i).1))))
theorem sh_ga20 {S : List Int32} {hp : List XC} {ow : Nat → Nat} {k : Nat} {A : Nat → Nat} {M : HM} {rf : Int32} {np nl i : Nat} {σ : Nat → Nat} (h : HR hp ow k A M rf np nl) (hi : i < 8) (hV : WfV M i) (hC : WfC M i) (hT : WfT M) (hlab : (M.2.2.2.1 i).1 = Int32.ofNat (wg [0, 1, 16, 17] (σ 10))) (hmd : M.2.2.2.2.2.1 + 1 = nSr σ) (hsl : ∀ i, i < 8 → (M.2.2.2.1 i).2.2.2.1.length ≤ 3000) (hshf : M.2.1.length ≤ 3000) (ht : ((M.2.2.2.1 i).2.2.2.2.2.2.2.2.take rt_ga20.length).map Value.int = wtT σ rt_ga20) (hlen : (M.2.2.2.1 i).2.2.2.2.2.2.2.1 = rt_ga20.length) : At S 12 40 0 [(0, .ref (A 0)), (1, .int (Int32.ofNat i))] [] hp 0 0 (QR hp ow k A np nl 99 50000 (fun r => F_ga20 σ (M1l M i) i (wg [0, 1, 16, 17] (σ 10)) r)) := by
  have hSt : StT M.2.2.2.2.2.2 M.1 := hV.2.2.2.1
  cases htn : tnM M (M.2.2.2.1 i).1 (Int32.ofNat (wg [14348907, 28697814] (σ 9))) with
  | none =>
    exact r_none h hi hSt hlab ht hlen rd_ga20 wr_ga20 bd_ga20_n wb_ga20_n ws_ga20_n (fun p hp => by rw [List.mem_singleton.mp hp]; exact ⟨rfl, (Int32.ofNat (wg [14348907, 28697814] (σ 9))), fun _ _ => rfl, htn⟩) (fun h4 ρ ω' hR hω h17 hW => At.mono (v_flt hR hi (l1_lab.trans hlab) (wgl_64 _) (by decide)) (fun o ho => (ho.mono (by decide) (by decide)).imp (fun r hr => f1_none htn hr)))
  | some t =>
    obtain ⟨q, hq, hqt, hts, hqn, hqb, -⟩ := h.found hSt htn
    rcases hT q hq with tx | tx
    · skip
      refine r_a h hi hSt hlab ht hlen rd_ga20 wr_ga20 bd_ga20_a wb_ga20_a ws_ga20_a hq (by rw [hqt]; exact hts) tx (fun p hp => by rw [List.mem_singleton.mp hp]; exact ⟨(Int32.ofNat (wg [14348907, 28697814] (σ 9))), fun _ _ => rfl, Or.inr ⟨rfl, by rw [hqt]; exact htn⟩⟩) (fun h4 ρ ω' hR hω h17 hW h18 => At.mono (v_0A (b := false) (w := 2) hR hi (l1_lab.trans hlab) (wgl_64 _) hV.l1 hW hq h18 (by decide +kernel) (by decide +kernel) (by decide +kernel) (by decide +kernel) (by rw [tx.2.1]; rfl) (by decide) (by decide +kernel)) (fun o ho => (ho.mono (by decide) (by decide)).imp (fun r hr => f1_some htn hq hqt ?_)))
      simp only [nmC_a tx]
      exact hr
    · skip
      refine r_b h hi hSt hlab ht hlen rd_ga20 wr_ga20 bd_ga20_b wb_ga20_b ws_ga20_b hq (by rw [hqt]; exact hts) tx (fun p hp => by rw [List.mem_singleton.mp hp]; exact ⟨(Int32.ofNat (wg [14348907, 28697814] (σ 9))), fun _ _ => rfl, Or.inr ⟨rfl, by rw [hqt]; exact htn⟩⟩) (fun h4 ρ ω' hR hω h17 hW h18 => At.mono (v_0A (b := false) (w := 3) hR hi (l1_lab.trans hlab) (wgl_64 _) hV.l1 hW hq h18 (by decide +kernel) (by decide +kernel) (by decide +kernel) (by decide +kernel) (by rw [tx.2.1]; rfl) (by decide) (by decide +kernel)) (fun o ho => (ho.mono (by decide) (by decide)).imp (fun r hr => f1_some htn hq hqt ?_)))
      simp only [nmC_b tx]
      exact hr
theorem wr_ga21 : wrB rt_ga21 rW_ga21 4294967295 = true := by decide +kernel
theorem wb_ga21_n : wfrB (List.range 17) (rW_ga21.take 15 ++ (wM0 ++ [])) bW_ga21_n = true := by decide +kernel
theorem ws_ga21_n : wsmB bW_ga21_n = true := by decide +kernel
theorem wb_ga21_a : wfrB (List.range 17) (rW_ga21.take 15 ++ (wM0 ++ bT0)) bW_ga21_a = true := by decide +kernel
theorem ws_ga21_a : wsmB bW_ga21_a = true := by decide +kernel
theorem wb_ga21_b : wfrB (List.range 17) (rW_ga21.take 15 ++ (wM0 ++ bT1)) bW_ga21_b = true := by decide +kernel
theorem ws_ga21_b : wsmB bW_ga21_b = true := by decide +kernel
def F_ga21 (σ : Nat → Nat) : MF := f1 (Int32.ofNat (wg [14348907, 28697814] (σ 9))) 13 (fun q M i ln => getM M i (nmC q 2 3) 999999999 (nmC q (q0A (some 1) (bI (decide ((14 : Nat) = 14))) 150 2 (wif0 bW_ga21_a) (wif1 bW_ga21_a) (wos σ bW_ga21_a) (gthE false (vwE M i) (lookE (TIq M.2.2.2.2.2.2) (vwE M i) (M.2.2.2.1 i).1) q.2.1 (M.2.2.2.1 i).1)) (q0A (some 1) (bI (decide ((14 : Nat) = 14))) 150 3 (wif0 bW_ga21_b) (wif1 bW_ga21_b) (wos σ bW_ga21_b) (gthE false (vwE M i) (lookE (TIq M.2.2.2.2.2.2) (vwE M i) (M.2.2.2.1 i).1) q.2.1 (M.2.2.2.1 i).1))))
theorem sh_ga21 {S : List Int32} {hp : List XC} {ow : Nat → Nat} {k : Nat} {A : Nat → Nat} {M : HM} {rf : Int32} {np nl i : Nat} {σ : Nat → Nat} (h : HR hp ow k A M rf np nl) (hi : i < 8) (hV : WfV M i) (hC : WfC M i) (hT : WfT M) (hlab : (M.2.2.2.1 i).1 = Int32.ofNat (wg [0, 1, 16, 17] (σ 10))) (hmd : M.2.2.2.2.2.1 + 1 = nSr σ) (hsl : ∀ i, i < 8 → (M.2.2.2.1 i).2.2.2.1.length ≤ 3000) (hshf : M.2.1.length ≤ 3000) (ht : ((M.2.2.2.1 i).2.2.2.2.2.2.2.2.take rt_ga21.length).map Value.int = wtT σ rt_ga21) (hlen : (M.2.2.2.1 i).2.2.2.2.2.2.2.1 = rt_ga21.length) : At S 12 40 0 [(0, .ref (A 0)), (1, .int (Int32.ofNat i))] [] hp 0 0 (QR hp ow k A np nl 99 50000 (fun r => F_ga21 σ (M1l M i) i (wg [0, 1, 16, 17] (σ 10)) r)) := by
  have hSt : StT M.2.2.2.2.2.2 M.1 := hV.2.2.2.1
  cases htn : tnM M (M.2.2.2.1 i).1 (Int32.ofNat (wg [14348907, 28697814] (σ 9))) with
  | none =>
    exact r_none h hi hSt hlab ht hlen rd_ga21 wr_ga21 bd_ga21_n wb_ga21_n ws_ga21_n (fun p hp => by rw [List.mem_singleton.mp hp]; exact ⟨rfl, (Int32.ofNat (wg [14348907, 28697814] (σ 9))), fun _ _ => rfl, htn⟩) (fun h4 ρ ω' hR hω h17 hW => At.mono (v_flt hR hi (l1_lab.trans hlab) (wgl_64 _) (by decide)) (fun o ho => (ho.mono (by decide) (by decide)).imp (fun r hr => f1_none htn hr)))
  | some t =>
    obtain ⟨q, hq, hqt, hts, hqn, hqb, -⟩ := h.found hSt htn
    rcases hT q hq with tx | tx
    · skip
      refine r_a h hi hSt hlab ht hlen rd_ga21 wr_ga21 bd_ga21_a wb_ga21_a ws_ga21_a hq (by rw [hqt]; exact hts) tx (fun p hp => by rw [List.mem_singleton.mp hp]; exact ⟨(Int32.ofNat (wg [14348907, 28697814] (σ 9))), fun _ _ => rfl, Or.inr ⟨rfl, by rw [hqt]; exact htn⟩⟩) (fun h4 ρ ω' hR hω h17 hW h18 => At.mono (v_0AD (o := 11) (ko := 1) (b := false) (w := 2) hR hi (l1_lab.trans hlab) (wgl_64 _) hV.l1 hW hq h18 (by decide +kernel) (by decide +kernel) (by decide +kernel) (by decide +kernel) (by rw [tx.2.1]; rfl) (by decide) (by decide) (by decide +kernel)) (fun o ho => (ho.mono (by decide) (by decide)).imp (fun r hr => f1_some htn hq hqt ?_)))
      simp only [nmC_a tx]
      exact hr
    · skip
      refine r_b h hi hSt hlab ht hlen rd_ga21 wr_ga21 bd_ga21_b wb_ga21_b ws_ga21_b hq (by rw [hqt]; exact hts) tx (fun p hp => by rw [List.mem_singleton.mp hp]; exact ⟨(Int32.ofNat (wg [14348907, 28697814] (σ 9))), fun _ _ => rfl, Or.inr ⟨rfl, by rw [hqt]; exact htn⟩⟩) (fun h4 ρ ω' hR hω h17 hW h18 => At.mono (v_0AD (o := 11) (ko := 1) (b := false) (w := 3) hR hi (l1_lab.trans hlab) (wgl_64 _) hV.l1 hW hq h18 (by decide +kernel) (by decide +kernel) (by decide +kernel) (by decide +kernel) (by rw [tx.2.1]; rfl) (by decide) (by decide) (by decide +kernel)) (fun o ho => (ho.mono (by decide) (by decide)).imp (fun r hr => f1_some htn hq hqt ?_)))
      simp only [nmC_b tx]
      exact hr
theorem wr_ga30 : wrB rt_ga30 rW_ga30 4294967295 = true := by decide +kernel
theorem wb_ga30_n : wfrB (List.range 17) (rW_ga30.take 15 ++ (wM0 ++ [])) bW_ga30_n = true := by decide +kernel
theorem ws_ga30_n : wsmB bW_ga30_n = true := by decide +kernel
theorem wb_ga30_a : wfrB (List.range 17) (rW_ga30.take 15 ++ (wM0 ++ bT0)) bW_ga30_a = true := by decide +kernel
theorem ws_ga30_a : wsmB bW_ga30_a = true := by decide +kernel
theorem wb_ga30_b : wfrB (List.range 17) (rW_ga30.take 15 ++ (wM0 ++ bT1)) bW_ga30_b = true := by decide +kernel
theorem ws_ga30_b : wsmB bW_ga30_b = true := by decide +kernel
def F_ga30 (σ : Nat → Nat) : MF := f1 (Int32.ofNat (wg [14348907, 28697814] (σ 9))) 13 (fun q M i ln => getM M i (nmC q 2 3) 999999999 (nmC q (q0A none (bI (decide ((0 : Nat) = 14))) 150 2 (wif0 bW_ga30_a) (wif1 bW_ga30_a) (wos σ bW_ga30_a) (gthE false (vwE M i) (lookE (TIq M.2.2.2.2.2.2) (vwE M i) (M.2.2.2.1 i).1) q.2.1 (M.2.2.2.1 i).1)) (q0A none (bI (decide ((0 : Nat) = 14))) 150 3 (wif0 bW_ga30_b) (wif1 bW_ga30_b) (wos σ bW_ga30_b) (gthE false (vwE M i) (lookE (TIq M.2.2.2.2.2.2) (vwE M i) (M.2.2.2.1 i).1) q.2.1 (M.2.2.2.1 i).1))))
theorem sh_ga30 {S : List Int32} {hp : List XC} {ow : Nat → Nat} {k : Nat} {A : Nat → Nat} {M : HM} {rf : Int32} {np nl i : Nat} {σ : Nat → Nat} (h : HR hp ow k A M rf np nl) (hi : i < 8) (hV : WfV M i) (hC : WfC M i) (hT : WfT M) (hlab : (M.2.2.2.1 i).1 = Int32.ofNat (wg [0, 1, 16, 17] (σ 10))) (hmd : M.2.2.2.2.2.1 + 1 = nSr σ) (hsl : ∀ i, i < 8 → (M.2.2.2.1 i).2.2.2.1.length ≤ 3000) (hshf : M.2.1.length ≤ 3000) (ht : ((M.2.2.2.1 i).2.2.2.2.2.2.2.2.take rt_ga30.length).map Value.int = wtT σ rt_ga30) (hlen : (M.2.2.2.1 i).2.2.2.2.2.2.2.1 = rt_ga30.length) : At S 12 40 0 [(0, .ref (A 0)), (1, .int (Int32.ofNat i))] [] hp 0 0 (QR hp ow k A np nl 99 50000 (fun r => F_ga30 σ (M1l M i) i (wg [0, 1, 16, 17] (σ 10)) r)) := by
  have hSt : StT M.2.2.2.2.2.2 M.1 := hV.2.2.2.1
  cases htn : tnM M (M.2.2.2.1 i).1 (Int32.ofNat (wg [14348907, 28697814] (σ 9))) with
  | none =>
    exact r_none h hi hSt hlab ht hlen rd_ga30 wr_ga30 bd_ga30_n wb_ga30_n ws_ga30_n (fun p hp => by rw [List.mem_singleton.mp hp]; exact ⟨rfl, (Int32.ofNat (wg [14348907, 28697814] (σ 9))), fun _ _ => rfl, htn⟩) (fun h4 ρ ω' hR hω h17 hW => At.mono (v_flt hR hi (l1_lab.trans hlab) (wgl_64 _) (by decide)) (fun o ho => (ho.mono (by decide) (by decide)).imp (fun r hr => f1_none htn hr)))
  | some t =>
    obtain ⟨q, hq, hqt, hts, hqn, hqb, -⟩ := h.found hSt htn
    rcases hT q hq with tx | tx
    · skip
      refine r_a h hi hSt hlab ht hlen rd_ga30 wr_ga30 bd_ga30_a wb_ga30_a ws_ga30_a hq (by rw [hqt]; exact hts) tx (fun p hp => by rw [List.mem_singleton.mp hp]; exact ⟨(Int32.ofNat (wg [14348907, 28697814] (σ 9))), fun _ _ => rfl, Or.inr ⟨rfl, by rw [hqt]; exact htn⟩⟩) (fun h4 ρ ω' hR hω h17 hW h18 => At.mono (v_0A (b := false) (w := 2) hR hi (l1_lab.trans hlab) (wgl_64 _) hV.l1 hW hq h18 (by decide +kernel) (by decide +kernel) (by decide +kernel) (by decide +kernel) (by rw [tx.2.1]; rfl) (by decide) (by decide +kernel)) (fun o ho => (ho.mono (by decide) (by decide)).imp (fun r hr => f1_some htn hq hqt ?_)))
      simp only [nmC_a tx]
      exact hr
    · skip
      refine r_b h hi hSt hlab ht hlen rd_ga30 wr_ga30 bd_ga30_b wb_ga30_b ws_ga30_b hq (by rw [hqt]; exact hts) tx (fun p hp => by rw [List.mem_singleton.mp hp]; exact ⟨(Int32.ofNat (wg [14348907, 28697814] (σ 9))), fun _ _ => rfl, Or.inr ⟨rfl, by rw [hqt]; exact htn⟩⟩) (fun h4 ρ ω' hR hω h17 hW h18 => At.mono (v_0A (b := false) (w := 3) hR hi (l1_lab.trans hlab) (wgl_64 _) hV.l1 hW hq h18 (by decide +kernel) (by decide +kernel) (by decide +kernel) (by decide +kernel) (by rw [tx.2.1]; rfl) (by decide) (by decide +kernel)) (fun o ho => (ho.mono (by decide) (by decide)).imp (fun r hr => f1_some htn hq hqt ?_)))
      simp only [nmC_b tx]
      exact hr
theorem wr_ga31 : wrB rt_ga31 rW_ga31 4294967295 = true := by decide +kernel
theorem wb_ga31_n : wfrB (List.range 17) (rW_ga31.take 15 ++ (wM0 ++ [])) bW_ga31_n = true := by decide +kernel
theorem ws_ga31_n : wsmB bW_ga31_n = true := by decide +kernel
theorem wb_ga31_a : wfrB (List.range 17) (rW_ga31.take 15 ++ (wM0 ++ bT0)) bW_ga31_a = true := by decide +kernel
theorem ws_ga31_a : wsmB bW_ga31_a = true := by decide +kernel
theorem wb_ga31_b : wfrB (List.range 17) (rW_ga31.take 15 ++ (wM0 ++ bT1)) bW_ga31_b = true := by decide +kernel
theorem ws_ga31_b : wsmB bW_ga31_b = true := by decide +kernel
def F_ga31 (σ : Nat → Nat) : MF := f1 (Int32.ofNat (wg [14348907, 28697814] (σ 9))) 13 (fun q M i ln => getM M i (nmC q 2 3) 999999999 (nmC q (q0A (some 1) (bI (decide ((14 : Nat) = 14))) 150 2 (wif0 bW_ga31_a) (wif1 bW_ga31_a) (wos σ bW_ga31_a) (gthE false (vwE M i) (lookE (TIq M.2.2.2.2.2.2) (vwE M i) (M.2.2.2.1 i).1) q.2.1 (M.2.2.2.1 i).1)) (q0A (some 1) (bI (decide ((14 : Nat) = 14))) 150 3 (wif0 bW_ga31_b) (wif1 bW_ga31_b) (wos σ bW_ga31_b) (gthE false (vwE M i) (lookE (TIq M.2.2.2.2.2.2) (vwE M i) (M.2.2.2.1 i).1) q.2.1 (M.2.2.2.1 i).1))))
theorem sh_ga31 {S : List Int32} {hp : List XC} {ow : Nat → Nat} {k : Nat} {A : Nat → Nat} {M : HM} {rf : Int32} {np nl i : Nat} {σ : Nat → Nat} (h : HR hp ow k A M rf np nl) (hi : i < 8) (hV : WfV M i) (hC : WfC M i) (hT : WfT M) (hlab : (M.2.2.2.1 i).1 = Int32.ofNat (wg [0, 1, 16, 17] (σ 10))) (hmd : M.2.2.2.2.2.1 + 1 = nSr σ) (hsl : ∀ i, i < 8 → (M.2.2.2.1 i).2.2.2.1.length ≤ 3000) (hshf : M.2.1.length ≤ 3000) (ht : ((M.2.2.2.1 i).2.2.2.2.2.2.2.2.take rt_ga31.length).map Value.int = wtT σ rt_ga31) (hlen : (M.2.2.2.1 i).2.2.2.2.2.2.2.1 = rt_ga31.length) : At S 12 40 0 [(0, .ref (A 0)), (1, .int (Int32.ofNat i))] [] hp 0 0 (QR hp ow k A np nl 99 50000 (fun r => F_ga31 σ (M1l M i) i (wg [0, 1, 16, 17] (σ 10)) r)) := by
  have hSt : StT M.2.2.2.2.2.2 M.1 := hV.2.2.2.1
  cases htn : tnM M (M.2.2.2.1 i).1 (Int32.ofNat (wg [14348907, 28697814] (σ 9))) with
  | none =>
    exact r_none h hi hSt hlab ht hlen rd_ga31 wr_ga31 bd_ga31_n wb_ga31_n ws_ga31_n (fun p hp => by rw [List.mem_singleton.mp hp]; exact ⟨rfl, (Int32.ofNat (wg [14348907, 28697814] (σ 9))), fun _ _ => rfl, htn⟩) (fun h4 ρ ω' hR hω h17 hW => At.mono (v_flt hR hi (l1_lab.trans hlab) (wgl_64 _) (by decide)) (fun o ho => (ho.mono (by decide) (by decide)).imp (fun r hr => f1_none htn hr)))
  | some t =>
    obtain ⟨q, hq, hqt, hts, hqn, hqb, -⟩ := h.found hSt htn
    rcases hT q hq with tx | tx
    · skip
      refine r_a h hi hSt hlab ht hlen rd_ga31 wr_ga31 bd_ga31_a wb_ga31_a ws_ga31_a hq (by rw [hqt]; exact hts) tx (fun p hp => by rw [List.mem_singleton.mp hp]; exact ⟨(Int32.ofNat (wg [14348907, 28697814] (σ 9))), fun _ _ => rfl, Or.inr ⟨rfl, by rw [hqt]; exact htn⟩⟩) (fun h4 ρ ω' hR hω h17 hW h18 => At.mono (v_0AD (o := 4) (ko := 1) (b := false) (w := 2) hR hi (l1_lab.trans hlab) (wgl_64 _) hV.l1 hW hq h18 (by decide +kernel) (by decide +kernel) (by decide +kernel) (by decide +kernel) (by rw [tx.2.1]; rfl) (by decide) (by decide) (by decide +kernel)) (fun o ho => (ho.mono (by decide) (by decide)).imp (fun r hr => f1_some htn hq hqt ?_)))
      simp only [nmC_a tx]
      exact hr
    · skip
      refine r_b h hi hSt hlab ht hlen rd_ga31 wr_ga31 bd_ga31_b wb_ga31_b ws_ga31_b hq (by rw [hqt]; exact hts) tx (fun p hp => by rw [List.mem_singleton.mp hp]; exact ⟨(Int32.ofNat (wg [14348907, 28697814] (σ 9))), fun _ _ => rfl, Or.inr ⟨rfl, by rw [hqt]; exact htn⟩⟩) (fun h4 ρ ω' hR hω h17 hW h18 => At.mono (v_0AD (o := 4) (ko := 1) (b := false) (w := 3) hR hi (l1_lab.trans hlab) (wgl_64 _) hV.l1 hW hq h18 (by decide +kernel) (by decide +kernel) (by decide +kernel) (by decide +kernel) (by rw [tx.2.1]; rfl) (by decide) (by decide) (by decide +kernel)) (fun o ho => (ho.mono (by decide) (by decide)).imp (fun r hr => f1_some htn hq hqt ?_)))
      simp only [nmC_b tx]
      exact hr
