/-! the house: the law's texts are run (written by wip/p27/c999999999990.py) -/
theorem wr_pb00 : wrB rt_pb00 rW_pb00 4294967295 = true := by decide +kernel
theorem wb_pb00_n : wfrB (List.range 17) (rW_pb00.take 15 ++ (wM0 ++ [])) bW_pb00_n = true := by decide +kernel
theorem ws_pb00_n : wsmB bW_pb00_n = true := by decide +kernel
theorem wb_pb00_b : wfrB (List.range 17) (rW_pb00.take 15 ++ (wM0 ++ bT1)) bW_pb00_b = true := by decide +kernel
theorem ws_pb00_b : wsmB bW_pb00_b = true := by decide +kernel
def F_pb00 (σ : Nat → Nat) : MF := f1 28697814 4 (fun q M i ln => putM M i ln q true (putV σ bW_pb00_b))
theorem sh_pb00 {S : List Int32} {hp : List XC} {ow : Nat → Nat} {k : Nat} {A : Nat → Nat} {M : HM} {rf : Int32} {np nl i : Nat} {σ : Nat → Nat} (h : HR hp ow k A M rf np nl) (hi : i < 8) (hV : WfV M i) (hC : WfC M i) (hT : WfT M) (hlab : (M.2.2.2.1 i).1 = Int32.ofNat (wg [0, 1, 16, 17] (σ 10))) (hmd : M.2.2.2.2.2.1 + 1 = nSr σ) (hsl : ∀ i, i < 8 → (M.2.2.2.1 i).2.2.2.1.length ≤ 3000) (hshf : M.2.1.length ≤ 3000) (ht : ((M.2.2.2.1 i).2.2.2.2.2.2.2.2.take rt_pb00.length).map Value.int = wtT σ rt_pb00) (hlen : (M.2.2.2.1 i).2.2.2.2.2.2.2.1 = rt_pb00.length) : At S 12 40 0 [(0, .ref (A 0)), (1, .int (Int32.ofNat i))] [] hp 0 0 (QR hp ow k A np nl 99 50000 (fun r => F_pb00 σ (M1l M i) i (wg [0, 1, 16, 17] (σ 10)) r)) := by
  have hSt : StT M.2.2.2.2.2.2 M.1 := hV.2.2.2.1
  cases htn : tnM M (M.2.2.2.1 i).1 28697814 with
  | none =>
    exact r_none h hi hSt hlab ht hlen rd_pb00 wr_pb00 bd_pb00_n wb_pb00_n ws_pb00_n (fun p hp => by rw [List.mem_singleton.mp hp]; exact ⟨rfl, 28697814, fun _ _ => rfl, htn⟩) (fun h4 ρ ω' hR hω h17 hW => At.mono (v_flt hR hi (l1_lab.trans hlab) (wgl_64 _) (by decide)) (fun o ho => (ho.mono (by decide) (by decide)).imp (fun r hr => f1_none htn hr)))
  | some t =>
    obtain ⟨q, hq, hqt, hts, hqn, hqb, -⟩ := h.found hSt htn
    have tx := hT.b hq hqn
    refine r_b h hi hSt hlab ht hlen rd_pb00 wr_pb00 bd_pb00_b wb_pb00_b ws_pb00_b hq (by rw [hqt]; exact hts) tx (fun p hp => by rw [List.mem_singleton.mp hp]; exact ⟨28697814, fun _ _ => rfl, Or.inr ⟨rfl, by rw [hqt]; exact htn⟩⟩) (fun h4 ρ ω' hR hω h17 hW h18 => At.mono (v_put (gv := true) (w := 3) hR hi (l1_lab.trans hlab) (wgl_64 _) hV.l1 hW (by decide +kernel) hq h18 (by rw [tx.2.1]; rfl)) (fun o ho => (ho.mono (by decide) (by decide)).imp (fun r hr => f1_some htn hq hqt ?_)))
    exact hr
theorem wr_pb01 : wrB rt_pb01 rW_pb01 4294967295 = true := by decide +kernel
theorem wb_pb01_n : wfrB (List.range 17) (rW_pb01.take 15 ++ (wM0 ++ [])) bW_pb01_n = true := by decide +kernel
theorem ws_pb01_n : wsmB bW_pb01_n = true := by decide +kernel
theorem wb_pb01_b : wfrB (List.range 17) (rW_pb01.take 15 ++ (wM0 ++ bT1)) bW_pb01_b = true := by decide +kernel
theorem ws_pb01_b : wsmB bW_pb01_b = true := by decide +kernel
def F_pb01 (σ : Nat → Nat) : MF := f1 28697814 4 (fun q M i ln => putM M i ln q true (putV σ bW_pb01_b))
theorem sh_pb01 {S : List Int32} {hp : List XC} {ow : Nat → Nat} {k : Nat} {A : Nat → Nat} {M : HM} {rf : Int32} {np nl i : Nat} {σ : Nat → Nat} (h : HR hp ow k A M rf np nl) (hi : i < 8) (hV : WfV M i) (hC : WfC M i) (hT : WfT M) (hlab : (M.2.2.2.1 i).1 = Int32.ofNat (wg [0, 1, 16, 17] (σ 10))) (hmd : M.2.2.2.2.2.1 + 1 = nSr σ) (hsl : ∀ i, i < 8 → (M.2.2.2.1 i).2.2.2.1.length ≤ 3000) (hshf : M.2.1.length ≤ 3000) (ht : ((M.2.2.2.1 i).2.2.2.2.2.2.2.2.take rt_pb01.length).map Value.int = wtT σ rt_pb01) (hlen : (M.2.2.2.1 i).2.2.2.2.2.2.2.1 = rt_pb01.length) : At S 12 40 0 [(0, .ref (A 0)), (1, .int (Int32.ofNat i))] [] hp 0 0 (QR hp ow k A np nl 99 50000 (fun r => F_pb01 σ (M1l M i) i (wg [0, 1, 16, 17] (σ 10)) r)) := by
  have hSt : StT M.2.2.2.2.2.2 M.1 := hV.2.2.2.1
  cases htn : tnM M (M.2.2.2.1 i).1 28697814 with
  | none =>
    exact r_none h hi hSt hlab ht hlen rd_pb01 wr_pb01 bd_pb01_n wb_pb01_n ws_pb01_n (fun p hp => by rw [List.mem_singleton.mp hp]; exact ⟨rfl, 28697814, fun _ _ => rfl, htn⟩) (fun h4 ρ ω' hR hω h17 hW => At.mono (v_flt hR hi (l1_lab.trans hlab) (wgl_64 _) (by decide)) (fun o ho => (ho.mono (by decide) (by decide)).imp (fun r hr => f1_none htn hr)))
  | some t =>
    obtain ⟨q, hq, hqt, hts, hqn, hqb, -⟩ := h.found hSt htn
    have tx := hT.b hq hqn
    refine r_b h hi hSt hlab ht hlen rd_pb01 wr_pb01 bd_pb01_b wb_pb01_b ws_pb01_b hq (by rw [hqt]; exact hts) tx (fun p hp => by rw [List.mem_singleton.mp hp]; exact ⟨28697814, fun _ _ => rfl, Or.inr ⟨rfl, by rw [hqt]; exact htn⟩⟩) (fun h4 ρ ω' hR hω h17 hW h18 => At.mono (v_put (gv := true) (w := 3) hR hi (l1_lab.trans hlab) (wgl_64 _) hV.l1 hW (by decide +kernel) hq h18 (by rw [tx.2.1]; rfl)) (fun o ho => (ho.mono (by decide) (by decide)).imp (fun r hr => f1_some htn hq hqt ?_)))
    exact hr
theorem wr_pb02 : wrB rt_pb02 rW_pb02 4294967295 = true := by decide +kernel
theorem wb_pb02_n : wfrB (List.range 17) (rW_pb02.take 15 ++ (wM0 ++ [])) bW_pb02_n = true := by decide +kernel
theorem ws_pb02_n : wsmB bW_pb02_n = true := by decide +kernel
theorem wb_pb02_b : wfrB (List.range 17) (rW_pb02.take 15 ++ (wM0 ++ bT1)) bW_pb02_b = true := by decide +kernel
theorem ws_pb02_b : wsmB bW_pb02_b = true := by decide +kernel
def F_pb02 (σ : Nat → Nat) : MF := f1 28697814 4 (fun q M i ln => putM M i ln q true (putV σ bW_pb02_b))
theorem sh_pb02 {S : List Int32} {hp : List XC} {ow : Nat → Nat} {k : Nat} {A : Nat → Nat} {M : HM} {rf : Int32} {np nl i : Nat} {σ : Nat → Nat} (h : HR hp ow k A M rf np nl) (hi : i < 8) (hV : WfV M i) (hC : WfC M i) (hT : WfT M) (hlab : (M.2.2.2.1 i).1 = Int32.ofNat (wg [0, 1, 16, 17] (σ 10))) (hmd : M.2.2.2.2.2.1 + 1 = nSr σ) (hsl : ∀ i, i < 8 → (M.2.2.2.1 i).2.2.2.1.length ≤ 3000) (hshf : M.2.1.length ≤ 3000) (ht : ((M.2.2.2.1 i).2.2.2.2.2.2.2.2.take rt_pb02.length).map Value.int = wtT σ rt_pb02) (hlen : (M.2.2.2.1 i).2.2.2.2.2.2.2.1 = rt_pb02.length) : At S 12 40 0 [(0, .ref (A 0)), (1, .int (Int32.ofNat i))] [] hp 0 0 (QR hp ow k A np nl 99 50000 (fun r => F_pb02 σ (M1l M i) i (wg [0, 1, 16, 17] (σ 10)) r)) := by
  have hSt : StT M.2.2.2.2.2.2 M.1 := hV.2.2.2.1
  cases htn : tnM M (M.2.2.2.1 i).1 28697814 with
  | none =>
    exact r_none h hi hSt hlab ht hlen rd_pb02 wr_pb02 bd_pb02_n wb_pb02_n ws_pb02_n (fun p hp => by rw [List.mem_singleton.mp hp]; exact ⟨rfl, 28697814, fun _ _ => rfl, htn⟩) (fun h4 ρ ω' hR hω h17 hW => At.mono (v_flt hR hi (l1_lab.trans hlab) (wgl_64 _) (by decide)) (fun o ho => (ho.mono (by decide) (by decide)).imp (fun r hr => f1_none htn hr)))
  | some t =>
    obtain ⟨q, hq, hqt, hts, hqn, hqb, -⟩ := h.found hSt htn
    have tx := hT.b hq hqn
    refine r_b h hi hSt hlab ht hlen rd_pb02 wr_pb02 bd_pb02_b wb_pb02_b ws_pb02_b hq (by rw [hqt]; exact hts) tx (fun p hp => by rw [List.mem_singleton.mp hp]; exact ⟨28697814, fun _ _ => rfl, Or.inr ⟨rfl, by rw [hqt]; exact htn⟩⟩) (fun h4 ρ ω' hR hω h17 hW h18 => At.mono (v_put (gv := true) (w := 3) hR hi (l1_lab.trans hlab) (wgl_64 _) hV.l1 hW (by decide +kernel) hq h18 (by rw [tx.2.1]; rfl)) (fun o ho => (ho.mono (by decide) (by decide)).imp (fun r hr => f1_some htn hq hqt ?_)))
    exact hr
theorem wr_pb10 : wrB rt_pb10 rW_pb10 4294967295 = true := by decide +kernel
theorem wb_pb10_n : wfrB (List.range 17) (rW_pb10.take 15 ++ (wM0 ++ [])) bW_pb10_n = true := by decide +kernel
theorem ws_pb10_n : wsmB bW_pb10_n = true := by decide +kernel
theorem wb_pb10_b : wfrB (List.range 17) (rW_pb10.take 15 ++ (wM0 ++ bT1)) bW_pb10_b = true := by decide +kernel
theorem ws_pb10_b : wsmB bW_pb10_b = true := by decide +kernel
def F_pb10 (σ : Nat → Nat) : MF := f1 28697814 4 (fun q M i ln => putM M i ln q true (putV σ bW_pb10_b))
theorem sh_pb10 {S : List Int32} {hp : List XC} {ow : Nat → Nat} {k : Nat} {A : Nat → Nat} {M : HM} {rf : Int32} {np nl i : Nat} {σ : Nat → Nat} (h : HR hp ow k A M rf np nl) (hi : i < 8) (hV : WfV M i) (hC : WfC M i) (hT : WfT M) (hlab : (M.2.2.2.1 i).1 = Int32.ofNat (wg [0, 1, 16, 17] (σ 10))) (hmd : M.2.2.2.2.2.1 + 1 = nSr σ) (hsl : ∀ i, i < 8 → (M.2.2.2.1 i).2.2.2.1.length ≤ 3000) (hshf : M.2.1.length ≤ 3000) (ht : ((M.2.2.2.1 i).2.2.2.2.2.2.2.2.take rt_pb10.length).map Value.int = wtT σ rt_pb10) (hlen : (M.2.2.2.1 i).2.2.2.2.2.2.2.1 = rt_pb10.length) : At S 12 40 0 [(0, .ref (A 0)), (1, .int (Int32.ofNat i))] [] hp 0 0 (QR hp ow k A np nl 99 50000 (fun r => F_pb10 σ (M1l M i) i (wg [0, 1, 16, 17] (σ 10)) r)) := by
  have hSt : StT M.2.2.2.2.2.2 M.1 := hV.2.2.2.1
  cases htn : tnM M (M.2.2.2.1 i).1 28697814 with
  | none =>
    exact r_none h hi hSt hlab ht hlen rd_pb10 wr_pb10 bd_pb10_n wb_pb10_n ws_pb10_n (fun p hp => by rw [List.mem_singleton.mp hp]; exact ⟨rfl, 28697814, fun _ _ => rfl, htn⟩) (fun h4 ρ ω' hR hω h17 hW => At.mono (v_flt hR hi (l1_lab.trans hlab) (wgl_64 _) (by decide)) (fun o ho => (ho.mono (by decide) (by decide)).imp (fun r hr => f1_none htn hr)))
  | some t =>
    obtain ⟨q, hq, hqt, hts, hqn, hqb, -⟩ := h.found hSt htn
    have tx := hT.b hq hqn
    refine r_b h hi hSt hlab ht hlen rd_pb10 wr_pb10 bd_pb10_b wb_pb10_b ws_pb10_b hq (by rw [hqt]; exact hts) tx (fun p hp => by rw [List.mem_singleton.mp hp]; exact ⟨28697814, fun _ _ => rfl, Or.inr ⟨rfl, by rw [hqt]; exact htn⟩⟩) (fun h4 ρ ω' hR hω h17 hW h18 => At.mono (v_put (gv := true) (w := 3) hR hi (l1_lab.trans hlab) (wgl_64 _) hV.l1 hW (by decide +kernel) hq h18 (by rw [tx.2.1]; rfl)) (fun o ho => (ho.mono (by decide) (by decide)).imp (fun r hr => f1_some htn hq hqt ?_)))
    exact hr
theorem wr_pb11 : wrB rt_pb11 rW_pb11 4294967295 = true := by decide +kernel
theorem wb_pb11_n : wfrB (List.range 17) (rW_pb11.take 15 ++ (wM0 ++ [])) bW_pb11_n = true := by decide +kernel
theorem ws_pb11_n : wsmB bW_pb11_n = true := by decide +kernel
theorem wb_pb11_b : wfrB (List.range 17) (rW_pb11.take 15 ++ (wM0 ++ bT1)) bW_pb11_b = true := by decide +kernel
theorem ws_pb11_b : wsmB bW_pb11_b = true := by decide +kernel
def F_pb11 (σ : Nat → Nat) : MF := f1 28697814 4 (fun q M i ln => putM M i ln q true (putV σ bW_pb11_b))
theorem sh_pb11 {S : List Int32} {hp : List XC} {ow : Nat → Nat} {k : Nat} {A : Nat → Nat} {M : HM} {rf : Int32} {np nl i : Nat} {σ : Nat → Nat} (h : HR hp ow k A M rf np nl) (hi : i < 8) (hV : WfV M i) (hC : WfC M i) (hT : WfT M) (hlab : (M.2.2.2.1 i).1 = Int32.ofNat (wg [0, 1, 16, 17] (σ 10))) (hmd : M.2.2.2.2.2.1 + 1 = nSr σ) (hsl : ∀ i, i < 8 → (M.2.2.2.1 i).2.2.2.1.length ≤ 3000) (hshf : M.2.1.length ≤ 3000) (ht : ((M.2.2.2.1 i).2.2.2.2.2.2.2.2.take rt_pb11.length).map Value.int = wtT σ rt_pb11) (hlen : (M.2.2.2.1 i).2.2.2.2.2.2.2.1 = rt_pb11.length) : At S 12 40 0 [(0, .ref (A 0)), (1, .int (Int32.ofNat i))] [] hp 0 0 (QR hp ow k A np nl 99 50000 (fun r => F_pb11 σ (M1l M i) i (wg [0, 1, 16, 17] (σ 10)) r)) := by
  have hSt : StT M.2.2.2.2.2.2 M.1 := hV.2.2.2.1
  cases htn : tnM M (M.2.2.2.1 i).1 28697814 with
  | none =>
    exact r_none h hi hSt hlab ht hlen rd_pb11 wr_pb11 bd_pb11_n wb_pb11_n ws_pb11_n (fun p hp => by rw [List.mem_singleton.mp hp]; exact ⟨rfl, 28697814, fun _ _ => rfl, htn⟩) (fun h4 ρ ω' hR hω h17 hW => At.mono (v_flt hR hi (l1_lab.trans hlab) (wgl_64 _) (by decide)) (fun o ho => (ho.mono (by decide) (by decide)).imp (fun r hr => f1_none htn hr)))
  | some t =>
    obtain ⟨q, hq, hqt, hts, hqn, hqb, -⟩ := h.found hSt htn
    have tx := hT.b hq hqn
    refine r_b h hi hSt hlab ht hlen rd_pb11 wr_pb11 bd_pb11_b wb_pb11_b ws_pb11_b hq (by rw [hqt]; exact hts) tx (fun p hp => by rw [List.mem_singleton.mp hp]; exact ⟨28697814, fun _ _ => rfl, Or.inr ⟨rfl, by rw [hqt]; exact htn⟩⟩) (fun h4 ρ ω' hR hω h17 hW h18 => At.mono (v_put (gv := true) (w := 3) hR hi (l1_lab.trans hlab) (wgl_64 _) hV.l1 hW (by decide +kernel) hq h18 (by rw [tx.2.1]; rfl)) (fun o ho => (ho.mono (by decide) (by decide)).imp (fun r hr => f1_some htn hq hqt ?_)))
    exact hr
theorem wr_pb12 : wrB rt_pb12 rW_pb12 4294967295 = true := by decide +kernel
theorem wb_pb12_n : wfrB (List.range 17) (rW_pb12.take 15 ++ (wM0 ++ [])) bW_pb12_n = true := by decide +kernel
theorem ws_pb12_n : wsmB bW_pb12_n = true := by decide +kernel
theorem wb_pb12_b : wfrB (List.range 17) (rW_pb12.take 15 ++ (wM0 ++ bT1)) bW_pb12_b = true := by decide +kernel
theorem ws_pb12_b : wsmB bW_pb12_b = true := by decide +kernel
def F_pb12 (σ : Nat → Nat) : MF := f1 28697814 4 (fun q M i ln => putM M i ln q true (putV σ bW_pb12_b))
theorem sh_pb12 {S : List Int32} {hp : List XC} {ow : Nat → Nat} {k : Nat} {A : Nat → Nat} {M : HM} {rf : Int32} {np nl i : Nat} {σ : Nat → Nat} (h : HR hp ow k A M rf np nl) (hi : i < 8) (hV : WfV M i) (hC : WfC M i) (hT : WfT M) (hlab : (M.2.2.2.1 i).1 = Int32.ofNat (wg [0, 1, 16, 17] (σ 10))) (hmd : M.2.2.2.2.2.1 + 1 = nSr σ) (hsl : ∀ i, i < 8 → (M.2.2.2.1 i).2.2.2.1.length ≤ 3000) (hshf : M.2.1.length ≤ 3000) (ht : ((M.2.2.2.1 i).2.2.2.2.2.2.2.2.take rt_pb12.length).map Value.int = wtT σ rt_pb12) (hlen : (M.2.2.2.1 i).2.2.2.2.2.2.2.1 = rt_pb12.length) : At S 12 40 0 [(0, .ref (A 0)), (1, .int (Int32.ofNat i))] [] hp 0 0 (QR hp ow k A np nl 99 50000 (fun r => F_pb12 σ (M1l M i) i (wg [0, 1, 16, 17] (σ 10)) r)) := by
  have hSt : StT M.2.2.2.2.2.2 M.1 := hV.2.2.2.1
  cases htn : tnM M (M.2.2.2.1 i).1 28697814 with
  | none =>
    exact r_none h hi hSt hlab ht hlen rd_pb12 wr_pb12 bd_pb12_n wb_pb12_n ws_pb12_n (fun p hp => by rw [List.mem_singleton.mp hp]; exact ⟨rfl, 28697814, fun _ _ => rfl, htn⟩) (fun h4 ρ ω' hR hω h17 hW => At.mono (v_flt hR hi (l1_lab.trans hlab) (wgl_64 _) (by decide)) (fun o ho => (ho.mono (by decide) (by decide)).imp (fun r hr => f1_none htn hr)))
  | some t =>
    obtain ⟨q, hq, hqt, hts, hqn, hqb, -⟩ := h.found hSt htn
    have tx := hT.b hq hqn
    refine r_b h hi hSt hlab ht hlen rd_pb12 wr_pb12 bd_pb12_b wb_pb12_b ws_pb12_b hq (by rw [hqt]; exact hts) tx (fun p hp => by rw [List.mem_singleton.mp hp]; exact ⟨28697814, fun _ _ => rfl, Or.inr ⟨rfl, by rw [hqt]; exact htn⟩⟩) (fun h4 ρ ω' hR hω h17 hW h18 => At.mono (v_put (gv := true) (w := 3) hR hi (l1_lab.trans hlab) (wgl_64 _) hV.l1 hW (by decide +kernel) hq h18 (by rw [tx.2.1]; rfl)) (fun o ho => (ho.mono (by decide) (by decide)).imp (fun r hr => f1_some htn hq hqt ?_)))
    exact hr
theorem wr_pb20 : wrB rt_pb20 rW_pb20 4294967295 = true := by decide +kernel
theorem wb_pb20_n : wfrB (List.range 17) (rW_pb20.take 15 ++ (wM0 ++ [])) bW_pb20_n = true := by decide +kernel
theorem ws_pb20_n : wsmB bW_pb20_n = true := by decide +kernel
theorem wb_pb20_b : wfrB (List.range 17) (rW_pb20.take 15 ++ (wM0 ++ bT1)) bW_pb20_b = true := by decide +kernel
theorem ws_pb20_b : wsmB bW_pb20_b = true := by decide +kernel
def F_pb20 (σ : Nat → Nat) : MF := f1 28697814 4 (fun q M i ln => putM M i ln q true (putV σ bW_pb20_b))
theorem sh_pb20 {S : List Int32} {hp : List XC} {ow : Nat → Nat} {k : Nat} {A : Nat → Nat} {M : HM} {rf : Int32} {np nl i : Nat} {σ : Nat → Nat} (h : HR hp ow k A M rf np nl) (hi : i < 8) (hV : WfV M i) (hC : WfC M i) (hT : WfT M) (hlab : (M.2.2.2.1 i).1 = Int32.ofNat (wg [0, 1, 16, 17] (σ 10))) (hmd : M.2.2.2.2.2.1 + 1 = nSr σ) (hsl : ∀ i, i < 8 → (M.2.2.2.1 i).2.2.2.1.length ≤ 3000) (hshf : M.2.1.length ≤ 3000) (ht : ((M.2.2.2.1 i).2.2.2.2.2.2.2.2.take rt_pb20.length).map Value.int = wtT σ rt_pb20) (hlen : (M.2.2.2.1 i).2.2.2.2.2.2.2.1 = rt_pb20.length) : At S 12 40 0 [(0, .ref (A 0)), (1, .int (Int32.ofNat i))] [] hp 0 0 (QR hp ow k A np nl 99 50000 (fun r => F_pb20 σ (M1l M i) i (wg [0, 1, 16, 17] (σ 10)) r)) := by
  have hSt : StT M.2.2.2.2.2.2 M.1 := hV.2.2.2.1
  cases htn : tnM M (M.2.2.2.1 i).1 28697814 with
  | none =>
    exact r_none h hi hSt hlab ht hlen rd_pb20 wr_pb20 bd_pb20_n wb_pb20_n ws_pb20_n (fun p hp => by rw [List.mem_singleton.mp hp]; exact ⟨rfl, 28697814, fun _ _ => rfl, htn⟩) (fun h4 ρ ω' hR hω h17 hW => At.mono (v_flt hR hi (l1_lab.trans hlab) (wgl_64 _) (by decide)) (fun o ho => (ho.mono (by decide) (by decide)).imp (fun r hr => f1_none htn hr)))
  | some t =>
    obtain ⟨q, hq, hqt, hts, hqn, hqb, -⟩ := h.found hSt htn
    have tx := hT.b hq hqn
    refine r_b h hi hSt hlab ht hlen rd_pb20 wr_pb20 bd_pb20_b wb_pb20_b ws_pb20_b hq (by rw [hqt]; exact hts) tx (fun p hp => by rw [List.mem_singleton.mp hp]; exact ⟨28697814, fun _ _ => rfl, Or.inr ⟨rfl, by rw [hqt]; exact htn⟩⟩) (fun h4 ρ ω' hR hω h17 hW h18 => At.mono (v_put (gv := true) (w := 3) hR hi (l1_lab.trans hlab) (wgl_64 _) hV.l1 hW (by decide +kernel) hq h18 (by rw [tx.2.1]; rfl)) (fun o ho => (ho.mono (by decide) (by decide)).imp (fun r hr => f1_some htn hq hqt ?_)))
    exact hr
theorem wr_pb21 : wrB rt_pb21 rW_pb21 4294967295 = true := by decide +kernel
theorem wb_pb21_n : wfrB (List.range 17) (rW_pb21.take 15 ++ (wM0 ++ [])) bW_pb21_n = true := by decide +kernel
theorem ws_pb21_n : wsmB bW_pb21_n = true := by decide +kernel
theorem wb_pb21_b : wfrB (List.range 17) (rW_pb21.take 15 ++ (wM0 ++ bT1)) bW_pb21_b = true := by decide +kernel
theorem ws_pb21_b : wsmB bW_pb21_b = true := by decide +kernel
def F_pb21 (σ : Nat → Nat) : MF := f1 28697814 4 (fun q M i ln => putM M i ln q true (putV σ bW_pb21_b))
theorem sh_pb21 {S : List Int32} {hp : List XC} {ow : Nat → Nat} {k : Nat} {A : Nat → Nat} {M : HM} {rf : Int32} {np nl i : Nat} {σ : Nat → Nat} (h : HR hp ow k A M rf np nl) (hi : i < 8) (hV : WfV M i) (hC : WfC M i) (hT : WfT M) (hlab : (M.2.2.2.1 i).1 = Int32.ofNat (wg [0, 1, 16, 17] (σ 10))) (hmd : M.2.2.2.2.2.1 + 1 = nSr σ) (hsl : ∀ i, i < 8 → (M.2.2.2.1 i).2.2.2.1.length ≤ 3000) (hshf : M.2.1.length ≤ 3000) (ht : ((M.2.2.2.1 i).2.2.2.2.2.2.2.2.take rt_pb21.length).map Value.int = wtT σ rt_pb21) (hlen : (M.2.2.2.1 i).2.2.2.2.2.2.2.1 = rt_pb21.length) : At S 12 40 0 [(0, .ref (A 0)), (1, .int (Int32.ofNat i))] [] hp 0 0 (QR hp ow k A np nl 99 50000 (fun r => F_pb21 σ (M1l M i) i (wg [0, 1, 16, 17] (σ 10)) r)) := by
  have hSt : StT M.2.2.2.2.2.2 M.1 := hV.2.2.2.1
  cases htn : tnM M (M.2.2.2.1 i).1 28697814 with
  | none =>
    exact r_none h hi hSt hlab ht hlen rd_pb21 wr_pb21 bd_pb21_n wb_pb21_n ws_pb21_n (fun p hp => by rw [List.mem_singleton.mp hp]; exact ⟨rfl, 28697814, fun _ _ => rfl, htn⟩) (fun h4 ρ ω' hR hω h17 hW => At.mono (v_flt hR hi (l1_lab.trans hlab) (wgl_64 _) (by decide)) (fun o ho => (ho.mono (by decide) (by decide)).imp (fun r hr => f1_none htn hr)))
  | some t =>
    obtain ⟨q, hq, hqt, hts, hqn, hqb, -⟩ := h.found hSt htn
    have tx := hT.b hq hqn
    refine r_b h hi hSt hlab ht hlen rd_pb21 wr_pb21 bd_pb21_b wb_pb21_b ws_pb21_b hq (by rw [hqt]; exact hts) tx (fun p hp => by rw [List.mem_singleton.mp hp]; exact ⟨28697814, fun _ _ => rfl, Or.inr ⟨rfl, by rw [hqt]; exact htn⟩⟩) (fun h4 ρ ω' hR hω h17 hW h18 => At.mono (v_put (gv := true) (w := 3) hR hi (l1_lab.trans hlab) (wgl_64 _) hV.l1 hW (by decide +kernel) hq h18 (by rw [tx.2.1]; rfl)) (fun o ho => (ho.mono (by decide) (by decide)).imp (fun r hr => f1_some htn hq hqt ?_)))
    exact hr
theorem wr_pb22 : wrB rt_pb22 rW_pb22 4294967295 = true := by decide +kernel
theorem wb_pb22_n : wfrB (List.range 17) (rW_pb22.take 15 ++ (wM0 ++ [])) bW_pb22_n = true := by decide +kernel
theorem ws_pb22_n : wsmB bW_pb22_n = true := by decide +kernel
theorem wb_pb22_b : wfrB (List.range 17) (rW_pb22.take 15 ++ (wM0 ++ bT1)) bW_pb22_b = true := by decide +kernel
theorem ws_pb22_b : wsmB bW_pb22_b = true := by decide +kernel
def F_pb22 (σ : Nat → Nat) : MF := f1 28697814 4 (fun q M i ln => putM M i ln q true (putV σ bW_pb22_b))
theorem sh_pb22 {S : List Int32} {hp : List XC} {ow : Nat → Nat} {k : Nat} {A : Nat → Nat} {M : HM} {rf : Int32} {np nl i : Nat} {σ : Nat → Nat} (h : HR hp ow k A M rf np nl) (hi : i < 8) (hV : WfV M i) (hC : WfC M i) (hT : WfT M) (hlab : (M.2.2.2.1 i).1 = Int32.ofNat (wg [0, 1, 16, 17] (σ 10))) (hmd : M.2.2.2.2.2.1 + 1 = nSr σ) (hsl : ∀ i, i < 8 → (M.2.2.2.1 i).2.2.2.1.length ≤ 3000) (hshf : M.2.1.length ≤ 3000) (ht : ((M.2.2.2.1 i).2.2.2.2.2.2.2.2.take rt_pb22.length).map Value.int = wtT σ rt_pb22) (hlen : (M.2.2.2.1 i).2.2.2.2.2.2.2.1 = rt_pb22.length) : At S 12 40 0 [(0, .ref (A 0)), (1, .int (Int32.ofNat i))] [] hp 0 0 (QR hp ow k A np nl 99 50000 (fun r => F_pb22 σ (M1l M i) i (wg [0, 1, 16, 17] (σ 10)) r)) := by
  have hSt : StT M.2.2.2.2.2.2 M.1 := hV.2.2.2.1
  cases htn : tnM M (M.2.2.2.1 i).1 28697814 with
  | none =>
    exact r_none h hi hSt hlab ht hlen rd_pb22 wr_pb22 bd_pb22_n wb_pb22_n ws_pb22_n (fun p hp => by rw [List.mem_singleton.mp hp]; exact ⟨rfl, 28697814, fun _ _ => rfl, htn⟩) (fun h4 ρ ω' hR hω h17 hW => At.mono (v_flt hR hi (l1_lab.trans hlab) (wgl_64 _) (by decide)) (fun o ho => (ho.mono (by decide) (by decide)).imp (fun r hr => f1_none htn hr)))
  | some t =>
    obtain ⟨q, hq, hqt, hts, hqn, hqb, -⟩ := h.found hSt htn
    have tx := hT.b hq hqn
    refine r_b h hi hSt hlab ht hlen rd_pb22 wr_pb22 bd_pb22_b wb_pb22_b ws_pb22_b hq (by rw [hqt]; exact hts) tx (fun p hp => by rw [List.mem_singleton.mp hp]; exact ⟨28697814, fun _ _ => rfl, Or.inr ⟨rfl, by rw [hqt]; exact htn⟩⟩) (fun h4 ρ ω' hR hω h17 hW h18 => At.mono (v_put (gv := true) (w := 3) hR hi (l1_lab.trans hlab) (wgl_64 _) hV.l1 hW (by decide +kernel) hq h18 (by rw [tx.2.1]; rfl)) (fun o ho => (ho.mono (by decide) (by decide)).imp (fun r hr => f1_some htn hq hqt ?_)))
    exact hr
theorem wr_c0 : wrB rt_c0 rW_c0 4294967295 = true := by decide +kernel
theorem wb_c0_n : wfrB (List.range 17) (rW_c0.take 15 ++ (wM0 ++ [])) bW_c0_n = true := by decide +kernel
theorem ws_c0_n : wsmB bW_c0_n = true := by decide +kernel
theorem wb_c0_a : wfrB (List.range 17) (rW_c0.take 15 ++ (wM0 ++ bT0)) bW_c0_a = true := by decide +kernel
theorem ws_c0_a : wsmB bW_c0_a = true := by decide +kernel
theorem wb_c0_b : wfrB (List.range 17) (rW_c0.take 15 ++ (wM0 ++ bT1)) bW_c0_b = true := by decide +kernel
theorem ws_c0_b : wsmB bW_c0_b = true := by decide +kernel
def F_c0 (σ : Nat → Nat) : MF := f1 (Int32.ofNat (wg [14348907, 28697814] (σ 9))) 4 (fun q M i ln => cutM M i ln q (nmC q (fmW σ bW_c0_a) (fmW σ bW_c0_b)))
theorem sh_c0 {S : List Int32} {hp : List XC} {ow : Nat → Nat} {k : Nat} {A : Nat → Nat} {M : HM} {rf : Int32} {np nl i : Nat} {σ : Nat → Nat} (h : HR hp ow k A M rf np nl) (hi : i < 8) (hV : WfV M i) (hC : WfC M i) (hT : WfT M) (hlab : (M.2.2.2.1 i).1 = Int32.ofNat (wg [0, 1, 16, 17] (σ 10))) (hmd : M.2.2.2.2.2.1 + 1 = nSr σ) (hsl : ∀ i, i < 8 → (M.2.2.2.1 i).2.2.2.1.length ≤ 3000) (hshf : M.2.1.length ≤ 3000) (ht : ((M.2.2.2.1 i).2.2.2.2.2.2.2.2.take rt_c0.length).map Value.int = wtT σ rt_c0) (hlen : (M.2.2.2.1 i).2.2.2.2.2.2.2.1 = rt_c0.length) : At S 12 40 0 [(0, .ref (A 0)), (1, .int (Int32.ofNat i))] [] hp 0 0 (QR hp ow k A np nl 99 50000 (fun r => F_c0 σ (M1l M i) i (wg [0, 1, 16, 17] (σ 10)) r)) := by
  have hSt : StT M.2.2.2.2.2.2 M.1 := hV.2.2.2.1
  cases htn : tnM M (M.2.2.2.1 i).1 (Int32.ofNat (wg [14348907, 28697814] (σ 9))) with
  | none =>
    exact r_none h hi hSt hlab ht hlen rd_c0 wr_c0 bd_c0_n wb_c0_n ws_c0_n (fun p hp => by rw [List.mem_singleton.mp hp]; exact ⟨rfl, (Int32.ofNat (wg [14348907, 28697814] (σ 9))), fun _ _ => rfl, htn⟩) (fun h4 ρ ω' hR hω h17 hW => At.mono (v_flt hR hi (l1_lab.trans hlab) (wgl_64 _) (by decide)) (fun o ho => (ho.mono (by decide) (by decide)).imp (fun r hr => f1_none htn hr)))
  | some t =>
    obtain ⟨q, hq, hqt, hts, hqn, hqb, -⟩ := h.found hSt htn
    rcases hT q hq with tx | tx
    · skip
      refine r_a h hi hSt hlab ht hlen rd_c0 wr_c0 bd_c0_a wb_c0_a ws_c0_a hq (by rw [hqt]; exact hts) tx (fun p hp => by rw [List.mem_singleton.mp hp]; exact ⟨(Int32.ofNat (wg [14348907, 28697814] (σ 9))), fun _ _ => rfl, Or.inr ⟨rfl, by rw [hqt]; exact htn⟩⟩) (fun h4 ρ ω' hR hω h17 hW h18 => At.mono (v_cut hR hi (l1_lab.trans hlab) (wgl_64 _) hV.l1 hW (by decide +kernel) hq h18 (WfC.al hC.l1)) (fun o ho => (ho.mono (by decide) (by decide)).imp (fun r hr => f1_some htn hq hqt ?_)))
      simp only [nmC_a tx]
      exact hr
    · skip
      refine r_b h hi hSt hlab ht hlen rd_c0 wr_c0 bd_c0_b wb_c0_b ws_c0_b hq (by rw [hqt]; exact hts) tx (fun p hp => by rw [List.mem_singleton.mp hp]; exact ⟨(Int32.ofNat (wg [14348907, 28697814] (σ 9))), fun _ _ => rfl, Or.inr ⟨rfl, by rw [hqt]; exact htn⟩⟩) (fun h4 ρ ω' hR hω h17 hW h18 => At.mono (v_cut hR hi (l1_lab.trans hlab) (wgl_64 _) hV.l1 hW (by decide +kernel) hq h18 (WfC.al hC.l1)) (fun o ho => (ho.mono (by decide) (by decide)).imp (fun r hr => f1_some htn hq hqt ?_)))
      simp only [nmC_b tx]
      exact hr
theorem wr_c1 : wrB rt_c1 rW_c1 4294967295 = true := by decide +kernel
theorem wb_c1_n : wfrB (List.range 17) (rW_c1.take 15 ++ (wM0 ++ [])) bW_c1_n = true := by decide +kernel
theorem ws_c1_n : wsmB bW_c1_n = true := by decide +kernel
theorem wb_c1_a : wfrB (List.range 17) (rW_c1.take 15 ++ (wM0 ++ bT0)) bW_c1_a = true := by decide +kernel
theorem ws_c1_a : wsmB bW_c1_a = true := by decide +kernel
theorem wb_c1_b : wfrB (List.range 17) (rW_c1.take 15 ++ (wM0 ++ bT1)) bW_c1_b = true := by decide +kernel
theorem ws_c1_b : wsmB bW_c1_b = true := by decide +kernel
def F_c1 (σ : Nat → Nat) : MF := f1 (Int32.ofNat (wg [14348907, 28697814] (σ 9))) 4 (fun q M i ln => cutM M i ln q (nmC q (fmW σ bW_c1_a) (fmW σ bW_c1_b)))
theorem sh_c1 {S : List Int32} {hp : List XC} {ow : Nat → Nat} {k : Nat} {A : Nat → Nat} {M : HM} {rf : Int32} {np nl i : Nat} {σ : Nat → Nat} (h : HR hp ow k A M rf np nl) (hi : i < 8) (hV : WfV M i) (hC : WfC M i) (hT : WfT M) (hlab : (M.2.2.2.1 i).1 = Int32.ofNat (wg [0, 1, 16, 17] (σ 10))) (hmd : M.2.2.2.2.2.1 + 1 = nSr σ) (hsl : ∀ i, i < 8 → (M.2.2.2.1 i).2.2.2.1.length ≤ 3000) (hshf : M.2.1.length ≤ 3000) (ht : ((M.2.2.2.1 i).2.2.2.2.2.2.2.2.take rt_c1.length).map Value.int = wtT σ rt_c1) (hlen : (M.2.2.2.1 i).2.2.2.2.2.2.2.1 = rt_c1.length) : At S 12 40 0 [(0, .ref (A 0)), (1, .int (Int32.ofNat i))] [] hp 0 0 (QR hp ow k A np nl 99 50000 (fun r => F_c1 σ (M1l M i) i (wg [0, 1, 16, 17] (σ 10)) r)) := by
  have hSt : StT M.2.2.2.2.2.2 M.1 := hV.2.2.2.1
  cases htn : tnM M (M.2.2.2.1 i).1 (Int32.ofNat (wg [14348907, 28697814] (σ 9))) with
  | none =>
    exact r_none h hi hSt hlab ht hlen rd_c1 wr_c1 bd_c1_n wb_c1_n ws_c1_n (fun p hp => by rw [List.mem_singleton.mp hp]; exact ⟨rfl, (Int32.ofNat (wg [14348907, 28697814] (σ 9))), fun _ _ => rfl, htn⟩) (fun h4 ρ ω' hR hω h17 hW => At.mono (v_flt hR hi (l1_lab.trans hlab) (wgl_64 _) (by decide)) (fun o ho => (ho.mono (by decide) (by decide)).imp (fun r hr => f1_none htn hr)))
  | some t =>
    obtain ⟨q, hq, hqt, hts, hqn, hqb, -⟩ := h.found hSt htn
    rcases hT q hq with tx | tx
    · skip
      refine r_a h hi hSt hlab ht hlen rd_c1 wr_c1 bd_c1_a wb_c1_a ws_c1_a hq (by rw [hqt]; exact hts) tx (fun p hp => by rw [List.mem_singleton.mp hp]; exact ⟨(Int32.ofNat (wg [14348907, 28697814] (σ 9))), fun _ _ => rfl, Or.inr ⟨rfl, by rw [hqt]; exact htn⟩⟩) (fun h4 ρ ω' hR hω h17 hW h18 => At.mono (v_cut hR hi (l1_lab.trans hlab) (wgl_64 _) hV.l1 hW (by decide +kernel) hq h18 (WfC.al hC.l1)) (fun o ho => (ho.mono (by decide) (by decide)).imp (fun r hr => f1_some htn hq hqt ?_)))
      simp only [nmC_a tx]
      exact hr
    · skip
      refine r_b h hi hSt hlab ht hlen rd_c1 wr_c1 bd_c1_b wb_c1_b ws_c1_b hq (by rw [hqt]; exact hts) tx (fun p hp => by rw [List.mem_singleton.mp hp]; exact ⟨(Int32.ofNat (wg [14348907, 28697814] (σ 9))), fun _ _ => rfl, Or.inr ⟨rfl, by rw [hqt]; exact htn⟩⟩) (fun h4 ρ ω' hR hω h17 hW h18 => At.mono (v_cut hR hi (l1_lab.trans hlab) (wgl_64 _) hV.l1 hW (by decide +kernel) hq h18 (WfC.al hC.l1)) (fun o ho => (ho.mono (by decide) (by decide)).imp (fun r hr => f1_some htn hq hqt ?_)))
      simp only [nmC_b tx]
      exact hr
theorem wr_c2 : wrB rt_c2 rW_c2 4294967295 = true := by decide +kernel
theorem wb_c2_n : wfrB (List.range 17) (rW_c2.take 15 ++ (wM0 ++ [])) bW_c2_n = true := by decide +kernel
theorem ws_c2_n : wsmB bW_c2_n = true := by decide +kernel
theorem wb_c2_a : wfrB (List.range 17) (rW_c2.take 15 ++ (wM0 ++ bT0)) bW_c2_a = true := by decide +kernel
theorem ws_c2_a : wsmB bW_c2_a = true := by decide +kernel
theorem wb_c2_b : wfrB (List.range 17) (rW_c2.take 15 ++ (wM0 ++ bT1)) bW_c2_b = true := by decide +kernel
theorem ws_c2_b : wsmB bW_c2_b = true := by decide +kernel
def F_c2 (σ : Nat → Nat) : MF := f1 (Int32.ofNat (wg [14348907, 28697814] (σ 9))) 4 (fun q M i ln => cutM M i ln q (nmC q (fmW σ bW_c2_a) (fmW σ bW_c2_b)))
theorem sh_c2 {S : List Int32} {hp : List XC} {ow : Nat → Nat} {k : Nat} {A : Nat → Nat} {M : HM} {rf : Int32} {np nl i : Nat} {σ : Nat → Nat} (h : HR hp ow k A M rf np nl) (hi : i < 8) (hV : WfV M i) (hC : WfC M i) (hT : WfT M) (hlab : (M.2.2.2.1 i).1 = Int32.ofNat (wg [0, 1, 16, 17] (σ 10))) (hmd : M.2.2.2.2.2.1 + 1 = nSr σ) (hsl : ∀ i, i < 8 → (M.2.2.2.1 i).2.2.2.1.length ≤ 3000) (hshf : M.2.1.length ≤ 3000) (ht : ((M.2.2.2.1 i).2.2.2.2.2.2.2.2.take rt_c2.length).map Value.int = wtT σ rt_c2) (hlen : (M.2.2.2.1 i).2.2.2.2.2.2.2.1 = rt_c2.length) : At S 12 40 0 [(0, .ref (A 0)), (1, .int (Int32.ofNat i))] [] hp 0 0 (QR hp ow k A np nl 99 50000 (fun r => F_c2 σ (M1l M i) i (wg [0, 1, 16, 17] (σ 10)) r)) := by
  have hSt : StT M.2.2.2.2.2.2 M.1 := hV.2.2.2.1
  cases htn : tnM M (M.2.2.2.1 i).1 (Int32.ofNat (wg [14348907, 28697814] (σ 9))) with
  | none =>
    exact r_none h hi hSt hlab ht hlen rd_c2 wr_c2 bd_c2_n wb_c2_n ws_c2_n (fun p hp => by rw [List.mem_singleton.mp hp]; exact ⟨rfl, (Int32.ofNat (wg [14348907, 28697814] (σ 9))), fun _ _ => rfl, htn⟩) (fun h4 ρ ω' hR hω h17 hW => At.mono (v_flt hR hi (l1_lab.trans hlab) (wgl_64 _) (by decide)) (fun o ho => (ho.mono (by decide) (by decide)).imp (fun r hr => f1_none htn hr)))
  | some t =>
    obtain ⟨q, hq, hqt, hts, hqn, hqb, -⟩ := h.found hSt htn
    rcases hT q hq with tx | tx
    · skip
      refine r_a h hi hSt hlab ht hlen rd_c2 wr_c2 bd_c2_a wb_c2_a ws_c2_a hq (by rw [hqt]; exact hts) tx (fun p hp => by rw [List.mem_singleton.mp hp]; exact ⟨(Int32.ofNat (wg [14348907, 28697814] (σ 9))), fun _ _ => rfl, Or.inr ⟨rfl, by rw [hqt]; exact htn⟩⟩) (fun h4 ρ ω' hR hω h17 hW h18 => At.mono (v_cut hR hi (l1_lab.trans hlab) (wgl_64 _) hV.l1 hW (by decide +kernel) hq h18 (WfC.al hC.l1)) (fun o ho => (ho.mono (by decide) (by decide)).imp (fun r hr => f1_some htn hq hqt ?_)))
      simp only [nmC_a tx]
      exact hr
    · skip
      refine r_b h hi hSt hlab ht hlen rd_c2 wr_c2 bd_c2_b wb_c2_b ws_c2_b hq (by rw [hqt]; exact hts) tx (fun p hp => by rw [List.mem_singleton.mp hp]; exact ⟨(Int32.ofNat (wg [14348907, 28697814] (σ 9))), fun _ _ => rfl, Or.inr ⟨rfl, by rw [hqt]; exact htn⟩⟩) (fun h4 ρ ω' hR hω h17 hW h18 => At.mono (v_cut hR hi (l1_lab.trans hlab) (wgl_64 _) hV.l1 hW (by decide +kernel) hq h18 (WfC.al hC.l1)) (fun o ho => (ho.mono (by decide) (by decide)).imp (fun r hr => f1_some htn hq hqt ?_)))
      simp only [nmC_b tx]
      exact hr
theorem wr_c3 : wrB rt_c3 rW_c3 4294967295 = true := by decide +kernel
theorem wb_c3_n : wfrB (List.range 17) (rW_c3.take 15 ++ (wM0 ++ [])) bW_c3_n = true := by decide +kernel
theorem ws_c3_n : wsmB bW_c3_n = true := by decide +kernel
theorem wb_c3_a : wfrB (List.range 17) (rW_c3.take 15 ++ (wM0 ++ bT0)) bW_c3_a = true := by decide +kernel
theorem ws_c3_a : wsmB bW_c3_a = true := by decide +kernel
theorem wb_c3_b : wfrB (List.range 17) (rW_c3.take 15 ++ (wM0 ++ bT1)) bW_c3_b = true := by decide +kernel
theorem ws_c3_b : wsmB bW_c3_b = true := by decide +kernel
def F_c3 (σ : Nat → Nat) : MF := f1 (Int32.ofNat (wg [14348907, 28697814] (σ 9))) 4 (fun q M i ln => cutM M i ln q (nmC q (fmW σ bW_c3_a) (fmW σ bW_c3_b)))
theorem sh_c3 {S : List Int32} {hp : List XC} {ow : Nat → Nat} {k : Nat} {A : Nat → Nat} {M : HM} {rf : Int32} {np nl i : Nat} {σ : Nat → Nat} (h : HR hp ow k A M rf np nl) (hi : i < 8) (hV : WfV M i) (hC : WfC M i) (hT : WfT M) (hlab : (M.2.2.2.1 i).1 = Int32.ofNat (wg [0, 1, 16, 17] (σ 10))) (hmd : M.2.2.2.2.2.1 + 1 = nSr σ) (hsl : ∀ i, i < 8 → (M.2.2.2.1 i).2.2.2.1.length ≤ 3000) (hshf : M.2.1.length ≤ 3000) (ht : ((M.2.2.2.1 i).2.2.2.2.2.2.2.2.take rt_c3.length).map Value.int = wtT σ rt_c3) (hlen : (M.2.2.2.1 i).2.2.2.2.2.2.2.1 = rt_c3.length) : At S 12 40 0 [(0, .ref (A 0)), (1, .int (Int32.ofNat i))] [] hp 0 0 (QR hp ow k A np nl 99 50000 (fun r => F_c3 σ (M1l M i) i (wg [0, 1, 16, 17] (σ 10)) r)) := by
  have hSt : StT M.2.2.2.2.2.2 M.1 := hV.2.2.2.1
  cases htn : tnM M (M.2.2.2.1 i).1 (Int32.ofNat (wg [14348907, 28697814] (σ 9))) with
  | none =>
    exact r_none h hi hSt hlab ht hlen rd_c3 wr_c3 bd_c3_n wb_c3_n ws_c3_n (fun p hp => by rw [List.mem_singleton.mp hp]; exact ⟨rfl, (Int32.ofNat (wg [14348907, 28697814] (σ 9))), fun _ _ => rfl, htn⟩) (fun h4 ρ ω' hR hω h17 hW => At.mono (v_flt hR hi (l1_lab.trans hlab) (wgl_64 _) (by decide)) (fun o ho => (ho.mono (by decide) (by decide)).imp (fun r hr => f1_none htn hr)))
  | some t =>
    obtain ⟨q, hq, hqt, hts, hqn, hqb, -⟩ := h.found hSt htn
    rcases hT q hq with tx | tx
    · skip
      refine r_a h hi hSt hlab ht hlen rd_c3 wr_c3 bd_c3_a wb_c3_a ws_c3_a hq (by rw [hqt]; exact hts) tx (fun p hp => by rw [List.mem_singleton.mp hp]; exact ⟨(Int32.ofNat (wg [14348907, 28697814] (σ 9))), fun _ _ => rfl, Or.inr ⟨rfl, by rw [hqt]; exact htn⟩⟩) (fun h4 ρ ω' hR hω h17 hW h18 => At.mono (v_cut hR hi (l1_lab.trans hlab) (wgl_64 _) hV.l1 hW (by decide +kernel) hq h18 (WfC.al hC.l1)) (fun o ho => (ho.mono (by decide) (by decide)).imp (fun r hr => f1_some htn hq hqt ?_)))
      simp only [nmC_a tx]
      exact hr
    · skip
      refine r_b h hi hSt hlab ht hlen rd_c3 wr_c3 bd_c3_b wb_c3_b ws_c3_b hq (by rw [hqt]; exact hts) tx (fun p hp => by rw [List.mem_singleton.mp hp]; exact ⟨(Int32.ofNat (wg [14348907, 28697814] (σ 9))), fun _ _ => rfl, Or.inr ⟨rfl, by rw [hqt]; exact htn⟩⟩) (fun h4 ρ ω' hR hω h17 hW h18 => At.mono (v_cut hR hi (l1_lab.trans hlab) (wgl_64 _) hV.l1 hW (by decide +kernel) hq h18 (WfC.al hC.l1)) (fun o ho => (ho.mono (by decide) (by decide)).imp (fun r hr => f1_some htn hq hqt ?_)))
      simp only [nmC_b tx]
      exact hr
