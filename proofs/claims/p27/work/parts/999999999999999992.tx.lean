/-! all that the law asks of a text (by g_tx.py) -/
def up (σ : Nat → Nat) (a b : Nat) : Nat → Nat := fun k => if k = 10 then a else if k = 20 then b else σ k
def wvU : WV → Bool
  | (.inr (.inr (.inr (.inr (.inl (k, _)))))) => !(Nat.beq k 10) && !(Nat.beq k 20)
  | _ => true
theorem nbq {a b : Nat} (h : (!(Nat.beq a b)) = true) : ¬ a = b := fun e => by
  rw [e, show Nat.beq b b = true from Nat.beq_refl b] at h
  cases h
theorem wt_up {ρ σ : Nat → Nat} {ω : Nat → Value} {a b : Nat} {v : WV} (h : wvU v = true) : wt ρ (up σ a b) ω v = wt ρ σ ω v := by
  match v, h with
  | (.inl _), _ => rfl
  | (.inr (.inl _)), _ => rfl
  | (.inr (.inr (.inl _))), _ => rfl
  | (.inr (.inr (.inr (.inl _)))), _ => rfl
  | (.inr (.inr (.inr (.inr (.inr _))))), _ => rfl
  | (.inr (.inr (.inr (.inr (.inl (k, vs)))))), h =>
    have h9 : (!(Nat.beq k 10) && !(Nat.beq k 20)) = true := h
    rw [Bool.and_eq_true] at h9
    show Value.int (Int32.ofNat (wg vs (if k = 10 then a else if k = 20 then b else σ k))) = _
    rw [if_neg (nbq h9.1), if_neg (nbq h9.2)]
    rfl
theorem wti_up {σ : Nat → Nat} {a b : Nat} {v : WV} (h : wvU v = true) : wti (up σ a b) v = wti σ v := by
  match v, h with
  | (.inl _), _ => rfl
  | (.inr (.inl _)), _ => rfl
  | (.inr (.inr (.inl _))), _ => rfl
  | (.inr (.inr (.inr (.inl _)))), _ => rfl
  | (.inr (.inr (.inr (.inr (.inr _))))), _ => rfl
  | (.inr (.inr (.inr (.inr (.inl (k, vs)))))), h =>
    have h9 : (!(Nat.beq k 10) && !(Nat.beq k 20)) = true := h
    rw [Bool.and_eq_true] at h9
    show Int32.ofNat (wg vs (if k = 10 then a else if k = 20 then b else σ k)) = _
    rw [if_neg (nbq h9.1), if_neg (nbq h9.2)]
    rfl
def wosU (W : List WC) : Bool := (List.range (wfn W)).all (fun i => wvU (wfl W 11 i))
theorem wos_up {σ : Nat → Nat} {a b : Nat} {W : List WC} (h : wosU W = true) : wos (up σ a b) W = wos σ W := by
  unfold wos
  exact List.map_congr_left (fun i hi => by rw [wti_up (List.all_eq_true.mp h i hi)])
theorem putV_up {σ : Nat → Nat} {a b : Nat} {W : List WC} (h : wosU W = true) : putV (up σ a b) W = putV σ W := by
  unfold putV
  rw [wos_up h]
theorem fmW_up {σ : Nat → Nat} {a b : Nat} {W : List WC} (h : wosU W = true) : fmW (up σ a b) W = fmW σ W := by
  unfold fmW
  rw [wos_up h]
theorem fvW_up {σ : Nat → Nat} {a b : Nat} {W : List WC} (h : wosU W = true) : fvW (up σ a b) W = fvW σ W := by
  unfold fvW
  rw [wos_up h]
theorem lowV_up {σ : Nat → Nat} {a b : Nat} {W : List WC} (h : wosU W = true) : lowV (up σ a b) W = lowV σ W := by
  unfold lowV
  rw [wos_up h]
theorem up_9 {σ : Nat → Nat} {a b : Nat} : up σ a b 9 = σ 9 := rfl
theorem up_6 {σ : Nat → Nat} {a b : Nat} : up σ a b 6 = σ 6 := rfl
/-- a text for its digits -/
def eqT (σ : Nat → Nat) (ds : List Nat) (rt : List WV) : Prop := wtT σ rt = (ds.map Int32.ofNat).map Value.int ∧ (∀ c ∈ ds, 32 ≤ c ∧ c ≤ 126) ∧ rt.length = ds.length
theorem eqT_app {σ : Nat → Nat} {a b : List Nat} {ra rb : List WV} (h : eqT σ a ra) (k : eqT σ b rb) : eqT σ (a ++ b) (ra ++ rb) := by
  refine ⟨?_, fun c hc => ?_, ?_⟩
  · have e1 := h.1
    have e2 := k.1
    unfold wtT at e1 e2 ⊢
    rw [List.map_append, List.map_append, List.map_append, e1, e2]
  · rcases List.mem_append.mp hc with h9 | h9
    · exact h.2.1 c h9
    · exact k.2.1 c h9
  · rw [List.length_append, List.length_append, h.2.2, k.2.2]
theorem eqT_nil {σ : Nat → Nat} : eqT σ [] [] := ⟨rfl, fun _ h => (List.not_mem_nil h).elim, rfl⟩
theorem eqT_lit {σ : Nat → Nat} (l : List Nat) (h : l.all (fun c => Nat.ble 32 c && Nat.ble c 126) = true) : eqT σ l (l.map wI) := by
  refine ⟨?_, fun c hc => ?_, List.length_map ..⟩
  · unfold wtT
    rw [List.map_map, List.map_map]
    rfl
  · have h9 := List.all_eq_true.mp h c hc
    rw [Bool.and_eq_true] at h9
    exact ⟨Nat.le_of_ble_eq_true h9.1, Nat.le_of_ble_eq_true h9.2⟩
theorem eqT_d {σ : Nat → Nat} {k x : Nat} {vs : List Nat} (h : wg vs (σ k) = x) (h1 : 32 ≤ x) (h2 : x ≤ 126) : eqT σ [x] [wD k vs] := by
  refine ⟨?_, fun c hc => ?_, rfl⟩
  · show [Value.int (Int32.ofNat (wg vs (σ k)))] = _
    rw [h]
    rfl
  · rw [List.mem_singleton.mp hc]
    exact ⟨h1, h2⟩
theorem wg_6 : ∀ d, d < 6 → wg [48, 49, 50, 51, 52, 53] d = 48 + d := by decide
theorem wg_4 : ∀ d, d < 4 → wg [48, 49, 50, 51] d = 48 + d := by decide
theorem eqT_6 {σ : Nat → Nat} {k d : Nat} (h : σ k = d) (hd : d < 6) : eqT σ [48 + d] [wD k [48, 49, 50, 51, 52, 53]] := eqT_d (by rw [h]; exact wg_6 d hd) (by omega) (by omega)
theorem eqT_4 {σ : Nat → Nat} {k d : Nat} (h : σ k = d) (hd : d < 4) : eqT σ [48 + d] [wD k [48, 49, 50, 51]] := eqT_d (by rw [h]; exact wg_4 d hd) (by omega) (by omega)
theorem eqT_a {σ : Nat → Nat} (h : σ 9 = 0) : eqT σ [97] [wD 9 [97, 98]] := eqT_d (by rw [h]; rfl) (by decide) (by decide)
theorem eqT_b {σ : Nat → Nat} (h : σ 9 = 1) : eqT σ [98] [wD 9 [97, 98]] := eqT_d (by rw [h]; rfl) (by decide) (by decide)
theorem eqT_up {σ : Nat → Nat} {a b : Nat} {ds : List Nat} {rt : List WV} (h : eqT σ ds rt) (hr : rt.all wvU = true) : wtT (up σ a b) rt = (ds.map Int32.ofNat).map Value.int := by
  rw [← h.1]
  unfold wtT
  exact List.map_congr_left (fun v hv => wt_up (List.all_eq_true.mp hr v hv))
def ShT (rt : List WV) (F : (Nat → Nat) → MF) : Prop := ∀ (S : List Int32) (hp : List XC) (ow : Nat → Nat) (k : Nat) (A : Nat → Nat) (M : HM) (rf : Int32) (np nl i : Nat) (σ : Nat → Nat), HR hp ow k A M rf np nl → i < 8 → WfV M i → WfC M i → WfT M → (M.2.2.2.1 i).1 = Int32.ofNat (wg [0, 1, 16, 17] (σ 10)) → M.2.2.2.2.2.1 + 1 = nSr σ → (∀ i, i < 8 → (M.2.2.2.1 i).2.2.2.1.length ≤ 3000) → M.2.1.length ≤ 3000 → ((M.2.2.2.1 i).2.2.2.2.2.2.2.2.take rt.length).map Value.int = wtT σ rt → (M.2.2.2.1 i).2.2.2.2.2.2.2.1 = rt.length → At S 12 40 0 [(0, .ref (A 0)), (1, .int (Int32.ofNat i))] [] hp 0 0 (QR hp ow k A np nl 99 50000 (fun r => F σ (M1l M i) i (wg [0, 1, 16, 17] (σ 10)) r))
/-- a run of a text that was said -/
def TxRun (cs : List Nat) (F : MF) : Prop := ∀ (S : List Int32) (hp : List XC) (ow : Nat → Nat) (k : Nat) (A : Nat → Nat) (M : HM) (rf : Int32) (np nl i ln c d : Nat), HR hp ow k A (saidM M i cs) rf np nl → i < 8 → WfH M c d → d ≤ 30 → c < 400 → (M.2.2.2.1 i).1 = Int32.ofNat ln → ln < 64 → (M.2.2.2.1 i).2.2.2.2.2.2.2.2.length = 120 → At S 12 40 0 [(0, .ref (A 0)), (1, .int (Int32.ofNat i))] [] hp 0 0 (QR hp ow k A np nl 99 50000 (fun r => F (M1l (saidM M i cs) i) i ln r))
def TxOk (lw : Bool) (cs : List Nat) : Prop := ∃ F : MF, (∀ c ∈ cs, 32 ≤ c ∧ c ≤ 126) ∧ cs.length < 120 ∧ 5 ≤ cs.length ∧ TxRun cs F ∧ FRs F ∧ FWf F ∧ FLo F ∧ FTl F ∧ FLz F ∧ FBz F ∧ (lw = true ∨ FHi F) ∧ (cs.take 4 = [100, 114, 111, 112] ∨ cs.take 5 = [116, 97, 98, 108, 101] ∨ FWt F)
def lbI (ln : Nat) : Nat := if ln = 0 then 0 else if ln = 1 then 1 else if ln = 16 then 2 else 3
theorem lbI_ok : ∀ ln, ln < 64 → isL4 (Int32.ofNat ln) = true → wg [0, 1, 16, 17] (lbI ln) = ln := by decide +kernel
theorem nsr_up {σ : Nat → Nat} {a m : Nat} (h : m < 400) : Int32.ofNat m + 1 = nSr (up σ a m) := by
  have e : up σ a m 20 = m := rfl
  have e2 : wg ((List.range 400).map Nat.succ) m = m + 1 := by
    unfold wg
    rw [List.getD_eq_getElem?_getD, List.getElem?_map, List.getElem?_range h]
    rfl
  unfold nSr
  rw [e, e2]
  exact iN_s m
theorem tx_run {cs : List Nat} {rt : List WV} {F : (Nat → Nat) → MF} {σ : Nat → Nat} (sh : ShT rt F) (hF : ∀ a b, F (up σ a b) = F σ) (hw : eqT σ cs rt) (hr : rt.all wvU = true) (hl : rt.length ≤ 120) : TxRun cs (F σ) := fun S hp ow k A M rf np nl i ln c d h hi hW hd hc hln hl64 h120 => by
  have hW' := hW.said (cs := cs) hi
  obtain ⟨md, hm1, hm2, -⟩ := hW.1.2.2.1
  have h4 := hW.1.lab hi
  have e3 : wg [0, 1, 16, 17] (up σ (lbI ln) md 10) = ln := lbI_ok ln hl64 (by rw [← hln]; exact h4)
  obtain ⟨t1, t2⟩ := said_t (M := M) (i := i) (cs := cs) (σ := up σ (lbI ln) md) (rt := rt) (by rw [h120, ← hw.2.2]; exact hl) (eqT_up hw hr) hw.2.2
  have e := sh S hp ow k A (saidM M i cs) rf np nl i (up σ (lbI ln) md) h hi (hW'.1.v hi hd) (hW'.1.cc hi) hW'.1.2.1 (by rw [e3, said_lab]; exact hln) (by
    show M.2.2.2.2.2.1 + 1 = _
    rw [hm1]
    exact nsr_up (by omega)) hW'.1.shl hW'.1.shf t1 t2
  rw [hF, e3] at e
  exact e
theorem fup_tan {σ : Nat → Nat} (a b : Nat) : F_tan (up σ a b) = F_tan σ := rfl
theorem fup_tau {σ : Nat → Nat} (a b : Nat) : F_tau (up σ a b) = F_tau σ := rfl
theorem fup_tb {σ : Nat → Nat} (a b : Nat) : F_tb (up σ a b) = F_tb σ := rfl
theorem fup_drop {σ : Nat → Nat} (a b : Nat) : F_drop (up σ a b) = F_drop σ := by
  simp only [F_drop, up_9]
theorem fup_gsum {σ : Nat → Nat} (a b : Nat) : F_gsum (up σ a b) = F_gsum σ := by
  have e0 := wos_up (σ := σ) (a := a) (b := b) (W := bW_gsum_a) (by decide +kernel)
  have e1 := wos_up (σ := σ) (a := a) (b := b) (W := bW_gsum_b) (by decide +kernel)
  simp only [F_gsum, e0, e1, up_9]
theorem fup_pa0 {σ : Nat → Nat} (a b : Nat) : F_pa0 (up σ a b) = F_pa0 σ := by
  have e0 := putV_up (σ := σ) (a := a) (b := b) (W := bW_pa0_a) (by decide +kernel)
  simp only [F_pa0, e0]
theorem fup_pa1 {σ : Nat → Nat} (a b : Nat) : F_pa1 (up σ a b) = F_pa1 σ := by
  have e0 := putV_up (σ := σ) (a := a) (b := b) (W := bW_pa1_a) (by decide +kernel)
  simp only [F_pa1, e0]
theorem fup_pa2 {σ : Nat → Nat} (a b : Nat) : F_pa2 (up σ a b) = F_pa2 σ := by
  have e0 := putV_up (σ := σ) (a := a) (b := b) (W := bW_pa2_a) (by decide +kernel)
  simp only [F_pa2, e0]
theorem fup_bad {σ : Nat → Nat} (a b : Nat) : F_bad (up σ a b) = F_bad σ := rfl
theorem fup_pbad {σ : Nat → Nat} (a b : Nat) : F_pbad (up σ a b) = F_pbad σ := rfl
theorem fup_lo0 {σ : Nat → Nat} (a b : Nat) : F_lo0 (up σ a b) = F_lo0 σ := by
  have e0 := lowV_up (σ := σ) (a := a) (b := b) (W := bW_lo0_a) (by decide +kernel)
  simp only [F_lo0, e0]
theorem fup_lo16 {σ : Nat → Nat} (a b : Nat) : F_lo16 (up σ a b) = F_lo16 σ := by
  have e0 := lowV_up (σ := σ) (a := a) (b := b) (W := bW_lo16_a) (by decide +kernel)
  simp only [F_lo16, e0]
theorem fup_geach {σ : Nat → Nat} (a b : Nat) : F_geach (up σ a b) = F_geach σ := by
  have e0 := wos_up (σ := σ) (a := a) (b := b) (W := bW_geach_a) (by decide +kernel)
  have e1 := wos_up (σ := σ) (a := a) (b := b) (W := bW_geach_b) (by decide +kernel)
  simp only [F_geach, e0, e1, up_9]
theorem fup_gjoin {σ : Nat → Nat} (a b : Nat) : F_gjoin (up σ a b) = F_gjoin σ := by
  have e0 := wos_up (σ := σ) (a := a) (b := b) (W := bW_gjoin_ba) (by decide +kernel)
  simp only [F_gjoin, e0]
theorem fup_gby {σ : Nat → Nat} (a b : Nat) : F_gby (up σ a b) = F_gby σ := by
  have e0 := wos_up (σ := σ) (a := a) (b := b) (W := bW_gby_a) (by decide +kernel)
  have e1 := wos_up (σ := σ) (a := a) (b := b) (W := bW_gby_b) (by decide +kernel)
  simp only [F_gby, e0, e1, up_9, up_6]
theorem fup_glab {σ : Nat → Nat} (a b : Nat) : F_glab (up σ a b) = F_glab σ := by
  have e0 := wos_up (σ := σ) (a := a) (b := b) (W := bW_glab_a) (by decide +kernel)
  have e1 := wos_up (σ := σ) (a := a) (b := b) (W := bW_glab_b) (by decide +kernel)
  simp only [F_glab, e0, e1, up_9]
theorem fup_m1 {σ : Nat → Nat} (a b : Nat) : F_m1 (up σ a b) = F_m1 σ := by
  have e0 := wos_up (σ := σ) (a := a) (b := b) (W := bW_m1_b) (by decide +kernel)
  simp only [F_m1, e0]
theorem fup_m2 {σ : Nat → Nat} (a b : Nat) : F_m2 (up σ a b) = F_m2 σ := by
  have e0 := wos_up (σ := σ) (a := a) (b := b) (W := bW_m2_ba) (by decide +kernel)
  simp only [F_m2, e0]
theorem fup_m3 {σ : Nat → Nat} (a b : Nat) : F_m3 (up σ a b) = F_m3 σ := by
  have e0 := wos_up (σ := σ) (a := a) (b := b) (W := bW_m3_b) (by decide +kernel)
  simp only [F_m3, e0]
theorem fup_pb00 {σ : Nat → Nat} (a b : Nat) : F_pb00 (up σ a b) = F_pb00 σ := by
  have e0 := putV_up (σ := σ) (a := a) (b := b) (W := bW_pb00_b) (by decide +kernel)
  simp only [F_pb00, e0]
theorem fup_pb01 {σ : Nat → Nat} (a b : Nat) : F_pb01 (up σ a b) = F_pb01 σ := by
  have e0 := putV_up (σ := σ) (a := a) (b := b) (W := bW_pb01_b) (by decide +kernel)
  simp only [F_pb01, e0]
theorem fup_pb02 {σ : Nat → Nat} (a b : Nat) : F_pb02 (up σ a b) = F_pb02 σ := by
  have e0 := putV_up (σ := σ) (a := a) (b := b) (W := bW_pb02_b) (by decide +kernel)
  simp only [F_pb02, e0]
theorem fup_pb10 {σ : Nat → Nat} (a b : Nat) : F_pb10 (up σ a b) = F_pb10 σ := by
  have e0 := putV_up (σ := σ) (a := a) (b := b) (W := bW_pb10_b) (by decide +kernel)
  simp only [F_pb10, e0]
theorem fup_pb11 {σ : Nat → Nat} (a b : Nat) : F_pb11 (up σ a b) = F_pb11 σ := by
  have e0 := putV_up (σ := σ) (a := a) (b := b) (W := bW_pb11_b) (by decide +kernel)
  simp only [F_pb11, e0]
theorem fup_pb12 {σ : Nat → Nat} (a b : Nat) : F_pb12 (up σ a b) = F_pb12 σ := by
  have e0 := putV_up (σ := σ) (a := a) (b := b) (W := bW_pb12_b) (by decide +kernel)
  simp only [F_pb12, e0]
theorem fup_pb20 {σ : Nat → Nat} (a b : Nat) : F_pb20 (up σ a b) = F_pb20 σ := by
  have e0 := putV_up (σ := σ) (a := a) (b := b) (W := bW_pb20_b) (by decide +kernel)
  simp only [F_pb20, e0]
theorem fup_pb21 {σ : Nat → Nat} (a b : Nat) : F_pb21 (up σ a b) = F_pb21 σ := by
  have e0 := putV_up (σ := σ) (a := a) (b := b) (W := bW_pb21_b) (by decide +kernel)
  simp only [F_pb21, e0]
theorem fup_pb22 {σ : Nat → Nat} (a b : Nat) : F_pb22 (up σ a b) = F_pb22 σ := by
  have e0 := putV_up (σ := σ) (a := a) (b := b) (W := bW_pb22_b) (by decide +kernel)
  simp only [F_pb22, e0]
theorem fup_c0 {σ : Nat → Nat} (a b : Nat) : F_c0 (up σ a b) = F_c0 σ := by
  have e0 := fmW_up (σ := σ) (a := a) (b := b) (W := bW_c0_a) (by decide +kernel)
  have e1 := fmW_up (σ := σ) (a := a) (b := b) (W := bW_c0_b) (by decide +kernel)
  simp only [F_c0, e0, e1, up_9]
theorem fup_c1 {σ : Nat → Nat} (a b : Nat) : F_c1 (up σ a b) = F_c1 σ := by
  have e0 := fmW_up (σ := σ) (a := a) (b := b) (W := bW_c1_a) (by decide +kernel)
  have e1 := fmW_up (σ := σ) (a := a) (b := b) (W := bW_c1_b) (by decide +kernel)
  simp only [F_c1, e0, e1, up_9]
theorem fup_c2 {σ : Nat → Nat} (a b : Nat) : F_c2 (up σ a b) = F_c2 σ := by
  have e0 := fmW_up (σ := σ) (a := a) (b := b) (W := bW_c2_a) (by decide +kernel)
  have e1 := fmW_up (σ := σ) (a := a) (b := b) (W := bW_c2_b) (by decide +kernel)
  simp only [F_c2, e0, e1, up_9]
theorem fup_c3 {σ : Nat → Nat} (a b : Nat) : F_c3 (up σ a b) = F_c3 σ := by
  have e0 := fmW_up (σ := σ) (a := a) (b := b) (W := bW_c3_a) (by decide +kernel)
  have e1 := fmW_up (σ := σ) (a := a) (b := b) (W := bW_c3_b) (by decide +kernel)
  simp only [F_c3, e0, e1, up_9]
theorem fup_s000 {σ : Nat → Nat} (a b : Nat) : F_s000 (up σ a b) = F_s000 σ := by
  have e0 := fmW_up (σ := σ) (a := a) (b := b) (W := bW_s000_a) (by decide +kernel)
  have e1 := fvW_up (σ := σ) (a := a) (b := b) (W := bW_s000_a) (by decide +kernel)
  have e2 := fmW_up (σ := σ) (a := a) (b := b) (W := bW_s000_b) (by decide +kernel)
  have e3 := fvW_up (σ := σ) (a := a) (b := b) (W := bW_s000_b) (by decide +kernel)
  simp only [F_s000, e0, e1, e2, e3, up_9]
theorem fup_s001 {σ : Nat → Nat} (a b : Nat) : F_s001 (up σ a b) = F_s001 σ := by
  have e0 := fmW_up (σ := σ) (a := a) (b := b) (W := bW_s001_a) (by decide +kernel)
  have e1 := fvW_up (σ := σ) (a := a) (b := b) (W := bW_s001_a) (by decide +kernel)
  have e2 := fmW_up (σ := σ) (a := a) (b := b) (W := bW_s001_b) (by decide +kernel)
  have e3 := fvW_up (σ := σ) (a := a) (b := b) (W := bW_s001_b) (by decide +kernel)
  simp only [F_s001, e0, e1, e2, e3, up_9]
theorem fup_s002 {σ : Nat → Nat} (a b : Nat) : F_s002 (up σ a b) = F_s002 σ := by
  have e0 := fmW_up (σ := σ) (a := a) (b := b) (W := bW_s002_a) (by decide +kernel)
  have e1 := fvW_up (σ := σ) (a := a) (b := b) (W := bW_s002_a) (by decide +kernel)
  have e2 := fmW_up (σ := σ) (a := a) (b := b) (W := bW_s002_b) (by decide +kernel)
  have e3 := fvW_up (σ := σ) (a := a) (b := b) (W := bW_s002_b) (by decide +kernel)
  simp only [F_s002, e0, e1, e2, e3, up_9]
theorem fup_s003 {σ : Nat → Nat} (a b : Nat) : F_s003 (up σ a b) = F_s003 σ := by
  have e0 := fmW_up (σ := σ) (a := a) (b := b) (W := bW_s003_a) (by decide +kernel)
  have e1 := fvW_up (σ := σ) (a := a) (b := b) (W := bW_s003_a) (by decide +kernel)
  have e2 := fmW_up (σ := σ) (a := a) (b := b) (W := bW_s003_b) (by decide +kernel)
  have e3 := fvW_up (σ := σ) (a := a) (b := b) (W := bW_s003_b) (by decide +kernel)
  simp only [F_s003, e0, e1, e2, e3, up_9]
theorem fup_s010 {σ : Nat → Nat} (a b : Nat) : F_s010 (up σ a b) = F_s010 σ := by
  have e0 := fmW_up (σ := σ) (a := a) (b := b) (W := bW_s010_a) (by decide +kernel)
  have e1 := fvW_up (σ := σ) (a := a) (b := b) (W := bW_s010_a) (by decide +kernel)
  have e2 := fmW_up (σ := σ) (a := a) (b := b) (W := bW_s010_b) (by decide +kernel)
  have e3 := fvW_up (σ := σ) (a := a) (b := b) (W := bW_s010_b) (by decide +kernel)
  simp only [F_s010, e0, e1, e2, e3, up_9]
theorem fup_s011 {σ : Nat → Nat} (a b : Nat) : F_s011 (up σ a b) = F_s011 σ := by
  have e0 := fmW_up (σ := σ) (a := a) (b := b) (W := bW_s011_a) (by decide +kernel)
  have e1 := fvW_up (σ := σ) (a := a) (b := b) (W := bW_s011_a) (by decide +kernel)
  have e2 := fmW_up (σ := σ) (a := a) (b := b) (W := bW_s011_b) (by decide +kernel)
  have e3 := fvW_up (σ := σ) (a := a) (b := b) (W := bW_s011_b) (by decide +kernel)
  simp only [F_s011, e0, e1, e2, e3, up_9]
theorem fup_s012 {σ : Nat → Nat} (a b : Nat) : F_s012 (up σ a b) = F_s012 σ := by
  have e0 := fmW_up (σ := σ) (a := a) (b := b) (W := bW_s012_a) (by decide +kernel)
  have e1 := fvW_up (σ := σ) (a := a) (b := b) (W := bW_s012_a) (by decide +kernel)
  have e2 := fmW_up (σ := σ) (a := a) (b := b) (W := bW_s012_b) (by decide +kernel)
  have e3 := fvW_up (σ := σ) (a := a) (b := b) (W := bW_s012_b) (by decide +kernel)
  simp only [F_s012, e0, e1, e2, e3, up_9]
theorem fup_s013 {σ : Nat → Nat} (a b : Nat) : F_s013 (up σ a b) = F_s013 σ := by
  have e0 := fmW_up (σ := σ) (a := a) (b := b) (W := bW_s013_a) (by decide +kernel)
  have e1 := fvW_up (σ := σ) (a := a) (b := b) (W := bW_s013_a) (by decide +kernel)
  have e2 := fmW_up (σ := σ) (a := a) (b := b) (W := bW_s013_b) (by decide +kernel)
  have e3 := fvW_up (σ := σ) (a := a) (b := b) (W := bW_s013_b) (by decide +kernel)
  simp only [F_s013, e0, e1, e2, e3, up_9]
theorem fup_s020 {σ : Nat → Nat} (a b : Nat) : F_s020 (up σ a b) = F_s020 σ := by
  have e0 := fmW_up (σ := σ) (a := a) (b := b) (W := bW_s020_a) (by decide +kernel)
  have e1 := fvW_up (σ := σ) (a := a) (b := b) (W := bW_s020_a) (by decide +kernel)
  have e2 := fmW_up (σ := σ) (a := a) (b := b) (W := bW_s020_b) (by decide +kernel)
  have e3 := fvW_up (σ := σ) (a := a) (b := b) (W := bW_s020_b) (by decide +kernel)
  simp only [F_s020, e0, e1, e2, e3, up_9]
theorem fup_s021 {σ : Nat → Nat} (a b : Nat) : F_s021 (up σ a b) = F_s021 σ := by
  have e0 := fmW_up (σ := σ) (a := a) (b := b) (W := bW_s021_a) (by decide +kernel)
  have e1 := fvW_up (σ := σ) (a := a) (b := b) (W := bW_s021_a) (by decide +kernel)
  have e2 := fmW_up (σ := σ) (a := a) (b := b) (W := bW_s021_b) (by decide +kernel)
  have e3 := fvW_up (σ := σ) (a := a) (b := b) (W := bW_s021_b) (by decide +kernel)
  simp only [F_s021, e0, e1, e2, e3, up_9]
theorem fup_s022 {σ : Nat → Nat} (a b : Nat) : F_s022 (up σ a b) = F_s022 σ := by
  have e0 := fmW_up (σ := σ) (a := a) (b := b) (W := bW_s022_a) (by decide +kernel)
  have e1 := fvW_up (σ := σ) (a := a) (b := b) (W := bW_s022_a) (by decide +kernel)
  have e2 := fmW_up (σ := σ) (a := a) (b := b) (W := bW_s022_b) (by decide +kernel)
  have e3 := fvW_up (σ := σ) (a := a) (b := b) (W := bW_s022_b) (by decide +kernel)
  simp only [F_s022, e0, e1, e2, e3, up_9]
theorem fup_s023 {σ : Nat → Nat} (a b : Nat) : F_s023 (up σ a b) = F_s023 σ := by
  have e0 := fmW_up (σ := σ) (a := a) (b := b) (W := bW_s023_a) (by decide +kernel)
  have e1 := fvW_up (σ := σ) (a := a) (b := b) (W := bW_s023_a) (by decide +kernel)
  have e2 := fmW_up (σ := σ) (a := a) (b := b) (W := bW_s023_b) (by decide +kernel)
  have e3 := fvW_up (σ := σ) (a := a) (b := b) (W := bW_s023_b) (by decide +kernel)
  simp only [F_s023, e0, e1, e2, e3, up_9]
theorem fup_s100 {σ : Nat → Nat} (a b : Nat) : F_s100 (up σ a b) = F_s100 σ := by
  have e0 := fmW_up (σ := σ) (a := a) (b := b) (W := bW_s100_a) (by decide +kernel)
  have e1 := fvW_up (σ := σ) (a := a) (b := b) (W := bW_s100_a) (by decide +kernel)
  have e2 := fmW_up (σ := σ) (a := a) (b := b) (W := bW_s100_b) (by decide +kernel)
  have e3 := fvW_up (σ := σ) (a := a) (b := b) (W := bW_s100_b) (by decide +kernel)
  simp only [F_s100, e0, e1, e2, e3, up_9]
theorem fup_s101 {σ : Nat → Nat} (a b : Nat) : F_s101 (up σ a b) = F_s101 σ := by
  have e0 := fmW_up (σ := σ) (a := a) (b := b) (W := bW_s101_a) (by decide +kernel)
  have e1 := fvW_up (σ := σ) (a := a) (b := b) (W := bW_s101_a) (by decide +kernel)
  have e2 := fmW_up (σ := σ) (a := a) (b := b) (W := bW_s101_b) (by decide +kernel)
  have e3 := fvW_up (σ := σ) (a := a) (b := b) (W := bW_s101_b) (by decide +kernel)
  simp only [F_s101, e0, e1, e2, e3, up_9]
theorem fup_s102 {σ : Nat → Nat} (a b : Nat) : F_s102 (up σ a b) = F_s102 σ := by
  have e0 := fmW_up (σ := σ) (a := a) (b := b) (W := bW_s102_a) (by decide +kernel)
  have e1 := fvW_up (σ := σ) (a := a) (b := b) (W := bW_s102_a) (by decide +kernel)
  have e2 := fmW_up (σ := σ) (a := a) (b := b) (W := bW_s102_b) (by decide +kernel)
  have e3 := fvW_up (σ := σ) (a := a) (b := b) (W := bW_s102_b) (by decide +kernel)
  simp only [F_s102, e0, e1, e2, e3, up_9]
theorem fup_s103 {σ : Nat → Nat} (a b : Nat) : F_s103 (up σ a b) = F_s103 σ := by
  have e0 := fmW_up (σ := σ) (a := a) (b := b) (W := bW_s103_a) (by decide +kernel)
  have e1 := fvW_up (σ := σ) (a := a) (b := b) (W := bW_s103_a) (by decide +kernel)
  have e2 := fmW_up (σ := σ) (a := a) (b := b) (W := bW_s103_b) (by decide +kernel)
  have e3 := fvW_up (σ := σ) (a := a) (b := b) (W := bW_s103_b) (by decide +kernel)
  simp only [F_s103, e0, e1, e2, e3, up_9]
theorem fup_s110 {σ : Nat → Nat} (a b : Nat) : F_s110 (up σ a b) = F_s110 σ := by
  have e0 := fmW_up (σ := σ) (a := a) (b := b) (W := bW_s110_a) (by decide +kernel)
  have e1 := fvW_up (σ := σ) (a := a) (b := b) (W := bW_s110_a) (by decide +kernel)
  have e2 := fmW_up (σ := σ) (a := a) (b := b) (W := bW_s110_b) (by decide +kernel)
  have e3 := fvW_up (σ := σ) (a := a) (b := b) (W := bW_s110_b) (by decide +kernel)
  simp only [F_s110, e0, e1, e2, e3, up_9]
theorem fup_s111 {σ : Nat → Nat} (a b : Nat) : F_s111 (up σ a b) = F_s111 σ := by
  have e0 := fmW_up (σ := σ) (a := a) (b := b) (W := bW_s111_a) (by decide +kernel)
  have e1 := fvW_up (σ := σ) (a := a) (b := b) (W := bW_s111_a) (by decide +kernel)
  have e2 := fmW_up (σ := σ) (a := a) (b := b) (W := bW_s111_b) (by decide +kernel)
  have e3 := fvW_up (σ := σ) (a := a) (b := b) (W := bW_s111_b) (by decide +kernel)
  simp only [F_s111, e0, e1, e2, e3, up_9]
theorem fup_s112 {σ : Nat → Nat} (a b : Nat) : F_s112 (up σ a b) = F_s112 σ := by
  have e0 := fmW_up (σ := σ) (a := a) (b := b) (W := bW_s112_a) (by decide +kernel)
  have e1 := fvW_up (σ := σ) (a := a) (b := b) (W := bW_s112_a) (by decide +kernel)
  have e2 := fmW_up (σ := σ) (a := a) (b := b) (W := bW_s112_b) (by decide +kernel)
  have e3 := fvW_up (σ := σ) (a := a) (b := b) (W := bW_s112_b) (by decide +kernel)
  simp only [F_s112, e0, e1, e2, e3, up_9]
theorem fup_s113 {σ : Nat → Nat} (a b : Nat) : F_s113 (up σ a b) = F_s113 σ := by
  have e0 := fmW_up (σ := σ) (a := a) (b := b) (W := bW_s113_a) (by decide +kernel)
  have e1 := fvW_up (σ := σ) (a := a) (b := b) (W := bW_s113_a) (by decide +kernel)
  have e2 := fmW_up (σ := σ) (a := a) (b := b) (W := bW_s113_b) (by decide +kernel)
  have e3 := fvW_up (σ := σ) (a := a) (b := b) (W := bW_s113_b) (by decide +kernel)
  simp only [F_s113, e0, e1, e2, e3, up_9]
theorem fup_s120 {σ : Nat → Nat} (a b : Nat) : F_s120 (up σ a b) = F_s120 σ := by
  have e0 := fmW_up (σ := σ) (a := a) (b := b) (W := bW_s120_a) (by decide +kernel)
  have e1 := fvW_up (σ := σ) (a := a) (b := b) (W := bW_s120_a) (by decide +kernel)
  have e2 := fmW_up (σ := σ) (a := a) (b := b) (W := bW_s120_b) (by decide +kernel)
  have e3 := fvW_up (σ := σ) (a := a) (b := b) (W := bW_s120_b) (by decide +kernel)
  simp only [F_s120, e0, e1, e2, e3, up_9]
theorem fup_s121 {σ : Nat → Nat} (a b : Nat) : F_s121 (up σ a b) = F_s121 σ := by
  have e0 := fmW_up (σ := σ) (a := a) (b := b) (W := bW_s121_a) (by decide +kernel)
  have e1 := fvW_up (σ := σ) (a := a) (b := b) (W := bW_s121_a) (by decide +kernel)
  have e2 := fmW_up (σ := σ) (a := a) (b := b) (W := bW_s121_b) (by decide +kernel)
  have e3 := fvW_up (σ := σ) (a := a) (b := b) (W := bW_s121_b) (by decide +kernel)
  simp only [F_s121, e0, e1, e2, e3, up_9]
theorem fup_s122 {σ : Nat → Nat} (a b : Nat) : F_s122 (up σ a b) = F_s122 σ := by
  have e0 := fmW_up (σ := σ) (a := a) (b := b) (W := bW_s122_a) (by decide +kernel)
  have e1 := fvW_up (σ := σ) (a := a) (b := b) (W := bW_s122_a) (by decide +kernel)
  have e2 := fmW_up (σ := σ) (a := a) (b := b) (W := bW_s122_b) (by decide +kernel)
  have e3 := fvW_up (σ := σ) (a := a) (b := b) (W := bW_s122_b) (by decide +kernel)
  simp only [F_s122, e0, e1, e2, e3, up_9]
theorem fup_s123 {σ : Nat → Nat} (a b : Nat) : F_s123 (up σ a b) = F_s123 σ := by
  have e0 := fmW_up (σ := σ) (a := a) (b := b) (W := bW_s123_a) (by decide +kernel)
  have e1 := fvW_up (σ := σ) (a := a) (b := b) (W := bW_s123_a) (by decide +kernel)
  have e2 := fmW_up (σ := σ) (a := a) (b := b) (W := bW_s123_b) (by decide +kernel)
  have e3 := fvW_up (σ := σ) (a := a) (b := b) (W := bW_s123_b) (by decide +kernel)
  simp only [F_s123, e0, e1, e2, e3, up_9]
theorem fup_ga00 {σ : Nat → Nat} (a b : Nat) : F_ga00 (up σ a b) = F_ga00 σ := by
  have e0 := wos_up (σ := σ) (a := a) (b := b) (W := bW_ga00_a) (by decide +kernel)
  have e1 := wos_up (σ := σ) (a := a) (b := b) (W := bW_ga00_b) (by decide +kernel)
  simp only [F_ga00, e0, e1, up_9]
theorem fup_ga01 {σ : Nat → Nat} (a b : Nat) : F_ga01 (up σ a b) = F_ga01 σ := by
  have e0 := wos_up (σ := σ) (a := a) (b := b) (W := bW_ga01_a) (by decide +kernel)
  have e1 := wos_up (σ := σ) (a := a) (b := b) (W := bW_ga01_b) (by decide +kernel)
  simp only [F_ga01, e0, e1, up_9]
theorem fup_ga10 {σ : Nat → Nat} (a b : Nat) : F_ga10 (up σ a b) = F_ga10 σ := by
  have e0 := wos_up (σ := σ) (a := a) (b := b) (W := bW_ga10_a) (by decide +kernel)
  have e1 := wos_up (σ := σ) (a := a) (b := b) (W := bW_ga10_b) (by decide +kernel)
  simp only [F_ga10, e0, e1, up_9]
theorem fup_ga11 {σ : Nat → Nat} (a b : Nat) : F_ga11 (up σ a b) = F_ga11 σ := by
  have e0 := wos_up (σ := σ) (a := a) (b := b) (W := bW_ga11_a) (by decide +kernel)
  have e1 := wos_up (σ := σ) (a := a) (b := b) (W := bW_ga11_b) (by decide +kernel)
  simp only [F_ga11, e0, e1, up_9]
theorem fup_ga20 {σ : Nat → Nat} (a b : Nat) : F_ga20 (up σ a b) = F_ga20 σ := by
  have e0 := wos_up (σ := σ) (a := a) (b := b) (W := bW_ga20_a) (by decide +kernel)
  have e1 := wos_up (σ := σ) (a := a) (b := b) (W := bW_ga20_b) (by decide +kernel)
  simp only [F_ga20, e0, e1, up_9]
theorem fup_ga21 {σ : Nat → Nat} (a b : Nat) : F_ga21 (up σ a b) = F_ga21 σ := by
  have e0 := wos_up (σ := σ) (a := a) (b := b) (W := bW_ga21_a) (by decide +kernel)
  have e1 := wos_up (σ := σ) (a := a) (b := b) (W := bW_ga21_b) (by decide +kernel)
  simp only [F_ga21, e0, e1, up_9]
theorem fup_ga30 {σ : Nat → Nat} (a b : Nat) : F_ga30 (up σ a b) = F_ga30 σ := by
  have e0 := wos_up (σ := σ) (a := a) (b := b) (W := bW_ga30_a) (by decide +kernel)
  have e1 := wos_up (σ := σ) (a := a) (b := b) (W := bW_ga30_b) (by decide +kernel)
  simp only [F_ga30, e0, e1, up_9]
theorem fup_ga31 {σ : Nat → Nat} (a b : Nat) : F_ga31 (up σ a b) = F_ga31 σ := by
  have e0 := wos_up (σ := σ) (a := a) (b := b) (W := bW_ga31_a) (by decide +kernel)
  have e1 := wos_up (σ := σ) (a := a) (b := b) (W := bW_ga31_b) (by decide +kernel)
  simp only [F_ga31, e0, e1, up_9]
