/-! queries: a line is worked out (written by wip/p27/c99999.py) -/
/-- a line whose next j numbers from k on are set -/
def rlF (x : Nat → Int32) : Nat → Nat → List Int32 → List Int32
  | 0, _, la => la
  | j + 1, k, la => rlF x j (k + 1) (la.set k (x k))
theorem rlF_len (x : Nat → Int32) : ∀ j k la, (rlF x j k la).length = la.length := by
  intro j
  induction j with
  | zero => intro k la; rfl
  | succ j ih =>
    intro k la
    exact (ih (k + 1) (la.set k (x k))).trans List.length_set
theorem rlF_at (x : Nat → Int32) : ∀ j k la i, k + j ≤ la.length → (rlF x j k la)[i]? = if k ≤ i ∧ i < k + j then some (x i) else la[i]? := by
  intro j
  induction j with
  | zero =>
    intro k la i h
    rw [if_neg (by omega)]
    rfl
  | succ j ih =>
    intro k la i h
    have h1 := ih (k + 1) (la.set k (x k)) i (by rw [List.length_set]; omega)
    rw [show rlF x (j + 1) k la = rlF x j (k + 1) (la.set k (x k)) from rfl, h1]
    by_cases a : k + 1 ≤ i ∧ i < k + 1 + j
    · rw [if_pos a, if_pos (by omega)]
    · rw [if_neg a]
      by_cases b : i = k
      · rw [if_pos (by omega), b, List.getElem?_set_self (by omega)]
      · rw [if_neg (by omega), List.getElem?_set_ne (fun e => b e.symm)]
theorem rlF_take (x : Nat → Int32) (w : Nat) (la : List Int32) (h : w ≤ la.length) : (rlF x w 0 la).take w = (List.range w).map x := by
  refine List.ext_getElem? (fun i => ?_)
  rw [List.getElem?_take, List.getElem?_map]
  by_cases a : i < w
  · rw [if_pos a, rlF_at x w 0 la i (by omega), if_pos (by omega), List.getElem?_range a]; rfl
  · rw [if_neg a, List.getElem?_eq_none (by rw [List.length_range]; omega)]; rfl
theorem rl_loopNA {S : List Int32} {GL : List Int32 → List XC → Prop} {q st li w fro to : Nat} {fs sf : List Value} {aa : Int32} {kd : Nat → Nat} {x : Nat → Int32} (hG : ∀ la h, GL la h → h[q]? = some (.inr (7, fs)) ∧ h[st]? = some (.inr (12, sf)) ∧ h[li]? = some (.inl (19, la.map Value.int))) (hset : ∀ la h k, GL la h → k < w → GL (la.set k (x k)) (h.set li (.inl (19, (la.set k (x k)).map Value.int)))) (hf0 : fs[0]? = some (.ref st)) (hf6 : fs[6]? = some (.ref li)) (hf13 : fs[13]? = some (.int (Int32.ofNat w))) (hs4 : sf[4]? = some (.int aa)) (hkd : ∀ la h, GL la h → ∀ k, k < w → Pu S 0 94 [.ref st, .int (Int32.ofNat k)] h (.retAddr (kd k))) (haa : ¬ aa < 0) (hce : ∀ la h, GL la h → ∀ k, k < w → Pu S 0 145 [.null, .null, .int (Int32.ofNat k)] h (.int (x k))) {nc ns : Nat} {Q : XO → Prop} : ∀ (j k : Nat) (h : List XC) (la : List Int32), k + j = w → w ≤ la.length → la.length ≤ 1000 → GL la h → (∀ h', GL (rlF x j k la) h' → Q (.inl (none, h', nc, ns))) → At S 6 151 32 [(6, .int (Int32.ofNat k)), (0, .ref q), (1, .int (Int32.ofNat fro)), (2, .int (Int32.ofNat to)), (4, .null), (5, .null)] [] h nc ns Q := by
  intro j
  induction j with
  | zero =>
    intro k h la hk hw hl hg hK
    obtain ⟨hq, hst, hli⟩ := hG la h hg
    refine At.go (q := xm151) rfl 2 (pc' := 35) (L' := [(6, .int (Int32.ofNat k)), (0, .ref q), (1, .int (Int32.ofNat fro)), (2, .int (Int32.ofNat to)), (4, .null), (5, .null)]) (st' := [.ref q, .int (Int32.ofNat k)]) rfl ?_
    refine At.gf rfl (by decide) hq hf13 ?_
    refine At.ic2 (tgt := 166) rfl rfl (fun _ => ?_) (fun h => absurd (h.symm.trans (decide_eq_true ((iN_le (a := w) (b := k) (by omega) (by omega)).mpr (by omega)))) (by decide))
    exact At.rt rfl rfl (hK h hg)
  | succ j ih =>
    intro k h la hk hw hl hg hK
    obtain ⟨hq, hst, hli⟩ := hG la h hg
    refine At.go (q := xm151) rfl 2 (pc' := 35) (L' := [(6, .int (Int32.ofNat k)), (0, .ref q), (1, .int (Int32.ofNat fro)), (2, .int (Int32.ofNat to)), (4, .null), (5, .null)]) (st' := [.ref q, .int (Int32.ofNat k)]) rfl ?_
    refine At.gf rfl (by decide) hq hf13 ?_
    refine At.ic2 (tgt := 166) rfl rfl (fun h => absurd (h.symm.trans (decide_eq_false (fun h => absurd ((iN_le (a := w) (b := k) (by omega) (by omega)).mp h) (by omega)))) (by decide)) (fun _ => ?_)
    refine At.go (q := xm151) rfl 2 (pc' := 44) (L' := [(6, .int (Int32.ofNat k)), (0, .ref q), (1, .int (Int32.ofNat fro)), (2, .int (Int32.ofNat to)), (4, .null), (5, .null)]) (st' := [.ref q, .int (Int32.ofNat k)]) rfl ?_
    refine At.gf rfl (by decide) hq hf6 ?_
    refine At.ln rfl hli ?_
    rw [List.length_map]
    refine At.ic2 (tgt := 166) rfl rfl (fun h => absurd ((iN_le (a := la.length) (b := k) (by omega) (by omega)).mp (of_decide_eq_true h)) (by omega)) (fun _ => ?_)
    refine At.go (q := xm151) rfl 1 (pc' := 52) (L' := [(6, .int (Int32.ofNat k)), (0, .ref q), (1, .int (Int32.ofNat fro)), (2, .int (Int32.ofNat to)), (4, .null), (5, .null)]) (st' := [.ref q]) rfl ?_
    refine At.gf rfl (by decide) hq hf0 ?_
    refine At.go (q := xm151) rfl 1 (pc' := 57) (L' := [(6, .int (Int32.ofNat k)), (0, .ref q), (1, .int (Int32.ofNat fro)), (2, .int (Int32.ofNat to)), (4, .null), (5, .null)]) (st' := [.int (Int32.ofNat k), .ref st]) rfl ?_
    refine At.clp (as := [.ref st, .int (Int32.ofNat k)]) (rest := []) rfl (by decide) rfl (Nat.le_of_ble_eq_true rfl) (Nat.le_of_ble_eq_true rfl) (xrck_o (by decide) (by decide) hst (by decide)) (Nat.le_of_ble_eq_true rfl) (hkd la h hg k (by omega)) ?_
    refine At.go (q := xm151) rfl 2 (pc' := 63) (L' := [(7, .retAddr (kd k)), (6, .int (Int32.ofNat k)), (0, .ref q), (1, .int (Int32.ofNat fro)), (2, .int (Int32.ofNat to)), (4, .null), (5, .null)]) (st' := [.ref q]) rfl ?_
    refine At.gf rfl (by decide) hq hf0 ?_
    refine At.gf rfl (by decide) hst hs4 ?_
    refine At.ic1 (tgt := 91) rfl rfl (fun h => absurd (h.symm.trans (decide_eq_false haa)) (by decide)) (fun _ => ?_)
    refine At.go (q := xm151) rfl 1 (pc' := 73) (L' := [(7, .retAddr (kd k)), (6, .int (Int32.ofNat k)), (0, .ref q), (1, .int (Int32.ofNat fro)), (2, .int (Int32.ofNat to)), (4, .null), (5, .null)]) (st' := [.ref q]) rfl ?_
    refine At.gf rfl (by decide) hq hf6 ?_
    refine At.go (q := xm151) rfl 4 (pc' := 84) (L' := [(7, .retAddr (kd k)), (6, .int (Int32.ofNat k)), (0, .ref q), (1, .int (Int32.ofNat fro)), (2, .int (Int32.ofNat to)), (4, .null), (5, .null)]) (st' := [.int (Int32.ofNat k), .null, .null, .int (Int32.ofNat k), .ref li]) rfl ?_
    refine At.clp (as := [.null, .null, .int (Int32.ofNat k)]) (rest := [.int (Int32.ofNat k), .ref li]) rfl (by decide) rfl (Nat.le_of_ble_eq_true rfl) (Nat.le_of_ble_eq_true rfl) rfl (Nat.le_of_ble_eq_true rfl) (hce la h hg k (by omega)) ?_
    refine At.as (j := Int32.ofNat k) rfl hli (by decide) rfl (iN_nn (by omega)) (by rw [iN_tn (by omega), List.length_map]; omega) ?_
    rw [iN_tn (by omega)]
    obtain ⟨h8, eh8⟩ : ∃ h9, h9 = h.set li (.inl (19, (la.map Value.int).set k (.int (x k)))) := ⟨_, rfl⟩
    refine At.hpe eh8 ?_
    have hg8 : GL (la.set k (x k)) h8 := by rw [eh8, show (la.map Value.int).set k (.int (x k)) = (la.set k (x k)).map Value.int from List.map_set.symm]; exact hset la h k hg (by omega)
    refine At.go (q := xm151) rfl 1 (pc' := 160) (L' := [(7, .retAddr (kd k)), (6, .int (Int32.ofNat k)), (0, .ref q), (1, .int (Int32.ofNat fro)), (2, .int (Int32.ofNat to)), (4, .null), (5, .null)]) (st' := []) rfl ?_
    refine At.go (q := xm151) rfl 1 (pc' := 163) (L' := [(6, .int ((Int32.ofNat k) + 1)), (7, .retAddr (kd k)), (0, .ref q), (1, .int (Int32.ofNat fro)), (2, .int (Int32.ofNat to)), (4, .null), (5, .null)]) (st' := []) rfl ?_
    refine At.go (q := xm151) rfl 1 (pc' := 32) (L' := [(6, .int ((Int32.ofNat k) + 1)), (7, .retAddr (kd k)), (0, .ref q), (1, .int (Int32.ofNat fro)), (2, .int (Int32.ofNat to)), (4, .null), (5, .null)]) (st' := []) rfl ?_
    rw [iN_s]
    refine At.wk (L' := [(6, .int (Int32.ofNat (k + 1))), (0, .ref q), (1, .int (Int32.ofNat fro)), (2, .int (Int32.ofNat to)), (4, .null), (5, .null)]) (List.forall_mem_cons.mpr ⟨List.mem_of_getElem? (i := 0) rfl, (List.forall_mem_cons.mpr ⟨List.mem_of_getElem? (i := 2) rfl, (List.forall_mem_cons.mpr ⟨List.mem_of_getElem? (i := 3) rfl, (List.forall_mem_cons.mpr ⟨List.mem_of_getElem? (i := 4) rfl, (List.forall_mem_cons.mpr ⟨List.mem_of_getElem? (i := 5) rfl, (List.forall_mem_cons.mpr ⟨List.mem_of_getElem? (i := 6) rfl, (fun _ h => (List.not_mem_nil h).elim)⟩)⟩)⟩)⟩)⟩)⟩) (show ([6, 7, 0, 1, 2, 4, 5] : List Nat).Nodup by decide) ?_
    exact ih (k + 1) h8 (la.set k (x k)) (by omega) (by rw [List.length_set]; exact hw) (by rw [List.length_set]; exact hl) hg8 (fun h' hg' => hK h' hg')
theorem m_reckonNA {hp : List XC} {S : List Int32} {GL : List Int32 → List XC → Prop} {q st li w fro to : Nat} {fs sf : List Value} {aa : Int32} {kd : Nat → Nat} {x : Nat → Int32} (hG : ∀ la h, GL la h → h[q]? = some (.inr (7, fs)) ∧ h[st]? = some (.inr (12, sf)) ∧ h[li]? = some (.inl (19, la.map Value.int))) (hset : ∀ la h k, GL la h → k < w → GL (la.set k (x k)) (h.set li (.inl (19, (la.set k (x k)).map Value.int)))) (hf0 : fs[0]? = some (.ref st)) (hf6 : fs[6]? = some (.ref li)) (hf13 : fs[13]? = some (.int (Int32.ofNat w))) (hs4 : sf[4]? = some (.int aa)) (hkd : ∀ la h, GL la h → ∀ k, k < w → Pu S 0 94 [.ref st, .int (Int32.ofNat k)] h (.retAddr (kd k))) (haa : ¬ aa < 0) (hce : ∀ la h, GL la h → ∀ k, k < w → Pu S 0 145 [.null, .null, .int (Int32.ofNat k)] h (.int (x k))) {la : List Int32} (hg0 : GL la hp) (hw : w ≤ la.length) (hl : la.length ≤ 1000) (hb1 : fro < 2 ^ 31) (hb2 : to < 2 ^ 31) (hft : to ≤ fro) (hfo : Pu S 3 153 [.ref q, .int (-1)] hp (.null)) (hso : Pu S 3 154 [.ref q, .int (-1)] hp (.null)) : Me S 6 151 [.ref q, .int (Int32.ofNat fro), .int (Int32.ofNat to)] hp (fun v hp' c s => v = none ∧ GL (rlF x w 0 la) hp' ∧ c = 0 ∧ s = 0) := by
  obtain ⟨hq, hst, hli⟩ := hG la hp hg0
  refine At.go (q := xm151) rfl 2 (pc' := 2) (L' := [(0, .ref q), (1, .int (Int32.ofNat fro)), (2, .int (Int32.ofNat to))]) (st' := [.int (Int32.ofNat to), .int (Int32.ofNat fro)]) rfl ?_
  refine At.ic2 (tgt := 13) rfl rfl (fun _ => ?_) (fun h => absurd (h.symm.trans (decide_eq_true ((iN_le (a := to) (b := fro) (by omega) (by omega)).mpr hft))) (by decide))
  refine At.go (q := xm151) rfl 4 (pc' := 17) (L' := [(3, .int (-1)), (0, .ref q), (1, .int (Int32.ofNat fro)), (2, .int (Int32.ofNat to))]) (st' := [.int (-1), .ref q]) rfl ?_
  refine At.clp (as := [.ref q, .int (-1)]) (rest := []) rfl (by decide) rfl (Nat.le_of_ble_eq_true rfl) (Nat.le_of_ble_eq_true rfl) (xrck_o (by decide) (by decide) hq (by decide)) (Nat.le_of_ble_eq_true rfl) (hfo) ?_
  refine At.go (q := xm151) rfl 3 (pc' := 24) (L' := [(4, .null), (3, .int (-1)), (0, .ref q), (1, .int (Int32.ofNat fro)), (2, .int (Int32.ofNat to))]) (st' := [.int (-1), .ref q]) rfl ?_
  refine At.clp (as := [.ref q, .int (-1)]) (rest := []) rfl (by decide) rfl (Nat.le_of_ble_eq_true rfl) (Nat.le_of_ble_eq_true rfl) (xrck_o (by decide) (by decide) hq (by decide)) (Nat.le_of_ble_eq_true rfl) (hso) ?_
  refine At.go (q := xm151) rfl 3 (pc' := 32) (L' := [(6, .int 0), (5, .null), (4, .null), (3, .int (-1)), (0, .ref q), (1, .int (Int32.ofNat fro)), (2, .int (Int32.ofNat to))]) (st' := []) rfl ?_
  refine At.wk (L' := [(6, .int (Int32.ofNat 0)), (0, .ref q), (1, .int (Int32.ofNat fro)), (2, .int (Int32.ofNat to)), (4, .null), (5, .null)]) (List.forall_mem_cons.mpr ⟨List.mem_of_getElem? (i := 0) rfl, (List.forall_mem_cons.mpr ⟨List.mem_of_getElem? (i := 4) rfl, (List.forall_mem_cons.mpr ⟨List.mem_of_getElem? (i := 5) rfl, (List.forall_mem_cons.mpr ⟨List.mem_of_getElem? (i := 6) rfl, (List.forall_mem_cons.mpr ⟨List.mem_of_getElem? (i := 2) rfl, (List.forall_mem_cons.mpr ⟨List.mem_of_getElem? (i := 1) rfl, (fun _ h => (List.not_mem_nil h).elim)⟩)⟩)⟩)⟩)⟩)⟩) (show ([6, 5, 4, 3, 0, 1, 2] : List Nat).Nodup by decide) ?_
  refine rl_loopNA hG hset hf0 hf6 hf13 hs4 hkd haa hce w 0 hp la (by omega) hw hl hg0 (fun h9 hg9 => ⟨_, _, _, _, rfl, rfl, hg9, rfl, rfl⟩)
theorem rl_loopNB {S : List Int32} {GL : List Int32 → List XC → Prop} {q st li w fro to : Nat} {fs sf : List Value} {aa : Int32} {kd : Nat → Nat} {x : Nat → Int32} (hG : ∀ la h, GL la h → h[q]? = some (.inr (7, fs)) ∧ h[st]? = some (.inr (12, sf)) ∧ h[li]? = some (.inl (19, la.map Value.int))) (hset : ∀ la h k, GL la h → k < w → GL (la.set k (x k)) (h.set li (.inl (19, (la.set k (x k)).map Value.int)))) (hf0 : fs[0]? = some (.ref st)) (hf6 : fs[6]? = some (.ref li)) (hf13 : fs[13]? = some (.int (Int32.ofNat w))) (hs4 : sf[4]? = some (.int aa)) (hkd : ∀ la h, GL la h → ∀ k, k < w → Pu S 0 94 [.ref st, .int (Int32.ofNat k)] h (.retAddr (kd k))) (haa : aa < 0) (hx : ∀ k, k < w → ∃ b30 b3 : Bool, xeq xKC (.retAddr (kd k)) (.retAddr 30) = some b30 ∧ xeq xKC (.retAddr (kd k)) (.retAddr 3) = some b3 ∧ (b30 = true → Int32.ofNat to - Int32.ofNat fro = x k) ∧ (b30 = false → b3 = true → ∀ la h, GL la h → Me S 5 155 [.ref st, .int (Int32.ofNat k), .null, .null] h (fun v h' c s => v = some (.int (x k)) ∧ GL la h' ∧ c = 0 ∧ s = 0)) ∧ (b30 = false → b3 = false → ∀ la h, GL la h → Me S 5 156 [.ref q, .retAddr (kd k), .int (Int32.ofNat k), .int (Int32.ofNat fro), .int (Int32.ofNat to)] h (fun v h' c s => v = some (.int (x k)) ∧ GL la h' ∧ c = 0 ∧ s = 0))) {nc ns : Nat} {Q : XO → Prop} : ∀ (j k : Nat) (h : List XC) (la : List Int32), k + j = w → w ≤ la.length → la.length ≤ 1000 → GL la h → (∀ h', GL (rlF x j k la) h' → Q (.inl (none, h', nc, ns))) → At S 6 151 32 [(6, .int (Int32.ofNat k)), (0, .ref q), (1, .int (Int32.ofNat fro)), (2, .int (Int32.ofNat to)), (4, .null), (5, .null)] [] h nc ns Q := by
  intro j
  induction j with
  | zero =>
    intro k h la hk hw hl hg hK
    obtain ⟨hq, hst, hli⟩ := hG la h hg
    refine At.go (q := xm151) rfl 2 (pc' := 35) (L' := [(6, .int (Int32.ofNat k)), (0, .ref q), (1, .int (Int32.ofNat fro)), (2, .int (Int32.ofNat to)), (4, .null), (5, .null)]) (st' := [.ref q, .int (Int32.ofNat k)]) rfl ?_
    refine At.gf rfl (by decide) hq hf13 ?_
    refine At.ic2 (tgt := 166) rfl rfl (fun _ => ?_) (fun h => absurd (h.symm.trans (decide_eq_true ((iN_le (a := w) (b := k) (by omega) (by omega)).mpr (by omega)))) (by decide))
    exact At.rt rfl rfl (hK h hg)
  | succ j ih =>
    intro k h la hk hw hl hg hK
    obtain ⟨hq, hst, hli⟩ := hG la h hg
    obtain ⟨b30, b3, e30, e3, x30, x3, xf⟩ := hx k (by omega)
    refine At.go (q := xm151) rfl 2 (pc' := 35) (L' := [(6, .int (Int32.ofNat k)), (0, .ref q), (1, .int (Int32.ofNat fro)), (2, .int (Int32.ofNat to)), (4, .null), (5, .null)]) (st' := [.ref q, .int (Int32.ofNat k)]) rfl ?_
    refine At.gf rfl (by decide) hq hf13 ?_
    refine At.ic2 (tgt := 166) rfl rfl (fun h => absurd (h.symm.trans (decide_eq_false (fun h => absurd ((iN_le (a := w) (b := k) (by omega) (by omega)).mp h) (by omega)))) (by decide)) (fun _ => ?_)
    refine At.go (q := xm151) rfl 2 (pc' := 44) (L' := [(6, .int (Int32.ofNat k)), (0, .ref q), (1, .int (Int32.ofNat fro)), (2, .int (Int32.ofNat to)), (4, .null), (5, .null)]) (st' := [.ref q, .int (Int32.ofNat k)]) rfl ?_
    refine At.gf rfl (by decide) hq hf6 ?_
    refine At.ln rfl hli ?_
    rw [List.length_map]
    refine At.ic2 (tgt := 166) rfl rfl (fun h => absurd ((iN_le (a := la.length) (b := k) (by omega) (by omega)).mp (of_decide_eq_true h)) (by omega)) (fun _ => ?_)
    refine At.go (q := xm151) rfl 1 (pc' := 52) (L' := [(6, .int (Int32.ofNat k)), (0, .ref q), (1, .int (Int32.ofNat fro)), (2, .int (Int32.ofNat to)), (4, .null), (5, .null)]) (st' := [.ref q]) rfl ?_
    refine At.gf rfl (by decide) hq hf0 ?_
    refine At.go (q := xm151) rfl 1 (pc' := 57) (L' := [(6, .int (Int32.ofNat k)), (0, .ref q), (1, .int (Int32.ofNat fro)), (2, .int (Int32.ofNat to)), (4, .null), (5, .null)]) (st' := [.int (Int32.ofNat k), .ref st]) rfl ?_
    refine At.clp (as := [.ref st, .int (Int32.ofNat k)]) (rest := []) rfl (by decide) rfl (Nat.le_of_ble_eq_true rfl) (Nat.le_of_ble_eq_true rfl) (xrck_o (by decide) (by decide) hst (by decide)) (Nat.le_of_ble_eq_true rfl) (hkd la h hg k (by omega)) ?_
    refine At.go (q := xm151) rfl 2 (pc' := 63) (L' := [(7, .retAddr (kd k)), (6, .int (Int32.ofNat k)), (0, .ref q), (1, .int (Int32.ofNat fro)), (2, .int (Int32.ofNat to)), (4, .null), (5, .null)]) (st' := [.ref q]) rfl ?_
    refine At.gf rfl (by decide) hq hf0 ?_
    refine At.gf rfl (by decide) hst hs4 ?_
    refine At.ic1 (tgt := 91) rfl rfl (fun _ => ?_) (fun h => absurd (h.symm.trans (decide_eq_true haa)) (by decide))
    refine At.go (q := xm151) rfl 2 (pc' := 96) (L' := [(7, .retAddr (kd k)), (6, .int (Int32.ofNat k)), (0, .ref q), (1, .int (Int32.ofNat fro)), (2, .int (Int32.ofNat to)), (4, .null), (5, .null)]) (st' := [.retAddr 30, .retAddr (kd k)]) rfl ?_
    refine At.acn (tgt := 112) (b := b30) rfl rfl e30 (fun h96 => ?_) (fun h96 => ?_)
    · refine At.go (q := xm151) rfl 2 (pc' := 117) (L' := [(7, .retAddr (kd k)), (6, .int (Int32.ofNat k)), (0, .ref q), (1, .int (Int32.ofNat fro)), (2, .int (Int32.ofNat to)), (4, .null), (5, .null)]) (st' := [.retAddr 3, .retAddr (kd k)]) rfl ?_
      refine At.acn (tgt := 143) (b := b3) rfl rfl e3 (fun h117 => ?_) (fun h117 => ?_)
      · refine At.go (q := xm151) rfl 1 (pc' := 144) (L' := [(7, .retAddr (kd k)), (6, .int (Int32.ofNat k)), (0, .ref q), (1, .int (Int32.ofNat fro)), (2, .int (Int32.ofNat to)), (4, .null), (5, .null)]) (st' := [.ref q]) rfl ?_
        refine At.gf rfl (by decide) hq hf6 ?_
        refine At.go (q := xm151) rfl 6 (pc' := 156) (L' := [(7, .retAddr (kd k)), (6, .int (Int32.ofNat k)), (0, .ref q), (1, .int (Int32.ofNat fro)), (2, .int (Int32.ofNat to)), (4, .null), (5, .null)]) (st' := [.int (Int32.ofNat to), .int (Int32.ofNat fro), .int (Int32.ofNat k), .retAddr (kd k), .ref q, .int (Int32.ofNat k), .ref li]) rfl ?_
        refine At.clm (as := [.ref q, .retAddr (kd k), .int (Int32.ofNat k), .int (Int32.ofNat fro), .int (Int32.ofNat to)]) (rest := [.int (Int32.ofNat k), .ref li]) rfl (by decide) rfl (Nat.le_of_ble_eq_true rfl) (Nat.le_of_ble_eq_true rfl) (xrck_o (by decide) (by decide) hq (by decide)) (Nat.le_of_ble_eq_true rfl) (xf h96 h117 la h hg) (fun v9 h2 c2 s2 hv9 => ?_)
        obtain ⟨rfl, hg2, rfl, rfl⟩ := hv9
        obtain ⟨hq2, hst2, hli2⟩ := hG la h2 hg2
        refine At.as (j := Int32.ofNat k) rfl hli2 (by decide) rfl (iN_nn (by omega)) (by rw [iN_tn (by omega), List.length_map]; omega) ?_
        rw [iN_tn (by omega)]
        obtain ⟨h8, eh8⟩ : ∃ h9, h9 = h2.set li (.inl (19, (la.map Value.int).set k (.int (x k)))) := ⟨_, rfl⟩
        refine At.hpe eh8 ?_
        have hg8 : GL (la.set k (x k)) h8 := by rw [eh8, show (la.map Value.int).set k (.int (x k)) = (la.set k (x k)).map Value.int from List.map_set.symm]; exact hset la h2 k hg2 (by omega)
        refine At.go (q := xm151) rfl 1 (pc' := 163) (L' := [(6, .int ((Int32.ofNat k) + 1)), (7, .retAddr (kd k)), (0, .ref q), (1, .int (Int32.ofNat fro)), (2, .int (Int32.ofNat to)), (4, .null), (5, .null)]) (st' := []) rfl ?_
        refine At.go (q := xm151) rfl 1 (pc' := 32) (L' := [(6, .int ((Int32.ofNat k) + 1)), (7, .retAddr (kd k)), (0, .ref q), (1, .int (Int32.ofNat fro)), (2, .int (Int32.ofNat to)), (4, .null), (5, .null)]) (st' := []) rfl ?_
        rw [iN_s]
        refine At.wk (L' := [(6, .int (Int32.ofNat (k + 1))), (0, .ref q), (1, .int (Int32.ofNat fro)), (2, .int (Int32.ofNat to)), (4, .null), (5, .null)]) (List.forall_mem_cons.mpr ⟨List.mem_of_getElem? (i := 0) rfl, (List.forall_mem_cons.mpr ⟨List.mem_of_getElem? (i := 2) rfl, (List.forall_mem_cons.mpr ⟨List.mem_of_getElem? (i := 3) rfl, (List.forall_mem_cons.mpr ⟨List.mem_of_getElem? (i := 4) rfl, (List.forall_mem_cons.mpr ⟨List.mem_of_getElem? (i := 5) rfl, (List.forall_mem_cons.mpr ⟨List.mem_of_getElem? (i := 6) rfl, (fun _ h => (List.not_mem_nil h).elim)⟩)⟩)⟩)⟩)⟩)⟩) (show ([6, 7, 0, 1, 2, 4, 5] : List Nat).Nodup by decide) ?_
        exact ih (k + 1) h8 (la.set k (x k)) (by omega) (by rw [List.length_set]; exact hw) (by rw [List.length_set]; exact hl) hg8 (fun h' hg' => hK h' hg')
      · refine At.go (q := xm151) rfl 1 (pc' := 121) (L' := [(7, .retAddr (kd k)), (6, .int (Int32.ofNat k)), (0, .ref q), (1, .int (Int32.ofNat fro)), (2, .int (Int32.ofNat to)), (4, .null), (5, .null)]) (st' := [.ref q]) rfl ?_
        refine At.gf rfl (by decide) hq hf6 ?_
        refine At.go (q := xm151) rfl 2 (pc' := 127) (L' := [(7, .retAddr (kd k)), (6, .int (Int32.ofNat k)), (0, .ref q), (1, .int (Int32.ofNat fro)), (2, .int (Int32.ofNat to)), (4, .null), (5, .null)]) (st' := [.ref q, .int (Int32.ofNat k), .ref li]) rfl ?_
        refine At.gf rfl (by decide) hq hf0 ?_
        refine At.go (q := xm151) rfl 3 (pc' := 136) (L' := [(7, .retAddr (kd k)), (6, .int (Int32.ofNat k)), (0, .ref q), (1, .int (Int32.ofNat fro)), (2, .int (Int32.ofNat to)), (4, .null), (5, .null)]) (st' := [.null, .null, .int (Int32.ofNat k), .ref st, .int (Int32.ofNat k), .ref li]) rfl ?_
        refine At.clm (as := [.ref st, .int (Int32.ofNat k), .null, .null]) (rest := [.int (Int32.ofNat k), .ref li]) rfl (by decide) rfl (Nat.le_of_ble_eq_true rfl) (Nat.le_of_ble_eq_true rfl) (xrck_o (by decide) (by decide) hst (by decide)) (Nat.le_of_ble_eq_true rfl) (x3 h96 h117 la h hg) (fun v9 h2 c2 s2 hv9 => ?_)
        obtain ⟨rfl, hg2, rfl, rfl⟩ := hv9
        obtain ⟨hq2, hst2, hli2⟩ := hG la h2 hg2
        refine At.as (j := Int32.ofNat k) rfl hli2 (by decide) rfl (iN_nn (by omega)) (by rw [iN_tn (by omega), List.length_map]; omega) ?_
        rw [iN_tn (by omega)]
        obtain ⟨h8, eh8⟩ : ∃ h9, h9 = h2.set li (.inl (19, (la.map Value.int).set k (.int (x k)))) := ⟨_, rfl⟩
        refine At.hpe eh8 ?_
        have hg8 : GL (la.set k (x k)) h8 := by rw [eh8, show (la.map Value.int).set k (.int (x k)) = (la.set k (x k)).map Value.int from List.map_set.symm]; exact hset la h2 k hg2 (by omega)
        refine At.go (q := xm151) rfl 1 (pc' := 160) (L' := [(7, .retAddr (kd k)), (6, .int (Int32.ofNat k)), (0, .ref q), (1, .int (Int32.ofNat fro)), (2, .int (Int32.ofNat to)), (4, .null), (5, .null)]) (st' := []) rfl ?_
        refine At.go (q := xm151) rfl 1 (pc' := 163) (L' := [(6, .int ((Int32.ofNat k) + 1)), (7, .retAddr (kd k)), (0, .ref q), (1, .int (Int32.ofNat fro)), (2, .int (Int32.ofNat to)), (4, .null), (5, .null)]) (st' := []) rfl ?_
        refine At.go (q := xm151) rfl 1 (pc' := 32) (L' := [(6, .int ((Int32.ofNat k) + 1)), (7, .retAddr (kd k)), (0, .ref q), (1, .int (Int32.ofNat fro)), (2, .int (Int32.ofNat to)), (4, .null), (5, .null)]) (st' := []) rfl ?_
        rw [iN_s]
        refine At.wk (L' := [(6, .int (Int32.ofNat (k + 1))), (0, .ref q), (1, .int (Int32.ofNat fro)), (2, .int (Int32.ofNat to)), (4, .null), (5, .null)]) (List.forall_mem_cons.mpr ⟨List.mem_of_getElem? (i := 0) rfl, (List.forall_mem_cons.mpr ⟨List.mem_of_getElem? (i := 2) rfl, (List.forall_mem_cons.mpr ⟨List.mem_of_getElem? (i := 3) rfl, (List.forall_mem_cons.mpr ⟨List.mem_of_getElem? (i := 4) rfl, (List.forall_mem_cons.mpr ⟨List.mem_of_getElem? (i := 5) rfl, (List.forall_mem_cons.mpr ⟨List.mem_of_getElem? (i := 6) rfl, (fun _ h => (List.not_mem_nil h).elim)⟩)⟩)⟩)⟩)⟩)⟩) (show ([6, 7, 0, 1, 2, 4, 5] : List Nat).Nodup by decide) ?_
        exact ih (k + 1) h8 (la.set k (x k)) (by omega) (by rw [List.length_set]; exact hw) (by rw [List.length_set]; exact hl) hg8 (fun h' hg' => hK h' hg')
    · refine At.go (q := xm151) rfl 1 (pc' := 100) (L' := [(7, .retAddr (kd k)), (6, .int (Int32.ofNat k)), (0, .ref q), (1, .int (Int32.ofNat fro)), (2, .int (Int32.ofNat to)), (4, .null), (5, .null)]) (st' := [.ref q]) rfl ?_
      refine At.gf rfl (by decide) hq hf6 ?_
      refine At.go (q := xm151) rfl 4 (pc' := 108) (L' := [(7, .retAddr (kd k)), (6, .int (Int32.ofNat k)), (0, .ref q), (1, .int (Int32.ofNat fro)), (2, .int (Int32.ofNat to)), (4, .null), (5, .null)]) (st' := [.int ((Int32.ofNat to) - (Int32.ofNat fro)), .int (Int32.ofNat k), .ref li]) rfl ?_
      rw [x30 h96]
      refine At.as (j := Int32.ofNat k) rfl hli (by decide) rfl (iN_nn (by omega)) (by rw [iN_tn (by omega), List.length_map]; omega) ?_
      rw [iN_tn (by omega)]
      obtain ⟨h8, eh8⟩ : ∃ h9, h9 = h.set li (.inl (19, (la.map Value.int).set k (.int (x k)))) := ⟨_, rfl⟩
      refine At.hpe eh8 ?_
      have hg8 : GL (la.set k (x k)) h8 := by rw [eh8, show (la.map Value.int).set k (.int (x k)) = (la.set k (x k)).map Value.int from List.map_set.symm]; exact hset la h k hg (by omega)
      refine At.go (q := xm151) rfl 1 (pc' := 160) (L' := [(7, .retAddr (kd k)), (6, .int (Int32.ofNat k)), (0, .ref q), (1, .int (Int32.ofNat fro)), (2, .int (Int32.ofNat to)), (4, .null), (5, .null)]) (st' := []) rfl ?_
      refine At.go (q := xm151) rfl 1 (pc' := 163) (L' := [(6, .int ((Int32.ofNat k) + 1)), (7, .retAddr (kd k)), (0, .ref q), (1, .int (Int32.ofNat fro)), (2, .int (Int32.ofNat to)), (4, .null), (5, .null)]) (st' := []) rfl ?_
      refine At.go (q := xm151) rfl 1 (pc' := 32) (L' := [(6, .int ((Int32.ofNat k) + 1)), (7, .retAddr (kd k)), (0, .ref q), (1, .int (Int32.ofNat fro)), (2, .int (Int32.ofNat to)), (4, .null), (5, .null)]) (st' := []) rfl ?_
      rw [iN_s]
      refine At.wk (L' := [(6, .int (Int32.ofNat (k + 1))), (0, .ref q), (1, .int (Int32.ofNat fro)), (2, .int (Int32.ofNat to)), (4, .null), (5, .null)]) (List.forall_mem_cons.mpr ⟨List.mem_of_getElem? (i := 0) rfl, (List.forall_mem_cons.mpr ⟨List.mem_of_getElem? (i := 2) rfl, (List.forall_mem_cons.mpr ⟨List.mem_of_getElem? (i := 3) rfl, (List.forall_mem_cons.mpr ⟨List.mem_of_getElem? (i := 4) rfl, (List.forall_mem_cons.mpr ⟨List.mem_of_getElem? (i := 5) rfl, (List.forall_mem_cons.mpr ⟨List.mem_of_getElem? (i := 6) rfl, (fun _ h => (List.not_mem_nil h).elim)⟩)⟩)⟩)⟩)⟩)⟩) (show ([6, 7, 0, 1, 2, 4, 5] : List Nat).Nodup by decide) ?_
      exact ih (k + 1) h8 (la.set k (x k)) (by omega) (by rw [List.length_set]; exact hw) (by rw [List.length_set]; exact hl) hg8 (fun h' hg' => hK h' hg')
theorem m_reckonNB {hp : List XC} {S : List Int32} {GL : List Int32 → List XC → Prop} {q st li w fro to : Nat} {fs sf : List Value} {aa : Int32} {kd : Nat → Nat} {x : Nat → Int32} (hG : ∀ la h, GL la h → h[q]? = some (.inr (7, fs)) ∧ h[st]? = some (.inr (12, sf)) ∧ h[li]? = some (.inl (19, la.map Value.int))) (hset : ∀ la h k, GL la h → k < w → GL (la.set k (x k)) (h.set li (.inl (19, (la.set k (x k)).map Value.int)))) (hf0 : fs[0]? = some (.ref st)) (hf6 : fs[6]? = some (.ref li)) (hf13 : fs[13]? = some (.int (Int32.ofNat w))) (hs4 : sf[4]? = some (.int aa)) (hkd : ∀ la h, GL la h → ∀ k, k < w → Pu S 0 94 [.ref st, .int (Int32.ofNat k)] h (.retAddr (kd k))) (haa : aa < 0) (hx : ∀ k, k < w → ∃ b30 b3 : Bool, xeq xKC (.retAddr (kd k)) (.retAddr 30) = some b30 ∧ xeq xKC (.retAddr (kd k)) (.retAddr 3) = some b3 ∧ (b30 = true → Int32.ofNat to - Int32.ofNat fro = x k) ∧ (b30 = false → b3 = true → ∀ la h, GL la h → Me S 5 155 [.ref st, .int (Int32.ofNat k), .null, .null] h (fun v h' c s => v = some (.int (x k)) ∧ GL la h' ∧ c = 0 ∧ s = 0)) ∧ (b30 = false → b3 = false → ∀ la h, GL la h → Me S 5 156 [.ref q, .retAddr (kd k), .int (Int32.ofNat k), .int (Int32.ofNat fro), .int (Int32.ofNat to)] h (fun v h' c s => v = some (.int (x k)) ∧ GL la h' ∧ c = 0 ∧ s = 0))) {la : List Int32} (hg0 : GL la hp) (hw : w ≤ la.length) (hl : la.length ≤ 1000) (hb1 : fro < 2 ^ 31) (hb2 : to < 2 ^ 31) (hft : to ≤ fro) (hfo : Pu S 3 153 [.ref q, .int (-1)] hp (.null)) (hso : Pu S 3 154 [.ref q, .int (-1)] hp (.null)) : Me S 6 151 [.ref q, .int (Int32.ofNat fro), .int (Int32.ofNat to)] hp (fun v hp' c s => v = none ∧ GL (rlF x w 0 la) hp' ∧ c = 0 ∧ s = 0) := by
  obtain ⟨hq, hst, hli⟩ := hG la hp hg0
  refine At.go (q := xm151) rfl 2 (pc' := 2) (L' := [(0, .ref q), (1, .int (Int32.ofNat fro)), (2, .int (Int32.ofNat to))]) (st' := [.int (Int32.ofNat to), .int (Int32.ofNat fro)]) rfl ?_
  refine At.ic2 (tgt := 13) rfl rfl (fun _ => ?_) (fun h => absurd (h.symm.trans (decide_eq_true ((iN_le (a := to) (b := fro) (by omega) (by omega)).mpr hft))) (by decide))
  refine At.go (q := xm151) rfl 4 (pc' := 17) (L' := [(3, .int (-1)), (0, .ref q), (1, .int (Int32.ofNat fro)), (2, .int (Int32.ofNat to))]) (st' := [.int (-1), .ref q]) rfl ?_
  refine At.clp (as := [.ref q, .int (-1)]) (rest := []) rfl (by decide) rfl (Nat.le_of_ble_eq_true rfl) (Nat.le_of_ble_eq_true rfl) (xrck_o (by decide) (by decide) hq (by decide)) (Nat.le_of_ble_eq_true rfl) (hfo) ?_
  refine At.go (q := xm151) rfl 3 (pc' := 24) (L' := [(4, .null), (3, .int (-1)), (0, .ref q), (1, .int (Int32.ofNat fro)), (2, .int (Int32.ofNat to))]) (st' := [.int (-1), .ref q]) rfl ?_
  refine At.clp (as := [.ref q, .int (-1)]) (rest := []) rfl (by decide) rfl (Nat.le_of_ble_eq_true rfl) (Nat.le_of_ble_eq_true rfl) (xrck_o (by decide) (by decide) hq (by decide)) (Nat.le_of_ble_eq_true rfl) (hso) ?_
  refine At.go (q := xm151) rfl 3 (pc' := 32) (L' := [(6, .int 0), (5, .null), (4, .null), (3, .int (-1)), (0, .ref q), (1, .int (Int32.ofNat fro)), (2, .int (Int32.ofNat to))]) (st' := []) rfl ?_
  refine At.wk (L' := [(6, .int (Int32.ofNat 0)), (0, .ref q), (1, .int (Int32.ofNat fro)), (2, .int (Int32.ofNat to)), (4, .null), (5, .null)]) (List.forall_mem_cons.mpr ⟨List.mem_of_getElem? (i := 0) rfl, (List.forall_mem_cons.mpr ⟨List.mem_of_getElem? (i := 4) rfl, (List.forall_mem_cons.mpr ⟨List.mem_of_getElem? (i := 5) rfl, (List.forall_mem_cons.mpr ⟨List.mem_of_getElem? (i := 6) rfl, (List.forall_mem_cons.mpr ⟨List.mem_of_getElem? (i := 2) rfl, (List.forall_mem_cons.mpr ⟨List.mem_of_getElem? (i := 1) rfl, (fun _ h => (List.not_mem_nil h).elim)⟩)⟩)⟩)⟩)⟩)⟩) (show ([6, 5, 4, 3, 0, 1, 2] : List Nat).Nodup by decide) ?_
  refine rl_loopNB hG hset hf0 hf6 hf13 hs4 hkd haa hx w 0 hp la (by omega) hw hl hg0 (fun h9 hg9 => ⟨_, _, _, _, rfl, rfl, hg9, rfl, rfl⟩)
theorem rl_loop0A {S : List Int32} {GL : List Int32 → List XC → Prop} {q st li w fro to : Nat} {o1 : Nat} {fs sf : List Value} {aa : Int32} {kd : Nat → Nat} {x : Nat → Int32} (hG : ∀ la h, GL la h → h[q]? = some (.inr (7, fs)) ∧ h[st]? = some (.inr (12, sf)) ∧ h[li]? = some (.inl (19, la.map Value.int))) (hset : ∀ la h k, GL la h → k < w → GL (la.set k (x k)) (h.set li (.inl (19, (la.set k (x k)).map Value.int)))) (hf0 : fs[0]? = some (.ref st)) (hf6 : fs[6]? = some (.ref li)) (hf13 : fs[13]? = some (.int (Int32.ofNat w))) (hs4 : sf[4]? = some (.int aa)) (hkd : ∀ la h, GL la h → ∀ k, k < w → Pu S 0 94 [.ref st, .int (Int32.ofNat k)] h (.retAddr (kd k))) (haa : ¬ aa < 0) (hce : ∀ la h, GL la h → ∀ k, k < w → Pu S 0 145 [.ref o1, .null, .int (Int32.ofNat k)] h (.int (x k))) {nc ns : Nat} {Q : XO → Prop} : ∀ (j k : Nat) (h : List XC) (la : List Int32), k + j = w → w ≤ la.length → la.length ≤ 1000 → GL la h → (∀ h', GL (rlF x j k la) h' → Q (.inl (none, h', nc, ns))) → At S 6 151 32 [(6, .int (Int32.ofNat k)), (0, .ref q), (1, .int (Int32.ofNat fro)), (2, .int (Int32.ofNat to)), (4, .ref o1), (5, .null)] [] h nc ns Q := by
  intro j
  induction j with
  | zero =>
    intro k h la hk hw hl hg hK
    obtain ⟨hq, hst, hli⟩ := hG la h hg
    refine At.go (q := xm151) rfl 2 (pc' := 35) (L' := [(6, .int (Int32.ofNat k)), (0, .ref q), (1, .int (Int32.ofNat fro)), (2, .int (Int32.ofNat to)), (4, .ref o1), (5, .null)]) (st' := [.ref q, .int (Int32.ofNat k)]) rfl ?_
    refine At.gf rfl (by decide) hq hf13 ?_
    refine At.ic2 (tgt := 166) rfl rfl (fun _ => ?_) (fun h => absurd (h.symm.trans (decide_eq_true ((iN_le (a := w) (b := k) (by omega) (by omega)).mpr (by omega)))) (by decide))
    exact At.rt rfl rfl (hK h hg)
  | succ j ih =>
    intro k h la hk hw hl hg hK
    obtain ⟨hq, hst, hli⟩ := hG la h hg
    refine At.go (q := xm151) rfl 2 (pc' := 35) (L' := [(6, .int (Int32.ofNat k)), (0, .ref q), (1, .int (Int32.ofNat fro)), (2, .int (Int32.ofNat to)), (4, .ref o1), (5, .null)]) (st' := [.ref q, .int (Int32.ofNat k)]) rfl ?_
    refine At.gf rfl (by decide) hq hf13 ?_
    refine At.ic2 (tgt := 166) rfl rfl (fun h => absurd (h.symm.trans (decide_eq_false (fun h => absurd ((iN_le (a := w) (b := k) (by omega) (by omega)).mp h) (by omega)))) (by decide)) (fun _ => ?_)
    refine At.go (q := xm151) rfl 2 (pc' := 44) (L' := [(6, .int (Int32.ofNat k)), (0, .ref q), (1, .int (Int32.ofNat fro)), (2, .int (Int32.ofNat to)), (4, .ref o1), (5, .null)]) (st' := [.ref q, .int (Int32.ofNat k)]) rfl ?_
    refine At.gf rfl (by decide) hq hf6 ?_
    refine At.ln rfl hli ?_
    rw [List.length_map]
    refine At.ic2 (tgt := 166) rfl rfl (fun h => absurd ((iN_le (a := la.length) (b := k) (by omega) (by omega)).mp (of_decide_eq_true h)) (by omega)) (fun _ => ?_)
    refine At.go (q := xm151) rfl 1 (pc' := 52) (L' := [(6, .int (Int32.ofNat k)), (0, .ref q), (1, .int (Int32.ofNat fro)), (2, .int (Int32.ofNat to)), (4, .ref o1), (5, .null)]) (st' := [.ref q]) rfl ?_
    refine At.gf rfl (by decide) hq hf0 ?_
    refine At.go (q := xm151) rfl 1 (pc' := 57) (L' := [(6, .int (Int32.ofNat k)), (0, .ref q), (1, .int (Int32.ofNat fro)), (2, .int (Int32.ofNat to)), (4, .ref o1), (5, .null)]) (st' := [.int (Int32.ofNat k), .ref st]) rfl ?_
    refine At.clp (as := [.ref st, .int (Int32.ofNat k)]) (rest := []) rfl (by decide) rfl (Nat.le_of_ble_eq_true rfl) (Nat.le_of_ble_eq_true rfl) (xrck_o (by decide) (by decide) hst (by decide)) (Nat.le_of_ble_eq_true rfl) (hkd la h hg k (by omega)) ?_
    refine At.go (q := xm151) rfl 2 (pc' := 63) (L' := [(7, .retAddr (kd k)), (6, .int (Int32.ofNat k)), (0, .ref q), (1, .int (Int32.ofNat fro)), (2, .int (Int32.ofNat to)), (4, .ref o1), (5, .null)]) (st' := [.ref q]) rfl ?_
    refine At.gf rfl (by decide) hq hf0 ?_
    refine At.gf rfl (by decide) hst hs4 ?_
    refine At.ic1 (tgt := 91) rfl rfl (fun h => absurd (h.symm.trans (decide_eq_false haa)) (by decide)) (fun _ => ?_)
    refine At.go (q := xm151) rfl 1 (pc' := 73) (L' := [(7, .retAddr (kd k)), (6, .int (Int32.ofNat k)), (0, .ref q), (1, .int (Int32.ofNat fro)), (2, .int (Int32.ofNat to)), (4, .ref o1), (5, .null)]) (st' := [.ref q]) rfl ?_
    refine At.gf rfl (by decide) hq hf6 ?_
    refine At.go (q := xm151) rfl 4 (pc' := 84) (L' := [(7, .retAddr (kd k)), (6, .int (Int32.ofNat k)), (0, .ref q), (1, .int (Int32.ofNat fro)), (2, .int (Int32.ofNat to)), (4, .ref o1), (5, .null)]) (st' := [.int (Int32.ofNat k), .null, .ref o1, .int (Int32.ofNat k), .ref li]) rfl ?_
    refine At.clp (as := [.ref o1, .null, .int (Int32.ofNat k)]) (rest := [.int (Int32.ofNat k), .ref li]) rfl (by decide) rfl (Nat.le_of_ble_eq_true rfl) (Nat.le_of_ble_eq_true rfl) rfl (Nat.le_of_ble_eq_true rfl) (hce la h hg k (by omega)) ?_
    refine At.as (j := Int32.ofNat k) rfl hli (by decide) rfl (iN_nn (by omega)) (by rw [iN_tn (by omega), List.length_map]; omega) ?_
    rw [iN_tn (by omega)]
    obtain ⟨h8, eh8⟩ : ∃ h9, h9 = h.set li (.inl (19, (la.map Value.int).set k (.int (x k)))) := ⟨_, rfl⟩
    refine At.hpe eh8 ?_
    have hg8 : GL (la.set k (x k)) h8 := by rw [eh8, show (la.map Value.int).set k (.int (x k)) = (la.set k (x k)).map Value.int from List.map_set.symm]; exact hset la h k hg (by omega)
    refine At.go (q := xm151) rfl 1 (pc' := 160) (L' := [(7, .retAddr (kd k)), (6, .int (Int32.ofNat k)), (0, .ref q), (1, .int (Int32.ofNat fro)), (2, .int (Int32.ofNat to)), (4, .ref o1), (5, .null)]) (st' := []) rfl ?_
    refine At.go (q := xm151) rfl 1 (pc' := 163) (L' := [(6, .int ((Int32.ofNat k) + 1)), (7, .retAddr (kd k)), (0, .ref q), (1, .int (Int32.ofNat fro)), (2, .int (Int32.ofNat to)), (4, .ref o1), (5, .null)]) (st' := []) rfl ?_
    refine At.go (q := xm151) rfl 1 (pc' := 32) (L' := [(6, .int ((Int32.ofNat k) + 1)), (7, .retAddr (kd k)), (0, .ref q), (1, .int (Int32.ofNat fro)), (2, .int (Int32.ofNat to)), (4, .ref o1), (5, .null)]) (st' := []) rfl ?_
    rw [iN_s]
    refine At.wk (L' := [(6, .int (Int32.ofNat (k + 1))), (0, .ref q), (1, .int (Int32.ofNat fro)), (2, .int (Int32.ofNat to)), (4, .ref o1), (5, .null)]) (List.forall_mem_cons.mpr ⟨List.mem_of_getElem? (i := 0) rfl, (List.forall_mem_cons.mpr ⟨List.mem_of_getElem? (i := 2) rfl, (List.forall_mem_cons.mpr ⟨List.mem_of_getElem? (i := 3) rfl, (List.forall_mem_cons.mpr ⟨List.mem_of_getElem? (i := 4) rfl, (List.forall_mem_cons.mpr ⟨List.mem_of_getElem? (i := 5) rfl, (List.forall_mem_cons.mpr ⟨List.mem_of_getElem? (i := 6) rfl, (fun _ h => (List.not_mem_nil h).elim)⟩)⟩)⟩)⟩)⟩)⟩) (show ([6, 7, 0, 1, 2, 4, 5] : List Nat).Nodup by decide) ?_
    exact ih (k + 1) h8 (la.set k (x k)) (by omega) (by rw [List.length_set]; exact hw) (by rw [List.length_set]; exact hl) hg8 (fun h' hg' => hK h' hg')
theorem m_reckon0A {hp : List XC} {S : List Int32} {GL : List Int32 → List XC → Prop} {q st li w fro to : Nat} {o1 : Nat} {fs sf : List Value} {aa : Int32} {kd : Nat → Nat} {x : Nat → Int32} (hG : ∀ la h, GL la h → h[q]? = some (.inr (7, fs)) ∧ h[st]? = some (.inr (12, sf)) ∧ h[li]? = some (.inl (19, la.map Value.int))) (hset : ∀ la h k, GL la h → k < w → GL (la.set k (x k)) (h.set li (.inl (19, (la.set k (x k)).map Value.int)))) (hf0 : fs[0]? = some (.ref st)) (hf6 : fs[6]? = some (.ref li)) (hf13 : fs[13]? = some (.int (Int32.ofNat w))) (hs4 : sf[4]? = some (.int aa)) (hkd : ∀ la h, GL la h → ∀ k, k < w → Pu S 0 94 [.ref st, .int (Int32.ofNat k)] h (.retAddr (kd k))) (haa : ¬ aa < 0) (hce : ∀ la h, GL la h → ∀ k, k < w → Pu S 0 145 [.ref o1, .null, .int (Int32.ofNat k)] h (.int (x k))) {la : List Int32} (hg0 : GL la hp) (hw : w ≤ la.length) (hl : la.length ≤ 1000) (hb1 : fro < 2 ^ 31) (hb2 : to < 2 ^ 31) {p0 : Int32} (hft : fro < to) (hpk : Pu S 0 152 [.ref q, .int (Int32.ofNat fro)] hp (.int p0)) (hfo : Pu S 3 153 [.ref q, .int p0] hp (.ref o1)) (hso : Pu S 3 154 [.ref q, .int p0] hp (.null)) : Me S 6 151 [.ref q, .int (Int32.ofNat fro), .int (Int32.ofNat to)] hp (fun v hp' c s => v = none ∧ GL (rlF x w 0 la) hp' ∧ c = 0 ∧ s = 0) := by
  obtain ⟨hq, hst, hli⟩ := hG la hp hg0
  refine At.go (q := xm151) rfl 2 (pc' := 2) (L' := [(0, .ref q), (1, .int (Int32.ofNat fro)), (2, .int (Int32.ofNat to))]) (st' := [.int (Int32.ofNat to), .int (Int32.ofNat fro)]) rfl ?_
  refine At.ic2 (tgt := 13) rfl rfl (fun h => absurd (h.symm.trans (decide_eq_false (fun h => absurd ((iN_le (a := to) (b := fro) (by omega) (by omega)).mp h) (by omega)))) (by decide)) (fun _ => ?_)
  refine At.go (q := xm151) rfl 2 (pc' := 7) (L' := [(0, .ref q), (1, .int (Int32.ofNat fro)), (2, .int (Int32.ofNat to))]) (st' := [.int (Int32.ofNat fro), .ref q]) rfl ?_
  refine At.clp (as := [.ref q, .int (Int32.ofNat fro)]) (rest := []) rfl (by decide) rfl (Nat.le_of_ble_eq_true rfl) (Nat.le_of_ble_eq_true rfl) (xrck_o (by decide) (by decide) hq (by decide)) (Nat.le_of_ble_eq_true rfl) (hpk) ?_
  refine At.go (q := xm151) rfl 4 (pc' := 17) (L' := [(3, .int p0), (0, .ref q), (1, .int (Int32.ofNat fro)), (2, .int (Int32.ofNat to))]) (st' := [.int p0, .ref q]) rfl ?_
  refine At.clp (as := [.ref q, .int p0]) (rest := []) rfl (by decide) rfl (Nat.le_of_ble_eq_true rfl) (Nat.le_of_ble_eq_true rfl) (xrck_o (by decide) (by decide) hq (by decide)) (Nat.le_of_ble_eq_true rfl) (hfo) ?_
  refine At.go (q := xm151) rfl 3 (pc' := 24) (L' := [(4, .ref o1), (3, .int p0), (0, .ref q), (1, .int (Int32.ofNat fro)), (2, .int (Int32.ofNat to))]) (st' := [.int p0, .ref q]) rfl ?_
  refine At.clp (as := [.ref q, .int p0]) (rest := []) rfl (by decide) rfl (Nat.le_of_ble_eq_true rfl) (Nat.le_of_ble_eq_true rfl) (xrck_o (by decide) (by decide) hq (by decide)) (Nat.le_of_ble_eq_true rfl) (hso) ?_
  refine At.go (q := xm151) rfl 3 (pc' := 32) (L' := [(6, .int 0), (5, .null), (4, .ref o1), (3, .int p0), (0, .ref q), (1, .int (Int32.ofNat fro)), (2, .int (Int32.ofNat to))]) (st' := []) rfl ?_
  refine At.wk (L' := [(6, .int (Int32.ofNat 0)), (0, .ref q), (1, .int (Int32.ofNat fro)), (2, .int (Int32.ofNat to)), (4, .ref o1), (5, .null)]) (List.forall_mem_cons.mpr ⟨List.mem_of_getElem? (i := 0) rfl, (List.forall_mem_cons.mpr ⟨List.mem_of_getElem? (i := 4) rfl, (List.forall_mem_cons.mpr ⟨List.mem_of_getElem? (i := 5) rfl, (List.forall_mem_cons.mpr ⟨List.mem_of_getElem? (i := 6) rfl, (List.forall_mem_cons.mpr ⟨List.mem_of_getElem? (i := 2) rfl, (List.forall_mem_cons.mpr ⟨List.mem_of_getElem? (i := 1) rfl, (fun _ h => (List.not_mem_nil h).elim)⟩)⟩)⟩)⟩)⟩)⟩) (show ([6, 5, 4, 3, 0, 1, 2] : List Nat).Nodup by decide) ?_
  refine rl_loop0A hG hset hf0 hf6 hf13 hs4 hkd haa hce w 0 hp la (by omega) hw hl hg0 (fun h9 hg9 => ⟨_, _, _, _, rfl, rfl, hg9, rfl, rfl⟩)
theorem rl_loop0B {S : List Int32} {GL : List Int32 → List XC → Prop} {q st li w fro to : Nat} {o1 : Nat} {fs sf : List Value} {aa : Int32} {kd : Nat → Nat} {x : Nat → Int32} (hG : ∀ la h, GL la h → h[q]? = some (.inr (7, fs)) ∧ h[st]? = some (.inr (12, sf)) ∧ h[li]? = some (.inl (19, la.map Value.int))) (hset : ∀ la h k, GL la h → k < w → GL (la.set k (x k)) (h.set li (.inl (19, (la.set k (x k)).map Value.int)))) (hf0 : fs[0]? = some (.ref st)) (hf6 : fs[6]? = some (.ref li)) (hf13 : fs[13]? = some (.int (Int32.ofNat w))) (hs4 : sf[4]? = some (.int aa)) (hkd : ∀ la h, GL la h → ∀ k, k < w → Pu S 0 94 [.ref st, .int (Int32.ofNat k)] h (.retAddr (kd k))) (haa : aa < 0) (hx : ∀ k, k < w → ∃ b30 b3 : Bool, xeq xKC (.retAddr (kd k)) (.retAddr 30) = some b30 ∧ xeq xKC (.retAddr (kd k)) (.retAddr 3) = some b3 ∧ (b30 = true → Int32.ofNat to - Int32.ofNat fro = x k) ∧ (b30 = false → b3 = true → ∀ la h, GL la h → Me S 5 155 [.ref st, .int (Int32.ofNat k), .ref o1, .null] h (fun v h' c s => v = some (.int (x k)) ∧ GL la h' ∧ c = 0 ∧ s = 0)) ∧ (b30 = false → b3 = false → ∀ la h, GL la h → Me S 5 156 [.ref q, .retAddr (kd k), .int (Int32.ofNat k), .int (Int32.ofNat fro), .int (Int32.ofNat to)] h (fun v h' c s => v = some (.int (x k)) ∧ GL la h' ∧ c = 0 ∧ s = 0))) {nc ns : Nat} {Q : XO → Prop} : ∀ (j k : Nat) (h : List XC) (la : List Int32), k + j = w → w ≤ la.length → la.length ≤ 1000 → GL la h → (∀ h', GL (rlF x j k la) h' → Q (.inl (none, h', nc, ns))) → At S 6 151 32 [(6, .int (Int32.ofNat k)), (0, .ref q), (1, .int (Int32.ofNat fro)), (2, .int (Int32.ofNat to)), (4, .ref o1), (5, .null)] [] h nc ns Q := by
  intro j
  induction j with
  | zero =>
    intro k h la hk hw hl hg hK
    obtain ⟨hq, hst, hli⟩ := hG la h hg
    refine At.go (q := xm151) rfl 2 (pc' := 35) (L' := [(6, .int (Int32.ofNat k)), (0, .ref q), (1, .int (Int32.ofNat fro)), (2, .int (Int32.ofNat to)), (4, .ref o1), (5, .null)]) (st' := [.ref q, .int (Int32.ofNat k)]) rfl ?_
    refine At.gf rfl (by decide) hq hf13 ?_
    refine At.ic2 (tgt := 166) rfl rfl (fun _ => ?_) (fun h => absurd (h.symm.trans (decide_eq_true ((iN_le (a := w) (b := k) (by omega) (by omega)).mpr (by omega)))) (by decide))
    exact At.rt rfl rfl (hK h hg)
  | succ j ih =>
    intro k h la hk hw hl hg hK
    obtain ⟨hq, hst, hli⟩ := hG la h hg
    obtain ⟨b30, b3, e30, e3, x30, x3, xf⟩ := hx k (by omega)
    refine At.go (q := xm151) rfl 2 (pc' := 35) (L' := [(6, .int (Int32.ofNat k)), (0, .ref q), (1, .int (Int32.ofNat fro)), (2, .int (Int32.ofNat to)), (4, .ref o1), (5, .null)]) (st' := [.ref q, .int (Int32.ofNat k)]) rfl ?_
    refine At.gf rfl (by decide) hq hf13 ?_
    refine At.ic2 (tgt := 166) rfl rfl (fun h => absurd (h.symm.trans (decide_eq_false (fun h => absurd ((iN_le (a := w) (b := k) (by omega) (by omega)).mp h) (by omega)))) (by decide)) (fun _ => ?_)
    refine At.go (q := xm151) rfl 2 (pc' := 44) (L' := [(6, .int (Int32.ofNat k)), (0, .ref q), (1, .int (Int32.ofNat fro)), (2, .int (Int32.ofNat to)), (4, .ref o1), (5, .null)]) (st' := [.ref q, .int (Int32.ofNat k)]) rfl ?_
    refine At.gf rfl (by decide) hq hf6 ?_
    refine At.ln rfl hli ?_
    rw [List.length_map]
    refine At.ic2 (tgt := 166) rfl rfl (fun h => absurd ((iN_le (a := la.length) (b := k) (by omega) (by omega)).mp (of_decide_eq_true h)) (by omega)) (fun _ => ?_)
    refine At.go (q := xm151) rfl 1 (pc' := 52) (L' := [(6, .int (Int32.ofNat k)), (0, .ref q), (1, .int (Int32.ofNat fro)), (2, .int (Int32.ofNat to)), (4, .ref o1), (5, .null)]) (st' := [.ref q]) rfl ?_
    refine At.gf rfl (by decide) hq hf0 ?_
    refine At.go (q := xm151) rfl 1 (pc' := 57) (L' := [(6, .int (Int32.ofNat k)), (0, .ref q), (1, .int (Int32.ofNat fro)), (2, .int (Int32.ofNat to)), (4, .ref o1), (5, .null)]) (st' := [.int (Int32.ofNat k), .ref st]) rfl ?_
    refine At.clp (as := [.ref st, .int (Int32.ofNat k)]) (rest := []) rfl (by decide) rfl (Nat.le_of_ble_eq_true rfl) (Nat.le_of_ble_eq_true rfl) (xrck_o (by decide) (by decide) hst (by decide)) (Nat.le_of_ble_eq_true rfl) (hkd la h hg k (by omega)) ?_
    refine At.go (q := xm151) rfl 2 (pc' := 63) (L' := [(7, .retAddr (kd k)), (6, .int (Int32.ofNat k)), (0, .ref q), (1, .int (Int32.ofNat fro)), (2, .int (Int32.ofNat to)), (4, .ref o1), (5, .null)]) (st' := [.ref q]) rfl ?_
    refine At.gf rfl (by decide) hq hf0 ?_
    refine At.gf rfl (by decide) hst hs4 ?_
    refine At.ic1 (tgt := 91) rfl rfl (fun _ => ?_) (fun h => absurd (h.symm.trans (decide_eq_true haa)) (by decide))
    refine At.go (q := xm151) rfl 2 (pc' := 96) (L' := [(7, .retAddr (kd k)), (6, .int (Int32.ofNat k)), (0, .ref q), (1, .int (Int32.ofNat fro)), (2, .int (Int32.ofNat to)), (4, .ref o1), (5, .null)]) (st' := [.retAddr 30, .retAddr (kd k)]) rfl ?_
    refine At.acn (tgt := 112) (b := b30) rfl rfl e30 (fun h96 => ?_) (fun h96 => ?_)
    · refine At.go (q := xm151) rfl 2 (pc' := 117) (L' := [(7, .retAddr (kd k)), (6, .int (Int32.ofNat k)), (0, .ref q), (1, .int (Int32.ofNat fro)), (2, .int (Int32.ofNat to)), (4, .ref o1), (5, .null)]) (st' := [.retAddr 3, .retAddr (kd k)]) rfl ?_
      refine At.acn (tgt := 143) (b := b3) rfl rfl e3 (fun h117 => ?_) (fun h117 => ?_)
      · refine At.go (q := xm151) rfl 1 (pc' := 144) (L' := [(7, .retAddr (kd k)), (6, .int (Int32.ofNat k)), (0, .ref q), (1, .int (Int32.ofNat fro)), (2, .int (Int32.ofNat to)), (4, .ref o1), (5, .null)]) (st' := [.ref q]) rfl ?_
        refine At.gf rfl (by decide) hq hf6 ?_
        refine At.go (q := xm151) rfl 6 (pc' := 156) (L' := [(7, .retAddr (kd k)), (6, .int (Int32.ofNat k)), (0, .ref q), (1, .int (Int32.ofNat fro)), (2, .int (Int32.ofNat to)), (4, .ref o1), (5, .null)]) (st' := [.int (Int32.ofNat to), .int (Int32.ofNat fro), .int (Int32.ofNat k), .retAddr (kd k), .ref q, .int (Int32.ofNat k), .ref li]) rfl ?_
        refine At.clm (as := [.ref q, .retAddr (kd k), .int (Int32.ofNat k), .int (Int32.ofNat fro), .int (Int32.ofNat to)]) (rest := [.int (Int32.ofNat k), .ref li]) rfl (by decide) rfl (Nat.le_of_ble_eq_true rfl) (Nat.le_of_ble_eq_true rfl) (xrck_o (by decide) (by decide) hq (by decide)) (Nat.le_of_ble_eq_true rfl) (xf h96 h117 la h hg) (fun v9 h2 c2 s2 hv9 => ?_)
        obtain ⟨rfl, hg2, rfl, rfl⟩ := hv9
        obtain ⟨hq2, hst2, hli2⟩ := hG la h2 hg2
        refine At.as (j := Int32.ofNat k) rfl hli2 (by decide) rfl (iN_nn (by omega)) (by rw [iN_tn (by omega), List.length_map]; omega) ?_
        rw [iN_tn (by omega)]
        obtain ⟨h8, eh8⟩ : ∃ h9, h9 = h2.set li (.inl (19, (la.map Value.int).set k (.int (x k)))) := ⟨_, rfl⟩
        refine At.hpe eh8 ?_
        have hg8 : GL (la.set k (x k)) h8 := by rw [eh8, show (la.map Value.int).set k (.int (x k)) = (la.set k (x k)).map Value.int from List.map_set.symm]; exact hset la h2 k hg2 (by omega)
        refine At.go (q := xm151) rfl 1 (pc' := 163) (L' := [(6, .int ((Int32.ofNat k) + 1)), (7, .retAddr (kd k)), (0, .ref q), (1, .int (Int32.ofNat fro)), (2, .int (Int32.ofNat to)), (4, .ref o1), (5, .null)]) (st' := []) rfl ?_
        refine At.go (q := xm151) rfl 1 (pc' := 32) (L' := [(6, .int ((Int32.ofNat k) + 1)), (7, .retAddr (kd k)), (0, .ref q), (1, .int (Int32.ofNat fro)), (2, .int (Int32.ofNat to)), (4, .ref o1), (5, .null)]) (st' := []) rfl ?_
        rw [iN_s]
        refine At.wk (L' := [(6, .int (Int32.ofNat (k + 1))), (0, .ref q), (1, .int (Int32.ofNat fro)), (2, .int (Int32.ofNat to)), (4, .ref o1), (5, .null)]) (List.forall_mem_cons.mpr ⟨List.mem_of_getElem? (i := 0) rfl, (List.forall_mem_cons.mpr ⟨List.mem_of_getElem? (i := 2) rfl, (List.forall_mem_cons.mpr ⟨List.mem_of_getElem? (i := 3) rfl, (List.forall_mem_cons.mpr ⟨List.mem_of_getElem? (i := 4) rfl, (List.forall_mem_cons.mpr ⟨List.mem_of_getElem? (i := 5) rfl, (List.forall_mem_cons.mpr ⟨List.mem_of_getElem? (i := 6) rfl, (fun _ h => (List.not_mem_nil h).elim)⟩)⟩)⟩)⟩)⟩)⟩) (show ([6, 7, 0, 1, 2, 4, 5] : List Nat).Nodup by decide) ?_
        exact ih (k + 1) h8 (la.set k (x k)) (by omega) (by rw [List.length_set]; exact hw) (by rw [List.length_set]; exact hl) hg8 (fun h' hg' => hK h' hg')
      · refine At.go (q := xm151) rfl 1 (pc' := 121) (L' := [(7, .retAddr (kd k)), (6, .int (Int32.ofNat k)), (0, .ref q), (1, .int (Int32.ofNat fro)), (2, .int (Int32.ofNat to)), (4, .ref o1), (5, .null)]) (st' := [.ref q]) rfl ?_
        refine At.gf rfl (by decide) hq hf6 ?_
        refine At.go (q := xm151) rfl 2 (pc' := 127) (L' := [(7, .retAddr (kd k)), (6, .int (Int32.ofNat k)), (0, .ref q), (1, .int (Int32.ofNat fro)), (2, .int (Int32.ofNat to)), (4, .ref o1), (5, .null)]) (st' := [.ref q, .int (Int32.ofNat k), .ref li]) rfl ?_
        refine At.gf rfl (by decide) hq hf0 ?_
        refine At.go (q := xm151) rfl 3 (pc' := 136) (L' := [(7, .retAddr (kd k)), (6, .int (Int32.ofNat k)), (0, .ref q), (1, .int (Int32.ofNat fro)), (2, .int (Int32.ofNat to)), (4, .ref o1), (5, .null)]) (st' := [.null, .ref o1, .int (Int32.ofNat k), .ref st, .int (Int32.ofNat k), .ref li]) rfl ?_
        refine At.clm (as := [.ref st, .int (Int32.ofNat k), .ref o1, .null]) (rest := [.int (Int32.ofNat k), .ref li]) rfl (by decide) rfl (Nat.le_of_ble_eq_true rfl) (Nat.le_of_ble_eq_true rfl) (xrck_o (by decide) (by decide) hst (by decide)) (Nat.le_of_ble_eq_true rfl) (x3 h96 h117 la h hg) (fun v9 h2 c2 s2 hv9 => ?_)
        obtain ⟨rfl, hg2, rfl, rfl⟩ := hv9
        obtain ⟨hq2, hst2, hli2⟩ := hG la h2 hg2
        refine At.as (j := Int32.ofNat k) rfl hli2 (by decide) rfl (iN_nn (by omega)) (by rw [iN_tn (by omega), List.length_map]; omega) ?_
        rw [iN_tn (by omega)]
        obtain ⟨h8, eh8⟩ : ∃ h9, h9 = h2.set li (.inl (19, (la.map Value.int).set k (.int (x k)))) := ⟨_, rfl⟩
        refine At.hpe eh8 ?_
        have hg8 : GL (la.set k (x k)) h8 := by rw [eh8, show (la.map Value.int).set k (.int (x k)) = (la.set k (x k)).map Value.int from List.map_set.symm]; exact hset la h2 k hg2 (by omega)
        refine At.go (q := xm151) rfl 1 (pc' := 160) (L' := [(7, .retAddr (kd k)), (6, .int (Int32.ofNat k)), (0, .ref q), (1, .int (Int32.ofNat fro)), (2, .int (Int32.ofNat to)), (4, .ref o1), (5, .null)]) (st' := []) rfl ?_
        refine At.go (q := xm151) rfl 1 (pc' := 163) (L' := [(6, .int ((Int32.ofNat k) + 1)), (7, .retAddr (kd k)), (0, .ref q), (1, .int (Int32.ofNat fro)), (2, .int (Int32.ofNat to)), (4, .ref o1), (5, .null)]) (st' := []) rfl ?_
        refine At.go (q := xm151) rfl 1 (pc' := 32) (L' := [(6, .int ((Int32.ofNat k) + 1)), (7, .retAddr (kd k)), (0, .ref q), (1, .int (Int32.ofNat fro)), (2, .int (Int32.ofNat to)), (4, .ref o1), (5, .null)]) (st' := []) rfl ?_
        rw [iN_s]
        refine At.wk (L' := [(6, .int (Int32.ofNat (k + 1))), (0, .ref q), (1, .int (Int32.ofNat fro)), (2, .int (Int32.ofNat to)), (4, .ref o1), (5, .null)]) (List.forall_mem_cons.mpr ⟨List.mem_of_getElem? (i := 0) rfl, (List.forall_mem_cons.mpr ⟨List.mem_of_getElem? (i := 2) rfl, (List.forall_mem_cons.mpr ⟨List.mem_of_getElem? (i := 3) rfl, (List.forall_mem_cons.mpr ⟨List.mem_of_getElem? (i := 4) rfl, (List.forall_mem_cons.mpr ⟨List.mem_of_getElem? (i := 5) rfl, (List.forall_mem_cons.mpr ⟨List.mem_of_getElem? (i := 6) rfl, (fun _ h => (List.not_mem_nil h).elim)⟩)⟩)⟩)⟩)⟩)⟩) (show ([6, 7, 0, 1, 2, 4, 5] : List Nat).Nodup by decide) ?_
        exact ih (k + 1) h8 (la.set k (x k)) (by omega) (by rw [List.length_set]; exact hw) (by rw [List.length_set]; exact hl) hg8 (fun h' hg' => hK h' hg')
    · refine At.go (q := xm151) rfl 1 (pc' := 100) (L' := [(7, .retAddr (kd k)), (6, .int (Int32.ofNat k)), (0, .ref q), (1, .int (Int32.ofNat fro)), (2, .int (Int32.ofNat to)), (4, .ref o1), (5, .null)]) (st' := [.ref q]) rfl ?_
      refine At.gf rfl (by decide) hq hf6 ?_
      refine At.go (q := xm151) rfl 4 (pc' := 108) (L' := [(7, .retAddr (kd k)), (6, .int (Int32.ofNat k)), (0, .ref q), (1, .int (Int32.ofNat fro)), (2, .int (Int32.ofNat to)), (4, .ref o1), (5, .null)]) (st' := [.int ((Int32.ofNat to) - (Int32.ofNat fro)), .int (Int32.ofNat k), .ref li]) rfl ?_
      rw [x30 h96]
      refine At.as (j := Int32.ofNat k) rfl hli (by decide) rfl (iN_nn (by omega)) (by rw [iN_tn (by omega), List.length_map]; omega) ?_
      rw [iN_tn (by omega)]
      obtain ⟨h8, eh8⟩ : ∃ h9, h9 = h.set li (.inl (19, (la.map Value.int).set k (.int (x k)))) := ⟨_, rfl⟩
      refine At.hpe eh8 ?_
      have hg8 : GL (la.set k (x k)) h8 := by rw [eh8, show (la.map Value.int).set k (.int (x k)) = (la.set k (x k)).map Value.int from List.map_set.symm]; exact hset la h k hg (by omega)
      refine At.go (q := xm151) rfl 1 (pc' := 160) (L' := [(7, .retAddr (kd k)), (6, .int (Int32.ofNat k)), (0, .ref q), (1, .int (Int32.ofNat fro)), (2, .int (Int32.ofNat to)), (4, .ref o1), (5, .null)]) (st' := []) rfl ?_
      refine At.go (q := xm151) rfl 1 (pc' := 163) (L' := [(6, .int ((Int32.ofNat k) + 1)), (7, .retAddr (kd k)), (0, .ref q), (1, .int (Int32.ofNat fro)), (2, .int (Int32.ofNat to)), (4, .ref o1), (5, .null)]) (st' := []) rfl ?_
      refine At.go (q := xm151) rfl 1 (pc' := 32) (L' := [(6, .int ((Int32.ofNat k) + 1)), (7, .retAddr (kd k)), (0, .ref q), (1, .int (Int32.ofNat fro)), (2, .int (Int32.ofNat to)), (4, .ref o1), (5, .null)]) (st' := []) rfl ?_
      rw [iN_s]
      refine At.wk (L' := [(6, .int (Int32.ofNat (k + 1))), (0, .ref q), (1, .int (Int32.ofNat fro)), (2, .int (Int32.ofNat to)), (4, .ref o1), (5, .null)]) (List.forall_mem_cons.mpr ⟨List.mem_of_getElem? (i := 0) rfl, (List.forall_mem_cons.mpr ⟨List.mem_of_getElem? (i := 2) rfl, (List.forall_mem_cons.mpr ⟨List.mem_of_getElem? (i := 3) rfl, (List.forall_mem_cons.mpr ⟨List.mem_of_getElem? (i := 4) rfl, (List.forall_mem_cons.mpr ⟨List.mem_of_getElem? (i := 5) rfl, (List.forall_mem_cons.mpr ⟨List.mem_of_getElem? (i := 6) rfl, (fun _ h => (List.not_mem_nil h).elim)⟩)⟩)⟩)⟩)⟩)⟩) (show ([6, 7, 0, 1, 2, 4, 5] : List Nat).Nodup by decide) ?_
      exact ih (k + 1) h8 (la.set k (x k)) (by omega) (by rw [List.length_set]; exact hw) (by rw [List.length_set]; exact hl) hg8 (fun h' hg' => hK h' hg')
theorem m_reckon0B {hp : List XC} {S : List Int32} {GL : List Int32 → List XC → Prop} {q st li w fro to : Nat} {o1 : Nat} {fs sf : List Value} {aa : Int32} {kd : Nat → Nat} {x : Nat → Int32} (hG : ∀ la h, GL la h → h[q]? = some (.inr (7, fs)) ∧ h[st]? = some (.inr (12, sf)) ∧ h[li]? = some (.inl (19, la.map Value.int))) (hset : ∀ la h k, GL la h → k < w → GL (la.set k (x k)) (h.set li (.inl (19, (la.set k (x k)).map Value.int)))) (hf0 : fs[0]? = some (.ref st)) (hf6 : fs[6]? = some (.ref li)) (hf13 : fs[13]? = some (.int (Int32.ofNat w))) (hs4 : sf[4]? = some (.int aa)) (hkd : ∀ la h, GL la h → ∀ k, k < w → Pu S 0 94 [.ref st, .int (Int32.ofNat k)] h (.retAddr (kd k))) (haa : aa < 0) (hx : ∀ k, k < w → ∃ b30 b3 : Bool, xeq xKC (.retAddr (kd k)) (.retAddr 30) = some b30 ∧ xeq xKC (.retAddr (kd k)) (.retAddr 3) = some b3 ∧ (b30 = true → Int32.ofNat to - Int32.ofNat fro = x k) ∧ (b30 = false → b3 = true → ∀ la h, GL la h → Me S 5 155 [.ref st, .int (Int32.ofNat k), .ref o1, .null] h (fun v h' c s => v = some (.int (x k)) ∧ GL la h' ∧ c = 0 ∧ s = 0)) ∧ (b30 = false → b3 = false → ∀ la h, GL la h → Me S 5 156 [.ref q, .retAddr (kd k), .int (Int32.ofNat k), .int (Int32.ofNat fro), .int (Int32.ofNat to)] h (fun v h' c s => v = some (.int (x k)) ∧ GL la h' ∧ c = 0 ∧ s = 0))) {la : List Int32} (hg0 : GL la hp) (hw : w ≤ la.length) (hl : la.length ≤ 1000) (hb1 : fro < 2 ^ 31) (hb2 : to < 2 ^ 31) {p0 : Int32} (hft : fro < to) (hpk : Pu S 0 152 [.ref q, .int (Int32.ofNat fro)] hp (.int p0)) (hfo : Pu S 3 153 [.ref q, .int p0] hp (.ref o1)) (hso : Pu S 3 154 [.ref q, .int p0] hp (.null)) : Me S 6 151 [.ref q, .int (Int32.ofNat fro), .int (Int32.ofNat to)] hp (fun v hp' c s => v = none ∧ GL (rlF x w 0 la) hp' ∧ c = 0 ∧ s = 0) := by
  obtain ⟨hq, hst, hli⟩ := hG la hp hg0
  refine At.go (q := xm151) rfl 2 (pc' := 2) (L' := [(0, .ref q), (1, .int (Int32.ofNat fro)), (2, .int (Int32.ofNat to))]) (st' := [.int (Int32.ofNat to), .int (Int32.ofNat fro)]) rfl ?_
  refine At.ic2 (tgt := 13) rfl rfl (fun h => absurd (h.symm.trans (decide_eq_false (fun h => absurd ((iN_le (a := to) (b := fro) (by omega) (by omega)).mp h) (by omega)))) (by decide)) (fun _ => ?_)
  refine At.go (q := xm151) rfl 2 (pc' := 7) (L' := [(0, .ref q), (1, .int (Int32.ofNat fro)), (2, .int (Int32.ofNat to))]) (st' := [.int (Int32.ofNat fro), .ref q]) rfl ?_
  refine At.clp (as := [.ref q, .int (Int32.ofNat fro)]) (rest := []) rfl (by decide) rfl (Nat.le_of_ble_eq_true rfl) (Nat.le_of_ble_eq_true rfl) (xrck_o (by decide) (by decide) hq (by decide)) (Nat.le_of_ble_eq_true rfl) (hpk) ?_
  refine At.go (q := xm151) rfl 4 (pc' := 17) (L' := [(3, .int p0), (0, .ref q), (1, .int (Int32.ofNat fro)), (2, .int (Int32.ofNat to))]) (st' := [.int p0, .ref q]) rfl ?_
  refine At.clp (as := [.ref q, .int p0]) (rest := []) rfl (by decide) rfl (Nat.le_of_ble_eq_true rfl) (Nat.le_of_ble_eq_true rfl) (xrck_o (by decide) (by decide) hq (by decide)) (Nat.le_of_ble_eq_true rfl) (hfo) ?_
  refine At.go (q := xm151) rfl 3 (pc' := 24) (L' := [(4, .ref o1), (3, .int p0), (0, .ref q), (1, .int (Int32.ofNat fro)), (2, .int (Int32.ofNat to))]) (st' := [.int p0, .ref q]) rfl ?_
  refine At.clp (as := [.ref q, .int p0]) (rest := []) rfl (by decide) rfl (Nat.le_of_ble_eq_true rfl) (Nat.le_of_ble_eq_true rfl) (xrck_o (by decide) (by decide) hq (by decide)) (Nat.le_of_ble_eq_true rfl) (hso) ?_
  refine At.go (q := xm151) rfl 3 (pc' := 32) (L' := [(6, .int 0), (5, .null), (4, .ref o1), (3, .int p0), (0, .ref q), (1, .int (Int32.ofNat fro)), (2, .int (Int32.ofNat to))]) (st' := []) rfl ?_
  refine At.wk (L' := [(6, .int (Int32.ofNat 0)), (0, .ref q), (1, .int (Int32.ofNat fro)), (2, .int (Int32.ofNat to)), (4, .ref o1), (5, .null)]) (List.forall_mem_cons.mpr ⟨List.mem_of_getElem? (i := 0) rfl, (List.forall_mem_cons.mpr ⟨List.mem_of_getElem? (i := 4) rfl, (List.forall_mem_cons.mpr ⟨List.mem_of_getElem? (i := 5) rfl, (List.forall_mem_cons.mpr ⟨List.mem_of_getElem? (i := 6) rfl, (List.forall_mem_cons.mpr ⟨List.mem_of_getElem? (i := 2) rfl, (List.forall_mem_cons.mpr ⟨List.mem_of_getElem? (i := 1) rfl, (fun _ h => (List.not_mem_nil h).elim)⟩)⟩)⟩)⟩)⟩)⟩) (show ([6, 5, 4, 3, 0, 1, 2] : List Nat).Nodup by decide) ?_
  refine rl_loop0B hG hset hf0 hf6 hf13 hs4 hkd haa hx w 0 hp la (by omega) hw hl hg0 (fun h9 hg9 => ⟨_, _, _, _, rfl, rfl, hg9, rfl, rfl⟩)
theorem rl_loopJA {S : List Int32} {GL : List Int32 → List XC → Prop} {q st li w fro to : Nat} {o1 o2 : Nat} {fs sf : List Value} {aa : Int32} {kd : Nat → Nat} {x : Nat → Int32} (hG : ∀ la h, GL la h → h[q]? = some (.inr (7, fs)) ∧ h[st]? = some (.inr (12, sf)) ∧ h[li]? = some (.inl (19, la.map Value.int))) (hset : ∀ la h k, GL la h → k < w → GL (la.set k (x k)) (h.set li (.inl (19, (la.set k (x k)).map Value.int)))) (hf0 : fs[0]? = some (.ref st)) (hf6 : fs[6]? = some (.ref li)) (hf13 : fs[13]? = some (.int (Int32.ofNat w))) (hs4 : sf[4]? = some (.int aa)) (hkd : ∀ la h, GL la h → ∀ k, k < w → Pu S 0 94 [.ref st, .int (Int32.ofNat k)] h (.retAddr (kd k))) (haa : ¬ aa < 0) (hce : ∀ la h, GL la h → ∀ k, k < w → Pu S 0 145 [.ref o1, .ref o2, .int (Int32.ofNat k)] h (.int (x k))) {nc ns : Nat} {Q : XO → Prop} : ∀ (j k : Nat) (h : List XC) (la : List Int32), k + j = w → w ≤ la.length → la.length ≤ 1000 → GL la h → (∀ h', GL (rlF x j k la) h' → Q (.inl (none, h', nc, ns))) → At S 6 151 32 [(6, .int (Int32.ofNat k)), (0, .ref q), (1, .int (Int32.ofNat fro)), (2, .int (Int32.ofNat to)), (4, .ref o1), (5, .ref o2)] [] h nc ns Q := by
  intro j
  induction j with
  | zero =>
    intro k h la hk hw hl hg hK
    obtain ⟨hq, hst, hli⟩ := hG la h hg
    refine At.go (q := xm151) rfl 2 (pc' := 35) (L' := [(6, .int (Int32.ofNat k)), (0, .ref q), (1, .int (Int32.ofNat fro)), (2, .int (Int32.ofNat to)), (4, .ref o1), (5, .ref o2)]) (st' := [.ref q, .int (Int32.ofNat k)]) rfl ?_
    refine At.gf rfl (by decide) hq hf13 ?_
    refine At.ic2 (tgt := 166) rfl rfl (fun _ => ?_) (fun h => absurd (h.symm.trans (decide_eq_true ((iN_le (a := w) (b := k) (by omega) (by omega)).mpr (by omega)))) (by decide))
    exact At.rt rfl rfl (hK h hg)
  | succ j ih =>
    intro k h la hk hw hl hg hK
    obtain ⟨hq, hst, hli⟩ := hG la h hg
    refine At.go (q := xm151) rfl 2 (pc' := 35) (L' := [(6, .int (Int32.ofNat k)), (0, .ref q), (1, .int (Int32.ofNat fro)), (2, .int (Int32.ofNat to)), (4, .ref o1), (5, .ref o2)]) (st' := [.ref q, .int (Int32.ofNat k)]) rfl ?_
    refine At.gf rfl (by decide) hq hf13 ?_
    refine At.ic2 (tgt := 166) rfl rfl (fun h => absurd (h.symm.trans (decide_eq_false (fun h => absurd ((iN_le (a := w) (b := k) (by omega) (by omega)).mp h) (by omega)))) (by decide)) (fun _ => ?_)
    refine At.go (q := xm151) rfl 2 (pc' := 44) (L' := [(6, .int (Int32.ofNat k)), (0, .ref q), (1, .int (Int32.ofNat fro)), (2, .int (Int32.ofNat to)), (4, .ref o1), (5, .ref o2)]) (st' := [.ref q, .int (Int32.ofNat k)]) rfl ?_
    refine At.gf rfl (by decide) hq hf6 ?_
    refine At.ln rfl hli ?_
    rw [List.length_map]
    refine At.ic2 (tgt := 166) rfl rfl (fun h => absurd ((iN_le (a := la.length) (b := k) (by omega) (by omega)).mp (of_decide_eq_true h)) (by omega)) (fun _ => ?_)
    refine At.go (q := xm151) rfl 1 (pc' := 52) (L' := [(6, .int (Int32.ofNat k)), (0, .ref q), (1, .int (Int32.ofNat fro)), (2, .int (Int32.ofNat to)), (4, .ref o1), (5, .ref o2)]) (st' := [.ref q]) rfl ?_
    refine At.gf rfl (by decide) hq hf0 ?_
    refine At.go (q := xm151) rfl 1 (pc' := 57) (L' := [(6, .int (Int32.ofNat k)), (0, .ref q), (1, .int (Int32.ofNat fro)), (2, .int (Int32.ofNat to)), (4, .ref o1), (5, .ref o2)]) (st' := [.int (Int32.ofNat k), .ref st]) rfl ?_
    refine At.clp (as := [.ref st, .int (Int32.ofNat k)]) (rest := []) rfl (by decide) rfl (Nat.le_of_ble_eq_true rfl) (Nat.le_of_ble_eq_true rfl) (xrck_o (by decide) (by decide) hst (by decide)) (Nat.le_of_ble_eq_true rfl) (hkd la h hg k (by omega)) ?_
    refine At.go (q := xm151) rfl 2 (pc' := 63) (L' := [(7, .retAddr (kd k)), (6, .int (Int32.ofNat k)), (0, .ref q), (1, .int (Int32.ofNat fro)), (2, .int (Int32.ofNat to)), (4, .ref o1), (5, .ref o2)]) (st' := [.ref q]) rfl ?_
    refine At.gf rfl (by decide) hq hf0 ?_
    refine At.gf rfl (by decide) hst hs4 ?_
    refine At.ic1 (tgt := 91) rfl rfl (fun h => absurd (h.symm.trans (decide_eq_false haa)) (by decide)) (fun _ => ?_)
    refine At.go (q := xm151) rfl 1 (pc' := 73) (L' := [(7, .retAddr (kd k)), (6, .int (Int32.ofNat k)), (0, .ref q), (1, .int (Int32.ofNat fro)), (2, .int (Int32.ofNat to)), (4, .ref o1), (5, .ref o2)]) (st' := [.ref q]) rfl ?_
    refine At.gf rfl (by decide) hq hf6 ?_
    refine At.go (q := xm151) rfl 4 (pc' := 84) (L' := [(7, .retAddr (kd k)), (6, .int (Int32.ofNat k)), (0, .ref q), (1, .int (Int32.ofNat fro)), (2, .int (Int32.ofNat to)), (4, .ref o1), (5, .ref o2)]) (st' := [.int (Int32.ofNat k), .ref o2, .ref o1, .int (Int32.ofNat k), .ref li]) rfl ?_
    refine At.clp (as := [.ref o1, .ref o2, .int (Int32.ofNat k)]) (rest := [.int (Int32.ofNat k), .ref li]) rfl (by decide) rfl (Nat.le_of_ble_eq_true rfl) (Nat.le_of_ble_eq_true rfl) rfl (Nat.le_of_ble_eq_true rfl) (hce la h hg k (by omega)) ?_
    refine At.as (j := Int32.ofNat k) rfl hli (by decide) rfl (iN_nn (by omega)) (by rw [iN_tn (by omega), List.length_map]; omega) ?_
    rw [iN_tn (by omega)]
    obtain ⟨h8, eh8⟩ : ∃ h9, h9 = h.set li (.inl (19, (la.map Value.int).set k (.int (x k)))) := ⟨_, rfl⟩
    refine At.hpe eh8 ?_
    have hg8 : GL (la.set k (x k)) h8 := by rw [eh8, show (la.map Value.int).set k (.int (x k)) = (la.set k (x k)).map Value.int from List.map_set.symm]; exact hset la h k hg (by omega)
    refine At.go (q := xm151) rfl 1 (pc' := 160) (L' := [(7, .retAddr (kd k)), (6, .int (Int32.ofNat k)), (0, .ref q), (1, .int (Int32.ofNat fro)), (2, .int (Int32.ofNat to)), (4, .ref o1), (5, .ref o2)]) (st' := []) rfl ?_
    refine At.go (q := xm151) rfl 1 (pc' := 163) (L' := [(6, .int ((Int32.ofNat k) + 1)), (7, .retAddr (kd k)), (0, .ref q), (1, .int (Int32.ofNat fro)), (2, .int (Int32.ofNat to)), (4, .ref o1), (5, .ref o2)]) (st' := []) rfl ?_
    refine At.go (q := xm151) rfl 1 (pc' := 32) (L' := [(6, .int ((Int32.ofNat k) + 1)), (7, .retAddr (kd k)), (0, .ref q), (1, .int (Int32.ofNat fro)), (2, .int (Int32.ofNat to)), (4, .ref o1), (5, .ref o2)]) (st' := []) rfl ?_
    rw [iN_s]
    refine At.wk (L' := [(6, .int (Int32.ofNat (k + 1))), (0, .ref q), (1, .int (Int32.ofNat fro)), (2, .int (Int32.ofNat to)), (4, .ref o1), (5, .ref o2)]) (List.forall_mem_cons.mpr ⟨List.mem_of_getElem? (i := 0) rfl, (List.forall_mem_cons.mpr ⟨List.mem_of_getElem? (i := 2) rfl, (List.forall_mem_cons.mpr ⟨List.mem_of_getElem? (i := 3) rfl, (List.forall_mem_cons.mpr ⟨List.mem_of_getElem? (i := 4) rfl, (List.forall_mem_cons.mpr ⟨List.mem_of_getElem? (i := 5) rfl, (List.forall_mem_cons.mpr ⟨List.mem_of_getElem? (i := 6) rfl, (fun _ h => (List.not_mem_nil h).elim)⟩)⟩)⟩)⟩)⟩)⟩) (show ([6, 7, 0, 1, 2, 4, 5] : List Nat).Nodup by decide) ?_
    exact ih (k + 1) h8 (la.set k (x k)) (by omega) (by rw [List.length_set]; exact hw) (by rw [List.length_set]; exact hl) hg8 (fun h' hg' => hK h' hg')
theorem m_reckonJA {hp : List XC} {S : List Int32} {GL : List Int32 → List XC → Prop} {q st li w fro to : Nat} {o1 o2 : Nat} {fs sf : List Value} {aa : Int32} {kd : Nat → Nat} {x : Nat → Int32} (hG : ∀ la h, GL la h → h[q]? = some (.inr (7, fs)) ∧ h[st]? = some (.inr (12, sf)) ∧ h[li]? = some (.inl (19, la.map Value.int))) (hset : ∀ la h k, GL la h → k < w → GL (la.set k (x k)) (h.set li (.inl (19, (la.set k (x k)).map Value.int)))) (hf0 : fs[0]? = some (.ref st)) (hf6 : fs[6]? = some (.ref li)) (hf13 : fs[13]? = some (.int (Int32.ofNat w))) (hs4 : sf[4]? = some (.int aa)) (hkd : ∀ la h, GL la h → ∀ k, k < w → Pu S 0 94 [.ref st, .int (Int32.ofNat k)] h (.retAddr (kd k))) (haa : ¬ aa < 0) (hce : ∀ la h, GL la h → ∀ k, k < w → Pu S 0 145 [.ref o1, .ref o2, .int (Int32.ofNat k)] h (.int (x k))) {la : List Int32} (hg0 : GL la hp) (hw : w ≤ la.length) (hl : la.length ≤ 1000) (hb1 : fro < 2 ^ 31) (hb2 : to < 2 ^ 31) {p0 : Int32} (hft : fro < to) (hpk : Pu S 0 152 [.ref q, .int (Int32.ofNat fro)] hp (.int p0)) (hfo : Pu S 3 153 [.ref q, .int p0] hp (.ref o1)) (hso : Pu S 3 154 [.ref q, .int p0] hp (.ref o2)) : Me S 6 151 [.ref q, .int (Int32.ofNat fro), .int (Int32.ofNat to)] hp (fun v hp' c s => v = none ∧ GL (rlF x w 0 la) hp' ∧ c = 0 ∧ s = 0) := by
  obtain ⟨hq, hst, hli⟩ := hG la hp hg0
  refine At.go (q := xm151) rfl 2 (pc' := 2) (L' := [(0, .ref q), (1, .int (Int32.ofNat fro)), (2, .int (Int32.ofNat to))]) (st' := [.int (Int32.ofNat to), .int (Int32.ofNat fro)]) rfl ?_
  refine At.ic2 (tgt := 13) rfl rfl (fun h => absurd (h.symm.trans (decide_eq_false (fun h => absurd ((iN_le (a := to) (b := fro) (by omega) (by omega)).mp h) (by omega)))) (by decide)) (fun _ => ?_)
  refine At.go (q := xm151) rfl 2 (pc' := 7) (L' := [(0, .ref q), (1, .int (Int32.ofNat fro)), (2, .int (Int32.ofNat to))]) (st' := [.int (Int32.ofNat fro), .ref q]) rfl ?_
  refine At.clp (as := [.ref q, .int (Int32.ofNat fro)]) (rest := []) rfl (by decide) rfl (Nat.le_of_ble_eq_true rfl) (Nat.le_of_ble_eq_true rfl) (xrck_o (by decide) (by decide) hq (by decide)) (Nat.le_of_ble_eq_true rfl) (hpk) ?_
  refine At.go (q := xm151) rfl 4 (pc' := 17) (L' := [(3, .int p0), (0, .ref q), (1, .int (Int32.ofNat fro)), (2, .int (Int32.ofNat to))]) (st' := [.int p0, .ref q]) rfl ?_
  refine At.clp (as := [.ref q, .int p0]) (rest := []) rfl (by decide) rfl (Nat.le_of_ble_eq_true rfl) (Nat.le_of_ble_eq_true rfl) (xrck_o (by decide) (by decide) hq (by decide)) (Nat.le_of_ble_eq_true rfl) (hfo) ?_
  refine At.go (q := xm151) rfl 3 (pc' := 24) (L' := [(4, .ref o1), (3, .int p0), (0, .ref q), (1, .int (Int32.ofNat fro)), (2, .int (Int32.ofNat to))]) (st' := [.int p0, .ref q]) rfl ?_
  refine At.clp (as := [.ref q, .int p0]) (rest := []) rfl (by decide) rfl (Nat.le_of_ble_eq_true rfl) (Nat.le_of_ble_eq_true rfl) (xrck_o (by decide) (by decide) hq (by decide)) (Nat.le_of_ble_eq_true rfl) (hso) ?_
  refine At.go (q := xm151) rfl 3 (pc' := 32) (L' := [(6, .int 0), (5, .ref o2), (4, .ref o1), (3, .int p0), (0, .ref q), (1, .int (Int32.ofNat fro)), (2, .int (Int32.ofNat to))]) (st' := []) rfl ?_
  refine At.wk (L' := [(6, .int (Int32.ofNat 0)), (0, .ref q), (1, .int (Int32.ofNat fro)), (2, .int (Int32.ofNat to)), (4, .ref o1), (5, .ref o2)]) (List.forall_mem_cons.mpr ⟨List.mem_of_getElem? (i := 0) rfl, (List.forall_mem_cons.mpr ⟨List.mem_of_getElem? (i := 4) rfl, (List.forall_mem_cons.mpr ⟨List.mem_of_getElem? (i := 5) rfl, (List.forall_mem_cons.mpr ⟨List.mem_of_getElem? (i := 6) rfl, (List.forall_mem_cons.mpr ⟨List.mem_of_getElem? (i := 2) rfl, (List.forall_mem_cons.mpr ⟨List.mem_of_getElem? (i := 1) rfl, (fun _ h => (List.not_mem_nil h).elim)⟩)⟩)⟩)⟩)⟩)⟩) (show ([6, 5, 4, 3, 0, 1, 2] : List Nat).Nodup by decide) ?_
  refine rl_loopJA hG hset hf0 hf6 hf13 hs4 hkd haa hce w 0 hp la (by omega) hw hl hg0 (fun h9 hg9 => ⟨_, _, _, _, rfl, rfl, hg9, rfl, rfl⟩)
theorem rl_loopJB {S : List Int32} {GL : List Int32 → List XC → Prop} {q st li w fro to : Nat} {o1 o2 : Nat} {fs sf : List Value} {aa : Int32} {kd : Nat → Nat} {x : Nat → Int32} (hG : ∀ la h, GL la h → h[q]? = some (.inr (7, fs)) ∧ h[st]? = some (.inr (12, sf)) ∧ h[li]? = some (.inl (19, la.map Value.int))) (hset : ∀ la h k, GL la h → k < w → GL (la.set k (x k)) (h.set li (.inl (19, (la.set k (x k)).map Value.int)))) (hf0 : fs[0]? = some (.ref st)) (hf6 : fs[6]? = some (.ref li)) (hf13 : fs[13]? = some (.int (Int32.ofNat w))) (hs4 : sf[4]? = some (.int aa)) (hkd : ∀ la h, GL la h → ∀ k, k < w → Pu S 0 94 [.ref st, .int (Int32.ofNat k)] h (.retAddr (kd k))) (haa : aa < 0) (hx : ∀ k, k < w → ∃ b30 b3 : Bool, xeq xKC (.retAddr (kd k)) (.retAddr 30) = some b30 ∧ xeq xKC (.retAddr (kd k)) (.retAddr 3) = some b3 ∧ (b30 = true → Int32.ofNat to - Int32.ofNat fro = x k) ∧ (b30 = false → b3 = true → ∀ la h, GL la h → Me S 5 155 [.ref st, .int (Int32.ofNat k), .ref o1, .ref o2] h (fun v h' c s => v = some (.int (x k)) ∧ GL la h' ∧ c = 0 ∧ s = 0)) ∧ (b30 = false → b3 = false → ∀ la h, GL la h → Me S 5 156 [.ref q, .retAddr (kd k), .int (Int32.ofNat k), .int (Int32.ofNat fro), .int (Int32.ofNat to)] h (fun v h' c s => v = some (.int (x k)) ∧ GL la h' ∧ c = 0 ∧ s = 0))) {nc ns : Nat} {Q : XO → Prop} : ∀ (j k : Nat) (h : List XC) (la : List Int32), k + j = w → w ≤ la.length → la.length ≤ 1000 → GL la h → (∀ h', GL (rlF x j k la) h' → Q (.inl (none, h', nc, ns))) → At S 6 151 32 [(6, .int (Int32.ofNat k)), (0, .ref q), (1, .int (Int32.ofNat fro)), (2, .int (Int32.ofNat to)), (4, .ref o1), (5, .ref o2)] [] h nc ns Q := by
  intro j
  induction j with
  | zero =>
    intro k h la hk hw hl hg hK
    obtain ⟨hq, hst, hli⟩ := hG la h hg
    refine At.go (q := xm151) rfl 2 (pc' := 35) (L' := [(6, .int (Int32.ofNat k)), (0, .ref q), (1, .int (Int32.ofNat fro)), (2, .int (Int32.ofNat to)), (4, .ref o1), (5, .ref o2)]) (st' := [.ref q, .int (Int32.ofNat k)]) rfl ?_
    refine At.gf rfl (by decide) hq hf13 ?_
    refine At.ic2 (tgt := 166) rfl rfl (fun _ => ?_) (fun h => absurd (h.symm.trans (decide_eq_true ((iN_le (a := w) (b := k) (by omega) (by omega)).mpr (by omega)))) (by decide))
    exact At.rt rfl rfl (hK h hg)
  | succ j ih =>
    intro k h la hk hw hl hg hK
    obtain ⟨hq, hst, hli⟩ := hG la h hg
    obtain ⟨b30, b3, e30, e3, x30, x3, xf⟩ := hx k (by omega)
    refine At.go (q := xm151) rfl 2 (pc' := 35) (L' := [(6, .int (Int32.ofNat k)), (0, .ref q), (1, .int (Int32.ofNat fro)), (2, .int (Int32.ofNat to)), (4, .ref o1), (5, .ref o2)]) (st' := [.ref q, .int (Int32.ofNat k)]) rfl ?_
    refine At.gf rfl (by decide) hq hf13 ?_
    refine At.ic2 (tgt := 166) rfl rfl (fun h => absurd (h.symm.trans (decide_eq_false (fun h => absurd ((iN_le (a := w) (b := k) (by omega) (by omega)).mp h) (by omega)))) (by decide)) (fun _ => ?_)
    refine At.go (q := xm151) rfl 2 (pc' := 44) (L' := [(6, .int (Int32.ofNat k)), (0, .ref q), (1, .int (Int32.ofNat fro)), (2, .int (Int32.ofNat to)), (4, .ref o1), (5, .ref o2)]) (st' := [.ref q, .int (Int32.ofNat k)]) rfl ?_
    refine At.gf rfl (by decide) hq hf6 ?_
    refine At.ln rfl hli ?_
    rw [List.length_map]
    refine At.ic2 (tgt := 166) rfl rfl (fun h => absurd ((iN_le (a := la.length) (b := k) (by omega) (by omega)).mp (of_decide_eq_true h)) (by omega)) (fun _ => ?_)
    refine At.go (q := xm151) rfl 1 (pc' := 52) (L' := [(6, .int (Int32.ofNat k)), (0, .ref q), (1, .int (Int32.ofNat fro)), (2, .int (Int32.ofNat to)), (4, .ref o1), (5, .ref o2)]) (st' := [.ref q]) rfl ?_
    refine At.gf rfl (by decide) hq hf0 ?_
    refine At.go (q := xm151) rfl 1 (pc' := 57) (L' := [(6, .int (Int32.ofNat k)), (0, .ref q), (1, .int (Int32.ofNat fro)), (2, .int (Int32.ofNat to)), (4, .ref o1), (5, .ref o2)]) (st' := [.int (Int32.ofNat k), .ref st]) rfl ?_
    refine At.clp (as := [.ref st, .int (Int32.ofNat k)]) (rest := []) rfl (by decide) rfl (Nat.le_of_ble_eq_true rfl) (Nat.le_of_ble_eq_true rfl) (xrck_o (by decide) (by decide) hst (by decide)) (Nat.le_of_ble_eq_true rfl) (hkd la h hg k (by omega)) ?_
    refine At.go (q := xm151) rfl 2 (pc' := 63) (L' := [(7, .retAddr (kd k)), (6, .int (Int32.ofNat k)), (0, .ref q), (1, .int (Int32.ofNat fro)), (2, .int (Int32.ofNat to)), (4, .ref o1), (5, .ref o2)]) (st' := [.ref q]) rfl ?_
    refine At.gf rfl (by decide) hq hf0 ?_
    refine At.gf rfl (by decide) hst hs4 ?_
    refine At.ic1 (tgt := 91) rfl rfl (fun _ => ?_) (fun h => absurd (h.symm.trans (decide_eq_true haa)) (by decide))
    refine At.go (q := xm151) rfl 2 (pc' := 96) (L' := [(7, .retAddr (kd k)), (6, .int (Int32.ofNat k)), (0, .ref q), (1, .int (Int32.ofNat fro)), (2, .int (Int32.ofNat to)), (4, .ref o1), (5, .ref o2)]) (st' := [.retAddr 30, .retAddr (kd k)]) rfl ?_
    refine At.acn (tgt := 112) (b := b30) rfl rfl e30 (fun h96 => ?_) (fun h96 => ?_)
    · refine At.go (q := xm151) rfl 2 (pc' := 117) (L' := [(7, .retAddr (kd k)), (6, .int (Int32.ofNat k)), (0, .ref q), (1, .int (Int32.ofNat fro)), (2, .int (Int32.ofNat to)), (4, .ref o1), (5, .ref o2)]) (st' := [.retAddr 3, .retAddr (kd k)]) rfl ?_
      refine At.acn (tgt := 143) (b := b3) rfl rfl e3 (fun h117 => ?_) (fun h117 => ?_)
      · refine At.go (q := xm151) rfl 1 (pc' := 144) (L' := [(7, .retAddr (kd k)), (6, .int (Int32.ofNat k)), (0, .ref q), (1, .int (Int32.ofNat fro)), (2, .int (Int32.ofNat to)), (4, .ref o1), (5, .ref o2)]) (st' := [.ref q]) rfl ?_
        refine At.gf rfl (by decide) hq hf6 ?_
        refine At.go (q := xm151) rfl 6 (pc' := 156) (L' := [(7, .retAddr (kd k)), (6, .int (Int32.ofNat k)), (0, .ref q), (1, .int (Int32.ofNat fro)), (2, .int (Int32.ofNat to)), (4, .ref o1), (5, .ref o2)]) (st' := [.int (Int32.ofNat to), .int (Int32.ofNat fro), .int (Int32.ofNat k), .retAddr (kd k), .ref q, .int (Int32.ofNat k), .ref li]) rfl ?_
        refine At.clm (as := [.ref q, .retAddr (kd k), .int (Int32.ofNat k), .int (Int32.ofNat fro), .int (Int32.ofNat to)]) (rest := [.int (Int32.ofNat k), .ref li]) rfl (by decide) rfl (Nat.le_of_ble_eq_true rfl) (Nat.le_of_ble_eq_true rfl) (xrck_o (by decide) (by decide) hq (by decide)) (Nat.le_of_ble_eq_true rfl) (xf h96 h117 la h hg) (fun v9 h2 c2 s2 hv9 => ?_)
        obtain ⟨rfl, hg2, rfl, rfl⟩ := hv9
        obtain ⟨hq2, hst2, hli2⟩ := hG la h2 hg2
        refine At.as (j := Int32.ofNat k) rfl hli2 (by decide) rfl (iN_nn (by omega)) (by rw [iN_tn (by omega), List.length_map]; omega) ?_
        rw [iN_tn (by omega)]
        obtain ⟨h8, eh8⟩ : ∃ h9, h9 = h2.set li (.inl (19, (la.map Value.int).set k (.int (x k)))) := ⟨_, rfl⟩
        refine At.hpe eh8 ?_
        have hg8 : GL (la.set k (x k)) h8 := by rw [eh8, show (la.map Value.int).set k (.int (x k)) = (la.set k (x k)).map Value.int from List.map_set.symm]; exact hset la h2 k hg2 (by omega)
        refine At.go (q := xm151) rfl 1 (pc' := 163) (L' := [(6, .int ((Int32.ofNat k) + 1)), (7, .retAddr (kd k)), (0, .ref q), (1, .int (Int32.ofNat fro)), (2, .int (Int32.ofNat to)), (4, .ref o1), (5, .ref o2)]) (st' := []) rfl ?_
        refine At.go (q := xm151) rfl 1 (pc' := 32) (L' := [(6, .int ((Int32.ofNat k) + 1)), (7, .retAddr (kd k)), (0, .ref q), (1, .int (Int32.ofNat fro)), (2, .int (Int32.ofNat to)), (4, .ref o1), (5, .ref o2)]) (st' := []) rfl ?_
        rw [iN_s]
        refine At.wk (L' := [(6, .int (Int32.ofNat (k + 1))), (0, .ref q), (1, .int (Int32.ofNat fro)), (2, .int (Int32.ofNat to)), (4, .ref o1), (5, .ref o2)]) (List.forall_mem_cons.mpr ⟨List.mem_of_getElem? (i := 0) rfl, (List.forall_mem_cons.mpr ⟨List.mem_of_getElem? (i := 2) rfl, (List.forall_mem_cons.mpr ⟨List.mem_of_getElem? (i := 3) rfl, (List.forall_mem_cons.mpr ⟨List.mem_of_getElem? (i := 4) rfl, (List.forall_mem_cons.mpr ⟨List.mem_of_getElem? (i := 5) rfl, (List.forall_mem_cons.mpr ⟨List.mem_of_getElem? (i := 6) rfl, (fun _ h => (List.not_mem_nil h).elim)⟩)⟩)⟩)⟩)⟩)⟩) (show ([6, 7, 0, 1, 2, 4, 5] : List Nat).Nodup by decide) ?_
        exact ih (k + 1) h8 (la.set k (x k)) (by omega) (by rw [List.length_set]; exact hw) (by rw [List.length_set]; exact hl) hg8 (fun h' hg' => hK h' hg')
      · refine At.go (q := xm151) rfl 1 (pc' := 121) (L' := [(7, .retAddr (kd k)), (6, .int (Int32.ofNat k)), (0, .ref q), (1, .int (Int32.ofNat fro)), (2, .int (Int32.ofNat to)), (4, .ref o1), (5, .ref o2)]) (st' := [.ref q]) rfl ?_
        refine At.gf rfl (by decide) hq hf6 ?_
        refine At.go (q := xm151) rfl 2 (pc' := 127) (L' := [(7, .retAddr (kd k)), (6, .int (Int32.ofNat k)), (0, .ref q), (1, .int (Int32.ofNat fro)), (2, .int (Int32.ofNat to)), (4, .ref o1), (5, .ref o2)]) (st' := [.ref q, .int (Int32.ofNat k), .ref li]) rfl ?_
        refine At.gf rfl (by decide) hq hf0 ?_
        refine At.go (q := xm151) rfl 3 (pc' := 136) (L' := [(7, .retAddr (kd k)), (6, .int (Int32.ofNat k)), (0, .ref q), (1, .int (Int32.ofNat fro)), (2, .int (Int32.ofNat to)), (4, .ref o1), (5, .ref o2)]) (st' := [.ref o2, .ref o1, .int (Int32.ofNat k), .ref st, .int (Int32.ofNat k), .ref li]) rfl ?_
        refine At.clm (as := [.ref st, .int (Int32.ofNat k), .ref o1, .ref o2]) (rest := [.int (Int32.ofNat k), .ref li]) rfl (by decide) rfl (Nat.le_of_ble_eq_true rfl) (Nat.le_of_ble_eq_true rfl) (xrck_o (by decide) (by decide) hst (by decide)) (Nat.le_of_ble_eq_true rfl) (x3 h96 h117 la h hg) (fun v9 h2 c2 s2 hv9 => ?_)
        obtain ⟨rfl, hg2, rfl, rfl⟩ := hv9
        obtain ⟨hq2, hst2, hli2⟩ := hG la h2 hg2
        refine At.as (j := Int32.ofNat k) rfl hli2 (by decide) rfl (iN_nn (by omega)) (by rw [iN_tn (by omega), List.length_map]; omega) ?_
        rw [iN_tn (by omega)]
        obtain ⟨h8, eh8⟩ : ∃ h9, h9 = h2.set li (.inl (19, (la.map Value.int).set k (.int (x k)))) := ⟨_, rfl⟩
        refine At.hpe eh8 ?_
        have hg8 : GL (la.set k (x k)) h8 := by rw [eh8, show (la.map Value.int).set k (.int (x k)) = (la.set k (x k)).map Value.int from List.map_set.symm]; exact hset la h2 k hg2 (by omega)
        refine At.go (q := xm151) rfl 1 (pc' := 160) (L' := [(7, .retAddr (kd k)), (6, .int (Int32.ofNat k)), (0, .ref q), (1, .int (Int32.ofNat fro)), (2, .int (Int32.ofNat to)), (4, .ref o1), (5, .ref o2)]) (st' := []) rfl ?_
        refine At.go (q := xm151) rfl 1 (pc' := 163) (L' := [(6, .int ((Int32.ofNat k) + 1)), (7, .retAddr (kd k)), (0, .ref q), (1, .int (Int32.ofNat fro)), (2, .int (Int32.ofNat to)), (4, .ref o1), (5, .ref o2)]) (st' := []) rfl ?_
        refine At.go (q := xm151) rfl 1 (pc' := 32) (L' := [(6, .int ((Int32.ofNat k) + 1)), (7, .retAddr (kd k)), (0, .ref q), (1, .int (Int32.ofNat fro)), (2, .int (Int32.ofNat to)), (4, .ref o1), (5, .ref o2)]) (st' := []) rfl ?_
        rw [iN_s]
        refine At.wk (L' := [(6, .int (Int32.ofNat (k + 1))), (0, .ref q), (1, .int (Int32.ofNat fro)), (2, .int (Int32.ofNat to)), (4, .ref o1), (5, .ref o2)]) (List.forall_mem_cons.mpr ⟨List.mem_of_getElem? (i := 0) rfl, (List.forall_mem_cons.mpr ⟨List.mem_of_getElem? (i := 2) rfl, (List.forall_mem_cons.mpr ⟨List.mem_of_getElem? (i := 3) rfl, (List.forall_mem_cons.mpr ⟨List.mem_of_getElem? (i := 4) rfl, (List.forall_mem_cons.mpr ⟨List.mem_of_getElem? (i := 5) rfl, (List.forall_mem_cons.mpr ⟨List.mem_of_getElem? (i := 6) rfl, (fun _ h => (List.not_mem_nil h).elim)⟩)⟩)⟩)⟩)⟩)⟩) (show ([6, 7, 0, 1, 2, 4, 5] : List Nat).Nodup by decide) ?_
        exact ih (k + 1) h8 (la.set k (x k)) (by omega) (by rw [List.length_set]; exact hw) (by rw [List.length_set]; exact hl) hg8 (fun h' hg' => hK h' hg')
    · refine At.go (q := xm151) rfl 1 (pc' := 100) (L' := [(7, .retAddr (kd k)), (6, .int (Int32.ofNat k)), (0, .ref q), (1, .int (Int32.ofNat fro)), (2, .int (Int32.ofNat to)), (4, .ref o1), (5, .ref o2)]) (st' := [.ref q]) rfl ?_
      refine At.gf rfl (by decide) hq hf6 ?_
      refine At.go (q := xm151) rfl 4 (pc' := 108) (L' := [(7, .retAddr (kd k)), (6, .int (Int32.ofNat k)), (0, .ref q), (1, .int (Int32.ofNat fro)), (2, .int (Int32.ofNat to)), (4, .ref o1), (5, .ref o2)]) (st' := [.int ((Int32.ofNat to) - (Int32.ofNat fro)), .int (Int32.ofNat k), .ref li]) rfl ?_
      rw [x30 h96]
      refine At.as (j := Int32.ofNat k) rfl hli (by decide) rfl (iN_nn (by omega)) (by rw [iN_tn (by omega), List.length_map]; omega) ?_
      rw [iN_tn (by omega)]
      obtain ⟨h8, eh8⟩ : ∃ h9, h9 = h.set li (.inl (19, (la.map Value.int).set k (.int (x k)))) := ⟨_, rfl⟩
      refine At.hpe eh8 ?_
      have hg8 : GL (la.set k (x k)) h8 := by rw [eh8, show (la.map Value.int).set k (.int (x k)) = (la.set k (x k)).map Value.int from List.map_set.symm]; exact hset la h k hg (by omega)
      refine At.go (q := xm151) rfl 1 (pc' := 160) (L' := [(7, .retAddr (kd k)), (6, .int (Int32.ofNat k)), (0, .ref q), (1, .int (Int32.ofNat fro)), (2, .int (Int32.ofNat to)), (4, .ref o1), (5, .ref o2)]) (st' := []) rfl ?_
      refine At.go (q := xm151) rfl 1 (pc' := 163) (L' := [(6, .int ((Int32.ofNat k) + 1)), (7, .retAddr (kd k)), (0, .ref q), (1, .int (Int32.ofNat fro)), (2, .int (Int32.ofNat to)), (4, .ref o1), (5, .ref o2)]) (st' := []) rfl ?_
      refine At.go (q := xm151) rfl 1 (pc' := 32) (L' := [(6, .int ((Int32.ofNat k) + 1)), (7, .retAddr (kd k)), (0, .ref q), (1, .int (Int32.ofNat fro)), (2, .int (Int32.ofNat to)), (4, .ref o1), (5, .ref o2)]) (st' := []) rfl ?_
      rw [iN_s]
      refine At.wk (L' := [(6, .int (Int32.ofNat (k + 1))), (0, .ref q), (1, .int (Int32.ofNat fro)), (2, .int (Int32.ofNat to)), (4, .ref o1), (5, .ref o2)]) (List.forall_mem_cons.mpr ⟨List.mem_of_getElem? (i := 0) rfl, (List.forall_mem_cons.mpr ⟨List.mem_of_getElem? (i := 2) rfl, (List.forall_mem_cons.mpr ⟨List.mem_of_getElem? (i := 3) rfl, (List.forall_mem_cons.mpr ⟨List.mem_of_getElem? (i := 4) rfl, (List.forall_mem_cons.mpr ⟨List.mem_of_getElem? (i := 5) rfl, (List.forall_mem_cons.mpr ⟨List.mem_of_getElem? (i := 6) rfl, (fun _ h => (List.not_mem_nil h).elim)⟩)⟩)⟩)⟩)⟩)⟩) (show ([6, 7, 0, 1, 2, 4, 5] : List Nat).Nodup by decide) ?_
      exact ih (k + 1) h8 (la.set k (x k)) (by omega) (by rw [List.length_set]; exact hw) (by rw [List.length_set]; exact hl) hg8 (fun h' hg' => hK h' hg')
theorem m_reckonJB {hp : List XC} {S : List Int32} {GL : List Int32 → List XC → Prop} {q st li w fro to : Nat} {o1 o2 : Nat} {fs sf : List Value} {aa : Int32} {kd : Nat → Nat} {x : Nat → Int32} (hG : ∀ la h, GL la h → h[q]? = some (.inr (7, fs)) ∧ h[st]? = some (.inr (12, sf)) ∧ h[li]? = some (.inl (19, la.map Value.int))) (hset : ∀ la h k, GL la h → k < w → GL (la.set k (x k)) (h.set li (.inl (19, (la.set k (x k)).map Value.int)))) (hf0 : fs[0]? = some (.ref st)) (hf6 : fs[6]? = some (.ref li)) (hf13 : fs[13]? = some (.int (Int32.ofNat w))) (hs4 : sf[4]? = some (.int aa)) (hkd : ∀ la h, GL la h → ∀ k, k < w → Pu S 0 94 [.ref st, .int (Int32.ofNat k)] h (.retAddr (kd k))) (haa : aa < 0) (hx : ∀ k, k < w → ∃ b30 b3 : Bool, xeq xKC (.retAddr (kd k)) (.retAddr 30) = some b30 ∧ xeq xKC (.retAddr (kd k)) (.retAddr 3) = some b3 ∧ (b30 = true → Int32.ofNat to - Int32.ofNat fro = x k) ∧ (b30 = false → b3 = true → ∀ la h, GL la h → Me S 5 155 [.ref st, .int (Int32.ofNat k), .ref o1, .ref o2] h (fun v h' c s => v = some (.int (x k)) ∧ GL la h' ∧ c = 0 ∧ s = 0)) ∧ (b30 = false → b3 = false → ∀ la h, GL la h → Me S 5 156 [.ref q, .retAddr (kd k), .int (Int32.ofNat k), .int (Int32.ofNat fro), .int (Int32.ofNat to)] h (fun v h' c s => v = some (.int (x k)) ∧ GL la h' ∧ c = 0 ∧ s = 0))) {la : List Int32} (hg0 : GL la hp) (hw : w ≤ la.length) (hl : la.length ≤ 1000) (hb1 : fro < 2 ^ 31) (hb2 : to < 2 ^ 31) {p0 : Int32} (hft : fro < to) (hpk : Pu S 0 152 [.ref q, .int (Int32.ofNat fro)] hp (.int p0)) (hfo : Pu S 3 153 [.ref q, .int p0] hp (.ref o1)) (hso : Pu S 3 154 [.ref q, .int p0] hp (.ref o2)) : Me S 6 151 [.ref q, .int (Int32.ofNat fro), .int (Int32.ofNat to)] hp (fun v hp' c s => v = none ∧ GL (rlF x w 0 la) hp' ∧ c = 0 ∧ s = 0) := by
  obtain ⟨hq, hst, hli⟩ := hG la hp hg0
  refine At.go (q := xm151) rfl 2 (pc' := 2) (L' := [(0, .ref q), (1, .int (Int32.ofNat fro)), (2, .int (Int32.ofNat to))]) (st' := [.int (Int32.ofNat to), .int (Int32.ofNat fro)]) rfl ?_
  refine At.ic2 (tgt := 13) rfl rfl (fun h => absurd (h.symm.trans (decide_eq_false (fun h => absurd ((iN_le (a := to) (b := fro) (by omega) (by omega)).mp h) (by omega)))) (by decide)) (fun _ => ?_)
  refine At.go (q := xm151) rfl 2 (pc' := 7) (L' := [(0, .ref q), (1, .int (Int32.ofNat fro)), (2, .int (Int32.ofNat to))]) (st' := [.int (Int32.ofNat fro), .ref q]) rfl ?_
  refine At.clp (as := [.ref q, .int (Int32.ofNat fro)]) (rest := []) rfl (by decide) rfl (Nat.le_of_ble_eq_true rfl) (Nat.le_of_ble_eq_true rfl) (xrck_o (by decide) (by decide) hq (by decide)) (Nat.le_of_ble_eq_true rfl) (hpk) ?_
  refine At.go (q := xm151) rfl 4 (pc' := 17) (L' := [(3, .int p0), (0, .ref q), (1, .int (Int32.ofNat fro)), (2, .int (Int32.ofNat to))]) (st' := [.int p0, .ref q]) rfl ?_
  refine At.clp (as := [.ref q, .int p0]) (rest := []) rfl (by decide) rfl (Nat.le_of_ble_eq_true rfl) (Nat.le_of_ble_eq_true rfl) (xrck_o (by decide) (by decide) hq (by decide)) (Nat.le_of_ble_eq_true rfl) (hfo) ?_
  refine At.go (q := xm151) rfl 3 (pc' := 24) (L' := [(4, .ref o1), (3, .int p0), (0, .ref q), (1, .int (Int32.ofNat fro)), (2, .int (Int32.ofNat to))]) (st' := [.int p0, .ref q]) rfl ?_
  refine At.clp (as := [.ref q, .int p0]) (rest := []) rfl (by decide) rfl (Nat.le_of_ble_eq_true rfl) (Nat.le_of_ble_eq_true rfl) (xrck_o (by decide) (by decide) hq (by decide)) (Nat.le_of_ble_eq_true rfl) (hso) ?_
  refine At.go (q := xm151) rfl 3 (pc' := 32) (L' := [(6, .int 0), (5, .ref o2), (4, .ref o1), (3, .int p0), (0, .ref q), (1, .int (Int32.ofNat fro)), (2, .int (Int32.ofNat to))]) (st' := []) rfl ?_
  refine At.wk (L' := [(6, .int (Int32.ofNat 0)), (0, .ref q), (1, .int (Int32.ofNat fro)), (2, .int (Int32.ofNat to)), (4, .ref o1), (5, .ref o2)]) (List.forall_mem_cons.mpr ⟨List.mem_of_getElem? (i := 0) rfl, (List.forall_mem_cons.mpr ⟨List.mem_of_getElem? (i := 4) rfl, (List.forall_mem_cons.mpr ⟨List.mem_of_getElem? (i := 5) rfl, (List.forall_mem_cons.mpr ⟨List.mem_of_getElem? (i := 6) rfl, (List.forall_mem_cons.mpr ⟨List.mem_of_getElem? (i := 2) rfl, (List.forall_mem_cons.mpr ⟨List.mem_of_getElem? (i := 1) rfl, (fun _ h => (List.not_mem_nil h).elim)⟩)⟩)⟩)⟩)⟩)⟩) (show ([6, 5, 4, 3, 0, 1, 2] : List Nat).Nodup by decide) ?_
  refine rl_loopJB hG hset hf0 hf6 hf13 hs4 hkd haa hx w 0 hp la (by omega) hw hl hg0 (fun h9 hg9 => ⟨_, _, _, _, rfl, rfl, hg9, rfl, rfl⟩)
