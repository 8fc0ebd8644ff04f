/-! queries: sink (written by wip/p27/c99992.py) -/
theorem cmpI_neg {a b : Int32} : cmpI a b < 0 ↔ a < b := by
  unfold cmpI
  by_cases h : a < b
  · rw [if_pos h]; exact ⟨fun _ => h, fun _ => by decide⟩
  · rw [if_neg h]
    split
    · exact ⟨fun q => absurd q (by decide), fun q => absurd q h⟩
    · exact ⟨fun q => absurd q (by decide), fun q => absurd q h⟩
/-- the greater child -/
def sinkC (key : Int32 → Int32) (size a : Nat) (ps : List Int32) : Nat := if 2 * a + 2 < size ∧ key ((ps[2 * a + 1]?).getD 0) < key ((ps[2 * a + 2]?).getD 0) then 2 * a + 2 else 2 * a + 1
/-- a number sinks in a heap -/
def sinkE (key : Int32 → Int32) (size : Nat) : Nat → Nat → List Int32 → List Int32
  | 0, _, ps => ps
  | f + 1, a, ps => if 2 * a + 1 < size then (if key ((ps[a]?).getD 0) < key ((ps[sinkC key size a ps]?).getD 0) then sinkE key size f (sinkC key size a ps) ((ps.set a ((ps[sinkC key size a ps]?).getD 0)).set (sinkC key size a ps) ((ps[a]?).getD 0)) else ps) else ps
def hPs (hq : List XC) (pa : Nat) (ps : List Int32) : List XC := hq.set pa (.inl (18, ps.map Value.int))
theorem sink_loop {S : List Int32} {hq : List XC} {q st mn l1 l2 pa li ln : Nat} {pn kp off so dn lc wd : Int32} {key : Int32 → Int32} {V : Int32 → Prop} {p0 : List Int32} {size : Nat} (hq0 : hq[q]? = some (.inr (7, [.ref st, .ref mn, .ref l1, .ref l2, .ref pa, .int pn, .ref li, .int kp, .int off, .int so, .int dn, .ref ln, .int lc, .int wd]))) (hpa0 : hq[pa]? = some (.inl (18, p0.map Value.int))) (hcmp : ∀ (ps : List Int32) (x1 x2 : Int32), V x1 → V x2 → Pu S 4 161 [.ref q, .int x1, .int x2] (hPs hq pa ps) (.int (cmpI (key x1) (key x2)))) : ∀ (f a : Nat) (ps : List Int32) (fm : Int32) {nc ns : Nat}, size ≤ f + a → size ≤ ps.length → ps.length ≤ 40000 → a ≤ 40000 → (∀ (i : Nat) (v : Int32), i < size → ps[i]? = some v → V v) → At S 5 160 9 [(4, .int (Int32.ofNat (2 * a + 1))), (3, .int (Int32.ofNat a)), (0, .ref q), (2, .int (Int32.ofNat size)), (1, .int fm)] [] (hPs hq pa ps) nc ns (fun o => o = .inl (none, hPs hq pa (sinkE key size f a ps), nc, ns)) := by
  intro f
  induction f with
  | zero =>
    intro a ps fm nc ns hf hsz hl hal hV
    refine At.go (q := xm160) rfl 1 (pc' := 11) (L' := [(4, .int (Int32.ofNat (2 * a + 1))), (3, .int (Int32.ofNat a)), (0, .ref q), (2, .int (Int32.ofNat size)), (1, .int fm)]) (st' := [.int (Int32.ofNat (2 * a + 1))]) rfl ?_
    refine At.ic1 (tgt := 137) rfl rfl (fun h => absurd (h.symm.trans (decide_eq_false (iN_nn (by omega)))) (by decide)) (fun _ => ?_)
    refine At.go (q := xm160) rfl 2 (pc' := 17) (L' := [(4, .int (Int32.ofNat (2 * a + 1))), (3, .int (Int32.ofNat a)), (0, .ref q), (2, .int (Int32.ofNat size)), (1, .int fm)]) (st' := [.int (Int32.ofNat size), .int (Int32.ofNat (2 * a + 1))]) rfl ?_
    refine At.ic2 (tgt := 137) rfl rfl (fun _ => ?_) (fun h => absurd (decide_eq_true ((iN_le (a := size) (b := 2 * a + 1) (by omega) (by omega)).mpr (by omega))) (by rw [show decide (Int32.ofNat size ≤ Int32.ofNat (2 * a + 1)) = false from h]; decide))
    exact At.rt rfl rfl rfl
  | succ f ih =>
    intro a ps fm nc ns hf hsz hl hal hV
    have hq1 : (hPs hq pa ps)[q]? = some (.inr (7, [.ref st, .ref mn, .ref l1, .ref l2, .ref pa, .int pn, .ref li, .int kp, .int off, .int so, .int dn, .ref ln, .int lc, .int wd])) := xs_ne (xn_ar hpa0 hq0) hq0
    have hpa1 : (hPs hq pa ps)[pa]? = some (.inl (18, ps.map Value.int)) := xs_eq hpa0
    unfold sinkE
    by_cases hc : 2 * a + 1 < size
    · rw [if_pos hc]
      obtain ⟨va, hva⟩ : ∃ v, ps[a]? = some v := ⟨_, List.getElem?_eq_getElem (by omega)⟩
      obtain ⟨v1, hv1⟩ : ∃ v, ps[2 * a + 1]? = some v := ⟨_, List.getElem?_eq_getElem (by omega)⟩
      have main : ∀ c, c = sinkC key size a ps → a < c → c < size → At S 5 160 63 [(4, .int (Int32.ofNat c)), (3, .int (Int32.ofNat a)), (0, .ref q), (2, .int (Int32.ofNat size)), (1, .int fm)] [] (hPs hq pa ps) nc ns (fun o => o = .inl (none, hPs hq pa (if key ((ps[a]?).getD 0) < key ((ps[sinkC key size a ps]?).getD 0) then sinkE key size f (sinkC key size a ps) ((ps.set a ((ps[sinkC key size a ps]?).getD 0)).set (sinkC key size a ps) ((ps[a]?).getD 0)) else ps), nc, ns)) := by
        intro c hcc hac hcs
        rw [← hcc]
        obtain ⟨vc, hvc⟩ : ∃ v, ps[c]? = some v := ⟨_, List.getElem?_eq_getElem (by omega)⟩
        rw [hva, hvc, Option.getD_some, Option.getD_some]
        refine At.go (q := xm160) rfl 1 (pc' := 64) (L' := [(4, .int (Int32.ofNat c)), (3, .int (Int32.ofNat a)), (0, .ref q), (2, .int (Int32.ofNat size)), (1, .int fm)]) (st' := [.int (Int32.ofNat a)]) rfl ?_
        refine At.ic1 (tgt := 93) rfl rfl (fun h => absurd (h.symm.trans (decide_eq_false (iN_nn (by omega)))) (by decide)) (fun _ => ?_)
        refine At.go (q := xm160) rfl 2 (pc' := 70) (L' := [(4, .int (Int32.ofNat c)), (3, .int (Int32.ofNat a)), (0, .ref q), (2, .int (Int32.ofNat size)), (1, .int fm)]) (st' := [.int (Int32.ofNat c), .int (Int32.ofNat a)]) rfl ?_
        refine At.ic2 (tgt := 93) rfl rfl (fun h => absurd (h.symm.trans (decide_eq_false (fun h => absurd ((iN_le (a := c) (b := a) (by omega) (by omega)).mp h) (by omega)))) (by decide)) (fun _ => ?_)
        refine At.go (q := xm160) rfl 2 (pc' := 75) (L' := [(4, .int (Int32.ofNat c)), (3, .int (Int32.ofNat a)), (0, .ref q), (2, .int (Int32.ofNat size)), (1, .int fm)]) (st' := [.ref q, .ref q]) rfl ?_
        refine At.gf rfl (by decide) hq1 rfl ?_
        refine At.go (q := xm160) rfl 1 (pc' := 79) (L' := [(4, .int (Int32.ofNat c)), (3, .int (Int32.ofNat a)), (0, .ref q), (2, .int (Int32.ofNat size)), (1, .int fm)]) (st' := [.int (Int32.ofNat a), .ref pa, .ref q]) rfl ?_
        refine At.al rfl hpa1 (by decide) rfl (iN_nn (by omega)) (by rw [iN_tn (by omega), List.getElem?_map, hva]; rfl) ?_
        refine At.go (q := xm160) rfl 1 (pc' := 81) (L' := [(4, .int (Int32.ofNat c)), (3, .int (Int32.ofNat a)), (0, .ref q), (2, .int (Int32.ofNat size)), (1, .int fm)]) (st' := [.ref q, .int va, .ref q]) rfl ?_
        refine At.gf rfl (by decide) hq1 rfl ?_
        refine At.go (q := xm160) rfl 1 (pc' := 86) (L' := [(4, .int (Int32.ofNat c)), (3, .int (Int32.ofNat a)), (0, .ref q), (2, .int (Int32.ofNat size)), (1, .int fm)]) (st' := [.int (Int32.ofNat c), .ref pa, .int va, .ref q]) rfl ?_
        refine At.al rfl hpa1 (by decide) rfl (iN_nn (by omega)) (by rw [iN_tn (by omega), List.getElem?_map, hvc]; rfl) ?_
        refine At.clp (as := [.ref q, .int va, .int vc]) (rest := []) rfl (by decide) rfl (Nat.le_of_ble_eq_true rfl) (Nat.le_of_ble_eq_true rfl) (xrck_o (by decide) (by decide) hq1 (by decide)) (Nat.le_of_ble_eq_true rfl) (hcmp ps va vc (hV a va (by omega) hva) (hV c vc hcs hvc)) ?_
        refine At.ic1 (tgt := 94) rfl rfl (fun h90 => ?_) (fun h90 => ?_)
        · rw [if_pos (cmpI_neg.mp (of_decide_eq_true h90))]
          refine At.go (q := xm160) rfl 1 (pc' := 95) (L' := [(4, .int (Int32.ofNat c)), (3, .int (Int32.ofNat a)), (0, .ref q), (2, .int (Int32.ofNat size)), (1, .int fm)]) (st' := [.ref q]) rfl ?_
          refine At.gf rfl (by decide) hq1 rfl ?_
          refine At.go (q := xm160) rfl 1 (pc' := 99) (L' := [(4, .int (Int32.ofNat c)), (3, .int (Int32.ofNat a)), (0, .ref q), (2, .int (Int32.ofNat size)), (1, .int fm)]) (st' := [.int (Int32.ofNat a), .ref pa]) rfl ?_
          refine At.al rfl hpa1 (by decide) rfl (iN_nn (by omega)) (by rw [iN_tn (by omega), List.getElem?_map, hva]; rfl) ?_
          refine At.go (q := xm160) rfl 2 (pc' := 103) (L' := [(5, .int va), (4, .int (Int32.ofNat c)), (3, .int (Int32.ofNat a)), (0, .ref q), (2, .int (Int32.ofNat size)), (1, .int fm)]) (st' := [.ref q]) rfl ?_
          refine At.gf rfl (by decide) hq1 rfl ?_
          refine At.go (q := xm160) rfl 2 (pc' := 108) (L' := [(5, .int va), (4, .int (Int32.ofNat c)), (3, .int (Int32.ofNat a)), (0, .ref q), (2, .int (Int32.ofNat size)), (1, .int fm)]) (st' := [.ref q, .int (Int32.ofNat a), .ref pa]) rfl ?_
          refine At.gf rfl (by decide) hq1 rfl ?_
          refine At.go (q := xm160) rfl 1 (pc' := 113) (L' := [(5, .int va), (4, .int (Int32.ofNat c)), (3, .int (Int32.ofNat a)), (0, .ref q), (2, .int (Int32.ofNat size)), (1, .int fm)]) (st' := [.int (Int32.ofNat c), .ref pa, .int (Int32.ofNat a), .ref pa]) rfl ?_
          refine At.al rfl hpa1 (by decide) rfl (iN_nn (by omega)) (by rw [iN_tn (by omega), List.getElem?_map, hvc]; rfl) ?_
          refine At.as (j := Int32.ofNat a) rfl hpa1 (by decide) rfl (iN_nn (by omega)) (by rw [iN_tn (by omega), List.length_map]; omega) ?_
          rw [iN_tn (by omega)]
          have e1 : (hPs hq pa ps).set pa (.inl (18, (ps.map Value.int).set a (.int vc))) = hPs hq pa (ps.set a vc) := by unfold hPs; rw [List.set_set, ← List.map_set]
          show At S 5 160 115 _ [] ((hPs hq pa ps).set pa (.inl (18, (ps.map Value.int).set a (.int vc)))) _ _ _
          rw [e1]
          have hq2 : (hPs hq pa (ps.set a vc))[q]? = some (.inr (7, [.ref st, .ref mn, .ref l1, .ref l2, .ref pa, .int pn, .ref li, .int kp, .int off, .int so, .int dn, .ref ln, .int lc, .int wd])) := xs_ne (xn_ar hpa0 hq0) hq0
          have hpa2 : (hPs hq pa (ps.set a vc))[pa]? = some (.inl (18, (ps.set a vc).map Value.int)) := xs_eq hpa0
          refine At.go (q := xm160) rfl 1 (pc' := 116) (L' := [(5, .int va), (4, .int (Int32.ofNat c)), (3, .int (Int32.ofNat a)), (0, .ref q), (2, .int (Int32.ofNat size)), (1, .int fm)]) (st' := [.ref q]) rfl ?_
          refine At.gf rfl (by decide) hq2 rfl ?_
          refine At.go (q := xm160) rfl 2 (pc' := 123) (L' := [(5, .int va), (4, .int (Int32.ofNat c)), (3, .int (Int32.ofNat a)), (0, .ref q), (2, .int (Int32.ofNat size)), (1, .int fm)]) (st' := [.int va, .int (Int32.ofNat c), .ref pa]) rfl ?_
          refine At.as (j := Int32.ofNat c) rfl hpa2 (by decide) rfl (iN_nn (by omega)) (by rw [iN_tn (by omega), List.length_map, List.length_set]; omega) ?_
          rw [iN_tn (by omega)]
          have e2 : (hPs hq pa (ps.set a vc)).set pa (.inl (18, ((ps.set a vc).map Value.int).set c (.int va))) = hPs hq pa ((ps.set a vc).set c va) := by unfold hPs; rw [List.set_set, ← List.map_set]
          show At S 5 160 124 _ [] ((hPs hq pa (ps.set a vc)).set pa (.inl (18, ((ps.set a vc).map Value.int).set c (.int va)))) _ _ _
          rw [e2]
          refine At.go (q := xm160) rfl 1 (pc' := 126) (L' := [(5, .int va), (4, .int (Int32.ofNat c)), (3, .int (Int32.ofNat a)), (0, .ref q), (2, .int (Int32.ofNat size)), (1, .int fm)]) (st' := [.int (Int32.ofNat c)]) rfl ?_
          refine At.go (q := xm160) rfl 1 (pc' := 127) (L' := [(3, .int (Int32.ofNat c)), (5, .int va), (4, .int (Int32.ofNat c)), (0, .ref q), (2, .int (Int32.ofNat size)), (1, .int fm)]) (st' := []) rfl ?_
          refine At.go (q := xm160) rfl 1 (pc' := 128) (L' := [(3, .int (Int32.ofNat c)), (5, .int va), (4, .int (Int32.ofNat c)), (0, .ref q), (2, .int (Int32.ofNat size)), (1, .int fm)]) (st' := [.int 2]) rfl ?_
          refine At.go (q := xm160) rfl 1 (pc' := 129) (L' := [(3, .int (Int32.ofNat c)), (5, .int va), (4, .int (Int32.ofNat c)), (0, .ref q), (2, .int (Int32.ofNat size)), (1, .int fm)]) (st' := [.int (Int32.ofNat c), .int 2]) rfl ?_
          refine At.go (q := xm160) rfl 1 (pc' := 130) (L' := [(3, .int (Int32.ofNat c)), (5, .int va), (4, .int (Int32.ofNat c)), (0, .ref q), (2, .int (Int32.ofNat size)), (1, .int fm)]) (st' := [.int (2 * (Int32.ofNat c))]) rfl ?_
          refine At.go (q := xm160) rfl 1 (pc' := 131) (L' := [(3, .int (Int32.ofNat c)), (5, .int va), (4, .int (Int32.ofNat c)), (0, .ref q), (2, .int (Int32.ofNat size)), (1, .int fm)]) (st' := [.int 1, .int (2 * (Int32.ofNat c))]) rfl ?_
          refine At.go (q := xm160) rfl 1 (pc' := 132) (L' := [(3, .int (Int32.ofNat c)), (5, .int va), (4, .int (Int32.ofNat c)), (0, .ref q), (2, .int (Int32.ofNat size)), (1, .int fm)]) (st' := [.int ((2 * (Int32.ofNat c)) + 1)]) rfl ?_
          refine At.go (q := xm160) rfl 1 (pc' := 134) (L' := [(4, .int ((2 * (Int32.ofNat c)) + 1)), (3, .int (Int32.ofNat c)), (5, .int va), (0, .ref q), (2, .int (Int32.ofNat size)), (1, .int fm)]) (st' := []) rfl ?_
          refine At.go (q := xm160) rfl 1 (pc' := 9) (L' := [(4, .int ((2 * (Int32.ofNat c)) + 1)), (3, .int (Int32.ofNat c)), (5, .int va), (0, .ref q), (2, .int (Int32.ofNat size)), (1, .int fm)]) (st' := []) rfl ?_
          rw [show (2 : Int32) * Int32.ofNat c + 1 = Int32.ofNat (2 * c + 1) from by rw [Int32.ofNat_add, Int32.ofNat_mul]; rfl]
          refine At.wk (L' := [(4, .int (Int32.ofNat (2 * c + 1))), (3, .int (Int32.ofNat c)), (0, .ref q), (2, .int (Int32.ofNat size)), (1, .int fm)]) (List.forall_mem_cons.mpr ⟨List.mem_of_getElem? (i := 0) rfl, (List.forall_mem_cons.mpr ⟨List.mem_of_getElem? (i := 1) rfl, (List.forall_mem_cons.mpr ⟨List.mem_of_getElem? (i := 3) rfl, (List.forall_mem_cons.mpr ⟨List.mem_of_getElem? (i := 4) rfl, (List.forall_mem_cons.mpr ⟨List.mem_of_getElem? (i := 5) rfl, (fun _ h => (List.not_mem_nil h).elim)⟩)⟩)⟩)⟩)⟩) (show ([4, 3, 5, 0, 2, 1] : List Nat).Nodup by decide) ?_
          refine ih c ((ps.set a vc).set c va) fm (by omega) (by rw [List.length_set, List.length_set]; exact hsz) (by rw [List.length_set, List.length_set]; exact hl) (by omega) (fun i v hi hv => ?_)
          rw [List.getElem?_set] at hv
          split at hv
          · split at hv
            · cases hv; exact hV a va (by omega) hva
            · cases hv
          · rw [List.getElem?_set] at hv
            split at hv
            · split at hv
              · cases hv; exact hV c vc hcs hvc
              · cases hv
            · exact hV i v hi hv
        · rw [if_neg (fun h => of_decide_eq_false h90 (cmpI_neg.mpr h))]
          exact At.rt rfl rfl rfl
      refine At.go (q := xm160) rfl 1 (pc' := 11) (L' := [(4, .int (Int32.ofNat (2 * a + 1))), (3, .int (Int32.ofNat a)), (0, .ref q), (2, .int (Int32.ofNat size)), (1, .int fm)]) (st' := [.int (Int32.ofNat (2 * a + 1))]) rfl ?_
      refine At.ic1 (tgt := 137) rfl rfl (fun h => absurd (h.symm.trans (decide_eq_false (iN_nn (by omega)))) (by decide)) (fun _ => ?_)
      refine At.go (q := xm160) rfl 2 (pc' := 17) (L' := [(4, .int (Int32.ofNat (2 * a + 1))), (3, .int (Int32.ofNat a)), (0, .ref q), (2, .int (Int32.ofNat size)), (1, .int fm)]) (st' := [.int (Int32.ofNat size), .int (Int32.ofNat (2 * a + 1))]) rfl ?_
      refine At.ic2 (tgt := 137) rfl rfl (fun h => absurd ((iN_le (a := size) (b := 2 * a + 1) (by omega) (by omega)).mp (of_decide_eq_true h)) (by omega)) (fun _ => ?_)
      refine At.go (q := xm160) rfl 2 (pc' := 22) (L' := [(4, .int (Int32.ofNat (2 * a + 1))), (3, .int (Int32.ofNat a)), (0, .ref q), (2, .int (Int32.ofNat size)), (1, .int fm)]) (st' := [.ref q, .int (Int32.ofNat size)]) rfl ?_
      refine At.gf rfl (by decide) hq1 rfl ?_
      refine At.ln rfl hpa1 ?_
      rw [List.length_map]
      refine At.ic2 (tgt := 137) rfl rfl (fun h => absurd (of_decide_eq_true h) (fun h => absurd ((iN_lt (a := ps.length) (b := size) (by omega) (by omega)).mp h) (by omega))) (fun _ => ?_)
      refine At.go (q := xm160) rfl 4 (pc' := 34) (L' := [(4, .int (Int32.ofNat (2 * a + 1))), (3, .int (Int32.ofNat a)), (0, .ref q), (2, .int (Int32.ofNat size)), (1, .int fm)]) (st' := [.int (Int32.ofNat size), .int ((Int32.ofNat (2 * a + 1)) + 1)]) rfl ?_
      rw [iN_s]
      refine At.ic2 (tgt := 63) rfl rfl (fun h34 => ?_) (fun h34 => ?_)
      · have hn2 : ¬ 2 * a + 2 < size := fun h => absurd ((iN_le (a := size) (b := 2 * a + 1 + 1) (by omega) (by omega)).mp (of_decide_eq_true h34)) (by omega)
        exact main (2 * a + 1) (by unfold sinkC; rw [if_neg (fun h => hn2 h.1)]) (by omega) hc
      · have hn2 : 2 * a + 2 < size := Nat.lt_of_not_le (fun h => of_decide_eq_false h34 ((iN_le (a := size) (b := 2 * a + 1 + 1) (by omega) (by omega)).mpr (by omega)))
        obtain ⟨v2, hv2⟩ : ∃ v, ps[2 * a + 2]? = some v := ⟨_, List.getElem?_eq_getElem (by omega)⟩
        refine At.go (q := xm160) rfl 2 (pc' := 39) (L' := [(4, .int (Int32.ofNat (2 * a + 1))), (3, .int (Int32.ofNat a)), (0, .ref q), (2, .int (Int32.ofNat size)), (1, .int fm)]) (st' := [.ref q, .ref q]) rfl ?_
        refine At.gf rfl (by decide) hq1 rfl ?_
        refine At.go (q := xm160) rfl 1 (pc' := 44) (L' := [(4, .int (Int32.ofNat (2 * a + 1))), (3, .int (Int32.ofNat a)), (0, .ref q), (2, .int (Int32.ofNat size)), (1, .int fm)]) (st' := [.int (Int32.ofNat (2 * a + 1)), .ref pa, .ref q]) rfl ?_
        refine At.al rfl hpa1 (by decide) rfl (iN_nn (by omega)) (by rw [iN_tn (by omega), List.getElem?_map, hv1]; rfl) ?_
        refine At.go (q := xm160) rfl 1 (pc' := 46) (L' := [(4, .int (Int32.ofNat (2 * a + 1))), (3, .int (Int32.ofNat a)), (0, .ref q), (2, .int (Int32.ofNat size)), (1, .int fm)]) (st' := [.ref q, .int v1, .ref q]) rfl ?_
        refine At.gf rfl (by decide) hq1 rfl ?_
        refine At.go (q := xm160) rfl 3 (pc' := 53) (L' := [(4, .int (Int32.ofNat (2 * a + 1))), (3, .int (Int32.ofNat a)), (0, .ref q), (2, .int (Int32.ofNat size)), (1, .int fm)]) (st' := [.int ((Int32.ofNat (2 * a + 1)) + 1), .ref pa, .int v1, .ref q]) rfl ?_
        refine At.al rfl hpa1 (by decide) rfl (by rw [iN_s]; exact iN_nn (by omega)) (by rw [iN_s, iN_tn (by omega), List.getElem?_map, hv2]; rfl) ?_
        refine At.clp (as := [.ref q, .int v1, .int v2]) (rest := []) rfl (by decide) rfl (Nat.le_of_ble_eq_true rfl) (Nat.le_of_ble_eq_true rfl) (xrck_o (by decide) (by decide) hq1 (by decide)) (Nat.le_of_ble_eq_true rfl) (hcmp ps v1 v2 (hV _ v1 (by omega) hv1) (hV _ v2 (by omega) hv2)) ?_
        refine At.ic1 (tgt := 63) rfl rfl (fun h57 => ?_) (fun h57 => ?_)
        · exact main (2 * a + 1) (by unfold sinkC; rw [hv1, hv2, if_neg (fun h => absurd (cmpI_neg.mpr h.2) (Int32.not_lt.mpr (of_decide_eq_true h57)))]) (by omega) hc
        · refine At.go (q := xm160) rfl 1 (pc' := 63) (L' := [(4, .int ((Int32.ofNat (2 * a + 1)) + 1)), (3, .int (Int32.ofNat a)), (0, .ref q), (2, .int (Int32.ofNat size)), (1, .int fm)]) (st' := []) rfl ?_
          rw [iN_s]
          exact main (2 * a + 2) (by unfold sinkC; rw [hv1, hv2, if_pos ⟨hn2, cmpI_neg.mp (Int32.not_le.mp (of_decide_eq_false h57))⟩]) (by omega) hn2
    · rw [if_neg hc]
      refine At.go (q := xm160) rfl 1 (pc' := 11) (L' := [(4, .int (Int32.ofNat (2 * a + 1))), (3, .int (Int32.ofNat a)), (0, .ref q), (2, .int (Int32.ofNat size)), (1, .int fm)]) (st' := [.int (Int32.ofNat (2 * a + 1))]) rfl ?_
      refine At.ic1 (tgt := 137) rfl rfl (fun h => absurd (h.symm.trans (decide_eq_false (iN_nn (by omega)))) (by decide)) (fun _ => ?_)
      refine At.go (q := xm160) rfl 2 (pc' := 17) (L' := [(4, .int (Int32.ofNat (2 * a + 1))), (3, .int (Int32.ofNat a)), (0, .ref q), (2, .int (Int32.ofNat size)), (1, .int fm)]) (st' := [.int (Int32.ofNat size), .int (Int32.ofNat (2 * a + 1))]) rfl ?_
      refine At.ic2 (tgt := 137) rfl rfl (fun _ => ?_) (fun h => absurd (decide_eq_true ((iN_le (a := size) (b := 2 * a + 1) (by omega) (by omega)).mpr (by omega))) (by rw [show decide (Int32.ofNat size ≤ Int32.ofNat (2 * a + 1)) = false from h]; decide))
      exact At.rt rfl rfl rfl
/-- sink -/
theorem m_sink {S : List Int32} {hq : List XC} {q st mn l1 l2 pa li ln : Nat} {pn kp off so dn lc wd : Int32} {key : Int32 → Int32} {V : Int32 → Prop} {p0 : List Int32} {size : Nat} (hq0 : hq[q]? = some (.inr (7, [.ref st, .ref mn, .ref l1, .ref l2, .ref pa, .int pn, .ref li, .int kp, .int off, .int so, .int dn, .ref ln, .int lc, .int wd]))) (hpa0 : hq[pa]? = some (.inl (18, p0.map Value.int))) (hcmp : ∀ (ps : List Int32) (x1 x2 : Int32), V x1 → V x2 → Pu S 4 161 [.ref q, .int x1, .int x2] (hPs hq pa ps) (.int (cmpI (key x1) (key x2)))) {a : Nat} {ps : List Int32} (hsz : size ≤ ps.length) (hl : ps.length ≤ 40000) (hal : a ≤ 40000) (hV : ∀ (i : Nat) (v : Int32), i < size → ps[i]? = some v → V v) : Me S 5 160 [.ref q, .int (Int32.ofNat a), .int (Int32.ofNat size)] (hPs hq pa ps) (fun v hp' c s => v = none ∧ hp' = hPs hq pa (sinkE key size size a ps) ∧ c = 0 ∧ s = 0) := by
  refine At.go (q := xm160) rfl 8 (pc' := 9) (L' := [(4, .int ((2 * (Int32.ofNat a)) + 1)), (3, .int (Int32.ofNat a)), (0, .ref q), (1, .int (Int32.ofNat a)), (2, .int (Int32.ofNat size))]) (st' := []) rfl ?_
  rw [show (2 : Int32) * Int32.ofNat a + 1 = Int32.ofNat (2 * a + 1) from by rw [Int32.ofNat_add, Int32.ofNat_mul]; rfl]
  refine At.wk (L' := [(4, .int (Int32.ofNat (2 * a + 1))), (3, .int (Int32.ofNat a)), (0, .ref q), (2, .int (Int32.ofNat size)), (1, .int (Int32.ofNat a))]) (List.forall_mem_cons.mpr ⟨List.mem_of_getElem? (i := 0) rfl, (List.forall_mem_cons.mpr ⟨List.mem_of_getElem? (i := 1) rfl, (List.forall_mem_cons.mpr ⟨List.mem_of_getElem? (i := 2) rfl, (List.forall_mem_cons.mpr ⟨List.mem_of_getElem? (i := 4) rfl, (List.forall_mem_cons.mpr ⟨List.mem_of_getElem? (i := 3) rfl, (fun _ h => (List.not_mem_nil h).elim)⟩)⟩)⟩)⟩)⟩) (show ([4, 3, 0, 1, 2] : List Nat).Nodup by decide) ?_
  refine (sink_loop hq0 hpa0 hcmp size a ps _ (by omega) hsz hl hal hV).mono (fun o ho => ?_)
  exact ⟨_, _, _, _, ho, rfl, rfl, rfl, rfl⟩
