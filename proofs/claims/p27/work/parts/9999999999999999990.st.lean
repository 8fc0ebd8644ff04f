/-! steps of the law, from two houses, the law and a text to the same (by hand) -/
theorem lgc_self (a : Int64) : lg_cmp a a = 0 := by
  unfold lg_cmp
  rw [if_neg (fun h => by
    have h9 := Int64.lt_iff_toInt_lt.mp h
    omega), if_pos rfl]
theorem lgc_neg {a : Int64} (h : lg_cmp a 0 < 0) : a < 0 := by
  unfold lg_cmp at h
  split at h
  · exact absurd h (by decide)
  · rename_i h1
    split at h
    · exact absurd h (by decide)
    · rename_i h2
      refine Int64.lt_iff_toInt_lt.mpr ?_
      have h3 : ¬ (0 : Int64).toInt < a.toInt := fun k => h1 (Int64.lt_iff_toInt_lt.mpr k)
      have h4 : ¬ a.toInt = (0 : Int64).toInt := fun k => h2 (Int64.toInt_inj.mp k)
      omega
theorem lgc_nn {a : Int64} (h : ¬ lg_cmp a 0 < 0) : ¬ a < 0 := fun k => h (by
  have k9 := Int64.lt_iff_toInt_lt.mp k
  unfold lg_cmp
  rw [if_neg (fun h => by
    have h9 := Int64.lt_iff_toInt_lt.mp h
    omega), if_neg (fun h => by
    rw [h] at k9
    omega)]
  decide)
section
variable {S : List Int32} {A B : Nat → Nat} {L la io : Nat} {h0 hp hp' : List XC} {ow0 ow ow' : Nat → Nat} {M N : HM} {lbs ops : List Int32} {top : Int32} {dt pc ps c s K J c2 s2 pc' ps' : Nat} {ds : List Nat} {t : Value}
theorem W2.lk (W : W2 A B L la io hp ow M N lbs ops top dt pc ps) : ∃ (tt sd : Int32) (fx fy : List Value), hp[L]? = some (.inr (15, [.retAddr 226, .int tt, .int sd, .ref (A 0), .ref (B 0), .ref la, .ref io, .int top])) ∧ hp[la]? = some (.inl (0, lbs.map Value.int)) ∧ hp[io]? = some (.inl (3, ops.map Value.int)) ∧ hp[A 0]? = some (.inr (14, fx)) ∧ hp[B 0]? = some (.inr (14, fy)) ∧ lbs.length = 8 ∧ ops.length = 8 := by
  obtain ⟨rx, ry, px, lx, py, ly, hx, hy, ⟨⟨t, sd, h1, h2, h3⟩, h4, h5, h6, h7, o1, o2, o3⟩, e1, e2⟩ := W
  exact ⟨_, _, _, _, h3, h4, h6, hx.2.2.1, hy.2.2.1, h5, h7⟩
theorem S2T.lk (h : S2T A B L la io h0 hp ow0 M N lbs ops top dt pc ps c s K J t ds) : ∃ (tt sd : Int32) (fx fy : List Value), hp[L]? = some (.inr (15, [.retAddr 226, .int tt, .int sd, .ref (A 0), .ref (B 0), .ref la, .ref io, .int top])) ∧ hp[la]? = some (.inl (0, lbs.map Value.int)) ∧ hp[io]? = some (.inl (3, ops.map Value.int)) ∧ hp[A 0]? = some (.inr (14, fx)) ∧ hp[B 0]? = some (.inr (14, fy)) ∧ lbs.length = 8 ∧ ops.length = 8 := by
  obtain ⟨ow', pc', ps', a1, W, -⟩ := h
  exact W.lk
theorem S2T.tx (h : S2T A B L la io h0 hp ow0 M N lbs ops top dt pc ps c s K J t ds) : ∃ ow, hTn9 hp ow t ds := by
  obtain ⟨ow', pc', ps', a1, W, f, hT, -⟩ := h
  exact ⟨ow', hT⟩
theorem S2T.to2 (h : S2T A B L la io h0 hp ow0 M N lbs ops top dt pc ps c s K J t ds) : S2 A B L la io h0 hp ow0 M N lbs ops top dt pc ps c s K J := by
  obtain ⟨ow', pc', ps', a1, W, f, hT, e1, e2⟩ := h
  exact ⟨ow', pc', ps', a1, W, f, e1, e2⟩
/-- one step behind others -/
theorem S2T.cmp {M2 N2 : HM} {lbs2 ops2 : List Int32} {top2 : Int32} {dt2 K2 J2 : Nat} (hw : ∀ x, x < h0.length → ow' x = ow0 x) (f : FrX (fun x => ow0 x < 3000) h0 hp) (hT : hTn9 hp ow' t ds) (e1 : c + pc ≤ pc' + K) (e2 : s + ps ≤ ps' + J) (k : S2 A B L la io hp hp' ow' M2 N2 lbs2 ops2 top2 dt2 pc' ps' c2 s2 K2 J2) : S2T A B L la io h0 hp' ow0 M2 N2 lbs2 ops2 top2 dt2 pc ps (c + c2) (s + s2) (K + K2) (J + J2) t ds := by
  obtain ⟨ow2, pc2, ps2, w2, W', f2, e3, e4⟩ := k
  refine ⟨ow2, pc2, ps2, fun x hx => (w2 x (Nat.lt_of_lt_of_le hx f.1)).trans (hw x hx), W', FrX.tr f f2 (fun x hx => ?_), hT.fr f2 w2, by omega, by omega⟩
  rcases Nat.lt_or_ge x h0.length with hl | hl
  · have hx' : ow' x < 3000 := hx
    rw [hw x hl] at hx'
    exact Or.inl hx'
  · exact Or.inr hl
theorem S2T.thn {d9 y9 dt2 K2 J2 : Nat} {as : List Value} {P : Option Value → HM → HM → Prop} (h : S2T A B L la io h0 hp ow0 M N lbs ops top dt pc ps c s K J t ds) (hm : ∀ ow pc ps, W2 A B L la io hp ow M N lbs ops top dt pc ps → hTn9 hp ow t ds → Me S d9 y9 as hp (fun v hp' c s => ∃ M2 N2, P v M2 N2 ∧ S2 A B L la io hp hp' ow M2 N2 lbs ops top dt2 pc ps c s K2 J2)) : Me S d9 y9 as hp (fun v hp' c2 s2 => ∃ M2 N2, P v M2 N2 ∧ S2T A B L la io h0 hp' ow0 M2 N2 lbs ops top dt2 pc ps (c + c2) (s + s2) (K + K2) (J + J2) t ds) := by
  obtain ⟨ow', pc', ps', hw, W, f, hT, e1, e2⟩ := h
  refine me_imp (hm ow' pc' ps' W hT) (fun v hp' c2 s2 k => ?_)
  obtain ⟨M2, N2, k1, k2⟩ := k
  exact ⟨M2, N2, k1, S2T.cmp hw f hT e1 e2 k2⟩
/-- a step after which the models are the same -/
theorem S2T.same {d9 y9 dt2 K2 J2 : Nat} {as : List Value} {P : Option Value → Prop} (h : S2T A B L la io h0 hp ow0 M N lbs ops top dt pc ps c s K J t ds) (hm : ∀ ow pc ps, W2 A B L la io hp ow M N lbs ops top dt pc ps → Me S d9 y9 as hp (fun v hp' c s => P v ∧ S2 A B L la io hp hp' ow M N lbs ops top dt2 pc ps c s K2 J2)) : Me S d9 y9 as hp (fun v hp' c2 s2 => P v ∧ S2T A B L la io h0 hp' ow0 M N lbs ops top dt2 pc ps (c + c2) (s + s2) (K + K2) (J + J2) t ds) := by
  obtain ⟨ow', pc', ps', hw, W, f, hT, e1, e2⟩ := h
  refine me_imp (hm ow' pc' ps' W) (fun v hp' c2 s2 k => ?_)
  exact ⟨k.1, S2T.cmp hw f hT e1 e2 k.2⟩
theorem S2T.draw {m9 : Nat} (h : S2T A B L la io h0 hp ow0 M N lbs ops top dt pc ps c s K J t ds) (hd : dt + 1 ≤ 100000) (hS : S.length ≤ 1000) (hm : 0 < m9) (hm2 : m9 ≤ 1000) : Me S 1 15 [.ref L, .int (Int32.ofNat m9)] hp (fun v hp' c2 s2 => (∃ n, n < m9 ∧ v = some (.int (Int32.ofNat n))) ∧ S2T A B L la io h0 hp' ow0 M N lbs ops top (dt + 1) pc ps (c + c2) (s + s2) K J t ds) :=
  h.same (K2 := 0) (J2 := 0) (P := fun v => ∃ n, n < m9 ∧ v = some (.int (Int32.ofNat n))) (fun ow pc ps W => me_imp (m_draw W hd hS hm hm2) (fun v hp' c s k => by
    obtain ⟨n, k1, k2, k3⟩ := k
    exact ⟨⟨n, k1, k2⟩, k3⟩))
theorem S2T.pu {d9 y9 : Nat} {as : List Value} {v : Value} (h : S2T A B L la io h0 hp ow0 M N lbs ops top dt pc ps c s K J t ds) (hm : ∀ ow pc ps, W2 A B L la io hp ow M N lbs ops top dt pc ps → Pu S d9 y9 as hp v) : Pu S d9 y9 as hp v := by
  obtain ⟨ow', pc', ps', hw, W, -⟩ := h
  exact hm ow' pc' ps' W
theorem S2T.of (W : W2 A B L la io hp ow M N lbs ops top dt pc ps) : S2T A B L la io hp hp ow M N lbs ops top dt pc ps 0 0 0 0 (.retAddr 75) [] := (S2.same W).tx (fun _ _ => hTnK (vk := 76) rfl rfl (ds := []) (by decide) (by decide))
theorem S2T.mono2 {dt2 K2 J2 : Nat} (h : S2T A B L la io h0 hp ow0 M N lbs ops top dt pc ps c s K J t ds) (h1 : dt ≤ dt2) (h2 : dt2 ≤ 100000) (h3 : K ≤ K2) (h4 : J ≤ J2) : S2T A B L la io h0 hp ow0 M N lbs ops top dt2 pc ps c s K2 J2 t ds := S2T.mono h h1 h2 h3 h4
/-- another text -/
theorem S2T.tx2 {t2 : Value} {ds2 : List Nat} (h : S2T A B L la io h0 hp ow0 M N lbs ops top dt pc ps c s K J t ds) (hT : ∀ hp ow, hTn9 hp ow t2 ds2) : S2T A B L la io h0 hp ow0 M N lbs ops top dt pc ps c s K J t2 ds2 := h.to2.tx hT
/-- a text that a method of the law answers -/
theorem S2T.get {y9 d9 dt2 K2 J2 : Nat} {as : List Value} {P : List Nat → Prop} (h : S2T A B L la io h0 hp ow0 M N lbs ops top dt pc ps c s K J t ds) (hm : ∀ (ow : Nat → Nat) (pc ps : Nat), W2 A B L la io hp ow M N lbs ops top dt pc ps → Me S d9 y9 as hp (fun v hp' c s => ∃ t ds, v = some t ∧ P ds ∧ S2T A B L la io hp hp' ow M N lbs ops top dt2 pc ps c s K2 J2 t ds)) : Me S d9 y9 as hp (fun v hp' c2 s2 => ∃ t ds, v = some t ∧ P ds ∧ S2T A B L la io h0 hp' ow0 M N lbs ops top dt2 pc ps (c + c2) (s + s2) (K + K2) (J + J2) t ds) := by
  obtain ⟨ow', pc', ps', hw, W, f, hT, e1, e2⟩ := h
  refine me_imp (hm ow' pc' ps' W) (fun v hp' c2 s2 k => ?_)
  obtain ⟨t2, ds2, k1, k2, ow2, pc2, ps2, w2, W', f2, hT2, e3, e4⟩ := k
  refine ⟨t2, ds2, k1, k2, ow2, pc2, ps2, fun x hx => (w2 x (Nat.lt_of_lt_of_le hx f.1)).trans (hw x hx), W', FrX.tr f f2 (fun x hx => ?_), hT2, by omega, by omega⟩
  rcases Nat.lt_or_ge x h0.length with hl | hl
  · have hx' : ow' x < 3000 := hx
    rw [hw x hl] at hx'
    exact Or.inl hx'
  · exact Or.inr hl
/-! a label, or what is open, is written -/
theorem FrX.xk {hp : List XC} {a k : Nat} {es es' : List Value} (h : hp[a]? = some (.inl (k, es))) (h7 : xL7 (.inl (k, es)) = false) (h8 : xL7 (.inl (k, es')) = false) (hi : xim (.inl (k, es)) = false) : FrX (fun x => x = a) hp (hp.set a (.inl (k, es'))) := FrX.st h rfl h7 h8 hi (fun fs e => by cases e) (fun ci fs e => by cases e)
theorem W2.setl {i : Nat} {x : Int32} (W : W2 A B L la io hp ow M N lbs ops top dt pc ps) : S2 A B L la io hp (hp.set la (.inl (0, (lbs.map Value.int).set i (.int x)))) ow M N (lbs.set i x) ops top dt pc ps 0 0 0 0 := by
  obtain ⟨rx, ry, px, lx, py, ly, hx, hy, ⟨⟨t, sd, h1, h2, h3⟩, h4, h5, h6, h7, o1, o2, o3⟩, e1, e2⟩ := W
  have f : FrX (fun x => x = la) hp (hp.set la (.inl (0, (lbs.map Value.int).set i (.int x)))) := FrX.xk h4 rfl rfl rfl
  have f9 : FrX (fun a => (fun n => n = 2001) (ow a)) hp (hp.set la (.inl (0, (lbs.map Value.int).set i (.int x)))) := f.mono (fun a _ ha => by
    show ow a = 2001
    rw [show a = la from ha]
    exact o2)
  obtain ⟨hx', ex⟩ := hx.off f9 (fun _ _ => rfl) (fun n h1 h2 h9 => by have h9' : n = 2001 := h9; omega)
  obtain ⟨hy', ey⟩ := hy.off f9 (fun _ _ => rfl) (fun n h1 h2 h9 => by have h9' : n = 2001 := h9; omega)
  refine ⟨ow, pc, ps, fun _ _ => rfl, ⟨rx, ry, px, lx, py, ly, hx', hy', ⟨⟨t, sd, h1, h2, f.ob h3 (by decide) (fun e => ?_)⟩, ?_, by rw [List.length_set]; exact h5, f.ar h6 (by decide) (fun e => ?_), h7, o1, o2, o3⟩, by rw [ex, ey]; exact e1, by rw [ex, ey]; exact e2⟩, f.mono (fun a _ ha => ?_), by omega, by omega⟩
  · have e9 : L = la := e
    rw [e9, o2] at o1
    exact absurd o1 (by decide)
  · rw [List.map_set]
    exact xs_eq h4
  · have e9 : io = la := e
    rw [e9, o2] at o3
    exact absurd o3 (by decide)
  · show ow a < 3000
    rw [show a = la from ha, o2]
    decide
theorem W2.seto {i : Nat} {x : Int32} (W : W2 A B L la io hp ow M N lbs ops top dt pc ps) : S2 A B L la io hp (hp.set io (.inl (3, (ops.map Value.int).set i (.int x)))) ow M N lbs (ops.set i x) top dt pc ps 0 0 0 0 := by
  obtain ⟨rx, ry, px, lx, py, ly, hx, hy, ⟨⟨t, sd, h1, h2, h3⟩, h4, h5, h6, h7, o1, o2, o3⟩, e1, e2⟩ := W
  have f : FrX (fun x => x = io) hp (hp.set io (.inl (3, (ops.map Value.int).set i (.int x)))) := FrX.xk h6 rfl rfl rfl
  have f9 : FrX (fun a => (fun n => n = 2002) (ow a)) hp (hp.set io (.inl (3, (ops.map Value.int).set i (.int x)))) := f.mono (fun a _ ha => by
    show ow a = 2002
    rw [show a = io from ha]
    exact o3)
  obtain ⟨hx', ex⟩ := hx.off f9 (fun _ _ => rfl) (fun n h1 h2 h9 => by have h9' : n = 2002 := h9; omega)
  obtain ⟨hy', ey⟩ := hy.off f9 (fun _ _ => rfl) (fun n h1 h2 h9 => by have h9' : n = 2002 := h9; omega)
  refine ⟨ow, pc, ps, fun _ _ => rfl, ⟨rx, ry, px, lx, py, ly, hx', hy', ⟨⟨t, sd, h1, h2, f.ob h3 (by decide) (fun e => ?_)⟩, f.ar h4 (by decide) (fun e => ?_), h5, ?_, by rw [List.length_set]; exact h7, o1, o2, o3⟩, by rw [ex, ey]; exact e1, by rw [ex, ey]; exact e2⟩, f.mono (fun a _ ha => ?_), by omega, by omega⟩
  · have e9 : L = io := e
    rw [e9, o3] at o1
    exact absurd o1 (by decide)
  · have e9 : la = io := e
    rw [e9, o3] at o2
    exact absurd o2 (by decide)
  · rw [List.map_set]
    exact xs_eq h6
  · show ow a < 3000
    rw [show a = io from ha, o3]
    decide
theorem S2T.setl {i : Nat} {x : Int32} (h : S2T A B L la io h0 hp ow0 M N lbs ops top dt pc ps c s K J t ds) : S2T A B L la io h0 (hp.set la (.inl (0, (lbs.map Value.int).set i (.int x)))) ow0 M N (lbs.set i x) ops top dt pc ps c s K J t ds := by
  obtain ⟨ow', pc', ps', hw, W, f, hT, e1, e2⟩ := h
  exact S2T.cmp hw f hT e1 e2 (W.setl (i := i) (x := x))
theorem S2T.seto {i : Nat} {x : Int32} (h : S2T A B L la io h0 hp ow0 M N lbs ops top dt pc ps c s K J t ds) : S2T A B L la io h0 (hp.set io (.inl (3, (ops.map Value.int).set i (.int x)))) ow0 M N lbs (ops.set i x) top dt pc ps c s K J t ds := by
  obtain ⟨ow', pc', ps', hw, W, f, hT, e1, e2⟩ := h
  exact S2T.cmp hw f hT e1 e2 (W.seto (i := i) (x := x))
/-! what the houses are asked -/
theorem mS_self {M : HM} {i : Nat} : mS M i (M.2.2.2.1 i) = M := by
  have e : (fun j => if j = i then M.2.2.2.1 i else M.2.2.2.1 j) = M.2.2.2.1 := funext fun j => by
    by_cases h : j = i
    · rw [if_pos h, h]
    · rw [if_neg h]
  show (M.1, M.2.1, M.2.2.1, (fun j => if j = i then M.2.2.2.1 i else M.2.2.2.1 j), M.2.2.2.2) = M
  rw [e]
theorem sl_self {s : SM} (h : s.2.2.2.2.2.2.2.1 = 0) : sLen s 0 = s := by
  unfold sLen
  rw [← h]
theorem q_erx {i : Nat} (W : W2 A B L la io hp ow M N lbs ops top dt pc ps) (hi : i < 8) (hz : LzM M) : Me S 1 29 [.ref (A 0), .int (Int32.ofNat i)] hp (fun v hp' c s => (∃ x, v = some (.int x)) ∧ S2 A B L la io hp hp' ow M N lbs ops top dt pc ps c s 0 0) :=
  me_imp (W.x (P := fun v M' => (∃ x, v = some (.int x)) ∧ M' = M) (fun rx px lx h => me_imp (h_erase h hi) (fun v hp' c s k => ⟨M, rx, ⟨⟨_, k.1⟩, rfl⟩, by
    have k2 := k.2
    rw [sl_self (hz i), mS_self] at k2
    exact k2⟩))) (fun v hp' c s k => by
    obtain ⟨M', ⟨k1, k2⟩, k3⟩ := k
    rw [k2] at k3
    exact ⟨k1, k3⟩)
theorem q_ery {i : Nat} (W : W2 A B L la io hp ow M N lbs ops top dt pc ps) (hi : i < 8) (hz : LzM N) : Me S 1 29 [.ref (B 0), .int (Int32.ofNat i)] hp (fun v hp' c s => (∃ x, v = some (.int x)) ∧ S2 A B L la io hp hp' ow M N lbs ops top dt pc ps c s 0 0) :=
  me_imp (W.y (P := fun v N' => (∃ x, v = some (.int x)) ∧ N' = N) (fun rx px lx h => me_imp (h_erase h hi) (fun v hp' c s k => ⟨N, rx, ⟨⟨_, k.1⟩, rfl⟩, by
    have k2 := k.2
    rw [sl_self (hz i), mS_self] at k2
    exact k2⟩))) (fun v hp' c s k => by
    obtain ⟨M', ⟨k1, k2⟩, k3⟩ := k
    rw [k2] at k3
    exact ⟨k1, k3⟩)
theorem q_seenx {i c9 d9 : Nat} (W : W2 A B L la io hp ow M N lbs ops top dt pc ps) (hW : WfH M c9 d9) (hd : d9 ≤ 30) (hi : i < 8) : Me S 9 258 [.ref (A 0), .int (Int32.ofNat i)] hp (fun v hp' c s => v = some (.int (Int32.ofNat (lookE (TIq M.2.2.2.2.2.2) (vwE M i) (M.2.2.2.1 i).1).length)) ∧ S2 A B L la io hp hp' ow M N lbs ops top dt pc ps c s 0 0) :=
  me_imp (x_seen W hW.1 hd hi) (fun v hp' c s k => by
    obtain ⟨M', ⟨k1, k2⟩, k3⟩ := k
    rw [k2] at k3
    exact ⟨k1, k3⟩)
theorem q_seeny {i c9 d9 n : Nat} (W : W2 A B L la io hp ow M N lbs ops top dt pc ps) (hW : WfH N c9 d9) (hd : d9 ≤ 30) (hi : i < 8) (he : (lookE (TIq N.2.2.2.2.2.2) (vwE N i) (N.2.2.2.1 i).1).length = n) : Me S 9 258 [.ref (B 0), .int (Int32.ofNat i)] hp (fun v hp' c s => v = some (.int (Int32.ofNat n)) ∧ S2 A B L la io hp hp' ow M N lbs ops top dt pc ps c s 0 0) :=
  me_imp (y_seen W hW.1 hd hi) (fun v hp' c s k => by
    obtain ⟨M', ⟨k1, k2⟩, k3⟩ := k
    rw [k2] at k3
    rw [he] at k1
    exact ⟨k1, k3⟩)
theorem q_ckx {i c9 d9 : Nat} {x : Int64} (W : W2 A B L la io hp ow M N lbs ops top dt pc ps) (hW : WfH M c9 d9) (hd : d9 ≤ 30) (hi : i < 8) (hz : LzM M) (hx : ckE M i = x) : Me S 9 244 [.ref (A 0), .int (Int32.ofNat i)] hp (fun v hp' c s => v = some (.long x) ∧ S2 A B L la io hp hp' ow M N lbs ops top dt pc ps c s 0 0) :=
  me_imp (x_ck W hW.1 hd hi (hz i)) (fun v hp' c s k => by
    obtain ⟨M', ⟨k1, k2⟩, k3⟩ := k
    rw [k2] at k3
    rw [hx] at k1
    exact ⟨k1, k3⟩)
theorem q_cky {i c9 d9 : Nat} {x : Int64} (W : W2 A B L la io hp ow M N lbs ops top dt pc ps) (hW : WfH N c9 d9) (hd : d9 ≤ 30) (hi : i < 8) (hz : LzM N) (hx : ckE N i = x) : Me S 9 244 [.ref (B 0), .int (Int32.ofNat i)] hp (fun v hp' c s => v = some (.long x) ∧ S2 A B L la io hp hp' ow M N lbs ops top dt pc ps c s 0 0) :=
  me_imp (y_ck W hW.1 hd hi (hz i)) (fun v hp' c s k => by
    obtain ⟨M', ⟨k1, k2⟩, k3⟩ := k
    rw [k2] at k3
    rw [hx] at k1
    exact ⟨k1, k3⟩)
end
