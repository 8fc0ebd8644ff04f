/-! the law over the abstract machine, and the claim out of it -/
/-- the law's run over the abstract machine: the constructor, then holdsAll, which answers 1, within the room -/
def xWin (S : List Int32) : Prop := ∃ (n1 n2 : Nat) (hp1 hp2 : List XC) (c1 s1 c2 s2 : Nat),
  xrun (xZ S) xMT n1 17 0 0 (lv_args 0 [.ref 0]) [] [.inr (15, xDF 15)] 0 0 = some (.inl (none, hp1, c1, s1)) ∧ (∃ fs, hp1[0]? = some (.inr (15, fs))) ∧
  xrun (xZ S) xMT n2 17 14 0 (lv_args 0 [.ref 0, .retAddr 226]) [] hp1 0 0 = some (.inl (some (.int 1), hp2, c2, s2)) ∧ 1 + c1 + c2 ≤ 600000 ∧ 8 + s1 + s2 ≤ 7300000
theorem xrow_of {z : XP} {MT : Nat → XM} {n d y : Nat} {L : List (Nat × Value)} {st : List Value} {hp : List XC} {nc ns pc : Nat} {o : XO} (h : xrun z MT n d y pc L st hp nc ns = some o) : ∃ pc8 e8, xmC (MT y) pc8 = some e8 := by
  cases n with
  | zero => cases h
  | succ n =>
    unfold xrun at h
    split at h
    · cases h
    · rename_i e8 hC8
      exact ⟨_, _, hC8⟩
theorem xw_own : Cond.classLink "LevelhouseLaw" 11 "LevelhouseLaw" ∈ xTB ∧ Cond.instantiable "LevelhouseLaw" 8 ∈ xTB ∧ Cond.initialized "LevelhouseLaw" ∈ xTB ∧ Cond.methodLink "LevelhouseLaw" 271 ⟨"LevelhouseLaw", "<init>", "()V"⟩ ∈ xTB ∧ Cond.instanceMethod ⟨"LevelhouseLaw", "<init>", "()V"⟩ ∈ xTB ∧ Cond.methodLink "LevelhouseLaw" 272 ⟨"LevelhouseLaw", "holdsAll", "([I)Z"⟩ ∈ xTB ∧ Cond.instanceMethod ⟨"LevelhouseLaw", "holdsAll", "([I)Z"⟩ ∈ xTB ∧ Cond.selects "LevelhouseLaw" ⟨"LevelhouseLaw", "holdsAll", "([I)Z"⟩ ⟨"LevelhouseLaw", "holdsAll", "([I)Z"⟩ ∈ xTB := by decide +kernel
theorem xi_0 : xMT 0 = xm0 := rfl
theorem xi_14 : xMT 14 = xm14 := rfl
theorem xb_ctor (S : List Int32) : xokb (xZ S) xMT xEX xCL xTB xST xNC "LevelhouseLaw" code 4 (32, .nop, 0, 1, .null, []) := ⟨271, by decide +kernel, Nat.le_refl 1, by decide +kernel, rfl, rfl, rfl, xw_own.2.2.2.1, xw_own.2.2.2.2.1, xw_own.2.2.1⟩
theorem xb_all (S : List Int32) : xokb (xZ S) xMT xEX xCL xTB xST xNC "LevelhouseLaw" code 8 (30, .nop, 14, 2, .null, [15]) := ⟨272, by decide +kernel, by decide, by decide +kernel, rfl, xw_own.2.2.2.2.2.1, xw_own.2.2.2.2.2.2.1, xw_own.2.2.1, fun ci hci => by rw [List.mem_singleton.mp hci]; exact ⟨_, rfl, xw_own.2.2.2.2.2.2.2⟩⟩
theorem xfl_at {args : Array Value} {s : State} (h : (Jvm.Cond.and given_1 narrow_1).before args s = true) : ∀ c ∈ xfl, c.before args s = true := flat_of_before _ h
set_option maxHeartbeats 4000000 in
theorem xstart {p : Program} {e : Env} {s : State} {m : MethodId} {below : List Frame} {meth : Method} {c : Code} (l : Launch) (hflags : l.flags = flags0) {b L : Nat} {xs : Nat → Int32} (hL : L ≤ 260) (C0 : lw_At p s m meth c b L xs) (hwin : ∀ S : List Int32, S.length ≤ 260 → xWin S) : W p l e room_1 s m #[Value.ref b] below meth c s.heap [] 0 0 (lw_Z below #[Value.ref b] s) (entryFrame m ([Value.ref b] : List Value).toArray 1) := by
  obtain ⟨hx, hb, hret, hml, hown, hts, hX, hbl, hlk, hgv⟩ := C0
  have hst9 : l.stackTraces = false := by
    unfold Launch.stackTraces
    rw [hflags]
    decide +kernel
  have h0 := xfl_at hgv
  obtain ⟨S, hS, hS2⟩ : ∃ S : List Int32, S.length = L ∧ ∀ j, j < L → S.getD j 0 = xs j := ⟨(List.range L).map xs, by rw [List.length_map, List.length_range], fun j hj => by rw [List.getD_eq_getElem?_getD, List.getElem?_map, List.getElem?_range hj]; rfl⟩
  obtain ⟨n1, n2, hp1, hp2, c1, s1, c2, s2, hr1, ⟨fs1, hfs1⟩, hr2, hc, hs⟩ := hwin S (by omega)
  have hrmc : 600000 ≤ room_1.cells := by decide
  have hrms : 7300000 ≤ room_1.slots := by decide
  obtain ⟨A, hAd⟩ : ∃ A : Nat → Prop, A = fun q => s.heap.size ≤ q := ⟨_, rfl⟩
  have hA : ∀ a : Nat, a < s.heap.size → ¬ A a := fun a ha h => by rw [hAd] at h; exact Nat.not_le.mpr ha h
  have hA2 : ∀ q, s.heap.size ≤ q → A q := fun q hq => by rw [hAd]; exact hq
  have htb := xTB_ok hts
  obtain ⟨D, da, hK⟩ := xK_at hts
  obtain ⟨ad, had⟩ : ∃ ad, ad = xad #[Value.ref b] s := ⟨_, rfl⟩
  have hcs : xcs (xZ S) xCL xST ad A s s.heap := by rw [had]; exact xcs_at hS hS2 hX hbl h0 hts hA
  have hnc : xnc xNC ad s := by rw [had]; exact xnc_at h0 hts
  have eb : ad 226 = b := by rw [had]; exact xad_of (k := 226) rfl
  obtain ⟨w1, w2, w3, w4, w5, w6, w7, w8⟩ := xw_own
  rw [lg_entry_eq]
  have hl := lv_entry ([.ref b] : List Value) (n := 1) (Nat.le_refl 1)
  obtain ⟨ls, hlsd⟩ : ∃ ls, ls = (lg_sl ([.ref b] : List Value) ++ List.replicate (1 - (lg_sl ([.ref b] : List Value)).length) Slot.unset).toArray := ⟨_, rfl⟩
  rw [← hlsd] at hl ⊢
  have hlsz := hl.1
  have hCF : CallFix p m c code 1 s #[Value.ref b] xTB "LevelhouseLaw" := ⟨hx, hb, hml, hown, htb⟩
  have hR0 : xR xCL xTy D da ad (fun _ => 0) A [] s.heap := ⟨fun k q hk => (by cases hk), fun i j p q hp => (by cases hp), fun k q hk => (by cases hk)⟩
  refine xnew_sim (cl := xCL) (ty := xTy) (nt := xnt9) (D := D) (da := da) (ad := ad) (η := fun _ => 0) (A := A) (hp := []) (st := []) (H0 := s.heap) (TB := xTB) (own := "LevelhouseLaw") (ci := 15) (C := "LevelhouseLaw") (T := xF15) (cN := 8) (fs := xDF 15) (xFT 15) ((xcl_ok 15 _ rfl).2.1) ((xcl_ok 15 _ rfl).1) rfl w1 w2 w3 (by decide +kernel) (fun f g => rfl) hx hb htb hown hK hR0 (fun c hc => by cases hc) (fun v hv => by cases hv) va_S.rf hA2 (by decide) (by decide) (by decide +kernel) (fun q H1 q1 q2 => ?_)
  obtain ⟨η1, hη1⟩ : ∃ η1, η1 = va_up (fun _ => (0 : Nat)) ([] : List XC).length q := ⟨_, rfl⟩
  rw [← hη1] at q1 ⊢
  show W p l e room_1 s m _ below meth c H1 [] (0 + 1) (0 + 8) _ (F0 m 3 ls (.ref (η1 0) :: []))
  refine lv_dup hx hb (by decide +kernel) rfl ?_
  have hhw0 : xhw 1 [(.inr (15, xDF 15) : XC)] := fun c hc => by
    rw [List.mem_singleton.mp hc]
    have hd : ∀ v ∈ xDF 15, v = .int 0 ∨ v = .long 0 ∨ v = .null := by decide +kernel
    exact fun v hv => by rcases hd v hv with rfl | rfl | rfl <;> trivial
  have hnt0 : xnt (xZ S) [(.inr (15, xDF 15) : XC)] := fun c hc t es he => by
    rw [List.mem_singleton.mp hc] at he
    cases he
  have hfree0 : ∀ (η : Nat → Nat) (hp : List XC) (H : Heap) (locs : List Loc), xR xCL xTy D da ad η A hp H → va_S A s.heap H locs → ∀ q, va_A (xw xTy da ad η hp) H.size q → A q := fun η hp H locs hR hS q hq => by
    rcases hq with ⟨k, e8, hq⟩ | hq
    · exact hR.2.2 k _ hq
    · exact hA2 q (Nat.le_trans hS.1 hq)
  have hPcG : ∀ (η : Nat → Nat) (hp : List XC) (H : Heap) (locs : List Loc) (as : List Value), xR xCL xTy D da ad η A hp H → va_S A s.heap H locs → ∀ U : State, U.heap = H → s.WarmedH U.vm → xPc (xZ S) xCL xST xNC D da ad η H.size hp as (as.map (xc ad η)).toArray U := fun η hp H locs as hR hS U hU hW => by
    refine ⟨rfl, by rw [hU], ⟨by rw [hU]; exact hR.1, hR.2.weaken (fun _ _ _ _ => trivial)⟩, va_K.moved hW.alike hK, ?_, xnc_warm hW hnc⟩
    rw [hU]
    exact xcs_narrow (xcs_moved hW.alike (xcs_kept hcs hS.1 hS.2.1)) (hfree0 η hp H locs hR hS)
  have hc1 := xrow_of hr1
  have hc2 := xrow_of hr2
  have hmet1 := xmet (xA hst9 S n1) hr1 (by decide +kernel) (fun v hv => by rw [List.mem_singleton.mp hv]; exact Nat.lt_succ_self 0) hhw0 hnt0 (xMT_ok S 0 hc1) D da ad η1 H1.size
  have hrun1 : vx_Run p l e room_1 s m #[Value.ref b] below meth c H1 [] (0 + 1) (0 + 8) c1 s1 (F0 m 4 ls ((([.ref 0] : List Value).map (xc ad η1)).reverse ++ ([.ref 0] : List Value).map (xc ad η1))) (([.ref 0] : List Value).map (xc ad η1)) (xQ (xZ S) xCL D da ad η1 (va_A (xw xTy da ad η1 [.inr (15, xDF 15)]) H1.size) [.inr (15, xDF 15)] (.inl (none, hp1, c1, s1))) (xX (xZ S) xEX xCL D da ad η1 (va_A (xw xTy da ad η1 [.inr (15, xDF 15)]) H1.size) [.inr (15, xDF 15)] (.inl (none, hp1, c1, s1))) (va_A (xw xTy da ad η1 [.inr (15, xDF 15)]) H1.size) :=
    xcall (z := xZ S) (MT := xMT) (EX := xEX) (cl := xCL) (TB := xTB) (ST := xST) (NC := xNC) (e := (32, .nop, 0, 1, .null, [])) (as := [.ref 0]) (rest := [.ref 0]) (D := D) (da := da) (ad := ad) (η := η1) (hp := [.inr (15, xDF 15)]) hCF hmet1 xTB_w (xMT_ok S 0 hc1) (xb_ctor S) ⟨by decide, by decide, by decide, by decide, by decide⟩ rfl rfl (show 17 + 1 ≤ 18 by decide) (show 39 + 40 * 17 ≤ 764 by decide) hK q1.1 hcs.1 q2 xPc_blind (hPcG η1 _ H1 [] _ q1 q2) rfl rfl hlsz (Nat.le_of_ble_eq_true rfl) ⟨show 0 + 1 + c1 ≤ room_1.cells by omega, show 0 + 8 + s1 ≤ room_1.slots by omega⟩
  show W p l e room_1 s m _ below meth c H1 [] (0 + 1) (0 + 8) _ (F0 m 4 ls ((([.ref 0] : List Value).map (xc ad η1)).reverse ++ ([.ref 0] : List Value).map (xc ad η1)))
  refine xback (A0 := A) (A1 := va_A (xw xTy da ad η1 [.inr (15, xDF 15)]) H1.size) (H0 := s.heap) hrun1 q2 (hfree0 η1 _ H1 [] q1 q2) (fun _ _ _ q => q.2) (fun _ _ _ q => q.2) (fun q _ hq => hfree0 η1 _ H1 [] q1 q2 q hq) ?_ ?_
  · intro v st₀ t H2 locs2 hh0 ht hvm hq hS2'
    obtain ⟨⟨v', hp', c8, s8, η2, ho, hoc, hv8, hg1, hlen1, hR1, hhw1, hnt1, hK1⟩, -⟩ := hq
    cases ho
    cases hoc
    have e2 : ([.ref 0] : List Value).map (xc ad η1) = ([.ref 0] : List Value).map (xc ad η2) := (xc_gs hg1 (fun v hv => by rw [List.mem_singleton.mp hv]; exact Nat.lt_succ_self 0)).symm
    rw [e2]
    rw [ht] at hR1
    have hR1' : xR xCL xTy D da ad η2 A hp1 H2 := ⟨hR1.1, hR1.2.weaken (fun _ _ _ hq => hfree0 η1 _ H1 [] q1 q2 _ hq)⟩
    show W p l e room_1 s m _ below meth c H2 locs2 (0 + 1 + c1) (0 + 8 + s1) _ (F0 m 7 ls (.ref (η2 0) :: []))
    refine lv_aload_n (k := 0) (i := 0) hx hb (by decide +kernel) rfl (lv_at hl 0 rfl) ?_
    show W p l e room_1 s m _ below meth c H2 locs2 (0 + 1 + c1) (0 + 8 + s1) _ (F0 m 8 ls [.ref b, .ref (η2 0)])
    have e3 : ([.ref b, .ref (η2 0)] : List Value) = (([.ref 0, .retAddr 226] : List Value).map (xc ad η2)).reverse ++ ([] : List Value).map (xc ad η2) := by
      show _ = ([.ref (ad 226), .ref (η2 0)] : List Value)
      rw [eb]
    rw [e3]
    have hlt0 : 0 < hp1.length := Nat.lt_of_lt_of_le (Nat.lt_succ_self 0) hlen1
    have hmet2 := xmet (xA hst9 S n2) hr2 (by decide +kernel) (fun v hv => by
      rcases List.mem_cons.mp hv with rfl | hv
      · exact hlt0
      · rw [List.mem_singleton.mp hv]; trivial) hhw1 hnt1 (xMT_ok S 14 hc2) D da ad η2 H2.size
    have hrck : xrck xKC hp1 30 [15] [.ref 0, .retAddr 226] = true := by
      unfold xrck
      rw [if_neg (by decide)]
      dsimp only
      rw [if_neg (by decide)]
      unfold xcls
      dsimp only
      rw [hfs1]
      rfl
    have hrun2 : vx_Run p l e room_1 s m #[Value.ref b] below meth c H2 locs2 (0 + 1 + c1) (0 + 8 + s1) c2 s2 (F0 m 8 ls ((([.ref 0, .retAddr 226] : List Value).map (xc ad η2)).reverse ++ ([] : List Value).map (xc ad η2))) (([] : List Value).map (xc ad η2)) (xQ (xZ S) xCL D da ad η2 (va_A (xw xTy da ad η2 hp1) H2.size) hp1 (.inl (some (.int 1), hp2, c2, s2))) (xX (xZ S) xEX xCL D da ad η2 (va_A (xw xTy da ad η2 hp1) H2.size) hp1 (.inl (some (.int 1), hp2, c2, s2))) (va_A (xw xTy da ad η2 hp1) H2.size) :=
      xcall (z := xZ S) (MT := xMT) (EX := xEX) (cl := xCL) (TB := xTB) (ST := xST) (NC := xNC) (e := (30, .nop, 14, 2, .null, [15])) (as := [.ref 0, .retAddr 226]) (rest := []) (D := D) (da := da) (ad := ad) (η := η2) (hp := hp1) hCF hmet2 xTB_w (xMT_ok S 14 hc2) (xb_all S) ⟨by decide, by decide, by decide, by decide, by decide⟩ rfl rfl (show 17 + 1 ≤ 18 by decide) (show 39 + 40 * 17 ≤ 764 by decide) hK hR1'.1 hcs.1 hS2' xPc_blind (hPcG η2 _ H2 locs2 _ hR1' hS2') rfl hrck hlsz (Nat.le_of_ble_eq_true rfl) ⟨show 0 + 1 + c1 + c2 ≤ room_1.cells by omega, show 0 + 8 + s1 + s2 ≤ room_1.slots by omega⟩
    refine xback (A0 := A) (A1 := va_A (xw xTy da ad η2 hp1) H2.size) (H0 := s.heap) hrun2 hS2' (hfree0 η2 _ H2 locs2 hR1' hS2') (fun _ _ _ q => q.2) (fun _ _ _ q => q.2) (fun q _ hq => hfree0 η2 _ H2 locs2 hR1' hS2' q hq) ?_ ?_
    · intro v st₀ t H3 locs3 hh0 ht hvm hq hS3
      obtain ⟨⟨v', hp', c8, s8, η3, ho, hoc, -⟩, -⟩ := hq
      cases ho
      cases hoc
      show W p l e room_1 s m _ below meth c H3 locs3 (0 + 1 + c1 + c2) (0 + 8 + s1 + s2) _ (F0 m 11 ls [.int 1])
      refine W.widen (k := room_1.cells) (n := room_1.slots) (by omega) (by omega) (va_forget (fun q hq => by have h := hS3.2.2 q hq; rw [hAd] at h; exact h) ?_)
      exact lw_ret hx hb hret hlk (by decide +kernel)
    · intro E ce q st₀ t H3 locs3 hh0 ht hvm hq
      obtain ⟨⟨Ei, hp', c8, s8, η3, ho, -⟩, -⟩ := hq
      cases ho
  · intro E ce q st₀ t H2 locs2 hh0 ht hvm hq
    obtain ⟨⟨Ei, hp', c8, s8, η3, ho, -⟩, -⟩ := hq
    cases ho
