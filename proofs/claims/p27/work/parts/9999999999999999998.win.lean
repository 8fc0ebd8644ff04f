/-! the houses' picture at the start (by cct.py) -/
def ofsT : List Nat := [0, 1, 2, 3, 5, 6, 24, 26, 33, 4, 25, 27, 29, 30, 31, 28, 32, 34, 35, 37, 39, 45, 51, 57, 63, 69, 75, 81, 40, 46, 52, 58, 64, 70, 76, 82, 42, 48, 54, 60, 66, 72, 78, 84, 43, 49, 55, 61, 67, 73, 79, 85, 44, 50, 56, 62, 68, 74, 80, 86, 7, 8, 12, 18, 19, 20, 21, 9, 10, 11, 13, 14, 15, 16, 17, 22, 23]
def nmT : List Nat := [2000, 0, 1, 2, 3, 9, 4, 5, 60, 61, 67, 68, 69, 62, 70, 71, 72, 73, 74, 63, 64, 65, 66, 75, 76, 6, 10, 7, 11, 15, 12, 13, 14, 16, 8, 17, 18, 200, 19, 201, 20, 28, 210, 36, 44, 52, 21, 29, 211, 37, 45, 53, 22, 30, 212, 38, 46, 54, 23, 31, 213, 39, 47, 55, 24, 32, 214, 40, 48, 56, 25, 33, 215, 41, 49, 57, 26, 34, 216, 42, 50, 58, 27, 35, 217, 43, 51, 59, 1000, 1001, 1002, 1003, 1009, 1004, 1005, 1060, 1061, 1067, 1068, 1069, 1062, 1070, 1071, 1072, 1073, 1074, 1063, 1064, 1065, 1066, 1075, 1076, 1006, 1010, 1007, 1011, 1015, 1012, 1013, 1014, 1016, 1008, 1017, 1018, 1200, 1019, 1201, 1020, 1028, 1210, 1036, 1044, 1052, 1021, 1029, 1211, 1037, 1045, 1053, 1022, 1030, 1212, 1038, 1046, 1054, 1023, 1031, 1213, 1039, 1047, 1055, 1024, 1032, 1214, 1040, 1048, 1056, 1025, 1033, 1215, 1041, 1049, 1057, 1026, 1034, 1216, 1042, 1050, 1058, 1027, 1035, 1217, 1043, 1051, 1059, 2001, 2002]
def AX (b j : Nat) : Nat := b + ofsT.getD j 0
def OW (a : Nat) : Nat := nmT.getD a 0
def S00 : SM := (0, 0, false, [], [], 0, (0, 0, []), 0, List.replicate 120 0)
def M00 : HM := ([], [], [], fun _ => S00, List.replicate 256 0, 0, [])
/-- what stands in the statement's cells -/
def om00 (j : Nat) : Value := if j = 900000 then .retAddr 0 else if (2000 ≤ j ∧ j < 3000) ∨ (6000 ≤ j ∧ j < 7000) ∨ (9000 ≤ j ∧ j < 10000) ∨ (13000 ≤ j ∧ j < 14000) ∨ j = 910000 ∨ j = 910001 ∨ j = 910004 ∨ j = 910005 then .null else .int 0
theorem om_cat (j : Nat) : (om00 j).category = 1 := by
  unfold om00
  split
  · rfl
  · split <;> rfl
theorem om_int (j : Nat) (h : wIid j = true) : ∃ x, om00 j = .int x := by
  unfold wIid at h
  simp only [Bool.or_eq_true, Bool.and_eq_true, Nat.ble_eq] at h
  unfold om00
  rw [if_neg (by omega), if_neg (by omega)]
  exact ⟨0, rfl⟩
def ownB : XC → Bool
  | .inr (2, [_, .ref _, _]) => false
  | _ => true
theorem own_11 : Own H11 := by
  have hall : H11.all ownB = true := by decide +kernel
  have no : ∀ (l : Nat) (a n : Value) (e : Nat), H11[l]? = some (.inr (2, [a, .ref e, n])) → False := fun l a n e h => by
    have t : ownB (.inr (2, [a, .ref e, n])) = true := List.all_eq_true.mp hall _ (List.mem_of_getElem? h)
    have t2 : false = true := t
    cases t2
  exact ⟨fun l l' a a' n n' e h _ => (no l a n e h).elim, fun l a n e h => (no l a n e h).elim⟩
theorem sh_00 {hp : List XC} {l : Nat} (h : hp[l]? = some (.inr (2, [.int 0, .retAddr 225, .int 0]))) : hSh hp l [] := ⟨[], ⟨fun a ha => (List.not_mem_nil ha).elim, 0, Or.inl ⟨rfl, h⟩⟩, rfl, fun i a e h1 h2 => by cases h1⟩
theorem ls_00 {hp : List XC} {l : Nat} (h : hp[l]? = some (.inr (2, [.int 0, .retAddr 225, .int 0]))) : hLs hp l [] := ⟨fun a ha => (List.not_mem_nil ha).elim, 0, Or.inl ⟨rfl, h⟩⟩
theorem hs_1 : ∀ j ∈ lsI, H11[AX 1 j]? = some (.inr (2, [.int 0, .retAddr 225, .int 0])) := by decide +kernel
theorem sc_1 : hSc H11 (AX 1) := ⟨om00, om_cat, om_int, by
  have hall : (List.range 17).all (fun h => match wGen[h]? with
    | some c => decide (H11[AX 1 (60 + h)]? = some (wtc (fun h => AX 1 (60 + h)) (fun _ => 0) om00 c))
    | none => true) = true := by decide +kernel
  intro h c hc
  have hl := (List.getElem?_eq_some_iff.mp hc).1
  rw [wGen_len] at hl
  have t := List.all_eq_true.mp hall h (List.mem_range.mpr hl)
  rw [hc] at t
  exact of_decide_eq_true t⟩
theorem se_1 : ∀ i, i < 8 → hSe H11 OW 0 (AX 1) i S00 := by
  intro i hi
  match i, hi with
  | 0, _ => exact ⟨42, [], by decide +kernel, by decide +kernel, by decide +kernel, List.length_replicate .., by decide, by decide +kernel, by decide, rfl, by decide, by decide, by decide, by decide +kernel, sh_00 (hs_1 44 (by decide)), sh_00 (hs_1 52 (by decide))⟩
  | 1, _ => exact ⟨48, [], by decide +kernel, by decide +kernel, by decide +kernel, List.length_replicate .., by decide, by decide +kernel, by decide, rfl, by decide, by decide, by decide, by decide +kernel, sh_00 (hs_1 45 (by decide)), sh_00 (hs_1 53 (by decide))⟩
  | 2, _ => exact ⟨54, [], by decide +kernel, by decide +kernel, by decide +kernel, List.length_replicate .., by decide, by decide +kernel, by decide, rfl, by decide, by decide, by decide, by decide +kernel, sh_00 (hs_1 46 (by decide)), sh_00 (hs_1 54 (by decide))⟩
  | 3, _ => exact ⟨60, [], by decide +kernel, by decide +kernel, by decide +kernel, List.length_replicate .., by decide, by decide +kernel, by decide, rfl, by decide, by decide, by decide, by decide +kernel, sh_00 (hs_1 47 (by decide)), sh_00 (hs_1 55 (by decide))⟩
  | 4, _ => exact ⟨66, [], by decide +kernel, by decide +kernel, by decide +kernel, List.length_replicate .., by decide, by decide +kernel, by decide, rfl, by decide, by decide, by decide, by decide +kernel, sh_00 (hs_1 48 (by decide)), sh_00 (hs_1 56 (by decide))⟩
  | 5, _ => exact ⟨72, [], by decide +kernel, by decide +kernel, by decide +kernel, List.length_replicate .., by decide, by decide +kernel, by decide, rfl, by decide, by decide, by decide, by decide +kernel, sh_00 (hs_1 49 (by decide)), sh_00 (hs_1 57 (by decide))⟩
  | 6, _ => exact ⟨78, [], by decide +kernel, by decide +kernel, by decide +kernel, List.length_replicate .., by decide, by decide +kernel, by decide, rfl, by decide, by decide, by decide, by decide +kernel, sh_00 (hs_1 50 (by decide)), sh_00 (hs_1 58 (by decide))⟩
  | 7, _ => exact ⟨84, [], by decide +kernel, by decide +kernel, by decide +kernel, List.length_replicate .., by decide, by decide +kernel, by decide, rfl, by decide, by decide, by decide, by decide +kernel, sh_00 (hs_1 51 (by decide)), sh_00 (hs_1 59 (by decide))⟩
  | n + 8, h => exact absurd h (by omega)
theorem hr_1 : HR H11 OW 0 (AX 1) M00 0 150 150 := by
  refine ⟨own_11, by decide +kernel, by decide +kernel, by decide +kernel, by decide +kernel, ls_00 (hs_1 2 (by decide)), sh_00 (hs_1 9 (by decide)), sh_00 (hs_1 4 (by decide)), ⟨by decide +kernel, List.length_replicate ..⟩, ⟨.int 0, by decide +kernel⟩, ⟨⟨0, 0, 0, by decide +kernel⟩, by decide +kernel, .int 0, by decide +kernel⟩, fun j hj => ⟨[], sh_00 (hs_1 j ?_)⟩, ⟨.null, .null, 37, 39, 0, 0, 0, 0, 0, 0, 0, List.replicate 150 0, List.replicate 150 0, List.replicate 120 0, by decide +kernel, by decide +kernel, List.length_replicate .., by decide, by decide +kernel, List.length_replicate .., by decide +kernel, List.length_replicate .., by decide, by decide +kernel, by decide +kernel⟩, sc_1, fun i hi => se_1 i hi, fun q hq => (List.not_mem_nil hq).elim, fun p hp => (List.not_mem_nil hp).elim, fun j hj => ?_⟩
  · have h9 : ∀ j ∈ ([10, 15, 12, 13, 16, 17, 18] : List Nat), j ∈ lsI := by decide
    exact h9 j hj
  · rw [show capL H11 (AX 1 j) = 0 from capL_0 (hs_1 j hj)]
    exact Nat.zero_le _
theorem hs_88 : ∀ j ∈ lsI, H11[AX 88 j]? = some (.inr (2, [.int 0, .retAddr 225, .int 0])) := by decide +kernel
theorem sc_88 : hSc H11 (AX 88) := ⟨om00, om_cat, om_int, by
  have hall : (List.range 17).all (fun h => match wGen[h]? with
    | some c => decide (H11[AX 88 (60 + h)]? = some (wtc (fun h => AX 88 (60 + h)) (fun _ => 0) om00 c))
    | none => true) = true := by decide +kernel
  intro h c hc
  have hl := (List.getElem?_eq_some_iff.mp hc).1
  rw [wGen_len] at hl
  have t := List.all_eq_true.mp hall h (List.mem_range.mpr hl)
  rw [hc] at t
  exact of_decide_eq_true t⟩
theorem se_88 : ∀ i, i < 8 → hSe H11 OW 1000 (AX 88) i S00 := by
  intro i hi
  match i, hi with
  | 0, _ => exact ⟨129, [], by decide +kernel, by decide +kernel, by decide +kernel, List.length_replicate .., by decide, by decide +kernel, by decide, rfl, by decide, by decide, by decide, by decide +kernel, sh_00 (hs_88 44 (by decide)), sh_00 (hs_88 52 (by decide))⟩
  | 1, _ => exact ⟨135, [], by decide +kernel, by decide +kernel, by decide +kernel, List.length_replicate .., by decide, by decide +kernel, by decide, rfl, by decide, by decide, by decide, by decide +kernel, sh_00 (hs_88 45 (by decide)), sh_00 (hs_88 53 (by decide))⟩
  | 2, _ => exact ⟨141, [], by decide +kernel, by decide +kernel, by decide +kernel, List.length_replicate .., by decide, by decide +kernel, by decide, rfl, by decide, by decide, by decide, by decide +kernel, sh_00 (hs_88 46 (by decide)), sh_00 (hs_88 54 (by decide))⟩
  | 3, _ => exact ⟨147, [], by decide +kernel, by decide +kernel, by decide +kernel, List.length_replicate .., by decide, by decide +kernel, by decide, rfl, by decide, by decide, by decide, by decide +kernel, sh_00 (hs_88 47 (by decide)), sh_00 (hs_88 55 (by decide))⟩
  | 4, _ => exact ⟨153, [], by decide +kernel, by decide +kernel, by decide +kernel, List.length_replicate .., by decide, by decide +kernel, by decide, rfl, by decide, by decide, by decide, by decide +kernel, sh_00 (hs_88 48 (by decide)), sh_00 (hs_88 56 (by decide))⟩
  | 5, _ => exact ⟨159, [], by decide +kernel, by decide +kernel, by decide +kernel, List.length_replicate .., by decide, by decide +kernel, by decide, rfl, by decide, by decide, by decide, by decide +kernel, sh_00 (hs_88 49 (by decide)), sh_00 (hs_88 57 (by decide))⟩
  | 6, _ => exact ⟨165, [], by decide +kernel, by decide +kernel, by decide +kernel, List.length_replicate .., by decide, by decide +kernel, by decide, rfl, by decide, by decide, by decide, by decide +kernel, sh_00 (hs_88 50 (by decide)), sh_00 (hs_88 58 (by decide))⟩
  | 7, _ => exact ⟨171, [], by decide +kernel, by decide +kernel, by decide +kernel, List.length_replicate .., by decide, by decide +kernel, by decide, rfl, by decide, by decide, by decide, by decide +kernel, sh_00 (hs_88 51 (by decide)), sh_00 (hs_88 59 (by decide))⟩
  | n + 8, h => exact absurd h (by omega)
theorem hr_88 : HR H11 OW 1000 (AX 88) M00 0 150 150 := by
  refine ⟨own_11, by decide +kernel, by decide +kernel, by decide +kernel, by decide +kernel, ls_00 (hs_88 2 (by decide)), sh_00 (hs_88 9 (by decide)), sh_00 (hs_88 4 (by decide)), ⟨by decide +kernel, List.length_replicate ..⟩, ⟨.int 0, by decide +kernel⟩, ⟨⟨0, 0, 0, by decide +kernel⟩, by decide +kernel, .int 0, by decide +kernel⟩, fun j hj => ⟨[], sh_00 (hs_88 j ?_)⟩, ⟨.null, .null, 124, 126, 0, 0, 0, 0, 0, 0, 0, List.replicate 150 0, List.replicate 150 0, List.replicate 120 0, by decide +kernel, by decide +kernel, List.length_replicate .., by decide, by decide +kernel, List.length_replicate .., by decide +kernel, List.length_replicate .., by decide, by decide +kernel, by decide +kernel⟩, sc_88, fun i hi => se_88 i hi, fun q hq => (List.not_mem_nil hq).elim, fun p hp => (List.not_mem_nil hp).elim, fun j hj => ?_⟩
  · have h9 : ∀ j ∈ ([10, 15, 12, 13, 16, 17, 18] : List Nat), j ∈ lsI := by decide
    exact h9 j hj
  · rw [show capL H11 (AX 88 j) = 0 from capL_0 (hs_88 j hj)]
    exact Nat.zero_le _
/-- the two houses at the start are alike -/
theorem en_00 : EnOk [] [] [] := ⟨List.Pairwise.nil, fun e he => (List.not_mem_nil he).elim, fun sr lb => Nat.zero_le _⟩
theorem wf_00 : WfH M00 0 0 := by
  refine ⟨⟨fun a ha => (List.not_mem_nil ha).elim, fun q hq => (List.not_mem_nil hq).elim, ⟨0, rfl, Nat.le_refl 0, fun q hq => (List.not_mem_nil hq).elim, fun p hp => (List.not_mem_nil hp).elim⟩, List.nodup_nil, fun l => Nat.zero_le _, en_00, fun i hi => ⟨(show isL4 (0 : Int32) = true by decide), en_00, fun _ => ⟨rfl, rfl⟩, fun e he => (List.not_mem_nil he).elim, Nat.le_refl 0⟩, Nat.le_refl 0, List.length_replicate ..⟩, fun e he => (List.not_mem_nil he).elim, List.Pairwise.nil⟩
theorem rel_00 (w : Int32 → Bool) : Rel w id id M00 M00 := ⟨fun a b _ _ => ⟨Iff.rfl, Iff.rfl⟩, fun q hq => (List.not_mem_nil hq).elim, rfl, rfl, fun i hi => ⟨rfl, fun _ => ⟨rfl, rfl, rfl, rfl, fun h => by cases h⟩⟩, fun n _ _ j _ => rfl⟩
theorem rep_at {i : Nat} (h : i < 8) : (List.replicate 8 (0 : Int32))[i]? = some 0 := by
  have h9 : ∀ i, i < 8 → (List.replicate 8 (0 : Int32))[i]? = some 0 := by decide
  exact h9 i h
theorem li_00 (top : Int32) : LI top M00 M00 (List.replicate 8 0) (List.replicate 8 0) 0 0 8 := ⟨⟨id, id, rel_00 _⟩, wf_00, wf_00, fun _ => rfl, fun _ => rfl, fun i hi => rep_at hi, fun i hi _ => rep_at hi⟩
/-! the law's start -/
def H12 : List XC := H11.set 0 (.inr (15, [.retAddr 226, .int 0, .int 0, .ref 1, .ref 88, .ref 175, .ref 176, .int 0]))
theorem w2_00 : ∃ pc ps, W2 (AX 1) (AX 88) 0 175 176 H12 OW M00 M00 (List.replicate 8 0) (List.replicate 8 0) 0 0 pc ps := by
  have hL : H11[0]? = some (.inr (15, [.null, .int 0, .int 0, .ref 1, .ref 88, .ref 175, .ref 176, .int 0])) := by decide +kernel
  have f : FrX (fun a => a = 0) H11 H12 := FrX.so hL (by decide) rfl (by decide)
  have f9 : FrX (fun a => (fun n => n = 2000) (OW a)) H11 H12 := f.mono (fun a _ ha => by
    show OW a = 2000
    rw [show a = 0 from ha]
    rfl)
  obtain ⟨hx', ex⟩ := hr_1.off f9 (fun _ _ => rfl) (fun n h1 h2 h9 => by have h9' : n = 2000 := h9; omega)
  obtain ⟨hy', ey⟩ := hr_88.off f9 (fun _ _ => rfl) (fun n h1 h2 h9 => by have h9' : n = 2000 := h9; omega)
  refine ⟨_, _, 0, 0, 150, 150, 150, 150, hx', hy', ⟨⟨0, 0, Nat.le_refl 0, by decide, xs_eq hL⟩, f.ar (by decide +kernel) (by decide) (by decide), by decide, f.ar (by decide +kernel) (by decide) (by decide), by decide, rfl, rfl, rfl⟩, rfl, rfl⟩
theorem ho_win {S : List Int32} (hS : S.length ≤ 1000) : ∃ hp' c s, At S 17 14 0 (lv_args 0 [.ref 0, .retAddr 226]) [] H11 0 0 (fun o => o = .inl (some (.int 1), hp', c, s)) ∧ c ≤ 388800 ∧ s ≤ 7032000 := by
  obtain ⟨pc, ps, W⟩ := w2_00
  have hL : H11[0]? = some (.inr (15, [.null, .int 0, .int 0, .ref 1, .ref 88, .ref 175, .ref 176, .int 0])) := by decide +kernel
  have key : At S 17 14 0 (lv_args 0 [.ref 0, .retAddr 226]) [] H11 0 0 (HoR S (AX 1) (AX 88) 0 175 176 H12 OW pc ps) := by
    refine At.go (q := xm14) rfl 2 (pc' := 2) (L' := [(0, .ref 0), (1, .retAddr 226)]) (st' := [.retAddr 226, .ref 0]) rfl ?_
    refine At.pf rfl hL (Nat.le_of_ble_eq_true rfl) rfl ?_
    exact ho_5 (K := 0) (J := 0) hS (by decide) li_00 (fun j _ _ => rfl) (S2T.of W)
  obtain ⟨n, o, h1, hp', c9, s9, rfl, M', N', lbs', ops', top', dt', ow', pc', ps', -, W', -, e1, e2⟩ := key
  obtain ⟨k1, k2⟩ := W'.cap
  exact ⟨hp', c9, s9, ⟨n, _, h1, rfl⟩, by omega, by omega⟩
theorem xwin {S : List Int32} (hS : S.length ≤ 260) : xWin S := by
  obtain ⟨n1, o1, h1, v, hp1, c1, s1, rfl, rfl, rfl, rfl, rfl⟩ := ct_me (S := S)
  obtain ⟨hp2, c2, s2, ⟨n2, o2, h2, rfl⟩, k1, k2⟩ := ho_win (S := S) (by omega)
  exact ⟨n1, n2, H11, hp2, _, _, c2, s2, h1, ⟨_, show H11[0]? = some (.inr (15, [.null, .int 0, .int 0, .ref 1, .ref 88, .ref 175, .ref 176, .int 0])) by decide +kernel⟩, h2, by omega, by omega⟩
