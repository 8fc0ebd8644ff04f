/-! the classes' facts (written by wip/p27/emit.py) -/
theorem xl0 : ∀ k, k < 4 → u_lay "java/lang/String" xF0 k ∈ xTB
  | 0, _ => w1954
  | 1, _ => w1956
  | 2, _ => w1958
  | 3, _ => w1960
  | k + 4, h => absurd h (by omega)
theorem xc_0 : (∀ w ∈ u_ws "java/lang/String" xF0 4, w ∈ xTB) ∧ (∀ k, k < 4 → parseFieldDescriptor (xF0 k).2.2.1 = some (xFT 0 k)) ∧ (∀ a, a < 4 → ∀ b, b < 4 → a ≠ b → (xF0 a).2.1 ≠ (xF0 b).2.1) := ⟨fun w hw => by obtain ⟨k, hk, rfl⟩ := List.mem_map.mp hw; exact xl0 k (List.mem_range.mp hk), by decide +kernel, by decide +kernel⟩
theorem xl1 : ∀ k, k < 4 → u_lay "java/lang/StringBuilder" xF1 k ∈ xTB
  | 0, _ => w1810
  | 1, _ => w1812
  | 2, _ => w1814
  | 3, _ => w1816
  | k + 4, h => absurd h (by omega)
theorem xc_1 : (∀ w ∈ u_ws "java/lang/StringBuilder" xF1 4, w ∈ xTB) ∧ (∀ k, k < 4 → parseFieldDescriptor (xF1 k).2.2.1 = some (xFT 1 k)) ∧ (∀ a, a < 4 → ∀ b, b < 4 → a ≠ b → (xF1 a).2.1 ≠ (xF1 b).2.1) := ⟨fun w hw => by obtain ⟨k, hk, rfl⟩ := List.mem_map.mp hw; exact xl1 k (List.mem_range.mp hk), by decide +kernel, by decide +kernel⟩
theorem xl2 : ∀ k, k < 3 → u_lay "java/util/ArrayList" xF2 k ∈ xTB
  | 0, _ => w82
  | 1, _ => w78
  | 2, _ => w80
  | k + 3, h => absurd h (by omega)
theorem xc_2 : (∀ w ∈ u_ws "java/util/ArrayList" xF2 3, w ∈ xTB) ∧ (∀ k, k < 3 → parseFieldDescriptor (xF2 k).2.2.1 = some (xFT 2 k)) ∧ (∀ a, a < 3 → ∀ b, b < 3 → a ≠ b → (xF2 a).2.1 ≠ (xF2 b).2.1) := ⟨fun w hw => by obtain ⟨k, hk, rfl⟩ := List.mem_map.mp hw; exact xl2 k (List.mem_range.mp hk), by decide +kernel, by decide +kernel⟩
theorem xl3 : ∀ k, k < 7 → u_lay "Levelhouse$Change" xF3 k ∈ xTB
  | 0, _ => w342
  | 1, _ => w344
  | 2, _ => w346
  | 3, _ => w348
  | 4, _ => w350
  | 5, _ => w352
  | 6, _ => w354
  | k + 7, h => absurd h (by omega)
theorem xc_3 : (∀ w ∈ u_ws "Levelhouse$Change" xF3 7, w ∈ xTB) ∧ (∀ k, k < 7 → parseFieldDescriptor (xF3 k).2.2.1 = some (xFT 3 k)) ∧ (∀ a, a < 7 → ∀ b, b < 7 → a ≠ b → (xF3 a).2.1 ≠ (xF3 b).2.1) := ⟨fun w hw => by obtain ⟨k, hk, rfl⟩ := List.mem_map.mp hw; exact xl3 k (List.mem_range.mp hk), by decide +kernel, by decide +kernel⟩
theorem xl4 : ∀ k, k < 5 → u_lay "Levelhouse$Entry" xF4 k ∈ xTB
  | 0, _ => w1618
  | 1, _ => w1620
  | 2, _ => w1622
  | 3, _ => w1624
  | 4, _ => w1626
  | k + 5, h => absurd h (by omega)
theorem xc_4 : (∀ w ∈ u_ws "Levelhouse$Entry" xF4 5, w ∈ xTB) ∧ (∀ k, k < 5 → parseFieldDescriptor (xF4 k).2.2.1 = some (xFT 4 k)) ∧ (∀ a, a < 5 → ∀ b, b < 5 → a ≠ b → (xF4 a).2.1 ≠ (xF4 b).2.1) := ⟨fun w hw => by obtain ⟨k, hk, rfl⟩ := List.mem_map.mp hw; exact xl4 k (List.mem_range.mp hk), by decide +kernel, by decide +kernel⟩
theorem xl5 : ∀ k, k < 7 → u_lay "Levelhouse$Formula" xF5 k ∈ xTB
  | 0, _ => w155
  | 1, _ => w157
  | 2, _ => w159
  | 3, _ => w161
  | 4, _ => w163
  | 5, _ => w165
  | 6, _ => w167
  | k + 7, h => absurd h (by omega)
theorem xc_5 : (∀ w ∈ u_ws "Levelhouse$Formula" xF5 7, w ∈ xTB) ∧ (∀ k, k < 7 → parseFieldDescriptor (xF5 k).2.2.1 = some (xFT 5 k)) ∧ (∀ a, a < 7 → ∀ b, b < 7 → a ≠ b → (xF5 a).2.1 ≠ (xF5 b).2.1) := ⟨fun w hw => by obtain ⟨k, hk, rfl⟩ := List.mem_map.mp hw; exact xl5 k (List.mem_range.mp hk), by decide +kernel, by decide +kernel⟩
theorem xl6 : ∀ k, k < 10 → u_lay "Levelhouse$Meaning" xF6 k ∈ xTB
  | 0, _ => w282
  | 1, _ => w284
  | 2, _ => w286
  | 3, _ => w288
  | 4, _ => w290
  | 5, _ => w292
  | 6, _ => w294
  | 7, _ => w296
  | 8, _ => w298
  | 9, _ => w300
  | k + 10, h => absurd h (by omega)
theorem xc_6 : (∀ w ∈ u_ws "Levelhouse$Meaning" xF6 10, w ∈ xTB) ∧ (∀ k, k < 10 → parseFieldDescriptor (xF6 k).2.2.1 = some (xFT 6 k)) ∧ (∀ a, a < 10 → ∀ b, b < 10 → a ≠ b → (xF6 a).2.1 ≠ (xF6 b).2.1) := ⟨fun w hw => by obtain ⟨k, hk, rfl⟩ := List.mem_map.mp hw; exact xl6 k (List.mem_range.mp hk), by decide +kernel, by decide +kernel⟩
theorem xl7 : ∀ k, k < 14 → u_lay "Levelhouse$Query" xF7 k ∈ xTB
  | 0, _ => w382
  | 1, _ => w384
  | 2, _ => w386
  | 3, _ => w388
  | 4, _ => w390
  | 5, _ => w392
  | 6, _ => w394
  | 7, _ => w396
  | 8, _ => w398
  | 9, _ => w400
  | 10, _ => w402
  | 11, _ => w404
  | 12, _ => w406
  | 13, _ => w408
  | k + 14, h => absurd h (by omega)
theorem xc_7 : (∀ w ∈ u_ws "Levelhouse$Query" xF7 14, w ∈ xTB) ∧ (∀ k, k < 14 → parseFieldDescriptor (xF7 k).2.2.1 = some (xFT 7 k)) ∧ (∀ a, a < 14 → ∀ b, b < 14 → a ≠ b → (xF7 a).2.1 ≠ (xF7 b).2.1) := ⟨fun w hw => by obtain ⟨k, hk, rfl⟩ := List.mem_map.mp hw; exact xl7 k (List.mem_range.mp hk), by decide +kernel, by decide +kernel⟩
theorem xl8 : ∀ k, k < 7 → u_lay "Levelhouse$Reader" xF8 k ∈ xTB
  | 0, _ => w122
  | 1, _ => w124
  | 2, _ => w126
  | 3, _ => w128
  | 4, _ => w130
  | 5, _ => w132
  | 6, _ => w134
  | k + 7, h => absurd h (by omega)
theorem xc_8 : (∀ w ∈ u_ws "Levelhouse$Reader" xF8 7, w ∈ xTB) ∧ (∀ k, k < 7 → parseFieldDescriptor (xF8 k).2.2.1 = some (xFT 8 k)) ∧ (∀ a, a < 7 → ∀ b, b < 7 → a ≠ b → (xF8 a).2.1 ≠ (xF8 b).2.1) := ⟨fun w hw => by obtain ⟨k, hk, rfl⟩ := List.mem_map.mp hw; exact xl8 k (List.mem_range.mp hk), by decide +kernel, by decide +kernel⟩
theorem xl9 : ∀ k, k < 11 → u_lay "Levelhouse$Session" xF9 k ∈ xTB
  | 0, _ => w444
  | 1, _ => w446
  | 2, _ => w448
  | 3, _ => w450
  | 4, _ => w452
  | 5, _ => w454
  | 6, _ => w456
  | 7, _ => w458
  | 8, _ => w460
  | 9, _ => w462
  | 10, _ => w464
  | k + 11, h => absurd h (by omega)
theorem xc_9 : (∀ w ∈ u_ws "Levelhouse$Session" xF9 11, w ∈ xTB) ∧ (∀ k, k < 11 → parseFieldDescriptor (xF9 k).2.2.1 = some (xFT 9 k)) ∧ (∀ a, a < 11 → ∀ b, b < 11 → a ≠ b → (xF9 a).2.1 ≠ (xF9 b).2.1) := ⟨fun w hw => by obtain ⟨k, hk, rfl⟩ := List.mem_map.mp hw; exact xl9 k (List.mem_range.mp hk), by decide +kernel, by decide +kernel⟩
theorem xl10 : ∀ k, k < 1 → u_lay "Levelhouse$Shelf" xF10 k ∈ xTB
  | 0, _ => w94
  | k + 1, h => absurd h (by omega)
theorem xc_10 : (∀ w ∈ u_ws "Levelhouse$Shelf" xF10 1, w ∈ xTB) ∧ (∀ k, k < 1 → parseFieldDescriptor (xF10 k).2.2.1 = some (xFT 10 k)) ∧ (∀ a, a < 1 → ∀ b, b < 1 → a ≠ b → (xF10 a).2.1 ≠ (xF10 b).2.1) := ⟨fun w hw => by obtain ⟨k, hk, rfl⟩ := List.mem_map.mp hw; exact xl10 k (List.mem_range.mp hk), by decide +kernel, by decide +kernel⟩
theorem xl11 : ∀ k, k < 2 → u_lay "Levelhouse$Sight" xF11 k ∈ xTB
  | 0, _ => w314
  | 1, _ => w316
  | k + 2, h => absurd h (by omega)
theorem xc_11 : (∀ w ∈ u_ws "Levelhouse$Sight" xF11 2, w ∈ xTB) ∧ (∀ k, k < 2 → parseFieldDescriptor (xF11 k).2.2.1 = some (xFT 11 k)) ∧ (∀ a, a < 2 → ∀ b, b < 2 → a ≠ b → (xF11 a).2.1 ≠ (xF11 b).2.1) := ⟨fun w hw => by obtain ⟨k, hk, rfl⟩ := List.mem_map.mp hw; exact xl11 k (List.mem_range.mp hk), by decide +kernel, by decide +kernel⟩
theorem xl12 : ∀ k, k < 20 → u_lay "Levelhouse$Statement" xF12 k ∈ xTB
  | 0, _ => w218
  | 1, _ => w220
  | 2, _ => w222
  | 3, _ => w224
  | 4, _ => w226
  | 5, _ => w228
  | 6, _ => w230
  | 7, _ => w232
  | 8, _ => w234
  | 9, _ => w236
  | 10, _ => w238
  | 11, _ => w240
  | 12, _ => w242
  | 13, _ => w244
  | 14, _ => w246
  | 15, _ => w248
  | 16, _ => w250
  | 17, _ => w252
  | 18, _ => w254
  | 19, _ => w256
  | k + 20, h => absurd h (by omega)
theorem xc_12 : (∀ w ∈ u_ws "Levelhouse$Statement" xF12 20, w ∈ xTB) ∧ (∀ k, k < 20 → parseFieldDescriptor (xF12 k).2.2.1 = some (xFT 12 k)) ∧ (∀ a, a < 20 → ∀ b, b < 20 → a ≠ b → (xF12 a).2.1 ≠ (xF12 b).2.1) := ⟨fun w hw => by obtain ⟨k, hk, rfl⟩ := List.mem_map.mp hw; exact xl12 k (List.mem_range.mp hk), by decide +kernel, by decide +kernel⟩
theorem xl13 : ∀ k, k < 9 → u_lay "Levelhouse$Table" xF13 k ∈ xTB
  | 0, _ => w1507
  | 1, _ => w1509
  | 2, _ => w1511
  | 3, _ => w1513
  | 4, _ => w1515
  | 5, _ => w1517
  | 6, _ => w1519
  | 7, _ => w1521
  | 8, _ => w1523
  | k + 9, h => absurd h (by omega)
theorem xc_13 : (∀ w ∈ u_ws "Levelhouse$Table" xF13 9, w ∈ xTB) ∧ (∀ k, k < 9 → parseFieldDescriptor (xF13 k).2.2.1 = some (xFT 13 k)) ∧ (∀ a, a < 9 → ∀ b, b < 9 → a ≠ b → (xF13 a).2.1 ≠ (xF13 b).2.1) := ⟨fun w hw => by obtain ⟨k, hk, rfl⟩ := List.mem_map.mp hw; exact xl13 k (List.mem_range.mp hk), by decide +kernel, by decide +kernel⟩
theorem xl14 : ∀ k, k < 12 → u_lay "Levelhouse" xF14 k ∈ xTB
  | 0, _ => w480
  | 1, _ => w482
  | 2, _ => w484
  | 3, _ => w486
  | 4, _ => w488
  | 5, _ => w490
  | 6, _ => w492
  | 7, _ => w494
  | 8, _ => w496
  | 9, _ => w498
  | 10, _ => w500
  | 11, _ => w502
  | k + 12, h => absurd h (by omega)
theorem xc_14 : (∀ w ∈ u_ws "Levelhouse" xF14 12, w ∈ xTB) ∧ (∀ k, k < 12 → parseFieldDescriptor (xF14 k).2.2.1 = some (xFT 14 k)) ∧ (∀ a, a < 12 → ∀ b, b < 12 → a ≠ b → (xF14 a).2.1 ≠ (xF14 b).2.1) := ⟨fun w hw => by obtain ⟨k, hk, rfl⟩ := List.mem_map.mp hw; exact xl14 k (List.mem_range.mp hk), by decide +kernel, by decide +kernel⟩
theorem xl15 : ∀ k, k < 8 → u_lay "LevelhouseLaw" xF15 k ∈ xTB
  | 0, _ => w513
  | 1, _ => w515
  | 2, _ => w517
  | 3, _ => w519
  | 4, _ => w521
  | 5, _ => w523
  | 6, _ => w525
  | 7, _ => w527
  | k + 8, h => absurd h (by omega)
theorem xc_15 : (∀ w ∈ u_ws "LevelhouseLaw" xF15 8, w ∈ xTB) ∧ (∀ k, k < 8 → parseFieldDescriptor (xF15 k).2.2.1 = some (xFT 15 k)) ∧ (∀ a, a < 8 → ∀ b, b < 8 → a ≠ b → (xF15 a).2.1 ≠ (xF15 b).2.1) := ⟨fun w hw => by obtain ⟨k, hk, rfl⟩ := List.mem_map.mp hw; exact xl15 k (List.mem_range.mp hk), by decide +kernel, by decide +kernel⟩
theorem xl16 : ∀ k, k < 0 → u_lay "Levelhouse$Word" xF16 k ∈ xTB
  | k + 0, h => absurd h (by omega)
theorem xc_16 : (∀ w ∈ u_ws "Levelhouse$Word" xF16 0, w ∈ xTB) ∧ (∀ k, k < 0 → parseFieldDescriptor (xF16 k).2.2.1 = some (xFT 16 k)) ∧ (∀ a, a < 0 → ∀ b, b < 0 → a ≠ b → (xF16 a).2.1 ≠ (xF16 b).2.1) := ⟨fun w hw => by obtain ⟨k, hk, rfl⟩ := List.mem_map.mp hw; exact xl16 k (List.mem_range.mp hk), by decide +kernel, by decide +kernel⟩
theorem xcons {P : Nat → vw_C → Prop} {a : vw_C} {l : List vw_C} (h0 : P 0 a) (h1 : ∀ ci r, l[ci]? = some r → P (ci + 1) r) : ∀ ci r, (a :: l)[ci]? = some r → P ci r := fun ci r h => by
  cases ci with
  | zero => cases h; exact h0
  | succ n => exact h1 n r h
theorem xcl_ok : ∀ ci r, xCL[ci]? = some r → (∀ w ∈ u_ws r.1 r.2.1 r.2.2, w ∈ xTB) ∧ (∀ k, k < r.2.2 → parseFieldDescriptor (r.2.1 k).2.2.1 = some (xFT ci k)) ∧ (∀ a, a < r.2.2 → ∀ b, b < r.2.2 → a ≠ b → (r.2.1 a).2.1 ≠ (r.2.1 b).2.1)
  | 0, _, rfl => xc_0
  | 1, _, rfl => xc_1
  | 2, _, rfl => xc_2
  | 3, _, rfl => xc_3
  | 4, _, rfl => xc_4
  | 5, _, rfl => xc_5
  | 6, _, rfl => xc_6
  | 7, _, rfl => xc_7
  | 8, _, rfl => xc_8
  | 9, _, rfl => xc_9
  | 10, _, rfl => xc_10
  | 11, _, rfl => xc_11
  | 12, _, rfl => xc_12
  | 13, _, rfl => xc_13
  | 14, _, rfl => xc_14
  | 15, _, rfl => xc_15
  | 16, _, rfl => xc_16
theorem xsp_ok : ∀ q ∈ xSP, ∃ C, xTy q.2 = .object C ∧ xca xTB xCL q.1 C := (List.forall_mem_cons.mpr ⟨⟨"Levelhouse$Session", rfl, _, rfl, Or.inl rfl⟩, (List.forall_mem_cons.mpr ⟨⟨"Levelhouse$Word", rfl, _, rfl, Or.inl rfl⟩, (List.forall_mem_cons.mpr ⟨⟨"Levelhouse$Table", rfl, _, rfl, Or.inl rfl⟩, (List.forall_mem_cons.mpr ⟨⟨"java/lang/Object", rfl, _, rfl, Or.inr w2300⟩, (List.forall_mem_cons.mpr ⟨⟨"java/lang/Object", rfl, _, rfl, Or.inr w2299⟩, (List.forall_mem_cons.mpr ⟨⟨"java/lang/Object", rfl, _, rfl, Or.inr w2284⟩, (List.forall_mem_cons.mpr ⟨⟨"java/lang/Object", rfl, _, rfl, Or.inr w2291⟩, (List.forall_mem_cons.mpr ⟨⟨"java/lang/Object", rfl, _, rfl, Or.inr w2296⟩, (List.forall_mem_cons.mpr ⟨⟨"java/lang/Object", rfl, _, rfl, Or.inr w2288⟩, (List.forall_mem_cons.mpr ⟨⟨"java/lang/Object", rfl, _, rfl, Or.inr w2289⟩, (List.forall_mem_cons.mpr ⟨⟨"java/lang/Object", rfl, _, rfl, Or.inr w2292⟩, (List.forall_mem_cons.mpr ⟨⟨"java/lang/Object", rfl, _, rfl, Or.inr w2287⟩, (List.forall_mem_cons.mpr ⟨⟨"java/lang/Object", rfl, _, rfl, Or.inr w2279⟩, (List.forall_mem_cons.mpr ⟨⟨"java/lang/Object", rfl, _, rfl, Or.inr w2285⟩, (List.forall_mem_cons.mpr ⟨⟨"java/lang/Object", rfl, _, rfl, Or.inr w2290⟩, (List.forall_mem_cons.mpr ⟨⟨"java/lang/Object", rfl, _, rfl, Or.inr w2286⟩, (List.forall_mem_cons.mpr ⟨⟨"java/lang/Object", rfl, _, rfl, Or.inr w2281⟩, (List.forall_mem_cons.mpr ⟨⟨"java/lang/Object", rfl, _, rfl, Or.inr w2283⟩, (List.forall_mem_cons.mpr ⟨⟨"java/lang/Object", rfl, _, rfl, Or.inr w2282⟩, (List.forall_mem_cons.mpr ⟨⟨"java/lang/Object", rfl, _, rfl, Or.inr w2280⟩, (List.forall_mem_cons.mpr ⟨⟨"Levelhouse$Word", rfl, _, rfl, Or.inl rfl⟩, (List.forall_mem_cons.mpr ⟨⟨"Levelhouse$Word", rfl, _, rfl, Or.inl rfl⟩, (List.forall_mem_cons.mpr ⟨⟨"Levelhouse$Word", rfl, _, rfl, Or.inl rfl⟩, (List.forall_mem_cons.mpr ⟨⟨"Levelhouse$Word", rfl, _, rfl, Or.inl rfl⟩, (List.forall_mem_cons.mpr ⟨⟨"Levelhouse$Word", rfl, _, rfl, Or.inl rfl⟩, (fun _ h => by cases h)⟩)⟩)⟩)⟩)⟩)⟩)⟩)⟩)⟩)⟩)⟩)⟩)⟩)⟩)⟩)⟩)⟩)⟩)⟩)⟩)⟩)⟩)⟩)⟩)⟩)
def xnr : Value → Bool
  | .ref _ => false
  | _ => true
theorem xnr_ok {v : Value} (h : xnr v = true) : xv 0 v := by
  cases v <;> first | trivial | cases h
def xnrs : XC → Bool
  | .inl q => q.2.all xnr
  | .inr q => q.2.all xnr
theorem xnrs_ok {hp : List XC} (h : hp.all xnrs = true) : xhw 0 hp := fun c hc => by
  have h1 := List.all_eq_true.mp h c hc
  rcases c with q | q
  · exact fun v hv => xnr_ok (List.all_eq_true.mp h1 v hv)
  · exact fun v hv => xnr_ok (List.all_eq_true.mp h1 v hv)
theorem xkc_ok : xhw 0 xKC := xnrs_ok (by decide +kernel)
theorem xty_ok : ∀ t, t < 30 → refKind (xTy t) = true → ∃ C, xTy t = .object C
  | 0, _, h => absurd h (by decide)
  | 1, _, h => absurd h (by decide)
  | 2, _, h => absurd h (by decide)
  | 3, _, h => absurd h (by decide)
  | 4, _, h => ⟨_, rfl⟩
  | 5, _, h => ⟨_, rfl⟩
  | 6, _, h => ⟨_, rfl⟩
  | 7, _, h => ⟨_, rfl⟩
  | 8, _, h => absurd h (by decide)
  | 9, _, h => absurd h (by decide)
  | 10, _, h => absurd h (by decide)
  | 11, _, h => absurd h (by decide)
  | 12, _, h => absurd h (by decide)
  | 13, _, h => absurd h (by decide)
  | 14, _, h => absurd h (by decide)
  | 15, _, h => absurd h (by decide)
  | 16, _, h => absurd h (by decide)
  | 17, _, h => absurd h (by decide)
  | 18, _, h => absurd h (by decide)
  | 19, _, h => absurd h (by decide)
  | 20, _, h => absurd h (by decide)
  | 21, _, h => absurd h (by decide)
  | 22, _, h => absurd h (by decide)
  | 23, _, h => absurd h (by decide)
  | 24, _, h => absurd h (by decide)
  | 25, _, h => ⟨_, rfl⟩
  | 26, _, h => ⟨_, rfl⟩
  | 27, _, h => ⟨_, rfl⟩
  | 28, _, h => ⟨_, rfl⟩
  | 29, _, h => ⟨_, rfl⟩
  | k + 30, h, _ => absurd h (by omega)
theorem xtb_ok (S : List Int32) : xtb (xZ S) xCL xTB := ⟨xcl_ok, xsp_ok, xty_ok, xkc_ok⟩
