/-! words of the tables (written by wip/p27/emit.py) -/
theorem z0 : Cond.selects "java/lang/StringBuilder" ⟨"java/lang/AbstractStringBuilder", "appendNull", "()Ljava/lang/AbstractStringBuilder;"⟩ ⟨"java/lang/AbstractStringBuilder", "appendNull", "()Ljava/lang/AbstractStringBuilder;"⟩ ∈ xTB := tz 0 (by decide +kernel) rfl
theorem z1 : Cond.selects "java/lang/StringBuilder" ⟨"java/lang/AbstractStringBuilder", "ensureCapacityInternal", "(I)V"⟩ ⟨"java/lang/AbstractStringBuilder", "ensureCapacityInternal", "(I)V"⟩ ∈ xTB := tz 1 (by decide +kernel) rfl
theorem z2 : Cond.selects "java/lang/StringBuilder" ⟨"java/lang/AbstractStringBuilder", "newCapacity", "(I)I"⟩ ⟨"java/lang/AbstractStringBuilder", "newCapacity", "(I)I"⟩ ∈ xTB := tz 2 (by decide +kernel) rfl
theorem z3 : Cond.selects "java/lang/StringBuilder" ⟨"java/lang/AbstractStringBuilder", "putStringAt", "(ILjava/lang/String;)V"⟩ ⟨"java/lang/AbstractStringBuilder", "putStringAt", "(ILjava/lang/String;)V"⟩ ∈ xTB := tz 3 (by decide +kernel) rfl
theorem z4 : Cond.selects "java/lang/StringBuilder" ⟨"java/lang/AbstractStringBuilder", "inflateIfNeededFor", "(Ljava/lang/String;)V"⟩ ⟨"java/lang/AbstractStringBuilder", "inflateIfNeededFor", "(Ljava/lang/String;)V"⟩ ∈ xTB := tz 4 (by decide +kernel) rfl
theorem z5 : Cond.selects "java/lang/StringBuilder" ⟨"java/lang/AbstractStringBuilder", "inflate", "()V"⟩ ⟨"java/lang/AbstractStringBuilder", "inflate", "()V"⟩ ∈ xTB := tz 5 (by decide +kernel) rfl
theorem tc1 (i : Nat) {w : Cond} (h0 : tables_1_1[i]? = some w) (hg : xgw w = true) : w ∈ xTB := by
  have h := List.mem_of_getElem? h0
  have h1 : w ∈ lw_tbl := List.mem_append_right _ (List.mem_append_left _ h)
  exact List.mem_filter.mpr ⟨List.mem_append_right _ h1, hg⟩
theorem tc2 (i : Nat) {w : Cond} (h0 : tables_1_2[i]? = some w) (hg : xgw w = true) : w ∈ xTB := by
  have h := List.mem_of_getElem? h0
  have h1 : w ∈ lw_tbl := List.mem_append_right _ (List.mem_append_right _ (List.mem_append_left _ h))
  exact List.mem_filter.mpr ⟨List.mem_append_right _ h1, hg⟩
theorem tc3 (i : Nat) {w : Cond} (h0 : tables_1_3[i]? = some w) (hg : xgw w = true) : w ∈ xTB := by
  have h := List.mem_of_getElem? h0
  have h1 : w ∈ lw_tbl := List.mem_append_right _ (List.mem_append_right _ (List.mem_append_right _ (List.mem_append_left _ h)))
  exact List.mem_filter.mpr ⟨List.mem_append_right _ h1, hg⟩
theorem tc4 (i : Nat) {w : Cond} (h0 : tables_1_4[i]? = some w) (hg : xgw w = true) : w ∈ xTB := by
  have h := List.mem_of_getElem? h0
  have h1 : w ∈ lw_tbl := List.mem_append_right _ (List.mem_append_right _ (List.mem_append_right _ (List.mem_append_right _ (List.mem_append_left _ h))))
  exact List.mem_filter.mpr ⟨List.mem_append_right _ h1, hg⟩
theorem tc5 (i : Nat) {w : Cond} (h0 : tables_1_5[i]? = some w) (hg : xgw w = true) : w ∈ xTB := by
  have h := List.mem_of_getElem? h0
  have h1 : w ∈ lw_tbl := List.mem_append_right _ (List.mem_append_right _ (List.mem_append_right _ (List.mem_append_right _ (List.mem_append_right _ (List.mem_append_left _ h)))))
  exact List.mem_filter.mpr ⟨List.mem_append_right _ h1, hg⟩
theorem tc6 (i : Nat) {w : Cond} (h0 : tables_1_6[i]? = some w) (hg : xgw w = true) : w ∈ xTB := by
  have h := List.mem_of_getElem? h0
  have h1 : w ∈ lw_tbl := List.mem_append_right _ (List.mem_append_right _ (List.mem_append_right _ (List.mem_append_right _ (List.mem_append_right _ (List.mem_append_right _ (List.mem_append_left _ h))))))
  exact List.mem_filter.mpr ⟨List.mem_append_right _ h1, hg⟩
theorem tc7 (i : Nat) {w : Cond} (h0 : tables_1_7[i]? = some w) (hg : xgw w = true) : w ∈ xTB := by
  have h := List.mem_of_getElem? h0
  have h1 : w ∈ lw_tbl := List.mem_append_right _ (List.mem_append_right _ (List.mem_append_right _ (List.mem_append_right _ (List.mem_append_right _ (List.mem_append_right _ (List.mem_append_right _ (List.mem_append_left _ h)))))))
  exact List.mem_filter.mpr ⟨List.mem_append_right _ h1, hg⟩
theorem tc8 (i : Nat) {w : Cond} (h0 : tables_1_8[i]? = some w) (hg : xgw w = true) : w ∈ xTB := by
  have h := List.mem_of_getElem? h0
  have h1 : w ∈ lw_tbl := List.mem_append_right _ (List.mem_append_right _ (List.mem_append_right _ (List.mem_append_right _ (List.mem_append_right _ (List.mem_append_right _ (List.mem_append_right _ (List.mem_append_right _ (List.mem_append_left _ h))))))))
  exact List.mem_filter.mpr ⟨List.mem_append_right _ h1, hg⟩
theorem tc9 (i : Nat) {w : Cond} (h0 : tables_1_9[i]? = some w) (hg : xgw w = true) : w ∈ xTB := by
  have h := List.mem_of_getElem? h0
  have h1 : w ∈ lw_tbl := List.mem_append_right _ (List.mem_append_right _ (List.mem_append_right _ (List.mem_append_right _ (List.mem_append_right _ (List.mem_append_right _ (List.mem_append_right _ (List.mem_append_right _ (List.mem_append_right _ (List.mem_append_left _ h)))))))))
  exact List.mem_filter.mpr ⟨List.mem_append_right _ h1, hg⟩
theorem tc10 (i : Nat) {w : Cond} (h0 : tables_1_10[i]? = some w) (hg : xgw w = true) : w ∈ xTB := by
  have h := List.mem_of_getElem? h0
  have h1 : w ∈ lw_tbl := List.mem_append_right _ (List.mem_append_right _ (List.mem_append_right _ (List.mem_append_right _ (List.mem_append_right _ (List.mem_append_right _ (List.mem_append_right _ (List.mem_append_right _ (List.mem_append_right _ (List.mem_append_right _ (h))))))))))
  exact List.mem_filter.mpr ⟨List.mem_append_right _ h1, hg⟩
theorem w0 : (Jvm.Cond.initialized "LevelhouseLaw") ∈ xTB := tc1 0 (by decide +kernel) rfl
theorem w1 : (Jvm.Cond.initialized "Levelhouse") ∈ xTB := tc1 1 (by decide +kernel) rfl
theorem w2 : (Jvm.Cond.initialized "java/util/AbstractCollection") ∈ xTB := tc1 2 (by decide +kernel) rfl
theorem w3 : (Jvm.Cond.initialized "java/util/AbstractList") ∈ xTB := tc1 3 (by decide +kernel) rfl
theorem w4 : (Jvm.Cond.initialized "java/util/ArrayList") ∈ xTB := tc1 4 (by decide +kernel) rfl
theorem w5 : (Jvm.Cond.initialized "Levelhouse$Shelf") ∈ xTB := tc1 5 (by decide +kernel) rfl
theorem w6 : (Jvm.Cond.initialized "Levelhouse$Statement") ∈ xTB := tc1 6 (by decide +kernel) rfl
theorem w7 : (Jvm.Cond.initialized "Levelhouse$Reader") ∈ xTB := tc1 7 (by decide +kernel) rfl
theorem w8 : (Jvm.Cond.initialized "Levelhouse$Formula") ∈ xTB := tc1 8 (by decide +kernel) rfl
theorem w9 : (Jvm.Cond.initialized "java/lang/Enum") ∈ xTB := tc1 9 (by decide +kernel) rfl
theorem w10 : (Jvm.Cond.initialized "Levelhouse$Word") ∈ xTB := tc1 10 (by decide +kernel) rfl
theorem w11 : (Jvm.Cond.initialized "Levelhouse$Meaning") ∈ xTB := tc1 11 (by decide +kernel) rfl
theorem w12 : (Jvm.Cond.initialized "Levelhouse$Sight") ∈ xTB := tc1 12 (by decide +kernel) rfl
theorem w13 : (Jvm.Cond.initialized "Levelhouse$Change") ∈ xTB := tc1 13 (by decide +kernel) rfl
theorem w14 : (Jvm.Cond.initialized "Levelhouse$Query") ∈ xTB := tc1 14 (by decide +kernel) rfl
theorem w15 : (Jvm.Cond.initialized "Levelhouse$Session") ∈ xTB := tc1 15 (by decide +kernel) rfl
theorem w19 : (Jvm.Cond.initialized "java/lang/IndexOutOfBoundsException") ∈ xTB := tc1 19 (by decide +kernel) rfl
theorem w20 : (Jvm.Cond.initialized "java/lang/IllegalArgumentException") ∈ xTB := tc1 20 (by decide +kernel) rfl
theorem w21 : (Jvm.Cond.initialized "java/lang/String") ∈ xTB := tc1 21 (by decide +kernel) rfl
theorem w22 : (Jvm.Cond.initialized "java/lang/StringLatin1") ∈ xTB := tc1 22 (by decide +kernel) rfl
theorem w23 : (Jvm.Cond.initialized "jdk/internal/util/Preconditions") ∈ xTB := tc1 23 (by decide +kernel) rfl
theorem w25 : (Jvm.Cond.initialized "java/lang/IllegalStateException") ∈ xTB := tc1 25 (by decide +kernel) rfl
theorem w26 : (Jvm.Cond.initialized "java/lang/Math") ∈ xTB := tc1 26 (by decide +kernel) rfl
theorem w28 : (Jvm.Cond.initialized "java/util/Objects") ∈ xTB := tc1 28 (by decide +kernel) rfl
theorem w29 : (Jvm.Cond.initialized "jdk/internal/util/ArraysSupport") ∈ xTB := tc1 29 (by decide +kernel) rfl
theorem w30 : (Jvm.Cond.initialized "java/util/Arrays") ∈ xTB := tc1 30 (by decide +kernel) rfl
theorem w31 : (Jvm.Cond.initialized "java/lang/System") ∈ xTB := tc1 31 (by decide +kernel) rfl
theorem w33 : (Jvm.Cond.initialized "java/lang/Integer") ∈ xTB := tc1 33 (by decide +kernel) rfl
theorem w34 : (Jvm.Cond.initialized "Levelhouse$Table") ∈ xTB := tc1 34 (by decide +kernel) rfl
theorem w35 : (Jvm.Cond.initialized "Levelhouse$Entry") ∈ xTB := tc1 35 (by decide +kernel) rfl
theorem w36 : (Jvm.Cond.initialized "java/lang/UnsupportedOperationException") ∈ xTB := tc1 36 (by decide +kernel) rfl
theorem w37 : (Jvm.Cond.initialized "java/util/NoSuchElementException") ∈ xTB := tc1 37 (by decide +kernel) rfl
theorem w38 : (Jvm.Cond.initialized "java/lang/AbstractStringBuilder") ∈ xTB := tc1 38 (by decide +kernel) rfl
theorem w39 : (Jvm.Cond.initialized "java/lang/StringBuilder") ∈ xTB := tc1 39 (by decide +kernel) rfl
theorem w47 : (Jvm.Cond.code ({ cls := "LevelhouseLaw", name := "<init>", desc := "()V" } : Jvm.MethodName) method_1_code (1 : Nat) (Option.none : Option Jvm.ClassFile.FieldType)) ∈ xTB := tc1 47 (by decide +kernel) rfl
theorem w48 : (Jvm.Cond.methodLink "LevelhouseLaw" (1 : Nat) ({ cls := "java/lang/Object", name := "<init>", desc := "()V" } : Jvm.MethodName)) ∈ xTB := tc1 48 (by decide +kernel) rfl
theorem w49 : (Jvm.Cond.instanceMethod ({ cls := "java/lang/Object", name := "<init>", desc := "()V" } : Jvm.MethodName)) ∈ xTB := tc1 49 (by decide +kernel) rfl
theorem w50 : (Jvm.Cond.code ({ cls := "java/lang/Object", name := "<init>", desc := "()V" } : Jvm.MethodName) object_method_1_code (1 : Nat) (Option.none : Option Jvm.ClassFile.FieldType)) ∈ xTB := tc1 50 (by decide +kernel) rfl
theorem w51 : (Jvm.Cond.classLink "LevelhouseLaw" (7 : Nat) "Levelhouse") ∈ xTB := tc1 51 (by decide +kernel) rfl
theorem w52 : (Jvm.Cond.instantiable "Levelhouse" (12 : Nat)) ∈ xTB := tc1 52 (by decide +kernel) rfl
theorem w53 : (Jvm.Cond.methodLink "LevelhouseLaw" (9 : Nat) ({ cls := "Levelhouse", name := "<init>", desc := "()V" } : Jvm.MethodName)) ∈ xTB := tc1 53 (by decide +kernel) rfl
theorem w54 : (Jvm.Cond.instanceMethod ({ cls := "Levelhouse", name := "<init>", desc := "()V" } : Jvm.MethodName)) ∈ xTB := tc1 54 (by decide +kernel) rfl
theorem w55 : (Jvm.Cond.code ({ cls := "Levelhouse", name := "<init>", desc := "()V" } : Jvm.MethodName) prog_1_method_1_code (2 : Nat) (Option.none : Option Jvm.ClassFile.FieldType)) ∈ xTB := tc1 55 (by decide +kernel) rfl
theorem w56 : (Jvm.Cond.methodLink "Levelhouse" (1 : Nat) ({ cls := "java/lang/Object", name := "<init>", desc := "()V" } : Jvm.MethodName)) ∈ xTB := tc1 56 (by decide +kernel) rfl
theorem w57 : (Jvm.Cond.classLink "Levelhouse" (9 : Nat) "Levelhouse$Session") ∈ xTB := tc1 57 (by decide +kernel) rfl
theorem w58 : (Jvm.Cond.arrayOver (Jvm.ClassFile.FieldType.object "Levelhouse$Session")) ∈ xTB := tc1 58 (by decide +kernel) rfl
theorem w59 : (Jvm.Cond.classLink "Levelhouse" (15 : Nat) "java/util/ArrayList") ∈ xTB := tc1 59 (by decide +kernel) rfl
theorem w60 : (Jvm.Cond.instantiable "java/util/ArrayList" (3 : Nat)) ∈ xTB := tc1 60 (by decide +kernel) rfl
theorem w61 : (Jvm.Cond.methodLink "Levelhouse" (17 : Nat) ({ cls := "java/util/ArrayList", name := "<init>", desc := "()V" } : Jvm.MethodName)) ∈ xTB := tc1 61 (by decide +kernel) rfl
theorem w62 : (Jvm.Cond.instanceMethod ({ cls := "java/util/ArrayList", name := "<init>", desc := "()V" } : Jvm.MethodName)) ∈ xTB := tc1 62 (by decide +kernel) rfl
theorem w63 : (Jvm.Cond.code ({ cls := "java/util/ArrayList", name := "<init>", desc := "()V" } : Jvm.MethodName) prog_57_method_2_code (1 : Nat) (Option.none : Option Jvm.ClassFile.FieldType)) ∈ xTB := tc1 63 (by decide +kernel) rfl
theorem w64 : (Jvm.Cond.methodLink "java/util/ArrayList" (1 : Nat) ({ cls := "java/util/AbstractList", name := "<init>", desc := "()V" } : Jvm.MethodName)) ∈ xTB := tc1 64 (by decide +kernel) rfl
theorem w65 : (Jvm.Cond.instanceMethod ({ cls := "java/util/AbstractList", name := "<init>", desc := "()V" } : Jvm.MethodName)) ∈ xTB := tc1 65 (by decide +kernel) rfl
theorem w66 : (Jvm.Cond.code ({ cls := "java/util/AbstractList", name := "<init>", desc := "()V" } : Jvm.MethodName) prog_56_method_1_code (1 : Nat) (Option.none : Option Jvm.ClassFile.FieldType)) ∈ xTB := tc1 66 (by decide +kernel) rfl
theorem w67 : (Jvm.Cond.methodLink "java/util/AbstractList" (1 : Nat) ({ cls := "java/util/AbstractCollection", name := "<init>", desc := "()V" } : Jvm.MethodName)) ∈ xTB := tc1 67 (by decide +kernel) rfl
theorem w68 : (Jvm.Cond.instanceMethod ({ cls := "java/util/AbstractCollection", name := "<init>", desc := "()V" } : Jvm.MethodName)) ∈ xTB := tc1 68 (by decide +kernel) rfl
theorem w69 : (Jvm.Cond.code ({ cls := "java/util/AbstractCollection", name := "<init>", desc := "()V" } : Jvm.MethodName) prog_55_method_1_code (1 : Nat) (Option.none : Option Jvm.ClassFile.FieldType)) ∈ xTB := tc1 69 (by decide +kernel) rfl
theorem w70 : (Jvm.Cond.methodLink "java/util/AbstractCollection" (1 : Nat) ({ cls := "java/lang/Object", name := "<init>", desc := "()V" } : Jvm.MethodName)) ∈ xTB := tc1 70 (by decide +kernel) rfl
theorem w71 : (Jvm.Cond.fieldLink "java/util/ArrayList" (39 : Nat) "java/util/ArrayList" "DEFAULTCAPACITY_EMPTY_ELEMENTDATA" "[Ljava/lang/Object;") ∈ xTB := tc1 71 (by decide +kernel) rfl
theorem w73 : (Jvm.Cond.fieldLink "java/util/ArrayList" (9 : Nat) "java/util/ArrayList" "elementData" "[Ljava/lang/Object;") ∈ xTB := tc1 73 (by decide +kernel) rfl
theorem w74 : (Jvm.Cond.fieldLink "java/util/ArrayList" (48 : Nat) "java/util/ArrayList" "size" "I") ∈ xTB := tc1 74 (by decide +kernel) rfl
theorem w75 : (Jvm.Cond.fieldLink "java/util/AbstractList" (7 : Nat) "java/util/AbstractList" "modCount" "I") ∈ xTB := tc1 75 (by decide +kernel) rfl
theorem w76 : (Jvm.Cond.fieldLink "java/util/ArrayList" (63 : Nat) "java/util/ArrayList" "modCount" "I") ∈ xTB := tc1 76 (by decide +kernel) rfl
theorem w77 : (Jvm.Cond.sameField "java/util/ArrayList" "java/util/AbstractList" "modCount" "I") ∈ xTB := tc1 77 (by decide +kernel) rfl
theorem w78 : (Jvm.Cond.lays "java/util/ArrayList" "java/util/ArrayList" "elementData" "[Ljava/lang/Object;") ∈ xTB := tc1 78 (by decide +kernel) rfl
theorem w80 : (Jvm.Cond.lays "java/util/ArrayList" "java/util/ArrayList" "size" "I") ∈ xTB := tc1 80 (by decide +kernel) rfl
theorem w82 : (Jvm.Cond.lays "java/util/ArrayList" "java/util/AbstractList" "modCount" "I") ∈ xTB := tc1 82 (by decide +kernel) rfl
theorem w85 : (Jvm.Cond.classLink "Levelhouse" (22 : Nat) "Levelhouse$Shelf") ∈ xTB := tc1 85 (by decide +kernel) rfl
theorem w86 : (Jvm.Cond.instantiable "Levelhouse$Shelf" (1 : Nat)) ∈ xTB := tc1 86 (by decide +kernel) rfl
theorem w87 : (Jvm.Cond.methodLinkNest "Levelhouse" (24 : Nat) ({ cls := "Levelhouse$Shelf", name := "<init>", desc := "()V" } : Jvm.MethodName) "Levelhouse") ∈ xTB := tc1 87 (by decide +kernel) rfl
theorem w88 : (Jvm.Cond.instanceMethod ({ cls := "Levelhouse$Shelf", name := "<init>", desc := "()V" } : Jvm.MethodName)) ∈ xTB := tc1 88 (by decide +kernel) rfl
theorem w89 : (Jvm.Cond.code ({ cls := "Levelhouse$Shelf", name := "<init>", desc := "()V" } : Jvm.MethodName) prog_10_method_1_code (1 : Nat) (Option.none : Option Jvm.ClassFile.FieldType)) ∈ xTB := tc1 89 (by decide +kernel) rfl
theorem w90 : (Jvm.Cond.methodLink "Levelhouse$Shelf" (3 : Nat) ({ cls := "java/lang/Object", name := "<init>", desc := "()V" } : Jvm.MethodName)) ∈ xTB := tc1 90 (by decide +kernel) rfl
theorem w91 : (Jvm.Cond.classLink "Levelhouse$Shelf" (9 : Nat) "java/util/ArrayList") ∈ xTB := tc1 91 (by decide +kernel) rfl
theorem w92 : (Jvm.Cond.methodLink "Levelhouse$Shelf" (11 : Nat) ({ cls := "java/util/ArrayList", name := "<init>", desc := "()V" } : Jvm.MethodName)) ∈ xTB := tc1 92 (by decide +kernel) rfl
theorem w93 : (Jvm.Cond.fieldLink "Levelhouse$Shelf" (12 : Nat) "Levelhouse$Shelf" "list" "Ljava/util/ArrayList;") ∈ xTB := tc1 93 (by decide +kernel) rfl
theorem w94 : (Jvm.Cond.laysFinal "Levelhouse$Shelf" "Levelhouse$Shelf" "list" "Ljava/util/ArrayList;") ∈ xTB := tc1 94 (by decide +kernel) rfl
theorem w97 : (Jvm.Cond.classLink "Levelhouse" (36 : Nat) "Levelhouse$Statement") ∈ xTB := tc1 97 (by decide +kernel) rfl
theorem w98 : (Jvm.Cond.instantiable "Levelhouse$Statement" (20 : Nat)) ∈ xTB := tc1 98 (by decide +kernel) rfl
theorem w99 : (Jvm.Cond.methodLinkNest "Levelhouse" (38 : Nat) ({ cls := "Levelhouse$Statement", name := "<init>", desc := "()V" } : Jvm.MethodName) "Levelhouse") ∈ xTB := tc1 99 (by decide +kernel) rfl
theorem w100 : (Jvm.Cond.instanceMethod ({ cls := "Levelhouse$Statement", name := "<init>", desc := "()V" } : Jvm.MethodName)) ∈ xTB := tc1 100 (by decide +kernel) rfl
theorem w101 : (Jvm.Cond.code ({ cls := "Levelhouse$Statement", name := "<init>", desc := "()V" } : Jvm.MethodName) prog_12_method_1_code (1 : Nat) (Option.none : Option Jvm.ClassFile.FieldType)) ∈ xTB := tc1 101 (by decide +kernel) rfl
theorem w102 : (Jvm.Cond.methodLink "Levelhouse$Statement" (3 : Nat) ({ cls := "java/lang/Object", name := "<init>", desc := "()V" } : Jvm.MethodName)) ∈ xTB := tc1 102 (by decide +kernel) rfl
theorem w103 : (Jvm.Cond.classLink "Levelhouse$Statement" (9 : Nat) "Levelhouse$Reader") ∈ xTB := tc1 103 (by decide +kernel) rfl
theorem w104 : (Jvm.Cond.instantiable "Levelhouse$Reader" (7 : Nat)) ∈ xTB := tc1 104 (by decide +kernel) rfl
theorem w105 : (Jvm.Cond.methodLinkNest "Levelhouse$Statement" (11 : Nat) ({ cls := "Levelhouse$Reader", name := "<init>", desc := "()V" } : Jvm.MethodName) "Levelhouse") ∈ xTB := tc1 105 (by decide +kernel) rfl
theorem w106 : (Jvm.Cond.instanceMethod ({ cls := "Levelhouse$Reader", name := "<init>", desc := "()V" } : Jvm.MethodName)) ∈ xTB := tc1 106 (by decide +kernel) rfl
theorem w107 : (Jvm.Cond.code ({ cls := "Levelhouse$Reader", name := "<init>", desc := "()V" } : Jvm.MethodName) prog_8_method_1_code (1 : Nat) (Option.none : Option Jvm.ClassFile.FieldType)) ∈ xTB := tc1 107 (by decide +kernel) rfl
theorem w108 : (Jvm.Cond.methodLink "Levelhouse$Reader" (3 : Nat) ({ cls := "java/lang/Object", name := "<init>", desc := "()V" } : Jvm.MethodName)) ∈ xTB := tc1 108 (by decide +kernel) rfl
theorem w109 : (Jvm.Cond.classLink "Levelhouse$Reader" (9 : Nat) "Levelhouse$Word") ∈ xTB := tc1 109 (by decide +kernel) rfl
theorem w110 : (Jvm.Cond.arrayOver (Jvm.ClassFile.FieldType.object "Levelhouse$Word")) ∈ xTB := tc1 110 (by decide +kernel) rfl
theorem w111 : (Jvm.Cond.fieldLink "Levelhouse$Reader" (11 : Nat) "Levelhouse$Reader" "kinds" "[LLevelhouse$Word;") ∈ xTB := tc1 111 (by decide +kernel) rfl
theorem w112 : (Jvm.Cond.fieldLink "Levelhouse$Reader" (17 : Nat) "Levelhouse$Reader" "values" "[I") ∈ xTB := tc1 112 (by decide +kernel) rfl
theorem w113 : (Jvm.Cond.fieldLink "Levelhouse$Reader" (21 : Nat) "Levelhouse$Reader" "places" "[I") ∈ xTB := tc1 113 (by decide +kernel) rfl
theorem w114 : (Jvm.Cond.fieldLink "Levelhouse$Reader" (24 : Nat) "Levelhouse$Reader" "size" "I") ∈ xTB := tc1 114 (by decide +kernel) rfl
theorem w115 : (Jvm.Cond.fieldLink "Levelhouse$Reader" (43 : Nat) "Levelhouse$Reader" "length" "I") ∈ xTB := tc1 115 (by decide +kernel) rfl
theorem w116 : (Jvm.Cond.fieldLink "Levelhouse$Reader" (28 : Nat) "Levelhouse$Reader" "at" "I") ∈ xTB := tc1 116 (by decide +kernel) rfl
theorem w117 : (Jvm.Cond.fieldLink "Levelhouse$Statement" (106 : Nat) "Levelhouse$Reader" "at" "I") ∈ xTB := tc1 117 (by decide +kernel) rfl
theorem w118 : (Jvm.Cond.fieldLink "Levelhouse$Formula" (84 : Nat) "Levelhouse$Reader" "at" "I") ∈ xTB := tc1 118 (by decide +kernel) rfl
theorem w119 : (Jvm.Cond.fieldLink "Levelhouse$Reader" (31 : Nat) "Levelhouse$Reader" "fault" "I") ∈ xTB := tc1 119 (by decide +kernel) rfl
theorem w120 : (Jvm.Cond.fieldLink "Levelhouse$Formula" (41 : Nat) "Levelhouse$Reader" "fault" "I") ∈ xTB := tc1 120 (by decide +kernel) rfl
theorem w121 : (Jvm.Cond.fieldLink "Levelhouse" (121 : Nat) "Levelhouse$Reader" "fault" "I") ∈ xTB := tc1 121 (by decide +kernel) rfl
theorem w122 : (Jvm.Cond.laysFinal "Levelhouse$Reader" "Levelhouse$Reader" "kinds" "[LLevelhouse$Word;") ∈ xTB := tc1 122 (by decide +kernel) rfl
theorem w124 : (Jvm.Cond.laysFinal "Levelhouse$Reader" "Levelhouse$Reader" "values" "[I") ∈ xTB := tc1 124 (by decide +kernel) rfl
theorem w126 : (Jvm.Cond.laysFinal "Levelhouse$Reader" "Levelhouse$Reader" "places" "[I") ∈ xTB := tc1 126 (by decide +kernel) rfl
theorem w128 : (Jvm.Cond.lays "Levelhouse$Reader" "Levelhouse$Reader" "size" "I") ∈ xTB := tc1 128 (by decide +kernel) rfl
theorem w130 : (Jvm.Cond.lays "Levelhouse$Reader" "Levelhouse$Reader" "length" "I") ∈ xTB := tc1 130 (by decide +kernel) rfl
theorem w132 : (Jvm.Cond.lays "Levelhouse$Reader" "Levelhouse$Reader" "at" "I") ∈ xTB := tc1 132 (by decide +kernel) rfl
theorem w134 : (Jvm.Cond.lays "Levelhouse$Reader" "Levelhouse$Reader" "fault" "I") ∈ xTB := tc1 134 (by decide +kernel) rfl
theorem w137 : (Jvm.Cond.arrayClass Jvm.ClassFile.FieldType.int) ∈ xTB := tc1 137 (by decide +kernel) rfl
theorem w138 : (Jvm.Cond.classLink "Levelhouse$Statement" (18 : Nat) "Levelhouse$Formula") ∈ xTB := tc1 138 (by decide +kernel) rfl
theorem w139 : (Jvm.Cond.instantiable "Levelhouse$Formula" (7 : Nat)) ∈ xTB := tc1 139 (by decide +kernel) rfl
theorem w140 : (Jvm.Cond.methodLink "Levelhouse$Statement" (20 : Nat) ({ cls := "Levelhouse$Formula", name := "<init>", desc := "(I)V" } : Jvm.MethodName)) ∈ xTB := tc1 140 (by decide +kernel) rfl
theorem w141 : (Jvm.Cond.instanceMethod ({ cls := "Levelhouse$Formula", name := "<init>", desc := "(I)V" } : Jvm.MethodName)) ∈ xTB := tc1 141 (by decide +kernel) rfl
theorem w142 : (Jvm.Cond.code ({ cls := "Levelhouse$Formula", name := "<init>", desc := "(I)V" } : Jvm.MethodName) prog_5_method_1_code (3 : Nat) (Option.none : Option Jvm.ClassFile.FieldType)) ∈ xTB := tc1 142 (by decide +kernel) rfl
theorem w143 : (Jvm.Cond.methodLink "Levelhouse$Formula" (3 : Nat) ({ cls := "java/lang/Object", name := "<init>", desc := "()V" } : Jvm.MethodName)) ∈ xTB := tc1 143 (by decide +kernel) rfl
theorem w144 : (Jvm.Cond.classLink "Levelhouse$Formula" (9 : Nat) "Levelhouse$Word") ∈ xTB := tc1 144 (by decide +kernel) rfl
theorem w145 : (Jvm.Cond.fieldLink "Levelhouse$Formula" (11 : Nat) "Levelhouse$Formula" "ops" "[LLevelhouse$Word;") ∈ xTB := tc1 145 (by decide +kernel) rfl
theorem w146 : (Jvm.Cond.fieldLink "Levelhouse$Formula" (17 : Nat) "Levelhouse$Formula" "args" "[I") ∈ xTB := tc1 146 (by decide +kernel) rfl
theorem w147 : (Jvm.Cond.fieldLink "Levelhouse$Formula" (21 : Nat) "Levelhouse$Formula" "places" "[I") ∈ xTB := tc1 147 (by decide +kernel) rfl
theorem w148 : (Jvm.Cond.fieldLink "Levelhouse$Formula" (24 : Nat) "Levelhouse$Formula" "stack" "[I") ∈ xTB := tc1 148 (by decide +kernel) rfl
theorem w149 : (Jvm.Cond.fieldLink "Levelhouse$Formula" (27 : Nat) "Levelhouse$Formula" "waiting" "[LLevelhouse$Word;") ∈ xTB := tc1 149 (by decide +kernel) rfl
theorem w150 : (Jvm.Cond.fieldLink "Levelhouse$Formula" (38 : Nat) "Levelhouse$Formula" "waitingSize" "I") ∈ xTB := tc1 150 (by decide +kernel) rfl
theorem w151 : (Jvm.Cond.fieldLink "Levelhouse$Formula" (30 : Nat) "Levelhouse$Formula" "size" "I") ∈ xTB := tc1 151 (by decide +kernel) rfl
theorem w152 : (Jvm.Cond.fieldLink "Levelhouse$Meaning" (86 : Nat) "Levelhouse$Formula" "size" "I") ∈ xTB := tc1 152 (by decide +kernel) rfl
theorem w153 : (Jvm.Cond.fieldLink "Levelhouse$Statement" (112 : Nat) "Levelhouse$Formula" "size" "I") ∈ xTB := tc1 153 (by decide +kernel) rfl
theorem w154 : (Jvm.Cond.fieldLink "Levelhouse$Change" (197 : Nat) "Levelhouse$Formula" "size" "I") ∈ xTB := tc1 154 (by decide +kernel) rfl
theorem w155 : (Jvm.Cond.laysFinal "Levelhouse$Formula" "Levelhouse$Formula" "ops" "[LLevelhouse$Word;") ∈ xTB := tc1 155 (by decide +kernel) rfl
theorem w157 : (Jvm.Cond.laysFinal "Levelhouse$Formula" "Levelhouse$Formula" "args" "[I") ∈ xTB := tc1 157 (by decide +kernel) rfl
theorem w159 : (Jvm.Cond.laysFinal "Levelhouse$Formula" "Levelhouse$Formula" "places" "[I") ∈ xTB := tc1 159 (by decide +kernel) rfl
theorem w161 : (Jvm.Cond.laysFinal "Levelhouse$Formula" "Levelhouse$Formula" "stack" "[I") ∈ xTB := tc1 161 (by decide +kernel) rfl
theorem w163 : (Jvm.Cond.laysFinal "Levelhouse$Formula" "Levelhouse$Formula" "waiting" "[LLevelhouse$Word;") ∈ xTB := tc1 163 (by decide +kernel) rfl
theorem w165 : (Jvm.Cond.lays "Levelhouse$Formula" "Levelhouse$Formula" "waitingSize" "I") ∈ xTB := tc1 165 (by decide +kernel) rfl
theorem w167 : (Jvm.Cond.lays "Levelhouse$Formula" "Levelhouse$Formula" "size" "I") ∈ xTB := tc1 167 (by decide +kernel) rfl
theorem w170 : (Jvm.Cond.fieldLink "Levelhouse$Statement" (27 : Nat) "Levelhouse$Word" "END" "LLevelhouse$Word;") ∈ xTB := tc1 170 (by decide +kernel) rfl
theorem w172 : (Jvm.Cond.classLink "Levelhouse$Statement" (28 : Nat) "Levelhouse$Word") ∈ xTB := tc1 172 (by decide +kernel) rfl
theorem w173 : (Jvm.Cond.fieldLink "Levelhouse$Statement" (12 : Nat) "Levelhouse$Statement" "reader" "LLevelhouse$Reader;") ∈ xTB := tc1 173 (by decide +kernel) rfl
theorem w174 : (Jvm.Cond.fieldLink "Levelhouse$Query" (60 : Nat) "Levelhouse$Statement" "reader" "LLevelhouse$Reader;") ∈ xTB := tc1 174 (by decide +kernel) rfl
theorem w175 : (Jvm.Cond.fieldLink "Levelhouse$Meaning" (95 : Nat) "Levelhouse$Statement" "reader" "LLevelhouse$Reader;") ∈ xTB := tc1 175 (by decide +kernel) rfl
theorem w176 : (Jvm.Cond.fieldLink "Levelhouse" (117 : Nat) "Levelhouse$Statement" "reader" "LLevelhouse$Reader;") ∈ xTB := tc1 176 (by decide +kernel) rfl
theorem w177 : (Jvm.Cond.fieldLink "Levelhouse$Statement" (23 : Nat) "Levelhouse$Statement" "code" "LLevelhouse$Formula;") ∈ xTB := tc1 177 (by decide +kernel) rfl
theorem w178 : (Jvm.Cond.fieldLink "Levelhouse$Meaning" (82 : Nat) "Levelhouse$Statement" "code" "LLevelhouse$Formula;") ∈ xTB := tc1 178 (by decide +kernel) rfl
theorem w179 : (Jvm.Cond.fieldLink "Levelhouse$Query" (265 : Nat) "Levelhouse$Statement" "code" "LLevelhouse$Formula;") ∈ xTB := tc1 179 (by decide +kernel) rfl
theorem w180 : (Jvm.Cond.fieldLink "Levelhouse$Statement" (33 : Nat) "Levelhouse$Statement" "verb" "LLevelhouse$Word;") ∈ xTB := tc1 180 (by decide +kernel) rfl
theorem w181 : (Jvm.Cond.fieldLink "Levelhouse$Meaning" (37 : Nat) "Levelhouse$Statement" "verb" "LLevelhouse$Word;") ∈ xTB := tc1 181 (by decide +kernel) rfl
theorem w182 : (Jvm.Cond.fieldLink "Levelhouse$Change" (127 : Nat) "Levelhouse$Statement" "verb" "LLevelhouse$Word;") ∈ xTB := tc1 182 (by decide +kernel) rfl
theorem w183 : (Jvm.Cond.fieldLink "Levelhouse" (139 : Nat) "Levelhouse$Statement" "verb" "LLevelhouse$Word;") ∈ xTB := tc1 183 (by decide +kernel) rfl
theorem w184 : (Jvm.Cond.fieldLink "Levelhouse$Query" (133 : Nat) "Levelhouse$Statement" "isEach" "Z") ∈ xTB := tc1 184 (by decide +kernel) rfl
theorem w185 : (Jvm.Cond.fieldLink "Levelhouse$Statement" (115 : Nat) "Levelhouse$Statement" "isEach" "Z") ∈ xTB := tc1 185 (by decide +kernel) rfl
theorem w186 : (Jvm.Cond.fieldLink "Levelhouse$Statement" (119 : Nat) "Levelhouse$Statement" "allAt" "I") ∈ xTB := tc1 186 (by decide +kernel) rfl
theorem w187 : (Jvm.Cond.fieldLink "Levelhouse$Meaning" (197 : Nat) "Levelhouse$Statement" "allAt" "I") ∈ xTB := tc1 187 (by decide +kernel) rfl
theorem w188 : (Jvm.Cond.fieldLink "Levelhouse$Query" (241 : Nat) "Levelhouse$Statement" "allAt" "I") ∈ xTB := tc1 188 (by decide +kernel) rfl
theorem w189 : (Jvm.Cond.fieldLink "Levelhouse$Meaning" (51 : Nat) "Levelhouse$Statement" "tableAt" "I") ∈ xTB := tc1 189 (by decide +kernel) rfl
theorem w190 : (Jvm.Cond.fieldLink "Levelhouse$Statement" (93 : Nat) "Levelhouse$Statement" "tableAt" "I") ∈ xTB := tc1 190 (by decide +kernel) rfl
theorem w191 : (Jvm.Cond.fieldLink "Levelhouse" (317 : Nat) "Levelhouse$Statement" "tableAt" "I") ∈ xTB := tc1 191 (by decide +kernel) rfl
theorem w192 : (Jvm.Cond.fieldLink "Levelhouse$Meaning" (58 : Nat) "Levelhouse$Statement" "joinAt" "I") ∈ xTB := tc1 192 (by decide +kernel) rfl
theorem w193 : (Jvm.Cond.fieldLink "Levelhouse$Statement" (122 : Nat) "Levelhouse$Statement" "joinAt" "I") ∈ xTB := tc1 193 (by decide +kernel) rfl
theorem w194 : (Jvm.Cond.fieldLink "Levelhouse$Query" (174 : Nat) "Levelhouse$Statement" "joinAt" "I") ∈ xTB := tc1 194 (by decide +kernel) rfl
theorem w195 : (Jvm.Cond.fieldLink "Levelhouse$Statement" (125 : Nat) "Levelhouse$Statement" "firstAt" "I") ∈ xTB := tc1 195 (by decide +kernel) rfl
theorem w196 : (Jvm.Cond.fieldLink "Levelhouse$Meaning" (185 : Nat) "Levelhouse$Statement" "firstAt" "I") ∈ xTB := tc1 196 (by decide +kernel) rfl
theorem w197 : (Jvm.Cond.fieldLink "Levelhouse$Statement" (128 : Nat) "Levelhouse$Statement" "secondAt" "I") ∈ xTB := tc1 197 (by decide +kernel) rfl
theorem w198 : (Jvm.Cond.fieldLink "Levelhouse$Meaning" (191 : Nat) "Levelhouse$Statement" "secondAt" "I") ∈ xTB := tc1 198 (by decide +kernel) rfl
theorem w199 : (Jvm.Cond.fieldLink "Levelhouse$Query" (55 : Nat) "Levelhouse$Statement" "orderAt" "I") ∈ xTB := tc1 199 (by decide +kernel) rfl
theorem w200 : (Jvm.Cond.fieldLink "Levelhouse$Statement" (131 : Nat) "Levelhouse$Statement" "orderAt" "I") ∈ xTB := tc1 200 (by decide +kernel) rfl
theorem w201 : (Jvm.Cond.fieldLink "Levelhouse$Meaning" (179 : Nat) "Levelhouse$Statement" "orderAt" "I") ∈ xTB := tc1 201 (by decide +kernel) rfl
theorem w202 : (Jvm.Cond.fieldLink "Levelhouse$Query" (87 : Nat) "Levelhouse$Statement" "topAt" "I") ∈ xTB := tc1 202 (by decide +kernel) rfl
theorem w203 : (Jvm.Cond.fieldLink "Levelhouse$Statement" (134 : Nat) "Levelhouse$Statement" "topAt" "I") ∈ xTB := tc1 203 (by decide +kernel) rfl
theorem w204 : (Jvm.Cond.fieldLink "Levelhouse$Statement" (137 : Nat) "Levelhouse$Statement" "closeAt" "I") ∈ xTB := tc1 204 (by decide +kernel) rfl
theorem w205 : (Jvm.Cond.fieldLink "Levelhouse$Meaning" (233 : Nat) "Levelhouse$Statement" "closeAt" "I") ∈ xTB := tc1 205 (by decide +kernel) rfl
theorem w206 : (Jvm.Cond.fieldLink "Levelhouse$Statement" (140 : Nat) "Levelhouse$Statement" "ifFrom" "I") ∈ xTB := tc1 206 (by decide +kernel) rfl
theorem w207 : (Jvm.Cond.fieldLink "Levelhouse$Statement" (143 : Nat) "Levelhouse$Statement" "ifTo" "I") ∈ xTB := tc1 207 (by decide +kernel) rfl
theorem w208 : (Jvm.Cond.fieldLink "Levelhouse$Statement" (146 : Nat) "Levelhouse$Statement" "items" "I") ∈ xTB := tc1 208 (by decide +kernel) rfl
theorem w209 : (Jvm.Cond.fieldLink "Levelhouse$Meaning" (164 : Nat) "Levelhouse$Statement" "items" "I") ∈ xTB := tc1 209 (by decide +kernel) rfl
theorem w210 : (Jvm.Cond.fieldLink "Levelhouse$Statement" (149 : Nat) "Levelhouse$Statement" "columns" "I") ∈ xTB := tc1 210 (by decide +kernel) rfl
theorem w211 : (Jvm.Cond.fieldLink "Levelhouse$Change" (146 : Nat) "Levelhouse$Statement" "columns" "I") ∈ xTB := tc1 211 (by decide +kernel) rfl
theorem w212 : (Jvm.Cond.fieldLink "Levelhouse$Meaning" (158 : Nat) "Levelhouse$Statement" "columns" "I") ∈ xTB := tc1 212 (by decide +kernel) rfl
theorem w213 : (Jvm.Cond.fieldLink "Levelhouse$Query" (205 : Nat) "Levelhouse$Statement" "columns" "I") ∈ xTB := tc1 213 (by decide +kernel) rfl
theorem w214 : (Jvm.Cond.fieldLink "Levelhouse$Statement" (36 : Nat) "Levelhouse$Statement" "itemKinds" "[LLevelhouse$Word;") ∈ xTB := tc1 214 (by decide +kernel) rfl
theorem w215 : (Jvm.Cond.fieldLink "Levelhouse$Statement" (40 : Nat) "Levelhouse$Statement" "itemAts" "[I") ∈ xTB := tc1 215 (by decide +kernel) rfl
theorem w216 : (Jvm.Cond.fieldLink "Levelhouse$Statement" (44 : Nat) "Levelhouse$Statement" "itemFroms" "[I") ∈ xTB := tc1 216 (by decide +kernel) rfl
theorem w217 : (Jvm.Cond.fieldLink "Levelhouse$Statement" (47 : Nat) "Levelhouse$Statement" "columnAts" "[I") ∈ xTB := tc1 217 (by decide +kernel) rfl
theorem w218 : (Jvm.Cond.laysFinal "Levelhouse$Statement" "Levelhouse$Statement" "reader" "LLevelhouse$Reader;") ∈ xTB := tc1 218 (by decide +kernel) rfl
theorem w220 : (Jvm.Cond.laysFinal "Levelhouse$Statement" "Levelhouse$Statement" "code" "LLevelhouse$Formula;") ∈ xTB := tc1 220 (by decide +kernel) rfl
theorem w222 : (Jvm.Cond.lays "Levelhouse$Statement" "Levelhouse$Statement" "verb" "LLevelhouse$Word;") ∈ xTB := tc1 222 (by decide +kernel) rfl
theorem w224 : (Jvm.Cond.lays "Levelhouse$Statement" "Levelhouse$Statement" "isEach" "Z") ∈ xTB := tc1 224 (by decide +kernel) rfl
theorem w226 : (Jvm.Cond.lays "Levelhouse$Statement" "Levelhouse$Statement" "allAt" "I") ∈ xTB := tc1 226 (by decide +kernel) rfl
theorem w228 : (Jvm.Cond.lays "Levelhouse$Statement" "Levelhouse$Statement" "tableAt" "I") ∈ xTB := tc1 228 (by decide +kernel) rfl
theorem w230 : (Jvm.Cond.lays "Levelhouse$Statement" "Levelhouse$Statement" "joinAt" "I") ∈ xTB := tc1 230 (by decide +kernel) rfl
theorem w232 : (Jvm.Cond.lays "Levelhouse$Statement" "Levelhouse$Statement" "firstAt" "I") ∈ xTB := tc1 232 (by decide +kernel) rfl
theorem w234 : (Jvm.Cond.lays "Levelhouse$Statement" "Levelhouse$Statement" "secondAt" "I") ∈ xTB := tc1 234 (by decide +kernel) rfl
theorem w236 : (Jvm.Cond.lays "Levelhouse$Statement" "Levelhouse$Statement" "orderAt" "I") ∈ xTB := tc1 236 (by decide +kernel) rfl
theorem w238 : (Jvm.Cond.lays "Levelhouse$Statement" "Levelhouse$Statement" "topAt" "I") ∈ xTB := tc1 238 (by decide +kernel) rfl
theorem w240 : (Jvm.Cond.lays "Levelhouse$Statement" "Levelhouse$Statement" "closeAt" "I") ∈ xTB := tc2 0 (by decide +kernel) rfl
theorem w242 : (Jvm.Cond.lays "Levelhouse$Statement" "Levelhouse$Statement" "ifFrom" "I") ∈ xTB := tc2 2 (by decide +kernel) rfl
theorem w244 : (Jvm.Cond.lays "Levelhouse$Statement" "Levelhouse$Statement" "ifTo" "I") ∈ xTB := tc2 4 (by decide +kernel) rfl
theorem w246 : (Jvm.Cond.lays "Levelhouse$Statement" "Levelhouse$Statement" "items" "I") ∈ xTB := tc2 6 (by decide +kernel) rfl
theorem w248 : (Jvm.Cond.lays "Levelhouse$Statement" "Levelhouse$Statement" "columns" "I") ∈ xTB := tc2 8 (by decide +kernel) rfl
theorem w250 : (Jvm.Cond.laysFinal "Levelhouse$Statement" "Levelhouse$Statement" "itemKinds" "[LLevelhouse$Word;") ∈ xTB := tc2 10 (by decide +kernel) rfl
theorem w252 : (Jvm.Cond.laysFinal "Levelhouse$Statement" "Levelhouse$Statement" "itemAts" "[I") ∈ xTB := tc2 12 (by decide +kernel) rfl
theorem w254 : (Jvm.Cond.laysFinal "Levelhouse$Statement" "Levelhouse$Statement" "itemFroms" "[I") ∈ xTB := tc2 14 (by decide +kernel) rfl
theorem w256 : (Jvm.Cond.laysFinal "Levelhouse$Statement" "Levelhouse$Statement" "columnAts" "[I") ∈ xTB := tc2 16 (by decide +kernel) rfl
theorem w259 : (Jvm.Cond.classLink "Levelhouse" (43 : Nat) "Levelhouse$Meaning") ∈ xTB := tc2 19 (by decide +kernel) rfl
theorem w260 : (Jvm.Cond.instantiable "Levelhouse$Meaning" (10 : Nat)) ∈ xTB := tc2 20 (by decide +kernel) rfl
theorem w261 : (Jvm.Cond.methodLinkNest "Levelhouse" (45 : Nat) ({ cls := "Levelhouse$Meaning", name := "<init>", desc := "()V" } : Jvm.MethodName) "Levelhouse") ∈ xTB := tc2 21 (by decide +kernel) rfl
theorem w262 : (Jvm.Cond.instanceMethod ({ cls := "Levelhouse$Meaning", name := "<init>", desc := "()V" } : Jvm.MethodName)) ∈ xTB := tc2 22 (by decide +kernel) rfl
theorem w263 : (Jvm.Cond.code ({ cls := "Levelhouse$Meaning", name := "<init>", desc := "()V" } : Jvm.MethodName) prog_6_method_1_code (1 : Nat) (Option.none : Option Jvm.ClassFile.FieldType)) ∈ xTB := tc2 23 (by decide +kernel) rfl
theorem w264 : (Jvm.Cond.methodLink "Levelhouse$Meaning" (3 : Nat) ({ cls := "java/lang/Object", name := "<init>", desc := "()V" } : Jvm.MethodName)) ∈ xTB := tc2 24 (by decide +kernel) rfl
theorem w265 : (Jvm.Cond.fieldLink "Levelhouse$Meaning" (15 : Nat) "Levelhouse$Meaning" "statement" "LLevelhouse$Statement;") ∈ xTB := tc2 25 (by decide +kernel) rfl
theorem w266 : (Jvm.Cond.fieldLink "Levelhouse$Meaning" (19 : Nat) "Levelhouse$Meaning" "standing" "Ljava/util/ArrayList;") ∈ xTB := tc2 26 (by decide +kernel) rfl
theorem w267 : (Jvm.Cond.fieldLink "Levelhouse$Meaning" (23 : Nat) "Levelhouse$Meaning" "label" "I") ∈ xTB := tc2 27 (by decide +kernel) rfl
theorem w268 : (Jvm.Cond.fieldLink "Levelhouse$Meaning" (27 : Nat) "Levelhouse$Meaning" "wrong" "I") ∈ xTB := tc2 28 (by decide +kernel) rfl
theorem w269 : (Jvm.Cond.fieldLink "Levelhouse$Meaning" (30 : Nat) "Levelhouse$Meaning" "one" "LLevelhouse$Table;") ∈ xTB := tc2 29 (by decide +kernel) rfl
theorem w270 : (Jvm.Cond.fieldLink "Levelhouse$Query" (100 : Nat) "Levelhouse$Meaning" "one" "LLevelhouse$Table;") ∈ xTB := tc2 30 (by decide +kernel) rfl
theorem w271 : (Jvm.Cond.fieldLink "Levelhouse$Change" (61 : Nat) "Levelhouse$Meaning" "one" "LLevelhouse$Table;") ∈ xTB := tc2 31 (by decide +kernel) rfl
theorem w272 : (Jvm.Cond.fieldLink "Levelhouse" (333 : Nat) "Levelhouse$Meaning" "one" "LLevelhouse$Table;") ∈ xTB := tc2 32 (by decide +kernel) rfl
theorem w273 : (Jvm.Cond.fieldLink "Levelhouse$Meaning" (34 : Nat) "Levelhouse$Meaning" "two" "LLevelhouse$Table;") ∈ xTB := tc2 33 (by decide +kernel) rfl
theorem w274 : (Jvm.Cond.fieldLink "Levelhouse$Query" (108 : Nat) "Levelhouse$Meaning" "two" "LLevelhouse$Table;") ∈ xTB := tc2 34 (by decide +kernel) rfl
theorem w275 : (Jvm.Cond.fieldLink "Levelhouse$Query" (114 : Nat) "Levelhouse$Meaning" "isGrouped" "Z") ∈ xTB := tc2 35 (by decide +kernel) rfl
theorem w276 : (Jvm.Cond.fieldLink "Levelhouse$Meaning" (160 : Nat) "Levelhouse$Meaning" "isGrouped" "Z") ∈ xTB := tc2 36 (by decide +kernel) rfl
theorem w277 : (Jvm.Cond.fieldLink "Levelhouse$Query" (189 : Nat) "Levelhouse$Meaning" "firstColumn" "I") ∈ xTB := tc2 37 (by decide +kernel) rfl
theorem w278 : (Jvm.Cond.fieldLink "Levelhouse$Meaning" (188 : Nat) "Levelhouse$Meaning" "firstColumn" "I") ∈ xTB := tc2 38 (by decide +kernel) rfl
theorem w279 : (Jvm.Cond.fieldLink "Levelhouse$Query" (196 : Nat) "Levelhouse$Meaning" "secondColumn" "I") ∈ xTB := tc2 39 (by decide +kernel) rfl
theorem w280 : (Jvm.Cond.fieldLink "Levelhouse$Meaning" (194 : Nat) "Levelhouse$Meaning" "secondColumn" "I") ∈ xTB := tc2 40 (by decide +kernel) rfl
theorem w281 : (Jvm.Cond.fieldLink "Levelhouse$Meaning" (9 : Nat) "Levelhouse$Meaning" "columns" "[I") ∈ xTB := tc2 41 (by decide +kernel) rfl
theorem w282 : (Jvm.Cond.lays "Levelhouse$Meaning" "Levelhouse$Meaning" "statement" "LLevelhouse$Statement;") ∈ xTB := tc2 42 (by decide +kernel) rfl
theorem w284 : (Jvm.Cond.lays "Levelhouse$Meaning" "Levelhouse$Meaning" "standing" "Ljava/util/ArrayList;") ∈ xTB := tc2 44 (by decide +kernel) rfl
theorem w286 : (Jvm.Cond.lays "Levelhouse$Meaning" "Levelhouse$Meaning" "label" "I") ∈ xTB := tc2 46 (by decide +kernel) rfl
theorem w288 : (Jvm.Cond.lays "Levelhouse$Meaning" "Levelhouse$Meaning" "wrong" "I") ∈ xTB := tc2 48 (by decide +kernel) rfl
theorem w290 : (Jvm.Cond.lays "Levelhouse$Meaning" "Levelhouse$Meaning" "one" "LLevelhouse$Table;") ∈ xTB := tc2 50 (by decide +kernel) rfl
theorem w292 : (Jvm.Cond.lays "Levelhouse$Meaning" "Levelhouse$Meaning" "two" "LLevelhouse$Table;") ∈ xTB := tc2 52 (by decide +kernel) rfl
theorem w294 : (Jvm.Cond.lays "Levelhouse$Meaning" "Levelhouse$Meaning" "isGrouped" "Z") ∈ xTB := tc2 54 (by decide +kernel) rfl
theorem w296 : (Jvm.Cond.lays "Levelhouse$Meaning" "Levelhouse$Meaning" "firstColumn" "I") ∈ xTB := tc2 56 (by decide +kernel) rfl
theorem w298 : (Jvm.Cond.lays "Levelhouse$Meaning" "Levelhouse$Meaning" "secondColumn" "I") ∈ xTB := tc2 58 (by decide +kernel) rfl
theorem w300 : (Jvm.Cond.laysFinal "Levelhouse$Meaning" "Levelhouse$Meaning" "columns" "[I") ∈ xTB := tc2 60 (by decide +kernel) rfl
theorem w303 : (Jvm.Cond.classLink "Levelhouse" (50 : Nat) "Levelhouse$Sight") ∈ xTB := tc2 63 (by decide +kernel) rfl
theorem w304 : (Jvm.Cond.instantiable "Levelhouse$Sight" (2 : Nat)) ∈ xTB := tc2 64 (by decide +kernel) rfl
theorem w305 : (Jvm.Cond.methodLinkNest "Levelhouse" (52 : Nat) ({ cls := "Levelhouse$Sight", name := "<init>", desc := "()V" } : Jvm.MethodName) "Levelhouse") ∈ xTB := tc2 65 (by decide +kernel) rfl
theorem w306 : (Jvm.Cond.instanceMethod ({ cls := "Levelhouse$Sight", name := "<init>", desc := "()V" } : Jvm.MethodName)) ∈ xTB := tc2 66 (by decide +kernel) rfl
theorem w307 : (Jvm.Cond.code ({ cls := "Levelhouse$Sight", name := "<init>", desc := "()V" } : Jvm.MethodName) prog_11_method_1_code (1 : Nat) (Option.none : Option Jvm.ClassFile.FieldType)) ∈ xTB := tc2 67 (by decide +kernel) rfl
theorem w308 : (Jvm.Cond.methodLink "Levelhouse$Sight" (3 : Nat) ({ cls := "java/lang/Object", name := "<init>", desc := "()V" } : Jvm.MethodName)) ∈ xTB := tc2 68 (by decide +kernel) rfl
theorem w309 : (Jvm.Cond.classLink "Levelhouse$Sight" (9 : Nat) "java/util/ArrayList") ∈ xTB := tc2 69 (by decide +kernel) rfl
theorem w310 : (Jvm.Cond.methodLink "Levelhouse$Sight" (11 : Nat) ({ cls := "java/util/ArrayList", name := "<init>", desc := "()V" } : Jvm.MethodName)) ∈ xTB := tc2 70 (by decide +kernel) rfl
theorem w311 : (Jvm.Cond.fieldLink "Levelhouse$Sight" (12 : Nat) "Levelhouse$Sight" "list" "Ljava/util/ArrayList;") ∈ xTB := tc2 71 (by decide +kernel) rfl
theorem w312 : (Jvm.Cond.fieldLink "Levelhouse$Sight" (21 : Nat) "Levelhouse$Sight" "label" "I") ∈ xTB := tc2 72 (by decide +kernel) rfl
theorem w313 : (Jvm.Cond.fieldLinkNest "Levelhouse$Query" (161 : Nat) "Levelhouse$Sight" "label" "I" "Levelhouse") ∈ xTB := tc2 73 (by decide +kernel) rfl
theorem w314 : (Jvm.Cond.laysFinal "Levelhouse$Sight" "Levelhouse$Sight" "list" "Ljava/util/ArrayList;") ∈ xTB := tc2 74 (by decide +kernel) rfl
theorem w316 : (Jvm.Cond.lays "Levelhouse$Sight" "Levelhouse$Sight" "label" "I") ∈ xTB := tc2 76 (by decide +kernel) rfl
theorem w319 : (Jvm.Cond.classLink "Levelhouse" (57 : Nat) "Levelhouse$Change") ∈ xTB := tc2 79 (by decide +kernel) rfl
theorem w320 : (Jvm.Cond.instantiable "Levelhouse$Change" (7 : Nat)) ∈ xTB := tc2 80 (by decide +kernel) rfl
theorem w321 : (Jvm.Cond.methodLinkNest "Levelhouse" (59 : Nat) ({ cls := "Levelhouse$Change", name := "<init>", desc := "()V" } : Jvm.MethodName) "Levelhouse") ∈ xTB := tc2 81 (by decide +kernel) rfl
theorem w322 : (Jvm.Cond.instanceMethod ({ cls := "Levelhouse$Change", name := "<init>", desc := "()V" } : Jvm.MethodName)) ∈ xTB := tc2 82 (by decide +kernel) rfl
theorem w323 : (Jvm.Cond.code ({ cls := "Levelhouse$Change", name := "<init>", desc := "()V" } : Jvm.MethodName) prog_3_method_1_code (1 : Nat) (Option.none : Option Jvm.ClassFile.FieldType)) ∈ xTB := tc2 83 (by decide +kernel) rfl
theorem w324 : (Jvm.Cond.methodLink "Levelhouse$Change" (3 : Nat) ({ cls := "java/lang/Object", name := "<init>", desc := "()V" } : Jvm.MethodName)) ∈ xTB := tc2 84 (by decide +kernel) rfl
theorem w325 : (Jvm.Cond.classLink "Levelhouse$Change" (9 : Nat) "Levelhouse$Shelf") ∈ xTB := tc2 85 (by decide +kernel) rfl
theorem w326 : (Jvm.Cond.methodLinkNest "Levelhouse$Change" (11 : Nat) ({ cls := "Levelhouse$Shelf", name := "<init>", desc := "()V" } : Jvm.MethodName) "Levelhouse") ∈ xTB := tc2 86 (by decide +kernel) rfl
theorem w327 : (Jvm.Cond.classLink "Levelhouse$Change" (18 : Nat) "java/util/ArrayList") ∈ xTB := tc2 87 (by decide +kernel) rfl
theorem w328 : (Jvm.Cond.methodLink "Levelhouse$Change" (20 : Nat) ({ cls := "java/util/ArrayList", name := "<init>", desc := "()V" } : Jvm.MethodName)) ∈ xTB := tc2 88 (by decide +kernel) rfl
theorem w329 : (Jvm.Cond.classLink "Levelhouse$Change" (28 : Nat) "Levelhouse$Sight") ∈ xTB := tc2 89 (by decide +kernel) rfl
theorem w330 : (Jvm.Cond.methodLinkNest "Levelhouse$Change" (30 : Nat) ({ cls := "Levelhouse$Sight", name := "<init>", desc := "()V" } : Jvm.MethodName) "Levelhouse") ∈ xTB := tc2 90 (by decide +kernel) rfl
theorem w331 : (Jvm.Cond.fieldLink "Levelhouse$Change" (12 : Nat) "Levelhouse$Change" "draft" "LLevelhouse$Shelf;") ∈ xTB := tc2 91 (by decide +kernel) rfl
theorem w332 : (Jvm.Cond.fieldLink "Levelhouse" (213 : Nat) "Levelhouse$Change" "draft" "LLevelhouse$Shelf;") ∈ xTB := tc2 92 (by decide +kernel) rfl
theorem w333 : (Jvm.Cond.fieldLink "Levelhouse$Change" (21 : Nat) "Levelhouse$Change" "touched" "Ljava/util/ArrayList;") ∈ xTB := tc2 93 (by decide +kernel) rfl
theorem w334 : (Jvm.Cond.fieldLink "Levelhouse" (377 : Nat) "Levelhouse$Change" "touched" "Ljava/util/ArrayList;") ∈ xTB := tc2 94 (by decide +kernel) rfl
theorem w335 : (Jvm.Cond.fieldLink "Levelhouse$Change" (25 : Nat) "Levelhouse$Change" "made" "Ljava/util/ArrayList;") ∈ xTB := tc2 95 (by decide +kernel) rfl
theorem w336 : (Jvm.Cond.fieldLink "Levelhouse$Change" (31 : Nat) "Levelhouse$Change" "sight" "LLevelhouse$Sight;") ∈ xTB := tc2 96 (by decide +kernel) rfl
theorem w337 : (Jvm.Cond.fieldLink "Levelhouse$Change" (42 : Nat) "Levelhouse$Change" "label" "I") ∈ xTB := tc2 97 (by decide +kernel) rfl
theorem w338 : (Jvm.Cond.fieldLink "Levelhouse$Change" (46 : Nat) "Levelhouse$Change" "altered" "I") ∈ xTB := tc2 98 (by decide +kernel) rfl
theorem w339 : (Jvm.Cond.fieldLink "Levelhouse" (374 : Nat) "Levelhouse$Change" "altered" "I") ∈ xTB := tc2 99 (by decide +kernel) rfl
theorem w340 : (Jvm.Cond.fieldLink "Levelhouse$Change" (49 : Nat) "Levelhouse$Change" "isGiven" "Z") ∈ xTB := tc2 100 (by decide +kernel) rfl
theorem w341 : (Jvm.Cond.fieldLink "Levelhouse" (384 : Nat) "Levelhouse$Change" "isGiven" "Z") ∈ xTB := tc2 101 (by decide +kernel) rfl
theorem w342 : (Jvm.Cond.laysFinal "Levelhouse$Change" "Levelhouse$Change" "draft" "LLevelhouse$Shelf;") ∈ xTB := tc2 102 (by decide +kernel) rfl
theorem w344 : (Jvm.Cond.laysFinal "Levelhouse$Change" "Levelhouse$Change" "touched" "Ljava/util/ArrayList;") ∈ xTB := tc2 104 (by decide +kernel) rfl
theorem w346 : (Jvm.Cond.laysFinal "Levelhouse$Change" "Levelhouse$Change" "made" "Ljava/util/ArrayList;") ∈ xTB := tc2 106 (by decide +kernel) rfl
theorem w348 : (Jvm.Cond.laysFinal "Levelhouse$Change" "Levelhouse$Change" "sight" "LLevelhouse$Sight;") ∈ xTB := tc2 108 (by decide +kernel) rfl
theorem w350 : (Jvm.Cond.lays "Levelhouse$Change" "Levelhouse$Change" "label" "I") ∈ xTB := tc2 110 (by decide +kernel) rfl
theorem w352 : (Jvm.Cond.lays "Levelhouse$Change" "Levelhouse$Change" "altered" "I") ∈ xTB := tc2 112 (by decide +kernel) rfl
theorem w354 : (Jvm.Cond.lays "Levelhouse$Change" "Levelhouse$Change" "isGiven" "Z") ∈ xTB := tc2 114 (by decide +kernel) rfl
theorem w357 : (Jvm.Cond.classLink "Levelhouse" (64 : Nat) "Levelhouse$Query") ∈ xTB := tc2 117 (by decide +kernel) rfl
theorem w358 : (Jvm.Cond.instantiable "Levelhouse$Query" (14 : Nat)) ∈ xTB := tc2 118 (by decide +kernel) rfl
theorem w359 : (Jvm.Cond.methodLinkNest "Levelhouse" (66 : Nat) ({ cls := "Levelhouse$Query", name := "<init>", desc := "()V" } : Jvm.MethodName) "Levelhouse") ∈ xTB := tc2 119 (by decide +kernel) rfl
theorem w360 : (Jvm.Cond.instanceMethod ({ cls := "Levelhouse$Query", name := "<init>", desc := "()V" } : Jvm.MethodName)) ∈ xTB := tc2 120 (by decide +kernel) rfl
theorem w361 : (Jvm.Cond.code ({ cls := "Levelhouse$Query", name := "<init>", desc := "()V" } : Jvm.MethodName) prog_7_method_1_code (1 : Nat) (Option.none : Option Jvm.ClassFile.FieldType)) ∈ xTB := tc2 121 (by decide +kernel) rfl
theorem w362 : (Jvm.Cond.methodLink "Levelhouse$Query" (3 : Nat) ({ cls := "java/lang/Object", name := "<init>", desc := "()V" } : Jvm.MethodName)) ∈ xTB := tc2 122 (by decide +kernel) rfl
theorem w363 : (Jvm.Cond.classLink "Levelhouse$Query" (9 : Nat) "java/util/ArrayList") ∈ xTB := tc2 123 (by decide +kernel) rfl
theorem w364 : (Jvm.Cond.methodLink "Levelhouse$Query" (11 : Nat) ({ cls := "java/util/ArrayList", name := "<init>", desc := "()V" } : Jvm.MethodName)) ∈ xTB := tc2 124 (by decide +kernel) rfl
theorem w365 : (Jvm.Cond.fieldLink "Levelhouse$Query" (31 : Nat) "Levelhouse$Query" "statement" "LLevelhouse$Statement;") ∈ xTB := tc2 125 (by decide +kernel) rfl
theorem w366 : (Jvm.Cond.fieldLink "Levelhouse$Query" (35 : Nat) "Levelhouse$Query" "meaning" "LLevelhouse$Meaning;") ∈ xTB := tc2 126 (by decide +kernel) rfl
theorem w367 : (Jvm.Cond.fieldLink "Levelhouse$Query" (12 : Nat) "Levelhouse$Query" "firsts" "Ljava/util/ArrayList;") ∈ xTB := tc2 127 (by decide +kernel) rfl
theorem w368 : (Jvm.Cond.fieldLink "Levelhouse$Query" (18 : Nat) "Levelhouse$Query" "seconds" "Ljava/util/ArrayList;") ∈ xTB := tc2 128 (by decide +kernel) rfl
theorem w369 : (Jvm.Cond.fieldLink "Levelhouse$Query" (21 : Nat) "Levelhouse$Query" "picked" "[I") ∈ xTB := tc2 129 (by decide +kernel) rfl
theorem w370 : (Jvm.Cond.fieldLink "Levelhouse$Query" (120 : Nat) "Levelhouse$Query" "pickedSize" "I") ∈ xTB := tc2 130 (by decide +kernel) rfl
theorem w371 : (Jvm.Cond.fieldLink "Levelhouse$Query" (25 : Nat) "Levelhouse$Query" "line" "[I") ∈ xTB := tc2 131 (by decide +kernel) rfl
theorem w372 : (Jvm.Cond.fieldLink "Levelhouse$Query" (91 : Nat) "Levelhouse$Query" "keep" "I") ∈ xTB := tc2 132 (by decide +kernel) rfl
theorem w373 : (Jvm.Cond.fieldLink "Levelhouse$Query" (94 : Nat) "Levelhouse$Query" "offered" "I") ∈ xTB := tc2 133 (by decide +kernel) rfl
theorem w374 : (Jvm.Cond.fieldLink "Levelhouse$Query" (70 : Nat) "Levelhouse$Query" "sortItem" "I") ∈ xTB := tc2 134 (by decide +kernel) rfl
theorem w375 : (Jvm.Cond.fieldLink "Levelhouse$Query" (83 : Nat) "Levelhouse$Query" "isDown" "Z") ∈ xTB := tc2 135 (by decide +kernel) rfl
theorem w376 : (Jvm.Cond.fieldLink "Levelhouse$Query" (28 : Nat) "Levelhouse$Query" "lines" "[I") ∈ xTB := tc2 136 (by decide +kernel) rfl
theorem w377 : (Jvm.Cond.fieldLink "Levelhouse" (304 : Nat) "Levelhouse$Query" "lines" "[I") ∈ xTB := tc2 137 (by decide +kernel) rfl
theorem w378 : (Jvm.Cond.fieldLink "Levelhouse$Query" (97 : Nat) "Levelhouse$Query" "lineCount" "I") ∈ xTB := tc2 138 (by decide +kernel) rfl
theorem w379 : (Jvm.Cond.fieldLink "Levelhouse" (307 : Nat) "Levelhouse$Query" "lineCount" "I") ∈ xTB := tc2 139 (by decide +kernel) rfl
theorem w380 : (Jvm.Cond.fieldLink "Levelhouse$Query" (51 : Nat) "Levelhouse$Query" "width" "I") ∈ xTB := tc2 140 (by decide +kernel) rfl
theorem w381 : (Jvm.Cond.fieldLink "Levelhouse" (310 : Nat) "Levelhouse$Query" "width" "I") ∈ xTB := tc2 141 (by decide +kernel) rfl
theorem w382 : (Jvm.Cond.lays "Levelhouse$Query" "Levelhouse$Query" "statement" "LLevelhouse$Statement;") ∈ xTB := tc2 142 (by decide +kernel) rfl
theorem w384 : (Jvm.Cond.lays "Levelhouse$Query" "Levelhouse$Query" "meaning" "LLevelhouse$Meaning;") ∈ xTB := tc2 144 (by decide +kernel) rfl
theorem w386 : (Jvm.Cond.laysFinal "Levelhouse$Query" "Levelhouse$Query" "firsts" "Ljava/util/ArrayList;") ∈ xTB := tc2 146 (by decide +kernel) rfl
theorem w388 : (Jvm.Cond.laysFinal "Levelhouse$Query" "Levelhouse$Query" "seconds" "Ljava/util/ArrayList;") ∈ xTB := tc2 148 (by decide +kernel) rfl
theorem w390 : (Jvm.Cond.lays "Levelhouse$Query" "Levelhouse$Query" "picked" "[I") ∈ xTB := tc2 150 (by decide +kernel) rfl
theorem w392 : (Jvm.Cond.lays "Levelhouse$Query" "Levelhouse$Query" "pickedSize" "I") ∈ xTB := tc2 152 (by decide +kernel) rfl
theorem w394 : (Jvm.Cond.laysFinal "Levelhouse$Query" "Levelhouse$Query" "line" "[I") ∈ xTB := tc2 154 (by decide +kernel) rfl
theorem w396 : (Jvm.Cond.lays "Levelhouse$Query" "Levelhouse$Query" "keep" "I") ∈ xTB := tc2 156 (by decide +kernel) rfl
theorem w398 : (Jvm.Cond.lays "Levelhouse$Query" "Levelhouse$Query" "offered" "I") ∈ xTB := tc2 158 (by decide +kernel) rfl
theorem w400 : (Jvm.Cond.lays "Levelhouse$Query" "Levelhouse$Query" "sortItem" "I") ∈ xTB := tc2 160 (by decide +kernel) rfl
theorem w402 : (Jvm.Cond.lays "Levelhouse$Query" "Levelhouse$Query" "isDown" "Z") ∈ xTB := tc2 162 (by decide +kernel) rfl
theorem w404 : (Jvm.Cond.lays "Levelhouse$Query" "Levelhouse$Query" "lines" "[I") ∈ xTB := tc2 164 (by decide +kernel) rfl
theorem w406 : (Jvm.Cond.lays "Levelhouse$Query" "Levelhouse$Query" "lineCount" "I") ∈ xTB := tc2 166 (by decide +kernel) rfl
theorem w408 : (Jvm.Cond.lays "Levelhouse$Query" "Levelhouse$Query" "width" "I") ∈ xTB := tc2 168 (by decide +kernel) rfl
theorem w411 : (Jvm.Cond.instantiable "Levelhouse$Session" (11 : Nat)) ∈ xTB := tc2 171 (by decide +kernel) rfl
theorem w412 : (Jvm.Cond.methodLinkNest "Levelhouse" (71 : Nat) ({ cls := "Levelhouse$Session", name := "<init>", desc := "()V" } : Jvm.MethodName) "Levelhouse") ∈ xTB := tc2 172 (by decide +kernel) rfl
theorem w413 : (Jvm.Cond.instanceMethod ({ cls := "Levelhouse$Session", name := "<init>", desc := "()V" } : Jvm.MethodName)) ∈ xTB := tc2 173 (by decide +kernel) rfl
theorem w414 : (Jvm.Cond.code ({ cls := "Levelhouse$Session", name := "<init>", desc := "()V" } : Jvm.MethodName) prog_9_method_1_code (1 : Nat) (Option.none : Option Jvm.ClassFile.FieldType)) ∈ xTB := tc2 174 (by decide +kernel) rfl
theorem w415 : (Jvm.Cond.methodLink "Levelhouse$Session" (3 : Nat) ({ cls := "java/lang/Object", name := "<init>", desc := "()V" } : Jvm.MethodName)) ∈ xTB := tc2 175 (by decide +kernel) rfl
theorem w416 : (Jvm.Cond.classLink "Levelhouse$Session" (19 : Nat) "Levelhouse$Shelf") ∈ xTB := tc2 176 (by decide +kernel) rfl
theorem w417 : (Jvm.Cond.methodLinkNest "Levelhouse$Session" (21 : Nat) ({ cls := "Levelhouse$Shelf", name := "<init>", desc := "()V" } : Jvm.MethodName) "Levelhouse") ∈ xTB := tc2 177 (by decide +kernel) rfl
theorem w418 : (Jvm.Cond.classLink "Levelhouse$Session" (26 : Nat) "java/util/ArrayList") ∈ xTB := tc2 178 (by decide +kernel) rfl
theorem w419 : (Jvm.Cond.methodLink "Levelhouse$Session" (28 : Nat) ({ cls := "java/util/ArrayList", name := "<init>", desc := "()V" } : Jvm.MethodName)) ∈ xTB := tc2 179 (by decide +kernel) rfl
theorem w420 : (Jvm.Cond.fieldLink "Levelhouse$Session" (37 : Nat) "Levelhouse$Session" "label" "I") ∈ xTB := tc2 180 (by decide +kernel) rfl
theorem w421 : (Jvm.Cond.fieldLink "Levelhouse" (98 : Nat) "Levelhouse$Session" "label" "I") ∈ xTB := tc2 181 (by decide +kernel) rfl
theorem w422 : (Jvm.Cond.fieldLink "Levelhouse$Change" (225 : Nat) "Levelhouse$Session" "label" "I") ∈ xTB := tc2 182 (by decide +kernel) rfl
theorem w423 : (Jvm.Cond.fieldLink "Levelhouse$Session" (9 : Nat) "Levelhouse$Session" "text" "[C") ∈ xTB := tc2 183 (by decide +kernel) rfl
theorem w424 : (Jvm.Cond.fieldLink "Levelhouse" (109 : Nat) "Levelhouse$Session" "text" "[C") ∈ xTB := tc2 184 (by decide +kernel) rfl
theorem w425 : (Jvm.Cond.fieldLink "Levelhouse$Session" (33 : Nat) "Levelhouse$Session" "length" "I") ∈ xTB := tc2 185 (by decide +kernel) rfl
theorem w426 : (Jvm.Cond.fieldLink "Levelhouse" (83 : Nat) "Levelhouse$Session" "length" "I") ∈ xTB := tc2 186 (by decide +kernel) rfl
theorem w427 : (Jvm.Cond.fieldLink "Levelhouse$Session" (15 : Nat) "Levelhouse$Session" "answer" "[I") ∈ xTB := tc2 187 (by decide +kernel) rfl
theorem w428 : (Jvm.Cond.fieldLink "Levelhouse$Session" (40 : Nat) "Levelhouse$Session" "answerRows" "I") ∈ xTB := tc2 188 (by decide +kernel) rfl
theorem w429 : (Jvm.Cond.fieldLink "Levelhouse" (174 : Nat) "Levelhouse$Session" "answerRows" "I") ∈ xTB := tc2 189 (by decide +kernel) rfl
theorem w430 : (Jvm.Cond.fieldLink "Levelhouse$Session" (43 : Nat) "Levelhouse$Session" "answerColumns" "I") ∈ xTB := tc2 190 (by decide +kernel) rfl
theorem w431 : (Jvm.Cond.fieldLink "Levelhouse" (177 : Nat) "Levelhouse$Session" "answerColumns" "I") ∈ xTB := tc2 191 (by decide +kernel) rfl
theorem w432 : (Jvm.Cond.fieldLink "Levelhouse$Session" (46 : Nat) "Levelhouse$Session" "reason" "C") ∈ xTB := tc2 192 (by decide +kernel) rfl
theorem w433 : (Jvm.Cond.fieldLink "Levelhouse" (168 : Nat) "Levelhouse$Session" "reason" "C") ∈ xTB := tc2 193 (by decide +kernel) rfl
theorem w434 : (Jvm.Cond.fieldLink "Levelhouse$Session" (69 : Nat) "Levelhouse$Session" "isBusy" "Z") ∈ xTB := tc2 194 (by decide +kernel) rfl
theorem w435 : (Jvm.Cond.fieldLink "Levelhouse" (192 : Nat) "Levelhouse$Session" "isBusy" "Z") ∈ xTB := tc2 195 (by decide +kernel) rfl
theorem w436 : (Jvm.Cond.fieldLink "Levelhouse$Session" (22 : Nat) "Levelhouse$Session" "shelf" "LLevelhouse$Shelf;") ∈ xTB := tc2 196 (by decide +kernel) rfl
theorem w437 : (Jvm.Cond.fieldLink "Levelhouse$Change" (229 : Nat) "Levelhouse$Session" "shelf" "LLevelhouse$Shelf;") ∈ xTB := tc2 197 (by decide +kernel) rfl
theorem w438 : (Jvm.Cond.fieldLink "Levelhouse" (292 : Nat) "Levelhouse$Session" "shelf" "LLevelhouse$Shelf;") ∈ xTB := tc2 198 (by decide +kernel) rfl
theorem w439 : (Jvm.Cond.fieldLink "Levelhouse$Session" (29 : Nat) "Levelhouse$Session" "changed" "Ljava/util/ArrayList;") ∈ xTB := tc2 199 (by decide +kernel) rfl
theorem w440 : (Jvm.Cond.fieldLink "Levelhouse$Change" (205 : Nat) "Levelhouse$Session" "changed" "Ljava/util/ArrayList;") ∈ xTB := tc2 200 (by decide +kernel) rfl
theorem w441 : (Jvm.Cond.fieldLink "Levelhouse" (206 : Nat) "Levelhouse$Session" "changed" "Ljava/util/ArrayList;") ∈ xTB := tc2 201 (by decide +kernel) rfl
theorem w442 : (Jvm.Cond.fieldLink "Levelhouse$Session" (73 : Nat) "Levelhouse$Session" "since" "I") ∈ xTB := tc2 202 (by decide +kernel) rfl
theorem w443 : (Jvm.Cond.fieldLink "Levelhouse$Change" (213 : Nat) "Levelhouse$Session" "since" "I") ∈ xTB := tc2 203 (by decide +kernel) rfl
theorem w444 : (Jvm.Cond.lays "Levelhouse$Session" "Levelhouse$Session" "label" "I") ∈ xTB := tc2 204 (by decide +kernel) rfl
theorem w446 : (Jvm.Cond.laysFinal "Levelhouse$Session" "Levelhouse$Session" "text" "[C") ∈ xTB := tc2 206 (by decide +kernel) rfl
theorem w448 : (Jvm.Cond.lays "Levelhouse$Session" "Levelhouse$Session" "length" "I") ∈ xTB := tc2 208 (by decide +kernel) rfl
theorem w450 : (Jvm.Cond.lays "Levelhouse$Session" "Levelhouse$Session" "answer" "[I") ∈ xTB := tc2 210 (by decide +kernel) rfl
theorem w452 : (Jvm.Cond.lays "Levelhouse$Session" "Levelhouse$Session" "answerRows" "I") ∈ xTB := tc2 212 (by decide +kernel) rfl
theorem w454 : (Jvm.Cond.lays "Levelhouse$Session" "Levelhouse$Session" "answerColumns" "I") ∈ xTB := tc2 214 (by decide +kernel) rfl
theorem w456 : (Jvm.Cond.lays "Levelhouse$Session" "Levelhouse$Session" "reason" "C") ∈ xTB := tc2 216 (by decide +kernel) rfl
theorem w458 : (Jvm.Cond.lays "Levelhouse$Session" "Levelhouse$Session" "isBusy" "Z") ∈ xTB := tc2 218 (by decide +kernel) rfl
theorem w460 : (Jvm.Cond.laysFinal "Levelhouse$Session" "Levelhouse$Session" "shelf" "LLevelhouse$Shelf;") ∈ xTB := tc2 220 (by decide +kernel) rfl
theorem w462 : (Jvm.Cond.laysFinal "Levelhouse$Session" "Levelhouse$Session" "changed" "Ljava/util/ArrayList;") ∈ xTB := tc2 222 (by decide +kernel) rfl
theorem w464 : (Jvm.Cond.lays "Levelhouse$Session" "Levelhouse$Session" "since" "I") ∈ xTB := tc2 224 (by decide +kernel) rfl
theorem w467 : (Jvm.Cond.arrayClass Jvm.ClassFile.FieldType.char) ∈ xTB := tc2 227 (by decide +kernel) rfl
theorem w468 : (Jvm.Cond.fieldLink "Levelhouse" (11 : Nat) "Levelhouse" "sessions" "[LLevelhouse$Session;") ∈ xTB := tc2 228 (by decide +kernel) rfl
theorem w469 : (Jvm.Cond.fieldLink "Levelhouse" (18 : Nat) "Levelhouse" "standing" "Ljava/util/ArrayList;") ∈ xTB := tc2 229 (by decide +kernel) rfl
theorem w470 : (Jvm.Cond.fieldLink "Levelhouse" (25 : Nat) "Levelhouse" "shelf" "LLevelhouse$Shelf;") ∈ xTB := tc2 230 (by decide +kernel) rfl
theorem w471 : (Jvm.Cond.fieldLink "Levelhouse" (29 : Nat) "Levelhouse" "ended" "Ljava/util/ArrayList;") ∈ xTB := tc2 231 (by decide +kernel) rfl
theorem w472 : (Jvm.Cond.fieldLink "Levelhouse" (32 : Nat) "Levelhouse" "tally" "[I") ∈ xTB := tc2 232 (by decide +kernel) rfl
theorem w473 : (Jvm.Cond.fieldLink "Levelhouse" (39 : Nat) "Levelhouse" "statement" "LLevelhouse$Statement;") ∈ xTB := tc2 233 (by decide +kernel) rfl
theorem w474 : (Jvm.Cond.fieldLink "Levelhouse" (46 : Nat) "Levelhouse" "meaning" "LLevelhouse$Meaning;") ∈ xTB := tc2 234 (by decide +kernel) rfl
theorem w475 : (Jvm.Cond.fieldLink "Levelhouse" (53 : Nat) "Levelhouse" "sight" "LLevelhouse$Sight;") ∈ xTB := tc2 235 (by decide +kernel) rfl
theorem w476 : (Jvm.Cond.fieldLink "Levelhouse" (60 : Nat) "Levelhouse" "change" "LLevelhouse$Change;") ∈ xTB := tc2 236 (by decide +kernel) rfl
theorem w477 : (Jvm.Cond.fieldLink "Levelhouse" (67 : Nat) "Levelhouse" "query" "LLevelhouse$Query;") ∈ xTB := tc2 237 (by decide +kernel) rfl
theorem w478 : (Jvm.Cond.fieldLink "Levelhouse" (323 : Nat) "Levelhouse" "made" "I") ∈ xTB := tc2 238 (by decide +kernel) rfl
theorem w479 : (Jvm.Cond.fieldLink "Levelhouse" (105 : Nat) "Levelhouse" "refusal" "C") ∈ xTB := tc2 239 (by decide +kernel) rfl
theorem w480 : (Jvm.Cond.laysFinal "Levelhouse" "Levelhouse" "sessions" "[LLevelhouse$Session;") ∈ xTB := tc3 0 (by decide +kernel) rfl
theorem w482 : (Jvm.Cond.laysFinal "Levelhouse" "Levelhouse" "standing" "Ljava/util/ArrayList;") ∈ xTB := tc3 2 (by decide +kernel) rfl
theorem w484 : (Jvm.Cond.laysFinal "Levelhouse" "Levelhouse" "shelf" "LLevelhouse$Shelf;") ∈ xTB := tc3 4 (by decide +kernel) rfl
theorem w486 : (Jvm.Cond.laysFinal "Levelhouse" "Levelhouse" "ended" "Ljava/util/ArrayList;") ∈ xTB := tc3 6 (by decide +kernel) rfl
theorem w488 : (Jvm.Cond.laysFinal "Levelhouse" "Levelhouse" "tally" "[I") ∈ xTB := tc3 8 (by decide +kernel) rfl
theorem w490 : (Jvm.Cond.laysFinal "Levelhouse" "Levelhouse" "statement" "LLevelhouse$Statement;") ∈ xTB := tc3 10 (by decide +kernel) rfl
theorem w492 : (Jvm.Cond.laysFinal "Levelhouse" "Levelhouse" "meaning" "LLevelhouse$Meaning;") ∈ xTB := tc3 12 (by decide +kernel) rfl
theorem w494 : (Jvm.Cond.laysFinal "Levelhouse" "Levelhouse" "sight" "LLevelhouse$Sight;") ∈ xTB := tc3 14 (by decide +kernel) rfl
theorem w496 : (Jvm.Cond.laysFinal "Levelhouse" "Levelhouse" "change" "LLevelhouse$Change;") ∈ xTB := tc3 16 (by decide +kernel) rfl
theorem w498 : (Jvm.Cond.laysFinal "Levelhouse" "Levelhouse" "query" "LLevelhouse$Query;") ∈ xTB := tc3 18 (by decide +kernel) rfl
theorem w500 : (Jvm.Cond.lays "Levelhouse" "Levelhouse" "made" "I") ∈ xTB := tc3 20 (by decide +kernel) rfl
theorem w502 : (Jvm.Cond.lays "Levelhouse" "Levelhouse" "refusal" "C") ∈ xTB := tc3 22 (by decide +kernel) rfl
theorem w505 : (Jvm.Cond.fieldLink "LevelhouseLaw" (32 : Nat) "LevelhouseLaw" "script" "[I") ∈ xTB := tc3 25 (by decide +kernel) rfl
theorem w506 : (Jvm.Cond.fieldLink "LevelhouseLaw" (28 : Nat) "LevelhouseLaw" "at" "I") ∈ xTB := tc3 26 (by decide +kernel) rfl
theorem w507 : (Jvm.Cond.fieldLink "LevelhouseLaw" (39 : Nat) "LevelhouseLaw" "seed" "I") ∈ xTB := tc3 27 (by decide +kernel) rfl
theorem w508 : (Jvm.Cond.fieldLink "LevelhouseLaw" (10 : Nat) "LevelhouseLaw" "x" "LLevelhouse;") ∈ xTB := tc3 28 (by decide +kernel) rfl
theorem w509 : (Jvm.Cond.fieldLink "LevelhouseLaw" (16 : Nat) "LevelhouseLaw" "y" "LLevelhouse;") ∈ xTB := tc3 29 (by decide +kernel) rfl
theorem w510 : (Jvm.Cond.fieldLink "LevelhouseLaw" (19 : Nat) "LevelhouseLaw" "labels" "[I") ∈ xTB := tc3 30 (by decide +kernel) rfl
theorem w511 : (Jvm.Cond.fieldLink "LevelhouseLaw" (23 : Nat) "LevelhouseLaw" "isOpen" "[Z") ∈ xTB := tc3 31 (by decide +kernel) rfl
theorem w512 : (Jvm.Cond.fieldLink "LevelhouseLaw" (55 : Nat) "LevelhouseLaw" "top" "I") ∈ xTB := tc3 32 (by decide +kernel) rfl
theorem w513 : (Jvm.Cond.lays "LevelhouseLaw" "LevelhouseLaw" "script" "[I") ∈ xTB := tc3 33 (by decide +kernel) rfl
theorem w515 : (Jvm.Cond.lays "LevelhouseLaw" "LevelhouseLaw" "at" "I") ∈ xTB := tc3 35 (by decide +kernel) rfl
theorem w517 : (Jvm.Cond.lays "LevelhouseLaw" "LevelhouseLaw" "seed" "I") ∈ xTB := tc3 37 (by decide +kernel) rfl
theorem w519 : (Jvm.Cond.laysFinal "LevelhouseLaw" "LevelhouseLaw" "x" "LLevelhouse;") ∈ xTB := tc3 39 (by decide +kernel) rfl
theorem w521 : (Jvm.Cond.laysFinal "LevelhouseLaw" "LevelhouseLaw" "y" "LLevelhouse;") ∈ xTB := tc3 41 (by decide +kernel) rfl
theorem w523 : (Jvm.Cond.laysFinal "LevelhouseLaw" "LevelhouseLaw" "labels" "[I") ∈ xTB := tc3 43 (by decide +kernel) rfl
theorem w525 : (Jvm.Cond.laysFinal "LevelhouseLaw" "LevelhouseLaw" "isOpen" "[Z") ∈ xTB := tc3 45 (by decide +kernel) rfl
theorem w527 : (Jvm.Cond.lays "LevelhouseLaw" "LevelhouseLaw" "top" "I") ∈ xTB := tc3 47 (by decide +kernel) rfl
theorem w530 : (Jvm.Cond.arrayClass Jvm.ClassFile.FieldType.boolean) ∈ xTB := tc3 50 (by decide +kernel) rfl
theorem w534 : (Jvm.Cond.code ({ cls := "LevelhouseLaw", name := "holdsAll", desc := "([I)Z" } : Jvm.MethodName) method_17_code (4 : Nat) (Option.some Jvm.ClassFile.FieldType.boolean)) ∈ xTB := tc3 54 (by decide +kernel) rfl
theorem w535 : (Jvm.Cond.methodLink "LevelhouseLaw" (103 : Nat) ({ cls := "LevelhouseLaw", name := "draw", desc := "(I)I" } : Jvm.MethodName)) ∈ xTB := tc3 55 (by decide +kernel) rfl
theorem w537 : (Jvm.Cond.instanceMethod ({ cls := "LevelhouseLaw", name := "draw", desc := "(I)I" } : Jvm.MethodName)) ∈ xTB := tc3 57 (by decide +kernel) rfl
theorem w538 : (Jvm.Cond.code ({ cls := "LevelhouseLaw", name := "draw", desc := "(I)I" } : Jvm.MethodName) method_3_code (3 : Nat) (Option.some Jvm.ClassFile.FieldType.int)) ∈ xTB := tc3 58 (by decide +kernel) rfl
theorem w539 : (Jvm.Cond.methodLink "LevelhouseLaw" (35 : Nat) ({ cls := "LevelhouseLaw", name := "stirred", desc := "([I)I" } : Jvm.MethodName)) ∈ xTB := tc3 59 (by decide +kernel) rfl
theorem w540 : (Jvm.Cond.static ({ cls := "LevelhouseLaw", name := "stirred", desc := "([I)I" } : Jvm.MethodName)) ∈ xTB := tc3 60 (by decide +kernel) rfl
theorem w541 : (Jvm.Cond.code ({ cls := "LevelhouseLaw", name := "stirred", desc := "([I)I" } : Jvm.MethodName) method_4_code (6 : Nat) (Option.some Jvm.ClassFile.FieldType.int)) ∈ xTB := tc3 61 (by decide +kernel) rfl
theorem w542 : (Jvm.Cond.constant "LevelhouseLaw" (27 : Nat) (790386105 : Int32)) ∈ xTB := tc3 62 (by decide +kernel) rfl
theorem w543 : (Jvm.Cond.constant "LevelhouseLaw" (51 : Nat) (16777619 : Int32)) ∈ xTB := tc3 63 (by decide +kernel) rfl
theorem w544 : (Jvm.Cond.methodLink "LevelhouseLaw" (42 : Nat) ({ cls := "LevelhouseLaw", name := "cell", desc := "([II)I" } : Jvm.MethodName)) ∈ xTB := tc3 64 (by decide +kernel) rfl
theorem w545 : (Jvm.Cond.static ({ cls := "LevelhouseLaw", name := "cell", desc := "([II)I" } : Jvm.MethodName)) ∈ xTB := tc3 65 (by decide +kernel) rfl
theorem w546 : (Jvm.Cond.code ({ cls := "LevelhouseLaw", name := "cell", desc := "([II)I" } : Jvm.MethodName) method_2_code (2 : Nat) (Option.some Jvm.ClassFile.FieldType.int)) ∈ xTB := tc3 66 (by decide +kernel) rfl
theorem w547 : (Jvm.Cond.methodLink "LevelhouseLaw" (46 : Nat) ({ cls := "LevelhouseLaw", name := "mixed", desc := "(II)I" } : Jvm.MethodName)) ∈ xTB := tc3 67 (by decide +kernel) rfl
theorem w548 : (Jvm.Cond.static ({ cls := "LevelhouseLaw", name := "mixed", desc := "(II)I" } : Jvm.MethodName)) ∈ xTB := tc3 68 (by decide +kernel) rfl
theorem w549 : (Jvm.Cond.code ({ cls := "LevelhouseLaw", name := "mixed", desc := "(II)I" } : Jvm.MethodName) method_5_code (3 : Nat) (Option.some Jvm.ClassFile.FieldType.int)) ∈ xTB := tc3 69 (by decide +kernel) rfl
theorem w550 : (Jvm.Cond.constant "LevelhouseLaw" (52 : Nat) (-1640531527 : Int32)) ∈ xTB := tc3 70 (by decide +kernel) rfl
theorem w551 : (Jvm.Cond.constant "LevelhouseLaw" (53 : Nat) (-2048144789 : Int32)) ∈ xTB := tc3 71 (by decide +kernel) rfl
theorem w552 : (Jvm.Cond.constant "LevelhouseLaw" (54 : Nat) (-1028477387 : Int32)) ∈ xTB := tc3 72 (by decide +kernel) rfl
theorem w553 : (Jvm.Cond.constant "LevelhouseLaw" (50 : Nat) (2147483647 : Int32)) ∈ xTB := tc3 73 (by decide +kernel) rfl
theorem w554 : (Jvm.Cond.methodLink "LevelhouseLaw" (228 : Nat) ({ cls := "Levelhouse", name := "enter", desc := "(II)I" } : Jvm.MethodName)) ∈ xTB := tc3 74 (by decide +kernel) rfl
theorem w555 : (Jvm.Cond.instanceMethod ({ cls := "Levelhouse", name := "enter", desc := "(II)I" } : Jvm.MethodName)) ∈ xTB := tc3 75 (by decide +kernel) rfl
theorem w556 : (Jvm.Cond.selects "Levelhouse" ({ cls := "Levelhouse", name := "enter", desc := "(II)I" } : Jvm.MethodName) ({ cls := "Levelhouse", name := "enter", desc := "(II)I" } : Jvm.MethodName)) ∈ xTB := tc3 76 (by decide +kernel) rfl
theorem w557 : (Jvm.Cond.code ({ cls := "Levelhouse", name := "enter", desc := "(II)I" } : Jvm.MethodName) prog_1_method_5_code (5 : Nat) (Option.some Jvm.ClassFile.FieldType.int)) ∈ xTB := tc3 77 (by decide +kernel) rfl
theorem w558 : (Jvm.Cond.methodLink "Levelhouse" (72 : Nat) ({ cls := "Levelhouse", name := "sessionOf", desc := "(I)LLevelhouse$Session;" } : Jvm.MethodName)) ∈ xTB := tc3 78 (by decide +kernel) rfl
theorem w560 : (Jvm.Cond.instanceMethod ({ cls := "Levelhouse", name := "sessionOf", desc := "(I)LLevelhouse$Session;" } : Jvm.MethodName)) ∈ xTB := tc3 80 (by decide +kernel) rfl
theorem w561 : (Jvm.Cond.code ({ cls := "Levelhouse", name := "sessionOf", desc := "(I)LLevelhouse$Session;" } : Jvm.MethodName) prog_1_method_26_code (2 : Nat) (Option.some (Jvm.ClassFile.FieldType.object "Levelhouse$Session"))) ∈ xTB := tc3 81 (by decide +kernel) rfl
theorem w562 : (Jvm.Cond.classLink "Levelhouse" (184 : Nat) "java/lang/IndexOutOfBoundsException") ∈ xTB := tc3 82 (by decide +kernel) rfl
theorem w605 : (Jvm.Cond.methodLink "Levelhouse" (186 : Nat) ({ cls := "java/lang/IndexOutOfBoundsException", name := "<init>", desc := "()V" } : Jvm.MethodName)) ∈ xTB := tc3 125 (by decide +kernel) rfl
theorem w627 : (Jvm.Cond.methodLink "Levelhouse" (94 : Nat) ({ cls := "Levelhouse", name := "isLabel", desc := "(I)Z" } : Jvm.MethodName)) ∈ xTB := tc3 147 (by decide +kernel) rfl
theorem w628 : (Jvm.Cond.static ({ cls := "Levelhouse", name := "isLabel", desc := "(I)Z" } : Jvm.MethodName)) ∈ xTB := tc3 148 (by decide +kernel) rfl
theorem w629 : (Jvm.Cond.code ({ cls := "Levelhouse", name := "isLabel", desc := "(I)Z" } : Jvm.MethodName) prog_1_method_28_code (1 : Nat) (Option.some Jvm.ClassFile.FieldType.boolean)) ∈ xTB := tc3 149 (by decide +kernel) rfl
theorem w630 : (Jvm.Cond.classLink "Levelhouse" (80 : Nat) "java/lang/IllegalArgumentException") ∈ xTB := tc3 150 (by decide +kernel) rfl
theorem w639 : (Jvm.Cond.methodLink "Levelhouse" (82 : Nat) ({ cls := "java/lang/IllegalArgumentException", name := "<init>", desc := "()V" } : Jvm.MethodName)) ∈ xTB := tc3 159 (by decide +kernel) rfl
theorem w645 : (Jvm.Cond.methodLink "Levelhouse" (101 : Nat) ({ cls := "Levelhouse$Session", name := "enterLabel", desc := "(I)V" } : Jvm.MethodName)) ∈ xTB := tc3 165 (by decide +kernel) rfl
theorem w646 : (Jvm.Cond.instanceMethod ({ cls := "Levelhouse$Session", name := "enterLabel", desc := "(I)V" } : Jvm.MethodName)) ∈ xTB := tc3 166 (by decide +kernel) rfl
theorem w647 : (Jvm.Cond.selects "Levelhouse$Session" ({ cls := "Levelhouse$Session", name := "enterLabel", desc := "(I)V" } : Jvm.MethodName) ({ cls := "Levelhouse$Session", name := "enterLabel", desc := "(I)V" } : Jvm.MethodName)) ∈ xTB := tc3 167 (by decide +kernel) rfl
theorem w648 : (Jvm.Cond.code ({ cls := "Levelhouse$Session", name := "enterLabel", desc := "(I)V" } : Jvm.MethodName) prog_9_method_4_code (2 : Nat) (Option.none : Option Jvm.ClassFile.FieldType)) ∈ xTB := tc3 168 (by decide +kernel) rfl
theorem w649 : (Jvm.Cond.methodLink "Levelhouse$Session" (50 : Nat) ({ cls := "Levelhouse$Session", name := "stopBusy", desc := "()V" } : Jvm.MethodName)) ∈ xTB := tc3 169 (by decide +kernel) rfl
theorem w650 : (Jvm.Cond.instanceMethod ({ cls := "Levelhouse$Session", name := "stopBusy", desc := "()V" } : Jvm.MethodName)) ∈ xTB := tc3 170 (by decide +kernel) rfl
theorem w651 : (Jvm.Cond.selects "Levelhouse$Session" ({ cls := "Levelhouse$Session", name := "stopBusy", desc := "()V" } : Jvm.MethodName) ({ cls := "Levelhouse$Session", name := "stopBusy", desc := "()V" } : Jvm.MethodName)) ∈ xTB := tc3 171 (by decide +kernel) rfl
theorem w652 : (Jvm.Cond.code ({ cls := "Levelhouse$Session", name := "stopBusy", desc := "()V" } : Jvm.MethodName) prog_9_method_9_code (1 : Nat) (Option.none : Option Jvm.ClassFile.FieldType)) ∈ xTB := tc3 172 (by decide +kernel) rfl
theorem w653 : (Jvm.Cond.methodLink "Levelhouse$Session" (80 : Nat) ({ cls := "Levelhouse$Shelf", name := "empty", desc := "()V" } : Jvm.MethodName)) ∈ xTB := tc3 173 (by decide +kernel) rfl
theorem w654 : (Jvm.Cond.instanceMethod ({ cls := "Levelhouse$Shelf", name := "empty", desc := "()V" } : Jvm.MethodName)) ∈ xTB := tc3 174 (by decide +kernel) rfl
theorem w655 : (Jvm.Cond.selects "Levelhouse$Shelf" ({ cls := "Levelhouse$Shelf", name := "empty", desc := "()V" } : Jvm.MethodName) ({ cls := "Levelhouse$Shelf", name := "empty", desc := "()V" } : Jvm.MethodName)) ∈ xTB := tc3 175 (by decide +kernel) rfl
theorem w656 : (Jvm.Cond.code ({ cls := "Levelhouse$Shelf", name := "empty", desc := "()V" } : Jvm.MethodName) prog_10_method_4_code (1 : Nat) (Option.none : Option Jvm.ClassFile.FieldType)) ∈ xTB := tc3 176 (by decide +kernel) rfl
theorem w657 : (Jvm.Cond.methodLink "Levelhouse$Shelf" (28 : Nat) ({ cls := "java/util/ArrayList", name := "clear", desc := "()V" } : Jvm.MethodName)) ∈ xTB := tc3 177 (by decide +kernel) rfl
theorem w658 : (Jvm.Cond.instanceMethod ({ cls := "java/util/ArrayList", name := "clear", desc := "()V" } : Jvm.MethodName)) ∈ xTB := tc3 178 (by decide +kernel) rfl
theorem w659 : (Jvm.Cond.selects "java/util/ArrayList" ({ cls := "java/util/ArrayList", name := "clear", desc := "()V" } : Jvm.MethodName) ({ cls := "java/util/ArrayList", name := "clear", desc := "()V" } : Jvm.MethodName)) ∈ xTB := tc3 179 (by decide +kernel) rfl
theorem w660 : (Jvm.Cond.code ({ cls := "java/util/ArrayList", name := "clear", desc := "()V" } : Jvm.MethodName) prog_57_method_40_code (4 : Nat) (Option.none : Option Jvm.ClassFile.FieldType)) ∈ xTB := tc3 180 (by decide +kernel) rfl
theorem w661 : (Jvm.Cond.methodLink "Levelhouse$Session" (83 : Nat) ({ cls := "java/util/ArrayList", name := "clear", desc := "()V" } : Jvm.MethodName)) ∈ xTB := tc3 181 (by decide +kernel) rfl
theorem w662 : (Jvm.Cond.methodLink "LevelhouseLaw" (231 : Nat) ({ cls := "LevelhouseLaw", name := "isLow", desc := "(I)Z" } : Jvm.MethodName)) ∈ xTB := tc3 182 (by decide +kernel) rfl
theorem w664 : (Jvm.Cond.instanceMethod ({ cls := "LevelhouseLaw", name := "isLow", desc := "(I)Z" } : Jvm.MethodName)) ∈ xTB := tc3 184 (by decide +kernel) rfl
theorem w665 : (Jvm.Cond.code ({ cls := "LevelhouseLaw", name := "isLow", desc := "(I)Z" } : Jvm.MethodName) method_6_code (2 : Nat) (Option.some Jvm.ClassFile.FieldType.boolean)) ∈ xTB := tc3 185 (by decide +kernel) rfl
theorem w667 : (Jvm.Cond.methodLink "LevelhouseLaw" (199 : Nat) ({ cls := "LevelhouseLaw", name := "done", desc := "(LLevelhouse;ILjava/lang/String;)I" } : Jvm.MethodName)) ∈ xTB := tc3 187 (by decide +kernel) rfl
theorem w668 : (Jvm.Cond.static ({ cls := "LevelhouseLaw", name := "done", desc := "(LLevelhouse;ILjava/lang/String;)I" } : Jvm.MethodName)) ∈ xTB := tc3 188 (by decide +kernel) rfl
theorem w669 : (Jvm.Cond.codeWith ({ cls := "LevelhouseLaw", name := "done", desc := "(LLevelhouse;ILjava/lang/String;)I" } : Jvm.MethodName) method_8_code (4 : Nat) (Option.some Jvm.ClassFile.FieldType.int) [((6 : Nat), (11 : Nat), (12 : Nat), (83 : Nat))]) ∈ xTB := tc3 189 (by decide +kernel) rfl
theorem w670 : (Jvm.Cond.classLink "LevelhouseLaw" (83 : Nat) "java/lang/UnsupportedOperationException") ∈ xTB := tc3 190 (by decide +kernel) rfl
theorem w671 : (Jvm.Cond.methodLink "LevelhouseLaw" (76 : Nat) ({ cls := "LevelhouseLaw", name := "says", desc := "(LLevelhouse;ILjava/lang/String;)V" } : Jvm.MethodName)) ∈ xTB := tc3 191 (by decide +kernel) rfl
theorem w672 : (Jvm.Cond.static ({ cls := "LevelhouseLaw", name := "says", desc := "(LLevelhouse;ILjava/lang/String;)V" } : Jvm.MethodName)) ∈ xTB := tc3 192 (by decide +kernel) rfl
theorem w673 : (Jvm.Cond.code ({ cls := "LevelhouseLaw", name := "says", desc := "(LLevelhouse;ILjava/lang/String;)V" } : Jvm.MethodName) method_7_code (4 : Nat) (Option.none : Option Jvm.ClassFile.FieldType)) ∈ xTB := tc3 193 (by decide +kernel) rfl
theorem w674 : (Jvm.Cond.methodLink "LevelhouseLaw" (58 : Nat) ({ cls := "Levelhouse", name := "erase", desc := "(I)I" } : Jvm.MethodName)) ∈ xTB := tc3 194 (by decide +kernel) rfl
theorem w675 : (Jvm.Cond.instanceMethod ({ cls := "Levelhouse", name := "erase", desc := "(I)I" } : Jvm.MethodName)) ∈ xTB := tc3 195 (by decide +kernel) rfl
theorem w676 : (Jvm.Cond.selects "Levelhouse" ({ cls := "Levelhouse", name := "erase", desc := "(I)I" } : Jvm.MethodName) ({ cls := "Levelhouse", name := "erase", desc := "(I)I" } : Jvm.MethodName)) ∈ xTB := tc3 196 (by decide +kernel) rfl
theorem w677 : (Jvm.Cond.code ({ cls := "Levelhouse", name := "erase", desc := "(I)I" } : Jvm.MethodName) prog_1_method_4_code (4 : Nat) (Option.some Jvm.ClassFile.FieldType.int)) ∈ xTB := tc3 197 (by decide +kernel) rfl
theorem w678 : (Jvm.Cond.methodLink "LevelhouseLaw" (62 : Nat) ({ cls := "java/lang/String", name := "length", desc := "()I" } : Jvm.MethodName)) ∈ xTB := tc3 198 (by decide +kernel) rfl
theorem w679 : (Jvm.Cond.instanceMethod ({ cls := "java/lang/String", name := "length", desc := "()I" } : Jvm.MethodName)) ∈ xTB := tc3 199 (by decide +kernel) rfl
theorem w680 : (Jvm.Cond.selects "java/lang/String" ({ cls := "java/lang/String", name := "length", desc := "()I" } : Jvm.MethodName) ({ cls := "java/lang/String", name := "length", desc := "()I" } : Jvm.MethodName)) ∈ xTB := tc3 200 (by decide +kernel) rfl
theorem w681 : (Jvm.Cond.code ({ cls := "java/lang/String", name := "length", desc := "()I" } : Jvm.MethodName) prog_46_method_54_code (1 : Nat) (Option.some Jvm.ClassFile.FieldType.int)) ∈ xTB := tc3 201 (by decide +kernel) rfl
theorem w682 : (Jvm.Cond.methodLink "java/lang/String" (335 : Nat) ({ cls := "java/lang/String", name := "coder", desc := "()B" } : Jvm.MethodName)) ∈ xTB := tc3 202 (by decide +kernel) rfl
theorem w683 : (Jvm.Cond.instanceMethod ({ cls := "java/lang/String", name := "coder", desc := "()B" } : Jvm.MethodName)) ∈ xTB := tc3 203 (by decide +kernel) rfl
theorem w684 : (Jvm.Cond.selects "java/lang/String" ({ cls := "java/lang/String", name := "coder", desc := "()B" } : Jvm.MethodName) ({ cls := "java/lang/String", name := "coder", desc := "()B" } : Jvm.MethodName)) ∈ xTB := tc3 204 (by decide +kernel) rfl
theorem w685 : (Jvm.Cond.code ({ cls := "java/lang/String", name := "coder", desc := "()B" } : Jvm.MethodName) prog_46_method_152_code (1 : Nat) (Option.some Jvm.ClassFile.FieldType.byte)) ∈ xTB := tc3 205 (by decide +kernel) rfl
theorem w686 : (Jvm.Cond.fieldLink "java/lang/String" (38 : Nat) "java/lang/String" "COMPACT_STRINGS" "Z") ∈ xTB := tc3 206 (by decide +kernel) rfl
theorem w688 : (Jvm.Cond.methodLink "LevelhouseLaw" (68 : Nat) ({ cls := "java/lang/String", name := "charAt", desc := "(I)C" } : Jvm.MethodName)) ∈ xTB := tc3 208 (by decide +kernel) rfl
theorem w689 : (Jvm.Cond.instanceMethod ({ cls := "java/lang/String", name := "charAt", desc := "(I)C" } : Jvm.MethodName)) ∈ xTB := tc3 209 (by decide +kernel) rfl
theorem w690 : (Jvm.Cond.selects "java/lang/String" ({ cls := "java/lang/String", name := "charAt", desc := "(I)C" } : Jvm.MethodName) ({ cls := "java/lang/String", name := "charAt", desc := "(I)C" } : Jvm.MethodName)) ∈ xTB := tc3 210 (by decide +kernel) rfl
theorem w691 : (Jvm.Cond.code ({ cls := "java/lang/String", name := "charAt", desc := "(I)C" } : Jvm.MethodName) prog_46_method_56_code (2 : Nat) (Option.some Jvm.ClassFile.FieldType.char)) ∈ xTB := tc3 211 (by decide +kernel) rfl
theorem w692 : (Jvm.Cond.methodLink "java/lang/String" (492 : Nat) ({ cls := "java/lang/String", name := "isLatin1", desc := "()Z" } : Jvm.MethodName)) ∈ xTB := tc3 212 (by decide +kernel) rfl
theorem w693 : (Jvm.Cond.instanceMethod ({ cls := "java/lang/String", name := "isLatin1", desc := "()Z" } : Jvm.MethodName)) ∈ xTB := tc3 213 (by decide +kernel) rfl
theorem w694 : (Jvm.Cond.selects "java/lang/String" ({ cls := "java/lang/String", name := "isLatin1", desc := "()Z" } : Jvm.MethodName) ({ cls := "java/lang/String", name := "isLatin1", desc := "()Z" } : Jvm.MethodName)) ∈ xTB := tc3 214 (by decide +kernel) rfl
theorem w695 : (Jvm.Cond.code ({ cls := "java/lang/String", name := "isLatin1", desc := "()Z" } : Jvm.MethodName) prog_46_method_154_code (1 : Nat) (Option.some Jvm.ClassFile.FieldType.boolean)) ∈ xTB := tc3 215 (by decide +kernel) rfl
theorem w696 : (Jvm.Cond.methodLink "java/lang/String" (495 : Nat) ({ cls := "java/lang/StringLatin1", name := "charAt", desc := "([BI)C" } : Jvm.MethodName)) ∈ xTB := tc3 216 (by decide +kernel) rfl
theorem w697 : (Jvm.Cond.static ({ cls := "java/lang/StringLatin1", name := "charAt", desc := "([BI)C" } : Jvm.MethodName)) ∈ xTB := tc3 217 (by decide +kernel) rfl
theorem w698 : (Jvm.Cond.code ({ cls := "java/lang/StringLatin1", name := "charAt", desc := "([BI)C" } : Jvm.MethodName) prog_48_method_2_code (2 : Nat) (Option.some Jvm.ClassFile.FieldType.char)) ∈ xTB := tc3 218 (by decide +kernel) rfl
theorem w699 : (Jvm.Cond.methodLink "java/lang/StringLatin1" (9 : Nat) ({ cls := "java/lang/String", name := "checkIndex", desc := "(II)V" } : Jvm.MethodName)) ∈ xTB := tc3 219 (by decide +kernel) rfl
theorem w700 : (Jvm.Cond.static ({ cls := "java/lang/String", name := "checkIndex", desc := "(II)V" } : Jvm.MethodName)) ∈ xTB := tc3 220 (by decide +kernel) rfl
theorem w701 : (Jvm.Cond.code ({ cls := "java/lang/String", name := "checkIndex", desc := "(II)V" } : Jvm.MethodName) prog_46_method_155_code (2 : Nat) (Option.none : Option Jvm.ClassFile.FieldType)) ∈ xTB := tc3 221 (by decide +kernel) rfl
theorem w702 : (Jvm.Cond.fieldLink "java/lang/String" (1053 : Nat) "jdk/internal/util/Preconditions" "SIOOBE_FORMATTER" "Ljava/util/function/BiFunction;") ∈ xTB := tc3 222 (by decide +kernel) rfl
theorem w704 : (Jvm.Cond.methodLink "java/lang/String" (1059 : Nat) ({ cls := "jdk/internal/util/Preconditions", name := "checkIndex", desc := "(IILjava/util/function/BiFunction;)I" } : Jvm.MethodName)) ∈ xTB := tc3 224 (by decide +kernel) rfl
theorem w705 : (Jvm.Cond.static ({ cls := "jdk/internal/util/Preconditions", name := "checkIndex", desc := "(IILjava/util/function/BiFunction;)I" } : Jvm.MethodName)) ∈ xTB := tc3 225 (by decide +kernel) rfl
theorem w706 : (Jvm.Cond.code ({ cls := "jdk/internal/util/Preconditions", name := "checkIndex", desc := "(IILjava/util/function/BiFunction;)I" } : Jvm.MethodName) prog_68_method_11_code (3 : Nat) (Option.some Jvm.ClassFile.FieldType.int)) ∈ xTB := tc3 226 (by decide +kernel) rfl
theorem w726 : (Jvm.Cond.methodLink "LevelhouseLaw" (72 : Nat) ({ cls := "Levelhouse", name := "type", desc := "(IC)I" } : Jvm.MethodName)) ∈ xTB := tc4 6 (by decide +kernel) rfl
theorem w727 : (Jvm.Cond.instanceMethod ({ cls := "Levelhouse", name := "type", desc := "(IC)I" } : Jvm.MethodName)) ∈ xTB := tc4 7 (by decide +kernel) rfl
theorem w728 : (Jvm.Cond.selects "Levelhouse" ({ cls := "Levelhouse", name := "type", desc := "(IC)I" } : Jvm.MethodName) ({ cls := "Levelhouse", name := "type", desc := "(IC)I" } : Jvm.MethodName)) ∈ xTB := tc4 8 (by decide +kernel) rfl
theorem w729 : (Jvm.Cond.code ({ cls := "Levelhouse", name := "type", desc := "(IC)I" } : Jvm.MethodName) prog_1_method_2_code (4 : Nat) (Option.some Jvm.ClassFile.FieldType.int)) ∈ xTB := tc4 9 (by decide +kernel) rfl
theorem w730 : (Jvm.Cond.methodLink "Levelhouse" (76 : Nat) ({ cls := "Levelhouse", name := "isTyped", desc := "(C)Z" } : Jvm.MethodName)) ∈ xTB := tc4 10 (by decide +kernel) rfl
theorem w731 : (Jvm.Cond.static ({ cls := "Levelhouse", name := "isTyped", desc := "(C)Z" } : Jvm.MethodName)) ∈ xTB := tc4 11 (by decide +kernel) rfl
theorem w732 : (Jvm.Cond.code ({ cls := "Levelhouse", name := "isTyped", desc := "(C)Z" } : Jvm.MethodName) prog_1_method_27_code (1 : Nat) (Option.some Jvm.ClassFile.FieldType.boolean)) ∈ xTB := tc4 12 (by decide +kernel) rfl
theorem w733 : (Jvm.Cond.classLink "Levelhouse" (87 : Nat) "java/lang/IllegalStateException") ∈ xTB := tc4 13 (by decide +kernel) rfl
theorem w735 : (Jvm.Cond.castable "java/lang/IllegalStateException" "java/lang/IllegalStateException") ∈ xTB := tc4 15 (by decide +kernel) rfl
theorem w742 : (Jvm.Cond.methodLink "Levelhouse" (89 : Nat) ({ cls := "java/lang/IllegalStateException", name := "<init>", desc := "()V" } : Jvm.MethodName)) ∈ xTB := tc4 22 (by decide +kernel) rfl
theorem w748 : (Jvm.Cond.arrayClass Jvm.ClassFile.FieldType.byte) ∈ xTB := tc4 28 (by decide +kernel) rfl
theorem w749 : (Jvm.Cond.methodLink "Levelhouse" (90 : Nat) ({ cls := "Levelhouse$Session", name := "add", desc := "(C)V" } : Jvm.MethodName)) ∈ xTB := tc4 29 (by decide +kernel) rfl
theorem w750 : (Jvm.Cond.instanceMethod ({ cls := "Levelhouse$Session", name := "add", desc := "(C)V" } : Jvm.MethodName)) ∈ xTB := tc4 30 (by decide +kernel) rfl
theorem w751 : (Jvm.Cond.selects "Levelhouse$Session" ({ cls := "Levelhouse$Session", name := "add", desc := "(C)V" } : Jvm.MethodName) ({ cls := "Levelhouse$Session", name := "add", desc := "(C)V" } : Jvm.MethodName)) ∈ xTB := tc4 31 (by decide +kernel) rfl
theorem w752 : (Jvm.Cond.code ({ cls := "Levelhouse$Session", name := "add", desc := "(C)V" } : Jvm.MethodName) prog_9_method_2_code (2 : Nat) (Option.none : Option Jvm.ClassFile.FieldType)) ∈ xTB := tc4 32 (by decide +kernel) rfl
theorem w753 : (Jvm.Cond.methodLink "LevelhouseLaw" (80 : Nat) ({ cls := "Levelhouse", name := "run", desc := "(I)I" } : Jvm.MethodName)) ∈ xTB := tc4 33 (by decide +kernel) rfl
theorem w754 : (Jvm.Cond.instanceMethod ({ cls := "Levelhouse", name := "run", desc := "(I)I" } : Jvm.MethodName)) ∈ xTB := tc4 34 (by decide +kernel) rfl
theorem w755 : (Jvm.Cond.selects "Levelhouse" ({ cls := "Levelhouse", name := "run", desc := "(I)I" } : Jvm.MethodName) ({ cls := "Levelhouse", name := "run", desc := "(I)I" } : Jvm.MethodName)) ∈ xTB := tc4 35 (by decide +kernel) rfl
theorem w756 : (Jvm.Cond.code ({ cls := "Levelhouse", name := "run", desc := "(I)I" } : Jvm.MethodName) prog_1_method_7_code (5 : Nat) (Option.some Jvm.ClassFile.FieldType.int)) ∈ xTB := tc4 36 (by decide +kernel) rfl
theorem w757 : (Jvm.Cond.methodLink "Levelhouse" (113 : Nat) ({ cls := "Levelhouse$Statement", name := "read", desc := "([CI)V" } : Jvm.MethodName)) ∈ xTB := tc4 37 (by decide +kernel) rfl
theorem w758 : (Jvm.Cond.instanceMethod ({ cls := "Levelhouse$Statement", name := "read", desc := "([CI)V" } : Jvm.MethodName)) ∈ xTB := tc4 38 (by decide +kernel) rfl
theorem w759 : (Jvm.Cond.selects "Levelhouse$Statement" ({ cls := "Levelhouse$Statement", name := "read", desc := "([CI)V" } : Jvm.MethodName) ({ cls := "Levelhouse$Statement", name := "read", desc := "([CI)V" } : Jvm.MethodName)) ∈ xTB := tc4 39 (by decide +kernel) rfl
theorem w760 : (Jvm.Cond.code ({ cls := "Levelhouse$Statement", name := "read", desc := "([CI)V" } : Jvm.MethodName) prog_12_method_2_code (3 : Nat) (Option.none : Option Jvm.ClassFile.FieldType)) ∈ xTB := tc4 40 (by decide +kernel) rfl
theorem w761 : (Jvm.Cond.methodLink "Levelhouse$Statement" (50 : Nat) ({ cls := "Levelhouse$Statement", name := "clear", desc := "()V" } : Jvm.MethodName)) ∈ xTB := tc4 41 (by decide +kernel) rfl
theorem w763 : (Jvm.Cond.instanceMethod ({ cls := "Levelhouse$Statement", name := "clear", desc := "()V" } : Jvm.MethodName)) ∈ xTB := tc4 43 (by decide +kernel) rfl
theorem w764 : (Jvm.Cond.code ({ cls := "Levelhouse$Statement", name := "clear", desc := "()V" } : Jvm.MethodName) prog_12_method_3_code (1 : Nat) (Option.none : Option Jvm.ClassFile.FieldType)) ∈ xTB := tc4 44 (by decide +kernel) rfl
theorem w765 : (Jvm.Cond.methodLink "Levelhouse$Statement" (53 : Nat) ({ cls := "Levelhouse$Reader", name := "read", desc := "([CI)V" } : Jvm.MethodName)) ∈ xTB := tc4 45 (by decide +kernel) rfl
theorem w766 : (Jvm.Cond.instanceMethod ({ cls := "Levelhouse$Reader", name := "read", desc := "([CI)V" } : Jvm.MethodName)) ∈ xTB := tc4 46 (by decide +kernel) rfl
theorem w767 : (Jvm.Cond.selects "Levelhouse$Reader" ({ cls := "Levelhouse$Reader", name := "read", desc := "([CI)V" } : Jvm.MethodName) ({ cls := "Levelhouse$Reader", name := "read", desc := "([CI)V" } : Jvm.MethodName)) ∈ xTB := tc4 47 (by decide +kernel) rfl
theorem w768 : (Jvm.Cond.code ({ cls := "Levelhouse$Reader", name := "read", desc := "([CI)V" } : Jvm.MethodName) prog_8_method_2_code (4 : Nat) (Option.none : Option Jvm.ClassFile.FieldType)) ∈ xTB := tc4 48 (by decide +kernel) rfl
theorem w769 : (Jvm.Cond.methodLink "Levelhouse$Reader" (34 : Nat) ({ cls := "java/lang/Math", name := "max", desc := "(II)I" } : Jvm.MethodName)) ∈ xTB := tc4 49 (by decide +kernel) rfl
theorem w770 : (Jvm.Cond.static ({ cls := "java/lang/Math", name := "max", desc := "(II)I" } : Jvm.MethodName)) ∈ xTB := tc4 50 (by decide +kernel) rfl
theorem w771 : (Jvm.Cond.code ({ cls := "java/lang/Math", name := "max", desc := "(II)I" } : Jvm.MethodName) prog_43_method_65_code (2 : Nat) (Option.some Jvm.ClassFile.FieldType.int)) ∈ xTB := tc4 51 (by decide +kernel) rfl
theorem w772 : (Jvm.Cond.methodLink "Levelhouse$Reader" (40 : Nat) ({ cls := "java/lang/Math", name := "min", desc := "(II)I" } : Jvm.MethodName)) ∈ xTB := tc4 52 (by decide +kernel) rfl
theorem w773 : (Jvm.Cond.static ({ cls := "java/lang/Math", name := "min", desc := "(II)I" } : Jvm.MethodName)) ∈ xTB := tc4 53 (by decide +kernel) rfl
theorem w774 : (Jvm.Cond.code ({ cls := "java/lang/Math", name := "min", desc := "(II)I" } : Jvm.MethodName) prog_43_method_69_code (2 : Nat) (Option.some Jvm.ClassFile.FieldType.int)) ∈ xTB := tc4 54 (by decide +kernel) rfl
theorem w775 : (Jvm.Cond.methodLink "Levelhouse$Reader" (46 : Nat) ({ cls := "Levelhouse$Reader", name := "readToken", desc := "([CI)I" } : Jvm.MethodName)) ∈ xTB := tc4 55 (by decide +kernel) rfl
theorem w777 : (Jvm.Cond.instanceMethod ({ cls := "Levelhouse$Reader", name := "readToken", desc := "([CI)I" } : Jvm.MethodName)) ∈ xTB := tc4 57 (by decide +kernel) rfl
theorem w778 : (Jvm.Cond.code ({ cls := "Levelhouse$Reader", name := "readToken", desc := "([CI)I" } : Jvm.MethodName) prog_8_method_3_code (4 : Nat) (Option.some Jvm.ClassFile.FieldType.int)) ∈ xTB := tc4 58 (by decide +kernel) rfl
theorem w779 : (Jvm.Cond.methodLink "Levelhouse$Reader" (50 : Nat) ({ cls := "Levelhouse$Reader", name := "endOfRun", desc := "([CICC)I" } : Jvm.MethodName)) ∈ xTB := tc4 59 (by decide +kernel) rfl
theorem w781 : (Jvm.Cond.instanceMethod ({ cls := "Levelhouse$Reader", name := "endOfRun", desc := "([CICC)I" } : Jvm.MethodName)) ∈ xTB := tc4 61 (by decide +kernel) rfl
theorem w782 : (Jvm.Cond.code ({ cls := "Levelhouse$Reader", name := "endOfRun", desc := "([CICC)I" } : Jvm.MethodName) prog_8_method_4_code (6 : Nat) (Option.some Jvm.ClassFile.FieldType.int)) ∈ xTB := tc4 62 (by decide +kernel) rfl
theorem w783 : (Jvm.Cond.methodLink "Levelhouse$Reader" (54 : Nat) ({ cls := "Levelhouse$Reader", name := "addWord", desc := "([CII)V" } : Jvm.MethodName)) ∈ xTB := tc4 63 (by decide +kernel) rfl
theorem w785 : (Jvm.Cond.instanceMethod ({ cls := "Levelhouse$Reader", name := "addWord", desc := "([CII)V" } : Jvm.MethodName)) ∈ xTB := tc4 65 (by decide +kernel) rfl
theorem w786 : (Jvm.Cond.code ({ cls := "Levelhouse$Reader", name := "addWord", desc := "([CII)V" } : Jvm.MethodName) prog_8_method_5_code (6 : Nat) (Option.none : Option Jvm.ClassFile.FieldType)) ∈ xTB := tc4 66 (by decide +kernel) rfl
theorem w787 : (Jvm.Cond.fieldLink "Levelhouse$Reader" (61 : Nat) "Levelhouse$Word" "BAD" "LLevelhouse$Word;") ∈ xTB := tc4 67 (by decide +kernel) rfl
theorem w789 : (Jvm.Cond.fieldLink "Levelhouse$Reader" (73 : Nat) "Levelhouse$Word" "NAME" "LLevelhouse$Word;") ∈ xTB := tc4 69 (by decide +kernel) rfl
theorem w791 : (Jvm.Cond.methodLink "Levelhouse$Reader" (65 : Nat) ({ cls := "Levelhouse$Reader", name := "wordAt", desc := "([CIILLevelhouse$Word;)LLevelhouse$Word;" } : Jvm.MethodName)) ∈ xTB := tc4 71 (by decide +kernel) rfl
theorem w792 : (Jvm.Cond.static ({ cls := "Levelhouse$Reader", name := "wordAt", desc := "([CIILLevelhouse$Word;)LLevelhouse$Word;" } : Jvm.MethodName)) ∈ xTB := tc4 72 (by decide +kernel) rfl
theorem w793 : (Jvm.Cond.code ({ cls := "Levelhouse$Reader", name := "wordAt", desc := "([CIILLevelhouse$Word;)LLevelhouse$Word;" } : Jvm.MethodName) prog_8_method_7_code (5 : Nat) (Option.some (Jvm.ClassFile.FieldType.object "Levelhouse$Word"))) ∈ xTB := tc4 73 (by decide +kernel) rfl
theorem w794 : (Jvm.Cond.fieldLinkNest "Levelhouse$Reader" (79 : Nat) "Levelhouse" "WORDS" "[LLevelhouse$Word;" "Levelhouse") ∈ xTB := tc4 74 (by decide +kernel) rfl
theorem w796 : (Jvm.Cond.methodLink "Levelhouse$Reader" (82 : Nat) ({ cls := "Levelhouse$Word", name := "isSpelt", desc := "([CII)Z" } : Jvm.MethodName)) ∈ xTB := tc4 76 (by decide +kernel) rfl
theorem w797 : (Jvm.Cond.instanceMethod ({ cls := "Levelhouse$Word", name := "isSpelt", desc := "([CII)Z" } : Jvm.MethodName)) ∈ xTB := tc4 77 (by decide +kernel) rfl
theorem w798 : (Jvm.Cond.selects "Levelhouse$Word" ({ cls := "Levelhouse$Word", name := "isSpelt", desc := "([CII)Z" } : Jvm.MethodName) ({ cls := "Levelhouse$Word", name := "isSpelt", desc := "([CII)Z" } : Jvm.MethodName)) ∈ xTB := tc4 78 (by decide +kernel) rfl
theorem w799 : (Jvm.Cond.code ({ cls := "Levelhouse$Word", name := "isSpelt", desc := "([CII)Z" } : Jvm.MethodName) prog_14_method_4_code (5 : Nat) (Option.some Jvm.ClassFile.FieldType.boolean)) ∈ xTB := tc4 79 (by decide +kernel) rfl
theorem w800 : (Jvm.Cond.methodLink "Levelhouse$Word" (184 : Nat) ({ cls := "java/lang/String", name := "length", desc := "()I" } : Jvm.MethodName)) ∈ xTB := tc4 80 (by decide +kernel) rfl
theorem w801 : (Jvm.Cond.methodLink "Levelhouse$Word" (190 : Nat) ({ cls := "java/lang/String", name := "charAt", desc := "(I)C" } : Jvm.MethodName)) ∈ xTB := tc4 81 (by decide +kernel) rfl
theorem w802 : (Jvm.Cond.methodLink "Levelhouse$Reader" (69 : Nat) ({ cls := "Levelhouse$Reader", name := "add", desc := "(LLevelhouse$Word;II)V" } : Jvm.MethodName)) ∈ xTB := tc4 82 (by decide +kernel) rfl
theorem w804 : (Jvm.Cond.instanceMethod ({ cls := "Levelhouse$Reader", name := "add", desc := "(LLevelhouse$Word;II)V" } : Jvm.MethodName)) ∈ xTB := tc4 84 (by decide +kernel) rfl
theorem w805 : (Jvm.Cond.code ({ cls := "Levelhouse$Reader", name := "add", desc := "(LLevelhouse$Word;II)V" } : Jvm.MethodName) prog_8_method_8_code (4 : Nat) (Option.none : Option Jvm.ClassFile.FieldType)) ∈ xTB := tc4 85 (by decide +kernel) rfl
theorem w806 : (Jvm.Cond.methodLink "Levelhouse$Reader" (58 : Nat) ({ cls := "Levelhouse$Reader", name := "addNumber", desc := "([CII)V" } : Jvm.MethodName)) ∈ xTB := tc4 86 (by decide +kernel) rfl
theorem w808 : (Jvm.Cond.instanceMethod ({ cls := "Levelhouse$Reader", name := "addNumber", desc := "([CII)V" } : Jvm.MethodName)) ∈ xTB := tc4 88 (by decide +kernel) rfl
theorem w809 : (Jvm.Cond.code ({ cls := "Levelhouse$Reader", name := "addNumber", desc := "([CII)V" } : Jvm.MethodName) prog_8_method_6_code (6 : Nat) (Option.none : Option Jvm.ClassFile.FieldType)) ∈ xTB := tc4 89 (by decide +kernel) rfl
theorem w810 : (Jvm.Cond.fieldLink "Levelhouse$Reader" (76 : Nat) "Levelhouse$Word" "NUMBER" "LLevelhouse$Word;") ∈ xTB := tc4 90 (by decide +kernel) rfl
theorem w812 : (Jvm.Cond.methodLink "Levelhouse$Statement" (57 : Nat) ({ cls := "Levelhouse$Reader", name := "word", desc := "()LLevelhouse$Word;" } : Jvm.MethodName)) ∈ xTB := tc4 92 (by decide +kernel) rfl
theorem w813 : (Jvm.Cond.instanceMethod ({ cls := "Levelhouse$Reader", name := "word", desc := "()LLevelhouse$Word;" } : Jvm.MethodName)) ∈ xTB := tc4 93 (by decide +kernel) rfl
theorem w814 : (Jvm.Cond.selects "Levelhouse$Reader" ({ cls := "Levelhouse$Reader", name := "word", desc := "()LLevelhouse$Word;" } : Jvm.MethodName) ({ cls := "Levelhouse$Reader", name := "word", desc := "()LLevelhouse$Word;" } : Jvm.MethodName)) ∈ xTB := tc4 94 (by decide +kernel) rfl
theorem w815 : (Jvm.Cond.code ({ cls := "Levelhouse$Reader", name := "word", desc := "()LLevelhouse$Word;" } : Jvm.MethodName) prog_8_method_12_code (1 : Nat) (Option.some (Jvm.ClassFile.FieldType.object "Levelhouse$Word"))) ∈ xTB := tc4 95 (by decide +kernel) rfl
theorem w816 : (Jvm.Cond.methodLink "Levelhouse$Reader" (89 : Nat) ({ cls := "Levelhouse$Reader", name := "kind", desc := "(I)LLevelhouse$Word;" } : Jvm.MethodName)) ∈ xTB := tc4 96 (by decide +kernel) rfl
theorem w817 : (Jvm.Cond.instanceMethod ({ cls := "Levelhouse$Reader", name := "kind", desc := "(I)LLevelhouse$Word;" } : Jvm.MethodName)) ∈ xTB := tc4 97 (by decide +kernel) rfl
theorem w818 : (Jvm.Cond.selects "Levelhouse$Reader" ({ cls := "Levelhouse$Reader", name := "kind", desc := "(I)LLevelhouse$Word;" } : Jvm.MethodName) ({ cls := "Levelhouse$Reader", name := "kind", desc := "(I)LLevelhouse$Word;" } : Jvm.MethodName)) ∈ xTB := tc4 98 (by decide +kernel) rfl
theorem w819 : (Jvm.Cond.code ({ cls := "Levelhouse$Reader", name := "kind", desc := "(I)LLevelhouse$Word;" } : Jvm.MethodName) prog_8_method_9_code (2 : Nat) (Option.some (Jvm.ClassFile.FieldType.object "Levelhouse$Word"))) ∈ xTB := tc4 99 (by decide +kernel) rfl
theorem w820 : (Jvm.Cond.fieldLink "Levelhouse$Reader" (86 : Nat) "Levelhouse$Word" "END" "LLevelhouse$Word;") ∈ xTB := tc4 100 (by decide +kernel) rfl
theorem w821 : (Jvm.Cond.methodLink "Levelhouse$Statement" (61 : Nat) ({ cls := "Levelhouse$Reader", name := "take", desc := "(LLevelhouse$Word;)Z" } : Jvm.MethodName)) ∈ xTB := tc4 101 (by decide +kernel) rfl
theorem w822 : (Jvm.Cond.instanceMethod ({ cls := "Levelhouse$Reader", name := "take", desc := "(LLevelhouse$Word;)Z" } : Jvm.MethodName)) ∈ xTB := tc4 102 (by decide +kernel) rfl
theorem w823 : (Jvm.Cond.selects "Levelhouse$Reader" ({ cls := "Levelhouse$Reader", name := "take", desc := "(LLevelhouse$Word;)Z" } : Jvm.MethodName) ({ cls := "Levelhouse$Reader", name := "take", desc := "(LLevelhouse$Word;)Z" } : Jvm.MethodName)) ∈ xTB := tc4 103 (by decide +kernel) rfl
theorem w824 : (Jvm.Cond.code ({ cls := "Levelhouse$Reader", name := "take", desc := "(LLevelhouse$Word;)Z" } : Jvm.MethodName) prog_8_method_14_code (2 : Nat) (Option.some Jvm.ClassFile.FieldType.boolean)) ∈ xTB := tc4 104 (by decide +kernel) rfl
theorem w825 : (Jvm.Cond.fieldLink "Levelhouse$Statement" (65 : Nat) "Levelhouse$1" "$SwitchMap$Levelhouse$Word" "[I") ∈ xTB := tc4 105 (by decide +kernel) rfl
theorem w827 : (Jvm.Cond.methodLink "Levelhouse$Statement" (70 : Nat) ({ cls := "Levelhouse$Word", name := "ordinal", desc := "()I" } : Jvm.MethodName)) ∈ xTB := tc4 107 (by decide +kernel) rfl
theorem w828 : (Jvm.Cond.sameMethod "Levelhouse$Word" "java/lang/Enum" "ordinal" "()I") ∈ xTB := tc4 108 (by decide +kernel) rfl
theorem w830 : (Jvm.Cond.selects "Levelhouse$Word" ({ cls := "Levelhouse$Word", name := "ordinal", desc := "()I" } : Jvm.MethodName) ({ cls := "java/lang/Enum", name := "ordinal", desc := "()I" } : Jvm.MethodName)) ∈ xTB := tc4 110 (by decide +kernel) rfl
theorem w831 : (Jvm.Cond.instanceMethod ({ cls := "java/lang/Enum", name := "ordinal", desc := "()I" } : Jvm.MethodName)) ∈ xTB := tc4 111 (by decide +kernel) rfl
theorem w832 : (Jvm.Cond.code ({ cls := "java/lang/Enum", name := "ordinal", desc := "()I" } : Jvm.MethodName) prog_35_method_2_code (1 : Nat) (Option.some Jvm.ClassFile.FieldType.int)) ∈ xTB := tc4 112 (by decide +kernel) rfl
theorem w833 : (Jvm.Cond.methodLink "Levelhouse$Statement" (74 : Nat) ({ cls := "Levelhouse$Statement", name := "readGet", desc := "()V" } : Jvm.MethodName)) ∈ xTB := tc4 113 (by decide +kernel) rfl
theorem w835 : (Jvm.Cond.instanceMethod ({ cls := "Levelhouse$Statement", name := "readGet", desc := "()V" } : Jvm.MethodName)) ∈ xTB := tc4 115 (by decide +kernel) rfl
theorem w836 : (Jvm.Cond.code ({ cls := "Levelhouse$Statement", name := "readGet", desc := "()V" } : Jvm.MethodName) prog_12_method_4_code (2 : Nat) (Option.none : Option Jvm.ClassFile.FieldType)) ∈ xTB := tc4 116 (by decide +kernel) rfl
theorem w837 : (Jvm.Cond.fieldLink "Levelhouse$Statement" (152 : Nat) "Levelhouse$Word" "EACH" "LLevelhouse$Word;") ∈ xTB := tc4 117 (by decide +kernel) rfl
theorem w839 : (Jvm.Cond.fieldLink "Levelhouse$Statement" (155 : Nat) "Levelhouse$Word" "ALL" "LLevelhouse$Word;") ∈ xTB := tc4 119 (by decide +kernel) rfl
theorem w841 : (Jvm.Cond.methodLink "Levelhouse$Statement" (158 : Nat) ({ cls := "Levelhouse$Statement", name := "isDue", desc := "(I)Z" } : Jvm.MethodName)) ∈ xTB := tc4 121 (by decide +kernel) rfl
theorem w843 : (Jvm.Cond.instanceMethod ({ cls := "Levelhouse$Statement", name := "isDue", desc := "(I)Z" } : Jvm.MethodName)) ∈ xTB := tc4 123 (by decide +kernel) rfl
theorem w844 : (Jvm.Cond.code ({ cls := "Levelhouse$Statement", name := "isDue", desc := "(I)Z" } : Jvm.MethodName) prog_12_method_8_code (2 : Nat) (Option.some Jvm.ClassFile.FieldType.boolean)) ∈ xTB := tc4 124 (by decide +kernel) rfl
theorem w845 : (Jvm.Cond.fieldLink "Levelhouse$Statement" (213 : Nat) "Levelhouse$Word" "COMMA" "LLevelhouse$Word;") ∈ xTB := tc4 125 (by decide +kernel) rfl
theorem w847 : (Jvm.Cond.methodLink "Levelhouse$Statement" (100 : Nat) ({ cls := "Levelhouse$Statement", name := "readItem", desc := "()V" } : Jvm.MethodName)) ∈ xTB := tc4 127 (by decide +kernel) rfl
theorem w849 : (Jvm.Cond.instanceMethod ({ cls := "Levelhouse$Statement", name := "readItem", desc := "()V" } : Jvm.MethodName)) ∈ xTB := tc4 129 (by decide +kernel) rfl
theorem w850 : (Jvm.Cond.code ({ cls := "Levelhouse$Statement", name := "readItem", desc := "()V" } : Jvm.MethodName) prog_12_method_10_code (2 : Nat) (Option.none : Option Jvm.ClassFile.FieldType)) ∈ xTB := tc4 130 (by decide +kernel) rfl
theorem w851 : (Jvm.Cond.methodLink "Levelhouse$Statement" (222 : Nat) ({ cls := "Levelhouse$Statement", name := "canStandAsItem", desc := "(LLevelhouse$Word;)Z" } : Jvm.MethodName)) ∈ xTB := tc4 131 (by decide +kernel) rfl
theorem w853 : (Jvm.Cond.instanceMethod ({ cls := "Levelhouse$Statement", name := "canStandAsItem", desc := "(LLevelhouse$Word;)Z" } : Jvm.MethodName)) ∈ xTB := tc4 133 (by decide +kernel) rfl
theorem w854 : (Jvm.Cond.code ({ cls := "Levelhouse$Statement", name := "canStandAsItem", desc := "(LLevelhouse$Word;)Z" } : Jvm.MethodName) prog_12_method_11_code (2 : Nat) (Option.some Jvm.ClassFile.FieldType.boolean)) ∈ xTB := tc4 134 (by decide +kernel) rfl
theorem w855 : (Jvm.Cond.fieldLink "Levelhouse$Statement" (235 : Nat) "Levelhouse$Word" "GET" "LLevelhouse$Word;") ∈ xTB := tc4 135 (by decide +kernel) rfl
theorem w857 : (Jvm.Cond.fieldLink "Levelhouse$Statement" (229 : Nat) "Levelhouse$Word" "COUNT" "LLevelhouse$Word;") ∈ xTB := tc4 137 (by decide +kernel) rfl
theorem w859 : (Jvm.Cond.fieldLink "Levelhouse$Statement" (238 : Nat) "Levelhouse$Word" "SUM" "LLevelhouse$Word;") ∈ xTB := tc4 139 (by decide +kernel) rfl
theorem w861 : (Jvm.Cond.fieldLink "Levelhouse$Statement" (241 : Nat) "Levelhouse$Word" "LEAST" "LLevelhouse$Word;") ∈ xTB := tc4 141 (by decide +kernel) rfl
theorem w863 : (Jvm.Cond.fieldLink "Levelhouse$Statement" (244 : Nat) "Levelhouse$Word" "MOST" "LLevelhouse$Word;") ∈ xTB := tc4 143 (by decide +kernel) rfl
theorem w865 : (Jvm.Cond.fieldLink "Levelhouse$Statement" (247 : Nat) "Levelhouse$Word" "PUT" "LLevelhouse$Word;") ∈ xTB := tc4 145 (by decide +kernel) rfl
theorem w867 : (Jvm.Cond.fieldLink "Levelhouse$Statement" (232 : Nat) "Levelhouse$Word" "NEXT" "LLevelhouse$Word;") ∈ xTB := tc4 147 (by decide +kernel) rfl
theorem w869 : (Jvm.Cond.fieldLink "Levelhouse$Statement" (86 : Nat) "Levelhouse$Word" "NAME" "LLevelhouse$Word;") ∈ xTB := tc4 149 (by decide +kernel) rfl
theorem w870 : (Jvm.Cond.methodLink "Levelhouse$Statement" (225 : Nat) ({ cls := "Levelhouse$Statement", name := "addItem", desc := "(LLevelhouse$Word;)V" } : Jvm.MethodName)) ∈ xTB := tc4 150 (by decide +kernel) rfl
theorem w872 : (Jvm.Cond.instanceMethod ({ cls := "Levelhouse$Statement", name := "addItem", desc := "(LLevelhouse$Word;)V" } : Jvm.MethodName)) ∈ xTB := tc4 152 (by decide +kernel) rfl
theorem w873 : (Jvm.Cond.code ({ cls := "Levelhouse$Statement", name := "addItem", desc := "(LLevelhouse$Word;)V" } : Jvm.MethodName) prog_12_method_12_code (2 : Nat) (Option.none : Option Jvm.ClassFile.FieldType)) ∈ xTB := tc4 153 (by decide +kernel) rfl
theorem w874 : (Jvm.Cond.methodLink "Levelhouse$Statement" (219 : Nat) ({ cls := "Levelhouse$Formula", name := "read", desc := "(LLevelhouse$Reader;)V" } : Jvm.MethodName)) ∈ xTB := tc4 154 (by decide +kernel) rfl
theorem w875 : (Jvm.Cond.instanceMethod ({ cls := "Levelhouse$Formula", name := "read", desc := "(LLevelhouse$Reader;)V" } : Jvm.MethodName)) ∈ xTB := tc4 155 (by decide +kernel) rfl
theorem w876 : (Jvm.Cond.selects "Levelhouse$Formula" ({ cls := "Levelhouse$Formula", name := "read", desc := "(LLevelhouse$Reader;)V" } : Jvm.MethodName) ({ cls := "Levelhouse$Formula", name := "read", desc := "(LLevelhouse$Reader;)V" } : Jvm.MethodName)) ∈ xTB := tc4 156 (by decide +kernel) rfl
theorem w877 : (Jvm.Cond.code ({ cls := "Levelhouse$Formula", name := "read", desc := "(LLevelhouse$Reader;)V" } : Jvm.MethodName) prog_5_method_7_code (6 : Nat) (Option.none : Option Jvm.ClassFile.FieldType)) ∈ xTB := tc4 157 (by decide +kernel) rfl
theorem w878 : (Jvm.Cond.methodLink "Levelhouse$Formula" (46 : Nat) ({ cls := "Levelhouse$Reader", name := "word", desc := "()LLevelhouse$Word;" } : Jvm.MethodName)) ∈ xTB := tc4 158 (by decide +kernel) rfl
theorem w879 : (Jvm.Cond.fieldLink "Levelhouse$Formula" (50 : Nat) "Levelhouse$Word" "OPEN" "LLevelhouse$Word;") ∈ xTB := tc4 159 (by decide +kernel) rfl
theorem w881 : (Jvm.Cond.methodLink "Levelhouse$Formula" (53 : Nat) ({ cls := "Levelhouse$Formula", name := "readOperand", desc := "(LLevelhouse$Reader;LLevelhouse$Word;)Z" } : Jvm.MethodName)) ∈ xTB := tc4 161 (by decide +kernel) rfl
theorem w883 : (Jvm.Cond.instanceMethod ({ cls := "Levelhouse$Formula", name := "readOperand", desc := "(LLevelhouse$Reader;LLevelhouse$Word;)Z" } : Jvm.MethodName)) ∈ xTB := tc4 163 (by decide +kernel) rfl
theorem w884 : (Jvm.Cond.code ({ cls := "Levelhouse$Formula", name := "readOperand", desc := "(LLevelhouse$Reader;LLevelhouse$Word;)Z" } : Jvm.MethodName) prog_5_method_8_code (3 : Nat) (Option.some Jvm.ClassFile.FieldType.boolean)) ∈ xTB := tc4 164 (by decide +kernel) rfl
theorem w885 : (Jvm.Cond.fieldLink "Levelhouse$Formula" (75 : Nat) "Levelhouse$1" "$SwitchMap$Levelhouse$Word" "[I") ∈ xTB := tc4 165 (by decide +kernel) rfl
theorem w886 : (Jvm.Cond.methodLink "Levelhouse$Formula" (80 : Nat) ({ cls := "Levelhouse$Word", name := "ordinal", desc := "()I" } : Jvm.MethodName)) ∈ xTB := tc4 166 (by decide +kernel) rfl
theorem w887 : (Jvm.Cond.methodLink "Levelhouse$Formula" (87 : Nat) ({ cls := "Levelhouse$Reader", name := "value", desc := "(I)I" } : Jvm.MethodName)) ∈ xTB := tc4 167 (by decide +kernel) rfl
theorem w888 : (Jvm.Cond.instanceMethod ({ cls := "Levelhouse$Reader", name := "value", desc := "(I)I" } : Jvm.MethodName)) ∈ xTB := tc4 168 (by decide +kernel) rfl
theorem w889 : (Jvm.Cond.selects "Levelhouse$Reader" ({ cls := "Levelhouse$Reader", name := "value", desc := "(I)I" } : Jvm.MethodName) ({ cls := "Levelhouse$Reader", name := "value", desc := "(I)I" } : Jvm.MethodName)) ∈ xTB := tc4 169 (by decide +kernel) rfl
theorem w890 : (Jvm.Cond.code ({ cls := "Levelhouse$Reader", name := "value", desc := "(I)I" } : Jvm.MethodName) prog_8_method_10_code (2 : Nat) (Option.some Jvm.ClassFile.FieldType.int)) ∈ xTB := tc4 170 (by decide +kernel) rfl
theorem w891 : (Jvm.Cond.methodLink "Levelhouse$Formula" (91 : Nat) ({ cls := "Levelhouse$Reader", name := "place", desc := "(I)I" } : Jvm.MethodName)) ∈ xTB := tc4 171 (by decide +kernel) rfl
theorem w892 : (Jvm.Cond.instanceMethod ({ cls := "Levelhouse$Reader", name := "place", desc := "(I)I" } : Jvm.MethodName)) ∈ xTB := tc4 172 (by decide +kernel) rfl
theorem w893 : (Jvm.Cond.selects "Levelhouse$Reader" ({ cls := "Levelhouse$Reader", name := "place", desc := "(I)I" } : Jvm.MethodName) ({ cls := "Levelhouse$Reader", name := "place", desc := "(I)I" } : Jvm.MethodName)) ∈ xTB := tc4 173 (by decide +kernel) rfl
theorem w894 : (Jvm.Cond.code ({ cls := "Levelhouse$Reader", name := "place", desc := "(I)I" } : Jvm.MethodName) prog_8_method_11_code (2 : Nat) (Option.some Jvm.ClassFile.FieldType.int)) ∈ xTB := tc4 174 (by decide +kernel) rfl
theorem w895 : (Jvm.Cond.methodLink "Levelhouse$Formula" (94 : Nat) ({ cls := "Levelhouse$Formula", name := "add", desc := "(LLevelhouse$Word;II)V" } : Jvm.MethodName)) ∈ xTB := tc4 175 (by decide +kernel) rfl
theorem w896 : (Jvm.Cond.instanceMethod ({ cls := "Levelhouse$Formula", name := "add", desc := "(LLevelhouse$Word;II)V" } : Jvm.MethodName)) ∈ xTB := tc4 176 (by decide +kernel) rfl
theorem w897 : (Jvm.Cond.selects "Levelhouse$Formula" ({ cls := "Levelhouse$Formula", name := "add", desc := "(LLevelhouse$Word;II)V" } : Jvm.MethodName) ({ cls := "Levelhouse$Formula", name := "add", desc := "(LLevelhouse$Word;II)V" } : Jvm.MethodName)) ∈ xTB := tc4 177 (by decide +kernel) rfl
theorem w898 : (Jvm.Cond.code ({ cls := "Levelhouse$Formula", name := "add", desc := "(LLevelhouse$Word;II)V" } : Jvm.MethodName) prog_5_method_6_code (4 : Nat) (Option.none : Option Jvm.ClassFile.FieldType)) ∈ xTB := tc4 178 (by decide +kernel) rfl
theorem w899 : (Jvm.Cond.methodLink "Levelhouse$Formula" (98 : Nat) ({ cls := "Levelhouse$Reader", name := "take", desc := "(LLevelhouse$Word;)Z" } : Jvm.MethodName)) ∈ xTB := tc4 179 (by decide +kernel) rfl
theorem w900 : (Jvm.Cond.fieldLink "Levelhouse$Formula" (102 : Nat) "Levelhouse$Word" "NEGATE" "LLevelhouse$Word;") ∈ xTB := tc4 180 (by decide +kernel) rfl
theorem w902 : (Jvm.Cond.methodLink "Levelhouse$Formula" (105 : Nat) ({ cls := "Levelhouse$Formula", name := "await", desc := "(LLevelhouse$Word;)V" } : Jvm.MethodName)) ∈ xTB := tc4 182 (by decide +kernel) rfl
theorem w904 : (Jvm.Cond.instanceMethod ({ cls := "Levelhouse$Formula", name := "await", desc := "(LLevelhouse$Word;)V" } : Jvm.MethodName)) ∈ xTB := tc4 184 (by decide +kernel) rfl
theorem w905 : (Jvm.Cond.code ({ cls := "Levelhouse$Formula", name := "await", desc := "(LLevelhouse$Word;)V" } : Jvm.MethodName) prog_5_method_10_code (2 : Nat) (Option.none : Option Jvm.ClassFile.FieldType)) ∈ xTB := tc4 185 (by decide +kernel) rfl
theorem w906 : (Jvm.Cond.methodLink "Levelhouse$Formula" (109 : Nat) ({ cls := "Levelhouse$Reader", name := "fail", desc := "()V" } : Jvm.MethodName)) ∈ xTB := tc4 186 (by decide +kernel) rfl
theorem w907 : (Jvm.Cond.instanceMethod ({ cls := "Levelhouse$Reader", name := "fail", desc := "()V" } : Jvm.MethodName)) ∈ xTB := tc4 187 (by decide +kernel) rfl
theorem w908 : (Jvm.Cond.selects "Levelhouse$Reader" ({ cls := "Levelhouse$Reader", name := "fail", desc := "()V" } : Jvm.MethodName) ({ cls := "Levelhouse$Reader", name := "fail", desc := "()V" } : Jvm.MethodName)) ∈ xTB := tc4 188 (by decide +kernel) rfl
theorem w909 : (Jvm.Cond.code ({ cls := "Levelhouse$Reader", name := "fail", desc := "()V" } : Jvm.MethodName) prog_8_method_13_code (1 : Nat) (Option.none : Option Jvm.ClassFile.FieldType)) ∈ xTB := tc4 189 (by decide +kernel) rfl
theorem w910 : (Jvm.Cond.methodLink "Levelhouse$Reader" (93 : Nat) ({ cls := "Levelhouse$Reader", name := "place", desc := "(I)I" } : Jvm.MethodName)) ∈ xTB := tc4 190 (by decide +kernel) rfl
theorem w911 : (Jvm.Cond.methodLink "Levelhouse$Formula" (60 : Nat) ({ cls := "Levelhouse$Formula", name := "readOperator", desc := "(LLevelhouse$Reader;LLevelhouse$Word;)V" } : Jvm.MethodName)) ∈ xTB := tc4 191 (by decide +kernel) rfl
theorem w913 : (Jvm.Cond.instanceMethod ({ cls := "Levelhouse$Formula", name := "readOperator", desc := "(LLevelhouse$Reader;LLevelhouse$Word;)V" } : Jvm.MethodName)) ∈ xTB := tc4 193 (by decide +kernel) rfl
theorem w914 : (Jvm.Cond.code ({ cls := "Levelhouse$Formula", name := "readOperator", desc := "(LLevelhouse$Reader;LLevelhouse$Word;)V" } : Jvm.MethodName) prog_5_method_9_code (3 : Nat) (Option.none : Option Jvm.ClassFile.FieldType)) ∈ xTB := tc4 194 (by decide +kernel) rfl
theorem w915 : (Jvm.Cond.methodLink "Levelhouse$Formula" (64 : Nat) ({ cls := "Levelhouse$Formula", name := "settle", desc := "(I)V" } : Jvm.MethodName)) ∈ xTB := tc4 195 (by decide +kernel) rfl
theorem w917 : (Jvm.Cond.instanceMethod ({ cls := "Levelhouse$Formula", name := "settle", desc := "(I)V" } : Jvm.MethodName)) ∈ xTB := tc4 197 (by decide +kernel) rfl
theorem w918 : (Jvm.Cond.code ({ cls := "Levelhouse$Formula", name := "settle", desc := "(I)V" } : Jvm.MethodName) prog_5_method_12_code (3 : Nat) (Option.none : Option Jvm.ClassFile.FieldType)) ∈ xTB := tc4 198 (by decide +kernel) rfl
theorem w919 : (Jvm.Cond.methodLink "Levelhouse$Formula" (112 : Nat) ({ cls := "Levelhouse$Formula", name := "waitingBond", desc := "()I" } : Jvm.MethodName)) ∈ xTB := tc4 199 (by decide +kernel) rfl
theorem w921 : (Jvm.Cond.instanceMethod ({ cls := "Levelhouse$Formula", name := "waitingBond", desc := "()I" } : Jvm.MethodName)) ∈ xTB := tc4 201 (by decide +kernel) rfl
theorem w922 : (Jvm.Cond.code ({ cls := "Levelhouse$Formula", name := "waitingBond", desc := "()I" } : Jvm.MethodName) prog_5_method_11_code (1 : Nat) (Option.some Jvm.ClassFile.FieldType.int)) ∈ xTB := tc4 202 (by decide +kernel) rfl
theorem w923 : (Jvm.Cond.fieldLink "Levelhouse$Formula" (68 : Nat) "Levelhouse$Word" "CLOSE" "LLevelhouse$Word;") ∈ xTB := tc4 203 (by decide +kernel) rfl
theorem w925 : (Jvm.Cond.methodLink "Levelhouse$Formula" (71 : Nat) ({ cls := "Levelhouse$Reader", name := "need", desc := "(LLevelhouse$Word;)I" } : Jvm.MethodName)) ∈ xTB := tc4 205 (by decide +kernel) rfl
theorem w926 : (Jvm.Cond.instanceMethod ({ cls := "Levelhouse$Reader", name := "need", desc := "(LLevelhouse$Word;)I" } : Jvm.MethodName)) ∈ xTB := tc4 206 (by decide +kernel) rfl
theorem w927 : (Jvm.Cond.selects "Levelhouse$Reader" ({ cls := "Levelhouse$Reader", name := "need", desc := "(LLevelhouse$Word;)I" } : Jvm.MethodName) ({ cls := "Levelhouse$Reader", name := "need", desc := "(LLevelhouse$Word;)I" } : Jvm.MethodName)) ∈ xTB := tc4 207 (by decide +kernel) rfl
theorem w928 : (Jvm.Cond.code ({ cls := "Levelhouse$Reader", name := "need", desc := "(LLevelhouse$Word;)I" } : Jvm.MethodName) prog_8_method_15_code (2 : Nat) (Option.some Jvm.ClassFile.FieldType.int)) ∈ xTB := tc4 208 (by decide +kernel) rfl
theorem w929 : (Jvm.Cond.methodLink "Levelhouse$Reader" (97 : Nat) ({ cls := "Levelhouse$Reader", name := "take", desc := "(LLevelhouse$Word;)Z" } : Jvm.MethodName)) ∈ xTB := tc4 209 (by decide +kernel) rfl
theorem w930 : (Jvm.Cond.methodLink "Levelhouse$Reader" (101 : Nat) ({ cls := "Levelhouse$Reader", name := "fail", desc := "()V" } : Jvm.MethodName)) ∈ xTB := tc4 210 (by decide +kernel) rfl
theorem w931 : (Jvm.Cond.fieldLink "Levelhouse$Statement" (192 : Nat) "Levelhouse$Word" "OPEN" "LLevelhouse$Word;") ∈ xTB := tc4 211 (by decide +kernel) rfl
theorem w932 : (Jvm.Cond.methodLink "Levelhouse$Statement" (89 : Nat) ({ cls := "Levelhouse$Reader", name := "need", desc := "(LLevelhouse$Word;)I" } : Jvm.MethodName)) ∈ xTB := tc4 212 (by decide +kernel) rfl
theorem w933 : (Jvm.Cond.fieldLink "Levelhouse$Statement" (210 : Nat) "Levelhouse$Word" "CLOSE" "LLevelhouse$Word;") ∈ xTB := tc4 213 (by decide +kernel) rfl
theorem w934 : (Jvm.Cond.fieldLink "Levelhouse$Statement" (162 : Nat) "Levelhouse$Word" "FROM" "LLevelhouse$Word;") ∈ xTB := tc4 214 (by decide +kernel) rfl
theorem w936 : (Jvm.Cond.fieldLink "Levelhouse$Statement" (165 : Nat) "Levelhouse$Word" "JOIN" "LLevelhouse$Word;") ∈ xTB := tc4 216 (by decide +kernel) rfl
theorem w938 : (Jvm.Cond.fieldLink "Levelhouse$Statement" (168 : Nat) "Levelhouse$Word" "ON" "LLevelhouse$Word;") ∈ xTB := tc4 218 (by decide +kernel) rfl
theorem w940 : (Jvm.Cond.fieldLink "Levelhouse$Statement" (171 : Nat) "Levelhouse$Word" "EQUAL" "LLevelhouse$Word;") ∈ xTB := tc4 220 (by decide +kernel) rfl
theorem w942 : (Jvm.Cond.methodLink "Levelhouse$Statement" (97 : Nat) ({ cls := "Levelhouse$Statement", name := "readIf", desc := "()V" } : Jvm.MethodName)) ∈ xTB := tc4 222 (by decide +kernel) rfl
theorem w944 : (Jvm.Cond.instanceMethod ({ cls := "Levelhouse$Statement", name := "readIf", desc := "()V" } : Jvm.MethodName)) ∈ xTB := tc4 224 (by decide +kernel) rfl
theorem w945 : (Jvm.Cond.code ({ cls := "Levelhouse$Statement", name := "readIf", desc := "()V" } : Jvm.MethodName) prog_12_method_9_code (1 : Nat) (Option.none : Option Jvm.ClassFile.FieldType)) ∈ xTB := tc4 225 (by decide +kernel) rfl
theorem w946 : (Jvm.Cond.fieldLink "Levelhouse$Statement" (216 : Nat) "Levelhouse$Word" "IF" "LLevelhouse$Word;") ∈ xTB := tc4 226 (by decide +kernel) rfl
theorem w948 : (Jvm.Cond.fieldLink "Levelhouse$Statement" (174 : Nat) "Levelhouse$Word" "BY" "LLevelhouse$Word;") ∈ xTB := tc4 228 (by decide +kernel) rfl
theorem w950 : (Jvm.Cond.methodLink "Levelhouse$Statement" (177 : Nat) ({ cls := "Levelhouse$Statement", name := "addColumn", desc := "(I)V" } : Jvm.MethodName)) ∈ xTB := tc4 230 (by decide +kernel) rfl
theorem w952 : (Jvm.Cond.instanceMethod ({ cls := "Levelhouse$Statement", name := "addColumn", desc := "(I)V" } : Jvm.MethodName)) ∈ xTB := tc4 232 (by decide +kernel) rfl
theorem w953 : (Jvm.Cond.code ({ cls := "Levelhouse$Statement", name := "addColumn", desc := "(I)V" } : Jvm.MethodName) prog_12_method_13_code (2 : Nat) (Option.none : Option Jvm.ClassFile.FieldType)) ∈ xTB := tc4 233 (by decide +kernel) rfl
theorem w954 : (Jvm.Cond.fieldLink "Levelhouse$Statement" (180 : Nat) "Levelhouse$Word" "UP" "LLevelhouse$Word;") ∈ xTB := tc4 234 (by decide +kernel) rfl
theorem w956 : (Jvm.Cond.fieldLink "Levelhouse$Statement" (183 : Nat) "Levelhouse$Word" "DOWN" "LLevelhouse$Word;") ∈ xTB := tc4 236 (by decide +kernel) rfl
theorem w958 : (Jvm.Cond.fieldLink "Levelhouse$Statement" (186 : Nat) "Levelhouse$Word" "NUMBER" "LLevelhouse$Word;") ∈ xTB := tc4 238 (by decide +kernel) rfl
theorem w959 : (Jvm.Cond.fieldLink "Levelhouse$Statement" (189 : Nat) "Levelhouse$Word" "TOP" "LLevelhouse$Word;") ∈ xTB := tc4 239 (by decide +kernel) rfl
theorem w961 : (Jvm.Cond.methodLink "Levelhouse$Statement" (77 : Nat) ({ cls := "Levelhouse$Statement", name := "readTable", desc := "()V" } : Jvm.MethodName)) ∈ xTB := tc5 1 (by decide +kernel) rfl
theorem w963 : (Jvm.Cond.instanceMethod ({ cls := "Levelhouse$Statement", name := "readTable", desc := "()V" } : Jvm.MethodName)) ∈ xTB := tc5 3 (by decide +kernel) rfl
theorem w964 : (Jvm.Cond.code ({ cls := "Levelhouse$Statement", name := "readTable", desc := "()V" } : Jvm.MethodName) prog_12_method_5_code (2 : Nat) (Option.none : Option Jvm.ClassFile.FieldType)) ∈ xTB := tc5 4 (by decide +kernel) rfl
theorem w965 : (Jvm.Cond.fieldLink "Levelhouse$Statement" (195 : Nat) "Levelhouse$Word" "REF" "LLevelhouse$Word;") ∈ xTB := tc5 5 (by decide +kernel) rfl
theorem w967 : (Jvm.Cond.fieldLink "Levelhouse$Statement" (198 : Nat) "Levelhouse$Word" "KEY" "LLevelhouse$Word;") ∈ xTB := tc5 7 (by decide +kernel) rfl
theorem w969 : (Jvm.Cond.fieldLink "Levelhouse$Statement" (201 : Nat) "Levelhouse$Word" "AUTO" "LLevelhouse$Word;") ∈ xTB := tc5 9 (by decide +kernel) rfl
theorem w971 : (Jvm.Cond.fieldLink "Levelhouse$Statement" (204 : Nat) "Levelhouse$Word" "NUM" "LLevelhouse$Word;") ∈ xTB := tc5 11 (by decide +kernel) rfl
theorem w973 : (Jvm.Cond.fieldLink "Levelhouse$Statement" (207 : Nat) "Levelhouse$Word" "UNIQ" "LLevelhouse$Word;") ∈ xTB := tc5 13 (by decide +kernel) rfl
theorem w975 : (Jvm.Cond.methodLink "Levelhouse$Statement" (80 : Nat) ({ cls := "Levelhouse$Statement", name := "readPut", desc := "()V" } : Jvm.MethodName)) ∈ xTB := tc5 15 (by decide +kernel) rfl
theorem w977 : (Jvm.Cond.instanceMethod ({ cls := "Levelhouse$Statement", name := "readPut", desc := "()V" } : Jvm.MethodName)) ∈ xTB := tc5 17 (by decide +kernel) rfl
theorem w978 : (Jvm.Cond.code ({ cls := "Levelhouse$Statement", name := "readPut", desc := "()V" } : Jvm.MethodName) prog_12_method_6_code (2 : Nat) (Option.none : Option Jvm.ClassFile.FieldType)) ∈ xTB := tc5 18 (by decide +kernel) rfl
theorem w979 : (Jvm.Cond.methodLink "Levelhouse$Statement" (83 : Nat) ({ cls := "Levelhouse$Statement", name := "readSet", desc := "()V" } : Jvm.MethodName)) ∈ xTB := tc5 19 (by decide +kernel) rfl
theorem w981 : (Jvm.Cond.instanceMethod ({ cls := "Levelhouse$Statement", name := "readSet", desc := "()V" } : Jvm.MethodName)) ∈ xTB := tc5 21 (by decide +kernel) rfl
theorem w982 : (Jvm.Cond.code ({ cls := "Levelhouse$Statement", name := "readSet", desc := "()V" } : Jvm.MethodName) prog_12_method_7_code (2 : Nat) (Option.none : Option Jvm.ClassFile.FieldType)) ∈ xTB := tc5 22 (by decide +kernel) rfl
theorem w983 : (Jvm.Cond.fieldLink "Levelhouse$Statement" (103 : Nat) "Levelhouse$Word" "TO" "LLevelhouse$Word;") ∈ xTB := tc5 23 (by decide +kernel) rfl
theorem w985 : (Jvm.Cond.methodLink "Levelhouse$Statement" (109 : Nat) ({ cls := "Levelhouse$Reader", name := "fail", desc := "()V" } : Jvm.MethodName)) ∈ xTB := tc5 25 (by decide +kernel) rfl
theorem w986 : (Jvm.Cond.methodLink "Levelhouse" (126 : Nat) ({ cls := "Levelhouse$Meaning", name := "bind", desc := "(LLevelhouse$Statement;Ljava/util/ArrayList;I)I" } : Jvm.MethodName)) ∈ xTB := tc5 26 (by decide +kernel) rfl
theorem w987 : (Jvm.Cond.instanceMethod ({ cls := "Levelhouse$Meaning", name := "bind", desc := "(LLevelhouse$Statement;Ljava/util/ArrayList;I)I" } : Jvm.MethodName)) ∈ xTB := tc5 27 (by decide +kernel) rfl
theorem w988 : (Jvm.Cond.selects "Levelhouse$Meaning" ({ cls := "Levelhouse$Meaning", name := "bind", desc := "(LLevelhouse$Statement;Ljava/util/ArrayList;I)I" } : Jvm.MethodName) ({ cls := "Levelhouse$Meaning", name := "bind", desc := "(LLevelhouse$Statement;Ljava/util/ArrayList;I)I" } : Jvm.MethodName)) ∈ xTB := tc5 28 (by decide +kernel) rfl
theorem w989 : (Jvm.Cond.code ({ cls := "Levelhouse$Meaning", name := "bind", desc := "(LLevelhouse$Statement;Ljava/util/ArrayList;I)I" } : Jvm.MethodName) prog_6_method_2_code (4 : Nat) (Option.some Jvm.ClassFile.FieldType.int)) ∈ xTB := tc5 29 (by decide +kernel) rfl
theorem w990 : (Jvm.Cond.fieldLink "Levelhouse$Meaning" (43 : Nat) "Levelhouse$Word" "TABLE" "LLevelhouse$Word;") ∈ xTB := tc5 30 (by decide +kernel) rfl
theorem w992 : (Jvm.Cond.methodLink "Levelhouse$Meaning" (48 : Nat) ({ cls := "Levelhouse$Meaning", name := "bindTable", desc := "()V" } : Jvm.MethodName)) ∈ xTB := tc5 32 (by decide +kernel) rfl
theorem w994 : (Jvm.Cond.instanceMethod ({ cls := "Levelhouse$Meaning", name := "bindTable", desc := "()V" } : Jvm.MethodName)) ∈ xTB := tc5 34 (by decide +kernel) rfl
theorem w995 : (Jvm.Cond.code ({ cls := "Levelhouse$Meaning", name := "bindTable", desc := "()V" } : Jvm.MethodName) prog_6_method_16_code (5 : Nat) (Option.none : Option Jvm.ClassFile.FieldType)) ∈ xTB := tc5 35 (by decide +kernel) rfl
theorem w996 : (Jvm.Cond.methodLink "Levelhouse$Meaning" (212 : Nat) ({ cls := "Levelhouse$Statement", name := "columnName", desc := "(I)I" } : Jvm.MethodName)) ∈ xTB := tc5 36 (by decide +kernel) rfl
theorem w997 : (Jvm.Cond.instanceMethod ({ cls := "Levelhouse$Statement", name := "columnName", desc := "(I)I" } : Jvm.MethodName)) ∈ xTB := tc5 37 (by decide +kernel) rfl
theorem w998 : (Jvm.Cond.selects "Levelhouse$Statement" ({ cls := "Levelhouse$Statement", name := "columnName", desc := "(I)I" } : Jvm.MethodName) ({ cls := "Levelhouse$Statement", name := "columnName", desc := "(I)I" } : Jvm.MethodName)) ∈ xTB := tc5 38 (by decide +kernel) rfl
theorem w999 : (Jvm.Cond.code ({ cls := "Levelhouse$Statement", name := "columnName", desc := "(I)I" } : Jvm.MethodName) prog_12_method_21_code (2 : Nat) (Option.some Jvm.ClassFile.FieldType.int)) ∈ xTB := tc5 39 (by decide +kernel) rfl
theorem w1000 : (Jvm.Cond.methodLink "Levelhouse$Statement" (268 : Nat) ({ cls := "Levelhouse$Statement", name := "columnAt", desc := "(I)I" } : Jvm.MethodName)) ∈ xTB := tc5 40 (by decide +kernel) rfl
theorem w1001 : (Jvm.Cond.instanceMethod ({ cls := "Levelhouse$Statement", name := "columnAt", desc := "(I)I" } : Jvm.MethodName)) ∈ xTB := tc5 41 (by decide +kernel) rfl
theorem w1002 : (Jvm.Cond.selects "Levelhouse$Statement" ({ cls := "Levelhouse$Statement", name := "columnAt", desc := "(I)I" } : Jvm.MethodName) ({ cls := "Levelhouse$Statement", name := "columnAt", desc := "(I)I" } : Jvm.MethodName)) ∈ xTB := tc5 42 (by decide +kernel) rfl
theorem w1003 : (Jvm.Cond.code ({ cls := "Levelhouse$Statement", name := "columnAt", desc := "(I)I" } : Jvm.MethodName) prog_12_method_20_code (2 : Nat) (Option.some Jvm.ClassFile.FieldType.int)) ∈ xTB := tc5 43 (by decide +kernel) rfl
theorem w1004 : (Jvm.Cond.methodLink "Levelhouse$Statement" (271 : Nat) ({ cls := "Levelhouse$Reader", name := "value", desc := "(I)I" } : Jvm.MethodName)) ∈ xTB := tc5 44 (by decide +kernel) rfl
theorem w1005 : (Jvm.Cond.methodLink "Levelhouse$Meaning" (209 : Nat) ({ cls := "Levelhouse$Statement", name := "columnNamed", desc := "(I)I" } : Jvm.MethodName)) ∈ xTB := tc5 45 (by decide +kernel) rfl
theorem w1006 : (Jvm.Cond.instanceMethod ({ cls := "Levelhouse$Statement", name := "columnNamed", desc := "(I)I" } : Jvm.MethodName)) ∈ xTB := tc5 46 (by decide +kernel) rfl
theorem w1007 : (Jvm.Cond.selects "Levelhouse$Statement" ({ cls := "Levelhouse$Statement", name := "columnNamed", desc := "(I)I" } : Jvm.MethodName) ({ cls := "Levelhouse$Statement", name := "columnNamed", desc := "(I)I" } : Jvm.MethodName)) ∈ xTB := tc5 47 (by decide +kernel) rfl
theorem w1008 : (Jvm.Cond.code ({ cls := "Levelhouse$Statement", name := "columnNamed", desc := "(I)I" } : Jvm.MethodName) prog_12_method_23_code (3 : Nat) (Option.some Jvm.ClassFile.FieldType.int)) ∈ xTB := tc5 48 (by decide +kernel) rfl
theorem w1009 : (Jvm.Cond.methodLink "Levelhouse$Meaning" (215 : Nat) ({ cls := "Levelhouse$Statement", name := "columnPlace", desc := "(I)I" } : Jvm.MethodName)) ∈ xTB := tc5 49 (by decide +kernel) rfl
theorem w1010 : (Jvm.Cond.instanceMethod ({ cls := "Levelhouse$Statement", name := "columnPlace", desc := "(I)I" } : Jvm.MethodName)) ∈ xTB := tc5 50 (by decide +kernel) rfl
theorem w1011 : (Jvm.Cond.selects "Levelhouse$Statement" ({ cls := "Levelhouse$Statement", name := "columnPlace", desc := "(I)I" } : Jvm.MethodName) ({ cls := "Levelhouse$Statement", name := "columnPlace", desc := "(I)I" } : Jvm.MethodName)) ∈ xTB := tc5 51 (by decide +kernel) rfl
theorem w1012 : (Jvm.Cond.code ({ cls := "Levelhouse$Statement", name := "columnPlace", desc := "(I)I" } : Jvm.MethodName) prog_12_method_22_code (2 : Nat) (Option.some Jvm.ClassFile.FieldType.int)) ∈ xTB := tc5 52 (by decide +kernel) rfl
theorem w1013 : (Jvm.Cond.methodLink "Levelhouse$Statement" (250 : Nat) ({ cls := "Levelhouse$Reader", name := "place", desc := "(I)I" } : Jvm.MethodName)) ∈ xTB := tc5 53 (by decide +kernel) rfl
theorem w1014 : (Jvm.Cond.methodLink "Levelhouse$Meaning" (126 : Nat) ({ cls := "Levelhouse$Meaning", name := "blame", desc := "(I)V" } : Jvm.MethodName)) ∈ xTB := tc5 54 (by decide +kernel) rfl
theorem w1016 : (Jvm.Cond.instanceMethod ({ cls := "Levelhouse$Meaning", name := "blame", desc := "(I)V" } : Jvm.MethodName)) ∈ xTB := tc5 56 (by decide +kernel) rfl
theorem w1017 : (Jvm.Cond.code ({ cls := "Levelhouse$Meaning", name := "blame", desc := "(I)V" } : Jvm.MethodName) prog_6_method_3_code (2 : Nat) (Option.none : Option Jvm.ClassFile.FieldType)) ∈ xTB := tc5 57 (by decide +kernel) rfl
theorem w1018 : (Jvm.Cond.methodLink "Levelhouse$Meaning" (236 : Nat) ({ cls := "Levelhouse$Statement", name := "columnAt", desc := "(I)I" } : Jvm.MethodName)) ∈ xTB := tc5 58 (by decide +kernel) rfl
theorem w1019 : (Jvm.Cond.methodLink "Levelhouse$Meaning" (239 : Nat) ({ cls := "Levelhouse$Reader", name := "kind", desc := "(I)LLevelhouse$Word;" } : Jvm.MethodName)) ∈ xTB := tc5 59 (by decide +kernel) rfl
theorem w1020 : (Jvm.Cond.fieldLink "Levelhouse$Meaning" (242 : Nat) "Levelhouse$Word" "KEY" "LLevelhouse$Word;") ∈ xTB := tc5 60 (by decide +kernel) rfl
theorem w1021 : (Jvm.Cond.fieldLink "Levelhouse$Meaning" (227 : Nat) "Levelhouse$Word" "AUTO" "LLevelhouse$Word;") ∈ xTB := tc5 61 (by decide +kernel) rfl
theorem w1022 : (Jvm.Cond.methodLink "Levelhouse$Meaning" (123 : Nat) ({ cls := "Levelhouse$Reader", name := "place", desc := "(I)I" } : Jvm.MethodName)) ∈ xTB := tc5 62 (by decide +kernel) rfl
theorem w1023 : (Jvm.Cond.fieldLink "Levelhouse$Meaning" (245 : Nat) "Levelhouse$Word" "REF" "LLevelhouse$Word;") ∈ xTB := tc5 63 (by decide +kernel) rfl
theorem w1024 : (Jvm.Cond.methodLink "Levelhouse$Meaning" (54 : Nat) ({ cls := "Levelhouse$Meaning", name := "tableNamed", desc := "(I)LLevelhouse$Table;" } : Jvm.MethodName)) ∈ xTB := tc5 64 (by decide +kernel) rfl
theorem w1026 : (Jvm.Cond.instanceMethod ({ cls := "Levelhouse$Meaning", name := "tableNamed", desc := "(I)LLevelhouse$Table;" } : Jvm.MethodName)) ∈ xTB := tc5 66 (by decide +kernel) rfl
theorem w1027 : (Jvm.Cond.code ({ cls := "Levelhouse$Meaning", name := "tableNamed", desc := "(I)LLevelhouse$Table;" } : Jvm.MethodName) prog_6_method_4_code (5 : Nat) (Option.some (Jvm.ClassFile.FieldType.object "Levelhouse$Table"))) ∈ xTB := tc5 67 (by decide +kernel) rfl
theorem w1028 : (Jvm.Cond.methodLink "Levelhouse$Meaning" (99 : Nat) ({ cls := "Levelhouse$Reader", name := "value", desc := "(I)I" } : Jvm.MethodName)) ∈ xTB := tc5 68 (by decide +kernel) rfl
theorem w1029 : (Jvm.Cond.methodLink "Levelhouse$Meaning" (105 : Nat) ({ cls := "java/util/ArrayList", name := "size", desc := "()I" } : Jvm.MethodName)) ∈ xTB := tc5 69 (by decide +kernel) rfl
theorem w1030 : (Jvm.Cond.instanceMethod ({ cls := "java/util/ArrayList", name := "size", desc := "()I" } : Jvm.MethodName)) ∈ xTB := tc5 70 (by decide +kernel) rfl
theorem w1031 : (Jvm.Cond.selects "java/util/ArrayList" ({ cls := "java/util/ArrayList", name := "size", desc := "()I" } : Jvm.MethodName) ({ cls := "java/util/ArrayList", name := "size", desc := "()I" } : Jvm.MethodName)) ∈ xTB := tc5 71 (by decide +kernel) rfl
theorem w1032 : (Jvm.Cond.code ({ cls := "java/util/ArrayList", name := "size", desc := "()I" } : Jvm.MethodName) prog_57_method_8_code (1 : Nat) (Option.some Jvm.ClassFile.FieldType.int)) ∈ xTB := tc5 72 (by decide +kernel) rfl
theorem w1033 : (Jvm.Cond.methodLink "Levelhouse$Meaning" (109 : Nat) ({ cls := "java/util/ArrayList", name := "get", desc := "(I)Ljava/lang/Object;" } : Jvm.MethodName)) ∈ xTB := tc5 73 (by decide +kernel) rfl
theorem w1034 : (Jvm.Cond.instanceMethod ({ cls := "java/util/ArrayList", name := "get", desc := "(I)Ljava/lang/Object;" } : Jvm.MethodName)) ∈ xTB := tc5 74 (by decide +kernel) rfl
theorem w1035 : (Jvm.Cond.selects "java/util/ArrayList" ({ cls := "java/util/ArrayList", name := "get", desc := "(I)Ljava/lang/Object;" } : Jvm.MethodName) ({ cls := "java/util/ArrayList", name := "get", desc := "(I)Ljava/lang/Object;" } : Jvm.MethodName)) ∈ xTB := tc5 75 (by decide +kernel) rfl
theorem w1036 : (Jvm.Cond.code ({ cls := "java/util/ArrayList", name := "get", desc := "(I)Ljava/lang/Object;" } : Jvm.MethodName) prog_57_method_20_code (2 : Nat) (Option.some (Jvm.ClassFile.FieldType.object "java/lang/Object"))) ∈ xTB := tc5 76 (by decide +kernel) rfl
theorem w1037 : (Jvm.Cond.methodLink "java/util/ArrayList" (118 : Nat) ({ cls := "java/util/Objects", name := "checkIndex", desc := "(II)I" } : Jvm.MethodName)) ∈ xTB := tc5 77 (by decide +kernel) rfl
theorem w1038 : (Jvm.Cond.static ({ cls := "java/util/Objects", name := "checkIndex", desc := "(II)I" } : Jvm.MethodName)) ∈ xTB := tc5 78 (by decide +kernel) rfl
theorem w1039 : (Jvm.Cond.code ({ cls := "java/util/Objects", name := "checkIndex", desc := "(II)I" } : Jvm.MethodName) prog_62_method_17_code (2 : Nat) (Option.some Jvm.ClassFile.FieldType.int)) ∈ xTB := tc5 79 (by decide +kernel) rfl
theorem w1040 : (Jvm.Cond.methodLink "java/util/Objects" (105 : Nat) ({ cls := "jdk/internal/util/Preconditions", name := "checkIndex", desc := "(IILjava/util/function/BiFunction;)I" } : Jvm.MethodName)) ∈ xTB := tc5 80 (by decide +kernel) rfl
theorem w1041 : (Jvm.Cond.methodLink "java/util/ArrayList" (123 : Nat) ({ cls := "java/util/ArrayList", name := "elementData", desc := "(I)Ljava/lang/Object;" } : Jvm.MethodName)) ∈ xTB := tc5 81 (by decide +kernel) rfl
theorem w1042 : (Jvm.Cond.instanceMethod ({ cls := "java/util/ArrayList", name := "elementData", desc := "(I)Ljava/lang/Object;" } : Jvm.MethodName)) ∈ xTB := tc5 82 (by decide +kernel) rfl
theorem w1043 : (Jvm.Cond.selects "java/util/ArrayList" ({ cls := "java/util/ArrayList", name := "elementData", desc := "(I)Ljava/lang/Object;" } : Jvm.MethodName) ({ cls := "java/util/ArrayList", name := "elementData", desc := "(I)Ljava/lang/Object;" } : Jvm.MethodName)) ∈ xTB := tc5 83 (by decide +kernel) rfl
theorem w1044 : (Jvm.Cond.code ({ cls := "java/util/ArrayList", name := "elementData", desc := "(I)Ljava/lang/Object;" } : Jvm.MethodName) prog_57_method_18_code (2 : Nat) (Option.some (Jvm.ClassFile.FieldType.object "java/lang/Object"))) ∈ xTB := tc5 84 (by decide +kernel) rfl
theorem w1045 : (Jvm.Cond.classLink "Levelhouse$Meaning" (113 : Nat) "Levelhouse$Table") ∈ xTB := tc5 85 (by decide +kernel) rfl
theorem w1046 : (Jvm.Cond.methodLinkNest "Levelhouse$Meaning" (119 : Nat) ({ cls := "Levelhouse", name := "isBelow", desc := "(II)Z" } : Jvm.MethodName) "Levelhouse") ∈ xTB := tc5 86 (by decide +kernel) rfl
theorem w1047 : (Jvm.Cond.static ({ cls := "Levelhouse", name := "isBelow", desc := "(II)Z" } : Jvm.MethodName)) ∈ xTB := tc5 87 (by decide +kernel) rfl
theorem w1048 : (Jvm.Cond.code ({ cls := "Levelhouse", name := "isBelow", desc := "(II)Z" } : Jvm.MethodName) prog_1_method_29_code (2 : Nat) (Option.some Jvm.ClassFile.FieldType.boolean)) ∈ xTB := tc5 88 (by decide +kernel) rfl
theorem w1049 : (Jvm.Cond.methodLink "Levelhouse$Meaning" (136 : Nat) ({ cls := "Levelhouse$Formula", name := "op", desc := "(I)LLevelhouse$Word;" } : Jvm.MethodName)) ∈ xTB := tc5 89 (by decide +kernel) rfl
theorem w1050 : (Jvm.Cond.instanceMethod ({ cls := "Levelhouse$Formula", name := "op", desc := "(I)LLevelhouse$Word;" } : Jvm.MethodName)) ∈ xTB := tc5 90 (by decide +kernel) rfl
theorem w1051 : (Jvm.Cond.selects "Levelhouse$Formula" ({ cls := "Levelhouse$Formula", name := "op", desc := "(I)LLevelhouse$Word;" } : Jvm.MethodName) ({ cls := "Levelhouse$Formula", name := "op", desc := "(I)LLevelhouse$Word;" } : Jvm.MethodName)) ∈ xTB := tc5 91 (by decide +kernel) rfl
theorem w1052 : (Jvm.Cond.code ({ cls := "Levelhouse$Formula", name := "op", desc := "(I)LLevelhouse$Word;" } : Jvm.MethodName) prog_5_method_2_code (2 : Nat) (Option.some (Jvm.ClassFile.FieldType.object "Levelhouse$Word"))) ∈ xTB := tc5 92 (by decide +kernel) rfl
theorem w1053 : (Jvm.Cond.fieldLink "Levelhouse$Formula" (34 : Nat) "Levelhouse$Word" "END" "LLevelhouse$Word;") ∈ xTB := tc5 93 (by decide +kernel) rfl
theorem w1054 : (Jvm.Cond.fieldLink "Levelhouse$Meaning" (140 : Nat) "Levelhouse$Word" "NAME" "LLevelhouse$Word;") ∈ xTB := tc5 94 (by decide +kernel) rfl
theorem w1055 : (Jvm.Cond.methodLink "Levelhouse$Meaning" (143 : Nat) ({ cls := "Levelhouse$Formula", name := "arg", desc := "(I)I" } : Jvm.MethodName)) ∈ xTB := tc5 95 (by decide +kernel) rfl
theorem w1056 : (Jvm.Cond.instanceMethod ({ cls := "Levelhouse$Formula", name := "arg", desc := "(I)I" } : Jvm.MethodName)) ∈ xTB := tc5 96 (by decide +kernel) rfl
theorem w1057 : (Jvm.Cond.selects "Levelhouse$Formula" ({ cls := "Levelhouse$Formula", name := "arg", desc := "(I)I" } : Jvm.MethodName) ({ cls := "Levelhouse$Formula", name := "arg", desc := "(I)I" } : Jvm.MethodName)) ∈ xTB := tc5 97 (by decide +kernel) rfl
theorem w1058 : (Jvm.Cond.code ({ cls := "Levelhouse$Formula", name := "arg", desc := "(I)I" } : Jvm.MethodName) prog_5_method_3_code (2 : Nat) (Option.some Jvm.ClassFile.FieldType.int)) ∈ xTB := tc5 98 (by decide +kernel) rfl
theorem w1059 : (Jvm.Cond.methodLink "Levelhouse$Meaning" (151 : Nat) ({ cls := "Levelhouse$Formula", name := "place", desc := "(I)I" } : Jvm.MethodName)) ∈ xTB := tc5 99 (by decide +kernel) rfl
theorem w1060 : (Jvm.Cond.instanceMethod ({ cls := "Levelhouse$Formula", name := "place", desc := "(I)I" } : Jvm.MethodName)) ∈ xTB := tc5 100 (by decide +kernel) rfl
theorem w1061 : (Jvm.Cond.selects "Levelhouse$Formula" ({ cls := "Levelhouse$Formula", name := "place", desc := "(I)I" } : Jvm.MethodName) ({ cls := "Levelhouse$Formula", name := "place", desc := "(I)I" } : Jvm.MethodName)) ∈ xTB := tc5 101 (by decide +kernel) rfl
theorem w1062 : (Jvm.Cond.code ({ cls := "Levelhouse$Formula", name := "place", desc := "(I)I" } : Jvm.MethodName) prog_5_method_4_code (2 : Nat) (Option.some Jvm.ClassFile.FieldType.int)) ∈ xTB := tc5 102 (by decide +kernel) rfl
theorem w1063 : (Jvm.Cond.methodLink "Levelhouse$Meaning" (152 : Nat) ({ cls := "Levelhouse$Formula", name := "setArg", desc := "(II)V" } : Jvm.MethodName)) ∈ xTB := tc5 103 (by decide +kernel) rfl
theorem w1064 : (Jvm.Cond.instanceMethod ({ cls := "Levelhouse$Formula", name := "setArg", desc := "(II)V" } : Jvm.MethodName)) ∈ xTB := tc5 104 (by decide +kernel) rfl
theorem w1065 : (Jvm.Cond.selects "Levelhouse$Formula" ({ cls := "Levelhouse$Formula", name := "setArg", desc := "(II)V" } : Jvm.MethodName) ({ cls := "Levelhouse$Formula", name := "setArg", desc := "(II)V" } : Jvm.MethodName)) ∈ xTB := tc5 105 (by decide +kernel) rfl
theorem w1066 : (Jvm.Cond.code ({ cls := "Levelhouse$Formula", name := "setArg", desc := "(II)V" } : Jvm.MethodName) prog_5_method_5_code (3 : Nat) (Option.none : Option Jvm.ClassFile.FieldType)) ∈ xTB := tc5 106 (by decide +kernel) rfl
theorem w1067 : (Jvm.Cond.fieldLink "Levelhouse$Meaning" (61 : Nat) "Levelhouse$1" "$SwitchMap$Levelhouse$Word" "[I") ∈ xTB := tc5 107 (by decide +kernel) rfl
theorem w1068 : (Jvm.Cond.methodLink "Levelhouse$Meaning" (66 : Nat) ({ cls := "Levelhouse$Word", name := "ordinal", desc := "()I" } : Jvm.MethodName)) ∈ xTB := tc5 108 (by decide +kernel) rfl
theorem w1069 : (Jvm.Cond.methodLink "Levelhouse$Meaning" (70 : Nat) ({ cls := "Levelhouse$Meaning", name := "bindGet", desc := "()V" } : Jvm.MethodName)) ∈ xTB := tc5 109 (by decide +kernel) rfl
theorem w1071 : (Jvm.Cond.instanceMethod ({ cls := "Levelhouse$Meaning", name := "bindGet", desc := "()V" } : Jvm.MethodName)) ∈ xTB := tc5 111 (by decide +kernel) rfl
theorem w1072 : (Jvm.Cond.code ({ cls := "Levelhouse$Meaning", name := "bindGet", desc := "()V" } : Jvm.MethodName) prog_6_method_9_code (2 : Nat) (Option.none : Option Jvm.ClassFile.FieldType)) ∈ xTB := tc5 112 (by decide +kernel) rfl
theorem w1073 : (Jvm.Cond.methodLink "Levelhouse$Meaning" (167 : Nat) ({ cls := "Levelhouse$Statement", name := "itemKind", desc := "(I)LLevelhouse$Word;" } : Jvm.MethodName)) ∈ xTB := tc5 113 (by decide +kernel) rfl
theorem w1074 : (Jvm.Cond.instanceMethod ({ cls := "Levelhouse$Statement", name := "itemKind", desc := "(I)LLevelhouse$Word;" } : Jvm.MethodName)) ∈ xTB := tc5 114 (by decide +kernel) rfl
theorem w1075 : (Jvm.Cond.selects "Levelhouse$Statement" ({ cls := "Levelhouse$Statement", name := "itemKind", desc := "(I)LLevelhouse$Word;" } : Jvm.MethodName) ({ cls := "Levelhouse$Statement", name := "itemKind", desc := "(I)LLevelhouse$Word;" } : Jvm.MethodName)) ∈ xTB := tc5 115 (by decide +kernel) rfl
theorem w1076 : (Jvm.Cond.code ({ cls := "Levelhouse$Statement", name := "itemKind", desc := "(I)LLevelhouse$Word;" } : Jvm.MethodName) prog_12_method_14_code (2 : Nat) (Option.some (Jvm.ClassFile.FieldType.object "Levelhouse$Word"))) ∈ xTB := tc5 116 (by decide +kernel) rfl
theorem w1077 : (Jvm.Cond.methodLink "Levelhouse$Meaning" (170 : Nat) ({ cls := "Levelhouse$Meaning", name := "bindGroups", desc := "()V" } : Jvm.MethodName)) ∈ xTB := tc5 117 (by decide +kernel) rfl
theorem w1079 : (Jvm.Cond.instanceMethod ({ cls := "Levelhouse$Meaning", name := "bindGroups", desc := "()V" } : Jvm.MethodName)) ∈ xTB := tc5 119 (by decide +kernel) rfl
theorem w1080 : (Jvm.Cond.code ({ cls := "Levelhouse$Meaning", name := "bindGroups", desc := "()V" } : Jvm.MethodName) prog_6_method_11_code (2 : Nat) (Option.none : Option Jvm.ClassFile.FieldType)) ∈ xTB := tc5 120 (by decide +kernel) rfl
theorem w1081 : (Jvm.Cond.methodLink "Levelhouse$Meaning" (200 : Nat) ({ cls := "Levelhouse$Statement", name := "itemFrom", desc := "(I)I" } : Jvm.MethodName)) ∈ xTB := tc5 121 (by decide +kernel) rfl
theorem w1082 : (Jvm.Cond.instanceMethod ({ cls := "Levelhouse$Statement", name := "itemFrom", desc := "(I)I" } : Jvm.MethodName)) ∈ xTB := tc5 122 (by decide +kernel) rfl
theorem w1083 : (Jvm.Cond.selects "Levelhouse$Statement" ({ cls := "Levelhouse$Statement", name := "itemFrom", desc := "(I)I" } : Jvm.MethodName) ({ cls := "Levelhouse$Statement", name := "itemFrom", desc := "(I)I" } : Jvm.MethodName)) ∈ xTB := tc5 123 (by decide +kernel) rfl
theorem w1084 : (Jvm.Cond.code ({ cls := "Levelhouse$Statement", name := "itemFrom", desc := "(I)I" } : Jvm.MethodName) prog_12_method_16_code (2 : Nat) (Option.some Jvm.ClassFile.FieldType.int)) ∈ xTB := tc5 124 (by decide +kernel) rfl
theorem w1085 : (Jvm.Cond.methodLink "Levelhouse$Meaning" (203 : Nat) ({ cls := "Levelhouse$Statement", name := "itemTo", desc := "(I)I" } : Jvm.MethodName)) ∈ xTB := tc5 125 (by decide +kernel) rfl
theorem w1086 : (Jvm.Cond.instanceMethod ({ cls := "Levelhouse$Statement", name := "itemTo", desc := "(I)I" } : Jvm.MethodName)) ∈ xTB := tc5 126 (by decide +kernel) rfl
theorem w1087 : (Jvm.Cond.selects "Levelhouse$Statement" ({ cls := "Levelhouse$Statement", name := "itemTo", desc := "(I)I" } : Jvm.MethodName) ({ cls := "Levelhouse$Statement", name := "itemTo", desc := "(I)I" } : Jvm.MethodName)) ∈ xTB := tc5 127 (by decide +kernel) rfl
theorem w1088 : (Jvm.Cond.code ({ cls := "Levelhouse$Statement", name := "itemTo", desc := "(I)I" } : Jvm.MethodName) prog_12_method_17_code (2 : Nat) (Option.some Jvm.ClassFile.FieldType.int)) ∈ xTB := tc5 128 (by decide +kernel) rfl
theorem w1089 : (Jvm.Cond.methodLink "Levelhouse$Statement" (254 : Nat) ({ cls := "Levelhouse$Statement", name := "itemFrom", desc := "(I)I" } : Jvm.MethodName)) ∈ xTB := tc5 129 (by decide +kernel) rfl
theorem w1090 : (Jvm.Cond.fieldLink "Levelhouse$Statement" (257 : Nat) "Levelhouse$Word" "LOWER" "LLevelhouse$Word;") ∈ xTB := tc5 130 (by decide +kernel) rfl
theorem w1092 : (Jvm.Cond.methodLink "Levelhouse$Meaning" (206 : Nat) ({ cls := "Levelhouse$Meaning", name := "bindGrouped", desc := "(II)V" } : Jvm.MethodName)) ∈ xTB := tc5 132 (by decide +kernel) rfl
theorem w1094 : (Jvm.Cond.instanceMethod ({ cls := "Levelhouse$Meaning", name := "bindGrouped", desc := "(II)V" } : Jvm.MethodName)) ∈ xTB := tc5 134 (by decide +kernel) rfl
theorem w1095 : (Jvm.Cond.code ({ cls := "Levelhouse$Meaning", name := "bindGrouped", desc := "(II)V" } : Jvm.MethodName) prog_6_method_12_code (6 : Nat) (Option.none : Option Jvm.ClassFile.FieldType)) ∈ xTB := tc5 135 (by decide +kernel) rfl
theorem w1096 : (Jvm.Cond.fieldLink "Levelhouse$Meaning" (155 : Nat) "Levelhouse$Word" "LABEL" "LLevelhouse$Word;") ∈ xTB := tc5 136 (by decide +kernel) rfl
theorem w1098 : (Jvm.Cond.methodLink "Levelhouse$Meaning" (91 : Nat) ({ cls := "Levelhouse$Meaning", name := "bindCode", desc := "(II)V" } : Jvm.MethodName)) ∈ xTB := tc5 138 (by decide +kernel) rfl
theorem w1100 : (Jvm.Cond.instanceMethod ({ cls := "Levelhouse$Meaning", name := "bindCode", desc := "(II)V" } : Jvm.MethodName)) ∈ xTB := tc5 140 (by decide +kernel) rfl
theorem w1101 : (Jvm.Cond.code ({ cls := "Levelhouse$Meaning", name := "bindCode", desc := "(II)V" } : Jvm.MethodName) prog_6_method_7_code (6 : Nat) (Option.none : Option Jvm.ClassFile.FieldType)) ∈ xTB := tc5 141 (by decide +kernel) rfl
theorem w1102 : (Jvm.Cond.methodLink "Levelhouse$Meaning" (146 : Nat) ({ cls := "Levelhouse$Meaning", name := "columnOf", desc := "(I)I" } : Jvm.MethodName)) ∈ xTB := tc5 142 (by decide +kernel) rfl
theorem w1104 : (Jvm.Cond.instanceMethod ({ cls := "Levelhouse$Meaning", name := "columnOf", desc := "(I)I" } : Jvm.MethodName)) ∈ xTB := tc5 144 (by decide +kernel) rfl
theorem w1105 : (Jvm.Cond.code ({ cls := "Levelhouse$Meaning", name := "columnOf", desc := "(I)I" } : Jvm.MethodName) prog_6_method_6_code (3 : Nat) (Option.some Jvm.ClassFile.FieldType.int)) ∈ xTB := tc5 145 (by decide +kernel) rfl
theorem w1106 : (Jvm.Cond.methodLink "Levelhouse$Meaning" (130 : Nat) ({ cls := "Levelhouse$Table", name := "columnOf", desc := "(I)I" } : Jvm.MethodName)) ∈ xTB := tc5 146 (by decide +kernel) rfl
theorem w1107 : (Jvm.Cond.instanceMethod ({ cls := "Levelhouse$Table", name := "columnOf", desc := "(I)I" } : Jvm.MethodName)) ∈ xTB := tc5 147 (by decide +kernel) rfl
theorem w1108 : (Jvm.Cond.selects "Levelhouse$Table" ({ cls := "Levelhouse$Table", name := "columnOf", desc := "(I)I" } : Jvm.MethodName) ({ cls := "Levelhouse$Table", name := "columnOf", desc := "(I)I" } : Jvm.MethodName)) ∈ xTB := tc5 148 (by decide +kernel) rfl
theorem w1109 : (Jvm.Cond.code ({ cls := "Levelhouse$Table", name := "columnOf", desc := "(I)I" } : Jvm.MethodName) prog_13_method_4_code (3 : Nat) (Option.some Jvm.ClassFile.FieldType.int)) ∈ xTB := tc5 149 (by decide +kernel) rfl
theorem w1110 : (Jvm.Cond.methodLink "Levelhouse$Meaning" (133 : Nat) ({ cls := "Levelhouse$Table", name := "width", desc := "()I" } : Jvm.MethodName)) ∈ xTB := tc5 150 (by decide +kernel) rfl
theorem w1111 : (Jvm.Cond.instanceMethod ({ cls := "Levelhouse$Table", name := "width", desc := "()I" } : Jvm.MethodName)) ∈ xTB := tc5 151 (by decide +kernel) rfl
theorem w1112 : (Jvm.Cond.selects "Levelhouse$Table" ({ cls := "Levelhouse$Table", name := "width", desc := "()I" } : Jvm.MethodName) ({ cls := "Levelhouse$Table", name := "width", desc := "()I" } : Jvm.MethodName)) ∈ xTB := tc5 152 (by decide +kernel) rfl
theorem w1113 : (Jvm.Cond.code ({ cls := "Levelhouse$Table", name := "width", desc := "()I" } : Jvm.MethodName) prog_13_method_3_code (1 : Nat) (Option.some Jvm.ClassFile.FieldType.int)) ∈ xTB := tc5 153 (by decide +kernel) rfl
theorem w1114 : (Jvm.Cond.methodLink "Levelhouse$Meaning" (147 : Nat) ({ cls := "Levelhouse$Meaning", name := "hasTables", desc := "()Z" } : Jvm.MethodName)) ∈ xTB := tc5 154 (by decide +kernel) rfl
theorem w1116 : (Jvm.Cond.instanceMethod ({ cls := "Levelhouse$Meaning", name := "hasTables", desc := "()Z" } : Jvm.MethodName)) ∈ xTB := tc5 156 (by decide +kernel) rfl
theorem w1117 : (Jvm.Cond.code ({ cls := "Levelhouse$Meaning", name := "hasTables", desc := "()Z" } : Jvm.MethodName) prog_6_method_5_code (1 : Nat) (Option.some Jvm.ClassFile.FieldType.boolean)) ∈ xTB := tc5 157 (by decide +kernel) rfl
theorem w1118 : (Jvm.Cond.methodLink "Levelhouse$Meaning" (173 : Nat) ({ cls := "Levelhouse$Meaning", name := "bindColumns", desc := "()V" } : Jvm.MethodName)) ∈ xTB := tc5 158 (by decide +kernel) rfl
theorem w1120 : (Jvm.Cond.instanceMethod ({ cls := "Levelhouse$Meaning", name := "bindColumns", desc := "()V" } : Jvm.MethodName)) ∈ xTB := tc5 160 (by decide +kernel) rfl
theorem w1121 : (Jvm.Cond.code ({ cls := "Levelhouse$Meaning", name := "bindColumns", desc := "()V" } : Jvm.MethodName) prog_6_method_13_code (2 : Nat) (Option.none : Option Jvm.ClassFile.FieldType)) ∈ xTB := tc5 161 (by decide +kernel) rfl
theorem w1122 : (Jvm.Cond.methodLink "Levelhouse$Meaning" (176 : Nat) ({ cls := "Levelhouse$Meaning", name := "bindOn", desc := "()V" } : Jvm.MethodName)) ∈ xTB := tc5 162 (by decide +kernel) rfl
theorem w1124 : (Jvm.Cond.instanceMethod ({ cls := "Levelhouse$Meaning", name := "bindOn", desc := "()V" } : Jvm.MethodName)) ∈ xTB := tc5 164 (by decide +kernel) rfl
theorem w1125 : (Jvm.Cond.code ({ cls := "Levelhouse$Meaning", name := "bindOn", desc := "()V" } : Jvm.MethodName) prog_6_method_10_code (2 : Nat) (Option.none : Option Jvm.ClassFile.FieldType)) ∈ xTB := tc5 165 (by decide +kernel) rfl
theorem w1126 : (Jvm.Cond.methodLink "Levelhouse$Meaning" (182 : Nat) ({ cls := "Levelhouse$Meaning", name := "answerWidth", desc := "()I" } : Jvm.MethodName)) ∈ xTB := tc5 166 (by decide +kernel) rfl
theorem w1127 : (Jvm.Cond.instanceMethod ({ cls := "Levelhouse$Meaning", name := "answerWidth", desc := "()I" } : Jvm.MethodName)) ∈ xTB := tc5 167 (by decide +kernel) rfl
theorem w1128 : (Jvm.Cond.selects "Levelhouse$Meaning" ({ cls := "Levelhouse$Meaning", name := "answerWidth", desc := "()I" } : Jvm.MethodName) ({ cls := "Levelhouse$Meaning", name := "answerWidth", desc := "()I" } : Jvm.MethodName)) ∈ xTB := tc5 168 (by decide +kernel) rfl
theorem w1129 : (Jvm.Cond.code ({ cls := "Levelhouse$Meaning", name := "answerWidth", desc := "()I" } : Jvm.MethodName) prog_6_method_19_code (1 : Nat) (Option.some Jvm.ClassFile.FieldType.int)) ∈ xTB := tc5 169 (by decide +kernel) rfl
theorem w1130 : (Jvm.Cond.methodLink "Levelhouse$Meaning" (73 : Nat) ({ cls := "Levelhouse$Meaning", name := "bindSet", desc := "()V" } : Jvm.MethodName)) ∈ xTB := tc5 170 (by decide +kernel) rfl
theorem w1132 : (Jvm.Cond.instanceMethod ({ cls := "Levelhouse$Meaning", name := "bindSet", desc := "()V" } : Jvm.MethodName)) ∈ xTB := tc5 172 (by decide +kernel) rfl
theorem w1133 : (Jvm.Cond.code ({ cls := "Levelhouse$Meaning", name := "bindSet", desc := "()V" } : Jvm.MethodName) prog_6_method_14_code (2 : Nat) (Option.none : Option Jvm.ClassFile.FieldType)) ∈ xTB := tc5 173 (by decide +kernel) rfl
theorem w1134 : (Jvm.Cond.methodLink "Levelhouse$Meaning" (218 : Nat) ({ cls := "Levelhouse$Meaning", name := "column", desc := "(I)I" } : Jvm.MethodName)) ∈ xTB := tc5 174 (by decide +kernel) rfl
theorem w1135 : (Jvm.Cond.instanceMethod ({ cls := "Levelhouse$Meaning", name := "column", desc := "(I)I" } : Jvm.MethodName)) ∈ xTB := tc5 175 (by decide +kernel) rfl
theorem w1136 : (Jvm.Cond.selects "Levelhouse$Meaning" ({ cls := "Levelhouse$Meaning", name := "column", desc := "(I)I" } : Jvm.MethodName) ({ cls := "Levelhouse$Meaning", name := "column", desc := "(I)I" } : Jvm.MethodName)) ∈ xTB := tc5 176 (by decide +kernel) rfl
theorem w1137 : (Jvm.Cond.code ({ cls := "Levelhouse$Meaning", name := "column", desc := "(I)I" } : Jvm.MethodName) prog_6_method_18_code (2 : Nat) (Option.some Jvm.ClassFile.FieldType.int)) ∈ xTB := tc5 177 (by decide +kernel) rfl
theorem w1138 : (Jvm.Cond.methodLink "Levelhouse$Meaning" (76 : Nat) ({ cls := "Levelhouse$Meaning", name := "bindPut", desc := "()V" } : Jvm.MethodName)) ∈ xTB := tc5 178 (by decide +kernel) rfl
theorem w1140 : (Jvm.Cond.instanceMethod ({ cls := "Levelhouse$Meaning", name := "bindPut", desc := "()V" } : Jvm.MethodName)) ∈ xTB := tc5 180 (by decide +kernel) rfl
theorem w1141 : (Jvm.Cond.code ({ cls := "Levelhouse$Meaning", name := "bindPut", desc := "()V" } : Jvm.MethodName) prog_6_method_15_code (4 : Nat) (Option.none : Option Jvm.ClassFile.FieldType)) ∈ xTB := tc5 181 (by decide +kernel) rfl
theorem w1142 : (Jvm.Cond.methodLink "Levelhouse$Meaning" (79 : Nat) ({ cls := "Levelhouse$Meaning", name := "refuseRows", desc := "()V" } : Jvm.MethodName)) ∈ xTB := tc5 182 (by decide +kernel) rfl
theorem w1144 : (Jvm.Cond.instanceMethod ({ cls := "Levelhouse$Meaning", name := "refuseRows", desc := "()V" } : Jvm.MethodName)) ∈ xTB := tc5 184 (by decide +kernel) rfl
theorem w1145 : (Jvm.Cond.code ({ cls := "Levelhouse$Meaning", name := "refuseRows", desc := "()V" } : Jvm.MethodName) prog_6_method_8_code (3 : Nat) (Option.none : Option Jvm.ClassFile.FieldType)) ∈ xTB := tc5 185 (by decide +kernel) rfl
theorem w1146 : (Jvm.Cond.fieldLink "Levelhouse$Meaning" (221 : Nat) "Levelhouse$Word" "NEXT" "LLevelhouse$Word;") ∈ xTB := tc5 186 (by decide +kernel) rfl
theorem w1147 : (Jvm.Cond.methodLink "Levelhouse$Meaning" (224 : Nat) ({ cls := "Levelhouse$Table", name := "kindOf", desc := "(I)LLevelhouse$Word;" } : Jvm.MethodName)) ∈ xTB := tc5 187 (by decide +kernel) rfl
theorem w1148 : (Jvm.Cond.instanceMethod ({ cls := "Levelhouse$Table", name := "kindOf", desc := "(I)LLevelhouse$Word;" } : Jvm.MethodName)) ∈ xTB := tc5 188 (by decide +kernel) rfl
theorem w1149 : (Jvm.Cond.selects "Levelhouse$Table" ({ cls := "Levelhouse$Table", name := "kindOf", desc := "(I)LLevelhouse$Word;" } : Jvm.MethodName) ({ cls := "Levelhouse$Table", name := "kindOf", desc := "(I)LLevelhouse$Word;" } : Jvm.MethodName)) ∈ xTB := tc5 189 (by decide +kernel) rfl
theorem w1150 : (Jvm.Cond.code ({ cls := "Levelhouse$Table", name := "kindOf", desc := "(I)LLevelhouse$Word;" } : Jvm.MethodName) prog_13_method_5_code (2 : Nat) (Option.some (Jvm.ClassFile.FieldType.object "Levelhouse$Word"))) ∈ xTB := tc5 190 (by decide +kernel) rfl
theorem w1151 : (Jvm.Cond.fieldLink "Levelhouse$Table" (42 : Nat) "Levelhouse$Word" "NUM" "LLevelhouse$Word;") ∈ xTB := tc5 191 (by decide +kernel) rfl
theorem w1152 : (Jvm.Cond.methodLink "Levelhouse$Meaning" (230 : Nat) ({ cls := "Levelhouse$Statement", name := "itemPlace", desc := "(I)I" } : Jvm.MethodName)) ∈ xTB := tc5 192 (by decide +kernel) rfl
theorem w1153 : (Jvm.Cond.instanceMethod ({ cls := "Levelhouse$Statement", name := "itemPlace", desc := "(I)I" } : Jvm.MethodName)) ∈ xTB := tc5 193 (by decide +kernel) rfl
theorem w1154 : (Jvm.Cond.selects "Levelhouse$Statement" ({ cls := "Levelhouse$Statement", name := "itemPlace", desc := "(I)I" } : Jvm.MethodName) ({ cls := "Levelhouse$Statement", name := "itemPlace", desc := "(I)I" } : Jvm.MethodName)) ∈ xTB := tc5 194 (by decide +kernel) rfl
theorem w1155 : (Jvm.Cond.code ({ cls := "Levelhouse$Statement", name := "itemPlace", desc := "(I)I" } : Jvm.MethodName) prog_12_method_15_code (2 : Nat) (Option.some Jvm.ClassFile.FieldType.int)) ∈ xTB := tc5 195 (by decide +kernel) rfl
theorem w1156 : (Jvm.Cond.methodLink "Levelhouse" (130 : Nat) ({ cls := "Levelhouse", name := "count", desc := "(LLevelhouse$Session;C)V" } : Jvm.MethodName)) ∈ xTB := tc5 196 (by decide +kernel) rfl
theorem w1158 : (Jvm.Cond.instanceMethod ({ cls := "Levelhouse", name := "count", desc := "(LLevelhouse$Session;C)V" } : Jvm.MethodName)) ∈ xTB := tc5 198 (by decide +kernel) rfl
theorem w1159 : (Jvm.Cond.code ({ cls := "Levelhouse", name := "count", desc := "(LLevelhouse$Session;C)V" } : Jvm.MethodName) prog_1_method_33_code (4 : Nat) (Option.none : Option Jvm.ClassFile.FieldType)) ∈ xTB := tc5 199 (by decide +kernel) rfl
theorem w1160 : (Jvm.Cond.methodLink "Levelhouse" (237 : Nat) ({ cls := "Levelhouse", name := "tallyPlace", desc := "(IC)I" } : Jvm.MethodName)) ∈ xTB := tc5 200 (by decide +kernel) rfl
theorem w1161 : (Jvm.Cond.static ({ cls := "Levelhouse", name := "tallyPlace", desc := "(IC)I" } : Jvm.MethodName)) ∈ xTB := tc5 201 (by decide +kernel) rfl
theorem w1162 : (Jvm.Cond.code ({ cls := "Levelhouse", name := "tallyPlace", desc := "(IC)I" } : Jvm.MethodName) prog_1_method_32_code (3 : Nat) (Option.some Jvm.ClassFile.FieldType.int)) ∈ xTB := tc5 202 (by decide +kernel) rfl
theorem w1163 : (Jvm.Cond.fieldLink "Levelhouse" (134 : Nat) "Levelhouse$1" "$SwitchMap$Levelhouse$Word" "[I") ∈ xTB := tc5 203 (by decide +kernel) rfl
theorem w1164 : (Jvm.Cond.methodLink "Levelhouse" (143 : Nat) ({ cls := "Levelhouse$Word", name := "ordinal", desc := "()I" } : Jvm.MethodName)) ∈ xTB := tc5 204 (by decide +kernel) rfl
theorem w1165 : (Jvm.Cond.methodLink "Levelhouse" (149 : Nat) ({ cls := "Levelhouse", name := "ask", desc := "(LLevelhouse$Session;)I" } : Jvm.MethodName)) ∈ xTB := tc5 205 (by decide +kernel) rfl
theorem w1167 : (Jvm.Cond.instanceMethod ({ cls := "Levelhouse", name := "ask", desc := "(LLevelhouse$Session;)I" } : Jvm.MethodName)) ∈ xTB := tc5 207 (by decide +kernel) rfl
theorem w1168 : (Jvm.Cond.code ({ cls := "Levelhouse", name := "ask", desc := "(LLevelhouse$Session;)I" } : Jvm.MethodName) prog_1_method_37_code (2 : Nat) (Option.some Jvm.ClassFile.FieldType.int)) ∈ xTB := tc5 208 (by decide +kernel) rfl
theorem w1169 : (Jvm.Cond.methodLink "Levelhouse" (203 : Nat) ({ cls := "Levelhouse", name := "lookFor", desc := "(LLevelhouse$Session;)I" } : Jvm.MethodName)) ∈ xTB := tc5 209 (by decide +kernel) rfl
theorem w1171 : (Jvm.Cond.instanceMethod ({ cls := "Levelhouse", name := "lookFor", desc := "(LLevelhouse$Session;)I" } : Jvm.MethodName)) ∈ xTB := tc5 211 (by decide +kernel) rfl
theorem w1172 : (Jvm.Cond.code ({ cls := "Levelhouse", name := "lookFor", desc := "(LLevelhouse$Session;)I" } : Jvm.MethodName) prog_1_method_35_code (2 : Nat) (Option.some Jvm.ClassFile.FieldType.int)) ∈ xTB := tc5 212 (by decide +kernel) rfl
theorem w1173 : (Jvm.Cond.methodLink "Levelhouse" (257 : Nat) ({ cls := "Levelhouse", name := "viewOf", desc := "(LLevelhouse$Session;)LLevelhouse$Shelf;" } : Jvm.MethodName)) ∈ xTB := tc5 213 (by decide +kernel) rfl
theorem w1175 : (Jvm.Cond.instanceMethod ({ cls := "Levelhouse", name := "viewOf", desc := "(LLevelhouse$Session;)LLevelhouse$Shelf;" } : Jvm.MethodName)) ∈ xTB := tc5 215 (by decide +kernel) rfl
theorem w1176 : (Jvm.Cond.code ({ cls := "Levelhouse", name := "viewOf", desc := "(LLevelhouse$Session;)LLevelhouse$Shelf;" } : Jvm.MethodName) prog_1_method_34_code (2 : Nat) (Option.some (Jvm.ClassFile.FieldType.object "Levelhouse$Shelf"))) ∈ xTB := tc5 216 (by decide +kernel) rfl
theorem w1177 : (Jvm.Cond.methodLink "Levelhouse" (293 : Nat) ({ cls := "Levelhouse$Sight", name := "look", desc := "(LLevelhouse$Shelf;I)V" } : Jvm.MethodName)) ∈ xTB := tc5 217 (by decide +kernel) rfl
theorem w1178 : (Jvm.Cond.instanceMethod ({ cls := "Levelhouse$Sight", name := "look", desc := "(LLevelhouse$Shelf;I)V" } : Jvm.MethodName)) ∈ xTB := tc5 218 (by decide +kernel) rfl
theorem w1179 : (Jvm.Cond.selects "Levelhouse$Sight" ({ cls := "Levelhouse$Sight", name := "look", desc := "(LLevelhouse$Shelf;I)V" } : Jvm.MethodName) ({ cls := "Levelhouse$Sight", name := "look", desc := "(LLevelhouse$Shelf;I)V" } : Jvm.MethodName)) ∈ xTB := tc5 219 (by decide +kernel) rfl
theorem w1180 : (Jvm.Cond.code ({ cls := "Levelhouse$Sight", name := "look", desc := "(LLevelhouse$Shelf;I)V" } : Jvm.MethodName) prog_11_method_2_code (7 : Nat) (Option.none : Option Jvm.ClassFile.FieldType)) ∈ xTB := tc5 220 (by decide +kernel) rfl
theorem w1181 : (Jvm.Cond.methodLink "Levelhouse$Sight" (18 : Nat) ({ cls := "java/util/ArrayList", name := "clear", desc := "()V" } : Jvm.MethodName)) ∈ xTB := tc5 221 (by decide +kernel) rfl
theorem w1182 : (Jvm.Cond.methodLink "Levelhouse$Sight" (25 : Nat) ({ cls := "Levelhouse$Shelf", name := "size", desc := "()I" } : Jvm.MethodName)) ∈ xTB := tc5 222 (by decide +kernel) rfl
theorem w1183 : (Jvm.Cond.instanceMethod ({ cls := "Levelhouse$Shelf", name := "size", desc := "()I" } : Jvm.MethodName)) ∈ xTB := tc5 223 (by decide +kernel) rfl
theorem w1184 : (Jvm.Cond.selects "Levelhouse$Shelf" ({ cls := "Levelhouse$Shelf", name := "size", desc := "()I" } : Jvm.MethodName) ({ cls := "Levelhouse$Shelf", name := "size", desc := "()I" } : Jvm.MethodName)) ∈ xTB := tc5 224 (by decide +kernel) rfl
theorem w1185 : (Jvm.Cond.code ({ cls := "Levelhouse$Shelf", name := "size", desc := "()I" } : Jvm.MethodName) prog_10_method_2_code (1 : Nat) (Option.some Jvm.ClassFile.FieldType.int)) ∈ xTB := tc5 225 (by decide +kernel) rfl
theorem w1186 : (Jvm.Cond.methodLink "Levelhouse$Shelf" (18 : Nat) ({ cls := "java/util/ArrayList", name := "size", desc := "()I" } : Jvm.MethodName)) ∈ xTB := tc5 226 (by decide +kernel) rfl
theorem w1187 : (Jvm.Cond.methodLink "Levelhouse$Sight" (31 : Nat) ({ cls := "Levelhouse$Shelf", name := "endOfKey", desc := "(I)I" } : Jvm.MethodName)) ∈ xTB := tc5 227 (by decide +kernel) rfl
theorem w1188 : (Jvm.Cond.instanceMethod ({ cls := "Levelhouse$Shelf", name := "endOfKey", desc := "(I)I" } : Jvm.MethodName)) ∈ xTB := tc5 228 (by decide +kernel) rfl
theorem w1189 : (Jvm.Cond.selects "Levelhouse$Shelf" ({ cls := "Levelhouse$Shelf", name := "endOfKey", desc := "(I)I" } : Jvm.MethodName) ({ cls := "Levelhouse$Shelf", name := "endOfKey", desc := "(I)I" } : Jvm.MethodName)) ∈ xTB := tc5 229 (by decide +kernel) rfl
theorem w1190 : (Jvm.Cond.code ({ cls := "Levelhouse$Shelf", name := "endOfKey", desc := "(I)I" } : Jvm.MethodName) prog_10_method_11_code (4 : Nat) (Option.some Jvm.ClassFile.FieldType.int)) ∈ xTB := tc5 230 (by decide +kernel) rfl
theorem w1191 : (Jvm.Cond.methodLink "Levelhouse$Shelf" (49 : Nat) ({ cls := "Levelhouse$Shelf", name := "get", desc := "(I)LLevelhouse$Entry;" } : Jvm.MethodName)) ∈ xTB := tc5 231 (by decide +kernel) rfl
theorem w1192 : (Jvm.Cond.instanceMethod ({ cls := "Levelhouse$Shelf", name := "get", desc := "(I)LLevelhouse$Entry;" } : Jvm.MethodName)) ∈ xTB := tc5 232 (by decide +kernel) rfl
theorem w1193 : (Jvm.Cond.selects "Levelhouse$Shelf" ({ cls := "Levelhouse$Shelf", name := "get", desc := "(I)LLevelhouse$Entry;" } : Jvm.MethodName) ({ cls := "Levelhouse$Shelf", name := "get", desc := "(I)LLevelhouse$Entry;" } : Jvm.MethodName)) ∈ xTB := tc5 233 (by decide +kernel) rfl
theorem w1194 : (Jvm.Cond.code ({ cls := "Levelhouse$Shelf", name := "get", desc := "(I)LLevelhouse$Entry;" } : Jvm.MethodName) prog_10_method_3_code (2 : Nat) (Option.some (Jvm.ClassFile.FieldType.object "Levelhouse$Entry"))) ∈ xTB := tc5 234 (by decide +kernel) rfl
theorem w1195 : (Jvm.Cond.methodLink "Levelhouse$Shelf" (22 : Nat) ({ cls := "java/util/ArrayList", name := "get", desc := "(I)Ljava/lang/Object;" } : Jvm.MethodName)) ∈ xTB := tc5 235 (by decide +kernel) rfl
theorem w1196 : (Jvm.Cond.classLink "Levelhouse$Shelf" (26 : Nat) "Levelhouse$Entry") ∈ xTB := tc5 236 (by decide +kernel) rfl
theorem w1197 : (Jvm.Cond.methodLink "Levelhouse$Shelf" (77 : Nat) ({ cls := "Levelhouse$Entry", name := "isOf", desc := "(LLevelhouse$Table;)Z" } : Jvm.MethodName)) ∈ xTB := tc5 237 (by decide +kernel) rfl
theorem w1198 : (Jvm.Cond.instanceMethod ({ cls := "Levelhouse$Entry", name := "isOf", desc := "(LLevelhouse$Table;)Z" } : Jvm.MethodName)) ∈ xTB := tc5 238 (by decide +kernel) rfl
theorem w1199 : (Jvm.Cond.selects "Levelhouse$Entry" ({ cls := "Levelhouse$Entry", name := "isOf", desc := "(LLevelhouse$Table;)Z" } : Jvm.MethodName) ({ cls := "Levelhouse$Entry", name := "isOf", desc := "(LLevelhouse$Table;)Z" } : Jvm.MethodName)) ∈ xTB := tc5 239 (by decide +kernel) rfl
theorem w1200 : (Jvm.Cond.code ({ cls := "Levelhouse$Entry", name := "isOf", desc := "(LLevelhouse$Table;)Z" } : Jvm.MethodName) prog_4_method_4_code (2 : Nat) (Option.some Jvm.ClassFile.FieldType.boolean)) ∈ xTB := tc6 0 (by decide +kernel) rfl
theorem w1201 : (Jvm.Cond.methodLink "Levelhouse$Sight" (35 : Nat) ({ cls := "Levelhouse$Shelf", name := "get", desc := "(I)LLevelhouse$Entry;" } : Jvm.MethodName)) ∈ xTB := tc6 1 (by decide +kernel) rfl
theorem w1202 : (Jvm.Cond.methodLink "Levelhouse$Sight" (39 : Nat) ({ cls := "Levelhouse$Shelf", name := "isChosen", desc := "(LLevelhouse$Entry;III)Z" } : Jvm.MethodName)) ∈ xTB := tc6 2 (by decide +kernel) rfl
theorem w1203 : (Jvm.Cond.instanceMethod ({ cls := "Levelhouse$Shelf", name := "isChosen", desc := "(LLevelhouse$Entry;III)Z" } : Jvm.MethodName)) ∈ xTB := tc6 3 (by decide +kernel) rfl
theorem w1204 : (Jvm.Cond.selects "Levelhouse$Shelf" ({ cls := "Levelhouse$Shelf", name := "isChosen", desc := "(LLevelhouse$Entry;III)Z" } : Jvm.MethodName) ({ cls := "Levelhouse$Shelf", name := "isChosen", desc := "(LLevelhouse$Entry;III)Z" } : Jvm.MethodName)) ∈ xTB := tc6 4 (by decide +kernel) rfl
theorem w1205 : (Jvm.Cond.code ({ cls := "Levelhouse$Shelf", name := "isChosen", desc := "(LLevelhouse$Entry;III)Z" } : Jvm.MethodName) prog_10_method_12_code (7 : Nat) (Option.some Jvm.ClassFile.FieldType.boolean)) ∈ xTB := tc6 5 (by decide +kernel) rfl
theorem w1206 : (Jvm.Cond.methodLinkNest "Levelhouse$Shelf" (85 : Nat) ({ cls := "Levelhouse", name := "isBelow", desc := "(II)Z" } : Jvm.MethodName) "Levelhouse") ∈ xTB := tc6 6 (by decide +kernel) rfl
theorem w1207 : (Jvm.Cond.methodLink "Levelhouse$Shelf" (89 : Nat) ({ cls := "java/lang/Math", name := "max", desc := "(II)I" } : Jvm.MethodName)) ∈ xTB := tc6 7 (by decide +kernel) rfl
theorem w1208 : (Jvm.Cond.methodLink "Levelhouse$Sight" (43 : Nat) ({ cls := "Levelhouse$Sight", name := "isMet", desc := "(LLevelhouse$Entry;)Z" } : Jvm.MethodName)) ∈ xTB := tc6 8 (by decide +kernel) rfl
theorem w1209 : (Jvm.Cond.instanceMethod ({ cls := "Levelhouse$Sight", name := "isMet", desc := "(LLevelhouse$Entry;)Z" } : Jvm.MethodName)) ∈ xTB := tc6 9 (by decide +kernel) rfl
theorem w1210 : (Jvm.Cond.selects "Levelhouse$Sight" ({ cls := "Levelhouse$Sight", name := "isMet", desc := "(LLevelhouse$Entry;)Z" } : Jvm.MethodName) ({ cls := "Levelhouse$Sight", name := "isMet", desc := "(LLevelhouse$Entry;)Z" } : Jvm.MethodName)) ∈ xTB := tc6 10 (by decide +kernel) rfl
theorem w1211 : (Jvm.Cond.code ({ cls := "Levelhouse$Sight", name := "isMet", desc := "(LLevelhouse$Entry;)Z" } : Jvm.MethodName) prog_11_method_5_code (6 : Nat) (Option.some Jvm.ClassFile.FieldType.boolean)) ∈ xTB := tc6 11 (by decide +kernel) rfl
theorem w1212 : (Jvm.Cond.methodLink "Levelhouse$Sight" (67 : Nat) ({ cls := "Levelhouse$Table", name := "width", desc := "()I" } : Jvm.MethodName)) ∈ xTB := tc6 12 (by decide +kernel) rfl
theorem w1213 : (Jvm.Cond.methodLink "Levelhouse$Sight" (72 : Nat) ({ cls := "Levelhouse$Table", name := "refOf", desc := "(I)LLevelhouse$Table;" } : Jvm.MethodName)) ∈ xTB := tc6 13 (by decide +kernel) rfl
theorem w1214 : (Jvm.Cond.instanceMethod ({ cls := "Levelhouse$Table", name := "refOf", desc := "(I)LLevelhouse$Table;" } : Jvm.MethodName)) ∈ xTB := tc6 14 (by decide +kernel) rfl
theorem w1215 : (Jvm.Cond.selects "Levelhouse$Table" ({ cls := "Levelhouse$Table", name := "refOf", desc := "(I)LLevelhouse$Table;" } : Jvm.MethodName) ({ cls := "Levelhouse$Table", name := "refOf", desc := "(I)LLevelhouse$Table;" } : Jvm.MethodName)) ∈ xTB := tc6 15 (by decide +kernel) rfl
theorem w1216 : (Jvm.Cond.code ({ cls := "Levelhouse$Table", name := "refOf", desc := "(I)LLevelhouse$Table;" } : Jvm.MethodName) prog_13_method_6_code (2 : Nat) (Option.some (Jvm.ClassFile.FieldType.object "Levelhouse$Table"))) ∈ xTB := tc6 16 (by decide +kernel) rfl
theorem w1217 : (Jvm.Cond.methodLink "Levelhouse$Sight" (76 : Nat) ({ cls := "Levelhouse$Entry", name := "hold", desc := "(I)I" } : Jvm.MethodName)) ∈ xTB := tc6 17 (by decide +kernel) rfl
theorem w1218 : (Jvm.Cond.instanceMethod ({ cls := "Levelhouse$Entry", name := "hold", desc := "(I)I" } : Jvm.MethodName)) ∈ xTB := tc6 18 (by decide +kernel) rfl
theorem w1219 : (Jvm.Cond.selects "Levelhouse$Entry" ({ cls := "Levelhouse$Entry", name := "hold", desc := "(I)I" } : Jvm.MethodName) ({ cls := "Levelhouse$Entry", name := "hold", desc := "(I)I" } : Jvm.MethodName)) ∈ xTB := tc6 19 (by decide +kernel) rfl
theorem w1220 : (Jvm.Cond.code ({ cls := "Levelhouse$Entry", name := "hold", desc := "(I)I" } : Jvm.MethodName) prog_4_method_3_code (2 : Nat) (Option.some Jvm.ClassFile.FieldType.int)) ∈ xTB := tc6 20 (by decide +kernel) rfl
theorem w1221 : (Jvm.Cond.constant "Levelhouse$Entry" (30 : Nat) (-1000000000 : Int32)) ∈ xTB := tc6 21 (by decide +kernel) rfl
theorem w1222 : (Jvm.Cond.constant "Levelhouse$Sight" (79 : Nat) (-1000000000 : Int32)) ∈ xTB := tc6 22 (by decide +kernel) rfl
theorem w1223 : (Jvm.Cond.methodLink "Levelhouse$Sight" (83 : Nat) ({ cls := "Levelhouse$Shelf", name := "placeIn", desc := "(Ljava/util/ArrayList;III)I" } : Jvm.MethodName)) ∈ xTB := tc6 23 (by decide +kernel) rfl
theorem w1224 : (Jvm.Cond.static ({ cls := "Levelhouse$Shelf", name := "placeIn", desc := "(Ljava/util/ArrayList;III)I" } : Jvm.MethodName)) ∈ xTB := tc6 24 (by decide +kernel) rfl
theorem w1225 : (Jvm.Cond.code ({ cls := "Levelhouse$Shelf", name := "placeIn", desc := "(Ljava/util/ArrayList;III)I" } : Jvm.MethodName) prog_10_method_6_code (7 : Nat) (Option.some Jvm.ClassFile.FieldType.int)) ∈ xTB := tc6 25 (by decide +kernel) rfl
theorem w1226 : (Jvm.Cond.methodLink "Levelhouse$Shelf" (35 : Nat) ({ cls := "Levelhouse$Entry", name := "compare", desc := "(III)I" } : Jvm.MethodName)) ∈ xTB := tc6 26 (by decide +kernel) rfl
theorem w1227 : (Jvm.Cond.instanceMethod ({ cls := "Levelhouse$Entry", name := "compare", desc := "(III)I" } : Jvm.MethodName)) ∈ xTB := tc6 27 (by decide +kernel) rfl
theorem w1228 : (Jvm.Cond.selects "Levelhouse$Entry" ({ cls := "Levelhouse$Entry", name := "compare", desc := "(III)I" } : Jvm.MethodName) ({ cls := "Levelhouse$Entry", name := "compare", desc := "(III)I" } : Jvm.MethodName)) ∈ xTB := tc6 28 (by decide +kernel) rfl
theorem w1229 : (Jvm.Cond.code ({ cls := "Levelhouse$Entry", name := "compare", desc := "(III)I" } : Jvm.MethodName) prog_4_method_6_code (4 : Nat) (Option.some Jvm.ClassFile.FieldType.int)) ∈ xTB := tc6 29 (by decide +kernel) rfl
theorem w1230 : (Jvm.Cond.methodLink "Levelhouse$Sight" (87 : Nat) ({ cls := "Levelhouse$Sight", name := "get", desc := "(I)LLevelhouse$Entry;" } : Jvm.MethodName)) ∈ xTB := tc6 30 (by decide +kernel) rfl
theorem w1231 : (Jvm.Cond.instanceMethod ({ cls := "Levelhouse$Sight", name := "get", desc := "(I)LLevelhouse$Entry;" } : Jvm.MethodName)) ∈ xTB := tc6 31 (by decide +kernel) rfl
theorem w1232 : (Jvm.Cond.selects "Levelhouse$Sight" ({ cls := "Levelhouse$Sight", name := "get", desc := "(I)LLevelhouse$Entry;" } : Jvm.MethodName) ({ cls := "Levelhouse$Sight", name := "get", desc := "(I)LLevelhouse$Entry;" } : Jvm.MethodName)) ∈ xTB := tc6 32 (by decide +kernel) rfl
theorem w1233 : (Jvm.Cond.code ({ cls := "Levelhouse$Sight", name := "get", desc := "(I)LLevelhouse$Entry;" } : Jvm.MethodName) prog_11_method_4_code (2 : Nat) (Option.some (Jvm.ClassFile.FieldType.object "Levelhouse$Entry"))) ∈ xTB := tc6 33 (by decide +kernel) rfl
theorem w1234 : (Jvm.Cond.methodLink "Levelhouse$Sight" (57 : Nat) ({ cls := "java/util/ArrayList", name := "size", desc := "()I" } : Jvm.MethodName)) ∈ xTB := tc6 34 (by decide +kernel) rfl
theorem w1235 : (Jvm.Cond.methodLink "Levelhouse$Sight" (58 : Nat) ({ cls := "java/util/ArrayList", name := "get", desc := "(I)Ljava/lang/Object;" } : Jvm.MethodName)) ∈ xTB := tc6 35 (by decide +kernel) rfl
theorem w1236 : (Jvm.Cond.classLink "Levelhouse$Sight" (61 : Nat) "Levelhouse$Entry") ∈ xTB := tc6 36 (by decide +kernel) rfl
theorem w1237 : (Jvm.Cond.methodLink "Levelhouse$Sight" (91 : Nat) ({ cls := "Levelhouse$Entry", name := "isOf", desc := "(LLevelhouse$Table;)Z" } : Jvm.MethodName)) ∈ xTB := tc6 37 (by decide +kernel) rfl
theorem w1238 : (Jvm.Cond.methodLink "Levelhouse$Sight" (47 : Nat) ({ cls := "java/util/ArrayList", name := "add", desc := "(Ljava/lang/Object;)Z" } : Jvm.MethodName)) ∈ xTB := tc6 38 (by decide +kernel) rfl
theorem w1239 : (Jvm.Cond.instanceMethod ({ cls := "java/util/ArrayList", name := "add", desc := "(Ljava/lang/Object;)Z" } : Jvm.MethodName)) ∈ xTB := tc6 39 (by decide +kernel) rfl
theorem w1240 : (Jvm.Cond.selects "java/util/ArrayList" ({ cls := "java/util/ArrayList", name := "add", desc := "(Ljava/lang/Object;)Z" } : Jvm.MethodName) ({ cls := "java/util/ArrayList", name := "add", desc := "(Ljava/lang/Object;)Z" } : Jvm.MethodName)) ∈ xTB := tc6 40 (by decide +kernel) rfl
theorem w1241 : (Jvm.Cond.code ({ cls := "java/util/ArrayList", name := "add", desc := "(Ljava/lang/Object;)Z" } : Jvm.MethodName) prog_57_method_25_code (2 : Nat) (Option.some Jvm.ClassFile.FieldType.boolean)) ∈ xTB := tc6 41 (by decide +kernel) rfl
theorem w1242 : (Jvm.Cond.methodLink "java/util/ArrayList" (131 : Nat) ({ cls := "java/util/ArrayList", name := "add", desc := "(Ljava/lang/Object;[Ljava/lang/Object;I)V" } : Jvm.MethodName)) ∈ xTB := tc6 42 (by decide +kernel) rfl
theorem w1244 : (Jvm.Cond.instanceMethod ({ cls := "java/util/ArrayList", name := "add", desc := "(Ljava/lang/Object;[Ljava/lang/Object;I)V" } : Jvm.MethodName)) ∈ xTB := tc6 44 (by decide +kernel) rfl
theorem w1245 : (Jvm.Cond.code ({ cls := "java/util/ArrayList", name := "add", desc := "(Ljava/lang/Object;[Ljava/lang/Object;I)V" } : Jvm.MethodName) prog_57_method_24_code (4 : Nat) (Option.none : Option Jvm.ClassFile.FieldType)) ∈ xTB := tc6 45 (by decide +kernel) rfl
theorem w1246 : (Jvm.Cond.methodLink "java/util/ArrayList" (129 : Nat) ({ cls := "java/util/ArrayList", name := "grow", desc := "()[Ljava/lang/Object;" } : Jvm.MethodName)) ∈ xTB := tc6 46 (by decide +kernel) rfl
theorem w1248 : (Jvm.Cond.instanceMethod ({ cls := "java/util/ArrayList", name := "grow", desc := "()[Ljava/lang/Object;" } : Jvm.MethodName)) ∈ xTB := tc6 48 (by decide +kernel) rfl
theorem w1249 : (Jvm.Cond.code ({ cls := "java/util/ArrayList", name := "grow", desc := "()[Ljava/lang/Object;" } : Jvm.MethodName) prog_57_method_7_code (1 : Nat) (Option.some (Jvm.ClassFile.FieldType.array (Jvm.ClassFile.FieldType.object "java/lang/Object")))) ∈ xTB := tc6 49 (by decide +kernel) rfl
theorem w1250 : (Jvm.Cond.methodLink "java/util/ArrayList" (69 : Nat) ({ cls := "java/util/ArrayList", name := "grow", desc := "(I)[Ljava/lang/Object;" } : Jvm.MethodName)) ∈ xTB := tc6 50 (by decide +kernel) rfl
theorem w1252 : (Jvm.Cond.instanceMethod ({ cls := "java/util/ArrayList", name := "grow", desc := "(I)[Ljava/lang/Object;" } : Jvm.MethodName)) ∈ xTB := tc6 52 (by decide +kernel) rfl
theorem w1253 : (Jvm.Cond.code ({ cls := "java/util/ArrayList", name := "grow", desc := "(I)[Ljava/lang/Object;" } : Jvm.MethodName) prog_57_method_6_code (4 : Nat) (Option.some (Jvm.ClassFile.FieldType.array (Jvm.ClassFile.FieldType.object "java/lang/Object")))) ∈ xTB := tc6 53 (by decide +kernel) rfl
theorem w1254 : (Jvm.Cond.methodLink "java/util/ArrayList" (73 : Nat) ({ cls := "jdk/internal/util/ArraysSupport", name := "newLength", desc := "(III)I" } : Jvm.MethodName)) ∈ xTB := tc6 54 (by decide +kernel) rfl
theorem w1255 : (Jvm.Cond.static ({ cls := "jdk/internal/util/ArraysSupport", name := "newLength", desc := "(III)I" } : Jvm.MethodName)) ∈ xTB := tc6 55 (by decide +kernel) rfl
theorem w1256 : (Jvm.Cond.code ({ cls := "jdk/internal/util/ArraysSupport", name := "newLength", desc := "(III)I" } : Jvm.MethodName) prog_67_method_27_code (4 : Nat) (Option.some Jvm.ClassFile.FieldType.int)) ∈ xTB := tc6 56 (by decide +kernel) rfl
theorem w1257 : (Jvm.Cond.methodLink "jdk/internal/util/ArraysSupport" (194 : Nat) ({ cls := "java/lang/Math", name := "max", desc := "(II)I" } : Jvm.MethodName)) ∈ xTB := tc6 57 (by decide +kernel) rfl
theorem w1258 : (Jvm.Cond.constant "jdk/internal/util/ArraysSupport" (200 : Nat) (2147483639 : Int32)) ∈ xTB := tc6 58 (by decide +kernel) rfl
theorem w1259 : (Jvm.Cond.methodLink "jdk/internal/util/ArraysSupport" (201 : Nat) ({ cls := "jdk/internal/util/ArraysSupport", name := "hugeLength", desc := "(II)I" } : Jvm.MethodName)) ∈ xTB := tc6 59 (by decide +kernel) rfl
theorem w1260 : (Jvm.Cond.static ({ cls := "jdk/internal/util/ArraysSupport", name := "hugeLength", desc := "(II)I" } : Jvm.MethodName)) ∈ xTB := tc6 60 (by decide +kernel) rfl
theorem w1261 : (Jvm.Cond.code ({ cls := "jdk/internal/util/ArraysSupport", name := "hugeLength", desc := "(II)I" } : Jvm.MethodName) prog_67_method_28_code (3 : Nat) (Option.some Jvm.ClassFile.FieldType.int)) ∈ xTB := tc6 61 (by decide +kernel) rfl
theorem w1262 : (Jvm.Cond.methodLink "java/util/ArrayList" (66 : Nat) ({ cls := "java/util/Arrays", name := "copyOf", desc := "([Ljava/lang/Object;I)[Ljava/lang/Object;" } : Jvm.MethodName)) ∈ xTB := tc6 62 (by decide +kernel) rfl
theorem w1263 : (Jvm.Cond.static ({ cls := "java/util/Arrays", name := "copyOf", desc := "([Ljava/lang/Object;I)[Ljava/lang/Object;" } : Jvm.MethodName)) ∈ xTB := tc6 63 (by decide +kernel) rfl
theorem w1264 : (Jvm.Cond.code ({ cls := "java/util/Arrays", name := "copyOf", desc := "([Ljava/lang/Object;I)[Ljava/lang/Object;" } : Jvm.MethodName) prog_58_method_119_code (2 : Nat) (Option.some (Jvm.ClassFile.FieldType.array (Jvm.ClassFile.FieldType.object "java/lang/Object")))) ∈ xTB := tc6 64 (by decide +kernel) rfl
theorem w1265 : (Jvm.Cond.methodLink "java/util/Arrays" (86 : Nat) ({ cls := "java/lang/Object", name := "getClass", desc := "()Ljava/lang/Class;" } : Jvm.MethodName)) ∈ xTB := tc6 65 (by decide +kernel) rfl
theorem w1266 : (Jvm.Cond.instanceMethod ({ cls := "java/lang/Object", name := "getClass", desc := "()Ljava/lang/Class;" } : Jvm.MethodName)) ∈ xTB := tc6 66 (by decide +kernel) rfl
theorem w1291 : (Jvm.Cond.native ({ cls := "java/lang/Object", name := "getClass", desc := "()Ljava/lang/Class;" } : Jvm.MethodName)) ∈ xTB := tc6 91 (by decide +kernel) rfl
theorem w1292 : (Jvm.Cond.methodLink "java/util/Arrays" (300 : Nat) ({ cls := "java/util/Arrays", name := "copyOf", desc := "([Ljava/lang/Object;ILjava/lang/Class;)[Ljava/lang/Object;" } : Jvm.MethodName)) ∈ xTB := tc6 92 (by decide +kernel) rfl
theorem w1293 : (Jvm.Cond.static ({ cls := "java/util/Arrays", name := "copyOf", desc := "([Ljava/lang/Object;ILjava/lang/Class;)[Ljava/lang/Object;" } : Jvm.MethodName)) ∈ xTB := tc6 93 (by decide +kernel) rfl
theorem w1294 : (Jvm.Cond.code ({ cls := "java/util/Arrays", name := "copyOf", desc := "([Ljava/lang/Object;ILjava/lang/Class;)[Ljava/lang/Object;" } : Jvm.MethodName) prog_58_method_120_code (4 : Nat) (Option.some (Jvm.ClassFile.FieldType.array (Jvm.ClassFile.FieldType.object "java/lang/Object")))) ∈ xTB := tc6 94 (by decide +kernel) rfl
theorem w1295 : (Jvm.Cond.classLink "java/util/Arrays" (110 : Nat) "[Ljava/lang/Object;") ∈ xTB := tc6 95 (by decide +kernel) rfl
theorem w1296 : (Jvm.Cond.arrayOver (Jvm.ClassFile.FieldType.object "java/lang/Object")) ∈ xTB := tc6 96 (by decide +kernel) rfl
theorem w1297 : (Jvm.Cond.classLink "java/util/Arrays" (2 : Nat) "java/lang/Object") ∈ xTB := tc6 97 (by decide +kernel) rfl
theorem w1298 : (Jvm.Cond.methodLink "java/util/Arrays" (304 : Nat) ({ cls := "java/lang/Math", name := "min", desc := "(II)I" } : Jvm.MethodName)) ∈ xTB := tc6 98 (by decide +kernel) rfl
theorem w1299 : (Jvm.Cond.methodLink "java/util/Arrays" (150 : Nat) ({ cls := "java/lang/System", name := "arraycopy", desc := "(Ljava/lang/Object;ILjava/lang/Object;II)V" } : Jvm.MethodName)) ∈ xTB := tc6 99 (by decide +kernel) rfl
theorem w1300 : (Jvm.Cond.static ({ cls := "java/lang/System", name := "arraycopy", desc := "(Ljava/lang/Object;ILjava/lang/Object;II)V" } : Jvm.MethodName)) ∈ xTB := tc6 100 (by decide +kernel) rfl
theorem w1301 : (Jvm.Cond.native ({ cls := "java/lang/System", name := "arraycopy", desc := "(Ljava/lang/Object;ILjava/lang/Object;II)V" } : Jvm.MethodName)) ∈ xTB := tc6 101 (by decide +kernel) rfl
theorem w1302 : (Jvm.Cond.methodLink "java/util/ArrayList" (79 : Nat) ({ cls := "java/lang/Math", name := "max", desc := "(II)I" } : Jvm.MethodName)) ∈ xTB := tc6 102 (by decide +kernel) rfl
theorem w1303 : (Jvm.Cond.classLink "java/util/ArrayList" (7 : Nat) "java/lang/Object") ∈ xTB := tc6 103 (by decide +kernel) rfl
theorem w1304 : (Jvm.Cond.methodLink "Levelhouse$Sight" (51 : Nat) ({ cls := "java/lang/Math", name := "max", desc := "(II)I" } : Jvm.MethodName)) ∈ xTB := tc6 104 (by decide +kernel) rfl
theorem w1305 : (Jvm.Cond.methodLink "Levelhouse" (296 : Nat) ({ cls := "Levelhouse$Sight", name := "size", desc := "()I" } : Jvm.MethodName)) ∈ xTB := tc6 105 (by decide +kernel) rfl
theorem w1306 : (Jvm.Cond.instanceMethod ({ cls := "Levelhouse$Sight", name := "size", desc := "()I" } : Jvm.MethodName)) ∈ xTB := tc6 106 (by decide +kernel) rfl
theorem w1307 : (Jvm.Cond.selects "Levelhouse$Sight" ({ cls := "Levelhouse$Sight", name := "size", desc := "()I" } : Jvm.MethodName) ({ cls := "Levelhouse$Sight", name := "size", desc := "()I" } : Jvm.MethodName)) ∈ xTB := tc6 107 (by decide +kernel) rfl
theorem w1308 : (Jvm.Cond.code ({ cls := "Levelhouse$Sight", name := "size", desc := "()I" } : Jvm.MethodName) prog_11_method_3_code (1 : Nat) (Option.some Jvm.ClassFile.FieldType.int)) ∈ xTB := tc6 108 (by decide +kernel) rfl
theorem w1309 : (Jvm.Cond.methodLink "Levelhouse" (300 : Nat) ({ cls := "Levelhouse$Query", name := "answer", desc := "(LLevelhouse$Statement;LLevelhouse$Meaning;LLevelhouse$Shelf;LLevelhouse$Sight;)Z" } : Jvm.MethodName)) ∈ xTB := tc6 109 (by decide +kernel) rfl
theorem w1310 : (Jvm.Cond.instanceMethod ({ cls := "Levelhouse$Query", name := "answer", desc := "(LLevelhouse$Statement;LLevelhouse$Meaning;LLevelhouse$Shelf;LLevelhouse$Sight;)Z" } : Jvm.MethodName)) ∈ xTB := tc6 110 (by decide +kernel) rfl
theorem w1311 : (Jvm.Cond.selects "Levelhouse$Query" ({ cls := "Levelhouse$Query", name := "answer", desc := "(LLevelhouse$Statement;LLevelhouse$Meaning;LLevelhouse$Shelf;LLevelhouse$Sight;)Z" } : Jvm.MethodName) ({ cls := "Levelhouse$Query", name := "answer", desc := "(LLevelhouse$Statement;LLevelhouse$Meaning;LLevelhouse$Shelf;LLevelhouse$Sight;)Z" } : Jvm.MethodName)) ∈ xTB := tc6 111 (by decide +kernel) rfl
theorem w1312 : (Jvm.Cond.code ({ cls := "Levelhouse$Query", name := "answer", desc := "(LLevelhouse$Statement;LLevelhouse$Meaning;LLevelhouse$Shelf;LLevelhouse$Sight;)Z" } : Jvm.MethodName) prog_7_method_2_code (7 : Nat) (Option.some Jvm.ClassFile.FieldType.boolean)) ∈ xTB := tc6 112 (by decide +kernel) rfl
theorem w1313 : (Jvm.Cond.methodLink "Levelhouse$Query" (39 : Nat) ({ cls := "Levelhouse$Meaning", name := "answerWidth", desc := "()I" } : Jvm.MethodName)) ∈ xTB := tc6 113 (by decide +kernel) rfl
theorem w1314 : (Jvm.Cond.methodLink "Levelhouse$Query" (45 : Nat) ({ cls := "java/lang/Math", name := "min", desc := "(II)I" } : Jvm.MethodName)) ∈ xTB := tc6 114 (by decide +kernel) rfl
theorem w1315 : (Jvm.Cond.methodLink "Levelhouse$Query" (64 : Nat) ({ cls := "Levelhouse$Reader", name := "value", desc := "(I)I" } : Jvm.MethodName)) ∈ xTB := tc6 115 (by decide +kernel) rfl
theorem w1316 : (Jvm.Cond.methodLink "Levelhouse$Query" (73 : Nat) ({ cls := "Levelhouse$Reader", name := "kind", desc := "(I)LLevelhouse$Word;" } : Jvm.MethodName)) ∈ xTB := tc6 116 (by decide +kernel) rfl
theorem w1317 : (Jvm.Cond.fieldLink "Levelhouse$Query" (77 : Nat) "Levelhouse$Word" "DOWN" "LLevelhouse$Word;") ∈ xTB := tc6 117 (by decide +kernel) rfl
theorem w1318 : (Jvm.Cond.constant "Levelhouse$Query" (90 : Nat) (999999999 : Int32)) ∈ xTB := tc6 118 (by decide +kernel) rfl
theorem w1319 : (Jvm.Cond.methodLink "Levelhouse$Query" (104 : Nat) ({ cls := "Levelhouse$Query", name := "gather", desc := "(Ljava/util/ArrayList;LLevelhouse$Table;LLevelhouse$Shelf;LLevelhouse$Sight;)V" } : Jvm.MethodName)) ∈ xTB := tc6 119 (by decide +kernel) rfl
theorem w1321 : (Jvm.Cond.instanceMethod ({ cls := "Levelhouse$Query", name := "gather", desc := "(Ljava/util/ArrayList;LLevelhouse$Table;LLevelhouse$Shelf;LLevelhouse$Sight;)V" } : Jvm.MethodName)) ∈ xTB := tc6 121 (by decide +kernel) rfl
theorem w1322 : (Jvm.Cond.code ({ cls := "Levelhouse$Query", name := "gather", desc := "(Ljava/util/ArrayList;LLevelhouse$Table;LLevelhouse$Shelf;LLevelhouse$Sight;)V" } : Jvm.MethodName) prog_7_method_3_code (8 : Nat) (Option.none : Option Jvm.ClassFile.FieldType)) ∈ xTB := tc6 122 (by decide +kernel) rfl
theorem w1323 : (Jvm.Cond.methodLink "Levelhouse$Query" (130 : Nat) ({ cls := "java/util/ArrayList", name := "clear", desc := "()V" } : Jvm.MethodName)) ∈ xTB := tc6 123 (by decide +kernel) rfl
theorem w1324 : (Jvm.Cond.methodLink "Levelhouse$Query" (136 : Nat) ({ cls := "Levelhouse$Shelf", name := "size", desc := "()I" } : Jvm.MethodName)) ∈ xTB := tc6 124 (by decide +kernel) rfl
theorem w1325 : (Jvm.Cond.methodLink "Levelhouse$Query" (141 : Nat) ({ cls := "Levelhouse$Sight", name := "size", desc := "()I" } : Jvm.MethodName)) ∈ xTB := tc6 125 (by decide +kernel) rfl
theorem w1326 : (Jvm.Cond.methodLink "Levelhouse$Query" (144 : Nat) ({ cls := "Levelhouse$Shelf", name := "get", desc := "(I)LLevelhouse$Entry;" } : Jvm.MethodName)) ∈ xTB := tc6 126 (by decide +kernel) rfl
theorem w1327 : (Jvm.Cond.methodLink "Levelhouse$Query" (148 : Nat) ({ cls := "Levelhouse$Sight", name := "get", desc := "(I)LLevelhouse$Entry;" } : Jvm.MethodName)) ∈ xTB := tc6 127 (by decide +kernel) rfl
theorem w1328 : (Jvm.Cond.methodLink "Levelhouse$Query" (149 : Nat) ({ cls := "Levelhouse$Entry", name := "isOf", desc := "(LLevelhouse$Table;)Z" } : Jvm.MethodName)) ∈ xTB := tc6 128 (by decide +kernel) rfl
theorem w1329 : (Jvm.Cond.methodLinkNest "Levelhouse$Query" (162 : Nat) ({ cls := "Levelhouse", name := "isBelow", desc := "(II)Z" } : Jvm.MethodName) "Levelhouse") ∈ xTB := tc6 129 (by decide +kernel) rfl
theorem w1330 : (Jvm.Cond.methodLink "Levelhouse$Query" (166 : Nat) ({ cls := "java/util/ArrayList", name := "add", desc := "(Ljava/lang/Object;)Z" } : Jvm.MethodName)) ∈ xTB := tc6 130 (by decide +kernel) rfl
theorem w1331 : (Jvm.Cond.methodLink "Levelhouse$Query" (111 : Nat) ({ cls := "Levelhouse$Query", name := "pick", desc := "()V" } : Jvm.MethodName)) ∈ xTB := tc6 131 (by decide +kernel) rfl
theorem w1333 : (Jvm.Cond.instanceMethod ({ cls := "Levelhouse$Query", name := "pick", desc := "()V" } : Jvm.MethodName)) ∈ xTB := tc6 133 (by decide +kernel) rfl
theorem w1334 : (Jvm.Cond.code ({ cls := "Levelhouse$Query", name := "pick", desc := "()V" } : Jvm.MethodName) prog_7_method_4_code (3 : Nat) (Option.none : Option Jvm.ClassFile.FieldType)) ∈ xTB := tc6 134 (by decide +kernel) rfl
theorem w1335 : (Jvm.Cond.methodLink "Levelhouse$Query" (170 : Nat) ({ cls := "java/util/ArrayList", name := "size", desc := "()I" } : Jvm.MethodName)) ∈ xTB := tc6 135 (by decide +kernel) rfl
theorem w1336 : (Jvm.Cond.methodLink "Levelhouse$Query" (171 : Nat) ({ cls := "java/util/ArrayList", name := "get", desc := "(I)Ljava/lang/Object;" } : Jvm.MethodName)) ∈ xTB := tc6 136 (by decide +kernel) rfl
theorem w1337 : (Jvm.Cond.classLink "Levelhouse$Query" (150 : Nat) "Levelhouse$Entry") ∈ xTB := tc6 137 (by decide +kernel) rfl
theorem w1338 : (Jvm.Cond.methodLink "Levelhouse$Query" (177 : Nat) ({ cls := "Levelhouse$Statement", name := "isMeant", desc := "(LLevelhouse$Entry;LLevelhouse$Entry;)Z" } : Jvm.MethodName)) ∈ xTB := tc6 138 (by decide +kernel) rfl
theorem w1339 : (Jvm.Cond.instanceMethod ({ cls := "Levelhouse$Statement", name := "isMeant", desc := "(LLevelhouse$Entry;LLevelhouse$Entry;)Z" } : Jvm.MethodName)) ∈ xTB := tc6 139 (by decide +kernel) rfl
theorem w1340 : (Jvm.Cond.selects "Levelhouse$Statement" ({ cls := "Levelhouse$Statement", name := "isMeant", desc := "(LLevelhouse$Entry;LLevelhouse$Entry;)Z" } : Jvm.MethodName) ({ cls := "Levelhouse$Statement", name := "isMeant", desc := "(LLevelhouse$Entry;LLevelhouse$Entry;)Z" } : Jvm.MethodName)) ∈ xTB := tc6 140 (by decide +kernel) rfl
theorem w1341 : (Jvm.Cond.code ({ cls := "Levelhouse$Statement", name := "isMeant", desc := "(LLevelhouse$Entry;LLevelhouse$Entry;)Z" } : Jvm.MethodName) prog_12_method_19_code (4 : Nat) (Option.some Jvm.ClassFile.FieldType.boolean)) ∈ xTB := tc6 141 (by decide +kernel) rfl
theorem w1342 : (Jvm.Cond.methodLink "Levelhouse$Statement" (263 : Nat) ({ cls := "Levelhouse$Formula", name := "result", desc := "(IILLevelhouse$Entry;LLevelhouse$Entry;)I" } : Jvm.MethodName)) ∈ xTB := tc6 142 (by decide +kernel) rfl
theorem w1343 : (Jvm.Cond.instanceMethod ({ cls := "Levelhouse$Formula", name := "result", desc := "(IILLevelhouse$Entry;LLevelhouse$Entry;)I" } : Jvm.MethodName)) ∈ xTB := tc6 143 (by decide +kernel) rfl
theorem w1344 : (Jvm.Cond.selects "Levelhouse$Formula" ({ cls := "Levelhouse$Formula", name := "result", desc := "(IILLevelhouse$Entry;LLevelhouse$Entry;)I" } : Jvm.MethodName) ({ cls := "Levelhouse$Formula", name := "result", desc := "(IILLevelhouse$Entry;LLevelhouse$Entry;)I" } : Jvm.MethodName)) ∈ xTB := tc6 144 (by decide +kernel) rfl
theorem w1345 : (Jvm.Cond.code ({ cls := "Levelhouse$Formula", name := "result", desc := "(IILLevelhouse$Entry;LLevelhouse$Entry;)I" } : Jvm.MethodName) prog_5_method_13_code (9 : Nat) (Option.some Jvm.ClassFile.FieldType.int)) ∈ xTB := tc6 145 (by decide +kernel) rfl
theorem w1346 : (Jvm.Cond.methodLink "Levelhouse$Formula" (115 : Nat) ({ cls := "java/lang/Math", name := "max", desc := "(II)I" } : Jvm.MethodName)) ∈ xTB := tc6 146 (by decide +kernel) rfl
theorem w1347 : (Jvm.Cond.constant "Levelhouse$Formula" (121 : Nat) (-1000000000 : Int32)) ∈ xTB := tc6 147 (by decide +kernel) rfl
theorem w1348 : (Jvm.Cond.fieldLink "Levelhouse$Formula" (122 : Nat) "Levelhouse$Word" "NUMBER" "LLevelhouse$Word;") ∈ xTB := tc6 148 (by decide +kernel) rfl
theorem w1349 : (Jvm.Cond.methodLink "Levelhouse$Formula" (125 : Nat) ({ cls := "Levelhouse$Formula", name := "arg", desc := "(I)I" } : Jvm.MethodName)) ∈ xTB := tc6 149 (by decide +kernel) rfl
theorem w1350 : (Jvm.Cond.fieldLink "Levelhouse$Formula" (128 : Nat) "Levelhouse$Word" "LABEL" "LLevelhouse$Word;") ∈ xTB := tc6 150 (by decide +kernel) rfl
theorem w1351 : (Jvm.Cond.methodLinkNest "Levelhouse$Formula" (136 : Nat) ({ cls := "Levelhouse", name := "join", desc := "(II)I" } : Jvm.MethodName) "Levelhouse") ∈ xTB := tc6 151 (by decide +kernel) rfl
theorem w1352 : (Jvm.Cond.static ({ cls := "Levelhouse", name := "join", desc := "(II)I" } : Jvm.MethodName)) ∈ xTB := tc6 152 (by decide +kernel) rfl
theorem w1353 : (Jvm.Cond.code ({ cls := "Levelhouse", name := "join", desc := "(II)I" } : Jvm.MethodName) prog_1_method_30_code (2 : Nat) (Option.some Jvm.ClassFile.FieldType.int)) ∈ xTB := tc6 153 (by decide +kernel) rfl
theorem w1354 : (Jvm.Cond.methodLink "Levelhouse" (282 : Nat) ({ cls := "java/lang/Math", name := "max", desc := "(II)I" } : Jvm.MethodName)) ∈ xTB := tc6 154 (by decide +kernel) rfl
theorem w1355 : (Jvm.Cond.fieldLink "Levelhouse$Formula" (139 : Nat) "Levelhouse$Word" "NAME" "LLevelhouse$Word;") ∈ xTB := tc6 155 (by decide +kernel) rfl
theorem w1356 : (Jvm.Cond.methodLinkNest "Levelhouse$Formula" (142 : Nat) ({ cls := "Levelhouse", name := "cellOf", desc := "(LLevelhouse$Entry;LLevelhouse$Entry;I)I" } : Jvm.MethodName) "Levelhouse") ∈ xTB := tc6 156 (by decide +kernel) rfl
theorem w1357 : (Jvm.Cond.static ({ cls := "Levelhouse", name := "cellOf", desc := "(LLevelhouse$Entry;LLevelhouse$Entry;I)I" } : Jvm.MethodName)) ∈ xTB := tc6 157 (by decide +kernel) rfl
theorem w1358 : (Jvm.Cond.code ({ cls := "Levelhouse", name := "cellOf", desc := "(LLevelhouse$Entry;LLevelhouse$Entry;I)I" } : Jvm.MethodName) prog_1_method_43_code (4 : Nat) (Option.some Jvm.ClassFile.FieldType.int)) ∈ xTB := tc6 158 (by decide +kernel) rfl
theorem w1359 : (Jvm.Cond.constant "Levelhouse" (191 : Nat) (-1000000000 : Int32)) ∈ xTB := tc6 159 (by decide +kernel) rfl
theorem w1360 : (Jvm.Cond.methodLink "Levelhouse$Formula" (146 : Nat) ({ cls := "Levelhouse$Formula", name := "changed", desc := "(LLevelhouse$Word;I)I" } : Jvm.MethodName)) ∈ xTB := tc6 160 (by decide +kernel) rfl
theorem w1361 : (Jvm.Cond.static ({ cls := "Levelhouse$Formula", name := "changed", desc := "(LLevelhouse$Word;I)I" } : Jvm.MethodName)) ∈ xTB := tc6 161 (by decide +kernel) rfl
theorem w1362 : (Jvm.Cond.code ({ cls := "Levelhouse$Formula", name := "changed", desc := "(LLevelhouse$Word;I)I" } : Jvm.MethodName) prog_5_method_14_code (2 : Nat) (Option.some Jvm.ClassFile.FieldType.int)) ∈ xTB := tc6 162 (by decide +kernel) rfl
theorem w1363 : (Jvm.Cond.methodLink "Levelhouse$Formula" (150 : Nat) ({ cls := "Levelhouse$Formula", name := "combined", desc := "(LLevelhouse$Word;II)I" } : Jvm.MethodName)) ∈ xTB := tc6 163 (by decide +kernel) rfl
theorem w1364 : (Jvm.Cond.static ({ cls := "Levelhouse$Formula", name := "combined", desc := "(LLevelhouse$Word;II)I" } : Jvm.MethodName)) ∈ xTB := tc6 164 (by decide +kernel) rfl
theorem w1365 : (Jvm.Cond.code ({ cls := "Levelhouse$Formula", name := "combined", desc := "(LLevelhouse$Word;II)I" } : Jvm.MethodName) prog_5_method_15_code (7 : Nat) (Option.some Jvm.ClassFile.FieldType.int)) ∈ xTB := tc6 165 (by decide +kernel) rfl
theorem w1366 : (Jvm.Cond.fieldLink "Levelhouse$Formula" (154 : Nat) "Levelhouse$Word" "EITHER" "LLevelhouse$Word;") ∈ xTB := tc6 166 (by decide +kernel) rfl
theorem w1368 : (Jvm.Cond.fieldLink "Levelhouse$Formula" (157 : Nat) "Levelhouse$Word" "BOTH" "LLevelhouse$Word;") ∈ xTB := tc6 168 (by decide +kernel) rfl
theorem w1370 : (Jvm.Cond.constantLong "Levelhouse$Formula" (160 : Nat) (-1000000000 : Int64)) ∈ xTB := tc6 170 (by decide +kernel) rfl
theorem w1377 : (Jvm.Cond.constantLong "Levelhouse$Formula" (168 : Nat) (-999999999 : Int64)) ∈ xTB := tc6 177 (by decide +kernel) rfl
theorem w1378 : (Jvm.Cond.constantLong "Levelhouse$Formula" (170 : Nat) (999999999 : Int64)) ∈ xTB := tc6 178 (by decide +kernel) rfl
theorem w1379 : (Jvm.Cond.constant "Levelhouse$Statement" (267 : Nat) (-1000000000 : Int32)) ∈ xTB := tc6 179 (by decide +kernel) rfl
theorem w1380 : (Jvm.Cond.methodLink "Levelhouse$Query" (181 : Nat) ({ cls := "Levelhouse$Query", name := "addPicked", desc := "(I)V" } : Jvm.MethodName)) ∈ xTB := tc6 180 (by decide +kernel) rfl
theorem w1382 : (Jvm.Cond.instanceMethod ({ cls := "Levelhouse$Query", name := "addPicked", desc := "(I)V" } : Jvm.MethodName)) ∈ xTB := tc6 182 (by decide +kernel) rfl
theorem w1383 : (Jvm.Cond.code ({ cls := "Levelhouse$Query", name := "addPicked", desc := "(I)V" } : Jvm.MethodName) prog_7_method_6_code (3 : Nat) (Option.none : Option Jvm.ClassFile.FieldType)) ∈ xTB := tc6 183 (by decide +kernel) rfl
theorem w1384 : (Jvm.Cond.methodLink "Levelhouse$Query" (199 : Nat) ({ cls := "java/lang/System", name := "arraycopy", desc := "(Ljava/lang/Object;ILjava/lang/Object;II)V" } : Jvm.MethodName)) ∈ xTB := tc6 184 (by decide +kernel) rfl
theorem w1385 : (Jvm.Cond.methodLink "Levelhouse$Query" (185 : Nat) ({ cls := "Levelhouse$Query", name := "pickPairs", desc := "(ILLevelhouse$Entry;)V" } : Jvm.MethodName)) ∈ xTB := tc6 185 (by decide +kernel) rfl
theorem w1387 : (Jvm.Cond.instanceMethod ({ cls := "Levelhouse$Query", name := "pickPairs", desc := "(ILLevelhouse$Entry;)V" } : Jvm.MethodName)) ∈ xTB := tc6 187 (by decide +kernel) rfl
theorem w1388 : (Jvm.Cond.code ({ cls := "Levelhouse$Query", name := "pickPairs", desc := "(ILLevelhouse$Entry;)V" } : Jvm.MethodName) prog_7_method_5_code (6 : Nat) (Option.none : Option Jvm.ClassFile.FieldType)) ∈ xTB := tc6 188 (by decide +kernel) rfl
theorem w1389 : (Jvm.Cond.methodLink "Levelhouse$Query" (192 : Nat) ({ cls := "Levelhouse$Entry", name := "hold", desc := "(I)I" } : Jvm.MethodName)) ∈ xTB := tc6 189 (by decide +kernel) rfl
theorem w1390 : (Jvm.Cond.constant "Levelhouse$Query" (195 : Nat) (-1000000000 : Int32)) ∈ xTB := tc6 190 (by decide +kernel) rfl
theorem w1391 : (Jvm.Cond.methodLink "Levelhouse$Query" (117 : Nat) ({ cls := "Levelhouse$Query", name := "offerGroups", desc := "()V" } : Jvm.MethodName)) ∈ xTB := tc6 191 (by decide +kernel) rfl
theorem w1393 : (Jvm.Cond.instanceMethod ({ cls := "Levelhouse$Query", name := "offerGroups", desc := "()V" } : Jvm.MethodName)) ∈ xTB := tc6 193 (by decide +kernel) rfl
theorem w1394 : (Jvm.Cond.code ({ cls := "Levelhouse$Query", name := "offerGroups", desc := "()V" } : Jvm.MethodName) prog_7_method_10_code (3 : Nat) (Option.none : Option Jvm.ClassFile.FieldType)) ∈ xTB := tc6 194 (by decide +kernel) rfl
theorem w1395 : (Jvm.Cond.methodLink "Levelhouse$Query" (123 : Nat) ({ cls := "Levelhouse$Query", name := "reckonLine", desc := "(II)V" } : Jvm.MethodName)) ∈ xTB := tc6 195 (by decide +kernel) rfl
theorem w1397 : (Jvm.Cond.instanceMethod ({ cls := "Levelhouse$Query", name := "reckonLine", desc := "(II)V" } : Jvm.MethodName)) ∈ xTB := tc6 197 (by decide +kernel) rfl
theorem w1398 : (Jvm.Cond.code ({ cls := "Levelhouse$Query", name := "reckonLine", desc := "(II)V" } : Jvm.MethodName) prog_7_method_14_code (8 : Nat) (Option.none : Option Jvm.ClassFile.FieldType)) ∈ xTB := tc6 198 (by decide +kernel) rfl
theorem w1399 : (Jvm.Cond.methodLink "Levelhouse$Query" (211 : Nat) ({ cls := "Levelhouse$Query", name := "pickedAt", desc := "(I)I" } : Jvm.MethodName)) ∈ xTB := tc6 199 (by decide +kernel) rfl
theorem w1401 : (Jvm.Cond.instanceMethod ({ cls := "Levelhouse$Query", name := "pickedAt", desc := "(I)I" } : Jvm.MethodName)) ∈ xTB := tc6 201 (by decide +kernel) rfl
theorem w1402 : (Jvm.Cond.code ({ cls := "Levelhouse$Query", name := "pickedAt", desc := "(I)I" } : Jvm.MethodName) prog_7_method_7_code (2 : Nat) (Option.some Jvm.ClassFile.FieldType.int)) ∈ xTB := tc6 202 (by decide +kernel) rfl
theorem w1403 : (Jvm.Cond.methodLink "Levelhouse$Query" (223 : Nat) ({ cls := "Levelhouse$Query", name := "firstOf", desc := "(I)LLevelhouse$Entry;" } : Jvm.MethodName)) ∈ xTB := tc6 203 (by decide +kernel) rfl
theorem w1405 : (Jvm.Cond.instanceMethod ({ cls := "Levelhouse$Query", name := "firstOf", desc := "(I)LLevelhouse$Entry;" } : Jvm.MethodName)) ∈ xTB := tc6 205 (by decide +kernel) rfl
theorem w1406 : (Jvm.Cond.code ({ cls := "Levelhouse$Query", name := "firstOf", desc := "(I)LLevelhouse$Entry;" } : Jvm.MethodName) prog_7_method_8_code (4 : Nat) (Option.some (Jvm.ClassFile.FieldType.object "Levelhouse$Entry"))) ∈ xTB := tc6 206 (by decide +kernel) rfl
theorem w1407 : (Jvm.Cond.methodLink "Levelhouse$Query" (226 : Nat) ({ cls := "Levelhouse$Query", name := "secondOf", desc := "(I)LLevelhouse$Entry;" } : Jvm.MethodName)) ∈ xTB := tc6 207 (by decide +kernel) rfl
theorem w1409 : (Jvm.Cond.instanceMethod ({ cls := "Levelhouse$Query", name := "secondOf", desc := "(I)LLevelhouse$Entry;" } : Jvm.MethodName)) ∈ xTB := tc6 209 (by decide +kernel) rfl
theorem w1410 : (Jvm.Cond.code ({ cls := "Levelhouse$Query", name := "secondOf", desc := "(I)LLevelhouse$Entry;" } : Jvm.MethodName) prog_7_method_9_code (4 : Nat) (Option.some (Jvm.ClassFile.FieldType.object "Levelhouse$Entry"))) ∈ xTB := tc6 210 (by decide +kernel) rfl
theorem w1411 : (Jvm.Cond.methodLink "Levelhouse$Query" (238 : Nat) ({ cls := "Levelhouse$Statement", name := "itemKind", desc := "(I)LLevelhouse$Word;" } : Jvm.MethodName)) ∈ xTB := tc6 211 (by decide +kernel) rfl
theorem w1412 : (Jvm.Cond.methodLinkNest "Levelhouse$Query" (229 : Nat) ({ cls := "Levelhouse", name := "cellOf", desc := "(LLevelhouse$Entry;LLevelhouse$Entry;I)I" } : Jvm.MethodName) "Levelhouse") ∈ xTB := tc6 212 (by decide +kernel) rfl
theorem w1413 : (Jvm.Cond.fieldLink "Levelhouse$Query" (244 : Nat) "Levelhouse$Word" "COUNT" "LLevelhouse$Word;") ∈ xTB := tc6 213 (by decide +kernel) rfl
theorem w1414 : (Jvm.Cond.fieldLink "Levelhouse$Query" (247 : Nat) "Levelhouse$Word" "NAME" "LLevelhouse$Word;") ∈ xTB := tc6 214 (by decide +kernel) rfl
theorem w1415 : (Jvm.Cond.methodLink "Levelhouse$Query" (250 : Nat) ({ cls := "Levelhouse$Statement", name := "itemResult", desc := "(ILLevelhouse$Entry;LLevelhouse$Entry;)I" } : Jvm.MethodName)) ∈ xTB := tc6 215 (by decide +kernel) rfl
theorem w1416 : (Jvm.Cond.instanceMethod ({ cls := "Levelhouse$Statement", name := "itemResult", desc := "(ILLevelhouse$Entry;LLevelhouse$Entry;)I" } : Jvm.MethodName)) ∈ xTB := tc6 216 (by decide +kernel) rfl
theorem w1417 : (Jvm.Cond.selects "Levelhouse$Statement" ({ cls := "Levelhouse$Statement", name := "itemResult", desc := "(ILLevelhouse$Entry;LLevelhouse$Entry;)I" } : Jvm.MethodName) ({ cls := "Levelhouse$Statement", name := "itemResult", desc := "(ILLevelhouse$Entry;LLevelhouse$Entry;)I" } : Jvm.MethodName)) ∈ xTB := tc6 217 (by decide +kernel) rfl
theorem w1418 : (Jvm.Cond.code ({ cls := "Levelhouse$Statement", name := "itemResult", desc := "(ILLevelhouse$Entry;LLevelhouse$Entry;)I" } : Jvm.MethodName) prog_12_method_18_code (4 : Nat) (Option.some Jvm.ClassFile.FieldType.int)) ∈ xTB := tc6 218 (by decide +kernel) rfl
theorem w1419 : (Jvm.Cond.methodLink "Levelhouse$Statement" (260 : Nat) ({ cls := "Levelhouse$Statement", name := "itemTo", desc := "(I)I" } : Jvm.MethodName)) ∈ xTB := tc6 219 (by decide +kernel) rfl
theorem w1420 : (Jvm.Cond.methodLink "Levelhouse$Query" (254 : Nat) ({ cls := "Levelhouse$Query", name := "folded", desc := "(LLevelhouse$Word;III)I" } : Jvm.MethodName)) ∈ xTB := tc6 220 (by decide +kernel) rfl
theorem w1422 : (Jvm.Cond.instanceMethod ({ cls := "Levelhouse$Query", name := "folded", desc := "(LLevelhouse$Word;III)I" } : Jvm.MethodName)) ∈ xTB := tc6 222 (by decide +kernel) rfl
theorem w1423 : (Jvm.Cond.code ({ cls := "Levelhouse$Query", name := "folded", desc := "(LLevelhouse$Word;III)I" } : Jvm.MethodName) prog_7_method_15_code (14 : Nat) (Option.some Jvm.ClassFile.FieldType.int)) ∈ xTB := tc6 223 (by decide +kernel) rfl
theorem w1424 : (Jvm.Cond.methodLink "Levelhouse$Query" (258 : Nat) ({ cls := "Levelhouse$Statement", name := "itemFrom", desc := "(I)I" } : Jvm.MethodName)) ∈ xTB := tc6 224 (by decide +kernel) rfl
theorem w1425 : (Jvm.Cond.methodLink "Levelhouse$Query" (261 : Nat) ({ cls := "Levelhouse$Statement", name := "itemTo", desc := "(I)I" } : Jvm.MethodName)) ∈ xTB := tc6 225 (by decide +kernel) rfl
theorem w1426 : (Jvm.Cond.constant "Levelhouse$Query" (264 : Nat) (-999999999 : Int32)) ∈ xTB := tc6 226 (by decide +kernel) rfl
theorem w1427 : (Jvm.Cond.methodLink "Levelhouse$Query" (269 : Nat) ({ cls := "Levelhouse$Formula", name := "result", desc := "(IILLevelhouse$Entry;LLevelhouse$Entry;)I" } : Jvm.MethodName)) ∈ xTB := tc6 227 (by decide +kernel) rfl
theorem w1428 : (Jvm.Cond.methodLink "Levelhouse$Query" (275 : Nat) ({ cls := "java/lang/Math", name := "max", desc := "(II)I" } : Jvm.MethodName)) ∈ xTB := tc6 228 (by decide +kernel) rfl
theorem w1429 : (Jvm.Cond.fieldLink "Levelhouse$Query" (278 : Nat) "Levelhouse$Word" "SUM" "LLevelhouse$Word;") ∈ xTB := tc6 229 (by decide +kernel) rfl
theorem w1430 : (Jvm.Cond.constantLong "Levelhouse$Query" (281 : Nat) (-999999999 : Int64)) ∈ xTB := tc6 230 (by decide +kernel) rfl
theorem w1431 : (Jvm.Cond.constantLong "Levelhouse$Query" (283 : Nat) (999999999 : Int64)) ∈ xTB := tc6 231 (by decide +kernel) rfl
theorem w1432 : (Jvm.Cond.fieldLink "Levelhouse$Query" (285 : Nat) "Levelhouse$Word" "LEAST" "LLevelhouse$Word;") ∈ xTB := tc6 232 (by decide +kernel) rfl
theorem w1433 : (Jvm.Cond.methodLink "Levelhouse$Query" (127 : Nat) ({ cls := "Levelhouse$Query", name := "offer", desc := "()V" } : Jvm.MethodName)) ∈ xTB := tc6 233 (by decide +kernel) rfl
theorem w1435 : (Jvm.Cond.instanceMethod ({ cls := "Levelhouse$Query", name := "offer", desc := "()V" } : Jvm.MethodName)) ∈ xTB := tc6 235 (by decide +kernel) rfl
theorem w1436 : (Jvm.Cond.code ({ cls := "Levelhouse$Query", name := "offer", desc := "()V" } : Jvm.MethodName) prog_7_method_16_code (5 : Nat) (Option.none : Option Jvm.ClassFile.FieldType)) ∈ xTB := tc6 236 (by decide +kernel) rfl
theorem w1437 : (Jvm.Cond.methodLink "Levelhouse$Query" (288 : Nat) ({ cls := "Levelhouse$Query", name := "compareLine", desc := "(I)I" } : Jvm.MethodName)) ∈ xTB := tc6 237 (by decide +kernel) rfl
theorem w1439 : (Jvm.Cond.instanceMethod ({ cls := "Levelhouse$Query", name := "compareLine", desc := "(I)I" } : Jvm.MethodName)) ∈ xTB := tc6 239 (by decide +kernel) rfl
theorem w1440 : (Jvm.Cond.code ({ cls := "Levelhouse$Query", name := "compareLine", desc := "(I)I" } : Jvm.MethodName) prog_7_method_17_code (4 : Nat) (Option.some Jvm.ClassFile.FieldType.int)) ∈ xTB := tc7 0 (by decide +kernel) rfl
theorem w1441 : (Jvm.Cond.methodLink "Levelhouse$Query" (208 : Nat) ({ cls := "Levelhouse$Query", name := "sortPicked", desc := "()V" } : Jvm.MethodName)) ∈ xTB := tc7 1 (by decide +kernel) rfl
theorem w1443 : (Jvm.Cond.instanceMethod ({ cls := "Levelhouse$Query", name := "sortPicked", desc := "()V" } : Jvm.MethodName)) ∈ xTB := tc7 3 (by decide +kernel) rfl
theorem w1444 : (Jvm.Cond.code ({ cls := "Levelhouse$Query", name := "sortPicked", desc := "()V" } : Jvm.MethodName) prog_7_method_11_code (3 : Nat) (Option.none : Option Jvm.ClassFile.FieldType)) ∈ xTB := tc7 4 (by decide +kernel) rfl
theorem w1445 : (Jvm.Cond.methodLink "Levelhouse$Query" (217 : Nat) ({ cls := "Levelhouse$Query", name := "sink", desc := "(II)V" } : Jvm.MethodName)) ∈ xTB := tc7 5 (by decide +kernel) rfl
theorem w1447 : (Jvm.Cond.instanceMethod ({ cls := "Levelhouse$Query", name := "sink", desc := "(II)V" } : Jvm.MethodName)) ∈ xTB := tc7 7 (by decide +kernel) rfl
theorem w1448 : (Jvm.Cond.code ({ cls := "Levelhouse$Query", name := "sink", desc := "(II)V" } : Jvm.MethodName) prog_7_method_12_code (6 : Nat) (Option.none : Option Jvm.ClassFile.FieldType)) ∈ xTB := tc7 8 (by decide +kernel) rfl
theorem w1449 : (Jvm.Cond.methodLink "Levelhouse$Query" (214 : Nat) ({ cls := "Levelhouse$Query", name := "compareBy", desc := "(II)I" } : Jvm.MethodName)) ∈ xTB := tc7 9 (by decide +kernel) rfl
theorem w1451 : (Jvm.Cond.instanceMethod ({ cls := "Levelhouse$Query", name := "compareBy", desc := "(II)I" } : Jvm.MethodName)) ∈ xTB := tc7 11 (by decide +kernel) rfl
theorem w1452 : (Jvm.Cond.code ({ cls := "Levelhouse$Query", name := "compareBy", desc := "(II)I" } : Jvm.MethodName) prog_7_method_13_code (6 : Nat) (Option.some Jvm.ClassFile.FieldType.int)) ∈ xTB := tc7 12 (by decide +kernel) rfl
theorem w1453 : (Jvm.Cond.methodLink "Levelhouse$Query" (220 : Nat) ({ cls := "Levelhouse$Meaning", name := "column", desc := "(I)I" } : Jvm.MethodName)) ∈ xTB := tc7 13 (by decide +kernel) rfl
theorem w1454 : (Jvm.Cond.methodLink "Levelhouse$Query" (233 : Nat) ({ cls := "java/lang/Integer", name := "compare", desc := "(II)I" } : Jvm.MethodName)) ∈ xTB := tc7 14 (by decide +kernel) rfl
theorem w1455 : (Jvm.Cond.static ({ cls := "java/lang/Integer", name := "compare", desc := "(II)I" } : Jvm.MethodName)) ∈ xTB := tc7 15 (by decide +kernel) rfl
theorem w1456 : (Jvm.Cond.code ({ cls := "java/lang/Integer", name := "compare", desc := "(II)I" } : Jvm.MethodName) prog_40_method_40_code (2 : Nat) (Option.some Jvm.ClassFile.FieldType.int)) ∈ xTB := tc7 16 (by decide +kernel) rfl
theorem w1457 : (Jvm.Cond.methodLink "Levelhouse" (313 : Nat) ({ cls := "Levelhouse$Session", name := "keepAnswer", desc := "([III)V" } : Jvm.MethodName)) ∈ xTB := tc7 17 (by decide +kernel) rfl
theorem w1458 : (Jvm.Cond.instanceMethod ({ cls := "Levelhouse$Session", name := "keepAnswer", desc := "([III)V" } : Jvm.MethodName)) ∈ xTB := tc7 18 (by decide +kernel) rfl
theorem w1459 : (Jvm.Cond.selects "Levelhouse$Session" ({ cls := "Levelhouse$Session", name := "keepAnswer", desc := "([III)V" } : Jvm.MethodName) ({ cls := "Levelhouse$Session", name := "keepAnswer", desc := "([III)V" } : Jvm.MethodName)) ∈ xTB := tc7 19 (by decide +kernel) rfl
theorem w1460 : (Jvm.Cond.code ({ cls := "Levelhouse$Session", name := "keepAnswer", desc := "([III)V" } : Jvm.MethodName) prog_9_method_7_code (5 : Nat) (Option.none : Option Jvm.ClassFile.FieldType)) ∈ xTB := tc7 20 (by decide +kernel) rfl
theorem w1461 : (Jvm.Cond.methodLink "Levelhouse$Session" (54 : Nat) ({ cls := "java/lang/Math", name := "max", desc := "(II)I" } : Jvm.MethodName)) ∈ xTB := tc7 21 (by decide +kernel) rfl
theorem w1462 : (Jvm.Cond.methodLink "Levelhouse$Session" (60 : Nat) ({ cls := "java/lang/Math", name := "min", desc := "(II)I" } : Jvm.MethodName)) ∈ xTB := tc7 22 (by decide +kernel) rfl
theorem w1463 : (Jvm.Cond.methodLink "Levelhouse$Session" (63 : Nat) ({ cls := "java/lang/System", name := "arraycopy", desc := "(Ljava/lang/Object;ILjava/lang/Object;II)V" } : Jvm.MethodName)) ∈ xTB := tc7 23 (by decide +kernel) rfl
theorem w1464 : (Jvm.Cond.methodLink "Levelhouse" (153 : Nat) ({ cls := "Levelhouse", name := "makeTable", desc := "(LLevelhouse$Session;)I" } : Jvm.MethodName)) ∈ xTB := tc7 24 (by decide +kernel) rfl
theorem w1466 : (Jvm.Cond.instanceMethod ({ cls := "Levelhouse", name := "makeTable", desc := "(LLevelhouse$Session;)I" } : Jvm.MethodName)) ∈ xTB := tc7 26 (by decide +kernel) rfl
theorem w1467 : (Jvm.Cond.code ({ cls := "Levelhouse", name := "makeTable", desc := "(LLevelhouse$Session;)I" } : Jvm.MethodName) prog_1_method_38_code (8 : Nat) (Option.some Jvm.ClassFile.FieldType.int)) ∈ xTB := tc7 27 (by decide +kernel) rfl
theorem w1468 : (Jvm.Cond.methodLink "Levelhouse" (320 : Nat) ({ cls := "Levelhouse$Reader", name := "value", desc := "(I)I" } : Jvm.MethodName)) ∈ xTB := tc7 28 (by decide +kernel) rfl
theorem w1469 : (Jvm.Cond.methodLink "Levelhouse" (196 : Nat) ({ cls := "java/util/ArrayList", name := "size", desc := "()I" } : Jvm.MethodName)) ∈ xTB := tc7 29 (by decide +kernel) rfl
theorem w1470 : (Jvm.Cond.methodLink "Levelhouse" (227 : Nat) ({ cls := "java/util/ArrayList", name := "get", desc := "(I)Ljava/lang/Object;" } : Jvm.MethodName)) ∈ xTB := tc7 30 (by decide +kernel) rfl
theorem w1471 : (Jvm.Cond.classLink "Levelhouse" (231 : Nat) "Levelhouse$Table") ∈ xTB := tc7 31 (by decide +kernel) rfl
theorem w1472 : (Jvm.Cond.methodLink "Levelhouse" (326 : Nat) ({ cls := "Levelhouse$Meaning", name := "newTable", desc := "(I)LLevelhouse$Table;" } : Jvm.MethodName)) ∈ xTB := tc7 32 (by decide +kernel) rfl
theorem w1473 : (Jvm.Cond.instanceMethod ({ cls := "Levelhouse$Meaning", name := "newTable", desc := "(I)LLevelhouse$Table;" } : Jvm.MethodName)) ∈ xTB := tc7 33 (by decide +kernel) rfl
theorem w1474 : (Jvm.Cond.selects "Levelhouse$Meaning" ({ cls := "Levelhouse$Meaning", name := "newTable", desc := "(I)LLevelhouse$Table;" } : Jvm.MethodName) ({ cls := "Levelhouse$Meaning", name := "newTable", desc := "(I)LLevelhouse$Table;" } : Jvm.MethodName)) ∈ xTB := tc7 34 (by decide +kernel) rfl
theorem w1475 : (Jvm.Cond.code ({ cls := "Levelhouse$Meaning", name := "newTable", desc := "(I)LLevelhouse$Table;" } : Jvm.MethodName) prog_6_method_17_code (10 : Nat) (Option.some (Jvm.ClassFile.FieldType.object "Levelhouse$Table"))) ∈ xTB := tc7 35 (by decide +kernel) rfl
theorem w1476 : (Jvm.Cond.classLink "Levelhouse$Meaning" (87 : Nat) "Levelhouse$Formula") ∈ xTB := tc7 36 (by decide +kernel) rfl
theorem w1477 : (Jvm.Cond.methodLink "Levelhouse$Meaning" (248 : Nat) ({ cls := "Levelhouse$Formula", name := "<init>", desc := "(I)V" } : Jvm.MethodName)) ∈ xTB := tc7 37 (by decide +kernel) rfl
theorem w1478 : (Jvm.Cond.methodLink "Levelhouse$Meaning" (250 : Nat) ({ cls := "Levelhouse$Formula", name := "add", desc := "(LLevelhouse$Word;II)V" } : Jvm.MethodName)) ∈ xTB := tc7 38 (by decide +kernel) rfl
theorem w1479 : (Jvm.Cond.instantiable "Levelhouse$Table" (9 : Nat)) ∈ xTB := tc7 39 (by decide +kernel) rfl
theorem w1480 : (Jvm.Cond.methodLink "Levelhouse$Meaning" (254 : Nat) ({ cls := "Levelhouse$Table", name := "<init>", desc := "(IIIILLevelhouse$Formula;)V" } : Jvm.MethodName)) ∈ xTB := tc7 40 (by decide +kernel) rfl
theorem w1481 : (Jvm.Cond.instanceMethod ({ cls := "Levelhouse$Table", name := "<init>", desc := "(IIIILLevelhouse$Formula;)V" } : Jvm.MethodName)) ∈ xTB := tc7 41 (by decide +kernel) rfl
theorem w1482 : (Jvm.Cond.code ({ cls := "Levelhouse$Table", name := "<init>", desc := "(IIIILLevelhouse$Formula;)V" } : Jvm.MethodName) prog_13_method_1_code (7 : Nat) (Option.none : Option Jvm.ClassFile.FieldType)) ∈ xTB := tc7 42 (by decide +kernel) rfl
theorem w1483 : (Jvm.Cond.methodLink "Levelhouse$Table" (3 : Nat) ({ cls := "java/lang/Object", name := "<init>", desc := "()V" } : Jvm.MethodName)) ∈ xTB := tc7 43 (by decide +kernel) rfl
theorem w1484 : (Jvm.Cond.classLink "Levelhouse$Table" (28 : Nat) "Levelhouse$Word") ∈ xTB := tc7 44 (by decide +kernel) rfl
theorem w1485 : (Jvm.Cond.classLink "Levelhouse$Table" (10 : Nat) "Levelhouse$Table") ∈ xTB := tc7 45 (by decide +kernel) rfl
theorem w1486 : (Jvm.Cond.arrayOver (Jvm.ClassFile.FieldType.object "Levelhouse$Table")) ∈ xTB := tc7 46 (by decide +kernel) rfl
theorem w1487 : (Jvm.Cond.fieldLink "Levelhouse$Table" (15 : Nat) "Levelhouse$Table" "serial" "I") ∈ xTB := tc7 47 (by decide +kernel) rfl
theorem w1488 : (Jvm.Cond.fieldLink "Levelhouse$Entry" (31 : Nat) "Levelhouse$Table" "serial" "I") ∈ xTB := tc7 48 (by decide +kernel) rfl
theorem w1489 : (Jvm.Cond.fieldLink "Levelhouse$Sight" (80 : Nat) "Levelhouse$Table" "serial" "I") ∈ xTB := tc7 49 (by decide +kernel) rfl
theorem w1490 : (Jvm.Cond.fieldLink "Levelhouse$Shelf" (39 : Nat) "Levelhouse$Table" "serial" "I") ∈ xTB := tc7 50 (by decide +kernel) rfl
theorem w1491 : (Jvm.Cond.fieldLink "Levelhouse" (340 : Nat) "Levelhouse$Table" "serial" "I") ∈ xTB := tc7 51 (by decide +kernel) rfl
theorem w1492 : (Jvm.Cond.fieldLink "Levelhouse$Table" (19 : Nat) "Levelhouse$Table" "name" "I") ∈ xTB := tc7 52 (by decide +kernel) rfl
theorem w1493 : (Jvm.Cond.fieldLink "Levelhouse$Meaning" (115 : Nat) "Levelhouse$Table" "name" "I") ∈ xTB := tc7 53 (by decide +kernel) rfl
theorem w1494 : (Jvm.Cond.fieldLink "Levelhouse" (244 : Nat) "Levelhouse$Table" "name" "I") ∈ xTB := tc7 54 (by decide +kernel) rfl
theorem w1495 : (Jvm.Cond.fieldLink "Levelhouse$Table" (22 : Nat) "Levelhouse$Table" "label" "I") ∈ xTB := tc7 55 (by decide +kernel) rfl
theorem w1496 : (Jvm.Cond.fieldLink "Levelhouse$Meaning" (118 : Nat) "Levelhouse$Table" "label" "I") ∈ xTB := tc7 56 (by decide +kernel) rfl
theorem w1497 : (Jvm.Cond.fieldLink "Levelhouse$Change" (168 : Nat) "Levelhouse$Table" "label" "I") ∈ xTB := tc7 57 (by decide +kernel) rfl
theorem w1498 : (Jvm.Cond.fieldLink "Levelhouse" (233 : Nat) "Levelhouse$Table" "label" "I") ∈ xTB := tc7 58 (by decide +kernel) rfl
theorem w1499 : (Jvm.Cond.fieldLink "Levelhouse$Table" (25 : Nat) "Levelhouse$Table" "columns" "[I") ∈ xTB := tc7 59 (by decide +kernel) rfl
theorem w1500 : (Jvm.Cond.fieldLink "Levelhouse$Table" (30 : Nat) "Levelhouse$Table" "kinds" "[LLevelhouse$Word;") ∈ xTB := tc7 60 (by decide +kernel) rfl
theorem w1501 : (Jvm.Cond.fieldLink "Levelhouse$Table" (34 : Nat) "Levelhouse$Table" "refs" "[LLevelhouse$Table;") ∈ xTB := tc7 61 (by decide +kernel) rfl
theorem w1502 : (Jvm.Cond.fieldLink "Levelhouse$Table" (38 : Nat) "Levelhouse$Table" "check" "LLevelhouse$Formula;") ∈ xTB := tc7 62 (by decide +kernel) rfl
theorem w1503 : (Jvm.Cond.fieldLink "Levelhouse$Change" (193 : Nat) "Levelhouse$Table" "check" "LLevelhouse$Formula;") ∈ xTB := tc7 63 (by decide +kernel) rfl
theorem w1504 : (Jvm.Cond.fieldLink "Levelhouse$Table" (9 : Nat) "Levelhouse$Table" "given" "[I") ∈ xTB := tc7 64 (by decide +kernel) rfl
theorem w1505 : (Jvm.Cond.fieldLink "Levelhouse$Change" (210 : Nat) "Levelhouse$Table" "isDropped" "Z") ∈ xTB := tc7 65 (by decide +kernel) rfl
theorem w1506 : (Jvm.Cond.fieldLink "Levelhouse" (337 : Nat) "Levelhouse$Table" "isDropped" "Z") ∈ xTB := tc7 66 (by decide +kernel) rfl
theorem w1507 : (Jvm.Cond.laysFinal "Levelhouse$Table" "Levelhouse$Table" "serial" "I") ∈ xTB := tc7 67 (by decide +kernel) rfl
theorem w1509 : (Jvm.Cond.laysFinal "Levelhouse$Table" "Levelhouse$Table" "name" "I") ∈ xTB := tc7 69 (by decide +kernel) rfl
theorem w1511 : (Jvm.Cond.laysFinal "Levelhouse$Table" "Levelhouse$Table" "label" "I") ∈ xTB := tc7 71 (by decide +kernel) rfl
theorem w1513 : (Jvm.Cond.laysFinal "Levelhouse$Table" "Levelhouse$Table" "columns" "[I") ∈ xTB := tc7 73 (by decide +kernel) rfl
theorem w1515 : (Jvm.Cond.laysFinal "Levelhouse$Table" "Levelhouse$Table" "kinds" "[LLevelhouse$Word;") ∈ xTB := tc7 75 (by decide +kernel) rfl
theorem w1517 : (Jvm.Cond.laysFinal "Levelhouse$Table" "Levelhouse$Table" "refs" "[LLevelhouse$Table;") ∈ xTB := tc7 77 (by decide +kernel) rfl
theorem w1519 : (Jvm.Cond.laysFinal "Levelhouse$Table" "Levelhouse$Table" "check" "LLevelhouse$Formula;") ∈ xTB := tc7 79 (by decide +kernel) rfl
theorem w1521 : (Jvm.Cond.laysFinal "Levelhouse$Table" "Levelhouse$Table" "given" "[I") ∈ xTB := tc7 81 (by decide +kernel) rfl
theorem w1523 : (Jvm.Cond.lays "Levelhouse$Table" "Levelhouse$Table" "isDropped" "Z") ∈ xTB := tc7 83 (by decide +kernel) rfl
theorem w1526 : (Jvm.Cond.methodLink "Levelhouse$Meaning" (257 : Nat) ({ cls := "Levelhouse$Table", name := "setColumn", desc := "(IILLevelhouse$Word;LLevelhouse$Table;)V" } : Jvm.MethodName)) ∈ xTB := tc7 86 (by decide +kernel) rfl
theorem w1527 : (Jvm.Cond.instanceMethod ({ cls := "Levelhouse$Table", name := "setColumn", desc := "(IILLevelhouse$Word;LLevelhouse$Table;)V" } : Jvm.MethodName)) ∈ xTB := tc7 87 (by decide +kernel) rfl
theorem w1528 : (Jvm.Cond.selects "Levelhouse$Table" ({ cls := "Levelhouse$Table", name := "setColumn", desc := "(IILLevelhouse$Word;LLevelhouse$Table;)V" } : Jvm.MethodName) ({ cls := "Levelhouse$Table", name := "setColumn", desc := "(IILLevelhouse$Word;LLevelhouse$Table;)V" } : Jvm.MethodName)) ∈ xTB := tc7 88 (by decide +kernel) rfl
theorem w1529 : (Jvm.Cond.code ({ cls := "Levelhouse$Table", name := "setColumn", desc := "(IILLevelhouse$Word;LLevelhouse$Table;)V" } : Jvm.MethodName) prog_13_method_2_code (5 : Nat) (Option.none : Option Jvm.ClassFile.FieldType)) ∈ xTB := tc7 89 (by decide +kernel) rfl
theorem w1530 : (Jvm.Cond.methodLink "Levelhouse" (330 : Nat) ({ cls := "java/util/ArrayList", name := "add", desc := "(ILjava/lang/Object;)V" } : Jvm.MethodName)) ∈ xTB := tc7 90 (by decide +kernel) rfl
theorem w1531 : (Jvm.Cond.instanceMethod ({ cls := "java/util/ArrayList", name := "add", desc := "(ILjava/lang/Object;)V" } : Jvm.MethodName)) ∈ xTB := tc7 91 (by decide +kernel) rfl
theorem w1532 : (Jvm.Cond.selects "java/util/ArrayList" ({ cls := "java/util/ArrayList", name := "add", desc := "(ILjava/lang/Object;)V" } : Jvm.MethodName) ({ cls := "java/util/ArrayList", name := "add", desc := "(ILjava/lang/Object;)V" } : Jvm.MethodName)) ∈ xTB := tc7 92 (by decide +kernel) rfl
theorem w1533 : (Jvm.Cond.code ({ cls := "java/util/ArrayList", name := "add", desc := "(ILjava/lang/Object;)V" } : Jvm.MethodName) prog_57_method_26_code (5 : Nat) (Option.none : Option Jvm.ClassFile.FieldType)) ∈ xTB := tc7 93 (by decide +kernel) rfl
theorem w1534 : (Jvm.Cond.methodLink "java/util/ArrayList" (135 : Nat) ({ cls := "java/util/ArrayList", name := "rangeCheckForAdd", desc := "(I)V" } : Jvm.MethodName)) ∈ xTB := tc7 94 (by decide +kernel) rfl
theorem w1536 : (Jvm.Cond.instanceMethod ({ cls := "java/util/ArrayList", name := "rangeCheckForAdd", desc := "(I)V" } : Jvm.MethodName)) ∈ xTB := tc7 96 (by decide +kernel) rfl
theorem w1537 : (Jvm.Cond.code ({ cls := "java/util/ArrayList", name := "rangeCheckForAdd", desc := "(I)V" } : Jvm.MethodName) prog_57_method_45_code (2 : Nat) (Option.none : Option Jvm.ClassFile.FieldType)) ∈ xTB := tc7 97 (by decide +kernel) rfl
theorem w1538 : (Jvm.Cond.methodLink "java/util/ArrayList" (112 : Nat) ({ cls := "java/lang/System", name := "arraycopy", desc := "(Ljava/lang/Object;ILjava/lang/Object;II)V" } : Jvm.MethodName)) ∈ xTB := tc7 98 (by decide +kernel) rfl
theorem w1539 : (Jvm.Cond.methodLink "Levelhouse" (156 : Nat) ({ cls := "Levelhouse", name := "dropTable", desc := "(LLevelhouse$Session;)I" } : Jvm.MethodName)) ∈ xTB := tc7 99 (by decide +kernel) rfl
theorem w1541 : (Jvm.Cond.instanceMethod ({ cls := "Levelhouse", name := "dropTable", desc := "(LLevelhouse$Session;)I" } : Jvm.MethodName)) ∈ xTB := tc7 101 (by decide +kernel) rfl
theorem w1542 : (Jvm.Cond.code ({ cls := "Levelhouse", name := "dropTable", desc := "(LLevelhouse$Session;)I" } : Jvm.MethodName) prog_1_method_39_code (4 : Nat) (Option.some Jvm.ClassFile.FieldType.int)) ∈ xTB := tc7 102 (by decide +kernel) rfl
theorem w1543 : (Jvm.Cond.methodLink "Levelhouse" (343 : Nat) ({ cls := "java/util/ArrayList", name := "remove", desc := "(I)Ljava/lang/Object;" } : Jvm.MethodName)) ∈ xTB := tc7 103 (by decide +kernel) rfl
theorem w1544 : (Jvm.Cond.instanceMethod ({ cls := "java/util/ArrayList", name := "remove", desc := "(I)Ljava/lang/Object;" } : Jvm.MethodName)) ∈ xTB := tc7 104 (by decide +kernel) rfl
theorem w1545 : (Jvm.Cond.selects "java/util/ArrayList" ({ cls := "java/util/ArrayList", name := "remove", desc := "(I)Ljava/lang/Object;" } : Jvm.MethodName) ({ cls := "java/util/ArrayList", name := "remove", desc := "(I)Ljava/lang/Object;" } : Jvm.MethodName)) ∈ xTB := tc7 105 (by decide +kernel) rfl
theorem w1546 : (Jvm.Cond.code ({ cls := "java/util/ArrayList", name := "remove", desc := "(I)Ljava/lang/Object;" } : Jvm.MethodName) prog_57_method_29_code (4 : Nat) (Option.some (Jvm.ClassFile.FieldType.object "java/lang/Object"))) ∈ xTB := tc7 106 (by decide +kernel) rfl
theorem w1547 : (Jvm.Cond.methodLink "java/util/ArrayList" (144 : Nat) ({ cls := "java/util/ArrayList", name := "fastRemove", desc := "([Ljava/lang/Object;I)V" } : Jvm.MethodName)) ∈ xTB := tc7 107 (by decide +kernel) rfl
theorem w1549 : (Jvm.Cond.instanceMethod ({ cls := "java/util/ArrayList", name := "fastRemove", desc := "([Ljava/lang/Object;I)V" } : Jvm.MethodName)) ∈ xTB := tc7 109 (by decide +kernel) rfl
theorem w1550 : (Jvm.Cond.code ({ cls := "java/util/ArrayList", name := "fastRemove", desc := "([Ljava/lang/Object;I)V" } : Jvm.MethodName) prog_57_method_39_code (4 : Nat) (Option.none : Option Jvm.ClassFile.FieldType)) ∈ xTB := tc7 110 (by decide +kernel) rfl
theorem w1551 : (Jvm.Cond.methodLink "Levelhouse" (346 : Nat) ({ cls := "Levelhouse$Shelf", name := "drop", desc := "(LLevelhouse$Table;)V" } : Jvm.MethodName)) ∈ xTB := tc7 111 (by decide +kernel) rfl
theorem w1552 : (Jvm.Cond.instanceMethod ({ cls := "Levelhouse$Shelf", name := "drop", desc := "(LLevelhouse$Table;)V" } : Jvm.MethodName)) ∈ xTB := tc7 112 (by decide +kernel) rfl
theorem w1553 : (Jvm.Cond.selects "Levelhouse$Shelf" ({ cls := "Levelhouse$Shelf", name := "drop", desc := "(LLevelhouse$Table;)V" } : Jvm.MethodName) ({ cls := "Levelhouse$Shelf", name := "drop", desc := "(LLevelhouse$Table;)V" } : Jvm.MethodName)) ∈ xTB := tc7 113 (by decide +kernel) rfl
theorem w1554 : (Jvm.Cond.code ({ cls := "Levelhouse$Shelf", name := "drop", desc := "(LLevelhouse$Table;)V" } : Jvm.MethodName) prog_10_method_10_code (5 : Nat) (Option.none : Option Jvm.ClassFile.FieldType)) ∈ xTB := tc7 114 (by decide +kernel) rfl
theorem w1555 : (Jvm.Cond.methodLink "Levelhouse$Shelf" (66 : Nat) ({ cls := "java/util/ArrayList", name := "set", desc := "(ILjava/lang/Object;)Ljava/lang/Object;" } : Jvm.MethodName)) ∈ xTB := tc7 115 (by decide +kernel) rfl
theorem w1556 : (Jvm.Cond.instanceMethod ({ cls := "java/util/ArrayList", name := "set", desc := "(ILjava/lang/Object;)Ljava/lang/Object;" } : Jvm.MethodName)) ∈ xTB := tc7 116 (by decide +kernel) rfl
theorem w1557 : (Jvm.Cond.selects "java/util/ArrayList" ({ cls := "java/util/ArrayList", name := "set", desc := "(ILjava/lang/Object;)Ljava/lang/Object;" } : Jvm.MethodName) ({ cls := "java/util/ArrayList", name := "set", desc := "(ILjava/lang/Object;)Ljava/lang/Object;" } : Jvm.MethodName)) ∈ xTB := tc7 117 (by decide +kernel) rfl
theorem w1558 : (Jvm.Cond.code ({ cls := "java/util/ArrayList", name := "set", desc := "(ILjava/lang/Object;)Ljava/lang/Object;" } : Jvm.MethodName) prog_57_method_23_code (4 : Nat) (Option.some (Jvm.ClassFile.FieldType.object "java/lang/Object"))) ∈ xTB := tc7 118 (by decide +kernel) rfl
theorem w1559 : (Jvm.Cond.methodLink "Levelhouse$Shelf" (74 : Nat) ({ cls := "java/util/ArrayList", name := "remove", desc := "(I)Ljava/lang/Object;" } : Jvm.MethodName)) ∈ xTB := tc7 119 (by decide +kernel) rfl
theorem w1560 : (Jvm.Cond.methodLink "Levelhouse" (159 : Nat) ({ cls := "Levelhouse", name := "lower", desc := "(LLevelhouse$Session;)I" } : Jvm.MethodName)) ∈ xTB := tc7 120 (by decide +kernel) rfl
theorem w1562 : (Jvm.Cond.instanceMethod ({ cls := "Levelhouse", name := "lower", desc := "(LLevelhouse$Session;)I" } : Jvm.MethodName)) ∈ xTB := tc7 122 (by decide +kernel) rfl
theorem w1563 : (Jvm.Cond.code ({ cls := "Levelhouse", name := "lower", desc := "(LLevelhouse$Session;)I" } : Jvm.MethodName) prog_1_method_40_code (2 : Nat) (Option.some Jvm.ClassFile.FieldType.int)) ∈ xTB := tc7 123 (by decide +kernel) rfl
theorem w1564 : (Jvm.Cond.methodLink "Levelhouse" (350 : Nat) ({ cls := "Levelhouse$Change", name := "start", desc := "(LLevelhouse$Shelf;I)V" } : Jvm.MethodName)) ∈ xTB := tc7 124 (by decide +kernel) rfl
theorem w1565 : (Jvm.Cond.instanceMethod ({ cls := "Levelhouse$Change", name := "start", desc := "(LLevelhouse$Shelf;I)V" } : Jvm.MethodName)) ∈ xTB := tc7 125 (by decide +kernel) rfl
theorem w1566 : (Jvm.Cond.selects "Levelhouse$Change" ({ cls := "Levelhouse$Change", name := "start", desc := "(LLevelhouse$Shelf;I)V" } : Jvm.MethodName) ({ cls := "Levelhouse$Change", name := "start", desc := "(LLevelhouse$Shelf;I)V" } : Jvm.MethodName)) ∈ xTB := tc7 126 (by decide +kernel) rfl
theorem w1567 : (Jvm.Cond.code ({ cls := "Levelhouse$Change", name := "start", desc := "(LLevelhouse$Shelf;I)V" } : Jvm.MethodName) prog_3_method_2_code (3 : Nat) (Option.none : Option Jvm.ClassFile.FieldType)) ∈ xTB := tc7 127 (by decide +kernel) rfl
theorem w1568 : (Jvm.Cond.methodLink "Levelhouse$Change" (35 : Nat) ({ cls := "Levelhouse$Shelf", name := "fill", desc := "(LLevelhouse$Shelf;)V" } : Jvm.MethodName)) ∈ xTB := tc7 128 (by decide +kernel) rfl
theorem w1569 : (Jvm.Cond.instanceMethod ({ cls := "Levelhouse$Shelf", name := "fill", desc := "(LLevelhouse$Shelf;)V" } : Jvm.MethodName)) ∈ xTB := tc7 129 (by decide +kernel) rfl
theorem w1570 : (Jvm.Cond.selects "Levelhouse$Shelf" ({ cls := "Levelhouse$Shelf", name := "fill", desc := "(LLevelhouse$Shelf;)V" } : Jvm.MethodName) ({ cls := "Levelhouse$Shelf", name := "fill", desc := "(LLevelhouse$Shelf;)V" } : Jvm.MethodName)) ∈ xTB := tc7 130 (by decide +kernel) rfl
theorem w1571 : (Jvm.Cond.code ({ cls := "Levelhouse$Shelf", name := "fill", desc := "(LLevelhouse$Shelf;)V" } : Jvm.MethodName) prog_10_method_5_code (2 : Nat) (Option.none : Option Jvm.ClassFile.FieldType)) ∈ xTB := tc7 131 (by decide +kernel) rfl
theorem w1572 : (Jvm.Cond.methodLinkNest "Levelhouse$Shelf" (31 : Nat) ({ cls := "Levelhouse", name := "addAll", desc := "(Ljava/util/ArrayList;Ljava/util/ArrayList;)V" } : Jvm.MethodName) "Levelhouse") ∈ xTB := tc7 132 (by decide +kernel) rfl
theorem w1573 : (Jvm.Cond.static ({ cls := "Levelhouse", name := "addAll", desc := "(Ljava/util/ArrayList;Ljava/util/ArrayList;)V" } : Jvm.MethodName)) ∈ xTB := tc7 133 (by decide +kernel) rfl
theorem w1574 : (Jvm.Cond.code ({ cls := "Levelhouse", name := "addAll", desc := "(Ljava/util/ArrayList;Ljava/util/ArrayList;)V" } : Jvm.MethodName) prog_1_method_31_code (3 : Nat) (Option.none : Option Jvm.ClassFile.FieldType)) ∈ xTB := tc7 134 (by decide +kernel) rfl
theorem w1575 : (Jvm.Cond.classLink "Levelhouse" (287 : Nat) "Levelhouse$Entry") ∈ xTB := tc7 135 (by decide +kernel) rfl
theorem w1576 : (Jvm.Cond.methodLink "Levelhouse" (289 : Nat) ({ cls := "java/util/ArrayList", name := "add", desc := "(Ljava/lang/Object;)Z" } : Jvm.MethodName)) ∈ xTB := tc7 136 (by decide +kernel) rfl
theorem w1577 : (Jvm.Cond.methodLink "Levelhouse$Change" (39 : Nat) ({ cls := "java/util/ArrayList", name := "clear", desc := "()V" } : Jvm.MethodName)) ∈ xTB := tc7 137 (by decide +kernel) rfl
theorem w1578 : (Jvm.Cond.methodLink "Levelhouse" (353 : Nat) ({ cls := "Levelhouse$Change", name := "lower", desc := "(LLevelhouse$Statement;LLevelhouse$Meaning;)C" } : Jvm.MethodName)) ∈ xTB := tc7 138 (by decide +kernel) rfl
theorem w1579 : (Jvm.Cond.instanceMethod ({ cls := "Levelhouse$Change", name := "lower", desc := "(LLevelhouse$Statement;LLevelhouse$Meaning;)C" } : Jvm.MethodName)) ∈ xTB := tc7 139 (by decide +kernel) rfl
theorem w1580 : (Jvm.Cond.selects "Levelhouse$Change" ({ cls := "Levelhouse$Change", name := "lower", desc := "(LLevelhouse$Statement;LLevelhouse$Meaning;)C" } : Jvm.MethodName) ({ cls := "Levelhouse$Change", name := "lower", desc := "(LLevelhouse$Statement;LLevelhouse$Meaning;)C" } : Jvm.MethodName)) ∈ xTB := tc7 140 (by decide +kernel) rfl
theorem w1581 : (Jvm.Cond.code ({ cls := "Levelhouse$Change", name := "lower", desc := "(LLevelhouse$Statement;LLevelhouse$Meaning;)C" } : Jvm.MethodName) prog_3_method_8_code (7 : Nat) (Option.some Jvm.ClassFile.FieldType.char)) ∈ xTB := tc7 141 (by decide +kernel) rfl
theorem w1582 : (Jvm.Cond.methodLink "Levelhouse$Change" (89 : Nat) ({ cls := "Levelhouse$Statement", name := "itemResult", desc := "(ILLevelhouse$Entry;LLevelhouse$Entry;)I" } : Jvm.MethodName)) ∈ xTB := tc7 142 (by decide +kernel) rfl
theorem w1583 : (Jvm.Cond.constant "Levelhouse$Change" (93 : Nat) (-1000000000 : Int32)) ∈ xTB := tc7 143 (by decide +kernel) rfl
theorem w1584 : (Jvm.Cond.methodLinkNest "Levelhouse$Change" (160 : Nat) ({ cls := "Levelhouse", name := "isLabel", desc := "(I)Z" } : Jvm.MethodName) "Levelhouse") ∈ xTB := tc7 144 (by decide +kernel) rfl
theorem w1585 : (Jvm.Cond.methodLinkNest "Levelhouse$Change" (164 : Nat) ({ cls := "Levelhouse", name := "isBelow", desc := "(II)Z" } : Jvm.MethodName) "Levelhouse") ∈ xTB := tc7 145 (by decide +kernel) rfl
theorem w1586 : (Jvm.Cond.methodLink "Levelhouse$Change" (94 : Nat) ({ cls := "Levelhouse$Shelf", name := "find", desc := "(LLevelhouse$Table;II)LLevelhouse$Entry;" } : Jvm.MethodName)) ∈ xTB := tc7 146 (by decide +kernel) rfl
theorem w1587 : (Jvm.Cond.instanceMethod ({ cls := "Levelhouse$Shelf", name := "find", desc := "(LLevelhouse$Table;II)LLevelhouse$Entry;" } : Jvm.MethodName)) ∈ xTB := tc7 147 (by decide +kernel) rfl
theorem w1588 : (Jvm.Cond.selects "Levelhouse$Shelf" ({ cls := "Levelhouse$Shelf", name := "find", desc := "(LLevelhouse$Table;II)LLevelhouse$Entry;" } : Jvm.MethodName) ({ cls := "Levelhouse$Shelf", name := "find", desc := "(LLevelhouse$Table;II)LLevelhouse$Entry;" } : Jvm.MethodName)) ∈ xTB := tc7 148 (by decide +kernel) rfl
theorem w1589 : (Jvm.Cond.code ({ cls := "Levelhouse$Shelf", name := "find", desc := "(LLevelhouse$Table;II)LLevelhouse$Entry;" } : Jvm.MethodName) prog_10_method_7_code (5 : Nat) (Option.some (Jvm.ClassFile.FieldType.object "Levelhouse$Entry"))) ∈ xTB := tc7 149 (by decide +kernel) rfl
theorem w1590 : (Jvm.Cond.methodLink "Levelhouse$Shelf" (45 : Nat) ({ cls := "Levelhouse$Shelf", name := "placeIn", desc := "(Ljava/util/ArrayList;III)I" } : Jvm.MethodName)) ∈ xTB := tc7 150 (by decide +kernel) rfl
theorem w1591 : (Jvm.Cond.classLink "Levelhouse$Change" (99 : Nat) "Levelhouse$Entry") ∈ xTB := tc7 151 (by decide +kernel) rfl
theorem w1592 : (Jvm.Cond.instantiable "Levelhouse$Entry" (5 : Nat)) ∈ xTB := tc7 152 (by decide +kernel) rfl
theorem w1593 : (Jvm.Cond.methodLink "Levelhouse$Change" (103 : Nat) ({ cls := "Levelhouse$Entry", name := "<init>", desc := "(LLevelhouse$Table;IIZ[I)V" } : Jvm.MethodName)) ∈ xTB := tc7 153 (by decide +kernel) rfl
theorem w1594 : (Jvm.Cond.instanceMethod ({ cls := "Levelhouse$Entry", name := "<init>", desc := "(LLevelhouse$Table;IIZ[I)V" } : Jvm.MethodName)) ∈ xTB := tc7 154 (by decide +kernel) rfl
theorem w1595 : (Jvm.Cond.code ({ cls := "Levelhouse$Entry", name := "<init>", desc := "(LLevelhouse$Table;IIZ[I)V" } : Jvm.MethodName) prog_4_method_1_code (6 : Nat) (Option.none : Option Jvm.ClassFile.FieldType)) ∈ xTB := tc7 155 (by decide +kernel) rfl
theorem w1596 : (Jvm.Cond.methodLink "Levelhouse$Entry" (3 : Nat) ({ cls := "java/lang/Object", name := "<init>", desc := "()V" } : Jvm.MethodName)) ∈ xTB := tc7 156 (by decide +kernel) rfl
theorem w1597 : (Jvm.Cond.fieldLink "Levelhouse$Entry" (9 : Nat) "Levelhouse$Entry" "table" "LLevelhouse$Table;") ∈ xTB := tc7 157 (by decide +kernel) rfl
theorem w1598 : (Jvm.Cond.fieldLink "Levelhouse$Sight" (63 : Nat) "Levelhouse$Entry" "table" "LLevelhouse$Table;") ∈ xTB := tc7 158 (by decide +kernel) rfl
theorem w1599 : (Jvm.Cond.fieldLink "Levelhouse$Change" (140 : Nat) "Levelhouse$Entry" "table" "LLevelhouse$Table;") ∈ xTB := tc7 159 (by decide +kernel) rfl
theorem w1600 : (Jvm.Cond.fieldLink "Levelhouse$Shelf" (52 : Nat) "Levelhouse$Entry" "table" "LLevelhouse$Table;") ∈ xTB := tc7 160 (by decide +kernel) rfl
theorem w1601 : (Jvm.Cond.fieldLink "Levelhouse$Entry" (15 : Nat) "Levelhouse$Entry" "key" "I") ∈ xTB := tc7 161 (by decide +kernel) rfl
theorem w1602 : (Jvm.Cond.fieldLink "Levelhouse$Change" (120 : Nat) "Levelhouse$Entry" "key" "I") ∈ xTB := tc7 162 (by decide +kernel) rfl
theorem w1603 : (Jvm.Cond.fieldLink "Levelhouse$Sight" (88 : Nat) "Levelhouse$Entry" "key" "I") ∈ xTB := tc7 163 (by decide +kernel) rfl
theorem w1604 : (Jvm.Cond.fieldLink "Levelhouse$Shelf" (56 : Nat) "Levelhouse$Entry" "key" "I") ∈ xTB := tc7 164 (by decide +kernel) rfl
theorem w1605 : (Jvm.Cond.fieldLink "Levelhouse$Entry" (19 : Nat) "Levelhouse$Entry" "label" "I") ∈ xTB := tc7 165 (by decide +kernel) rfl
theorem w1606 : (Jvm.Cond.fieldLink "Levelhouse$Query" (158 : Nat) "Levelhouse$Entry" "label" "I") ∈ xTB := tc7 166 (by decide +kernel) rfl
theorem w1607 : (Jvm.Cond.fieldLink "Levelhouse$Shelf" (59 : Nat) "Levelhouse$Entry" "label" "I") ∈ xTB := tc7 167 (by decide +kernel) rfl
theorem w1608 : (Jvm.Cond.fieldLink "Levelhouse$Sight" (95 : Nat) "Levelhouse$Entry" "label" "I") ∈ xTB := tc7 168 (by decide +kernel) rfl
theorem w1609 : (Jvm.Cond.fieldLink "Levelhouse$Change" (235 : Nat) "Levelhouse$Entry" "label" "I") ∈ xTB := tc7 169 (by decide +kernel) rfl
theorem w1610 : (Jvm.Cond.fieldLink "Levelhouse$Formula" (131 : Nat) "Levelhouse$Entry" "label" "I") ∈ xTB := tc7 170 (by decide +kernel) rfl
theorem w1611 : (Jvm.Cond.fieldLink "Levelhouse$Entry" (22 : Nat) "Levelhouse$Entry" "isVeil" "Z") ∈ xTB := tc7 171 (by decide +kernel) rfl
theorem w1612 : (Jvm.Cond.fieldLink "Levelhouse$Query" (155 : Nat) "Levelhouse$Entry" "isVeil" "Z") ∈ xTB := tc7 172 (by decide +kernel) rfl
theorem w1613 : (Jvm.Cond.fieldLink "Levelhouse$Change" (98 : Nat) "Levelhouse$Entry" "isVeil" "Z") ∈ xTB := tc7 173 (by decide +kernel) rfl
theorem w1614 : (Jvm.Cond.fieldLink "Levelhouse$Shelf" (81 : Nat) "Levelhouse$Entry" "isVeil" "Z") ∈ xTB := tc7 174 (by decide +kernel) rfl
theorem w1615 : (Jvm.Cond.fieldLink "Levelhouse$Entry" (26 : Nat) "Levelhouse$Entry" "cells" "[I") ∈ xTB := tc7 175 (by decide +kernel) rfl
theorem w1616 : (Jvm.Cond.fieldLinkNest "Levelhouse$Change" (169 : Nat) "Levelhouse$Entry" "cells" "[I" "Levelhouse") ∈ xTB := tc7 176 (by decide +kernel) rfl
theorem w1617 : (Jvm.Cond.fieldLinkNest "Levelhouse" (390 : Nat) "Levelhouse$Entry" "cells" "[I" "Levelhouse") ∈ xTB := tc7 177 (by decide +kernel) rfl
theorem w1618 : (Jvm.Cond.laysFinal "Levelhouse$Entry" "Levelhouse$Entry" "table" "LLevelhouse$Table;") ∈ xTB := tc7 178 (by decide +kernel) rfl
theorem w1620 : (Jvm.Cond.laysFinal "Levelhouse$Entry" "Levelhouse$Entry" "key" "I") ∈ xTB := tc7 180 (by decide +kernel) rfl
theorem w1622 : (Jvm.Cond.laysFinal "Levelhouse$Entry" "Levelhouse$Entry" "label" "I") ∈ xTB := tc7 182 (by decide +kernel) rfl
theorem w1624 : (Jvm.Cond.laysFinal "Levelhouse$Entry" "Levelhouse$Entry" "isVeil" "Z") ∈ xTB := tc7 184 (by decide +kernel) rfl
theorem w1626 : (Jvm.Cond.laysFinal "Levelhouse$Entry" "Levelhouse$Entry" "cells" "[I") ∈ xTB := tc7 186 (by decide +kernel) rfl
theorem w1629 : (Jvm.Cond.methodLink "Levelhouse$Change" (106 : Nat) ({ cls := "Levelhouse$Change", name := "make", desc := "(LLevelhouse$Entry;)V" } : Jvm.MethodName)) ∈ xTB := tc7 189 (by decide +kernel) rfl
theorem w1631 : (Jvm.Cond.instanceMethod ({ cls := "Levelhouse$Change", name := "make", desc := "(LLevelhouse$Entry;)V" } : Jvm.MethodName)) ∈ xTB := tc7 191 (by decide +kernel) rfl
theorem w1632 : (Jvm.Cond.code ({ cls := "Levelhouse$Change", name := "make", desc := "(LLevelhouse$Entry;)V" } : Jvm.MethodName) prog_3_method_3_code (2 : Nat) (Option.none : Option Jvm.ClassFile.FieldType)) ∈ xTB := tc7 192 (by decide +kernel) rfl
theorem w1633 : (Jvm.Cond.methodLink "Levelhouse$Change" (53 : Nat) ({ cls := "Levelhouse$Shelf", name := "store", desc := "(LLevelhouse$Entry;)V" } : Jvm.MethodName)) ∈ xTB := tc7 193 (by decide +kernel) rfl
theorem w1634 : (Jvm.Cond.instanceMethod ({ cls := "Levelhouse$Shelf", name := "store", desc := "(LLevelhouse$Entry;)V" } : Jvm.MethodName)) ∈ xTB := tc7 194 (by decide +kernel) rfl
theorem w1635 : (Jvm.Cond.selects "Levelhouse$Shelf" ({ cls := "Levelhouse$Shelf", name := "store", desc := "(LLevelhouse$Entry;)V" } : Jvm.MethodName) ({ cls := "Levelhouse$Shelf", name := "store", desc := "(LLevelhouse$Entry;)V" } : Jvm.MethodName)) ∈ xTB := tc7 195 (by decide +kernel) rfl
theorem w1636 : (Jvm.Cond.code ({ cls := "Levelhouse$Shelf", name := "store", desc := "(LLevelhouse$Entry;)V" } : Jvm.MethodName) prog_10_method_8_code (4 : Nat) (Option.none : Option Jvm.ClassFile.FieldType)) ∈ xTB := tc7 196 (by decide +kernel) rfl
theorem w1637 : (Jvm.Cond.methodLink "Levelhouse$Shelf" (62 : Nat) ({ cls := "Levelhouse$Entry", name := "isBeside", desc := "(LLevelhouse$Entry;)Z" } : Jvm.MethodName)) ∈ xTB := tc7 197 (by decide +kernel) rfl
theorem w1638 : (Jvm.Cond.instanceMethod ({ cls := "Levelhouse$Entry", name := "isBeside", desc := "(LLevelhouse$Entry;)Z" } : Jvm.MethodName)) ∈ xTB := tc7 198 (by decide +kernel) rfl
theorem w1639 : (Jvm.Cond.selects "Levelhouse$Entry" ({ cls := "Levelhouse$Entry", name := "isBeside", desc := "(LLevelhouse$Entry;)Z" } : Jvm.MethodName) ({ cls := "Levelhouse$Entry", name := "isBeside", desc := "(LLevelhouse$Entry;)Z" } : Jvm.MethodName)) ∈ xTB := tc7 199 (by decide +kernel) rfl
theorem w1640 : (Jvm.Cond.code ({ cls := "Levelhouse$Entry", name := "isBeside", desc := "(LLevelhouse$Entry;)Z" } : Jvm.MethodName) prog_4_method_5_code (2 : Nat) (Option.some Jvm.ClassFile.FieldType.boolean)) ∈ xTB := tc7 200 (by decide +kernel) rfl
theorem w1641 : (Jvm.Cond.methodLink "Levelhouse$Entry" (36 : Nat) ({ cls := "Levelhouse$Entry", name := "compare", desc := "(III)I" } : Jvm.MethodName)) ∈ xTB := tc7 201 (by decide +kernel) rfl
theorem w1642 : (Jvm.Cond.methodLink "Levelhouse$Shelf" (70 : Nat) ({ cls := "java/util/ArrayList", name := "add", desc := "(ILjava/lang/Object;)V" } : Jvm.MethodName)) ∈ xTB := tc7 202 (by decide +kernel) rfl
theorem w1643 : (Jvm.Cond.methodLink "Levelhouse$Change" (57 : Nat) ({ cls := "java/util/ArrayList", name := "add", desc := "(Ljava/lang/Object;)Z" } : Jvm.MethodName)) ∈ xTB := tc7 203 (by decide +kernel) rfl
theorem w1644 : (Jvm.Cond.methodLink "Levelhouse$Change" (173 : Nat) ({ cls := "Levelhouse$Shelf", name := "count", desc := "(LLevelhouse$Table;I)I" } : Jvm.MethodName)) ∈ xTB := tc7 204 (by decide +kernel) rfl
theorem w1645 : (Jvm.Cond.instanceMethod ({ cls := "Levelhouse$Shelf", name := "count", desc := "(LLevelhouse$Table;I)I" } : Jvm.MethodName)) ∈ xTB := tc7 205 (by decide +kernel) rfl
theorem w1646 : (Jvm.Cond.selects "Levelhouse$Shelf" ({ cls := "Levelhouse$Shelf", name := "count", desc := "(LLevelhouse$Table;I)I" } : Jvm.MethodName) ({ cls := "Levelhouse$Shelf", name := "count", desc := "(LLevelhouse$Table;I)I" } : Jvm.MethodName)) ∈ xTB := tc7 206 (by decide +kernel) rfl
theorem w1647 : (Jvm.Cond.code ({ cls := "Levelhouse$Shelf", name := "count", desc := "(LLevelhouse$Table;I)I" } : Jvm.MethodName) prog_10_method_14_code (5 : Nat) (Option.some Jvm.ClassFile.FieldType.int)) ∈ xTB := tc7 207 (by decide +kernel) rfl
theorem w1648 : (Jvm.Cond.methodLink "Levelhouse" (356 : Nat) ({ cls := "Levelhouse", name := "keepChange", desc := "(LLevelhouse$Session;)V" } : Jvm.MethodName)) ∈ xTB := tc7 208 (by decide +kernel) rfl
theorem w1650 : (Jvm.Cond.instanceMethod ({ cls := "Levelhouse", name := "keepChange", desc := "(LLevelhouse$Session;)V" } : Jvm.MethodName)) ∈ xTB := tc7 210 (by decide +kernel) rfl
theorem w1651 : (Jvm.Cond.code ({ cls := "Levelhouse", name := "keepChange", desc := "(LLevelhouse$Session;)V" } : Jvm.MethodName) prog_1_method_42_code (2 : Nat) (Option.none : Option Jvm.ClassFile.FieldType)) ∈ xTB := tc7 211 (by decide +kernel) rfl
theorem w1652 : (Jvm.Cond.methodLink "Levelhouse" (216 : Nat) ({ cls := "Levelhouse$Shelf", name := "fill", desc := "(LLevelhouse$Shelf;)V" } : Jvm.MethodName)) ∈ xTB := tc7 212 (by decide +kernel) rfl
theorem w1653 : (Jvm.Cond.methodLink "Levelhouse" (380 : Nat) ({ cls := "Levelhouse$Session", name := "addChanged", desc := "(Ljava/util/ArrayList;)V" } : Jvm.MethodName)) ∈ xTB := tc7 213 (by decide +kernel) rfl
theorem w1654 : (Jvm.Cond.instanceMethod ({ cls := "Levelhouse$Session", name := "addChanged", desc := "(Ljava/util/ArrayList;)V" } : Jvm.MethodName)) ∈ xTB := tc7 214 (by decide +kernel) rfl
theorem w1655 : (Jvm.Cond.selects "Levelhouse$Session" ({ cls := "Levelhouse$Session", name := "addChanged", desc := "(Ljava/util/ArrayList;)V" } : Jvm.MethodName) ({ cls := "Levelhouse$Session", name := "addChanged", desc := "(Ljava/util/ArrayList;)V" } : Jvm.MethodName)) ∈ xTB := tc7 215 (by decide +kernel) rfl
theorem w1656 : (Jvm.Cond.code ({ cls := "Levelhouse$Session", name := "addChanged", desc := "(Ljava/util/ArrayList;)V" } : Jvm.MethodName) prog_9_method_10_code (4 : Nat) (Option.none : Option Jvm.ClassFile.FieldType)) ∈ xTB := tc7 216 (by decide +kernel) rfl
theorem w1657 : (Jvm.Cond.methodLink "Levelhouse$Session" (86 : Nat) ({ cls := "java/util/ArrayList", name := "size", desc := "()I" } : Jvm.MethodName)) ∈ xTB := tc7 217 (by decide +kernel) rfl
theorem w1658 : (Jvm.Cond.methodLink "Levelhouse$Session" (90 : Nat) ({ cls := "java/util/ArrayList", name := "get", desc := "(I)Ljava/lang/Object;" } : Jvm.MethodName)) ∈ xTB := tc7 218 (by decide +kernel) rfl
theorem w1659 : (Jvm.Cond.classLink "Levelhouse$Session" (94 : Nat) "Levelhouse$Entry") ∈ xTB := tc7 219 (by decide +kernel) rfl
theorem w1660 : (Jvm.Cond.methodLink "Levelhouse$Session" (96 : Nat) ({ cls := "Levelhouse$Session", name := "hasChanged", desc := "(LLevelhouse$Entry;)Z" } : Jvm.MethodName)) ∈ xTB := tc7 220 (by decide +kernel) rfl
theorem w1662 : (Jvm.Cond.instanceMethod ({ cls := "Levelhouse$Session", name := "hasChanged", desc := "(LLevelhouse$Entry;)Z" } : Jvm.MethodName)) ∈ xTB := tc7 222 (by decide +kernel) rfl
theorem w1663 : (Jvm.Cond.code ({ cls := "Levelhouse$Session", name := "hasChanged", desc := "(LLevelhouse$Entry;)Z" } : Jvm.MethodName) prog_9_method_11_code (3 : Nat) (Option.some Jvm.ClassFile.FieldType.boolean)) ∈ xTB := tc7 223 (by decide +kernel) rfl
theorem w1664 : (Jvm.Cond.methodLink "Levelhouse$Session" (104 : Nat) ({ cls := "Levelhouse$Entry", name := "isBeside", desc := "(LLevelhouse$Entry;)Z" } : Jvm.MethodName)) ∈ xTB := tc7 224 (by decide +kernel) rfl
theorem w1665 : (Jvm.Cond.methodLink "Levelhouse$Session" (100 : Nat) ({ cls := "java/util/ArrayList", name := "add", desc := "(Ljava/lang/Object;)Z" } : Jvm.MethodName)) ∈ xTB := tc7 225 (by decide +kernel) rfl
theorem w1666 : (Jvm.Cond.methodLink "Levelhouse" (220 : Nat) ({ cls := "Levelhouse", name := "addAll", desc := "(Ljava/util/ArrayList;Ljava/util/ArrayList;)V" } : Jvm.MethodName)) ∈ xTB := tc7 226 (by decide +kernel) rfl
theorem w1667 : (Jvm.Cond.methodLink "Levelhouse" (387 : Nat) ({ cls := "Levelhouse$Table", name := "giveKey", desc := "(I)V" } : Jvm.MethodName)) ∈ xTB := tc7 227 (by decide +kernel) rfl
theorem w1668 : (Jvm.Cond.instanceMethod ({ cls := "Levelhouse$Table", name := "giveKey", desc := "(I)V" } : Jvm.MethodName)) ∈ xTB := tc7 228 (by decide +kernel) rfl
theorem w1669 : (Jvm.Cond.selects "Levelhouse$Table" ({ cls := "Levelhouse$Table", name := "giveKey", desc := "(I)V" } : Jvm.MethodName) ({ cls := "Levelhouse$Table", name := "giveKey", desc := "(I)V" } : Jvm.MethodName)) ∈ xTB := tc7 229 (by decide +kernel) rfl
theorem w1670 : (Jvm.Cond.code ({ cls := "Levelhouse$Table", name := "giveKey", desc := "(I)V" } : Jvm.MethodName) prog_13_method_8_code (2 : Nat) (Option.none : Option Jvm.ClassFile.FieldType)) ∈ xTB := tc7 230 (by decide +kernel) rfl
theorem w1671 : (Jvm.Cond.methodLink "Levelhouse" (162 : Nat) ({ cls := "Levelhouse", name := "alter", desc := "(LLevelhouse$Session;)I" } : Jvm.MethodName)) ∈ xTB := tc7 231 (by decide +kernel) rfl
theorem w1673 : (Jvm.Cond.instanceMethod ({ cls := "Levelhouse", name := "alter", desc := "(LLevelhouse$Session;)I" } : Jvm.MethodName)) ∈ xTB := tc7 233 (by decide +kernel) rfl
theorem w1674 : (Jvm.Cond.code ({ cls := "Levelhouse", name := "alter", desc := "(LLevelhouse$Session;)I" } : Jvm.MethodName) prog_1_method_41_code (2 : Nat) (Option.some Jvm.ClassFile.FieldType.int)) ∈ xTB := tc7 234 (by decide +kernel) rfl
theorem w1675 : (Jvm.Cond.fieldLink "Levelhouse" (360 : Nat) "Levelhouse$Word" "PUT" "LLevelhouse$Word;") ∈ xTB := tc7 235 (by decide +kernel) rfl
theorem w1676 : (Jvm.Cond.methodLink "Levelhouse" (363 : Nat) ({ cls := "Levelhouse$Change", name := "put", desc := "(LLevelhouse$Statement;LLevelhouse$Meaning;)C" } : Jvm.MethodName)) ∈ xTB := tc7 236 (by decide +kernel) rfl
theorem w1677 : (Jvm.Cond.instanceMethod ({ cls := "Levelhouse$Change", name := "put", desc := "(LLevelhouse$Statement;LLevelhouse$Meaning;)C" } : Jvm.MethodName)) ∈ xTB := tc7 237 (by decide +kernel) rfl
theorem w1678 : (Jvm.Cond.selects "Levelhouse$Change" ({ cls := "Levelhouse$Change", name := "put", desc := "(LLevelhouse$Statement;LLevelhouse$Meaning;)C" } : Jvm.MethodName) ({ cls := "Levelhouse$Change", name := "put", desc := "(LLevelhouse$Statement;LLevelhouse$Meaning;)C" } : Jvm.MethodName)) ∈ xTB := tc7 238 (by decide +kernel) rfl
theorem w1679 : (Jvm.Cond.code ({ cls := "Levelhouse$Change", name := "put", desc := "(LLevelhouse$Statement;LLevelhouse$Meaning;)C" } : Jvm.MethodName) prog_3_method_4_code (7 : Nat) (Option.some Jvm.ClassFile.FieldType.char)) ∈ xTB := tc7 239 (by decide +kernel) rfl
theorem w1680 : (Jvm.Cond.methodLink "Levelhouse$Change" (67 : Nat) ({ cls := "Levelhouse$Table", name := "width", desc := "()I" } : Jvm.MethodName)) ∈ xTB := tc8 0 (by decide +kernel) rfl
theorem w1681 : (Jvm.Cond.methodLink "Levelhouse$Change" (73 : Nat) ({ cls := "Levelhouse$Statement", name := "itemKind", desc := "(I)LLevelhouse$Word;" } : Jvm.MethodName)) ∈ xTB := tc8 1 (by decide +kernel) rfl
theorem w1682 : (Jvm.Cond.fieldLink "Levelhouse$Change" (79 : Nat) "Levelhouse$Word" "NEXT" "LLevelhouse$Word;") ∈ xTB := tc8 2 (by decide +kernel) rfl
theorem w1683 : (Jvm.Cond.methodLink "Levelhouse$Change" (85 : Nat) ({ cls := "Levelhouse$Table", name := "nextKey", desc := "(I)I" } : Jvm.MethodName)) ∈ xTB := tc8 3 (by decide +kernel) rfl
theorem w1684 : (Jvm.Cond.instanceMethod ({ cls := "Levelhouse$Table", name := "nextKey", desc := "(I)I" } : Jvm.MethodName)) ∈ xTB := tc8 4 (by decide +kernel) rfl
theorem w1685 : (Jvm.Cond.selects "Levelhouse$Table" ({ cls := "Levelhouse$Table", name := "nextKey", desc := "(I)I" } : Jvm.MethodName) ({ cls := "Levelhouse$Table", name := "nextKey", desc := "(I)I" } : Jvm.MethodName)) ∈ xTB := tc8 5 (by decide +kernel) rfl
theorem w1686 : (Jvm.Cond.code ({ cls := "Levelhouse$Table", name := "nextKey", desc := "(I)I" } : Jvm.MethodName) prog_13_method_7_code (2 : Nat) (Option.some Jvm.ClassFile.FieldType.int)) ∈ xTB := tc8 6 (by decide +kernel) rfl
theorem w1687 : (Jvm.Cond.constant "Levelhouse$Table" (46 : Nat) (-1000000000 : Int32)) ∈ xTB := tc8 7 (by decide +kernel) rfl
theorem w1688 : (Jvm.Cond.methodLink "Levelhouse" (366 : Nat) ({ cls := "Levelhouse$Change", name := "alterSeen", desc := "(LLevelhouse$Statement;LLevelhouse$Meaning;LLevelhouse$Sight;)V" } : Jvm.MethodName)) ∈ xTB := tc8 8 (by decide +kernel) rfl
theorem w1689 : (Jvm.Cond.instanceMethod ({ cls := "Levelhouse$Change", name := "alterSeen", desc := "(LLevelhouse$Statement;LLevelhouse$Meaning;LLevelhouse$Sight;)V" } : Jvm.MethodName)) ∈ xTB := tc8 9 (by decide +kernel) rfl
theorem w1690 : (Jvm.Cond.selects "Levelhouse$Change" ({ cls := "Levelhouse$Change", name := "alterSeen", desc := "(LLevelhouse$Statement;LLevelhouse$Meaning;LLevelhouse$Sight;)V" } : Jvm.MethodName) ({ cls := "Levelhouse$Change", name := "alterSeen", desc := "(LLevelhouse$Statement;LLevelhouse$Meaning;LLevelhouse$Sight;)V" } : Jvm.MethodName)) ∈ xTB := tc8 10 (by decide +kernel) rfl
theorem w1691 : (Jvm.Cond.code ({ cls := "Levelhouse$Change", name := "alterSeen", desc := "(LLevelhouse$Statement;LLevelhouse$Meaning;LLevelhouse$Sight;)V" } : Jvm.MethodName) prog_3_method_5_code (7 : Nat) (Option.none : Option Jvm.ClassFile.FieldType)) ∈ xTB := tc8 11 (by decide +kernel) rfl
theorem w1692 : (Jvm.Cond.methodLink "Levelhouse$Change" (109 : Nat) ({ cls := "Levelhouse$Sight", name := "size", desc := "()I" } : Jvm.MethodName)) ∈ xTB := tc8 12 (by decide +kernel) rfl
theorem w1693 : (Jvm.Cond.methodLink "Levelhouse$Change" (112 : Nat) ({ cls := "Levelhouse$Sight", name := "get", desc := "(I)LLevelhouse$Entry;" } : Jvm.MethodName)) ∈ xTB := tc8 13 (by decide +kernel) rfl
theorem w1694 : (Jvm.Cond.methodLink "Levelhouse$Change" (116 : Nat) ({ cls := "Levelhouse$Entry", name := "isOf", desc := "(LLevelhouse$Table;)Z" } : Jvm.MethodName)) ∈ xTB := tc8 14 (by decide +kernel) rfl
theorem w1695 : (Jvm.Cond.methodLink "Levelhouse$Change" (123 : Nat) ({ cls := "Levelhouse$Statement", name := "isMeant", desc := "(LLevelhouse$Entry;LLevelhouse$Entry;)Z" } : Jvm.MethodName)) ∈ xTB := tc8 15 (by decide +kernel) rfl
theorem w1696 : (Jvm.Cond.fieldLink "Levelhouse$Change" (130 : Nat) "Levelhouse$Word" "SET" "LLevelhouse$Word;") ∈ xTB := tc8 16 (by decide +kernel) rfl
theorem w1698 : (Jvm.Cond.methodLink "Levelhouse$Change" (133 : Nat) ({ cls := "Levelhouse$Change", name := "set", desc := "(LLevelhouse$Entry;LLevelhouse$Statement;LLevelhouse$Meaning;)V" } : Jvm.MethodName)) ∈ xTB := tc8 18 (by decide +kernel) rfl
theorem w1700 : (Jvm.Cond.instanceMethod ({ cls := "Levelhouse$Change", name := "set", desc := "(LLevelhouse$Entry;LLevelhouse$Statement;LLevelhouse$Meaning;)V" } : Jvm.MethodName)) ∈ xTB := tc8 20 (by decide +kernel) rfl
theorem w1701 : (Jvm.Cond.code ({ cls := "Levelhouse$Change", name := "set", desc := "(LLevelhouse$Entry;LLevelhouse$Statement;LLevelhouse$Meaning;)V" } : Jvm.MethodName) prog_3_method_6_code (7 : Nat) (Option.none : Option Jvm.ClassFile.FieldType)) ∈ xTB := tc8 21 (by decide +kernel) rfl
theorem w1702 : (Jvm.Cond.methodLink "Levelhouse$Change" (143 : Nat) ({ cls := "Levelhouse$Entry", name := "hold", desc := "(I)I" } : Jvm.MethodName)) ∈ xTB := tc8 22 (by decide +kernel) rfl
theorem w1703 : (Jvm.Cond.methodLink "Levelhouse$Change" (149 : Nat) ({ cls := "Levelhouse$Meaning", name := "column", desc := "(I)I" } : Jvm.MethodName)) ∈ xTB := tc8 23 (by decide +kernel) rfl
theorem w1704 : (Jvm.Cond.methodLink "Levelhouse$Change" (137 : Nat) ({ cls := "Levelhouse$Change", name := "cut", desc := "(LLevelhouse$Entry;)V" } : Jvm.MethodName)) ∈ xTB := tc8 24 (by decide +kernel) rfl
theorem w1706 : (Jvm.Cond.instanceMethod ({ cls := "Levelhouse$Change", name := "cut", desc := "(LLevelhouse$Entry;)V" } : Jvm.MethodName)) ∈ xTB := tc8 26 (by decide +kernel) rfl
theorem w1707 : (Jvm.Cond.code ({ cls := "Levelhouse$Change", name := "cut", desc := "(LLevelhouse$Entry;)V" } : Jvm.MethodName) prog_3_method_7_code (3 : Nat) (Option.none : Option Jvm.ClassFile.FieldType)) ∈ xTB := tc8 27 (by decide +kernel) rfl
theorem w1708 : (Jvm.Cond.methodLink "Levelhouse$Change" (152 : Nat) ({ cls := "Levelhouse$Shelf", name := "take", desc := "(LLevelhouse$Table;II)V" } : Jvm.MethodName)) ∈ xTB := tc8 28 (by decide +kernel) rfl
theorem w1709 : (Jvm.Cond.instanceMethod ({ cls := "Levelhouse$Shelf", name := "take", desc := "(LLevelhouse$Table;II)V" } : Jvm.MethodName)) ∈ xTB := tc8 29 (by decide +kernel) rfl
theorem w1710 : (Jvm.Cond.selects "Levelhouse$Shelf" ({ cls := "Levelhouse$Shelf", name := "take", desc := "(LLevelhouse$Table;II)V" } : Jvm.MethodName) ({ cls := "Levelhouse$Shelf", name := "take", desc := "(LLevelhouse$Table;II)V" } : Jvm.MethodName)) ∈ xTB := tc8 30 (by decide +kernel) rfl
theorem w1711 : (Jvm.Cond.code ({ cls := "Levelhouse$Shelf", name := "take", desc := "(LLevelhouse$Table;II)V" } : Jvm.MethodName) prog_10_method_9_code (6 : Nat) (Option.none : Option Jvm.ClassFile.FieldType)) ∈ xTB := tc8 31 (by decide +kernel) rfl
theorem w1712 : (Jvm.Cond.methodLink "Levelhouse$Change" (156 : Nat) ({ cls := "Levelhouse$Shelf", name := "hasChosen", desc := "(LLevelhouse$Table;II)Z" } : Jvm.MethodName)) ∈ xTB := tc8 32 (by decide +kernel) rfl
theorem w1713 : (Jvm.Cond.instanceMethod ({ cls := "Levelhouse$Shelf", name := "hasChosen", desc := "(LLevelhouse$Table;II)Z" } : Jvm.MethodName)) ∈ xTB := tc8 33 (by decide +kernel) rfl
theorem w1714 : (Jvm.Cond.selects "Levelhouse$Shelf" ({ cls := "Levelhouse$Shelf", name := "hasChosen", desc := "(LLevelhouse$Table;II)Z" } : Jvm.MethodName) ({ cls := "Levelhouse$Shelf", name := "hasChosen", desc := "(LLevelhouse$Table;II)Z" } : Jvm.MethodName)) ∈ xTB := tc8 34 (by decide +kernel) rfl
theorem w1715 : (Jvm.Cond.code ({ cls := "Levelhouse$Shelf", name := "hasChosen", desc := "(LLevelhouse$Table;II)Z" } : Jvm.MethodName) prog_10_method_13_code (8 : Nat) (Option.some Jvm.ClassFile.FieldType.boolean)) ∈ xTB := tc8 35 (by decide +kernel) rfl
theorem w1716 : (Jvm.Cond.methodLink "Levelhouse$Shelf" (95 : Nat) ({ cls := "Levelhouse$Shelf", name := "endOfKey", desc := "(I)I" } : Jvm.MethodName)) ∈ xTB := tc8 36 (by decide +kernel) rfl
theorem w1717 : (Jvm.Cond.methodLink "Levelhouse$Shelf" (99 : Nat) ({ cls := "Levelhouse$Shelf", name := "isChosen", desc := "(LLevelhouse$Entry;III)Z" } : Jvm.MethodName)) ∈ xTB := tc8 37 (by decide +kernel) rfl
theorem w1718 : (Jvm.Cond.methodLink "Levelhouse" (370 : Nat) ({ cls := "Levelhouse$Change", name := "judge", desc := "(LLevelhouse$Table;)C" } : Jvm.MethodName)) ∈ xTB := tc8 38 (by decide +kernel) rfl
theorem w1719 : (Jvm.Cond.instanceMethod ({ cls := "Levelhouse$Change", name := "judge", desc := "(LLevelhouse$Table;)C" } : Jvm.MethodName)) ∈ xTB := tc8 39 (by decide +kernel) rfl
theorem w1720 : (Jvm.Cond.selects "Levelhouse$Change" ({ cls := "Levelhouse$Change", name := "judge", desc := "(LLevelhouse$Table;)C" } : Jvm.MethodName) ({ cls := "Levelhouse$Change", name := "judge", desc := "(LLevelhouse$Table;)C" } : Jvm.MethodName)) ∈ xTB := tc8 40 (by decide +kernel) rfl
theorem w1721 : (Jvm.Cond.code ({ cls := "Levelhouse$Change", name := "judge", desc := "(LLevelhouse$Table;)C" } : Jvm.MethodName) prog_3_method_9_code (5 : Nat) (Option.some Jvm.ClassFile.FieldType.char)) ∈ xTB := tc8 41 (by decide +kernel) rfl
theorem w1722 : (Jvm.Cond.methodLink "Levelhouse$Change" (177 : Nat) ({ cls := "Levelhouse$Shelf", name := "hasTwins", desc := "(LLevelhouse$Table;I)Z" } : Jvm.MethodName)) ∈ xTB := tc8 42 (by decide +kernel) rfl
theorem w1723 : (Jvm.Cond.instanceMethod ({ cls := "Levelhouse$Shelf", name := "hasTwins", desc := "(LLevelhouse$Table;I)Z" } : Jvm.MethodName)) ∈ xTB := tc8 43 (by decide +kernel) rfl
theorem w1724 : (Jvm.Cond.selects "Levelhouse$Shelf" ({ cls := "Levelhouse$Shelf", name := "hasTwins", desc := "(LLevelhouse$Table;I)Z" } : Jvm.MethodName) ({ cls := "Levelhouse$Shelf", name := "hasTwins", desc := "(LLevelhouse$Table;I)Z" } : Jvm.MethodName)) ∈ xTB := tc8 44 (by decide +kernel) rfl
theorem w1725 : (Jvm.Cond.code ({ cls := "Levelhouse$Shelf", name := "hasTwins", desc := "(LLevelhouse$Table;I)Z" } : Jvm.MethodName) prog_10_method_16_code (5 : Nat) (Option.some Jvm.ClassFile.FieldType.boolean)) ∈ xTB := tc8 45 (by decide +kernel) rfl
theorem w1726 : (Jvm.Cond.constant "Levelhouse$Shelf" (103 : Nat) (-1000000000 : Int32)) ∈ xTB := tc8 46 (by decide +kernel) rfl
theorem w1727 : (Jvm.Cond.methodLink "Levelhouse$Shelf" (104 : Nat) ({ cls := "Levelhouse$Shelf", name := "hasTwin", desc := "(LLevelhouse$Entry;II)Z" } : Jvm.MethodName)) ∈ xTB := tc8 47 (by decide +kernel) rfl
theorem w1729 : (Jvm.Cond.instanceMethod ({ cls := "Levelhouse$Shelf", name := "hasTwin", desc := "(LLevelhouse$Entry;II)Z" } : Jvm.MethodName)) ∈ xTB := tc8 49 (by decide +kernel) rfl
theorem w1730 : (Jvm.Cond.code ({ cls := "Levelhouse$Shelf", name := "hasTwin", desc := "(LLevelhouse$Entry;II)Z" } : Jvm.MethodName) prog_10_method_17_code (5 : Nat) (Option.some Jvm.ClassFile.FieldType.boolean)) ∈ xTB := tc8 50 (by decide +kernel) rfl
theorem w1731 : (Jvm.Cond.methodLink "Levelhouse$Shelf" (108 : Nat) ({ cls := "Levelhouse$Shelf", name := "areTwins", desc := "(LLevelhouse$Entry;LLevelhouse$Entry;)Z" } : Jvm.MethodName)) ∈ xTB := tc8 51 (by decide +kernel) rfl
theorem w1732 : (Jvm.Cond.static ({ cls := "Levelhouse$Shelf", name := "areTwins", desc := "(LLevelhouse$Entry;LLevelhouse$Entry;)Z" } : Jvm.MethodName)) ∈ xTB := tc8 52 (by decide +kernel) rfl
theorem w1733 : (Jvm.Cond.code ({ cls := "Levelhouse$Shelf", name := "areTwins", desc := "(LLevelhouse$Entry;LLevelhouse$Entry;)Z" } : Jvm.MethodName) prog_10_method_18_code (3 : Nat) (Option.some Jvm.ClassFile.FieldType.boolean)) ∈ xTB := tc8 53 (by decide +kernel) rfl
theorem w1734 : (Jvm.Cond.methodLink "Levelhouse$Shelf" (112 : Nat) ({ cls := "Levelhouse$Table", name := "width", desc := "()I" } : Jvm.MethodName)) ∈ xTB := tc8 54 (by decide +kernel) rfl
theorem w1735 : (Jvm.Cond.methodLink "Levelhouse$Shelf" (115 : Nat) ({ cls := "Levelhouse$Table", name := "kindOf", desc := "(I)LLevelhouse$Word;" } : Jvm.MethodName)) ∈ xTB := tc8 55 (by decide +kernel) rfl
theorem w1736 : (Jvm.Cond.fieldLink "Levelhouse$Shelf" (119 : Nat) "Levelhouse$Word" "UNIQ" "LLevelhouse$Word;") ∈ xTB := tc8 56 (by decide +kernel) rfl
theorem w1737 : (Jvm.Cond.methodLink "Levelhouse$Shelf" (125 : Nat) ({ cls := "Levelhouse$Entry", name := "hold", desc := "(I)I" } : Jvm.MethodName)) ∈ xTB := tc8 57 (by decide +kernel) rfl
theorem w1738 : (Jvm.Cond.methodLink "Levelhouse$Change" (181 : Nat) ({ cls := "Levelhouse$Sight", name := "look", desc := "(LLevelhouse$Shelf;I)V" } : Jvm.MethodName)) ∈ xTB := tc8 58 (by decide +kernel) rfl
theorem w1739 : (Jvm.Cond.methodLink "Levelhouse$Change" (185 : Nat) ({ cls := "java/util/ArrayList", name := "size", desc := "()I" } : Jvm.MethodName)) ∈ xTB := tc8 59 (by decide +kernel) rfl
theorem w1740 : (Jvm.Cond.methodLink "Levelhouse$Change" (186 : Nat) ({ cls := "java/util/ArrayList", name := "get", desc := "(I)Ljava/lang/Object;" } : Jvm.MethodName)) ∈ xTB := tc8 60 (by decide +kernel) rfl
theorem w1741 : (Jvm.Cond.methodLink "Levelhouse$Change" (189 : Nat) ({ cls := "Levelhouse$Sight", name := "isMet", desc := "(LLevelhouse$Entry;)Z" } : Jvm.MethodName)) ∈ xTB := tc8 61 (by decide +kernel) rfl
theorem w1742 : (Jvm.Cond.methodLink "Levelhouse$Change" (201 : Nat) ({ cls := "Levelhouse$Formula", name := "result", desc := "(IILLevelhouse$Entry;LLevelhouse$Entry;)I" } : Jvm.MethodName)) ∈ xTB := tc8 62 (by decide +kernel) rfl
theorem w1743 : (Jvm.Cond.classLink "Levelhouse" (165 : Nat) "java/lang/UnsupportedOperationException") ∈ xTB := tc8 63 (by decide +kernel) rfl
theorem w1745 : (Jvm.Cond.castable "java/lang/UnsupportedOperationException" "java/lang/UnsupportedOperationException") ∈ xTB := tc8 65 (by decide +kernel) rfl
theorem w1752 : (Jvm.Cond.methodLink "Levelhouse" (167 : Nat) ({ cls := "java/lang/UnsupportedOperationException", name := "<init>", desc := "()V" } : Jvm.MethodName)) ∈ xTB := tc8 72 (by decide +kernel) rfl
theorem w1758 : (Jvm.Cond.methodLink "LevelhouseLaw" (85 : Nat) ({ cls := "Levelhouse", name := "reason", desc := "(I)C" } : Jvm.MethodName)) ∈ xTB := tc8 78 (by decide +kernel) rfl
theorem w1759 : (Jvm.Cond.instanceMethod ({ cls := "Levelhouse", name := "reason", desc := "(I)C" } : Jvm.MethodName)) ∈ xTB := tc8 79 (by decide +kernel) rfl
theorem w1760 : (Jvm.Cond.selects "Levelhouse" ({ cls := "Levelhouse", name := "reason", desc := "(I)C" } : Jvm.MethodName) ({ cls := "Levelhouse", name := "reason", desc := "(I)C" } : Jvm.MethodName)) ∈ xTB := tc8 80 (by decide +kernel) rfl
theorem w1761 : (Jvm.Cond.code ({ cls := "Levelhouse", name := "reason", desc := "(I)C" } : Jvm.MethodName) prog_1_method_8_code (3 : Nat) (Option.some Jvm.ClassFile.FieldType.char)) ∈ xTB := tc8 81 (by decide +kernel) rfl
theorem w1762 : (Jvm.Cond.classLink "Levelhouse" (171 : Nat) "java/util/NoSuchElementException") ∈ xTB := tc8 82 (by decide +kernel) rfl
theorem w1771 : (Jvm.Cond.methodLink "Levelhouse" (173 : Nat) ({ cls := "java/util/NoSuchElementException", name := "<init>", desc := "()V" } : Jvm.MethodName)) ∈ xTB := tc8 91 (by decide +kernel) rfl
theorem w1777 : (Jvm.Cond.methodLink "LevelhouseLaw" (261 : Nat) ({ cls := "LevelhouseLaw", name := "acted", desc := "()Z" } : Jvm.MethodName)) ∈ xTB := tc8 97 (by decide +kernel) rfl
theorem w1779 : (Jvm.Cond.instanceMethod ({ cls := "LevelhouseLaw", name := "acted", desc := "()Z" } : Jvm.MethodName)) ∈ xTB := tc8 99 (by decide +kernel) rfl
theorem w1780 : (Jvm.Cond.code ({ cls := "LevelhouseLaw", name := "acted", desc := "()Z" } : Jvm.MethodName) method_15_code (17 : Nat) (Option.some Jvm.ClassFile.FieldType.boolean)) ∈ xTB := tc8 100 (by decide +kernel) rfl
theorem w1781 : (Jvm.Cond.methodLink "LevelhouseLaw" (234 : Nat) ({ cls := "LevelhouseLaw", name := "statement", desc := "(Z)Ljava/lang/String;" } : Jvm.MethodName)) ∈ xTB := tc8 101 (by decide +kernel) rfl
theorem w1783 : (Jvm.Cond.instanceMethod ({ cls := "LevelhouseLaw", name := "statement", desc := "(Z)Ljava/lang/String;" } : Jvm.MethodName)) ∈ xTB := tc8 103 (by decide +kernel) rfl
theorem w1784 : (Jvm.Cond.code ({ cls := "LevelhouseLaw", name := "statement", desc := "(Z)Ljava/lang/String;" } : Jvm.MethodName) method_12_code (3 : Nat) (Option.some (Jvm.ClassFile.FieldType.object "java/lang/String"))) ∈ xTB := tc8 104 (by decide +kernel) rfl
theorem w1789 : (Jvm.Cond.classLink "LevelhouseLaw" (108 : Nat) "java/lang/StringBuilder") ∈ xTB := tc8 109 (by decide +kernel) rfl
theorem w1790 : (Jvm.Cond.instantiable "java/lang/StringBuilder" (4 : Nat)) ∈ xTB := tc8 110 (by decide +kernel) rfl
theorem w1791 : (Jvm.Cond.methodLink "LevelhouseLaw" (110 : Nat) ({ cls := "java/lang/StringBuilder", name := "<init>", desc := "()V" } : Jvm.MethodName)) ∈ xTB := tc8 111 (by decide +kernel) rfl
theorem w1792 : (Jvm.Cond.instanceMethod ({ cls := "java/lang/StringBuilder", name := "<init>", desc := "()V" } : Jvm.MethodName)) ∈ xTB := tc8 112 (by decide +kernel) rfl
theorem w1793 : (Jvm.Cond.code ({ cls := "java/lang/StringBuilder", name := "<init>", desc := "()V" } : Jvm.MethodName) prog_47_method_1_code (1 : Nat) (Option.none : Option Jvm.ClassFile.FieldType)) ∈ xTB := tc8 113 (by decide +kernel) rfl
theorem w1794 : (Jvm.Cond.methodLink "java/lang/StringBuilder" (1 : Nat) ({ cls := "java/lang/AbstractStringBuilder", name := "<init>", desc := "(I)V" } : Jvm.MethodName)) ∈ xTB := tc8 114 (by decide +kernel) rfl
theorem w1795 : (Jvm.Cond.instanceMethod ({ cls := "java/lang/AbstractStringBuilder", name := "<init>", desc := "(I)V" } : Jvm.MethodName)) ∈ xTB := tc8 115 (by decide +kernel) rfl
theorem w1796 : (Jvm.Cond.code ({ cls := "java/lang/AbstractStringBuilder", name := "<init>", desc := "(I)V" } : Jvm.MethodName) prog_30_method_2_code (2 : Nat) (Option.none : Option Jvm.ClassFile.FieldType)) ∈ xTB := tc8 116 (by decide +kernel) rfl
theorem w1797 : (Jvm.Cond.methodLink "java/lang/AbstractStringBuilder" (3 : Nat) ({ cls := "java/lang/Object", name := "<init>", desc := "()V" } : Jvm.MethodName)) ∈ xTB := tc8 117 (by decide +kernel) rfl
theorem w1798 : (Jvm.Cond.fieldLink "java/lang/AbstractStringBuilder" (18 : Nat) "java/lang/String" "COMPACT_STRINGS" "Z") ∈ xTB := tc8 118 (by decide +kernel) rfl
theorem w1806 : (Jvm.Cond.fieldLink "java/lang/AbstractStringBuilder" (15 : Nat) "java/lang/AbstractStringBuilder" "value" "[B") ∈ xTB := tc8 126 (by decide +kernel) rfl
theorem w1807 : (Jvm.Cond.fieldLink "java/lang/AbstractStringBuilder" (22 : Nat) "java/lang/AbstractStringBuilder" "coder" "B") ∈ xTB := tc8 127 (by decide +kernel) rfl
theorem w1808 : (Jvm.Cond.fieldLink "java/lang/String" (1048 : Nat) "java/lang/AbstractStringBuilder" "maybeLatin1" "Z") ∈ xTB := tc8 128 (by decide +kernel) rfl
theorem w1809 : (Jvm.Cond.fieldLink "java/lang/AbstractStringBuilder" (79 : Nat) "java/lang/AbstractStringBuilder" "count" "I") ∈ xTB := tc8 129 (by decide +kernel) rfl
theorem w1810 : (Jvm.Cond.lays "java/lang/StringBuilder" "java/lang/AbstractStringBuilder" "value" "[B") ∈ xTB := tc8 130 (by decide +kernel) rfl
theorem w1812 : (Jvm.Cond.lays "java/lang/StringBuilder" "java/lang/AbstractStringBuilder" "coder" "B") ∈ xTB := tc8 132 (by decide +kernel) rfl
theorem w1814 : (Jvm.Cond.lays "java/lang/StringBuilder" "java/lang/AbstractStringBuilder" "maybeLatin1" "Z") ∈ xTB := tc8 134 (by decide +kernel) rfl
theorem w1816 : (Jvm.Cond.lays "java/lang/StringBuilder" "java/lang/AbstractStringBuilder" "count" "I") ∈ xTB := tc8 136 (by decide +kernel) rfl
theorem w1818 : (Jvm.Cond.superclass "java/lang/StringBuilder" "java/lang/AbstractStringBuilder") ∈ xTB := tc8 138 (by decide +kernel) rfl
theorem w1820 : (Jvm.Cond.methodLink "LevelhouseLaw" (113 : Nat) ({ cls := "java/lang/StringBuilder", name := "append", desc := "(Ljava/lang/String;)Ljava/lang/StringBuilder;" } : Jvm.MethodName)) ∈ xTB := tc8 140 (by decide +kernel) rfl
theorem w1821 : (Jvm.Cond.instanceMethod ({ cls := "java/lang/StringBuilder", name := "append", desc := "(Ljava/lang/String;)Ljava/lang/StringBuilder;" } : Jvm.MethodName)) ∈ xTB := tc8 141 (by decide +kernel) rfl
theorem w1822 : (Jvm.Cond.selects "java/lang/StringBuilder" ({ cls := "java/lang/StringBuilder", name := "append", desc := "(Ljava/lang/String;)Ljava/lang/StringBuilder;" } : Jvm.MethodName) ({ cls := "java/lang/StringBuilder", name := "append", desc := "(Ljava/lang/String;)Ljava/lang/StringBuilder;" } : Jvm.MethodName)) ∈ xTB := tc8 142 (by decide +kernel) rfl
theorem w1823 : (Jvm.Cond.code ({ cls := "java/lang/StringBuilder", name := "append", desc := "(Ljava/lang/String;)Ljava/lang/StringBuilder;" } : Jvm.MethodName) prog_47_method_7_code (2 : Nat) (Option.some (Jvm.ClassFile.FieldType.object "java/lang/StringBuilder"))) ∈ xTB := tc8 143 (by decide +kernel) rfl
theorem w1824 : (Jvm.Cond.methodLink "java/lang/StringBuilder" (29 : Nat) ({ cls := "java/lang/AbstractStringBuilder", name := "append", desc := "(Ljava/lang/String;)Ljava/lang/AbstractStringBuilder;" } : Jvm.MethodName)) ∈ xTB := tc8 144 (by decide +kernel) rfl
theorem w1825 : (Jvm.Cond.instanceMethod ({ cls := "java/lang/AbstractStringBuilder", name := "append", desc := "(Ljava/lang/String;)Ljava/lang/AbstractStringBuilder;" } : Jvm.MethodName)) ∈ xTB := tc8 145 (by decide +kernel) rfl
theorem w1826 : (Jvm.Cond.code ({ cls := "java/lang/AbstractStringBuilder", name := "append", desc := "(Ljava/lang/String;)Ljava/lang/AbstractStringBuilder;" } : Jvm.MethodName) prog_30_method_22_code (3 : Nat) (Option.some (Jvm.ClassFile.FieldType.object "java/lang/AbstractStringBuilder"))) ∈ xTB := tc8 146 (by decide +kernel) rfl
theorem w1827 : (Jvm.Cond.methodLink "java/lang/AbstractStringBuilder" (204 : Nat) ({ cls := "java/lang/AbstractStringBuilder", name := "appendNull", desc := "()Ljava/lang/AbstractStringBuilder;" } : Jvm.MethodName)) ∈ xTB := tc8 147 (by decide +kernel) rfl
theorem w1829 : (Jvm.Cond.instanceMethod ({ cls := "java/lang/AbstractStringBuilder", name := "appendNull", desc := "()Ljava/lang/AbstractStringBuilder;" } : Jvm.MethodName)) ∈ xTB := tc8 149 (by decide +kernel) rfl
theorem w1830 : (Jvm.Cond.code ({ cls := "java/lang/AbstractStringBuilder", name := "appendNull", desc := "()Ljava/lang/AbstractStringBuilder;" } : Jvm.MethodName) prog_30_method_26_code (3 : Nat) (Option.some (Jvm.ClassFile.FieldType.object "java/lang/AbstractStringBuilder"))) ∈ xTB := tc8 150 (by decide +kernel) rfl
theorem w1831 : (Jvm.Cond.methodLink "java/lang/AbstractStringBuilder" (100 : Nat) ({ cls := "java/lang/AbstractStringBuilder", name := "ensureCapacityInternal", desc := "(I)V" } : Jvm.MethodName)) ∈ xTB := tc8 151 (by decide +kernel) rfl
theorem w1833 : (Jvm.Cond.instanceMethod ({ cls := "java/lang/AbstractStringBuilder", name := "ensureCapacityInternal", desc := "(I)V" } : Jvm.MethodName)) ∈ xTB := tc8 153 (by decide +kernel) rfl
theorem w1834 : (Jvm.Cond.code ({ cls := "java/lang/AbstractStringBuilder", name := "ensureCapacityInternal", desc := "(I)V" } : Jvm.MethodName) prog_30_method_9_code (3 : Nat) (Option.none : Option Jvm.ClassFile.FieldType)) ∈ xTB := tc8 154 (by decide +kernel) rfl
theorem w1835 : (Jvm.Cond.methodLink "java/lang/AbstractStringBuilder" (104 : Nat) ({ cls := "java/lang/AbstractStringBuilder", name := "newCapacity", desc := "(I)I" } : Jvm.MethodName)) ∈ xTB := tc8 155 (by decide +kernel) rfl
theorem w1837 : (Jvm.Cond.instanceMethod ({ cls := "java/lang/AbstractStringBuilder", name := "newCapacity", desc := "(I)I" } : Jvm.MethodName)) ∈ xTB := tc8 157 (by decide +kernel) rfl
theorem w1838 : (Jvm.Cond.code ({ cls := "java/lang/AbstractStringBuilder", name := "newCapacity", desc := "(I)I" } : Jvm.MethodName) prog_30_method_10_code (6 : Nat) (Option.some Jvm.ClassFile.FieldType.int)) ∈ xTB := tc8 158 (by decide +kernel) rfl
theorem w1839 : (Jvm.Cond.methodLink "java/lang/AbstractStringBuilder" (114 : Nat) ({ cls := "jdk/internal/util/ArraysSupport", name := "newLength", desc := "(III)I" } : Jvm.MethodName)) ∈ xTB := tc8 159 (by decide +kernel) rfl
theorem w1840 : (Jvm.Cond.constant "java/lang/AbstractStringBuilder" (39 : Nat) (2147483647 : Int32)) ∈ xTB := tc8 160 (by decide +kernel) rfl
theorem w1841 : (Jvm.Cond.methodLink "java/lang/AbstractStringBuilder" (108 : Nat) ({ cls := "java/util/Arrays", name := "copyOf", desc := "([BI)[B" } : Jvm.MethodName)) ∈ xTB := tc8 161 (by decide +kernel) rfl
theorem w1842 : (Jvm.Cond.static ({ cls := "java/util/Arrays", name := "copyOf", desc := "([BI)[B" } : Jvm.MethodName)) ∈ xTB := tc8 162 (by decide +kernel) rfl
theorem w1843 : (Jvm.Cond.code ({ cls := "java/util/Arrays", name := "copyOf", desc := "([BI)[B" } : Jvm.MethodName) prog_58_method_121_code (3 : Nat) (Option.some (Jvm.ClassFile.FieldType.array Jvm.ClassFile.FieldType.byte))) ∈ xTB := tc8 163 (by decide +kernel) rfl
theorem w1844 : (Jvm.Cond.methodLink "java/util/Arrays" (310 : Nat) ({ cls := "[B", name := "clone", desc := "()Ljava/lang/Object;" } : Jvm.MethodName)) ∈ xTB := tc8 164 (by decide +kernel) rfl
theorem w1845 : (Jvm.Cond.sameMethod "[B" "java/lang/Object" "clone" "()Ljava/lang/Object;") ∈ xTB := tc8 165 (by decide +kernel) rfl
theorem w1846 : (Jvm.Cond.native ({ cls := "java/lang/Object", name := "clone", desc := "()Ljava/lang/Object;" } : Jvm.MethodName)) ∈ xTB := tc8 166 (by decide +kernel) rfl
theorem w1847 : (Jvm.Cond.instanceMethod ({ cls := "java/lang/Object", name := "clone", desc := "()Ljava/lang/Object;" } : Jvm.MethodName)) ∈ xTB := tc8 167 (by decide +kernel) rfl
theorem w1848 : (Jvm.Cond.selects "[B" ({ cls := "[B", name := "clone", desc := "()Ljava/lang/Object;" } : Jvm.MethodName) ({ cls := "java/lang/Object", name := "clone", desc := "()Ljava/lang/Object;" } : Jvm.MethodName)) ∈ xTB := tc8 168 (by decide +kernel) rfl
theorem w1849 : (Jvm.Cond.castable "[B" "java/lang/Cloneable") ∈ xTB := tc8 169 (by decide +kernel) rfl
theorem w1850 : (Jvm.Cond.classLink "java/util/Arrays" (311 : Nat) "[B") ∈ xTB := tc8 170 (by decide +kernel) rfl
theorem w1851 : (Jvm.Cond.methodLink "java/lang/AbstractStringBuilder" (83 : Nat) ({ cls := "java/lang/AbstractStringBuilder", name := "isLatin1", desc := "()Z" } : Jvm.MethodName)) ∈ xTB := tc8 171 (by decide +kernel) rfl
theorem w1852 : (Jvm.Cond.instanceMethod ({ cls := "java/lang/AbstractStringBuilder", name := "isLatin1", desc := "()Z" } : Jvm.MethodName)) ∈ xTB := tc8 172 (by decide +kernel) rfl
theorem w1854 : (Jvm.Cond.selects "java/lang/StringBuilder" ({ cls := "java/lang/AbstractStringBuilder", name := "isLatin1", desc := "()Z" } : Jvm.MethodName) ({ cls := "java/lang/AbstractStringBuilder", name := "isLatin1", desc := "()Z" } : Jvm.MethodName)) ∈ xTB := tc8 174 (by decide +kernel) rfl
theorem w1855 : (Jvm.Cond.code ({ cls := "java/lang/AbstractStringBuilder", name := "isLatin1", desc := "()Z" } : Jvm.MethodName) prog_30_method_68_code (1 : Nat) (Option.some Jvm.ClassFile.FieldType.boolean)) ∈ xTB := tc8 175 (by decide +kernel) rfl
theorem w1864 : (Jvm.Cond.code ({ cls := "java/lang/String", name := "checkBoundsBeginEnd", desc := "(III)V" } : Jvm.MethodName) prog_46_method_158_code (3 : Nat) (Option.none : Option Jvm.ClassFile.FieldType)) ∈ xTB := tc8 184 (by decide +kernel) rfl
theorem w1865 : (Jvm.Cond.methodLink "java/lang/String" (1062 : Nat) ({ cls := "jdk/internal/util/Preconditions", name := "checkFromToIndex", desc := "(IIILjava/util/function/BiFunction;)I" } : Jvm.MethodName)) ∈ xTB := tc8 185 (by decide +kernel) rfl
theorem w1866 : (Jvm.Cond.static ({ cls := "jdk/internal/util/Preconditions", name := "checkFromToIndex", desc := "(IIILjava/util/function/BiFunction;)I" } : Jvm.MethodName)) ∈ xTB := tc8 186 (by decide +kernel) rfl
theorem w1867 : (Jvm.Cond.code ({ cls := "jdk/internal/util/Preconditions", name := "checkFromToIndex", desc := "(IIILjava/util/function/BiFunction;)I" } : Jvm.MethodName) prog_68_method_12_code (4 : Nat) (Option.some Jvm.ClassFile.FieldType.int)) ∈ xTB := tc8 187 (by decide +kernel) rfl
theorem w1871 : (Jvm.Cond.methodLink "java/lang/AbstractStringBuilder" (32 : Nat) ({ cls := "java/lang/String", name := "length", desc := "()I" } : Jvm.MethodName)) ∈ xTB := tc8 191 (by decide +kernel) rfl
theorem w1872 : (Jvm.Cond.methodLink "java/lang/AbstractStringBuilder" (208 : Nat) ({ cls := "java/lang/AbstractStringBuilder", name := "putStringAt", desc := "(ILjava/lang/String;)V" } : Jvm.MethodName)) ∈ xTB := tc8 192 (by decide +kernel) rfl
theorem w1874 : (Jvm.Cond.instanceMethod ({ cls := "java/lang/AbstractStringBuilder", name := "putStringAt", desc := "(ILjava/lang/String;)V" } : Jvm.MethodName)) ∈ xTB := tc8 194 (by decide +kernel) rfl
theorem w1875 : (Jvm.Cond.code ({ cls := "java/lang/AbstractStringBuilder", name := "putStringAt", desc := "(ILjava/lang/String;)V" } : Jvm.MethodName) prog_30_method_73_code (3 : Nat) (Option.none : Option Jvm.ClassFile.FieldType)) ∈ xTB := tc8 195 (by decide +kernel) rfl
theorem w1876 : (Jvm.Cond.methodLink "java/lang/AbstractStringBuilder" (397 : Nat) ({ cls := "java/lang/AbstractStringBuilder", name := "inflateIfNeededFor", desc := "(Ljava/lang/String;)V" } : Jvm.MethodName)) ∈ xTB := tc8 196 (by decide +kernel) rfl
theorem w1878 : (Jvm.Cond.instanceMethod ({ cls := "java/lang/AbstractStringBuilder", name := "inflateIfNeededFor", desc := "(Ljava/lang/String;)V" } : Jvm.MethodName)) ∈ xTB := tc8 198 (by decide +kernel) rfl
theorem w1879 : (Jvm.Cond.code ({ cls := "java/lang/AbstractStringBuilder", name := "inflateIfNeededFor", desc := "(Ljava/lang/String;)V" } : Jvm.MethodName) prog_30_method_71_code (2 : Nat) (Option.none : Option Jvm.ClassFile.FieldType)) ∈ xTB := tc8 199 (by decide +kernel) rfl
theorem w1880 : (Jvm.Cond.methodLink "java/lang/AbstractStringBuilder" (40 : Nat) ({ cls := "java/lang/String", name := "coder", desc := "()B" } : Jvm.MethodName)) ∈ xTB := tc8 200 (by decide +kernel) rfl
theorem w1881 : (Jvm.Cond.methodLink "java/lang/AbstractStringBuilder" (195 : Nat) ({ cls := "java/lang/AbstractStringBuilder", name := "inflate", desc := "()V" } : Jvm.MethodName)) ∈ xTB := tc8 201 (by decide +kernel) rfl
theorem w1883 : (Jvm.Cond.instanceMethod ({ cls := "java/lang/AbstractStringBuilder", name := "inflate", desc := "()V" } : Jvm.MethodName)) ∈ xTB := tc8 203 (by decide +kernel) rfl
theorem w1884 : (Jvm.Cond.code ({ cls := "java/lang/AbstractStringBuilder", name := "inflate", desc := "()V" } : Jvm.MethodName) prog_30_method_11_code (2 : Nat) (Option.none : Option Jvm.ClassFile.FieldType)) ∈ xTB := tc8 204 (by decide +kernel) rfl
theorem w1885 : (Jvm.Cond.methodLink "java/lang/AbstractStringBuilder" (125 : Nat) ({ cls := "java/lang/StringLatin1", name := "inflate", desc := "([BI[BII)V" } : Jvm.MethodName)) ∈ xTB := tc8 205 (by decide +kernel) rfl
theorem w1886 : (Jvm.Cond.static ({ cls := "java/lang/StringLatin1", name := "inflate", desc := "([BI[BII)V" } : Jvm.MethodName)) ∈ xTB := tc8 206 (by decide +kernel) rfl
theorem w1887 : (Jvm.Cond.code ({ cls := "java/lang/StringLatin1", name := "inflate", desc := "([BI[BII)V" } : Jvm.MethodName) prog_48_method_50_code (5 : Nat) (Option.none : Option Jvm.ClassFile.FieldType)) ∈ xTB := tc8 207 (by decide +kernel) rfl
theorem w1896 : (Jvm.Cond.code ({ cls := "java/lang/String", name := "checkBoundsOffCount", desc := "(III)I" } : Jvm.MethodName) prog_46_method_157_code (3 : Nat) (Option.some Jvm.ClassFile.FieldType.int)) ∈ xTB := tc8 216 (by decide +kernel) rfl
theorem w1897 : (Jvm.Cond.methodLink "java/lang/String" (1065 : Nat) ({ cls := "jdk/internal/util/Preconditions", name := "checkFromIndexSize", desc := "(IIILjava/util/function/BiFunction;)I" } : Jvm.MethodName)) ∈ xTB := tc8 217 (by decide +kernel) rfl
theorem w1898 : (Jvm.Cond.static ({ cls := "jdk/internal/util/Preconditions", name := "checkFromIndexSize", desc := "(IIILjava/util/function/BiFunction;)I" } : Jvm.MethodName)) ∈ xTB := tc8 218 (by decide +kernel) rfl
theorem w1899 : (Jvm.Cond.code ({ cls := "jdk/internal/util/Preconditions", name := "checkFromIndexSize", desc := "(IIILjava/util/function/BiFunction;)I" } : Jvm.MethodName) prog_68_method_13_code (4 : Nat) (Option.some Jvm.ClassFile.FieldType.int)) ∈ xTB := tc8 219 (by decide +kernel) rfl
theorem w1900 : (Jvm.Cond.methodLink "java/lang/AbstractStringBuilder" (399 : Nat) ({ cls := "java/lang/String", name := "getBytes", desc := "([BIB)V" } : Jvm.MethodName)) ∈ xTB := tc8 220 (by decide +kernel) rfl
theorem w1901 : (Jvm.Cond.instanceMethod ({ cls := "java/lang/String", name := "getBytes", desc := "([BIB)V" } : Jvm.MethodName)) ∈ xTB := tc8 221 (by decide +kernel) rfl
theorem w1902 : (Jvm.Cond.selects "java/lang/String" ({ cls := "java/lang/String", name := "getBytes", desc := "([BIB)V" } : Jvm.MethodName) ({ cls := "java/lang/String", name := "getBytes", desc := "([BIB)V" } : Jvm.MethodName)) ∈ xTB := tc8 222 (by decide +kernel) rfl
theorem w1903 : (Jvm.Cond.code ({ cls := "java/lang/String", name := "getBytes", desc := "([BIB)V" } : Jvm.MethodName) prog_46_method_147_code (4 : Nat) (Option.none : Option Jvm.ClassFile.FieldType)) ∈ xTB := tc8 223 (by decide +kernel) rfl
theorem w1904 : (Jvm.Cond.methodLink "java/lang/String" (212 : Nat) ({ cls := "java/lang/System", name := "arraycopy", desc := "(Ljava/lang/Object;ILjava/lang/Object;II)V" } : Jvm.MethodName)) ∈ xTB := tc8 224 (by decide +kernel) rfl
theorem w1905 : (Jvm.Cond.methodLink "java/lang/String" (106 : Nat) ({ cls := "java/lang/StringLatin1", name := "inflate", desc := "([BI[BII)V" } : Jvm.MethodName)) ∈ xTB := tc8 225 (by decide +kernel) rfl
theorem w1906 : (Jvm.Cond.methodLink "LevelhouseLaw" (122 : Nat) ({ cls := "java/lang/StringBuilder", name := "toString", desc := "()Ljava/lang/String;" } : Jvm.MethodName)) ∈ xTB := tc8 226 (by decide +kernel) rfl
theorem w1907 : (Jvm.Cond.instanceMethod ({ cls := "java/lang/StringBuilder", name := "toString", desc := "()Ljava/lang/String;" } : Jvm.MethodName)) ∈ xTB := tc8 227 (by decide +kernel) rfl
theorem w1908 : (Jvm.Cond.selects "java/lang/StringBuilder" ({ cls := "java/lang/StringBuilder", name := "toString", desc := "()Ljava/lang/String;" } : Jvm.MethodName) ({ cls := "java/lang/StringBuilder", name := "toString", desc := "()Ljava/lang/String;" } : Jvm.MethodName)) ∈ xTB := tc8 228 (by decide +kernel) rfl
theorem w1909 : (Jvm.Cond.code ({ cls := "java/lang/StringBuilder", name := "toString", desc := "()Ljava/lang/String;" } : Jvm.MethodName) prog_47_method_42_code (1 : Nat) (Option.some (Jvm.ClassFile.FieldType.object "java/lang/String"))) ∈ xTB := tc8 229 (by decide +kernel) rfl
theorem w1910 : (Jvm.Cond.classLink "java/lang/StringBuilder" (18 : Nat) "java/lang/String") ∈ xTB := tc8 230 (by decide +kernel) rfl
theorem w1911 : (Jvm.Cond.instantiable "java/lang/String" (4 : Nat)) ∈ xTB := tc8 231 (by decide +kernel) rfl
theorem w1912 : (Jvm.Cond.methodLink "java/lang/StringBuilder" (137 : Nat) ({ cls := "java/lang/String", name := "<init>", desc := "(Ljava/lang/StringBuilder;)V" } : Jvm.MethodName)) ∈ xTB := tc8 232 (by decide +kernel) rfl
theorem w1913 : (Jvm.Cond.instanceMethod ({ cls := "java/lang/String", name := "<init>", desc := "(Ljava/lang/StringBuilder;)V" } : Jvm.MethodName)) ∈ xTB := tc8 233 (by decide +kernel) rfl
theorem w1914 : (Jvm.Cond.code ({ cls := "java/lang/String", name := "<init>", desc := "(Ljava/lang/StringBuilder;)V" } : Jvm.MethodName) prog_46_method_53_code (2 : Nat) (Option.none : Option Jvm.ClassFile.FieldType)) ∈ xTB := tc8 234 (by decide +kernel) rfl
theorem w1915 : (Jvm.Cond.methodLink "java/lang/String" (489 : Nat) ({ cls := "java/lang/String", name := "<init>", desc := "(Ljava/lang/AbstractStringBuilder;Ljava/lang/Void;)V" } : Jvm.MethodName)) ∈ xTB := tc8 235 (by decide +kernel) rfl
theorem w1916 : (Jvm.Cond.instanceMethod ({ cls := "java/lang/String", name := "<init>", desc := "(Ljava/lang/AbstractStringBuilder;Ljava/lang/Void;)V" } : Jvm.MethodName)) ∈ xTB := tc8 236 (by decide +kernel) rfl
theorem w1917 : (Jvm.Cond.code ({ cls := "java/lang/String", name := "<init>", desc := "(Ljava/lang/AbstractStringBuilder;Ljava/lang/Void;)V" } : Jvm.MethodName) prog_46_method_150_code (5 : Nat) (Option.none : Option Jvm.ClassFile.FieldType)) ∈ xTB := tc8 237 (by decide +kernel) rfl
theorem w1918 : (Jvm.Cond.methodLink "java/lang/String" (1 : Nat) ({ cls := "java/lang/Object", name := "<init>", desc := "()V" } : Jvm.MethodName)) ∈ xTB := tc8 238 (by decide +kernel) rfl
theorem w1919 : (Jvm.Cond.methodLink "java/lang/String" (552 : Nat) ({ cls := "java/lang/AbstractStringBuilder", name := "getValue", desc := "()[B" } : Jvm.MethodName)) ∈ xTB := tc8 239 (by decide +kernel) rfl
theorem w1920 : (Jvm.Cond.instanceMethod ({ cls := "java/lang/AbstractStringBuilder", name := "getValue", desc := "()[B" } : Jvm.MethodName)) ∈ xTB := tc9 0 (by decide +kernel) rfl
theorem w1922 : (Jvm.Cond.selects "java/lang/StringBuilder" ({ cls := "java/lang/AbstractStringBuilder", name := "getValue", desc := "()[B" } : Jvm.MethodName) ({ cls := "java/lang/AbstractStringBuilder", name := "getValue", desc := "()[B" } : Jvm.MethodName)) ∈ xTB := tc9 2 (by decide +kernel) rfl
theorem w1923 : (Jvm.Cond.code ({ cls := "java/lang/AbstractStringBuilder", name := "getValue", desc := "()[B" } : Jvm.MethodName) prog_30_method_64_code (1 : Nat) (Option.some (Jvm.ClassFile.FieldType.array Jvm.ClassFile.FieldType.byte))) ∈ xTB := tc9 3 (by decide +kernel) rfl
theorem w1924 : (Jvm.Cond.methodLink "java/lang/String" (549 : Nat) ({ cls := "java/lang/AbstractStringBuilder", name := "length", desc := "()I" } : Jvm.MethodName)) ∈ xTB := tc9 4 (by decide +kernel) rfl
theorem w1925 : (Jvm.Cond.instanceMethod ({ cls := "java/lang/AbstractStringBuilder", name := "length", desc := "()I" } : Jvm.MethodName)) ∈ xTB := tc9 5 (by decide +kernel) rfl
theorem w1926 : (Jvm.Cond.sameMethod "java/lang/AbstractStringBuilder" "java/lang/AbstractStringBuilder" "length" "()I") ∈ xTB := tc9 6 (by decide +kernel) rfl
theorem w1927 : (Jvm.Cond.selects "java/lang/StringBuilder" ({ cls := "java/lang/AbstractStringBuilder", name := "length", desc := "()I" } : Jvm.MethodName) ({ cls := "java/lang/StringBuilder", name := "length", desc := "()I" } : Jvm.MethodName)) ∈ xTB := tc9 7 (by decide +kernel) rfl
theorem w1928 : (Jvm.Cond.instanceMethod ({ cls := "java/lang/StringBuilder", name := "length", desc := "()I" } : Jvm.MethodName)) ∈ xTB := tc9 8 (by decide +kernel) rfl
theorem w1929 : (Jvm.Cond.code ({ cls := "java/lang/StringBuilder", name := "length", desc := "()I" } : Jvm.MethodName) prog_47_method_93_code (1 : Nat) (Option.some Jvm.ClassFile.FieldType.int)) ∈ xTB := tc9 9 (by decide +kernel) rfl
theorem w1930 : (Jvm.Cond.methodLink "java/lang/StringBuilder" (343 : Nat) ({ cls := "java/lang/AbstractStringBuilder", name := "length", desc := "()I" } : Jvm.MethodName)) ∈ xTB := tc9 10 (by decide +kernel) rfl
theorem w1931 : (Jvm.Cond.code ({ cls := "java/lang/AbstractStringBuilder", name := "length", desc := "()I" } : Jvm.MethodName) prog_30_method_6_code (1 : Nat) (Option.some Jvm.ClassFile.FieldType.int)) ∈ xTB := tc9 11 (by decide +kernel) rfl
theorem w1932 : (Jvm.Cond.methodLink "java/lang/String" (1047 : Nat) ({ cls := "java/lang/AbstractStringBuilder", name := "isLatin1", desc := "()Z" } : Jvm.MethodName)) ∈ xTB := tc9 12 (by decide +kernel) rfl
theorem w1933 : (Jvm.Cond.methodLink "java/lang/String" (54 : Nat) ({ cls := "java/util/Arrays", name := "copyOfRange", desc := "([BII)[B" } : Jvm.MethodName)) ∈ xTB := tc9 13 (by decide +kernel) rfl
theorem w1934 : (Jvm.Cond.static ({ cls := "java/util/Arrays", name := "copyOfRange", desc := "([BII)[B" } : Jvm.MethodName)) ∈ xTB := tc9 14 (by decide +kernel) rfl
theorem w1935 : (Jvm.Cond.code ({ cls := "java/util/Arrays", name := "copyOfRange", desc := "([BII)[B" } : Jvm.MethodName) prog_58_method_132_code (3 : Nat) (Option.some (Jvm.ClassFile.FieldType.array Jvm.ClassFile.FieldType.byte))) ∈ xTB := tc9 15 (by decide +kernel) rfl
theorem w1936 : (Jvm.Cond.methodLink "java/util/Arrays" (339 : Nat) ({ cls := "java/util/Arrays", name := "copyOfRangeByte", desc := "([BII)[B" } : Jvm.MethodName)) ∈ xTB := tc9 16 (by decide +kernel) rfl
theorem w1937 : (Jvm.Cond.static ({ cls := "java/util/Arrays", name := "copyOfRangeByte", desc := "([BII)[B" } : Jvm.MethodName)) ∈ xTB := tc9 17 (by decide +kernel) rfl
theorem w1938 : (Jvm.Cond.code ({ cls := "java/util/Arrays", name := "copyOfRangeByte", desc := "([BII)[B" } : Jvm.MethodName) prog_58_method_133_code (5 : Nat) (Option.some (Jvm.ClassFile.FieldType.array Jvm.ClassFile.FieldType.byte))) ∈ xTB := tc9 18 (by decide +kernel) rfl
theorem w1939 : (Jvm.Cond.methodLink "java/util/Arrays" (343 : Nat) ({ cls := "java/util/Arrays", name := "checkLength", desc := "(II)V" } : Jvm.MethodName)) ∈ xTB := tc9 19 (by decide +kernel) rfl
theorem w1940 : (Jvm.Cond.static ({ cls := "java/util/Arrays", name := "checkLength", desc := "(II)V" } : Jvm.MethodName)) ∈ xTB := tc9 20 (by decide +kernel) rfl
theorem w1941 : (Jvm.Cond.code ({ cls := "java/util/Arrays", name := "checkLength", desc := "(II)V" } : Jvm.MethodName) prog_58_method_131_code (2 : Nat) (Option.none : Option Jvm.ClassFile.FieldType)) ∈ xTB := tc9 21 (by decide +kernel) rfl
theorem w1952 : (Jvm.Cond.fieldLink "java/lang/String" (9 : Nat) "java/lang/String" "value" "[B") ∈ xTB := tc9 32 (by decide +kernel) rfl
theorem w1953 : (Jvm.Cond.fieldLink "java/lang/String" (15 : Nat) "java/lang/String" "coder" "B") ∈ xTB := tc9 33 (by decide +kernel) rfl
theorem w1954 : (Jvm.Cond.laysFinal "java/lang/String" "java/lang/String" "value" "[B") ∈ xTB := tc9 34 (by decide +kernel) rfl
theorem w1956 : (Jvm.Cond.laysFinal "java/lang/String" "java/lang/String" "coder" "B") ∈ xTB := tc9 36 (by decide +kernel) rfl
theorem w1958 : (Jvm.Cond.lays "java/lang/String" "java/lang/String" "hash" "I") ∈ xTB := tc9 38 (by decide +kernel) rfl
theorem w1960 : (Jvm.Cond.lays "java/lang/String" "java/lang/String" "hashIsZero" "Z") ∈ xTB := tc9 40 (by decide +kernel) rfl
theorem w1965 : (Jvm.Cond.methodLink "LevelhouseLaw" (117 : Nat) ({ cls := "java/lang/StringBuilder", name := "append", desc := "(I)Ljava/lang/StringBuilder;" } : Jvm.MethodName)) ∈ xTB := tc9 45 (by decide +kernel) rfl
theorem w1966 : (Jvm.Cond.instanceMethod ({ cls := "java/lang/StringBuilder", name := "append", desc := "(I)Ljava/lang/StringBuilder;" } : Jvm.MethodName)) ∈ xTB := tc9 46 (by decide +kernel) rfl
theorem w1967 : (Jvm.Cond.selects "java/lang/StringBuilder" ({ cls := "java/lang/StringBuilder", name := "append", desc := "(I)Ljava/lang/StringBuilder;" } : Jvm.MethodName) ({ cls := "java/lang/StringBuilder", name := "append", desc := "(I)Ljava/lang/StringBuilder;" } : Jvm.MethodName)) ∈ xTB := tc9 47 (by decide +kernel) rfl
theorem w1968 : (Jvm.Cond.code ({ cls := "java/lang/StringBuilder", name := "append", desc := "(I)Ljava/lang/StringBuilder;" } : Jvm.MethodName) prog_47_method_15_code (2 : Nat) (Option.some (Jvm.ClassFile.FieldType.object "java/lang/StringBuilder"))) ∈ xTB := tc9 48 (by decide +kernel) rfl
theorem w1969 : (Jvm.Cond.methodLink "java/lang/StringBuilder" (53 : Nat) ({ cls := "java/lang/AbstractStringBuilder", name := "append", desc := "(I)Ljava/lang/AbstractStringBuilder;" } : Jvm.MethodName)) ∈ xTB := tc9 49 (by decide +kernel) rfl
theorem w1970 : (Jvm.Cond.instanceMethod ({ cls := "java/lang/AbstractStringBuilder", name := "append", desc := "(I)Ljava/lang/AbstractStringBuilder;" } : Jvm.MethodName)) ∈ xTB := tc9 50 (by decide +kernel) rfl
theorem w1971 : (Jvm.Cond.code ({ cls := "java/lang/AbstractStringBuilder", name := "append", desc := "(I)Ljava/lang/AbstractStringBuilder;" } : Jvm.MethodName) prog_30_method_32_code (4 : Nat) (Option.some (Jvm.ClassFile.FieldType.object "java/lang/AbstractStringBuilder"))) ∈ xTB := tc9 51 (by decide +kernel) rfl
theorem w1972 : (Jvm.Cond.methodLink "java/lang/AbstractStringBuilder" (245 : Nat) ({ cls := "java/lang/Integer", name := "stringSize", desc := "(I)I" } : Jvm.MethodName)) ∈ xTB := tc9 52 (by decide +kernel) rfl
theorem w1973 : (Jvm.Cond.static ({ cls := "java/lang/Integer", name := "stringSize", desc := "(I)I" } : Jvm.MethodName)) ∈ xTB := tc9 53 (by decide +kernel) rfl
theorem w1974 : (Jvm.Cond.code ({ cls := "java/lang/Integer", name := "stringSize", desc := "(I)I" } : Jvm.MethodName) prog_40_method_13_code (4 : Nat) (Option.some Jvm.ClassFile.FieldType.int)) ∈ xTB := tc9 54 (by decide +kernel) rfl
theorem w1975 : (Jvm.Cond.methodLink "java/lang/AbstractStringBuilder" (248 : Nat) ({ cls := "java/lang/Integer", name := "getChars", desc := "(II[B)I" } : Jvm.MethodName)) ∈ xTB := tc9 55 (by decide +kernel) rfl
theorem w1976 : (Jvm.Cond.static ({ cls := "java/lang/Integer", name := "getChars", desc := "(II[B)I" } : Jvm.MethodName)) ∈ xTB := tc9 56 (by decide +kernel) rfl
theorem w1977 : (Jvm.Cond.code ({ cls := "java/lang/Integer", name := "getChars", desc := "(II[B)I" } : Jvm.MethodName) prog_40_method_12_code (7 : Nat) (Option.some Jvm.ClassFile.FieldType.int)) ∈ xTB := tc9 57 (by decide +kernel) rfl
theorem w1978 : (Jvm.Cond.fieldLink "java/lang/Integer" (83 : Nat) "java/lang/Integer" "DigitOnes" "[B") ∈ xTB := tc9 58 (by decide +kernel) rfl
theorem w1980 : (Jvm.Cond.fieldLink "java/lang/Integer" (87 : Nat) "java/lang/Integer" "DigitTens" "[B") ∈ xTB := tc9 60 (by decide +kernel) rfl
theorem w1991 : (Jvm.Cond.methodLink "LevelhouseLaw" (152 : Nat) ({ cls := "LevelhouseLaw", name := "number", desc := "()Ljava/lang/String;" } : Jvm.MethodName)) ∈ xTB := tc9 71 (by decide +kernel) rfl
theorem w1993 : (Jvm.Cond.instanceMethod ({ cls := "LevelhouseLaw", name := "number", desc := "()Ljava/lang/String;" } : Jvm.MethodName)) ∈ xTB := tc9 73 (by decide +kernel) rfl
theorem w1994 : (Jvm.Cond.code ({ cls := "LevelhouseLaw", name := "number", desc := "()Ljava/lang/String;" } : Jvm.MethodName) method_10_code (2 : Nat) (Option.some (Jvm.ClassFile.FieldType.object "java/lang/String"))) ∈ xTB := tc9 74 (by decide +kernel) rfl
theorem w2003 : (Jvm.Cond.methodLink "LevelhouseLaw" (163 : Nat) ({ cls := "LevelhouseLaw", name := "condition", desc := "()Ljava/lang/String;" } : Jvm.MethodName)) ∈ xTB := tc9 83 (by decide +kernel) rfl
theorem w2005 : (Jvm.Cond.instanceMethod ({ cls := "LevelhouseLaw", name := "condition", desc := "()Ljava/lang/String;" } : Jvm.MethodName)) ∈ xTB := tc9 85 (by decide +kernel) rfl
theorem w2006 : (Jvm.Cond.code ({ cls := "LevelhouseLaw", name := "condition", desc := "()Ljava/lang/String;" } : Jvm.MethodName) method_11_code (2 : Nat) (Option.some (Jvm.ClassFile.FieldType.object "java/lang/String"))) ∈ xTB := tc9 86 (by decide +kernel) rfl
theorem w2023 : (Jvm.Cond.methodLink "LevelhouseLaw" (240 : Nat) ({ cls := "java/lang/String", name := "startsWith", desc := "(Ljava/lang/String;)Z" } : Jvm.MethodName)) ∈ xTB := tc9 103 (by decide +kernel) rfl
theorem w2024 : (Jvm.Cond.instanceMethod ({ cls := "java/lang/String", name := "startsWith", desc := "(Ljava/lang/String;)Z" } : Jvm.MethodName)) ∈ xTB := tc9 104 (by decide +kernel) rfl
theorem w2025 : (Jvm.Cond.selects "java/lang/String" ({ cls := "java/lang/String", name := "startsWith", desc := "(Ljava/lang/String;)Z" } : Jvm.MethodName) ({ cls := "java/lang/String", name := "startsWith", desc := "(Ljava/lang/String;)Z" } : Jvm.MethodName)) ∈ xTB := tc9 105 (by decide +kernel) rfl
theorem w2026 : (Jvm.Cond.code ({ cls := "java/lang/String", name := "startsWith", desc := "(Ljava/lang/String;)Z" } : Jvm.MethodName) prog_46_method_76_code (2 : Nat) (Option.some Jvm.ClassFile.FieldType.boolean)) ∈ xTB := tc9 106 (by decide +kernel) rfl
theorem w2027 : (Jvm.Cond.methodLink "java/lang/String" (624 : Nat) ({ cls := "java/lang/String", name := "startsWith", desc := "(Ljava/lang/String;I)Z" } : Jvm.MethodName)) ∈ xTB := tc9 107 (by decide +kernel) rfl
theorem w2028 : (Jvm.Cond.instanceMethod ({ cls := "java/lang/String", name := "startsWith", desc := "(Ljava/lang/String;I)Z" } : Jvm.MethodName)) ∈ xTB := tc9 108 (by decide +kernel) rfl
theorem w2029 : (Jvm.Cond.selects "java/lang/String" ({ cls := "java/lang/String", name := "startsWith", desc := "(Ljava/lang/String;I)Z" } : Jvm.MethodName) ({ cls := "java/lang/String", name := "startsWith", desc := "(Ljava/lang/String;I)Z" } : Jvm.MethodName)) ∈ xTB := tc9 109 (by decide +kernel) rfl
theorem w2030 : (Jvm.Cond.code ({ cls := "java/lang/String", name := "startsWith", desc := "(Ljava/lang/String;I)Z" } : Jvm.MethodName) prog_46_method_75_code (8 : Nat) (Option.some Jvm.ClassFile.FieldType.boolean)) ∈ xTB := tc9 110 (by decide +kernel) rfl
theorem w2031 : (Jvm.Cond.methodLink "java/lang/String" (505 : Nat) ({ cls := "java/lang/String", name := "length", desc := "()I" } : Jvm.MethodName)) ∈ xTB := tc9 111 (by decide +kernel) rfl
theorem w2032 : (Jvm.Cond.methodLink "java/lang/String" (607 : Nat) ({ cls := "jdk/internal/util/ArraysSupport", name := "mismatch", desc := "([BI[BII)I" } : Jvm.MethodName)) ∈ xTB := tc9 112 (by decide +kernel) rfl
theorem w2033 : (Jvm.Cond.static ({ cls := "jdk/internal/util/ArraysSupport", name := "mismatch", desc := "([BI[BII)I" } : Jvm.MethodName)) ∈ xTB := tc9 113 (by decide +kernel) rfl
theorem w2034 : (Jvm.Cond.code ({ cls := "jdk/internal/util/ArraysSupport", name := "mismatch", desc := "([BI[BII)I" } : Jvm.MethodName) prog_67_method_14_code (8 : Nat) (Option.some Jvm.ClassFile.FieldType.int)) ∈ xTB := tc9 114 (by decide +kernel) rfl
theorem w2035 : (Jvm.Cond.fieldLink "jdk/internal/util/ArraysSupport" (126 : Nat) "jdk/internal/misc/Unsafe" "ARRAY_BYTE_BASE_OFFSET" "I") ∈ xTB := tc9 115 (by decide +kernel) rfl
theorem w2037 : (Jvm.Cond.fieldLink "jdk/internal/util/ArraysSupport" (129 : Nat) "jdk/internal/util/ArraysSupport" "LOG2_ARRAY_BYTE_INDEX_SCALE" "I") ∈ xTB := tc9 117 (by decide +kernel) rfl
theorem w2039 : (Jvm.Cond.methodLink "jdk/internal/util/ArraysSupport" (122 : Nat) ({ cls := "jdk/internal/util/ArraysSupport", name := "vectorizedMismatch", desc := "(Ljava/lang/Object;JLjava/lang/Object;JII)I" } : Jvm.MethodName)) ∈ xTB := tc9 119 (by decide +kernel) rfl
theorem w2040 : (Jvm.Cond.static ({ cls := "jdk/internal/util/ArraysSupport", name := "vectorizedMismatch", desc := "(Ljava/lang/Object;JLjava/lang/Object;JII)I" } : Jvm.MethodName)) ∈ xTB := tc9 120 (by decide +kernel) rfl
theorem w2041 : (Jvm.Cond.code ({ cls := "jdk/internal/util/ArraysSupport", name := "vectorizedMismatch", desc := "(Ljava/lang/Object;JLjava/lang/Object;JII)I" } : Jvm.MethodName) prog_67_method_3_code (19 : Nat) (Option.some Jvm.ClassFile.FieldType.int)) ∈ xTB := tc9 121 (by decide +kernel) rfl
theorem w2042 : (Jvm.Cond.fieldLink "jdk/internal/util/ArraysSupport" (20 : Nat) "jdk/internal/util/ArraysSupport" "LOG2_ARRAY_LONG_INDEX_SCALE" "I") ∈ xTB := tc9 122 (by decide +kernel) rfl
theorem w2098 : (Jvm.Cond.fieldLink "jdk/internal/util/ArraysSupport" (36 : Nat) "jdk/internal/util/ArraysSupport" "BIG_ENDIAN" "Z") ∈ xTB := tc9 178 (by decide +kernel) rfl
theorem w2104 : (Jvm.Cond.static ({ cls := "java/lang/Integer", name := "numberOfLeadingZeros", desc := "(I)I" } : Jvm.MethodName)) ∈ xTB := tc9 184 (by decide +kernel) rfl
theorem w2105 : (Jvm.Cond.code ({ cls := "java/lang/Integer", name := "numberOfLeadingZeros", desc := "(I)I" } : Jvm.MethodName) prog_40_method_47_code (2 : Nat) (Option.some Jvm.ClassFile.FieldType.int)) ∈ xTB := tc9 185 (by decide +kernel) rfl
theorem w2106 : (Jvm.Cond.constant "java/lang/Integer" (264 : Nat) (65536 : Int32)) ∈ xTB := tc9 186 (by decide +kernel) rfl
theorem w2107 : (Jvm.Cond.fieldLink "jdk/internal/util/ArraysSupport" (46 : Nat) "jdk/internal/util/ArraysSupport" "LOG2_BYTE_BIT_SIZE" "I") ∈ xTB := tc9 187 (by decide +kernel) rfl
theorem w2113 : (Jvm.Cond.static ({ cls := "java/lang/Integer", name := "numberOfTrailingZeros", desc := "(I)I" } : Jvm.MethodName)) ∈ xTB := tc9 193 (by decide +kernel) rfl
theorem w2114 : (Jvm.Cond.code ({ cls := "java/lang/Integer", name := "numberOfTrailingZeros", desc := "(I)I" } : Jvm.MethodName) prog_40_method_48_code (2 : Nat) (Option.some Jvm.ClassFile.FieldType.int)) ∈ xTB := tc9 194 (by decide +kernel) rfl
theorem w2115 : (Jvm.Cond.fieldLink "jdk/internal/util/ArraysSupport" (51 : Nat) "jdk/internal/util/ArraysSupport" "LOG2_ARRAY_INT_INDEX_SCALE" "I") ∈ xTB := tc9 195 (by decide +kernel) rfl
theorem w2134 : (Jvm.Cond.methodLink "jdk/internal/util/ArraysSupport" (58 : Nat) ({ cls := "java/lang/Integer", name := "numberOfLeadingZeros", desc := "(I)I" } : Jvm.MethodName)) ∈ xTB := tc9 214 (by decide +kernel) rfl
theorem w2135 : (Jvm.Cond.methodLink "jdk/internal/util/ArraysSupport" (11 : Nat) ({ cls := "java/lang/Integer", name := "numberOfTrailingZeros", desc := "(I)I" } : Jvm.MethodName)) ∈ xTB := tc9 215 (by decide +kernel) rfl
theorem w2139 : (Jvm.Cond.methodLink "LevelhouseLaw" (210 : Nat) ({ cls := "Levelhouse", name := "checksum", desc := "(I)J" } : Jvm.MethodName)) ∈ xTB := tc9 219 (by decide +kernel) rfl
theorem w2140 : (Jvm.Cond.instanceMethod ({ cls := "Levelhouse", name := "checksum", desc := "(I)J" } : Jvm.MethodName)) ∈ xTB := tc9 220 (by decide +kernel) rfl
theorem w2141 : (Jvm.Cond.selects "Levelhouse" ({ cls := "Levelhouse", name := "checksum", desc := "(I)J" } : Jvm.MethodName) ({ cls := "Levelhouse", name := "checksum", desc := "(I)J" } : Jvm.MethodName)) ∈ xTB := tc9 221 (by decide +kernel) rfl
theorem w2142 : (Jvm.Cond.code ({ cls := "Levelhouse", name := "checksum", desc := "(I)J" } : Jvm.MethodName) prog_1_method_22_code (7 : Nat) (Option.some Jvm.ClassFile.FieldType.long)) ∈ xTB := tc9 222 (by decide +kernel) rfl
theorem w2143 : (Jvm.Cond.methodLink "Levelhouse" (234 : Nat) ({ cls := "Levelhouse", name := "isBelow", desc := "(II)Z" } : Jvm.MethodName)) ∈ xTB := tc9 223 (by decide +kernel) rfl
theorem w2144 : (Jvm.Cond.methodLink "Levelhouse" (247 : Nat) ({ cls := "Levelhouse", name := "nameSum", desc := "(JI)J" } : Jvm.MethodName)) ∈ xTB := tc9 224 (by decide +kernel) rfl
theorem w2145 : (Jvm.Cond.static ({ cls := "Levelhouse", name := "nameSum", desc := "(JI)J" } : Jvm.MethodName)) ∈ xTB := tc9 225 (by decide +kernel) rfl
theorem w2146 : (Jvm.Cond.code ({ cls := "Levelhouse", name := "nameSum", desc := "(JI)J" } : Jvm.MethodName) prog_1_method_36_code (6 : Nat) (Option.some Jvm.ClassFile.FieldType.long)) ∈ xTB := tc9 226 (by decide +kernel) rfl
theorem w2147 : (Jvm.Cond.constant "Levelhouse" (297 : Nat) (14348907 : Int32)) ∈ xTB := tc9 227 (by decide +kernel) rfl
theorem w2148 : (Jvm.Cond.constantLong "Levelhouse" (251 : Nat) (31 : Int64)) ∈ xTB := tc9 228 (by decide +kernel) rfl
theorem w2149 : (Jvm.Cond.constantLong "Levelhouse" (298 : Nat) (97 : Int64)) ∈ xTB := tc9 229 (by decide +kernel) rfl
theorem w2150 : (Jvm.Cond.methodLink "Levelhouse" (253 : Nat) ({ cls := "Levelhouse$Sight", name := "sumOf", desc := "(LLevelhouse$Table;J)J" } : Jvm.MethodName)) ∈ xTB := tc9 230 (by decide +kernel) rfl
theorem w2151 : (Jvm.Cond.instanceMethod ({ cls := "Levelhouse$Sight", name := "sumOf", desc := "(LLevelhouse$Table;J)J" } : Jvm.MethodName)) ∈ xTB := tc9 231 (by decide +kernel) rfl
theorem w2152 : (Jvm.Cond.selects "Levelhouse$Sight" ({ cls := "Levelhouse$Sight", name := "sumOf", desc := "(LLevelhouse$Table;J)J" } : Jvm.MethodName) ({ cls := "Levelhouse$Sight", name := "sumOf", desc := "(LLevelhouse$Table;J)J" } : Jvm.MethodName)) ∈ xTB := tc9 232 (by decide +kernel) rfl
theorem w2153 : (Jvm.Cond.code ({ cls := "Levelhouse$Sight", name := "sumOf", desc := "(LLevelhouse$Table;J)J" } : Jvm.MethodName) prog_11_method_8_code (9 : Nat) (Option.some Jvm.ClassFile.FieldType.long)) ∈ xTB := tc9 233 (by decide +kernel) rfl
theorem w2154 : (Jvm.Cond.constantLong "Levelhouse$Sight" (96 : Nat) (31 : Int64)) ∈ xTB := tc9 234 (by decide +kernel) rfl
theorem w2155 : (Jvm.Cond.methodLink "Levelhouse$Sight" (98 : Nat) ({ cls := "Levelhouse$Entry", name := "width", desc := "()I" } : Jvm.MethodName)) ∈ xTB := tc9 235 (by decide +kernel) rfl
theorem w2156 : (Jvm.Cond.instanceMethod ({ cls := "Levelhouse$Entry", name := "width", desc := "()I" } : Jvm.MethodName)) ∈ xTB := tc9 236 (by decide +kernel) rfl
theorem w2157 : (Jvm.Cond.selects "Levelhouse$Entry" ({ cls := "Levelhouse$Entry", name := "width", desc := "()I" } : Jvm.MethodName) ({ cls := "Levelhouse$Entry", name := "width", desc := "()I" } : Jvm.MethodName)) ∈ xTB := tc9 237 (by decide +kernel) rfl
theorem w2158 : (Jvm.Cond.code ({ cls := "Levelhouse$Entry", name := "width", desc := "()I" } : Jvm.MethodName) prog_4_method_2_code (1 : Nat) (Option.some Jvm.ClassFile.FieldType.int)) ∈ xTB := tc9 238 (by decide +kernel) rfl
theorem w2159 : (Jvm.Cond.methodLink "Levelhouse" (261 : Nat) ({ cls := "Levelhouse$Shelf", name := "countBelow", desc := "(IZ)I" } : Jvm.MethodName)) ∈ xTB := tc9 239 (by decide +kernel) rfl
theorem w2160 : (Jvm.Cond.instanceMethod ({ cls := "Levelhouse$Shelf", name := "countBelow", desc := "(IZ)I" } : Jvm.MethodName)) ∈ xTB := tc10 0 (by decide +kernel) rfl
theorem w2161 : (Jvm.Cond.selects "Levelhouse$Shelf" ({ cls := "Levelhouse$Shelf", name := "countBelow", desc := "(IZ)I" } : Jvm.MethodName) ({ cls := "Levelhouse$Shelf", name := "countBelow", desc := "(IZ)I" } : Jvm.MethodName)) ∈ xTB := tc10 1 (by decide +kernel) rfl
theorem w2162 : (Jvm.Cond.code ({ cls := "Levelhouse$Shelf", name := "countBelow", desc := "(IZ)I" } : Jvm.MethodName) prog_10_method_15_code (6 : Nat) (Option.some Jvm.ClassFile.FieldType.int)) ∈ xTB := tc10 2 (by decide +kernel) rfl
theorem w2163 : (Jvm.Cond.methodLink "Levelhouse" (265 : Nat) ({ cls := "Levelhouse$Session", name := "signAt", desc := "(I)I" } : Jvm.MethodName)) ∈ xTB := tc10 3 (by decide +kernel) rfl
theorem w2164 : (Jvm.Cond.instanceMethod ({ cls := "Levelhouse$Session", name := "signAt", desc := "(I)I" } : Jvm.MethodName)) ∈ xTB := tc10 4 (by decide +kernel) rfl
theorem w2165 : (Jvm.Cond.selects "Levelhouse$Session" ({ cls := "Levelhouse$Session", name := "signAt", desc := "(I)I" } : Jvm.MethodName) ({ cls := "Levelhouse$Session", name := "signAt", desc := "(I)I" } : Jvm.MethodName)) ∈ xTB := tc10 5 (by decide +kernel) rfl
theorem w2166 : (Jvm.Cond.code ({ cls := "Levelhouse$Session", name := "signAt", desc := "(I)I" } : Jvm.MethodName) prog_9_method_3_code (2 : Nat) (Option.some Jvm.ClassFile.FieldType.int)) ∈ xTB := tc10 6 (by decide +kernel) rfl
theorem w2167 : (Jvm.Cond.methodLink "LevelhouseLaw" (248 : Nat) ({ cls := "LevelhouseLaw", name := "acts", desc := "(LLevelhouse;IILjava/lang/String;)J" } : Jvm.MethodName)) ∈ xTB := tc10 7 (by decide +kernel) rfl
theorem w2168 : (Jvm.Cond.static ({ cls := "LevelhouseLaw", name := "acts", desc := "(LLevelhouse;IILjava/lang/String;)J" } : Jvm.MethodName)) ∈ xTB := tc10 8 (by decide +kernel) rfl
theorem w2169 : (Jvm.Cond.codeWith ({ cls := "LevelhouseLaw", name := "acts", desc := "(LLevelhouse;IILjava/lang/String;)J" } : Jvm.MethodName) method_13_code (5 : Nat) (Option.some Jvm.ClassFile.FieldType.long) [((0 : Nat), (38 : Nat), (69 : Nat), (203 : Nat)), ((39 : Nat), (49 : Nat), (69 : Nat), (203 : Nat)), ((50 : Nat), (60 : Nat), (69 : Nat), (203 : Nat)), ((61 : Nat), (68 : Nat), (69 : Nat), (203 : Nat)), ((0 : Nat), (38 : Nat), (75 : Nat), (83 : Nat)), ((39 : Nat), (49 : Nat), (75 : Nat), (83 : Nat)), ((50 : Nat), (60 : Nat), (75 : Nat), (83 : Nat)), ((61 : Nat), (68 : Nat), (75 : Nat), (83 : Nat))]) ∈ xTB := tc10 9 (by decide +kernel) rfl
theorem w2170 : (Jvm.Cond.classLink "LevelhouseLaw" (203 : Nat) "java/lang/IllegalStateException") ∈ xTB := tc10 10 (by decide +kernel) rfl
theorem w2171 : (Jvm.Cond.methodLink "LevelhouseLaw" (190 : Nat) ({ cls := "Levelhouse", name := "begin", desc := "(I)I" } : Jvm.MethodName)) ∈ xTB := tc10 11 (by decide +kernel) rfl
theorem w2172 : (Jvm.Cond.instanceMethod ({ cls := "Levelhouse", name := "begin", desc := "(I)I" } : Jvm.MethodName)) ∈ xTB := tc10 12 (by decide +kernel) rfl
theorem w2173 : (Jvm.Cond.selects "Levelhouse" ({ cls := "Levelhouse", name := "begin", desc := "(I)I" } : Jvm.MethodName) ({ cls := "Levelhouse", name := "begin", desc := "(I)I" } : Jvm.MethodName)) ∈ xTB := tc10 13 (by decide +kernel) rfl
theorem w2174 : (Jvm.Cond.code ({ cls := "Levelhouse", name := "begin", desc := "(I)I" } : Jvm.MethodName) prog_1_method_13_code (3 : Nat) (Option.some Jvm.ClassFile.FieldType.int)) ∈ xTB := tc10 14 (by decide +kernel) rfl
theorem w2175 : (Jvm.Cond.methodLink "Levelhouse" (199 : Nat) ({ cls := "Levelhouse$Session", name := "startBusy", desc := "(LLevelhouse$Shelf;I)V" } : Jvm.MethodName)) ∈ xTB := tc10 15 (by decide +kernel) rfl
theorem w2176 : (Jvm.Cond.instanceMethod ({ cls := "Levelhouse$Session", name := "startBusy", desc := "(LLevelhouse$Shelf;I)V" } : Jvm.MethodName)) ∈ xTB := tc10 16 (by decide +kernel) rfl
theorem w2177 : (Jvm.Cond.selects "Levelhouse$Session" ({ cls := "Levelhouse$Session", name := "startBusy", desc := "(LLevelhouse$Shelf;I)V" } : Jvm.MethodName) ({ cls := "Levelhouse$Session", name := "startBusy", desc := "(LLevelhouse$Shelf;I)V" } : Jvm.MethodName)) ∈ xTB := tc10 17 (by decide +kernel) rfl
theorem w2178 : (Jvm.Cond.code ({ cls := "Levelhouse$Session", name := "startBusy", desc := "(LLevelhouse$Shelf;I)V" } : Jvm.MethodName) prog_9_method_8_code (3 : Nat) (Option.none : Option Jvm.ClassFile.FieldType)) ∈ xTB := tc10 18 (by decide +kernel) rfl
theorem w2179 : (Jvm.Cond.methodLink "Levelhouse$Session" (76 : Nat) ({ cls := "Levelhouse$Shelf", name := "fill", desc := "(LLevelhouse$Shelf;)V" } : Jvm.MethodName)) ∈ xTB := tc10 19 (by decide +kernel) rfl
theorem w2180 : (Jvm.Cond.methodLink "LevelhouseLaw" (193 : Nat) ({ cls := "Levelhouse", name := "end", desc := "(I)I" } : Jvm.MethodName)) ∈ xTB := tc10 20 (by decide +kernel) rfl
theorem w2181 : (Jvm.Cond.instanceMethod ({ cls := "Levelhouse", name := "end", desc := "(I)I" } : Jvm.MethodName)) ∈ xTB := tc10 21 (by decide +kernel) rfl
theorem w2182 : (Jvm.Cond.selects "Levelhouse" ({ cls := "Levelhouse", name := "end", desc := "(I)I" } : Jvm.MethodName) ({ cls := "Levelhouse", name := "end", desc := "(I)I" } : Jvm.MethodName)) ∈ xTB := tc10 22 (by decide +kernel) rfl
theorem w2183 : (Jvm.Cond.code ({ cls := "Levelhouse", name := "end", desc := "(I)I" } : Jvm.MethodName) prog_1_method_14_code (4 : Nat) (Option.some Jvm.ClassFile.FieldType.int)) ∈ xTB := tc10 23 (by decide +kernel) rfl
theorem w2184 : (Jvm.Cond.methodLink "Levelhouse" (209 : Nat) ({ cls := "Levelhouse$Change", name := "merge", desc := "(LLevelhouse$Session;LLevelhouse$Shelf;Ljava/util/ArrayList;)C" } : Jvm.MethodName)) ∈ xTB := tc10 24 (by decide +kernel) rfl
theorem w2185 : (Jvm.Cond.instanceMethod ({ cls := "Levelhouse$Change", name := "merge", desc := "(LLevelhouse$Session;LLevelhouse$Shelf;Ljava/util/ArrayList;)C" } : Jvm.MethodName)) ∈ xTB := tc10 25 (by decide +kernel) rfl
theorem w2186 : (Jvm.Cond.selects "Levelhouse$Change" ({ cls := "Levelhouse$Change", name := "merge", desc := "(LLevelhouse$Session;LLevelhouse$Shelf;Ljava/util/ArrayList;)C" } : Jvm.MethodName) ({ cls := "Levelhouse$Change", name := "merge", desc := "(LLevelhouse$Session;LLevelhouse$Shelf;Ljava/util/ArrayList;)C" } : Jvm.MethodName)) ∈ xTB := tc10 26 (by decide +kernel) rfl
theorem w2187 : (Jvm.Cond.code ({ cls := "Levelhouse$Change", name := "merge", desc := "(LLevelhouse$Session;LLevelhouse$Shelf;Ljava/util/ArrayList;)C" } : Jvm.MethodName) prog_3_method_10_code (6 : Nat) (Option.some Jvm.ClassFile.FieldType.char)) ∈ xTB := tc10 27 (by decide +kernel) rfl
theorem w2188 : (Jvm.Cond.methodLink "Levelhouse$Change" (216 : Nat) ({ cls := "java/lang/Math", name := "max", desc := "(II)I" } : Jvm.MethodName)) ∈ xTB := tc10 28 (by decide +kernel) rfl
theorem w2189 : (Jvm.Cond.methodLinkNest "Levelhouse$Change" (222 : Nat) ({ cls := "Levelhouse$Session", name := "hasChanged", desc := "(LLevelhouse$Entry;)Z" } : Jvm.MethodName) "Levelhouse") ∈ xTB := tc10 29 (by decide +kernel) rfl
theorem w2190 : (Jvm.Cond.methodLink "Levelhouse$Change" (226 : Nat) ({ cls := "Levelhouse$Change", name := "start", desc := "(LLevelhouse$Shelf;I)V" } : Jvm.MethodName)) ∈ xTB := tc10 30 (by decide +kernel) rfl
theorem w2191 : (Jvm.Cond.methodLink "Levelhouse$Change" (232 : Nat) ({ cls := "Levelhouse$Change", name := "take", desc := "(LLevelhouse$Entry;LLevelhouse$Shelf;)V" } : Jvm.MethodName)) ∈ xTB := tc10 31 (by decide +kernel) rfl
theorem w2193 : (Jvm.Cond.instanceMethod ({ cls := "Levelhouse$Change", name := "take", desc := "(LLevelhouse$Entry;LLevelhouse$Shelf;)V" } : Jvm.MethodName)) ∈ xTB := tc10 33 (by decide +kernel) rfl
theorem w2194 : (Jvm.Cond.code ({ cls := "Levelhouse$Change", name := "take", desc := "(LLevelhouse$Entry;LLevelhouse$Shelf;)V" } : Jvm.MethodName) prog_3_method_11_code (4 : Nat) (Option.none : Option Jvm.ClassFile.FieldType)) ∈ xTB := tc10 34 (by decide +kernel) rfl
theorem w2195 : (Jvm.Cond.methodLink "Levelhouse" (224 : Nat) ({ cls := "Levelhouse$Session", name := "stopBusy", desc := "()V" } : Jvm.MethodName)) ∈ xTB := tc10 35 (by decide +kernel) rfl
theorem w2196 : (Jvm.Cond.methodLink "LevelhouseLaw" (196 : Nat) ({ cls := "Levelhouse", name := "giveUp", desc := "(I)I" } : Jvm.MethodName)) ∈ xTB := tc10 36 (by decide +kernel) rfl
theorem w2197 : (Jvm.Cond.instanceMethod ({ cls := "Levelhouse", name := "giveUp", desc := "(I)I" } : Jvm.MethodName)) ∈ xTB := tc10 37 (by decide +kernel) rfl
theorem w2198 : (Jvm.Cond.selects "Levelhouse" ({ cls := "Levelhouse", name := "giveUp", desc := "(I)I" } : Jvm.MethodName) ({ cls := "Levelhouse", name := "giveUp", desc := "(I)I" } : Jvm.MethodName)) ∈ xTB := tc10 38 (by decide +kernel) rfl
theorem w2199 : (Jvm.Cond.code ({ cls := "Levelhouse", name := "giveUp", desc := "(I)I" } : Jvm.MethodName) prog_1_method_15_code (4 : Nat) (Option.some Jvm.ClassFile.FieldType.int)) ∈ xTB := tc10 39 (by decide +kernel) rfl
theorem w2200 : (Jvm.Cond.constantLong "LevelhouseLaw" (205 : Nat) (-500 : Int64)) ∈ xTB := tc10 40 (by decide +kernel) rfl
theorem w2201 : (Jvm.Cond.methodLink "LevelhouseLaw" (252 : Nat) ({ cls := "LevelhouseLaw", name := "areLike", desc := "(I)Z" } : Jvm.MethodName)) ∈ xTB := tc10 41 (by decide +kernel) rfl
theorem w2203 : (Jvm.Cond.instanceMethod ({ cls := "LevelhouseLaw", name := "areLike", desc := "(I)Z" } : Jvm.MethodName)) ∈ xTB := tc10 43 (by decide +kernel) rfl
theorem w2204 : (Jvm.Cond.code ({ cls := "LevelhouseLaw", name := "areLike", desc := "(I)Z" } : Jvm.MethodName) method_14_code (5 : Nat) (Option.some Jvm.ClassFile.FieldType.boolean)) ∈ xTB := tc10 44 (by decide +kernel) rfl
theorem w2205 : (Jvm.Cond.methodLink "LevelhouseLaw" (207 : Nat) ({ cls := "Levelhouse", name := "seen", desc := "(I)I" } : Jvm.MethodName)) ∈ xTB := tc10 45 (by decide +kernel) rfl
theorem w2206 : (Jvm.Cond.instanceMethod ({ cls := "Levelhouse", name := "seen", desc := "(I)I" } : Jvm.MethodName)) ∈ xTB := tc10 46 (by decide +kernel) rfl
theorem w2207 : (Jvm.Cond.selects "Levelhouse" ({ cls := "Levelhouse", name := "seen", desc := "(I)I" } : Jvm.MethodName) ({ cls := "Levelhouse", name := "seen", desc := "(I)I" } : Jvm.MethodName)) ∈ xTB := tc10 47 (by decide +kernel) rfl
theorem w2208 : (Jvm.Cond.code ({ cls := "Levelhouse", name := "seen", desc := "(I)I" } : Jvm.MethodName) prog_1_method_18_code (2 : Nat) (Option.some Jvm.ClassFile.FieldType.int)) ∈ xTB := tc10 48 (by decide +kernel) rfl
theorem w2209 : (Jvm.Cond.methodLink "LevelhouseLaw" (214 : Nat) ({ cls := "Levelhouse", name := "tables", desc := "(I)I" } : Jvm.MethodName)) ∈ xTB := tc10 49 (by decide +kernel) rfl
theorem w2210 : (Jvm.Cond.instanceMethod ({ cls := "Levelhouse", name := "tables", desc := "(I)I" } : Jvm.MethodName)) ∈ xTB := tc10 50 (by decide +kernel) rfl
theorem w2211 : (Jvm.Cond.selects "Levelhouse" ({ cls := "Levelhouse", name := "tables", desc := "(I)I" } : Jvm.MethodName) ({ cls := "Levelhouse", name := "tables", desc := "(I)I" } : Jvm.MethodName)) ∈ xTB := tc10 51 (by decide +kernel) rfl
theorem w2212 : (Jvm.Cond.code ({ cls := "Levelhouse", name := "tables", desc := "(I)I" } : Jvm.MethodName) prog_1_method_17_code (5 : Nat) (Option.some Jvm.ClassFile.FieldType.int)) ∈ xTB := tc10 52 (by decide +kernel) rfl
theorem w2213 : (Jvm.Cond.methodLink "LevelhouseLaw" (217 : Nat) ({ cls := "LevelhouseLaw", name := "answer", desc := "(LLevelhouse;I)J" } : Jvm.MethodName)) ∈ xTB := tc10 53 (by decide +kernel) rfl
theorem w2214 : (Jvm.Cond.static ({ cls := "LevelhouseLaw", name := "answer", desc := "(LLevelhouse;I)J" } : Jvm.MethodName)) ∈ xTB := tc10 54 (by decide +kernel) rfl
theorem w2215 : (Jvm.Cond.code ({ cls := "LevelhouseLaw", name := "answer", desc := "(LLevelhouse;I)J" } : Jvm.MethodName) method_9_code (6 : Nat) (Option.some Jvm.ClassFile.FieldType.long)) ∈ xTB := tc10 55 (by decide +kernel) rfl
theorem w2216 : (Jvm.Cond.methodLink "LevelhouseLaw" (88 : Nat) ({ cls := "Levelhouse", name := "rows", desc := "(I)I" } : Jvm.MethodName)) ∈ xTB := tc10 56 (by decide +kernel) rfl
theorem w2217 : (Jvm.Cond.instanceMethod ({ cls := "Levelhouse", name := "rows", desc := "(I)I" } : Jvm.MethodName)) ∈ xTB := tc10 57 (by decide +kernel) rfl
theorem w2218 : (Jvm.Cond.selects "Levelhouse" ({ cls := "Levelhouse", name := "rows", desc := "(I)I" } : Jvm.MethodName) ({ cls := "Levelhouse", name := "rows", desc := "(I)I" } : Jvm.MethodName)) ∈ xTB := tc10 58 (by decide +kernel) rfl
theorem w2219 : (Jvm.Cond.code ({ cls := "Levelhouse", name := "rows", desc := "(I)I" } : Jvm.MethodName) prog_1_method_9_code (2 : Nat) (Option.some Jvm.ClassFile.FieldType.int)) ∈ xTB := tc10 59 (by decide +kernel) rfl
theorem w2220 : (Jvm.Cond.methodLink "LevelhouseLaw" (91 : Nat) ({ cls := "Levelhouse", name := "columns", desc := "(I)I" } : Jvm.MethodName)) ∈ xTB := tc10 60 (by decide +kernel) rfl
theorem w2221 : (Jvm.Cond.instanceMethod ({ cls := "Levelhouse", name := "columns", desc := "(I)I" } : Jvm.MethodName)) ∈ xTB := tc10 61 (by decide +kernel) rfl
theorem w2222 : (Jvm.Cond.selects "Levelhouse" ({ cls := "Levelhouse", name := "columns", desc := "(I)I" } : Jvm.MethodName) ({ cls := "Levelhouse", name := "columns", desc := "(I)I" } : Jvm.MethodName)) ∈ xTB := tc10 62 (by decide +kernel) rfl
theorem w2223 : (Jvm.Cond.code ({ cls := "Levelhouse", name := "columns", desc := "(I)I" } : Jvm.MethodName) prog_1_method_10_code (2 : Nat) (Option.some Jvm.ClassFile.FieldType.int)) ∈ xTB := tc10 63 (by decide +kernel) rfl
theorem w2224 : (Jvm.Cond.constantLong "LevelhouseLaw" (94 : Nat) (31 : Int64)) ∈ xTB := tc10 64 (by decide +kernel) rfl
theorem w2225 : (Jvm.Cond.methodLink "LevelhouseLaw" (96 : Nat) ({ cls := "Levelhouse", name := "isKnown", desc := "(III)Z" } : Jvm.MethodName)) ∈ xTB := tc10 65 (by decide +kernel) rfl
theorem w2226 : (Jvm.Cond.instanceMethod ({ cls := "Levelhouse", name := "isKnown", desc := "(III)Z" } : Jvm.MethodName)) ∈ xTB := tc10 66 (by decide +kernel) rfl
theorem w2227 : (Jvm.Cond.selects "Levelhouse" ({ cls := "Levelhouse", name := "isKnown", desc := "(III)Z" } : Jvm.MethodName) ({ cls := "Levelhouse", name := "isKnown", desc := "(III)Z" } : Jvm.MethodName)) ∈ xTB := tc10 67 (by decide +kernel) rfl
theorem w2228 : (Jvm.Cond.code ({ cls := "Levelhouse", name := "isKnown", desc := "(III)Z" } : Jvm.MethodName) prog_1_method_11_code (5 : Nat) (Option.some Jvm.ClassFile.FieldType.boolean)) ∈ xTB := tc10 68 (by decide +kernel) rfl
theorem w2229 : (Jvm.Cond.methodLink "Levelhouse" (180 : Nat) ({ cls := "Levelhouse$Session", name := "hasPlace", desc := "(II)Z" } : Jvm.MethodName)) ∈ xTB := tc10 69 (by decide +kernel) rfl
theorem w2230 : (Jvm.Cond.instanceMethod ({ cls := "Levelhouse$Session", name := "hasPlace", desc := "(II)Z" } : Jvm.MethodName)) ∈ xTB := tc10 70 (by decide +kernel) rfl
theorem w2231 : (Jvm.Cond.selects "Levelhouse$Session" ({ cls := "Levelhouse$Session", name := "hasPlace", desc := "(II)Z" } : Jvm.MethodName) ({ cls := "Levelhouse$Session", name := "hasPlace", desc := "(II)Z" } : Jvm.MethodName)) ∈ xTB := tc10 71 (by decide +kernel) rfl
theorem w2232 : (Jvm.Cond.code ({ cls := "Levelhouse$Session", name := "hasPlace", desc := "(II)Z" } : Jvm.MethodName) prog_9_method_5_code (3 : Nat) (Option.some Jvm.ClassFile.FieldType.boolean)) ∈ xTB := tc10 72 (by decide +kernel) rfl
theorem w2233 : (Jvm.Cond.methodLink "Levelhouse" (187 : Nat) ({ cls := "Levelhouse$Session", name := "answerAt", desc := "(II)I" } : Jvm.MethodName)) ∈ xTB := tc10 73 (by decide +kernel) rfl
theorem w2234 : (Jvm.Cond.instanceMethod ({ cls := "Levelhouse$Session", name := "answerAt", desc := "(II)I" } : Jvm.MethodName)) ∈ xTB := tc10 74 (by decide +kernel) rfl
theorem w2235 : (Jvm.Cond.selects "Levelhouse$Session" ({ cls := "Levelhouse$Session", name := "answerAt", desc := "(II)I" } : Jvm.MethodName) ({ cls := "Levelhouse$Session", name := "answerAt", desc := "(II)I" } : Jvm.MethodName)) ∈ xTB := tc10 75 (by decide +kernel) rfl
theorem w2236 : (Jvm.Cond.code ({ cls := "Levelhouse$Session", name := "answerAt", desc := "(II)I" } : Jvm.MethodName) prog_9_method_6_code (4 : Nat) (Option.some Jvm.ClassFile.FieldType.int)) ∈ xTB := tc10 76 (by decide +kernel) rfl
theorem w2237 : (Jvm.Cond.constant "Levelhouse$Session" (53 : Nat) (-1000000000 : Int32)) ∈ xTB := tc10 77 (by decide +kernel) rfl
theorem w2238 : (Jvm.Cond.methodLink "LevelhouseLaw" (100 : Nat) ({ cls := "Levelhouse", name := "cell", desc := "(III)I" } : Jvm.MethodName)) ∈ xTB := tc10 78 (by decide +kernel) rfl
theorem w2239 : (Jvm.Cond.instanceMethod ({ cls := "Levelhouse", name := "cell", desc := "(III)I" } : Jvm.MethodName)) ∈ xTB := tc10 79 (by decide +kernel) rfl
theorem w2240 : (Jvm.Cond.selects "Levelhouse" ({ cls := "Levelhouse", name := "cell", desc := "(III)I" } : Jvm.MethodName) ({ cls := "Levelhouse", name := "cell", desc := "(III)I" } : Jvm.MethodName)) ∈ xTB := tc10 80 (by decide +kernel) rfl
theorem w2241 : (Jvm.Cond.code ({ cls := "Levelhouse", name := "cell", desc := "(III)I" } : Jvm.MethodName) prog_1_method_12_code (6 : Nat) (Option.some Jvm.ClassFile.FieldType.int)) ∈ xTB := tc10 81 (by decide +kernel) rfl
theorem w2242 : (Jvm.Cond.methodLink "LevelhouseLaw" (221 : Nat) ({ cls := "Levelhouse", name := "isOpen", desc := "(I)Z" } : Jvm.MethodName)) ∈ xTB := tc10 82 (by decide +kernel) rfl
theorem w2243 : (Jvm.Cond.instanceMethod ({ cls := "Levelhouse", name := "isOpen", desc := "(I)Z" } : Jvm.MethodName)) ∈ xTB := tc10 83 (by decide +kernel) rfl
theorem w2244 : (Jvm.Cond.selects "Levelhouse" ({ cls := "Levelhouse", name := "isOpen", desc := "(I)Z" } : Jvm.MethodName) ({ cls := "Levelhouse", name := "isOpen", desc := "(I)Z" } : Jvm.MethodName)) ∈ xTB := tc10 84 (by decide +kernel) rfl
theorem w2245 : (Jvm.Cond.code ({ cls := "Levelhouse", name := "isOpen", desc := "(I)Z" } : Jvm.MethodName) prog_1_method_16_code (2 : Nat) (Option.some Jvm.ClassFile.FieldType.boolean)) ∈ xTB := tc10 85 (by decide +kernel) rfl
theorem w2246 : (Jvm.Cond.methodLink "LevelhouseLaw" (224 : Nat) ({ cls := "Levelhouse", name := "audit", desc := "(IIC)I" } : Jvm.MethodName)) ∈ xTB := tc10 86 (by decide +kernel) rfl
theorem w2247 : (Jvm.Cond.instanceMethod ({ cls := "Levelhouse", name := "audit", desc := "(IIC)I" } : Jvm.MethodName)) ∈ xTB := tc10 87 (by decide +kernel) rfl
theorem w2248 : (Jvm.Cond.selects "Levelhouse" ({ cls := "Levelhouse", name := "audit", desc := "(IIC)I" } : Jvm.MethodName) ({ cls := "Levelhouse", name := "audit", desc := "(IIC)I" } : Jvm.MethodName)) ∈ xTB := tc10 88 (by decide +kernel) rfl
theorem w2249 : (Jvm.Cond.code ({ cls := "Levelhouse", name := "audit", desc := "(IIC)I" } : Jvm.MethodName) prog_1_method_19_code (6 : Nat) (Option.some Jvm.ClassFile.FieldType.int)) ∈ xTB := tc10 89 (by decide +kernel) rfl
theorem w2250 : (Jvm.Cond.methodLink "LevelhouseLaw" (265 : Nat) ({ cls := "LevelhouseLaw", name := "areMet", desc := "(I)Z" } : Jvm.MethodName)) ∈ xTB := tc10 90 (by decide +kernel) rfl
theorem w2252 : (Jvm.Cond.instanceMethod ({ cls := "LevelhouseLaw", name := "areMet", desc := "(I)Z" } : Jvm.MethodName)) ∈ xTB := tc10 92 (by decide +kernel) rfl
theorem w2253 : (Jvm.Cond.code ({ cls := "LevelhouseLaw", name := "areMet", desc := "(I)Z" } : Jvm.MethodName) method_16_code (5 : Nat) (Option.some Jvm.ClassFile.FieldType.boolean)) ∈ xTB := tc10 93 (by decide +kernel) rfl
theorem w2257 : (Jvm.Cond.methodLink "LevelhouseLaw" (268 : Nat) ({ cls := "Levelhouse", name := "isSound", desc := "()Z" } : Jvm.MethodName)) ∈ xTB := tc10 97 (by decide +kernel) rfl
theorem w2258 : (Jvm.Cond.instanceMethod ({ cls := "Levelhouse", name := "isSound", desc := "()Z" } : Jvm.MethodName)) ∈ xTB := tc10 98 (by decide +kernel) rfl
theorem w2259 : (Jvm.Cond.selects "Levelhouse" ({ cls := "Levelhouse", name := "isSound", desc := "()Z" } : Jvm.MethodName) ({ cls := "Levelhouse", name := "isSound", desc := "()Z" } : Jvm.MethodName)) ∈ xTB := tc10 99 (by decide +kernel) rfl
theorem w2260 : (Jvm.Cond.code ({ cls := "Levelhouse", name := "isSound", desc := "()Z" } : Jvm.MethodName) prog_1_method_23_code (3 : Nat) (Option.some Jvm.ClassFile.FieldType.boolean)) ∈ xTB := tc10 100 (by decide +kernel) rfl
theorem w2261 : (Jvm.Cond.methodLink "Levelhouse" (269 : Nat) ({ cls := "Levelhouse$Shelf", name := "isNeat", desc := "()Z" } : Jvm.MethodName)) ∈ xTB := tc10 101 (by decide +kernel) rfl
theorem w2262 : (Jvm.Cond.instanceMethod ({ cls := "Levelhouse$Shelf", name := "isNeat", desc := "()Z" } : Jvm.MethodName)) ∈ xTB := tc10 102 (by decide +kernel) rfl
theorem w2263 : (Jvm.Cond.selects "Levelhouse$Shelf" ({ cls := "Levelhouse$Shelf", name := "isNeat", desc := "()Z" } : Jvm.MethodName) ({ cls := "Levelhouse$Shelf", name := "isNeat", desc := "()Z" } : Jvm.MethodName)) ∈ xTB := tc10 103 (by decide +kernel) rfl
theorem w2264 : (Jvm.Cond.code ({ cls := "Levelhouse$Shelf", name := "isNeat", desc := "()Z" } : Jvm.MethodName) prog_10_method_19_code (3 : Nat) (Option.some Jvm.ClassFile.FieldType.boolean)) ∈ xTB := tc10 104 (by decide +kernel) rfl
theorem w2265 : (Jvm.Cond.methodLink "Levelhouse$Shelf" (128 : Nat) ({ cls := "Levelhouse$Shelf", name := "count", desc := "(LLevelhouse$Table;I)I" } : Jvm.MethodName)) ∈ xTB := tc10 105 (by decide +kernel) rfl
theorem w2266 : (Jvm.Cond.methodLink "Levelhouse" (273 : Nat) ({ cls := "Levelhouse$Sight", name := "isMetWhole", desc := "()Z" } : Jvm.MethodName)) ∈ xTB := tc10 106 (by decide +kernel) rfl
theorem w2267 : (Jvm.Cond.instanceMethod ({ cls := "Levelhouse$Sight", name := "isMetWhole", desc := "()Z" } : Jvm.MethodName)) ∈ xTB := tc10 107 (by decide +kernel) rfl
theorem w2268 : (Jvm.Cond.selects "Levelhouse$Sight" ({ cls := "Levelhouse$Sight", name := "isMetWhole", desc := "()Z" } : Jvm.MethodName) ({ cls := "Levelhouse$Sight", name := "isMetWhole", desc := "()Z" } : Jvm.MethodName)) ∈ xTB := tc10 108 (by decide +kernel) rfl
theorem w2269 : (Jvm.Cond.code ({ cls := "Levelhouse$Sight", name := "isMetWhole", desc := "()Z" } : Jvm.MethodName) prog_11_method_6_code (2 : Nat) (Option.some Jvm.ClassFile.FieldType.boolean)) ∈ xTB := tc10 109 (by decide +kernel) rfl
theorem w2271 : (Jvm.Cond.sameMethod "java/lang/AbstractStringBuilder" "java/lang/AbstractStringBuilder" "append" "(Ljava/lang/String;)Ljava/lang/AbstractStringBuilder;") ∈ xTB := tc10 111 (by decide +kernel) rfl
theorem w2278 : (Jvm.Cond.sameMethod "java/lang/AbstractStringBuilder" "java/lang/AbstractStringBuilder" "append" "(I)Ljava/lang/AbstractStringBuilder;") ∈ xTB := tc10 118 (by decide +kernel) rfl
theorem w2279 : (Jvm.Cond.castable "Levelhouse$Session" "java/lang/Object") ∈ xTB := tc10 119 (by decide +kernel) rfl
theorem w2280 : (Jvm.Cond.castable "Levelhouse$Word" "java/lang/Object") ∈ xTB := tc10 120 (by decide +kernel) rfl
theorem w2281 : (Jvm.Cond.castable "Levelhouse$Table" "java/lang/Object") ∈ xTB := tc10 121 (by decide +kernel) rfl
theorem w2282 : (Jvm.Cond.castable "LevelhouseLaw" "java/lang/Object") ∈ xTB := tc10 122 (by decide +kernel) rfl
theorem w2283 : (Jvm.Cond.castable "Levelhouse" "java/lang/Object") ∈ xTB := tc10 123 (by decide +kernel) rfl
theorem w2284 : (Jvm.Cond.castable "java/util/ArrayList" "java/lang/Object") ∈ xTB := tc10 124 (by decide +kernel) rfl
theorem w2285 : (Jvm.Cond.castable "Levelhouse$Shelf" "java/lang/Object") ∈ xTB := tc10 125 (by decide +kernel) rfl
theorem w2286 : (Jvm.Cond.castable "Levelhouse$Statement" "java/lang/Object") ∈ xTB := tc10 126 (by decide +kernel) rfl
theorem w2287 : (Jvm.Cond.castable "Levelhouse$Reader" "java/lang/Object") ∈ xTB := tc10 127 (by decide +kernel) rfl
theorem w2288 : (Jvm.Cond.castable "Levelhouse$Formula" "java/lang/Object") ∈ xTB := tc10 128 (by decide +kernel) rfl
theorem w2289 : (Jvm.Cond.castable "Levelhouse$Meaning" "java/lang/Object") ∈ xTB := tc10 129 (by decide +kernel) rfl
theorem w2290 : (Jvm.Cond.castable "Levelhouse$Sight" "java/lang/Object") ∈ xTB := tc10 130 (by decide +kernel) rfl
theorem w2291 : (Jvm.Cond.castable "Levelhouse$Change" "java/lang/Object") ∈ xTB := tc10 131 (by decide +kernel) rfl
theorem w2292 : (Jvm.Cond.castable "Levelhouse$Query" "java/lang/Object") ∈ xTB := tc10 132 (by decide +kernel) rfl
theorem w2296 : (Jvm.Cond.castable "Levelhouse$Entry" "java/lang/Object") ∈ xTB := tc10 136 (by decide +kernel) rfl
theorem w2299 : (Jvm.Cond.castable "java/lang/StringBuilder" "java/lang/Object") ∈ xTB := tc10 139 (by decide +kernel) rfl
theorem w2300 : (Jvm.Cond.castable "java/lang/String" "java/lang/Object") ∈ xTB := tc10 140 (by decide +kernel) rfl
theorem w2304 : (Jvm.Cond.selects "[Ljava/lang/Object;" ({ cls := "java/lang/Object", name := "getClass", desc := "()Ljava/lang/Class;" } : Jvm.MethodName) ({ cls := "java/lang/Object", name := "getClass", desc := "()Ljava/lang/Class;" } : Jvm.MethodName)) ∈ xTB := tc10 144 (by decide +kernel) rfl
theorem w2305 : (Jvm.Cond.declares ({ cls := "java/lang/Object", name := "getClass", desc := "()Ljava/lang/Class;" } : Jvm.MethodName)) ∈ xTB := tc10 145 (by decide +kernel) rfl
theorem w2314 : (Jvm.Cond.fieldLink "Levelhouse$Word" (176 : Nat) "Levelhouse$Word" "text" "Ljava/lang/String;") ∈ xTB := tc10 154 (by decide +kernel) rfl
theorem w2315 : (Jvm.Cond.fieldLink "java/lang/Enum" (7 : Nat) "java/lang/Enum" "ordinal" "I") ∈ xTB := tc10 155 (by decide +kernel) rfl
theorem w2316 : (Jvm.Cond.fieldLink "Levelhouse$Formula" (57 : Nat) "Levelhouse$Word" "bond" "I") ∈ xTB := tc10 156 (by decide +kernel) rfl
theorem q1 : Cond.selects "LevelhouseLaw" ⟨"LevelhouseLaw", "draw", "(I)I"⟩ ⟨"LevelhouseLaw", "draw", "(I)I"⟩ ∈ xTB := tm 1 (by decide +kernel) (by decide +kernel)
theorem q2 : Cond.selects "Levelhouse" ⟨"Levelhouse", "sessionOf", "(I)LLevelhouse$Session;"⟩ ⟨"Levelhouse", "sessionOf", "(I)LLevelhouse$Session;"⟩ ∈ xTB := tm 2 (by decide +kernel) (by decide +kernel)
theorem q4 : Cond.selects "LevelhouseLaw" ⟨"LevelhouseLaw", "isLow", "(I)Z"⟩ ⟨"LevelhouseLaw", "isLow", "(I)Z"⟩ ∈ xTB := tm 4 (by decide +kernel) (by decide +kernel)
theorem q5 : Cond.selects "Levelhouse$Statement" ⟨"Levelhouse$Statement", "clear", "()V"⟩ ⟨"Levelhouse$Statement", "clear", "()V"⟩ ∈ xTB := tm 5 (by decide +kernel) (by decide +kernel)
theorem q6 : Cond.selects "Levelhouse$Reader" ⟨"Levelhouse$Reader", "readToken", "([CI)I"⟩ ⟨"Levelhouse$Reader", "readToken", "([CI)I"⟩ ∈ xTB := tm 6 (by decide +kernel) (by decide +kernel)
theorem q7 : Cond.selects "Levelhouse$Reader" ⟨"Levelhouse$Reader", "endOfRun", "([CICC)I"⟩ ⟨"Levelhouse$Reader", "endOfRun", "([CICC)I"⟩ ∈ xTB := tm 7 (by decide +kernel) (by decide +kernel)
theorem q8 : Cond.selects "Levelhouse$Reader" ⟨"Levelhouse$Reader", "addWord", "([CII)V"⟩ ⟨"Levelhouse$Reader", "addWord", "([CII)V"⟩ ∈ xTB := tm 8 (by decide +kernel) (by decide +kernel)
theorem q9 : Cond.selects "Levelhouse$Reader" ⟨"Levelhouse$Reader", "add", "(LLevelhouse$Word;II)V"⟩ ⟨"Levelhouse$Reader", "add", "(LLevelhouse$Word;II)V"⟩ ∈ xTB := tm 9 (by decide +kernel) (by decide +kernel)
theorem q10 : Cond.selects "Levelhouse$Reader" ⟨"Levelhouse$Reader", "addNumber", "([CII)V"⟩ ⟨"Levelhouse$Reader", "addNumber", "([CII)V"⟩ ∈ xTB := tm 10 (by decide +kernel) (by decide +kernel)
theorem q11 : Cond.selects "Levelhouse$Statement" ⟨"Levelhouse$Statement", "readGet", "()V"⟩ ⟨"Levelhouse$Statement", "readGet", "()V"⟩ ∈ xTB := tm 11 (by decide +kernel) (by decide +kernel)
theorem q12 : Cond.selects "Levelhouse$Statement" ⟨"Levelhouse$Statement", "isDue", "(I)Z"⟩ ⟨"Levelhouse$Statement", "isDue", "(I)Z"⟩ ∈ xTB := tm 12 (by decide +kernel) (by decide +kernel)
theorem q13 : Cond.selects "Levelhouse$Statement" ⟨"Levelhouse$Statement", "readItem", "()V"⟩ ⟨"Levelhouse$Statement", "readItem", "()V"⟩ ∈ xTB := tm 13 (by decide +kernel) (by decide +kernel)
theorem q14 : Cond.selects "Levelhouse$Statement" ⟨"Levelhouse$Statement", "canStandAsItem", "(LLevelhouse$Word;)Z"⟩ ⟨"Levelhouse$Statement", "canStandAsItem", "(LLevelhouse$Word;)Z"⟩ ∈ xTB := tm 14 (by decide +kernel) (by decide +kernel)
theorem q15 : Cond.selects "Levelhouse$Statement" ⟨"Levelhouse$Statement", "addItem", "(LLevelhouse$Word;)V"⟩ ⟨"Levelhouse$Statement", "addItem", "(LLevelhouse$Word;)V"⟩ ∈ xTB := tm 15 (by decide +kernel) (by decide +kernel)
theorem q16 : Cond.selects "Levelhouse$Formula" ⟨"Levelhouse$Formula", "readOperand", "(LLevelhouse$Reader;LLevelhouse$Word;)Z"⟩ ⟨"Levelhouse$Formula", "readOperand", "(LLevelhouse$Reader;LLevelhouse$Word;)Z"⟩ ∈ xTB := tm 16 (by decide +kernel) (by decide +kernel)
theorem q17 : Cond.selects "Levelhouse$Formula" ⟨"Levelhouse$Formula", "await", "(LLevelhouse$Word;)V"⟩ ⟨"Levelhouse$Formula", "await", "(LLevelhouse$Word;)V"⟩ ∈ xTB := tm 17 (by decide +kernel) (by decide +kernel)
theorem q18 : Cond.selects "Levelhouse$Formula" ⟨"Levelhouse$Formula", "readOperator", "(LLevelhouse$Reader;LLevelhouse$Word;)V"⟩ ⟨"Levelhouse$Formula", "readOperator", "(LLevelhouse$Reader;LLevelhouse$Word;)V"⟩ ∈ xTB := tm 18 (by decide +kernel) (by decide +kernel)
theorem q19 : Cond.selects "Levelhouse$Formula" ⟨"Levelhouse$Formula", "settle", "(I)V"⟩ ⟨"Levelhouse$Formula", "settle", "(I)V"⟩ ∈ xTB := tm 19 (by decide +kernel) (by decide +kernel)
theorem q20 : Cond.selects "Levelhouse$Formula" ⟨"Levelhouse$Formula", "waitingBond", "()I"⟩ ⟨"Levelhouse$Formula", "waitingBond", "()I"⟩ ∈ xTB := tm 20 (by decide +kernel) (by decide +kernel)
theorem q21 : Cond.selects "Levelhouse$Statement" ⟨"Levelhouse$Statement", "readIf", "()V"⟩ ⟨"Levelhouse$Statement", "readIf", "()V"⟩ ∈ xTB := tm 21 (by decide +kernel) (by decide +kernel)
theorem q22 : Cond.selects "Levelhouse$Statement" ⟨"Levelhouse$Statement", "addColumn", "(I)V"⟩ ⟨"Levelhouse$Statement", "addColumn", "(I)V"⟩ ∈ xTB := tm 22 (by decide +kernel) (by decide +kernel)
theorem q23 : Cond.selects "Levelhouse$Statement" ⟨"Levelhouse$Statement", "readTable", "()V"⟩ ⟨"Levelhouse$Statement", "readTable", "()V"⟩ ∈ xTB := tm 23 (by decide +kernel) (by decide +kernel)
theorem q24 : Cond.selects "Levelhouse$Statement" ⟨"Levelhouse$Statement", "readPut", "()V"⟩ ⟨"Levelhouse$Statement", "readPut", "()V"⟩ ∈ xTB := tm 24 (by decide +kernel) (by decide +kernel)
theorem q25 : Cond.selects "Levelhouse$Statement" ⟨"Levelhouse$Statement", "readSet", "()V"⟩ ⟨"Levelhouse$Statement", "readSet", "()V"⟩ ∈ xTB := tm 25 (by decide +kernel) (by decide +kernel)
theorem q26 : Cond.selects "Levelhouse$Meaning" ⟨"Levelhouse$Meaning", "bindTable", "()V"⟩ ⟨"Levelhouse$Meaning", "bindTable", "()V"⟩ ∈ xTB := tm 26 (by decide +kernel) (by decide +kernel)
theorem q27 : Cond.selects "Levelhouse$Meaning" ⟨"Levelhouse$Meaning", "blame", "(I)V"⟩ ⟨"Levelhouse$Meaning", "blame", "(I)V"⟩ ∈ xTB := tm 27 (by decide +kernel) (by decide +kernel)
theorem q28 : Cond.selects "Levelhouse$Meaning" ⟨"Levelhouse$Meaning", "tableNamed", "(I)LLevelhouse$Table;"⟩ ⟨"Levelhouse$Meaning", "tableNamed", "(I)LLevelhouse$Table;"⟩ ∈ xTB := tm 28 (by decide +kernel) (by decide +kernel)
theorem q29 : Cond.selects "Levelhouse$Meaning" ⟨"Levelhouse$Meaning", "bindGet", "()V"⟩ ⟨"Levelhouse$Meaning", "bindGet", "()V"⟩ ∈ xTB := tm 29 (by decide +kernel) (by decide +kernel)
theorem q30 : Cond.selects "Levelhouse$Meaning" ⟨"Levelhouse$Meaning", "bindGroups", "()V"⟩ ⟨"Levelhouse$Meaning", "bindGroups", "()V"⟩ ∈ xTB := tm 30 (by decide +kernel) (by decide +kernel)
theorem q31 : Cond.selects "Levelhouse$Meaning" ⟨"Levelhouse$Meaning", "bindGrouped", "(II)V"⟩ ⟨"Levelhouse$Meaning", "bindGrouped", "(II)V"⟩ ∈ xTB := tm 31 (by decide +kernel) (by decide +kernel)
theorem q32 : Cond.selects "Levelhouse$Meaning" ⟨"Levelhouse$Meaning", "bindCode", "(II)V"⟩ ⟨"Levelhouse$Meaning", "bindCode", "(II)V"⟩ ∈ xTB := tm 32 (by decide +kernel) (by decide +kernel)
theorem q33 : Cond.selects "Levelhouse$Meaning" ⟨"Levelhouse$Meaning", "columnOf", "(I)I"⟩ ⟨"Levelhouse$Meaning", "columnOf", "(I)I"⟩ ∈ xTB := tm 33 (by decide +kernel) (by decide +kernel)
theorem q34 : Cond.selects "Levelhouse$Meaning" ⟨"Levelhouse$Meaning", "hasTables", "()Z"⟩ ⟨"Levelhouse$Meaning", "hasTables", "()Z"⟩ ∈ xTB := tm 34 (by decide +kernel) (by decide +kernel)
theorem q35 : Cond.selects "Levelhouse$Meaning" ⟨"Levelhouse$Meaning", "bindColumns", "()V"⟩ ⟨"Levelhouse$Meaning", "bindColumns", "()V"⟩ ∈ xTB := tm 35 (by decide +kernel) (by decide +kernel)
theorem q36 : Cond.selects "Levelhouse$Meaning" ⟨"Levelhouse$Meaning", "bindOn", "()V"⟩ ⟨"Levelhouse$Meaning", "bindOn", "()V"⟩ ∈ xTB := tm 36 (by decide +kernel) (by decide +kernel)
theorem q37 : Cond.selects "Levelhouse$Meaning" ⟨"Levelhouse$Meaning", "bindSet", "()V"⟩ ⟨"Levelhouse$Meaning", "bindSet", "()V"⟩ ∈ xTB := tm 37 (by decide +kernel) (by decide +kernel)
theorem q38 : Cond.selects "Levelhouse$Meaning" ⟨"Levelhouse$Meaning", "bindPut", "()V"⟩ ⟨"Levelhouse$Meaning", "bindPut", "()V"⟩ ∈ xTB := tm 38 (by decide +kernel) (by decide +kernel)
theorem q39 : Cond.selects "Levelhouse$Meaning" ⟨"Levelhouse$Meaning", "refuseRows", "()V"⟩ ⟨"Levelhouse$Meaning", "refuseRows", "()V"⟩ ∈ xTB := tm 39 (by decide +kernel) (by decide +kernel)
theorem q40 : Cond.selects "Levelhouse" ⟨"Levelhouse", "count", "(LLevelhouse$Session;C)V"⟩ ⟨"Levelhouse", "count", "(LLevelhouse$Session;C)V"⟩ ∈ xTB := tm 40 (by decide +kernel) (by decide +kernel)
theorem q41 : Cond.selects "Levelhouse" ⟨"Levelhouse", "ask", "(LLevelhouse$Session;)I"⟩ ⟨"Levelhouse", "ask", "(LLevelhouse$Session;)I"⟩ ∈ xTB := tm 41 (by decide +kernel) (by decide +kernel)
theorem q42 : Cond.selects "Levelhouse" ⟨"Levelhouse", "lookFor", "(LLevelhouse$Session;)I"⟩ ⟨"Levelhouse", "lookFor", "(LLevelhouse$Session;)I"⟩ ∈ xTB := tm 42 (by decide +kernel) (by decide +kernel)
theorem q43 : Cond.selects "Levelhouse" ⟨"Levelhouse", "viewOf", "(LLevelhouse$Session;)LLevelhouse$Shelf;"⟩ ⟨"Levelhouse", "viewOf", "(LLevelhouse$Session;)LLevelhouse$Shelf;"⟩ ∈ xTB := tm 43 (by decide +kernel) (by decide +kernel)
theorem q44 : Cond.selects "java/util/ArrayList" ⟨"java/util/ArrayList", "add", "(Ljava/lang/Object;[Ljava/lang/Object;I)V"⟩ ⟨"java/util/ArrayList", "add", "(Ljava/lang/Object;[Ljava/lang/Object;I)V"⟩ ∈ xTB := tm 44 (by decide +kernel) (by decide +kernel)
theorem q45 : Cond.selects "java/util/ArrayList" ⟨"java/util/ArrayList", "grow", "()[Ljava/lang/Object;"⟩ ⟨"java/util/ArrayList", "grow", "()[Ljava/lang/Object;"⟩ ∈ xTB := tm 45 (by decide +kernel) (by decide +kernel)
theorem q46 : Cond.selects "java/util/ArrayList" ⟨"java/util/ArrayList", "grow", "(I)[Ljava/lang/Object;"⟩ ⟨"java/util/ArrayList", "grow", "(I)[Ljava/lang/Object;"⟩ ∈ xTB := tm 46 (by decide +kernel) (by decide +kernel)
theorem q47 : Cond.selects "Levelhouse$Query" ⟨"Levelhouse$Query", "gather", "(Ljava/util/ArrayList;LLevelhouse$Table;LLevelhouse$Shelf;LLevelhouse$Sight;)V"⟩ ⟨"Levelhouse$Query", "gather", "(Ljava/util/ArrayList;LLevelhouse$Table;LLevelhouse$Shelf;LLevelhouse$Sight;)V"⟩ ∈ xTB := tm 47 (by decide +kernel) (by decide +kernel)
theorem q48 : Cond.selects "Levelhouse$Query" ⟨"Levelhouse$Query", "pick", "()V"⟩ ⟨"Levelhouse$Query", "pick", "()V"⟩ ∈ xTB := tm 48 (by decide +kernel) (by decide +kernel)
theorem q49 : Cond.selects "Levelhouse$Query" ⟨"Levelhouse$Query", "addPicked", "(I)V"⟩ ⟨"Levelhouse$Query", "addPicked", "(I)V"⟩ ∈ xTB := tm 49 (by decide +kernel) (by decide +kernel)
theorem q50 : Cond.selects "Levelhouse$Query" ⟨"Levelhouse$Query", "pickPairs", "(ILLevelhouse$Entry;)V"⟩ ⟨"Levelhouse$Query", "pickPairs", "(ILLevelhouse$Entry;)V"⟩ ∈ xTB := tm 50 (by decide +kernel) (by decide +kernel)
theorem q51 : Cond.selects "Levelhouse$Query" ⟨"Levelhouse$Query", "offerGroups", "()V"⟩ ⟨"Levelhouse$Query", "offerGroups", "()V"⟩ ∈ xTB := tm 51 (by decide +kernel) (by decide +kernel)
theorem q52 : Cond.selects "Levelhouse$Query" ⟨"Levelhouse$Query", "reckonLine", "(II)V"⟩ ⟨"Levelhouse$Query", "reckonLine", "(II)V"⟩ ∈ xTB := tm 52 (by decide +kernel) (by decide +kernel)
theorem q53 : Cond.selects "Levelhouse$Query" ⟨"Levelhouse$Query", "pickedAt", "(I)I"⟩ ⟨"Levelhouse$Query", "pickedAt", "(I)I"⟩ ∈ xTB := tm 53 (by decide +kernel) (by decide +kernel)
theorem q54 : Cond.selects "Levelhouse$Query" ⟨"Levelhouse$Query", "firstOf", "(I)LLevelhouse$Entry;"⟩ ⟨"Levelhouse$Query", "firstOf", "(I)LLevelhouse$Entry;"⟩ ∈ xTB := tm 54 (by decide +kernel) (by decide +kernel)
theorem q55 : Cond.selects "Levelhouse$Query" ⟨"Levelhouse$Query", "secondOf", "(I)LLevelhouse$Entry;"⟩ ⟨"Levelhouse$Query", "secondOf", "(I)LLevelhouse$Entry;"⟩ ∈ xTB := tm 55 (by decide +kernel) (by decide +kernel)
theorem q56 : Cond.selects "Levelhouse$Query" ⟨"Levelhouse$Query", "folded", "(LLevelhouse$Word;III)I"⟩ ⟨"Levelhouse$Query", "folded", "(LLevelhouse$Word;III)I"⟩ ∈ xTB := tm 56 (by decide +kernel) (by decide +kernel)
theorem q57 : Cond.selects "Levelhouse$Query" ⟨"Levelhouse$Query", "offer", "()V"⟩ ⟨"Levelhouse$Query", "offer", "()V"⟩ ∈ xTB := tm 57 (by decide +kernel) (by decide +kernel)
theorem q58 : Cond.selects "Levelhouse$Query" ⟨"Levelhouse$Query", "compareLine", "(I)I"⟩ ⟨"Levelhouse$Query", "compareLine", "(I)I"⟩ ∈ xTB := tm 58 (by decide +kernel) (by decide +kernel)
theorem q59 : Cond.selects "Levelhouse$Query" ⟨"Levelhouse$Query", "sortPicked", "()V"⟩ ⟨"Levelhouse$Query", "sortPicked", "()V"⟩ ∈ xTB := tm 59 (by decide +kernel) (by decide +kernel)
theorem q60 : Cond.selects "Levelhouse$Query" ⟨"Levelhouse$Query", "sink", "(II)V"⟩ ⟨"Levelhouse$Query", "sink", "(II)V"⟩ ∈ xTB := tm 60 (by decide +kernel) (by decide +kernel)
theorem q61 : Cond.selects "Levelhouse$Query" ⟨"Levelhouse$Query", "compareBy", "(II)I"⟩ ⟨"Levelhouse$Query", "compareBy", "(II)I"⟩ ∈ xTB := tm 61 (by decide +kernel) (by decide +kernel)
theorem q62 : Cond.selects "Levelhouse" ⟨"Levelhouse", "makeTable", "(LLevelhouse$Session;)I"⟩ ⟨"Levelhouse", "makeTable", "(LLevelhouse$Session;)I"⟩ ∈ xTB := tm 62 (by decide +kernel) (by decide +kernel)
theorem q63 : Cond.selects "java/util/ArrayList" ⟨"java/util/ArrayList", "rangeCheckForAdd", "(I)V"⟩ ⟨"java/util/ArrayList", "rangeCheckForAdd", "(I)V"⟩ ∈ xTB := tm 63 (by decide +kernel) (by decide +kernel)
theorem q64 : Cond.selects "Levelhouse" ⟨"Levelhouse", "dropTable", "(LLevelhouse$Session;)I"⟩ ⟨"Levelhouse", "dropTable", "(LLevelhouse$Session;)I"⟩ ∈ xTB := tm 64 (by decide +kernel) (by decide +kernel)
theorem q65 : Cond.selects "java/util/ArrayList" ⟨"java/util/ArrayList", "fastRemove", "([Ljava/lang/Object;I)V"⟩ ⟨"java/util/ArrayList", "fastRemove", "([Ljava/lang/Object;I)V"⟩ ∈ xTB := tm 65 (by decide +kernel) (by decide +kernel)
theorem q66 : Cond.selects "Levelhouse" ⟨"Levelhouse", "lower", "(LLevelhouse$Session;)I"⟩ ⟨"Levelhouse", "lower", "(LLevelhouse$Session;)I"⟩ ∈ xTB := tm 66 (by decide +kernel) (by decide +kernel)
theorem q67 : Cond.selects "Levelhouse$Change" ⟨"Levelhouse$Change", "make", "(LLevelhouse$Entry;)V"⟩ ⟨"Levelhouse$Change", "make", "(LLevelhouse$Entry;)V"⟩ ∈ xTB := tm 67 (by decide +kernel) (by decide +kernel)
theorem q68 : Cond.selects "Levelhouse" ⟨"Levelhouse", "keepChange", "(LLevelhouse$Session;)V"⟩ ⟨"Levelhouse", "keepChange", "(LLevelhouse$Session;)V"⟩ ∈ xTB := tm 68 (by decide +kernel) (by decide +kernel)
theorem q69 : Cond.selects "Levelhouse$Session" ⟨"Levelhouse$Session", "hasChanged", "(LLevelhouse$Entry;)Z"⟩ ⟨"Levelhouse$Session", "hasChanged", "(LLevelhouse$Entry;)Z"⟩ ∈ xTB := tm 69 (by decide +kernel) (by decide +kernel)
theorem q70 : Cond.selects "Levelhouse" ⟨"Levelhouse", "alter", "(LLevelhouse$Session;)I"⟩ ⟨"Levelhouse", "alter", "(LLevelhouse$Session;)I"⟩ ∈ xTB := tm 70 (by decide +kernel) (by decide +kernel)
theorem q71 : Cond.selects "Levelhouse$Change" ⟨"Levelhouse$Change", "set", "(LLevelhouse$Entry;LLevelhouse$Statement;LLevelhouse$Meaning;)V"⟩ ⟨"Levelhouse$Change", "set", "(LLevelhouse$Entry;LLevelhouse$Statement;LLevelhouse$Meaning;)V"⟩ ∈ xTB := tm 71 (by decide +kernel) (by decide +kernel)
theorem q72 : Cond.selects "Levelhouse$Change" ⟨"Levelhouse$Change", "cut", "(LLevelhouse$Entry;)V"⟩ ⟨"Levelhouse$Change", "cut", "(LLevelhouse$Entry;)V"⟩ ∈ xTB := tm 72 (by decide +kernel) (by decide +kernel)
theorem q73 : Cond.selects "Levelhouse$Shelf" ⟨"Levelhouse$Shelf", "hasTwin", "(LLevelhouse$Entry;II)Z"⟩ ⟨"Levelhouse$Shelf", "hasTwin", "(LLevelhouse$Entry;II)Z"⟩ ∈ xTB := tm 73 (by decide +kernel) (by decide +kernel)
theorem q74 : Cond.selects "LevelhouseLaw" ⟨"LevelhouseLaw", "acted", "()Z"⟩ ⟨"LevelhouseLaw", "acted", "()Z"⟩ ∈ xTB := tm 74 (by decide +kernel) (by decide +kernel)
theorem q75 : Cond.selects "LevelhouseLaw" ⟨"LevelhouseLaw", "statement", "(Z)Ljava/lang/String;"⟩ ⟨"LevelhouseLaw", "statement", "(Z)Ljava/lang/String;"⟩ ∈ xTB := tm 75 (by decide +kernel) (by decide +kernel)
theorem q76 : Cond.selects "LevelhouseLaw" ⟨"LevelhouseLaw", "number", "()Ljava/lang/String;"⟩ ⟨"LevelhouseLaw", "number", "()Ljava/lang/String;"⟩ ∈ xTB := tm 76 (by decide +kernel) (by decide +kernel)
theorem q77 : Cond.selects "LevelhouseLaw" ⟨"LevelhouseLaw", "condition", "()Ljava/lang/String;"⟩ ⟨"LevelhouseLaw", "condition", "()Ljava/lang/String;"⟩ ∈ xTB := tm 77 (by decide +kernel) (by decide +kernel)
theorem q78 : Cond.selects "Levelhouse$Change" ⟨"Levelhouse$Change", "take", "(LLevelhouse$Entry;LLevelhouse$Shelf;)V"⟩ ⟨"Levelhouse$Change", "take", "(LLevelhouse$Entry;LLevelhouse$Shelf;)V"⟩ ∈ xTB := tm 78 (by decide +kernel) (by decide +kernel)
theorem q79 : Cond.selects "LevelhouseLaw" ⟨"LevelhouseLaw", "areLike", "(I)Z"⟩ ⟨"LevelhouseLaw", "areLike", "(I)Z"⟩ ∈ xTB := tm 79 (by decide +kernel) (by decide +kernel)
theorem q80 : Cond.selects "LevelhouseLaw" ⟨"LevelhouseLaw", "areMet", "(I)Z"⟩ ⟨"LevelhouseLaw", "areMet", "(I)Z"⟩ ∈ xTB := tm 80 (by decide +kernel) (by decide +kernel)
