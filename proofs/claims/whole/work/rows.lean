section
/-- a private method of a class that the tables say can be made, by its rows of tables_1 -/
def lw_okq (q : MethodName × Nat) : Prop := (q.1.cls ≠ "java/lang/invoke/MethodHandle" ∧ q.1.cls ≠ "java/lang/invoke/VarHandle") ∧ Cond.instantiable q.1.cls q.2 ∈ tables_1 ∧ Cond.privateMethod q.1 ∈ tables_1 ∧ Cond.instanceMethod q.1 ∈ tables_1
theorem lw_p0 : lw_okq (⟨"VersionedBlock", "transactionAt", "(I)LVersionedBlock$Transaction;"⟩, 8) := ⟨⟨by decide +kernel, by decide +kernel⟩, List.mem_of_getElem? (i := 11) (by decide +kernel), List.mem_of_getElem? (i := 132) (by decide +kernel), List.mem_of_getElem? (i := 133) (by decide +kernel)⟩
theorem lw_p1 : lw_okq (⟨"VersionedBlock", "goOn", "(I)Z"⟩, 8) := ⟨⟨by decide +kernel, by decide +kernel⟩, List.mem_of_getElem? (i := 11) (by decide +kernel), List.mem_of_getElem? (i := 190) (by decide +kernel), List.mem_of_getElem? (i := 191) (by decide +kernel)⟩
theorem lw_p2 : lw_okq (⟨"VersionedBlock", "takeNext", "(I)Z"⟩, 8) := ⟨⟨by decide +kernel, by decide +kernel⟩, List.mem_of_getElem? (i := 11) (by decide +kernel), List.mem_of_getElem? (i := 198) (by decide +kernel), List.mem_of_getElem? (i := 199) (by decide +kernel)⟩
theorem lw_p3 : lw_okq (⟨"VersionedBlock$Worker", "perform", "(LVersionedBlock$Transaction;I[J)V"⟩, 9) := ⟨⟨by decide +kernel, by decide +kernel⟩, List.mem_of_getElem? (i := 201) (by decide +kernel), List.mem_of_getElem? (i := 283) (by decide +kernel), List.mem_of_getElem? (i := 284) (by decide +kernel)⟩
theorem lw_p4 : lw_okq (⟨"VersionedBlock$Worker", "load", "(I[J)J"⟩, 9) := ⟨⟨by decide +kernel, by decide +kernel⟩, List.mem_of_getElem? (i := 201) (by decide +kernel), List.mem_of_getElem? (i := 305) (by decide +kernel), List.mem_of_getElem? (i := 306) (by decide +kernel)⟩
theorem lw_p5 : lw_okq (⟨"VersionedBlock", "settle", "(LVersionedBlock$Worker;)V"⟩, 8) := ⟨⟨by decide +kernel, by decide +kernel⟩, List.mem_of_getElem? (i := 11) (by decide +kernel), List.mem_of_getElem? (i := 325) (by decide +kernel), List.mem_of_getElem? (i := 326) (by decide +kernel)⟩
theorem lw_p6 : lw_okq (⟨"VersionedBlock$Worker", "storeInto", "([J)I"⟩, 9) := ⟨⟨by decide +kernel, by decide +kernel⟩, List.mem_of_getElem? (i := 201) (by decide +kernel), List.mem_of_getElem? (i := 346) (by decide +kernel), List.mem_of_getElem? (i := 347) (by decide +kernel)⟩
theorem lw_p7 : lw_okq (⟨"VersionedBlock", "goOnAsFarAsItCan", "(I)V"⟩, 8) := ⟨⟨by decide +kernel, by decide +kernel⟩, List.mem_of_getElem? (i := 11) (by decide +kernel), List.mem_of_getElem? (i := 354) (by decide +kernel), List.mem_of_getElem? (i := 355) (by decide +kernel)⟩
theorem lw_p8 : lw_okq (⟨"VersionedBlockModel", "all", "(I)I"⟩, 15) := ⟨⟨by decide +kernel, by decide +kernel⟩, List.mem_of_getElem? (i := 381) (by decide +kernel), List.mem_of_getElem? (i := 471) (by decide +kernel), List.mem_of_getElem? (i := 472) (by decide +kernel)⟩
theorem lw_p9 : lw_okq (⟨"VersionedBlockModel", "one", "(I)I"⟩, 15) := ⟨⟨by decide +kernel, by decide +kernel⟩, List.mem_of_getElem? (i := 381) (by decide +kernel), List.mem_of_getElem? (i := 475) (by decide +kernel), List.mem_of_getElem? (i := 476) (by decide +kernel)⟩
def lw_privs_1 : List (MethodName × Nat) := [(⟨"VersionedBlock", "transactionAt", "(I)LVersionedBlock$Transaction;"⟩, 8), (⟨"VersionedBlock", "goOn", "(I)Z"⟩, 8), (⟨"VersionedBlock", "takeNext", "(I)Z"⟩, 8), (⟨"VersionedBlock$Worker", "perform", "(LVersionedBlock$Transaction;I[J)V"⟩, 9), (⟨"VersionedBlock$Worker", "load", "(I[J)J"⟩, 9), (⟨"VersionedBlock", "settle", "(LVersionedBlock$Worker;)V"⟩, 8), (⟨"VersionedBlock$Worker", "storeInto", "([J)I"⟩, 9), (⟨"VersionedBlock", "goOnAsFarAsItCan", "(I)V"⟩, 8), (⟨"VersionedBlockModel", "all", "(I)I"⟩, 15), (⟨"VersionedBlockModel", "one", "(I)I"⟩, 15)]
theorem lw_r1 : ∀ q ∈ lw_privs_1, lw_okq q := List.forall_mem_cons.mpr ⟨lw_p0, List.forall_mem_cons.mpr ⟨lw_p1, List.forall_mem_cons.mpr ⟨lw_p2, List.forall_mem_cons.mpr ⟨lw_p3, List.forall_mem_cons.mpr ⟨lw_p4, List.forall_mem_cons.mpr ⟨lw_p5, List.forall_mem_cons.mpr ⟨lw_p6, List.forall_mem_cons.mpr ⟨lw_p7, List.forall_mem_cons.mpr ⟨lw_p8, List.forall_mem_cons.mpr ⟨lw_p9, fun _ h => absurd h List.not_mem_nil⟩⟩⟩⟩⟩⟩⟩⟩⟩⟩
def lw_privs : List (MethodName × Nat) := lw_privs_1
def lw_tbl : List Cond := k2_sels lw_privs ++ tables_1
theorem lw_privs_ok : ∀ q ∈ lw_privs, lw_okq q := lw_r1
/-! the good words of the tables -/
def TB : List Cond := k2_sels lw_privs ++ tables_1.filter goodWord
theorem tb_t {w : Cond} (h : w ∈ tables_1) (hg : goodWord w = true) : w ∈ TB := List.mem_append_right _ (List.mem_filter.mpr ⟨h, hg⟩)
theorem tb_1 {w : Cond} (h : w ∈ tables_1_1) (hg : goodWord w = true) : w ∈ TB := tb_t (List.mem_append_left _ h) hg
theorem tb_2 {w : Cond} (h : w ∈ tables_1_2) (hg : goodWord w = true) : w ∈ TB := tb_t (List.mem_append_right _ (List.mem_append_left _ h)) hg
theorem tb_3 {w : Cond} (h : w ∈ tables_1_3) (hg : goodWord w = true) : w ∈ TB := tb_t (List.mem_append_right _ (List.mem_append_right _ h)) hg
theorem tb_sel {w : Cond} (h : w ∈ k2_sels lw_privs) : w ∈ TB := List.mem_append_left _ h
theorem tb_good : ∀ w ∈ TB, (w.onTables && w.keeps) = true ∨ ∃ ty, w = .arrayClass ty := by
  intro w h
  rcases List.mem_append.mp h with h | h
  · obtain ⟨q, -, rfl⟩ := List.mem_map.mp h
    exact Or.inl rfl
  · exact good_of_word (List.mem_filter.mp h).2
theorem tb_of {w : Cond} (h : w ∈ TB) : w ∈ lw_tbl := by
  rcases List.mem_append.mp h with h | h
  · exact List.mem_append_left _ h
  · exact List.mem_append_right _ (List.mem_filter.mp h).1
theorem gd_tb {c c2 : Cond} (h : c2 ∈ TB) : GoodIn (c :: TB) (c2 :: TB) := by
  intro w hw
  rcases List.mem_cons.mp hw with rfl | hw
  · exact ⟨List.mem_cons_of_mem _ h, tb_good _ h⟩
  · exact ⟨List.mem_cons_of_mem _ hw, tb_good _ hw⟩
theorem gd_lw {c2 : Cond} (h : c2 ∈ TB) : GoodIn lw_tbl (c2 :: TB) := by
  intro w hw
  rcases List.mem_cons.mp hw with rfl | hw
  · exact ⟨tb_of h, tb_good _ h⟩
  · exact ⟨tb_of hw, tb_good _ hw⟩
theorem mw_1_0 : (Jvm.Cond.initialized "VersionedBlockLaw") ∈ TB := tb_1 (List.mem_of_getElem? (i := 0) rfl) rfl
theorem mw_1_1 : (Jvm.Cond.initialized "VersionedBlock") ∈ TB := tb_1 (List.mem_of_getElem? (i := 1) rfl) rfl
theorem mw_1_2 : (Jvm.Cond.initialized "VersionedBlock$Weave") ∈ TB := tb_1 (List.mem_of_getElem? (i := 2) rfl) rfl
theorem mw_1_3 : (Jvm.Cond.initialized "java/lang/Math") ∈ TB := tb_1 (List.mem_of_getElem? (i := 3) rfl) rfl
theorem mw_1_4 : (Jvm.Cond.initialized "VersionedBlockModel") ∈ TB := tb_1 (List.mem_of_getElem? (i := 4) rfl) rfl
theorem mw_1_5 : (Jvm.Cond.initialized "VersionedBlock$Transaction") ∈ TB := tb_1 (List.mem_of_getElem? (i := 5) rfl) rfl
theorem mw_1_6 : (Jvm.Cond.initialized "java/util/Arrays") ∈ TB := tb_1 (List.mem_of_getElem? (i := 6) rfl) rfl
theorem mw_1_7 : (Jvm.Cond.initialized "java/lang/System") ∈ TB := tb_1 (List.mem_of_getElem? (i := 7) rfl) rfl
theorem mw_1_8 : (Jvm.Cond.initialized "VersionedBlock$Worker") ∈ TB := tb_1 (List.mem_of_getElem? (i := 8) rfl) rfl
theorem mw_1_9 : (Jvm.Cond.initialized "VersionedBlock$Draft") ∈ TB := tb_1 (List.mem_of_getElem? (i := 9) rfl) rfl
theorem mw_1_10 : (Jvm.Cond.classLink "VersionedBlockLaw" (7 : Nat) "VersionedBlock") ∈ TB := tb_1 (List.mem_of_getElem? (i := 10) rfl) rfl
theorem mw_1_11 : (Jvm.Cond.instantiable "VersionedBlock" (8 : Nat)) ∈ TB := tb_1 (List.mem_of_getElem? (i := 11) rfl) rfl
theorem mw_1_12 : (Jvm.Cond.methodLink "VersionedBlockLaw" (15 : Nat) ({ cls := "VersionedBlock", name := "<init>", desc := "(I)V" } : Jvm.MethodName)) ∈ TB := tb_1 (List.mem_of_getElem? (i := 12) rfl) rfl
theorem mw_1_13 : (Jvm.Cond.instanceMethod ({ cls := "VersionedBlock", name := "<init>", desc := "(I)V" } : Jvm.MethodName)) ∈ TB := tb_1 (List.mem_of_getElem? (i := 13) rfl) rfl
theorem mw_1_14 : (Jvm.Cond.code ({ cls := "VersionedBlock", name := "<init>", desc := "(I)V" } : Jvm.MethodName) prog_1_method_1_code (2 : Nat) (Option.none : Option Jvm.ClassFile.FieldType)) ∈ TB := tb_1 (List.mem_of_getElem? (i := 14) rfl) rfl
theorem mw_1_15 : (Jvm.Cond.methodLink "VersionedBlock" (1 : Nat) ({ cls := "java/lang/Object", name := "<init>", desc := "()V" } : Jvm.MethodName)) ∈ TB := tb_1 (List.mem_of_getElem? (i := 15) rfl) rfl
theorem mw_1_16 : (Jvm.Cond.instanceMethod ({ cls := "java/lang/Object", name := "<init>", desc := "()V" } : Jvm.MethodName)) ∈ TB := tb_1 (List.mem_of_getElem? (i := 16) rfl) rfl
theorem mw_1_17 : (Jvm.Cond.code ({ cls := "java/lang/Object", name := "<init>", desc := "()V" } : Jvm.MethodName) object_method_1_code (1 : Nat) (Option.none : Option Jvm.ClassFile.FieldType)) ∈ TB := tb_1 (List.mem_of_getElem? (i := 17) rfl) rfl
theorem mw_1_18 : (Jvm.Cond.classLink "VersionedBlock" (13 : Nat) "VersionedBlock$Transaction") ∈ TB := tb_1 (List.mem_of_getElem? (i := 18) rfl) rfl
theorem mw_1_20 : (Jvm.Cond.classLink "VersionedBlock" (19 : Nat) "VersionedBlock$Weave") ∈ TB := tb_1 (List.mem_of_getElem? (i := 20) rfl) rfl
theorem mw_1_21 : (Jvm.Cond.instantiable "VersionedBlock$Weave" (2 : Nat)) ∈ TB := tb_1 (List.mem_of_getElem? (i := 21) rfl) rfl
theorem mw_1_23 : (Jvm.Cond.instanceMethod ({ cls := "VersionedBlock$Weave", name := "<init>", desc := "()V" } : Jvm.MethodName)) ∈ TB := tb_1 (List.mem_of_getElem? (i := 23) rfl) rfl
theorem mw_1_24 : (Jvm.Cond.code ({ cls := "VersionedBlock$Weave", name := "<init>", desc := "()V" } : Jvm.MethodName) prog_4_method_1_code (1 : Nat) (Option.none : Option Jvm.ClassFile.FieldType)) ∈ TB := tb_1 (List.mem_of_getElem? (i := 24) rfl) rfl
theorem mw_1_25 : (Jvm.Cond.methodLink "VersionedBlock$Weave" (3 : Nat) ({ cls := "java/lang/Object", name := "<init>", desc := "()V" } : Jvm.MethodName)) ∈ TB := tb_1 (List.mem_of_getElem? (i := 25) rfl) rfl
theorem mw_1_26 : (Jvm.Cond.fieldLink "VersionedBlock$Weave" (11 : Nat) "VersionedBlock$Weave" "words" "[J") ∈ TB := tb_1 (List.mem_of_getElem? (i := 26) rfl) rfl
theorem mw_1_27 : (Jvm.Cond.fieldLink "VersionedBlock$Weave" (15 : Nat) "VersionedBlock$Weave" "length" "I") ∈ TB := tb_1 (List.mem_of_getElem? (i := 27) rfl) rfl
theorem mw_1_28 : (Jvm.Cond.lays "VersionedBlock$Weave" "VersionedBlock$Weave" "words" "[J") ∈ TB := tb_1 (List.mem_of_getElem? (i := 28) rfl) rfl
theorem mw_1_30 : (Jvm.Cond.lays "VersionedBlock$Weave" "VersionedBlock$Weave" "length" "I") ∈ TB := tb_1 (List.mem_of_getElem? (i := 30) rfl) rfl
theorem mw_1_33 : (Jvm.Cond.arrayClass Jvm.ClassFile.FieldType.long) ∈ TB := tb_1 (List.mem_of_getElem? (i := 33) rfl) rfl
theorem mw_1_34 : (Jvm.Cond.methodLink "VersionedBlock" (26 : Nat) ({ cls := "java/lang/Math", name := "min", desc := "(II)I" } : Jvm.MethodName)) ∈ TB := tb_1 (List.mem_of_getElem? (i := 34) rfl) rfl
theorem mw_1_35 : (Jvm.Cond.static ({ cls := "java/lang/Math", name := "min", desc := "(II)I" } : Jvm.MethodName)) ∈ TB := tb_1 (List.mem_of_getElem? (i := 35) rfl) rfl
theorem mw_1_36 : (Jvm.Cond.code ({ cls := "java/lang/Math", name := "min", desc := "(II)I" } : Jvm.MethodName) prog_9_method_69_code (2 : Nat) (Option.some Jvm.ClassFile.FieldType.int)) ∈ TB := tb_1 (List.mem_of_getElem? (i := 36) rfl) rfl
theorem mw_1_37 : (Jvm.Cond.methodLink "VersionedBlock" (32 : Nat) ({ cls := "java/lang/Math", name := "max", desc := "(II)I" } : Jvm.MethodName)) ∈ TB := tb_1 (List.mem_of_getElem? (i := 37) rfl) rfl
theorem mw_1_38 : (Jvm.Cond.static ({ cls := "java/lang/Math", name := "max", desc := "(II)I" } : Jvm.MethodName)) ∈ TB := tb_1 (List.mem_of_getElem? (i := 38) rfl) rfl
theorem mw_1_39 : (Jvm.Cond.code ({ cls := "java/lang/Math", name := "max", desc := "(II)I" } : Jvm.MethodName) prog_9_method_65_code (2 : Nat) (Option.some Jvm.ClassFile.FieldType.int)) ∈ TB := tb_1 (List.mem_of_getElem? (i := 39) rfl) rfl
theorem mw_1_40 : (Jvm.Cond.classLink "VersionedBlock" (35 : Nat) "VersionedBlock$Worker") ∈ TB := tb_1 (List.mem_of_getElem? (i := 40) rfl) rfl
theorem mw_1_42 : (Jvm.Cond.fieldLink "VersionedBlock" (9 : Nat) "VersionedBlock" "places" "[J") ∈ TB := tb_1 (List.mem_of_getElem? (i := 42) rfl) rfl
theorem mw_1_43 : (Jvm.Cond.fieldLink "VersionedBlock" (15 : Nat) "VersionedBlock" "transactions" "[LVersionedBlock$Transaction;") ∈ TB := tb_1 (List.mem_of_getElem? (i := 43) rfl) rfl
theorem mw_1_44 : (Jvm.Cond.fieldLink "VersionedBlock" (37 : Nat) "VersionedBlock" "team" "[LVersionedBlock$Worker;") ∈ TB := tb_1 (List.mem_of_getElem? (i := 44) rfl) rfl
theorem mw_1_45 : (Jvm.Cond.fieldLink "VersionedBlock" (22 : Nat) "VersionedBlock" "woven" "LVersionedBlock$Weave;") ∈ TB := tb_1 (List.mem_of_getElem? (i := 45) rfl) rfl
theorem mw_1_46 : (Jvm.Cond.fieldLink "VersionedBlock" (45 : Nat) "VersionedBlock" "size" "I") ∈ TB := tb_1 (List.mem_of_getElem? (i := 46) rfl) rfl
theorem mw_1_47 : (Jvm.Cond.fieldLink "VersionedBlock" (67 : Nat) "VersionedBlock" "taken" "I") ∈ TB := tb_1 (List.mem_of_getElem? (i := 47) rfl) rfl
theorem mw_1_48 : (Jvm.Cond.fieldLink "VersionedBlock" (70 : Nat) "VersionedBlock" "settled" "I") ∈ TB := tb_1 (List.mem_of_getElem? (i := 48) rfl) rfl
theorem mw_1_49 : (Jvm.Cond.fieldLink "VersionedBlock" (73 : Nat) "VersionedBlock" "halted" "I") ∈ TB := tb_1 (List.mem_of_getElem? (i := 49) rfl) rfl
theorem mw_1_50 : (Jvm.Cond.laysFinal "VersionedBlock" "VersionedBlock" "places" "[J") ∈ TB := tb_1 (List.mem_of_getElem? (i := 50) rfl) rfl
theorem mw_1_52 : (Jvm.Cond.laysFinal "VersionedBlock" "VersionedBlock" "transactions" "[LVersionedBlock$Transaction;") ∈ TB := tb_1 (List.mem_of_getElem? (i := 52) rfl) rfl
theorem mw_1_54 : (Jvm.Cond.laysFinal "VersionedBlock" "VersionedBlock" "team" "[LVersionedBlock$Worker;") ∈ TB := tb_1 (List.mem_of_getElem? (i := 54) rfl) rfl
theorem mw_1_56 : (Jvm.Cond.laysFinal "VersionedBlock" "VersionedBlock" "woven" "LVersionedBlock$Weave;") ∈ TB := tb_1 (List.mem_of_getElem? (i := 56) rfl) rfl
theorem mw_1_58 : (Jvm.Cond.lays "VersionedBlock" "VersionedBlock" "size" "I") ∈ TB := tb_1 (List.mem_of_getElem? (i := 58) rfl) rfl
theorem mw_1_60 : (Jvm.Cond.lays "VersionedBlock" "VersionedBlock" "taken" "I") ∈ TB := tb_1 (List.mem_of_getElem? (i := 60) rfl) rfl
theorem mw_1_62 : (Jvm.Cond.lays "VersionedBlock" "VersionedBlock" "settled" "I") ∈ TB := tb_1 (List.mem_of_getElem? (i := 62) rfl) rfl
theorem mw_1_64 : (Jvm.Cond.lays "VersionedBlock" "VersionedBlock" "halted" "I") ∈ TB := tb_1 (List.mem_of_getElem? (i := 64) rfl) rfl
theorem mw_1_67 : (Jvm.Cond.methodLink "VersionedBlockLaw" (23 : Nat) ({ cls := "VersionedBlock", name := "put", desc := "(IJ)Z" } : Jvm.MethodName)) ∈ TB := tb_1 (List.mem_of_getElem? (i := 67) rfl) rfl
theorem mw_1_68 : (Jvm.Cond.instanceMethod ({ cls := "VersionedBlock", name := "put", desc := "(IJ)Z" } : Jvm.MethodName)) ∈ TB := tb_1 (List.mem_of_getElem? (i := 68) rfl) rfl
theorem mw_1_69 : (Jvm.Cond.selects "VersionedBlock" ({ cls := "VersionedBlock", name := "put", desc := "(IJ)Z" } : Jvm.MethodName) ({ cls := "VersionedBlock", name := "put", desc := "(IJ)Z" } : Jvm.MethodName)) ∈ TB := tb_1 (List.mem_of_getElem? (i := 69) rfl) rfl
theorem mw_1_70 : (Jvm.Cond.code ({ cls := "VersionedBlock", name := "put", desc := "(IJ)Z" } : Jvm.MethodName) prog_1_method_2_code (4 : Nat) (Option.some Jvm.ClassFile.FieldType.boolean)) ∈ TB := tb_1 (List.mem_of_getElem? (i := 70) rfl) rfl
theorem mw_1_71 : (Jvm.Cond.methodLink "VersionedBlock" (41 : Nat) ({ cls := "VersionedBlock", name := "isPlace", desc := "(I)Z" } : Jvm.MethodName)) ∈ TB := tb_1 (List.mem_of_getElem? (i := 71) rfl) rfl
theorem mw_1_72 : (Jvm.Cond.static ({ cls := "VersionedBlock", name := "isPlace", desc := "(I)Z" } : Jvm.MethodName)) ∈ TB := tb_1 (List.mem_of_getElem? (i := 72) rfl) rfl
theorem mw_1_73 : (Jvm.Cond.code ({ cls := "VersionedBlock", name := "isPlace", desc := "(I)Z" } : Jvm.MethodName) prog_1_method_13_code (1 : Nat) (Option.some Jvm.ClassFile.FieldType.boolean)) ∈ TB := tb_1 (List.mem_of_getElem? (i := 73) rfl) rfl
theorem mw_1_74 : (Jvm.Cond.methodLink "VersionedBlockLaw" (28 : Nat) ({ cls := "VersionedBlock", name := "get", desc := "(I)J" } : Jvm.MethodName)) ∈ TB := tb_1 (List.mem_of_getElem? (i := 74) rfl) rfl
theorem mw_1_75 : (Jvm.Cond.instanceMethod ({ cls := "VersionedBlock", name := "get", desc := "(I)J" } : Jvm.MethodName)) ∈ TB := tb_1 (List.mem_of_getElem? (i := 75) rfl) rfl
theorem mw_1_76 : (Jvm.Cond.selects "VersionedBlock" ({ cls := "VersionedBlock", name := "get", desc := "(I)J" } : Jvm.MethodName) ({ cls := "VersionedBlock", name := "get", desc := "(I)J" } : Jvm.MethodName)) ∈ TB := tb_1 (List.mem_of_getElem? (i := 76) rfl) rfl
theorem mw_1_77 : (Jvm.Cond.code ({ cls := "VersionedBlock", name := "get", desc := "(I)J" } : Jvm.MethodName) prog_1_method_3_code (2 : Nat) (Option.some Jvm.ClassFile.FieldType.long)) ∈ TB := tb_1 (List.mem_of_getElem? (i := 77) rfl) rfl
theorem mw_1_78 : (Jvm.Cond.methodLink "VersionedBlockLaw" (33 : Nat) ({ cls := "VersionedBlock", name := "begin", desc := "()I" } : Jvm.MethodName)) ∈ TB := tb_1 (List.mem_of_getElem? (i := 78) rfl) rfl
theorem mw_1_79 : (Jvm.Cond.instanceMethod ({ cls := "VersionedBlock", name := "begin", desc := "()I" } : Jvm.MethodName)) ∈ TB := tb_1 (List.mem_of_getElem? (i := 79) rfl) rfl
theorem mw_1_80 : (Jvm.Cond.selects "VersionedBlock" ({ cls := "VersionedBlock", name := "begin", desc := "()I" } : Jvm.MethodName) ({ cls := "VersionedBlock", name := "begin", desc := "()I" } : Jvm.MethodName)) ∈ TB := tb_1 (List.mem_of_getElem? (i := 80) rfl) rfl
theorem mw_1_81 : (Jvm.Cond.code ({ cls := "VersionedBlock", name := "begin", desc := "()I" } : Jvm.MethodName) prog_1_method_4_code (2 : Nat) (Option.some Jvm.ClassFile.FieldType.int)) ∈ TB := tb_1 (List.mem_of_getElem? (i := 81) rfl) rfl
theorem mw_1_82 : (Jvm.Cond.methodLink "VersionedBlockLaw" (38 : Nat) ({ cls := "VersionedBlock", name := "transaction", desc := "()I" } : Jvm.MethodName)) ∈ TB := tb_1 (List.mem_of_getElem? (i := 82) rfl) rfl
theorem mw_1_83 : (Jvm.Cond.instanceMethod ({ cls := "VersionedBlock", name := "transaction", desc := "()I" } : Jvm.MethodName)) ∈ TB := tb_1 (List.mem_of_getElem? (i := 83) rfl) rfl
theorem mw_1_84 : (Jvm.Cond.selects "VersionedBlock" ({ cls := "VersionedBlock", name := "transaction", desc := "()I" } : Jvm.MethodName) ({ cls := "VersionedBlock", name := "transaction", desc := "()I" } : Jvm.MethodName)) ∈ TB := tb_1 (List.mem_of_getElem? (i := 84) rfl) rfl
theorem mw_1_85 : (Jvm.Cond.code ({ cls := "VersionedBlock", name := "transaction", desc := "()I" } : Jvm.MethodName) prog_1_method_5_code (2 : Nat) (Option.some Jvm.ClassFile.FieldType.int)) ∈ TB := tb_1 (List.mem_of_getElem? (i := 85) rfl) rfl
theorem mw_1_86 : (Jvm.Cond.instantiable "VersionedBlock$Transaction" (10 : Nat)) ∈ TB := tb_1 (List.mem_of_getElem? (i := 86) rfl) rfl
theorem mw_1_88 : (Jvm.Cond.instanceMethod ({ cls := "VersionedBlock$Transaction", name := "<init>", desc := "()V" } : Jvm.MethodName)) ∈ TB := tb_1 (List.mem_of_getElem? (i := 88) rfl) rfl
theorem mw_1_89 : (Jvm.Cond.code ({ cls := "VersionedBlock$Transaction", name := "<init>", desc := "()V" } : Jvm.MethodName) prog_3_method_1_code (1 : Nat) (Option.none : Option Jvm.ClassFile.FieldType)) ∈ TB := tb_1 (List.mem_of_getElem? (i := 89) rfl) rfl
theorem mw_1_90 : (Jvm.Cond.methodLink "VersionedBlock$Transaction" (3 : Nat) ({ cls := "java/lang/Object", name := "<init>", desc := "()V" } : Jvm.MethodName)) ∈ TB := tb_1 (List.mem_of_getElem? (i := 90) rfl) rfl
theorem mw_1_91 : (Jvm.Cond.fieldLink "VersionedBlock$Transaction" (9 : Nat) "VersionedBlock$Transaction" "operations" "[I") ∈ TB := tb_1 (List.mem_of_getElem? (i := 91) rfl) rfl
theorem mw_1_92 : (Jvm.Cond.fieldLink "VersionedBlock$Transaction" (15 : Nat) "VersionedBlock$Transaction" "firsts" "[I") ∈ TB := tb_1 (List.mem_of_getElem? (i := 92) rfl) rfl
theorem mw_1_93 : (Jvm.Cond.fieldLink "VersionedBlock$Transaction" (18 : Nat) "VersionedBlock$Transaction" "seconds" "[J") ∈ TB := tb_1 (List.mem_of_getElem? (i := 93) rfl) rfl
theorem mw_1_94 : (Jvm.Cond.fieldLink "VersionedBlock$Transaction" (22 : Nat) "VersionedBlock$Transaction" "length" "I") ∈ TB := tb_1 (List.mem_of_getElem? (i := 94) rfl) rfl
theorem mw_1_95 : (Jvm.Cond.fieldLink "VersionedBlock$Transaction" (26 : Nat) "VersionedBlock$Transaction" "known" "Z") ∈ TB := tb_1 (List.mem_of_getElem? (i := 95) rfl) rfl
theorem mw_1_96 : (Jvm.Cond.fieldLink "VersionedBlock$Transaction" (40 : Nat) "VersionedBlock$Transaction" "outcome" "I") ∈ TB := tb_1 (List.mem_of_getElem? (i := 96) rfl) rfl
theorem mw_1_97 : (Jvm.Cond.fieldLink "VersionedBlock$Transaction" (43 : Nat) "VersionedBlock$Transaction" "done" "I") ∈ TB := tb_1 (List.mem_of_getElem? (i := 97) rfl) rfl
theorem mw_1_98 : (Jvm.Cond.fieldLink "VersionedBlock$Transaction" (46 : Nat) "VersionedBlock$Transaction" "loads" "I") ∈ TB := tb_1 (List.mem_of_getElem? (i := 98) rfl) rfl
theorem mw_1_99 : (Jvm.Cond.fieldLink "VersionedBlock$Transaction" (49 : Nat) "VersionedBlock$Transaction" "stores" "I") ∈ TB := tb_1 (List.mem_of_getElem? (i := 99) rfl) rfl
theorem mw_1_100 : (Jvm.Cond.fieldLink "VersionedBlock$Transaction" (52 : Nat) "VersionedBlock$Transaction" "lastResult" "J") ∈ TB := tb_1 (List.mem_of_getElem? (i := 100) rfl) rfl
theorem mw_1_101 : (Jvm.Cond.laysFinal "VersionedBlock$Transaction" "VersionedBlock$Transaction" "operations" "[I") ∈ TB := tb_1 (List.mem_of_getElem? (i := 101) rfl) rfl
theorem mw_1_103 : (Jvm.Cond.laysFinal "VersionedBlock$Transaction" "VersionedBlock$Transaction" "firsts" "[I") ∈ TB := tb_1 (List.mem_of_getElem? (i := 103) rfl) rfl
theorem mw_1_105 : (Jvm.Cond.laysFinal "VersionedBlock$Transaction" "VersionedBlock$Transaction" "seconds" "[J") ∈ TB := tb_1 (List.mem_of_getElem? (i := 105) rfl) rfl
theorem mw_1_107 : (Jvm.Cond.lays "VersionedBlock$Transaction" "VersionedBlock$Transaction" "length" "I") ∈ TB := tb_1 (List.mem_of_getElem? (i := 107) rfl) rfl
theorem mw_1_109 : (Jvm.Cond.lays "VersionedBlock$Transaction" "VersionedBlock$Transaction" "known" "Z") ∈ TB := tb_1 (List.mem_of_getElem? (i := 109) rfl) rfl
theorem mw_1_111 : (Jvm.Cond.lays "VersionedBlock$Transaction" "VersionedBlock$Transaction" "outcome" "I") ∈ TB := tb_1 (List.mem_of_getElem? (i := 111) rfl) rfl
theorem mw_1_113 : (Jvm.Cond.lays "VersionedBlock$Transaction" "VersionedBlock$Transaction" "done" "I") ∈ TB := tb_1 (List.mem_of_getElem? (i := 113) rfl) rfl
theorem mw_1_115 : (Jvm.Cond.lays "VersionedBlock$Transaction" "VersionedBlock$Transaction" "loads" "I") ∈ TB := tb_1 (List.mem_of_getElem? (i := 115) rfl) rfl
theorem mw_1_117 : (Jvm.Cond.lays "VersionedBlock$Transaction" "VersionedBlock$Transaction" "stores" "I") ∈ TB := tb_1 (List.mem_of_getElem? (i := 117) rfl) rfl
theorem mw_1_119 : (Jvm.Cond.lays "VersionedBlock$Transaction" "VersionedBlock$Transaction" "lastResult" "J") ∈ TB := tb_1 (List.mem_of_getElem? (i := 119) rfl) rfl
theorem mw_1_122 : (Jvm.Cond.arrayClass Jvm.ClassFile.FieldType.int) ∈ TB := tb_1 (List.mem_of_getElem? (i := 122) rfl) rfl
theorem mw_1_123 : (Jvm.Cond.methodLink "VersionedBlock" (50 : Nat) ({ cls := "VersionedBlock$Transaction", name := "clear", desc := "()V" } : Jvm.MethodName)) ∈ TB := tb_1 (List.mem_of_getElem? (i := 123) rfl) rfl
theorem mw_1_124 : (Jvm.Cond.instanceMethod ({ cls := "VersionedBlock$Transaction", name := "clear", desc := "()V" } : Jvm.MethodName)) ∈ TB := tb_1 (List.mem_of_getElem? (i := 124) rfl) rfl
theorem mw_1_125 : (Jvm.Cond.selects "VersionedBlock$Transaction" ({ cls := "VersionedBlock$Transaction", name := "clear", desc := "()V" } : Jvm.MethodName) ({ cls := "VersionedBlock$Transaction", name := "clear", desc := "()V" } : Jvm.MethodName)) ∈ TB := tb_1 (List.mem_of_getElem? (i := 125) rfl) rfl
theorem mw_1_126 : (Jvm.Cond.code ({ cls := "VersionedBlock$Transaction", name := "clear", desc := "()V" } : Jvm.MethodName) prog_3_method_2_code (1 : Nat) (Option.none : Option Jvm.ClassFile.FieldType)) ∈ TB := tb_1 (List.mem_of_getElem? (i := 126) rfl) rfl
theorem mw_1_127 : (Jvm.Cond.methodLink "VersionedBlockLaw" (42 : Nat) ({ cls := "VersionedBlock", name := "instruction", desc := "(IIJ)I" } : Jvm.MethodName)) ∈ TB := tb_1 (List.mem_of_getElem? (i := 127) rfl) rfl
theorem mw_1_128 : (Jvm.Cond.instanceMethod ({ cls := "VersionedBlock", name := "instruction", desc := "(IIJ)I" } : Jvm.MethodName)) ∈ TB := tb_1 (List.mem_of_getElem? (i := 128) rfl) rfl
theorem mw_1_129 : (Jvm.Cond.selects "VersionedBlock" ({ cls := "VersionedBlock", name := "instruction", desc := "(IIJ)I" } : Jvm.MethodName) ({ cls := "VersionedBlock", name := "instruction", desc := "(IIJ)I" } : Jvm.MethodName)) ∈ TB := tb_1 (List.mem_of_getElem? (i := 129) rfl) rfl
theorem mw_1_130 : (Jvm.Cond.code ({ cls := "VersionedBlock", name := "instruction", desc := "(IIJ)I" } : Jvm.MethodName) prog_1_method_6_code (6 : Nat) (Option.some Jvm.ClassFile.FieldType.int)) ∈ TB := tb_1 (List.mem_of_getElem? (i := 130) rfl) rfl
theorem mw_1_131 : (Jvm.Cond.methodLink "VersionedBlock" (53 : Nat) ({ cls := "VersionedBlock", name := "transactionAt", desc := "(I)LVersionedBlock$Transaction;" } : Jvm.MethodName)) ∈ TB := tb_1 (List.mem_of_getElem? (i := 131) rfl) rfl
theorem mw_1_133 : (Jvm.Cond.instanceMethod ({ cls := "VersionedBlock", name := "transactionAt", desc := "(I)LVersionedBlock$Transaction;" } : Jvm.MethodName)) ∈ TB := tb_1 (List.mem_of_getElem? (i := 133) rfl) rfl
theorem mw_1_134 : (Jvm.Cond.code ({ cls := "VersionedBlock", name := "transactionAt", desc := "(I)LVersionedBlock$Transaction;" } : Jvm.MethodName) prog_1_method_16_code (2 : Nat) (Option.some (Jvm.ClassFile.FieldType.object "VersionedBlock$Transaction"))) ∈ TB := tb_1 (List.mem_of_getElem? (i := 134) rfl) rfl
theorem mw_1_135 : (Jvm.Cond.methodLink "VersionedBlock" (57 : Nat) ({ cls := "VersionedBlock$Transaction", name := "append", desc := "(IIJ)I" } : Jvm.MethodName)) ∈ TB := tb_1 (List.mem_of_getElem? (i := 135) rfl) rfl
theorem mw_1_136 : (Jvm.Cond.instanceMethod ({ cls := "VersionedBlock$Transaction", name := "append", desc := "(IIJ)I" } : Jvm.MethodName)) ∈ TB := tb_1 (List.mem_of_getElem? (i := 136) rfl) rfl
theorem mw_1_137 : (Jvm.Cond.selects "VersionedBlock$Transaction" ({ cls := "VersionedBlock$Transaction", name := "append", desc := "(IIJ)I" } : Jvm.MethodName) ({ cls := "VersionedBlock$Transaction", name := "append", desc := "(IIJ)I" } : Jvm.MethodName)) ∈ TB := tb_1 (List.mem_of_getElem? (i := 137) rfl) rfl
theorem mw_1_138 : (Jvm.Cond.code ({ cls := "VersionedBlock$Transaction", name := "append", desc := "(IIJ)I" } : Jvm.MethodName) prog_3_method_3_code (5 : Nat) (Option.some Jvm.ClassFile.FieldType.int)) ∈ TB := tb_1 (List.mem_of_getElem? (i := 138) rfl) rfl
theorem mw_1_140 : (Jvm.Cond.static ({ cls := "VersionedBlock", name := "registerOf", desc := "(J)I" } : Jvm.MethodName)) ∈ TB := tb_1 (List.mem_of_getElem? (i := 140) rfl) rfl
theorem mw_1_141 : (Jvm.Cond.code ({ cls := "VersionedBlock", name := "registerOf", desc := "(J)I" } : Jvm.MethodName) prog_1_method_15_code (2 : Nat) (Option.some Jvm.ClassFile.FieldType.int)) ∈ TB := tb_1 (List.mem_of_getElem? (i := 141) rfl) rfl
theorem mw_1_142 : (Jvm.Cond.constantLong "VersionedBlock" (102 : Nat) (7 : Int64)) ∈ TB := tb_1 (List.mem_of_getElem? (i := 142) rfl) rfl
theorem mw_1_143 : (Jvm.Cond.methodLink "VersionedBlockLaw" (47 : Nat) ({ cls := "VersionedBlock", name := "weave", desc := "(J)I" } : Jvm.MethodName)) ∈ TB := tb_1 (List.mem_of_getElem? (i := 143) rfl) rfl
theorem mw_1_144 : (Jvm.Cond.instanceMethod ({ cls := "VersionedBlock", name := "weave", desc := "(J)I" } : Jvm.MethodName)) ∈ TB := tb_1 (List.mem_of_getElem? (i := 144) rfl) rfl
theorem mw_1_145 : (Jvm.Cond.selects "VersionedBlock" ({ cls := "VersionedBlock", name := "weave", desc := "(J)I" } : Jvm.MethodName) ({ cls := "VersionedBlock", name := "weave", desc := "(J)I" } : Jvm.MethodName)) ∈ TB := tb_1 (List.mem_of_getElem? (i := 145) rfl) rfl
theorem mw_1_146 : (Jvm.Cond.code ({ cls := "VersionedBlock", name := "weave", desc := "(J)I" } : Jvm.MethodName) prog_1_method_7_code (3 : Nat) (Option.some Jvm.ClassFile.FieldType.int)) ∈ TB := tb_1 (List.mem_of_getElem? (i := 146) rfl) rfl
theorem mw_1_147 : (Jvm.Cond.methodLink "VersionedBlock" (61 : Nat) ({ cls := "VersionedBlock$Weave", name := "append", desc := "(J)I" } : Jvm.MethodName)) ∈ TB := tb_1 (List.mem_of_getElem? (i := 147) rfl) rfl
theorem mw_1_148 : (Jvm.Cond.instanceMethod ({ cls := "VersionedBlock$Weave", name := "append", desc := "(J)I" } : Jvm.MethodName)) ∈ TB := tb_1 (List.mem_of_getElem? (i := 148) rfl) rfl
theorem mw_1_149 : (Jvm.Cond.selects "VersionedBlock$Weave" ({ cls := "VersionedBlock$Weave", name := "append", desc := "(J)I" } : Jvm.MethodName) ({ cls := "VersionedBlock$Weave", name := "append", desc := "(J)I" } : Jvm.MethodName)) ∈ TB := tb_1 (List.mem_of_getElem? (i := 149) rfl) rfl
theorem mw_1_150 : (Jvm.Cond.code ({ cls := "VersionedBlock$Weave", name := "append", desc := "(J)I" } : Jvm.MethodName) prog_4_method_2_code (4 : Nat) (Option.some Jvm.ClassFile.FieldType.int)) ∈ TB := tb_1 (List.mem_of_getElem? (i := 150) rfl) rfl
theorem mw_1_151 : (Jvm.Cond.constant "VersionedBlock$Weave" (19 : Nat) (65536 : Int32)) ∈ TB := tb_1 (List.mem_of_getElem? (i := 151) rfl) rfl
theorem mw_1_152 : (Jvm.Cond.methodLink "VersionedBlock$Weave" (20 : Nat) ({ cls := "java/util/Arrays", name := "copyOf", desc := "([JI)[J" } : Jvm.MethodName)) ∈ TB := tb_1 (List.mem_of_getElem? (i := 152) rfl) rfl
theorem mw_1_153 : (Jvm.Cond.static ({ cls := "java/util/Arrays", name := "copyOf", desc := "([JI)[J" } : Jvm.MethodName)) ∈ TB := tb_1 (List.mem_of_getElem? (i := 153) rfl) rfl
theorem mw_1_154 : (Jvm.Cond.code ({ cls := "java/util/Arrays", name := "copyOf", desc := "([JI)[J" } : Jvm.MethodName) prog_11_method_124_code (3 : Nat) (Option.some (Jvm.ClassFile.FieldType.array Jvm.ClassFile.FieldType.long))) ∈ TB := tb_1 (List.mem_of_getElem? (i := 154) rfl) rfl
theorem mw_1_155 : (Jvm.Cond.methodLink "java/util/Arrays" (319 : Nat) ({ cls := "[J", name := "clone", desc := "()Ljava/lang/Object;" } : Jvm.MethodName)) ∈ TB := tb_1 (List.mem_of_getElem? (i := 155) rfl) rfl
theorem mw_1_156 : (Jvm.Cond.sameMethod "[J" "java/lang/Object" "clone" "()Ljava/lang/Object;") ∈ TB := tb_1 (List.mem_of_getElem? (i := 156) rfl) rfl
theorem mw_1_157 : (Jvm.Cond.native ({ cls := "java/lang/Object", name := "clone", desc := "()Ljava/lang/Object;" } : Jvm.MethodName)) ∈ TB := tb_1 (List.mem_of_getElem? (i := 157) rfl) rfl
theorem mw_1_158 : (Jvm.Cond.instanceMethod ({ cls := "java/lang/Object", name := "clone", desc := "()Ljava/lang/Object;" } : Jvm.MethodName)) ∈ TB := tb_1 (List.mem_of_getElem? (i := 158) rfl) rfl
theorem mw_1_159 : (Jvm.Cond.selects "[J" ({ cls := "[J", name := "clone", desc := "()Ljava/lang/Object;" } : Jvm.MethodName) ({ cls := "java/lang/Object", name := "clone", desc := "()Ljava/lang/Object;" } : Jvm.MethodName)) ∈ TB := tb_1 (List.mem_of_getElem? (i := 159) rfl) rfl
theorem mw_1_161 : (Jvm.Cond.classLink "java/util/Arrays" (320 : Nat) "[J") ∈ TB := tb_1 (List.mem_of_getElem? (i := 161) rfl) rfl
theorem mw_1_162 : (Jvm.Cond.methodLink "java/util/Arrays" (304 : Nat) ({ cls := "java/lang/Math", name := "min", desc := "(II)I" } : Jvm.MethodName)) ∈ TB := tb_1 (List.mem_of_getElem? (i := 162) rfl) rfl
theorem mw_1_163 : (Jvm.Cond.methodLink "java/util/Arrays" (150 : Nat) ({ cls := "java/lang/System", name := "arraycopy", desc := "(Ljava/lang/Object;ILjava/lang/Object;II)V" } : Jvm.MethodName)) ∈ TB := tb_1 (List.mem_of_getElem? (i := 163) rfl) rfl
theorem mw_1_164 : (Jvm.Cond.static ({ cls := "java/lang/System", name := "arraycopy", desc := "(Ljava/lang/Object;ILjava/lang/Object;II)V" } : Jvm.MethodName)) ∈ TB := tb_1 (List.mem_of_getElem? (i := 164) rfl) rfl
theorem mw_1_165 : (Jvm.Cond.native ({ cls := "java/lang/System", name := "arraycopy", desc := "(Ljava/lang/Object;ILjava/lang/Object;II)V" } : Jvm.MethodName)) ∈ TB := tb_1 (List.mem_of_getElem? (i := 165) rfl) rfl
theorem mw_1_166 : (Jvm.Cond.methodLink "VersionedBlockLaw" (52 : Nat) ({ cls := "VersionedBlock", name := "unweave", desc := "()I" } : Jvm.MethodName)) ∈ TB := tb_1 (List.mem_of_getElem? (i := 166) rfl) rfl
theorem mw_1_167 : (Jvm.Cond.instanceMethod ({ cls := "VersionedBlock", name := "unweave", desc := "()I" } : Jvm.MethodName)) ∈ TB := tb_1 (List.mem_of_getElem? (i := 167) rfl) rfl
theorem mw_1_168 : (Jvm.Cond.selects "VersionedBlock" ({ cls := "VersionedBlock", name := "unweave", desc := "()I" } : Jvm.MethodName) ({ cls := "VersionedBlock", name := "unweave", desc := "()I" } : Jvm.MethodName)) ∈ TB := tb_1 (List.mem_of_getElem? (i := 168) rfl) rfl
theorem mw_1_169 : (Jvm.Cond.code ({ cls := "VersionedBlock", name := "unweave", desc := "()I" } : Jvm.MethodName) prog_1_method_8_code (1 : Nat) (Option.some Jvm.ClassFile.FieldType.int)) ∈ TB := tb_1 (List.mem_of_getElem? (i := 169) rfl) rfl
theorem mw_1_170 : (Jvm.Cond.methodLink "VersionedBlock" (64 : Nat) ({ cls := "VersionedBlock$Weave", name := "clear", desc := "()I" } : Jvm.MethodName)) ∈ TB := tb_1 (List.mem_of_getElem? (i := 170) rfl) rfl
theorem mw_1_171 : (Jvm.Cond.instanceMethod ({ cls := "VersionedBlock$Weave", name := "clear", desc := "()I" } : Jvm.MethodName)) ∈ TB := tb_1 (List.mem_of_getElem? (i := 171) rfl) rfl
theorem mw_1_172 : (Jvm.Cond.selects "VersionedBlock$Weave" ({ cls := "VersionedBlock$Weave", name := "clear", desc := "()I" } : Jvm.MethodName) ({ cls := "VersionedBlock$Weave", name := "clear", desc := "()I" } : Jvm.MethodName)) ∈ TB := tb_1 (List.mem_of_getElem? (i := 172) rfl) rfl
theorem mw_1_173 : (Jvm.Cond.code ({ cls := "VersionedBlock$Weave", name := "clear", desc := "()I" } : Jvm.MethodName) prog_4_method_3_code (2 : Nat) (Option.some Jvm.ClassFile.FieldType.int)) ∈ TB := tb_1 (List.mem_of_getElem? (i := 173) rfl) rfl
theorem mw_1_174 : (Jvm.Cond.methodLink "VersionedBlockLaw" (56 : Nat) ({ cls := "VersionedBlock", name := "execute", desc := "()I" } : Jvm.MethodName)) ∈ TB := tb_1 (List.mem_of_getElem? (i := 174) rfl) rfl
theorem mw_1_175 : (Jvm.Cond.instanceMethod ({ cls := "VersionedBlock", name := "execute", desc := "()I" } : Jvm.MethodName)) ∈ TB := tb_1 (List.mem_of_getElem? (i := 175) rfl) rfl
theorem mw_1_176 : (Jvm.Cond.selects "VersionedBlock" ({ cls := "VersionedBlock", name := "execute", desc := "()I" } : Jvm.MethodName) ({ cls := "VersionedBlock", name := "execute", desc := "()I" } : Jvm.MethodName)) ∈ TB := tb_1 (List.mem_of_getElem? (i := 176) rfl) rfl
theorem mw_1_177 : (Jvm.Cond.code ({ cls := "VersionedBlock", name := "execute", desc := "()I" } : Jvm.MethodName) prog_1_method_9_code (2 : Nat) (Option.some Jvm.ClassFile.FieldType.int)) ∈ TB := tb_1 (List.mem_of_getElem? (i := 177) rfl) rfl
theorem mw_1_178 : (Jvm.Cond.methodLink "VersionedBlock" (76 : Nat) ({ cls := "VersionedBlock$Weave", name := "length", desc := "()I" } : Jvm.MethodName)) ∈ TB := tb_1 (List.mem_of_getElem? (i := 178) rfl) rfl
theorem mw_1_179 : (Jvm.Cond.instanceMethod ({ cls := "VersionedBlock$Weave", name := "length", desc := "()I" } : Jvm.MethodName)) ∈ TB := tb_1 (List.mem_of_getElem? (i := 179) rfl) rfl
theorem mw_1_180 : (Jvm.Cond.selects "VersionedBlock$Weave" ({ cls := "VersionedBlock$Weave", name := "length", desc := "()I" } : Jvm.MethodName) ({ cls := "VersionedBlock$Weave", name := "length", desc := "()I" } : Jvm.MethodName)) ∈ TB := tb_1 (List.mem_of_getElem? (i := 180) rfl) rfl
theorem mw_1_181 : (Jvm.Cond.code ({ cls := "VersionedBlock$Weave", name := "length", desc := "()I" } : Jvm.MethodName) prog_4_method_4_code (1 : Nat) (Option.some Jvm.ClassFile.FieldType.int)) ∈ TB := tb_1 (List.mem_of_getElem? (i := 181) rfl) rfl
theorem mw_1_182 : (Jvm.Cond.methodLink "VersionedBlock" (79 : Nat) ({ cls := "VersionedBlock$Weave", name := "numberAt", desc := "(I)I" } : Jvm.MethodName)) ∈ TB := tb_1 (List.mem_of_getElem? (i := 182) rfl) rfl
theorem mw_1_183 : (Jvm.Cond.instanceMethod ({ cls := "VersionedBlock$Weave", name := "numberAt", desc := "(I)I" } : Jvm.MethodName)) ∈ TB := tb_1 (List.mem_of_getElem? (i := 183) rfl) rfl
theorem mw_1_184 : (Jvm.Cond.selects "VersionedBlock$Weave" ({ cls := "VersionedBlock$Weave", name := "numberAt", desc := "(I)I" } : Jvm.MethodName) ({ cls := "VersionedBlock$Weave", name := "numberAt", desc := "(I)I" } : Jvm.MethodName)) ∈ TB := tb_1 (List.mem_of_getElem? (i := 184) rfl) rfl
theorem mw_1_185 : (Jvm.Cond.code ({ cls := "VersionedBlock$Weave", name := "numberAt", desc := "(I)I" } : Jvm.MethodName) prog_4_method_5_code (3 : Nat) (Option.some Jvm.ClassFile.FieldType.int)) ∈ TB := tb_1 (List.mem_of_getElem? (i := 185) rfl) rfl
theorem mw_1_186 : (Jvm.Cond.methodLink "VersionedBlock" (83 : Nat) ({ cls := "java/lang/Math", name := "floorMod", desc := "(II)I" } : Jvm.MethodName)) ∈ TB := tb_1 (List.mem_of_getElem? (i := 186) rfl) rfl
theorem mw_1_187 : (Jvm.Cond.static ({ cls := "java/lang/Math", name := "floorMod", desc := "(II)I" } : Jvm.MethodName)) ∈ TB := tb_1 (List.mem_of_getElem? (i := 187) rfl) rfl
theorem mw_1_188 : (Jvm.Cond.code ({ cls := "java/lang/Math", name := "floorMod", desc := "(II)I" } : Jvm.MethodName) prog_9_method_50_code (3 : Nat) (Option.some Jvm.ClassFile.FieldType.int)) ∈ TB := tb_1 (List.mem_of_getElem? (i := 188) rfl) rfl
theorem mw_1_189 : (Jvm.Cond.methodLink "VersionedBlock" (86 : Nat) ({ cls := "VersionedBlock", name := "goOn", desc := "(I)Z" } : Jvm.MethodName)) ∈ TB := tb_1 (List.mem_of_getElem? (i := 189) rfl) rfl
theorem mw_1_191 : (Jvm.Cond.instanceMethod ({ cls := "VersionedBlock", name := "goOn", desc := "(I)Z" } : Jvm.MethodName)) ∈ TB := tb_1 (List.mem_of_getElem? (i := 191) rfl) rfl
theorem mw_1_192 : (Jvm.Cond.code ({ cls := "VersionedBlock", name := "goOn", desc := "(I)Z" } : Jvm.MethodName) prog_1_method_18_code (3 : Nat) (Option.some Jvm.ClassFile.FieldType.boolean)) ∈ TB := tb_1 (List.mem_of_getElem? (i := 192) rfl) rfl
theorem mw_1_193 : (Jvm.Cond.methodLink "VersionedBlock" (104 : Nat) ({ cls := "VersionedBlock$Worker", name := "isFree", desc := "()Z" } : Jvm.MethodName)) ∈ TB := tb_1 (List.mem_of_getElem? (i := 193) rfl) rfl
theorem mw_1_194 : (Jvm.Cond.instanceMethod ({ cls := "VersionedBlock$Worker", name := "isFree", desc := "()Z" } : Jvm.MethodName)) ∈ TB := tb_1 (List.mem_of_getElem? (i := 194) rfl) rfl
theorem mw_1_195 : (Jvm.Cond.selects "VersionedBlock$Worker" ({ cls := "VersionedBlock$Worker", name := "isFree", desc := "()Z" } : Jvm.MethodName) ({ cls := "VersionedBlock$Worker", name := "isFree", desc := "()Z" } : Jvm.MethodName)) ∈ TB := tb_1 (List.mem_of_getElem? (i := 195) rfl) rfl
theorem mw_1_196 : (Jvm.Cond.code ({ cls := "VersionedBlock$Worker", name := "isFree", desc := "()Z" } : Jvm.MethodName) prog_5_method_2_code (1 : Nat) (Option.some Jvm.ClassFile.FieldType.boolean)) ∈ TB := tb_1 (List.mem_of_getElem? (i := 196) rfl) rfl
theorem mw_1_197 : (Jvm.Cond.methodLink "VersionedBlock" (108 : Nat) ({ cls := "VersionedBlock", name := "takeNext", desc := "(I)Z" } : Jvm.MethodName)) ∈ TB := tb_1 (List.mem_of_getElem? (i := 197) rfl) rfl
theorem mw_1_199 : (Jvm.Cond.instanceMethod ({ cls := "VersionedBlock", name := "takeNext", desc := "(I)Z" } : Jvm.MethodName)) ∈ TB := tb_1 (List.mem_of_getElem? (i := 199) rfl) rfl
theorem mw_1_200 : (Jvm.Cond.code ({ cls := "VersionedBlock", name := "takeNext", desc := "(I)Z" } : Jvm.MethodName) prog_1_method_19_code (4 : Nat) (Option.some Jvm.ClassFile.FieldType.boolean)) ∈ TB := tb_1 (List.mem_of_getElem? (i := 200) rfl) rfl
theorem mw_1_201 : (Jvm.Cond.instantiable "VersionedBlock$Worker" (9 : Nat)) ∈ TB := tb_1 (List.mem_of_getElem? (i := 201) rfl) rfl
theorem mw_1_203 : (Jvm.Cond.instanceMethod ({ cls := "VersionedBlock$Worker", name := "<init>", desc := "()V" } : Jvm.MethodName)) ∈ TB := tb_1 (List.mem_of_getElem? (i := 203) rfl) rfl
theorem mw_1_204 : (Jvm.Cond.code ({ cls := "VersionedBlock$Worker", name := "<init>", desc := "()V" } : Jvm.MethodName) prog_5_method_1_code (1 : Nat) (Option.none : Option Jvm.ClassFile.FieldType)) ∈ TB := tb_1 (List.mem_of_getElem? (i := 204) rfl) rfl
theorem mw_1_205 : (Jvm.Cond.methodLink "VersionedBlock$Worker" (3 : Nat) ({ cls := "java/lang/Object", name := "<init>", desc := "()V" } : Jvm.MethodName)) ∈ TB := tb_1 (List.mem_of_getElem? (i := 205) rfl) rfl
theorem mw_1_206 : (Jvm.Cond.classLink "VersionedBlock$Worker" (15 : Nat) "VersionedBlock$Draft") ∈ TB := tb_1 (List.mem_of_getElem? (i := 206) rfl) rfl
theorem mw_1_207 : (Jvm.Cond.instantiable "VersionedBlock$Draft" (4 : Nat)) ∈ TB := tb_1 (List.mem_of_getElem? (i := 207) rfl) rfl
theorem mw_1_209 : (Jvm.Cond.instanceMethod ({ cls := "VersionedBlock$Draft", name := "<init>", desc := "()V" } : Jvm.MethodName)) ∈ TB := tb_1 (List.mem_of_getElem? (i := 209) rfl) rfl
theorem mw_1_210 : (Jvm.Cond.code ({ cls := "VersionedBlock$Draft", name := "<init>", desc := "()V" } : Jvm.MethodName) prog_2_method_1_code (1 : Nat) (Option.none : Option Jvm.ClassFile.FieldType)) ∈ TB := tb_1 (List.mem_of_getElem? (i := 210) rfl) rfl
theorem mw_1_211 : (Jvm.Cond.methodLink "VersionedBlock$Draft" (3 : Nat) ({ cls := "java/lang/Object", name := "<init>", desc := "()V" } : Jvm.MethodName)) ∈ TB := tb_1 (List.mem_of_getElem? (i := 211) rfl) rfl
theorem mw_1_212 : (Jvm.Cond.fieldLink "VersionedBlock$Draft" (9 : Nat) "VersionedBlock$Draft" "numbers" "[J") ∈ TB := tb_1 (List.mem_of_getElem? (i := 212) rfl) rfl
theorem mw_1_213 : (Jvm.Cond.fieldLink "VersionedBlock$Draft" (15 : Nat) "VersionedBlock$Draft" "kept" "[Z") ∈ TB := tb_1 (List.mem_of_getElem? (i := 213) rfl) rfl
theorem mw_1_214 : (Jvm.Cond.fieldLink "VersionedBlock$Draft" (19 : Nat) "VersionedBlock$Draft" "order" "[I") ∈ TB := tb_1 (List.mem_of_getElem? (i := 214) rfl) rfl
theorem mw_1_215 : (Jvm.Cond.fieldLink "VersionedBlock$Draft" (23 : Nat) "VersionedBlock$Draft" "length" "I") ∈ TB := tb_1 (List.mem_of_getElem? (i := 215) rfl) rfl
theorem mw_1_216 : (Jvm.Cond.laysFinal "VersionedBlock$Draft" "VersionedBlock$Draft" "numbers" "[J") ∈ TB := tb_1 (List.mem_of_getElem? (i := 216) rfl) rfl
theorem mw_1_218 : (Jvm.Cond.laysFinal "VersionedBlock$Draft" "VersionedBlock$Draft" "kept" "[Z") ∈ TB := tb_1 (List.mem_of_getElem? (i := 218) rfl) rfl
theorem mw_1_220 : (Jvm.Cond.laysFinal "VersionedBlock$Draft" "VersionedBlock$Draft" "order" "[I") ∈ TB := tb_1 (List.mem_of_getElem? (i := 220) rfl) rfl
theorem mw_1_222 : (Jvm.Cond.lays "VersionedBlock$Draft" "VersionedBlock$Draft" "length" "I") ∈ TB := tb_1 (List.mem_of_getElem? (i := 222) rfl) rfl
theorem mw_1_225 : (Jvm.Cond.arrayClass Jvm.ClassFile.FieldType.boolean) ∈ TB := tb_1 (List.mem_of_getElem? (i := 225) rfl) rfl
theorem mw_1_226 : (Jvm.Cond.fieldLink "VersionedBlock$Worker" (9 : Nat) "VersionedBlock$Worker" "registers" "[J") ∈ TB := tb_1 (List.mem_of_getElem? (i := 226) rfl) rfl
theorem mw_1_227 : (Jvm.Cond.fieldLink "VersionedBlock$Worker" (18 : Nat) "VersionedBlock$Worker" "seen" "LVersionedBlock$Draft;") ∈ TB := tb_1 (List.mem_of_getElem? (i := 227) rfl) rfl
theorem mw_1_228 : (Jvm.Cond.fieldLink "VersionedBlock$Worker" (22 : Nat) "VersionedBlock$Worker" "stored" "LVersionedBlock$Draft;") ∈ TB := tb_1 (List.mem_of_getElem? (i := 228) rfl) rfl
theorem mw_1_229 : (Jvm.Cond.fieldLink "VersionedBlock$Worker" (25 : Nat) "VersionedBlock$Worker" "task" "LVersionedBlock$Transaction;") ∈ TB := tb_1 (List.mem_of_getElem? (i := 229) rfl) rfl
theorem mw_1_230 : (Jvm.Cond.fieldLink "VersionedBlock$Worker" (33 : Nat) "VersionedBlock$Worker" "taskNumber" "I") ∈ TB := tb_1 (List.mem_of_getElem? (i := 230) rfl) rfl
theorem mw_1_231 : (Jvm.Cond.fieldLink "VersionedBlock$Worker" (48 : Nat) "VersionedBlock$Worker" "next" "I") ∈ TB := tb_1 (List.mem_of_getElem? (i := 231) rfl) rfl
theorem mw_1_232 : (Jvm.Cond.fieldLink "VersionedBlock$Worker" (51 : Nat) "VersionedBlock$Worker" "done" "I") ∈ TB := tb_1 (List.mem_of_getElem? (i := 232) rfl) rfl
theorem mw_1_233 : (Jvm.Cond.fieldLink "VersionedBlock$Worker" (54 : Nat) "VersionedBlock$Worker" "loads" "I") ∈ TB := tb_1 (List.mem_of_getElem? (i := 233) rfl) rfl
theorem mw_1_234 : (Jvm.Cond.fieldLink "VersionedBlock$Worker" (29 : Nat) "VersionedBlock$Worker" "outcome" "I") ∈ TB := tb_1 (List.mem_of_getElem? (i := 234) rfl) rfl
theorem mw_1_235 : (Jvm.Cond.laysFinal "VersionedBlock$Worker" "VersionedBlock$Worker" "registers" "[J") ∈ TB := tb_1 (List.mem_of_getElem? (i := 235) rfl) rfl
theorem mw_1_237 : (Jvm.Cond.laysFinal "VersionedBlock$Worker" "VersionedBlock$Worker" "seen" "LVersionedBlock$Draft;") ∈ TB := tb_1 (List.mem_of_getElem? (i := 237) rfl) rfl
theorem mw_1_239 : (Jvm.Cond.laysFinal "VersionedBlock$Worker" "VersionedBlock$Worker" "stored" "LVersionedBlock$Draft;") ∈ TB := tb_1 (List.mem_of_getElem? (i := 239) rfl) rfl
theorem mw_2_1 : (Jvm.Cond.lays "VersionedBlock$Worker" "VersionedBlock$Worker" "task" "LVersionedBlock$Transaction;") ∈ TB := tb_2 (List.mem_of_getElem? (i := 1) rfl) rfl
theorem mw_2_3 : (Jvm.Cond.lays "VersionedBlock$Worker" "VersionedBlock$Worker" "taskNumber" "I") ∈ TB := tb_2 (List.mem_of_getElem? (i := 3) rfl) rfl
theorem mw_2_5 : (Jvm.Cond.lays "VersionedBlock$Worker" "VersionedBlock$Worker" "next" "I") ∈ TB := tb_2 (List.mem_of_getElem? (i := 5) rfl) rfl
theorem mw_2_7 : (Jvm.Cond.lays "VersionedBlock$Worker" "VersionedBlock$Worker" "done" "I") ∈ TB := tb_2 (List.mem_of_getElem? (i := 7) rfl) rfl
theorem mw_2_9 : (Jvm.Cond.lays "VersionedBlock$Worker" "VersionedBlock$Worker" "loads" "I") ∈ TB := tb_2 (List.mem_of_getElem? (i := 9) rfl) rfl
theorem mw_2_11 : (Jvm.Cond.lays "VersionedBlock$Worker" "VersionedBlock$Worker" "outcome" "I") ∈ TB := tb_2 (List.mem_of_getElem? (i := 11) rfl) rfl
theorem mw_2_14 : (Jvm.Cond.methodLink "VersionedBlock" (126 : Nat) ({ cls := "VersionedBlock$Worker", name := "take", desc := "(LVersionedBlock$Transaction;I)V" } : Jvm.MethodName)) ∈ TB := tb_2 (List.mem_of_getElem? (i := 14) rfl) rfl
theorem mw_2_15 : (Jvm.Cond.instanceMethod ({ cls := "VersionedBlock$Worker", name := "take", desc := "(LVersionedBlock$Transaction;I)V" } : Jvm.MethodName)) ∈ TB := tb_2 (List.mem_of_getElem? (i := 15) rfl) rfl
theorem mw_2_16 : (Jvm.Cond.selects "VersionedBlock$Worker" ({ cls := "VersionedBlock$Worker", name := "take", desc := "(LVersionedBlock$Transaction;I)V" } : Jvm.MethodName) ({ cls := "VersionedBlock$Worker", name := "take", desc := "(LVersionedBlock$Transaction;I)V" } : Jvm.MethodName)) ∈ TB := tb_2 (List.mem_of_getElem? (i := 16) rfl) rfl
theorem mw_2_17 : (Jvm.Cond.code ({ cls := "VersionedBlock$Worker", name := "take", desc := "(LVersionedBlock$Transaction;I)V" } : Jvm.MethodName) prog_5_method_5_code (3 : Nat) (Option.none : Option Jvm.ClassFile.FieldType)) ∈ TB := tb_2 (List.mem_of_getElem? (i := 17) rfl) rfl
theorem mw_2_18 : (Jvm.Cond.methodLink "VersionedBlock$Worker" (36 : Nat) ({ cls := "VersionedBlock$Worker", name := "startAnew", desc := "()V" } : Jvm.MethodName)) ∈ TB := tb_2 (List.mem_of_getElem? (i := 18) rfl) rfl
theorem mw_2_19 : (Jvm.Cond.instanceMethod ({ cls := "VersionedBlock$Worker", name := "startAnew", desc := "()V" } : Jvm.MethodName)) ∈ TB := tb_2 (List.mem_of_getElem? (i := 19) rfl) rfl
theorem mw_2_20 : (Jvm.Cond.selects "VersionedBlock$Worker" ({ cls := "VersionedBlock$Worker", name := "startAnew", desc := "()V" } : Jvm.MethodName) ({ cls := "VersionedBlock$Worker", name := "startAnew", desc := "()V" } : Jvm.MethodName)) ∈ TB := tb_2 (List.mem_of_getElem? (i := 20) rfl) rfl
theorem mw_2_21 : (Jvm.Cond.code ({ cls := "VersionedBlock$Worker", name := "startAnew", desc := "()V" } : Jvm.MethodName) prog_5_method_6_code (1 : Nat) (Option.none : Option Jvm.ClassFile.FieldType)) ∈ TB := tb_2 (List.mem_of_getElem? (i := 21) rfl) rfl
theorem mw_2_22 : (Jvm.Cond.methodLink "VersionedBlock$Worker" (39 : Nat) ({ cls := "java/util/Arrays", name := "fill", desc := "([JJ)V" } : Jvm.MethodName)) ∈ TB := tb_2 (List.mem_of_getElem? (i := 22) rfl) rfl
theorem mw_2_23 : (Jvm.Cond.static ({ cls := "java/util/Arrays", name := "fill", desc := "([JJ)V" } : Jvm.MethodName)) ∈ TB := tb_2 (List.mem_of_getElem? (i := 23) rfl) rfl
theorem mw_2_24 : (Jvm.Cond.code ({ cls := "java/util/Arrays", name := "fill", desc := "([JJ)V" } : Jvm.MethodName) prog_11_method_101_code (5 : Nat) (Option.none : Option Jvm.ClassFile.FieldType)) ∈ TB := tb_2 (List.mem_of_getElem? (i := 24) rfl) rfl
theorem mw_2_25 : (Jvm.Cond.methodLink "VersionedBlock$Worker" (45 : Nat) ({ cls := "VersionedBlock$Draft", name := "clear", desc := "()V" } : Jvm.MethodName)) ∈ TB := tb_2 (List.mem_of_getElem? (i := 25) rfl) rfl
theorem mw_2_26 : (Jvm.Cond.instanceMethod ({ cls := "VersionedBlock$Draft", name := "clear", desc := "()V" } : Jvm.MethodName)) ∈ TB := tb_2 (List.mem_of_getElem? (i := 26) rfl) rfl
theorem mw_2_27 : (Jvm.Cond.selects "VersionedBlock$Draft" ({ cls := "VersionedBlock$Draft", name := "clear", desc := "()V" } : Jvm.MethodName) ({ cls := "VersionedBlock$Draft", name := "clear", desc := "()V" } : Jvm.MethodName)) ∈ TB := tb_2 (List.mem_of_getElem? (i := 27) rfl) rfl
theorem mw_2_28 : (Jvm.Cond.code ({ cls := "VersionedBlock$Draft", name := "clear", desc := "()V" } : Jvm.MethodName) prog_2_method_2_code (2 : Nat) (Option.none : Option Jvm.ClassFile.FieldType)) ∈ TB := tb_2 (List.mem_of_getElem? (i := 28) rfl) rfl
theorem mw_2_29 : (Jvm.Cond.methodLink "VersionedBlock" (111 : Nat) ({ cls := "VersionedBlock$Worker", name := "isAtEnd", desc := "()Z" } : Jvm.MethodName)) ∈ TB := tb_2 (List.mem_of_getElem? (i := 29) rfl) rfl
theorem mw_2_30 : (Jvm.Cond.instanceMethod ({ cls := "VersionedBlock$Worker", name := "isAtEnd", desc := "()Z" } : Jvm.MethodName)) ∈ TB := tb_2 (List.mem_of_getElem? (i := 30) rfl) rfl
theorem mw_2_31 : (Jvm.Cond.selects "VersionedBlock$Worker" ({ cls := "VersionedBlock$Worker", name := "isAtEnd", desc := "()Z" } : Jvm.MethodName) ({ cls := "VersionedBlock$Worker", name := "isAtEnd", desc := "()Z" } : Jvm.MethodName)) ∈ TB := tb_2 (List.mem_of_getElem? (i := 31) rfl) rfl
theorem mw_2_32 : (Jvm.Cond.code ({ cls := "VersionedBlock$Worker", name := "isAtEnd", desc := "()Z" } : Jvm.MethodName) prog_5_method_3_code (1 : Nat) (Option.some Jvm.ClassFile.FieldType.boolean)) ∈ TB := tb_2 (List.mem_of_getElem? (i := 32) rfl) rfl
theorem mw_2_33 : (Jvm.Cond.methodLink "VersionedBlock" (114 : Nat) ({ cls := "VersionedBlock$Worker", name := "doNext", desc := "([J)V" } : Jvm.MethodName)) ∈ TB := tb_2 (List.mem_of_getElem? (i := 33) rfl) rfl
theorem mw_2_34 : (Jvm.Cond.instanceMethod ({ cls := "VersionedBlock$Worker", name := "doNext", desc := "([J)V" } : Jvm.MethodName)) ∈ TB := tb_2 (List.mem_of_getElem? (i := 34) rfl) rfl
theorem mw_2_35 : (Jvm.Cond.selects "VersionedBlock$Worker" ({ cls := "VersionedBlock$Worker", name := "doNext", desc := "([J)V" } : Jvm.MethodName) ({ cls := "VersionedBlock$Worker", name := "doNext", desc := "([J)V" } : Jvm.MethodName)) ∈ TB := tb_2 (List.mem_of_getElem? (i := 35) rfl) rfl
theorem mw_2_36 : (Jvm.Cond.code ({ cls := "VersionedBlock$Worker", name := "doNext", desc := "([J)V" } : Jvm.MethodName) prog_5_method_7_code (4 : Nat) (Option.none : Option Jvm.ClassFile.FieldType)) ∈ TB := tb_2 (List.mem_of_getElem? (i := 36) rfl) rfl
theorem mw_2_37 : (Jvm.Cond.methodLink "VersionedBlock$Worker" (57 : Nat) ({ cls := "VersionedBlock$Transaction", name := "has", desc := "(J)Z" } : Jvm.MethodName)) ∈ TB := tb_2 (List.mem_of_getElem? (i := 37) rfl) rfl
theorem mw_2_38 : (Jvm.Cond.instanceMethod ({ cls := "VersionedBlock$Transaction", name := "has", desc := "(J)Z" } : Jvm.MethodName)) ∈ TB := tb_2 (List.mem_of_getElem? (i := 38) rfl) rfl
theorem mw_2_39 : (Jvm.Cond.selects "VersionedBlock$Transaction" ({ cls := "VersionedBlock$Transaction", name := "has", desc := "(J)Z" } : Jvm.MethodName) ({ cls := "VersionedBlock$Transaction", name := "has", desc := "(J)Z" } : Jvm.MethodName)) ∈ TB := tb_2 (List.mem_of_getElem? (i := 39) rfl) rfl
theorem mw_2_40 : (Jvm.Cond.code ({ cls := "VersionedBlock$Transaction", name := "has", desc := "(J)Z" } : Jvm.MethodName) prog_3_method_4_code (3 : Nat) (Option.some Jvm.ClassFile.FieldType.boolean)) ∈ TB := tb_2 (List.mem_of_getElem? (i := 40) rfl) rfl
theorem mw_2_41 : (Jvm.Cond.constantLong "VersionedBlock$Transaction" (34 : Nat) (32 : Int64)) ∈ TB := tb_2 (List.mem_of_getElem? (i := 41) rfl) rfl
theorem mw_2_42 : (Jvm.Cond.methodLink "VersionedBlock$Worker" (63 : Nat) ({ cls := "VersionedBlock$Worker", name := "perform", desc := "(LVersionedBlock$Transaction;I[J)V" } : Jvm.MethodName)) ∈ TB := tb_2 (List.mem_of_getElem? (i := 42) rfl) rfl
theorem mw_2_44 : (Jvm.Cond.instanceMethod ({ cls := "VersionedBlock$Worker", name := "perform", desc := "(LVersionedBlock$Transaction;I[J)V" } : Jvm.MethodName)) ∈ TB := tb_2 (List.mem_of_getElem? (i := 44) rfl) rfl
theorem mw_2_45 : (Jvm.Cond.code ({ cls := "VersionedBlock$Worker", name := "perform", desc := "(LVersionedBlock$Transaction;I[J)V" } : Jvm.MethodName) prog_5_method_8_code (8 : Nat) (Option.none : Option Jvm.ClassFile.FieldType)) ∈ TB := tb_2 (List.mem_of_getElem? (i := 45) rfl) rfl
theorem mw_2_46 : (Jvm.Cond.methodLink "VersionedBlock$Worker" (67 : Nat) ({ cls := "VersionedBlock$Transaction", name := "firstAt", desc := "(I)I" } : Jvm.MethodName)) ∈ TB := tb_2 (List.mem_of_getElem? (i := 46) rfl) rfl
theorem mw_2_47 : (Jvm.Cond.instanceMethod ({ cls := "VersionedBlock$Transaction", name := "firstAt", desc := "(I)I" } : Jvm.MethodName)) ∈ TB := tb_2 (List.mem_of_getElem? (i := 47) rfl) rfl
theorem mw_2_48 : (Jvm.Cond.selects "VersionedBlock$Transaction" ({ cls := "VersionedBlock$Transaction", name := "firstAt", desc := "(I)I" } : Jvm.MethodName) ({ cls := "VersionedBlock$Transaction", name := "firstAt", desc := "(I)I" } : Jvm.MethodName)) ∈ TB := tb_2 (List.mem_of_getElem? (i := 48) rfl) rfl
theorem mw_2_49 : (Jvm.Cond.code ({ cls := "VersionedBlock$Transaction", name := "firstAt", desc := "(I)I" } : Jvm.MethodName) prog_3_method_6_code (2 : Nat) (Option.some Jvm.ClassFile.FieldType.int)) ∈ TB := tb_2 (List.mem_of_getElem? (i := 49) rfl) rfl
theorem mw_2_50 : (Jvm.Cond.methodLink "VersionedBlock$Transaction" (36 : Nat) ({ cls := "VersionedBlock$Transaction", name := "has", desc := "(J)Z" } : Jvm.MethodName)) ∈ TB := tb_2 (List.mem_of_getElem? (i := 50) rfl) rfl
theorem mw_2_51 : (Jvm.Cond.methodLink "VersionedBlock$Worker" (71 : Nat) ({ cls := "VersionedBlock$Transaction", name := "secondAt", desc := "(I)J" } : Jvm.MethodName)) ∈ TB := tb_2 (List.mem_of_getElem? (i := 51) rfl) rfl
theorem mw_2_52 : (Jvm.Cond.instanceMethod ({ cls := "VersionedBlock$Transaction", name := "secondAt", desc := "(I)J" } : Jvm.MethodName)) ∈ TB := tb_2 (List.mem_of_getElem? (i := 52) rfl) rfl
theorem mw_2_53 : (Jvm.Cond.selects "VersionedBlock$Transaction" ({ cls := "VersionedBlock$Transaction", name := "secondAt", desc := "(I)J" } : Jvm.MethodName) ({ cls := "VersionedBlock$Transaction", name := "secondAt", desc := "(I)J" } : Jvm.MethodName)) ∈ TB := tb_2 (List.mem_of_getElem? (i := 53) rfl) rfl
theorem mw_2_54 : (Jvm.Cond.code ({ cls := "VersionedBlock$Transaction", name := "secondAt", desc := "(I)J" } : Jvm.MethodName) prog_3_method_7_code (2 : Nat) (Option.some Jvm.ClassFile.FieldType.long)) ∈ TB := tb_2 (List.mem_of_getElem? (i := 54) rfl) rfl
theorem mw_2_56 : (Jvm.Cond.methodLink "VersionedBlock$Worker" (79 : Nat) ({ cls := "VersionedBlock$Transaction", name := "operationAt", desc := "(I)I" } : Jvm.MethodName)) ∈ TB := tb_2 (List.mem_of_getElem? (i := 56) rfl) rfl
theorem mw_2_57 : (Jvm.Cond.instanceMethod ({ cls := "VersionedBlock$Transaction", name := "operationAt", desc := "(I)I" } : Jvm.MethodName)) ∈ TB := tb_2 (List.mem_of_getElem? (i := 57) rfl) rfl
theorem mw_2_58 : (Jvm.Cond.selects "VersionedBlock$Transaction" ({ cls := "VersionedBlock$Transaction", name := "operationAt", desc := "(I)I" } : Jvm.MethodName) ({ cls := "VersionedBlock$Transaction", name := "operationAt", desc := "(I)I" } : Jvm.MethodName)) ∈ TB := tb_2 (List.mem_of_getElem? (i := 58) rfl) rfl
theorem mw_2_59 : (Jvm.Cond.code ({ cls := "VersionedBlock$Transaction", name := "operationAt", desc := "(I)I" } : Jvm.MethodName) prog_3_method_5_code (2 : Nat) (Option.some Jvm.ClassFile.FieldType.int)) ∈ TB := tb_2 (List.mem_of_getElem? (i := 59) rfl) rfl
theorem mw_2_61 : (Jvm.Cond.static ({ cls := "VersionedBlock", name := "placeOf", desc := "(J)I" } : Jvm.MethodName)) ∈ TB := tb_2 (List.mem_of_getElem? (i := 61) rfl) rfl
theorem mw_2_62 : (Jvm.Cond.code ({ cls := "VersionedBlock", name := "placeOf", desc := "(J)I" } : Jvm.MethodName) prog_1_method_14_code (2 : Nat) (Option.some Jvm.ClassFile.FieldType.int)) ∈ TB := tb_2 (List.mem_of_getElem? (i := 62) rfl) rfl
theorem mw_2_63 : (Jvm.Cond.constantLong "VersionedBlock" (100 : Nat) (255 : Int64)) ∈ TB := tb_2 (List.mem_of_getElem? (i := 63) rfl) rfl
theorem mw_2_64 : (Jvm.Cond.methodLink "VersionedBlock$Worker" (85 : Nat) ({ cls := "VersionedBlock$Worker", name := "load", desc := "(I[J)J" } : Jvm.MethodName)) ∈ TB := tb_2 (List.mem_of_getElem? (i := 64) rfl) rfl
theorem mw_2_66 : (Jvm.Cond.instanceMethod ({ cls := "VersionedBlock$Worker", name := "load", desc := "(I[J)J" } : Jvm.MethodName)) ∈ TB := tb_2 (List.mem_of_getElem? (i := 66) rfl) rfl
theorem mw_2_67 : (Jvm.Cond.code ({ cls := "VersionedBlock$Worker", name := "load", desc := "(I[J)J" } : Jvm.MethodName) prog_5_method_9_code (3 : Nat) (Option.some Jvm.ClassFile.FieldType.long)) ∈ TB := tb_2 (List.mem_of_getElem? (i := 67) rfl) rfl
theorem mw_2_68 : (Jvm.Cond.methodLink "VersionedBlock$Worker" (93 : Nat) ({ cls := "VersionedBlock$Draft", name := "has", desc := "(I)Z" } : Jvm.MethodName)) ∈ TB := tb_2 (List.mem_of_getElem? (i := 68) rfl) rfl
theorem mw_2_69 : (Jvm.Cond.instanceMethod ({ cls := "VersionedBlock$Draft", name := "has", desc := "(I)Z" } : Jvm.MethodName)) ∈ TB := tb_2 (List.mem_of_getElem? (i := 69) rfl) rfl
theorem mw_2_70 : (Jvm.Cond.selects "VersionedBlock$Draft" ({ cls := "VersionedBlock$Draft", name := "has", desc := "(I)Z" } : Jvm.MethodName) ({ cls := "VersionedBlock$Draft", name := "has", desc := "(I)Z" } : Jvm.MethodName)) ∈ TB := tb_2 (List.mem_of_getElem? (i := 70) rfl) rfl
theorem mw_2_71 : (Jvm.Cond.code ({ cls := "VersionedBlock$Draft", name := "has", desc := "(I)Z" } : Jvm.MethodName) prog_2_method_5_code (2 : Nat) (Option.some Jvm.ClassFile.FieldType.boolean)) ∈ TB := tb_2 (List.mem_of_getElem? (i := 71) rfl) rfl
theorem mw_2_72 : (Jvm.Cond.methodLink "VersionedBlock$Worker" (96 : Nat) ({ cls := "VersionedBlock$Draft", name := "numberIn", desc := "(I)J" } : Jvm.MethodName)) ∈ TB := tb_2 (List.mem_of_getElem? (i := 72) rfl) rfl
theorem mw_2_73 : (Jvm.Cond.instanceMethod ({ cls := "VersionedBlock$Draft", name := "numberIn", desc := "(I)J" } : Jvm.MethodName)) ∈ TB := tb_2 (List.mem_of_getElem? (i := 73) rfl) rfl
theorem mw_2_74 : (Jvm.Cond.selects "VersionedBlock$Draft" ({ cls := "VersionedBlock$Draft", name := "numberIn", desc := "(I)J" } : Jvm.MethodName) ({ cls := "VersionedBlock$Draft", name := "numberIn", desc := "(I)J" } : Jvm.MethodName)) ∈ TB := tb_2 (List.mem_of_getElem? (i := 74) rfl) rfl
theorem mw_2_75 : (Jvm.Cond.code ({ cls := "VersionedBlock$Draft", name := "numberIn", desc := "(I)J" } : Jvm.MethodName) prog_2_method_6_code (2 : Nat) (Option.some Jvm.ClassFile.FieldType.long)) ∈ TB := tb_2 (List.mem_of_getElem? (i := 75) rfl) rfl
theorem mw_2_76 : (Jvm.Cond.methodLink "VersionedBlock$Worker" (89 : Nat) ({ cls := "VersionedBlock$Draft", name := "keep", desc := "(IJ)V" } : Jvm.MethodName)) ∈ TB := tb_2 (List.mem_of_getElem? (i := 76) rfl) rfl
theorem mw_2_77 : (Jvm.Cond.instanceMethod ({ cls := "VersionedBlock$Draft", name := "keep", desc := "(IJ)V" } : Jvm.MethodName)) ∈ TB := tb_2 (List.mem_of_getElem? (i := 77) rfl) rfl
theorem mw_2_78 : (Jvm.Cond.selects "VersionedBlock$Draft" ({ cls := "VersionedBlock$Draft", name := "keep", desc := "(IJ)V" } : Jvm.MethodName) ({ cls := "VersionedBlock$Draft", name := "keep", desc := "(IJ)V" } : Jvm.MethodName)) ∈ TB := tb_2 (List.mem_of_getElem? (i := 78) rfl) rfl
theorem mw_2_79 : (Jvm.Cond.code ({ cls := "VersionedBlock$Draft", name := "keep", desc := "(IJ)V" } : Jvm.MethodName) prog_2_method_7_code (4 : Nat) (Option.none : Option Jvm.ClassFile.FieldType)) ∈ TB := tb_2 (List.mem_of_getElem? (i := 79) rfl) rfl
theorem mw_2_80 : (Jvm.Cond.methodLink "VersionedBlock" (118 : Nat) ({ cls := "VersionedBlock$Worker", name := "number", desc := "()I" } : Jvm.MethodName)) ∈ TB := tb_2 (List.mem_of_getElem? (i := 80) rfl) rfl
theorem mw_2_81 : (Jvm.Cond.instanceMethod ({ cls := "VersionedBlock$Worker", name := "number", desc := "()I" } : Jvm.MethodName)) ∈ TB := tb_2 (List.mem_of_getElem? (i := 81) rfl) rfl
theorem mw_2_82 : (Jvm.Cond.selects "VersionedBlock$Worker" ({ cls := "VersionedBlock$Worker", name := "number", desc := "()I" } : Jvm.MethodName) ({ cls := "VersionedBlock$Worker", name := "number", desc := "()I" } : Jvm.MethodName)) ∈ TB := tb_2 (List.mem_of_getElem? (i := 82) rfl) rfl
theorem mw_2_83 : (Jvm.Cond.code ({ cls := "VersionedBlock$Worker", name := "number", desc := "()I" } : Jvm.MethodName) prog_5_method_4_code (1 : Nat) (Option.some Jvm.ClassFile.FieldType.int)) ∈ TB := tb_2 (List.mem_of_getElem? (i := 83) rfl) rfl
theorem mw_2_84 : (Jvm.Cond.methodLink "VersionedBlock" (121 : Nat) ({ cls := "VersionedBlock", name := "settle", desc := "(LVersionedBlock$Worker;)V" } : Jvm.MethodName)) ∈ TB := tb_2 (List.mem_of_getElem? (i := 84) rfl) rfl
theorem mw_2_86 : (Jvm.Cond.instanceMethod ({ cls := "VersionedBlock", name := "settle", desc := "(LVersionedBlock$Worker;)V" } : Jvm.MethodName)) ∈ TB := tb_2 (List.mem_of_getElem? (i := 86) rfl) rfl
theorem mw_2_87 : (Jvm.Cond.code ({ cls := "VersionedBlock", name := "settle", desc := "(LVersionedBlock$Worker;)V" } : Jvm.MethodName) prog_1_method_20_code (2 : Nat) (Option.none : Option Jvm.ClassFile.FieldType)) ∈ TB := tb_2 (List.mem_of_getElem? (i := 87) rfl) rfl
theorem mw_2_88 : (Jvm.Cond.methodLink "VersionedBlock" (130 : Nat) ({ cls := "VersionedBlock$Worker", name := "sawWhatHolds", desc := "([J)Z" } : Jvm.MethodName)) ∈ TB := tb_2 (List.mem_of_getElem? (i := 88) rfl) rfl
theorem mw_2_89 : (Jvm.Cond.instanceMethod ({ cls := "VersionedBlock$Worker", name := "sawWhatHolds", desc := "([J)Z" } : Jvm.MethodName)) ∈ TB := tb_2 (List.mem_of_getElem? (i := 89) rfl) rfl
theorem mw_2_90 : (Jvm.Cond.selects "VersionedBlock$Worker" ({ cls := "VersionedBlock$Worker", name := "sawWhatHolds", desc := "([J)Z" } : Jvm.MethodName) ({ cls := "VersionedBlock$Worker", name := "sawWhatHolds", desc := "([J)Z" } : Jvm.MethodName)) ∈ TB := tb_2 (List.mem_of_getElem? (i := 90) rfl) rfl
theorem mw_2_91 : (Jvm.Cond.code ({ cls := "VersionedBlock$Worker", name := "sawWhatHolds", desc := "([J)Z" } : Jvm.MethodName) prog_5_method_10_code (4 : Nat) (Option.some Jvm.ClassFile.FieldType.boolean)) ∈ TB := tb_2 (List.mem_of_getElem? (i := 91) rfl) rfl
theorem mw_2_92 : (Jvm.Cond.methodLink "VersionedBlock$Worker" (99 : Nat) ({ cls := "VersionedBlock$Draft", name := "size", desc := "()I" } : Jvm.MethodName)) ∈ TB := tb_2 (List.mem_of_getElem? (i := 92) rfl) rfl
theorem mw_2_93 : (Jvm.Cond.instanceMethod ({ cls := "VersionedBlock$Draft", name := "size", desc := "()I" } : Jvm.MethodName)) ∈ TB := tb_2 (List.mem_of_getElem? (i := 93) rfl) rfl
theorem mw_2_94 : (Jvm.Cond.selects "VersionedBlock$Draft" ({ cls := "VersionedBlock$Draft", name := "size", desc := "()I" } : Jvm.MethodName) ({ cls := "VersionedBlock$Draft", name := "size", desc := "()I" } : Jvm.MethodName)) ∈ TB := tb_2 (List.mem_of_getElem? (i := 94) rfl) rfl
theorem mw_2_95 : (Jvm.Cond.code ({ cls := "VersionedBlock$Draft", name := "size", desc := "()I" } : Jvm.MethodName) prog_2_method_3_code (1 : Nat) (Option.some Jvm.ClassFile.FieldType.int)) ∈ TB := tb_2 (List.mem_of_getElem? (i := 95) rfl) rfl
theorem mw_2_96 : (Jvm.Cond.methodLink "VersionedBlock$Worker" (103 : Nat) ({ cls := "VersionedBlock$Draft", name := "placeAt", desc := "(I)I" } : Jvm.MethodName)) ∈ TB := tb_2 (List.mem_of_getElem? (i := 96) rfl) rfl
theorem mw_2_97 : (Jvm.Cond.instanceMethod ({ cls := "VersionedBlock$Draft", name := "placeAt", desc := "(I)I" } : Jvm.MethodName)) ∈ TB := tb_2 (List.mem_of_getElem? (i := 97) rfl) rfl
theorem mw_2_98 : (Jvm.Cond.selects "VersionedBlock$Draft" ({ cls := "VersionedBlock$Draft", name := "placeAt", desc := "(I)I" } : Jvm.MethodName) ({ cls := "VersionedBlock$Draft", name := "placeAt", desc := "(I)I" } : Jvm.MethodName)) ∈ TB := tb_2 (List.mem_of_getElem? (i := 98) rfl) rfl
theorem mw_2_99 : (Jvm.Cond.code ({ cls := "VersionedBlock$Draft", name := "placeAt", desc := "(I)I" } : Jvm.MethodName) prog_2_method_4_code (2 : Nat) (Option.some Jvm.ClassFile.FieldType.int)) ∈ TB := tb_2 (List.mem_of_getElem? (i := 99) rfl) rfl
theorem mw_2_100 : (Jvm.Cond.methodLink "VersionedBlock" (134 : Nat) ({ cls := "VersionedBlock$Worker", name := "startAnew", desc := "()V" } : Jvm.MethodName)) ∈ TB := tb_2 (List.mem_of_getElem? (i := 100) rfl) rfl
theorem mw_2_101 : (Jvm.Cond.methodLink "VersionedBlock" (137 : Nat) ({ cls := "VersionedBlock$Worker", name := "handIn", desc := "([J)Z" } : Jvm.MethodName)) ∈ TB := tb_2 (List.mem_of_getElem? (i := 101) rfl) rfl
theorem mw_2_102 : (Jvm.Cond.instanceMethod ({ cls := "VersionedBlock$Worker", name := "handIn", desc := "([J)Z" } : Jvm.MethodName)) ∈ TB := tb_2 (List.mem_of_getElem? (i := 102) rfl) rfl
theorem mw_2_103 : (Jvm.Cond.selects "VersionedBlock$Worker" ({ cls := "VersionedBlock$Worker", name := "handIn", desc := "([J)Z" } : Jvm.MethodName) ({ cls := "VersionedBlock$Worker", name := "handIn", desc := "([J)Z" } : Jvm.MethodName)) ∈ TB := tb_2 (List.mem_of_getElem? (i := 103) rfl) rfl
theorem mw_2_104 : (Jvm.Cond.code ({ cls := "VersionedBlock$Worker", name := "handIn", desc := "([J)Z" } : Jvm.MethodName) prog_5_method_11_code (5 : Nat) (Option.some Jvm.ClassFile.FieldType.boolean)) ∈ TB := tb_2 (List.mem_of_getElem? (i := 104) rfl) rfl
theorem mw_2_105 : (Jvm.Cond.methodLink "VersionedBlock$Worker" (106 : Nat) ({ cls := "VersionedBlock$Worker", name := "storeInto", desc := "([J)I" } : Jvm.MethodName)) ∈ TB := tb_2 (List.mem_of_getElem? (i := 105) rfl) rfl
theorem mw_2_107 : (Jvm.Cond.instanceMethod ({ cls := "VersionedBlock$Worker", name := "storeInto", desc := "([J)I" } : Jvm.MethodName)) ∈ TB := tb_2 (List.mem_of_getElem? (i := 107) rfl) rfl
theorem mw_2_108 : (Jvm.Cond.code ({ cls := "VersionedBlock$Worker", name := "storeInto", desc := "([J)I" } : Jvm.MethodName) prog_5_method_12_code (4 : Nat) (Option.some Jvm.ClassFile.FieldType.int)) ∈ TB := tb_2 (List.mem_of_getElem? (i := 108) rfl) rfl
theorem mw_2_109 : (Jvm.Cond.methodLink "VersionedBlock$Worker" (110 : Nat) ({ cls := "VersionedBlock$Transaction", name := "note", desc := "(IIIIJ)V" } : Jvm.MethodName)) ∈ TB := tb_2 (List.mem_of_getElem? (i := 109) rfl) rfl
theorem mw_2_110 : (Jvm.Cond.instanceMethod ({ cls := "VersionedBlock$Transaction", name := "note", desc := "(IIIIJ)V" } : Jvm.MethodName)) ∈ TB := tb_2 (List.mem_of_getElem? (i := 110) rfl) rfl
theorem mw_2_111 : (Jvm.Cond.selects "VersionedBlock$Transaction" ({ cls := "VersionedBlock$Transaction", name := "note", desc := "(IIIIJ)V" } : Jvm.MethodName) ({ cls := "VersionedBlock$Transaction", name := "note", desc := "(IIIIJ)V" } : Jvm.MethodName)) ∈ TB := tb_2 (List.mem_of_getElem? (i := 111) rfl) rfl
theorem mw_2_112 : (Jvm.Cond.code ({ cls := "VersionedBlock$Transaction", name := "note", desc := "(IIIIJ)V" } : Jvm.MethodName) prog_3_method_8_code (7 : Nat) (Option.none : Option Jvm.ClassFile.FieldType)) ∈ TB := tb_2 (List.mem_of_getElem? (i := 112) rfl) rfl
theorem mw_2_113 : (Jvm.Cond.methodLink "VersionedBlock" (89 : Nat) ({ cls := "VersionedBlock", name := "goOnAsFarAsItCan", desc := "(I)V" } : Jvm.MethodName)) ∈ TB := tb_2 (List.mem_of_getElem? (i := 113) rfl) rfl
theorem mw_2_115 : (Jvm.Cond.instanceMethod ({ cls := "VersionedBlock", name := "goOnAsFarAsItCan", desc := "(I)V" } : Jvm.MethodName)) ∈ TB := tb_2 (List.mem_of_getElem? (i := 115) rfl) rfl
theorem mw_2_116 : (Jvm.Cond.code ({ cls := "VersionedBlock", name := "goOnAsFarAsItCan", desc := "(I)V" } : Jvm.MethodName) prog_1_method_17_code (5 : Nat) (Option.none : Option Jvm.ClassFile.FieldType)) ∈ TB := tb_2 (List.mem_of_getElem? (i := 116) rfl) rfl
theorem mw_2_117 : (Jvm.Cond.methodLink "VersionedBlockLaw" (60 : Nat) ({ cls := "VersionedBlock", name := "count", desc := "()I" } : Jvm.MethodName)) ∈ TB := tb_2 (List.mem_of_getElem? (i := 117) rfl) rfl
theorem mw_2_118 : (Jvm.Cond.instanceMethod ({ cls := "VersionedBlock", name := "count", desc := "()I" } : Jvm.MethodName)) ∈ TB := tb_2 (List.mem_of_getElem? (i := 118) rfl) rfl
theorem mw_2_119 : (Jvm.Cond.selects "VersionedBlock" ({ cls := "VersionedBlock", name := "count", desc := "()I" } : Jvm.MethodName) ({ cls := "VersionedBlock", name := "count", desc := "()I" } : Jvm.MethodName)) ∈ TB := tb_2 (List.mem_of_getElem? (i := 119) rfl) rfl
theorem mw_2_120 : (Jvm.Cond.code ({ cls := "VersionedBlock", name := "count", desc := "()I" } : Jvm.MethodName) prog_1_method_10_code (1 : Nat) (Option.some Jvm.ClassFile.FieldType.int)) ∈ TB := tb_2 (List.mem_of_getElem? (i := 120) rfl) rfl
theorem mw_2_121 : (Jvm.Cond.methodLink "VersionedBlockLaw" (64 : Nat) ({ cls := "VersionedBlock", name := "told", desc := "(II)I" } : Jvm.MethodName)) ∈ TB := tb_2 (List.mem_of_getElem? (i := 121) rfl) rfl
theorem mw_2_122 : (Jvm.Cond.instanceMethod ({ cls := "VersionedBlock", name := "told", desc := "(II)I" } : Jvm.MethodName)) ∈ TB := tb_2 (List.mem_of_getElem? (i := 122) rfl) rfl
theorem mw_2_123 : (Jvm.Cond.selects "VersionedBlock" ({ cls := "VersionedBlock", name := "told", desc := "(II)I" } : Jvm.MethodName) ({ cls := "VersionedBlock", name := "told", desc := "(II)I" } : Jvm.MethodName)) ∈ TB := tb_2 (List.mem_of_getElem? (i := 123) rfl) rfl
theorem mw_2_124 : (Jvm.Cond.code ({ cls := "VersionedBlock", name := "told", desc := "(II)I" } : Jvm.MethodName) prog_1_method_11_code (4 : Nat) (Option.some Jvm.ClassFile.FieldType.int)) ∈ TB := tb_2 (List.mem_of_getElem? (i := 124) rfl) rfl
theorem mw_2_125 : (Jvm.Cond.methodLink "VersionedBlock" (93 : Nat) ({ cls := "VersionedBlock$Transaction", name := "tell", desc := "(I)I" } : Jvm.MethodName)) ∈ TB := tb_2 (List.mem_of_getElem? (i := 125) rfl) rfl
theorem mw_2_126 : (Jvm.Cond.instanceMethod ({ cls := "VersionedBlock$Transaction", name := "tell", desc := "(I)I" } : Jvm.MethodName)) ∈ TB := tb_2 (List.mem_of_getElem? (i := 126) rfl) rfl
theorem mw_2_127 : (Jvm.Cond.selects "VersionedBlock$Transaction" ({ cls := "VersionedBlock$Transaction", name := "tell", desc := "(I)I" } : Jvm.MethodName) ({ cls := "VersionedBlock$Transaction", name := "tell", desc := "(I)I" } : Jvm.MethodName)) ∈ TB := tb_2 (List.mem_of_getElem? (i := 127) rfl) rfl
theorem mw_2_128 : (Jvm.Cond.code ({ cls := "VersionedBlock$Transaction", name := "tell", desc := "(I)I" } : Jvm.MethodName) prog_3_method_9_code (2 : Nat) (Option.some Jvm.ClassFile.FieldType.int)) ∈ TB := tb_2 (List.mem_of_getElem? (i := 128) rfl) rfl
theorem mw_2_129 : (Jvm.Cond.methodLink "VersionedBlockLaw" (69 : Nat) ({ cls := "VersionedBlock", name := "result", desc := "(I)J" } : Jvm.MethodName)) ∈ TB := tb_2 (List.mem_of_getElem? (i := 129) rfl) rfl
theorem mw_2_130 : (Jvm.Cond.instanceMethod ({ cls := "VersionedBlock", name := "result", desc := "(I)J" } : Jvm.MethodName)) ∈ TB := tb_2 (List.mem_of_getElem? (i := 130) rfl) rfl
theorem mw_2_131 : (Jvm.Cond.selects "VersionedBlock" ({ cls := "VersionedBlock", name := "result", desc := "(I)J" } : Jvm.MethodName) ({ cls := "VersionedBlock", name := "result", desc := "(I)J" } : Jvm.MethodName)) ∈ TB := tb_2 (List.mem_of_getElem? (i := 131) rfl) rfl
theorem mw_2_132 : (Jvm.Cond.code ({ cls := "VersionedBlock", name := "result", desc := "(I)J" } : Jvm.MethodName) prog_1_method_12_code (3 : Nat) (Option.some Jvm.ClassFile.FieldType.long)) ∈ TB := tb_2 (List.mem_of_getElem? (i := 132) rfl) rfl
theorem mw_2_133 : (Jvm.Cond.methodLink "VersionedBlock" (96 : Nat) ({ cls := "VersionedBlock$Transaction", name := "tellResult", desc := "()J" } : Jvm.MethodName)) ∈ TB := tb_2 (List.mem_of_getElem? (i := 133) rfl) rfl
theorem mw_2_134 : (Jvm.Cond.instanceMethod ({ cls := "VersionedBlock$Transaction", name := "tellResult", desc := "()J" } : Jvm.MethodName)) ∈ TB := tb_2 (List.mem_of_getElem? (i := 134) rfl) rfl
theorem mw_2_135 : (Jvm.Cond.selects "VersionedBlock$Transaction" ({ cls := "VersionedBlock$Transaction", name := "tellResult", desc := "()J" } : Jvm.MethodName) ({ cls := "VersionedBlock$Transaction", name := "tellResult", desc := "()J" } : Jvm.MethodName)) ∈ TB := tb_2 (List.mem_of_getElem? (i := 135) rfl) rfl
theorem mw_2_136 : (Jvm.Cond.code ({ cls := "VersionedBlock$Transaction", name := "tellResult", desc := "()J" } : Jvm.MethodName) prog_3_method_10_code (1 : Nat) (Option.some Jvm.ClassFile.FieldType.long)) ∈ TB := tb_2 (List.mem_of_getElem? (i := 136) rfl) rfl
theorem mw_2_137 : (Jvm.Cond.methodLink "VersionedBlockLaw" (9 : Nat) ({ cls := "VersionedBlockLaw", name := "cell", desc := "([II)I" } : Jvm.MethodName)) ∈ TB := tb_2 (List.mem_of_getElem? (i := 137) rfl) rfl
theorem mw_2_138 : (Jvm.Cond.static ({ cls := "VersionedBlockLaw", name := "cell", desc := "([II)I" } : Jvm.MethodName)) ∈ TB := tb_2 (List.mem_of_getElem? (i := 138) rfl) rfl
theorem mw_2_139 : (Jvm.Cond.code ({ cls := "VersionedBlockLaw", name := "cell", desc := "([II)I" } : Jvm.MethodName) method_2_code (2 : Nat) (Option.some Jvm.ClassFile.FieldType.int)) ∈ TB := tb_2 (List.mem_of_getElem? (i := 139) rfl) rfl
theorem mw_2_140 : (Jvm.Cond.classLink "VersionedBlockLaw" (18 : Nat) "VersionedBlockModel") ∈ TB := tb_2 (List.mem_of_getElem? (i := 140) rfl) rfl
theorem mw_2_141 : (Jvm.Cond.instantiable "VersionedBlockModel" (15 : Nat)) ∈ TB := tb_2 (List.mem_of_getElem? (i := 141) rfl) rfl
theorem mw_2_142 : (Jvm.Cond.methodLink "VersionedBlockLaw" (20 : Nat) ({ cls := "VersionedBlockModel", name := "<init>", desc := "(I)V" } : Jvm.MethodName)) ∈ TB := tb_2 (List.mem_of_getElem? (i := 142) rfl) rfl
theorem mw_2_143 : (Jvm.Cond.instanceMethod ({ cls := "VersionedBlockModel", name := "<init>", desc := "(I)V" } : Jvm.MethodName)) ∈ TB := tb_2 (List.mem_of_getElem? (i := 143) rfl) rfl
theorem mw_2_144 : (Jvm.Cond.code ({ cls := "VersionedBlockModel", name := "<init>", desc := "(I)V" } : Jvm.MethodName) prog_7_method_1_code (2 : Nat) (Option.none : Option Jvm.ClassFile.FieldType)) ∈ TB := tb_2 (List.mem_of_getElem? (i := 144) rfl) rfl
theorem mw_2_145 : (Jvm.Cond.methodLink "VersionedBlockModel" (1 : Nat) ({ cls := "java/lang/Object", name := "<init>", desc := "()V" } : Jvm.MethodName)) ∈ TB := tb_2 (List.mem_of_getElem? (i := 145) rfl) rfl
theorem mw_2_146 : (Jvm.Cond.fieldLink "VersionedBlockModel" (7 : Nat) "VersionedBlockModel" "places" "[J") ∈ TB := tb_2 (List.mem_of_getElem? (i := 146) rfl) rfl
theorem mw_2_147 : (Jvm.Cond.fieldLink "VersionedBlockModel" (13 : Nat) "VersionedBlockModel" "stored" "[J") ∈ TB := tb_2 (List.mem_of_getElem? (i := 147) rfl) rfl
theorem mw_2_148 : (Jvm.Cond.fieldLink "VersionedBlockModel" (16 : Nat) "VersionedBlockModel" "isStored" "[Z") ∈ TB := tb_2 (List.mem_of_getElem? (i := 148) rfl) rfl
theorem mw_2_149 : (Jvm.Cond.fieldLink "VersionedBlockModel" (50 : Nat) "VersionedBlockModel" "count" "I") ∈ TB := tb_2 (List.mem_of_getElem? (i := 149) rfl) rfl
theorem mw_2_150 : (Jvm.Cond.fieldLink "VersionedBlockModel" (20 : Nat) "VersionedBlockModel" "sizes" "[I") ∈ TB := tb_2 (List.mem_of_getElem? (i := 150) rfl) rfl
theorem mw_2_151 : (Jvm.Cond.fieldLink "VersionedBlockModel" (24 : Nat) "VersionedBlockModel" "operations" "[B") ∈ TB := tb_2 (List.mem_of_getElem? (i := 151) rfl) rfl
theorem mw_2_152 : (Jvm.Cond.fieldLink "VersionedBlockModel" (28 : Nat) "VersionedBlockModel" "firsts" "[I") ∈ TB := tb_2 (List.mem_of_getElem? (i := 152) rfl) rfl
theorem mw_2_153 : (Jvm.Cond.fieldLink "VersionedBlockModel" (31 : Nat) "VersionedBlockModel" "seconds" "[J") ∈ TB := tb_2 (List.mem_of_getElem? (i := 153) rfl) rfl
theorem mw_2_154 : (Jvm.Cond.fieldLink "VersionedBlockModel" (60 : Nat) "VersionedBlockModel" "woven" "I") ∈ TB := tb_2 (List.mem_of_getElem? (i := 154) rfl) rfl
theorem mw_2_155 : (Jvm.Cond.fieldLink "VersionedBlockModel" (34 : Nat) "VersionedBlockModel" "registers" "[J") ∈ TB := tb_2 (List.mem_of_getElem? (i := 155) rfl) rfl
theorem mw_2_156 : (Jvm.Cond.fieldLink "VersionedBlockModel" (71 : Nat) "VersionedBlockModel" "next" "I") ∈ TB := tb_2 (List.mem_of_getElem? (i := 156) rfl) rfl
theorem mw_2_157 : (Jvm.Cond.fieldLink "VersionedBlockModel" (37 : Nat) "VersionedBlockModel" "isTold" "[Z") ∈ TB := tb_2 (List.mem_of_getElem? (i := 157) rfl) rfl
theorem mw_2_158 : (Jvm.Cond.fieldLink "VersionedBlockModel" (40 : Nat) "VersionedBlockModel" "told" "[I") ∈ TB := tb_2 (List.mem_of_getElem? (i := 158) rfl) rfl
theorem mw_2_159 : (Jvm.Cond.fieldLink "VersionedBlockModel" (43 : Nat) "VersionedBlockModel" "results" "[J") ∈ TB := tb_2 (List.mem_of_getElem? (i := 159) rfl) rfl
theorem mw_2_160 : (Jvm.Cond.fieldLink "VersionedBlockModel" (78 : Nat) "VersionedBlockModel" "loads" "I") ∈ TB := tb_2 (List.mem_of_getElem? (i := 160) rfl) rfl
theorem mw_2_161 : (Jvm.Cond.laysFinal "VersionedBlockModel" "VersionedBlockModel" "places" "[J") ∈ TB := tb_2 (List.mem_of_getElem? (i := 161) rfl) rfl
theorem mw_2_163 : (Jvm.Cond.laysFinal "VersionedBlockModel" "VersionedBlockModel" "stored" "[J") ∈ TB := tb_2 (List.mem_of_getElem? (i := 163) rfl) rfl
theorem mw_2_165 : (Jvm.Cond.laysFinal "VersionedBlockModel" "VersionedBlockModel" "isStored" "[Z") ∈ TB := tb_2 (List.mem_of_getElem? (i := 165) rfl) rfl
theorem mw_2_167 : (Jvm.Cond.lays "VersionedBlockModel" "VersionedBlockModel" "count" "I") ∈ TB := tb_2 (List.mem_of_getElem? (i := 167) rfl) rfl
theorem mw_2_169 : (Jvm.Cond.laysFinal "VersionedBlockModel" "VersionedBlockModel" "sizes" "[I") ∈ TB := tb_2 (List.mem_of_getElem? (i := 169) rfl) rfl
theorem mw_2_171 : (Jvm.Cond.laysFinal "VersionedBlockModel" "VersionedBlockModel" "operations" "[B") ∈ TB := tb_2 (List.mem_of_getElem? (i := 171) rfl) rfl
theorem mw_2_173 : (Jvm.Cond.laysFinal "VersionedBlockModel" "VersionedBlockModel" "firsts" "[I") ∈ TB := tb_2 (List.mem_of_getElem? (i := 173) rfl) rfl
theorem mw_2_175 : (Jvm.Cond.laysFinal "VersionedBlockModel" "VersionedBlockModel" "seconds" "[J") ∈ TB := tb_2 (List.mem_of_getElem? (i := 175) rfl) rfl
theorem mw_2_177 : (Jvm.Cond.lays "VersionedBlockModel" "VersionedBlockModel" "woven" "I") ∈ TB := tb_2 (List.mem_of_getElem? (i := 177) rfl) rfl
theorem mw_2_179 : (Jvm.Cond.laysFinal "VersionedBlockModel" "VersionedBlockModel" "registers" "[J") ∈ TB := tb_2 (List.mem_of_getElem? (i := 179) rfl) rfl
theorem mw_2_181 : (Jvm.Cond.lays "VersionedBlockModel" "VersionedBlockModel" "next" "I") ∈ TB := tb_2 (List.mem_of_getElem? (i := 181) rfl) rfl
theorem mw_2_183 : (Jvm.Cond.laysFinal "VersionedBlockModel" "VersionedBlockModel" "isTold" "[Z") ∈ TB := tb_2 (List.mem_of_getElem? (i := 183) rfl) rfl
theorem mw_2_185 : (Jvm.Cond.laysFinal "VersionedBlockModel" "VersionedBlockModel" "told" "[I") ∈ TB := tb_2 (List.mem_of_getElem? (i := 185) rfl) rfl
theorem mw_2_187 : (Jvm.Cond.laysFinal "VersionedBlockModel" "VersionedBlockModel" "results" "[J") ∈ TB := tb_2 (List.mem_of_getElem? (i := 187) rfl) rfl
theorem mw_2_189 : (Jvm.Cond.lays "VersionedBlockModel" "VersionedBlockModel" "loads" "I") ∈ TB := tb_2 (List.mem_of_getElem? (i := 189) rfl) rfl
theorem mw_2_192 : (Jvm.Cond.arrayClass Jvm.ClassFile.FieldType.byte) ∈ TB := tb_2 (List.mem_of_getElem? (i := 192) rfl) rfl
theorem mw_2_193 : (Jvm.Cond.methodLink "VersionedBlockLaw" (27 : Nat) ({ cls := "VersionedBlockModel", name := "put", desc := "(IJ)Z" } : Jvm.MethodName)) ∈ TB := tb_2 (List.mem_of_getElem? (i := 193) rfl) rfl
theorem mw_2_194 : (Jvm.Cond.instanceMethod ({ cls := "VersionedBlockModel", name := "put", desc := "(IJ)Z" } : Jvm.MethodName)) ∈ TB := tb_2 (List.mem_of_getElem? (i := 194) rfl) rfl
theorem mw_2_195 : (Jvm.Cond.selects "VersionedBlockModel" ({ cls := "VersionedBlockModel", name := "put", desc := "(IJ)Z" } : Jvm.MethodName) ({ cls := "VersionedBlockModel", name := "put", desc := "(IJ)Z" } : Jvm.MethodName)) ∈ TB := tb_2 (List.mem_of_getElem? (i := 195) rfl) rfl
theorem mw_2_196 : (Jvm.Cond.code ({ cls := "VersionedBlockModel", name := "put", desc := "(IJ)Z" } : Jvm.MethodName) prog_7_method_3_code (4 : Nat) (Option.some Jvm.ClassFile.FieldType.boolean)) ∈ TB := tb_2 (List.mem_of_getElem? (i := 196) rfl) rfl
theorem mw_2_197 : (Jvm.Cond.methodLink "VersionedBlockModel" (46 : Nat) ({ cls := "VersionedBlockModel", name := "isPlace", desc := "(I)Z" } : Jvm.MethodName)) ∈ TB := tb_2 (List.mem_of_getElem? (i := 197) rfl) rfl
theorem mw_2_198 : (Jvm.Cond.static ({ cls := "VersionedBlockModel", name := "isPlace", desc := "(I)Z" } : Jvm.MethodName)) ∈ TB := tb_2 (List.mem_of_getElem? (i := 198) rfl) rfl
theorem mw_2_199 : (Jvm.Cond.code ({ cls := "VersionedBlockModel", name := "isPlace", desc := "(I)Z" } : Jvm.MethodName) prog_7_method_2_code (1 : Nat) (Option.some Jvm.ClassFile.FieldType.boolean)) ∈ TB := tb_2 (List.mem_of_getElem? (i := 199) rfl) rfl
theorem mw_2_200 : (Jvm.Cond.methodLink "VersionedBlockLaw" (32 : Nat) ({ cls := "VersionedBlockModel", name := "get", desc := "(I)J" } : Jvm.MethodName)) ∈ TB := tb_2 (List.mem_of_getElem? (i := 200) rfl) rfl
theorem mw_2_201 : (Jvm.Cond.instanceMethod ({ cls := "VersionedBlockModel", name := "get", desc := "(I)J" } : Jvm.MethodName)) ∈ TB := tb_2 (List.mem_of_getElem? (i := 201) rfl) rfl
theorem mw_2_202 : (Jvm.Cond.selects "VersionedBlockModel" ({ cls := "VersionedBlockModel", name := "get", desc := "(I)J" } : Jvm.MethodName) ({ cls := "VersionedBlockModel", name := "get", desc := "(I)J" } : Jvm.MethodName)) ∈ TB := tb_2 (List.mem_of_getElem? (i := 202) rfl) rfl
theorem mw_2_203 : (Jvm.Cond.code ({ cls := "VersionedBlockModel", name := "get", desc := "(I)J" } : Jvm.MethodName) prog_7_method_4_code (2 : Nat) (Option.some Jvm.ClassFile.FieldType.long)) ∈ TB := tb_2 (List.mem_of_getElem? (i := 203) rfl) rfl
theorem mw_2_204 : (Jvm.Cond.methodLink "VersionedBlockLaw" (37 : Nat) ({ cls := "VersionedBlockModel", name := "begin", desc := "()I" } : Jvm.MethodName)) ∈ TB := tb_2 (List.mem_of_getElem? (i := 204) rfl) rfl
theorem mw_2_205 : (Jvm.Cond.instanceMethod ({ cls := "VersionedBlockModel", name := "begin", desc := "()I" } : Jvm.MethodName)) ∈ TB := tb_2 (List.mem_of_getElem? (i := 205) rfl) rfl
theorem mw_2_206 : (Jvm.Cond.selects "VersionedBlockModel" ({ cls := "VersionedBlockModel", name := "begin", desc := "()I" } : Jvm.MethodName) ({ cls := "VersionedBlockModel", name := "begin", desc := "()I" } : Jvm.MethodName)) ∈ TB := tb_2 (List.mem_of_getElem? (i := 206) rfl) rfl
theorem mw_2_207 : (Jvm.Cond.code ({ cls := "VersionedBlockModel", name := "begin", desc := "()I" } : Jvm.MethodName) prog_7_method_5_code (2 : Nat) (Option.some Jvm.ClassFile.FieldType.int)) ∈ TB := tb_2 (List.mem_of_getElem? (i := 207) rfl) rfl
theorem mw_2_208 : (Jvm.Cond.methodLink "VersionedBlockLaw" (41 : Nat) ({ cls := "VersionedBlockModel", name := "transaction", desc := "()I" } : Jvm.MethodName)) ∈ TB := tb_2 (List.mem_of_getElem? (i := 208) rfl) rfl
theorem mw_2_209 : (Jvm.Cond.instanceMethod ({ cls := "VersionedBlockModel", name := "transaction", desc := "()I" } : Jvm.MethodName)) ∈ TB := tb_2 (List.mem_of_getElem? (i := 209) rfl) rfl
theorem mw_2_210 : (Jvm.Cond.selects "VersionedBlockModel" ({ cls := "VersionedBlockModel", name := "transaction", desc := "()I" } : Jvm.MethodName) ({ cls := "VersionedBlockModel", name := "transaction", desc := "()I" } : Jvm.MethodName)) ∈ TB := tb_2 (List.mem_of_getElem? (i := 210) rfl) rfl
theorem mw_2_211 : (Jvm.Cond.code ({ cls := "VersionedBlockModel", name := "transaction", desc := "()I" } : Jvm.MethodName) prog_7_method_6_code (1 : Nat) (Option.some Jvm.ClassFile.FieldType.int)) ∈ TB := tb_2 (List.mem_of_getElem? (i := 211) rfl) rfl
theorem mw_2_212 : (Jvm.Cond.methodLink "VersionedBlockLaw" (46 : Nat) ({ cls := "VersionedBlockModel", name := "instruction", desc := "(IIJ)I" } : Jvm.MethodName)) ∈ TB := tb_2 (List.mem_of_getElem? (i := 212) rfl) rfl
theorem mw_2_213 : (Jvm.Cond.instanceMethod ({ cls := "VersionedBlockModel", name := "instruction", desc := "(IIJ)I" } : Jvm.MethodName)) ∈ TB := tb_2 (List.mem_of_getElem? (i := 213) rfl) rfl
theorem mw_2_214 : (Jvm.Cond.selects "VersionedBlockModel" ({ cls := "VersionedBlockModel", name := "instruction", desc := "(IIJ)I" } : Jvm.MethodName) ({ cls := "VersionedBlockModel", name := "instruction", desc := "(IIJ)I" } : Jvm.MethodName)) ∈ TB := tb_2 (List.mem_of_getElem? (i := 214) rfl) rfl
theorem mw_2_215 : (Jvm.Cond.code ({ cls := "VersionedBlockModel", name := "instruction", desc := "(IIJ)I" } : Jvm.MethodName) prog_7_method_7_code (7 : Nat) (Option.some Jvm.ClassFile.FieldType.int)) ∈ TB := tb_2 (List.mem_of_getElem? (i := 215) rfl) rfl
theorem mw_2_216 : (Jvm.Cond.methodLink "VersionedBlockModel" (54 : Nat) ({ cls := "java/lang/Math", name := "floorMod", desc := "(II)I" } : Jvm.MethodName)) ∈ TB := tb_2 (List.mem_of_getElem? (i := 216) rfl) rfl
theorem mw_2_217 : (Jvm.Cond.methodLink "VersionedBlockLaw" (51 : Nat) ({ cls := "VersionedBlockModel", name := "weave", desc := "(J)I" } : Jvm.MethodName)) ∈ TB := tb_2 (List.mem_of_getElem? (i := 217) rfl) rfl
theorem mw_2_218 : (Jvm.Cond.instanceMethod ({ cls := "VersionedBlockModel", name := "weave", desc := "(J)I" } : Jvm.MethodName)) ∈ TB := tb_2 (List.mem_of_getElem? (i := 218) rfl) rfl
theorem mw_2_219 : (Jvm.Cond.selects "VersionedBlockModel" ({ cls := "VersionedBlockModel", name := "weave", desc := "(J)I" } : Jvm.MethodName) ({ cls := "VersionedBlockModel", name := "weave", desc := "(J)I" } : Jvm.MethodName)) ∈ TB := tb_2 (List.mem_of_getElem? (i := 219) rfl) rfl
theorem mw_2_220 : (Jvm.Cond.code ({ cls := "VersionedBlockModel", name := "weave", desc := "(J)I" } : Jvm.MethodName) prog_7_method_8_code (3 : Nat) (Option.some Jvm.ClassFile.FieldType.int)) ∈ TB := tb_2 (List.mem_of_getElem? (i := 220) rfl) rfl
theorem mw_2_221 : (Jvm.Cond.constant "VersionedBlockModel" (63 : Nat) (65536 : Int32)) ∈ TB := tb_2 (List.mem_of_getElem? (i := 221) rfl) rfl
theorem mw_2_222 : (Jvm.Cond.methodLink "VersionedBlockLaw" (55 : Nat) ({ cls := "VersionedBlockModel", name := "unweave", desc := "()I" } : Jvm.MethodName)) ∈ TB := tb_2 (List.mem_of_getElem? (i := 222) rfl) rfl
theorem mw_2_223 : (Jvm.Cond.instanceMethod ({ cls := "VersionedBlockModel", name := "unweave", desc := "()I" } : Jvm.MethodName)) ∈ TB := tb_2 (List.mem_of_getElem? (i := 223) rfl) rfl
theorem mw_2_224 : (Jvm.Cond.selects "VersionedBlockModel" ({ cls := "VersionedBlockModel", name := "unweave", desc := "()I" } : Jvm.MethodName) ({ cls := "VersionedBlockModel", name := "unweave", desc := "()I" } : Jvm.MethodName)) ∈ TB := tb_2 (List.mem_of_getElem? (i := 224) rfl) rfl
theorem mw_2_225 : (Jvm.Cond.code ({ cls := "VersionedBlockModel", name := "unweave", desc := "()I" } : Jvm.MethodName) prog_7_method_9_code (2 : Nat) (Option.some Jvm.ClassFile.FieldType.int)) ∈ TB := tb_2 (List.mem_of_getElem? (i := 225) rfl) rfl
theorem mw_2_226 : (Jvm.Cond.methodLink "VersionedBlockLaw" (59 : Nat) ({ cls := "VersionedBlockModel", name := "execute", desc := "()I" } : Jvm.MethodName)) ∈ TB := tb_2 (List.mem_of_getElem? (i := 226) rfl) rfl
theorem mw_2_227 : (Jvm.Cond.instanceMethod ({ cls := "VersionedBlockModel", name := "execute", desc := "()I" } : Jvm.MethodName)) ∈ TB := tb_2 (List.mem_of_getElem? (i := 227) rfl) rfl
theorem mw_2_228 : (Jvm.Cond.selects "VersionedBlockModel" ({ cls := "VersionedBlockModel", name := "execute", desc := "()I" } : Jvm.MethodName) ({ cls := "VersionedBlockModel", name := "execute", desc := "()I" } : Jvm.MethodName)) ∈ TB := tb_2 (List.mem_of_getElem? (i := 228) rfl) rfl
theorem mw_2_229 : (Jvm.Cond.code ({ cls := "VersionedBlockModel", name := "execute", desc := "()I" } : Jvm.MethodName) prog_7_method_13_code (3 : Nat) (Option.some Jvm.ClassFile.FieldType.int)) ∈ TB := tb_2 (List.mem_of_getElem? (i := 229) rfl) rfl
theorem mw_2_230 : (Jvm.Cond.methodLink "VersionedBlockModel" (87 : Nat) ({ cls := "VersionedBlockModel", name := "all", desc := "(I)I" } : Jvm.MethodName)) ∈ TB := tb_2 (List.mem_of_getElem? (i := 230) rfl) rfl
theorem mw_2_232 : (Jvm.Cond.instanceMethod ({ cls := "VersionedBlockModel", name := "all", desc := "(I)I" } : Jvm.MethodName)) ∈ TB := tb_2 (List.mem_of_getElem? (i := 232) rfl) rfl
theorem mw_2_233 : (Jvm.Cond.code ({ cls := "VersionedBlockModel", name := "all", desc := "(I)I" } : Jvm.MethodName) prog_7_method_12_code (6 : Nat) (Option.some Jvm.ClassFile.FieldType.int)) ∈ TB := tb_2 (List.mem_of_getElem? (i := 233) rfl) rfl
theorem mw_2_234 : (Jvm.Cond.methodLink "VersionedBlockModel" (83 : Nat) ({ cls := "VersionedBlockModel", name := "one", desc := "(I)I" } : Jvm.MethodName)) ∈ TB := tb_2 (List.mem_of_getElem? (i := 234) rfl) rfl
theorem mw_2_236 : (Jvm.Cond.instanceMethod ({ cls := "VersionedBlockModel", name := "one", desc := "(I)I" } : Jvm.MethodName)) ∈ TB := tb_2 (List.mem_of_getElem? (i := 236) rfl) rfl
theorem mw_2_237 : (Jvm.Cond.code ({ cls := "VersionedBlockModel", name := "one", desc := "(I)I" } : Jvm.MethodName) prog_7_method_11_code (6 : Nat) (Option.some Jvm.ClassFile.FieldType.int)) ∈ TB := tb_2 (List.mem_of_getElem? (i := 237) rfl) rfl
theorem mw_2_238 : (Jvm.Cond.constantLong "VersionedBlockModel" (69 : Nat) (8 : Int64)) ∈ TB := tb_2 (List.mem_of_getElem? (i := 238) rfl) rfl
theorem mw_2_239 : (Jvm.Cond.methodLink "VersionedBlockModel" (66 : Nat) ({ cls := "java/lang/Math", name := "floorMod", desc := "(JJ)J" } : Jvm.MethodName)) ∈ TB := tb_2 (List.mem_of_getElem? (i := 239) rfl) rfl
theorem mw_3_0 : (Jvm.Cond.static ({ cls := "java/lang/Math", name := "floorMod", desc := "(JJ)J" } : Jvm.MethodName)) ∈ TB := tb_3 (List.mem_of_getElem? (i := 0) rfl) rfl
theorem mw_3_1 : (Jvm.Cond.code ({ cls := "java/lang/Math", name := "floorMod", desc := "(JJ)J" } : Jvm.MethodName) prog_9_method_52_code (6 : Nat) (Option.some Jvm.ClassFile.FieldType.long)) ∈ TB := tb_3 (List.mem_of_getElem? (i := 1) rfl) rfl
theorem mw_3_2 : (Jvm.Cond.methodLink "VersionedBlockModel" (74 : Nat) ({ cls := "VersionedBlockModel", name := "placeOf", desc := "(J)I" } : Jvm.MethodName)) ∈ TB := tb_3 (List.mem_of_getElem? (i := 2) rfl) rfl
theorem mw_3_3 : (Jvm.Cond.static ({ cls := "VersionedBlockModel", name := "placeOf", desc := "(J)I" } : Jvm.MethodName)) ∈ TB := tb_3 (List.mem_of_getElem? (i := 3) rfl) rfl
theorem mw_3_4 : (Jvm.Cond.code ({ cls := "VersionedBlockModel", name := "placeOf", desc := "(J)I" } : Jvm.MethodName) prog_7_method_10_code (2 : Nat) (Option.some Jvm.ClassFile.FieldType.int)) ∈ TB := tb_3 (List.mem_of_getElem? (i := 4) rfl) rfl
theorem mw_3_5 : (Jvm.Cond.constantLong "VersionedBlockModel" (64 : Nat) (256 : Int64)) ∈ TB := tb_3 (List.mem_of_getElem? (i := 5) rfl) rfl
theorem mw_3_6 : (Jvm.Cond.constantLong "VersionedBlockModel" (81 : Nat) (32 : Int64)) ∈ TB := tb_3 (List.mem_of_getElem? (i := 6) rfl) rfl
theorem mw_3_7 : (Jvm.Cond.methodLink "VersionedBlockLaw" (63 : Nat) ({ cls := "VersionedBlockModel", name := "count", desc := "()I" } : Jvm.MethodName)) ∈ TB := tb_3 (List.mem_of_getElem? (i := 7) rfl) rfl
theorem mw_3_8 : (Jvm.Cond.instanceMethod ({ cls := "VersionedBlockModel", name := "count", desc := "()I" } : Jvm.MethodName)) ∈ TB := tb_3 (List.mem_of_getElem? (i := 8) rfl) rfl
theorem mw_3_9 : (Jvm.Cond.selects "VersionedBlockModel" ({ cls := "VersionedBlockModel", name := "count", desc := "()I" } : Jvm.MethodName) ({ cls := "VersionedBlockModel", name := "count", desc := "()I" } : Jvm.MethodName)) ∈ TB := tb_3 (List.mem_of_getElem? (i := 9) rfl) rfl
theorem mw_3_10 : (Jvm.Cond.code ({ cls := "VersionedBlockModel", name := "count", desc := "()I" } : Jvm.MethodName) prog_7_method_14_code (1 : Nat) (Option.some Jvm.ClassFile.FieldType.int)) ∈ TB := tb_3 (List.mem_of_getElem? (i := 10) rfl) rfl
theorem mw_3_11 : (Jvm.Cond.methodLink "VersionedBlockLaw" (68 : Nat) ({ cls := "VersionedBlockModel", name := "told", desc := "(II)I" } : Jvm.MethodName)) ∈ TB := tb_3 (List.mem_of_getElem? (i := 11) rfl) rfl
theorem mw_3_12 : (Jvm.Cond.instanceMethod ({ cls := "VersionedBlockModel", name := "told", desc := "(II)I" } : Jvm.MethodName)) ∈ TB := tb_3 (List.mem_of_getElem? (i := 12) rfl) rfl
theorem mw_3_13 : (Jvm.Cond.selects "VersionedBlockModel" ({ cls := "VersionedBlockModel", name := "told", desc := "(II)I" } : Jvm.MethodName) ({ cls := "VersionedBlockModel", name := "told", desc := "(II)I" } : Jvm.MethodName)) ∈ TB := tb_3 (List.mem_of_getElem? (i := 13) rfl) rfl
theorem mw_3_14 : (Jvm.Cond.code ({ cls := "VersionedBlockModel", name := "told", desc := "(II)I" } : Jvm.MethodName) prog_7_method_15_code (3 : Nat) (Option.some Jvm.ClassFile.FieldType.int)) ∈ TB := tb_3 (List.mem_of_getElem? (i := 14) rfl) rfl
theorem mw_3_15 : (Jvm.Cond.methodLink "VersionedBlockLaw" (72 : Nat) ({ cls := "VersionedBlockModel", name := "result", desc := "(I)J" } : Jvm.MethodName)) ∈ TB := tb_3 (List.mem_of_getElem? (i := 15) rfl) rfl
theorem mw_3_16 : (Jvm.Cond.instanceMethod ({ cls := "VersionedBlockModel", name := "result", desc := "(I)J" } : Jvm.MethodName)) ∈ TB := tb_3 (List.mem_of_getElem? (i := 16) rfl) rfl
theorem mw_3_17 : (Jvm.Cond.selects "VersionedBlockModel" ({ cls := "VersionedBlockModel", name := "result", desc := "(I)J" } : Jvm.MethodName) ({ cls := "VersionedBlockModel", name := "result", desc := "(I)J" } : Jvm.MethodName)) ∈ TB := tb_3 (List.mem_of_getElem? (i := 17) rfl) rfl
theorem mw_3_18 : (Jvm.Cond.code ({ cls := "VersionedBlockModel", name := "result", desc := "(I)J" } : Jvm.MethodName) prog_7_method_16_code (2 : Nat) (Option.some Jvm.ClassFile.FieldType.long)) ∈ TB := tb_3 (List.mem_of_getElem? (i := 18) rfl) rfl
theorem mw_3_19 : (Jvm.Cond.constantLong "VersionedBlockLaw" (21 : Nat) (4294967295 : Int64)) ∈ TB := tb_3 (List.mem_of_getElem? (i := 19) rfl) rfl
/-! the links among nest mates -/
abbrev nw_0 : Cond := (Jvm.Cond.methodLinkNest "VersionedBlock" (21 : Nat) ({ cls := "VersionedBlock$Weave", name := "<init>", desc := "()V" } : Jvm.MethodName) "VersionedBlock")
abbrev nw_1 : Cond := (Jvm.Cond.methodLinkNest "VersionedBlock" (49 : Nat) ({ cls := "VersionedBlock$Transaction", name := "<init>", desc := "()V" } : Jvm.MethodName) "VersionedBlock")
abbrev nw_2 : Cond := (Jvm.Cond.methodLinkNest "VersionedBlock$Transaction" (30 : Nat) ({ cls := "VersionedBlock", name := "registerOf", desc := "(J)I" } : Jvm.MethodName) "VersionedBlock")
abbrev nw_3 : Cond := (Jvm.Cond.methodLinkNest "VersionedBlock" (125 : Nat) ({ cls := "VersionedBlock$Worker", name := "<init>", desc := "()V" } : Jvm.MethodName) "VersionedBlock")
abbrev nw_4 : Cond := (Jvm.Cond.methodLinkNest "VersionedBlock$Worker" (17 : Nat) ({ cls := "VersionedBlock$Draft", name := "<init>", desc := "()V" } : Jvm.MethodName) "VersionedBlock")
abbrev nw_5 : Cond := (Jvm.Cond.methodLinkNest "VersionedBlock$Worker" (75 : Nat) ({ cls := "VersionedBlock", name := "registerOf", desc := "(J)I" } : Jvm.MethodName) "VersionedBlock")
abbrev nw_6 : Cond := (Jvm.Cond.methodLinkNest "VersionedBlock$Worker" (82 : Nat) ({ cls := "VersionedBlock", name := "placeOf", desc := "(J)I" } : Jvm.MethodName) "VersionedBlock")
def kN (U : State) : Prop := va_Nw nw_0 U ∧ va_Nw nw_1 U ∧ va_Nw nw_2 U ∧ va_Nw nw_3 U ∧ va_Nw nw_4 U ∧ va_Nw nw_5 U ∧ va_Nw nw_6 U ∧ va_AO "VersionedBlock$Transaction" U ∧ va_AO "VersionedBlock$Worker" U
theorem kN_warm {s U : State} (hW : s.WarmedH U.vm) (h : kN s) : kN U := by
  obtain ⟨a0, a1, a2, a3, a4, a5, a6, b0, b1⟩ := h
  exact ⟨va_Nw.warmM hW a0, va_Nw.warmM hW a1, va_Nw.warmM hW a2, va_Nw.warmM hW a3, va_Nw.warmM hW a4, va_Nw.warmM hW a5, va_Nw.warmM hW a6, b0.moved hW.alike, b1.moved hW.alike⟩
theorem kN_same {s U : State} (hv : s.vm = U.vm) (h : kN s) : kN U := by
  obtain ⟨a0, a1, a2, a3, a4, a5, a6, b0, b1⟩ := h
  exact ⟨va_Nw.same rfl hv a0, va_Nw.same rfl hv a1, va_Nw.same rfl hv a2, va_Nw.same rfl hv a3, va_Nw.same rfl hv a4, va_Nw.same rfl hv a5, va_Nw.same rfl hv a6, b0.moved (hv ▸ Vm.Alike.refl s.vm), b1.moved (hv ▸ Vm.Alike.refl s.vm)⟩
theorem kN_0 {U : State} (h : kN U) : va_Nw nw_0 U := h.1
theorem kN_1 {U : State} (h : kN U) : va_Nw nw_1 U := h.2.1
theorem kN_2 {U : State} (h : kN U) : va_Nw nw_2 U := h.2.2.1
theorem kN_3 {U : State} (h : kN U) : va_Nw nw_3 U := h.2.2.2.1
theorem kN_4 {U : State} (h : kN U) : va_Nw nw_4 U := h.2.2.2.2.1
theorem kN_5 {U : State} (h : kN U) : va_Nw nw_5 U := h.2.2.2.2.2.1
theorem kN_6 {U : State} (h : kN U) : va_Nw nw_6 U := h.2.2.2.2.2.2.1
theorem kN_aT {U : State} (h : kN U) : va_AO "VersionedBlock$Transaction" U := h.2.2.2.2.2.2.2.1
theorem kN_aW {U : State} (h : kN U) : va_AO "VersionedBlock$Worker" U := h.2.2.2.2.2.2.2.2
theorem kN_lw {s : State} {args : Array Value} (hts : ∀ w ∈ lw_tbl, w.before args s = true) : kN s := ⟨va_Nw.of rfl (hts _ (List.mem_append_right _ (List.mem_append_left _ (List.mem_of_getElem? (i := 22) rfl)))), va_Nw.of rfl (hts _ (List.mem_append_right _ (List.mem_append_left _ (List.mem_of_getElem? (i := 87) rfl)))), va_Nw.of rfl (hts _ (List.mem_append_right _ (List.mem_append_left _ (List.mem_of_getElem? (i := 139) rfl)))), va_Nw.of rfl (hts _ (List.mem_append_right _ (List.mem_append_left _ (List.mem_of_getElem? (i := 202) rfl)))), va_Nw.of rfl (hts _ (List.mem_append_right _ (List.mem_append_left _ (List.mem_of_getElem? (i := 208) rfl)))), va_Nw.of rfl (hts _ (List.mem_append_right _ (List.mem_append_right _ (List.mem_append_left _ (List.mem_of_getElem? (i := 55) rfl))))), va_Nw.of rfl (hts _ (List.mem_append_right _ (List.mem_append_right _ (List.mem_append_left _ (List.mem_of_getElem? (i := 60) rfl))))), va_AO.of (hts _ (List.mem_append_right _ (List.mem_append_left _ (List.mem_of_getElem? (i := 19) rfl)))), va_AO.of (hts _ (List.mem_append_right _ (List.mem_append_left _ (List.mem_of_getElem? (i := 41) rfl))))⟩
/-! names, fields, methods -/
def T_Dr : u_T := fun k => match k with
  | 0 => ("VersionedBlock$Draft", "numbers", "[J", true)
  | 1 => ("VersionedBlock$Draft", "kept", "[Z", true)
  | 2 => ("VersionedBlock$Draft", "order", "[I", true)
  | _ => ("VersionedBlock$Draft", "length", "I", false)
def t_Dr : Nat → FieldType := fun k => match k with
  | 0 => .array .long
  | 1 => .array .boolean
  | 2 => .array .int
  | _ => .int
theorem n_Dr : ∀ a, a < 4 → ∀ b, b < 4 → a ≠ b → (T_Dr a).2.1 ≠ (T_Dr b).2.1 := by decide +kernel
theorem t_Dr_ok : ∀ k, k < 4 → parseFieldDescriptor (T_Dr k).2.2.1 = some (t_Dr k) := by decide +kernel
theorem fs_Dr : ∀ j, j < 4 → defaultValue (t_Dr j) = vp_V [.null, .null, .null, .int 0] j := fun j hj => by
  rcases (show j = 0 ∨ j = 1 ∨ j = 2 ∨ j = 3 by omega) with rfl | rfl | rfl | rfl <;> rfl
theorem il_Dr : ∀ w ∈ u_ws "VersionedBlock$Draft" T_Dr 4, w ∈ TB := by
  intro w h
  obtain ⟨k, hk, rfl⟩ := List.mem_map.mp h
  have hk := List.mem_range.mp hk
  rcases (show k = 0 ∨ k = 1 ∨ k = 2 ∨ k = 3 by omega) with rfl | rfl | rfl | rfl
  · exact mw_1_216
  · exact mw_1_218
  · exact mw_1_220
  · exact mw_1_222
def T_Tr : u_T := fun k => match k with
  | 0 => ("VersionedBlock$Transaction", "operations", "[I", true)
  | 1 => ("VersionedBlock$Transaction", "firsts", "[I", true)
  | 2 => ("VersionedBlock$Transaction", "seconds", "[J", true)
  | 3 => ("VersionedBlock$Transaction", "length", "I", false)
  | 4 => ("VersionedBlock$Transaction", "known", "Z", false)
  | 5 => ("VersionedBlock$Transaction", "outcome", "I", false)
  | 6 => ("VersionedBlock$Transaction", "done", "I", false)
  | 7 => ("VersionedBlock$Transaction", "loads", "I", false)
  | 8 => ("VersionedBlock$Transaction", "stores", "I", false)
  | _ => ("VersionedBlock$Transaction", "lastResult", "J", false)
def t_Tr : Nat → FieldType := fun k => match k with
  | 0 => .array .int
  | 1 => .array .int
  | 2 => .array .long
  | 3 => .int
  | 4 => .boolean
  | 5 => .int
  | 6 => .int
  | 7 => .int
  | 8 => .int
  | _ => .long
theorem n_Tr : ∀ a, a < 10 → ∀ b, b < 10 → a ≠ b → (T_Tr a).2.1 ≠ (T_Tr b).2.1 := by decide +kernel
theorem t_Tr_ok : ∀ k, k < 10 → parseFieldDescriptor (T_Tr k).2.2.1 = some (t_Tr k) := by decide +kernel
theorem fs_Tr : ∀ j, j < 10 → defaultValue (t_Tr j) = vp_V [.null, .null, .null, .int 0, .int 0, .int 0, .int 0, .int 0, .int 0, .long 0] j := fun j hj => by
  rcases (show j = 0 ∨ j = 1 ∨ j = 2 ∨ j = 3 ∨ j = 4 ∨ j = 5 ∨ j = 6 ∨ j = 7 ∨ j = 8 ∨ j = 9 by omega) with rfl | rfl | rfl | rfl | rfl | rfl | rfl | rfl | rfl | rfl <;> rfl
theorem il_Tr : ∀ w ∈ u_ws "VersionedBlock$Transaction" T_Tr 10, w ∈ TB := by
  intro w h
  obtain ⟨k, hk, rfl⟩ := List.mem_map.mp h
  have hk := List.mem_range.mp hk
  rcases (show k = 0 ∨ k = 1 ∨ k = 2 ∨ k = 3 ∨ k = 4 ∨ k = 5 ∨ k = 6 ∨ k = 7 ∨ k = 8 ∨ k = 9 by omega) with rfl | rfl | rfl | rfl | rfl | rfl | rfl | rfl | rfl | rfl
  · exact mw_1_101
  · exact mw_1_103
  · exact mw_1_105
  · exact mw_1_107
  · exact mw_1_109
  · exact mw_1_111
  · exact mw_1_113
  · exact mw_1_115
  · exact mw_1_117
  · exact mw_1_119
def T_We : u_T := fun k => match k with
  | 0 => ("VersionedBlock$Weave", "words", "[J", false)
  | _ => ("VersionedBlock$Weave", "length", "I", false)
def t_We : Nat → FieldType := fun k => match k with
  | 0 => .array .long
  | _ => .int
theorem n_We : ∀ a, a < 2 → ∀ b, b < 2 → a ≠ b → (T_We a).2.1 ≠ (T_We b).2.1 := by decide +kernel
theorem t_We_ok : ∀ k, k < 2 → parseFieldDescriptor (T_We k).2.2.1 = some (t_We k) := by decide +kernel
theorem fs_We : ∀ j, j < 2 → defaultValue (t_We j) = vp_V [.null, .int 0] j := fun j hj => by
  rcases (show j = 0 ∨ j = 1 by omega) with rfl | rfl <;> rfl
theorem il_We : ∀ w ∈ u_ws "VersionedBlock$Weave" T_We 2, w ∈ TB := by
  intro w h
  obtain ⟨k, hk, rfl⟩ := List.mem_map.mp h
  have hk := List.mem_range.mp hk
  rcases (show k = 0 ∨ k = 1 by omega) with rfl | rfl
  · exact mw_1_28
  · exact mw_1_30
def T_Wk : u_T := fun k => match k with
  | 0 => ("VersionedBlock$Worker", "registers", "[J", true)
  | 1 => ("VersionedBlock$Worker", "seen", "LVersionedBlock$Draft;", true)
  | 2 => ("VersionedBlock$Worker", "stored", "LVersionedBlock$Draft;", true)
  | 3 => ("VersionedBlock$Worker", "task", "LVersionedBlock$Transaction;", false)
  | 4 => ("VersionedBlock$Worker", "taskNumber", "I", false)
  | 5 => ("VersionedBlock$Worker", "next", "I", false)
  | 6 => ("VersionedBlock$Worker", "done", "I", false)
  | 7 => ("VersionedBlock$Worker", "loads", "I", false)
  | _ => ("VersionedBlock$Worker", "outcome", "I", false)
def t_Wk : Nat → FieldType := fun k => match k with
  | 0 => .array .long
  | 1 => .object "VersionedBlock$Draft"
  | 2 => .object "VersionedBlock$Draft"
  | 3 => .object "VersionedBlock$Transaction"
  | 4 => .int
  | 5 => .int
  | 6 => .int
  | 7 => .int
  | _ => .int
theorem n_Wk : ∀ a, a < 9 → ∀ b, b < 9 → a ≠ b → (T_Wk a).2.1 ≠ (T_Wk b).2.1 := by decide +kernel
theorem t_Wk_ok : ∀ k, k < 9 → parseFieldDescriptor (T_Wk k).2.2.1 = some (t_Wk k) := by decide +kernel
theorem fs_Wk : ∀ j, j < 9 → defaultValue (t_Wk j) = vp_V [.null, .null, .null, .null, .int 0, .int 0, .int 0, .int 0, .int 0] j := fun j hj => by
  rcases (show j = 0 ∨ j = 1 ∨ j = 2 ∨ j = 3 ∨ j = 4 ∨ j = 5 ∨ j = 6 ∨ j = 7 ∨ j = 8 by omega) with rfl | rfl | rfl | rfl | rfl | rfl | rfl | rfl | rfl <;> rfl
theorem il_Wk : ∀ w ∈ u_ws "VersionedBlock$Worker" T_Wk 9, w ∈ TB := by
  intro w h
  obtain ⟨k, hk, rfl⟩ := List.mem_map.mp h
  have hk := List.mem_range.mp hk
  rcases (show k = 0 ∨ k = 1 ∨ k = 2 ∨ k = 3 ∨ k = 4 ∨ k = 5 ∨ k = 6 ∨ k = 7 ∨ k = 8 by omega) with rfl | rfl | rfl | rfl | rfl | rfl | rfl | rfl | rfl
  · exact mw_1_235
  · exact mw_1_237
  · exact mw_1_239
  · exact mw_2_1
  · exact mw_2_3
  · exact mw_2_5
  · exact mw_2_7
  · exact mw_2_9
  · exact mw_2_11
def T_Vb : u_T := fun k => match k with
  | 0 => ("VersionedBlock", "places", "[J", true)
  | 1 => ("VersionedBlock", "transactions", "[LVersionedBlock$Transaction;", true)
  | 2 => ("VersionedBlock", "team", "[LVersionedBlock$Worker;", true)
  | 3 => ("VersionedBlock", "woven", "LVersionedBlock$Weave;", true)
  | 4 => ("VersionedBlock", "size", "I", false)
  | 5 => ("VersionedBlock", "taken", "I", false)
  | 6 => ("VersionedBlock", "settled", "I", false)
  | _ => ("VersionedBlock", "halted", "I", false)
def t_Vb : Nat → FieldType := fun k => match k with
  | 0 => .array .long
  | 1 => .array (.object "VersionedBlock$Transaction")
  | 2 => .array (.object "VersionedBlock$Worker")
  | 3 => .object "VersionedBlock$Weave"
  | 4 => .int
  | 5 => .int
  | 6 => .int
  | _ => .int
theorem n_Vb : ∀ a, a < 8 → ∀ b, b < 8 → a ≠ b → (T_Vb a).2.1 ≠ (T_Vb b).2.1 := by decide +kernel
theorem t_Vb_ok : ∀ k, k < 8 → parseFieldDescriptor (T_Vb k).2.2.1 = some (t_Vb k) := by decide +kernel
theorem fs_Vb : ∀ j, j < 8 → defaultValue (t_Vb j) = vp_V [.null, .null, .null, .null, .int 0, .int 0, .int 0, .int 0] j := fun j hj => by
  rcases (show j = 0 ∨ j = 1 ∨ j = 2 ∨ j = 3 ∨ j = 4 ∨ j = 5 ∨ j = 6 ∨ j = 7 by omega) with rfl | rfl | rfl | rfl | rfl | rfl | rfl | rfl <;> rfl
theorem il_Vb : ∀ w ∈ u_ws "VersionedBlock" T_Vb 8, w ∈ TB := by
  intro w h
  obtain ⟨k, hk, rfl⟩ := List.mem_map.mp h
  have hk := List.mem_range.mp hk
  rcases (show k = 0 ∨ k = 1 ∨ k = 2 ∨ k = 3 ∨ k = 4 ∨ k = 5 ∨ k = 6 ∨ k = 7 by omega) with rfl | rfl | rfl | rfl | rfl | rfl | rfl | rfl
  · exact mw_1_50
  · exact mw_1_52
  · exact mw_1_54
  · exact mw_1_56
  · exact mw_1_58
  · exact mw_1_60
  · exact mw_1_62
  · exact mw_1_64
def T_Mo : u_T := fun k => match k with
  | 0 => ("VersionedBlockModel", "places", "[J", true)
  | 1 => ("VersionedBlockModel", "stored", "[J", true)
  | 2 => ("VersionedBlockModel", "isStored", "[Z", true)
  | 3 => ("VersionedBlockModel", "count", "I", false)
  | 4 => ("VersionedBlockModel", "sizes", "[I", true)
  | 5 => ("VersionedBlockModel", "operations", "[B", true)
  | 6 => ("VersionedBlockModel", "firsts", "[I", true)
  | 7 => ("VersionedBlockModel", "seconds", "[J", true)
  | 8 => ("VersionedBlockModel", "woven", "I", false)
  | 9 => ("VersionedBlockModel", "registers", "[J", true)
  | 10 => ("VersionedBlockModel", "next", "I", false)
  | 11 => ("VersionedBlockModel", "isTold", "[Z", true)
  | 12 => ("VersionedBlockModel", "told", "[I", true)
  | 13 => ("VersionedBlockModel", "results", "[J", true)
  | _ => ("VersionedBlockModel", "loads", "I", false)
def t_Mo : Nat → FieldType := fun k => match k with
  | 0 => .array .long
  | 1 => .array .long
  | 2 => .array .boolean
  | 3 => .int
  | 4 => .array .int
  | 5 => .array .byte
  | 6 => .array .int
  | 7 => .array .long
  | 8 => .int
  | 9 => .array .long
  | 10 => .int
  | 11 => .array .boolean
  | 12 => .array .int
  | 13 => .array .long
  | _ => .int
theorem n_Mo : ∀ a, a < 15 → ∀ b, b < 15 → a ≠ b → (T_Mo a).2.1 ≠ (T_Mo b).2.1 := by decide +kernel
theorem t_Mo_ok : ∀ k, k < 15 → parseFieldDescriptor (T_Mo k).2.2.1 = some (t_Mo k) := by decide +kernel
theorem fs_Mo : ∀ j, j < 15 → defaultValue (t_Mo j) = vp_V [.null, .null, .null, .int 0, .null, .null, .null, .null, .int 0, .null, .int 0, .null, .null, .null, .int 0] j := fun j hj => by
  rcases (show j = 0 ∨ j = 1 ∨ j = 2 ∨ j = 3 ∨ j = 4 ∨ j = 5 ∨ j = 6 ∨ j = 7 ∨ j = 8 ∨ j = 9 ∨ j = 10 ∨ j = 11 ∨ j = 12 ∨ j = 13 ∨ j = 14 by omega) with rfl | rfl | rfl | rfl | rfl | rfl | rfl | rfl | rfl | rfl | rfl | rfl | rfl | rfl | rfl <;> rfl
theorem il_Mo : ∀ w ∈ u_ws "VersionedBlockModel" T_Mo 15, w ∈ TB := by
  intro w h
  obtain ⟨k, hk, rfl⟩ := List.mem_map.mp h
  have hk := List.mem_range.mp hk
  rcases (show k = 0 ∨ k = 1 ∨ k = 2 ∨ k = 3 ∨ k = 4 ∨ k = 5 ∨ k = 6 ∨ k = 7 ∨ k = 8 ∨ k = 9 ∨ k = 10 ∨ k = 11 ∨ k = 12 ∨ k = 13 ∨ k = 14 by omega) with rfl | rfl | rfl | rfl | rfl | rfl | rfl | rfl | rfl | rfl | rfl | rfl | rfl | rfl | rfl
  · exact mw_2_161
  · exact mw_2_163
  · exact mw_2_165
  · exact mw_2_167
  · exact mw_2_169
  · exact mw_2_171
  · exact mw_2_173
  · exact mw_2_175
  · exact mw_2_177
  · exact mw_2_179
  · exact mw_2_181
  · exact mw_2_183
  · exact mw_2_185
  · exact mw_2_187
  · exact mw_2_189
abbrev classes : List vw_C := [("VersionedBlock$Draft", T_Dr, 4), ("VersionedBlock$Transaction", T_Tr, 10), ("VersionedBlock$Weave", T_We, 2), ("VersionedBlock$Worker", T_Wk, 9), ("VersionedBlock", T_Vb, 8), ("VersionedBlockModel", T_Mo, 15)]
abbrev tyS (ka : Nat → ClassId) : List (ClassId × FieldType) := [(ka 0, .long), (ka 1, .int), (ka 2, .boolean), (ka 3, .object "VersionedBlock$Transaction"), (ka 4, .object "VersionedBlock$Worker"), (ka 5, .byte)]
abbrev b_Vb_init : ByteArray := prog_1_method_1_code
abbrev y_Vb_init : MethodName := ⟨"VersionedBlock", "<init>", "(I)V"⟩
def w_Vb_init : List Cond := .code y_Vb_init b_Vb_init 2 none :: TB
abbrev b_Ob_init : ByteArray := object_method_1_code
abbrev y_Ob_init : MethodName := ⟨"java/lang/Object", "<init>", "()V"⟩
def w_Ob_init : List Cond := .code y_Ob_init b_Ob_init 1 none :: TB
abbrev b_We_init : ByteArray := prog_4_method_1_code
abbrev y_We_init : MethodName := ⟨"VersionedBlock$Weave", "<init>", "()V"⟩
def w_We_init : List Cond := .code y_We_init b_We_init 1 none :: TB
abbrev b_Ma_min : ByteArray := prog_9_method_69_code
abbrev y_Ma_min : MethodName := ⟨"java/lang/Math", "min", "(II)I"⟩
def w_Ma_min : List Cond := .code y_Ma_min b_Ma_min 2 (some .int) :: TB
abbrev b_Ma_max : ByteArray := prog_9_method_65_code
abbrev y_Ma_max : MethodName := ⟨"java/lang/Math", "max", "(II)I"⟩
def w_Ma_max : List Cond := .code y_Ma_max b_Ma_max 2 (some .int) :: TB
abbrev b_Vb_put : ByteArray := prog_1_method_2_code
abbrev y_Vb_put : MethodName := ⟨"VersionedBlock", "put", "(IJ)Z"⟩
def w_Vb_put : List Cond := .code y_Vb_put b_Vb_put 4 (some .boolean) :: TB
abbrev b_Vb_isPlace : ByteArray := prog_1_method_13_code
abbrev y_Vb_isPlace : MethodName := ⟨"VersionedBlock", "isPlace", "(I)Z"⟩
def w_Vb_isPlace : List Cond := .code y_Vb_isPlace b_Vb_isPlace 1 (some .boolean) :: TB
abbrev b_Vb_get : ByteArray := prog_1_method_3_code
abbrev y_Vb_get : MethodName := ⟨"VersionedBlock", "get", "(I)J"⟩
def w_Vb_get : List Cond := .code y_Vb_get b_Vb_get 2 (some .long) :: TB
abbrev b_Vb_begin : ByteArray := prog_1_method_4_code
abbrev y_Vb_begin : MethodName := ⟨"VersionedBlock", "begin", "()I"⟩
def w_Vb_begin : List Cond := .code y_Vb_begin b_Vb_begin 2 (some .int) :: TB
abbrev b_Vb_transaction : ByteArray := prog_1_method_5_code
abbrev y_Vb_transaction : MethodName := ⟨"VersionedBlock", "transaction", "()I"⟩
def w_Vb_transaction : List Cond := .code y_Vb_transaction b_Vb_transaction 2 (some .int) :: TB
abbrev b_Tr_init : ByteArray := prog_3_method_1_code
abbrev y_Tr_init : MethodName := ⟨"VersionedBlock$Transaction", "<init>", "()V"⟩
def w_Tr_init : List Cond := .code y_Tr_init b_Tr_init 1 none :: TB
abbrev b_Tr_clear : ByteArray := prog_3_method_2_code
abbrev y_Tr_clear : MethodName := ⟨"VersionedBlock$Transaction", "clear", "()V"⟩
def w_Tr_clear : List Cond := .code y_Tr_clear b_Tr_clear 1 none :: TB
abbrev b_Vb_instruction : ByteArray := prog_1_method_6_code
abbrev y_Vb_instruction : MethodName := ⟨"VersionedBlock", "instruction", "(IIJ)I"⟩
def w_Vb_instruction : List Cond := .code y_Vb_instruction b_Vb_instruction 6 (some .int) :: TB
abbrev b_Vb_transactionAt : ByteArray := prog_1_method_16_code
abbrev y_Vb_transactionAt : MethodName := ⟨"VersionedBlock", "transactionAt", "(I)LVersionedBlock$Transaction;"⟩
def w_Vb_transactionAt : List Cond := .code y_Vb_transactionAt b_Vb_transactionAt 2 (some (.object "VersionedBlock$Transaction")) :: TB
abbrev b_Tr_append : ByteArray := prog_3_method_3_code
abbrev y_Tr_append : MethodName := ⟨"VersionedBlock$Transaction", "append", "(IIJ)I"⟩
def w_Tr_append : List Cond := .code y_Tr_append b_Tr_append 5 (some .int) :: TB
abbrev b_Vb_registerOf : ByteArray := prog_1_method_15_code
abbrev y_Vb_registerOf : MethodName := ⟨"VersionedBlock", "registerOf", "(J)I"⟩
def w_Vb_registerOf : List Cond := .code y_Vb_registerOf b_Vb_registerOf 2 (some .int) :: TB
abbrev b_Vb_weave : ByteArray := prog_1_method_7_code
abbrev y_Vb_weave : MethodName := ⟨"VersionedBlock", "weave", "(J)I"⟩
def w_Vb_weave : List Cond := .code y_Vb_weave b_Vb_weave 3 (some .int) :: TB
abbrev b_We_append : ByteArray := prog_4_method_2_code
abbrev y_We_append : MethodName := ⟨"VersionedBlock$Weave", "append", "(J)I"⟩
def w_We_append : List Cond := .code y_We_append b_We_append 4 (some .int) :: TB
abbrev b_Ar_copyOf : ByteArray := prog_11_method_124_code
abbrev y_Ar_copyOf : MethodName := ⟨"java/util/Arrays", "copyOf", "([JI)[J"⟩
def w_Ar_copyOf : List Cond := .code y_Ar_copyOf b_Ar_copyOf 3 (some (.array .long)) :: TB
abbrev b_Vb_unweave : ByteArray := prog_1_method_8_code
abbrev y_Vb_unweave : MethodName := ⟨"VersionedBlock", "unweave", "()I"⟩
def w_Vb_unweave : List Cond := .code y_Vb_unweave b_Vb_unweave 1 (some .int) :: TB
abbrev b_We_clear : ByteArray := prog_4_method_3_code
abbrev y_We_clear : MethodName := ⟨"VersionedBlock$Weave", "clear", "()I"⟩
def w_We_clear : List Cond := .code y_We_clear b_We_clear 2 (some .int) :: TB
abbrev b_Vb_execute : ByteArray := prog_1_method_9_code
abbrev y_Vb_execute : MethodName := ⟨"VersionedBlock", "execute", "()I"⟩
def w_Vb_execute : List Cond := .code y_Vb_execute b_Vb_execute 2 (some .int) :: TB
abbrev b_We_length : ByteArray := prog_4_method_4_code
abbrev y_We_length : MethodName := ⟨"VersionedBlock$Weave", "length", "()I"⟩
def w_We_length : List Cond := .code y_We_length b_We_length 1 (some .int) :: TB
abbrev b_We_numberAt : ByteArray := prog_4_method_5_code
abbrev y_We_numberAt : MethodName := ⟨"VersionedBlock$Weave", "numberAt", "(I)I"⟩
def w_We_numberAt : List Cond := .code y_We_numberAt b_We_numberAt 3 (some .int) :: TB
abbrev b_Ma_floorMod_II : ByteArray := prog_9_method_50_code
abbrev y_Ma_floorMod_II : MethodName := ⟨"java/lang/Math", "floorMod", "(II)I"⟩
def w_Ma_floorMod_II : List Cond := .code y_Ma_floorMod_II b_Ma_floorMod_II 3 (some .int) :: TB
abbrev b_Vb_goOn : ByteArray := prog_1_method_18_code
abbrev y_Vb_goOn : MethodName := ⟨"VersionedBlock", "goOn", "(I)Z"⟩
def w_Vb_goOn : List Cond := .code y_Vb_goOn b_Vb_goOn 3 (some .boolean) :: TB
abbrev b_Wk_isFree : ByteArray := prog_5_method_2_code
abbrev y_Wk_isFree : MethodName := ⟨"VersionedBlock$Worker", "isFree", "()Z"⟩
def w_Wk_isFree : List Cond := .code y_Wk_isFree b_Wk_isFree 1 (some .boolean) :: TB
abbrev b_Vb_takeNext : ByteArray := prog_1_method_19_code
abbrev y_Vb_takeNext : MethodName := ⟨"VersionedBlock", "takeNext", "(I)Z"⟩
def w_Vb_takeNext : List Cond := .code y_Vb_takeNext b_Vb_takeNext 4 (some .boolean) :: TB
abbrev b_Wk_init : ByteArray := prog_5_method_1_code
abbrev y_Wk_init : MethodName := ⟨"VersionedBlock$Worker", "<init>", "()V"⟩
def w_Wk_init : List Cond := .code y_Wk_init b_Wk_init 1 none :: TB
abbrev b_Dr_init : ByteArray := prog_2_method_1_code
abbrev y_Dr_init : MethodName := ⟨"VersionedBlock$Draft", "<init>", "()V"⟩
def w_Dr_init : List Cond := .code y_Dr_init b_Dr_init 1 none :: TB
abbrev b_Wk_take : ByteArray := prog_5_method_5_code
abbrev y_Wk_take : MethodName := ⟨"VersionedBlock$Worker", "take", "(LVersionedBlock$Transaction;I)V"⟩
def w_Wk_take : List Cond := .code y_Wk_take b_Wk_take 3 none :: TB
abbrev b_Wk_startAnew : ByteArray := prog_5_method_6_code
abbrev y_Wk_startAnew : MethodName := ⟨"VersionedBlock$Worker", "startAnew", "()V"⟩
def w_Wk_startAnew : List Cond := .code y_Wk_startAnew b_Wk_startAnew 1 none :: TB
abbrev b_Ar_fill : ByteArray := prog_11_method_101_code
abbrev y_Ar_fill : MethodName := ⟨"java/util/Arrays", "fill", "([JJ)V"⟩
def w_Ar_fill : List Cond := .code y_Ar_fill b_Ar_fill 5 none :: TB
abbrev b_Dr_clear : ByteArray := prog_2_method_2_code
abbrev y_Dr_clear : MethodName := ⟨"VersionedBlock$Draft", "clear", "()V"⟩
def w_Dr_clear : List Cond := .code y_Dr_clear b_Dr_clear 2 none :: TB
abbrev b_Wk_isAtEnd : ByteArray := prog_5_method_3_code
abbrev y_Wk_isAtEnd : MethodName := ⟨"VersionedBlock$Worker", "isAtEnd", "()Z"⟩
def w_Wk_isAtEnd : List Cond := .code y_Wk_isAtEnd b_Wk_isAtEnd 1 (some .boolean) :: TB
abbrev b_Wk_doNext : ByteArray := prog_5_method_7_code
abbrev y_Wk_doNext : MethodName := ⟨"VersionedBlock$Worker", "doNext", "([J)V"⟩
def w_Wk_doNext : List Cond := .code y_Wk_doNext b_Wk_doNext 4 none :: TB
abbrev b_Tr_has : ByteArray := prog_3_method_4_code
abbrev y_Tr_has : MethodName := ⟨"VersionedBlock$Transaction", "has", "(J)Z"⟩
def w_Tr_has : List Cond := .code y_Tr_has b_Tr_has 3 (some .boolean) :: TB
abbrev b_Wk_perform : ByteArray := prog_5_method_8_code
abbrev y_Wk_perform : MethodName := ⟨"VersionedBlock$Worker", "perform", "(LVersionedBlock$Transaction;I[J)V"⟩
def w_Wk_perform : List Cond := .code y_Wk_perform b_Wk_perform 8 none :: TB
abbrev b_Tr_firstAt : ByteArray := prog_3_method_6_code
abbrev y_Tr_firstAt : MethodName := ⟨"VersionedBlock$Transaction", "firstAt", "(I)I"⟩
def w_Tr_firstAt : List Cond := .code y_Tr_firstAt b_Tr_firstAt 2 (some .int) :: TB
abbrev b_Tr_secondAt : ByteArray := prog_3_method_7_code
abbrev y_Tr_secondAt : MethodName := ⟨"VersionedBlock$Transaction", "secondAt", "(I)J"⟩
def w_Tr_secondAt : List Cond := .code y_Tr_secondAt b_Tr_secondAt 2 (some .long) :: TB
abbrev b_Tr_operationAt : ByteArray := prog_3_method_5_code
abbrev y_Tr_operationAt : MethodName := ⟨"VersionedBlock$Transaction", "operationAt", "(I)I"⟩
def w_Tr_operationAt : List Cond := .code y_Tr_operationAt b_Tr_operationAt 2 (some .int) :: TB
abbrev b_Vb_placeOf : ByteArray := prog_1_method_14_code
abbrev y_Vb_placeOf : MethodName := ⟨"VersionedBlock", "placeOf", "(J)I"⟩
def w_Vb_placeOf : List Cond := .code y_Vb_placeOf b_Vb_placeOf 2 (some .int) :: TB
abbrev b_Wk_load : ByteArray := prog_5_method_9_code
abbrev y_Wk_load : MethodName := ⟨"VersionedBlock$Worker", "load", "(I[J)J"⟩
def w_Wk_load : List Cond := .code y_Wk_load b_Wk_load 3 (some .long) :: TB
abbrev b_Dr_has : ByteArray := prog_2_method_5_code
abbrev y_Dr_has : MethodName := ⟨"VersionedBlock$Draft", "has", "(I)Z"⟩
def w_Dr_has : List Cond := .code y_Dr_has b_Dr_has 2 (some .boolean) :: TB
abbrev b_Dr_numberIn : ByteArray := prog_2_method_6_code
abbrev y_Dr_numberIn : MethodName := ⟨"VersionedBlock$Draft", "numberIn", "(I)J"⟩
def w_Dr_numberIn : List Cond := .code y_Dr_numberIn b_Dr_numberIn 2 (some .long) :: TB
abbrev b_Dr_keep : ByteArray := prog_2_method_7_code
abbrev y_Dr_keep : MethodName := ⟨"VersionedBlock$Draft", "keep", "(IJ)V"⟩
def w_Dr_keep : List Cond := .code y_Dr_keep b_Dr_keep 4 none :: TB
abbrev b_Wk_number : ByteArray := prog_5_method_4_code
abbrev y_Wk_number : MethodName := ⟨"VersionedBlock$Worker", "number", "()I"⟩
def w_Wk_number : List Cond := .code y_Wk_number b_Wk_number 1 (some .int) :: TB
abbrev b_Vb_settle : ByteArray := prog_1_method_20_code
abbrev y_Vb_settle : MethodName := ⟨"VersionedBlock", "settle", "(LVersionedBlock$Worker;)V"⟩
def w_Vb_settle : List Cond := .code y_Vb_settle b_Vb_settle 2 none :: TB
abbrev b_Wk_sawWhatHolds : ByteArray := prog_5_method_10_code
abbrev y_Wk_sawWhatHolds : MethodName := ⟨"VersionedBlock$Worker", "sawWhatHolds", "([J)Z"⟩
def w_Wk_sawWhatHolds : List Cond := .code y_Wk_sawWhatHolds b_Wk_sawWhatHolds 4 (some .boolean) :: TB
abbrev b_Dr_size : ByteArray := prog_2_method_3_code
abbrev y_Dr_size : MethodName := ⟨"VersionedBlock$Draft", "size", "()I"⟩
def w_Dr_size : List Cond := .code y_Dr_size b_Dr_size 1 (some .int) :: TB
abbrev b_Dr_placeAt : ByteArray := prog_2_method_4_code
abbrev y_Dr_placeAt : MethodName := ⟨"VersionedBlock$Draft", "placeAt", "(I)I"⟩
def w_Dr_placeAt : List Cond := .code y_Dr_placeAt b_Dr_placeAt 2 (some .int) :: TB
abbrev b_Wk_handIn : ByteArray := prog_5_method_11_code
abbrev y_Wk_handIn : MethodName := ⟨"VersionedBlock$Worker", "handIn", "([J)Z"⟩
def w_Wk_handIn : List Cond := .code y_Wk_handIn b_Wk_handIn 5 (some .boolean) :: TB
abbrev b_Wk_storeInto : ByteArray := prog_5_method_12_code
abbrev y_Wk_storeInto : MethodName := ⟨"VersionedBlock$Worker", "storeInto", "([J)I"⟩
def w_Wk_storeInto : List Cond := .code y_Wk_storeInto b_Wk_storeInto 4 (some .int) :: TB
abbrev b_Tr_note : ByteArray := prog_3_method_8_code
abbrev y_Tr_note : MethodName := ⟨"VersionedBlock$Transaction", "note", "(IIIIJ)V"⟩
def w_Tr_note : List Cond := .code y_Tr_note b_Tr_note 7 none :: TB
abbrev b_Vb_goOnAsFarAsItCan : ByteArray := prog_1_method_17_code
abbrev y_Vb_goOnAsFarAsItCan : MethodName := ⟨"VersionedBlock", "goOnAsFarAsItCan", "(I)V"⟩
def w_Vb_goOnAsFarAsItCan : List Cond := .code y_Vb_goOnAsFarAsItCan b_Vb_goOnAsFarAsItCan 5 none :: TB
abbrev b_Vb_count : ByteArray := prog_1_method_10_code
abbrev y_Vb_count : MethodName := ⟨"VersionedBlock", "count", "()I"⟩
def w_Vb_count : List Cond := .code y_Vb_count b_Vb_count 1 (some .int) :: TB
abbrev b_Vb_told : ByteArray := prog_1_method_11_code
abbrev y_Vb_told : MethodName := ⟨"VersionedBlock", "told", "(II)I"⟩
def w_Vb_told : List Cond := .code y_Vb_told b_Vb_told 4 (some .int) :: TB
abbrev b_Tr_tell : ByteArray := prog_3_method_9_code
abbrev y_Tr_tell : MethodName := ⟨"VersionedBlock$Transaction", "tell", "(I)I"⟩
def w_Tr_tell : List Cond := .code y_Tr_tell b_Tr_tell 2 (some .int) :: TB
abbrev b_Vb_result : ByteArray := prog_1_method_12_code
abbrev y_Vb_result : MethodName := ⟨"VersionedBlock", "result", "(I)J"⟩
def w_Vb_result : List Cond := .code y_Vb_result b_Vb_result 3 (some .long) :: TB
abbrev b_Tr_tellResult : ByteArray := prog_3_method_10_code
abbrev y_Tr_tellResult : MethodName := ⟨"VersionedBlock$Transaction", "tellResult", "()J"⟩
def w_Tr_tellResult : List Cond := .code y_Tr_tellResult b_Tr_tellResult 1 (some .long) :: TB
abbrev b_La_cell : ByteArray := method_2_code
abbrev y_La_cell : MethodName := ⟨"VersionedBlockLaw", "cell", "([II)I"⟩
def w_La_cell : List Cond := .code y_La_cell b_La_cell 2 (some .int) :: TB
abbrev b_Mo_init : ByteArray := prog_7_method_1_code
abbrev y_Mo_init : MethodName := ⟨"VersionedBlockModel", "<init>", "(I)V"⟩
def w_Mo_init : List Cond := .code y_Mo_init b_Mo_init 2 none :: TB
abbrev b_Mo_put : ByteArray := prog_7_method_3_code
abbrev y_Mo_put : MethodName := ⟨"VersionedBlockModel", "put", "(IJ)Z"⟩
def w_Mo_put : List Cond := .code y_Mo_put b_Mo_put 4 (some .boolean) :: TB
abbrev b_Mo_isPlace : ByteArray := prog_7_method_2_code
abbrev y_Mo_isPlace : MethodName := ⟨"VersionedBlockModel", "isPlace", "(I)Z"⟩
def w_Mo_isPlace : List Cond := .code y_Mo_isPlace b_Mo_isPlace 1 (some .boolean) :: TB
abbrev b_Mo_get : ByteArray := prog_7_method_4_code
abbrev y_Mo_get : MethodName := ⟨"VersionedBlockModel", "get", "(I)J"⟩
def w_Mo_get : List Cond := .code y_Mo_get b_Mo_get 2 (some .long) :: TB
abbrev b_Mo_begin : ByteArray := prog_7_method_5_code
abbrev y_Mo_begin : MethodName := ⟨"VersionedBlockModel", "begin", "()I"⟩
def w_Mo_begin : List Cond := .code y_Mo_begin b_Mo_begin 2 (some .int) :: TB
abbrev b_Mo_transaction : ByteArray := prog_7_method_6_code
abbrev y_Mo_transaction : MethodName := ⟨"VersionedBlockModel", "transaction", "()I"⟩
def w_Mo_transaction : List Cond := .code y_Mo_transaction b_Mo_transaction 1 (some .int) :: TB
abbrev b_Mo_instruction : ByteArray := prog_7_method_7_code
abbrev y_Mo_instruction : MethodName := ⟨"VersionedBlockModel", "instruction", "(IIJ)I"⟩
def w_Mo_instruction : List Cond := .code y_Mo_instruction b_Mo_instruction 7 (some .int) :: TB
abbrev b_Mo_weave : ByteArray := prog_7_method_8_code
abbrev y_Mo_weave : MethodName := ⟨"VersionedBlockModel", "weave", "(J)I"⟩
def w_Mo_weave : List Cond := .code y_Mo_weave b_Mo_weave 3 (some .int) :: TB
abbrev b_Mo_unweave : ByteArray := prog_7_method_9_code
abbrev y_Mo_unweave : MethodName := ⟨"VersionedBlockModel", "unweave", "()I"⟩
def w_Mo_unweave : List Cond := .code y_Mo_unweave b_Mo_unweave 2 (some .int) :: TB
abbrev b_Mo_execute : ByteArray := prog_7_method_13_code
abbrev y_Mo_execute : MethodName := ⟨"VersionedBlockModel", "execute", "()I"⟩
def w_Mo_execute : List Cond := .code y_Mo_execute b_Mo_execute 3 (some .int) :: TB
abbrev b_Mo_all : ByteArray := prog_7_method_12_code
abbrev y_Mo_all : MethodName := ⟨"VersionedBlockModel", "all", "(I)I"⟩
def w_Mo_all : List Cond := .code y_Mo_all b_Mo_all 6 (some .int) :: TB
abbrev b_Mo_one : ByteArray := prog_7_method_11_code
abbrev y_Mo_one : MethodName := ⟨"VersionedBlockModel", "one", "(I)I"⟩
def w_Mo_one : List Cond := .code y_Mo_one b_Mo_one 6 (some .int) :: TB
abbrev b_Ma_floorMod_JJ : ByteArray := prog_9_method_52_code
abbrev y_Ma_floorMod_JJ : MethodName := ⟨"java/lang/Math", "floorMod", "(JJ)J"⟩
def w_Ma_floorMod_JJ : List Cond := .code y_Ma_floorMod_JJ b_Ma_floorMod_JJ 6 (some .long) :: TB
abbrev b_Mo_placeOf : ByteArray := prog_7_method_10_code
abbrev y_Mo_placeOf : MethodName := ⟨"VersionedBlockModel", "placeOf", "(J)I"⟩
def w_Mo_placeOf : List Cond := .code y_Mo_placeOf b_Mo_placeOf 2 (some .int) :: TB
abbrev b_Mo_count : ByteArray := prog_7_method_14_code
abbrev y_Mo_count : MethodName := ⟨"VersionedBlockModel", "count", "()I"⟩
def w_Mo_count : List Cond := .code y_Mo_count b_Mo_count 1 (some .int) :: TB
abbrev b_Mo_told : ByteArray := prog_7_method_15_code
abbrev y_Mo_told : MethodName := ⟨"VersionedBlockModel", "told", "(II)I"⟩
def w_Mo_told : List Cond := .code y_Mo_told b_Mo_told 3 (some .int) :: TB
abbrev b_Mo_result : ByteArray := prog_7_method_16_code
abbrev y_Mo_result : MethodName := ⟨"VersionedBlockModel", "result", "(I)J"⟩
def w_Mo_result : List Cond := .code y_Mo_result b_Mo_result 2 (some .long) :: TB
abbrev b_La_law : ByteArray := code
end
section
theorem d_We_init_0 : decode b_We_init 0 = .ok (.aload_n 0, 1) := by decide +kernel
theorem d_We_init_1 : decode b_We_init 1 = .ok (.invokespecial 3, 3) := by decide +kernel
theorem d_We_init_4 : decode b_We_init 4 = .ok (.aload_n 0, 1) := by decide +kernel
theorem d_We_init_5 : decode b_We_init 5 = .ok (.bipush 8, 2) := by decide +kernel
theorem d_We_init_7 : decode b_We_init 7 = .ok (.newarray .long, 2) := by decide +kernel
theorem d_We_init_9 : decode b_We_init 9 = .ok (.putfield 11, 3) := by decide +kernel
theorem d_We_init_12 : decode b_We_init 12 = .ok (.return_, 1) := by decide +kernel
theorem d_Ma_min_0 : decode b_Ma_min 0 = .ok (.iload_n 0, 1) := by decide +kernel
theorem d_Ma_min_1 : decode b_Ma_min 1 = .ok (.iload_n 1, 1) := by decide +kernel
theorem d_Ma_min_2 : decode b_Ma_min 2 = .ok (.if_icmp .gt 7, 3) := by decide +kernel
theorem d_Ma_min_5 : decode b_Ma_min 5 = .ok (.iload_n 0, 1) := by decide +kernel
theorem d_Ma_min_6 : decode b_Ma_min 6 = .ok (.goto 4, 3) := by decide +kernel
theorem d_Ma_min_9 : decode b_Ma_min 9 = .ok (.iload_n 1, 1) := by decide +kernel
theorem d_Ma_min_10 : decode b_Ma_min 10 = .ok (.ireturn, 1) := by decide +kernel
theorem d_Ma_max_0 : decode b_Ma_max 0 = .ok (.iload_n 0, 1) := by decide +kernel
theorem d_Ma_max_1 : decode b_Ma_max 1 = .ok (.iload_n 1, 1) := by decide +kernel
theorem d_Ma_max_2 : decode b_Ma_max 2 = .ok (.if_icmp .lt 7, 3) := by decide +kernel
theorem d_Ma_max_5 : decode b_Ma_max 5 = .ok (.iload_n 0, 1) := by decide +kernel
theorem d_Ma_max_6 : decode b_Ma_max 6 = .ok (.goto 4, 3) := by decide +kernel
theorem d_Ma_max_9 : decode b_Ma_max 9 = .ok (.iload_n 1, 1) := by decide +kernel
theorem d_Ma_max_10 : decode b_Ma_max 10 = .ok (.ireturn, 1) := by decide +kernel
theorem d_Tr_init_0 : decode b_Tr_init 0 = .ok (.aload_n 0, 1) := by decide +kernel
theorem d_Tr_init_1 : decode b_Tr_init 1 = .ok (.invokespecial 3, 3) := by decide +kernel
theorem d_Tr_init_4 : decode b_Tr_init 4 = .ok (.aload_n 0, 1) := by decide +kernel
theorem d_Tr_init_5 : decode b_Tr_init 5 = .ok (.bipush 32, 2) := by decide +kernel
theorem d_Tr_init_7 : decode b_Tr_init 7 = .ok (.newarray .int, 2) := by decide +kernel
theorem d_Tr_init_9 : decode b_Tr_init 9 = .ok (.putfield 9, 3) := by decide +kernel
theorem d_Tr_init_12 : decode b_Tr_init 12 = .ok (.aload_n 0, 1) := by decide +kernel
theorem d_Tr_init_13 : decode b_Tr_init 13 = .ok (.bipush 32, 2) := by decide +kernel
theorem d_Tr_init_15 : decode b_Tr_init 15 = .ok (.newarray .int, 2) := by decide +kernel
theorem d_Tr_init_17 : decode b_Tr_init 17 = .ok (.putfield 15, 3) := by decide +kernel
theorem d_Tr_init_20 : decode b_Tr_init 20 = .ok (.aload_n 0, 1) := by decide +kernel
theorem d_Tr_init_21 : decode b_Tr_init 21 = .ok (.bipush 32, 2) := by decide +kernel
theorem d_Tr_init_23 : decode b_Tr_init 23 = .ok (.newarray .long, 2) := by decide +kernel
theorem d_Tr_init_25 : decode b_Tr_init 25 = .ok (.putfield 18, 3) := by decide +kernel
theorem d_Tr_init_28 : decode b_Tr_init 28 = .ok (.return_, 1) := by decide +kernel
theorem d_Tr_clear_0 : decode b_Tr_clear 0 = .ok (.aload_n 0, 1) := by decide +kernel
theorem d_Tr_clear_1 : decode b_Tr_clear 1 = .ok (.iconst 0, 1) := by decide +kernel
theorem d_Tr_clear_2 : decode b_Tr_clear 2 = .ok (.putfield 22, 3) := by decide +kernel
theorem d_Tr_clear_5 : decode b_Tr_clear 5 = .ok (.aload_n 0, 1) := by decide +kernel
theorem d_Tr_clear_6 : decode b_Tr_clear 6 = .ok (.iconst 0, 1) := by decide +kernel
theorem d_Tr_clear_7 : decode b_Tr_clear 7 = .ok (.putfield 26, 3) := by decide +kernel
theorem d_Tr_clear_10 : decode b_Tr_clear 10 = .ok (.return_, 1) := by decide +kernel
theorem d_Tr_append_0 : decode b_Tr_append 0 = .ok (.aload_n 0, 1) := by decide +kernel
theorem d_Tr_append_1 : decode b_Tr_append 1 = .ok (.getfield 22, 3) := by decide +kernel
theorem d_Tr_append_4 : decode b_Tr_append 4 = .ok (.bipush 32, 2) := by decide +kernel
theorem d_Tr_append_6 : decode b_Tr_append 6 = .ok (.if_icmp .lt 6, 3) := by decide +kernel
theorem d_Tr_append_9 : decode b_Tr_append 9 = .ok (.bipush (-3), 2) := by decide +kernel
theorem d_Tr_append_11 : decode b_Tr_append 11 = .ok (.ireturn, 1) := by decide +kernel
theorem d_Tr_append_12 : decode b_Tr_append 12 = .ok (.aload_n 0, 1) := by decide +kernel
theorem d_Tr_append_13 : decode b_Tr_append 13 = .ok (.getfield 9, 3) := by decide +kernel
theorem d_Tr_append_16 : decode b_Tr_append 16 = .ok (.aload_n 0, 1) := by decide +kernel
theorem d_Tr_append_17 : decode b_Tr_append 17 = .ok (.getfield 22, 3) := by decide +kernel
theorem d_Tr_append_20 : decode b_Tr_append 20 = .ok (.iload_n 1, 1) := by decide +kernel
theorem d_Tr_append_21 : decode b_Tr_append 21 = .ok (.iastore, 1) := by decide +kernel
theorem d_Tr_append_22 : decode b_Tr_append 22 = .ok (.aload_n 0, 1) := by decide +kernel
theorem d_Tr_append_23 : decode b_Tr_append 23 = .ok (.getfield 15, 3) := by decide +kernel
theorem d_Tr_append_26 : decode b_Tr_append 26 = .ok (.aload_n 0, 1) := by decide +kernel
theorem d_Tr_append_27 : decode b_Tr_append 27 = .ok (.getfield 22, 3) := by decide +kernel
theorem d_Tr_append_30 : decode b_Tr_append 30 = .ok (.iload_n 2, 1) := by decide +kernel
theorem d_Tr_append_31 : decode b_Tr_append 31 = .ok (.i2l, 1) := by decide +kernel
theorem d_Tr_append_32 : decode b_Tr_append 32 = .ok (.invokestatic 30, 3) := by decide +kernel
theorem d_Tr_append_35 : decode b_Tr_append 35 = .ok (.iastore, 1) := by decide +kernel
theorem d_Tr_append_36 : decode b_Tr_append 36 = .ok (.aload_n 0, 1) := by decide +kernel
theorem d_Tr_append_37 : decode b_Tr_append 37 = .ok (.getfield 18, 3) := by decide +kernel
theorem d_Tr_append_40 : decode b_Tr_append 40 = .ok (.aload_n 0, 1) := by decide +kernel
theorem d_Tr_append_41 : decode b_Tr_append 41 = .ok (.getfield 22, 3) := by decide +kernel
theorem d_Tr_append_44 : decode b_Tr_append 44 = .ok (.lload_n 3, 1) := by decide +kernel
theorem d_Tr_append_45 : decode b_Tr_append 45 = .ok (.lastore, 1) := by decide +kernel
theorem d_Tr_append_46 : decode b_Tr_append 46 = .ok (.aload_n 0, 1) := by decide +kernel
theorem d_Tr_append_47 : decode b_Tr_append 47 = .ok (.dup, 1) := by decide +kernel
theorem d_Tr_append_48 : decode b_Tr_append 48 = .ok (.getfield 22, 3) := by decide +kernel
theorem d_Tr_append_51 : decode b_Tr_append 51 = .ok (.iconst 1, 1) := by decide +kernel
theorem d_Tr_append_52 : decode b_Tr_append 52 = .ok (.iadd, 1) := by decide +kernel
theorem d_Tr_append_53 : decode b_Tr_append 53 = .ok (.putfield 22, 3) := by decide +kernel
theorem d_Tr_append_56 : decode b_Tr_append 56 = .ok (.aload_n 0, 1) := by decide +kernel
theorem d_Tr_append_57 : decode b_Tr_append 57 = .ok (.iconst 0, 1) := by decide +kernel
theorem d_Tr_append_58 : decode b_Tr_append 58 = .ok (.putfield 26, 3) := by decide +kernel
theorem d_Tr_append_61 : decode b_Tr_append 61 = .ok (.aload_n 0, 1) := by decide +kernel
theorem d_Tr_append_62 : decode b_Tr_append 62 = .ok (.getfield 22, 3) := by decide +kernel
theorem d_Tr_append_65 : decode b_Tr_append 65 = .ok (.ireturn, 1) := by decide +kernel
theorem d_We_append_0 : decode b_We_append 0 = .ok (.aload_n 0, 1) := by decide +kernel
theorem d_We_append_1 : decode b_We_append 1 = .ok (.getfield 15, 3) := by decide +kernel
theorem d_We_append_4 : decode b_We_append 4 = .ok (.bipush 16, 2) := by decide +kernel
theorem d_We_append_6 : decode b_We_append 6 = .ok (.iadd, 1) := by decide +kernel
theorem d_We_append_7 : decode b_We_append 7 = .ok (.ldc 19, 2) := by decide +kernel
theorem d_We_append_9 : decode b_We_append 9 = .ok (.if_icmp .le 6, 3) := by decide +kernel
theorem d_We_append_12 : decode b_We_append 12 = .ok (.bipush (-3), 2) := by decide +kernel
theorem d_We_append_14 : decode b_We_append 14 = .ok (.ireturn, 1) := by decide +kernel
theorem d_We_append_15 : decode b_We_append 15 = .ok (.aload_n 0, 1) := by decide +kernel
theorem d_We_append_16 : decode b_We_append 16 = .ok (.getfield 15, 3) := by decide +kernel
theorem d_We_append_19 : decode b_We_append 19 = .ok (.bipush 16, 2) := by decide +kernel
theorem d_We_append_21 : decode b_We_append 21 = .ok (.idiv, 1) := by decide +kernel
theorem d_We_append_22 : decode b_We_append 22 = .ok (.istore_n 3, 1) := by decide +kernel
theorem d_We_append_23 : decode b_We_append 23 = .ok (.iload_n 3, 1) := by decide +kernel
theorem d_We_append_24 : decode b_We_append 24 = .ok (.aload_n 0, 1) := by decide +kernel
theorem d_We_append_25 : decode b_We_append 25 = .ok (.getfield 11, 3) := by decide +kernel
theorem d_We_append_28 : decode b_We_append 28 = .ok (.arraylength, 1) := by decide +kernel
theorem d_We_append_29 : decode b_We_append 29 = .ok (.if_icmp .lt 21, 3) := by decide +kernel
theorem d_We_append_32 : decode b_We_append 32 = .ok (.aload_n 0, 1) := by decide +kernel
theorem d_We_append_33 : decode b_We_append 33 = .ok (.aload_n 0, 1) := by decide +kernel
theorem d_We_append_34 : decode b_We_append 34 = .ok (.getfield 11, 3) := by decide +kernel
theorem d_We_append_37 : decode b_We_append 37 = .ok (.iconst 2, 1) := by decide +kernel
theorem d_We_append_38 : decode b_We_append 38 = .ok (.aload_n 0, 1) := by decide +kernel
theorem d_We_append_39 : decode b_We_append 39 = .ok (.getfield 11, 3) := by decide +kernel
theorem d_We_append_42 : decode b_We_append 42 = .ok (.arraylength, 1) := by decide +kernel
theorem d_We_append_43 : decode b_We_append 43 = .ok (.imul, 1) := by decide +kernel
theorem d_We_append_44 : decode b_We_append 44 = .ok (.invokestatic 20, 3) := by decide +kernel
theorem d_We_append_47 : decode b_We_append 47 = .ok (.putfield 11, 3) := by decide +kernel
theorem d_We_append_50 : decode b_We_append 50 = .ok (.aload_n 0, 1) := by decide +kernel
theorem d_We_append_51 : decode b_We_append 51 = .ok (.getfield 11, 3) := by decide +kernel
theorem d_We_append_54 : decode b_We_append 54 = .ok (.iload_n 3, 1) := by decide +kernel
theorem d_We_append_55 : decode b_We_append 55 = .ok (.lload_n 1, 1) := by decide +kernel
theorem d_We_append_56 : decode b_We_append 56 = .ok (.lastore, 1) := by decide +kernel
theorem d_We_append_57 : decode b_We_append 57 = .ok (.aload_n 0, 1) := by decide +kernel
theorem d_We_append_58 : decode b_We_append 58 = .ok (.dup, 1) := by decide +kernel
theorem d_We_append_59 : decode b_We_append 59 = .ok (.getfield 15, 3) := by decide +kernel
theorem d_We_append_62 : decode b_We_append 62 = .ok (.bipush 16, 2) := by decide +kernel
theorem d_We_append_64 : decode b_We_append 64 = .ok (.iadd, 1) := by decide +kernel
theorem d_We_append_65 : decode b_We_append 65 = .ok (.putfield 15, 3) := by decide +kernel
theorem d_We_append_68 : decode b_We_append 68 = .ok (.aload_n 0, 1) := by decide +kernel
theorem d_We_append_69 : decode b_We_append 69 = .ok (.getfield 15, 3) := by decide +kernel
theorem d_We_append_72 : decode b_We_append 72 = .ok (.ireturn, 1) := by decide +kernel
theorem d_Ar_copyOf_0 : decode b_Ar_copyOf 0 = .ok (.iload_n 1, 1) := by decide +kernel
theorem d_Ar_copyOf_1 : decode b_Ar_copyOf 1 = .ok (.aload_n 0, 1) := by decide +kernel
theorem d_Ar_copyOf_2 : decode b_Ar_copyOf 2 = .ok (.arraylength, 1) := by decide +kernel
theorem d_Ar_copyOf_3 : decode b_Ar_copyOf 3 = .ok (.if_icmp .ne 11, 3) := by decide +kernel
theorem d_Ar_copyOf_6 : decode b_Ar_copyOf 6 = .ok (.aload_n 0, 1) := by decide +kernel
theorem d_Ar_copyOf_7 : decode b_Ar_copyOf 7 = .ok (.invokevirtual 319, 3) := by decide +kernel
theorem d_Ar_copyOf_10 : decode b_Ar_copyOf 10 = .ok (.checkcast 320, 3) := by decide +kernel
theorem d_Ar_copyOf_13 : decode b_Ar_copyOf 13 = .ok (.areturn, 1) := by decide +kernel
theorem d_Ar_copyOf_14 : decode b_Ar_copyOf 14 = .ok (.iload_n 1, 1) := by decide +kernel
theorem d_Ar_copyOf_15 : decode b_Ar_copyOf 15 = .ok (.newarray .long, 2) := by decide +kernel
theorem d_Ar_copyOf_17 : decode b_Ar_copyOf 17 = .ok (.astore_n 2, 1) := by decide +kernel
theorem d_Ar_copyOf_18 : decode b_Ar_copyOf 18 = .ok (.aload_n 0, 1) := by decide +kernel
theorem d_Ar_copyOf_19 : decode b_Ar_copyOf 19 = .ok (.iconst 0, 1) := by decide +kernel
theorem d_Ar_copyOf_20 : decode b_Ar_copyOf 20 = .ok (.aload_n 2, 1) := by decide +kernel
theorem d_Ar_copyOf_21 : decode b_Ar_copyOf 21 = .ok (.iconst 0, 1) := by decide +kernel
theorem d_Ar_copyOf_22 : decode b_Ar_copyOf 22 = .ok (.aload_n 0, 1) := by decide +kernel
theorem d_Ar_copyOf_23 : decode b_Ar_copyOf 23 = .ok (.arraylength, 1) := by decide +kernel
theorem d_Ar_copyOf_24 : decode b_Ar_copyOf 24 = .ok (.iload_n 1, 1) := by decide +kernel
theorem d_Ar_copyOf_25 : decode b_Ar_copyOf 25 = .ok (.invokestatic 304, 3) := by decide +kernel
theorem d_Ar_copyOf_28 : decode b_Ar_copyOf 28 = .ok (.invokestatic 150, 3) := by decide +kernel
theorem d_Ar_copyOf_31 : decode b_Ar_copyOf 31 = .ok (.aload_n 2, 1) := by decide +kernel
theorem d_Ar_copyOf_32 : decode b_Ar_copyOf 32 = .ok (.areturn, 1) := by decide +kernel
theorem d_We_clear_0 : decode b_We_clear 0 = .ok (.aload_n 0, 1) := by decide +kernel
theorem d_We_clear_1 : decode b_We_clear 1 = .ok (.getfield 15, 3) := by decide +kernel
theorem d_We_clear_4 : decode b_We_clear 4 = .ok (.istore_n 1, 1) := by decide +kernel
theorem d_We_clear_5 : decode b_We_clear 5 = .ok (.aload_n 0, 1) := by decide +kernel
theorem d_We_clear_6 : decode b_We_clear 6 = .ok (.iconst 0, 1) := by decide +kernel
theorem d_We_clear_7 : decode b_We_clear 7 = .ok (.putfield 15, 3) := by decide +kernel
theorem d_We_clear_10 : decode b_We_clear 10 = .ok (.iload_n 1, 1) := by decide +kernel
theorem d_We_clear_11 : decode b_We_clear 11 = .ok (.ireturn, 1) := by decide +kernel
theorem d_We_length_0 : decode b_We_length 0 = .ok (.aload_n 0, 1) := by decide +kernel
theorem d_We_length_1 : decode b_We_length 1 = .ok (.getfield 15, 3) := by decide +kernel
theorem d_We_length_4 : decode b_We_length 4 = .ok (.ireturn, 1) := by decide +kernel
theorem d_We_numberAt_0 : decode b_We_numberAt 0 = .ok (.iload_n 1, 1) := by decide +kernel
theorem d_We_numberAt_1 : decode b_We_numberAt 1 = .ok (.ifCond .lt 11, 3) := by decide +kernel
theorem d_We_numberAt_4 : decode b_We_numberAt 4 = .ok (.iload_n 1, 1) := by decide +kernel
theorem d_We_numberAt_5 : decode b_We_numberAt 5 = .ok (.aload_n 0, 1) := by decide +kernel
theorem d_We_numberAt_6 : decode b_We_numberAt 6 = .ok (.getfield 15, 3) := by decide +kernel
theorem d_We_numberAt_9 : decode b_We_numberAt 9 = .ok (.if_icmp .lt 5, 3) := by decide +kernel
theorem d_We_numberAt_12 : decode b_We_numberAt 12 = .ok (.iconst 0, 1) := by decide +kernel
theorem d_We_numberAt_13 : decode b_We_numberAt 13 = .ok (.ireturn, 1) := by decide +kernel
theorem d_We_numberAt_14 : decode b_We_numberAt 14 = .ok (.bipush 15, 2) := by decide +kernel
theorem d_We_numberAt_16 : decode b_We_numberAt 16 = .ok (.iload_n 1, 1) := by decide +kernel
theorem d_We_numberAt_17 : decode b_We_numberAt 17 = .ok (.bipush 16, 2) := by decide +kernel
theorem d_We_numberAt_19 : decode b_We_numberAt 19 = .ok (.irem, 1) := by decide +kernel
theorem d_We_numberAt_20 : decode b_We_numberAt 20 = .ok (.isub, 1) := by decide +kernel
theorem d_We_numberAt_21 : decode b_We_numberAt 21 = .ok (.istore_n 2, 1) := by decide +kernel
theorem d_We_numberAt_22 : decode b_We_numberAt 22 = .ok (.aload_n 0, 1) := by decide +kernel
theorem d_We_numberAt_23 : decode b_We_numberAt 23 = .ok (.getfield 11, 3) := by decide +kernel
theorem d_We_numberAt_26 : decode b_We_numberAt 26 = .ok (.iload_n 1, 1) := by decide +kernel
theorem d_We_numberAt_27 : decode b_We_numberAt 27 = .ok (.bipush 16, 2) := by decide +kernel
theorem d_We_numberAt_29 : decode b_We_numberAt 29 = .ok (.idiv, 1) := by decide +kernel
theorem d_We_numberAt_30 : decode b_We_numberAt 30 = .ok (.laload, 1) := by decide +kernel
theorem d_We_numberAt_31 : decode b_We_numberAt 31 = .ok (.iload_n 2, 1) := by decide +kernel
theorem d_We_numberAt_32 : decode b_We_numberAt 32 = .ok (.iconst 4, 1) := by decide +kernel
theorem d_We_numberAt_33 : decode b_We_numberAt 33 = .ok (.imul, 1) := by decide +kernel
theorem d_We_numberAt_34 : decode b_We_numberAt 34 = .ok (.lushr, 1) := by decide +kernel
theorem d_We_numberAt_35 : decode b_We_numberAt 35 = .ok (.l2i, 1) := by decide +kernel
theorem d_We_numberAt_36 : decode b_We_numberAt 36 = .ok (.bipush 15, 2) := by decide +kernel
theorem d_We_numberAt_38 : decode b_We_numberAt 38 = .ok (.iand, 1) := by decide +kernel
theorem d_We_numberAt_39 : decode b_We_numberAt 39 = .ok (.ireturn, 1) := by decide +kernel
theorem d_Ma_floorMod_II_0 : decode b_Ma_floorMod_II 0 = .ok (.iload_n 0, 1) := by decide +kernel
theorem d_Ma_floorMod_II_1 : decode b_Ma_floorMod_II 1 = .ok (.iload_n 1, 1) := by decide +kernel
theorem d_Ma_floorMod_II_2 : decode b_Ma_floorMod_II 2 = .ok (.irem, 1) := by decide +kernel
theorem d_Ma_floorMod_II_3 : decode b_Ma_floorMod_II 3 = .ok (.istore_n 2, 1) := by decide +kernel
theorem d_Ma_floorMod_II_4 : decode b_Ma_floorMod_II 4 = .ok (.iload_n 0, 1) := by decide +kernel
theorem d_Ma_floorMod_II_5 : decode b_Ma_floorMod_II 5 = .ok (.iload_n 1, 1) := by decide +kernel
theorem d_Ma_floorMod_II_6 : decode b_Ma_floorMod_II 6 = .ok (.ixor, 1) := by decide +kernel
theorem d_Ma_floorMod_II_7 : decode b_Ma_floorMod_II 7 = .ok (.ifCond .ge 11, 3) := by decide +kernel
theorem d_Ma_floorMod_II_10 : decode b_Ma_floorMod_II 10 = .ok (.iload_n 2, 1) := by decide +kernel
theorem d_Ma_floorMod_II_11 : decode b_Ma_floorMod_II 11 = .ok (.ifCond .eq 7, 3) := by decide +kernel
theorem d_Ma_floorMod_II_14 : decode b_Ma_floorMod_II 14 = .ok (.iload_n 2, 1) := by decide +kernel
theorem d_Ma_floorMod_II_15 : decode b_Ma_floorMod_II 15 = .ok (.iload_n 1, 1) := by decide +kernel
theorem d_Ma_floorMod_II_16 : decode b_Ma_floorMod_II 16 = .ok (.iadd, 1) := by decide +kernel
theorem d_Ma_floorMod_II_17 : decode b_Ma_floorMod_II 17 = .ok (.ireturn, 1) := by decide +kernel
theorem d_Ma_floorMod_II_18 : decode b_Ma_floorMod_II 18 = .ok (.iload_n 2, 1) := by decide +kernel
theorem d_Ma_floorMod_II_19 : decode b_Ma_floorMod_II 19 = .ok (.ireturn, 1) := by decide +kernel
theorem d_Dr_init_0 : decode b_Dr_init 0 = .ok (.aload_n 0, 1) := by decide +kernel
theorem d_Dr_init_1 : decode b_Dr_init 1 = .ok (.invokespecial 3, 3) := by decide +kernel
theorem d_Dr_init_4 : decode b_Dr_init 4 = .ok (.aload_n 0, 1) := by decide +kernel
theorem d_Dr_init_5 : decode b_Dr_init 5 = .ok (.sipush 256, 3) := by decide +kernel
theorem d_Dr_init_8 : decode b_Dr_init 8 = .ok (.newarray .long, 2) := by decide +kernel
theorem d_Dr_init_10 : decode b_Dr_init 10 = .ok (.putfield 9, 3) := by decide +kernel
theorem d_Dr_init_13 : decode b_Dr_init 13 = .ok (.aload_n 0, 1) := by decide +kernel
theorem d_Dr_init_14 : decode b_Dr_init 14 = .ok (.sipush 256, 3) := by decide +kernel
theorem d_Dr_init_17 : decode b_Dr_init 17 = .ok (.newarray .boolean, 2) := by decide +kernel
theorem d_Dr_init_19 : decode b_Dr_init 19 = .ok (.putfield 15, 3) := by decide +kernel
theorem d_Dr_init_22 : decode b_Dr_init 22 = .ok (.aload_n 0, 1) := by decide +kernel
theorem d_Dr_init_23 : decode b_Dr_init 23 = .ok (.sipush 256, 3) := by decide +kernel
theorem d_Dr_init_26 : decode b_Dr_init 26 = .ok (.newarray .int, 2) := by decide +kernel
theorem d_Dr_init_28 : decode b_Dr_init 28 = .ok (.putfield 19, 3) := by decide +kernel
theorem d_Dr_init_31 : decode b_Dr_init 31 = .ok (.return_, 1) := by decide +kernel
theorem d_Ar_fill_0 : decode b_Ar_fill 0 = .ok (.iconst 0, 1) := by decide +kernel
theorem d_Ar_fill_1 : decode b_Ar_fill 1 = .ok (.istore_n 3, 1) := by decide +kernel
theorem d_Ar_fill_2 : decode b_Ar_fill 2 = .ok (.aload_n 0, 1) := by decide +kernel
theorem d_Ar_fill_3 : decode b_Ar_fill 3 = .ok (.arraylength, 1) := by decide +kernel
theorem d_Ar_fill_4 : decode b_Ar_fill 4 = .ok (.istore 4, 2) := by decide +kernel
theorem d_Ar_fill_6 : decode b_Ar_fill 6 = .ok (.iload_n 3, 1) := by decide +kernel
theorem d_Ar_fill_7 : decode b_Ar_fill 7 = .ok (.iload 4, 2) := by decide +kernel
theorem d_Ar_fill_9 : decode b_Ar_fill 9 = .ok (.if_icmp .ge 13, 3) := by decide +kernel
theorem d_Ar_fill_12 : decode b_Ar_fill 12 = .ok (.aload_n 0, 1) := by decide +kernel
theorem d_Ar_fill_13 : decode b_Ar_fill 13 = .ok (.iload_n 3, 1) := by decide +kernel
theorem d_Ar_fill_14 : decode b_Ar_fill 14 = .ok (.lload_n 1, 1) := by decide +kernel
theorem d_Ar_fill_15 : decode b_Ar_fill 15 = .ok (.lastore, 1) := by decide +kernel
theorem d_Ar_fill_16 : decode b_Ar_fill 16 = .ok (.iinc 3 1, 3) := by decide +kernel
theorem d_Ar_fill_19 : decode b_Ar_fill 19 = .ok (.goto (-13), 3) := by decide +kernel
theorem d_Ar_fill_22 : decode b_Ar_fill 22 = .ok (.return_, 1) := by decide +kernel
theorem d_Dr_clear_0 : decode b_Dr_clear 0 = .ok (.iconst 0, 1) := by decide +kernel
theorem d_Dr_clear_1 : decode b_Dr_clear 1 = .ok (.istore_n 1, 1) := by decide +kernel
theorem d_Dr_clear_2 : decode b_Dr_clear 2 = .ok (.iload_n 1, 1) := by decide +kernel
theorem d_Dr_clear_3 : decode b_Dr_clear 3 = .ok (.aload_n 0, 1) := by decide +kernel
theorem d_Dr_clear_4 : decode b_Dr_clear 4 = .ok (.getfield 23, 3) := by decide +kernel
theorem d_Dr_clear_7 : decode b_Dr_clear 7 = .ok (.if_icmp .ge 21, 3) := by decide +kernel
theorem d_Dr_clear_10 : decode b_Dr_clear 10 = .ok (.aload_n 0, 1) := by decide +kernel
theorem d_Dr_clear_11 : decode b_Dr_clear 11 = .ok (.getfield 15, 3) := by decide +kernel
theorem d_Dr_clear_14 : decode b_Dr_clear 14 = .ok (.aload_n 0, 1) := by decide +kernel
theorem d_Dr_clear_15 : decode b_Dr_clear 15 = .ok (.getfield 19, 3) := by decide +kernel
theorem d_Dr_clear_18 : decode b_Dr_clear 18 = .ok (.iload_n 1, 1) := by decide +kernel
theorem d_Dr_clear_19 : decode b_Dr_clear 19 = .ok (.iaload, 1) := by decide +kernel
theorem d_Dr_clear_20 : decode b_Dr_clear 20 = .ok (.iconst 0, 1) := by decide +kernel
theorem d_Dr_clear_21 : decode b_Dr_clear 21 = .ok (.bastore, 1) := by decide +kernel
theorem d_Dr_clear_22 : decode b_Dr_clear 22 = .ok (.iinc 1 1, 3) := by decide +kernel
theorem d_Dr_clear_25 : decode b_Dr_clear 25 = .ok (.goto (-23), 3) := by decide +kernel
theorem d_Dr_clear_28 : decode b_Dr_clear 28 = .ok (.aload_n 0, 1) := by decide +kernel
theorem d_Dr_clear_29 : decode b_Dr_clear 29 = .ok (.iconst 0, 1) := by decide +kernel
theorem d_Dr_clear_30 : decode b_Dr_clear 30 = .ok (.putfield 23, 3) := by decide +kernel
theorem d_Dr_clear_33 : decode b_Dr_clear 33 = .ok (.return_, 1) := by decide +kernel
theorem d_Tr_has_0 : decode b_Tr_has 0 = .ok (.lload_n 1, 1) := by decide +kernel
theorem d_Tr_has_1 : decode b_Tr_has 1 = .ok (.lconst 0, 1) := by decide +kernel
theorem d_Tr_has_2 : decode b_Tr_has 2 = .ok (.lcmp, 1) := by decide +kernel
theorem d_Tr_has_3 : decode b_Tr_has 3 = .ok (.ifCond .lt 25, 3) := by decide +kernel
theorem d_Tr_has_6 : decode b_Tr_has 6 = .ok (.lload_n 1, 1) := by decide +kernel
theorem d_Tr_has_7 : decode b_Tr_has 7 = .ok (.aload_n 0, 1) := by decide +kernel
theorem d_Tr_has_8 : decode b_Tr_has 8 = .ok (.getfield 22, 3) := by decide +kernel
theorem d_Tr_has_11 : decode b_Tr_has 11 = .ok (.i2l, 1) := by decide +kernel
theorem d_Tr_has_12 : decode b_Tr_has 12 = .ok (.lcmp, 1) := by decide +kernel
theorem d_Tr_has_13 : decode b_Tr_has 13 = .ok (.ifCond .ge 15, 3) := by decide +kernel
theorem d_Tr_has_16 : decode b_Tr_has 16 = .ok (.lload_n 1, 1) := by decide +kernel
theorem d_Tr_has_17 : decode b_Tr_has 17 = .ok (.ldc2_w 34, 3) := by decide +kernel
theorem d_Tr_has_20 : decode b_Tr_has 20 = .ok (.lcmp, 1) := by decide +kernel
theorem d_Tr_has_21 : decode b_Tr_has 21 = .ok (.ifCond .ge 7, 3) := by decide +kernel
theorem d_Tr_has_24 : decode b_Tr_has 24 = .ok (.iconst 1, 1) := by decide +kernel
theorem d_Tr_has_25 : decode b_Tr_has 25 = .ok (.goto 4, 3) := by decide +kernel
theorem d_Tr_has_28 : decode b_Tr_has 28 = .ok (.iconst 0, 1) := by decide +kernel
theorem d_Tr_has_29 : decode b_Tr_has 29 = .ok (.ireturn, 1) := by decide +kernel
theorem d_Tr_firstAt_0 : decode b_Tr_firstAt 0 = .ok (.aload_n 0, 1) := by decide +kernel
theorem d_Tr_firstAt_1 : decode b_Tr_firstAt 1 = .ok (.iload_n 1, 1) := by decide +kernel
theorem d_Tr_firstAt_2 : decode b_Tr_firstAt 2 = .ok (.i2l, 1) := by decide +kernel
theorem d_Tr_firstAt_3 : decode b_Tr_firstAt 3 = .ok (.invokevirtual 36, 3) := by decide +kernel
theorem d_Tr_firstAt_6 : decode b_Tr_firstAt 6 = .ok (.ifCond .eq 12, 3) := by decide +kernel
theorem d_Tr_firstAt_9 : decode b_Tr_firstAt 9 = .ok (.aload_n 0, 1) := by decide +kernel
theorem d_Tr_firstAt_10 : decode b_Tr_firstAt 10 = .ok (.getfield 15, 3) := by decide +kernel
theorem d_Tr_firstAt_13 : decode b_Tr_firstAt 13 = .ok (.iload_n 1, 1) := by decide +kernel
theorem d_Tr_firstAt_14 : decode b_Tr_firstAt 14 = .ok (.iaload, 1) := by decide +kernel
theorem d_Tr_firstAt_15 : decode b_Tr_firstAt 15 = .ok (.goto 4, 3) := by decide +kernel
theorem d_Tr_firstAt_18 : decode b_Tr_firstAt 18 = .ok (.iconst 0, 1) := by decide +kernel
theorem d_Tr_firstAt_19 : decode b_Tr_firstAt 19 = .ok (.ireturn, 1) := by decide +kernel
theorem d_Tr_secondAt_0 : decode b_Tr_secondAt 0 = .ok (.aload_n 0, 1) := by decide +kernel
theorem d_Tr_secondAt_1 : decode b_Tr_secondAt 1 = .ok (.iload_n 1, 1) := by decide +kernel
theorem d_Tr_secondAt_2 : decode b_Tr_secondAt 2 = .ok (.i2l, 1) := by decide +kernel
theorem d_Tr_secondAt_3 : decode b_Tr_secondAt 3 = .ok (.invokevirtual 36, 3) := by decide +kernel
theorem d_Tr_secondAt_6 : decode b_Tr_secondAt 6 = .ok (.ifCond .eq 12, 3) := by decide +kernel
theorem d_Tr_secondAt_9 : decode b_Tr_secondAt 9 = .ok (.aload_n 0, 1) := by decide +kernel
theorem d_Tr_secondAt_10 : decode b_Tr_secondAt 10 = .ok (.getfield 18, 3) := by decide +kernel
theorem d_Tr_secondAt_13 : decode b_Tr_secondAt 13 = .ok (.iload_n 1, 1) := by decide +kernel
theorem d_Tr_secondAt_14 : decode b_Tr_secondAt 14 = .ok (.laload, 1) := by decide +kernel
theorem d_Tr_secondAt_15 : decode b_Tr_secondAt 15 = .ok (.goto 4, 3) := by decide +kernel
theorem d_Tr_secondAt_18 : decode b_Tr_secondAt 18 = .ok (.lconst 0, 1) := by decide +kernel
theorem d_Tr_secondAt_19 : decode b_Tr_secondAt 19 = .ok (.lreturn, 1) := by decide +kernel
theorem d_Tr_operationAt_0 : decode b_Tr_operationAt 0 = .ok (.aload_n 0, 1) := by decide +kernel
theorem d_Tr_operationAt_1 : decode b_Tr_operationAt 1 = .ok (.iload_n 1, 1) := by decide +kernel
theorem d_Tr_operationAt_2 : decode b_Tr_operationAt 2 = .ok (.i2l, 1) := by decide +kernel
theorem d_Tr_operationAt_3 : decode b_Tr_operationAt 3 = .ok (.invokevirtual 36, 3) := by decide +kernel
theorem d_Tr_operationAt_6 : decode b_Tr_operationAt 6 = .ok (.ifCond .eq 12, 3) := by decide +kernel
theorem d_Tr_operationAt_9 : decode b_Tr_operationAt 9 = .ok (.aload_n 0, 1) := by decide +kernel
theorem d_Tr_operationAt_10 : decode b_Tr_operationAt 10 = .ok (.getfield 9, 3) := by decide +kernel
theorem d_Tr_operationAt_13 : decode b_Tr_operationAt 13 = .ok (.iload_n 1, 1) := by decide +kernel
theorem d_Tr_operationAt_14 : decode b_Tr_operationAt 14 = .ok (.iaload, 1) := by decide +kernel
theorem d_Tr_operationAt_15 : decode b_Tr_operationAt 15 = .ok (.goto 4, 3) := by decide +kernel
theorem d_Tr_operationAt_18 : decode b_Tr_operationAt 18 = .ok (.iconst 0, 1) := by decide +kernel
theorem d_Tr_operationAt_19 : decode b_Tr_operationAt 19 = .ok (.ireturn, 1) := by decide +kernel
theorem d_Dr_has_0 : decode b_Dr_has 0 = .ok (.iload_n 1, 1) := by decide +kernel
theorem d_Dr_has_1 : decode b_Dr_has 1 = .ok (.ifCond .lt 23, 3) := by decide +kernel
theorem d_Dr_has_4 : decode b_Dr_has 4 = .ok (.iload_n 1, 1) := by decide +kernel
theorem d_Dr_has_5 : decode b_Dr_has 5 = .ok (.sipush 256, 3) := by decide +kernel
theorem d_Dr_has_8 : decode b_Dr_has 8 = .ok (.if_icmp .ge 16, 3) := by decide +kernel
theorem d_Dr_has_11 : decode b_Dr_has 11 = .ok (.aload_n 0, 1) := by decide +kernel
theorem d_Dr_has_12 : decode b_Dr_has 12 = .ok (.getfield 15, 3) := by decide +kernel
theorem d_Dr_has_15 : decode b_Dr_has 15 = .ok (.iload_n 1, 1) := by decide +kernel
theorem d_Dr_has_16 : decode b_Dr_has 16 = .ok (.baload, 1) := by decide +kernel
theorem d_Dr_has_17 : decode b_Dr_has 17 = .ok (.ifCond .eq 7, 3) := by decide +kernel
theorem d_Dr_has_20 : decode b_Dr_has 20 = .ok (.iconst 1, 1) := by decide +kernel
theorem d_Dr_has_21 : decode b_Dr_has 21 = .ok (.goto 4, 3) := by decide +kernel
theorem d_Dr_has_24 : decode b_Dr_has 24 = .ok (.iconst 0, 1) := by decide +kernel
theorem d_Dr_has_25 : decode b_Dr_has 25 = .ok (.ireturn, 1) := by decide +kernel
theorem d_Dr_numberIn_0 : decode b_Dr_numberIn 0 = .ok (.iload_n 1, 1) := by decide +kernel
theorem d_Dr_numberIn_1 : decode b_Dr_numberIn 1 = .ok (.ifCond .lt 19, 3) := by decide +kernel
theorem d_Dr_numberIn_4 : decode b_Dr_numberIn 4 = .ok (.iload_n 1, 1) := by decide +kernel
theorem d_Dr_numberIn_5 : decode b_Dr_numberIn 5 = .ok (.sipush 256, 3) := by decide +kernel
theorem d_Dr_numberIn_8 : decode b_Dr_numberIn 8 = .ok (.if_icmp .ge 12, 3) := by decide +kernel
theorem d_Dr_numberIn_11 : decode b_Dr_numberIn 11 = .ok (.aload_n 0, 1) := by decide +kernel
theorem d_Dr_numberIn_12 : decode b_Dr_numberIn 12 = .ok (.getfield 9, 3) := by decide +kernel
theorem d_Dr_numberIn_15 : decode b_Dr_numberIn 15 = .ok (.iload_n 1, 1) := by decide +kernel
theorem d_Dr_numberIn_16 : decode b_Dr_numberIn 16 = .ok (.laload, 1) := by decide +kernel
theorem d_Dr_numberIn_17 : decode b_Dr_numberIn 17 = .ok (.goto 4, 3) := by decide +kernel
theorem d_Dr_numberIn_20 : decode b_Dr_numberIn 20 = .ok (.lconst 0, 1) := by decide +kernel
theorem d_Dr_numberIn_21 : decode b_Dr_numberIn 21 = .ok (.lreturn, 1) := by decide +kernel
theorem d_Dr_keep_0 : decode b_Dr_keep 0 = .ok (.iload_n 1, 1) := by decide +kernel
theorem d_Dr_keep_1 : decode b_Dr_keep 1 = .ok (.ifCond .lt 10, 3) := by decide +kernel
theorem d_Dr_keep_4 : decode b_Dr_keep 4 = .ok (.iload_n 1, 1) := by decide +kernel
theorem d_Dr_keep_5 : decode b_Dr_keep 5 = .ok (.sipush 256, 3) := by decide +kernel
theorem d_Dr_keep_8 : decode b_Dr_keep 8 = .ok (.if_icmp .lt 4, 3) := by decide +kernel
theorem d_Dr_keep_11 : decode b_Dr_keep 11 = .ok (.return_, 1) := by decide +kernel
theorem d_Dr_keep_12 : decode b_Dr_keep 12 = .ok (.aload_n 0, 1) := by decide +kernel
theorem d_Dr_keep_13 : decode b_Dr_keep 13 = .ok (.getfield 15, 3) := by decide +kernel
theorem d_Dr_keep_16 : decode b_Dr_keep 16 = .ok (.iload_n 1, 1) := by decide +kernel
theorem d_Dr_keep_17 : decode b_Dr_keep 17 = .ok (.baload, 1) := by decide +kernel
theorem d_Dr_keep_18 : decode b_Dr_keep 18 = .ok (.ifCond .ne 40, 3) := by decide +kernel
theorem d_Dr_keep_21 : decode b_Dr_keep 21 = .ok (.aload_n 0, 1) := by decide +kernel
theorem d_Dr_keep_22 : decode b_Dr_keep 22 = .ok (.getfield 23, 3) := by decide +kernel
theorem d_Dr_keep_25 : decode b_Dr_keep 25 = .ok (.sipush 256, 3) := by decide +kernel
theorem d_Dr_keep_28 : decode b_Dr_keep 28 = .ok (.if_icmp .ge 30, 3) := by decide +kernel
theorem d_Dr_keep_31 : decode b_Dr_keep 31 = .ok (.aload_n 0, 1) := by decide +kernel
theorem d_Dr_keep_32 : decode b_Dr_keep 32 = .ok (.getfield 15, 3) := by decide +kernel
theorem d_Dr_keep_35 : decode b_Dr_keep 35 = .ok (.iload_n 1, 1) := by decide +kernel
theorem d_Dr_keep_36 : decode b_Dr_keep 36 = .ok (.iconst 1, 1) := by decide +kernel
theorem d_Dr_keep_37 : decode b_Dr_keep 37 = .ok (.bastore, 1) := by decide +kernel
theorem d_Dr_keep_38 : decode b_Dr_keep 38 = .ok (.aload_n 0, 1) := by decide +kernel
theorem d_Dr_keep_39 : decode b_Dr_keep 39 = .ok (.getfield 19, 3) := by decide +kernel
theorem d_Dr_keep_42 : decode b_Dr_keep 42 = .ok (.aload_n 0, 1) := by decide +kernel
theorem d_Dr_keep_43 : decode b_Dr_keep 43 = .ok (.getfield 23, 3) := by decide +kernel
theorem d_Dr_keep_46 : decode b_Dr_keep 46 = .ok (.iload_n 1, 1) := by decide +kernel
theorem d_Dr_keep_47 : decode b_Dr_keep 47 = .ok (.iastore, 1) := by decide +kernel
theorem d_Dr_keep_48 : decode b_Dr_keep 48 = .ok (.aload_n 0, 1) := by decide +kernel
theorem d_Dr_keep_49 : decode b_Dr_keep 49 = .ok (.dup, 1) := by decide +kernel
theorem d_Dr_keep_50 : decode b_Dr_keep 50 = .ok (.getfield 23, 3) := by decide +kernel
theorem d_Dr_keep_53 : decode b_Dr_keep 53 = .ok (.iconst 1, 1) := by decide +kernel
theorem d_Dr_keep_54 : decode b_Dr_keep 54 = .ok (.iadd, 1) := by decide +kernel
theorem d_Dr_keep_55 : decode b_Dr_keep 55 = .ok (.putfield 23, 3) := by decide +kernel
theorem d_Dr_keep_58 : decode b_Dr_keep 58 = .ok (.aload_n 0, 1) := by decide +kernel
theorem d_Dr_keep_59 : decode b_Dr_keep 59 = .ok (.getfield 9, 3) := by decide +kernel
theorem d_Dr_keep_62 : decode b_Dr_keep 62 = .ok (.iload_n 1, 1) := by decide +kernel
theorem d_Dr_keep_63 : decode b_Dr_keep 63 = .ok (.lload_n 2, 1) := by decide +kernel
theorem d_Dr_keep_64 : decode b_Dr_keep 64 = .ok (.lastore, 1) := by decide +kernel
theorem d_Dr_keep_65 : decode b_Dr_keep 65 = .ok (.return_, 1) := by decide +kernel
theorem d_Dr_size_0 : decode b_Dr_size 0 = .ok (.aload_n 0, 1) := by decide +kernel
theorem d_Dr_size_1 : decode b_Dr_size 1 = .ok (.getfield 23, 3) := by decide +kernel
theorem d_Dr_size_4 : decode b_Dr_size 4 = .ok (.ireturn, 1) := by decide +kernel
theorem d_Dr_placeAt_0 : decode b_Dr_placeAt 0 = .ok (.iload_n 1, 1) := by decide +kernel
theorem d_Dr_placeAt_1 : decode b_Dr_placeAt 1 = .ok (.ifCond .lt 20, 3) := by decide +kernel
theorem d_Dr_placeAt_4 : decode b_Dr_placeAt 4 = .ok (.iload_n 1, 1) := by decide +kernel
theorem d_Dr_placeAt_5 : decode b_Dr_placeAt 5 = .ok (.aload_n 0, 1) := by decide +kernel
theorem d_Dr_placeAt_6 : decode b_Dr_placeAt 6 = .ok (.getfield 23, 3) := by decide +kernel
theorem d_Dr_placeAt_9 : decode b_Dr_placeAt 9 = .ok (.if_icmp .ge 12, 3) := by decide +kernel
theorem d_Dr_placeAt_12 : decode b_Dr_placeAt 12 = .ok (.aload_n 0, 1) := by decide +kernel
theorem d_Dr_placeAt_13 : decode b_Dr_placeAt 13 = .ok (.getfield 19, 3) := by decide +kernel
theorem d_Dr_placeAt_16 : decode b_Dr_placeAt 16 = .ok (.iload_n 1, 1) := by decide +kernel
theorem d_Dr_placeAt_17 : decode b_Dr_placeAt 17 = .ok (.iaload, 1) := by decide +kernel
theorem d_Dr_placeAt_18 : decode b_Dr_placeAt 18 = .ok (.goto 4, 3) := by decide +kernel
theorem d_Dr_placeAt_21 : decode b_Dr_placeAt 21 = .ok (.iconst 0, 1) := by decide +kernel
theorem d_Dr_placeAt_22 : decode b_Dr_placeAt 22 = .ok (.ireturn, 1) := by decide +kernel
theorem d_Tr_note_0 : decode b_Tr_note 0 = .ok (.aload_n 0, 1) := by decide +kernel
theorem d_Tr_note_1 : decode b_Tr_note 1 = .ok (.iconst 1, 1) := by decide +kernel
theorem d_Tr_note_2 : decode b_Tr_note 2 = .ok (.putfield 26, 3) := by decide +kernel
theorem d_Tr_note_5 : decode b_Tr_note 5 = .ok (.aload_n 0, 1) := by decide +kernel
theorem d_Tr_note_6 : decode b_Tr_note 6 = .ok (.iload_n 1, 1) := by decide +kernel
theorem d_Tr_note_7 : decode b_Tr_note 7 = .ok (.putfield 40, 3) := by decide +kernel
theorem d_Tr_note_10 : decode b_Tr_note 10 = .ok (.aload_n 0, 1) := by decide +kernel
theorem d_Tr_note_11 : decode b_Tr_note 11 = .ok (.iload_n 2, 1) := by decide +kernel
theorem d_Tr_note_12 : decode b_Tr_note 12 = .ok (.putfield 43, 3) := by decide +kernel
theorem d_Tr_note_15 : decode b_Tr_note 15 = .ok (.aload_n 0, 1) := by decide +kernel
theorem d_Tr_note_16 : decode b_Tr_note 16 = .ok (.iload_n 3, 1) := by decide +kernel
theorem d_Tr_note_17 : decode b_Tr_note 17 = .ok (.putfield 46, 3) := by decide +kernel
theorem d_Tr_note_20 : decode b_Tr_note 20 = .ok (.aload_n 0, 1) := by decide +kernel
theorem d_Tr_note_21 : decode b_Tr_note 21 = .ok (.iload 4, 2) := by decide +kernel
theorem d_Tr_note_23 : decode b_Tr_note 23 = .ok (.putfield 49, 3) := by decide +kernel
theorem d_Tr_note_26 : decode b_Tr_note 26 = .ok (.aload_n 0, 1) := by decide +kernel
theorem d_Tr_note_27 : decode b_Tr_note 27 = .ok (.lload 5, 2) := by decide +kernel
theorem d_Tr_note_29 : decode b_Tr_note 29 = .ok (.putfield 52, 3) := by decide +kernel
theorem d_Tr_note_32 : decode b_Tr_note 32 = .ok (.return_, 1) := by decide +kernel
theorem d_Tr_tell_0 : decode b_Tr_tell 0 = .ok (.iload_n 1, 1) := by decide +kernel
theorem d_Tr_tell_1 : decode b_Tr_tell 1 = .ok (.ifCond .lt 8, 3) := by decide +kernel
theorem d_Tr_tell_4 : decode b_Tr_tell 4 = .ok (.iload_n 1, 1) := by decide +kernel
theorem d_Tr_tell_5 : decode b_Tr_tell 5 = .ok (.iconst 3, 1) := by decide +kernel
theorem d_Tr_tell_6 : decode b_Tr_tell 6 = .ok (.if_icmp .le 5, 3) := by decide +kernel
theorem d_Tr_tell_9 : decode b_Tr_tell 9 = .ok (.iconst (-1), 1) := by decide +kernel
theorem d_Tr_tell_10 : decode b_Tr_tell 10 = .ok (.ireturn, 1) := by decide +kernel
theorem d_Tr_tell_11 : decode b_Tr_tell 11 = .ok (.aload_n 0, 1) := by decide +kernel
theorem d_Tr_tell_12 : decode b_Tr_tell 12 = .ok (.getfield 26, 3) := by decide +kernel
theorem d_Tr_tell_15 : decode b_Tr_tell 15 = .ok (.ifCond .ne 6, 3) := by decide +kernel
theorem d_Tr_tell_18 : decode b_Tr_tell 18 = .ok (.bipush (-2), 2) := by decide +kernel
theorem d_Tr_tell_20 : decode b_Tr_tell 20 = .ok (.ireturn, 1) := by decide +kernel
theorem d_Tr_tell_21 : decode b_Tr_tell 21 = .ok (.iload_n 1, 1) := by decide +kernel
theorem d_Tr_tell_22 : decode b_Tr_tell 22 = .ok (.tableswitch 41 0 2 #[26, 31, 36], 26) := by decide +kernel
theorem d_Tr_tell_48 : decode b_Tr_tell 48 = .ok (.aload_n 0, 1) := by decide +kernel
theorem d_Tr_tell_49 : decode b_Tr_tell 49 = .ok (.getfield 40, 3) := by decide +kernel
theorem d_Tr_tell_52 : decode b_Tr_tell 52 = .ok (.ireturn, 1) := by decide +kernel
theorem d_Tr_tell_53 : decode b_Tr_tell 53 = .ok (.aload_n 0, 1) := by decide +kernel
theorem d_Tr_tell_54 : decode b_Tr_tell 54 = .ok (.getfield 43, 3) := by decide +kernel
theorem d_Tr_tell_57 : decode b_Tr_tell 57 = .ok (.ireturn, 1) := by decide +kernel
theorem d_Tr_tell_58 : decode b_Tr_tell 58 = .ok (.aload_n 0, 1) := by decide +kernel
theorem d_Tr_tell_59 : decode b_Tr_tell 59 = .ok (.getfield 46, 3) := by decide +kernel
theorem d_Tr_tell_62 : decode b_Tr_tell 62 = .ok (.ireturn, 1) := by decide +kernel
theorem d_Tr_tell_63 : decode b_Tr_tell 63 = .ok (.aload_n 0, 1) := by decide +kernel
theorem d_Tr_tell_64 : decode b_Tr_tell 64 = .ok (.getfield 49, 3) := by decide +kernel
theorem d_Tr_tell_67 : decode b_Tr_tell 67 = .ok (.ireturn, 1) := by decide +kernel
theorem d_Tr_tellResult_0 : decode b_Tr_tellResult 0 = .ok (.aload_n 0, 1) := by decide +kernel
theorem d_Tr_tellResult_1 : decode b_Tr_tellResult 1 = .ok (.getfield 26, 3) := by decide +kernel
theorem d_Tr_tellResult_4 : decode b_Tr_tellResult 4 = .ok (.ifCond .eq 10, 3) := by decide +kernel
theorem d_Tr_tellResult_7 : decode b_Tr_tellResult 7 = .ok (.aload_n 0, 1) := by decide +kernel
theorem d_Tr_tellResult_8 : decode b_Tr_tellResult 8 = .ok (.getfield 52, 3) := by decide +kernel
theorem d_Tr_tellResult_11 : decode b_Tr_tellResult 11 = .ok (.goto 4, 3) := by decide +kernel
theorem d_Tr_tellResult_14 : decode b_Tr_tellResult 14 = .ok (.lconst 0, 1) := by decide +kernel
theorem d_Tr_tellResult_15 : decode b_Tr_tellResult 15 = .ok (.lreturn, 1) := by decide +kernel
theorem d_Ma_floorMod_JJ_0 : decode b_Ma_floorMod_JJ 0 = .ok (.lload_n 0, 1) := by decide +kernel
theorem d_Ma_floorMod_JJ_1 : decode b_Ma_floorMod_JJ 1 = .ok (.lload_n 2, 1) := by decide +kernel
theorem d_Ma_floorMod_JJ_2 : decode b_Ma_floorMod_JJ 2 = .ok (.lrem, 1) := by decide +kernel
theorem d_Ma_floorMod_JJ_3 : decode b_Ma_floorMod_JJ 3 = .ok (.lstore 4, 2) := by decide +kernel
theorem d_Ma_floorMod_JJ_5 : decode b_Ma_floorMod_JJ 5 = .ok (.lload_n 0, 1) := by decide +kernel
theorem d_Ma_floorMod_JJ_6 : decode b_Ma_floorMod_JJ 6 = .ok (.lload_n 2, 1) := by decide +kernel
theorem d_Ma_floorMod_JJ_7 : decode b_Ma_floorMod_JJ 7 = .ok (.lxor, 1) := by decide +kernel
theorem d_Ma_floorMod_JJ_8 : decode b_Ma_floorMod_JJ 8 = .ok (.lconst 0, 1) := by decide +kernel
theorem d_Ma_floorMod_JJ_9 : decode b_Ma_floorMod_JJ 9 = .ok (.lcmp, 1) := by decide +kernel
theorem d_Ma_floorMod_JJ_10 : decode b_Ma_floorMod_JJ 10 = .ok (.ifCond .ge 15, 3) := by decide +kernel
theorem d_Ma_floorMod_JJ_13 : decode b_Ma_floorMod_JJ 13 = .ok (.lload 4, 2) := by decide +kernel
theorem d_Ma_floorMod_JJ_15 : decode b_Ma_floorMod_JJ 15 = .ok (.lconst 0, 1) := by decide +kernel
theorem d_Ma_floorMod_JJ_16 : decode b_Ma_floorMod_JJ 16 = .ok (.lcmp, 1) := by decide +kernel
theorem d_Ma_floorMod_JJ_17 : decode b_Ma_floorMod_JJ 17 = .ok (.ifCond .eq 8, 3) := by decide +kernel
theorem d_Ma_floorMod_JJ_20 : decode b_Ma_floorMod_JJ 20 = .ok (.lload 4, 2) := by decide +kernel
theorem d_Ma_floorMod_JJ_22 : decode b_Ma_floorMod_JJ 22 = .ok (.lload_n 2, 1) := by decide +kernel
theorem d_Ma_floorMod_JJ_23 : decode b_Ma_floorMod_JJ 23 = .ok (.ladd, 1) := by decide +kernel
theorem d_Ma_floorMod_JJ_24 : decode b_Ma_floorMod_JJ 24 = .ok (.lreturn, 1) := by decide +kernel
theorem d_Ma_floorMod_JJ_25 : decode b_Ma_floorMod_JJ 25 = .ok (.lload 4, 2) := by decide +kernel
theorem d_Ma_floorMod_JJ_27 : decode b_Ma_floorMod_JJ 27 = .ok (.lreturn, 1) := by decide +kernel
end
section
theorem d_Wk_isFree_0 : decode b_Wk_isFree 0 = .ok (.aload_n 0, 1) := by decide +kernel
theorem d_Wk_isFree_1 : decode b_Wk_isFree 1 = .ok (.getfield 25, 3) := by decide +kernel
theorem d_Wk_isFree_4 : decode b_Wk_isFree 4 = .ok (.ifnonnull 7, 3) := by decide +kernel
theorem d_Wk_isFree_7 : decode b_Wk_isFree 7 = .ok (.iconst 1, 1) := by decide +kernel
theorem d_Wk_isFree_8 : decode b_Wk_isFree 8 = .ok (.goto 4, 3) := by decide +kernel
theorem d_Wk_isFree_11 : decode b_Wk_isFree 11 = .ok (.iconst 0, 1) := by decide +kernel
theorem d_Wk_isFree_12 : decode b_Wk_isFree 12 = .ok (.ireturn, 1) := by decide +kernel
theorem d_Wk_init_0 : decode b_Wk_init 0 = .ok (.aload_n 0, 1) := by decide +kernel
theorem d_Wk_init_1 : decode b_Wk_init 1 = .ok (.invokespecial 3, 3) := by decide +kernel
theorem d_Wk_init_4 : decode b_Wk_init 4 = .ok (.aload_n 0, 1) := by decide +kernel
theorem d_Wk_init_5 : decode b_Wk_init 5 = .ok (.bipush 8, 2) := by decide +kernel
theorem d_Wk_init_7 : decode b_Wk_init 7 = .ok (.newarray .long, 2) := by decide +kernel
theorem d_Wk_init_9 : decode b_Wk_init 9 = .ok (.putfield 9, 3) := by decide +kernel
theorem d_Wk_init_12 : decode b_Wk_init 12 = .ok (.aload_n 0, 1) := by decide +kernel
theorem d_Wk_init_13 : decode b_Wk_init 13 = .ok (.new 15, 3) := by decide +kernel
theorem d_Wk_init_16 : decode b_Wk_init 16 = .ok (.dup, 1) := by decide +kernel
theorem d_Wk_init_17 : decode b_Wk_init 17 = .ok (.invokespecial 17, 3) := by decide +kernel
theorem d_Wk_init_20 : decode b_Wk_init 20 = .ok (.putfield 18, 3) := by decide +kernel
theorem d_Wk_init_23 : decode b_Wk_init 23 = .ok (.aload_n 0, 1) := by decide +kernel
theorem d_Wk_init_24 : decode b_Wk_init 24 = .ok (.new 15, 3) := by decide +kernel
theorem d_Wk_init_27 : decode b_Wk_init 27 = .ok (.dup, 1) := by decide +kernel
theorem d_Wk_init_28 : decode b_Wk_init 28 = .ok (.invokespecial 17, 3) := by decide +kernel
theorem d_Wk_init_31 : decode b_Wk_init 31 = .ok (.putfield 22, 3) := by decide +kernel
theorem d_Wk_init_34 : decode b_Wk_init 34 = .ok (.return_, 1) := by decide +kernel
theorem d_Wk_take_0 : decode b_Wk_take 0 = .ok (.aload_n 0, 1) := by decide +kernel
theorem d_Wk_take_1 : decode b_Wk_take 1 = .ok (.aload_n 1, 1) := by decide +kernel
theorem d_Wk_take_2 : decode b_Wk_take 2 = .ok (.putfield 25, 3) := by decide +kernel
theorem d_Wk_take_5 : decode b_Wk_take 5 = .ok (.aload_n 0, 1) := by decide +kernel
theorem d_Wk_take_6 : decode b_Wk_take 6 = .ok (.iload_n 2, 1) := by decide +kernel
theorem d_Wk_take_7 : decode b_Wk_take 7 = .ok (.putfield 33, 3) := by decide +kernel
theorem d_Wk_take_10 : decode b_Wk_take 10 = .ok (.aload_n 0, 1) := by decide +kernel
theorem d_Wk_take_11 : decode b_Wk_take 11 = .ok (.invokevirtual 36, 3) := by decide +kernel
theorem d_Wk_take_14 : decode b_Wk_take 14 = .ok (.return_, 1) := by decide +kernel
theorem d_Wk_startAnew_0 : decode b_Wk_startAnew 0 = .ok (.aload_n 0, 1) := by decide +kernel
theorem d_Wk_startAnew_1 : decode b_Wk_startAnew 1 = .ok (.getfield 9, 3) := by decide +kernel
theorem d_Wk_startAnew_4 : decode b_Wk_startAnew 4 = .ok (.lconst 0, 1) := by decide +kernel
theorem d_Wk_startAnew_5 : decode b_Wk_startAnew 5 = .ok (.invokestatic 39, 3) := by decide +kernel
theorem d_Wk_startAnew_8 : decode b_Wk_startAnew 8 = .ok (.aload_n 0, 1) := by decide +kernel
theorem d_Wk_startAnew_9 : decode b_Wk_startAnew 9 = .ok (.getfield 18, 3) := by decide +kernel
theorem d_Wk_startAnew_12 : decode b_Wk_startAnew 12 = .ok (.invokevirtual 45, 3) := by decide +kernel
theorem d_Wk_startAnew_15 : decode b_Wk_startAnew 15 = .ok (.aload_n 0, 1) := by decide +kernel
theorem d_Wk_startAnew_16 : decode b_Wk_startAnew 16 = .ok (.getfield 22, 3) := by decide +kernel
theorem d_Wk_startAnew_19 : decode b_Wk_startAnew 19 = .ok (.invokevirtual 45, 3) := by decide +kernel
theorem d_Wk_startAnew_22 : decode b_Wk_startAnew 22 = .ok (.aload_n 0, 1) := by decide +kernel
theorem d_Wk_startAnew_23 : decode b_Wk_startAnew 23 = .ok (.iconst 0, 1) := by decide +kernel
theorem d_Wk_startAnew_24 : decode b_Wk_startAnew 24 = .ok (.putfield 48, 3) := by decide +kernel
theorem d_Wk_startAnew_27 : decode b_Wk_startAnew 27 = .ok (.aload_n 0, 1) := by decide +kernel
theorem d_Wk_startAnew_28 : decode b_Wk_startAnew 28 = .ok (.iconst 0, 1) := by decide +kernel
theorem d_Wk_startAnew_29 : decode b_Wk_startAnew 29 = .ok (.putfield 51, 3) := by decide +kernel
theorem d_Wk_startAnew_32 : decode b_Wk_startAnew 32 = .ok (.aload_n 0, 1) := by decide +kernel
theorem d_Wk_startAnew_33 : decode b_Wk_startAnew 33 = .ok (.iconst 0, 1) := by decide +kernel
theorem d_Wk_startAnew_34 : decode b_Wk_startAnew 34 = .ok (.putfield 54, 3) := by decide +kernel
theorem d_Wk_startAnew_37 : decode b_Wk_startAnew 37 = .ok (.aload_n 0, 1) := by decide +kernel
theorem d_Wk_startAnew_38 : decode b_Wk_startAnew 38 = .ok (.iconst 0, 1) := by decide +kernel
theorem d_Wk_startAnew_39 : decode b_Wk_startAnew 39 = .ok (.putfield 29, 3) := by decide +kernel
theorem d_Wk_startAnew_42 : decode b_Wk_startAnew 42 = .ok (.return_, 1) := by decide +kernel
theorem d_Wk_isAtEnd_0 : decode b_Wk_isAtEnd 0 = .ok (.aload_n 0, 1) := by decide +kernel
theorem d_Wk_isAtEnd_1 : decode b_Wk_isAtEnd 1 = .ok (.getfield 29, 3) := by decide +kernel
theorem d_Wk_isAtEnd_4 : decode b_Wk_isAtEnd 4 = .ok (.ifCond .eq 7, 3) := by decide +kernel
theorem d_Wk_isAtEnd_7 : decode b_Wk_isAtEnd 7 = .ok (.iconst 1, 1) := by decide +kernel
theorem d_Wk_isAtEnd_8 : decode b_Wk_isAtEnd 8 = .ok (.goto 4, 3) := by decide +kernel
theorem d_Wk_isAtEnd_11 : decode b_Wk_isAtEnd 11 = .ok (.iconst 0, 1) := by decide +kernel
theorem d_Wk_isAtEnd_12 : decode b_Wk_isAtEnd 12 = .ok (.ireturn, 1) := by decide +kernel
theorem d_Wk_doNext_0 : decode b_Wk_doNext 0 = .ok (.aload_n 0, 1) := by decide +kernel
theorem d_Wk_doNext_1 : decode b_Wk_doNext 1 = .ok (.getfield 25, 3) := by decide +kernel
theorem d_Wk_doNext_4 : decode b_Wk_doNext 4 = .ok (.astore_n 2, 1) := by decide +kernel
theorem d_Wk_doNext_5 : decode b_Wk_doNext 5 = .ok (.aload_n 2, 1) := by decide +kernel
theorem d_Wk_doNext_6 : decode b_Wk_doNext 6 = .ok (.ifnull 15, 3) := by decide +kernel
theorem d_Wk_doNext_9 : decode b_Wk_doNext 9 = .ok (.aload_n 2, 1) := by decide +kernel
theorem d_Wk_doNext_10 : decode b_Wk_doNext 10 = .ok (.aload_n 0, 1) := by decide +kernel
theorem d_Wk_doNext_11 : decode b_Wk_doNext 11 = .ok (.getfield 48, 3) := by decide +kernel
theorem d_Wk_doNext_14 : decode b_Wk_doNext 14 = .ok (.i2l, 1) := by decide +kernel
theorem d_Wk_doNext_15 : decode b_Wk_doNext 15 = .ok (.invokevirtual 57, 3) := by decide +kernel
theorem d_Wk_doNext_18 : decode b_Wk_doNext 18 = .ok (.ifCond .ne 11, 3) := by decide +kernel
theorem d_Wk_doNext_21 : decode b_Wk_doNext 21 = .ok (.aload_n 0, 1) := by decide +kernel
theorem d_Wk_doNext_22 : decode b_Wk_doNext 22 = .ok (.iconst 1, 1) := by decide +kernel
theorem d_Wk_doNext_23 : decode b_Wk_doNext 23 = .ok (.putfield 29, 3) := by decide +kernel
theorem d_Wk_doNext_26 : decode b_Wk_doNext 26 = .ok (.goto 53, 3) := by decide +kernel
theorem d_Wk_doNext_29 : decode b_Wk_doNext 29 = .ok (.aload_n 0, 1) := by decide +kernel
theorem d_Wk_doNext_30 : decode b_Wk_doNext 30 = .ok (.getfield 51, 3) := by decide +kernel
theorem d_Wk_doNext_33 : decode b_Wk_doNext 33 = .ok (.sipush 300, 3) := by decide +kernel
theorem d_Wk_doNext_36 : decode b_Wk_doNext 36 = .ok (.if_icmp .lt 11, 3) := by decide +kernel
theorem d_Wk_doNext_39 : decode b_Wk_doNext 39 = .ok (.aload_n 0, 1) := by decide +kernel
theorem d_Wk_doNext_40 : decode b_Wk_doNext 40 = .ok (.iconst 3, 1) := by decide +kernel
theorem d_Wk_doNext_41 : decode b_Wk_doNext 41 = .ok (.putfield 29, 3) := by decide +kernel
theorem d_Wk_doNext_44 : decode b_Wk_doNext 44 = .ok (.goto 35, 3) := by decide +kernel
theorem d_Wk_doNext_47 : decode b_Wk_doNext 47 = .ok (.aload_n 0, 1) := by decide +kernel
theorem d_Wk_doNext_48 : decode b_Wk_doNext 48 = .ok (.getfield 48, 3) := by decide +kernel
theorem d_Wk_doNext_51 : decode b_Wk_doNext 51 = .ok (.istore_n 3, 1) := by decide +kernel
theorem d_Wk_doNext_52 : decode b_Wk_doNext 52 = .ok (.aload_n 0, 1) := by decide +kernel
theorem d_Wk_doNext_53 : decode b_Wk_doNext 53 = .ok (.dup, 1) := by decide +kernel
theorem d_Wk_doNext_54 : decode b_Wk_doNext 54 = .ok (.getfield 48, 3) := by decide +kernel
theorem d_Wk_doNext_57 : decode b_Wk_doNext 57 = .ok (.iconst 1, 1) := by decide +kernel
theorem d_Wk_doNext_58 : decode b_Wk_doNext 58 = .ok (.iadd, 1) := by decide +kernel
theorem d_Wk_doNext_59 : decode b_Wk_doNext 59 = .ok (.putfield 48, 3) := by decide +kernel
theorem d_Wk_doNext_62 : decode b_Wk_doNext 62 = .ok (.aload_n 0, 1) := by decide +kernel
theorem d_Wk_doNext_63 : decode b_Wk_doNext 63 = .ok (.dup, 1) := by decide +kernel
theorem d_Wk_doNext_64 : decode b_Wk_doNext 64 = .ok (.getfield 51, 3) := by decide +kernel
theorem d_Wk_doNext_67 : decode b_Wk_doNext 67 = .ok (.iconst 1, 1) := by decide +kernel
theorem d_Wk_doNext_68 : decode b_Wk_doNext 68 = .ok (.iadd, 1) := by decide +kernel
theorem d_Wk_doNext_69 : decode b_Wk_doNext 69 = .ok (.putfield 51, 3) := by decide +kernel
theorem d_Wk_doNext_72 : decode b_Wk_doNext 72 = .ok (.aload_n 0, 1) := by decide +kernel
theorem d_Wk_doNext_73 : decode b_Wk_doNext 73 = .ok (.aload_n 2, 1) := by decide +kernel
theorem d_Wk_doNext_74 : decode b_Wk_doNext 74 = .ok (.iload_n 3, 1) := by decide +kernel
theorem d_Wk_doNext_75 : decode b_Wk_doNext 75 = .ok (.aload_n 1, 1) := by decide +kernel
theorem d_Wk_doNext_76 : decode b_Wk_doNext 76 = .ok (.invokevirtual 63, 3) := by decide +kernel
theorem d_Wk_doNext_79 : decode b_Wk_doNext 79 = .ok (.return_, 1) := by decide +kernel
theorem d_Wk_perform_0 : decode b_Wk_perform 0 = .ok (.aload_n 1, 1) := by decide +kernel
theorem d_Wk_perform_1 : decode b_Wk_perform 1 = .ok (.iload_n 2, 1) := by decide +kernel
theorem d_Wk_perform_2 : decode b_Wk_perform 2 = .ok (.invokevirtual 67, 3) := by decide +kernel
theorem d_Wk_perform_5 : decode b_Wk_perform 5 = .ok (.istore 4, 2) := by decide +kernel
theorem d_Wk_perform_7 : decode b_Wk_perform 7 = .ok (.aload_n 1, 1) := by decide +kernel
theorem d_Wk_perform_8 : decode b_Wk_perform 8 = .ok (.iload_n 2, 1) := by decide +kernel
theorem d_Wk_perform_9 : decode b_Wk_perform 9 = .ok (.invokevirtual 71, 3) := by decide +kernel
theorem d_Wk_perform_12 : decode b_Wk_perform 12 = .ok (.lstore 5, 2) := by decide +kernel
theorem d_Wk_perform_14 : decode b_Wk_perform 14 = .ok (.lload 5, 2) := by decide +kernel
theorem d_Wk_perform_16 : decode b_Wk_perform 16 = .ok (.invokestatic 75, 3) := by decide +kernel
theorem d_Wk_perform_19 : decode b_Wk_perform 19 = .ok (.istore 7, 2) := by decide +kernel
theorem d_Wk_perform_21 : decode b_Wk_perform 21 = .ok (.aload_n 1, 1) := by decide +kernel
theorem d_Wk_perform_22 : decode b_Wk_perform 22 = .ok (.iload_n 2, 1) := by decide +kernel
theorem d_Wk_perform_23 : decode b_Wk_perform 23 = .ok (.invokevirtual 79, 3) := by decide +kernel
theorem d_Wk_perform_26 : decode b_Wk_perform 26 = .ok (.tableswitch 271 1 10 #[54, 66, 91, 118, 138, 158, 178, 213, 263, 246], 54) := by decide +kernel
theorem d_Wk_perform_80 : decode b_Wk_perform 80 = .ok (.aload_n 0, 1) := by decide +kernel
theorem d_Wk_perform_81 : decode b_Wk_perform 81 = .ok (.getfield 9, 3) := by decide +kernel
theorem d_Wk_perform_84 : decode b_Wk_perform 84 = .ok (.iload 4, 2) := by decide +kernel
theorem d_Wk_perform_86 : decode b_Wk_perform 86 = .ok (.lload 5, 2) := by decide +kernel
theorem d_Wk_perform_88 : decode b_Wk_perform 88 = .ok (.lastore, 1) := by decide +kernel
theorem d_Wk_perform_89 : decode b_Wk_perform 89 = .ok (.goto 213, 3) := by decide +kernel
theorem d_Wk_perform_92 : decode b_Wk_perform 92 = .ok (.aload_n 0, 1) := by decide +kernel
theorem d_Wk_perform_93 : decode b_Wk_perform 93 = .ok (.getfield 9, 3) := by decide +kernel
theorem d_Wk_perform_96 : decode b_Wk_perform 96 = .ok (.iload 4, 2) := by decide +kernel
theorem d_Wk_perform_98 : decode b_Wk_perform 98 = .ok (.aload_n 0, 1) := by decide +kernel
theorem d_Wk_perform_99 : decode b_Wk_perform 99 = .ok (.aload_n 0, 1) := by decide +kernel
theorem d_Wk_perform_100 : decode b_Wk_perform 100 = .ok (.getfield 9, 3) := by decide +kernel
theorem d_Wk_perform_103 : decode b_Wk_perform 103 = .ok (.iload 7, 2) := by decide +kernel
theorem d_Wk_perform_105 : decode b_Wk_perform 105 = .ok (.laload, 1) := by decide +kernel
theorem d_Wk_perform_106 : decode b_Wk_perform 106 = .ok (.invokestatic 82, 3) := by decide +kernel
theorem d_Wk_perform_109 : decode b_Wk_perform 109 = .ok (.aload_n 3, 1) := by decide +kernel
theorem d_Wk_perform_110 : decode b_Wk_perform 110 = .ok (.invokevirtual 85, 3) := by decide +kernel
theorem d_Wk_perform_113 : decode b_Wk_perform 113 = .ok (.lastore, 1) := by decide +kernel
theorem d_Wk_perform_114 : decode b_Wk_perform 114 = .ok (.goto 188, 3) := by decide +kernel
theorem d_Wk_perform_117 : decode b_Wk_perform 117 = .ok (.aload_n 0, 1) := by decide +kernel
theorem d_Wk_perform_118 : decode b_Wk_perform 118 = .ok (.getfield 22, 3) := by decide +kernel
theorem d_Wk_perform_121 : decode b_Wk_perform 121 = .ok (.aload_n 0, 1) := by decide +kernel
theorem d_Wk_perform_122 : decode b_Wk_perform 122 = .ok (.getfield 9, 3) := by decide +kernel
theorem d_Wk_perform_125 : decode b_Wk_perform 125 = .ok (.iload 7, 2) := by decide +kernel
theorem d_Wk_perform_127 : decode b_Wk_perform 127 = .ok (.laload, 1) := by decide +kernel
theorem d_Wk_perform_128 : decode b_Wk_perform 128 = .ok (.invokestatic 82, 3) := by decide +kernel
theorem d_Wk_perform_131 : decode b_Wk_perform 131 = .ok (.aload_n 0, 1) := by decide +kernel
theorem d_Wk_perform_132 : decode b_Wk_perform 132 = .ok (.getfield 9, 3) := by decide +kernel
theorem d_Wk_perform_135 : decode b_Wk_perform 135 = .ok (.iload 4, 2) := by decide +kernel
theorem d_Wk_perform_137 : decode b_Wk_perform 137 = .ok (.laload, 1) := by decide +kernel
theorem d_Wk_perform_138 : decode b_Wk_perform 138 = .ok (.invokevirtual 89, 3) := by decide +kernel
theorem d_Wk_perform_141 : decode b_Wk_perform 141 = .ok (.goto 161, 3) := by decide +kernel
theorem d_Wk_perform_144 : decode b_Wk_perform 144 = .ok (.aload_n 0, 1) := by decide +kernel
theorem d_Wk_perform_145 : decode b_Wk_perform 145 = .ok (.getfield 9, 3) := by decide +kernel
theorem d_Wk_perform_148 : decode b_Wk_perform 148 = .ok (.iload 4, 2) := by decide +kernel
theorem d_Wk_perform_150 : decode b_Wk_perform 150 = .ok (.dup2, 1) := by decide +kernel
theorem d_Wk_perform_151 : decode b_Wk_perform 151 = .ok (.laload, 1) := by decide +kernel
theorem d_Wk_perform_152 : decode b_Wk_perform 152 = .ok (.aload_n 0, 1) := by decide +kernel
theorem d_Wk_perform_153 : decode b_Wk_perform 153 = .ok (.getfield 9, 3) := by decide +kernel
theorem d_Wk_perform_156 : decode b_Wk_perform 156 = .ok (.iload 7, 2) := by decide +kernel
theorem d_Wk_perform_158 : decode b_Wk_perform 158 = .ok (.laload, 1) := by decide +kernel
theorem d_Wk_perform_159 : decode b_Wk_perform 159 = .ok (.ladd, 1) := by decide +kernel
theorem d_Wk_perform_160 : decode b_Wk_perform 160 = .ok (.lastore, 1) := by decide +kernel
theorem d_Wk_perform_161 : decode b_Wk_perform 161 = .ok (.goto 141, 3) := by decide +kernel
theorem d_Wk_perform_164 : decode b_Wk_perform 164 = .ok (.aload_n 0, 1) := by decide +kernel
theorem d_Wk_perform_165 : decode b_Wk_perform 165 = .ok (.getfield 9, 3) := by decide +kernel
theorem d_Wk_perform_168 : decode b_Wk_perform 168 = .ok (.iload 4, 2) := by decide +kernel
theorem d_Wk_perform_170 : decode b_Wk_perform 170 = .ok (.dup2, 1) := by decide +kernel
theorem d_Wk_perform_171 : decode b_Wk_perform 171 = .ok (.laload, 1) := by decide +kernel
theorem d_Wk_perform_172 : decode b_Wk_perform 172 = .ok (.aload_n 0, 1) := by decide +kernel
theorem d_Wk_perform_173 : decode b_Wk_perform 173 = .ok (.getfield 9, 3) := by decide +kernel
theorem d_Wk_perform_176 : decode b_Wk_perform 176 = .ok (.iload 7, 2) := by decide +kernel
theorem d_Wk_perform_178 : decode b_Wk_perform 178 = .ok (.laload, 1) := by decide +kernel
theorem d_Wk_perform_179 : decode b_Wk_perform 179 = .ok (.lsub, 1) := by decide +kernel
theorem d_Wk_perform_180 : decode b_Wk_perform 180 = .ok (.lastore, 1) := by decide +kernel
theorem d_Wk_perform_181 : decode b_Wk_perform 181 = .ok (.goto 121, 3) := by decide +kernel
theorem d_Wk_perform_184 : decode b_Wk_perform 184 = .ok (.aload_n 0, 1) := by decide +kernel
theorem d_Wk_perform_185 : decode b_Wk_perform 185 = .ok (.getfield 9, 3) := by decide +kernel
theorem d_Wk_perform_188 : decode b_Wk_perform 188 = .ok (.iload 4, 2) := by decide +kernel
theorem d_Wk_perform_190 : decode b_Wk_perform 190 = .ok (.dup2, 1) := by decide +kernel
theorem d_Wk_perform_191 : decode b_Wk_perform 191 = .ok (.laload, 1) := by decide +kernel
theorem d_Wk_perform_192 : decode b_Wk_perform 192 = .ok (.aload_n 0, 1) := by decide +kernel
theorem d_Wk_perform_193 : decode b_Wk_perform 193 = .ok (.getfield 9, 3) := by decide +kernel
theorem d_Wk_perform_196 : decode b_Wk_perform 196 = .ok (.iload 7, 2) := by decide +kernel
theorem d_Wk_perform_198 : decode b_Wk_perform 198 = .ok (.laload, 1) := by decide +kernel
theorem d_Wk_perform_199 : decode b_Wk_perform 199 = .ok (.lmul, 1) := by decide +kernel
theorem d_Wk_perform_200 : decode b_Wk_perform 200 = .ok (.lastore, 1) := by decide +kernel
theorem d_Wk_perform_201 : decode b_Wk_perform 201 = .ok (.goto 101, 3) := by decide +kernel
theorem d_Wk_perform_204 : decode b_Wk_perform 204 = .ok (.aload_n 0, 1) := by decide +kernel
theorem d_Wk_perform_205 : decode b_Wk_perform 205 = .ok (.getfield 9, 3) := by decide +kernel
theorem d_Wk_perform_208 : decode b_Wk_perform 208 = .ok (.iload 4, 2) := by decide +kernel
theorem d_Wk_perform_210 : decode b_Wk_perform 210 = .ok (.laload, 1) := by decide +kernel
theorem d_Wk_perform_211 : decode b_Wk_perform 211 = .ok (.lconst 0, 1) := by decide +kernel
theorem d_Wk_perform_212 : decode b_Wk_perform 212 = .ok (.lcmp, 1) := by decide +kernel
theorem d_Wk_perform_213 : decode b_Wk_perform 213 = .ok (.ifCond .eq 89, 3) := by decide +kernel
theorem d_Wk_perform_216 : decode b_Wk_perform 216 = .ok (.aload_n 0, 1) := by decide +kernel
theorem d_Wk_perform_217 : decode b_Wk_perform 217 = .ok (.aload_n 1, 1) := by decide +kernel
theorem d_Wk_perform_218 : decode b_Wk_perform 218 = .ok (.lload 5, 2) := by decide +kernel
theorem d_Wk_perform_220 : decode b_Wk_perform 220 = .ok (.invokevirtual 57, 3) := by decide +kernel
theorem d_Wk_perform_223 : decode b_Wk_perform 223 = .ok (.ifCond .eq 9, 3) := by decide +kernel
theorem d_Wk_perform_226 : decode b_Wk_perform 226 = .ok (.lload 5, 2) := by decide +kernel
theorem d_Wk_perform_228 : decode b_Wk_perform 228 = .ok (.l2i, 1) := by decide +kernel
theorem d_Wk_perform_229 : decode b_Wk_perform 229 = .ok (.goto 4, 3) := by decide +kernel
theorem d_Wk_perform_232 : decode b_Wk_perform 232 = .ok (.iconst (-1), 1) := by decide +kernel
theorem d_Wk_perform_233 : decode b_Wk_perform 233 = .ok (.putfield 48, 3) := by decide +kernel
theorem d_Wk_perform_236 : decode b_Wk_perform 236 = .ok (.goto 66, 3) := by decide +kernel
theorem d_Wk_perform_239 : decode b_Wk_perform 239 = .ok (.aload_n 0, 1) := by decide +kernel
theorem d_Wk_perform_240 : decode b_Wk_perform 240 = .ok (.getfield 9, 3) := by decide +kernel
theorem d_Wk_perform_243 : decode b_Wk_perform 243 = .ok (.iload 4, 2) := by decide +kernel
theorem d_Wk_perform_245 : decode b_Wk_perform 245 = .ok (.aload_n 0, 1) := by decide +kernel
theorem d_Wk_perform_246 : decode b_Wk_perform 246 = .ok (.getfield 9, 3) := by decide +kernel
theorem d_Wk_perform_249 : decode b_Wk_perform 249 = .ok (.iload 4, 2) := by decide +kernel
theorem d_Wk_perform_251 : decode b_Wk_perform 251 = .ok (.laload, 1) := by decide +kernel
theorem d_Wk_perform_252 : decode b_Wk_perform 252 = .ok (.aload_n 0, 1) := by decide +kernel
theorem d_Wk_perform_253 : decode b_Wk_perform 253 = .ok (.getfield 9, 3) := by decide +kernel
theorem d_Wk_perform_256 : decode b_Wk_perform 256 = .ok (.iload 7, 2) := by decide +kernel
theorem d_Wk_perform_258 : decode b_Wk_perform 258 = .ok (.laload, 1) := by decide +kernel
theorem d_Wk_perform_259 : decode b_Wk_perform 259 = .ok (.lcmp, 1) := by decide +kernel
theorem d_Wk_perform_260 : decode b_Wk_perform 260 = .ok (.ifCond .ge 7, 3) := by decide +kernel
theorem d_Wk_perform_263 : decode b_Wk_perform 263 = .ok (.lconst 1, 1) := by decide +kernel
theorem d_Wk_perform_264 : decode b_Wk_perform 264 = .ok (.goto 4, 3) := by decide +kernel
theorem d_Wk_perform_267 : decode b_Wk_perform 267 = .ok (.lconst 0, 1) := by decide +kernel
theorem d_Wk_perform_268 : decode b_Wk_perform 268 = .ok (.lastore, 1) := by decide +kernel
theorem d_Wk_perform_269 : decode b_Wk_perform 269 = .ok (.goto 33, 3) := by decide +kernel
theorem d_Wk_perform_272 : decode b_Wk_perform 272 = .ok (.aload_n 0, 1) := by decide +kernel
theorem d_Wk_perform_273 : decode b_Wk_perform 273 = .ok (.getfield 9, 3) := by decide +kernel
theorem d_Wk_perform_276 : decode b_Wk_perform 276 = .ok (.iload 4, 2) := by decide +kernel
theorem d_Wk_perform_278 : decode b_Wk_perform 278 = .ok (.aload_n 0, 1) := by decide +kernel
theorem d_Wk_perform_279 : decode b_Wk_perform 279 = .ok (.getfield 9, 3) := by decide +kernel
theorem d_Wk_perform_282 : decode b_Wk_perform 282 = .ok (.iload 7, 2) := by decide +kernel
theorem d_Wk_perform_284 : decode b_Wk_perform 284 = .ok (.laload, 1) := by decide +kernel
theorem d_Wk_perform_285 : decode b_Wk_perform 285 = .ok (.lastore, 1) := by decide +kernel
theorem d_Wk_perform_286 : decode b_Wk_perform 286 = .ok (.goto 16, 3) := by decide +kernel
theorem d_Wk_perform_289 : decode b_Wk_perform 289 = .ok (.aload_n 0, 1) := by decide +kernel
theorem d_Wk_perform_290 : decode b_Wk_perform 290 = .ok (.iconst 2, 1) := by decide +kernel
theorem d_Wk_perform_291 : decode b_Wk_perform 291 = .ok (.putfield 29, 3) := by decide +kernel
theorem d_Wk_perform_294 : decode b_Wk_perform 294 = .ok (.goto 8, 3) := by decide +kernel
theorem d_Wk_perform_297 : decode b_Wk_perform 297 = .ok (.aload_n 0, 1) := by decide +kernel
theorem d_Wk_perform_298 : decode b_Wk_perform 298 = .ok (.iconst 1, 1) := by decide +kernel
theorem d_Wk_perform_299 : decode b_Wk_perform 299 = .ok (.putfield 29, 3) := by decide +kernel
theorem d_Wk_perform_302 : decode b_Wk_perform 302 = .ok (.return_, 1) := by decide +kernel
theorem d_Wk_load_0 : decode b_Wk_load 0 = .ok (.aload_n 0, 1) := by decide +kernel
theorem d_Wk_load_1 : decode b_Wk_load 1 = .ok (.dup, 1) := by decide +kernel
theorem d_Wk_load_2 : decode b_Wk_load 2 = .ok (.getfield 54, 3) := by decide +kernel
theorem d_Wk_load_5 : decode b_Wk_load 5 = .ok (.iconst 1, 1) := by decide +kernel
theorem d_Wk_load_6 : decode b_Wk_load 6 = .ok (.iadd, 1) := by decide +kernel
theorem d_Wk_load_7 : decode b_Wk_load 7 = .ok (.putfield 54, 3) := by decide +kernel
theorem d_Wk_load_10 : decode b_Wk_load 10 = .ok (.aload_n 0, 1) := by decide +kernel
theorem d_Wk_load_11 : decode b_Wk_load 11 = .ok (.getfield 22, 3) := by decide +kernel
theorem d_Wk_load_14 : decode b_Wk_load 14 = .ok (.iload_n 1, 1) := by decide +kernel
theorem d_Wk_load_15 : decode b_Wk_load 15 = .ok (.invokevirtual 93, 3) := by decide +kernel
theorem d_Wk_load_18 : decode b_Wk_load 18 = .ok (.ifCond .eq 12, 3) := by decide +kernel
theorem d_Wk_load_21 : decode b_Wk_load 21 = .ok (.aload_n 0, 1) := by decide +kernel
theorem d_Wk_load_22 : decode b_Wk_load 22 = .ok (.getfield 22, 3) := by decide +kernel
theorem d_Wk_load_25 : decode b_Wk_load 25 = .ok (.iload_n 1, 1) := by decide +kernel
theorem d_Wk_load_26 : decode b_Wk_load 26 = .ok (.invokevirtual 96, 3) := by decide +kernel
theorem d_Wk_load_29 : decode b_Wk_load 29 = .ok (.lreturn, 1) := by decide +kernel
theorem d_Wk_load_30 : decode b_Wk_load 30 = .ok (.aload_n 0, 1) := by decide +kernel
theorem d_Wk_load_31 : decode b_Wk_load 31 = .ok (.getfield 18, 3) := by decide +kernel
theorem d_Wk_load_34 : decode b_Wk_load 34 = .ok (.iload_n 1, 1) := by decide +kernel
theorem d_Wk_load_35 : decode b_Wk_load 35 = .ok (.invokevirtual 93, 3) := by decide +kernel
theorem d_Wk_load_38 : decode b_Wk_load 38 = .ok (.ifCond .ne 14, 3) := by decide +kernel
theorem d_Wk_load_41 : decode b_Wk_load 41 = .ok (.aload_n 0, 1) := by decide +kernel
theorem d_Wk_load_42 : decode b_Wk_load 42 = .ok (.getfield 18, 3) := by decide +kernel
theorem d_Wk_load_45 : decode b_Wk_load 45 = .ok (.iload_n 1, 1) := by decide +kernel
theorem d_Wk_load_46 : decode b_Wk_load 46 = .ok (.aload_n 2, 1) := by decide +kernel
theorem d_Wk_load_47 : decode b_Wk_load 47 = .ok (.iload_n 1, 1) := by decide +kernel
theorem d_Wk_load_48 : decode b_Wk_load 48 = .ok (.laload, 1) := by decide +kernel
theorem d_Wk_load_49 : decode b_Wk_load 49 = .ok (.invokevirtual 89, 3) := by decide +kernel
theorem d_Wk_load_52 : decode b_Wk_load 52 = .ok (.aload_n 0, 1) := by decide +kernel
theorem d_Wk_load_53 : decode b_Wk_load 53 = .ok (.getfield 18, 3) := by decide +kernel
theorem d_Wk_load_56 : decode b_Wk_load 56 = .ok (.iload_n 1, 1) := by decide +kernel
theorem d_Wk_load_57 : decode b_Wk_load 57 = .ok (.invokevirtual 96, 3) := by decide +kernel
theorem d_Wk_load_60 : decode b_Wk_load 60 = .ok (.lreturn, 1) := by decide +kernel
theorem d_Wk_number_0 : decode b_Wk_number 0 = .ok (.aload_n 0, 1) := by decide +kernel
theorem d_Wk_number_1 : decode b_Wk_number 1 = .ok (.getfield 33, 3) := by decide +kernel
theorem d_Wk_number_4 : decode b_Wk_number 4 = .ok (.ireturn, 1) := by decide +kernel
theorem d_Wk_sawWhatHolds_0 : decode b_Wk_sawWhatHolds 0 = .ok (.iconst 0, 1) := by decide +kernel
theorem d_Wk_sawWhatHolds_1 : decode b_Wk_sawWhatHolds 1 = .ok (.istore_n 2, 1) := by decide +kernel
theorem d_Wk_sawWhatHolds_2 : decode b_Wk_sawWhatHolds 2 = .ok (.iload_n 2, 1) := by decide +kernel
theorem d_Wk_sawWhatHolds_3 : decode b_Wk_sawWhatHolds 3 = .ok (.aload_n 0, 1) := by decide +kernel
theorem d_Wk_sawWhatHolds_4 : decode b_Wk_sawWhatHolds 4 = .ok (.getfield 18, 3) := by decide +kernel
theorem d_Wk_sawWhatHolds_7 : decode b_Wk_sawWhatHolds 7 = .ok (.invokevirtual 99, 3) := by decide +kernel
theorem d_Wk_sawWhatHolds_10 : decode b_Wk_sawWhatHolds 10 = .ok (.if_icmp .ge 35, 3) := by decide +kernel
theorem d_Wk_sawWhatHolds_13 : decode b_Wk_sawWhatHolds 13 = .ok (.aload_n 0, 1) := by decide +kernel
theorem d_Wk_sawWhatHolds_14 : decode b_Wk_sawWhatHolds 14 = .ok (.getfield 18, 3) := by decide +kernel
theorem d_Wk_sawWhatHolds_17 : decode b_Wk_sawWhatHolds 17 = .ok (.iload_n 2, 1) := by decide +kernel
theorem d_Wk_sawWhatHolds_18 : decode b_Wk_sawWhatHolds 18 = .ok (.invokevirtual 103, 3) := by decide +kernel
theorem d_Wk_sawWhatHolds_21 : decode b_Wk_sawWhatHolds 21 = .ok (.istore_n 3, 1) := by decide +kernel
theorem d_Wk_sawWhatHolds_22 : decode b_Wk_sawWhatHolds 22 = .ok (.aload_n 0, 1) := by decide +kernel
theorem d_Wk_sawWhatHolds_23 : decode b_Wk_sawWhatHolds 23 = .ok (.getfield 18, 3) := by decide +kernel
theorem d_Wk_sawWhatHolds_26 : decode b_Wk_sawWhatHolds 26 = .ok (.iload_n 3, 1) := by decide +kernel
theorem d_Wk_sawWhatHolds_27 : decode b_Wk_sawWhatHolds 27 = .ok (.invokevirtual 96, 3) := by decide +kernel
theorem d_Wk_sawWhatHolds_30 : decode b_Wk_sawWhatHolds 30 = .ok (.aload_n 1, 1) := by decide +kernel
theorem d_Wk_sawWhatHolds_31 : decode b_Wk_sawWhatHolds 31 = .ok (.iload_n 3, 1) := by decide +kernel
theorem d_Wk_sawWhatHolds_32 : decode b_Wk_sawWhatHolds 32 = .ok (.laload, 1) := by decide +kernel
theorem d_Wk_sawWhatHolds_33 : decode b_Wk_sawWhatHolds 33 = .ok (.lcmp, 1) := by decide +kernel
theorem d_Wk_sawWhatHolds_34 : decode b_Wk_sawWhatHolds 34 = .ok (.ifCond .eq 5, 3) := by decide +kernel
theorem d_Wk_sawWhatHolds_37 : decode b_Wk_sawWhatHolds 37 = .ok (.iconst 0, 1) := by decide +kernel
theorem d_Wk_sawWhatHolds_38 : decode b_Wk_sawWhatHolds 38 = .ok (.ireturn, 1) := by decide +kernel
theorem d_Wk_sawWhatHolds_39 : decode b_Wk_sawWhatHolds 39 = .ok (.iinc 2 1, 3) := by decide +kernel
theorem d_Wk_sawWhatHolds_42 : decode b_Wk_sawWhatHolds 42 = .ok (.goto (-40), 3) := by decide +kernel
theorem d_Wk_sawWhatHolds_45 : decode b_Wk_sawWhatHolds 45 = .ok (.iconst 1, 1) := by decide +kernel
theorem d_Wk_sawWhatHolds_46 : decode b_Wk_sawWhatHolds 46 = .ok (.ireturn, 1) := by decide +kernel
theorem d_Wk_handIn_0 : decode b_Wk_handIn 0 = .ok (.aload_n 0, 1) := by decide +kernel
theorem d_Wk_handIn_1 : decode b_Wk_handIn 1 = .ok (.getfield 25, 3) := by decide +kernel
theorem d_Wk_handIn_4 : decode b_Wk_handIn 4 = .ok (.astore_n 2, 1) := by decide +kernel
theorem d_Wk_handIn_5 : decode b_Wk_handIn 5 = .ok (.aload_n 0, 1) := by decide +kernel
theorem d_Wk_handIn_6 : decode b_Wk_handIn 6 = .ok (.aconst_null, 1) := by decide +kernel
theorem d_Wk_handIn_7 : decode b_Wk_handIn 7 = .ok (.putfield 25, 3) := by decide +kernel
theorem d_Wk_handIn_10 : decode b_Wk_handIn 10 = .ok (.aload_n 0, 1) := by decide +kernel
theorem d_Wk_handIn_11 : decode b_Wk_handIn 11 = .ok (.getfield 29, 3) := by decide +kernel
theorem d_Wk_handIn_14 : decode b_Wk_handIn 14 = .ok (.iconst 1, 1) := by decide +kernel
theorem d_Wk_handIn_15 : decode b_Wk_handIn 15 = .ok (.if_icmp .ne 7, 3) := by decide +kernel
theorem d_Wk_handIn_18 : decode b_Wk_handIn 18 = .ok (.iconst 1, 1) := by decide +kernel
theorem d_Wk_handIn_19 : decode b_Wk_handIn 19 = .ok (.goto 4, 3) := by decide +kernel
theorem d_Wk_handIn_22 : decode b_Wk_handIn 22 = .ok (.iconst 0, 1) := by decide +kernel
theorem d_Wk_handIn_23 : decode b_Wk_handIn 23 = .ok (.istore_n 3, 1) := by decide +kernel
theorem d_Wk_handIn_24 : decode b_Wk_handIn 24 = .ok (.iload_n 3, 1) := by decide +kernel
theorem d_Wk_handIn_25 : decode b_Wk_handIn 25 = .ok (.ifCond .eq 11, 3) := by decide +kernel
theorem d_Wk_handIn_28 : decode b_Wk_handIn 28 = .ok (.aload_n 0, 1) := by decide +kernel
theorem d_Wk_handIn_29 : decode b_Wk_handIn 29 = .ok (.aload_n 1, 1) := by decide +kernel
theorem d_Wk_handIn_30 : decode b_Wk_handIn 30 = .ok (.invokevirtual 106, 3) := by decide +kernel
theorem d_Wk_handIn_33 : decode b_Wk_handIn 33 = .ok (.goto 4, 3) := by decide +kernel
theorem d_Wk_handIn_36 : decode b_Wk_handIn 36 = .ok (.iconst 0, 1) := by decide +kernel
theorem d_Wk_handIn_37 : decode b_Wk_handIn 37 = .ok (.istore 4, 2) := by decide +kernel
theorem d_Wk_handIn_39 : decode b_Wk_handIn 39 = .ok (.aload_n 2, 1) := by decide +kernel
theorem d_Wk_handIn_40 : decode b_Wk_handIn 40 = .ok (.ifnull 39, 3) := by decide +kernel
theorem d_Wk_handIn_43 : decode b_Wk_handIn 43 = .ok (.aload_n 2, 1) := by decide +kernel
theorem d_Wk_handIn_44 : decode b_Wk_handIn 44 = .ok (.aload_n 0, 1) := by decide +kernel
theorem d_Wk_handIn_45 : decode b_Wk_handIn 45 = .ok (.getfield 29, 3) := by decide +kernel
theorem d_Wk_handIn_48 : decode b_Wk_handIn 48 = .ok (.aload_n 0, 1) := by decide +kernel
theorem d_Wk_handIn_49 : decode b_Wk_handIn 49 = .ok (.getfield 51, 3) := by decide +kernel
theorem d_Wk_handIn_52 : decode b_Wk_handIn 52 = .ok (.aload_n 0, 1) := by decide +kernel
theorem d_Wk_handIn_53 : decode b_Wk_handIn 53 = .ok (.getfield 54, 3) := by decide +kernel
theorem d_Wk_handIn_56 : decode b_Wk_handIn 56 = .ok (.iload 4, 2) := by decide +kernel
theorem d_Wk_handIn_58 : decode b_Wk_handIn 58 = .ok (.aload_n 0, 1) := by decide +kernel
theorem d_Wk_handIn_59 : decode b_Wk_handIn 59 = .ok (.getfield 29, 3) := by decide +kernel
theorem d_Wk_handIn_62 : decode b_Wk_handIn 62 = .ok (.iconst 3, 1) := by decide +kernel
theorem d_Wk_handIn_63 : decode b_Wk_handIn 63 = .ok (.if_icmp .ne 7, 3) := by decide +kernel
theorem d_Wk_handIn_66 : decode b_Wk_handIn 66 = .ok (.lconst 0, 1) := by decide +kernel
theorem d_Wk_handIn_67 : decode b_Wk_handIn 67 = .ok (.goto 9, 3) := by decide +kernel
theorem d_Wk_handIn_70 : decode b_Wk_handIn 70 = .ok (.aload_n 0, 1) := by decide +kernel
theorem d_Wk_handIn_71 : decode b_Wk_handIn 71 = .ok (.getfield 9, 3) := by decide +kernel
theorem d_Wk_handIn_74 : decode b_Wk_handIn 74 = .ok (.iconst 0, 1) := by decide +kernel
theorem d_Wk_handIn_75 : decode b_Wk_handIn 75 = .ok (.laload, 1) := by decide +kernel
theorem d_Wk_handIn_76 : decode b_Wk_handIn 76 = .ok (.invokevirtual 110, 3) := by decide +kernel
theorem d_Wk_handIn_79 : decode b_Wk_handIn 79 = .ok (.iload_n 3, 1) := by decide +kernel
theorem d_Wk_handIn_80 : decode b_Wk_handIn 80 = .ok (.ireturn, 1) := by decide +kernel
theorem d_Wk_storeInto_0 : decode b_Wk_storeInto 0 = .ok (.iconst 0, 1) := by decide +kernel
theorem d_Wk_storeInto_1 : decode b_Wk_storeInto 1 = .ok (.istore_n 2, 1) := by decide +kernel
theorem d_Wk_storeInto_2 : decode b_Wk_storeInto 2 = .ok (.iload_n 2, 1) := by decide +kernel
theorem d_Wk_storeInto_3 : decode b_Wk_storeInto 3 = .ok (.aload_n 0, 1) := by decide +kernel
theorem d_Wk_storeInto_4 : decode b_Wk_storeInto 4 = .ok (.getfield 22, 3) := by decide +kernel
theorem d_Wk_storeInto_7 : decode b_Wk_storeInto 7 = .ok (.invokevirtual 99, 3) := by decide +kernel
theorem d_Wk_storeInto_10 : decode b_Wk_storeInto 10 = .ok (.if_icmp .ge 29, 3) := by decide +kernel
theorem d_Wk_storeInto_13 : decode b_Wk_storeInto 13 = .ok (.aload_n 0, 1) := by decide +kernel
theorem d_Wk_storeInto_14 : decode b_Wk_storeInto 14 = .ok (.getfield 22, 3) := by decide +kernel
theorem d_Wk_storeInto_17 : decode b_Wk_storeInto 17 = .ok (.iload_n 2, 1) := by decide +kernel
theorem d_Wk_storeInto_18 : decode b_Wk_storeInto 18 = .ok (.invokevirtual 103, 3) := by decide +kernel
theorem d_Wk_storeInto_21 : decode b_Wk_storeInto 21 = .ok (.istore_n 3, 1) := by decide +kernel
theorem d_Wk_storeInto_22 : decode b_Wk_storeInto 22 = .ok (.aload_n 1, 1) := by decide +kernel
theorem d_Wk_storeInto_23 : decode b_Wk_storeInto 23 = .ok (.iload_n 3, 1) := by decide +kernel
theorem d_Wk_storeInto_24 : decode b_Wk_storeInto 24 = .ok (.aload_n 0, 1) := by decide +kernel
theorem d_Wk_storeInto_25 : decode b_Wk_storeInto 25 = .ok (.getfield 22, 3) := by decide +kernel
theorem d_Wk_storeInto_28 : decode b_Wk_storeInto 28 = .ok (.iload_n 3, 1) := by decide +kernel
theorem d_Wk_storeInto_29 : decode b_Wk_storeInto 29 = .ok (.invokevirtual 96, 3) := by decide +kernel
theorem d_Wk_storeInto_32 : decode b_Wk_storeInto 32 = .ok (.lastore, 1) := by decide +kernel
theorem d_Wk_storeInto_33 : decode b_Wk_storeInto 33 = .ok (.iinc 2 1, 3) := by decide +kernel
theorem d_Wk_storeInto_36 : decode b_Wk_storeInto 36 = .ok (.goto (-34), 3) := by decide +kernel
theorem d_Wk_storeInto_39 : decode b_Wk_storeInto 39 = .ok (.aload_n 0, 1) := by decide +kernel
theorem d_Wk_storeInto_40 : decode b_Wk_storeInto 40 = .ok (.getfield 22, 3) := by decide +kernel
theorem d_Wk_storeInto_43 : decode b_Wk_storeInto 43 = .ok (.invokevirtual 99, 3) := by decide +kernel
theorem d_Wk_storeInto_46 : decode b_Wk_storeInto 46 = .ok (.ireturn, 1) := by decide +kernel
end
section
theorem d_Vb_init_0 : decode b_Vb_init 0 = .ok (.aload_n 0, 1) := by decide +kernel
theorem d_Vb_init_1 : decode b_Vb_init 1 = .ok (.invokespecial 1, 3) := by decide +kernel
theorem d_Vb_init_4 : decode b_Vb_init 4 = .ok (.aload_n 0, 1) := by decide +kernel
theorem d_Vb_init_5 : decode b_Vb_init 5 = .ok (.sipush 256, 3) := by decide +kernel
theorem d_Vb_init_8 : decode b_Vb_init 8 = .ok (.newarray .long, 2) := by decide +kernel
theorem d_Vb_init_10 : decode b_Vb_init 10 = .ok (.putfield 9, 3) := by decide +kernel
theorem d_Vb_init_13 : decode b_Vb_init 13 = .ok (.aload_n 0, 1) := by decide +kernel
theorem d_Vb_init_14 : decode b_Vb_init 14 = .ok (.bipush 64, 2) := by decide +kernel
theorem d_Vb_init_16 : decode b_Vb_init 16 = .ok (.anewarray 13, 3) := by decide +kernel
theorem d_Vb_init_19 : decode b_Vb_init 19 = .ok (.putfield 15, 3) := by decide +kernel
theorem d_Vb_init_22 : decode b_Vb_init 22 = .ok (.aload_n 0, 1) := by decide +kernel
theorem d_Vb_init_23 : decode b_Vb_init 23 = .ok (.new 19, 3) := by decide +kernel
theorem d_Vb_init_26 : decode b_Vb_init 26 = .ok (.dup, 1) := by decide +kernel
theorem d_Vb_init_27 : decode b_Vb_init 27 = .ok (.invokespecial 21, 3) := by decide +kernel
theorem d_Vb_init_30 : decode b_Vb_init 30 = .ok (.putfield 22, 3) := by decide +kernel
theorem d_Vb_init_33 : decode b_Vb_init 33 = .ok (.aload_n 0, 1) := by decide +kernel
theorem d_Vb_init_34 : decode b_Vb_init 34 = .ok (.iconst 1, 1) := by decide +kernel
theorem d_Vb_init_35 : decode b_Vb_init 35 = .ok (.bipush 16, 2) := by decide +kernel
theorem d_Vb_init_37 : decode b_Vb_init 37 = .ok (.iload_n 1, 1) := by decide +kernel
theorem d_Vb_init_38 : decode b_Vb_init 38 = .ok (.invokestatic 26, 3) := by decide +kernel
theorem d_Vb_init_41 : decode b_Vb_init 41 = .ok (.invokestatic 32, 3) := by decide +kernel
theorem d_Vb_init_44 : decode b_Vb_init 44 = .ok (.anewarray 35, 3) := by decide +kernel
theorem d_Vb_init_47 : decode b_Vb_init 47 = .ok (.putfield 37, 3) := by decide +kernel
theorem d_Vb_init_50 : decode b_Vb_init 50 = .ok (.return_, 1) := by decide +kernel
theorem d_Vb_put_0 : decode b_Vb_put 0 = .ok (.iload_n 1, 1) := by decide +kernel
theorem d_Vb_put_1 : decode b_Vb_put 1 = .ok (.invokestatic 41, 3) := by decide +kernel
theorem d_Vb_put_4 : decode b_Vb_put 4 = .ok (.ifCond .ne 5, 3) := by decide +kernel
theorem d_Vb_put_7 : decode b_Vb_put 7 = .ok (.iconst 0, 1) := by decide +kernel
theorem d_Vb_put_8 : decode b_Vb_put 8 = .ok (.ireturn, 1) := by decide +kernel
theorem d_Vb_put_9 : decode b_Vb_put 9 = .ok (.aload_n 0, 1) := by decide +kernel
theorem d_Vb_put_10 : decode b_Vb_put 10 = .ok (.getfield 9, 3) := by decide +kernel
theorem d_Vb_put_13 : decode b_Vb_put 13 = .ok (.iload_n 1, 1) := by decide +kernel
theorem d_Vb_put_14 : decode b_Vb_put 14 = .ok (.lload_n 2, 1) := by decide +kernel
theorem d_Vb_put_15 : decode b_Vb_put 15 = .ok (.lastore, 1) := by decide +kernel
theorem d_Vb_put_16 : decode b_Vb_put 16 = .ok (.iconst 1, 1) := by decide +kernel
theorem d_Vb_put_17 : decode b_Vb_put 17 = .ok (.ireturn, 1) := by decide +kernel
theorem d_Vb_isPlace_0 : decode b_Vb_isPlace 0 = .ok (.iload_n 0, 1) := by decide +kernel
theorem d_Vb_isPlace_1 : decode b_Vb_isPlace 1 = .ok (.ifCond .lt 14, 3) := by decide +kernel
theorem d_Vb_isPlace_4 : decode b_Vb_isPlace 4 = .ok (.iload_n 0, 1) := by decide +kernel
theorem d_Vb_isPlace_5 : decode b_Vb_isPlace 5 = .ok (.sipush 256, 3) := by decide +kernel
theorem d_Vb_isPlace_8 : decode b_Vb_isPlace 8 = .ok (.if_icmp .ge 7, 3) := by decide +kernel
theorem d_Vb_isPlace_11 : decode b_Vb_isPlace 11 = .ok (.iconst 1, 1) := by decide +kernel
theorem d_Vb_isPlace_12 : decode b_Vb_isPlace 12 = .ok (.goto 4, 3) := by decide +kernel
theorem d_Vb_isPlace_15 : decode b_Vb_isPlace 15 = .ok (.iconst 0, 1) := by decide +kernel
theorem d_Vb_isPlace_16 : decode b_Vb_isPlace 16 = .ok (.ireturn, 1) := by decide +kernel
theorem d_Vb_get_0 : decode b_Vb_get 0 = .ok (.iload_n 1, 1) := by decide +kernel
theorem d_Vb_get_1 : decode b_Vb_get 1 = .ok (.invokestatic 41, 3) := by decide +kernel
theorem d_Vb_get_4 : decode b_Vb_get 4 = .ok (.ifCond .eq 12, 3) := by decide +kernel
theorem d_Vb_get_7 : decode b_Vb_get 7 = .ok (.aload_n 0, 1) := by decide +kernel
theorem d_Vb_get_8 : decode b_Vb_get 8 = .ok (.getfield 9, 3) := by decide +kernel
theorem d_Vb_get_11 : decode b_Vb_get 11 = .ok (.iload_n 1, 1) := by decide +kernel
theorem d_Vb_get_12 : decode b_Vb_get 12 = .ok (.laload, 1) := by decide +kernel
theorem d_Vb_get_13 : decode b_Vb_get 13 = .ok (.goto 4, 3) := by decide +kernel
theorem d_Vb_get_16 : decode b_Vb_get 16 = .ok (.lconst 0, 1) := by decide +kernel
theorem d_Vb_get_17 : decode b_Vb_get 17 = .ok (.lreturn, 1) := by decide +kernel
theorem d_Vb_begin_0 : decode b_Vb_begin 0 = .ok (.aload_n 0, 1) := by decide +kernel
theorem d_Vb_begin_1 : decode b_Vb_begin 1 = .ok (.getfield 45, 3) := by decide +kernel
theorem d_Vb_begin_4 : decode b_Vb_begin 4 = .ok (.istore_n 1, 1) := by decide +kernel
theorem d_Vb_begin_5 : decode b_Vb_begin 5 = .ok (.aload_n 0, 1) := by decide +kernel
theorem d_Vb_begin_6 : decode b_Vb_begin 6 = .ok (.iconst 0, 1) := by decide +kernel
theorem d_Vb_begin_7 : decode b_Vb_begin 7 = .ok (.putfield 45, 3) := by decide +kernel
theorem d_Vb_begin_10 : decode b_Vb_begin 10 = .ok (.iload_n 1, 1) := by decide +kernel
theorem d_Vb_begin_11 : decode b_Vb_begin 11 = .ok (.ireturn, 1) := by decide +kernel
theorem d_Vb_transaction_0 : decode b_Vb_transaction 0 = .ok (.aload_n 0, 1) := by decide +kernel
theorem d_Vb_transaction_1 : decode b_Vb_transaction 1 = .ok (.getfield 45, 3) := by decide +kernel
theorem d_Vb_transaction_4 : decode b_Vb_transaction 4 = .ok (.bipush 64, 2) := by decide +kernel
theorem d_Vb_transaction_6 : decode b_Vb_transaction 6 = .ok (.if_icmp .lt 6, 3) := by decide +kernel
theorem d_Vb_transaction_9 : decode b_Vb_transaction 9 = .ok (.bipush (-3), 2) := by decide +kernel
theorem d_Vb_transaction_11 : decode b_Vb_transaction 11 = .ok (.ireturn, 1) := by decide +kernel
theorem d_Vb_transaction_12 : decode b_Vb_transaction 12 = .ok (.aload_n 0, 1) := by decide +kernel
theorem d_Vb_transaction_13 : decode b_Vb_transaction 13 = .ok (.getfield 15, 3) := by decide +kernel
theorem d_Vb_transaction_16 : decode b_Vb_transaction 16 = .ok (.aload_n 0, 1) := by decide +kernel
theorem d_Vb_transaction_17 : decode b_Vb_transaction 17 = .ok (.getfield 45, 3) := by decide +kernel
theorem d_Vb_transaction_20 : decode b_Vb_transaction 20 = .ok (.aaload, 1) := by decide +kernel
theorem d_Vb_transaction_21 : decode b_Vb_transaction 21 = .ok (.astore_n 1, 1) := by decide +kernel
theorem d_Vb_transaction_22 : decode b_Vb_transaction 22 = .ok (.aload_n 1, 1) := by decide +kernel
theorem d_Vb_transaction_23 : decode b_Vb_transaction 23 = .ok (.ifnonnull 22, 3) := by decide +kernel
theorem d_Vb_transaction_26 : decode b_Vb_transaction 26 = .ok (.aload_n 0, 1) := by decide +kernel
theorem d_Vb_transaction_27 : decode b_Vb_transaction 27 = .ok (.getfield 15, 3) := by decide +kernel
theorem d_Vb_transaction_30 : decode b_Vb_transaction 30 = .ok (.aload_n 0, 1) := by decide +kernel
theorem d_Vb_transaction_31 : decode b_Vb_transaction 31 = .ok (.getfield 45, 3) := by decide +kernel
theorem d_Vb_transaction_34 : decode b_Vb_transaction 34 = .ok (.new 13, 3) := by decide +kernel
theorem d_Vb_transaction_37 : decode b_Vb_transaction 37 = .ok (.dup, 1) := by decide +kernel
theorem d_Vb_transaction_38 : decode b_Vb_transaction 38 = .ok (.invokespecial 49, 3) := by decide +kernel
theorem d_Vb_transaction_41 : decode b_Vb_transaction 41 = .ok (.aastore, 1) := by decide +kernel
theorem d_Vb_transaction_42 : decode b_Vb_transaction 42 = .ok (.goto 7, 3) := by decide +kernel
theorem d_Vb_transaction_45 : decode b_Vb_transaction 45 = .ok (.aload_n 1, 1) := by decide +kernel
theorem d_Vb_transaction_46 : decode b_Vb_transaction 46 = .ok (.invokevirtual 50, 3) := by decide +kernel
theorem d_Vb_transaction_49 : decode b_Vb_transaction 49 = .ok (.aload_n 0, 1) := by decide +kernel
theorem d_Vb_transaction_50 : decode b_Vb_transaction 50 = .ok (.dup, 1) := by decide +kernel
theorem d_Vb_transaction_51 : decode b_Vb_transaction 51 = .ok (.getfield 45, 3) := by decide +kernel
theorem d_Vb_transaction_54 : decode b_Vb_transaction 54 = .ok (.iconst 1, 1) := by decide +kernel
theorem d_Vb_transaction_55 : decode b_Vb_transaction 55 = .ok (.iadd, 1) := by decide +kernel
theorem d_Vb_transaction_56 : decode b_Vb_transaction 56 = .ok (.putfield 45, 3) := by decide +kernel
theorem d_Vb_transaction_59 : decode b_Vb_transaction 59 = .ok (.aload_n 0, 1) := by decide +kernel
theorem d_Vb_transaction_60 : decode b_Vb_transaction 60 = .ok (.getfield 45, 3) := by decide +kernel
theorem d_Vb_transaction_63 : decode b_Vb_transaction 63 = .ok (.iconst 1, 1) := by decide +kernel
theorem d_Vb_transaction_64 : decode b_Vb_transaction 64 = .ok (.isub, 1) := by decide +kernel
theorem d_Vb_transaction_65 : decode b_Vb_transaction 65 = .ok (.ireturn, 1) := by decide +kernel
theorem d_Vb_instruction_0 : decode b_Vb_instruction 0 = .ok (.iload_n 1, 1) := by decide +kernel
theorem d_Vb_instruction_1 : decode b_Vb_instruction 1 = .ok (.ifCond .lt 9, 3) := by decide +kernel
theorem d_Vb_instruction_4 : decode b_Vb_instruction 4 = .ok (.iload_n 1, 1) := by decide +kernel
theorem d_Vb_instruction_5 : decode b_Vb_instruction 5 = .ok (.bipush 10, 2) := by decide +kernel
theorem d_Vb_instruction_7 : decode b_Vb_instruction 7 = .ok (.if_icmp .le 5, 3) := by decide +kernel
theorem d_Vb_instruction_10 : decode b_Vb_instruction 10 = .ok (.iconst (-1), 1) := by decide +kernel
theorem d_Vb_instruction_11 : decode b_Vb_instruction 11 = .ok (.ireturn, 1) := by decide +kernel
theorem d_Vb_instruction_12 : decode b_Vb_instruction 12 = .ok (.aload_n 0, 1) := by decide +kernel
theorem d_Vb_instruction_13 : decode b_Vb_instruction 13 = .ok (.aload_n 0, 1) := by decide +kernel
theorem d_Vb_instruction_14 : decode b_Vb_instruction 14 = .ok (.getfield 45, 3) := by decide +kernel
theorem d_Vb_instruction_17 : decode b_Vb_instruction 17 = .ok (.iconst 1, 1) := by decide +kernel
theorem d_Vb_instruction_18 : decode b_Vb_instruction 18 = .ok (.isub, 1) := by decide +kernel
theorem d_Vb_instruction_19 : decode b_Vb_instruction 19 = .ok (.invokevirtual 53, 3) := by decide +kernel
theorem d_Vb_instruction_22 : decode b_Vb_instruction 22 = .ok (.astore 5, 2) := by decide +kernel
theorem d_Vb_instruction_24 : decode b_Vb_instruction 24 = .ok (.aload 5, 2) := by decide +kernel
theorem d_Vb_instruction_26 : decode b_Vb_instruction 26 = .ok (.ifnonnull 8, 3) := by decide +kernel
theorem d_Vb_instruction_29 : decode b_Vb_instruction 29 = .ok (.bipush (-2), 2) := by decide +kernel
theorem d_Vb_instruction_31 : decode b_Vb_instruction 31 = .ok (.goto 11, 3) := by decide +kernel
theorem d_Vb_instruction_34 : decode b_Vb_instruction 34 = .ok (.aload 5, 2) := by decide +kernel
theorem d_Vb_instruction_36 : decode b_Vb_instruction 36 = .ok (.iload_n 1, 1) := by decide +kernel
theorem d_Vb_instruction_37 : decode b_Vb_instruction 37 = .ok (.iload_n 2, 1) := by decide +kernel
theorem d_Vb_instruction_38 : decode b_Vb_instruction 38 = .ok (.lload_n 3, 1) := by decide +kernel
theorem d_Vb_instruction_39 : decode b_Vb_instruction 39 = .ok (.invokevirtual 57, 3) := by decide +kernel
theorem d_Vb_instruction_42 : decode b_Vb_instruction 42 = .ok (.ireturn, 1) := by decide +kernel
theorem d_Vb_transactionAt_0 : decode b_Vb_transactionAt 0 = .ok (.iload_n 1, 1) := by decide +kernel
theorem d_Vb_transactionAt_1 : decode b_Vb_transactionAt 1 = .ok (.ifCond .lt 26, 3) := by decide +kernel
theorem d_Vb_transactionAt_4 : decode b_Vb_transactionAt 4 = .ok (.iload_n 1, 1) := by decide +kernel
theorem d_Vb_transactionAt_5 : decode b_Vb_transactionAt 5 = .ok (.aload_n 0, 1) := by decide +kernel
theorem d_Vb_transactionAt_6 : decode b_Vb_transactionAt 6 = .ok (.getfield 45, 3) := by decide +kernel
theorem d_Vb_transactionAt_9 : decode b_Vb_transactionAt 9 = .ok (.if_icmp .ge 18, 3) := by decide +kernel
theorem d_Vb_transactionAt_12 : decode b_Vb_transactionAt 12 = .ok (.iload_n 1, 1) := by decide +kernel
theorem d_Vb_transactionAt_13 : decode b_Vb_transactionAt 13 = .ok (.bipush 64, 2) := by decide +kernel
theorem d_Vb_transactionAt_15 : decode b_Vb_transactionAt 15 = .ok (.if_icmp .ge 12, 3) := by decide +kernel
theorem d_Vb_transactionAt_18 : decode b_Vb_transactionAt 18 = .ok (.aload_n 0, 1) := by decide +kernel
theorem d_Vb_transactionAt_19 : decode b_Vb_transactionAt 19 = .ok (.getfield 15, 3) := by decide +kernel
theorem d_Vb_transactionAt_22 : decode b_Vb_transactionAt 22 = .ok (.iload_n 1, 1) := by decide +kernel
theorem d_Vb_transactionAt_23 : decode b_Vb_transactionAt 23 = .ok (.aaload, 1) := by decide +kernel
theorem d_Vb_transactionAt_24 : decode b_Vb_transactionAt 24 = .ok (.goto 4, 3) := by decide +kernel
theorem d_Vb_transactionAt_27 : decode b_Vb_transactionAt 27 = .ok (.aconst_null, 1) := by decide +kernel
theorem d_Vb_transactionAt_28 : decode b_Vb_transactionAt 28 = .ok (.areturn, 1) := by decide +kernel
theorem d_Vb_registerOf_0 : decode b_Vb_registerOf 0 = .ok (.lload_n 0, 1) := by decide +kernel
theorem d_Vb_registerOf_1 : decode b_Vb_registerOf 1 = .ok (.ldc2_w 102, 3) := by decide +kernel
theorem d_Vb_registerOf_4 : decode b_Vb_registerOf 4 = .ok (.land, 1) := by decide +kernel
theorem d_Vb_registerOf_5 : decode b_Vb_registerOf 5 = .ok (.l2i, 1) := by decide +kernel
theorem d_Vb_registerOf_6 : decode b_Vb_registerOf 6 = .ok (.ireturn, 1) := by decide +kernel
theorem d_Vb_weave_0 : decode b_Vb_weave 0 = .ok (.aload_n 0, 1) := by decide +kernel
theorem d_Vb_weave_1 : decode b_Vb_weave 1 = .ok (.getfield 22, 3) := by decide +kernel
theorem d_Vb_weave_4 : decode b_Vb_weave 4 = .ok (.lload_n 1, 1) := by decide +kernel
theorem d_Vb_weave_5 : decode b_Vb_weave 5 = .ok (.invokevirtual 61, 3) := by decide +kernel
theorem d_Vb_weave_8 : decode b_Vb_weave 8 = .ok (.ireturn, 1) := by decide +kernel
theorem d_Vb_unweave_0 : decode b_Vb_unweave 0 = .ok (.aload_n 0, 1) := by decide +kernel
theorem d_Vb_unweave_1 : decode b_Vb_unweave 1 = .ok (.getfield 22, 3) := by decide +kernel
theorem d_Vb_unweave_4 : decode b_Vb_unweave 4 = .ok (.invokevirtual 64, 3) := by decide +kernel
theorem d_Vb_unweave_7 : decode b_Vb_unweave 7 = .ok (.ireturn, 1) := by decide +kernel
theorem d_Vb_execute_0 : decode b_Vb_execute 0 = .ok (.aload_n 0, 1) := by decide +kernel
theorem d_Vb_execute_1 : decode b_Vb_execute 1 = .ok (.iconst 0, 1) := by decide +kernel
theorem d_Vb_execute_2 : decode b_Vb_execute 2 = .ok (.putfield 67, 3) := by decide +kernel
theorem d_Vb_execute_5 : decode b_Vb_execute 5 = .ok (.aload_n 0, 1) := by decide +kernel
theorem d_Vb_execute_6 : decode b_Vb_execute 6 = .ok (.iconst 0, 1) := by decide +kernel
theorem d_Vb_execute_7 : decode b_Vb_execute 7 = .ok (.putfield 70, 3) := by decide +kernel
theorem d_Vb_execute_10 : decode b_Vb_execute 10 = .ok (.aload_n 0, 1) := by decide +kernel
theorem d_Vb_execute_11 : decode b_Vb_execute 11 = .ok (.iconst 0, 1) := by decide +kernel
theorem d_Vb_execute_12 : decode b_Vb_execute 12 = .ok (.putfield 73, 3) := by decide +kernel
theorem d_Vb_execute_15 : decode b_Vb_execute 15 = .ok (.iconst 0, 1) := by decide +kernel
theorem d_Vb_execute_16 : decode b_Vb_execute 16 = .ok (.istore_n 1, 1) := by decide +kernel
theorem d_Vb_execute_17 : decode b_Vb_execute 17 = .ok (.iload_n 1, 1) := by decide +kernel
theorem d_Vb_execute_18 : decode b_Vb_execute 18 = .ok (.aload_n 0, 1) := by decide +kernel
theorem d_Vb_execute_19 : decode b_Vb_execute 19 = .ok (.getfield 22, 3) := by decide +kernel
theorem d_Vb_execute_22 : decode b_Vb_execute 22 = .ok (.invokevirtual 76, 3) := by decide +kernel
theorem d_Vb_execute_25 : decode b_Vb_execute 25 = .ok (.if_icmp .ge 41, 3) := by decide +kernel
theorem d_Vb_execute_28 : decode b_Vb_execute 28 = .ok (.aload_n 0, 1) := by decide +kernel
theorem d_Vb_execute_29 : decode b_Vb_execute 29 = .ok (.getfield 70, 3) := by decide +kernel
theorem d_Vb_execute_32 : decode b_Vb_execute 32 = .ok (.aload_n 0, 1) := by decide +kernel
theorem d_Vb_execute_33 : decode b_Vb_execute 33 = .ok (.getfield 45, 3) := by decide +kernel
theorem d_Vb_execute_36 : decode b_Vb_execute 36 = .ok (.if_icmp .ge 30, 3) := by decide +kernel
theorem d_Vb_execute_39 : decode b_Vb_execute 39 = .ok (.aload_n 0, 1) := by decide +kernel
theorem d_Vb_execute_40 : decode b_Vb_execute 40 = .ok (.aload_n 0, 1) := by decide +kernel
theorem d_Vb_execute_41 : decode b_Vb_execute 41 = .ok (.getfield 22, 3) := by decide +kernel
theorem d_Vb_execute_44 : decode b_Vb_execute 44 = .ok (.iload_n 1, 1) := by decide +kernel
theorem d_Vb_execute_45 : decode b_Vb_execute 45 = .ok (.invokevirtual 79, 3) := by decide +kernel
theorem d_Vb_execute_48 : decode b_Vb_execute 48 = .ok (.aload_n 0, 1) := by decide +kernel
theorem d_Vb_execute_49 : decode b_Vb_execute 49 = .ok (.getfield 37, 3) := by decide +kernel
theorem d_Vb_execute_52 : decode b_Vb_execute 52 = .ok (.arraylength, 1) := by decide +kernel
theorem d_Vb_execute_53 : decode b_Vb_execute 53 = .ok (.invokestatic 83, 3) := by decide +kernel
theorem d_Vb_execute_56 : decode b_Vb_execute 56 = .ok (.invokevirtual 86, 3) := by decide +kernel
theorem d_Vb_execute_59 : decode b_Vb_execute 59 = .ok (.pop, 1) := by decide +kernel
theorem d_Vb_execute_60 : decode b_Vb_execute 60 = .ok (.iinc 1 1, 3) := by decide +kernel
theorem d_Vb_execute_63 : decode b_Vb_execute 63 = .ok (.goto (-46), 3) := by decide +kernel
theorem d_Vb_execute_66 : decode b_Vb_execute 66 = .ok (.iconst 0, 1) := by decide +kernel
theorem d_Vb_execute_67 : decode b_Vb_execute 67 = .ok (.istore_n 1, 1) := by decide +kernel
theorem d_Vb_execute_68 : decode b_Vb_execute 68 = .ok (.iload_n 1, 1) := by decide +kernel
theorem d_Vb_execute_69 : decode b_Vb_execute 69 = .ok (.sipush 10000, 3) := by decide +kernel
theorem d_Vb_execute_72 : decode b_Vb_execute 72 = .ok (.if_icmp .ge 33, 3) := by decide +kernel
theorem d_Vb_execute_75 : decode b_Vb_execute 75 = .ok (.aload_n 0, 1) := by decide +kernel
theorem d_Vb_execute_76 : decode b_Vb_execute 76 = .ok (.getfield 70, 3) := by decide +kernel
theorem d_Vb_execute_79 : decode b_Vb_execute 79 = .ok (.aload_n 0, 1) := by decide +kernel
theorem d_Vb_execute_80 : decode b_Vb_execute 80 = .ok (.getfield 45, 3) := by decide +kernel
theorem d_Vb_execute_83 : decode b_Vb_execute 83 = .ok (.if_icmp .ge 22, 3) := by decide +kernel
theorem d_Vb_execute_86 : decode b_Vb_execute 86 = .ok (.aload_n 0, 1) := by decide +kernel
theorem d_Vb_execute_87 : decode b_Vb_execute 87 = .ok (.iload_n 1, 1) := by decide +kernel
theorem d_Vb_execute_88 : decode b_Vb_execute 88 = .ok (.aload_n 0, 1) := by decide +kernel
theorem d_Vb_execute_89 : decode b_Vb_execute 89 = .ok (.getfield 37, 3) := by decide +kernel
theorem d_Vb_execute_92 : decode b_Vb_execute 92 = .ok (.arraylength, 1) := by decide +kernel
theorem d_Vb_execute_93 : decode b_Vb_execute 93 = .ok (.invokestatic 83, 3) := by decide +kernel
theorem d_Vb_execute_96 : decode b_Vb_execute 96 = .ok (.invokevirtual 89, 3) := by decide +kernel
theorem d_Vb_execute_99 : decode b_Vb_execute 99 = .ok (.iinc 1 1, 3) := by decide +kernel
theorem d_Vb_execute_102 : decode b_Vb_execute 102 = .ok (.goto (-34), 3) := by decide +kernel
theorem d_Vb_execute_105 : decode b_Vb_execute 105 = .ok (.aload_n 0, 1) := by decide +kernel
theorem d_Vb_execute_106 : decode b_Vb_execute 106 = .ok (.getfield 73, 3) := by decide +kernel
theorem d_Vb_execute_109 : decode b_Vb_execute 109 = .ok (.ireturn, 1) := by decide +kernel
theorem d_Vb_goOn_0 : decode b_Vb_goOn 0 = .ok (.aload_n 0, 1) := by decide +kernel
theorem d_Vb_goOn_1 : decode b_Vb_goOn 1 = .ok (.getfield 37, 3) := by decide +kernel
theorem d_Vb_goOn_4 : decode b_Vb_goOn 4 = .ok (.iload_n 1, 1) := by decide +kernel
theorem d_Vb_goOn_5 : decode b_Vb_goOn 5 = .ok (.aaload, 1) := by decide +kernel
theorem d_Vb_goOn_6 : decode b_Vb_goOn 6 = .ok (.astore_n 2, 1) := by decide +kernel
theorem d_Vb_goOn_7 : decode b_Vb_goOn 7 = .ok (.aload_n 2, 1) := by decide +kernel
theorem d_Vb_goOn_8 : decode b_Vb_goOn 8 = .ok (.ifnull 10, 3) := by decide +kernel
theorem d_Vb_goOn_11 : decode b_Vb_goOn 11 = .ok (.aload_n 2, 1) := by decide +kernel
theorem d_Vb_goOn_12 : decode b_Vb_goOn 12 = .ok (.invokevirtual 104, 3) := by decide +kernel
theorem d_Vb_goOn_15 : decode b_Vb_goOn 15 = .ok (.ifCond .eq 9, 3) := by decide +kernel
theorem d_Vb_goOn_18 : decode b_Vb_goOn 18 = .ok (.aload_n 0, 1) := by decide +kernel
theorem d_Vb_goOn_19 : decode b_Vb_goOn 19 = .ok (.iload_n 1, 1) := by decide +kernel
theorem d_Vb_goOn_20 : decode b_Vb_goOn 20 = .ok (.invokevirtual 108, 3) := by decide +kernel
theorem d_Vb_goOn_23 : decode b_Vb_goOn 23 = .ok (.ireturn, 1) := by decide +kernel
theorem d_Vb_goOn_24 : decode b_Vb_goOn 24 = .ok (.aload_n 2, 1) := by decide +kernel
theorem d_Vb_goOn_25 : decode b_Vb_goOn 25 = .ok (.invokevirtual 111, 3) := by decide +kernel
theorem d_Vb_goOn_28 : decode b_Vb_goOn 28 = .ok (.ifCond .ne 13, 3) := by decide +kernel
theorem d_Vb_goOn_31 : decode b_Vb_goOn 31 = .ok (.aload_n 2, 1) := by decide +kernel
theorem d_Vb_goOn_32 : decode b_Vb_goOn 32 = .ok (.aload_n 0, 1) := by decide +kernel
theorem d_Vb_goOn_33 : decode b_Vb_goOn 33 = .ok (.getfield 9, 3) := by decide +kernel
theorem d_Vb_goOn_36 : decode b_Vb_goOn 36 = .ok (.invokevirtual 114, 3) := by decide +kernel
theorem d_Vb_goOn_39 : decode b_Vb_goOn 39 = .ok (.iconst 1, 1) := by decide +kernel
theorem d_Vb_goOn_40 : decode b_Vb_goOn 40 = .ok (.ireturn, 1) := by decide +kernel
theorem d_Vb_goOn_41 : decode b_Vb_goOn 41 = .ok (.aload_n 2, 1) := by decide +kernel
theorem d_Vb_goOn_42 : decode b_Vb_goOn 42 = .ok (.invokevirtual 118, 3) := by decide +kernel
theorem d_Vb_goOn_45 : decode b_Vb_goOn 45 = .ok (.aload_n 0, 1) := by decide +kernel
theorem d_Vb_goOn_46 : decode b_Vb_goOn 46 = .ok (.getfield 70, 3) := by decide +kernel
theorem d_Vb_goOn_49 : decode b_Vb_goOn 49 = .ok (.if_icmp .eq 5, 3) := by decide +kernel
theorem d_Vb_goOn_52 : decode b_Vb_goOn 52 = .ok (.iconst 0, 1) := by decide +kernel
theorem d_Vb_goOn_53 : decode b_Vb_goOn 53 = .ok (.ireturn, 1) := by decide +kernel
theorem d_Vb_goOn_54 : decode b_Vb_goOn 54 = .ok (.aload_n 0, 1) := by decide +kernel
theorem d_Vb_goOn_55 : decode b_Vb_goOn 55 = .ok (.aload_n 2, 1) := by decide +kernel
theorem d_Vb_goOn_56 : decode b_Vb_goOn 56 = .ok (.invokevirtual 121, 3) := by decide +kernel
theorem d_Vb_goOn_59 : decode b_Vb_goOn 59 = .ok (.iconst 1, 1) := by decide +kernel
theorem d_Vb_goOn_60 : decode b_Vb_goOn 60 = .ok (.ireturn, 1) := by decide +kernel
theorem d_Vb_takeNext_0 : decode b_Vb_takeNext 0 = .ok (.aload_n 0, 1) := by decide +kernel
theorem d_Vb_takeNext_1 : decode b_Vb_takeNext 1 = .ok (.aload_n 0, 1) := by decide +kernel
theorem d_Vb_takeNext_2 : decode b_Vb_takeNext 2 = .ok (.getfield 67, 3) := by decide +kernel
theorem d_Vb_takeNext_5 : decode b_Vb_takeNext 5 = .ok (.invokevirtual 53, 3) := by decide +kernel
theorem d_Vb_takeNext_8 : decode b_Vb_takeNext 8 = .ok (.astore_n 2, 1) := by decide +kernel
theorem d_Vb_takeNext_9 : decode b_Vb_takeNext 9 = .ok (.aload_n 2, 1) := by decide +kernel
theorem d_Vb_takeNext_10 : decode b_Vb_takeNext 10 = .ok (.ifnonnull 5, 3) := by decide +kernel
theorem d_Vb_takeNext_13 : decode b_Vb_takeNext 13 = .ok (.iconst 0, 1) := by decide +kernel
theorem d_Vb_takeNext_14 : decode b_Vb_takeNext 14 = .ok (.ireturn, 1) := by decide +kernel
theorem d_Vb_takeNext_15 : decode b_Vb_takeNext 15 = .ok (.aload_n 0, 1) := by decide +kernel
theorem d_Vb_takeNext_16 : decode b_Vb_takeNext 16 = .ok (.getfield 37, 3) := by decide +kernel
theorem d_Vb_takeNext_19 : decode b_Vb_takeNext 19 = .ok (.iload_n 1, 1) := by decide +kernel
theorem d_Vb_takeNext_20 : decode b_Vb_takeNext 20 = .ok (.aaload, 1) := by decide +kernel
theorem d_Vb_takeNext_21 : decode b_Vb_takeNext 21 = .ok (.astore_n 3, 1) := by decide +kernel
theorem d_Vb_takeNext_22 : decode b_Vb_takeNext 22 = .ok (.aload_n 3, 1) := by decide +kernel
theorem d_Vb_takeNext_23 : decode b_Vb_takeNext 23 = .ok (.ifnonnull 18, 3) := by decide +kernel
theorem d_Vb_takeNext_26 : decode b_Vb_takeNext 26 = .ok (.new 35, 3) := by decide +kernel
theorem d_Vb_takeNext_29 : decode b_Vb_takeNext 29 = .ok (.dup, 1) := by decide +kernel
theorem d_Vb_takeNext_30 : decode b_Vb_takeNext 30 = .ok (.invokespecial 125, 3) := by decide +kernel
theorem d_Vb_takeNext_33 : decode b_Vb_takeNext 33 = .ok (.astore_n 3, 1) := by decide +kernel
theorem d_Vb_takeNext_34 : decode b_Vb_takeNext 34 = .ok (.aload_n 0, 1) := by decide +kernel
theorem d_Vb_takeNext_35 : decode b_Vb_takeNext 35 = .ok (.getfield 37, 3) := by decide +kernel
theorem d_Vb_takeNext_38 : decode b_Vb_takeNext 38 = .ok (.iload_n 1, 1) := by decide +kernel
theorem d_Vb_takeNext_39 : decode b_Vb_takeNext 39 = .ok (.aload_n 3, 1) := by decide +kernel
theorem d_Vb_takeNext_40 : decode b_Vb_takeNext 40 = .ok (.aastore, 1) := by decide +kernel
theorem d_Vb_takeNext_41 : decode b_Vb_takeNext 41 = .ok (.aload_n 3, 1) := by decide +kernel
theorem d_Vb_takeNext_42 : decode b_Vb_takeNext 42 = .ok (.aload_n 2, 1) := by decide +kernel
theorem d_Vb_takeNext_43 : decode b_Vb_takeNext 43 = .ok (.aload_n 0, 1) := by decide +kernel
theorem d_Vb_takeNext_44 : decode b_Vb_takeNext 44 = .ok (.getfield 67, 3) := by decide +kernel
theorem d_Vb_takeNext_47 : decode b_Vb_takeNext 47 = .ok (.invokevirtual 126, 3) := by decide +kernel
theorem d_Vb_takeNext_50 : decode b_Vb_takeNext 50 = .ok (.aload_n 0, 1) := by decide +kernel
theorem d_Vb_takeNext_51 : decode b_Vb_takeNext 51 = .ok (.dup, 1) := by decide +kernel
theorem d_Vb_takeNext_52 : decode b_Vb_takeNext 52 = .ok (.getfield 67, 3) := by decide +kernel
theorem d_Vb_takeNext_55 : decode b_Vb_takeNext 55 = .ok (.iconst 1, 1) := by decide +kernel
theorem d_Vb_takeNext_56 : decode b_Vb_takeNext 56 = .ok (.iadd, 1) := by decide +kernel
theorem d_Vb_takeNext_57 : decode b_Vb_takeNext 57 = .ok (.putfield 67, 3) := by decide +kernel
theorem d_Vb_takeNext_60 : decode b_Vb_takeNext 60 = .ok (.iconst 1, 1) := by decide +kernel
theorem d_Vb_takeNext_61 : decode b_Vb_takeNext 61 = .ok (.ireturn, 1) := by decide +kernel
theorem d_Vb_placeOf_0 : decode b_Vb_placeOf 0 = .ok (.lload_n 0, 1) := by decide +kernel
theorem d_Vb_placeOf_1 : decode b_Vb_placeOf 1 = .ok (.ldc2_w 100, 3) := by decide +kernel
theorem d_Vb_placeOf_4 : decode b_Vb_placeOf 4 = .ok (.land, 1) := by decide +kernel
theorem d_Vb_placeOf_5 : decode b_Vb_placeOf 5 = .ok (.l2i, 1) := by decide +kernel
theorem d_Vb_placeOf_6 : decode b_Vb_placeOf 6 = .ok (.ireturn, 1) := by decide +kernel
theorem d_Vb_settle_0 : decode b_Vb_settle 0 = .ok (.aload_n 1, 1) := by decide +kernel
theorem d_Vb_settle_1 : decode b_Vb_settle 1 = .ok (.aload_n 0, 1) := by decide +kernel
theorem d_Vb_settle_2 : decode b_Vb_settle 2 = .ok (.getfield 9, 3) := by decide +kernel
theorem d_Vb_settle_5 : decode b_Vb_settle 5 = .ok (.invokevirtual 130, 3) := by decide +kernel
theorem d_Vb_settle_8 : decode b_Vb_settle 8 = .ok (.ifCond .ne 8, 3) := by decide +kernel
theorem d_Vb_settle_11 : decode b_Vb_settle 11 = .ok (.aload_n 1, 1) := by decide +kernel
theorem d_Vb_settle_12 : decode b_Vb_settle 12 = .ok (.invokevirtual 134, 3) := by decide +kernel
theorem d_Vb_settle_15 : decode b_Vb_settle 15 = .ok (.return_, 1) := by decide +kernel
theorem d_Vb_settle_16 : decode b_Vb_settle 16 = .ok (.aload_n 1, 1) := by decide +kernel
theorem d_Vb_settle_17 : decode b_Vb_settle 17 = .ok (.aload_n 0, 1) := by decide +kernel
theorem d_Vb_settle_18 : decode b_Vb_settle 18 = .ok (.getfield 9, 3) := by decide +kernel
theorem d_Vb_settle_21 : decode b_Vb_settle 21 = .ok (.invokevirtual 137, 3) := by decide +kernel
theorem d_Vb_settle_24 : decode b_Vb_settle 24 = .ok (.ifCond .eq 13, 3) := by decide +kernel
theorem d_Vb_settle_27 : decode b_Vb_settle 27 = .ok (.aload_n 0, 1) := by decide +kernel
theorem d_Vb_settle_28 : decode b_Vb_settle 28 = .ok (.dup, 1) := by decide +kernel
theorem d_Vb_settle_29 : decode b_Vb_settle 29 = .ok (.getfield 73, 3) := by decide +kernel
theorem d_Vb_settle_32 : decode b_Vb_settle 32 = .ok (.iconst 1, 1) := by decide +kernel
theorem d_Vb_settle_33 : decode b_Vb_settle 33 = .ok (.iadd, 1) := by decide +kernel
theorem d_Vb_settle_34 : decode b_Vb_settle 34 = .ok (.putfield 73, 3) := by decide +kernel
theorem d_Vb_settle_37 : decode b_Vb_settle 37 = .ok (.aload_n 0, 1) := by decide +kernel
theorem d_Vb_settle_38 : decode b_Vb_settle 38 = .ok (.dup, 1) := by decide +kernel
theorem d_Vb_settle_39 : decode b_Vb_settle 39 = .ok (.getfield 70, 3) := by decide +kernel
theorem d_Vb_settle_42 : decode b_Vb_settle 42 = .ok (.iconst 1, 1) := by decide +kernel
theorem d_Vb_settle_43 : decode b_Vb_settle 43 = .ok (.iadd, 1) := by decide +kernel
theorem d_Vb_settle_44 : decode b_Vb_settle 44 = .ok (.putfield 70, 3) := by decide +kernel
theorem d_Vb_settle_47 : decode b_Vb_settle 47 = .ok (.return_, 1) := by decide +kernel
theorem d_Vb_goOnAsFarAsItCan_0 : decode b_Vb_goOnAsFarAsItCan 0 = .ok (.aload_n 0, 1) := by decide +kernel
theorem d_Vb_goOnAsFarAsItCan_1 : decode b_Vb_goOnAsFarAsItCan 1 = .ok (.getfield 70, 3) := by decide +kernel
theorem d_Vb_goOnAsFarAsItCan_4 : decode b_Vb_goOnAsFarAsItCan 4 = .ok (.istore_n 2, 1) := by decide +kernel
theorem d_Vb_goOnAsFarAsItCan_5 : decode b_Vb_goOnAsFarAsItCan 5 = .ok (.iconst 1, 1) := by decide +kernel
theorem d_Vb_goOnAsFarAsItCan_6 : decode b_Vb_goOnAsFarAsItCan 6 = .ok (.istore_n 3, 1) := by decide +kernel
theorem d_Vb_goOnAsFarAsItCan_7 : decode b_Vb_goOnAsFarAsItCan 7 = .ok (.iconst 0, 1) := by decide +kernel
theorem d_Vb_goOnAsFarAsItCan_8 : decode b_Vb_goOnAsFarAsItCan 8 = .ok (.istore 4, 2) := by decide +kernel
theorem d_Vb_goOnAsFarAsItCan_10 : decode b_Vb_goOnAsFarAsItCan 10 = .ok (.iload 4, 2) := by decide +kernel
theorem d_Vb_goOnAsFarAsItCan_12 : decode b_Vb_goOnAsFarAsItCan 12 = .ok (.sipush 1000, 3) := by decide +kernel
theorem d_Vb_goOnAsFarAsItCan_15 : decode b_Vb_goOnAsFarAsItCan 15 = .ok (.if_icmp .ge 27, 3) := by decide +kernel
theorem d_Vb_goOnAsFarAsItCan_18 : decode b_Vb_goOnAsFarAsItCan 18 = .ok (.iload_n 3, 1) := by decide +kernel
theorem d_Vb_goOnAsFarAsItCan_19 : decode b_Vb_goOnAsFarAsItCan 19 = .ok (.ifCond .eq 23, 3) := by decide +kernel
theorem d_Vb_goOnAsFarAsItCan_22 : decode b_Vb_goOnAsFarAsItCan 22 = .ok (.aload_n 0, 1) := by decide +kernel
theorem d_Vb_goOnAsFarAsItCan_23 : decode b_Vb_goOnAsFarAsItCan 23 = .ok (.getfield 70, 3) := by decide +kernel
theorem d_Vb_goOnAsFarAsItCan_26 : decode b_Vb_goOnAsFarAsItCan 26 = .ok (.iload_n 2, 1) := by decide +kernel
theorem d_Vb_goOnAsFarAsItCan_27 : decode b_Vb_goOnAsFarAsItCan 27 = .ok (.if_icmp .ne 15, 3) := by decide +kernel
theorem d_Vb_goOnAsFarAsItCan_30 : decode b_Vb_goOnAsFarAsItCan 30 = .ok (.aload_n 0, 1) := by decide +kernel
theorem d_Vb_goOnAsFarAsItCan_31 : decode b_Vb_goOnAsFarAsItCan 31 = .ok (.iload_n 1, 1) := by decide +kernel
theorem d_Vb_goOnAsFarAsItCan_32 : decode b_Vb_goOnAsFarAsItCan 32 = .ok (.invokevirtual 86, 3) := by decide +kernel
theorem d_Vb_goOnAsFarAsItCan_35 : decode b_Vb_goOnAsFarAsItCan 35 = .ok (.istore_n 3, 1) := by decide +kernel
theorem d_Vb_goOnAsFarAsItCan_36 : decode b_Vb_goOnAsFarAsItCan 36 = .ok (.iinc 4 1, 3) := by decide +kernel
theorem d_Vb_goOnAsFarAsItCan_39 : decode b_Vb_goOnAsFarAsItCan 39 = .ok (.goto (-29), 3) := by decide +kernel
theorem d_Vb_goOnAsFarAsItCan_42 : decode b_Vb_goOnAsFarAsItCan 42 = .ok (.return_, 1) := by decide +kernel
theorem d_Vb_count_0 : decode b_Vb_count 0 = .ok (.aload_n 0, 1) := by decide +kernel
theorem d_Vb_count_1 : decode b_Vb_count 1 = .ok (.getfield 45, 3) := by decide +kernel
theorem d_Vb_count_4 : decode b_Vb_count 4 = .ok (.ireturn, 1) := by decide +kernel
theorem d_Vb_told_0 : decode b_Vb_told 0 = .ok (.aload_n 0, 1) := by decide +kernel
theorem d_Vb_told_1 : decode b_Vb_told 1 = .ok (.iload_n 1, 1) := by decide +kernel
theorem d_Vb_told_2 : decode b_Vb_told 2 = .ok (.invokevirtual 53, 3) := by decide +kernel
theorem d_Vb_told_5 : decode b_Vb_told 5 = .ok (.astore_n 3, 1) := by decide +kernel
theorem d_Vb_told_6 : decode b_Vb_told 6 = .ok (.aload_n 3, 1) := by decide +kernel
theorem d_Vb_told_7 : decode b_Vb_told 7 = .ok (.ifnonnull 7, 3) := by decide +kernel
theorem d_Vb_told_10 : decode b_Vb_told 10 = .ok (.iconst (-1), 1) := by decide +kernel
theorem d_Vb_told_11 : decode b_Vb_told 11 = .ok (.goto 8, 3) := by decide +kernel
theorem d_Vb_told_14 : decode b_Vb_told 14 = .ok (.aload_n 3, 1) := by decide +kernel
theorem d_Vb_told_15 : decode b_Vb_told 15 = .ok (.iload_n 2, 1) := by decide +kernel
theorem d_Vb_told_16 : decode b_Vb_told 16 = .ok (.invokevirtual 93, 3) := by decide +kernel
theorem d_Vb_told_19 : decode b_Vb_told 19 = .ok (.ireturn, 1) := by decide +kernel
theorem d_Vb_result_0 : decode b_Vb_result 0 = .ok (.aload_n 0, 1) := by decide +kernel
theorem d_Vb_result_1 : decode b_Vb_result 1 = .ok (.iload_n 1, 1) := by decide +kernel
theorem d_Vb_result_2 : decode b_Vb_result 2 = .ok (.invokevirtual 53, 3) := by decide +kernel
theorem d_Vb_result_5 : decode b_Vb_result 5 = .ok (.astore_n 2, 1) := by decide +kernel
theorem d_Vb_result_6 : decode b_Vb_result 6 = .ok (.aload_n 2, 1) := by decide +kernel
theorem d_Vb_result_7 : decode b_Vb_result 7 = .ok (.ifnonnull 7, 3) := by decide +kernel
theorem d_Vb_result_10 : decode b_Vb_result 10 = .ok (.lconst 0, 1) := by decide +kernel
theorem d_Vb_result_11 : decode b_Vb_result 11 = .ok (.goto 7, 3) := by decide +kernel
theorem d_Vb_result_14 : decode b_Vb_result 14 = .ok (.aload_n 2, 1) := by decide +kernel
theorem d_Vb_result_15 : decode b_Vb_result 15 = .ok (.invokevirtual 96, 3) := by decide +kernel
theorem d_Vb_result_18 : decode b_Vb_result 18 = .ok (.lreturn, 1) := by decide +kernel
end
section
theorem d_Mo_init_0 : decode b_Mo_init 0 = .ok (.aload_n 0, 1) := by decide +kernel
theorem d_Mo_init_1 : decode b_Mo_init 1 = .ok (.invokespecial 1, 3) := by decide +kernel
theorem d_Mo_init_4 : decode b_Mo_init 4 = .ok (.aload_n 0, 1) := by decide +kernel
theorem d_Mo_init_5 : decode b_Mo_init 5 = .ok (.sipush 256, 3) := by decide +kernel
theorem d_Mo_init_8 : decode b_Mo_init 8 = .ok (.newarray .long, 2) := by decide +kernel
theorem d_Mo_init_10 : decode b_Mo_init 10 = .ok (.putfield 7, 3) := by decide +kernel
theorem d_Mo_init_13 : decode b_Mo_init 13 = .ok (.aload_n 0, 1) := by decide +kernel
theorem d_Mo_init_14 : decode b_Mo_init 14 = .ok (.sipush 256, 3) := by decide +kernel
theorem d_Mo_init_17 : decode b_Mo_init 17 = .ok (.newarray .long, 2) := by decide +kernel
theorem d_Mo_init_19 : decode b_Mo_init 19 = .ok (.putfield 13, 3) := by decide +kernel
theorem d_Mo_init_22 : decode b_Mo_init 22 = .ok (.aload_n 0, 1) := by decide +kernel
theorem d_Mo_init_23 : decode b_Mo_init 23 = .ok (.sipush 256, 3) := by decide +kernel
theorem d_Mo_init_26 : decode b_Mo_init 26 = .ok (.newarray .boolean, 2) := by decide +kernel
theorem d_Mo_init_28 : decode b_Mo_init 28 = .ok (.putfield 16, 3) := by decide +kernel
theorem d_Mo_init_31 : decode b_Mo_init 31 = .ok (.aload_n 0, 1) := by decide +kernel
theorem d_Mo_init_32 : decode b_Mo_init 32 = .ok (.bipush 64, 2) := by decide +kernel
theorem d_Mo_init_34 : decode b_Mo_init 34 = .ok (.newarray .int, 2) := by decide +kernel
theorem d_Mo_init_36 : decode b_Mo_init 36 = .ok (.putfield 20, 3) := by decide +kernel
theorem d_Mo_init_39 : decode b_Mo_init 39 = .ok (.aload_n 0, 1) := by decide +kernel
theorem d_Mo_init_40 : decode b_Mo_init 40 = .ok (.sipush 2048, 3) := by decide +kernel
theorem d_Mo_init_43 : decode b_Mo_init 43 = .ok (.newarray .byte, 2) := by decide +kernel
theorem d_Mo_init_45 : decode b_Mo_init 45 = .ok (.putfield 24, 3) := by decide +kernel
theorem d_Mo_init_48 : decode b_Mo_init 48 = .ok (.aload_n 0, 1) := by decide +kernel
theorem d_Mo_init_49 : decode b_Mo_init 49 = .ok (.sipush 2048, 3) := by decide +kernel
theorem d_Mo_init_52 : decode b_Mo_init 52 = .ok (.newarray .int, 2) := by decide +kernel
theorem d_Mo_init_54 : decode b_Mo_init 54 = .ok (.putfield 28, 3) := by decide +kernel
theorem d_Mo_init_57 : decode b_Mo_init 57 = .ok (.aload_n 0, 1) := by decide +kernel
theorem d_Mo_init_58 : decode b_Mo_init 58 = .ok (.sipush 2048, 3) := by decide +kernel
theorem d_Mo_init_61 : decode b_Mo_init 61 = .ok (.newarray .long, 2) := by decide +kernel
theorem d_Mo_init_63 : decode b_Mo_init 63 = .ok (.putfield 31, 3) := by decide +kernel
theorem d_Mo_init_66 : decode b_Mo_init 66 = .ok (.aload_n 0, 1) := by decide +kernel
theorem d_Mo_init_67 : decode b_Mo_init 67 = .ok (.bipush 8, 2) := by decide +kernel
theorem d_Mo_init_69 : decode b_Mo_init 69 = .ok (.newarray .long, 2) := by decide +kernel
theorem d_Mo_init_71 : decode b_Mo_init 71 = .ok (.putfield 34, 3) := by decide +kernel
theorem d_Mo_init_74 : decode b_Mo_init 74 = .ok (.aload_n 0, 1) := by decide +kernel
theorem d_Mo_init_75 : decode b_Mo_init 75 = .ok (.bipush 64, 2) := by decide +kernel
theorem d_Mo_init_77 : decode b_Mo_init 77 = .ok (.newarray .boolean, 2) := by decide +kernel
theorem d_Mo_init_79 : decode b_Mo_init 79 = .ok (.putfield 37, 3) := by decide +kernel
theorem d_Mo_init_82 : decode b_Mo_init 82 = .ok (.aload_n 0, 1) := by decide +kernel
theorem d_Mo_init_83 : decode b_Mo_init 83 = .ok (.sipush 256, 3) := by decide +kernel
theorem d_Mo_init_86 : decode b_Mo_init 86 = .ok (.newarray .int, 2) := by decide +kernel
theorem d_Mo_init_88 : decode b_Mo_init 88 = .ok (.putfield 40, 3) := by decide +kernel
theorem d_Mo_init_91 : decode b_Mo_init 91 = .ok (.aload_n 0, 1) := by decide +kernel
theorem d_Mo_init_92 : decode b_Mo_init 92 = .ok (.bipush 64, 2) := by decide +kernel
theorem d_Mo_init_94 : decode b_Mo_init 94 = .ok (.newarray .long, 2) := by decide +kernel
theorem d_Mo_init_96 : decode b_Mo_init 96 = .ok (.putfield 43, 3) := by decide +kernel
theorem d_Mo_init_99 : decode b_Mo_init 99 = .ok (.return_, 1) := by decide +kernel
theorem d_Mo_put_0 : decode b_Mo_put 0 = .ok (.iload_n 1, 1) := by decide +kernel
theorem d_Mo_put_1 : decode b_Mo_put 1 = .ok (.invokestatic 46, 3) := by decide +kernel
theorem d_Mo_put_4 : decode b_Mo_put 4 = .ok (.ifCond .ne 5, 3) := by decide +kernel
theorem d_Mo_put_7 : decode b_Mo_put 7 = .ok (.iconst 0, 1) := by decide +kernel
theorem d_Mo_put_8 : decode b_Mo_put 8 = .ok (.ireturn, 1) := by decide +kernel
theorem d_Mo_put_9 : decode b_Mo_put 9 = .ok (.aload_n 0, 1) := by decide +kernel
theorem d_Mo_put_10 : decode b_Mo_put 10 = .ok (.getfield 7, 3) := by decide +kernel
theorem d_Mo_put_13 : decode b_Mo_put 13 = .ok (.iload_n 1, 1) := by decide +kernel
theorem d_Mo_put_14 : decode b_Mo_put 14 = .ok (.lload_n 2, 1) := by decide +kernel
theorem d_Mo_put_15 : decode b_Mo_put 15 = .ok (.lastore, 1) := by decide +kernel
theorem d_Mo_put_16 : decode b_Mo_put 16 = .ok (.iconst 1, 1) := by decide +kernel
theorem d_Mo_put_17 : decode b_Mo_put 17 = .ok (.ireturn, 1) := by decide +kernel
theorem d_Mo_isPlace_0 : decode b_Mo_isPlace 0 = .ok (.iload_n 0, 1) := by decide +kernel
theorem d_Mo_isPlace_1 : decode b_Mo_isPlace 1 = .ok (.ifCond .lt 14, 3) := by decide +kernel
theorem d_Mo_isPlace_4 : decode b_Mo_isPlace 4 = .ok (.iload_n 0, 1) := by decide +kernel
theorem d_Mo_isPlace_5 : decode b_Mo_isPlace 5 = .ok (.sipush 256, 3) := by decide +kernel
theorem d_Mo_isPlace_8 : decode b_Mo_isPlace 8 = .ok (.if_icmp .ge 7, 3) := by decide +kernel
theorem d_Mo_isPlace_11 : decode b_Mo_isPlace 11 = .ok (.iconst 1, 1) := by decide +kernel
theorem d_Mo_isPlace_12 : decode b_Mo_isPlace 12 = .ok (.goto 4, 3) := by decide +kernel
theorem d_Mo_isPlace_15 : decode b_Mo_isPlace 15 = .ok (.iconst 0, 1) := by decide +kernel
theorem d_Mo_isPlace_16 : decode b_Mo_isPlace 16 = .ok (.ireturn, 1) := by decide +kernel
theorem d_Mo_get_0 : decode b_Mo_get 0 = .ok (.iload_n 1, 1) := by decide +kernel
theorem d_Mo_get_1 : decode b_Mo_get 1 = .ok (.invokestatic 46, 3) := by decide +kernel
theorem d_Mo_get_4 : decode b_Mo_get 4 = .ok (.ifCond .eq 12, 3) := by decide +kernel
theorem d_Mo_get_7 : decode b_Mo_get 7 = .ok (.aload_n 0, 1) := by decide +kernel
theorem d_Mo_get_8 : decode b_Mo_get 8 = .ok (.getfield 7, 3) := by decide +kernel
theorem d_Mo_get_11 : decode b_Mo_get 11 = .ok (.iload_n 1, 1) := by decide +kernel
theorem d_Mo_get_12 : decode b_Mo_get 12 = .ok (.laload, 1) := by decide +kernel
theorem d_Mo_get_13 : decode b_Mo_get 13 = .ok (.goto 4, 3) := by decide +kernel
theorem d_Mo_get_16 : decode b_Mo_get 16 = .ok (.lconst 0, 1) := by decide +kernel
theorem d_Mo_get_17 : decode b_Mo_get 17 = .ok (.lreturn, 1) := by decide +kernel
theorem d_Mo_begin_0 : decode b_Mo_begin 0 = .ok (.aload_n 0, 1) := by decide +kernel
theorem d_Mo_begin_1 : decode b_Mo_begin 1 = .ok (.getfield 50, 3) := by decide +kernel
theorem d_Mo_begin_4 : decode b_Mo_begin 4 = .ok (.istore_n 1, 1) := by decide +kernel
theorem d_Mo_begin_5 : decode b_Mo_begin 5 = .ok (.aload_n 0, 1) := by decide +kernel
theorem d_Mo_begin_6 : decode b_Mo_begin 6 = .ok (.iconst 0, 1) := by decide +kernel
theorem d_Mo_begin_7 : decode b_Mo_begin 7 = .ok (.putfield 50, 3) := by decide +kernel
theorem d_Mo_begin_10 : decode b_Mo_begin 10 = .ok (.iload_n 1, 1) := by decide +kernel
theorem d_Mo_begin_11 : decode b_Mo_begin 11 = .ok (.ireturn, 1) := by decide +kernel
theorem d_Mo_transaction_0 : decode b_Mo_transaction 0 = .ok (.aload_n 0, 1) := by decide +kernel
theorem d_Mo_transaction_1 : decode b_Mo_transaction 1 = .ok (.getfield 50, 3) := by decide +kernel
theorem d_Mo_transaction_4 : decode b_Mo_transaction 4 = .ok (.bipush 64, 2) := by decide +kernel
theorem d_Mo_transaction_6 : decode b_Mo_transaction 6 = .ok (.if_icmp .ne 6, 3) := by decide +kernel
theorem d_Mo_transaction_9 : decode b_Mo_transaction 9 = .ok (.bipush (-3), 2) := by decide +kernel
theorem d_Mo_transaction_11 : decode b_Mo_transaction 11 = .ok (.ireturn, 1) := by decide +kernel
theorem d_Mo_transaction_12 : decode b_Mo_transaction 12 = .ok (.aload_n 0, 1) := by decide +kernel
theorem d_Mo_transaction_13 : decode b_Mo_transaction 13 = .ok (.getfield 20, 3) := by decide +kernel
theorem d_Mo_transaction_16 : decode b_Mo_transaction 16 = .ok (.aload_n 0, 1) := by decide +kernel
theorem d_Mo_transaction_17 : decode b_Mo_transaction 17 = .ok (.getfield 50, 3) := by decide +kernel
theorem d_Mo_transaction_20 : decode b_Mo_transaction 20 = .ok (.iconst 0, 1) := by decide +kernel
theorem d_Mo_transaction_21 : decode b_Mo_transaction 21 = .ok (.iastore, 1) := by decide +kernel
theorem d_Mo_transaction_22 : decode b_Mo_transaction 22 = .ok (.aload_n 0, 1) := by decide +kernel
theorem d_Mo_transaction_23 : decode b_Mo_transaction 23 = .ok (.getfield 37, 3) := by decide +kernel
theorem d_Mo_transaction_26 : decode b_Mo_transaction 26 = .ok (.aload_n 0, 1) := by decide +kernel
theorem d_Mo_transaction_27 : decode b_Mo_transaction 27 = .ok (.getfield 50, 3) := by decide +kernel
theorem d_Mo_transaction_30 : decode b_Mo_transaction 30 = .ok (.iconst 0, 1) := by decide +kernel
theorem d_Mo_transaction_31 : decode b_Mo_transaction 31 = .ok (.bastore, 1) := by decide +kernel
theorem d_Mo_transaction_32 : decode b_Mo_transaction 32 = .ok (.aload_n 0, 1) := by decide +kernel
theorem d_Mo_transaction_33 : decode b_Mo_transaction 33 = .ok (.dup, 1) := by decide +kernel
theorem d_Mo_transaction_34 : decode b_Mo_transaction 34 = .ok (.getfield 50, 3) := by decide +kernel
theorem d_Mo_transaction_37 : decode b_Mo_transaction 37 = .ok (.iconst 1, 1) := by decide +kernel
theorem d_Mo_transaction_38 : decode b_Mo_transaction 38 = .ok (.iadd, 1) := by decide +kernel
theorem d_Mo_transaction_39 : decode b_Mo_transaction 39 = .ok (.putfield 50, 3) := by decide +kernel
theorem d_Mo_transaction_42 : decode b_Mo_transaction 42 = .ok (.aload_n 0, 1) := by decide +kernel
theorem d_Mo_transaction_43 : decode b_Mo_transaction 43 = .ok (.getfield 50, 3) := by decide +kernel
theorem d_Mo_transaction_46 : decode b_Mo_transaction 46 = .ok (.iconst 1, 1) := by decide +kernel
theorem d_Mo_transaction_47 : decode b_Mo_transaction 47 = .ok (.isub, 1) := by decide +kernel
theorem d_Mo_transaction_48 : decode b_Mo_transaction 48 = .ok (.ireturn, 1) := by decide +kernel
theorem d_Mo_instruction_0 : decode b_Mo_instruction 0 = .ok (.iload_n 1, 1) := by decide +kernel
theorem d_Mo_instruction_1 : decode b_Mo_instruction 1 = .ok (.ifCond .lt 9, 3) := by decide +kernel
theorem d_Mo_instruction_4 : decode b_Mo_instruction 4 = .ok (.iload_n 1, 1) := by decide +kernel
theorem d_Mo_instruction_5 : decode b_Mo_instruction 5 = .ok (.bipush 10, 2) := by decide +kernel
theorem d_Mo_instruction_7 : decode b_Mo_instruction 7 = .ok (.if_icmp .le 5, 3) := by decide +kernel
theorem d_Mo_instruction_10 : decode b_Mo_instruction 10 = .ok (.iconst (-1), 1) := by decide +kernel
theorem d_Mo_instruction_11 : decode b_Mo_instruction 11 = .ok (.ireturn, 1) := by decide +kernel
theorem d_Mo_instruction_12 : decode b_Mo_instruction 12 = .ok (.aload_n 0, 1) := by decide +kernel
theorem d_Mo_instruction_13 : decode b_Mo_instruction 13 = .ok (.getfield 50, 3) := by decide +kernel
theorem d_Mo_instruction_16 : decode b_Mo_instruction 16 = .ok (.ifCond .ne 6, 3) := by decide +kernel
theorem d_Mo_instruction_19 : decode b_Mo_instruction 19 = .ok (.bipush (-2), 2) := by decide +kernel
theorem d_Mo_instruction_21 : decode b_Mo_instruction 21 = .ok (.ireturn, 1) := by decide +kernel
theorem d_Mo_instruction_22 : decode b_Mo_instruction 22 = .ok (.aload_n 0, 1) := by decide +kernel
theorem d_Mo_instruction_23 : decode b_Mo_instruction 23 = .ok (.getfield 50, 3) := by decide +kernel
theorem d_Mo_instruction_26 : decode b_Mo_instruction 26 = .ok (.iconst 1, 1) := by decide +kernel
theorem d_Mo_instruction_27 : decode b_Mo_instruction 27 = .ok (.isub, 1) := by decide +kernel
theorem d_Mo_instruction_28 : decode b_Mo_instruction 28 = .ok (.istore 5, 2) := by decide +kernel
theorem d_Mo_instruction_30 : decode b_Mo_instruction 30 = .ok (.aload_n 0, 1) := by decide +kernel
theorem d_Mo_instruction_31 : decode b_Mo_instruction 31 = .ok (.getfield 20, 3) := by decide +kernel
theorem d_Mo_instruction_34 : decode b_Mo_instruction 34 = .ok (.iload 5, 2) := by decide +kernel
theorem d_Mo_instruction_36 : decode b_Mo_instruction 36 = .ok (.iaload, 1) := by decide +kernel
theorem d_Mo_instruction_37 : decode b_Mo_instruction 37 = .ok (.bipush 32, 2) := by decide +kernel
theorem d_Mo_instruction_39 : decode b_Mo_instruction 39 = .ok (.if_icmp .ne 6, 3) := by decide +kernel
theorem d_Mo_instruction_42 : decode b_Mo_instruction 42 = .ok (.bipush (-3), 2) := by decide +kernel
theorem d_Mo_instruction_44 : decode b_Mo_instruction 44 = .ok (.ireturn, 1) := by decide +kernel
theorem d_Mo_instruction_45 : decode b_Mo_instruction 45 = .ok (.bipush 32, 2) := by decide +kernel
theorem d_Mo_instruction_47 : decode b_Mo_instruction 47 = .ok (.iload 5, 2) := by decide +kernel
theorem d_Mo_instruction_49 : decode b_Mo_instruction 49 = .ok (.imul, 1) := by decide +kernel
theorem d_Mo_instruction_50 : decode b_Mo_instruction 50 = .ok (.aload_n 0, 1) := by decide +kernel
theorem d_Mo_instruction_51 : decode b_Mo_instruction 51 = .ok (.getfield 20, 3) := by decide +kernel
theorem d_Mo_instruction_54 : decode b_Mo_instruction 54 = .ok (.iload 5, 2) := by decide +kernel
theorem d_Mo_instruction_56 : decode b_Mo_instruction 56 = .ok (.iaload, 1) := by decide +kernel
theorem d_Mo_instruction_57 : decode b_Mo_instruction 57 = .ok (.iadd, 1) := by decide +kernel
theorem d_Mo_instruction_58 : decode b_Mo_instruction 58 = .ok (.istore 6, 2) := by decide +kernel
theorem d_Mo_instruction_60 : decode b_Mo_instruction 60 = .ok (.aload_n 0, 1) := by decide +kernel
theorem d_Mo_instruction_61 : decode b_Mo_instruction 61 = .ok (.getfield 24, 3) := by decide +kernel
theorem d_Mo_instruction_64 : decode b_Mo_instruction 64 = .ok (.iload 6, 2) := by decide +kernel
theorem d_Mo_instruction_66 : decode b_Mo_instruction 66 = .ok (.iload_n 1, 1) := by decide +kernel
theorem d_Mo_instruction_67 : decode b_Mo_instruction 67 = .ok (.i2b, 1) := by decide +kernel
theorem d_Mo_instruction_68 : decode b_Mo_instruction 68 = .ok (.bastore, 1) := by decide +kernel
theorem d_Mo_instruction_69 : decode b_Mo_instruction 69 = .ok (.aload_n 0, 1) := by decide +kernel
theorem d_Mo_instruction_70 : decode b_Mo_instruction 70 = .ok (.getfield 28, 3) := by decide +kernel
theorem d_Mo_instruction_73 : decode b_Mo_instruction 73 = .ok (.iload 6, 2) := by decide +kernel
theorem d_Mo_instruction_75 : decode b_Mo_instruction 75 = .ok (.iload_n 2, 1) := by decide +kernel
theorem d_Mo_instruction_76 : decode b_Mo_instruction 76 = .ok (.bipush 8, 2) := by decide +kernel
theorem d_Mo_instruction_78 : decode b_Mo_instruction 78 = .ok (.invokestatic 54, 3) := by decide +kernel
theorem d_Mo_instruction_81 : decode b_Mo_instruction 81 = .ok (.iastore, 1) := by decide +kernel
theorem d_Mo_instruction_82 : decode b_Mo_instruction 82 = .ok (.aload_n 0, 1) := by decide +kernel
theorem d_Mo_instruction_83 : decode b_Mo_instruction 83 = .ok (.getfield 31, 3) := by decide +kernel
theorem d_Mo_instruction_86 : decode b_Mo_instruction 86 = .ok (.iload 6, 2) := by decide +kernel
theorem d_Mo_instruction_88 : decode b_Mo_instruction 88 = .ok (.lload_n 3, 1) := by decide +kernel
theorem d_Mo_instruction_89 : decode b_Mo_instruction 89 = .ok (.lastore, 1) := by decide +kernel
theorem d_Mo_instruction_90 : decode b_Mo_instruction 90 = .ok (.aload_n 0, 1) := by decide +kernel
theorem d_Mo_instruction_91 : decode b_Mo_instruction 91 = .ok (.getfield 20, 3) := by decide +kernel
theorem d_Mo_instruction_94 : decode b_Mo_instruction 94 = .ok (.iload 5, 2) := by decide +kernel
theorem d_Mo_instruction_96 : decode b_Mo_instruction 96 = .ok (.dup2, 1) := by decide +kernel
theorem d_Mo_instruction_97 : decode b_Mo_instruction 97 = .ok (.iaload, 1) := by decide +kernel
theorem d_Mo_instruction_98 : decode b_Mo_instruction 98 = .ok (.iconst 1, 1) := by decide +kernel
theorem d_Mo_instruction_99 : decode b_Mo_instruction 99 = .ok (.iadd, 1) := by decide +kernel
theorem d_Mo_instruction_100 : decode b_Mo_instruction 100 = .ok (.iastore, 1) := by decide +kernel
theorem d_Mo_instruction_101 : decode b_Mo_instruction 101 = .ok (.aload_n 0, 1) := by decide +kernel
theorem d_Mo_instruction_102 : decode b_Mo_instruction 102 = .ok (.getfield 37, 3) := by decide +kernel
theorem d_Mo_instruction_105 : decode b_Mo_instruction 105 = .ok (.iload 5, 2) := by decide +kernel
theorem d_Mo_instruction_107 : decode b_Mo_instruction 107 = .ok (.iconst 0, 1) := by decide +kernel
theorem d_Mo_instruction_108 : decode b_Mo_instruction 108 = .ok (.bastore, 1) := by decide +kernel
theorem d_Mo_instruction_109 : decode b_Mo_instruction 109 = .ok (.aload_n 0, 1) := by decide +kernel
theorem d_Mo_instruction_110 : decode b_Mo_instruction 110 = .ok (.getfield 20, 3) := by decide +kernel
theorem d_Mo_instruction_113 : decode b_Mo_instruction 113 = .ok (.iload 5, 2) := by decide +kernel
theorem d_Mo_instruction_115 : decode b_Mo_instruction 115 = .ok (.iaload, 1) := by decide +kernel
theorem d_Mo_instruction_116 : decode b_Mo_instruction 116 = .ok (.ireturn, 1) := by decide +kernel
theorem d_Mo_weave_0 : decode b_Mo_weave 0 = .ok (.aload_n 0, 1) := by decide +kernel
theorem d_Mo_weave_1 : decode b_Mo_weave 1 = .ok (.getfield 60, 3) := by decide +kernel
theorem d_Mo_weave_4 : decode b_Mo_weave 4 = .ok (.bipush 16, 2) := by decide +kernel
theorem d_Mo_weave_6 : decode b_Mo_weave 6 = .ok (.iadd, 1) := by decide +kernel
theorem d_Mo_weave_7 : decode b_Mo_weave 7 = .ok (.ldc 63, 2) := by decide +kernel
theorem d_Mo_weave_9 : decode b_Mo_weave 9 = .ok (.if_icmp .le 6, 3) := by decide +kernel
theorem d_Mo_weave_12 : decode b_Mo_weave 12 = .ok (.bipush (-3), 2) := by decide +kernel
theorem d_Mo_weave_14 : decode b_Mo_weave 14 = .ok (.ireturn, 1) := by decide +kernel
theorem d_Mo_weave_15 : decode b_Mo_weave 15 = .ok (.aload_n 0, 1) := by decide +kernel
theorem d_Mo_weave_16 : decode b_Mo_weave 16 = .ok (.dup, 1) := by decide +kernel
theorem d_Mo_weave_17 : decode b_Mo_weave 17 = .ok (.getfield 60, 3) := by decide +kernel
theorem d_Mo_weave_20 : decode b_Mo_weave 20 = .ok (.bipush 16, 2) := by decide +kernel
theorem d_Mo_weave_22 : decode b_Mo_weave 22 = .ok (.iadd, 1) := by decide +kernel
theorem d_Mo_weave_23 : decode b_Mo_weave 23 = .ok (.putfield 60, 3) := by decide +kernel
theorem d_Mo_weave_26 : decode b_Mo_weave 26 = .ok (.aload_n 0, 1) := by decide +kernel
theorem d_Mo_weave_27 : decode b_Mo_weave 27 = .ok (.getfield 60, 3) := by decide +kernel
theorem d_Mo_weave_30 : decode b_Mo_weave 30 = .ok (.ireturn, 1) := by decide +kernel
theorem d_Mo_unweave_0 : decode b_Mo_unweave 0 = .ok (.aload_n 0, 1) := by decide +kernel
theorem d_Mo_unweave_1 : decode b_Mo_unweave 1 = .ok (.getfield 60, 3) := by decide +kernel
theorem d_Mo_unweave_4 : decode b_Mo_unweave 4 = .ok (.istore_n 1, 1) := by decide +kernel
theorem d_Mo_unweave_5 : decode b_Mo_unweave 5 = .ok (.aload_n 0, 1) := by decide +kernel
theorem d_Mo_unweave_6 : decode b_Mo_unweave 6 = .ok (.iconst 0, 1) := by decide +kernel
theorem d_Mo_unweave_7 : decode b_Mo_unweave 7 = .ok (.putfield 60, 3) := by decide +kernel
theorem d_Mo_unweave_10 : decode b_Mo_unweave 10 = .ok (.iload_n 1, 1) := by decide +kernel
theorem d_Mo_unweave_11 : decode b_Mo_unweave 11 = .ok (.ireturn, 1) := by decide +kernel
theorem d_Mo_execute_0 : decode b_Mo_execute 0 = .ok (.iconst 0, 1) := by decide +kernel
theorem d_Mo_execute_1 : decode b_Mo_execute 1 = .ok (.istore_n 1, 1) := by decide +kernel
theorem d_Mo_execute_2 : decode b_Mo_execute 2 = .ok (.iconst 0, 1) := by decide +kernel
theorem d_Mo_execute_3 : decode b_Mo_execute 3 = .ok (.istore_n 2, 1) := by decide +kernel
theorem d_Mo_execute_4 : decode b_Mo_execute 4 = .ok (.iload_n 2, 1) := by decide +kernel
theorem d_Mo_execute_5 : decode b_Mo_execute 5 = .ok (.aload_n 0, 1) := by decide +kernel
theorem d_Mo_execute_6 : decode b_Mo_execute 6 = .ok (.getfield 50, 3) := by decide +kernel
theorem d_Mo_execute_9 : decode b_Mo_execute 9 = .ok (.if_icmp .ge 26, 3) := by decide +kernel
theorem d_Mo_execute_12 : decode b_Mo_execute 12 = .ok (.iload_n 1, 1) := by decide +kernel
theorem d_Mo_execute_13 : decode b_Mo_execute 13 = .ok (.aload_n 0, 1) := by decide +kernel
theorem d_Mo_execute_14 : decode b_Mo_execute 14 = .ok (.iload_n 2, 1) := by decide +kernel
theorem d_Mo_execute_15 : decode b_Mo_execute 15 = .ok (.invokevirtual 87, 3) := by decide +kernel
theorem d_Mo_execute_18 : decode b_Mo_execute 18 = .ok (.iconst 1, 1) := by decide +kernel
theorem d_Mo_execute_19 : decode b_Mo_execute 19 = .ok (.if_icmp .ne 7, 3) := by decide +kernel
theorem d_Mo_execute_22 : decode b_Mo_execute 22 = .ok (.iconst 1, 1) := by decide +kernel
theorem d_Mo_execute_23 : decode b_Mo_execute 23 = .ok (.goto 4, 3) := by decide +kernel
theorem d_Mo_execute_26 : decode b_Mo_execute 26 = .ok (.iconst 0, 1) := by decide +kernel
theorem d_Mo_execute_27 : decode b_Mo_execute 27 = .ok (.iadd, 1) := by decide +kernel
theorem d_Mo_execute_28 : decode b_Mo_execute 28 = .ok (.istore_n 1, 1) := by decide +kernel
theorem d_Mo_execute_29 : decode b_Mo_execute 29 = .ok (.iinc 2 1, 3) := by decide +kernel
theorem d_Mo_execute_32 : decode b_Mo_execute 32 = .ok (.goto (-28), 3) := by decide +kernel
theorem d_Mo_execute_35 : decode b_Mo_execute 35 = .ok (.iload_n 1, 1) := by decide +kernel
theorem d_Mo_execute_36 : decode b_Mo_execute 36 = .ok (.ireturn, 1) := by decide +kernel
theorem d_Mo_all_0 : decode b_Mo_all 0 = .ok (.iconst 0, 1) := by decide +kernel
theorem d_Mo_all_1 : decode b_Mo_all 1 = .ok (.istore_n 2, 1) := by decide +kernel
theorem d_Mo_all_2 : decode b_Mo_all 2 = .ok (.iload_n 2, 1) := by decide +kernel
theorem d_Mo_all_3 : decode b_Mo_all 3 = .ok (.bipush 8, 2) := by decide +kernel
theorem d_Mo_all_5 : decode b_Mo_all 5 = .ok (.if_icmp .ge 16, 3) := by decide +kernel
theorem d_Mo_all_8 : decode b_Mo_all 8 = .ok (.aload_n 0, 1) := by decide +kernel
theorem d_Mo_all_9 : decode b_Mo_all 9 = .ok (.getfield 34, 3) := by decide +kernel
theorem d_Mo_all_12 : decode b_Mo_all 12 = .ok (.iload_n 2, 1) := by decide +kernel
theorem d_Mo_all_13 : decode b_Mo_all 13 = .ok (.lconst 0, 1) := by decide +kernel
theorem d_Mo_all_14 : decode b_Mo_all 14 = .ok (.lastore, 1) := by decide +kernel
theorem d_Mo_all_15 : decode b_Mo_all 15 = .ok (.iinc 2 1, 3) := by decide +kernel
theorem d_Mo_all_18 : decode b_Mo_all 18 = .ok (.goto (-16), 3) := by decide +kernel
theorem d_Mo_all_21 : decode b_Mo_all 21 = .ok (.iconst 0, 1) := by decide +kernel
theorem d_Mo_all_22 : decode b_Mo_all 22 = .ok (.istore_n 2, 1) := by decide +kernel
theorem d_Mo_all_23 : decode b_Mo_all 23 = .ok (.iload_n 2, 1) := by decide +kernel
theorem d_Mo_all_24 : decode b_Mo_all 24 = .ok (.sipush 256, 3) := by decide +kernel
theorem d_Mo_all_27 : decode b_Mo_all 27 = .ok (.if_icmp .ge 16, 3) := by decide +kernel
theorem d_Mo_all_30 : decode b_Mo_all 30 = .ok (.aload_n 0, 1) := by decide +kernel
theorem d_Mo_all_31 : decode b_Mo_all 31 = .ok (.getfield 16, 3) := by decide +kernel
theorem d_Mo_all_34 : decode b_Mo_all 34 = .ok (.iload_n 2, 1) := by decide +kernel
theorem d_Mo_all_35 : decode b_Mo_all 35 = .ok (.iconst 0, 1) := by decide +kernel
theorem d_Mo_all_36 : decode b_Mo_all 36 = .ok (.bastore, 1) := by decide +kernel
theorem d_Mo_all_37 : decode b_Mo_all 37 = .ok (.iinc 2 1, 3) := by decide +kernel
theorem d_Mo_all_40 : decode b_Mo_all 40 = .ok (.goto (-17), 3) := by decide +kernel
theorem d_Mo_all_43 : decode b_Mo_all 43 = .ok (.aload_n 0, 1) := by decide +kernel
theorem d_Mo_all_44 : decode b_Mo_all 44 = .ok (.iconst 0, 1) := by decide +kernel
theorem d_Mo_all_45 : decode b_Mo_all 45 = .ok (.putfield 71, 3) := by decide +kernel
theorem d_Mo_all_48 : decode b_Mo_all 48 = .ok (.aload_n 0, 1) := by decide +kernel
theorem d_Mo_all_49 : decode b_Mo_all 49 = .ok (.iconst 0, 1) := by decide +kernel
theorem d_Mo_all_50 : decode b_Mo_all 50 = .ok (.putfield 78, 3) := by decide +kernel
theorem d_Mo_all_53 : decode b_Mo_all 53 = .ok (.iconst 0, 1) := by decide +kernel
theorem d_Mo_all_54 : decode b_Mo_all 54 = .ok (.istore_n 2, 1) := by decide +kernel
theorem d_Mo_all_55 : decode b_Mo_all 55 = .ok (.iconst 0, 1) := by decide +kernel
theorem d_Mo_all_56 : decode b_Mo_all 56 = .ok (.istore_n 3, 1) := by decide +kernel
theorem d_Mo_all_57 : decode b_Mo_all 57 = .ok (.iload_n 3, 1) := by decide +kernel
theorem d_Mo_all_58 : decode b_Mo_all 58 = .ok (.ifCond .ne 53, 3) := by decide +kernel
theorem d_Mo_all_61 : decode b_Mo_all 61 = .ok (.aload_n 0, 1) := by decide +kernel
theorem d_Mo_all_62 : decode b_Mo_all 62 = .ok (.getfield 71, 3) := by decide +kernel
theorem d_Mo_all_65 : decode b_Mo_all 65 = .ok (.aload_n 0, 1) := by decide +kernel
theorem d_Mo_all_66 : decode b_Mo_all 66 = .ok (.getfield 20, 3) := by decide +kernel
theorem d_Mo_all_69 : decode b_Mo_all 69 = .ok (.iload_n 1, 1) := by decide +kernel
theorem d_Mo_all_70 : decode b_Mo_all 70 = .ok (.iaload, 1) := by decide +kernel
theorem d_Mo_all_71 : decode b_Mo_all 71 = .ok (.if_icmp .lt 8, 3) := by decide +kernel
theorem d_Mo_all_74 : decode b_Mo_all 74 = .ok (.iconst 1, 1) := by decide +kernel
theorem d_Mo_all_75 : decode b_Mo_all 75 = .ok (.istore_n 3, 1) := by decide +kernel
theorem d_Mo_all_76 : decode b_Mo_all 76 = .ok (.goto (-19), 3) := by decide +kernel
theorem d_Mo_all_79 : decode b_Mo_all 79 = .ok (.iload_n 2, 1) := by decide +kernel
theorem d_Mo_all_80 : decode b_Mo_all 80 = .ok (.sipush 300, 3) := by decide +kernel
theorem d_Mo_all_83 : decode b_Mo_all 83 = .ok (.if_icmp .ne 8, 3) := by decide +kernel
theorem d_Mo_all_86 : decode b_Mo_all 86 = .ok (.iconst 3, 1) := by decide +kernel
theorem d_Mo_all_87 : decode b_Mo_all 87 = .ok (.istore_n 3, 1) := by decide +kernel
theorem d_Mo_all_88 : decode b_Mo_all 88 = .ok (.goto (-31), 3) := by decide +kernel
theorem d_Mo_all_91 : decode b_Mo_all 91 = .ok (.iinc 2 1, 3) := by decide +kernel
theorem d_Mo_all_94 : decode b_Mo_all 94 = .ok (.aload_n 0, 1) := by decide +kernel
theorem d_Mo_all_95 : decode b_Mo_all 95 = .ok (.bipush 32, 2) := by decide +kernel
theorem d_Mo_all_97 : decode b_Mo_all 97 = .ok (.iload_n 1, 1) := by decide +kernel
theorem d_Mo_all_98 : decode b_Mo_all 98 = .ok (.imul, 1) := by decide +kernel
theorem d_Mo_all_99 : decode b_Mo_all 99 = .ok (.aload_n 0, 1) := by decide +kernel
theorem d_Mo_all_100 : decode b_Mo_all 100 = .ok (.getfield 71, 3) := by decide +kernel
theorem d_Mo_all_103 : decode b_Mo_all 103 = .ok (.iadd, 1) := by decide +kernel
theorem d_Mo_all_104 : decode b_Mo_all 104 = .ok (.invokevirtual 83, 3) := by decide +kernel
theorem d_Mo_all_107 : decode b_Mo_all 107 = .ok (.istore_n 3, 1) := by decide +kernel
theorem d_Mo_all_108 : decode b_Mo_all 108 = .ok (.goto (-51), 3) := by decide +kernel
theorem d_Mo_all_111 : decode b_Mo_all 111 = .ok (.iconst 0, 1) := by decide +kernel
theorem d_Mo_all_112 : decode b_Mo_all 112 = .ok (.istore 4, 2) := by decide +kernel
theorem d_Mo_all_114 : decode b_Mo_all 114 = .ok (.iconst 0, 1) := by decide +kernel
theorem d_Mo_all_115 : decode b_Mo_all 115 = .ok (.istore 5, 2) := by decide +kernel
theorem d_Mo_all_117 : decode b_Mo_all 117 = .ok (.iload 5, 2) := by decide +kernel
theorem d_Mo_all_119 : decode b_Mo_all 119 = .ok (.sipush 256, 3) := by decide +kernel
theorem d_Mo_all_122 : decode b_Mo_all 122 = .ok (.if_icmp .ge 44, 3) := by decide +kernel
theorem d_Mo_all_125 : decode b_Mo_all 125 = .ok (.iload_n 3, 1) := by decide +kernel
theorem d_Mo_all_126 : decode b_Mo_all 126 = .ok (.iconst 1, 1) := by decide +kernel
theorem d_Mo_all_127 : decode b_Mo_all 127 = .ok (.if_icmp .ne 39, 3) := by decide +kernel
theorem d_Mo_all_130 : decode b_Mo_all 130 = .ok (.aload_n 0, 1) := by decide +kernel
theorem d_Mo_all_131 : decode b_Mo_all 131 = .ok (.getfield 16, 3) := by decide +kernel
theorem d_Mo_all_134 : decode b_Mo_all 134 = .ok (.iload 5, 2) := by decide +kernel
theorem d_Mo_all_136 : decode b_Mo_all 136 = .ok (.baload, 1) := by decide +kernel
theorem d_Mo_all_137 : decode b_Mo_all 137 = .ok (.ifCond .ne 6, 3) := by decide +kernel
theorem d_Mo_all_140 : decode b_Mo_all 140 = .ok (.goto 20, 3) := by decide +kernel
theorem d_Mo_all_143 : decode b_Mo_all 143 = .ok (.aload_n 0, 1) := by decide +kernel
theorem d_Mo_all_144 : decode b_Mo_all 144 = .ok (.getfield 7, 3) := by decide +kernel
theorem d_Mo_all_147 : decode b_Mo_all 147 = .ok (.iload 5, 2) := by decide +kernel
theorem d_Mo_all_149 : decode b_Mo_all 149 = .ok (.aload_n 0, 1) := by decide +kernel
theorem d_Mo_all_150 : decode b_Mo_all 150 = .ok (.getfield 13, 3) := by decide +kernel
theorem d_Mo_all_153 : decode b_Mo_all 153 = .ok (.iload 5, 2) := by decide +kernel
theorem d_Mo_all_155 : decode b_Mo_all 155 = .ok (.laload, 1) := by decide +kernel
theorem d_Mo_all_156 : decode b_Mo_all 156 = .ok (.lastore, 1) := by decide +kernel
theorem d_Mo_all_157 : decode b_Mo_all 157 = .ok (.iinc 4 1, 3) := by decide +kernel
theorem d_Mo_all_160 : decode b_Mo_all 160 = .ok (.iinc 5 1, 3) := by decide +kernel
theorem d_Mo_all_163 : decode b_Mo_all 163 = .ok (.goto (-46), 3) := by decide +kernel
theorem d_Mo_all_166 : decode b_Mo_all 166 = .ok (.aload_n 0, 1) := by decide +kernel
theorem d_Mo_all_167 : decode b_Mo_all 167 = .ok (.getfield 40, 3) := by decide +kernel
theorem d_Mo_all_170 : decode b_Mo_all 170 = .ok (.iconst 4, 1) := by decide +kernel
theorem d_Mo_all_171 : decode b_Mo_all 171 = .ok (.iload_n 1, 1) := by decide +kernel
theorem d_Mo_all_172 : decode b_Mo_all 172 = .ok (.imul, 1) := by decide +kernel
theorem d_Mo_all_173 : decode b_Mo_all 173 = .ok (.iload_n 3, 1) := by decide +kernel
theorem d_Mo_all_174 : decode b_Mo_all 174 = .ok (.iastore, 1) := by decide +kernel
theorem d_Mo_all_175 : decode b_Mo_all 175 = .ok (.aload_n 0, 1) := by decide +kernel
theorem d_Mo_all_176 : decode b_Mo_all 176 = .ok (.getfield 40, 3) := by decide +kernel
theorem d_Mo_all_179 : decode b_Mo_all 179 = .ok (.iconst 4, 1) := by decide +kernel
theorem d_Mo_all_180 : decode b_Mo_all 180 = .ok (.iload_n 1, 1) := by decide +kernel
theorem d_Mo_all_181 : decode b_Mo_all 181 = .ok (.imul, 1) := by decide +kernel
theorem d_Mo_all_182 : decode b_Mo_all 182 = .ok (.iconst 1, 1) := by decide +kernel
theorem d_Mo_all_183 : decode b_Mo_all 183 = .ok (.iadd, 1) := by decide +kernel
theorem d_Mo_all_184 : decode b_Mo_all 184 = .ok (.iload_n 2, 1) := by decide +kernel
theorem d_Mo_all_185 : decode b_Mo_all 185 = .ok (.iastore, 1) := by decide +kernel
theorem d_Mo_all_186 : decode b_Mo_all 186 = .ok (.aload_n 0, 1) := by decide +kernel
theorem d_Mo_all_187 : decode b_Mo_all 187 = .ok (.getfield 40, 3) := by decide +kernel
theorem d_Mo_all_190 : decode b_Mo_all 190 = .ok (.iconst 4, 1) := by decide +kernel
theorem d_Mo_all_191 : decode b_Mo_all 191 = .ok (.iload_n 1, 1) := by decide +kernel
theorem d_Mo_all_192 : decode b_Mo_all 192 = .ok (.imul, 1) := by decide +kernel
theorem d_Mo_all_193 : decode b_Mo_all 193 = .ok (.iconst 2, 1) := by decide +kernel
theorem d_Mo_all_194 : decode b_Mo_all 194 = .ok (.iadd, 1) := by decide +kernel
theorem d_Mo_all_195 : decode b_Mo_all 195 = .ok (.aload_n 0, 1) := by decide +kernel
theorem d_Mo_all_196 : decode b_Mo_all 196 = .ok (.getfield 78, 3) := by decide +kernel
theorem d_Mo_all_199 : decode b_Mo_all 199 = .ok (.iastore, 1) := by decide +kernel
theorem d_Mo_all_200 : decode b_Mo_all 200 = .ok (.aload_n 0, 1) := by decide +kernel
theorem d_Mo_all_201 : decode b_Mo_all 201 = .ok (.getfield 40, 3) := by decide +kernel
theorem d_Mo_all_204 : decode b_Mo_all 204 = .ok (.iconst 4, 1) := by decide +kernel
theorem d_Mo_all_205 : decode b_Mo_all 205 = .ok (.iload_n 1, 1) := by decide +kernel
theorem d_Mo_all_206 : decode b_Mo_all 206 = .ok (.imul, 1) := by decide +kernel
theorem d_Mo_all_207 : decode b_Mo_all 207 = .ok (.iconst 3, 1) := by decide +kernel
theorem d_Mo_all_208 : decode b_Mo_all 208 = .ok (.iadd, 1) := by decide +kernel
theorem d_Mo_all_209 : decode b_Mo_all 209 = .ok (.iload 4, 2) := by decide +kernel
theorem d_Mo_all_211 : decode b_Mo_all 211 = .ok (.iastore, 1) := by decide +kernel
theorem d_Mo_all_212 : decode b_Mo_all 212 = .ok (.aload_n 0, 1) := by decide +kernel
theorem d_Mo_all_213 : decode b_Mo_all 213 = .ok (.getfield 43, 3) := by decide +kernel
theorem d_Mo_all_216 : decode b_Mo_all 216 = .ok (.iload_n 1, 1) := by decide +kernel
theorem d_Mo_all_217 : decode b_Mo_all 217 = .ok (.iload_n 3, 1) := by decide +kernel
theorem d_Mo_all_218 : decode b_Mo_all 218 = .ok (.iconst 3, 1) := by decide +kernel
theorem d_Mo_all_219 : decode b_Mo_all 219 = .ok (.if_icmp .ne 7, 3) := by decide +kernel
theorem d_Mo_all_222 : decode b_Mo_all 222 = .ok (.lconst 0, 1) := by decide +kernel
theorem d_Mo_all_223 : decode b_Mo_all 223 = .ok (.goto 9, 3) := by decide +kernel
theorem d_Mo_all_226 : decode b_Mo_all 226 = .ok (.aload_n 0, 1) := by decide +kernel
theorem d_Mo_all_227 : decode b_Mo_all 227 = .ok (.getfield 34, 3) := by decide +kernel
theorem d_Mo_all_230 : decode b_Mo_all 230 = .ok (.iconst 0, 1) := by decide +kernel
theorem d_Mo_all_231 : decode b_Mo_all 231 = .ok (.laload, 1) := by decide +kernel
theorem d_Mo_all_232 : decode b_Mo_all 232 = .ok (.lastore, 1) := by decide +kernel
theorem d_Mo_all_233 : decode b_Mo_all 233 = .ok (.aload_n 0, 1) := by decide +kernel
theorem d_Mo_all_234 : decode b_Mo_all 234 = .ok (.getfield 37, 3) := by decide +kernel
theorem d_Mo_all_237 : decode b_Mo_all 237 = .ok (.iload_n 1, 1) := by decide +kernel
theorem d_Mo_all_238 : decode b_Mo_all 238 = .ok (.iconst 1, 1) := by decide +kernel
theorem d_Mo_all_239 : decode b_Mo_all 239 = .ok (.bastore, 1) := by decide +kernel
theorem d_Mo_all_240 : decode b_Mo_all 240 = .ok (.iload_n 3, 1) := by decide +kernel
theorem d_Mo_all_241 : decode b_Mo_all 241 = .ok (.ireturn, 1) := by decide +kernel
theorem d_Mo_one_0 : decode b_Mo_one 0 = .ok (.aload_n 0, 1) := by decide +kernel
theorem d_Mo_one_1 : decode b_Mo_one 1 = .ok (.getfield 28, 3) := by decide +kernel
theorem d_Mo_one_4 : decode b_Mo_one 4 = .ok (.iload_n 1, 1) := by decide +kernel
theorem d_Mo_one_5 : decode b_Mo_one 5 = .ok (.iaload, 1) := by decide +kernel
theorem d_Mo_one_6 : decode b_Mo_one 6 = .ok (.istore_n 2, 1) := by decide +kernel
theorem d_Mo_one_7 : decode b_Mo_one 7 = .ok (.aload_n 0, 1) := by decide +kernel
theorem d_Mo_one_8 : decode b_Mo_one 8 = .ok (.getfield 31, 3) := by decide +kernel
theorem d_Mo_one_11 : decode b_Mo_one 11 = .ok (.iload_n 1, 1) := by decide +kernel
theorem d_Mo_one_12 : decode b_Mo_one 12 = .ok (.laload, 1) := by decide +kernel
theorem d_Mo_one_13 : decode b_Mo_one 13 = .ok (.ldc2_w 69, 3) := by decide +kernel
theorem d_Mo_one_16 : decode b_Mo_one 16 = .ok (.invokestatic 66, 3) := by decide +kernel
theorem d_Mo_one_19 : decode b_Mo_one 19 = .ok (.l2i, 1) := by decide +kernel
theorem d_Mo_one_20 : decode b_Mo_one 20 = .ok (.istore_n 3, 1) := by decide +kernel
theorem d_Mo_one_21 : decode b_Mo_one 21 = .ok (.aload_n 0, 1) := by decide +kernel
theorem d_Mo_one_22 : decode b_Mo_one 22 = .ok (.dup, 1) := by decide +kernel
theorem d_Mo_one_23 : decode b_Mo_one 23 = .ok (.getfield 71, 3) := by decide +kernel
theorem d_Mo_one_26 : decode b_Mo_one 26 = .ok (.iconst 1, 1) := by decide +kernel
theorem d_Mo_one_27 : decode b_Mo_one 27 = .ok (.iadd, 1) := by decide +kernel
theorem d_Mo_one_28 : decode b_Mo_one 28 = .ok (.putfield 71, 3) := by decide +kernel
theorem d_Mo_one_31 : decode b_Mo_one 31 = .ok (.aload_n 0, 1) := by decide +kernel
theorem d_Mo_one_32 : decode b_Mo_one 32 = .ok (.getfield 24, 3) := by decide +kernel
theorem d_Mo_one_35 : decode b_Mo_one 35 = .ok (.iload_n 1, 1) := by decide +kernel
theorem d_Mo_one_36 : decode b_Mo_one 36 = .ok (.baload, 1) := by decide +kernel
theorem d_Mo_one_37 : decode b_Mo_one 37 = .ok (.tableswitch 308 0 9 #[55, 57, 71, 127, 161, 182, 203, 224, 277, 306], 55) := by decide +kernel
theorem d_Mo_one_92 : decode b_Mo_one 92 = .ok (.iconst 1, 1) := by decide +kernel
theorem d_Mo_one_93 : decode b_Mo_one 93 = .ok (.ireturn, 1) := by decide +kernel
theorem d_Mo_one_94 : decode b_Mo_one 94 = .ok (.aload_n 0, 1) := by decide +kernel
theorem d_Mo_one_95 : decode b_Mo_one 95 = .ok (.getfield 34, 3) := by decide +kernel
theorem d_Mo_one_98 : decode b_Mo_one 98 = .ok (.iload_n 2, 1) := by decide +kernel
theorem d_Mo_one_99 : decode b_Mo_one 99 = .ok (.aload_n 0, 1) := by decide +kernel
theorem d_Mo_one_100 : decode b_Mo_one 100 = .ok (.getfield 31, 3) := by decide +kernel
theorem d_Mo_one_103 : decode b_Mo_one 103 = .ok (.iload_n 1, 1) := by decide +kernel
theorem d_Mo_one_104 : decode b_Mo_one 104 = .ok (.laload, 1) := by decide +kernel
theorem d_Mo_one_105 : decode b_Mo_one 105 = .ok (.lastore, 1) := by decide +kernel
theorem d_Mo_one_106 : decode b_Mo_one 106 = .ok (.iconst 0, 1) := by decide +kernel
theorem d_Mo_one_107 : decode b_Mo_one 107 = .ok (.ireturn, 1) := by decide +kernel
theorem d_Mo_one_108 : decode b_Mo_one 108 = .ok (.aload_n 0, 1) := by decide +kernel
theorem d_Mo_one_109 : decode b_Mo_one 109 = .ok (.getfield 34, 3) := by decide +kernel
theorem d_Mo_one_112 : decode b_Mo_one 112 = .ok (.iload_n 3, 1) := by decide +kernel
theorem d_Mo_one_113 : decode b_Mo_one 113 = .ok (.laload, 1) := by decide +kernel
theorem d_Mo_one_114 : decode b_Mo_one 114 = .ok (.invokestatic 74, 3) := by decide +kernel
theorem d_Mo_one_117 : decode b_Mo_one 117 = .ok (.istore 4, 2) := by decide +kernel
theorem d_Mo_one_119 : decode b_Mo_one 119 = .ok (.aload_n 0, 1) := by decide +kernel
theorem d_Mo_one_120 : decode b_Mo_one 120 = .ok (.getfield 34, 3) := by decide +kernel
theorem d_Mo_one_123 : decode b_Mo_one 123 = .ok (.iload_n 2, 1) := by decide +kernel
theorem d_Mo_one_124 : decode b_Mo_one 124 = .ok (.aload_n 0, 1) := by decide +kernel
theorem d_Mo_one_125 : decode b_Mo_one 125 = .ok (.getfield 16, 3) := by decide +kernel
theorem d_Mo_one_128 : decode b_Mo_one 128 = .ok (.iload 4, 2) := by decide +kernel
theorem d_Mo_one_130 : decode b_Mo_one 130 = .ok (.baload, 1) := by decide +kernel
theorem d_Mo_one_131 : decode b_Mo_one 131 = .ok (.ifCond .eq 13, 3) := by decide +kernel
theorem d_Mo_one_134 : decode b_Mo_one 134 = .ok (.aload_n 0, 1) := by decide +kernel
theorem d_Mo_one_135 : decode b_Mo_one 135 = .ok (.getfield 13, 3) := by decide +kernel
theorem d_Mo_one_138 : decode b_Mo_one 138 = .ok (.iload 4, 2) := by decide +kernel
theorem d_Mo_one_140 : decode b_Mo_one 140 = .ok (.laload, 1) := by decide +kernel
theorem d_Mo_one_141 : decode b_Mo_one 141 = .ok (.goto 10, 3) := by decide +kernel
theorem d_Mo_one_144 : decode b_Mo_one 144 = .ok (.aload_n 0, 1) := by decide +kernel
theorem d_Mo_one_145 : decode b_Mo_one 145 = .ok (.getfield 7, 3) := by decide +kernel
theorem d_Mo_one_148 : decode b_Mo_one 148 = .ok (.iload 4, 2) := by decide +kernel
theorem d_Mo_one_150 : decode b_Mo_one 150 = .ok (.laload, 1) := by decide +kernel
theorem d_Mo_one_151 : decode b_Mo_one 151 = .ok (.lastore, 1) := by decide +kernel
theorem d_Mo_one_152 : decode b_Mo_one 152 = .ok (.aload_n 0, 1) := by decide +kernel
theorem d_Mo_one_153 : decode b_Mo_one 153 = .ok (.dup, 1) := by decide +kernel
theorem d_Mo_one_154 : decode b_Mo_one 154 = .ok (.getfield 78, 3) := by decide +kernel
theorem d_Mo_one_157 : decode b_Mo_one 157 = .ok (.iconst 1, 1) := by decide +kernel
theorem d_Mo_one_158 : decode b_Mo_one 158 = .ok (.iadd, 1) := by decide +kernel
theorem d_Mo_one_159 : decode b_Mo_one 159 = .ok (.putfield 78, 3) := by decide +kernel
theorem d_Mo_one_162 : decode b_Mo_one 162 = .ok (.iconst 0, 1) := by decide +kernel
theorem d_Mo_one_163 : decode b_Mo_one 163 = .ok (.ireturn, 1) := by decide +kernel
theorem d_Mo_one_164 : decode b_Mo_one 164 = .ok (.aload_n 0, 1) := by decide +kernel
theorem d_Mo_one_165 : decode b_Mo_one 165 = .ok (.getfield 34, 3) := by decide +kernel
theorem d_Mo_one_168 : decode b_Mo_one 168 = .ok (.iload_n 3, 1) := by decide +kernel
theorem d_Mo_one_169 : decode b_Mo_one 169 = .ok (.laload, 1) := by decide +kernel
theorem d_Mo_one_170 : decode b_Mo_one 170 = .ok (.invokestatic 74, 3) := by decide +kernel
theorem d_Mo_one_173 : decode b_Mo_one 173 = .ok (.istore 5, 2) := by decide +kernel
theorem d_Mo_one_175 : decode b_Mo_one 175 = .ok (.aload_n 0, 1) := by decide +kernel
theorem d_Mo_one_176 : decode b_Mo_one 176 = .ok (.getfield 13, 3) := by decide +kernel
theorem d_Mo_one_179 : decode b_Mo_one 179 = .ok (.iload 5, 2) := by decide +kernel
theorem d_Mo_one_181 : decode b_Mo_one 181 = .ok (.aload_n 0, 1) := by decide +kernel
theorem d_Mo_one_182 : decode b_Mo_one 182 = .ok (.getfield 34, 3) := by decide +kernel
theorem d_Mo_one_185 : decode b_Mo_one 185 = .ok (.iload_n 2, 1) := by decide +kernel
theorem d_Mo_one_186 : decode b_Mo_one 186 = .ok (.laload, 1) := by decide +kernel
theorem d_Mo_one_187 : decode b_Mo_one 187 = .ok (.lastore, 1) := by decide +kernel
theorem d_Mo_one_188 : decode b_Mo_one 188 = .ok (.aload_n 0, 1) := by decide +kernel
theorem d_Mo_one_189 : decode b_Mo_one 189 = .ok (.getfield 16, 3) := by decide +kernel
theorem d_Mo_one_192 : decode b_Mo_one 192 = .ok (.iload 5, 2) := by decide +kernel
theorem d_Mo_one_194 : decode b_Mo_one 194 = .ok (.iconst 1, 1) := by decide +kernel
theorem d_Mo_one_195 : decode b_Mo_one 195 = .ok (.bastore, 1) := by decide +kernel
theorem d_Mo_one_196 : decode b_Mo_one 196 = .ok (.iconst 0, 1) := by decide +kernel
theorem d_Mo_one_197 : decode b_Mo_one 197 = .ok (.ireturn, 1) := by decide +kernel
theorem d_Mo_one_198 : decode b_Mo_one 198 = .ok (.aload_n 0, 1) := by decide +kernel
theorem d_Mo_one_199 : decode b_Mo_one 199 = .ok (.getfield 34, 3) := by decide +kernel
theorem d_Mo_one_202 : decode b_Mo_one 202 = .ok (.iload_n 2, 1) := by decide +kernel
theorem d_Mo_one_203 : decode b_Mo_one 203 = .ok (.aload_n 0, 1) := by decide +kernel
theorem d_Mo_one_204 : decode b_Mo_one 204 = .ok (.getfield 34, 3) := by decide +kernel
theorem d_Mo_one_207 : decode b_Mo_one 207 = .ok (.iload_n 2, 1) := by decide +kernel
theorem d_Mo_one_208 : decode b_Mo_one 208 = .ok (.laload, 1) := by decide +kernel
theorem d_Mo_one_209 : decode b_Mo_one 209 = .ok (.aload_n 0, 1) := by decide +kernel
theorem d_Mo_one_210 : decode b_Mo_one 210 = .ok (.getfield 34, 3) := by decide +kernel
theorem d_Mo_one_213 : decode b_Mo_one 213 = .ok (.iload_n 3, 1) := by decide +kernel
theorem d_Mo_one_214 : decode b_Mo_one 214 = .ok (.laload, 1) := by decide +kernel
theorem d_Mo_one_215 : decode b_Mo_one 215 = .ok (.ladd, 1) := by decide +kernel
theorem d_Mo_one_216 : decode b_Mo_one 216 = .ok (.lastore, 1) := by decide +kernel
theorem d_Mo_one_217 : decode b_Mo_one 217 = .ok (.iconst 0, 1) := by decide +kernel
theorem d_Mo_one_218 : decode b_Mo_one 218 = .ok (.ireturn, 1) := by decide +kernel
theorem d_Mo_one_219 : decode b_Mo_one 219 = .ok (.aload_n 0, 1) := by decide +kernel
theorem d_Mo_one_220 : decode b_Mo_one 220 = .ok (.getfield 34, 3) := by decide +kernel
theorem d_Mo_one_223 : decode b_Mo_one 223 = .ok (.iload_n 2, 1) := by decide +kernel
theorem d_Mo_one_224 : decode b_Mo_one 224 = .ok (.aload_n 0, 1) := by decide +kernel
theorem d_Mo_one_225 : decode b_Mo_one 225 = .ok (.getfield 34, 3) := by decide +kernel
theorem d_Mo_one_228 : decode b_Mo_one 228 = .ok (.iload_n 2, 1) := by decide +kernel
theorem d_Mo_one_229 : decode b_Mo_one 229 = .ok (.laload, 1) := by decide +kernel
theorem d_Mo_one_230 : decode b_Mo_one 230 = .ok (.aload_n 0, 1) := by decide +kernel
theorem d_Mo_one_231 : decode b_Mo_one 231 = .ok (.getfield 34, 3) := by decide +kernel
theorem d_Mo_one_234 : decode b_Mo_one 234 = .ok (.iload_n 3, 1) := by decide +kernel
theorem d_Mo_one_235 : decode b_Mo_one 235 = .ok (.laload, 1) := by decide +kernel
theorem d_Mo_one_236 : decode b_Mo_one 236 = .ok (.lsub, 1) := by decide +kernel
theorem d_Mo_one_237 : decode b_Mo_one 237 = .ok (.lastore, 1) := by decide +kernel
theorem d_Mo_one_238 : decode b_Mo_one 238 = .ok (.iconst 0, 1) := by decide +kernel
theorem d_Mo_one_239 : decode b_Mo_one 239 = .ok (.ireturn, 1) := by decide +kernel
theorem d_Mo_one_240 : decode b_Mo_one 240 = .ok (.aload_n 0, 1) := by decide +kernel
theorem d_Mo_one_241 : decode b_Mo_one 241 = .ok (.getfield 34, 3) := by decide +kernel
theorem d_Mo_one_244 : decode b_Mo_one 244 = .ok (.iload_n 2, 1) := by decide +kernel
theorem d_Mo_one_245 : decode b_Mo_one 245 = .ok (.aload_n 0, 1) := by decide +kernel
theorem d_Mo_one_246 : decode b_Mo_one 246 = .ok (.getfield 34, 3) := by decide +kernel
theorem d_Mo_one_249 : decode b_Mo_one 249 = .ok (.iload_n 2, 1) := by decide +kernel
theorem d_Mo_one_250 : decode b_Mo_one 250 = .ok (.laload, 1) := by decide +kernel
theorem d_Mo_one_251 : decode b_Mo_one 251 = .ok (.aload_n 0, 1) := by decide +kernel
theorem d_Mo_one_252 : decode b_Mo_one 252 = .ok (.getfield 34, 3) := by decide +kernel
theorem d_Mo_one_255 : decode b_Mo_one 255 = .ok (.iload_n 3, 1) := by decide +kernel
theorem d_Mo_one_256 : decode b_Mo_one 256 = .ok (.laload, 1) := by decide +kernel
theorem d_Mo_one_257 : decode b_Mo_one 257 = .ok (.lmul, 1) := by decide +kernel
theorem d_Mo_one_258 : decode b_Mo_one 258 = .ok (.lastore, 1) := by decide +kernel
theorem d_Mo_one_259 : decode b_Mo_one 259 = .ok (.iconst 0, 1) := by decide +kernel
theorem d_Mo_one_260 : decode b_Mo_one 260 = .ok (.ireturn, 1) := by decide +kernel
theorem d_Mo_one_261 : decode b_Mo_one 261 = .ok (.aload_n 0, 1) := by decide +kernel
theorem d_Mo_one_262 : decode b_Mo_one 262 = .ok (.getfield 34, 3) := by decide +kernel
theorem d_Mo_one_265 : decode b_Mo_one 265 = .ok (.iload_n 2, 1) := by decide +kernel
theorem d_Mo_one_266 : decode b_Mo_one 266 = .ok (.laload, 1) := by decide +kernel
theorem d_Mo_one_267 : decode b_Mo_one 267 = .ok (.lconst 0, 1) := by decide +kernel
theorem d_Mo_one_268 : decode b_Mo_one 268 = .ok (.lcmp, 1) := by decide +kernel
theorem d_Mo_one_269 : decode b_Mo_one 269 = .ok (.ifCond .eq 43, 3) := by decide +kernel
theorem d_Mo_one_272 : decode b_Mo_one 272 = .ok (.aload_n 0, 1) := by decide +kernel
theorem d_Mo_one_273 : decode b_Mo_one 273 = .ok (.aload_n 0, 1) := by decide +kernel
theorem d_Mo_one_274 : decode b_Mo_one 274 = .ok (.getfield 31, 3) := by decide +kernel
theorem d_Mo_one_277 : decode b_Mo_one 277 = .ok (.iload_n 1, 1) := by decide +kernel
theorem d_Mo_one_278 : decode b_Mo_one 278 = .ok (.laload, 1) := by decide +kernel
theorem d_Mo_one_279 : decode b_Mo_one 279 = .ok (.lconst 0, 1) := by decide +kernel
theorem d_Mo_one_280 : decode b_Mo_one 280 = .ok (.lcmp, 1) := by decide +kernel
theorem d_Mo_one_281 : decode b_Mo_one 281 = .ok (.ifCond .lt 16, 3) := by decide +kernel
theorem d_Mo_one_284 : decode b_Mo_one 284 = .ok (.aload_n 0, 1) := by decide +kernel
theorem d_Mo_one_285 : decode b_Mo_one 285 = .ok (.getfield 31, 3) := by decide +kernel
theorem d_Mo_one_288 : decode b_Mo_one 288 = .ok (.iload_n 1, 1) := by decide +kernel
theorem d_Mo_one_289 : decode b_Mo_one 289 = .ok (.laload, 1) := by decide +kernel
theorem d_Mo_one_290 : decode b_Mo_one 290 = .ok (.ldc2_w 81, 3) := by decide +kernel
theorem d_Mo_one_293 : decode b_Mo_one 293 = .ok (.lcmp, 1) := by decide +kernel
theorem d_Mo_one_294 : decode b_Mo_one 294 = .ok (.ifCond .le 8, 3) := by decide +kernel
theorem d_Mo_one_297 : decode b_Mo_one 297 = .ok (.bipush 32, 2) := by decide +kernel
theorem d_Mo_one_299 : decode b_Mo_one 299 = .ok (.goto 10, 3) := by decide +kernel
theorem d_Mo_one_302 : decode b_Mo_one 302 = .ok (.aload_n 0, 1) := by decide +kernel
theorem d_Mo_one_303 : decode b_Mo_one 303 = .ok (.getfield 31, 3) := by decide +kernel
theorem d_Mo_one_306 : decode b_Mo_one 306 = .ok (.iload_n 1, 1) := by decide +kernel
theorem d_Mo_one_307 : decode b_Mo_one 307 = .ok (.laload, 1) := by decide +kernel
theorem d_Mo_one_308 : decode b_Mo_one 308 = .ok (.l2i, 1) := by decide +kernel
theorem d_Mo_one_309 : decode b_Mo_one 309 = .ok (.putfield 71, 3) := by decide +kernel
theorem d_Mo_one_312 : decode b_Mo_one 312 = .ok (.iconst 0, 1) := by decide +kernel
theorem d_Mo_one_313 : decode b_Mo_one 313 = .ok (.ireturn, 1) := by decide +kernel
theorem d_Mo_one_314 : decode b_Mo_one 314 = .ok (.aload_n 0, 1) := by decide +kernel
theorem d_Mo_one_315 : decode b_Mo_one 315 = .ok (.getfield 34, 3) := by decide +kernel
theorem d_Mo_one_318 : decode b_Mo_one 318 = .ok (.iload_n 2, 1) := by decide +kernel
theorem d_Mo_one_319 : decode b_Mo_one 319 = .ok (.aload_n 0, 1) := by decide +kernel
theorem d_Mo_one_320 : decode b_Mo_one 320 = .ok (.getfield 34, 3) := by decide +kernel
theorem d_Mo_one_323 : decode b_Mo_one 323 = .ok (.iload_n 2, 1) := by decide +kernel
theorem d_Mo_one_324 : decode b_Mo_one 324 = .ok (.laload, 1) := by decide +kernel
theorem d_Mo_one_325 : decode b_Mo_one 325 = .ok (.aload_n 0, 1) := by decide +kernel
theorem d_Mo_one_326 : decode b_Mo_one 326 = .ok (.getfield 34, 3) := by decide +kernel
theorem d_Mo_one_329 : decode b_Mo_one 329 = .ok (.iload_n 3, 1) := by decide +kernel
theorem d_Mo_one_330 : decode b_Mo_one 330 = .ok (.laload, 1) := by decide +kernel
theorem d_Mo_one_331 : decode b_Mo_one 331 = .ok (.lcmp, 1) := by decide +kernel
theorem d_Mo_one_332 : decode b_Mo_one 332 = .ok (.ifCond .ge 7, 3) := by decide +kernel
theorem d_Mo_one_335 : decode b_Mo_one 335 = .ok (.lconst 1, 1) := by decide +kernel
theorem d_Mo_one_336 : decode b_Mo_one 336 = .ok (.goto 4, 3) := by decide +kernel
theorem d_Mo_one_339 : decode b_Mo_one 339 = .ok (.lconst 0, 1) := by decide +kernel
theorem d_Mo_one_340 : decode b_Mo_one 340 = .ok (.lastore, 1) := by decide +kernel
theorem d_Mo_one_341 : decode b_Mo_one 341 = .ok (.iconst 0, 1) := by decide +kernel
theorem d_Mo_one_342 : decode b_Mo_one 342 = .ok (.ireturn, 1) := by decide +kernel
theorem d_Mo_one_343 : decode b_Mo_one 343 = .ok (.iconst 2, 1) := by decide +kernel
theorem d_Mo_one_344 : decode b_Mo_one 344 = .ok (.ireturn, 1) := by decide +kernel
theorem d_Mo_one_345 : decode b_Mo_one 345 = .ok (.aload_n 0, 1) := by decide +kernel
theorem d_Mo_one_346 : decode b_Mo_one 346 = .ok (.getfield 34, 3) := by decide +kernel
theorem d_Mo_one_349 : decode b_Mo_one 349 = .ok (.iload_n 2, 1) := by decide +kernel
theorem d_Mo_one_350 : decode b_Mo_one 350 = .ok (.aload_n 0, 1) := by decide +kernel
theorem d_Mo_one_351 : decode b_Mo_one 351 = .ok (.getfield 34, 3) := by decide +kernel
theorem d_Mo_one_354 : decode b_Mo_one 354 = .ok (.iload_n 3, 1) := by decide +kernel
theorem d_Mo_one_355 : decode b_Mo_one 355 = .ok (.laload, 1) := by decide +kernel
theorem d_Mo_one_356 : decode b_Mo_one 356 = .ok (.lastore, 1) := by decide +kernel
theorem d_Mo_one_357 : decode b_Mo_one 357 = .ok (.iconst 0, 1) := by decide +kernel
theorem d_Mo_one_358 : decode b_Mo_one 358 = .ok (.ireturn, 1) := by decide +kernel
theorem d_Mo_placeOf_0 : decode b_Mo_placeOf 0 = .ok (.lload_n 0, 1) := by decide +kernel
theorem d_Mo_placeOf_1 : decode b_Mo_placeOf 1 = .ok (.ldc2_w 64, 3) := by decide +kernel
theorem d_Mo_placeOf_4 : decode b_Mo_placeOf 4 = .ok (.invokestatic 66, 3) := by decide +kernel
theorem d_Mo_placeOf_7 : decode b_Mo_placeOf 7 = .ok (.l2i, 1) := by decide +kernel
theorem d_Mo_placeOf_8 : decode b_Mo_placeOf 8 = .ok (.ireturn, 1) := by decide +kernel
theorem d_Mo_count_0 : decode b_Mo_count 0 = .ok (.aload_n 0, 1) := by decide +kernel
theorem d_Mo_count_1 : decode b_Mo_count 1 = .ok (.getfield 50, 3) := by decide +kernel
theorem d_Mo_count_4 : decode b_Mo_count 4 = .ok (.ireturn, 1) := by decide +kernel
theorem d_Mo_told_0 : decode b_Mo_told 0 = .ok (.iload_n 1, 1) := by decide +kernel
theorem d_Mo_told_1 : decode b_Mo_told 1 = .ok (.ifCond .lt 20, 3) := by decide +kernel
theorem d_Mo_told_4 : decode b_Mo_told 4 = .ok (.iload_n 1, 1) := by decide +kernel
theorem d_Mo_told_5 : decode b_Mo_told 5 = .ok (.aload_n 0, 1) := by decide +kernel
theorem d_Mo_told_6 : decode b_Mo_told 6 = .ok (.getfield 50, 3) := by decide +kernel
theorem d_Mo_told_9 : decode b_Mo_told 9 = .ok (.if_icmp .ge 12, 3) := by decide +kernel
theorem d_Mo_told_12 : decode b_Mo_told 12 = .ok (.iload_n 2, 1) := by decide +kernel
theorem d_Mo_told_13 : decode b_Mo_told 13 = .ok (.ifCond .lt 8, 3) := by decide +kernel
theorem d_Mo_told_16 : decode b_Mo_told 16 = .ok (.iload_n 2, 1) := by decide +kernel
theorem d_Mo_told_17 : decode b_Mo_told 17 = .ok (.iconst 3, 1) := by decide +kernel
theorem d_Mo_told_18 : decode b_Mo_told 18 = .ok (.if_icmp .le 5, 3) := by decide +kernel
theorem d_Mo_told_21 : decode b_Mo_told 21 = .ok (.iconst (-1), 1) := by decide +kernel
theorem d_Mo_told_22 : decode b_Mo_told 22 = .ok (.ireturn, 1) := by decide +kernel
theorem d_Mo_told_23 : decode b_Mo_told 23 = .ok (.aload_n 0, 1) := by decide +kernel
theorem d_Mo_told_24 : decode b_Mo_told 24 = .ok (.getfield 37, 3) := by decide +kernel
theorem d_Mo_told_27 : decode b_Mo_told 27 = .ok (.iload_n 1, 1) := by decide +kernel
theorem d_Mo_told_28 : decode b_Mo_told 28 = .ok (.baload, 1) := by decide +kernel
theorem d_Mo_told_29 : decode b_Mo_told 29 = .ok (.ifCond .eq 16, 3) := by decide +kernel
theorem d_Mo_told_32 : decode b_Mo_told 32 = .ok (.aload_n 0, 1) := by decide +kernel
theorem d_Mo_told_33 : decode b_Mo_told 33 = .ok (.getfield 40, 3) := by decide +kernel
theorem d_Mo_told_36 : decode b_Mo_told 36 = .ok (.iconst 4, 1) := by decide +kernel
theorem d_Mo_told_37 : decode b_Mo_told 37 = .ok (.iload_n 1, 1) := by decide +kernel
theorem d_Mo_told_38 : decode b_Mo_told 38 = .ok (.imul, 1) := by decide +kernel
theorem d_Mo_told_39 : decode b_Mo_told 39 = .ok (.iload_n 2, 1) := by decide +kernel
theorem d_Mo_told_40 : decode b_Mo_told 40 = .ok (.iadd, 1) := by decide +kernel
theorem d_Mo_told_41 : decode b_Mo_told 41 = .ok (.iaload, 1) := by decide +kernel
theorem d_Mo_told_42 : decode b_Mo_told 42 = .ok (.goto 5, 3) := by decide +kernel
theorem d_Mo_told_45 : decode b_Mo_told 45 = .ok (.bipush (-2), 2) := by decide +kernel
theorem d_Mo_told_47 : decode b_Mo_told 47 = .ok (.ireturn, 1) := by decide +kernel
theorem d_Mo_result_0 : decode b_Mo_result 0 = .ok (.iload_n 1, 1) := by decide +kernel
theorem d_Mo_result_1 : decode b_Mo_result 1 = .ok (.ifCond .lt 29, 3) := by decide +kernel
theorem d_Mo_result_4 : decode b_Mo_result 4 = .ok (.iload_n 1, 1) := by decide +kernel
theorem d_Mo_result_5 : decode b_Mo_result 5 = .ok (.aload_n 0, 1) := by decide +kernel
theorem d_Mo_result_6 : decode b_Mo_result 6 = .ok (.getfield 50, 3) := by decide +kernel
theorem d_Mo_result_9 : decode b_Mo_result 9 = .ok (.if_icmp .ge 21, 3) := by decide +kernel
theorem d_Mo_result_12 : decode b_Mo_result 12 = .ok (.aload_n 0, 1) := by decide +kernel
theorem d_Mo_result_13 : decode b_Mo_result 13 = .ok (.getfield 37, 3) := by decide +kernel
theorem d_Mo_result_16 : decode b_Mo_result 16 = .ok (.iload_n 1, 1) := by decide +kernel
theorem d_Mo_result_17 : decode b_Mo_result 17 = .ok (.baload, 1) := by decide +kernel
theorem d_Mo_result_18 : decode b_Mo_result 18 = .ok (.ifCond .eq 12, 3) := by decide +kernel
theorem d_Mo_result_21 : decode b_Mo_result 21 = .ok (.aload_n 0, 1) := by decide +kernel
theorem d_Mo_result_22 : decode b_Mo_result 22 = .ok (.getfield 43, 3) := by decide +kernel
theorem d_Mo_result_25 : decode b_Mo_result 25 = .ok (.iload_n 1, 1) := by decide +kernel
theorem d_Mo_result_26 : decode b_Mo_result 26 = .ok (.laload, 1) := by decide +kernel
theorem d_Mo_result_27 : decode b_Mo_result 27 = .ok (.goto 4, 3) := by decide +kernel
theorem d_Mo_result_30 : decode b_Mo_result 30 = .ok (.lconst 0, 1) := by decide +kernel
theorem d_Mo_result_31 : decode b_Mo_result 31 = .ok (.lreturn, 1) := by decide +kernel
end
section
theorem d_La_cell_0 : decode b_La_cell 0 = .ok (.iload_n 1, 1) := by decide +kernel
theorem d_La_cell_1 : decode b_La_cell 1 = .ok (.aload_n 0, 1) := by decide +kernel
theorem d_La_cell_2 : decode b_La_cell 2 = .ok (.arraylength, 1) := by decide +kernel
theorem d_La_cell_3 : decode b_La_cell 3 = .ok (.if_icmp .ge 9, 3) := by decide +kernel
theorem d_La_cell_6 : decode b_La_cell 6 = .ok (.aload_n 0, 1) := by decide +kernel
theorem d_La_cell_7 : decode b_La_cell 7 = .ok (.iload_n 1, 1) := by decide +kernel
theorem d_La_cell_8 : decode b_La_cell 8 = .ok (.iaload, 1) := by decide +kernel
theorem d_La_cell_9 : decode b_La_cell 9 = .ok (.goto 4, 3) := by decide +kernel
theorem d_La_cell_12 : decode b_La_cell 12 = .ok (.iconst 0, 1) := by decide +kernel
theorem d_La_cell_13 : decode b_La_cell 13 = .ok (.ireturn, 1) := by decide +kernel
theorem d_La_law_0 : decode b_La_law 0 = .ok (.new 7, 3) := by decide +kernel
theorem d_La_law_3 : decode b_La_law 3 = .ok (.dup, 1) := by decide +kernel
theorem d_La_law_4 : decode b_La_law 4 = .ok (.aload_n 0, 1) := by decide +kernel
theorem d_La_law_5 : decode b_La_law 5 = .ok (.iconst 0, 1) := by decide +kernel
theorem d_La_law_6 : decode b_La_law 6 = .ok (.invokestatic 9, 3) := by decide +kernel
theorem d_La_law_9 : decode b_La_law 9 = .ok (.invokespecial 15, 3) := by decide +kernel
theorem d_La_law_12 : decode b_La_law 12 = .ok (.astore_n 1, 1) := by decide +kernel
theorem d_La_law_13 : decode b_La_law 13 = .ok (.new 18, 3) := by decide +kernel
theorem d_La_law_16 : decode b_La_law 16 = .ok (.dup, 1) := by decide +kernel
theorem d_La_law_17 : decode b_La_law 17 = .ok (.aload_n 0, 1) := by decide +kernel
theorem d_La_law_18 : decode b_La_law 18 = .ok (.iconst 0, 1) := by decide +kernel
theorem d_La_law_19 : decode b_La_law 19 = .ok (.invokestatic 9, 3) := by decide +kernel
theorem d_La_law_22 : decode b_La_law 22 = .ok (.invokespecial 20, 3) := by decide +kernel
theorem d_La_law_25 : decode b_La_law 25 = .ok (.astore_n 2, 1) := by decide +kernel
theorem d_La_law_26 : decode b_La_law 26 = .ok (.iconst 1, 1) := by decide +kernel
theorem d_La_law_27 : decode b_La_law 27 = .ok (.istore_n 3, 1) := by decide +kernel
theorem d_La_law_28 : decode b_La_law 28 = .ok (.iload_n 3, 1) := by decide +kernel
theorem d_La_law_29 : decode b_La_law 29 = .ok (.aload_n 0, 1) := by decide +kernel
theorem d_La_law_30 : decode b_La_law 30 = .ok (.arraylength, 1) := by decide +kernel
theorem d_La_law_31 : decode b_La_law 31 = .ok (.iconst 5, 1) := by decide +kernel
theorem d_La_law_32 : decode b_La_law 32 = .ok (.isub, 1) := by decide +kernel
theorem d_La_law_33 : decode b_La_law 33 = .ok (.if_icmp .gt 408, 3) := by decide +kernel
theorem d_La_law_36 : decode b_La_law 36 = .ok (.aload_n 0, 1) := by decide +kernel
theorem d_La_law_37 : decode b_La_law 37 = .ok (.iload_n 3, 1) := by decide +kernel
theorem d_La_law_38 : decode b_La_law 38 = .ok (.iaload, 1) := by decide +kernel
theorem d_La_law_39 : decode b_La_law 39 = .ok (.bipush 15, 2) := by decide +kernel
theorem d_La_law_41 : decode b_La_law 41 = .ok (.iand, 1) := by decide +kernel
theorem d_La_law_42 : decode b_La_law 42 = .ok (.tableswitch 393 0 10 #[58, 121, 145, 158, 171, 244, 297, 310, 323, 336, 369], 58) := by decide +kernel
theorem d_La_law_100 : decode b_La_law 100 = .ok (.aload_n 1, 1) := by decide +kernel
theorem d_La_law_101 : decode b_La_law 101 = .ok (.aload_n 0, 1) := by decide +kernel
theorem d_La_law_102 : decode b_La_law 102 = .ok (.iload_n 3, 1) := by decide +kernel
theorem d_La_law_103 : decode b_La_law 103 = .ok (.iconst 1, 1) := by decide +kernel
theorem d_La_law_104 : decode b_La_law 104 = .ok (.iadd, 1) := by decide +kernel
theorem d_La_law_105 : decode b_La_law 105 = .ok (.iaload, 1) := by decide +kernel
theorem d_La_law_106 : decode b_La_law 106 = .ok (.aload_n 0, 1) := by decide +kernel
theorem d_La_law_107 : decode b_La_law 107 = .ok (.iload_n 3, 1) := by decide +kernel
theorem d_La_law_108 : decode b_La_law 108 = .ok (.iconst 2, 1) := by decide +kernel
theorem d_La_law_109 : decode b_La_law 109 = .ok (.iadd, 1) := by decide +kernel
theorem d_La_law_110 : decode b_La_law 110 = .ok (.iaload, 1) := by decide +kernel
theorem d_La_law_111 : decode b_La_law 111 = .ok (.i2l, 1) := by decide +kernel
theorem d_La_law_112 : decode b_La_law 112 = .ok (.bipush 32, 2) := by decide +kernel
theorem d_La_law_114 : decode b_La_law 114 = .ok (.lshl, 1) := by decide +kernel
theorem d_La_law_115 : decode b_La_law 115 = .ok (.aload_n 0, 1) := by decide +kernel
theorem d_La_law_116 : decode b_La_law 116 = .ok (.iload_n 3, 1) := by decide +kernel
theorem d_La_law_117 : decode b_La_law 117 = .ok (.iconst 3, 1) := by decide +kernel
theorem d_La_law_118 : decode b_La_law 118 = .ok (.iadd, 1) := by decide +kernel
theorem d_La_law_119 : decode b_La_law 119 = .ok (.iaload, 1) := by decide +kernel
theorem d_La_law_120 : decode b_La_law 120 = .ok (.i2l, 1) := by decide +kernel
theorem d_La_law_121 : decode b_La_law 121 = .ok (.ldc2_w 21, 3) := by decide +kernel
theorem d_La_law_124 : decode b_La_law 124 = .ok (.land, 1) := by decide +kernel
theorem d_La_law_125 : decode b_La_law 125 = .ok (.lor, 1) := by decide +kernel
theorem d_La_law_126 : decode b_La_law 126 = .ok (.invokevirtual 23, 3) := by decide +kernel
theorem d_La_law_129 : decode b_La_law 129 = .ok (.aload_n 2, 1) := by decide +kernel
theorem d_La_law_130 : decode b_La_law 130 = .ok (.aload_n 0, 1) := by decide +kernel
theorem d_La_law_131 : decode b_La_law 131 = .ok (.iload_n 3, 1) := by decide +kernel
theorem d_La_law_132 : decode b_La_law 132 = .ok (.iconst 1, 1) := by decide +kernel
theorem d_La_law_133 : decode b_La_law 133 = .ok (.iadd, 1) := by decide +kernel
theorem d_La_law_134 : decode b_La_law 134 = .ok (.iaload, 1) := by decide +kernel
theorem d_La_law_135 : decode b_La_law 135 = .ok (.aload_n 0, 1) := by decide +kernel
theorem d_La_law_136 : decode b_La_law 136 = .ok (.iload_n 3, 1) := by decide +kernel
theorem d_La_law_137 : decode b_La_law 137 = .ok (.iconst 2, 1) := by decide +kernel
theorem d_La_law_138 : decode b_La_law 138 = .ok (.iadd, 1) := by decide +kernel
theorem d_La_law_139 : decode b_La_law 139 = .ok (.iaload, 1) := by decide +kernel
theorem d_La_law_140 : decode b_La_law 140 = .ok (.i2l, 1) := by decide +kernel
theorem d_La_law_141 : decode b_La_law 141 = .ok (.bipush 32, 2) := by decide +kernel
theorem d_La_law_143 : decode b_La_law 143 = .ok (.lshl, 1) := by decide +kernel
theorem d_La_law_144 : decode b_La_law 144 = .ok (.aload_n 0, 1) := by decide +kernel
theorem d_La_law_145 : decode b_La_law 145 = .ok (.iload_n 3, 1) := by decide +kernel
theorem d_La_law_146 : decode b_La_law 146 = .ok (.iconst 3, 1) := by decide +kernel
theorem d_La_law_147 : decode b_La_law 147 = .ok (.iadd, 1) := by decide +kernel
theorem d_La_law_148 : decode b_La_law 148 = .ok (.iaload, 1) := by decide +kernel
theorem d_La_law_149 : decode b_La_law 149 = .ok (.i2l, 1) := by decide +kernel
theorem d_La_law_150 : decode b_La_law 150 = .ok (.ldc2_w 21, 3) := by decide +kernel
theorem d_La_law_153 : decode b_La_law 153 = .ok (.land, 1) := by decide +kernel
theorem d_La_law_154 : decode b_La_law 154 = .ok (.lor, 1) := by decide +kernel
theorem d_La_law_155 : decode b_La_law 155 = .ok (.invokevirtual 27, 3) := by decide +kernel
theorem d_La_law_158 : decode b_La_law 158 = .ok (.if_icmp .eq 277, 3) := by decide +kernel
theorem d_La_law_161 : decode b_La_law 161 = .ok (.iconst 0, 1) := by decide +kernel
theorem d_La_law_162 : decode b_La_law 162 = .ok (.ireturn, 1) := by decide +kernel
theorem d_La_law_163 : decode b_La_law 163 = .ok (.aload_n 1, 1) := by decide +kernel
theorem d_La_law_164 : decode b_La_law 164 = .ok (.aload_n 0, 1) := by decide +kernel
theorem d_La_law_165 : decode b_La_law 165 = .ok (.iload_n 3, 1) := by decide +kernel
theorem d_La_law_166 : decode b_La_law 166 = .ok (.iconst 1, 1) := by decide +kernel
theorem d_La_law_167 : decode b_La_law 167 = .ok (.iadd, 1) := by decide +kernel
theorem d_La_law_168 : decode b_La_law 168 = .ok (.iaload, 1) := by decide +kernel
theorem d_La_law_169 : decode b_La_law 169 = .ok (.invokevirtual 28, 3) := by decide +kernel
theorem d_La_law_172 : decode b_La_law 172 = .ok (.aload_n 2, 1) := by decide +kernel
theorem d_La_law_173 : decode b_La_law 173 = .ok (.aload_n 0, 1) := by decide +kernel
theorem d_La_law_174 : decode b_La_law 174 = .ok (.iload_n 3, 1) := by decide +kernel
theorem d_La_law_175 : decode b_La_law 175 = .ok (.iconst 1, 1) := by decide +kernel
theorem d_La_law_176 : decode b_La_law 176 = .ok (.iadd, 1) := by decide +kernel
theorem d_La_law_177 : decode b_La_law 177 = .ok (.iaload, 1) := by decide +kernel
theorem d_La_law_178 : decode b_La_law 178 = .ok (.invokevirtual 32, 3) := by decide +kernel
theorem d_La_law_181 : decode b_La_law 181 = .ok (.lcmp, 1) := by decide +kernel
theorem d_La_law_182 : decode b_La_law 182 = .ok (.ifCond .eq 253, 3) := by decide +kernel
theorem d_La_law_185 : decode b_La_law 185 = .ok (.iconst 0, 1) := by decide +kernel
theorem d_La_law_186 : decode b_La_law 186 = .ok (.ireturn, 1) := by decide +kernel
theorem d_La_law_187 : decode b_La_law 187 = .ok (.aload_n 1, 1) := by decide +kernel
theorem d_La_law_188 : decode b_La_law 188 = .ok (.invokevirtual 33, 3) := by decide +kernel
theorem d_La_law_191 : decode b_La_law 191 = .ok (.aload_n 2, 1) := by decide +kernel
theorem d_La_law_192 : decode b_La_law 192 = .ok (.invokevirtual 37, 3) := by decide +kernel
theorem d_La_law_195 : decode b_La_law 195 = .ok (.if_icmp .eq 240, 3) := by decide +kernel
theorem d_La_law_198 : decode b_La_law 198 = .ok (.iconst 0, 1) := by decide +kernel
theorem d_La_law_199 : decode b_La_law 199 = .ok (.ireturn, 1) := by decide +kernel
theorem d_La_law_200 : decode b_La_law 200 = .ok (.aload_n 1, 1) := by decide +kernel
theorem d_La_law_201 : decode b_La_law 201 = .ok (.invokevirtual 38, 3) := by decide +kernel
theorem d_La_law_204 : decode b_La_law 204 = .ok (.aload_n 2, 1) := by decide +kernel
theorem d_La_law_205 : decode b_La_law 205 = .ok (.invokevirtual 41, 3) := by decide +kernel
theorem d_La_law_208 : decode b_La_law 208 = .ok (.if_icmp .eq 227, 3) := by decide +kernel
theorem d_La_law_211 : decode b_La_law 211 = .ok (.iconst 0, 1) := by decide +kernel
theorem d_La_law_212 : decode b_La_law 212 = .ok (.ireturn, 1) := by decide +kernel
theorem d_La_law_213 : decode b_La_law 213 = .ok (.aload_n 1, 1) := by decide +kernel
theorem d_La_law_214 : decode b_La_law 214 = .ok (.aload_n 0, 1) := by decide +kernel
theorem d_La_law_215 : decode b_La_law 215 = .ok (.iload_n 3, 1) := by decide +kernel
theorem d_La_law_216 : decode b_La_law 216 = .ok (.iconst 1, 1) := by decide +kernel
theorem d_La_law_217 : decode b_La_law 217 = .ok (.iadd, 1) := by decide +kernel
theorem d_La_law_218 : decode b_La_law 218 = .ok (.iaload, 1) := by decide +kernel
theorem d_La_law_219 : decode b_La_law 219 = .ok (.aload_n 0, 1) := by decide +kernel
theorem d_La_law_220 : decode b_La_law 220 = .ok (.iload_n 3, 1) := by decide +kernel
theorem d_La_law_221 : decode b_La_law 221 = .ok (.iconst 2, 1) := by decide +kernel
theorem d_La_law_222 : decode b_La_law 222 = .ok (.iadd, 1) := by decide +kernel
theorem d_La_law_223 : decode b_La_law 223 = .ok (.iaload, 1) := by decide +kernel
theorem d_La_law_224 : decode b_La_law 224 = .ok (.aload_n 0, 1) := by decide +kernel
theorem d_La_law_225 : decode b_La_law 225 = .ok (.iload_n 3, 1) := by decide +kernel
theorem d_La_law_226 : decode b_La_law 226 = .ok (.iconst 3, 1) := by decide +kernel
theorem d_La_law_227 : decode b_La_law 227 = .ok (.iadd, 1) := by decide +kernel
theorem d_La_law_228 : decode b_La_law 228 = .ok (.iaload, 1) := by decide +kernel
theorem d_La_law_229 : decode b_La_law 229 = .ok (.i2l, 1) := by decide +kernel
theorem d_La_law_230 : decode b_La_law 230 = .ok (.bipush 32, 2) := by decide +kernel
theorem d_La_law_232 : decode b_La_law 232 = .ok (.lshl, 1) := by decide +kernel
theorem d_La_law_233 : decode b_La_law 233 = .ok (.aload_n 0, 1) := by decide +kernel
theorem d_La_law_234 : decode b_La_law 234 = .ok (.iload_n 3, 1) := by decide +kernel
theorem d_La_law_235 : decode b_La_law 235 = .ok (.iconst 4, 1) := by decide +kernel
theorem d_La_law_236 : decode b_La_law 236 = .ok (.iadd, 1) := by decide +kernel
theorem d_La_law_237 : decode b_La_law 237 = .ok (.iaload, 1) := by decide +kernel
theorem d_La_law_238 : decode b_La_law 238 = .ok (.i2l, 1) := by decide +kernel
theorem d_La_law_239 : decode b_La_law 239 = .ok (.ldc2_w 21, 3) := by decide +kernel
theorem d_La_law_242 : decode b_La_law 242 = .ok (.land, 1) := by decide +kernel
theorem d_La_law_243 : decode b_La_law 243 = .ok (.lor, 1) := by decide +kernel
theorem d_La_law_244 : decode b_La_law 244 = .ok (.invokevirtual 42, 3) := by decide +kernel
theorem d_La_law_247 : decode b_La_law 247 = .ok (.aload_n 2, 1) := by decide +kernel
theorem d_La_law_248 : decode b_La_law 248 = .ok (.aload_n 0, 1) := by decide +kernel
theorem d_La_law_249 : decode b_La_law 249 = .ok (.iload_n 3, 1) := by decide +kernel
theorem d_La_law_250 : decode b_La_law 250 = .ok (.iconst 1, 1) := by decide +kernel
theorem d_La_law_251 : decode b_La_law 251 = .ok (.iadd, 1) := by decide +kernel
theorem d_La_law_252 : decode b_La_law 252 = .ok (.iaload, 1) := by decide +kernel
theorem d_La_law_253 : decode b_La_law 253 = .ok (.aload_n 0, 1) := by decide +kernel
theorem d_La_law_254 : decode b_La_law 254 = .ok (.iload_n 3, 1) := by decide +kernel
theorem d_La_law_255 : decode b_La_law 255 = .ok (.iconst 2, 1) := by decide +kernel
theorem d_La_law_256 : decode b_La_law 256 = .ok (.iadd, 1) := by decide +kernel
theorem d_La_law_257 : decode b_La_law 257 = .ok (.iaload, 1) := by decide +kernel
theorem d_La_law_258 : decode b_La_law 258 = .ok (.aload_n 0, 1) := by decide +kernel
theorem d_La_law_259 : decode b_La_law 259 = .ok (.iload_n 3, 1) := by decide +kernel
theorem d_La_law_260 : decode b_La_law 260 = .ok (.iconst 3, 1) := by decide +kernel
theorem d_La_law_261 : decode b_La_law 261 = .ok (.iadd, 1) := by decide +kernel
theorem d_La_law_262 : decode b_La_law 262 = .ok (.iaload, 1) := by decide +kernel
theorem d_La_law_263 : decode b_La_law 263 = .ok (.i2l, 1) := by decide +kernel
theorem d_La_law_264 : decode b_La_law 264 = .ok (.bipush 32, 2) := by decide +kernel
theorem d_La_law_266 : decode b_La_law 266 = .ok (.lshl, 1) := by decide +kernel
theorem d_La_law_267 : decode b_La_law 267 = .ok (.aload_n 0, 1) := by decide +kernel
theorem d_La_law_268 : decode b_La_law 268 = .ok (.iload_n 3, 1) := by decide +kernel
theorem d_La_law_269 : decode b_La_law 269 = .ok (.iconst 4, 1) := by decide +kernel
theorem d_La_law_270 : decode b_La_law 270 = .ok (.iadd, 1) := by decide +kernel
theorem d_La_law_271 : decode b_La_law 271 = .ok (.iaload, 1) := by decide +kernel
theorem d_La_law_272 : decode b_La_law 272 = .ok (.i2l, 1) := by decide +kernel
theorem d_La_law_273 : decode b_La_law 273 = .ok (.ldc2_w 21, 3) := by decide +kernel
theorem d_La_law_276 : decode b_La_law 276 = .ok (.land, 1) := by decide +kernel
theorem d_La_law_277 : decode b_La_law 277 = .ok (.lor, 1) := by decide +kernel
theorem d_La_law_278 : decode b_La_law 278 = .ok (.invokevirtual 46, 3) := by decide +kernel
theorem d_La_law_281 : decode b_La_law 281 = .ok (.if_icmp .eq 154, 3) := by decide +kernel
theorem d_La_law_284 : decode b_La_law 284 = .ok (.iconst 0, 1) := by decide +kernel
theorem d_La_law_285 : decode b_La_law 285 = .ok (.ireturn, 1) := by decide +kernel
theorem d_La_law_286 : decode b_La_law 286 = .ok (.aload_n 1, 1) := by decide +kernel
theorem d_La_law_287 : decode b_La_law 287 = .ok (.aload_n 0, 1) := by decide +kernel
theorem d_La_law_288 : decode b_La_law 288 = .ok (.iload_n 3, 1) := by decide +kernel
theorem d_La_law_289 : decode b_La_law 289 = .ok (.iconst 1, 1) := by decide +kernel
theorem d_La_law_290 : decode b_La_law 290 = .ok (.iadd, 1) := by decide +kernel
theorem d_La_law_291 : decode b_La_law 291 = .ok (.iaload, 1) := by decide +kernel
theorem d_La_law_292 : decode b_La_law 292 = .ok (.i2l, 1) := by decide +kernel
theorem d_La_law_293 : decode b_La_law 293 = .ok (.bipush 32, 2) := by decide +kernel
theorem d_La_law_295 : decode b_La_law 295 = .ok (.lshl, 1) := by decide +kernel
theorem d_La_law_296 : decode b_La_law 296 = .ok (.aload_n 0, 1) := by decide +kernel
theorem d_La_law_297 : decode b_La_law 297 = .ok (.iload_n 3, 1) := by decide +kernel
theorem d_La_law_298 : decode b_La_law 298 = .ok (.iconst 2, 1) := by decide +kernel
theorem d_La_law_299 : decode b_La_law 299 = .ok (.iadd, 1) := by decide +kernel
theorem d_La_law_300 : decode b_La_law 300 = .ok (.iaload, 1) := by decide +kernel
theorem d_La_law_301 : decode b_La_law 301 = .ok (.i2l, 1) := by decide +kernel
theorem d_La_law_302 : decode b_La_law 302 = .ok (.ldc2_w 21, 3) := by decide +kernel
theorem d_La_law_305 : decode b_La_law 305 = .ok (.land, 1) := by decide +kernel
theorem d_La_law_306 : decode b_La_law 306 = .ok (.lor, 1) := by decide +kernel
theorem d_La_law_307 : decode b_La_law 307 = .ok (.invokevirtual 47, 3) := by decide +kernel
theorem d_La_law_310 : decode b_La_law 310 = .ok (.aload_n 2, 1) := by decide +kernel
theorem d_La_law_311 : decode b_La_law 311 = .ok (.aload_n 0, 1) := by decide +kernel
theorem d_La_law_312 : decode b_La_law 312 = .ok (.iload_n 3, 1) := by decide +kernel
theorem d_La_law_313 : decode b_La_law 313 = .ok (.iconst 1, 1) := by decide +kernel
theorem d_La_law_314 : decode b_La_law 314 = .ok (.iadd, 1) := by decide +kernel
theorem d_La_law_315 : decode b_La_law 315 = .ok (.iaload, 1) := by decide +kernel
theorem d_La_law_316 : decode b_La_law 316 = .ok (.i2l, 1) := by decide +kernel
theorem d_La_law_317 : decode b_La_law 317 = .ok (.bipush 32, 2) := by decide +kernel
theorem d_La_law_319 : decode b_La_law 319 = .ok (.lshl, 1) := by decide +kernel
theorem d_La_law_320 : decode b_La_law 320 = .ok (.aload_n 0, 1) := by decide +kernel
theorem d_La_law_321 : decode b_La_law 321 = .ok (.iload_n 3, 1) := by decide +kernel
theorem d_La_law_322 : decode b_La_law 322 = .ok (.iconst 2, 1) := by decide +kernel
theorem d_La_law_323 : decode b_La_law 323 = .ok (.iadd, 1) := by decide +kernel
theorem d_La_law_324 : decode b_La_law 324 = .ok (.iaload, 1) := by decide +kernel
theorem d_La_law_325 : decode b_La_law 325 = .ok (.i2l, 1) := by decide +kernel
theorem d_La_law_326 : decode b_La_law 326 = .ok (.ldc2_w 21, 3) := by decide +kernel
theorem d_La_law_329 : decode b_La_law 329 = .ok (.land, 1) := by decide +kernel
theorem d_La_law_330 : decode b_La_law 330 = .ok (.lor, 1) := by decide +kernel
theorem d_La_law_331 : decode b_La_law 331 = .ok (.invokevirtual 51, 3) := by decide +kernel
theorem d_La_law_334 : decode b_La_law 334 = .ok (.if_icmp .eq 101, 3) := by decide +kernel
theorem d_La_law_337 : decode b_La_law 337 = .ok (.iconst 0, 1) := by decide +kernel
theorem d_La_law_338 : decode b_La_law 338 = .ok (.ireturn, 1) := by decide +kernel
theorem d_La_law_339 : decode b_La_law 339 = .ok (.aload_n 1, 1) := by decide +kernel
theorem d_La_law_340 : decode b_La_law 340 = .ok (.invokevirtual 52, 3) := by decide +kernel
theorem d_La_law_343 : decode b_La_law 343 = .ok (.aload_n 2, 1) := by decide +kernel
theorem d_La_law_344 : decode b_La_law 344 = .ok (.invokevirtual 55, 3) := by decide +kernel
theorem d_La_law_347 : decode b_La_law 347 = .ok (.if_icmp .eq 88, 3) := by decide +kernel
theorem d_La_law_350 : decode b_La_law 350 = .ok (.iconst 0, 1) := by decide +kernel
theorem d_La_law_351 : decode b_La_law 351 = .ok (.ireturn, 1) := by decide +kernel
theorem d_La_law_352 : decode b_La_law 352 = .ok (.aload_n 1, 1) := by decide +kernel
theorem d_La_law_353 : decode b_La_law 353 = .ok (.invokevirtual 56, 3) := by decide +kernel
theorem d_La_law_356 : decode b_La_law 356 = .ok (.aload_n 2, 1) := by decide +kernel
theorem d_La_law_357 : decode b_La_law 357 = .ok (.invokevirtual 59, 3) := by decide +kernel
theorem d_La_law_360 : decode b_La_law 360 = .ok (.if_icmp .eq 75, 3) := by decide +kernel
theorem d_La_law_363 : decode b_La_law 363 = .ok (.iconst 0, 1) := by decide +kernel
theorem d_La_law_364 : decode b_La_law 364 = .ok (.ireturn, 1) := by decide +kernel
theorem d_La_law_365 : decode b_La_law 365 = .ok (.aload_n 1, 1) := by decide +kernel
theorem d_La_law_366 : decode b_La_law 366 = .ok (.invokevirtual 60, 3) := by decide +kernel
theorem d_La_law_369 : decode b_La_law 369 = .ok (.aload_n 2, 1) := by decide +kernel
theorem d_La_law_370 : decode b_La_law 370 = .ok (.invokevirtual 63, 3) := by decide +kernel
theorem d_La_law_373 : decode b_La_law 373 = .ok (.if_icmp .eq 62, 3) := by decide +kernel
theorem d_La_law_376 : decode b_La_law 376 = .ok (.iconst 0, 1) := by decide +kernel
theorem d_La_law_377 : decode b_La_law 377 = .ok (.ireturn, 1) := by decide +kernel
theorem d_La_law_378 : decode b_La_law 378 = .ok (.aload_n 1, 1) := by decide +kernel
theorem d_La_law_379 : decode b_La_law 379 = .ok (.aload_n 0, 1) := by decide +kernel
theorem d_La_law_380 : decode b_La_law 380 = .ok (.iload_n 3, 1) := by decide +kernel
theorem d_La_law_381 : decode b_La_law 381 = .ok (.iconst 1, 1) := by decide +kernel
theorem d_La_law_382 : decode b_La_law 382 = .ok (.iadd, 1) := by decide +kernel
theorem d_La_law_383 : decode b_La_law 383 = .ok (.iaload, 1) := by decide +kernel
theorem d_La_law_384 : decode b_La_law 384 = .ok (.aload_n 0, 1) := by decide +kernel
theorem d_La_law_385 : decode b_La_law 385 = .ok (.iload_n 3, 1) := by decide +kernel
theorem d_La_law_386 : decode b_La_law 386 = .ok (.iconst 2, 1) := by decide +kernel
theorem d_La_law_387 : decode b_La_law 387 = .ok (.iadd, 1) := by decide +kernel
theorem d_La_law_388 : decode b_La_law 388 = .ok (.iaload, 1) := by decide +kernel
theorem d_La_law_389 : decode b_La_law 389 = .ok (.invokevirtual 64, 3) := by decide +kernel
theorem d_La_law_392 : decode b_La_law 392 = .ok (.aload_n 2, 1) := by decide +kernel
theorem d_La_law_393 : decode b_La_law 393 = .ok (.aload_n 0, 1) := by decide +kernel
theorem d_La_law_394 : decode b_La_law 394 = .ok (.iload_n 3, 1) := by decide +kernel
theorem d_La_law_395 : decode b_La_law 395 = .ok (.iconst 1, 1) := by decide +kernel
theorem d_La_law_396 : decode b_La_law 396 = .ok (.iadd, 1) := by decide +kernel
theorem d_La_law_397 : decode b_La_law 397 = .ok (.iaload, 1) := by decide +kernel
theorem d_La_law_398 : decode b_La_law 398 = .ok (.aload_n 0, 1) := by decide +kernel
theorem d_La_law_399 : decode b_La_law 399 = .ok (.iload_n 3, 1) := by decide +kernel
theorem d_La_law_400 : decode b_La_law 400 = .ok (.iconst 2, 1) := by decide +kernel
theorem d_La_law_401 : decode b_La_law 401 = .ok (.iadd, 1) := by decide +kernel
theorem d_La_law_402 : decode b_La_law 402 = .ok (.iaload, 1) := by decide +kernel
theorem d_La_law_403 : decode b_La_law 403 = .ok (.invokevirtual 68, 3) := by decide +kernel
theorem d_La_law_406 : decode b_La_law 406 = .ok (.if_icmp .eq 29, 3) := by decide +kernel
theorem d_La_law_409 : decode b_La_law 409 = .ok (.iconst 0, 1) := by decide +kernel
theorem d_La_law_410 : decode b_La_law 410 = .ok (.ireturn, 1) := by decide +kernel
theorem d_La_law_411 : decode b_La_law 411 = .ok (.aload_n 1, 1) := by decide +kernel
theorem d_La_law_412 : decode b_La_law 412 = .ok (.aload_n 0, 1) := by decide +kernel
theorem d_La_law_413 : decode b_La_law 413 = .ok (.iload_n 3, 1) := by decide +kernel
theorem d_La_law_414 : decode b_La_law 414 = .ok (.iconst 1, 1) := by decide +kernel
theorem d_La_law_415 : decode b_La_law 415 = .ok (.iadd, 1) := by decide +kernel
theorem d_La_law_416 : decode b_La_law 416 = .ok (.iaload, 1) := by decide +kernel
theorem d_La_law_417 : decode b_La_law 417 = .ok (.invokevirtual 69, 3) := by decide +kernel
theorem d_La_law_420 : decode b_La_law 420 = .ok (.aload_n 2, 1) := by decide +kernel
theorem d_La_law_421 : decode b_La_law 421 = .ok (.aload_n 0, 1) := by decide +kernel
theorem d_La_law_422 : decode b_La_law 422 = .ok (.iload_n 3, 1) := by decide +kernel
theorem d_La_law_423 : decode b_La_law 423 = .ok (.iconst 1, 1) := by decide +kernel
theorem d_La_law_424 : decode b_La_law 424 = .ok (.iadd, 1) := by decide +kernel
theorem d_La_law_425 : decode b_La_law 425 = .ok (.iaload, 1) := by decide +kernel
theorem d_La_law_426 : decode b_La_law 426 = .ok (.invokevirtual 72, 3) := by decide +kernel
theorem d_La_law_429 : decode b_La_law 429 = .ok (.lcmp, 1) := by decide +kernel
theorem d_La_law_430 : decode b_La_law 430 = .ok (.ifCond .eq 5, 3) := by decide +kernel
theorem d_La_law_433 : decode b_La_law 433 = .ok (.iconst 0, 1) := by decide +kernel
theorem d_La_law_434 : decode b_La_law 434 = .ok (.ireturn, 1) := by decide +kernel
theorem d_La_law_435 : decode b_La_law 435 = .ok (.iinc 3 5, 3) := by decide +kernel
theorem d_La_law_438 : decode b_La_law 438 = .ok (.goto (-410), 3) := by decide +kernel
theorem d_La_law_441 : decode b_La_law 441 = .ok (.iconst 1, 1) := by decide +kernel
theorem d_La_law_442 : decode b_La_law 442 = .ok (.ireturn, 1) := by decide +kernel
end
section
/-! ===== rows of my own over the kit's: indices and counts as natural numbers, one kind of array a type ===== -/
theorem my_RA {s : State} {a b : ClassId} {ty : FieldType} (h1 : va_RA s a ty) (h2 : va_RA s b ty) : a = b := by
  cases ty with
  | object C =>
    obtain ⟨_, _, _, _, _, e1⟩ := h1
    obtain ⟨_, _, _, _, _, e2⟩ := h2
    exact Option.some.inj (e1.symm.trans e2)
  | _ => exact Option.some.inj (Eq.trans (Eq.symm h1) h2)
theorem my_tlast {α : Type} (l : List α) (a : α) : (l ++ [a])[l.length]? = some a := by
  rw [List.getElem?_append_right (Nat.le_refl _), Nat.sub_self]; rfl
section MR
variable {p : Program} {l : Launch} {e : Env} {R : Room} {s : State} {m : MethodId} {args : Array Value} {below : List Frame} {meth : Method} {c : Code} {H : Heap} {locs : List Loc} {cells slots : Nat} {Q : State → Prop}
variable {cc : ByteArray} {pc : Nat} {ls : Array Slot} {rest : List Value} {D : va_G} {cl : List vw_C} {A : Nat → Prop} {a : Nat} {tys : List (ClassId × FieldType)} {ws : va_W} {H0 : Heap}
theorem my_lald (hx : p.tables.exec = Jvm.exec) (hb : c.code = cc) (hK : va_K D cl tys s) (hP : va_P D cl ws H) (q0 t0 : Nat) {cA : ClassId} {n : Nat} {f : Nat → Int64} (ha : ws[q0]? = some (a, .inl (cA, n, .inr (.inl f)))) (ht : tys[t0]? = some (cA, .long)) {k : Nat} (hk : k < n) (hn : n < 2 ^ 31) (hdg : decode cc pc = .ok (.laload, 1))
    (kk : W p l e R s m args below meth c H locs cells slots Q (F0 m (pc + 1) ls (.long (f k) :: rest))) : W p l e R s m args below meth c H locs cells slots Q (F0 m pc ls (.int (nI k) :: .ref a :: rest)) := by
  refine va_lald hx hb hK hP q0 t0 ha ht (vp_in_nI hk hn) hdg ?_
  rw [nI_clamp (Nat.lt_trans hk hn)]
  exact kk
theorem my_iald (hx : p.tables.exec = Jvm.exec) (hb : c.code = cc) (hK : va_K D cl tys s) (hP : va_P D cl ws H) (q0 t0 : Nat) {cA : ClassId} {n : Nat} {f : Nat → Int32} (ha : ws[q0]? = some (a, .inl (cA, n, .inl f))) (ht : tys[t0]? = some (cA, .int)) {k : Nat} (hk : k < n) (hn : n < 2 ^ 31) (hdg : decode cc pc = .ok (.iaload, 1))
    (kk : W p l e R s m args below meth c H locs cells slots Q (F0 m (pc + 1) ls (.int (f k) :: rest))) : W p l e R s m args below meth c H locs cells slots Q (F0 m pc ls (.int (nI k) :: .ref a :: rest)) := by
  refine va_iald hx hb hK hP q0 t0 ha ht (vp_in_nI hk hn) hdg ?_
  rw [nI_clamp (Nat.lt_trans hk hn)]
  exact kk
theorem my_zald (hx : p.tables.exec = Jvm.exec) (hb : c.code = cc) (hK : va_K D cl tys s) (hP : va_P D cl ws H) (q0 t0 : Nat) {cA : ClassId} {n : Nat} {f : Nat → Int32} (ha : ws[q0]? = some (a, .inl (cA, n, .inl f))) (ht : tys[t0]? = some (cA, .boolean)) {k : Nat} (hk : k < n) (hn : n < 2 ^ 31) (hdg : decode cc pc = .ok (.baload, 1))
    (kk : W p l e R s m args below meth c H locs cells slots Q (F0 m (pc + 1) ls (.int (f k) :: rest))) : W p l e R s m args below meth c H locs cells slots Q (F0 m pc ls (.int (nI k) :: .ref a :: rest)) := by
  refine va_zald hx hb hK hP q0 t0 ha ht (vp_in_nI hk hn) hdg ?_
  rw [nI_clamp (Nat.lt_trans hk hn)]
  exact kk
theorem my_aldq (hx : p.tables.exec = Jvm.exec) (hb : c.code = cc) (hK : va_K D cl tys s) (hP : va_P D cl ws H) (q0 t0 : Nat) {cA : ClassId} {C : String} {n : Nat} {f : Nat → Option Nat} (ha : ws[q0]? = some (a, .inl (cA, n, .inr (.inr (.inr (.inr f)))))) (ht : tys[t0]? = some (cA, .object C)) {k : Nat} (hk : k < n) (hn : n < 2 ^ 31) (hdg : decode cc pc = .ok (.aaload, 1))
    (kk : W p l e R s m args below meth c H locs cells slots Q (F0 m (pc + 1) ls (va_rf (f k) :: rest))) : W p l e R s m args below meth c H locs cells slots Q (F0 m pc ls (.int (nI k) :: .ref a :: rest)) := by
  refine va_aldq hx hb hK hP q0 t0 ha ht (vp_in_nI hk hn) hdg ?_
  rw [nI_clamp (Nat.lt_trans hk hn)]
  exact kk
theorem my_last (hx : p.tables.exec = Jvm.exec) (hb : c.code = cc) (hK : va_K D cl tys s) (hP : va_P D cl ws H) (hD : va_D A ws) (hS : va_S A H0 H locs) (q0 t0 : Nat) {cA : ClassId} {n : Nat} {f : Nat → Int64} (ha : ws[q0]? = some (a, .inl (cA, n, .inr (.inl f)))) (ht : tys[t0]? = some (cA, .long)) {k : Nat} {x : Int64} (hk : k < n) (hn : n < 2 ^ 31) (hdg : decode cc pc = .ok (.lastore, 1))
    (kk : ∀ (H1 : Heap) (locs1 : List Loc), va_P D cl (ws.set q0 (a, .inl (cA, n, .inr (.inl (vp_updL f k x))))) H1 → va_D A (ws.set q0 (a, .inl (cA, n, .inr (.inl (vp_updL f k x))))) → va_S A H0 H1 locs1 → W p l e R s m args below meth c H1 locs1 cells slots Q (F0 m (pc + 1) ls rest)) : W p l e R s m args below meth c H locs cells slots Q (F0 m pc ls (.long x :: .int (nI k) :: .ref a :: rest)) := by
  refine va_last hx hb hK hP hD hS q0 t0 ha ht (vp_in_nI hk hn) hdg ?_
  rw [nI_clamp (Nat.lt_trans hk hn)]
  exact kk
theorem my_iast (hx : p.tables.exec = Jvm.exec) (hb : c.code = cc) (hK : va_K D cl tys s) (hP : va_P D cl ws H) (hD : va_D A ws) (hS : va_S A H0 H locs) (q0 t0 : Nat) {cA : ClassId} {n : Nat} {f : Nat → Int32} (ha : ws[q0]? = some (a, .inl (cA, n, .inl f))) (ht : tys[t0]? = some (cA, .int)) {k : Nat} {x : Int32} (hk : k < n) (hn : n < 2 ^ 31) (hdg : decode cc pc = .ok (.iastore, 1))
    (kk : ∀ (H1 : Heap) (locs1 : List Loc), va_P D cl (ws.set q0 (a, .inl (cA, n, .inl (upd f k x)))) H1 → va_D A (ws.set q0 (a, .inl (cA, n, .inl (upd f k x)))) → va_S A H0 H1 locs1 → W p l e R s m args below meth c H1 locs1 cells slots Q (F0 m (pc + 1) ls rest)) : W p l e R s m args below meth c H locs cells slots Q (F0 m pc ls (.int x :: .int (nI k) :: .ref a :: rest)) := by
  refine va_iast hx hb hK hP hD hS q0 t0 ha ht (vp_in_nI hk hn) hdg ?_
  rw [nI_clamp (Nat.lt_trans hk hn)]
  exact kk
theorem my_zast (hx : p.tables.exec = Jvm.exec) (hb : c.code = cc) (hK : va_K D cl tys s) (hP : va_P D cl ws H) (hD : va_D A ws) (hS : va_S A H0 H locs) (q0 t0 : Nat) {cA : ClassId} {n : Nat} {f : Nat → Int32} (ha : ws[q0]? = some (a, .inl (cA, n, .inl f))) (ht : tys[t0]? = some (cA, .boolean)) {k : Nat} {x : Int32} (hk : k < n) (hn : n < 2 ^ 31) (hxn : vp_nar .boolean x = x) (hdg : decode cc pc = .ok (.bastore, 1))
    (kk : ∀ (H1 : Heap) (locs1 : List Loc), va_P D cl (ws.set q0 (a, .inl (cA, n, .inl (upd f k x)))) H1 → va_D A (ws.set q0 (a, .inl (cA, n, .inl (upd f k x)))) → va_S A H0 H1 locs1 → W p l e R s m args below meth c H1 locs1 cells slots Q (F0 m (pc + 1) ls rest)) : W p l e R s m args below meth c H locs cells slots Q (F0 m pc ls (.int x :: .int (nI k) :: .ref a :: rest)) := by
  refine va_zast hx hb hK hP hD hS q0 t0 ha ht (vp_in_nI hk hn) hdg ?_
  rw [nI_clamp (Nat.lt_trans hk hn), hxn]
  exact kk
theorem my_astq (hx : p.tables.exec = Jvm.exec) (hb : c.code = cc) (hK : va_K D cl tys s) (hP : va_P D cl ws H) (hD : va_D A ws) (hS : va_S A H0 H locs) (q0 t0 qk ci : Nat) {cA : ClassId} {r : vw_C} {n v : Nat} {vs : List Value} {f : Nat → Option Nat} (ha : ws[q0]? = some (a, .inl (cA, n, .inr (.inr (.inr (.inr f)))))) (ht : tys[t0]? = some (cA, .object r.1)) (hv : ws[qk]? = some (v, .inr (ci, vs))) (hc : cl[ci]? = some r) {k : Nat} (hk : k < n) (hn : n < 2 ^ 31) (hdg : decode cc pc = .ok (.aastore, 1))
    (kk : ∀ (H1 : Heap) (locs1 : List Loc), va_P D cl (ws.set q0 (a, .inl (cA, n, .inr (.inr (.inr (.inr (va_up f k (some v)))))))) H1 → va_D A (ws.set q0 (a, .inl (cA, n, .inr (.inr (.inr (.inr (va_up f k (some v)))))))) → va_S A H0 H1 locs1 → W p l e R s m args below meth c H1 locs1 cells slots Q (F0 m (pc + 1) ls rest)) : W p l e R s m args below meth c H locs cells slots Q (F0 m pc ls (.ref v :: .int (nI k) :: .ref a :: rest)) := by
  refine va_astq hx hb hK hP hD hS q0 t0 qk ci ha ht hv hc (vp_in_nI hk hn) hdg ?_
  rw [nI_clamp (Nat.lt_trans hk hn)]
  exact kk
theorem my_newa (hx : p.tables.exec = Jvm.exec) (hb : c.code = cc) {atype : ArrayType} {ty : FieldType} (harr : (Cond.arrayClass ty).before args s = true) (hty : newarray.typeOf atype = ty) (hK : va_K D cl tys s) (t0 : Nat) {cA0 : ClassId} (ht0 : tys[t0]? = some (cA0, ty)) (hP : va_P D cl ws H) (hD : va_D A ws) (hS : va_S A H0 H locs) (hA : ∀ q, H0.size ≤ q → A q)
    {a0 : vp_A} {k : Nat} (ha : ∀ cA : ClassId, vp_cell cA a0 = arrV cA k (fun _ => defaultValue ty)) (hk : k < 2 ^ 31) (hbytes : k * componentBytes ty ≤ 536870912) (hcells : cells + 1 ≤ R.cells) (hslots : slots + k ≤ R.slots) (hdg : decode cc pc = .ok (.newarray atype, 2))
    (kk : ∀ (q : Nat) (H1 : Heap), va_P D cl (ws ++ [(q, .inl (cA0, a0))]) H1 → va_D A (ws ++ [(q, .inl (cA0, a0))]) → va_S A H0 H1 locs →
      W p l e R s m args below meth c H1 locs (cells + 1) (slots + k) Q (F0 m (pc + 2) ls (.ref q :: rest))) : W p l e R s m args below meth c H locs cells slots Q (F0 m pc ls (.int (nI k) :: rest)) := by
  refine va_newa hx hb (by rw [hty]; exact harr) hty hK hP hD hS hA ha (nI_pos hk) (nI_clamp hk) hbytes hcells hslots hdg (fun q cA H1 hK1 hP1 hD1 hS1 => ?_)
  have e1 : cA = cA0 := my_RA (hK1.2 _ _ (my_tlast tys (cA, ty))).2 (hK.2 t0 _ ht0).2
  subst e1
  exact kk q H1 hP1 hD1 hS1
theorem my_newq (hx : p.tables.exec = Jvm.exec) (hb : c.code = cc) {own C : String} {index : Nat} (hown : s.vm.findClass own = some m.cls) (hclink : (Cond.classLink own index C).before args s = true) (hover : (Cond.arrayOver (.object C)).before args s = true) (hK : va_K D cl tys s) (t0 : Nat) {cA0 : ClassId} (ht0 : tys[t0]? = some (cA0, .object C)) (hP : va_P D cl ws H) (hD : va_D A ws) (hS : va_S A H0 H locs) (hA : ∀ q, H0.size ≤ q → A q)
    {k : Nat} (hk : k < 2 ^ 31) (hbytes : k * 4 ≤ 536870912) (hcells : cells + 1 ≤ R.cells) (hslots : slots + k ≤ R.slots) (hdg : decode cc pc = .ok (.anewarray index, 3))
    (kk : ∀ (q : Nat) (H1 : Heap), va_P D cl (ws ++ [(q, .inl (cA0, k, .inr (.inr (.inr (.inr (fun _ => none))))))]) H1 → va_D A (ws ++ [(q, .inl (cA0, k, .inr (.inr (.inr (.inr (fun _ => none))))))]) → va_S A H0 H1 locs →
      W p l e R s m args below meth c H1 locs (cells + 1) (slots + k) Q (F0 m (pc + 3) ls (.ref q :: rest))) : W p l e R s m args below meth c H locs cells slots Q (F0 m pc ls (.int (nI k) :: rest)) := by
  refine va_newq hx hb hown hclink (va_AO.of hover) hK hP hD hS hA (nI_pos hk) (nI_clamp hk) hbytes hcells hslots hdg (fun q cA H1 hK1 hP1 hD1 hS1 => ?_)
  have e1 : cA = cA0 := my_RA (hK1.2 _ _ (my_tlast tys (cA, .object C))).2 (hK.2 t0 _ ht0).2
  subst e1
  exact kk q H1 hP1 hD1 hS1
theorem my_topq {x : Option Nat} (k : ∀ y : Option Nat, y = x → W p l e R s m args below meth c H locs cells slots Q (F0 m pc ls (va_rf y :: rest))) : W p l e R s m args below meth c H locs cells slots Q (F0 m pc ls (va_rf x :: rest)) := k x rfl
theorem run_of {mc ms : Nat} {g : JFrame} {Qa : State → Outcome → State → Prop} {free : Addr → Prop} (h : va_Run p l e R s m args below meth c H locs cells slots mc ms g rest Qa free) : CallRun p l e R s m args below meth c H locs cells slots mc ms g rest Qa free := by
  intro T hT X
  obtain ⟨v, st₀, t, T', L, h0, X', hL, e1, e2, hq, st⟩ := h T hT X
  exact ⟨v, st₀, t, T', L, h0, X', hL, e1, hq, st⟩
end MR
/-! ===== the shapes of my contracts ===== -/
/-- a method over numbers alone -/
def pE (av : List Value) : Array Value → State → Prop := va_Pc av kN
/-- a method that only reads: its world holds -/
def pR (cl : List vw_C) (tys : List (ClassId × FieldType)) (D : va_G) (av : List Value) (ws : va_W) : Array Value → State → Prop := va_Pc av (fun U => va_P D cl ws U.heap ∧ va_K D cl tys U ∧ kN U)
/-- a method that writes: its world holds, apart, in a heap of that size -/
def pW (cl : List vw_C) (tys : List (ClassId × FieldType)) (D : va_G) (av : List Value) (ws : va_W) (sz : Nat) : Array Value → State → Prop := va_Pc av (fun U => U.heap.size = sz ∧ va_P D cl ws U.heap ∧ va_K D cl tys U ∧ kN U ∧ va_D (fun _ => True) ws)
section PS
variable {s : State} {H : Heap} {D : va_G} {cl : List vw_C} {tys : List (ClassId × FieldType)} {av : List Value} {ws : va_W} {sz : Nat} {A : Nat → Prop}
theorem pE_blind : FrameBlind (pE av) := fun a U g mk q => ⟨q.1, kN_same (s := U) (U := U.calling g mk a) rfl q.2⟩
theorem pE_pre (hN : kN s) : ∀ U : State, U.heap = H → s.WarmedH U.vm → (pE av) av.toArray U := fun _ _ hW => ⟨rfl, kN_warm hW hN⟩
theorem pR_blind : FrameBlind (pR cl tys D av ws) := fun a U g mk q => by
  obtain ⟨q0, qP, qK, qN⟩ := q
  exact ⟨q0, qP, va_K.moved (u := U) (U := U.calling g mk a) (Vm.Alike.refl U.vm) qK, kN_same (s := U) (U := U.calling g mk a) rfl qN⟩
theorem pW_blind : FrameBlind (pW cl tys D av ws sz) := fun a U g mk q => by
  obtain ⟨q0, q1, qP, qK, qN, qD⟩ := q
  exact ⟨q0, q1, qP, va_K.moved (u := U) (U := U.calling g mk a) (Vm.Alike.refl U.vm) qK, kN_same (s := U) (U := U.calling g mk a) rfl qN, qD⟩
theorem pR_pre (hK : va_K D cl tys s) (hN : kN s) (hP : va_P D cl ws H) : ∀ U : State, U.heap = H → s.WarmedH U.vm → pR cl tys D av ws av.toArray U := fun U hU hW => ⟨rfl, by rw [hU]; exact hP, va_K.moved hW.alike hK, kN_warm hW hN⟩
theorem pW_pre (hK : va_K D cl tys s) (hN : kN s) (hP : va_P D cl ws H) (hD : va_D A ws) : ∀ U : State, U.heap = H → s.WarmedH U.vm → pW cl tys D av ws H.size av.toArray U := fun U hU hW => ⟨rfl, by rw [hU], by rw [hU]; exact hP, va_K.moved hW.alike hK, kN_warm hW hN, hD.weaken (fun _ _ _ _ => trivial)⟩
end PS
/-! ===== an array is what it holds below its length ===== -/
theorem my_arrV {cA : ClassId} {n : Nat} {f g : Nat → Value} (h : ∀ j, j < n → f j = g j) : arrV cA n f = arrV cA n g := by
  unfold arrV
  have : (fun j : Fin n => f j.val) = fun j : Fin n => g j.val := funext fun j => h j.val j.isLt
  rw [this]
theorem my_congL {D : va_G} {cl : List vw_C} {ws : va_W} {H : Heap} (hP : va_P D cl ws H) (q : Nat) {a : Nat} {cA : ClassId} {n : Nat} {f g : Nat → Int64} (ha : ws[q]? = some (a, .inl (cA, n, .inr (.inl f)))) (h : ∀ j, j < n → f j = g j) : va_P D cl (ws.set q (a, .inl (cA, n, .inr (.inl g)))) H := by
  intro k x hk
  by_cases hkq : k = q
  · subst hkq
    rw [List.getElem?_set_self (List.getElem?_eq_some_iff.mp ha).1] at hk
    cases hk
    have h0 : H[a]? = some (vp_cell cA (n, .inr (.inl f))) := hP k _ ha
    show H[a]? = some (vp_cell cA (n, .inr (.inl g)))
    rw [h0, vp_cell_l, vp_cell_l, my_arrV (fun j hj => by rw [h j hj])]
  · rw [List.getElem?_set_ne (Ne.symm hkq)] at hk
    exact hP k x hk
end
section
/-! ===== one transaction, done alone: the machine of eight registers ===== -/
/-- an instruction: operation, first number (modulo 8), second number -/
abbrev Pg : Type := List (Nat × Nat × Int64)
/-- registers, what it has stored, in how many places, next instruction, done, loads, outcome -/
abbrev Ms : Type := (Nat → Int64) × (Nat → Option Int64) × Nat × Option Nat × Nat × Nat × Nat
def sp_rg (b : Int64) : Nat := b.toBitVec.toNat % 8
def sp_pl (b : Int64) : Nat := b.toBitVec.toNat % 256
def sp_nx (n i : Nat) : Option Nat := if i < n then some i else none
def sp_jp (n : Nat) (b : Int64) : Option Nat := if 0 ≤ b.toInt ∧ b.toInt < n then some b.toInt.toNat else none
def sp_0 (n : Nat) : Ms := (fun _ => 0, fun _ => none, 0, sp_nx n 0, 0, 0, 0)
def sp_oc (M : Ms) : Nat := M.2.2.2.2.2.2
def sp_ls (M : Ms) : Nat := M.2.2.2.2.2.1
def sp_dn (M : Ms) : Nat := M.2.2.2.2.1
def sp_ne (M : Ms) : Option Nat := M.2.2.2.1
def sp_ct (M : Ms) : Nat := M.2.2.1
def sp_wr (M : Ms) : Nat → Option Int64 := M.2.1
/-- instruction i of n: op with a and b; ld: what the places hold -/
def sp_ex (n op a : Nat) (b : Int64) (i : Nat) (ld : Nat → Int64) (M : Ms) : Ms :=
  match M with
  | (rg, wr, ct, _, dn, ls, oc) =>
    if op = 1 then (vp_updL rg a b, wr, ct, sp_nx n (i + 1), dn + 1, ls, oc)
    else if op = 2 then (vp_updL rg a ((wr (sp_pl (rg (sp_rg b)))).getD (ld (sp_pl (rg (sp_rg b))))), wr, ct, sp_nx n (i + 1), dn + 1, ls + 1, oc)
    else if op = 3 then (rg, va_up wr (sp_pl (rg (sp_rg b))) (some (rg a)), (if wr (sp_pl (rg (sp_rg b))) = none then ct + 1 else ct), sp_nx n (i + 1), dn + 1, ls, oc)
    else if op = 4 then (vp_updL rg a (rg a + rg (sp_rg b)), wr, ct, sp_nx n (i + 1), dn + 1, ls, oc)
    else if op = 5 then (vp_updL rg a (rg a - rg (sp_rg b)), wr, ct, sp_nx n (i + 1), dn + 1, ls, oc)
    else if op = 6 then (vp_updL rg a (rg a * rg (sp_rg b)), wr, ct, sp_nx n (i + 1), dn + 1, ls, oc)
    else if op = 7 then (rg, wr, ct, (if rg a = 0 then sp_nx n (i + 1) else sp_jp n b), dn + 1, ls, oc)
    else if op = 8 then (vp_updL rg a (if rg a < rg (sp_rg b) then 1 else 0), wr, ct, sp_nx n (i + 1), dn + 1, ls, oc)
    else if op = 9 then (rg, wr, ct, sp_nx n (i + 1), dn + 1, ls, 2)
    else if op = 10 then (vp_updL rg a (rg (sp_rg b)), wr, ct, sp_nx n (i + 1), dn + 1, ls, oc)
    else (rg, wr, ct, sp_nx n (i + 1), dn + 1, ls, 1)
def sp_in (pg : Pg) (i : Nat) : Nat × Nat × Int64 := pg.getD i (0, 0, 0)
/-- one step; nothing where it has ended -/
def sp_st (pg : Pg) (ld : Nat → Int64) (M : Ms) : Ms :=
  if sp_oc M = 0 then
    match sp_ne M with
    | none => (M.1, M.2.1, M.2.2.1, M.2.2.2.1, M.2.2.2.2.1, M.2.2.2.2.2.1, 1)
    | some i => if 300 ≤ sp_dn M then (M.1, M.2.1, M.2.2.1, M.2.2.2.1, M.2.2.2.2.1, M.2.2.2.2.2.1, 3)
      else sp_ex pg.length (sp_in pg i).1 (sp_in pg i).2.1 (sp_in pg i).2.2 i ld M
  else M
def sp_run (pg : Pg) (ld : Nat → Int64) : Nat → Ms
  | 0 => sp_0 pg.length
  | k + 1 => sp_st pg ld (sp_run pg ld k)
def sp_fin (pg : Pg) (ld : Nat → Int64) : Ms := sp_run pg ld 301
theorem sp_ex_dn (n op a : Nat) (b : Int64) (i : Nat) (ld : Nat → Int64) (M : Ms) : sp_dn (sp_ex n op a b i ld M) = sp_dn M + 1 := by
  obtain ⟨rg, wr, ct, nx, dn, ls, oc⟩ := M
  unfold sp_ex sp_dn
  dsimp only
  repeat' split
  all_goals rfl
theorem sp_st_end {pg : Pg} {ld : Nat → Int64} {M : Ms} (h : sp_oc M ≠ 0) : sp_st pg ld M = M := by
  unfold sp_st; rw [if_neg h]
theorem sp_st_none {pg : Pg} {ld : Nat → Int64} {M : Ms} (h : sp_oc M = 0) (hn : sp_ne M = none) : sp_st pg ld M = (M.1, M.2.1, M.2.2.1, M.2.2.2.1, M.2.2.2.2.1, M.2.2.2.2.2.1, 1) := by
  unfold sp_st; rw [if_pos h, hn]
theorem sp_st_long {pg : Pg} {ld : Nat → Int64} {M : Ms} {i : Nat} (h : sp_oc M = 0) (hn : sp_ne M = some i) (hd : 300 ≤ sp_dn M) : sp_st pg ld M = (M.1, M.2.1, M.2.2.1, M.2.2.2.1, M.2.2.2.2.1, M.2.2.2.2.2.1, 3) := by
  unfold sp_st; rw [if_pos h, hn]; dsimp only; rw [if_pos hd]
theorem sp_st_go {pg : Pg} {ld : Nat → Int64} {M : Ms} {i : Nat} (h : sp_oc M = 0) (hn : sp_ne M = some i) (hd : ¬ 300 ≤ sp_dn M) : sp_st pg ld M = sp_ex pg.length (sp_in pg i).1 (sp_in pg i).2.1 (sp_in pg i).2.2 i ld M := by
  unfold sp_st; rw [if_pos h, hn]; dsimp only; rw [if_neg hd]
/-- while it goes on, as many are done as steps were made, at most 300 -/
theorem sp_run_dn (pg : Pg) (ld : Nat → Int64) : ∀ k, sp_oc (sp_run pg ld k) = 0 → sp_dn (sp_run pg ld k) = k ∧ k ≤ 300 := by
  intro k
  induction k with
  | zero => intro _; exact ⟨rfl, Nat.zero_le _⟩
  | succ k ih =>
    intro h
    by_cases h0 : sp_oc (sp_run pg ld k) = 0
    · obtain ⟨h1, h2⟩ := ih h0
      cases hn : sp_ne (sp_run pg ld k) with
      | none =>
        have h' : sp_oc (sp_st pg ld (sp_run pg ld k)) = 0 := h
        rw [sp_st_none h0 hn] at h'
        exact absurd h' (by simp [sp_oc])
      | some i =>
        by_cases hd : 300 ≤ sp_dn (sp_run pg ld k)
        · have h' : sp_oc (sp_st pg ld (sp_run pg ld k)) = 0 := h
          rw [sp_st_long h0 hn hd] at h'
          exact absurd h' (by simp [sp_oc])
        · refine ⟨?_, by omega⟩
          show sp_dn (sp_st pg ld (sp_run pg ld k)) = k + 1
          rw [sp_st_go h0 hn hd, sp_ex_dn, h1]
    · have h' : sp_oc (sp_st pg ld (sp_run pg ld k)) = 0 := h
      rw [sp_st_end h0] at h'
      exact absurd h' h0
theorem sp_fin_end (pg : Pg) (ld : Nat → Int64) : sp_oc (sp_fin pg ld) ≠ 0 := fun h => by
  have := (sp_run_dn pg ld 301 h).2
  omega
theorem sp_run_stay {pg : Pg} {ld : Nat → Int64} {k : Nat} (h : sp_oc (sp_run pg ld k) ≠ 0) : ∀ j, sp_run pg ld (k + j) = sp_run pg ld k := by
  intro j
  induction j with
  | zero => rfl
  | succ j ih =>
    show sp_st pg ld (sp_run pg ld (k + j)) = _
    rw [ih, sp_st_end h]
/-- where it has ended, that is its end -/
theorem sp_run_fin {pg : Pg} {ld : Nat → Int64} {k : Nat} (h : sp_oc (sp_run pg ld k) ≠ 0) : sp_run pg ld k = sp_fin pg ld := by
  by_cases hk : k ≤ 301
  · have := sp_run_stay h (301 - k)
    rw [show k + (301 - k) = 301 by omega] at this
    exact this.symm
  · have := sp_run_stay (sp_fin_end pg ld) (k - 301)
    rw [show 301 + (k - 301) = k by omega] at this
    exact this
/-! ===== a worker: it loads from what it has seen, else from the places, and keeps what it saw ===== -/
def wk_ld (sn : Nat → Option Int64) (P : Nat → Int64) : Nat → Int64 := fun p => (sn p).getD (P p)
/-- the place that the next step loads from outside, if it does -/
def wk_at (pg : Pg) (M : Ms) : Option Nat :=
  if sp_oc M = 0 then
    match sp_ne M with
    | none => none
    | some i => if 300 ≤ sp_dn M then none
      else if (sp_in pg i).1 = 2 then
        (if M.2.1 (sp_pl (M.1 (sp_rg (sp_in pg i).2.2))) = none then some (sp_pl (M.1 (sp_rg (sp_in pg i).2.2))) else none)
      else none
  else none
def wk_sn (pg : Pg) (P : Nat → Int64) (M : Ms) (sn : Nat → Option Int64) : Nat → Option Int64 :=
  match wk_at pg M with
  | none => sn
  | some p => va_up sn p (some (wk_ld sn P p))
def wk_ag (sn : Nat → Option Int64) (P : Nat → Int64) : Prop := ∀ p v, sn p = some v → P p = v
/-- a step looks at one place at most -/
theorem sp_st_ld {pg : Pg} {M : Ms} {f g : Nat → Int64} (h : ∀ p, wk_at pg M = some p → f p = g p) : sp_st pg f M = sp_st pg g M := by
  by_cases h0 : sp_oc M = 0
  · cases hn : sp_ne M with
    | none => rw [sp_st_none h0 hn, sp_st_none h0 hn]
    | some i =>
      by_cases hd : 300 ≤ sp_dn M
      · rw [sp_st_long h0 hn hd, sp_st_long h0 hn hd]
      · rw [sp_st_go h0 hn hd, sp_st_go h0 hn hd]
        by_cases h2 : (sp_in pg i).1 = 2
        · obtain ⟨rg, wr, ct, nx, dn, ls, oc⟩ := M
          by_cases hw : wr (sp_pl (rg (sp_rg (sp_in pg i).2.2))) = none
          · have := h (sp_pl (rg (sp_rg (sp_in pg i).2.2))) (by
              unfold wk_at
              rw [if_pos h0, hn]
              dsimp only
              rw [if_neg hd, if_pos h2, if_pos hw])
            unfold sp_ex
            dsimp only
            rw [h2]
            simp [hw, this]
          · obtain ⟨v, hv⟩ := Option.ne_none_iff_exists'.mp hw
            unfold sp_ex
            dsimp only
            rw [h2]
            simp [hv]
        · obtain ⟨rg, wr, ct, nx, dn, ls, oc⟩ := M
          unfold sp_ex
          dsimp only
          simp only [if_neg h2]
  · rw [sp_st_end h0, sp_st_end h0]
theorem wk_ag_sn {pg : Pg} {P Q : Nat → Int64} {M : Ms} {sn : Nat → Option Int64} (h : wk_ag (wk_sn pg P M sn) Q) : wk_ag sn Q := by
  unfold wk_sn at h
  cases hp : wk_at pg M with
  | none => rw [hp] at h; exact h
  | some p =>
    rw [hp] at h
    dsimp only at h
    intro q v hq
    by_cases hqp : q = p
    · subst hqp
      refine h q v ?_
      rw [va_up_self, wk_ld, hq]; rfl
    · exact h q v (by rw [va_up_ne _ _ hqp]; exact hq)
theorem wk_st_ag {pg : Pg} {P Q : Nat → Int64} {M : Ms} {sn : Nat → Option Int64} (h : wk_ag (wk_sn pg P M sn) Q) : sp_st pg (wk_ld sn P) M = sp_st pg Q M := by
  refine sp_st_ld (fun p hp => ?_)
  have h2 := h p (wk_ld sn P p) (by unfold wk_sn; rw [hp]; exact va_up_self _ _ _)
  exact h2.symm
/-- where the seen agrees with the places, it goes on agreeing -/
theorem wk_sn_ag {pg : Pg} {P : Nat → Int64} {M : Ms} {sn : Nat → Option Int64} (h : wk_ag sn P) : wk_ag (wk_sn pg P M sn) P := by
  unfold wk_sn
  cases hp : wk_at pg M with
  | none => exact h
  | some p =>
    dsimp only
    intro q v hq
    by_cases hqp : q = p
    · subst hqp
      rw [va_up_self, wk_ld] at hq
      cases hs : sn q with
      | none => rw [hs] at hq; exact Option.some.inj hq
      | some w => rw [hs] at hq; exact (h q w hs).trans (Option.some.inj hq)
    · rw [va_up_ne _ _ hqp] at hq
      exact h q v hq
/-- what a worker has come to: the run over any places that agree with what it saw -/
def wk_fo (pg : Pg) (M : Ms) (sn : Nat → Option Int64) : Prop := ∃ k, ∀ Q, wk_ag sn Q → M = sp_run pg Q k
theorem wk_fo_0 (pg : Pg) : wk_fo pg (sp_0 pg.length) (fun _ => none) := ⟨0, fun _ _ => rfl⟩
theorem wk_fo_st {pg : Pg} {P : Nat → Int64} {M : Ms} {sn : Nat → Option Int64} (h : wk_fo pg M sn) : wk_fo pg (sp_st pg (wk_ld sn P) M) (wk_sn pg P M sn) := by
  obtain ⟨k, hk⟩ := h
  refine ⟨k + 1, fun Q hQ => ?_⟩
  show _ = sp_st pg Q (sp_run pg Q k)
  rw [← hk Q (wk_ag_sn hQ), wk_st_ag hQ]
theorem wk_fo_fin {pg : Pg} {P : Nat → Int64} {M : Ms} {sn : Nat → Option Int64} (h : wk_fo pg M sn) (ha : wk_ag sn P) (ho : sp_oc M ≠ 0) : M = sp_fin pg P := by
  obtain ⟨k, hk⟩ := h
  have e := hk P ha
  rw [e] at ho ⊢
  exact sp_run_fin ho
end
section
/-! ===== the block: done one after the other ===== -/
def bk_ov (P : Nat → Int64) (M : Ms) : Nat → Int64 := if sp_oc M = 1 then fun p => (M.2.1 p).getD (P p) else P
def bk_P (pgs : Nat → Pg) (P0 : Nat → Int64) : Nat → Nat → Int64
  | 0 => P0
  | t + 1 => bk_ov (bk_P pgs P0 t) (sp_fin (pgs t) (bk_P pgs P0 t))
def bk_M (pgs : Nat → Pg) (P0 : Nat → Int64) (t : Nat) : Ms := sp_fin (pgs t) (bk_P pgs P0 t)
def bk_H (pgs : Nat → Pg) (P0 : Nat → Int64) : Nat → Nat
  | 0 => 0
  | t + 1 => bk_H pgs P0 t + (if sp_oc (bk_M pgs P0 t) = 1 then 1 else 0)
/-! ===== the block: done by m workers in any weave ===== -/
abbrev Wk : Type := Nat → Option (Nat × Ms × (Nat → Option Int64))
def ex_I (pgs : Nat → Pg) (P0 : Nat → Int64) (n m : Nat) (P : Nat → Int64) (tk st hl : Nat) (wk : Wk) : Prop :=
  st ≤ tk ∧ tk ≤ n ∧ P = bk_P pgs P0 st ∧ hl = bk_H pgs P0 st ∧
  (∀ w t M sn, w < m → wk w = some (t, M, sn) → st ≤ t ∧ t < tk ∧ wk_fo (pgs t) M sn) ∧
  (∀ t, st ≤ t → t < tk → ∃ w M sn, w < m ∧ wk w = some (t, M, sn)) ∧
  (∀ w w' t M sn M' sn', w < m → w' < m → wk w = some (t, M, sn) → wk w' = some (t, M', sn') → w = w')
section EX
variable {pgs : Nat → Pg} {P0 : Nat → Int64} {n m : Nat} {P : Nat → Int64} {tk st hl : Nat} {wk : Wk}
theorem ex_start (pgs : Nat → Pg) (P0 : Nat → Int64) (n m : Nat) {wk : Wk} (h : ∀ w, w < m → wk w = none) : ex_I pgs P0 n m P0 0 0 0 wk :=
  ⟨Nat.le_refl _, Nat.zero_le _, rfl, rfl, fun w t M sn hw e => (by rw [h w hw] at e; cases e), fun t _ h2 => absurd h2 (Nat.not_lt_zero _), fun w w' t M sn M' sn' hw hw' e => (by rw [h w hw] at e; cases e)⟩
theorem ex_take (I : ex_I pgs P0 n m P tk st hl wk) {w : Nat} (hw : w < m) (hf : wk w = none) (ht : tk < n) : ex_I pgs P0 n m P (tk + 1) st hl (va_up wk w (some (tk, sp_0 (pgs tk).length, fun _ => none))) := by
  obtain ⟨h1, h2, h3, h4, h5, h6, h7⟩ := I
  refine ⟨by omega, by omega, h3, h4, fun v t M sn hv e => ?_, fun t a b => ?_, fun v v' t M sn M' sn' hv hv' e e' => ?_⟩
  · by_cases hvw : v = w
    · subst hvw
      rw [va_up_self] at e
      cases e
      exact ⟨h1, Nat.lt_succ_self _, wk_fo_0 _⟩
    · rw [va_up_ne _ _ hvw] at e
      obtain ⟨a, b, c⟩ := h5 v t M sn hv e
      exact ⟨a, by omega, c⟩
  · by_cases htt : t = tk
    · subst htt
      exact ⟨w, _, _, hw, va_up_self _ _ _⟩
    · obtain ⟨v, M, sn, hv, e⟩ := h6 t a (by omega)
      refine ⟨v, M, sn, hv, ?_⟩
      rw [va_up_ne _ _ (fun q => by subst q; rw [hf] at e; cases e)]
      exact e
  · by_cases hvw : v = w
    · subst hvw
      rw [va_up_self] at e
      cases e
      by_cases hvv : v' = v
      · exact hvv.symm
      · rw [va_up_ne _ _ hvv] at e'
        have := (h5 v' _ _ _ hv' e').2.1
        omega
    · rw [va_up_ne _ _ hvw] at e
      by_cases hvv : v' = w
      · subst hvv
        rw [va_up_self] at e'
        cases e'
        have := (h5 v _ _ _ hv e).2.1
        omega
      · rw [va_up_ne _ _ hvv] at e'
        exact h7 v v' t M sn M' sn' hv hv' e e'
/-- a worker goes on with its own transaction, or starts it anew -/
theorem ex_go (I : ex_I pgs P0 n m P tk st hl wk) {w t : Nat} {M M' : Ms} {sn sn' : Nat → Option Int64} (hw : w < m) (hf : wk w = some (t, M, sn)) (hfo : wk_fo (pgs t) M' sn') : ex_I pgs P0 n m P tk st hl (va_up wk w (some (t, M', sn'))) := by
  obtain ⟨h1, h2, h3, h4, h5, h6, h7⟩ := I
  have key : ∀ v u N s, (va_up wk w (some (t, M', sn'))) v = some (u, N, s) → ∃ N' s', wk v = some (u, N', s') := by
    intro v u N s e
    by_cases hvw : v = w
    · subst hvw
      rw [va_up_self] at e
      cases e
      exact ⟨M, sn, hf⟩
    · rw [va_up_ne _ _ hvw] at e
      exact ⟨N, s, e⟩
  refine ⟨h1, h2, h3, h4, fun v u N s hv e => ?_, fun u a b => ?_, fun v v' u N s N' s' hv hv' e e' => ?_⟩
  · by_cases hvw : v = w
    · subst hvw
      rw [va_up_self] at e
      cases e
      obtain ⟨a, b, -⟩ := h5 v t M sn hv hf
      exact ⟨a, b, hfo⟩
    · rw [va_up_ne _ _ hvw] at e
      exact h5 v u N s hv e
  · obtain ⟨v, N, s, hv, e⟩ := h6 u a b
    by_cases hvw : v = w
    · subst hvw
      rw [hf] at e
      cases e
      exact ⟨v, M', sn', hv, va_up_self _ _ _⟩
    · exact ⟨v, N, s, hv, by rw [va_up_ne _ _ hvw]; exact e⟩
  · obtain ⟨N1, s1, e1⟩ := key v u N s e
    obtain ⟨N2, s2, e2⟩ := key v' u N' s' e'
    exact h7 v v' u _ _ _ _ hv hv' e1 e2
/-- a worker hands in the transaction that is due -/
theorem ex_hand (I : ex_I pgs P0 n m P tk st hl wk) {w : Nat} {M : Ms} {sn : Nat → Option Int64} (hw : w < m) (hf : wk w = some (st, M, sn)) (ho : sp_oc M ≠ 0) (ha : wk_ag sn P) :
    M = bk_M pgs P0 st ∧ ex_I pgs P0 n m (bk_ov P M) tk (st + 1) (hl + (if sp_oc M = 1 then 1 else 0)) (va_up wk w none) := by
  obtain ⟨h1, h2, h3, h4, h5, h6, h7⟩ := I
  obtain ⟨a, b, c⟩ := h5 w st M sn hw hf
  have hM : M = bk_M pgs P0 st := by
    have := wk_fo_fin c ha ho
    rw [h3] at this
    exact this
  refine ⟨hM, by omega, h2, ?_, ?_, fun v t N s hv e => ?_, fun t x y => ?_, fun v v' t N s N' s' hv hv' e e' => ?_⟩
  · rw [hM, h3]; rfl
  · rw [hM, h4]; rfl
  · by_cases hvw : v = w
    · subst hvw
      rw [va_up_self] at e
      cases e
    · rw [va_up_ne _ _ hvw] at e
      obtain ⟨x, y, z⟩ := h5 v t N s hv e
      refine ⟨?_, y, z⟩
      rcases Nat.lt_or_ge st t with q | q
      · exact q
      · have : t = st := by omega
        subst this
        exact absurd (h7 v w t N s M sn hv hw e hf) hvw
  · obtain ⟨v, N, s, hv, e⟩ := h6 t (by omega) y
    refine ⟨v, N, s, hv, ?_⟩
    rw [va_up_ne _ _ (fun q => by subst q; rw [hf] at e; cases e; omega)]
    exact e
  · by_cases hvw : v = w
    · subst hvw; rw [va_up_self] at e; cases e
    · by_cases hvv : v' = w
      · subst hvv; rw [va_up_self] at e'; cases e'
      · rw [va_up_ne _ _ hvw] at e
        rw [va_up_ne _ _ hvv] at e'
        exact h7 v v' t N s N' s' hv hv' e e'
end EX
/-! ===== how long a worker can go on before it hands in ===== -/
def rk_r (M : Ms) : Nat := if sp_oc M = 0 then 302 - sp_dn M else 1
/-- r steps are enough for a worker whose transaction is due -/
def rk_B (P : Nat → Int64) (M : Ms) (sn : Nat → Option Int64) (r : Nat) : Prop := (wk_ag sn P → rk_r M ≤ r) ∧ (¬ wk_ag sn P → rk_r M + 303 ≤ r)
theorem wk_fo_dn {pg : Pg} {M : Ms} {sn : Nat → Option Int64} (h : wk_fo pg M sn) (ho : sp_oc M = 0) : sp_dn M ≤ 300 := by
  obtain ⟨k, hk⟩ := h
  have e := hk (fun p => (sn p).getD 0) (fun p v hv => by simp [hv])
  rw [e] at ho ⊢
  obtain ⟨a, b⟩ := sp_run_dn _ _ k ho
  omega
theorem rk_r_pos {pg : Pg} {M : Ms} {sn : Nat → Option Int64} (h : wk_fo pg M sn) : 1 ≤ rk_r M := by
  unfold rk_r
  split
  · have := wk_fo_dn h (by assumption)
    omega
  · exact Nat.le_refl _
theorem rk_r_le (M : Ms) : rk_r M ≤ 302 := by
  unfold rk_r
  split <;> omega
theorem rk_any (P : Nat → Int64) (M : Ms) (sn : Nat → Option Int64) : rk_B P M sn 605 := ⟨fun _ => by have := rk_r_le M; omega, fun _ => by have := rk_r_le M; omega⟩
theorem rk_0 (P : Nat → Int64) (n : Nat) : rk_B P (sp_0 n) (fun _ => none) 302 := ⟨fun _ => rk_r_le _, fun h => absurd (fun p v hv => by cases hv) h⟩
theorem rk_st {pg : Pg} {P : Nat → Int64} {M : Ms} {sn : Nat → Option Int64} {r : Nat} (hf : wk_fo pg M sn) (ho : sp_oc M = 0) (h : rk_B P M sn (r + 1)) : rk_B P (sp_st pg (wk_ld sn P) M) (wk_sn pg P M sn) r := by
  have hlt : rk_r (sp_st pg (wk_ld sn P) M) + 1 ≤ rk_r M := by
    have hdn := wk_fo_dn hf ho
    have hr : rk_r M = 302 - sp_dn M := by unfold rk_r; rw [if_pos ho]
    by_cases ho2 : sp_oc (sp_st pg (wk_ld sn P) M) = 0
    · have hr2 : rk_r (sp_st pg (wk_ld sn P) M) = 302 - sp_dn (sp_st pg (wk_ld sn P) M) := by unfold rk_r; rw [if_pos ho2]
      have hd2 := wk_fo_dn (wk_fo_st (P := P) hf) ho2
      have hd3 : sp_dn (sp_st pg (wk_ld sn P) M) = sp_dn M + 1 := by
        cases hn : sp_ne M with
        | none => rw [sp_st_none ho hn] at ho2; exact absurd ho2 (by simp [sp_oc])
        | some i =>
          by_cases hd : 300 ≤ sp_dn M
          · rw [sp_st_long ho hn hd] at ho2; exact absurd ho2 (by simp [sp_oc])
          · rw [sp_st_go ho hn hd, sp_ex_dn]
      omega
    · have hr2 : rk_r (sp_st pg (wk_ld sn P) M) = 1 := by unfold rk_r; rw [if_neg ho2]
      omega
  refine ⟨fun ha => ?_, fun ha => ?_⟩
  · by_cases hb : wk_ag sn P
    · have := h.1 hb; omega
    · have := h.2 hb; omega
  · by_cases hb : wk_ag sn P
    · exact absurd (wk_sn_ag hb) ha
    · have := h.2 hb; omega
theorem rk_anew {P : Nat → Int64} {M : Ms} {sn : Nat → Option Int64} {r n : Nat} (ho : sp_oc M ≠ 0) (ha : ¬ wk_ag sn P) (h : rk_B P M sn (r + 1)) : rk_B P (sp_0 n) (fun _ => none) r := by
  have h1 : rk_r M = 1 := by unfold rk_r; rw [if_neg ho]
  have h2 := h.2 ha
  refine ⟨fun _ => ?_, fun h => absurd (fun p v hv => by cases hv) h⟩
  have := rk_r_le (sp_0 n)
  omega
theorem rk_pos {pg : Pg} {P : Nat → Int64} {M : Ms} {sn : Nat → Option Int64} {r : Nat} (hf : wk_fo pg M sn) (h : rk_B P M sn r) : 1 ≤ r := by
  have := rk_r_pos hf
  by_cases hb : wk_ag sn P
  · have := h.1 hb; omega
  · have := h.2 hb; omega
end
section
/-! ===== drafts: numbers for some of the places, in the order in which they came ===== -/
def dm (ps : List Nat) (num : Nat → Int64) : Nat → Option Int64 := fun p => if p ∈ ps then some (num p) else none
def dOK (ps : List Nat) (kp od : Nat → Int32) : Prop := ps.Nodup ∧ (∀ p ∈ ps, p < 256) ∧ (∀ j, j < ps.length → od j = nI (ps.getD j 0)) ∧ ∀ p, p < 256 → kp p = if p ∈ ps then 1 else 0
theorem nd_len : ∀ (n : Nat) (l : List Nat), l.Nodup → (∀ a ∈ l, a < n) → l.length ≤ n := by
  intro n
  induction n with
  | zero =>
    intro l _ h
    cases l with
    | nil => exact Nat.le_refl _
    | cons a l => exact absurd (h a List.mem_cons_self) (Nat.not_lt_zero _)
  | succ n ih =>
    intro l hn h
    by_cases hm : n ∈ l
    · have h1 := ih (l.erase n) (hn.erase n) (fun a ha => by
        have h2 := (List.Nodup.mem_erase_iff hn).mp ha
        have := h a h2.2
        omega)
      rw [List.length_erase_of_mem hm] at h1
      omega
    · have := ih l hn (fun a ha => by
        have := h a ha
        have h3 : a ≠ n := fun q => hm (q ▸ ha)
        omega)
      omega
theorem dOK_le {ps : List Nat} {kp od : Nat → Int32} (h : dOK ps kp od) : ps.length ≤ 256 := nd_len 256 ps h.1 h.2.1
theorem dOK_lt {ps : List Nat} {kp od : Nat → Int32} {p : Nat} (h : dOK ps kp od) (hp : p < 256) (hn : p ∉ ps) : ps.length < 256 := by
  have := nd_len 256 (p :: ps) (List.nodup_cons.mpr ⟨hn, h.1⟩) (fun a ha => by
    rcases List.mem_cons.mp ha with rfl | ha
    · exact hp
    · exact h.2.1 a ha)
  rw [List.length_cons] at this
  omega
theorem dOK_at {ps : List Nat} {kp od : Nat → Int32} (h : dOK ps kp od) {j : Nat} (hj : j < ps.length) : od j = nI (ps.getD j 0) ∧ ps.getD j 0 < 256 ∧ ps.getD j 0 ∈ ps := by
  have hm : ps.getD j 0 ∈ ps := by
    rw [List.getD_eq_getElem?_getD, List.getElem?_eq_getElem hj]
    exact List.getElem_mem hj
  exact ⟨h.2.2.1 j hj, h.2.1 _ hm, hm⟩
theorem dOK_keep {ps : List Nat} {kp od : Nat → Int32} {p : Nat} (h : dOK ps kp od) (hp : p < 256) (hn : p ∉ ps) : dOK (ps ++ [p]) (upd kp p 1) (upd od ps.length (nI p)) := by
  refine ⟨?_, fun q hq => ?_, fun j hj => ?_, fun q hq => ?_⟩
  · rw [List.nodup_append]
    refine ⟨h.1, by simp, fun a ha b hb => ?_⟩
    rw [List.mem_singleton.mp hb]
    exact fun e => hn (e ▸ ha)
  · rcases List.mem_append.mp hq with hq | hq
    · exact h.2.1 q hq
    · rw [List.mem_singleton.mp hq]; exact hp
  · rw [List.length_append, List.length_singleton] at hj
    by_cases hjl : j = ps.length
    · subst hjl
      rw [pk_us]
      simp [List.getD_eq_getElem?_getD]
    · rw [pk_un hjl, h.2.2.1 j (by omega)]
      rw [List.getD_eq_getElem?_getD, List.getD_eq_getElem?_getD, List.getElem?_append_left (by omega)]
  · by_cases hqp : q = p
    · subst hqp
      rw [pk_us]
      simp
    · rw [pk_un hqp, h.2.2.2 q hq]
      simp [hqp]
theorem dm_new {ps : List Nat} {num : Nat → Int64} {p : Nat} {v : Int64} : dm (ps ++ [p]) (vp_updL num p v) = va_up (dm ps num) p (some v) := by
  funext q
  by_cases hq : q = p
  · subst hq
    simp [dm, vp_updL, va_up]
  · simp [dm, vp_updL, va_up, hq]
theorem dm_old {ps : List Nat} {num : Nat → Int64} {p : Nat} {v : Int64} (h : p ∈ ps) : dm ps (vp_updL num p v) = va_up (dm ps num) p (some v) := by
  funext q
  by_cases hq : q = p
  · subst hq
    simp [dm, vp_updL, va_up, h]
  · simp [dm, vp_updL, va_up, hq]
theorem dm_nil (num : Nat → Int64) : dm [] num = fun _ => none := by funext q; simp [dm]
theorem dm_none {ps : List Nat} {num : Nat → Int64} {p : Nat} : dm ps num p = none ↔ p ∉ ps := by
  by_cases h : p ∈ ps <;> simp [dm, h]
/-- what keep makes of the order -/
def dkp (ps : List Nat) (p : Nat) : List Nat := if p ∈ ps then ps else ps ++ [p]
theorem dm_kp (ps : List Nat) (num : Nat → Int64) (p : Nat) (v : Int64) : dm (dkp ps p) (vp_updL num p v) = va_up (dm ps num) p (some v) := by
  unfold dkp
  split
  · exact dm_old (by assumption)
  · exact dm_new
theorem dkp_len (ps : List Nat) (num : Nat → Int64) (p : Nat) : (dkp ps p).length = if dm ps num p = none then ps.length + 1 else ps.length := by
  unfold dkp
  by_cases h : p ∈ ps
  · rw [if_pos h, if_neg (fun q => (dm_none.mp q) h)]
  · rw [if_neg h, if_pos (dm_none.mpr h)]; simp
/-- clearing, i of them done -/
def dCL (ps : List Nat) (i : Nat) (kp : Nat → Int32) : Prop := ∀ p, p < 256 → kp p = if p ∈ ps.drop i then 1 else 0
theorem dCL_0 {ps : List Nat} {kp od : Nat → Int32} (h : dOK ps kp od) : dCL ps 0 kp := fun p hp => by rw [List.drop_zero]; exact h.2.2.2 p hp
theorem dCL_s {ps : List Nat} {i : Nat} {kp : Nat → Int32} (hn : ps.Nodup) (hi : i < ps.length) (h : dCL ps i kp) : dCL ps (i + 1) (upd kp (ps.getD i 0) 0) := by
  intro p hp
  have e : ps.drop i = ps.getD i 0 :: ps.drop (i + 1) := by
    rw [List.drop_eq_getElem_cons hi, List.getD_eq_getElem?_getD, List.getElem?_eq_getElem hi]; rfl
  have hnd : (ps.getD i 0 :: ps.drop (i + 1)).Nodup := by rw [← e]; exact hn.sublist (List.drop_sublist i ps)
  by_cases hq : p = ps.getD i 0
  · subst hq
    rw [pk_us, if_neg (List.nodup_cons.mp hnd).1]
  · rw [pk_un hq, h p hp, e]
    simp only [List.mem_cons, hq, false_or]
theorem dCL_end {ps : List Nat} {kp od : Nat → Int32} (h : dCL ps ps.length kp) : dOK [] kp od := by
  refine ⟨List.nodup_nil, fun p hp => by simp at hp, fun j hj => by simp at hj, fun p hp => ?_⟩
  rw [h p hp, List.drop_length]
/-! registers and places out of long numbers -/
theorem sp_mask (x : Int64) (k : Nat) (hk : k ≤ 8) {m : Int64} (hm : m.toBitVec.toNat = 2 ^ k - 1) : (x &&& m).toInt32 = nI (x.toBitVec.toNat % 2 ^ k) := by
  have hx : x &&& m = lN (x.toBitVec.toNat % 2 ^ k) := by
    apply Int64.toBitVec_inj.mp
    apply BitVec.eq_of_toNat_eq
    have h1 : x.toBitVec.toNat &&& (2 ^ k - 1) = x.toBitVec.toNat % 2 ^ k := Nat.and_two_pow_sub_one_eq_mod _ _
    have h3 : (lN (x.toBitVec.toNat % 2 ^ k)).toBitVec.toNat = (x.toBitVec.toNat % 2 ^ k) % 2 ^ 64 := by
      simp [lN]
    have h2 : (x &&& m).toBitVec.toNat = x.toBitVec.toNat &&& m.toBitVec.toNat := by
      simp [BitVec.toNat_and]
    rw [h2, h3, hm, h1]
    have : x.toBitVec.toNat % 2 ^ k < 2 ^ 64 := Nat.lt_of_le_of_lt (Nat.mod_le _ _) x.toBitVec.isLt
    rw [Nat.mod_eq_of_lt this]
  rw [hx, lN_i]
theorem sp_rg_eq (x : Int64) : (x &&& 7).toInt32 = nI (sp_rg x) := sp_mask x 3 (by decide) (by decide)
theorem sp_pl_eq (x : Int64) : (x &&& 255).toInt32 = nI (sp_pl x) := sp_mask x 8 (by decide) (by decide)
theorem sp_rg_lt (x : Int64) : sp_rg x < 8 := Nat.mod_lt _ (by decide)
theorem sp_pl_lt (x : Int64) : sp_pl x < 256 := Nat.mod_lt _ (by decide)
end
section
/-! ===== small answers ===== -/
theorem lg_i0 : (0 : Int64).toInt = 0 := by decide
theorem lg_i32 : (32 : Int64).toInt = 32 := by decide
theorem has_1 {b : Int64} {n : Nat} (c : lg_cmp b 0 < 0) : (0 : Int32) = if 0 ≤ b.toInt ∧ b.toInt < n then 1 else 0 := by
  have h := Int64.lt_iff_toInt_lt.mp ((lg_cmp_lt b 0).mp c)
  rw [lg_i0] at h
  rw [if_neg (fun q => by omega)]
theorem has_2 {b : Int64} {n : Nat} (hn : n ≤ 32) (c : 0 ≤ lg_cmp b (lN n)) : (0 : Int32) = if 0 ≤ b.toInt ∧ b.toInt < n then 1 else 0 := by
  have h := Int64.le_iff_toInt_le.mp ((lg_cmp_ge b (lN n)).mp c)
  rw [lN_toInt (by omega)] at h
  rw [if_neg (fun q => by omega)]
theorem has_3 {b : Int64} {n : Nat} (hn : n ≤ 32) (c : 0 ≤ lg_cmp b 32) : (0 : Int32) = if 0 ≤ b.toInt ∧ b.toInt < n then 1 else 0 := by
  have h := Int64.le_iff_toInt_le.mp ((lg_cmp_ge b 32).mp c)
  rw [lg_i32] at h
  rw [if_neg (fun q => by omega)]
theorem has_4 {b : Int64} {n : Nat} (hn : n ≤ 32) (c : ¬ lg_cmp b 0 < 0) (c2 : ¬ 0 ≤ lg_cmp b (lN n)) : (1 : Int32) = if 0 ≤ b.toInt ∧ b.toInt < n then 1 else 0 := by
  have h : ¬ b < 0 := fun q => c ((lg_cmp_lt b 0).mpr q)
  have h2 : ¬ lN n ≤ b := fun q => c2 ((lg_cmp_ge b (lN n)).mpr q)
  rw [Int64.lt_iff_toInt_lt, lg_i0] at h
  rw [Int64.le_iff_toInt_le, lN_toInt (by omega)] at h2
  rw [if_pos (by omega)]
def tl_ans (kn oc dn ld sr what : Int32) : Int32 := if what < 0 ∨ 3 < what then -1 else if kn = 0 then -2 else if what = 0 then oc else if what = 1 then dn else if what = 2 then ld else sr
theorem tl_what {w : Int32} (h1 : ¬ w < 0) (h2 : w ≤ 3) : w = 0 ∨ w = 1 ∨ w = 2 ∨ w = 3 := by
  obtain ⟨j, hj, rfl⟩ := nI_of2 (M := 3) (n := 3) (by decide) h1 h2
  have : j = 0 ∨ j = 1 ∨ j = 2 ∨ j = 3 := by omega
  rcases this with rfl | rfl | rfl | rfl
  · exact Or.inl rfl
  · exact Or.inr (Or.inl rfl)
  · exact Or.inr (Or.inr (Or.inl rfl))
  · exact Or.inr (Or.inr (Or.inr rfl))
theorem tl_k0 {kn oc dn ld sr : Int32} (h : ¬ kn = 0) : oc = tl_ans kn oc dn ld sr 0 := by unfold tl_ans; rw [if_neg (by decide), if_neg h, if_pos rfl]
theorem tl_k1 {kn oc dn ld sr : Int32} (h : ¬ kn = 0) : dn = tl_ans kn oc dn ld sr 1 := by unfold tl_ans; rw [if_neg (by decide), if_neg h, if_neg (by decide), if_pos rfl]
theorem tl_k2 {kn oc dn ld sr : Int32} (h : ¬ kn = 0) : ld = tl_ans kn oc dn ld sr 2 := by unfold tl_ans; rw [if_neg (by decide), if_neg h, if_neg (by decide), if_neg (by decide), if_pos rfl]
theorem tl_k3 {kn oc dn ld sr : Int32} (h : ¬ kn = 0) : sr = tl_ans kn oc dn ld sr 3 := by unfold tl_ans; rw [if_neg (by decide), if_neg h, if_neg (by decide), if_neg (by decide), if_neg (by decide)]
theorem fl_s {g : Nat → Int64} {v : Int64} {i : Nat} (h : ∀ j, j < i → g j = v) : ∀ j, j < i + 1 → vp_updL g i v j = v := by
  intro j hj
  by_cases hji : j = i
  · subst hji; rw [pk_uLs]
  · rw [pk_uLn hji]; exact h j (by omega)
end
section
/-! ===== a worker's cells against the machine's state ===== -/
def nxR (n : Nat) (nx : Int32) (a : Option Nat) : Prop := match a with
  | some i => i < n ∧ nx = nI i
  | none => nx = -1 ∨ nx = nI n
def pgR (pg : Pg) (ops fs : Nat → Int32) (ss : Nat → Int64) : Prop := pg.length ≤ 32 ∧ ∀ j, j < pg.length → ops j = nI (sp_in pg j).1 ∧ (sp_in pg j).1 ≤ 10 ∧ fs j = nI (sp_in pg j).2.1 ∧ (sp_in pg j).2.1 < 8 ∧ ss j = (sp_in pg j).2.2
theorem pgR_at {pg : Pg} {ops fs : Nat → Int32} {ss : Nat → Int64} (h : pgR pg ops fs ss) {i : Nat} (hi : i < pg.length) : ∃ op, ops i = nI op ∧ op ≤ 10 ∧ ∃ a, fs i = nI a ∧ a < 8 ∧ sp_in pg i = (op, a, ss i) := by
  obtain ⟨h1, h2, h3, h4, h5⟩ := h.2 i hi
  exact ⟨_, h1, h2, _, h3, h4, by rw [h5]⟩
/-- what the worker has seen behind an instruction -/
def snE (op : Nat) (b : Int64) (rg : Nat → Int64) (wr sn : Nat → Option Int64) (P : Nat → Int64) : Nat → Option Int64 := if op = 2 then (if wr (sp_pl (rg (sp_rg b))) = none then va_up sn (sp_pl (rg (sp_rg b))) (some (wk_ld sn P (sp_pl (rg (sp_rg b))))) else sn) else sn
theorem snE_2 (b : Int64) (rg : Nat → Int64) (wr sn : Nat → Option Int64) (P : Nat → Int64) : snE 2 b rg wr sn P = if wr (sp_pl (rg (sp_rg b))) = none then va_up sn (sp_pl (rg (sp_rg b))) (some (wk_ld sn P (sp_pl (rg (sp_rg b))))) else sn := rfl
theorem nxR_nx {n i : Nat} (h : i < n) : nxR n (nI (i + 1)) (sp_nx n (i + 1)) := by
  unfold sp_nx
  split
  · exact ⟨by assumption, rfl⟩
  · have : i + 1 = n := by omega
    exact Or.inr (by rw [this])
theorem ld_same {sn : Nat → Option Int64} {P : Nat → Int64} {p : Nat} {v : Int64} (h : sn p = some v) : va_up sn p (some (wk_ld sn P p)) = sn := by
  funext q
  by_cases hq : q = p
  · subst hq
    rw [va_up_self, h, wk_ld, h]; rfl
  · rw [va_up_ne _ _ hq]
theorem jp_no {b : Int64} {n : Nat} {r : Int32} (h : r = if 0 ≤ b.toInt ∧ b.toInt < n then 1 else 0) (c : r = 0) : sp_jp n b = none := by
  unfold sp_jp
  split
  · rename_i q
    rw [if_pos q] at h
    rw [h] at c
    exact absurd c (by decide)
  · rfl
theorem jp_yes {b : Int64} {n : Nat} {r : Int32} (h : r = if 0 ≤ b.toInt ∧ b.toInt < n then 1 else 0) (c : ¬ r = 0) : 0 ≤ b.toInt ∧ b.toInt < n := by
  by_cases q : 0 ≤ b.toInt ∧ b.toInt < n
  · exact q
  · rw [if_neg q] at h
    exact absurd h c
theorem jp_some {b : Int64} {n : Nat} (h : 0 ≤ b.toInt ∧ b.toInt < n) : sp_jp n b = some b.toInt.toNat := by unfold sp_jp; rw [if_pos h]
theorem jp_nx {b : Int64} {n : Nat} (hn : n ≤ 32) (h : 0 ≤ b.toInt ∧ b.toInt < n) : nxR n b.toInt32 (some b.toInt.toNat) := by
  refine ⟨by omega, ?_⟩
  have e : b = lN b.toInt.toNat := by
    apply Int64.toInt_inj.mp
    rw [lN_toInt (by omega)]
    omega
  rw [← lN_i, ← e]
theorem pf_7z {n a i d L ct : Nat} {b : Int64} {rg ld : Nat → Int64} {wr : Nat → Option Int64} {x : Option Nat} (h : rg a = 0) : sp_ex n 7 a b i ld (rg, wr, ct, x, d, L, 0) = (rg, wr, ct, sp_nx n (i + 1), d + 1, L, 0) := by simp [sp_ex, h]
theorem pf_7n {n a i d L ct : Nat} {b : Int64} {rg ld : Nat → Int64} {wr : Nat → Option Int64} {x y : Option Nat} (h : ¬ rg a = 0) (hj : sp_jp n b = y) : sp_ex n 7 a b i ld (rg, wr, ct, x, d, L, 0) = (rg, wr, ct, y, d + 1, L, 0) := by simp [sp_ex, h, hj]
theorem pf_8y {n a i d L ct : Nat} {b : Int64} {rg ld : Nat → Int64} {wr : Nat → Option Int64} {x : Option Nat} (h : rg a < rg (sp_rg b)) : sp_ex n 8 a b i ld (rg, wr, ct, x, d, L, 0) = (vp_updL rg a 1, wr, ct, sp_nx n (i + 1), d + 1, L, 0) := by simp [sp_ex, h]
theorem pf_8n {n a i d L ct : Nat} {b : Int64} {rg ld : Nat → Int64} {wr : Nat → Option Int64} {x : Option Nat} (h : ¬ rg a < rg (sp_rg b)) : sp_ex n 8 a b i ld (rg, wr, ct, x, d, L, 0) = (vp_updL rg a 0, wr, ct, sp_nx n (i + 1), d + 1, L, 0) := by simp [sp_ex, h]
end
section
/-! ===== the next instruction, what was seen, what is stored: numbers against cells ===== -/
theorem i32_l (x : Int32) : x.toInt64.toInt = x.toInt := by simp
theorem nxR_yes {n : Nat} {nx : Int32} {na : Option Nat} {r : Int32} (hn : n ≤ 32) (h : nxR n nx na) (hr : r = if 0 ≤ nx.toInt64.toInt ∧ nx.toInt64.toInt < n then 1 else 0) (c : ¬ r = 0) : ∃ i, na = some i ∧ i < n ∧ nx = nI i := by
  have hy := jp_yes hr c
  rw [i32_l] at hy
  cases na with
  | some i => exact ⟨i, rfl, h.1, h.2⟩
  | none =>
    rcases h with h | h
    · rw [h] at hy
      exact absurd hy.1 (by decide)
    · rw [h, nI_toInt (by omega)] at hy
      omega
theorem nxR_no {n : Nat} {nx : Int32} {na : Option Nat} {r : Int32} (hn : n ≤ 32) (h : nxR n nx na) (hr : r = if 0 ≤ nx.toInt64.toInt ∧ nx.toInt64.toInt < n then 1 else 0) (c : r = 0) : na = none := by
  cases na with
  | none => rfl
  | some i =>
    obtain ⟨h1, h2⟩ := h
    rw [h2, i32_l, nI_toInt (by omega), if_pos (by omega)] at hr
    rw [hr] at c
    exact absurd c (by decide)
theorem wk_sn_none {pg : Pg} {P : Nat → Int64} {M : Ms} {sn : Nat → Option Int64} (h : sp_ne M = none) : wk_sn pg P M sn = sn := by
  have : wk_at pg M = none := by
    unfold wk_at
    split
    · rw [h]
    · rfl
  unfold wk_sn
  rw [this]
theorem wk_sn_long {pg : Pg} {P : Nat → Int64} {M : Ms} {sn : Nat → Option Int64} {i : Nat} (hn : sp_ne M = some i) (h : 300 ≤ sp_dn M) : wk_sn pg P M sn = sn := by
  have : wk_at pg M = none := by
    unfold wk_at
    split
    · rw [hn]
      try (dsimp only; rw [if_pos h])
    · rfl
  unfold wk_sn
  rw [this]
theorem wk_sn_go {pg : Pg} {P : Nat → Int64} {rg : Nat → Int64} {wr sn : Nat → Option Int64} {ct i d L : Nat} (h : ¬ 300 ≤ d) : wk_sn pg P (rg, wr, ct, some i, d, L, 0) sn = snE (sp_in pg i).1 (sp_in pg i).2.2 rg wr sn P := by
  have e : wk_at pg (rg, wr, ct, some i, d, L, 0) = if (sp_in pg i).1 = 2 then (if wr (sp_pl (rg (sp_rg (sp_in pg i).2.2))) = none then some (sp_pl (rg (sp_rg (sp_in pg i).2.2))) else none) else none := by
    unfold wk_at
    rw [if_pos (show sp_oc (rg, wr, ct, some i, d, L, 0) = 0 from rfl)]
    show (if 300 ≤ d then none else _) = _
    rw [if_neg h]
  unfold wk_sn snE
  rw [e]
  by_cases h2 : (sp_in pg i).1 = 2
  · rw [if_pos h2, if_pos h2]
    by_cases hw : wr (sp_pl (rg (sp_rg (sp_in pg i).2.2))) = none
    · rw [if_pos hw, if_pos hw]
    · rw [if_neg hw, if_neg hw]
  · rw [if_neg h2, if_neg h2]
theorem ag_all {ps : List Nat} {num P : Nat → Int64} (h : ∀ j, j < ps.length → num (ps.getD j 0) = P (ps.getD j 0)) : wk_ag (dm ps num) P := by
  intro p v hv
  by_cases hp : p ∈ ps
  · rw [dm, if_pos hp] at hv
    obtain ⟨j, hj, e⟩ := List.getElem_of_mem hp
    have := h j hj
    rw [List.getD_eq_getElem?_getD, List.getElem?_eq_getElem hj] at this
    simp only [Option.getD_some, e] at this
    rw [← this]
    exact Option.some.inj hv
  · rw [dm, if_neg hp] at hv
    cases hv
theorem ag_not {ps : List Nat} {num P : Nat → Int64} {j : Nat} (hj : j < ps.length) (h : ¬ num (ps.getD j 0) = P (ps.getD j 0)) : ¬ wk_ag (dm ps num) P := by
  intro q
  have hm : ps.getD j 0 ∈ ps := by
    rw [List.getD_eq_getElem?_getD, List.getElem?_eq_getElem hj]
    exact List.getElem_mem hj
  exact h (q (ps.getD j 0) (num (ps.getD j 0)) (if_pos hm)).symm
/-- what storing makes of the places, i of them done -/
def ov_i (ps : List Nat) (num P : Nat → Int64) (i : Nat) : Nat → Int64 := fun p => if p ∈ ps.take i then num p else P p
theorem ov_0 (ps : List Nat) (num P : Nat → Int64) : ov_i ps num P 0 = P := by funext p; simp [ov_i]
theorem ov_s {ps : List Nat} {num P : Nat → Int64} {i : Nat} (hi : i < ps.length) : vp_updL (ov_i ps num P i) (ps.getD i 0) (num (ps.getD i 0)) = ov_i ps num P (i + 1) := by
  funext p
  have e : ps.take (i + 1) = ps.take i ++ [ps.getD i 0] := by
    rw [List.take_succ, List.getD_eq_getElem?_getD, List.getElem?_eq_getElem hi]; rfl
  by_cases hp : p = ps.getD i 0
  · subst hp
    rw [pk_uLs, ov_i, e, if_pos (by simp)]
  · rw [pk_uLn hp, ov_i, ov_i, e]
    simp only [List.mem_append, List.mem_singleton, hp, or_false]
theorem ov_end (ps : List Nat) (num P : Nat → Int64) : ov_i ps num P ps.length = fun p => (dm ps num p).getD (P p) := by
  funext p
  by_cases hp : p ∈ ps <;> simp [ov_i, dm, hp]
theorem st_none9 {pg : Pg} {ld rg : Nat → Int64} {wr : Nat → Option Int64} {ct d L : Nat} : sp_st pg ld (rg, wr, ct, none, d, L, 0) = (rg, wr, ct, none, d, L, 1) := sp_st_none rfl rfl
theorem st_long9 {pg : Pg} {ld rg : Nat → Int64} {wr : Nat → Option Int64} {ct i d L : Nat} (h : 300 ≤ d) : sp_st pg ld (rg, wr, ct, some i, d, L, 0) = (rg, wr, ct, some i, d, L, 3) := sp_st_long (M := (rg, wr, ct, some i, d, L, 0)) rfl rfl h
theorem st_go9 {pg : Pg} {ld rg : Nat → Int64} {wr : Nat → Option Int64} {ct i d L : Nat} (h : ¬ 300 ≤ d) : sp_st pg ld (rg, wr, ct, some i, d, L, 0) = sp_ex pg.length (sp_in pg i).1 (sp_in pg i).2.1 (sp_in pg i).2.2 i ld (rg, wr, ct, some i, d, L, 0) := sp_st_go (M := (rg, wr, ct, some i, d, L, 0)) rfl rfl h
theorem sn_none9 {pg : Pg} {P rg : Nat → Int64} {wr sn : Nat → Option Int64} {ct d L : Nat} : wk_sn pg P (rg, wr, ct, none, d, L, 0) sn = sn := wk_sn_none rfl
theorem sn_long9 {pg : Pg} {P rg : Nat → Int64} {wr sn : Nat → Option Int64} {ct i d L : Nat} (h : 300 ≤ d) : wk_sn pg P (rg, wr, ct, some i, d, L, 0) sn = sn := wk_sn_long (M := (rg, wr, ct, some i, d, L, 0)) rfl h
end
section
set_option maxHeartbeats 4000000 in
set_option maxRecDepth 100000 in
theorem c_isPlace (l : Launch) (x : Int32)  : Met l y_Vb_isPlace w_Vb_isPlace ({ frames := 0, cells := 0, slots := 0, locals := 0 }) (pE [.int x]) (vp_Si (fun r => r = (if 0 ≤ x.toInt ∧ x.toInt < 256 then 1 else 0))) 0 0 (fun _ => False) := by
  refine Met.ofW (cc := b_Vb_isPlace) (maxL := 1) (ret := (some .boolean)) (by decide) rfl ?_
  intro pP eE sS mM args below meth cC s1 B hml hv
  obtain ⟨rfl, hN⟩ := hv
  have hx := B.exec
  have hb := B.bytes
  have hr := B.returns
  have hts := atoms_spec (ws := w_Vb_isPlace) B.pre
  have hown : sS.vm.findClass "VersionedBlock" = some mM.cls := findClass_of_methodNamed B.named
  have hlocks := B.notSynchronized
  have hl := lv_entry ([.int x]) (n := 1) (Nat.le_of_ble_eq_true rfl)
  rw [lg_entry_eq]
  generalize (lg_sl ([.int x]) ++ List.replicate (1 - (lg_sl ([.int x])).length) Slot.unset).toArray = ls at hl ⊢
  have hl : lv_has ls 1 [(0, .int x)] := hl
  refine lv_iload_n hx hb d_Vb_isPlace_0 rfl (lv_at hl 0 rfl) ?_
  refine lv_if_lt (tgt := 15) hx hb d_Vb_isPlace_1 (by decide) (fun c_1 => ?_) (fun c_1 => ?_)
  · refine lv_iconst (v := 0) hx hb d_Vb_isPlace_15 (by decide) ?_
    exact W.zret (v := 0) hx hb hr rfl (fun t9 ht hW => ⟨0, rfl, (by rw [if_neg]; intro q; have := Int32.lt_iff_toInt_lt.mp c_1; simp at this; omega), ht⟩) (fun _ h => by cases h) d_Vb_isPlace_16
  · refine lv_iload_n hx hb d_Vb_isPlace_4 rfl (lv_at hl 0 rfl) ?_
    refine lv_sipush (v := 256) hx hb d_Vb_isPlace_5 (by decide) ?_
    refine lv_icmp_ge (tgt := 15) hx hb d_Vb_isPlace_8 (by decide) (fun c_8 => ?_) (fun c_8 => ?_)
    · refine lv_iconst (v := 0) hx hb d_Vb_isPlace_15 (by decide) ?_
      exact W.zret (v := 0) hx hb hr rfl (fun t9 ht hW => ⟨0, rfl, (by rw [if_neg]; intro q; have := Int32.le_iff_toInt_le.mp c_8; simp at this; omega), ht⟩) (fun _ h => by cases h) d_Vb_isPlace_16
    · refine lv_iconst (v := 1) hx hb d_Vb_isPlace_11 (by decide) ?_
      refine lv_goto (tgt := 16) hx hb d_Vb_isPlace_12 (by decide) ?_
      exact W.zret (v := 1) hx hb hr rfl (fun t9 ht hW => ⟨1, rfl, (by rw [if_pos]; have h1 := Int32.not_lt.mp c_1; have h2 := Int32.not_le.mp c_8; have := Int32.le_iff_toInt_le.mp h1; have := Int32.lt_iff_toInt_lt.mp h2; simp at *; omega), ht⟩) (fun _ h => by cases h) d_Vb_isPlace_16
set_option maxHeartbeats 4000000 in
set_option maxRecDepth 100000 in
theorem c_placeOf (l : Launch) (x : Int64)  : Met l y_Vb_placeOf w_Vb_placeOf ({ frames := 0, cells := 0, slots := 0, locals := 0 }) (pE [.long x]) (vp_Si (fun r => r = (nI (sp_pl x)))) 0 0 (fun _ => False) := by
  refine Met.ofW (cc := b_Vb_placeOf) (maxL := 2) (ret := (some .int)) (by decide) rfl ?_
  intro pP eE sS mM args below meth cC s1 B hml hv
  obtain ⟨rfl, hN⟩ := hv
  have hx := B.exec
  have hb := B.bytes
  have hr := B.returns
  have hts := atoms_spec (ws := w_Vb_placeOf) B.pre
  have hown : sS.vm.findClass "VersionedBlock" = some mM.cls := findClass_of_methodNamed B.named
  have hlocks := B.notSynchronized
  have hl := lv_entry ([.long x]) (n := 2) (Nat.le_of_ble_eq_true rfl)
  rw [lg_entry_eq]
  generalize (lg_sl ([.long x]) ++ List.replicate (2 - (lg_sl ([.long x])).length) Slot.unset).toArray = ls at hl ⊢
  have hl : lv_has ls 2 [(0, .long x)] := hl
  refine lv_lload_n hx hb d_Vb_placeOf_0 rfl (lv_at hl 0 rfl) ?_
  refine lv_ldc2 (own := "VersionedBlock") (index := 100) (v := 255) hx hb hown (hts _ (List.mem_cons_of_mem _ mw_2_63)) d_Vb_placeOf_1 ?_
  refine lv_land hx hb d_Vb_placeOf_4 ?_
  refine lv_l2i (v := nI (sp_pl x)) hx hb d_Vb_placeOf_5 (sp_pl_eq x) ?_
  exact W.iret (v := (nI (sp_pl x))) hx hb hr (fun t9 ht hW => ⟨(nI (sp_pl x)), rfl, rfl, ht⟩) (fun _ h => by cases h) d_Vb_placeOf_6
set_option maxHeartbeats 4000000 in
set_option maxRecDepth 100000 in
theorem c_registerOf (l : Launch) (x : Int64)  : Met l y_Vb_registerOf w_Vb_registerOf ({ frames := 0, cells := 0, slots := 0, locals := 0 }) (pE [.long x]) (vp_Si (fun r => r = (nI (sp_rg x)))) 0 0 (fun _ => False) := by
  refine Met.ofW (cc := b_Vb_registerOf) (maxL := 2) (ret := (some .int)) (by decide) rfl ?_
  intro pP eE sS mM args below meth cC s1 B hml hv
  obtain ⟨rfl, hN⟩ := hv
  have hx := B.exec
  have hb := B.bytes
  have hr := B.returns
  have hts := atoms_spec (ws := w_Vb_registerOf) B.pre
  have hown : sS.vm.findClass "VersionedBlock" = some mM.cls := findClass_of_methodNamed B.named
  have hlocks := B.notSynchronized
  have hl := lv_entry ([.long x]) (n := 2) (Nat.le_of_ble_eq_true rfl)
  rw [lg_entry_eq]
  generalize (lg_sl ([.long x]) ++ List.replicate (2 - (lg_sl ([.long x])).length) Slot.unset).toArray = ls at hl ⊢
  have hl : lv_has ls 2 [(0, .long x)] := hl
  refine lv_lload_n hx hb d_Vb_registerOf_0 rfl (lv_at hl 0 rfl) ?_
  refine lv_ldc2 (own := "VersionedBlock") (index := 102) (v := 7) hx hb hown (hts _ (List.mem_cons_of_mem _ mw_1_142)) d_Vb_registerOf_1 ?_
  refine lv_land hx hb d_Vb_registerOf_4 ?_
  refine lv_l2i (v := nI (sp_rg x)) hx hb d_Vb_registerOf_5 (sp_rg_eq x) ?_
  exact W.iret (v := (nI (sp_rg x))) hx hb hr (fun t9 ht hW => ⟨(nI (sp_rg x)), rfl, rfl, ht⟩) (fun _ h => by cases h) d_Vb_registerOf_6
set_option maxHeartbeats 4000000 in
set_option maxRecDepth 100000 in
theorem c_fill8 (l : Launch) (D : va_G) (ka : Nat → ClassId) (sz : Nat) (a : Nat) (f : Nat → Int64) (v : Int64)  : Met l y_Ar_fill w_Ar_fill ({ frames := 0, cells := 0, slots := 0, locals := 0 }) (pW classes (tyS ka) D [.ref a, .long v] ([(a, .inl ((ka 0), 8, .inr (.inl f)))]) sz) (va_Qv (fun _ : Unit => True) (fun (_ : Unit) t9 => (True) ∧ va_P D classes ([(a, .inl ((ka 0), 8, .inr (.inl (fun _ => v))))]) t9.heap ∧ va_D (va_A ([(a, .inl ((ka 0), 8, .inr (.inl f)))]) sz) ([(a, .inl ((ka 0), 8, .inr (.inl (fun _ => v))))])) (va_A ([(a, .inl ((ka 0), 8, .inr (.inl f)))]) sz)) 0 0 (va_A ([(a, .inl ((ka 0), 8, .inr (.inl f)))]) sz) := by
  refine Met.ofW (cc := b_Ar_fill) (maxL := 5) (ret := none) (by decide) rfl ?_
  intro pP eE sS mM args below meth cC s1 B hml hv
  obtain ⟨rfl, hsz, hP, hK, hN, hD0⟩ := hv
  have hx := B.exec
  have hb := B.bytes
  have hr := B.returns
  have hts := atoms_spec (ws := w_Ar_fill) B.pre
  have hown : sS.vm.findClass "java/util/Arrays" = some mM.cls := findClass_of_methodNamed B.named
  have hlocks := B.notSynchronized
  subst hsz
  have hD := hD0.self (sz := sS.heap.size)
  generalize hAe : va_A ([(a, .inl ((ka 0), 8, .inr (.inl f)))]) sS.heap.size = A at hD ⊢
  have hA : ∀ q : Nat, sS.heap.size ≤ q → A q := fun q h => by rw [← hAe]; exact Or.inr h
  have hS : va_S A sS.heap sS.heap [] := va_S.rf
  have hl := lv_entry ([.ref a, .long v]) (n := 5) (Nat.le_of_ble_eq_true rfl)
  rw [lg_entry_eq]
  generalize (lg_sl ([.ref a, .long v]) ++ List.replicate (5 - (lg_sl ([.ref a, .long v])).length) Slot.unset).toArray = ls at hl ⊢
  have hl : lv_has ls 5 [(0, .ref a), (1, .long v)] := hl
  refine lv_iconst (v := (nI 0)) hx hb d_Ar_fill_0 (by decide) ?_
  refine lv_istore_n (lv' := [(3, .int (nI 0)), (0, .ref a), (1, .long v)]) hx hb d_Ar_fill_1 rfl hl (by decide) rfl (fun ls hl => ?_)
  refine lv_aload_n hx hb d_Ar_fill_2 rfl (lv_at hl 1 rfl) ?_
  refine va_alen (v := nI 8) hx hb hK hP 0 0 rfl rfl rfl d_Ar_fill_3 ?_
  refine lv_istore (lv' := [(4, .int (nI 8)), (3, .int (nI 0)), (0, .ref a), (1, .long v)]) hx hb d_Ar_fill_4 hl (by decide) rfl (fun ls hl => ?_)
  have loop_6 : ∀ (fuel : Nat) (i : Nat) (g : Nat → Int64), (i ≤ 8) → (∀ j, j < i → g j = v) → (8 - i) < fuel → ∀ (H : Heap) (locs : List Loc), va_P D classes ([(a, .inl ((ka 0), 8, .inr (.inl g)))]) H → va_D A ([(a, .inl ((ka 0), 8, .inr (.inl g)))]) → va_S A sS.heap H locs → ∀ (ls : Array Slot), lv_has ls 5 [(3, .int (nI i)), (4, .int (nI 8)), (0, .ref a), (1, .long v)] → W pP l eE (headSpec w_Ar_fill ({ frames := 0, cells := 0, slots := 0, locals := 0 })).room sS mM ([.ref a, .long v] : List Value).toArray below meth cC H locs 0 0 (MQ below (va_Qv (fun _ : Unit => True) (fun (_ : Unit) t9 => (True) ∧ va_P D classes ([(a, .inl ((ka 0), 8, .inr (.inl (fun _ => v))))]) t9.heap ∧ va_D A ([(a, .inl ((ka 0), 8, .inr (.inl (fun _ => v))))])) A) ([.ref a, .long v] : List Value).toArray sS 0 0 A) (F0 mM 6 ls []) := by
    intro fuel
    induction fuel with
    | zero => intro i g hi hg hfu; exact absurd hfu (Nat.not_lt_zero _)
    | succ fuel ih =>
      intro i g hi hg hfu H locs hP hD hS ls hl
      refine lv_iload_n hx hb d_Ar_fill_6 rfl (lv_at hl 0 rfl) ?_
      refine lv_iload hx hb d_Ar_fill_7 (lv_at hl 1 rfl) ?_
      refine lv_icmp_ge (tgt := 22) hx hb d_Ar_fill_9 (by decide) (fun c_9 => ?_) (fun c_9 => ?_)
      · have hie : i = 8 := by
          have := (nI_leI (by decide) (by omega)).mp c_9
          omega
        subst hie
        have hP := my_congL hP 0 rfl (g := fun _ => v) hg
        have hD : va_D A [(a, .inl ((ka 0), 8, .inr (.inl (fun _ => v))))] := hD.set (p := 0) rfl
        have hP9 := hP.sub (ws' := [(a, .inl ((ka 0), 8, .inr (.inl (fun _ => v))))]) [0] rfl
        have hD9 := hD.sub (ws' := [(a, .inl ((ka 0), 8, .inr (.inl (fun _ => v))))]) [0] (by decide) rfl
        exact W.vret hx hb hr (fun t9 ht hW => ⟨⟨(), rfl, trivial, trivial, by rw [ht]; exact hP9, hD9⟩, hS.F ht⟩) hS.2.2 d_Ar_fill_22
      · have hlt : i < 8 := by
          rcases Nat.lt_or_ge i 8 with q | q
          · exact q
          · exact absurd (nI_le q (by omega)) c_9
        refine lv_aload_n hx hb d_Ar_fill_12 rfl (lv_at hl 2 rfl) ?_
        refine lv_iload_n hx hb d_Ar_fill_13 rfl (lv_at hl 0 rfl) ?_
        refine lv_lload_n hx hb d_Ar_fill_14 rfl (lv_at hl 3 rfl) ?_
        refine my_last hx hb hK hP hD hS 0 0 rfl rfl (k := i) hlt (Nat.le_of_ble_eq_true rfl) d_Ar_fill_15 (fun H locs hP hD hS => ?_)
        have hP : va_P D classes ([(a, .inl ((ka 0), 8, .inr (.inl (vp_updL g i v))))]) H := hP
        have hD : va_D A ([(a, .inl ((ka 0), 8, .inr (.inl (vp_updL g i v))))]) := hD
        refine lv_iinc (v := nI (i + 1)) (lv' := [(3, .int (nI (i + 1))), (4, .int (nI 8)), (0, .ref a), (1, .long v)]) hx hb d_Ar_fill_16 hl (k := 0) rfl (nI_1 i) (by decide) rfl (fun ls hl => ?_)
        refine lv_goto (tgt := 6) hx hb d_Ar_fill_19 (by decide) ?_
        exact ih (i + 1) (vp_updL g i v) (by omega) (fl_s hg) (by omega) _ _ hP hD hS ls (lv_sub hl [0, 1, 2, 3] rfl)
  exact loop_6 (8 - 0 + 1) 0 f (by decide) (fun j h => absurd h (Nat.not_lt_zero _)) (Nat.lt_succ_self _) _ _ hP hD hS ls (lv_sub hl [1, 0, 2, 3] rfl)
end
section
set_option maxHeartbeats 4000000 in
set_option maxRecDepth 100000 in
theorem c_Draft_size (l : Launch) (D : va_G) (ka : Nat → ClassId) (d n k o : Nat) (ln : Int32)  : Met l y_Dr_size w_Dr_size ({ frames := 0, cells := 0, slots := 0, locals := 0 }) (pR classes (tyS ka) D [.ref d] ([(d, .inr (0, [.ref n, .ref k, .ref o, .int ln]))])) (vp_Si (fun r => r = ln)) 0 0 (fun _ => False) := by
  refine Met.ofW (cc := b_Dr_size) (maxL := 1) (ret := (some .int)) (by decide) rfl ?_
  intro pP eE sS mM args below meth cC s1 B hml hv
  obtain ⟨rfl, hP, hK, hN⟩ := hv
  have hx := B.exec
  have hb := B.bytes
  have hr := B.returns
  have hts := atoms_spec (ws := w_Dr_size) B.pre
  have hown : sS.vm.findClass "VersionedBlock$Draft" = some mM.cls := findClass_of_methodNamed B.named
  have hlocks := B.notSynchronized
  have hl := lv_entry ([.ref d]) (n := 1) (Nat.le_of_ble_eq_true rfl)
  rw [lg_entry_eq]
  generalize (lg_sl ([.ref d]) ++ List.replicate (1 - (lg_sl ([.ref d])).length) Slot.unset).toArray = ls at hl ⊢
  have hl : lv_has ls 1 [(0, .ref d)] := hl
  refine lv_aload_n hx hb d_Dr_size_0 rfl (lv_at hl 0 rfl) ?_
  refine va_get (D := D) (ci := 0) (v := .int ln) (C := "VersionedBlock$Draft") (T := T_Dr) (N := 4) hx hb hts (fun w h => List.mem_cons_of_mem _ (il_Dr w h)) hown hK hP 0 rfl rfl 3 (by decide) (hts _ (List.mem_cons_of_mem _ mw_1_215)) (fun _ h9 => h9) rfl d_Dr_size_1 ?_
  exact W.iret (v := ln) hx hb hr (fun t9 ht hW => ⟨ln, rfl, rfl, ht⟩) (fun _ h => by cases h) d_Dr_size_4
set_option maxHeartbeats 4000000 in
set_option maxRecDepth 100000 in
theorem c_Draft_placeAt (l : Launch) (D : va_G) (ka : Nat → ClassId) (d n k o : Nat) (od : Nat → Int32) (L j : Nat) (hj : j < L) (hL : L ≤ 256) : Met l y_Dr_placeAt w_Dr_placeAt ({ frames := 0, cells := 0, slots := 0, locals := 0 }) (pR classes (tyS ka) D [.ref d, .int (nI j)] ([(d, .inr (0, [.ref n, .ref k, .ref o, .int (nI L)])), (o, .inl ((ka 1), 256, .inl od))])) (vp_Si (fun r => r = (od j))) 0 0 (fun _ => False) := by
  refine Met.ofW (cc := b_Dr_placeAt) (maxL := 2) (ret := (some .int)) (by decide) rfl ?_
  intro pP eE sS mM args below meth cC s1 B hml hv
  obtain ⟨rfl, hP, hK, hN⟩ := hv
  have hx := B.exec
  have hb := B.bytes
  have hr := B.returns
  have hts := atoms_spec (ws := w_Dr_placeAt) B.pre
  have hown : sS.vm.findClass "VersionedBlock$Draft" = some mM.cls := findClass_of_methodNamed B.named
  have hlocks := B.notSynchronized
  have hl := lv_entry ([.ref d, .int (nI j)]) (n := 2) (Nat.le_of_ble_eq_true rfl)
  rw [lg_entry_eq]
  generalize (lg_sl ([.ref d, .int (nI j)]) ++ List.replicate (2 - (lg_sl ([.ref d, .int (nI j)])).length) Slot.unset).toArray = ls at hl ⊢
  have hl : lv_has ls 2 [(0, .ref d), (1, .int (nI j))] := hl
  refine lv_iload_n hx hb d_Dr_placeAt_0 rfl (lv_at hl 1 rfl) ?_
  refine lv_if_lt (tgt := 21) hx hb d_Dr_placeAt_1 (by decide) (fun c_1 => absurd c_1 (nI_pos (by omega))) (fun c_1 => ?_)
  refine lv_iload_n hx hb d_Dr_placeAt_4 rfl (lv_at hl 1 rfl) ?_
  refine lv_aload_n hx hb d_Dr_placeAt_5 rfl (lv_at hl 0 rfl) ?_
  refine va_get (D := D) (ci := 0) (v := .int (nI L)) (C := "VersionedBlock$Draft") (T := T_Dr) (N := 4) hx hb hts (fun w h => List.mem_cons_of_mem _ (il_Dr w h)) hown hK hP 0 rfl rfl 3 (by decide) (hts _ (List.mem_cons_of_mem _ mw_1_215)) (fun _ h9 => h9) rfl d_Dr_placeAt_6 ?_
  refine lv_icmp_ge (tgt := 21) hx hb d_Dr_placeAt_9 (by decide) (fun c_9 => absurd c_9 (nI_ge hj (by omega))) (fun c_9 => ?_)
  refine lv_aload_n hx hb d_Dr_placeAt_12 rfl (lv_at hl 0 rfl) ?_
  refine va_get (D := D) (ci := 0) (v := .ref o) (C := "VersionedBlock$Draft") (T := T_Dr) (N := 4) hx hb hts (fun w h => List.mem_cons_of_mem _ (il_Dr w h)) hown hK hP 0 rfl rfl 2 (by decide) (hts _ (List.mem_cons_of_mem _ mw_1_214)) (fun _ h9 => h9) rfl d_Dr_placeAt_13 ?_
  refine lv_iload_n hx hb d_Dr_placeAt_16 rfl (lv_at hl 1 rfl) ?_
  refine my_iald hx hb hK hP 1 1 rfl rfl (k := j) (by omega) (Nat.le_of_ble_eq_true rfl) d_Dr_placeAt_17 ?_
  refine lv_goto (tgt := 22) hx hb d_Dr_placeAt_18 (by decide) ?_
  exact W.iret (v := (od j)) hx hb hr (fun t9 ht hW => ⟨(od j), rfl, rfl, ht⟩) (fun _ h => by cases h) d_Dr_placeAt_22
set_option maxHeartbeats 4000000 in
set_option maxRecDepth 100000 in
theorem c_Draft_has (l : Launch) (D : va_G) (ka : Nat → ClassId) (d n k o : Nat) (ln : Int32) (kp : Nat → Int32) (p : Nat) (hp : p < 256) (hz : kp p = 0 ∨ kp p = 1) : Met l y_Dr_has w_Dr_has ({ frames := 0, cells := 0, slots := 0, locals := 0 }) (pR classes (tyS ka) D [.ref d, .int (nI p)] ([(d, .inr (0, [.ref n, .ref k, .ref o, .int ln])), (k, .inl ((ka 2), 256, .inl kp))])) (vp_Si (fun r => r = (kp p))) 0 0 (fun _ => False) := by
  refine Met.ofW (cc := b_Dr_has) (maxL := 2) (ret := (some .boolean)) (by decide) rfl ?_
  intro pP eE sS mM args below meth cC s1 B hml hv
  obtain ⟨rfl, hP, hK, hN⟩ := hv
  have hx := B.exec
  have hb := B.bytes
  have hr := B.returns
  have hts := atoms_spec (ws := w_Dr_has) B.pre
  have hown : sS.vm.findClass "VersionedBlock$Draft" = some mM.cls := findClass_of_methodNamed B.named
  have hlocks := B.notSynchronized
  have hl := lv_entry ([.ref d, .int (nI p)]) (n := 2) (Nat.le_of_ble_eq_true rfl)
  rw [lg_entry_eq]
  generalize (lg_sl ([.ref d, .int (nI p)]) ++ List.replicate (2 - (lg_sl ([.ref d, .int (nI p)])).length) Slot.unset).toArray = ls at hl ⊢
  have hl : lv_has ls 2 [(0, .ref d), (1, .int (nI p))] := hl
  refine lv_iload_n hx hb d_Dr_has_0 rfl (lv_at hl 1 rfl) ?_
  refine lv_if_lt (tgt := 24) hx hb d_Dr_has_1 (by decide) (fun c_1 => absurd c_1 (nI_pos (by omega))) (fun c_1 => ?_)
  refine lv_iload_n hx hb d_Dr_has_4 rfl (lv_at hl 1 rfl) ?_
  refine lv_sipush (v := (nI 256)) hx hb d_Dr_has_5 (by decide) ?_
  refine lv_icmp_ge (tgt := 24) hx hb d_Dr_has_8 (by decide) (fun c_8 => absurd c_8 (nI_ge hp (by decide))) (fun c_8 => ?_)
  refine lv_aload_n hx hb d_Dr_has_11 rfl (lv_at hl 0 rfl) ?_
  refine va_get (D := D) (ci := 0) (v := .ref k) (C := "VersionedBlock$Draft") (T := T_Dr) (N := 4) hx hb hts (fun w h => List.mem_cons_of_mem _ (il_Dr w h)) hown hK hP 0 rfl rfl 1 (by decide) (hts _ (List.mem_cons_of_mem _ mw_1_213)) (fun _ h9 => h9) rfl d_Dr_has_12 ?_
  refine lv_iload_n hx hb d_Dr_has_15 rfl (lv_at hl 1 rfl) ?_
  refine my_zald hx hb hK hP 1 2 rfl rfl (k := p) hp (Nat.le_of_ble_eq_true rfl) d_Dr_has_16 ?_
  refine lv_if_eq (tgt := 24) hx hb d_Dr_has_17 (by decide) (fun c_17 => ?_) (fun c_17 => ?_)
  · refine lv_iconst (v := 0) hx hb d_Dr_has_24 (by decide) ?_
    exact W.zret (v := 0) hx hb hr rfl (fun t9 ht hW => ⟨0, rfl, c_17.symm, ht⟩) (fun _ h => by cases h) d_Dr_has_25
  · refine lv_iconst (v := 1) hx hb d_Dr_has_20 (by decide) ?_
    refine lv_goto (tgt := 25) hx hb d_Dr_has_21 (by decide) ?_
    exact W.zret (v := 1) hx hb hr rfl (fun t9 ht hW => ⟨1, rfl, (hz.resolve_left c_17).symm, ht⟩) (fun _ h => by cases h) d_Dr_has_25
set_option maxHeartbeats 4000000 in
set_option maxRecDepth 100000 in
theorem c_Draft_numberIn (l : Launch) (D : va_G) (ka : Nat → ClassId) (d n k o : Nat) (ln : Int32) (num : Nat → Int64) (p : Nat) (hp : p < 256) : Met l y_Dr_numberIn w_Dr_numberIn ({ frames := 0, cells := 0, slots := 0, locals := 0 }) (pR classes (tyS ka) D [.ref d, .int (nI p)] ([(d, .inr (0, [.ref n, .ref k, .ref o, .int ln])), (n, .inl ((ka 0), 256, .inr (.inl num)))])) (vp_Sl (fun r => r = (num p))) 0 0 (fun _ => False) := by
  refine Met.ofW (cc := b_Dr_numberIn) (maxL := 2) (ret := (some .long)) (by decide) rfl ?_
  intro pP eE sS mM args below meth cC s1 B hml hv
  obtain ⟨rfl, hP, hK, hN⟩ := hv
  have hx := B.exec
  have hb := B.bytes
  have hr := B.returns
  have hts := atoms_spec (ws := w_Dr_numberIn) B.pre
  have hown : sS.vm.findClass "VersionedBlock$Draft" = some mM.cls := findClass_of_methodNamed B.named
  have hlocks := B.notSynchronized
  have hl := lv_entry ([.ref d, .int (nI p)]) (n := 2) (Nat.le_of_ble_eq_true rfl)
  rw [lg_entry_eq]
  generalize (lg_sl ([.ref d, .int (nI p)]) ++ List.replicate (2 - (lg_sl ([.ref d, .int (nI p)])).length) Slot.unset).toArray = ls at hl ⊢
  have hl : lv_has ls 2 [(0, .ref d), (1, .int (nI p))] := hl
  refine lv_iload_n hx hb d_Dr_numberIn_0 rfl (lv_at hl 1 rfl) ?_
  refine lv_if_lt (tgt := 20) hx hb d_Dr_numberIn_1 (by decide) (fun c_1 => absurd c_1 (nI_pos (by omega))) (fun c_1 => ?_)
  refine lv_iload_n hx hb d_Dr_numberIn_4 rfl (lv_at hl 1 rfl) ?_
  refine lv_sipush (v := (nI 256)) hx hb d_Dr_numberIn_5 (by decide) ?_
  refine lv_icmp_ge (tgt := 20) hx hb d_Dr_numberIn_8 (by decide) (fun c_8 => absurd c_8 (nI_ge hp (by decide))) (fun c_8 => ?_)
  refine lv_aload_n hx hb d_Dr_numberIn_11 rfl (lv_at hl 0 rfl) ?_
  refine va_get (D := D) (ci := 0) (v := .ref n) (C := "VersionedBlock$Draft") (T := T_Dr) (N := 4) hx hb hts (fun w h => List.mem_cons_of_mem _ (il_Dr w h)) hown hK hP 0 rfl rfl 0 (by decide) (hts _ (List.mem_cons_of_mem _ mw_1_212)) (fun _ h9 => h9) rfl d_Dr_numberIn_12 ?_
  refine lv_iload_n hx hb d_Dr_numberIn_15 rfl (lv_at hl 1 rfl) ?_
  refine my_lald hx hb hK hP 1 0 rfl rfl (k := p) hp (Nat.le_of_ble_eq_true rfl) d_Dr_numberIn_16 ?_
  refine lv_goto (tgt := 21) hx hb d_Dr_numberIn_17 (by decide) ?_
  exact W.lret (v := (num p)) hx hb hr (fun t9 ht hW => ⟨(num p), rfl, rfl, ht⟩) (fun _ h => by cases h) d_Dr_numberIn_21
set_option maxHeartbeats 4000000 in
set_option maxRecDepth 100000 in
theorem c_Draft_keep (l : Launch) (D : va_G) (ka : Nat → ClassId) (sz : Nat) (d n k o : Nat) (ps : List Nat) (num : Nat → Int64) (kp od : Nat → Int32) (p : Nat) (v : Int64) (hd : dOK ps kp od) (hp : p < 256) : Met l y_Dr_keep w_Dr_keep ({ frames := 0, cells := 0, slots := 0, locals := 0 }) (pW classes (tyS ka) D [.ref d, .int (nI p), .long v] ([(d, .inr (0, [.ref n, .ref k, .ref o, .int (nI ps.length)])), (n, .inl ((ka 0), 256, .inr (.inl num))), (k, .inl ((ka 2), 256, .inl kp)), (o, .inl ((ka 1), 256, .inl od))]) sz) (va_Qv (fun _ : Unit => True) (fun (_ : Unit) t9 => ∃ (kp' od' : Nat → Int32), (dOK (dkp ps p) kp' od') ∧ va_P D classes ([(d, .inr (0, [.ref n, .ref k, .ref o, .int (nI (dkp ps p).length)])), (n, .inl ((ka 0), 256, .inr (.inl (vp_updL num p v)))), (k, .inl ((ka 2), 256, .inl kp')), (o, .inl ((ka 1), 256, .inl od'))]) t9.heap ∧ va_D (va_A ([(d, .inr (0, [.ref n, .ref k, .ref o, .int (nI ps.length)])), (n, .inl ((ka 0), 256, .inr (.inl num))), (k, .inl ((ka 2), 256, .inl kp)), (o, .inl ((ka 1), 256, .inl od))]) sz) ([(d, .inr (0, [.ref n, .ref k, .ref o, .int (nI (dkp ps p).length)])), (n, .inl ((ka 0), 256, .inr (.inl (vp_updL num p v)))), (k, .inl ((ka 2), 256, .inl kp')), (o, .inl ((ka 1), 256, .inl od'))])) (va_A ([(d, .inr (0, [.ref n, .ref k, .ref o, .int (nI ps.length)])), (n, .inl ((ka 0), 256, .inr (.inl num))), (k, .inl ((ka 2), 256, .inl kp)), (o, .inl ((ka 1), 256, .inl od))]) sz)) 0 0 (va_A ([(d, .inr (0, [.ref n, .ref k, .ref o, .int (nI ps.length)])), (n, .inl ((ka 0), 256, .inr (.inl num))), (k, .inl ((ka 2), 256, .inl kp)), (o, .inl ((ka 1), 256, .inl od))]) sz) := by
  refine Met.ofW (cc := b_Dr_keep) (maxL := 4) (ret := none) (by decide) rfl ?_
  intro pP eE sS mM args below meth cC s1 B hml hv
  obtain ⟨rfl, hsz, hP, hK, hN, hD0⟩ := hv
  have hx := B.exec
  have hb := B.bytes
  have hr := B.returns
  have hts := atoms_spec (ws := w_Dr_keep) B.pre
  have hown : sS.vm.findClass "VersionedBlock$Draft" = some mM.cls := findClass_of_methodNamed B.named
  have hlocks := B.notSynchronized
  subst hsz
  have hD := hD0.self (sz := sS.heap.size)
  generalize hAe : va_A ([(d, .inr (0, [.ref n, .ref k, .ref o, .int (nI ps.length)])), (n, .inl ((ka 0), 256, .inr (.inl num))), (k, .inl ((ka 2), 256, .inl kp)), (o, .inl ((ka 1), 256, .inl od))]) sS.heap.size = A at hD ⊢
  have hA : ∀ q : Nat, sS.heap.size ≤ q → A q := fun q h => by rw [← hAe]; exact Or.inr h
  have hS : va_S A sS.heap sS.heap [] := va_S.rf
  have hl := lv_entry ([.ref d, .int (nI p), .long v]) (n := 4) (Nat.le_of_ble_eq_true rfl)
  rw [lg_entry_eq]
  generalize (lg_sl ([.ref d, .int (nI p), .long v]) ++ List.replicate (4 - (lg_sl ([.ref d, .int (nI p), .long v])).length) Slot.unset).toArray = ls at hl ⊢
  have hl : lv_has ls 4 [(0, .ref d), (1, .int (nI p)), (2, .long v)] := hl
  refine lv_iload_n hx hb d_Dr_keep_0 rfl (lv_at hl 1 rfl) ?_
  refine lv_if_lt (tgt := 11) hx hb d_Dr_keep_1 (by decide) (fun c_1 => absurd c_1 (nI_pos (by omega))) (fun c_1 => ?_)
  refine lv_iload_n hx hb d_Dr_keep_4 rfl (lv_at hl 1 rfl) ?_
  refine lv_sipush (v := (nI 256)) hx hb d_Dr_keep_5 (by decide) ?_
  refine lv_icmp_lt (tgt := 12) hx hb d_Dr_keep_8 (by decide) (fun c_8 => ?_) (fun c_8 => absurd (nI_lt hp (by decide)) c_8)
  refine lv_aload_n hx hb d_Dr_keep_12 rfl (lv_at hl 0 rfl) ?_
  refine va_get (D := D) (ci := 0) (v := .ref k) (C := "VersionedBlock$Draft") (T := T_Dr) (N := 4) hx hb hts (fun w h => List.mem_cons_of_mem _ (il_Dr w h)) hown hK hP 0 rfl rfl 1 (by decide) (hts _ (List.mem_cons_of_mem _ mw_1_213)) (fun _ h9 => h9) rfl d_Dr_keep_13 ?_
  refine lv_iload_n hx hb d_Dr_keep_16 rfl (lv_at hl 1 rfl) ?_
  refine my_zald hx hb hK hP 2 2 rfl rfl (k := p) hp (Nat.le_of_ble_eq_true rfl) d_Dr_keep_17 ?_
  refine lv_if_ne (tgt := 58) hx hb d_Dr_keep_18 (by decide) (fun c_18 => ?_) (fun c_18 => ?_)
  · have hm : p ∈ ps := by
      by_cases hq : p ∈ ps
      · exact hq
      · exact absurd (by rw [hd.2.2.2 p hp, if_neg hq]) c_18
    have e9 : dkp ps p = ps := if_pos hm
    refine lv_aload_n hx hb d_Dr_keep_58 rfl (lv_at hl 0 rfl) ?_
    refine va_get (D := D) (ci := 0) (v := .ref n) (C := "VersionedBlock$Draft") (T := T_Dr) (N := 4) hx hb hts (fun w h => List.mem_cons_of_mem _ (il_Dr w h)) hown hK hP 0 rfl rfl 0 (by decide) (hts _ (List.mem_cons_of_mem _ mw_1_212)) (fun _ h9 => h9) rfl d_Dr_keep_59 ?_
    refine lv_iload_n hx hb d_Dr_keep_62 rfl (lv_at hl 1 rfl) ?_
    refine lv_lload_n hx hb d_Dr_keep_63 rfl (lv_at hl 2 rfl) ?_
    refine my_last hx hb hK hP hD hS 1 0 rfl rfl (k := p) hp (Nat.le_of_ble_eq_true rfl) d_Dr_keep_64 (fun H locs hP hD hS => ?_)
    have hP : va_P D classes ([(d, .inr (0, [.ref n, .ref k, .ref o, .int (nI ps.length)])), (n, .inl ((ka 0), 256, .inr (.inl (vp_updL num p v)))), (k, .inl ((ka 2), 256, .inl kp)), (o, .inl ((ka 1), 256, .inl od))]) H := hP
    have hD : va_D A ([(d, .inr (0, [.ref n, .ref k, .ref o, .int (nI ps.length)])), (n, .inl ((ka 0), 256, .inr (.inl (vp_updL num p v)))), (k, .inl ((ka 2), 256, .inl kp)), (o, .inl ((ka 1), 256, .inl od))]) := hD
    have hP9 := hP.sub (ws' := [(d, .inr (0, [.ref n, .ref k, .ref o, .int (nI (dkp ps p).length)])), (n, .inl ((ka 0), 256, .inr (.inl (vp_updL num p v)))), (k, .inl ((ka 2), 256, .inl kp)), (o, .inl ((ka 1), 256, .inl od))]) [0, 1, 2, 3] (by rw [e9]; rfl)
    have hD9 := hD.sub (ws' := [(d, .inr (0, [.ref n, .ref k, .ref o, .int (nI (dkp ps p).length)])), (n, .inl ((ka 0), 256, .inr (.inl (vp_updL num p v)))), (k, .inl ((ka 2), 256, .inl kp)), (o, .inl ((ka 1), 256, .inl od))]) [0, 1, 2, 3] (by decide) (by rw [e9]; rfl)
    exact W.vret hx hb hr (fun t9 ht hW => ⟨⟨(), rfl, trivial, kp, od, (by rw [e9]; exact hd), by rw [ht]; exact hP9, hD9⟩, hS.F ht⟩) hS.2.2 d_Dr_keep_65
  · have hm : p ∉ ps := fun hq => by rw [hd.2.2.2 p hp, if_pos hq] at c_18; exact absurd c_18 (by decide)
    have e9 : dkp ps p = ps ++ [p] := if_neg hm
    have hlen : ps.length < 256 := dOK_lt hd hp hm
    refine lv_aload_n hx hb d_Dr_keep_21 rfl (lv_at hl 0 rfl) ?_
    refine va_get (D := D) (ci := 0) (v := .int (nI ps.length)) (C := "VersionedBlock$Draft") (T := T_Dr) (N := 4) hx hb hts (fun w h => List.mem_cons_of_mem _ (il_Dr w h)) hown hK hP 0 rfl rfl 3 (by decide) (hts _ (List.mem_cons_of_mem _ mw_1_215)) (fun _ h9 => h9) rfl d_Dr_keep_22 ?_
    refine lv_sipush (v := (nI 256)) hx hb d_Dr_keep_25 (by decide) ?_
    refine lv_icmp_ge (tgt := 58) hx hb d_Dr_keep_28 (by decide) (fun c_28 => absurd c_28 (nI_ge hlen (by decide))) (fun c_28 => ?_)
    refine lv_aload_n hx hb d_Dr_keep_31 rfl (lv_at hl 0 rfl) ?_
    refine va_get (D := D) (ci := 0) (v := .ref k) (C := "VersionedBlock$Draft") (T := T_Dr) (N := 4) hx hb hts (fun w h => List.mem_cons_of_mem _ (il_Dr w h)) hown hK hP 0 rfl rfl 1 (by decide) (hts _ (List.mem_cons_of_mem _ mw_1_213)) (fun _ h9 => h9) rfl d_Dr_keep_32 ?_
    refine lv_iload_n hx hb d_Dr_keep_35 rfl (lv_at hl 1 rfl) ?_
    refine lv_iconst (v := 1) hx hb d_Dr_keep_36 (by decide) ?_
    refine my_zast hx hb hK hP hD hS 2 2 rfl rfl (k := p) hp (Nat.le_of_ble_eq_true rfl) rfl d_Dr_keep_37 (fun H locs hP hD hS => ?_)
    have hP : va_P D classes ([(d, .inr (0, [.ref n, .ref k, .ref o, .int (nI ps.length)])), (n, .inl ((ka 0), 256, .inr (.inl num))), (k, .inl ((ka 2), 256, .inl (upd kp p 1))), (o, .inl ((ka 1), 256, .inl od))]) H := hP
    have hD : va_D A ([(d, .inr (0, [.ref n, .ref k, .ref o, .int (nI ps.length)])), (n, .inl ((ka 0), 256, .inr (.inl num))), (k, .inl ((ka 2), 256, .inl (upd kp p 1))), (o, .inl ((ka 1), 256, .inl od))]) := hD
    refine lv_aload_n hx hb d_Dr_keep_38 rfl (lv_at hl 0 rfl) ?_
    refine va_get (D := D) (ci := 0) (v := .ref o) (C := "VersionedBlock$Draft") (T := T_Dr) (N := 4) hx hb hts (fun w h => List.mem_cons_of_mem _ (il_Dr w h)) hown hK hP 0 rfl rfl 2 (by decide) (hts _ (List.mem_cons_of_mem _ mw_1_214)) (fun _ h9 => h9) rfl d_Dr_keep_39 ?_
    refine lv_aload_n hx hb d_Dr_keep_42 rfl (lv_at hl 0 rfl) ?_
    refine va_get (D := D) (ci := 0) (v := .int (nI ps.length)) (C := "VersionedBlock$Draft") (T := T_Dr) (N := 4) hx hb hts (fun w h => List.mem_cons_of_mem _ (il_Dr w h)) hown hK hP 0 rfl rfl 3 (by decide) (hts _ (List.mem_cons_of_mem _ mw_1_215)) (fun _ h9 => h9) rfl d_Dr_keep_43 ?_
    refine lv_iload_n hx hb d_Dr_keep_46 rfl (lv_at hl 1 rfl) ?_
    refine my_iast hx hb hK hP hD hS 3 1 rfl rfl (k := ps.length) hlen (Nat.le_of_ble_eq_true rfl) d_Dr_keep_47 (fun H locs hP hD hS => ?_)
    have hP : va_P D classes ([(d, .inr (0, [.ref n, .ref k, .ref o, .int (nI ps.length)])), (n, .inl ((ka 0), 256, .inr (.inl num))), (k, .inl ((ka 2), 256, .inl (upd kp p 1))), (o, .inl ((ka 1), 256, .inl (upd od ps.length (nI p))))]) H := hP
    have hD : va_D A ([(d, .inr (0, [.ref n, .ref k, .ref o, .int (nI ps.length)])), (n, .inl ((ka 0), 256, .inr (.inl num))), (k, .inl ((ka 2), 256, .inl (upd kp p 1))), (o, .inl ((ka 1), 256, .inl (upd od ps.length (nI p))))]) := hD
    refine lv_aload_n hx hb d_Dr_keep_48 rfl (lv_at hl 0 rfl) ?_
    refine lv_dup hx hb d_Dr_keep_49 rfl ?_
    refine va_get (D := D) (ci := 0) (v := .int (nI ps.length)) (C := "VersionedBlock$Draft") (T := T_Dr) (N := 4) hx hb hts (fun w h => List.mem_cons_of_mem _ (il_Dr w h)) hown hK hP 0 rfl rfl 3 (by decide) (hts _ (List.mem_cons_of_mem _ mw_1_215)) (fun _ h9 => h9) rfl d_Dr_keep_50 ?_
    refine lv_iconst (v := 1) hx hb d_Dr_keep_53 (by decide) ?_
    refine lv_iadd hx hb d_Dr_keep_54 ?_
    refine lv_topi (fun v_54 ev_54 => ?_)
    obtain rfl : v_54 = nI (ps.length + 1) := ev_54.trans (nI_1 _)
    refine va_put (D := D) (ci := 0) (v := .int (nI (ps.length + 1))) (ty := .int) (C := "VersionedBlock$Draft") (T := T_Dr) (N := 4) hx hb hts (fun w h => List.mem_cons_of_mem _ (il_Dr w h)) t_Dr t_Dr_ok n_Dr hown hK hP hD hS 0 rfl rfl 3 (by decide) (hts _ (List.mem_cons_of_mem _ mw_1_215)) (fun _ h9 => h9) rfl (by decide +kernel) rfl rfl (Nat.le_of_ble_eq_true rfl) d_Dr_keep_55 (fun H locs hP hD hS => ?_)
    have hP : va_P D classes ([(d, .inr (0, [.ref n, .ref k, .ref o, .int (nI (ps.length + 1))])), (n, .inl ((ka 0), 256, .inr (.inl num))), (k, .inl ((ka 2), 256, .inl (upd kp p 1))), (o, .inl ((ka 1), 256, .inl (upd od ps.length (nI p))))]) H := hP
    have hD : va_D A ([(d, .inr (0, [.ref n, .ref k, .ref o, .int (nI (ps.length + 1))])), (n, .inl ((ka 0), 256, .inr (.inl num))), (k, .inl ((ka 2), 256, .inl (upd kp p 1))), (o, .inl ((ka 1), 256, .inl (upd od ps.length (nI p))))]) := hD
    refine lv_aload_n hx hb d_Dr_keep_58 rfl (lv_at hl 0 rfl) ?_
    refine va_get (D := D) (ci := 0) (v := .ref n) (C := "VersionedBlock$Draft") (T := T_Dr) (N := 4) hx hb hts (fun w h => List.mem_cons_of_mem _ (il_Dr w h)) hown hK hP 0 rfl rfl 0 (by decide) (hts _ (List.mem_cons_of_mem _ mw_1_212)) (fun _ h9 => h9) rfl d_Dr_keep_59 ?_
    refine lv_iload_n hx hb d_Dr_keep_62 rfl (lv_at hl 1 rfl) ?_
    refine lv_lload_n hx hb d_Dr_keep_63 rfl (lv_at hl 2 rfl) ?_
    refine my_last hx hb hK hP hD hS 1 0 rfl rfl (k := p) hp (Nat.le_of_ble_eq_true rfl) d_Dr_keep_64 (fun H locs hP hD hS => ?_)
    have hP : va_P D classes ([(d, .inr (0, [.ref n, .ref k, .ref o, .int (nI (ps.length + 1))])), (n, .inl ((ka 0), 256, .inr (.inl (vp_updL num p v)))), (k, .inl ((ka 2), 256, .inl (upd kp p 1))), (o, .inl ((ka 1), 256, .inl (upd od ps.length (nI p))))]) H := hP
    have hD : va_D A ([(d, .inr (0, [.ref n, .ref k, .ref o, .int (nI (ps.length + 1))])), (n, .inl ((ka 0), 256, .inr (.inl (vp_updL num p v)))), (k, .inl ((ka 2), 256, .inl (upd kp p 1))), (o, .inl ((ka 1), 256, .inl (upd od ps.length (nI p))))]) := hD
    have hP9 := hP.sub (ws' := [(d, .inr (0, [.ref n, .ref k, .ref o, .int (nI (dkp ps p).length)])), (n, .inl ((ka 0), 256, .inr (.inl (vp_updL num p v)))), (k, .inl ((ka 2), 256, .inl (upd kp p 1))), (o, .inl ((ka 1), 256, .inl (upd od ps.length (nI p))))]) [0, 1, 2, 3] (by rw [e9, List.length_append]; rfl)
    have hD9 := hD.sub (ws' := [(d, .inr (0, [.ref n, .ref k, .ref o, .int (nI (dkp ps p).length)])), (n, .inl ((ka 0), 256, .inr (.inl (vp_updL num p v)))), (k, .inl ((ka 2), 256, .inl (upd kp p 1))), (o, .inl ((ka 1), 256, .inl (upd od ps.length (nI p))))]) [0, 1, 2, 3] (by decide) (by rw [e9, List.length_append]; rfl)
    exact W.vret hx hb hr (fun t9 ht hW => ⟨⟨(), rfl, trivial, (upd kp p 1), (upd od ps.length (nI p)), (by rw [e9]; exact dOK_keep hd hp hm), by rw [ht]; exact hP9, hD9⟩, hS.F ht⟩) hS.2.2 d_Dr_keep_65
set_option maxHeartbeats 4000000 in
set_option maxRecDepth 100000 in
theorem c_Draft_clear (l : Launch) (D : va_G) (ka : Nat → ClassId) (sz : Nat) (d n k o : Nat) (ps : List Nat) (num : Nat → Int64) (kp od : Nat → Int32) (hd : dOK ps kp od) : Met l y_Dr_clear w_Dr_clear ({ frames := 0, cells := 0, slots := 0, locals := 0 }) (pW classes (tyS ka) D [.ref d] ([(d, .inr (0, [.ref n, .ref k, .ref o, .int (nI ps.length)])), (n, .inl ((ka 0), 256, .inr (.inl num))), (k, .inl ((ka 2), 256, .inl kp)), (o, .inl ((ka 1), 256, .inl od))]) sz) (va_Qv (fun _ : Unit => True) (fun (_ : Unit) t9 => ∃ (kp' : Nat → Int32), (dOK [] kp' od) ∧ va_P D classes ([(d, .inr (0, [.ref n, .ref k, .ref o, .int (nI 0)])), (n, .inl ((ka 0), 256, .inr (.inl num))), (k, .inl ((ka 2), 256, .inl kp')), (o, .inl ((ka 1), 256, .inl od))]) t9.heap ∧ va_D (va_A ([(d, .inr (0, [.ref n, .ref k, .ref o, .int (nI ps.length)])), (n, .inl ((ka 0), 256, .inr (.inl num))), (k, .inl ((ka 2), 256, .inl kp)), (o, .inl ((ka 1), 256, .inl od))]) sz) ([(d, .inr (0, [.ref n, .ref k, .ref o, .int (nI 0)])), (n, .inl ((ka 0), 256, .inr (.inl num))), (k, .inl ((ka 2), 256, .inl kp')), (o, .inl ((ka 1), 256, .inl od))])) (va_A ([(d, .inr (0, [.ref n, .ref k, .ref o, .int (nI ps.length)])), (n, .inl ((ka 0), 256, .inr (.inl num))), (k, .inl ((ka 2), 256, .inl kp)), (o, .inl ((ka 1), 256, .inl od))]) sz)) 0 0 (va_A ([(d, .inr (0, [.ref n, .ref k, .ref o, .int (nI ps.length)])), (n, .inl ((ka 0), 256, .inr (.inl num))), (k, .inl ((ka 2), 256, .inl kp)), (o, .inl ((ka 1), 256, .inl od))]) sz) := by
  refine Met.ofW (cc := b_Dr_clear) (maxL := 2) (ret := none) (by decide) rfl ?_
  intro pP eE sS mM args below meth cC s1 B hml hv
  obtain ⟨rfl, hsz, hP, hK, hN, hD0⟩ := hv
  have hx := B.exec
  have hb := B.bytes
  have hr := B.returns
  have hts := atoms_spec (ws := w_Dr_clear) B.pre
  have hown : sS.vm.findClass "VersionedBlock$Draft" = some mM.cls := findClass_of_methodNamed B.named
  have hlocks := B.notSynchronized
  subst hsz
  have hD := hD0.self (sz := sS.heap.size)
  generalize hAe : va_A ([(d, .inr (0, [.ref n, .ref k, .ref o, .int (nI ps.length)])), (n, .inl ((ka 0), 256, .inr (.inl num))), (k, .inl ((ka 2), 256, .inl kp)), (o, .inl ((ka 1), 256, .inl od))]) sS.heap.size = A at hD ⊢
  have hA : ∀ q : Nat, sS.heap.size ≤ q → A q := fun q h => by rw [← hAe]; exact Or.inr h
  have hS : va_S A sS.heap sS.heap [] := va_S.rf
  have hl := lv_entry ([.ref d]) (n := 2) (Nat.le_of_ble_eq_true rfl)
  rw [lg_entry_eq]
  generalize (lg_sl ([.ref d]) ++ List.replicate (2 - (lg_sl ([.ref d])).length) Slot.unset).toArray = ls at hl ⊢
  have hl : lv_has ls 2 [(0, .ref d)] := hl
  have hle := dOK_le hd
  refine lv_iconst (v := (nI 0)) hx hb d_Dr_clear_0 (by decide) ?_
  refine lv_istore_n (lv' := [(1, .int (nI 0)), (0, .ref d)]) hx hb d_Dr_clear_1 rfl hl (by decide) rfl (fun ls hl => ?_)
  have loop_2 : ∀ (fuel : Nat) (i : Nat) (kq : Nat → Int32), (i ≤ ps.length) → (dCL ps i kq) → (ps.length - i) < fuel → ∀ (H : Heap) (locs : List Loc), va_P D classes ([(d, .inr (0, [.ref n, .ref k, .ref o, .int (nI ps.length)])), (n, .inl ((ka 0), 256, .inr (.inl num))), (k, .inl ((ka 2), 256, .inl kq)), (o, .inl ((ka 1), 256, .inl od))]) H → va_D A ([(d, .inr (0, [.ref n, .ref k, .ref o, .int (nI ps.length)])), (n, .inl ((ka 0), 256, .inr (.inl num))), (k, .inl ((ka 2), 256, .inl kq)), (o, .inl ((ka 1), 256, .inl od))]) → va_S A sS.heap H locs → ∀ (ls : Array Slot), lv_has ls 2 [(1, .int (nI i)), (0, .ref d)] → W pP l eE (headSpec w_Dr_clear ({ frames := 0, cells := 0, slots := 0, locals := 0 })).room sS mM ([.ref d] : List Value).toArray below meth cC H locs 0 0 (MQ below (va_Qv (fun _ : Unit => True) (fun (_ : Unit) t9 => ∃ (kp' : Nat → Int32), (dOK [] kp' od) ∧ va_P D classes ([(d, .inr (0, [.ref n, .ref k, .ref o, .int (nI 0)])), (n, .inl ((ka 0), 256, .inr (.inl num))), (k, .inl ((ka 2), 256, .inl kp')), (o, .inl ((ka 1), 256, .inl od))]) t9.heap ∧ va_D A ([(d, .inr (0, [.ref n, .ref k, .ref o, .int (nI 0)])), (n, .inl ((ka 0), 256, .inr (.inl num))), (k, .inl ((ka 2), 256, .inl kp')), (o, .inl ((ka 1), 256, .inl od))])) A) ([.ref d] : List Value).toArray sS 0 0 A) (F0 mM 2 ls []) := by
    intro fuel
    induction fuel with
    | zero => intro i kq hi hc hfu; exact absurd hfu (Nat.not_lt_zero _)
    | succ fuel ih =>
      intro i kq hi hc hfu H locs hP hD hS ls hl
      refine lv_iload_n hx hb d_Dr_clear_2 rfl (lv_at hl 0 rfl) ?_
      refine lv_aload_n hx hb d_Dr_clear_3 rfl (lv_at hl 1 rfl) ?_
      refine va_get (D := D) (ci := 0) (v := .int (nI ps.length)) (C := "VersionedBlock$Draft") (T := T_Dr) (N := 4) hx hb hts (fun w h => List.mem_cons_of_mem _ (il_Dr w h)) hown hK hP 0 rfl rfl 3 (by decide) (hts _ (List.mem_cons_of_mem _ mw_1_215)) (fun _ h9 => h9) rfl d_Dr_clear_4 ?_
      refine lv_icmp_ge (tgt := 28) hx hb d_Dr_clear_7 (by decide) (fun c_7 => ?_) (fun c_7 => ?_)
      · have hie : i = ps.length := by
          have := (nI_leI (by omega) (by omega)).mp c_7
          omega
        subst hie
        refine lv_aload_n hx hb d_Dr_clear_28 rfl (lv_at hl 1 rfl) ?_
        refine lv_iconst (v := (nI 0)) hx hb d_Dr_clear_29 (by decide) ?_
        refine va_put (D := D) (ci := 0) (v := .int (nI 0)) (ty := .int) (C := "VersionedBlock$Draft") (T := T_Dr) (N := 4) hx hb hts (fun w h => List.mem_cons_of_mem _ (il_Dr w h)) t_Dr t_Dr_ok n_Dr hown hK hP hD hS 0 rfl rfl 3 (by decide) (hts _ (List.mem_cons_of_mem _ mw_1_215)) (fun _ h9 => h9) rfl (by decide +kernel) rfl rfl (Nat.le_of_ble_eq_true rfl) d_Dr_clear_30 (fun H locs hP hD hS => ?_)
        have hP : va_P D classes ([(d, .inr (0, [.ref n, .ref k, .ref o, .int (nI 0)])), (n, .inl ((ka 0), 256, .inr (.inl num))), (k, .inl ((ka 2), 256, .inl kq)), (o, .inl ((ka 1), 256, .inl od))]) H := hP
        have hD : va_D A ([(d, .inr (0, [.ref n, .ref k, .ref o, .int (nI 0)])), (n, .inl ((ka 0), 256, .inr (.inl num))), (k, .inl ((ka 2), 256, .inl kq)), (o, .inl ((ka 1), 256, .inl od))]) := hD
        have hP9 := hP.sub (ws' := [(d, .inr (0, [.ref n, .ref k, .ref o, .int (nI 0)])), (n, .inl ((ka 0), 256, .inr (.inl num))), (k, .inl ((ka 2), 256, .inl kq)), (o, .inl ((ka 1), 256, .inl od))]) [0, 1, 2, 3] rfl
        have hD9 := hD.sub (ws' := [(d, .inr (0, [.ref n, .ref k, .ref o, .int (nI 0)])), (n, .inl ((ka 0), 256, .inr (.inl num))), (k, .inl ((ka 2), 256, .inl kq)), (o, .inl ((ka 1), 256, .inl od))]) [0, 1, 2, 3] (by decide) rfl
        exact W.vret hx hb hr (fun t9 ht hW => ⟨⟨(), rfl, trivial, kq, dCL_end hc, by rw [ht]; exact hP9, hD9⟩, hS.F ht⟩) hS.2.2 d_Dr_clear_33
      · have hlt : i < ps.length := by
          rcases Nat.lt_or_ge i ps.length with q | q
          · exact q
          · exact absurd (nI_le q (by omega)) c_7
        refine lv_aload_n hx hb d_Dr_clear_10 rfl (lv_at hl 1 rfl) ?_
        refine va_get (D := D) (ci := 0) (v := .ref k) (C := "VersionedBlock$Draft") (T := T_Dr) (N := 4) hx hb hts (fun w h => List.mem_cons_of_mem _ (il_Dr w h)) hown hK hP 0 rfl rfl 1 (by decide) (hts _ (List.mem_cons_of_mem _ mw_1_213)) (fun _ h9 => h9) rfl d_Dr_clear_11 ?_
        refine lv_aload_n hx hb d_Dr_clear_14 rfl (lv_at hl 1 rfl) ?_
        refine va_get (D := D) (ci := 0) (v := .ref o) (C := "VersionedBlock$Draft") (T := T_Dr) (N := 4) hx hb hts (fun w h => List.mem_cons_of_mem _ (il_Dr w h)) hown hK hP 0 rfl rfl 2 (by decide) (hts _ (List.mem_cons_of_mem _ mw_1_214)) (fun _ h9 => h9) rfl d_Dr_clear_15 ?_
        refine lv_iload_n hx hb d_Dr_clear_18 rfl (lv_at hl 0 rfl) ?_
        refine my_iald hx hb hK hP 3 1 rfl rfl (k := i) (by omega) (Nat.le_of_ble_eq_true rfl) d_Dr_clear_19 ?_
        refine lv_topi (fun v_19 ev_19 => ?_)
        obtain rfl : v_19 = nI (ps.getD i 0) := ev_19.trans (hd.2.2.1 i hlt)
        refine lv_iconst (v := 0) hx hb d_Dr_clear_20 (by decide) ?_
        refine my_zast hx hb hK hP hD hS 2 2 rfl rfl (k := (ps.getD i 0)) (dOK_at hd hlt).2.1 (Nat.le_of_ble_eq_true rfl) rfl d_Dr_clear_21 (fun H locs hP hD hS => ?_)
        have hP : va_P D classes ([(d, .inr (0, [.ref n, .ref k, .ref o, .int (nI ps.length)])), (n, .inl ((ka 0), 256, .inr (.inl num))), (k, .inl ((ka 2), 256, .inl (upd kq (ps.getD i 0) 0))), (o, .inl ((ka 1), 256, .inl od))]) H := hP
        have hD : va_D A ([(d, .inr (0, [.ref n, .ref k, .ref o, .int (nI ps.length)])), (n, .inl ((ka 0), 256, .inr (.inl num))), (k, .inl ((ka 2), 256, .inl (upd kq (ps.getD i 0) 0))), (o, .inl ((ka 1), 256, .inl od))]) := hD
        refine lv_iinc (v := nI (i + 1)) (lv' := [(1, .int (nI (i + 1))), (0, .ref d)]) hx hb d_Dr_clear_22 hl (k := 0) rfl (nI_1 i) (by decide) rfl (fun ls hl => ?_)
        refine lv_goto (tgt := 2) hx hb d_Dr_clear_25 (by decide) ?_
        exact ih (i + 1) (upd kq (ps.getD i 0) 0) (by omega) (dCL_s hd.1 hlt hc) (by omega) _ _ hP hD hS ls (lv_sub hl [0, 1] rfl)
  exact loop_2 (ps.length - 0 + 1) 0 kp (Nat.zero_le _) (dCL_0 hd) (Nat.lt_succ_self _) _ _ hP hD hS ls (lv_sub hl [0, 1] rfl)
set_option maxHeartbeats 4000000 in
set_option maxRecDepth 100000 in
theorem c_Draft_init (l : Launch) (D : va_G) (ka : Nat → ClassId) (sz : Nat) (d : Nat)  : Met l y_Dr_init w_Dr_init ({ frames := 1, cells := 3, slots := 768, locals := 12 }) (pW classes (tyS ka) D [.ref d] ([(d, .inr (0, [.null, .null, .null, .int 0]))]) sz) (va_Qv (fun _ : Unit => True) (fun (_ : Unit) t9 => ∃ (n k o : Nat), (True) ∧ va_P D classes ([(d, .inr (0, [.ref n, .ref k, .ref o, .int (nI 0)])), (n, .inl ((ka 0), 256, .inr (.inl (fun _ => 0)))), (k, .inl ((ka 2), 256, .inl (fun _ => 0))), (o, .inl ((ka 1), 256, .inl (fun _ => 0)))]) t9.heap ∧ va_D (va_A ([(d, .inr (0, [.null, .null, .null, .int 0]))]) sz) ([(d, .inr (0, [.ref n, .ref k, .ref o, .int (nI 0)])), (n, .inl ((ka 0), 256, .inr (.inl (fun _ => 0)))), (k, .inl ((ka 2), 256, .inl (fun _ => 0))), (o, .inl ((ka 1), 256, .inl (fun _ => 0)))])) (va_A ([(d, .inr (0, [.null, .null, .null, .int 0]))]) sz)) 3 768 (va_A ([(d, .inr (0, [.null, .null, .null, .int 0]))]) sz) := by
  refine Met.ofW (cc := b_Dr_init) (maxL := 1) (ret := none) (by decide) rfl ?_
  intro pP eE sS mM args below meth cC s1 B hml hv
  obtain ⟨rfl, hsz, hP, hK, hN, hD0⟩ := hv
  have hx := B.exec
  have hb := B.bytes
  have hr := B.returns
  have hts := atoms_spec (ws := w_Dr_init) B.pre
  have hown : sS.vm.findClass "VersionedBlock$Draft" = some mM.cls := findClass_of_methodNamed B.named
  have hlocks := B.notSynchronized
  have hin : meth.name = "<init>" := (name_of_methodNamed B.named B.method).1
  subst hsz
  have hD := hD0.self (sz := sS.heap.size)
  generalize hAe : va_A ([(d, .inr (0, [.null, .null, .null, .int 0]))]) sS.heap.size = A at hD ⊢
  have hA : ∀ q : Nat, sS.heap.size ≤ q → A q := fun q h => by rw [← hAe]; exact Or.inr h
  have hS : va_S A sS.heap sS.heap [] := va_S.rf
  have hl := lv_entry ([.ref d]) (n := 1) (Nat.le_of_ble_eq_true rfl)
  rw [lg_entry_eq]
  generalize (lg_sl ([.ref d]) ++ List.replicate (1 - (lg_sl ([.ref d])).length) Slot.unset).toArray = ls at hl ⊢
  have hl : lv_has ls 1 [(0, .ref d)] := hl
  refine lv_aload_n hx hb d_Dr_init_0 rfl (lv_at hl 0 rfl) ?_
  refine W.objInit hx hb hown (hts _ (List.mem_cons_of_mem _ mw_1_211)) (hts _ (List.mem_cons_of_mem _ mw_1_16)) (hts _ (List.mem_cons_of_mem _ mw_1_17)) rfl (by rw [hml]; exact hl.1) rfl d_Dr_init_1 (Nat.le_of_ble_eq_true rfl) (Nat.le_of_ble_eq_true rfl) ?_
  refine W.eq (g2 := F0 mM 4 ls []) rfl ?_
  refine lv_aload_n hx hb d_Dr_init_4 rfl (lv_at hl 0 rfl) ?_
  refine lv_sipush (v := 256) hx hb d_Dr_init_5 (by decide) ?_
  refine my_newa (ty := .long) (a0 := (256, .inr (.inl (fun _ => 0)))) hx hb (hts _ (List.mem_cons_of_mem _ mw_1_33)) rfl hK 0 (cA0 := ka 0) rfl hP hD hS hA (fun _ => rfl) (k := 256) (by decide) (by decide) (Nat.le_of_ble_eq_true rfl) (Nat.le_of_ble_eq_true rfl) d_Dr_init_8 (fun q8 H hP hD hS => ?_)
  have hP : va_P D classes ([(d, .inr (0, [.null, .null, .null, .int 0])), (q8, .inl ((ka 0), 256, .inr (.inl (fun _ => 0))))]) H := hP
  have hD : va_D A ([(d, .inr (0, [.null, .null, .null, .int 0])), (q8, .inl ((ka 0), 256, .inr (.inl (fun _ => 0))))]) := hD
  refine W.widen (k := 1) (n := 256) (by omega) (by omega) ?_
  refine va_putF (D := D) (ci := 0) (v := .ref q8) (ty := .array .long) (C := "VersionedBlock$Draft") (T := T_Dr) (N := 4) hx hb hts (fun w h => List.mem_cons_of_mem _ (il_Dr w h)) t_Dr t_Dr_ok n_Dr hown hK hP hD hS 0 rfl rfl 0 (by decide) (hts _ (List.mem_cons_of_mem _ mw_1_212)) (fun _ h9 => h9) rfl hin rfl (by decide +kernel) rfl rfl (Nat.le_of_ble_eq_true rfl) d_Dr_init_10 (fun H locs hP hD hS => ?_)
  have hP : va_P D classes ([(d, .inr (0, [.ref q8, .null, .null, .int 0])), (q8, .inl ((ka 0), 256, .inr (.inl (fun _ => 0))))]) H := hP
  have hD : va_D A ([(d, .inr (0, [.ref q8, .null, .null, .int 0])), (q8, .inl ((ka 0), 256, .inr (.inl (fun _ => 0))))]) := hD
  refine lv_aload_n hx hb d_Dr_init_13 rfl (lv_at hl 0 rfl) ?_
  refine lv_sipush (v := 256) hx hb d_Dr_init_14 (by decide) ?_
  refine my_newa (ty := .boolean) (a0 := (256, .inl (fun _ => 0))) hx hb (hts _ (List.mem_cons_of_mem _ mw_1_225)) rfl hK 2 (cA0 := ka 2) rfl hP hD hS hA (fun _ => rfl) (k := 256) (by decide) (by decide) (Nat.le_of_ble_eq_true rfl) (Nat.le_of_ble_eq_true rfl) d_Dr_init_17 (fun q17 H hP hD hS => ?_)
  have hP : va_P D classes ([(d, .inr (0, [.ref q8, .null, .null, .int 0])), (q8, .inl ((ka 0), 256, .inr (.inl (fun _ => 0)))), (q17, .inl ((ka 2), 256, .inl (fun _ => 0)))]) H := hP
  have hD : va_D A ([(d, .inr (0, [.ref q8, .null, .null, .int 0])), (q8, .inl ((ka 0), 256, .inr (.inl (fun _ => 0)))), (q17, .inl ((ka 2), 256, .inl (fun _ => 0)))]) := hD
  refine W.widen (k := 2) (n := 512) (by omega) (by omega) ?_
  refine va_putF (D := D) (ci := 0) (v := .ref q17) (ty := .array .boolean) (C := "VersionedBlock$Draft") (T := T_Dr) (N := 4) hx hb hts (fun w h => List.mem_cons_of_mem _ (il_Dr w h)) t_Dr t_Dr_ok n_Dr hown hK hP hD hS 0 rfl rfl 1 (by decide) (hts _ (List.mem_cons_of_mem _ mw_1_213)) (fun _ h9 => h9) rfl hin rfl (by decide +kernel) rfl rfl (Nat.le_of_ble_eq_true rfl) d_Dr_init_19 (fun H locs hP hD hS => ?_)
  have hP : va_P D classes ([(d, .inr (0, [.ref q8, .ref q17, .null, .int 0])), (q8, .inl ((ka 0), 256, .inr (.inl (fun _ => 0)))), (q17, .inl ((ka 2), 256, .inl (fun _ => 0)))]) H := hP
  have hD : va_D A ([(d, .inr (0, [.ref q8, .ref q17, .null, .int 0])), (q8, .inl ((ka 0), 256, .inr (.inl (fun _ => 0)))), (q17, .inl ((ka 2), 256, .inl (fun _ => 0)))]) := hD
  refine lv_aload_n hx hb d_Dr_init_22 rfl (lv_at hl 0 rfl) ?_
  refine lv_sipush (v := 256) hx hb d_Dr_init_23 (by decide) ?_
  refine my_newa (ty := .int) (a0 := (256, .inl (fun _ => 0))) hx hb (hts _ (List.mem_cons_of_mem _ mw_1_122)) rfl hK 1 (cA0 := ka 1) rfl hP hD hS hA (fun _ => rfl) (k := 256) (by decide) (by decide) (Nat.le_of_ble_eq_true rfl) (Nat.le_of_ble_eq_true rfl) d_Dr_init_26 (fun q26 H hP hD hS => ?_)
  have hP : va_P D classes ([(d, .inr (0, [.ref q8, .ref q17, .null, .int 0])), (q8, .inl ((ka 0), 256, .inr (.inl (fun _ => 0)))), (q17, .inl ((ka 2), 256, .inl (fun _ => 0))), (q26, .inl ((ka 1), 256, .inl (fun _ => 0)))]) H := hP
  have hD : va_D A ([(d, .inr (0, [.ref q8, .ref q17, .null, .int 0])), (q8, .inl ((ka 0), 256, .inr (.inl (fun _ => 0)))), (q17, .inl ((ka 2), 256, .inl (fun _ => 0))), (q26, .inl ((ka 1), 256, .inl (fun _ => 0)))]) := hD
  refine W.widen (k := 3) (n := 768) (by omega) (by omega) ?_
  refine va_putF (D := D) (ci := 0) (v := .ref q26) (ty := .array .int) (C := "VersionedBlock$Draft") (T := T_Dr) (N := 4) hx hb hts (fun w h => List.mem_cons_of_mem _ (il_Dr w h)) t_Dr t_Dr_ok n_Dr hown hK hP hD hS 0 rfl rfl 2 (by decide) (hts _ (List.mem_cons_of_mem _ mw_1_214)) (fun _ h9 => h9) rfl hin rfl (by decide +kernel) rfl rfl (Nat.le_of_ble_eq_true rfl) d_Dr_init_28 (fun H locs hP hD hS => ?_)
  have hP : va_P D classes ([(d, .inr (0, [.ref q8, .ref q17, .ref q26, .int 0])), (q8, .inl ((ka 0), 256, .inr (.inl (fun _ => 0)))), (q17, .inl ((ka 2), 256, .inl (fun _ => 0))), (q26, .inl ((ka 1), 256, .inl (fun _ => 0)))]) H := hP
  have hD : va_D A ([(d, .inr (0, [.ref q8, .ref q17, .ref q26, .int 0])), (q8, .inl ((ka 0), 256, .inr (.inl (fun _ => 0)))), (q17, .inl ((ka 2), 256, .inl (fun _ => 0))), (q26, .inl ((ka 1), 256, .inl (fun _ => 0)))]) := hD
  have hP9 := hP.sub (ws' := [(d, .inr (0, [.ref q8, .ref q17, .ref q26, .int (nI 0)])), (q8, .inl ((ka 0), 256, .inr (.inl (fun _ => 0)))), (q17, .inl ((ka 2), 256, .inl (fun _ => 0))), (q26, .inl ((ka 1), 256, .inl (fun _ => 0)))]) [0, 1, 2, 3] rfl
  have hD9 := hD.sub (ws' := [(d, .inr (0, [.ref q8, .ref q17, .ref q26, .int (nI 0)])), (q8, .inl ((ka 0), 256, .inr (.inl (fun _ => 0)))), (q17, .inl ((ka 2), 256, .inl (fun _ => 0))), (q26, .inl ((ka 1), 256, .inl (fun _ => 0)))]) [0, 1, 2, 3] (by decide) rfl
  exact W.vret hx hb hr (fun t9 ht hW => ⟨⟨(), rfl, trivial, q8, q17, q26, trivial, by rw [ht]; exact hP9, hD9⟩, hS.F ht⟩) hS.2.2 d_Dr_init_31
end
section
set_option maxHeartbeats 4000000 in
set_option maxRecDepth 100000 in
theorem c_Tr_has (l : Launch) (D : va_G) (ka : Nat → ClassId) (t ta tb tc : Nat) (n : Nat) (kn oc dn ld sr : Int32) (rs : Int64) (b : Int64) (hn : n ≤ 32) : Met l y_Tr_has w_Tr_has ({ frames := 0, cells := 0, slots := 0, locals := 0 }) (pR classes (tyS ka) D [.ref t, .long b] ([(t, .inr (1, [.ref ta, .ref tb, .ref tc, .int (nI n), .int kn, .int oc, .int dn, .int ld, .int sr, .long rs]))])) (vp_Si (fun r => r = (if 0 ≤ b.toInt ∧ b.toInt < n then 1 else 0))) 0 0 (fun _ => False) := by
  refine Met.ofW (cc := b_Tr_has) (maxL := 3) (ret := (some .boolean)) (by decide) rfl ?_
  intro pP eE sS mM args below meth cC s1 B hml hv
  obtain ⟨rfl, hP, hK, hN⟩ := hv
  have hx := B.exec
  have hb := B.bytes
  have hr := B.returns
  have hts := atoms_spec (ws := w_Tr_has) B.pre
  have hown : sS.vm.findClass "VersionedBlock$Transaction" = some mM.cls := findClass_of_methodNamed B.named
  have hlocks := B.notSynchronized
  have hl := lv_entry ([.ref t, .long b]) (n := 3) (Nat.le_of_ble_eq_true rfl)
  rw [lg_entry_eq]
  generalize (lg_sl ([.ref t, .long b]) ++ List.replicate (3 - (lg_sl ([.ref t, .long b])).length) Slot.unset).toArray = ls at hl ⊢
  have hl : lv_has ls 3 [(0, .ref t), (1, .long b)] := hl
  refine lv_lload_n hx hb d_Tr_has_0 rfl (lv_at hl 1 rfl) ?_
  refine lv_lconst (v := 0) hx hb d_Tr_has_1 (by decide) ?_
  refine W.lcmp hx hb d_Tr_has_2 ?_
  refine lv_if_lt (tgt := 28) hx hb d_Tr_has_3 (by decide) (fun c_3 => ?_) (fun c_3 => ?_)
  · refine lv_iconst (v := 0) hx hb d_Tr_has_28 (by decide) ?_
    exact W.zret (v := 0) hx hb hr rfl (fun t9 ht hW => ⟨0, rfl, (has_1 c_3), ht⟩) (fun _ h => by cases h) d_Tr_has_29
  · refine lv_lload_n hx hb d_Tr_has_6 rfl (lv_at hl 1 rfl) ?_
    refine lv_aload_n hx hb d_Tr_has_7 rfl (lv_at hl 0 rfl) ?_
    refine va_get (D := D) (ci := 1) (v := .int (nI n)) (C := "VersionedBlock$Transaction") (T := T_Tr) (N := 10) hx hb hts (fun w h => List.mem_cons_of_mem _ (il_Tr w h)) hown hK hP 0 rfl rfl 3 (by decide) (hts _ (List.mem_cons_of_mem _ mw_1_94)) (fun _ h9 => h9) rfl d_Tr_has_8 ?_
    refine lv_i2l (v := lN n) hx hb d_Tr_has_11 (nI_l (by omega)) ?_
    refine W.lcmp hx hb d_Tr_has_12 ?_
    refine lv_if_ge (tgt := 28) hx hb d_Tr_has_13 (by decide) (fun c_13 => ?_) (fun c_13 => ?_)
    · refine lv_iconst (v := 0) hx hb d_Tr_has_28 (by decide) ?_
      exact W.zret (v := 0) hx hb hr rfl (fun t9 ht hW => ⟨0, rfl, (has_2 hn c_13), ht⟩) (fun _ h => by cases h) d_Tr_has_29
    · refine lv_lload_n hx hb d_Tr_has_16 rfl (lv_at hl 1 rfl) ?_
      refine lv_ldc2 (own := "VersionedBlock$Transaction") (index := 34) (v := 32) hx hb hown (hts _ (List.mem_cons_of_mem _ mw_2_41)) d_Tr_has_17 ?_
      refine W.lcmp hx hb d_Tr_has_20 ?_
      refine lv_if_ge (tgt := 28) hx hb d_Tr_has_21 (by decide) (fun c_21 => ?_) (fun c_21 => ?_)
      · refine lv_iconst (v := 0) hx hb d_Tr_has_28 (by decide) ?_
        exact W.zret (v := 0) hx hb hr rfl (fun t9 ht hW => ⟨0, rfl, (has_3 hn c_21), ht⟩) (fun _ h => by cases h) d_Tr_has_29
      · refine lv_iconst (v := 1) hx hb d_Tr_has_24 (by decide) ?_
        refine lv_goto (tgt := 29) hx hb d_Tr_has_25 (by decide) ?_
        exact W.zret (v := 1) hx hb hr rfl (fun t9 ht hW => ⟨1, rfl, (has_4 hn c_3 c_13), ht⟩) (fun _ h => by cases h) d_Tr_has_29
set_option maxHeartbeats 4000000 in
set_option maxRecDepth 100000 in
theorem c_Tr_operationAt (l : Launch) (D : va_G) (ka : Nat → ClassId) (t ta tb tc : Nat) (n j : Nat) (kn oc dn ld sr : Int32) (rs : Int64) (ops : Nat → Int32) (hn : n ≤ 32) (hj : j < n) : Met l y_Tr_operationAt w_Tr_operationAt ({ frames := 1, cells := 0, slots := 0, locals := 22 }) (pR classes (tyS ka) D [.ref t, .int (nI j)] ([(t, .inr (1, [.ref ta, .ref tb, .ref tc, .int (nI n), .int kn, .int oc, .int dn, .int ld, .int sr, .long rs])), (ta, .inl ((ka 1), 32, .inl ops))])) (vp_Si (fun r => r = (ops j))) 0 0 (fun _ => False) := by
  refine Met.ofW (cc := b_Tr_operationAt) (maxL := 2) (ret := (some .int)) (by decide) rfl ?_
  intro pP eE sS mM args below meth cC s1 B hml hv
  obtain ⟨rfl, hP, hK, hN⟩ := hv
  have hx := B.exec
  have hb := B.bytes
  have hr := B.returns
  have hts := atoms_spec (ws := w_Tr_operationAt) B.pre
  have hown : sS.vm.findClass "VersionedBlock$Transaction" = some mM.cls := findClass_of_methodNamed B.named
  have hlocks := B.notSynchronized
  have hl := lv_entry ([.ref t, .int (nI j)]) (n := 2) (Nat.le_of_ble_eq_true rfl)
  rw [lg_entry_eq]
  generalize (lg_sl ([.ref t, .int (nI j)]) ++ List.replicate (2 - (lg_sl ([.ref t, .int (nI j)])).length) Slot.unset).toArray = ls at hl ⊢
  have hl : lv_has ls 2 [(0, .ref t), (1, .int (nI j))] := hl
  refine lv_aload_n hx hb d_Tr_operationAt_0 rfl (lv_at hl 0 rfl) ?_
  refine lv_iload_n hx hb d_Tr_operationAt_1 rfl (lv_at hl 1 rfl) ?_
  refine lv_i2l (v := lN j) hx hb d_Tr_operationAt_2 (nI_l (by omega)) ?_
  have hPc := hP.sub (ws' := [(t, .inr (1, [.ref ta, .ref tb, .ref tc, .int (nI n), .int kn, .int oc, .int dn, .int ld, .int sr, .long rs]))]) [0] rfl
  refine vp_callSi (run_of (va_runV (As := [.long (lN j)]) (rest := []) ⟨hx, hb, hml, hown, hts⟩ (c_Tr_has l D ka t ta tb tc n kn oc dn ld sr rs (lN j) hn) ⟨callB_of 1 hts (gd_tb mw_2_40) rfl rfl rfl (hts _ (List.mem_cons_of_mem _ mw_1_5)) (hts _ (List.mem_cons_of_mem _ mw_2_50)) (by decide +kernel) ⟨Nat.le_of_ble_eq_true rfl, Nat.le_of_ble_eq_true rfl⟩, (hts _ (List.mem_cons_of_mem _ mw_2_38)), (hts _ (List.mem_cons_of_mem _ mw_2_39))⟩ ⟨pR_blind, va_recv hK hPc (ci := 1) (q0 := 0) rfl rfl, pR_pre hK hN hPc⟩ rfl rfl hl.1 rfl (lv_room (Nat.le_of_ble_eq_true rfl)) d_Tr_operationAt_3 ⟨Nat.le_of_ble_eq_true rfl, Nat.le_of_ble_eq_true rfl⟩)) (fun r_3 hr_3 => ?_)
  refine lv_if_eq (tgt := 18) hx hb d_Tr_operationAt_6 (by decide) (fun c_6 => absurd c_6 (by rw [hr_3, lN_toInt (by omega), if_pos (by omega)]; decide)) (fun c_6 => ?_)
  refine lv_aload_n hx hb d_Tr_operationAt_9 rfl (lv_at hl 0 rfl) ?_
  refine va_get (D := D) (ci := 1) (v := .ref ta) (C := "VersionedBlock$Transaction") (T := T_Tr) (N := 10) hx hb hts (fun w h => List.mem_cons_of_mem _ (il_Tr w h)) hown hK hP 0 rfl rfl 0 (by decide) (hts _ (List.mem_cons_of_mem _ mw_1_91)) (fun _ h9 => h9) rfl d_Tr_operationAt_10 ?_
  refine lv_iload_n hx hb d_Tr_operationAt_13 rfl (lv_at hl 1 rfl) ?_
  refine my_iald hx hb hK hP 1 1 rfl rfl (k := j) (by omega) (Nat.le_of_ble_eq_true rfl) d_Tr_operationAt_14 ?_
  refine lv_goto (tgt := 19) hx hb d_Tr_operationAt_15 (by decide) ?_
  exact W.iret (v := (ops j)) hx hb hr (fun t9 ht hW => ⟨(ops j), rfl, rfl, ht⟩) (fun _ h => by cases h) d_Tr_operationAt_19
set_option maxHeartbeats 4000000 in
set_option maxRecDepth 100000 in
theorem c_Tr_firstAt (l : Launch) (D : va_G) (ka : Nat → ClassId) (t ta tb tc : Nat) (n j : Nat) (kn oc dn ld sr : Int32) (rs : Int64) (fs : Nat → Int32) (hn : n ≤ 32) (hj : j < n) : Met l y_Tr_firstAt w_Tr_firstAt ({ frames := 1, cells := 0, slots := 0, locals := 22 }) (pR classes (tyS ka) D [.ref t, .int (nI j)] ([(t, .inr (1, [.ref ta, .ref tb, .ref tc, .int (nI n), .int kn, .int oc, .int dn, .int ld, .int sr, .long rs])), (tb, .inl ((ka 1), 32, .inl fs))])) (vp_Si (fun r => r = (fs j))) 0 0 (fun _ => False) := by
  refine Met.ofW (cc := b_Tr_firstAt) (maxL := 2) (ret := (some .int)) (by decide) rfl ?_
  intro pP eE sS mM args below meth cC s1 B hml hv
  obtain ⟨rfl, hP, hK, hN⟩ := hv
  have hx := B.exec
  have hb := B.bytes
  have hr := B.returns
  have hts := atoms_spec (ws := w_Tr_firstAt) B.pre
  have hown : sS.vm.findClass "VersionedBlock$Transaction" = some mM.cls := findClass_of_methodNamed B.named
  have hlocks := B.notSynchronized
  have hl := lv_entry ([.ref t, .int (nI j)]) (n := 2) (Nat.le_of_ble_eq_true rfl)
  rw [lg_entry_eq]
  generalize (lg_sl ([.ref t, .int (nI j)]) ++ List.replicate (2 - (lg_sl ([.ref t, .int (nI j)])).length) Slot.unset).toArray = ls at hl ⊢
  have hl : lv_has ls 2 [(0, .ref t), (1, .int (nI j))] := hl
  refine lv_aload_n hx hb d_Tr_firstAt_0 rfl (lv_at hl 0 rfl) ?_
  refine lv_iload_n hx hb d_Tr_firstAt_1 rfl (lv_at hl 1 rfl) ?_
  refine lv_i2l (v := lN j) hx hb d_Tr_firstAt_2 (nI_l (by omega)) ?_
  have hPc := hP.sub (ws' := [(t, .inr (1, [.ref ta, .ref tb, .ref tc, .int (nI n), .int kn, .int oc, .int dn, .int ld, .int sr, .long rs]))]) [0] rfl
  refine vp_callSi (run_of (va_runV (As := [.long (lN j)]) (rest := []) ⟨hx, hb, hml, hown, hts⟩ (c_Tr_has l D ka t ta tb tc n kn oc dn ld sr rs (lN j) hn) ⟨callB_of 1 hts (gd_tb mw_2_40) rfl rfl rfl (hts _ (List.mem_cons_of_mem _ mw_1_5)) (hts _ (List.mem_cons_of_mem _ mw_2_50)) (by decide +kernel) ⟨Nat.le_of_ble_eq_true rfl, Nat.le_of_ble_eq_true rfl⟩, (hts _ (List.mem_cons_of_mem _ mw_2_38)), (hts _ (List.mem_cons_of_mem _ mw_2_39))⟩ ⟨pR_blind, va_recv hK hPc (ci := 1) (q0 := 0) rfl rfl, pR_pre hK hN hPc⟩ rfl rfl hl.1 rfl (lv_room (Nat.le_of_ble_eq_true rfl)) d_Tr_firstAt_3 ⟨Nat.le_of_ble_eq_true rfl, Nat.le_of_ble_eq_true rfl⟩)) (fun r_3 hr_3 => ?_)
  refine lv_if_eq (tgt := 18) hx hb d_Tr_firstAt_6 (by decide) (fun c_6 => absurd c_6 (by rw [hr_3, lN_toInt (by omega), if_pos (by omega)]; decide)) (fun c_6 => ?_)
  refine lv_aload_n hx hb d_Tr_firstAt_9 rfl (lv_at hl 0 rfl) ?_
  refine va_get (D := D) (ci := 1) (v := .ref tb) (C := "VersionedBlock$Transaction") (T := T_Tr) (N := 10) hx hb hts (fun w h => List.mem_cons_of_mem _ (il_Tr w h)) hown hK hP 0 rfl rfl 1 (by decide) (hts _ (List.mem_cons_of_mem _ mw_1_92)) (fun _ h9 => h9) rfl d_Tr_firstAt_10 ?_
  refine lv_iload_n hx hb d_Tr_firstAt_13 rfl (lv_at hl 1 rfl) ?_
  refine my_iald hx hb hK hP 1 1 rfl rfl (k := j) (by omega) (Nat.le_of_ble_eq_true rfl) d_Tr_firstAt_14 ?_
  refine lv_goto (tgt := 19) hx hb d_Tr_firstAt_15 (by decide) ?_
  exact W.iret (v := (fs j)) hx hb hr (fun t9 ht hW => ⟨(fs j), rfl, rfl, ht⟩) (fun _ h => by cases h) d_Tr_firstAt_19
set_option maxHeartbeats 4000000 in
set_option maxRecDepth 100000 in
theorem c_Tr_secondAt (l : Launch) (D : va_G) (ka : Nat → ClassId) (t ta tb tc : Nat) (n j : Nat) (kn oc dn ld sr : Int32) (rs : Int64) (ss : Nat → Int64) (hn : n ≤ 32) (hj : j < n) : Met l y_Tr_secondAt w_Tr_secondAt ({ frames := 1, cells := 0, slots := 0, locals := 22 }) (pR classes (tyS ka) D [.ref t, .int (nI j)] ([(t, .inr (1, [.ref ta, .ref tb, .ref tc, .int (nI n), .int kn, .int oc, .int dn, .int ld, .int sr, .long rs])), (tc, .inl ((ka 0), 32, .inr (.inl ss)))])) (vp_Sl (fun r => r = (ss j))) 0 0 (fun _ => False) := by
  refine Met.ofW (cc := b_Tr_secondAt) (maxL := 2) (ret := (some .long)) (by decide) rfl ?_
  intro pP eE sS mM args below meth cC s1 B hml hv
  obtain ⟨rfl, hP, hK, hN⟩ := hv
  have hx := B.exec
  have hb := B.bytes
  have hr := B.returns
  have hts := atoms_spec (ws := w_Tr_secondAt) B.pre
  have hown : sS.vm.findClass "VersionedBlock$Transaction" = some mM.cls := findClass_of_methodNamed B.named
  have hlocks := B.notSynchronized
  have hl := lv_entry ([.ref t, .int (nI j)]) (n := 2) (Nat.le_of_ble_eq_true rfl)
  rw [lg_entry_eq]
  generalize (lg_sl ([.ref t, .int (nI j)]) ++ List.replicate (2 - (lg_sl ([.ref t, .int (nI j)])).length) Slot.unset).toArray = ls at hl ⊢
  have hl : lv_has ls 2 [(0, .ref t), (1, .int (nI j))] := hl
  refine lv_aload_n hx hb d_Tr_secondAt_0 rfl (lv_at hl 0 rfl) ?_
  refine lv_iload_n hx hb d_Tr_secondAt_1 rfl (lv_at hl 1 rfl) ?_
  refine lv_i2l (v := lN j) hx hb d_Tr_secondAt_2 (nI_l (by omega)) ?_
  have hPc := hP.sub (ws' := [(t, .inr (1, [.ref ta, .ref tb, .ref tc, .int (nI n), .int kn, .int oc, .int dn, .int ld, .int sr, .long rs]))]) [0] rfl
  refine vp_callSi (run_of (va_runV (As := [.long (lN j)]) (rest := []) ⟨hx, hb, hml, hown, hts⟩ (c_Tr_has l D ka t ta tb tc n kn oc dn ld sr rs (lN j) hn) ⟨callB_of 1 hts (gd_tb mw_2_40) rfl rfl rfl (hts _ (List.mem_cons_of_mem _ mw_1_5)) (hts _ (List.mem_cons_of_mem _ mw_2_50)) (by decide +kernel) ⟨Nat.le_of_ble_eq_true rfl, Nat.le_of_ble_eq_true rfl⟩, (hts _ (List.mem_cons_of_mem _ mw_2_38)), (hts _ (List.mem_cons_of_mem _ mw_2_39))⟩ ⟨pR_blind, va_recv hK hPc (ci := 1) (q0 := 0) rfl rfl, pR_pre hK hN hPc⟩ rfl rfl hl.1 rfl (lv_room (Nat.le_of_ble_eq_true rfl)) d_Tr_secondAt_3 ⟨Nat.le_of_ble_eq_true rfl, Nat.le_of_ble_eq_true rfl⟩)) (fun r_3 hr_3 => ?_)
  refine lv_if_eq (tgt := 18) hx hb d_Tr_secondAt_6 (by decide) (fun c_6 => absurd c_6 (by rw [hr_3, lN_toInt (by omega), if_pos (by omega)]; decide)) (fun c_6 => ?_)
  refine lv_aload_n hx hb d_Tr_secondAt_9 rfl (lv_at hl 0 rfl) ?_
  refine va_get (D := D) (ci := 1) (v := .ref tc) (C := "VersionedBlock$Transaction") (T := T_Tr) (N := 10) hx hb hts (fun w h => List.mem_cons_of_mem _ (il_Tr w h)) hown hK hP 0 rfl rfl 2 (by decide) (hts _ (List.mem_cons_of_mem _ mw_1_93)) (fun _ h9 => h9) rfl d_Tr_secondAt_10 ?_
  refine lv_iload_n hx hb d_Tr_secondAt_13 rfl (lv_at hl 1 rfl) ?_
  refine my_lald hx hb hK hP 1 0 rfl rfl (k := j) (by omega) (Nat.le_of_ble_eq_true rfl) d_Tr_secondAt_14 ?_
  refine lv_goto (tgt := 19) hx hb d_Tr_secondAt_15 (by decide) ?_
  exact W.lret (v := (ss j)) hx hb hr (fun t9 ht hW => ⟨(ss j), rfl, rfl, ht⟩) (fun _ h => by cases h) d_Tr_secondAt_19
set_option maxHeartbeats 4000000 in
set_option maxRecDepth 100000 in
theorem c_Tr_clear (l : Launch) (D : va_G) (ka : Nat → ClassId) (sz : Nat) (t ta tb tc : Nat) (ln : Int32) (kn oc dn ld sr : Int32) (rs : Int64)  : Met l y_Tr_clear w_Tr_clear ({ frames := 0, cells := 0, slots := 0, locals := 0 }) (pW classes (tyS ka) D [.ref t] ([(t, .inr (1, [.ref ta, .ref tb, .ref tc, .int ln, .int kn, .int oc, .int dn, .int ld, .int sr, .long rs]))]) sz) (va_Qv (fun _ : Unit => True) (fun (_ : Unit) t9 => (True) ∧ va_P D classes ([(t, .inr (1, [.ref ta, .ref tb, .ref tc, .int (nI 0), .int 0, .int oc, .int dn, .int ld, .int sr, .long rs]))]) t9.heap ∧ va_D (va_A ([(t, .inr (1, [.ref ta, .ref tb, .ref tc, .int ln, .int kn, .int oc, .int dn, .int ld, .int sr, .long rs]))]) sz) ([(t, .inr (1, [.ref ta, .ref tb, .ref tc, .int (nI 0), .int 0, .int oc, .int dn, .int ld, .int sr, .long rs]))])) (va_A ([(t, .inr (1, [.ref ta, .ref tb, .ref tc, .int ln, .int kn, .int oc, .int dn, .int ld, .int sr, .long rs]))]) sz)) 0 0 (va_A ([(t, .inr (1, [.ref ta, .ref tb, .ref tc, .int ln, .int kn, .int oc, .int dn, .int ld, .int sr, .long rs]))]) sz) := by
  refine Met.ofW (cc := b_Tr_clear) (maxL := 1) (ret := none) (by decide) rfl ?_
  intro pP eE sS mM args below meth cC s1 B hml hv
  obtain ⟨rfl, hsz, hP, hK, hN, hD0⟩ := hv
  have hx := B.exec
  have hb := B.bytes
  have hr := B.returns
  have hts := atoms_spec (ws := w_Tr_clear) B.pre
  have hown : sS.vm.findClass "VersionedBlock$Transaction" = some mM.cls := findClass_of_methodNamed B.named
  have hlocks := B.notSynchronized
  subst hsz
  have hD := hD0.self (sz := sS.heap.size)
  generalize hAe : va_A ([(t, .inr (1, [.ref ta, .ref tb, .ref tc, .int ln, .int kn, .int oc, .int dn, .int ld, .int sr, .long rs]))]) sS.heap.size = A at hD ⊢
  have hA : ∀ q : Nat, sS.heap.size ≤ q → A q := fun q h => by rw [← hAe]; exact Or.inr h
  have hS : va_S A sS.heap sS.heap [] := va_S.rf
  have hl := lv_entry ([.ref t]) (n := 1) (Nat.le_of_ble_eq_true rfl)
  rw [lg_entry_eq]
  generalize (lg_sl ([.ref t]) ++ List.replicate (1 - (lg_sl ([.ref t])).length) Slot.unset).toArray = ls at hl ⊢
  have hl : lv_has ls 1 [(0, .ref t)] := hl
  refine lv_aload_n hx hb d_Tr_clear_0 rfl (lv_at hl 0 rfl) ?_
  refine lv_iconst (v := (nI 0)) hx hb d_Tr_clear_1 (by decide) ?_
  refine va_put (D := D) (ci := 1) (v := .int (nI 0)) (ty := .int) (C := "VersionedBlock$Transaction") (T := T_Tr) (N := 10) hx hb hts (fun w h => List.mem_cons_of_mem _ (il_Tr w h)) t_Tr t_Tr_ok n_Tr hown hK hP hD hS 0 rfl rfl 3 (by decide) (hts _ (List.mem_cons_of_mem _ mw_1_94)) (fun _ h9 => h9) rfl (by decide +kernel) rfl rfl (Nat.le_of_ble_eq_true rfl) d_Tr_clear_2 (fun H locs hP hD hS => ?_)
  have hP : va_P D classes ([(t, .inr (1, [.ref ta, .ref tb, .ref tc, .int (nI 0), .int kn, .int oc, .int dn, .int ld, .int sr, .long rs]))]) H := hP
  have hD : va_D A ([(t, .inr (1, [.ref ta, .ref tb, .ref tc, .int (nI 0), .int kn, .int oc, .int dn, .int ld, .int sr, .long rs]))]) := hD
  refine lv_aload_n hx hb d_Tr_clear_5 rfl (lv_at hl 0 rfl) ?_
  refine lv_iconst (v := 0) hx hb d_Tr_clear_6 (by decide) ?_
  refine va_put (D := D) (ci := 1) (v := .int 0) (ty := .boolean) (C := "VersionedBlock$Transaction") (T := T_Tr) (N := 10) hx hb hts (fun w h => List.mem_cons_of_mem _ (il_Tr w h)) t_Tr t_Tr_ok n_Tr hown hK hP hD hS 0 rfl rfl 4 (by decide) (hts _ (List.mem_cons_of_mem _ mw_1_95)) (fun _ h9 => h9) rfl (by decide +kernel) rfl rfl (Nat.le_of_ble_eq_true rfl) d_Tr_clear_7 (fun H locs hP hD hS => ?_)
  have hP : va_P D classes ([(t, .inr (1, [.ref ta, .ref tb, .ref tc, .int (nI 0), .int 0, .int oc, .int dn, .int ld, .int sr, .long rs]))]) H := hP
  have hD : va_D A ([(t, .inr (1, [.ref ta, .ref tb, .ref tc, .int (nI 0), .int 0, .int oc, .int dn, .int ld, .int sr, .long rs]))]) := hD
  have hP9 := hP.sub (ws' := [(t, .inr (1, [.ref ta, .ref tb, .ref tc, .int (nI 0), .int 0, .int oc, .int dn, .int ld, .int sr, .long rs]))]) [0] rfl
  have hD9 := hD.sub (ws' := [(t, .inr (1, [.ref ta, .ref tb, .ref tc, .int (nI 0), .int 0, .int oc, .int dn, .int ld, .int sr, .long rs]))]) [0] (by decide) rfl
  exact W.vret hx hb hr (fun t9 ht hW => ⟨⟨(), rfl, trivial, trivial, by rw [ht]; exact hP9, hD9⟩, hS.F ht⟩) hS.2.2 d_Tr_clear_10
set_option maxHeartbeats 4000000 in
set_option maxRecDepth 100000 in
theorem c_Tr_append_full (l : Launch) (D : va_G) (ka : Nat → ClassId) (t ta tb tc : Nat) (kn oc dn ld sr : Int32) (rs : Int64) (op a : Int32) (b : Int64)  : Met l y_Tr_append w_Tr_append ({ frames := 0, cells := 0, slots := 0, locals := 0 }) (pR classes (tyS ka) D [.ref t, .int op, .int a, .long b] ([(t, .inr (1, [.ref ta, .ref tb, .ref tc, .int (nI 32), .int kn, .int oc, .int dn, .int ld, .int sr, .long rs]))])) (vp_Si (fun r => r = (-3))) 0 0 (fun _ => False) := by
  refine Met.ofW (cc := b_Tr_append) (maxL := 5) (ret := (some .int)) (by decide) rfl ?_
  intro pP eE sS mM args below meth cC s1 B hml hv
  obtain ⟨rfl, hP, hK, hN⟩ := hv
  have hx := B.exec
  have hb := B.bytes
  have hr := B.returns
  have hts := atoms_spec (ws := w_Tr_append) B.pre
  have hown : sS.vm.findClass "VersionedBlock$Transaction" = some mM.cls := findClass_of_methodNamed B.named
  have hlocks := B.notSynchronized
  have hl := lv_entry ([.ref t, .int op, .int a, .long b]) (n := 5) (Nat.le_of_ble_eq_true rfl)
  rw [lg_entry_eq]
  generalize (lg_sl ([.ref t, .int op, .int a, .long b]) ++ List.replicate (5 - (lg_sl ([.ref t, .int op, .int a, .long b])).length) Slot.unset).toArray = ls at hl ⊢
  have hl : lv_has ls 5 [(0, .ref t), (1, .int op), (2, .int a), (3, .long b)] := hl
  refine lv_aload_n hx hb d_Tr_append_0 rfl (lv_at hl 0 rfl) ?_
  refine va_get (D := D) (ci := 1) (v := .int (nI 32)) (C := "VersionedBlock$Transaction") (T := T_Tr) (N := 10) hx hb hts (fun w h => List.mem_cons_of_mem _ (il_Tr w h)) hown hK hP 0 rfl rfl 3 (by decide) (hts _ (List.mem_cons_of_mem _ mw_1_94)) (fun _ h9 => h9) rfl d_Tr_append_1 ?_
  refine lv_bipush (v := (nI 32)) hx hb d_Tr_append_4 (by decide) ?_
  refine lv_icmp_lt (tgt := 12) hx hb d_Tr_append_6 (by decide) (fun c_6 => absurd c_6 (nI_nlt (by decide) (by decide))) (fun c_6 => ?_)
  refine lv_bipush (v := (-3)) hx hb d_Tr_append_9 (by decide) ?_
  exact W.iret (v := (-3)) hx hb hr (fun t9 ht hW => ⟨(-3), rfl, rfl, ht⟩) (fun _ h => by cases h) d_Tr_append_11
set_option maxHeartbeats 4000000 in
set_option maxRecDepth 100000 in
theorem c_Tr_append (l : Launch) (D : va_G) (ka : Nat → ClassId) (sz : Nat) (t ta tb tc : Nat) (n : Nat) (kn oc dn ld sr : Int32) (rs : Int64) (ops fs : Nat → Int32) (ss : Nat → Int64) (op a : Int32) (b : Int64) (hn : n < 32) : Met l y_Tr_append w_Tr_append ({ frames := 1, cells := 0, slots := 0, locals := 21 }) (pW classes (tyS ka) D [.ref t, .int op, .int a, .long b] ([(t, .inr (1, [.ref ta, .ref tb, .ref tc, .int (nI n), .int kn, .int oc, .int dn, .int ld, .int sr, .long rs])), (ta, .inl ((ka 1), 32, .inl ops)), (tb, .inl ((ka 1), 32, .inl fs)), (tc, .inl ((ka 0), 32, .inr (.inl ss)))]) sz) (va_Qi (fun (r : Int32) (_ : Unit) => r = (nI (n + 1))) (fun (_ : Unit) t9 => (True) ∧ va_P D classes ([(t, .inr (1, [.ref ta, .ref tb, .ref tc, .int (nI (n + 1)), .int 0, .int oc, .int dn, .int ld, .int sr, .long rs])), (ta, .inl ((ka 1), 32, .inl (upd ops n op))), (tb, .inl ((ka 1), 32, .inl (upd fs n (nI (sp_rg a.toInt64))))), (tc, .inl ((ka 0), 32, .inr (.inl (vp_updL ss n b))))]) t9.heap ∧ va_D (va_A ([(t, .inr (1, [.ref ta, .ref tb, .ref tc, .int (nI n), .int kn, .int oc, .int dn, .int ld, .int sr, .long rs])), (ta, .inl ((ka 1), 32, .inl ops)), (tb, .inl ((ka 1), 32, .inl fs)), (tc, .inl ((ka 0), 32, .inr (.inl ss)))]) sz) ([(t, .inr (1, [.ref ta, .ref tb, .ref tc, .int (nI (n + 1)), .int 0, .int oc, .int dn, .int ld, .int sr, .long rs])), (ta, .inl ((ka 1), 32, .inl (upd ops n op))), (tb, .inl ((ka 1), 32, .inl (upd fs n (nI (sp_rg a.toInt64))))), (tc, .inl ((ka 0), 32, .inr (.inl (vp_updL ss n b))))])) (va_A ([(t, .inr (1, [.ref ta, .ref tb, .ref tc, .int (nI n), .int kn, .int oc, .int dn, .int ld, .int sr, .long rs])), (ta, .inl ((ka 1), 32, .inl ops)), (tb, .inl ((ka 1), 32, .inl fs)), (tc, .inl ((ka 0), 32, .inr (.inl ss)))]) sz)) 0 0 (va_A ([(t, .inr (1, [.ref ta, .ref tb, .ref tc, .int (nI n), .int kn, .int oc, .int dn, .int ld, .int sr, .long rs])), (ta, .inl ((ka 1), 32, .inl ops)), (tb, .inl ((ka 1), 32, .inl fs)), (tc, .inl ((ka 0), 32, .inr (.inl ss)))]) sz) := by
  refine Met.ofW (cc := b_Tr_append) (maxL := 5) (ret := (some .int)) (by decide) rfl ?_
  intro pP eE sS mM args below meth cC s1 B hml hv
  obtain ⟨rfl, hsz, hP, hK, hN, hD0⟩ := hv
  have hx := B.exec
  have hb := B.bytes
  have hr := B.returns
  have hts := atoms_spec (ws := w_Tr_append) B.pre
  have hown : sS.vm.findClass "VersionedBlock$Transaction" = some mM.cls := findClass_of_methodNamed B.named
  have hlocks := B.notSynchronized
  subst hsz
  have hD := hD0.self (sz := sS.heap.size)
  generalize hAe : va_A ([(t, .inr (1, [.ref ta, .ref tb, .ref tc, .int (nI n), .int kn, .int oc, .int dn, .int ld, .int sr, .long rs])), (ta, .inl ((ka 1), 32, .inl ops)), (tb, .inl ((ka 1), 32, .inl fs)), (tc, .inl ((ka 0), 32, .inr (.inl ss)))]) sS.heap.size = A at hD ⊢
  have hA : ∀ q : Nat, sS.heap.size ≤ q → A q := fun q h => by rw [← hAe]; exact Or.inr h
  have hS : va_S A sS.heap sS.heap [] := va_S.rf
  have hl := lv_entry ([.ref t, .int op, .int a, .long b]) (n := 5) (Nat.le_of_ble_eq_true rfl)
  rw [lg_entry_eq]
  generalize (lg_sl ([.ref t, .int op, .int a, .long b]) ++ List.replicate (5 - (lg_sl ([.ref t, .int op, .int a, .long b])).length) Slot.unset).toArray = ls at hl ⊢
  have hl : lv_has ls 5 [(0, .ref t), (1, .int op), (2, .int a), (3, .long b)] := hl
  refine lv_aload_n hx hb d_Tr_append_0 rfl (lv_at hl 0 rfl) ?_
  refine va_get (D := D) (ci := 1) (v := .int (nI n)) (C := "VersionedBlock$Transaction") (T := T_Tr) (N := 10) hx hb hts (fun w h => List.mem_cons_of_mem _ (il_Tr w h)) hown hK hP 0 rfl rfl 3 (by decide) (hts _ (List.mem_cons_of_mem _ mw_1_94)) (fun _ h9 => h9) rfl d_Tr_append_1 ?_
  refine lv_bipush (v := (nI 32)) hx hb d_Tr_append_4 (by decide) ?_
  refine lv_icmp_lt (tgt := 12) hx hb d_Tr_append_6 (by decide) (fun c_6 => ?_) (fun c_6 => absurd (nI_lt hn (by decide)) c_6)
  refine lv_aload_n hx hb d_Tr_append_12 rfl (lv_at hl 0 rfl) ?_
  refine va_get (D := D) (ci := 1) (v := .ref ta) (C := "VersionedBlock$Transaction") (T := T_Tr) (N := 10) hx hb hts (fun w h => List.mem_cons_of_mem _ (il_Tr w h)) hown hK hP 0 rfl rfl 0 (by decide) (hts _ (List.mem_cons_of_mem _ mw_1_91)) (fun _ h9 => h9) rfl d_Tr_append_13 ?_
  refine lv_aload_n hx hb d_Tr_append_16 rfl (lv_at hl 0 rfl) ?_
  refine va_get (D := D) (ci := 1) (v := .int (nI n)) (C := "VersionedBlock$Transaction") (T := T_Tr) (N := 10) hx hb hts (fun w h => List.mem_cons_of_mem _ (il_Tr w h)) hown hK hP 0 rfl rfl 3 (by decide) (hts _ (List.mem_cons_of_mem _ mw_1_94)) (fun _ h9 => h9) rfl d_Tr_append_17 ?_
  refine lv_iload_n hx hb d_Tr_append_20 rfl (lv_at hl 1 rfl) ?_
  refine my_iast hx hb hK hP hD hS 1 1 rfl rfl (k := n) hn (Nat.le_of_ble_eq_true rfl) d_Tr_append_21 (fun H locs hP hD hS => ?_)
  have hP : va_P D classes ([(t, .inr (1, [.ref ta, .ref tb, .ref tc, .int (nI n), .int kn, .int oc, .int dn, .int ld, .int sr, .long rs])), (ta, .inl ((ka 1), 32, .inl (upd ops n op))), (tb, .inl ((ka 1), 32, .inl fs)), (tc, .inl ((ka 0), 32, .inr (.inl ss)))]) H := hP
  have hD : va_D A ([(t, .inr (1, [.ref ta, .ref tb, .ref tc, .int (nI n), .int kn, .int oc, .int dn, .int ld, .int sr, .long rs])), (ta, .inl ((ka 1), 32, .inl (upd ops n op))), (tb, .inl ((ka 1), 32, .inl fs)), (tc, .inl ((ka 0), 32, .inr (.inl ss)))]) := hD
  refine lv_aload_n hx hb d_Tr_append_22 rfl (lv_at hl 0 rfl) ?_
  refine va_get (D := D) (ci := 1) (v := .ref tb) (C := "VersionedBlock$Transaction") (T := T_Tr) (N := 10) hx hb hts (fun w h => List.mem_cons_of_mem _ (il_Tr w h)) hown hK hP 0 rfl rfl 1 (by decide) (hts _ (List.mem_cons_of_mem _ mw_1_92)) (fun _ h9 => h9) rfl d_Tr_append_23 ?_
  refine lv_aload_n hx hb d_Tr_append_26 rfl (lv_at hl 0 rfl) ?_
  refine va_get (D := D) (ci := 1) (v := .int (nI n)) (C := "VersionedBlock$Transaction") (T := T_Tr) (N := 10) hx hb hts (fun w h => List.mem_cons_of_mem _ (il_Tr w h)) hown hK hP 0 rfl rfl 3 (by decide) (hts _ (List.mem_cons_of_mem _ mw_1_94)) (fun _ h9 => h9) rfl d_Tr_append_27 ?_
  refine lv_iload_n hx hb d_Tr_append_30 rfl (lv_at hl 2 rfl) ?_
  refine lv_i2l (v := a.toInt64) hx hb d_Tr_append_31 rfl ?_
  refine vp_callSi (run_of (va_runSN (As := [.long a.toInt64]) (rest := [.int (nI n), .ref tb]) ⟨hx, hb, hml, hown, hts⟩ (c_registerOf l a.toInt64 ) ⟨va_cnB (host := "VersionedBlock") 1 hts (gd_tb mw_1_141) rfl rfl rfl (kN_2 hN) (hts _ (List.mem_cons_of_mem _ mw_1_1)) (by decide +kernel) ⟨Nat.le_of_ble_eq_true rfl, Nat.le_of_ble_eq_true rfl⟩, (hts _ (List.mem_cons_of_mem _ mw_1_140)), trivial⟩ ⟨pE_blind, pE_pre hN⟩ rfl rfl hl.1 rfl (lv_room (Nat.le_of_ble_eq_true rfl)) d_Tr_append_32 ⟨Nat.le_of_ble_eq_true rfl, Nat.le_of_ble_eq_true rfl⟩)) (fun r_32 hr_32 => ?_)
  obtain rfl : r_32 = (nI (sp_rg a.toInt64)) := hr_32
  refine my_iast hx hb hK hP hD hS 2 1 rfl rfl (k := n) hn (Nat.le_of_ble_eq_true rfl) d_Tr_append_35 (fun H locs hP hD hS => ?_)
  have hP : va_P D classes ([(t, .inr (1, [.ref ta, .ref tb, .ref tc, .int (nI n), .int kn, .int oc, .int dn, .int ld, .int sr, .long rs])), (ta, .inl ((ka 1), 32, .inl (upd ops n op))), (tb, .inl ((ka 1), 32, .inl (upd fs n (nI (sp_rg a.toInt64))))), (tc, .inl ((ka 0), 32, .inr (.inl ss)))]) H := hP
  have hD : va_D A ([(t, .inr (1, [.ref ta, .ref tb, .ref tc, .int (nI n), .int kn, .int oc, .int dn, .int ld, .int sr, .long rs])), (ta, .inl ((ka 1), 32, .inl (upd ops n op))), (tb, .inl ((ka 1), 32, .inl (upd fs n (nI (sp_rg a.toInt64))))), (tc, .inl ((ka 0), 32, .inr (.inl ss)))]) := hD
  refine lv_aload_n hx hb d_Tr_append_36 rfl (lv_at hl 0 rfl) ?_
  refine va_get (D := D) (ci := 1) (v := .ref tc) (C := "VersionedBlock$Transaction") (T := T_Tr) (N := 10) hx hb hts (fun w h => List.mem_cons_of_mem _ (il_Tr w h)) hown hK hP 0 rfl rfl 2 (by decide) (hts _ (List.mem_cons_of_mem _ mw_1_93)) (fun _ h9 => h9) rfl d_Tr_append_37 ?_
  refine lv_aload_n hx hb d_Tr_append_40 rfl (lv_at hl 0 rfl) ?_
  refine va_get (D := D) (ci := 1) (v := .int (nI n)) (C := "VersionedBlock$Transaction") (T := T_Tr) (N := 10) hx hb hts (fun w h => List.mem_cons_of_mem _ (il_Tr w h)) hown hK hP 0 rfl rfl 3 (by decide) (hts _ (List.mem_cons_of_mem _ mw_1_94)) (fun _ h9 => h9) rfl d_Tr_append_41 ?_
  refine lv_lload_n hx hb d_Tr_append_44 rfl (lv_at hl 3 rfl) ?_
  refine my_last hx hb hK hP hD hS 3 0 rfl rfl (k := n) hn (Nat.le_of_ble_eq_true rfl) d_Tr_append_45 (fun H locs hP hD hS => ?_)
  have hP : va_P D classes ([(t, .inr (1, [.ref ta, .ref tb, .ref tc, .int (nI n), .int kn, .int oc, .int dn, .int ld, .int sr, .long rs])), (ta, .inl ((ka 1), 32, .inl (upd ops n op))), (tb, .inl ((ka 1), 32, .inl (upd fs n (nI (sp_rg a.toInt64))))), (tc, .inl ((ka 0), 32, .inr (.inl (vp_updL ss n b))))]) H := hP
  have hD : va_D A ([(t, .inr (1, [.ref ta, .ref tb, .ref tc, .int (nI n), .int kn, .int oc, .int dn, .int ld, .int sr, .long rs])), (ta, .inl ((ka 1), 32, .inl (upd ops n op))), (tb, .inl ((ka 1), 32, .inl (upd fs n (nI (sp_rg a.toInt64))))), (tc, .inl ((ka 0), 32, .inr (.inl (vp_updL ss n b))))]) := hD
  refine lv_aload_n hx hb d_Tr_append_46 rfl (lv_at hl 0 rfl) ?_
  refine lv_dup hx hb d_Tr_append_47 rfl ?_
  refine va_get (D := D) (ci := 1) (v := .int (nI n)) (C := "VersionedBlock$Transaction") (T := T_Tr) (N := 10) hx hb hts (fun w h => List.mem_cons_of_mem _ (il_Tr w h)) hown hK hP 0 rfl rfl 3 (by decide) (hts _ (List.mem_cons_of_mem _ mw_1_94)) (fun _ h9 => h9) rfl d_Tr_append_48 ?_
  refine lv_iconst (v := 1) hx hb d_Tr_append_51 (by decide) ?_
  refine lv_iadd hx hb d_Tr_append_52 ?_
  refine lv_topi (fun v_52 ev_52 => ?_)
  obtain rfl : v_52 = nI (n + 1) := ev_52.trans (nI_1 _)
  refine va_put (D := D) (ci := 1) (v := .int (nI (n + 1))) (ty := .int) (C := "VersionedBlock$Transaction") (T := T_Tr) (N := 10) hx hb hts (fun w h => List.mem_cons_of_mem _ (il_Tr w h)) t_Tr t_Tr_ok n_Tr hown hK hP hD hS 0 rfl rfl 3 (by decide) (hts _ (List.mem_cons_of_mem _ mw_1_94)) (fun _ h9 => h9) rfl (by decide +kernel) rfl rfl (Nat.le_of_ble_eq_true rfl) d_Tr_append_53 (fun H locs hP hD hS => ?_)
  have hP : va_P D classes ([(t, .inr (1, [.ref ta, .ref tb, .ref tc, .int (nI (n + 1)), .int kn, .int oc, .int dn, .int ld, .int sr, .long rs])), (ta, .inl ((ka 1), 32, .inl (upd ops n op))), (tb, .inl ((ka 1), 32, .inl (upd fs n (nI (sp_rg a.toInt64))))), (tc, .inl ((ka 0), 32, .inr (.inl (vp_updL ss n b))))]) H := hP
  have hD : va_D A ([(t, .inr (1, [.ref ta, .ref tb, .ref tc, .int (nI (n + 1)), .int kn, .int oc, .int dn, .int ld, .int sr, .long rs])), (ta, .inl ((ka 1), 32, .inl (upd ops n op))), (tb, .inl ((ka 1), 32, .inl (upd fs n (nI (sp_rg a.toInt64))))), (tc, .inl ((ka 0), 32, .inr (.inl (vp_updL ss n b))))]) := hD
  refine lv_aload_n hx hb d_Tr_append_56 rfl (lv_at hl 0 rfl) ?_
  refine lv_iconst (v := 0) hx hb d_Tr_append_57 (by decide) ?_
  refine va_put (D := D) (ci := 1) (v := .int 0) (ty := .boolean) (C := "VersionedBlock$Transaction") (T := T_Tr) (N := 10) hx hb hts (fun w h => List.mem_cons_of_mem _ (il_Tr w h)) t_Tr t_Tr_ok n_Tr hown hK hP hD hS 0 rfl rfl 4 (by decide) (hts _ (List.mem_cons_of_mem _ mw_1_95)) (fun _ h9 => h9) rfl (by decide +kernel) rfl rfl (Nat.le_of_ble_eq_true rfl) d_Tr_append_58 (fun H locs hP hD hS => ?_)
  have hP : va_P D classes ([(t, .inr (1, [.ref ta, .ref tb, .ref tc, .int (nI (n + 1)), .int 0, .int oc, .int dn, .int ld, .int sr, .long rs])), (ta, .inl ((ka 1), 32, .inl (upd ops n op))), (tb, .inl ((ka 1), 32, .inl (upd fs n (nI (sp_rg a.toInt64))))), (tc, .inl ((ka 0), 32, .inr (.inl (vp_updL ss n b))))]) H := hP
  have hD : va_D A ([(t, .inr (1, [.ref ta, .ref tb, .ref tc, .int (nI (n + 1)), .int 0, .int oc, .int dn, .int ld, .int sr, .long rs])), (ta, .inl ((ka 1), 32, .inl (upd ops n op))), (tb, .inl ((ka 1), 32, .inl (upd fs n (nI (sp_rg a.toInt64))))), (tc, .inl ((ka 0), 32, .inr (.inl (vp_updL ss n b))))]) := hD
  refine lv_aload_n hx hb d_Tr_append_61 rfl (lv_at hl 0 rfl) ?_
  refine va_get (D := D) (ci := 1) (v := .int (nI (n + 1))) (C := "VersionedBlock$Transaction") (T := T_Tr) (N := 10) hx hb hts (fun w h => List.mem_cons_of_mem _ (il_Tr w h)) hown hK hP 0 rfl rfl 3 (by decide) (hts _ (List.mem_cons_of_mem _ mw_1_94)) (fun _ h9 => h9) rfl d_Tr_append_62 ?_
  have hP9 := hP.sub (ws' := [(t, .inr (1, [.ref ta, .ref tb, .ref tc, .int (nI (n + 1)), .int 0, .int oc, .int dn, .int ld, .int sr, .long rs])), (ta, .inl ((ka 1), 32, .inl (upd ops n op))), (tb, .inl ((ka 1), 32, .inl (upd fs n (nI (sp_rg a.toInt64))))), (tc, .inl ((ka 0), 32, .inr (.inl (vp_updL ss n b))))]) [0, 1, 2, 3] rfl
  have hD9 := hD.sub (ws' := [(t, .inr (1, [.ref ta, .ref tb, .ref tc, .int (nI (n + 1)), .int 0, .int oc, .int dn, .int ld, .int sr, .long rs])), (ta, .inl ((ka 1), 32, .inl (upd ops n op))), (tb, .inl ((ka 1), 32, .inl (upd fs n (nI (sp_rg a.toInt64))))), (tc, .inl ((ka 0), 32, .inr (.inl (vp_updL ss n b))))]) [0, 1, 2, 3] (by decide) rfl
  exact W.iret (v := (nI (n + 1))) hx hb hr (fun t9 ht hW => ⟨⟨(nI (n + 1)), (), rfl, rfl, trivial, by rw [ht]; exact hP9, hD9⟩, hS.F ht⟩) hS.2.2 d_Tr_append_65
set_option maxHeartbeats 4000000 in
set_option maxRecDepth 100000 in
theorem c_Tr_note (l : Launch) (D : va_G) (ka : Nat → ClassId) (sz : Nat) (t ta tb tc : Nat) (ln : Int32) (kn oc dn ld sr : Int32) (rs : Int64) (oc' dn' ld' sr' : Int32) (rs' : Int64)  : Met l y_Tr_note w_Tr_note ({ frames := 0, cells := 0, slots := 0, locals := 0 }) (pW classes (tyS ka) D [.ref t, .int oc', .int dn', .int ld', .int sr', .long rs'] ([(t, .inr (1, [.ref ta, .ref tb, .ref tc, .int ln, .int kn, .int oc, .int dn, .int ld, .int sr, .long rs]))]) sz) (va_Qv (fun _ : Unit => True) (fun (_ : Unit) t9 => (True) ∧ va_P D classes ([(t, .inr (1, [.ref ta, .ref tb, .ref tc, .int ln, .int 1, .int oc', .int dn', .int ld', .int sr', .long rs']))]) t9.heap ∧ va_D (va_A ([(t, .inr (1, [.ref ta, .ref tb, .ref tc, .int ln, .int kn, .int oc, .int dn, .int ld, .int sr, .long rs]))]) sz) ([(t, .inr (1, [.ref ta, .ref tb, .ref tc, .int ln, .int 1, .int oc', .int dn', .int ld', .int sr', .long rs']))])) (va_A ([(t, .inr (1, [.ref ta, .ref tb, .ref tc, .int ln, .int kn, .int oc, .int dn, .int ld, .int sr, .long rs]))]) sz)) 0 0 (va_A ([(t, .inr (1, [.ref ta, .ref tb, .ref tc, .int ln, .int kn, .int oc, .int dn, .int ld, .int sr, .long rs]))]) sz) := by
  refine Met.ofW (cc := b_Tr_note) (maxL := 7) (ret := none) (by decide) rfl ?_
  intro pP eE sS mM args below meth cC s1 B hml hv
  obtain ⟨rfl, hsz, hP, hK, hN, hD0⟩ := hv
  have hx := B.exec
  have hb := B.bytes
  have hr := B.returns
  have hts := atoms_spec (ws := w_Tr_note) B.pre
  have hown : sS.vm.findClass "VersionedBlock$Transaction" = some mM.cls := findClass_of_methodNamed B.named
  have hlocks := B.notSynchronized
  subst hsz
  have hD := hD0.self (sz := sS.heap.size)
  generalize hAe : va_A ([(t, .inr (1, [.ref ta, .ref tb, .ref tc, .int ln, .int kn, .int oc, .int dn, .int ld, .int sr, .long rs]))]) sS.heap.size = A at hD ⊢
  have hA : ∀ q : Nat, sS.heap.size ≤ q → A q := fun q h => by rw [← hAe]; exact Or.inr h
  have hS : va_S A sS.heap sS.heap [] := va_S.rf
  have hl := lv_entry ([.ref t, .int oc', .int dn', .int ld', .int sr', .long rs']) (n := 7) (Nat.le_of_ble_eq_true rfl)
  rw [lg_entry_eq]
  generalize (lg_sl ([.ref t, .int oc', .int dn', .int ld', .int sr', .long rs']) ++ List.replicate (7 - (lg_sl ([.ref t, .int oc', .int dn', .int ld', .int sr', .long rs'])).length) Slot.unset).toArray = ls at hl ⊢
  have hl : lv_has ls 7 [(0, .ref t), (1, .int oc'), (2, .int dn'), (3, .int ld'), (4, .int sr'), (5, .long rs')] := hl
  refine lv_aload_n hx hb d_Tr_note_0 rfl (lv_at hl 0 rfl) ?_
  refine lv_iconst (v := 1) hx hb d_Tr_note_1 (by decide) ?_
  refine va_put (D := D) (ci := 1) (v := .int 1) (ty := .boolean) (C := "VersionedBlock$Transaction") (T := T_Tr) (N := 10) hx hb hts (fun w h => List.mem_cons_of_mem _ (il_Tr w h)) t_Tr t_Tr_ok n_Tr hown hK hP hD hS 0 rfl rfl 4 (by decide) (hts _ (List.mem_cons_of_mem _ mw_1_95)) (fun _ h9 => h9) rfl (by decide +kernel) rfl rfl (Nat.le_of_ble_eq_true rfl) d_Tr_note_2 (fun H locs hP hD hS => ?_)
  have hP : va_P D classes ([(t, .inr (1, [.ref ta, .ref tb, .ref tc, .int ln, .int 1, .int oc, .int dn, .int ld, .int sr, .long rs]))]) H := hP
  have hD : va_D A ([(t, .inr (1, [.ref ta, .ref tb, .ref tc, .int ln, .int 1, .int oc, .int dn, .int ld, .int sr, .long rs]))]) := hD
  refine lv_aload_n hx hb d_Tr_note_5 rfl (lv_at hl 0 rfl) ?_
  refine lv_iload_n hx hb d_Tr_note_6 rfl (lv_at hl 1 rfl) ?_
  refine va_put (D := D) (ci := 1) (v := .int oc') (ty := .int) (C := "VersionedBlock$Transaction") (T := T_Tr) (N := 10) hx hb hts (fun w h => List.mem_cons_of_mem _ (il_Tr w h)) t_Tr t_Tr_ok n_Tr hown hK hP hD hS 0 rfl rfl 5 (by decide) (hts _ (List.mem_cons_of_mem _ mw_1_96)) (fun _ h9 => h9) rfl (by decide +kernel) rfl rfl (Nat.le_of_ble_eq_true rfl) d_Tr_note_7 (fun H locs hP hD hS => ?_)
  have hP : va_P D classes ([(t, .inr (1, [.ref ta, .ref tb, .ref tc, .int ln, .int 1, .int oc', .int dn, .int ld, .int sr, .long rs]))]) H := hP
  have hD : va_D A ([(t, .inr (1, [.ref ta, .ref tb, .ref tc, .int ln, .int 1, .int oc', .int dn, .int ld, .int sr, .long rs]))]) := hD
  refine lv_aload_n hx hb d_Tr_note_10 rfl (lv_at hl 0 rfl) ?_
  refine lv_iload_n hx hb d_Tr_note_11 rfl (lv_at hl 2 rfl) ?_
  refine va_put (D := D) (ci := 1) (v := .int dn') (ty := .int) (C := "VersionedBlock$Transaction") (T := T_Tr) (N := 10) hx hb hts (fun w h => List.mem_cons_of_mem _ (il_Tr w h)) t_Tr t_Tr_ok n_Tr hown hK hP hD hS 0 rfl rfl 6 (by decide) (hts _ (List.mem_cons_of_mem _ mw_1_97)) (fun _ h9 => h9) rfl (by decide +kernel) rfl rfl (Nat.le_of_ble_eq_true rfl) d_Tr_note_12 (fun H locs hP hD hS => ?_)
  have hP : va_P D classes ([(t, .inr (1, [.ref ta, .ref tb, .ref tc, .int ln, .int 1, .int oc', .int dn', .int ld, .int sr, .long rs]))]) H := hP
  have hD : va_D A ([(t, .inr (1, [.ref ta, .ref tb, .ref tc, .int ln, .int 1, .int oc', .int dn', .int ld, .int sr, .long rs]))]) := hD
  refine lv_aload_n hx hb d_Tr_note_15 rfl (lv_at hl 0 rfl) ?_
  refine lv_iload_n hx hb d_Tr_note_16 rfl (lv_at hl 3 rfl) ?_
  refine va_put (D := D) (ci := 1) (v := .int ld') (ty := .int) (C := "VersionedBlock$Transaction") (T := T_Tr) (N := 10) hx hb hts (fun w h => List.mem_cons_of_mem _ (il_Tr w h)) t_Tr t_Tr_ok n_Tr hown hK hP hD hS 0 rfl rfl 7 (by decide) (hts _ (List.mem_cons_of_mem _ mw_1_98)) (fun _ h9 => h9) rfl (by decide +kernel) rfl rfl (Nat.le_of_ble_eq_true rfl) d_Tr_note_17 (fun H locs hP hD hS => ?_)
  have hP : va_P D classes ([(t, .inr (1, [.ref ta, .ref tb, .ref tc, .int ln, .int 1, .int oc', .int dn', .int ld', .int sr, .long rs]))]) H := hP
  have hD : va_D A ([(t, .inr (1, [.ref ta, .ref tb, .ref tc, .int ln, .int 1, .int oc', .int dn', .int ld', .int sr, .long rs]))]) := hD
  refine lv_aload_n hx hb d_Tr_note_20 rfl (lv_at hl 0 rfl) ?_
  refine lv_iload hx hb d_Tr_note_21 (lv_at hl 4 rfl) ?_
  refine va_put (D := D) (ci := 1) (v := .int sr') (ty := .int) (C := "VersionedBlock$Transaction") (T := T_Tr) (N := 10) hx hb hts (fun w h => List.mem_cons_of_mem _ (il_Tr w h)) t_Tr t_Tr_ok n_Tr hown hK hP hD hS 0 rfl rfl 8 (by decide) (hts _ (List.mem_cons_of_mem _ mw_1_99)) (fun _ h9 => h9) rfl (by decide +kernel) rfl rfl (Nat.le_of_ble_eq_true rfl) d_Tr_note_23 (fun H locs hP hD hS => ?_)
  have hP : va_P D classes ([(t, .inr (1, [.ref ta, .ref tb, .ref tc, .int ln, .int 1, .int oc', .int dn', .int ld', .int sr', .long rs]))]) H := hP
  have hD : va_D A ([(t, .inr (1, [.ref ta, .ref tb, .ref tc, .int ln, .int 1, .int oc', .int dn', .int ld', .int sr', .long rs]))]) := hD
  refine lv_aload_n hx hb d_Tr_note_26 rfl (lv_at hl 0 rfl) ?_
  refine lv_lload hx hb d_Tr_note_27 (lv_at hl 5 rfl) ?_
  refine va_put (D := D) (ci := 1) (v := .long rs') (ty := .long) (C := "VersionedBlock$Transaction") (T := T_Tr) (N := 10) hx hb hts (fun w h => List.mem_cons_of_mem _ (il_Tr w h)) t_Tr t_Tr_ok n_Tr hown hK hP hD hS 0 rfl rfl 9 (by decide) (hts _ (List.mem_cons_of_mem _ mw_1_100)) (fun _ h9 => h9) rfl (by decide +kernel) rfl rfl (Nat.le_of_ble_eq_true rfl) d_Tr_note_29 (fun H locs hP hD hS => ?_)
  have hP : va_P D classes ([(t, .inr (1, [.ref ta, .ref tb, .ref tc, .int ln, .int 1, .int oc', .int dn', .int ld', .int sr', .long rs']))]) H := hP
  have hD : va_D A ([(t, .inr (1, [.ref ta, .ref tb, .ref tc, .int ln, .int 1, .int oc', .int dn', .int ld', .int sr', .long rs']))]) := hD
  have hP9 := hP.sub (ws' := [(t, .inr (1, [.ref ta, .ref tb, .ref tc, .int ln, .int 1, .int oc', .int dn', .int ld', .int sr', .long rs']))]) [0] rfl
  have hD9 := hD.sub (ws' := [(t, .inr (1, [.ref ta, .ref tb, .ref tc, .int ln, .int 1, .int oc', .int dn', .int ld', .int sr', .long rs']))]) [0] (by decide) rfl
  exact W.vret hx hb hr (fun t9 ht hW => ⟨⟨(), rfl, trivial, trivial, by rw [ht]; exact hP9, hD9⟩, hS.F ht⟩) hS.2.2 d_Tr_note_32
set_option maxHeartbeats 4000000 in
set_option maxRecDepth 100000 in
theorem c_Tr_tell (l : Launch) (D : va_G) (ka : Nat → ClassId) (t ta tb tc : Nat) (ln : Int32) (kn oc dn ld sr : Int32) (rs : Int64) (what : Int32)  : Met l y_Tr_tell w_Tr_tell ({ frames := 0, cells := 0, slots := 0, locals := 0 }) (pR classes (tyS ka) D [.ref t, .int what] ([(t, .inr (1, [.ref ta, .ref tb, .ref tc, .int ln, .int kn, .int oc, .int dn, .int ld, .int sr, .long rs]))])) (vp_Si (fun r => r = (tl_ans kn oc dn ld sr what))) 0 0 (fun _ => False) := by
  refine Met.ofW (cc := b_Tr_tell) (maxL := 2) (ret := (some .int)) (by decide) rfl ?_
  intro pP eE sS mM args below meth cC s1 B hml hv
  obtain ⟨rfl, hP, hK, hN⟩ := hv
  have hx := B.exec
  have hb := B.bytes
  have hr := B.returns
  have hts := atoms_spec (ws := w_Tr_tell) B.pre
  have hown : sS.vm.findClass "VersionedBlock$Transaction" = some mM.cls := findClass_of_methodNamed B.named
  have hlocks := B.notSynchronized
  have hl := lv_entry ([.ref t, .int what]) (n := 2) (Nat.le_of_ble_eq_true rfl)
  rw [lg_entry_eq]
  generalize (lg_sl ([.ref t, .int what]) ++ List.replicate (2 - (lg_sl ([.ref t, .int what])).length) Slot.unset).toArray = ls at hl ⊢
  have hl : lv_has ls 2 [(0, .ref t), (1, .int what)] := hl
  refine lv_iload_n hx hb d_Tr_tell_0 rfl (lv_at hl 1 rfl) ?_
  refine lv_if_lt (tgt := 9) hx hb d_Tr_tell_1 (by decide) (fun c_1 => ?_) (fun c_1 => ?_)
  · refine lv_iconst (v := (-1)) hx hb d_Tr_tell_9 (by decide) ?_
    exact W.iret (v := (-1)) hx hb hr (fun t9 ht hW => ⟨(-1), rfl, (by unfold tl_ans; rw [if_pos (Or.inl c_1)]), ht⟩) (fun _ h => by cases h) d_Tr_tell_10
  · refine lv_iload_n hx hb d_Tr_tell_4 rfl (lv_at hl 1 rfl) ?_
    refine lv_iconst (v := 3) hx hb d_Tr_tell_5 (by decide) ?_
    refine lv_icmp_le (tgt := 11) hx hb d_Tr_tell_6 (by decide) (fun c_6 => ?_) (fun c_6 => ?_)
    · refine lv_aload_n hx hb d_Tr_tell_11 rfl (lv_at hl 0 rfl) ?_
      refine va_get (D := D) (ci := 1) (v := .int kn) (C := "VersionedBlock$Transaction") (T := T_Tr) (N := 10) hx hb hts (fun w h => List.mem_cons_of_mem _ (il_Tr w h)) hown hK hP 0 rfl rfl 4 (by decide) (hts _ (List.mem_cons_of_mem _ mw_1_95)) (fun _ h9 => h9) rfl d_Tr_tell_12 ?_
      refine lv_if_ne (tgt := 21) hx hb d_Tr_tell_15 (by decide) (fun c_15 => ?_) (fun c_15 => ?_)
      · refine lv_iload_n hx hb d_Tr_tell_21 rfl (lv_at hl 1 rfl) ?_
        have hw : what = 0 ∨ what = 1 ∨ what = 2 ∨ what = 3 := tl_what c_1 c_6
        rcases hw with rfl | rfl | rfl | rfl
        · skip
          refine lv_tableIn (off := 26) (tgt := 48) hx hb d_Tr_tell_22 (by decide) (by decide) (by decide) (by decide) ?_
          refine lv_aload_n hx hb d_Tr_tell_48 rfl (lv_at hl 0 rfl) ?_
          refine va_get (D := D) (ci := 1) (v := .int oc) (C := "VersionedBlock$Transaction") (T := T_Tr) (N := 10) hx hb hts (fun w h => List.mem_cons_of_mem _ (il_Tr w h)) hown hK hP 0 rfl rfl 5 (by decide) (hts _ (List.mem_cons_of_mem _ mw_1_96)) (fun _ h9 => h9) rfl d_Tr_tell_49 ?_
          exact W.iret (v := oc) hx hb hr (fun t9 ht hW => ⟨oc, rfl, (tl_k0 c_15), ht⟩) (fun _ h => by cases h) d_Tr_tell_52
        · skip
          refine lv_tableIn (off := 31) (tgt := 53) hx hb d_Tr_tell_22 (by decide) (by decide) (by decide) (by decide) ?_
          refine lv_aload_n hx hb d_Tr_tell_53 rfl (lv_at hl 0 rfl) ?_
          refine va_get (D := D) (ci := 1) (v := .int dn) (C := "VersionedBlock$Transaction") (T := T_Tr) (N := 10) hx hb hts (fun w h => List.mem_cons_of_mem _ (il_Tr w h)) hown hK hP 0 rfl rfl 6 (by decide) (hts _ (List.mem_cons_of_mem _ mw_1_97)) (fun _ h9 => h9) rfl d_Tr_tell_54 ?_
          exact W.iret (v := dn) hx hb hr (fun t9 ht hW => ⟨dn, rfl, (tl_k1 c_15), ht⟩) (fun _ h => by cases h) d_Tr_tell_57
        · skip
          refine lv_tableIn (off := 36) (tgt := 58) hx hb d_Tr_tell_22 (by decide) (by decide) (by decide) (by decide) ?_
          refine lv_aload_n hx hb d_Tr_tell_58 rfl (lv_at hl 0 rfl) ?_
          refine va_get (D := D) (ci := 1) (v := .int ld) (C := "VersionedBlock$Transaction") (T := T_Tr) (N := 10) hx hb hts (fun w h => List.mem_cons_of_mem _ (il_Tr w h)) hown hK hP 0 rfl rfl 7 (by decide) (hts _ (List.mem_cons_of_mem _ mw_1_98)) (fun _ h9 => h9) rfl d_Tr_tell_59 ?_
          exact W.iret (v := ld) hx hb hr (fun t9 ht hW => ⟨ld, rfl, (tl_k2 c_15), ht⟩) (fun _ h => by cases h) d_Tr_tell_62
        · skip
          refine lv_tableOut (tgt := 63) hx hb d_Tr_tell_22 (by decide) (by decide) ?_
          refine lv_aload_n hx hb d_Tr_tell_63 rfl (lv_at hl 0 rfl) ?_
          refine va_get (D := D) (ci := 1) (v := .int sr) (C := "VersionedBlock$Transaction") (T := T_Tr) (N := 10) hx hb hts (fun w h => List.mem_cons_of_mem _ (il_Tr w h)) hown hK hP 0 rfl rfl 8 (by decide) (hts _ (List.mem_cons_of_mem _ mw_1_99)) (fun _ h9 => h9) rfl d_Tr_tell_64 ?_
          exact W.iret (v := sr) hx hb hr (fun t9 ht hW => ⟨sr, rfl, (tl_k3 c_15), ht⟩) (fun _ h => by cases h) d_Tr_tell_67
      · refine lv_bipush (v := (-2)) hx hb d_Tr_tell_18 (by decide) ?_
        exact W.iret (v := (-2)) hx hb hr (fun t9 ht hW => ⟨(-2), rfl, (by unfold tl_ans; rw [if_neg (fun q => q.elim c_1 (Int32.not_lt.mpr c_6)), if_pos c_15]), ht⟩) (fun _ h => by cases h) d_Tr_tell_20
    · refine lv_iconst (v := (-1)) hx hb d_Tr_tell_9 (by decide) ?_
      exact W.iret (v := (-1)) hx hb hr (fun t9 ht hW => ⟨(-1), rfl, (by unfold tl_ans; rw [if_pos (Or.inr (Int32.not_le.mp c_6))]), ht⟩) (fun _ h => by cases h) d_Tr_tell_10
set_option maxHeartbeats 4000000 in
set_option maxRecDepth 100000 in
theorem c_Tr_tellResult (l : Launch) (D : va_G) (ka : Nat → ClassId) (t ta tb tc : Nat) (ln : Int32) (kn oc dn ld sr : Int32) (rs : Int64)  : Met l y_Tr_tellResult w_Tr_tellResult ({ frames := 0, cells := 0, slots := 0, locals := 0 }) (pR classes (tyS ka) D [.ref t] ([(t, .inr (1, [.ref ta, .ref tb, .ref tc, .int ln, .int kn, .int oc, .int dn, .int ld, .int sr, .long rs]))])) (vp_Sl (fun r => r = (if kn = 0 then 0 else rs))) 0 0 (fun _ => False) := by
  refine Met.ofW (cc := b_Tr_tellResult) (maxL := 1) (ret := (some .long)) (by decide) rfl ?_
  intro pP eE sS mM args below meth cC s1 B hml hv
  obtain ⟨rfl, hP, hK, hN⟩ := hv
  have hx := B.exec
  have hb := B.bytes
  have hr := B.returns
  have hts := atoms_spec (ws := w_Tr_tellResult) B.pre
  have hown : sS.vm.findClass "VersionedBlock$Transaction" = some mM.cls := findClass_of_methodNamed B.named
  have hlocks := B.notSynchronized
  have hl := lv_entry ([.ref t]) (n := 1) (Nat.le_of_ble_eq_true rfl)
  rw [lg_entry_eq]
  generalize (lg_sl ([.ref t]) ++ List.replicate (1 - (lg_sl ([.ref t])).length) Slot.unset).toArray = ls at hl ⊢
  have hl : lv_has ls 1 [(0, .ref t)] := hl
  refine lv_aload_n hx hb d_Tr_tellResult_0 rfl (lv_at hl 0 rfl) ?_
  refine va_get (D := D) (ci := 1) (v := .int kn) (C := "VersionedBlock$Transaction") (T := T_Tr) (N := 10) hx hb hts (fun w h => List.mem_cons_of_mem _ (il_Tr w h)) hown hK hP 0 rfl rfl 4 (by decide) (hts _ (List.mem_cons_of_mem _ mw_1_95)) (fun _ h9 => h9) rfl d_Tr_tellResult_1 ?_
  refine lv_if_eq (tgt := 14) hx hb d_Tr_tellResult_4 (by decide) (fun c_4 => ?_) (fun c_4 => ?_)
  · refine lv_lconst (v := 0) hx hb d_Tr_tellResult_14 (by decide) ?_
    exact W.lret (v := 0) hx hb hr (fun t9 ht hW => ⟨0, rfl, (if_pos c_4).symm, ht⟩) (fun _ h => by cases h) d_Tr_tellResult_15
  · refine lv_aload_n hx hb d_Tr_tellResult_7 rfl (lv_at hl 0 rfl) ?_
    refine va_get (D := D) (ci := 1) (v := .long rs) (C := "VersionedBlock$Transaction") (T := T_Tr) (N := 10) hx hb hts (fun w h => List.mem_cons_of_mem _ (il_Tr w h)) hown hK hP 0 rfl rfl 9 (by decide) (hts _ (List.mem_cons_of_mem _ mw_1_100)) (fun _ h9 => h9) rfl d_Tr_tellResult_8 ?_
    refine lv_goto (tgt := 15) hx hb d_Tr_tellResult_11 (by decide) ?_
    exact W.lret (v := rs) hx hb hr (fun t9 ht hW => ⟨rs, rfl, (if_neg c_4).symm, ht⟩) (fun _ h => by cases h) d_Tr_tellResult_15
set_option maxHeartbeats 4000000 in
set_option maxRecDepth 100000 in
theorem c_Tr_init (l : Launch) (D : va_G) (ka : Nat → ClassId) (sz : Nat) (t : Nat)  : Met l y_Tr_init w_Tr_init ({ frames := 1, cells := 3, slots := 96, locals := 12 }) (pW classes (tyS ka) D [.ref t] ([(t, .inr (1, [.null, .null, .null, .int 0, .int 0, .int 0, .int 0, .int 0, .int 0, .long 0]))]) sz) (va_Qv (fun _ : Unit => True) (fun (_ : Unit) t9 => ∃ (ta tb tc : Nat), (True) ∧ va_P D classes ([(t, .inr (1, [.ref ta, .ref tb, .ref tc, .int (nI 0), .int 0, .int 0, .int 0, .int 0, .int 0, .long 0])), (ta, .inl ((ka 1), 32, .inl (fun _ => 0))), (tb, .inl ((ka 1), 32, .inl (fun _ => 0))), (tc, .inl ((ka 0), 32, .inr (.inl (fun _ => 0))))]) t9.heap ∧ va_D (va_A ([(t, .inr (1, [.null, .null, .null, .int 0, .int 0, .int 0, .int 0, .int 0, .int 0, .long 0]))]) sz) ([(t, .inr (1, [.ref ta, .ref tb, .ref tc, .int (nI 0), .int 0, .int 0, .int 0, .int 0, .int 0, .long 0])), (ta, .inl ((ka 1), 32, .inl (fun _ => 0))), (tb, .inl ((ka 1), 32, .inl (fun _ => 0))), (tc, .inl ((ka 0), 32, .inr (.inl (fun _ => 0))))])) (va_A ([(t, .inr (1, [.null, .null, .null, .int 0, .int 0, .int 0, .int 0, .int 0, .int 0, .long 0]))]) sz)) 3 96 (va_A ([(t, .inr (1, [.null, .null, .null, .int 0, .int 0, .int 0, .int 0, .int 0, .int 0, .long 0]))]) sz) := by
  refine Met.ofW (cc := b_Tr_init) (maxL := 1) (ret := none) (by decide) rfl ?_
  intro pP eE sS mM args below meth cC s1 B hml hv
  obtain ⟨rfl, hsz, hP, hK, hN, hD0⟩ := hv
  have hx := B.exec
  have hb := B.bytes
  have hr := B.returns
  have hts := atoms_spec (ws := w_Tr_init) B.pre
  have hown : sS.vm.findClass "VersionedBlock$Transaction" = some mM.cls := findClass_of_methodNamed B.named
  have hlocks := B.notSynchronized
  have hin : meth.name = "<init>" := (name_of_methodNamed B.named B.method).1
  subst hsz
  have hD := hD0.self (sz := sS.heap.size)
  generalize hAe : va_A ([(t, .inr (1, [.null, .null, .null, .int 0, .int 0, .int 0, .int 0, .int 0, .int 0, .long 0]))]) sS.heap.size = A at hD ⊢
  have hA : ∀ q : Nat, sS.heap.size ≤ q → A q := fun q h => by rw [← hAe]; exact Or.inr h
  have hS : va_S A sS.heap sS.heap [] := va_S.rf
  have hl := lv_entry ([.ref t]) (n := 1) (Nat.le_of_ble_eq_true rfl)
  rw [lg_entry_eq]
  generalize (lg_sl ([.ref t]) ++ List.replicate (1 - (lg_sl ([.ref t])).length) Slot.unset).toArray = ls at hl ⊢
  have hl : lv_has ls 1 [(0, .ref t)] := hl
  refine lv_aload_n hx hb d_Tr_init_0 rfl (lv_at hl 0 rfl) ?_
  refine W.objInit hx hb hown (hts _ (List.mem_cons_of_mem _ mw_1_90)) (hts _ (List.mem_cons_of_mem _ mw_1_16)) (hts _ (List.mem_cons_of_mem _ mw_1_17)) rfl (by rw [hml]; exact hl.1) rfl d_Tr_init_1 (Nat.le_of_ble_eq_true rfl) (Nat.le_of_ble_eq_true rfl) ?_
  refine W.eq (g2 := F0 mM 4 ls []) rfl ?_
  refine lv_aload_n hx hb d_Tr_init_4 rfl (lv_at hl 0 rfl) ?_
  refine lv_bipush (v := 32) hx hb d_Tr_init_5 (by decide) ?_
  refine my_newa (ty := .int) (a0 := (32, .inl (fun _ => 0))) hx hb (hts _ (List.mem_cons_of_mem _ mw_1_122)) rfl hK 1 (cA0 := ka 1) rfl hP hD hS hA (fun _ => rfl) (k := 32) (by decide) (by decide) (Nat.le_of_ble_eq_true rfl) (Nat.le_of_ble_eq_true rfl) d_Tr_init_7 (fun q7 H hP hD hS => ?_)
  have hP : va_P D classes ([(t, .inr (1, [.null, .null, .null, .int 0, .int 0, .int 0, .int 0, .int 0, .int 0, .long 0])), (q7, .inl ((ka 1), 32, .inl (fun _ => 0)))]) H := hP
  have hD : va_D A ([(t, .inr (1, [.null, .null, .null, .int 0, .int 0, .int 0, .int 0, .int 0, .int 0, .long 0])), (q7, .inl ((ka 1), 32, .inl (fun _ => 0)))]) := hD
  refine W.widen (k := 1) (n := 32) (by omega) (by omega) ?_
  refine va_putF (D := D) (ci := 1) (v := .ref q7) (ty := .array .int) (C := "VersionedBlock$Transaction") (T := T_Tr) (N := 10) hx hb hts (fun w h => List.mem_cons_of_mem _ (il_Tr w h)) t_Tr t_Tr_ok n_Tr hown hK hP hD hS 0 rfl rfl 0 (by decide) (hts _ (List.mem_cons_of_mem _ mw_1_91)) (fun _ h9 => h9) rfl hin rfl (by decide +kernel) rfl rfl (Nat.le_of_ble_eq_true rfl) d_Tr_init_9 (fun H locs hP hD hS => ?_)
  have hP : va_P D classes ([(t, .inr (1, [.ref q7, .null, .null, .int 0, .int 0, .int 0, .int 0, .int 0, .int 0, .long 0])), (q7, .inl ((ka 1), 32, .inl (fun _ => 0)))]) H := hP
  have hD : va_D A ([(t, .inr (1, [.ref q7, .null, .null, .int 0, .int 0, .int 0, .int 0, .int 0, .int 0, .long 0])), (q7, .inl ((ka 1), 32, .inl (fun _ => 0)))]) := hD
  refine lv_aload_n hx hb d_Tr_init_12 rfl (lv_at hl 0 rfl) ?_
  refine lv_bipush (v := 32) hx hb d_Tr_init_13 (by decide) ?_
  refine my_newa (ty := .int) (a0 := (32, .inl (fun _ => 0))) hx hb (hts _ (List.mem_cons_of_mem _ mw_1_122)) rfl hK 1 (cA0 := ka 1) rfl hP hD hS hA (fun _ => rfl) (k := 32) (by decide) (by decide) (Nat.le_of_ble_eq_true rfl) (Nat.le_of_ble_eq_true rfl) d_Tr_init_15 (fun q15 H hP hD hS => ?_)
  have hP : va_P D classes ([(t, .inr (1, [.ref q7, .null, .null, .int 0, .int 0, .int 0, .int 0, .int 0, .int 0, .long 0])), (q7, .inl ((ka 1), 32, .inl (fun _ => 0))), (q15, .inl ((ka 1), 32, .inl (fun _ => 0)))]) H := hP
  have hD : va_D A ([(t, .inr (1, [.ref q7, .null, .null, .int 0, .int 0, .int 0, .int 0, .int 0, .int 0, .long 0])), (q7, .inl ((ka 1), 32, .inl (fun _ => 0))), (q15, .inl ((ka 1), 32, .inl (fun _ => 0)))]) := hD
  refine W.widen (k := 2) (n := 64) (by omega) (by omega) ?_
  refine va_putF (D := D) (ci := 1) (v := .ref q15) (ty := .array .int) (C := "VersionedBlock$Transaction") (T := T_Tr) (N := 10) hx hb hts (fun w h => List.mem_cons_of_mem _ (il_Tr w h)) t_Tr t_Tr_ok n_Tr hown hK hP hD hS 0 rfl rfl 1 (by decide) (hts _ (List.mem_cons_of_mem _ mw_1_92)) (fun _ h9 => h9) rfl hin rfl (by decide +kernel) rfl rfl (Nat.le_of_ble_eq_true rfl) d_Tr_init_17 (fun H locs hP hD hS => ?_)
  have hP : va_P D classes ([(t, .inr (1, [.ref q7, .ref q15, .null, .int 0, .int 0, .int 0, .int 0, .int 0, .int 0, .long 0])), (q7, .inl ((ka 1), 32, .inl (fun _ => 0))), (q15, .inl ((ka 1), 32, .inl (fun _ => 0)))]) H := hP
  have hD : va_D A ([(t, .inr (1, [.ref q7, .ref q15, .null, .int 0, .int 0, .int 0, .int 0, .int 0, .int 0, .long 0])), (q7, .inl ((ka 1), 32, .inl (fun _ => 0))), (q15, .inl ((ka 1), 32, .inl (fun _ => 0)))]) := hD
  refine lv_aload_n hx hb d_Tr_init_20 rfl (lv_at hl 0 rfl) ?_
  refine lv_bipush (v := 32) hx hb d_Tr_init_21 (by decide) ?_
  refine my_newa (ty := .long) (a0 := (32, .inr (.inl (fun _ => 0)))) hx hb (hts _ (List.mem_cons_of_mem _ mw_1_33)) rfl hK 0 (cA0 := ka 0) rfl hP hD hS hA (fun _ => rfl) (k := 32) (by decide) (by decide) (Nat.le_of_ble_eq_true rfl) (Nat.le_of_ble_eq_true rfl) d_Tr_init_23 (fun q23 H hP hD hS => ?_)
  have hP : va_P D classes ([(t, .inr (1, [.ref q7, .ref q15, .null, .int 0, .int 0, .int 0, .int 0, .int 0, .int 0, .long 0])), (q7, .inl ((ka 1), 32, .inl (fun _ => 0))), (q15, .inl ((ka 1), 32, .inl (fun _ => 0))), (q23, .inl ((ka 0), 32, .inr (.inl (fun _ => 0))))]) H := hP
  have hD : va_D A ([(t, .inr (1, [.ref q7, .ref q15, .null, .int 0, .int 0, .int 0, .int 0, .int 0, .int 0, .long 0])), (q7, .inl ((ka 1), 32, .inl (fun _ => 0))), (q15, .inl ((ka 1), 32, .inl (fun _ => 0))), (q23, .inl ((ka 0), 32, .inr (.inl (fun _ => 0))))]) := hD
  refine W.widen (k := 3) (n := 96) (by omega) (by omega) ?_
  refine va_putF (D := D) (ci := 1) (v := .ref q23) (ty := .array .long) (C := "VersionedBlock$Transaction") (T := T_Tr) (N := 10) hx hb hts (fun w h => List.mem_cons_of_mem _ (il_Tr w h)) t_Tr t_Tr_ok n_Tr hown hK hP hD hS 0 rfl rfl 2 (by decide) (hts _ (List.mem_cons_of_mem _ mw_1_93)) (fun _ h9 => h9) rfl hin rfl (by decide +kernel) rfl rfl (Nat.le_of_ble_eq_true rfl) d_Tr_init_25 (fun H locs hP hD hS => ?_)
  have hP : va_P D classes ([(t, .inr (1, [.ref q7, .ref q15, .ref q23, .int 0, .int 0, .int 0, .int 0, .int 0, .int 0, .long 0])), (q7, .inl ((ka 1), 32, .inl (fun _ => 0))), (q15, .inl ((ka 1), 32, .inl (fun _ => 0))), (q23, .inl ((ka 0), 32, .inr (.inl (fun _ => 0))))]) H := hP
  have hD : va_D A ([(t, .inr (1, [.ref q7, .ref q15, .ref q23, .int 0, .int 0, .int 0, .int 0, .int 0, .int 0, .long 0])), (q7, .inl ((ka 1), 32, .inl (fun _ => 0))), (q15, .inl ((ka 1), 32, .inl (fun _ => 0))), (q23, .inl ((ka 0), 32, .inr (.inl (fun _ => 0))))]) := hD
  have hP9 := hP.sub (ws' := [(t, .inr (1, [.ref q7, .ref q15, .ref q23, .int (nI 0), .int 0, .int 0, .int 0, .int 0, .int 0, .long 0])), (q7, .inl ((ka 1), 32, .inl (fun _ => 0))), (q15, .inl ((ka 1), 32, .inl (fun _ => 0))), (q23, .inl ((ka 0), 32, .inr (.inl (fun _ => 0))))]) [0, 1, 2, 3] rfl
  have hD9 := hD.sub (ws' := [(t, .inr (1, [.ref q7, .ref q15, .ref q23, .int (nI 0), .int 0, .int 0, .int 0, .int 0, .int 0, .long 0])), (q7, .inl ((ka 1), 32, .inl (fun _ => 0))), (q15, .inl ((ka 1), 32, .inl (fun _ => 0))), (q23, .inl ((ka 0), 32, .inr (.inl (fun _ => 0))))]) [0, 1, 2, 3] (by decide) rfl
  exact W.vret hx hb hr (fun t9 ht hW => ⟨⟨(), rfl, trivial, q7, q15, q23, trivial, by rw [ht]; exact hP9, hD9⟩, hS.F ht⟩) hS.2.2 d_Tr_init_28
end
section
set_option maxHeartbeats 4000000 in
set_option maxRecDepth 100000 in
theorem c_Wk_isFree0 (l : Launch) (D : va_G) (ka : Nat → ClassId) (w r s u : Nat) (tn nx dn ld oc : Int32)  : Met l y_Wk_isFree w_Wk_isFree ({ frames := 0, cells := 0, slots := 0, locals := 0 }) (pR classes (tyS ka) D [.ref w] ([(w, .inr (3, [.ref r, .ref s, .ref u, .null, .int tn, .int nx, .int dn, .int ld, .int oc]))])) (vp_Si (fun r => r = 1)) 0 0 (fun _ => False) := by
  refine Met.ofW (cc := b_Wk_isFree) (maxL := 1) (ret := (some .boolean)) (by decide) rfl ?_
  intro pP eE sS mM args below meth cC s1 B hml hv
  obtain ⟨rfl, hP, hK, hN⟩ := hv
  have hx := B.exec
  have hb := B.bytes
  have hr := B.returns
  have hts := atoms_spec (ws := w_Wk_isFree) B.pre
  have hown : sS.vm.findClass "VersionedBlock$Worker" = some mM.cls := findClass_of_methodNamed B.named
  have hlocks := B.notSynchronized
  have hl := lv_entry ([.ref w]) (n := 1) (Nat.le_of_ble_eq_true rfl)
  rw [lg_entry_eq]
  generalize (lg_sl ([.ref w]) ++ List.replicate (1 - (lg_sl ([.ref w])).length) Slot.unset).toArray = ls at hl ⊢
  have hl : lv_has ls 1 [(0, .ref w)] := hl
  refine lv_aload_n hx hb d_Wk_isFree_0 rfl (lv_at hl 0 rfl) ?_
  refine va_get (D := D) (ci := 3) (v := .null) (C := "VersionedBlock$Worker") (T := T_Wk) (N := 9) hx hb hts (fun w h => List.mem_cons_of_mem _ (il_Wk w h)) hown hK hP 0 rfl rfl 3 (by decide) (hts _ (List.mem_cons_of_mem _ mw_1_229)) (fun _ h9 => h9) rfl d_Wk_isFree_1 ?_
  refine lv_ifnonnullN hx hb d_Wk_isFree_4 ?_
  refine lv_iconst (v := 1) hx hb d_Wk_isFree_7 (by decide) ?_
  refine lv_goto (tgt := 12) hx hb d_Wk_isFree_8 (by decide) ?_
  exact W.zret (v := 1) hx hb hr rfl (fun t9 ht hW => ⟨1, rfl, rfl, ht⟩) (fun _ h => by cases h) d_Wk_isFree_12
set_option maxHeartbeats 4000000 in
set_option maxRecDepth 100000 in
theorem c_Wk_isFree1 (l : Launch) (D : va_G) (ka : Nat → ClassId) (w r s u : Nat) (tn nx dn ld oc : Int32) (t : Nat)  : Met l y_Wk_isFree w_Wk_isFree ({ frames := 0, cells := 0, slots := 0, locals := 0 }) (pR classes (tyS ka) D [.ref w] ([(w, .inr (3, [.ref r, .ref s, .ref u, .ref t, .int tn, .int nx, .int dn, .int ld, .int oc]))])) (vp_Si (fun r => r = 0)) 0 0 (fun _ => False) := by
  refine Met.ofW (cc := b_Wk_isFree) (maxL := 1) (ret := (some .boolean)) (by decide) rfl ?_
  intro pP eE sS mM args below meth cC s1 B hml hv
  obtain ⟨rfl, hP, hK, hN⟩ := hv
  have hx := B.exec
  have hb := B.bytes
  have hr := B.returns
  have hts := atoms_spec (ws := w_Wk_isFree) B.pre
  have hown : sS.vm.findClass "VersionedBlock$Worker" = some mM.cls := findClass_of_methodNamed B.named
  have hlocks := B.notSynchronized
  have hl := lv_entry ([.ref w]) (n := 1) (Nat.le_of_ble_eq_true rfl)
  rw [lg_entry_eq]
  generalize (lg_sl ([.ref w]) ++ List.replicate (1 - (lg_sl ([.ref w])).length) Slot.unset).toArray = ls at hl ⊢
  have hl : lv_has ls 1 [(0, .ref w)] := hl
  refine lv_aload_n hx hb d_Wk_isFree_0 rfl (lv_at hl 0 rfl) ?_
  refine va_get (D := D) (ci := 3) (v := .ref t) (C := "VersionedBlock$Worker") (T := T_Wk) (N := 9) hx hb hts (fun w h => List.mem_cons_of_mem _ (il_Wk w h)) hown hK hP 0 rfl rfl 3 (by decide) (hts _ (List.mem_cons_of_mem _ mw_1_229)) (fun _ h9 => h9) rfl d_Wk_isFree_1 ?_
  refine lv_ifnonnull (tgt := 11) hx hb d_Wk_isFree_4 (by decide) ?_
  refine lv_iconst (v := 0) hx hb d_Wk_isFree_11 (by decide) ?_
  exact W.zret (v := 0) hx hb hr rfl (fun t9 ht hW => ⟨0, rfl, rfl, ht⟩) (fun _ h => by cases h) d_Wk_isFree_12
set_option maxHeartbeats 4000000 in
set_option maxRecDepth 100000 in
theorem c_Wk_isAtEnd (l : Launch) (D : va_G) (ka : Nat → ClassId) (w r s u : Nat) (tn nx dn ld oc : Int32) (t : Nat)  : Met l y_Wk_isAtEnd w_Wk_isAtEnd ({ frames := 0, cells := 0, slots := 0, locals := 0 }) (pR classes (tyS ka) D [.ref w] ([(w, .inr (3, [.ref r, .ref s, .ref u, .ref t, .int tn, .int nx, .int dn, .int ld, .int oc]))])) (vp_Si (fun r => r = (if oc = 0 then 0 else 1))) 0 0 (fun _ => False) := by
  refine Met.ofW (cc := b_Wk_isAtEnd) (maxL := 1) (ret := (some .boolean)) (by decide) rfl ?_
  intro pP eE sS mM args below meth cC s1 B hml hv
  obtain ⟨rfl, hP, hK, hN⟩ := hv
  have hx := B.exec
  have hb := B.bytes
  have hr := B.returns
  have hts := atoms_spec (ws := w_Wk_isAtEnd) B.pre
  have hown : sS.vm.findClass "VersionedBlock$Worker" = some mM.cls := findClass_of_methodNamed B.named
  have hlocks := B.notSynchronized
  have hl := lv_entry ([.ref w]) (n := 1) (Nat.le_of_ble_eq_true rfl)
  rw [lg_entry_eq]
  generalize (lg_sl ([.ref w]) ++ List.replicate (1 - (lg_sl ([.ref w])).length) Slot.unset).toArray = ls at hl ⊢
  have hl : lv_has ls 1 [(0, .ref w)] := hl
  refine lv_aload_n hx hb d_Wk_isAtEnd_0 rfl (lv_at hl 0 rfl) ?_
  refine va_get (D := D) (ci := 3) (v := .int oc) (C := "VersionedBlock$Worker") (T := T_Wk) (N := 9) hx hb hts (fun w h => List.mem_cons_of_mem _ (il_Wk w h)) hown hK hP 0 rfl rfl 8 (by decide) (hts _ (List.mem_cons_of_mem _ mw_1_234)) (fun _ h9 => h9) rfl d_Wk_isAtEnd_1 ?_
  refine lv_if_eq (tgt := 11) hx hb d_Wk_isAtEnd_4 (by decide) (fun c_4 => ?_) (fun c_4 => ?_)
  · refine lv_iconst (v := 0) hx hb d_Wk_isAtEnd_11 (by decide) ?_
    exact W.zret (v := 0) hx hb hr rfl (fun t9 ht hW => ⟨0, rfl, (if_pos c_4).symm, ht⟩) (fun _ h => by cases h) d_Wk_isAtEnd_12
  · refine lv_iconst (v := 1) hx hb d_Wk_isAtEnd_7 (by decide) ?_
    refine lv_goto (tgt := 12) hx hb d_Wk_isAtEnd_8 (by decide) ?_
    exact W.zret (v := 1) hx hb hr rfl (fun t9 ht hW => ⟨1, rfl, (if_neg c_4).symm, ht⟩) (fun _ h => by cases h) d_Wk_isAtEnd_12
set_option maxHeartbeats 4000000 in
set_option maxRecDepth 100000 in
theorem c_Wk_number (l : Launch) (D : va_G) (ka : Nat → ClassId) (w r s u : Nat) (tn nx dn ld oc : Int32) (t : Nat)  : Met l y_Wk_number w_Wk_number ({ frames := 0, cells := 0, slots := 0, locals := 0 }) (pR classes (tyS ka) D [.ref w] ([(w, .inr (3, [.ref r, .ref s, .ref u, .ref t, .int tn, .int nx, .int dn, .int ld, .int oc]))])) (vp_Si (fun r => r = tn)) 0 0 (fun _ => False) := by
  refine Met.ofW (cc := b_Wk_number) (maxL := 1) (ret := (some .int)) (by decide) rfl ?_
  intro pP eE sS mM args below meth cC s1 B hml hv
  obtain ⟨rfl, hP, hK, hN⟩ := hv
  have hx := B.exec
  have hb := B.bytes
  have hr := B.returns
  have hts := atoms_spec (ws := w_Wk_number) B.pre
  have hown : sS.vm.findClass "VersionedBlock$Worker" = some mM.cls := findClass_of_methodNamed B.named
  have hlocks := B.notSynchronized
  have hl := lv_entry ([.ref w]) (n := 1) (Nat.le_of_ble_eq_true rfl)
  rw [lg_entry_eq]
  generalize (lg_sl ([.ref w]) ++ List.replicate (1 - (lg_sl ([.ref w])).length) Slot.unset).toArray = ls at hl ⊢
  have hl : lv_has ls 1 [(0, .ref w)] := hl
  refine lv_aload_n hx hb d_Wk_number_0 rfl (lv_at hl 0 rfl) ?_
  refine va_get (D := D) (ci := 3) (v := .int tn) (C := "VersionedBlock$Worker") (T := T_Wk) (N := 9) hx hb hts (fun w h => List.mem_cons_of_mem _ (il_Wk w h)) hown hK hP 0 rfl rfl 4 (by decide) (hts _ (List.mem_cons_of_mem _ mw_1_230)) (fun _ h9 => h9) rfl d_Wk_number_1 ?_
  exact W.iret (v := tn) hx hb hr (fun t9 ht hW => ⟨tn, rfl, rfl, ht⟩) (fun _ h => by cases h) d_Wk_number_4
set_option maxHeartbeats 4000000 in
set_option maxRecDepth 100000 in
theorem c_Wk_startAnew (l : Launch) (D : va_G) (ka : Nat → ClassId) (sz : Nat) (w r s sn sk so u un uk uo : Nat) (t : Nat) (tn nx dn ld oc : Int32) (rg numS numU : Nat → Int64) (psS psU : List Nat) (kpS odS kpU odU : Nat → Int32) (hS0 : dOK psS kpS odS) (hU0 : dOK psU kpU odU) : Met l y_Wk_startAnew w_Wk_startAnew ({ frames := 1, cells := 0, slots := 0, locals := 24 }) (pW classes (tyS ka) D [.ref w] ([(w, .inr (3, [.ref r, .ref s, .ref u, .ref t, .int tn, .int nx, .int dn, .int ld, .int oc])), (r, .inl ((ka 0), 8, .inr (.inl rg))), (s, .inr (0, [.ref sn, .ref sk, .ref so, .int (nI psS.length)])), (sn, .inl ((ka 0), 256, .inr (.inl numS))), (sk, .inl ((ka 2), 256, .inl kpS)), (so, .inl ((ka 1), 256, .inl odS)), (u, .inr (0, [.ref un, .ref uk, .ref uo, .int (nI psU.length)])), (un, .inl ((ka 0), 256, .inr (.inl numU))), (uk, .inl ((ka 2), 256, .inl kpU)), (uo, .inl ((ka 1), 256, .inl odU))]) sz) (va_Qv (fun _ : Unit => True) (fun (_ : Unit) t9 => ∃ (kpS' kpU' : Nat → Int32), (dOK [] kpS' odS ∧ dOK [] kpU' odU) ∧ va_P D classes ([(w, .inr (3, [.ref r, .ref s, .ref u, .ref t, .int tn, .int (nI 0), .int (nI 0), .int (nI 0), .int (nI 0)])), (r, .inl ((ka 0), 8, .inr (.inl (fun _ => 0)))), (s, .inr (0, [.ref sn, .ref sk, .ref so, .int (nI 0)])), (sn, .inl ((ka 0), 256, .inr (.inl numS))), (sk, .inl ((ka 2), 256, .inl kpS')), (so, .inl ((ka 1), 256, .inl odS)), (u, .inr (0, [.ref un, .ref uk, .ref uo, .int (nI 0)])), (un, .inl ((ka 0), 256, .inr (.inl numU))), (uk, .inl ((ka 2), 256, .inl kpU')), (uo, .inl ((ka 1), 256, .inl odU))]) t9.heap ∧ va_D (va_A ([(w, .inr (3, [.ref r, .ref s, .ref u, .ref t, .int tn, .int nx, .int dn, .int ld, .int oc])), (r, .inl ((ka 0), 8, .inr (.inl rg))), (s, .inr (0, [.ref sn, .ref sk, .ref so, .int (nI psS.length)])), (sn, .inl ((ka 0), 256, .inr (.inl numS))), (sk, .inl ((ka 2), 256, .inl kpS)), (so, .inl ((ka 1), 256, .inl odS)), (u, .inr (0, [.ref un, .ref uk, .ref uo, .int (nI psU.length)])), (un, .inl ((ka 0), 256, .inr (.inl numU))), (uk, .inl ((ka 2), 256, .inl kpU)), (uo, .inl ((ka 1), 256, .inl odU))]) sz) ([(w, .inr (3, [.ref r, .ref s, .ref u, .ref t, .int tn, .int (nI 0), .int (nI 0), .int (nI 0), .int (nI 0)])), (r, .inl ((ka 0), 8, .inr (.inl (fun _ => 0)))), (s, .inr (0, [.ref sn, .ref sk, .ref so, .int (nI 0)])), (sn, .inl ((ka 0), 256, .inr (.inl numS))), (sk, .inl ((ka 2), 256, .inl kpS')), (so, .inl ((ka 1), 256, .inl odS)), (u, .inr (0, [.ref un, .ref uk, .ref uo, .int (nI 0)])), (un, .inl ((ka 0), 256, .inr (.inl numU))), (uk, .inl ((ka 2), 256, .inl kpU')), (uo, .inl ((ka 1), 256, .inl odU))])) (va_A ([(w, .inr (3, [.ref r, .ref s, .ref u, .ref t, .int tn, .int nx, .int dn, .int ld, .int oc])), (r, .inl ((ka 0), 8, .inr (.inl rg))), (s, .inr (0, [.ref sn, .ref sk, .ref so, .int (nI psS.length)])), (sn, .inl ((ka 0), 256, .inr (.inl numS))), (sk, .inl ((ka 2), 256, .inl kpS)), (so, .inl ((ka 1), 256, .inl odS)), (u, .inr (0, [.ref un, .ref uk, .ref uo, .int (nI psU.length)])), (un, .inl ((ka 0), 256, .inr (.inl numU))), (uk, .inl ((ka 2), 256, .inl kpU)), (uo, .inl ((ka 1), 256, .inl odU))]) sz)) 0 0 (va_A ([(w, .inr (3, [.ref r, .ref s, .ref u, .ref t, .int tn, .int nx, .int dn, .int ld, .int oc])), (r, .inl ((ka 0), 8, .inr (.inl rg))), (s, .inr (0, [.ref sn, .ref sk, .ref so, .int (nI psS.length)])), (sn, .inl ((ka 0), 256, .inr (.inl numS))), (sk, .inl ((ka 2), 256, .inl kpS)), (so, .inl ((ka 1), 256, .inl odS)), (u, .inr (0, [.ref un, .ref uk, .ref uo, .int (nI psU.length)])), (un, .inl ((ka 0), 256, .inr (.inl numU))), (uk, .inl ((ka 2), 256, .inl kpU)), (uo, .inl ((ka 1), 256, .inl odU))]) sz) := by
  refine Met.ofW (cc := b_Wk_startAnew) (maxL := 1) (ret := none) (by decide) rfl ?_
  intro pP eE sS mM args below meth cC s1 B hml hv
  obtain ⟨rfl, hsz, hP, hK, hN, hD0⟩ := hv
  have hx := B.exec
  have hb := B.bytes
  have hr := B.returns
  have hts := atoms_spec (ws := w_Wk_startAnew) B.pre
  have hown : sS.vm.findClass "VersionedBlock$Worker" = some mM.cls := findClass_of_methodNamed B.named
  have hlocks := B.notSynchronized
  subst hsz
  have hD := hD0.self (sz := sS.heap.size)
  generalize hAe : va_A ([(w, .inr (3, [.ref r, .ref s, .ref u, .ref t, .int tn, .int nx, .int dn, .int ld, .int oc])), (r, .inl ((ka 0), 8, .inr (.inl rg))), (s, .inr (0, [.ref sn, .ref sk, .ref so, .int (nI psS.length)])), (sn, .inl ((ka 0), 256, .inr (.inl numS))), (sk, .inl ((ka 2), 256, .inl kpS)), (so, .inl ((ka 1), 256, .inl odS)), (u, .inr (0, [.ref un, .ref uk, .ref uo, .int (nI psU.length)])), (un, .inl ((ka 0), 256, .inr (.inl numU))), (uk, .inl ((ka 2), 256, .inl kpU)), (uo, .inl ((ka 1), 256, .inl odU))]) sS.heap.size = A at hD ⊢
  have hA : ∀ q : Nat, sS.heap.size ≤ q → A q := fun q h => by rw [← hAe]; exact Or.inr h
  have hS : va_S A sS.heap sS.heap [] := va_S.rf
  have hl := lv_entry ([.ref w]) (n := 1) (Nat.le_of_ble_eq_true rfl)
  rw [lg_entry_eq]
  generalize (lg_sl ([.ref w]) ++ List.replicate (1 - (lg_sl ([.ref w])).length) Slot.unset).toArray = ls at hl ⊢
  have hl : lv_has ls 1 [(0, .ref w)] := hl
  refine lv_aload_n hx hb d_Wk_startAnew_0 rfl (lv_at hl 0 rfl) ?_
  refine va_get (D := D) (ci := 3) (v := .ref r) (C := "VersionedBlock$Worker") (T := T_Wk) (N := 9) hx hb hts (fun w h => List.mem_cons_of_mem _ (il_Wk w h)) hown hK hP 0 rfl rfl 0 (by decide) (hts _ (List.mem_cons_of_mem _ mw_1_226)) (fun _ h9 => h9) rfl d_Wk_startAnew_1 ?_
  refine lv_lconst (v := 0) hx hb d_Wk_startAnew_4 (by decide) ?_
  have hPc := hP.sub (ws' := [(r, .inl ((ka 0), 8, .inr (.inl rg)))]) [1] rfl
  have hDc := hD.sub (ws' := [(r, .inl ((ka 0), 8, .inr (.inl rg)))]) [1] (by decide) rfl
  have hFc := va_free (wc := [(r, .inl ((ka 0), 8, .inr (.inl rg)))]) hD hS hA [1] rfl
  refine va_callv (va_runS (As := [.ref r, .long 0]) (rest := []) ⟨hx, hb, hml, hown, hts⟩ (c_fill8 l D ka sS.heap.size r rg 0 ) ⟨callB_of 2 hts (gd_tb mw_2_24) rfl rfl rfl (hts _ (List.mem_cons_of_mem _ mw_1_6)) (hts _ (List.mem_cons_of_mem _ mw_2_22)) (by decide +kernel) ⟨Nat.le_of_ble_eq_true rfl, Nat.le_of_ble_eq_true rfl⟩, (hts _ (List.mem_cons_of_mem _ mw_2_23))⟩ ⟨pW_blind, pW_pre hK hN hPc hDc⟩ rfl rfl hl.1 rfl (lv_room (Nat.le_of_ble_eq_true rfl)) d_Wk_startAnew_5 ⟨Nat.le_of_ble_eq_true rfl, Nat.le_of_ble_eq_true rfl⟩) hS (fun q _ h => hFc q h) hFc (fun u9 t9 H1 locs ht hvm hr_5 hB hz1 hk1 hS => ?_)
  obtain ⟨hrel_5, hP1, hD1⟩ := hB
  rw [ht] at hP1
  obtain ⟨hP, hD⟩ := va_join (wr := [(w, .inr (3, [.ref r, .ref s, .ref u, .ref t, .int tn, .int nx, .int dn, .int ld, .int oc])), (s, .inr (0, [.ref sn, .ref sk, .ref so, .int (nI psS.length)])), (sn, .inl ((ka 0), 256, .inr (.inl numS))), (sk, .inl ((ka 2), 256, .inl kpS)), (so, .inl ((ka 1), 256, .inl odS)), (u, .inr (0, [.ref un, .ref uk, .ref uo, .int (nI psU.length)])), (un, .inl ((ka 0), 256, .inr (.inl numU))), (uk, .inl ((ka 2), 256, .inl kpU)), (uo, .inl ((ka 1), 256, .inl odU))]) (w1 := [(r, .inl ((ka 0), 8, .inr (.inl (fun _ => 0))))]) hP hD [1] [0, 2, 3, 4, 5, 6, 7, 8, 9] rfl rfl (by decide) (by decide) hk1 hFc hP1 hD1
  generalize H1 = H at hP hS ⊢
  have hP : va_P D classes ([(w, .inr (3, [.ref r, .ref s, .ref u, .ref t, .int tn, .int nx, .int dn, .int ld, .int oc])), (s, .inr (0, [.ref sn, .ref sk, .ref so, .int (nI psS.length)])), (sn, .inl ((ka 0), 256, .inr (.inl numS))), (sk, .inl ((ka 2), 256, .inl kpS)), (so, .inl ((ka 1), 256, .inl odS)), (u, .inr (0, [.ref un, .ref uk, .ref uo, .int (nI psU.length)])), (un, .inl ((ka 0), 256, .inr (.inl numU))), (uk, .inl ((ka 2), 256, .inl kpU)), (uo, .inl ((ka 1), 256, .inl odU)), (r, .inl ((ka 0), 8, .inr (.inl (fun _ => 0))))]) H := hP
  have hD : va_D A ([(w, .inr (3, [.ref r, .ref s, .ref u, .ref t, .int tn, .int nx, .int dn, .int ld, .int oc])), (s, .inr (0, [.ref sn, .ref sk, .ref so, .int (nI psS.length)])), (sn, .inl ((ka 0), 256, .inr (.inl numS))), (sk, .inl ((ka 2), 256, .inl kpS)), (so, .inl ((ka 1), 256, .inl odS)), (u, .inr (0, [.ref un, .ref uk, .ref uo, .int (nI psU.length)])), (un, .inl ((ka 0), 256, .inr (.inl numU))), (uk, .inl ((ka 2), 256, .inl kpU)), (uo, .inl ((ka 1), 256, .inl odU)), (r, .inl ((ka 0), 8, .inr (.inl (fun _ => 0))))]) := hD
  refine lv_aload_n hx hb d_Wk_startAnew_8 rfl (lv_at hl 0 rfl) ?_
  refine va_get (D := D) (ci := 3) (v := .ref s) (C := "VersionedBlock$Worker") (T := T_Wk) (N := 9) hx hb hts (fun w h => List.mem_cons_of_mem _ (il_Wk w h)) hown hK hP 0 rfl rfl 1 (by decide) (hts _ (List.mem_cons_of_mem _ mw_1_227)) (fun _ h9 => h9) rfl d_Wk_startAnew_9 ?_
  have hPc := hP.sub (ws' := [(s, .inr (0, [.ref sn, .ref sk, .ref so, .int (nI psS.length)])), (sn, .inl ((ka 0), 256, .inr (.inl numS))), (sk, .inl ((ka 2), 256, .inl kpS)), (so, .inl ((ka 1), 256, .inl odS))]) [1, 2, 3, 4] rfl
  have hDc := hD.sub (ws' := [(s, .inr (0, [.ref sn, .ref sk, .ref so, .int (nI psS.length)])), (sn, .inl ((ka 0), 256, .inr (.inl numS))), (sk, .inl ((ka 2), 256, .inl kpS)), (so, .inl ((ka 1), 256, .inl odS))]) [1, 2, 3, 4] (by decide) rfl
  have hFc := va_free (wc := [(s, .inr (0, [.ref sn, .ref sk, .ref so, .int (nI psS.length)])), (sn, .inl ((ka 0), 256, .inr (.inl numS))), (sk, .inl ((ka 2), 256, .inl kpS)), (so, .inl ((ka 1), 256, .inl odS))]) hD hS hA [1, 2, 3, 4] rfl
  refine va_callv (va_runV (As := []) (rest := []) ⟨hx, hb, hml, hown, hts⟩ (c_Draft_clear l D ka H.size s sn sk so psS numS kpS odS hS0) ⟨callB_of 0 hts (gd_tb mw_2_28) rfl rfl rfl (hts _ (List.mem_cons_of_mem _ mw_1_9)) (hts _ (List.mem_cons_of_mem _ mw_2_25)) (by decide +kernel) ⟨Nat.le_of_ble_eq_true rfl, Nat.le_of_ble_eq_true rfl⟩, (hts _ (List.mem_cons_of_mem _ mw_2_26)), (hts _ (List.mem_cons_of_mem _ mw_2_27))⟩ ⟨pW_blind, va_recv hK hPc (ci := 0) (q0 := 0) rfl rfl, pW_pre hK hN hPc hDc⟩ rfl rfl hl.1 rfl (lv_room (Nat.le_of_ble_eq_true rfl)) d_Wk_startAnew_12 ⟨Nat.le_of_ble_eq_true rfl, Nat.le_of_ble_eq_true rfl⟩) hS (fun q _ h => hFc q h) hFc (fun u9 t9 H1 locs ht hvm hr_12 hB hz1 hk1 hS => ?_)
  obtain ⟨kpS', hrel_12, hP1, hD1⟩ := hB
  rw [ht] at hP1
  obtain ⟨hP, hD⟩ := va_join (wr := [(w, .inr (3, [.ref r, .ref s, .ref u, .ref t, .int tn, .int nx, .int dn, .int ld, .int oc])), (u, .inr (0, [.ref un, .ref uk, .ref uo, .int (nI psU.length)])), (un, .inl ((ka 0), 256, .inr (.inl numU))), (uk, .inl ((ka 2), 256, .inl kpU)), (uo, .inl ((ka 1), 256, .inl odU)), (r, .inl ((ka 0), 8, .inr (.inl (fun _ => 0))))]) (w1 := [(s, .inr (0, [.ref sn, .ref sk, .ref so, .int (nI 0)])), (sn, .inl ((ka 0), 256, .inr (.inl numS))), (sk, .inl ((ka 2), 256, .inl kpS')), (so, .inl ((ka 1), 256, .inl odS))]) hP hD [1, 2, 3, 4] [0, 5, 6, 7, 8, 9] rfl rfl (by decide) (by decide) hk1 hFc hP1 hD1
  generalize H1 = H at hP hS ⊢
  have hP : va_P D classes ([(w, .inr (3, [.ref r, .ref s, .ref u, .ref t, .int tn, .int nx, .int dn, .int ld, .int oc])), (u, .inr (0, [.ref un, .ref uk, .ref uo, .int (nI psU.length)])), (un, .inl ((ka 0), 256, .inr (.inl numU))), (uk, .inl ((ka 2), 256, .inl kpU)), (uo, .inl ((ka 1), 256, .inl odU)), (r, .inl ((ka 0), 8, .inr (.inl (fun _ => 0)))), (s, .inr (0, [.ref sn, .ref sk, .ref so, .int (nI 0)])), (sn, .inl ((ka 0), 256, .inr (.inl numS))), (sk, .inl ((ka 2), 256, .inl kpS')), (so, .inl ((ka 1), 256, .inl odS))]) H := hP
  have hD : va_D A ([(w, .inr (3, [.ref r, .ref s, .ref u, .ref t, .int tn, .int nx, .int dn, .int ld, .int oc])), (u, .inr (0, [.ref un, .ref uk, .ref uo, .int (nI psU.length)])), (un, .inl ((ka 0), 256, .inr (.inl numU))), (uk, .inl ((ka 2), 256, .inl kpU)), (uo, .inl ((ka 1), 256, .inl odU)), (r, .inl ((ka 0), 8, .inr (.inl (fun _ => 0)))), (s, .inr (0, [.ref sn, .ref sk, .ref so, .int (nI 0)])), (sn, .inl ((ka 0), 256, .inr (.inl numS))), (sk, .inl ((ka 2), 256, .inl kpS')), (so, .inl ((ka 1), 256, .inl odS))]) := hD
  refine lv_aload_n hx hb d_Wk_startAnew_15 rfl (lv_at hl 0 rfl) ?_
  refine va_get (D := D) (ci := 3) (v := .ref u) (C := "VersionedBlock$Worker") (T := T_Wk) (N := 9) hx hb hts (fun w h => List.mem_cons_of_mem _ (il_Wk w h)) hown hK hP 0 rfl rfl 2 (by decide) (hts _ (List.mem_cons_of_mem _ mw_1_228)) (fun _ h9 => h9) rfl d_Wk_startAnew_16 ?_
  have hPc := hP.sub (ws' := [(u, .inr (0, [.ref un, .ref uk, .ref uo, .int (nI psU.length)])), (un, .inl ((ka 0), 256, .inr (.inl numU))), (uk, .inl ((ka 2), 256, .inl kpU)), (uo, .inl ((ka 1), 256, .inl odU))]) [1, 2, 3, 4] rfl
  have hDc := hD.sub (ws' := [(u, .inr (0, [.ref un, .ref uk, .ref uo, .int (nI psU.length)])), (un, .inl ((ka 0), 256, .inr (.inl numU))), (uk, .inl ((ka 2), 256, .inl kpU)), (uo, .inl ((ka 1), 256, .inl odU))]) [1, 2, 3, 4] (by decide) rfl
  have hFc := va_free (wc := [(u, .inr (0, [.ref un, .ref uk, .ref uo, .int (nI psU.length)])), (un, .inl ((ka 0), 256, .inr (.inl numU))), (uk, .inl ((ka 2), 256, .inl kpU)), (uo, .inl ((ka 1), 256, .inl odU))]) hD hS hA [1, 2, 3, 4] rfl
  refine va_callv (va_runV (As := []) (rest := []) ⟨hx, hb, hml, hown, hts⟩ (c_Draft_clear l D ka H.size u un uk uo psU numU kpU odU hU0) ⟨callB_of 0 hts (gd_tb mw_2_28) rfl rfl rfl (hts _ (List.mem_cons_of_mem _ mw_1_9)) (hts _ (List.mem_cons_of_mem _ mw_2_25)) (by decide +kernel) ⟨Nat.le_of_ble_eq_true rfl, Nat.le_of_ble_eq_true rfl⟩, (hts _ (List.mem_cons_of_mem _ mw_2_26)), (hts _ (List.mem_cons_of_mem _ mw_2_27))⟩ ⟨pW_blind, va_recv hK hPc (ci := 0) (q0 := 0) rfl rfl, pW_pre hK hN hPc hDc⟩ rfl rfl hl.1 rfl (lv_room (Nat.le_of_ble_eq_true rfl)) d_Wk_startAnew_19 ⟨Nat.le_of_ble_eq_true rfl, Nat.le_of_ble_eq_true rfl⟩) hS (fun q _ h => hFc q h) hFc (fun u9 t9 H1 locs ht hvm hr_19 hB hz1 hk1 hS => ?_)
  obtain ⟨kpU', hrel_19, hP1, hD1⟩ := hB
  rw [ht] at hP1
  obtain ⟨hP, hD⟩ := va_join (wr := [(w, .inr (3, [.ref r, .ref s, .ref u, .ref t, .int tn, .int nx, .int dn, .int ld, .int oc])), (r, .inl ((ka 0), 8, .inr (.inl (fun _ => 0)))), (s, .inr (0, [.ref sn, .ref sk, .ref so, .int (nI 0)])), (sn, .inl ((ka 0), 256, .inr (.inl numS))), (sk, .inl ((ka 2), 256, .inl kpS')), (so, .inl ((ka 1), 256, .inl odS))]) (w1 := [(u, .inr (0, [.ref un, .ref uk, .ref uo, .int (nI 0)])), (un, .inl ((ka 0), 256, .inr (.inl numU))), (uk, .inl ((ka 2), 256, .inl kpU')), (uo, .inl ((ka 1), 256, .inl odU))]) hP hD [1, 2, 3, 4] [0, 5, 6, 7, 8, 9] rfl rfl (by decide) (by decide) hk1 hFc hP1 hD1
  generalize H1 = H at hP hS ⊢
  have hP : va_P D classes ([(w, .inr (3, [.ref r, .ref s, .ref u, .ref t, .int tn, .int nx, .int dn, .int ld, .int oc])), (r, .inl ((ka 0), 8, .inr (.inl (fun _ => 0)))), (s, .inr (0, [.ref sn, .ref sk, .ref so, .int (nI 0)])), (sn, .inl ((ka 0), 256, .inr (.inl numS))), (sk, .inl ((ka 2), 256, .inl kpS')), (so, .inl ((ka 1), 256, .inl odS)), (u, .inr (0, [.ref un, .ref uk, .ref uo, .int (nI 0)])), (un, .inl ((ka 0), 256, .inr (.inl numU))), (uk, .inl ((ka 2), 256, .inl kpU')), (uo, .inl ((ka 1), 256, .inl odU))]) H := hP
  have hD : va_D A ([(w, .inr (3, [.ref r, .ref s, .ref u, .ref t, .int tn, .int nx, .int dn, .int ld, .int oc])), (r, .inl ((ka 0), 8, .inr (.inl (fun _ => 0)))), (s, .inr (0, [.ref sn, .ref sk, .ref so, .int (nI 0)])), (sn, .inl ((ka 0), 256, .inr (.inl numS))), (sk, .inl ((ka 2), 256, .inl kpS')), (so, .inl ((ka 1), 256, .inl odS)), (u, .inr (0, [.ref un, .ref uk, .ref uo, .int (nI 0)])), (un, .inl ((ka 0), 256, .inr (.inl numU))), (uk, .inl ((ka 2), 256, .inl kpU')), (uo, .inl ((ka 1), 256, .inl odU))]) := hD
  refine lv_aload_n hx hb d_Wk_startAnew_22 rfl (lv_at hl 0 rfl) ?_
  refine lv_iconst (v := (nI 0)) hx hb d_Wk_startAnew_23 (by decide) ?_
  refine va_put (D := D) (ci := 3) (v := .int (nI 0)) (ty := .int) (C := "VersionedBlock$Worker") (T := T_Wk) (N := 9) hx hb hts (fun w h => List.mem_cons_of_mem _ (il_Wk w h)) t_Wk t_Wk_ok n_Wk hown hK hP hD hS 0 rfl rfl 5 (by decide) (hts _ (List.mem_cons_of_mem _ mw_1_231)) (fun _ h9 => h9) rfl (by decide +kernel) rfl rfl (Nat.le_of_ble_eq_true rfl) d_Wk_startAnew_24 (fun H locs hP hD hS => ?_)
  have hP : va_P D classes ([(w, .inr (3, [.ref r, .ref s, .ref u, .ref t, .int tn, .int (nI 0), .int dn, .int ld, .int oc])), (r, .inl ((ka 0), 8, .inr (.inl (fun _ => 0)))), (s, .inr (0, [.ref sn, .ref sk, .ref so, .int (nI 0)])), (sn, .inl ((ka 0), 256, .inr (.inl numS))), (sk, .inl ((ka 2), 256, .inl kpS')), (so, .inl ((ka 1), 256, .inl odS)), (u, .inr (0, [.ref un, .ref uk, .ref uo, .int (nI 0)])), (un, .inl ((ka 0), 256, .inr (.inl numU))), (uk, .inl ((ka 2), 256, .inl kpU')), (uo, .inl ((ka 1), 256, .inl odU))]) H := hP
  have hD : va_D A ([(w, .inr (3, [.ref r, .ref s, .ref u, .ref t, .int tn, .int (nI 0), .int dn, .int ld, .int oc])), (r, .inl ((ka 0), 8, .inr (.inl (fun _ => 0)))), (s, .inr (0, [.ref sn, .ref sk, .ref so, .int (nI 0)])), (sn, .inl ((ka 0), 256, .inr (.inl numS))), (sk, .inl ((ka 2), 256, .inl kpS')), (so, .inl ((ka 1), 256, .inl odS)), (u, .inr (0, [.ref un, .ref uk, .ref uo, .int (nI 0)])), (un, .inl ((ka 0), 256, .inr (.inl numU))), (uk, .inl ((ka 2), 256, .inl kpU')), (uo, .inl ((ka 1), 256, .inl odU))]) := hD
  refine lv_aload_n hx hb d_Wk_startAnew_27 rfl (lv_at hl 0 rfl) ?_
  refine lv_iconst (v := (nI 0)) hx hb d_Wk_startAnew_28 (by decide) ?_
  refine va_put (D := D) (ci := 3) (v := .int (nI 0)) (ty := .int) (C := "VersionedBlock$Worker") (T := T_Wk) (N := 9) hx hb hts (fun w h => List.mem_cons_of_mem _ (il_Wk w h)) t_Wk t_Wk_ok n_Wk hown hK hP hD hS 0 rfl rfl 6 (by decide) (hts _ (List.mem_cons_of_mem _ mw_1_232)) (fun _ h9 => h9) rfl (by decide +kernel) rfl rfl (Nat.le_of_ble_eq_true rfl) d_Wk_startAnew_29 (fun H locs hP hD hS => ?_)
  have hP : va_P D classes ([(w, .inr (3, [.ref r, .ref s, .ref u, .ref t, .int tn, .int (nI 0), .int (nI 0), .int ld, .int oc])), (r, .inl ((ka 0), 8, .inr (.inl (fun _ => 0)))), (s, .inr (0, [.ref sn, .ref sk, .ref so, .int (nI 0)])), (sn, .inl ((ka 0), 256, .inr (.inl numS))), (sk, .inl ((ka 2), 256, .inl kpS')), (so, .inl ((ka 1), 256, .inl odS)), (u, .inr (0, [.ref un, .ref uk, .ref uo, .int (nI 0)])), (un, .inl ((ka 0), 256, .inr (.inl numU))), (uk, .inl ((ka 2), 256, .inl kpU')), (uo, .inl ((ka 1), 256, .inl odU))]) H := hP
  have hD : va_D A ([(w, .inr (3, [.ref r, .ref s, .ref u, .ref t, .int tn, .int (nI 0), .int (nI 0), .int ld, .int oc])), (r, .inl ((ka 0), 8, .inr (.inl (fun _ => 0)))), (s, .inr (0, [.ref sn, .ref sk, .ref so, .int (nI 0)])), (sn, .inl ((ka 0), 256, .inr (.inl numS))), (sk, .inl ((ka 2), 256, .inl kpS')), (so, .inl ((ka 1), 256, .inl odS)), (u, .inr (0, [.ref un, .ref uk, .ref uo, .int (nI 0)])), (un, .inl ((ka 0), 256, .inr (.inl numU))), (uk, .inl ((ka 2), 256, .inl kpU')), (uo, .inl ((ka 1), 256, .inl odU))]) := hD
  refine lv_aload_n hx hb d_Wk_startAnew_32 rfl (lv_at hl 0 rfl) ?_
  refine lv_iconst (v := (nI 0)) hx hb d_Wk_startAnew_33 (by decide) ?_
  refine va_put (D := D) (ci := 3) (v := .int (nI 0)) (ty := .int) (C := "VersionedBlock$Worker") (T := T_Wk) (N := 9) hx hb hts (fun w h => List.mem_cons_of_mem _ (il_Wk w h)) t_Wk t_Wk_ok n_Wk hown hK hP hD hS 0 rfl rfl 7 (by decide) (hts _ (List.mem_cons_of_mem _ mw_1_233)) (fun _ h9 => h9) rfl (by decide +kernel) rfl rfl (Nat.le_of_ble_eq_true rfl) d_Wk_startAnew_34 (fun H locs hP hD hS => ?_)
  have hP : va_P D classes ([(w, .inr (3, [.ref r, .ref s, .ref u, .ref t, .int tn, .int (nI 0), .int (nI 0), .int (nI 0), .int oc])), (r, .inl ((ka 0), 8, .inr (.inl (fun _ => 0)))), (s, .inr (0, [.ref sn, .ref sk, .ref so, .int (nI 0)])), (sn, .inl ((ka 0), 256, .inr (.inl numS))), (sk, .inl ((ka 2), 256, .inl kpS')), (so, .inl ((ka 1), 256, .inl odS)), (u, .inr (0, [.ref un, .ref uk, .ref uo, .int (nI 0)])), (un, .inl ((ka 0), 256, .inr (.inl numU))), (uk, .inl ((ka 2), 256, .inl kpU')), (uo, .inl ((ka 1), 256, .inl odU))]) H := hP
  have hD : va_D A ([(w, .inr (3, [.ref r, .ref s, .ref u, .ref t, .int tn, .int (nI 0), .int (nI 0), .int (nI 0), .int oc])), (r, .inl ((ka 0), 8, .inr (.inl (fun _ => 0)))), (s, .inr (0, [.ref sn, .ref sk, .ref so, .int (nI 0)])), (sn, .inl ((ka 0), 256, .inr (.inl numS))), (sk, .inl ((ka 2), 256, .inl kpS')), (so, .inl ((ka 1), 256, .inl odS)), (u, .inr (0, [.ref un, .ref uk, .ref uo, .int (nI 0)])), (un, .inl ((ka 0), 256, .inr (.inl numU))), (uk, .inl ((ka 2), 256, .inl kpU')), (uo, .inl ((ka 1), 256, .inl odU))]) := hD
  refine lv_aload_n hx hb d_Wk_startAnew_37 rfl (lv_at hl 0 rfl) ?_
  refine lv_iconst (v := (nI 0)) hx hb d_Wk_startAnew_38 (by decide) ?_
  refine va_put (D := D) (ci := 3) (v := .int (nI 0)) (ty := .int) (C := "VersionedBlock$Worker") (T := T_Wk) (N := 9) hx hb hts (fun w h => List.mem_cons_of_mem _ (il_Wk w h)) t_Wk t_Wk_ok n_Wk hown hK hP hD hS 0 rfl rfl 8 (by decide) (hts _ (List.mem_cons_of_mem _ mw_1_234)) (fun _ h9 => h9) rfl (by decide +kernel) rfl rfl (Nat.le_of_ble_eq_true rfl) d_Wk_startAnew_39 (fun H locs hP hD hS => ?_)
  have hP : va_P D classes ([(w, .inr (3, [.ref r, .ref s, .ref u, .ref t, .int tn, .int (nI 0), .int (nI 0), .int (nI 0), .int (nI 0)])), (r, .inl ((ka 0), 8, .inr (.inl (fun _ => 0)))), (s, .inr (0, [.ref sn, .ref sk, .ref so, .int (nI 0)])), (sn, .inl ((ka 0), 256, .inr (.inl numS))), (sk, .inl ((ka 2), 256, .inl kpS')), (so, .inl ((ka 1), 256, .inl odS)), (u, .inr (0, [.ref un, .ref uk, .ref uo, .int (nI 0)])), (un, .inl ((ka 0), 256, .inr (.inl numU))), (uk, .inl ((ka 2), 256, .inl kpU')), (uo, .inl ((ka 1), 256, .inl odU))]) H := hP
  have hD : va_D A ([(w, .inr (3, [.ref r, .ref s, .ref u, .ref t, .int tn, .int (nI 0), .int (nI 0), .int (nI 0), .int (nI 0)])), (r, .inl ((ka 0), 8, .inr (.inl (fun _ => 0)))), (s, .inr (0, [.ref sn, .ref sk, .ref so, .int (nI 0)])), (sn, .inl ((ka 0), 256, .inr (.inl numS))), (sk, .inl ((ka 2), 256, .inl kpS')), (so, .inl ((ka 1), 256, .inl odS)), (u, .inr (0, [.ref un, .ref uk, .ref uo, .int (nI 0)])), (un, .inl ((ka 0), 256, .inr (.inl numU))), (uk, .inl ((ka 2), 256, .inl kpU')), (uo, .inl ((ka 1), 256, .inl odU))]) := hD
  have hP9 := hP.sub (ws' := [(w, .inr (3, [.ref r, .ref s, .ref u, .ref t, .int tn, .int (nI 0), .int (nI 0), .int (nI 0), .int (nI 0)])), (r, .inl ((ka 0), 8, .inr (.inl (fun _ => 0)))), (s, .inr (0, [.ref sn, .ref sk, .ref so, .int (nI 0)])), (sn, .inl ((ka 0), 256, .inr (.inl numS))), (sk, .inl ((ka 2), 256, .inl kpS')), (so, .inl ((ka 1), 256, .inl odS)), (u, .inr (0, [.ref un, .ref uk, .ref uo, .int (nI 0)])), (un, .inl ((ka 0), 256, .inr (.inl numU))), (uk, .inl ((ka 2), 256, .inl kpU')), (uo, .inl ((ka 1), 256, .inl odU))]) [0, 1, 2, 3, 4, 5, 6, 7, 8, 9] rfl
  have hD9 := hD.sub (ws' := [(w, .inr (3, [.ref r, .ref s, .ref u, .ref t, .int tn, .int (nI 0), .int (nI 0), .int (nI 0), .int (nI 0)])), (r, .inl ((ka 0), 8, .inr (.inl (fun _ => 0)))), (s, .inr (0, [.ref sn, .ref sk, .ref so, .int (nI 0)])), (sn, .inl ((ka 0), 256, .inr (.inl numS))), (sk, .inl ((ka 2), 256, .inl kpS')), (so, .inl ((ka 1), 256, .inl odS)), (u, .inr (0, [.ref un, .ref uk, .ref uo, .int (nI 0)])), (un, .inl ((ka 0), 256, .inr (.inl numU))), (uk, .inl ((ka 2), 256, .inl kpU')), (uo, .inl ((ka 1), 256, .inl odU))]) [0, 1, 2, 3, 4, 5, 6, 7, 8, 9] (by decide) rfl
  exact W.vret hx hb hr (fun t9 ht hW => ⟨⟨(), rfl, trivial, kpS', kpU', ⟨hrel_12, hrel_19⟩, by rw [ht]; exact hP9, hD9⟩, hS.F ht⟩) hS.2.2 d_Wk_startAnew_42
set_option maxHeartbeats 4000000 in
set_option maxRecDepth 100000 in
theorem c_Wk_take (l : Launch) (D : va_G) (ka : Nat → ClassId) (sz : Nat) (w r s sn sk so u un uk uo : Nat) (t j : Nat) (tn nx dn ld oc : Int32) (rg numS numU : Nat → Int64) (psS psU : List Nat) (kpS odS kpU odU : Nat → Int32) (hS0 : dOK psS kpS odS) (hU0 : dOK psU kpU odU) : Met l y_Wk_take w_Wk_take ({ frames := 2, cells := 0, slots := 0, locals := 44 }) (pW classes (tyS ka) D [.ref w, .ref t, .int (nI j)] ([(w, .inr (3, [.ref r, .ref s, .ref u, .null, .int tn, .int nx, .int dn, .int ld, .int oc])), (r, .inl ((ka 0), 8, .inr (.inl rg))), (s, .inr (0, [.ref sn, .ref sk, .ref so, .int (nI psS.length)])), (sn, .inl ((ka 0), 256, .inr (.inl numS))), (sk, .inl ((ka 2), 256, .inl kpS)), (so, .inl ((ka 1), 256, .inl odS)), (u, .inr (0, [.ref un, .ref uk, .ref uo, .int (nI psU.length)])), (un, .inl ((ka 0), 256, .inr (.inl numU))), (uk, .inl ((ka 2), 256, .inl kpU)), (uo, .inl ((ka 1), 256, .inl odU))]) sz) (va_Qv (fun _ : Unit => True) (fun (_ : Unit) t9 => ∃ (kpS' kpU' : Nat → Int32), (dOK [] kpS' odS ∧ dOK [] kpU' odU) ∧ va_P D classes ([(w, .inr (3, [.ref r, .ref s, .ref u, .ref t, .int (nI j), .int (nI 0), .int (nI 0), .int (nI 0), .int (nI 0)])), (r, .inl ((ka 0), 8, .inr (.inl (fun _ => 0)))), (s, .inr (0, [.ref sn, .ref sk, .ref so, .int (nI 0)])), (sn, .inl ((ka 0), 256, .inr (.inl numS))), (sk, .inl ((ka 2), 256, .inl kpS')), (so, .inl ((ka 1), 256, .inl odS)), (u, .inr (0, [.ref un, .ref uk, .ref uo, .int (nI 0)])), (un, .inl ((ka 0), 256, .inr (.inl numU))), (uk, .inl ((ka 2), 256, .inl kpU')), (uo, .inl ((ka 1), 256, .inl odU))]) t9.heap ∧ va_D (va_A ([(w, .inr (3, [.ref r, .ref s, .ref u, .null, .int tn, .int nx, .int dn, .int ld, .int oc])), (r, .inl ((ka 0), 8, .inr (.inl rg))), (s, .inr (0, [.ref sn, .ref sk, .ref so, .int (nI psS.length)])), (sn, .inl ((ka 0), 256, .inr (.inl numS))), (sk, .inl ((ka 2), 256, .inl kpS)), (so, .inl ((ka 1), 256, .inl odS)), (u, .inr (0, [.ref un, .ref uk, .ref uo, .int (nI psU.length)])), (un, .inl ((ka 0), 256, .inr (.inl numU))), (uk, .inl ((ka 2), 256, .inl kpU)), (uo, .inl ((ka 1), 256, .inl odU))]) sz) ([(w, .inr (3, [.ref r, .ref s, .ref u, .ref t, .int (nI j), .int (nI 0), .int (nI 0), .int (nI 0), .int (nI 0)])), (r, .inl ((ka 0), 8, .inr (.inl (fun _ => 0)))), (s, .inr (0, [.ref sn, .ref sk, .ref so, .int (nI 0)])), (sn, .inl ((ka 0), 256, .inr (.inl numS))), (sk, .inl ((ka 2), 256, .inl kpS')), (so, .inl ((ka 1), 256, .inl odS)), (u, .inr (0, [.ref un, .ref uk, .ref uo, .int (nI 0)])), (un, .inl ((ka 0), 256, .inr (.inl numU))), (uk, .inl ((ka 2), 256, .inl kpU')), (uo, .inl ((ka 1), 256, .inl odU))])) (va_A ([(w, .inr (3, [.ref r, .ref s, .ref u, .null, .int tn, .int nx, .int dn, .int ld, .int oc])), (r, .inl ((ka 0), 8, .inr (.inl rg))), (s, .inr (0, [.ref sn, .ref sk, .ref so, .int (nI psS.length)])), (sn, .inl ((ka 0), 256, .inr (.inl numS))), (sk, .inl ((ka 2), 256, .inl kpS)), (so, .inl ((ka 1), 256, .inl odS)), (u, .inr (0, [.ref un, .ref uk, .ref uo, .int (nI psU.length)])), (un, .inl ((ka 0), 256, .inr (.inl numU))), (uk, .inl ((ka 2), 256, .inl kpU)), (uo, .inl ((ka 1), 256, .inl odU))]) sz)) 0 0 (va_A ([(w, .inr (3, [.ref r, .ref s, .ref u, .null, .int tn, .int nx, .int dn, .int ld, .int oc])), (r, .inl ((ka 0), 8, .inr (.inl rg))), (s, .inr (0, [.ref sn, .ref sk, .ref so, .int (nI psS.length)])), (sn, .inl ((ka 0), 256, .inr (.inl numS))), (sk, .inl ((ka 2), 256, .inl kpS)), (so, .inl ((ka 1), 256, .inl odS)), (u, .inr (0, [.ref un, .ref uk, .ref uo, .int (nI psU.length)])), (un, .inl ((ka 0), 256, .inr (.inl numU))), (uk, .inl ((ka 2), 256, .inl kpU)), (uo, .inl ((ka 1), 256, .inl odU))]) sz) := by
  refine Met.ofW (cc := b_Wk_take) (maxL := 3) (ret := none) (by decide) rfl ?_
  intro pP eE sS mM args below meth cC s1 B hml hv
  obtain ⟨rfl, hsz, hP, hK, hN, hD0⟩ := hv
  have hx := B.exec
  have hb := B.bytes
  have hr := B.returns
  have hts := atoms_spec (ws := w_Wk_take) B.pre
  have hown : sS.vm.findClass "VersionedBlock$Worker" = some mM.cls := findClass_of_methodNamed B.named
  have hlocks := B.notSynchronized
  subst hsz
  have hD := hD0.self (sz := sS.heap.size)
  generalize hAe : va_A ([(w, .inr (3, [.ref r, .ref s, .ref u, .null, .int tn, .int nx, .int dn, .int ld, .int oc])), (r, .inl ((ka 0), 8, .inr (.inl rg))), (s, .inr (0, [.ref sn, .ref sk, .ref so, .int (nI psS.length)])), (sn, .inl ((ka 0), 256, .inr (.inl numS))), (sk, .inl ((ka 2), 256, .inl kpS)), (so, .inl ((ka 1), 256, .inl odS)), (u, .inr (0, [.ref un, .ref uk, .ref uo, .int (nI psU.length)])), (un, .inl ((ka 0), 256, .inr (.inl numU))), (uk, .inl ((ka 2), 256, .inl kpU)), (uo, .inl ((ka 1), 256, .inl odU))]) sS.heap.size = A at hD ⊢
  have hA : ∀ q : Nat, sS.heap.size ≤ q → A q := fun q h => by rw [← hAe]; exact Or.inr h
  have hS : va_S A sS.heap sS.heap [] := va_S.rf
  have hl := lv_entry ([.ref w, .ref t, .int (nI j)]) (n := 3) (Nat.le_of_ble_eq_true rfl)
  rw [lg_entry_eq]
  generalize (lg_sl ([.ref w, .ref t, .int (nI j)]) ++ List.replicate (3 - (lg_sl ([.ref w, .ref t, .int (nI j)])).length) Slot.unset).toArray = ls at hl ⊢
  have hl : lv_has ls 3 [(0, .ref w), (1, .ref t), (2, .int (nI j))] := hl
  refine lv_aload_n hx hb d_Wk_take_0 rfl (lv_at hl 0 rfl) ?_
  refine lv_aload_n hx hb d_Wk_take_1 rfl (lv_at hl 1 rfl) ?_
  refine va_put (D := D) (ci := 3) (v := .ref t) (ty := .object "VersionedBlock$Transaction") (C := "VersionedBlock$Worker") (T := T_Wk) (N := 9) hx hb hts (fun w h => List.mem_cons_of_mem _ (il_Wk w h)) t_Wk t_Wk_ok n_Wk hown hK hP hD hS 0 rfl rfl 3 (by decide) (hts _ (List.mem_cons_of_mem _ mw_1_229)) (fun _ h9 => h9) rfl (by decide +kernel) rfl rfl (Nat.le_of_ble_eq_true rfl) d_Wk_take_2 (fun H locs hP hD hS => ?_)
  have hP : va_P D classes ([(w, .inr (3, [.ref r, .ref s, .ref u, .ref t, .int tn, .int nx, .int dn, .int ld, .int oc])), (r, .inl ((ka 0), 8, .inr (.inl rg))), (s, .inr (0, [.ref sn, .ref sk, .ref so, .int (nI psS.length)])), (sn, .inl ((ka 0), 256, .inr (.inl numS))), (sk, .inl ((ka 2), 256, .inl kpS)), (so, .inl ((ka 1), 256, .inl odS)), (u, .inr (0, [.ref un, .ref uk, .ref uo, .int (nI psU.length)])), (un, .inl ((ka 0), 256, .inr (.inl numU))), (uk, .inl ((ka 2), 256, .inl kpU)), (uo, .inl ((ka 1), 256, .inl odU))]) H := hP
  have hD : va_D A ([(w, .inr (3, [.ref r, .ref s, .ref u, .ref t, .int tn, .int nx, .int dn, .int ld, .int oc])), (r, .inl ((ka 0), 8, .inr (.inl rg))), (s, .inr (0, [.ref sn, .ref sk, .ref so, .int (nI psS.length)])), (sn, .inl ((ka 0), 256, .inr (.inl numS))), (sk, .inl ((ka 2), 256, .inl kpS)), (so, .inl ((ka 1), 256, .inl odS)), (u, .inr (0, [.ref un, .ref uk, .ref uo, .int (nI psU.length)])), (un, .inl ((ka 0), 256, .inr (.inl numU))), (uk, .inl ((ka 2), 256, .inl kpU)), (uo, .inl ((ka 1), 256, .inl odU))]) := hD
  refine lv_aload_n hx hb d_Wk_take_5 rfl (lv_at hl 0 rfl) ?_
  refine lv_iload_n hx hb d_Wk_take_6 rfl (lv_at hl 2 rfl) ?_
  refine va_put (D := D) (ci := 3) (v := .int (nI j)) (ty := .int) (C := "VersionedBlock$Worker") (T := T_Wk) (N := 9) hx hb hts (fun w h => List.mem_cons_of_mem _ (il_Wk w h)) t_Wk t_Wk_ok n_Wk hown hK hP hD hS 0 rfl rfl 4 (by decide) (hts _ (List.mem_cons_of_mem _ mw_1_230)) (fun _ h9 => h9) rfl (by decide +kernel) rfl rfl (Nat.le_of_ble_eq_true rfl) d_Wk_take_7 (fun H locs hP hD hS => ?_)
  have hP : va_P D classes ([(w, .inr (3, [.ref r, .ref s, .ref u, .ref t, .int (nI j), .int nx, .int dn, .int ld, .int oc])), (r, .inl ((ka 0), 8, .inr (.inl rg))), (s, .inr (0, [.ref sn, .ref sk, .ref so, .int (nI psS.length)])), (sn, .inl ((ka 0), 256, .inr (.inl numS))), (sk, .inl ((ka 2), 256, .inl kpS)), (so, .inl ((ka 1), 256, .inl odS)), (u, .inr (0, [.ref un, .ref uk, .ref uo, .int (nI psU.length)])), (un, .inl ((ka 0), 256, .inr (.inl numU))), (uk, .inl ((ka 2), 256, .inl kpU)), (uo, .inl ((ka 1), 256, .inl odU))]) H := hP
  have hD : va_D A ([(w, .inr (3, [.ref r, .ref s, .ref u, .ref t, .int (nI j), .int nx, .int dn, .int ld, .int oc])), (r, .inl ((ka 0), 8, .inr (.inl rg))), (s, .inr (0, [.ref sn, .ref sk, .ref so, .int (nI psS.length)])), (sn, .inl ((ka 0), 256, .inr (.inl numS))), (sk, .inl ((ka 2), 256, .inl kpS)), (so, .inl ((ka 1), 256, .inl odS)), (u, .inr (0, [.ref un, .ref uk, .ref uo, .int (nI psU.length)])), (un, .inl ((ka 0), 256, .inr (.inl numU))), (uk, .inl ((ka 2), 256, .inl kpU)), (uo, .inl ((ka 1), 256, .inl odU))]) := hD
  refine lv_aload_n hx hb d_Wk_take_10 rfl (lv_at hl 0 rfl) ?_
  have hPc := hP.sub (ws' := [(w, .inr (3, [.ref r, .ref s, .ref u, .ref t, .int (nI j), .int nx, .int dn, .int ld, .int oc])), (r, .inl ((ka 0), 8, .inr (.inl rg))), (s, .inr (0, [.ref sn, .ref sk, .ref so, .int (nI psS.length)])), (sn, .inl ((ka 0), 256, .inr (.inl numS))), (sk, .inl ((ka 2), 256, .inl kpS)), (so, .inl ((ka 1), 256, .inl odS)), (u, .inr (0, [.ref un, .ref uk, .ref uo, .int (nI psU.length)])), (un, .inl ((ka 0), 256, .inr (.inl numU))), (uk, .inl ((ka 2), 256, .inl kpU)), (uo, .inl ((ka 1), 256, .inl odU))]) [0, 1, 2, 3, 4, 5, 6, 7, 8, 9] rfl
  have hDc := hD.sub (ws' := [(w, .inr (3, [.ref r, .ref s, .ref u, .ref t, .int (nI j), .int nx, .int dn, .int ld, .int oc])), (r, .inl ((ka 0), 8, .inr (.inl rg))), (s, .inr (0, [.ref sn, .ref sk, .ref so, .int (nI psS.length)])), (sn, .inl ((ka 0), 256, .inr (.inl numS))), (sk, .inl ((ka 2), 256, .inl kpS)), (so, .inl ((ka 1), 256, .inl odS)), (u, .inr (0, [.ref un, .ref uk, .ref uo, .int (nI psU.length)])), (un, .inl ((ka 0), 256, .inr (.inl numU))), (uk, .inl ((ka 2), 256, .inl kpU)), (uo, .inl ((ka 1), 256, .inl odU))]) [0, 1, 2, 3, 4, 5, 6, 7, 8, 9] (by decide) rfl
  have hFc := va_free (wc := [(w, .inr (3, [.ref r, .ref s, .ref u, .ref t, .int (nI j), .int nx, .int dn, .int ld, .int oc])), (r, .inl ((ka 0), 8, .inr (.inl rg))), (s, .inr (0, [.ref sn, .ref sk, .ref so, .int (nI psS.length)])), (sn, .inl ((ka 0), 256, .inr (.inl numS))), (sk, .inl ((ka 2), 256, .inl kpS)), (so, .inl ((ka 1), 256, .inl odS)), (u, .inr (0, [.ref un, .ref uk, .ref uo, .int (nI psU.length)])), (un, .inl ((ka 0), 256, .inr (.inl numU))), (uk, .inl ((ka 2), 256, .inl kpU)), (uo, .inl ((ka 1), 256, .inl odU))]) hD hS hA [0, 1, 2, 3, 4, 5, 6, 7, 8, 9] rfl
  refine va_callv (va_runV (As := []) (rest := []) ⟨hx, hb, hml, hown, hts⟩ (c_Wk_startAnew l D ka H.size w r s sn sk so u un uk uo t (nI j) nx dn ld oc rg numS numU psS psU kpS odS kpU odU hS0 hU0) ⟨callB_of 0 hts (gd_tb mw_2_21) rfl rfl rfl (hts _ (List.mem_cons_of_mem _ mw_1_8)) (hts _ (List.mem_cons_of_mem _ mw_2_18)) (by decide +kernel) ⟨Nat.le_of_ble_eq_true rfl, Nat.le_of_ble_eq_true rfl⟩, (hts _ (List.mem_cons_of_mem _ mw_2_19)), (hts _ (List.mem_cons_of_mem _ mw_2_20))⟩ ⟨pW_blind, va_recv hK hPc (ci := 3) (q0 := 0) rfl rfl, pW_pre hK hN hPc hDc⟩ rfl rfl hl.1 rfl (lv_room (Nat.le_of_ble_eq_true rfl)) d_Wk_take_11 ⟨Nat.le_of_ble_eq_true rfl, Nat.le_of_ble_eq_true rfl⟩) hS (fun q _ h => hFc q h) hFc (fun u9 t9 H1 locs ht hvm hr_11 hB hz1 hk1 hS => ?_)
  obtain ⟨kpS', kpU', hrel_11, hP1, hD1⟩ := hB
  rw [ht] at hP1
  obtain ⟨hP, hD⟩ := va_join (wr := []) (w1 := [(w, .inr (3, [.ref r, .ref s, .ref u, .ref t, .int (nI j), .int (nI 0), .int (nI 0), .int (nI 0), .int (nI 0)])), (r, .inl ((ka 0), 8, .inr (.inl (fun _ => 0)))), (s, .inr (0, [.ref sn, .ref sk, .ref so, .int (nI 0)])), (sn, .inl ((ka 0), 256, .inr (.inl numS))), (sk, .inl ((ka 2), 256, .inl kpS')), (so, .inl ((ka 1), 256, .inl odS)), (u, .inr (0, [.ref un, .ref uk, .ref uo, .int (nI 0)])), (un, .inl ((ka 0), 256, .inr (.inl numU))), (uk, .inl ((ka 2), 256, .inl kpU')), (uo, .inl ((ka 1), 256, .inl odU))]) hP hD [0, 1, 2, 3, 4, 5, 6, 7, 8, 9] [] rfl rfl (by decide) (by decide) hk1 hFc hP1 hD1
  generalize H1 = H at hP hS ⊢
  have hP : va_P D classes ([(w, .inr (3, [.ref r, .ref s, .ref u, .ref t, .int (nI j), .int (nI 0), .int (nI 0), .int (nI 0), .int (nI 0)])), (r, .inl ((ka 0), 8, .inr (.inl (fun _ => 0)))), (s, .inr (0, [.ref sn, .ref sk, .ref so, .int (nI 0)])), (sn, .inl ((ka 0), 256, .inr (.inl numS))), (sk, .inl ((ka 2), 256, .inl kpS')), (so, .inl ((ka 1), 256, .inl odS)), (u, .inr (0, [.ref un, .ref uk, .ref uo, .int (nI 0)])), (un, .inl ((ka 0), 256, .inr (.inl numU))), (uk, .inl ((ka 2), 256, .inl kpU')), (uo, .inl ((ka 1), 256, .inl odU))]) H := hP
  have hD : va_D A ([(w, .inr (3, [.ref r, .ref s, .ref u, .ref t, .int (nI j), .int (nI 0), .int (nI 0), .int (nI 0), .int (nI 0)])), (r, .inl ((ka 0), 8, .inr (.inl (fun _ => 0)))), (s, .inr (0, [.ref sn, .ref sk, .ref so, .int (nI 0)])), (sn, .inl ((ka 0), 256, .inr (.inl numS))), (sk, .inl ((ka 2), 256, .inl kpS')), (so, .inl ((ka 1), 256, .inl odS)), (u, .inr (0, [.ref un, .ref uk, .ref uo, .int (nI 0)])), (un, .inl ((ka 0), 256, .inr (.inl numU))), (uk, .inl ((ka 2), 256, .inl kpU')), (uo, .inl ((ka 1), 256, .inl odU))]) := hD
  have hP9 := hP.sub (ws' := [(w, .inr (3, [.ref r, .ref s, .ref u, .ref t, .int (nI j), .int (nI 0), .int (nI 0), .int (nI 0), .int (nI 0)])), (r, .inl ((ka 0), 8, .inr (.inl (fun _ => 0)))), (s, .inr (0, [.ref sn, .ref sk, .ref so, .int (nI 0)])), (sn, .inl ((ka 0), 256, .inr (.inl numS))), (sk, .inl ((ka 2), 256, .inl kpS')), (so, .inl ((ka 1), 256, .inl odS)), (u, .inr (0, [.ref un, .ref uk, .ref uo, .int (nI 0)])), (un, .inl ((ka 0), 256, .inr (.inl numU))), (uk, .inl ((ka 2), 256, .inl kpU')), (uo, .inl ((ka 1), 256, .inl odU))]) [0, 1, 2, 3, 4, 5, 6, 7, 8, 9] rfl
  have hD9 := hD.sub (ws' := [(w, .inr (3, [.ref r, .ref s, .ref u, .ref t, .int (nI j), .int (nI 0), .int (nI 0), .int (nI 0), .int (nI 0)])), (r, .inl ((ka 0), 8, .inr (.inl (fun _ => 0)))), (s, .inr (0, [.ref sn, .ref sk, .ref so, .int (nI 0)])), (sn, .inl ((ka 0), 256, .inr (.inl numS))), (sk, .inl ((ka 2), 256, .inl kpS')), (so, .inl ((ka 1), 256, .inl odS)), (u, .inr (0, [.ref un, .ref uk, .ref uo, .int (nI 0)])), (un, .inl ((ka 0), 256, .inr (.inl numU))), (uk, .inl ((ka 2), 256, .inl kpU')), (uo, .inl ((ka 1), 256, .inl odU))]) [0, 1, 2, 3, 4, 5, 6, 7, 8, 9] (by decide) rfl
  exact W.vret hx hb hr (fun t9 ht hW => ⟨⟨(), rfl, trivial, kpS', kpU', hrel_11, by rw [ht]; exact hP9, hD9⟩, hS.F ht⟩) hS.2.2 d_Wk_take_14
set_option maxHeartbeats 4000000 in
set_option maxRecDepth 100000 in
theorem c_Wk_init (l : Launch) (D : va_G) (ka : Nat → ClassId) (sz : Nat) (w : Nat)  : Met l y_Wk_init w_Wk_init ({ frames := 2, cells := 9, slots := 1552, locals := 32 }) (pW classes (tyS ka) D [.ref w] ([(w, .inr (3, [.null, .null, .null, .null, .int 0, .int 0, .int 0, .int 0, .int 0]))]) sz) (va_Qv (fun _ : Unit => True) (fun (_ : Unit) t9 => ∃ (r s sn sk so u un uk uo : Nat), (True) ∧ va_P D classes ([(w, .inr (3, [.ref r, .ref s, .ref u, .null, .int 0, .int 0, .int 0, .int 0, .int 0])), (r, .inl ((ka 0), 8, .inr (.inl (fun _ => 0)))), (s, .inr (0, [.ref sn, .ref sk, .ref so, .int (nI 0)])), (sn, .inl ((ka 0), 256, .inr (.inl (fun _ => 0)))), (sk, .inl ((ka 2), 256, .inl (fun _ => 0))), (so, .inl ((ka 1), 256, .inl (fun _ => 0))), (u, .inr (0, [.ref un, .ref uk, .ref uo, .int (nI 0)])), (un, .inl ((ka 0), 256, .inr (.inl (fun _ => 0)))), (uk, .inl ((ka 2), 256, .inl (fun _ => 0))), (uo, .inl ((ka 1), 256, .inl (fun _ => 0)))]) t9.heap ∧ va_D (va_A ([(w, .inr (3, [.null, .null, .null, .null, .int 0, .int 0, .int 0, .int 0, .int 0]))]) sz) ([(w, .inr (3, [.ref r, .ref s, .ref u, .null, .int 0, .int 0, .int 0, .int 0, .int 0])), (r, .inl ((ka 0), 8, .inr (.inl (fun _ => 0)))), (s, .inr (0, [.ref sn, .ref sk, .ref so, .int (nI 0)])), (sn, .inl ((ka 0), 256, .inr (.inl (fun _ => 0)))), (sk, .inl ((ka 2), 256, .inl (fun _ => 0))), (so, .inl ((ka 1), 256, .inl (fun _ => 0))), (u, .inr (0, [.ref un, .ref uk, .ref uo, .int (nI 0)])), (un, .inl ((ka 0), 256, .inr (.inl (fun _ => 0)))), (uk, .inl ((ka 2), 256, .inl (fun _ => 0))), (uo, .inl ((ka 1), 256, .inl (fun _ => 0)))])) (va_A ([(w, .inr (3, [.null, .null, .null, .null, .int 0, .int 0, .int 0, .int 0, .int 0]))]) sz)) 9 1552 (va_A ([(w, .inr (3, [.null, .null, .null, .null, .int 0, .int 0, .int 0, .int 0, .int 0]))]) sz) := by
  refine Met.ofW (cc := b_Wk_init) (maxL := 1) (ret := none) (by decide) rfl ?_
  intro pP eE sS mM args below meth cC s1 B hml hv
  obtain ⟨rfl, hsz, hP, hK, hN, hD0⟩ := hv
  have hx := B.exec
  have hb := B.bytes
  have hr := B.returns
  have hts := atoms_spec (ws := w_Wk_init) B.pre
  have hown : sS.vm.findClass "VersionedBlock$Worker" = some mM.cls := findClass_of_methodNamed B.named
  have hlocks := B.notSynchronized
  have hin : meth.name = "<init>" := (name_of_methodNamed B.named B.method).1
  subst hsz
  have hD := hD0.self (sz := sS.heap.size)
  generalize hAe : va_A ([(w, .inr (3, [.null, .null, .null, .null, .int 0, .int 0, .int 0, .int 0, .int 0]))]) sS.heap.size = A at hD ⊢
  have hA : ∀ q : Nat, sS.heap.size ≤ q → A q := fun q h => by rw [← hAe]; exact Or.inr h
  have hS : va_S A sS.heap sS.heap [] := va_S.rf
  have hl := lv_entry ([.ref w]) (n := 1) (Nat.le_of_ble_eq_true rfl)
  rw [lg_entry_eq]
  generalize (lg_sl ([.ref w]) ++ List.replicate (1 - (lg_sl ([.ref w])).length) Slot.unset).toArray = ls at hl ⊢
  have hl : lv_has ls 1 [(0, .ref w)] := hl
  refine lv_aload_n hx hb d_Wk_init_0 rfl (lv_at hl 0 rfl) ?_
  refine W.objInit hx hb hown (hts _ (List.mem_cons_of_mem _ mw_1_205)) (hts _ (List.mem_cons_of_mem _ mw_1_16)) (hts _ (List.mem_cons_of_mem _ mw_1_17)) rfl (by rw [hml]; exact hl.1) rfl d_Wk_init_1 (Nat.le_of_ble_eq_true rfl) (Nat.le_of_ble_eq_true rfl) ?_
  refine W.eq (g2 := F0 mM 4 ls []) rfl ?_
  refine lv_aload_n hx hb d_Wk_init_4 rfl (lv_at hl 0 rfl) ?_
  refine lv_bipush (v := 8) hx hb d_Wk_init_5 (by decide) ?_
  refine my_newa (ty := .long) (a0 := (8, .inr (.inl (fun _ => 0)))) hx hb (hts _ (List.mem_cons_of_mem _ mw_1_33)) rfl hK 0 (cA0 := ka 0) rfl hP hD hS hA (fun _ => rfl) (k := 8) (by decide) (by decide) (Nat.le_of_ble_eq_true rfl) (Nat.le_of_ble_eq_true rfl) d_Wk_init_7 (fun q7 H hP hD hS => ?_)
  have hP : va_P D classes ([(w, .inr (3, [.null, .null, .null, .null, .int 0, .int 0, .int 0, .int 0, .int 0])), (q7, .inl ((ka 0), 8, .inr (.inl (fun _ => 0))))]) H := hP
  have hD : va_D A ([(w, .inr (3, [.null, .null, .null, .null, .int 0, .int 0, .int 0, .int 0, .int 0])), (q7, .inl ((ka 0), 8, .inr (.inl (fun _ => 0))))]) := hD
  refine W.widen (k := 1) (n := 8) (by omega) (by omega) ?_
  refine va_putF (D := D) (ci := 3) (v := .ref q7) (ty := .array .long) (C := "VersionedBlock$Worker") (T := T_Wk) (N := 9) hx hb hts (fun w h => List.mem_cons_of_mem _ (il_Wk w h)) t_Wk t_Wk_ok n_Wk hown hK hP hD hS 0 rfl rfl 0 (by decide) (hts _ (List.mem_cons_of_mem _ mw_1_226)) (fun _ h9 => h9) rfl hin rfl (by decide +kernel) rfl rfl (Nat.le_of_ble_eq_true rfl) d_Wk_init_9 (fun H locs hP hD hS => ?_)
  have hP : va_P D classes ([(w, .inr (3, [.ref q7, .null, .null, .null, .int 0, .int 0, .int 0, .int 0, .int 0])), (q7, .inl ((ka 0), 8, .inr (.inl (fun _ => 0))))]) H := hP
  have hD : va_D A ([(w, .inr (3, [.ref q7, .null, .null, .null, .int 0, .int 0, .int 0, .int 0, .int 0])), (q7, .inl ((ka 0), 8, .inr (.inl (fun _ => 0))))]) := hD
  refine lv_aload_n hx hb d_Wk_init_12 rfl (lv_at hl 0 rfl) ?_
  refine va_new (ci := 0) (fs := [.null, .null, .null, .int 0]) (C := "VersionedBlock$Draft") (T := T_Dr) (N := 4) hx hb hts (fun w h => List.mem_cons_of_mem _ (il_Dr w h)) t_Dr t_Dr_ok hown (hts _ (List.mem_cons_of_mem _ mw_1_206)) (hts _ (List.mem_cons_of_mem _ mw_1_207)) (hts _ (List.mem_cons_of_mem _ mw_1_9)) hK hP hD hS hA rfl fs_Dr (Nat.le_of_ble_eq_true rfl) (Nat.le_of_ble_eq_true rfl) d_Wk_init_13 (fun q13 H hP hD hS => ?_)
  have hP : va_P D classes ([(w, .inr (3, [.ref q7, .null, .null, .null, .int 0, .int 0, .int 0, .int 0, .int 0])), (q7, .inl ((ka 0), 8, .inr (.inl (fun _ => 0)))), (q13, .inr (0, [.null, .null, .null, .int 0]))]) H := hP
  have hD : va_D A ([(w, .inr (3, [.ref q7, .null, .null, .null, .int 0, .int 0, .int 0, .int 0, .int 0])), (q7, .inl ((ka 0), 8, .inr (.inl (fun _ => 0)))), (q13, .inr (0, [.null, .null, .null, .int 0]))]) := hD
  refine W.widen (k := 2) (n := 12) (by omega) (by omega) ?_
  refine lv_dup hx hb d_Wk_init_16 rfl ?_
  have hPc := hP.sub (ws' := [(q13, .inr (0, [.null, .null, .null, .int 0]))]) [2] rfl
  have hDc := hD.sub (ws' := [(q13, .inr (0, [.null, .null, .null, .int 0]))]) [2] (by decide) rfl
  have hFc := va_free (wc := [(q13, .inr (0, [.null, .null, .null, .int 0]))]) hD hS hA [2] rfl
  refine va_callv (va_runIN (As := []) (rest := [.ref q13, .ref w]) ⟨hx, hb, hml, hown, hts⟩ (c_Draft_init l D ka H.size q13 ) ⟨va_cnB (host := "VersionedBlock") 0 hts (gd_tb mw_1_210) rfl rfl rfl (kN_4 hN) (hts _ (List.mem_cons_of_mem _ mw_1_9)) (by decide +kernel) ⟨Nat.le_of_ble_eq_true rfl, Nat.le_of_ble_eq_true rfl⟩, rfl, (hts _ (List.mem_cons_of_mem _ mw_1_209))⟩ ⟨pW_blind, pW_pre hK hN hPc hDc⟩ rfl rfl hl.1 rfl (lv_room (Nat.le_of_ble_eq_true rfl)) d_Wk_init_17 ⟨Nat.le_of_ble_eq_true rfl, Nat.le_of_ble_eq_true rfl⟩) hS (fun q _ h => hFc q h) hFc (fun u9 t9 H1 locs ht hvm hr_17 hB hz1 hk1 hS => ?_)
  obtain ⟨sn, sk, so, hrel_17, hP1, hD1⟩ := hB
  rw [ht] at hP1
  obtain ⟨hP, hD⟩ := va_join (wr := [(w, .inr (3, [.ref q7, .null, .null, .null, .int 0, .int 0, .int 0, .int 0, .int 0])), (q7, .inl ((ka 0), 8, .inr (.inl (fun _ => 0))))]) (w1 := [(q13, .inr (0, [.ref sn, .ref sk, .ref so, .int (nI 0)])), (sn, .inl ((ka 0), 256, .inr (.inl (fun _ => 0)))), (sk, .inl ((ka 2), 256, .inl (fun _ => 0))), (so, .inl ((ka 1), 256, .inl (fun _ => 0)))]) hP hD [2] [0, 1] rfl rfl (by decide) (by decide) hk1 hFc hP1 hD1
  generalize H1 = H at hP hS ⊢
  refine W.widen (k := 5) (n := 780) (by omega) (by omega) ?_
  have hP : va_P D classes ([(w, .inr (3, [.ref q7, .null, .null, .null, .int 0, .int 0, .int 0, .int 0, .int 0])), (q7, .inl ((ka 0), 8, .inr (.inl (fun _ => 0)))), (q13, .inr (0, [.ref sn, .ref sk, .ref so, .int (nI 0)])), (sn, .inl ((ka 0), 256, .inr (.inl (fun _ => 0)))), (sk, .inl ((ka 2), 256, .inl (fun _ => 0))), (so, .inl ((ka 1), 256, .inl (fun _ => 0)))]) H := hP
  have hD : va_D A ([(w, .inr (3, [.ref q7, .null, .null, .null, .int 0, .int 0, .int 0, .int 0, .int 0])), (q7, .inl ((ka 0), 8, .inr (.inl (fun _ => 0)))), (q13, .inr (0, [.ref sn, .ref sk, .ref so, .int (nI 0)])), (sn, .inl ((ka 0), 256, .inr (.inl (fun _ => 0)))), (sk, .inl ((ka 2), 256, .inl (fun _ => 0))), (so, .inl ((ka 1), 256, .inl (fun _ => 0)))]) := hD
  refine va_putF (D := D) (ci := 3) (v := .ref q13) (ty := .object "VersionedBlock$Draft") (C := "VersionedBlock$Worker") (T := T_Wk) (N := 9) hx hb hts (fun w h => List.mem_cons_of_mem _ (il_Wk w h)) t_Wk t_Wk_ok n_Wk hown hK hP hD hS 0 rfl rfl 1 (by decide) (hts _ (List.mem_cons_of_mem _ mw_1_227)) (fun _ h9 => h9) rfl hin rfl (by decide +kernel) rfl rfl (Nat.le_of_ble_eq_true rfl) d_Wk_init_20 (fun H locs hP hD hS => ?_)
  have hP : va_P D classes ([(w, .inr (3, [.ref q7, .ref q13, .null, .null, .int 0, .int 0, .int 0, .int 0, .int 0])), (q7, .inl ((ka 0), 8, .inr (.inl (fun _ => 0)))), (q13, .inr (0, [.ref sn, .ref sk, .ref so, .int (nI 0)])), (sn, .inl ((ka 0), 256, .inr (.inl (fun _ => 0)))), (sk, .inl ((ka 2), 256, .inl (fun _ => 0))), (so, .inl ((ka 1), 256, .inl (fun _ => 0)))]) H := hP
  have hD : va_D A ([(w, .inr (3, [.ref q7, .ref q13, .null, .null, .int 0, .int 0, .int 0, .int 0, .int 0])), (q7, .inl ((ka 0), 8, .inr (.inl (fun _ => 0)))), (q13, .inr (0, [.ref sn, .ref sk, .ref so, .int (nI 0)])), (sn, .inl ((ka 0), 256, .inr (.inl (fun _ => 0)))), (sk, .inl ((ka 2), 256, .inl (fun _ => 0))), (so, .inl ((ka 1), 256, .inl (fun _ => 0)))]) := hD
  refine lv_aload_n hx hb d_Wk_init_23 rfl (lv_at hl 0 rfl) ?_
  refine va_new (ci := 0) (fs := [.null, .null, .null, .int 0]) (C := "VersionedBlock$Draft") (T := T_Dr) (N := 4) hx hb hts (fun w h => List.mem_cons_of_mem _ (il_Dr w h)) t_Dr t_Dr_ok hown (hts _ (List.mem_cons_of_mem _ mw_1_206)) (hts _ (List.mem_cons_of_mem _ mw_1_207)) (hts _ (List.mem_cons_of_mem _ mw_1_9)) hK hP hD hS hA rfl fs_Dr (Nat.le_of_ble_eq_true rfl) (Nat.le_of_ble_eq_true rfl) d_Wk_init_24 (fun q24 H hP hD hS => ?_)
  have hP : va_P D classes ([(w, .inr (3, [.ref q7, .ref q13, .null, .null, .int 0, .int 0, .int 0, .int 0, .int 0])), (q7, .inl ((ka 0), 8, .inr (.inl (fun _ => 0)))), (q13, .inr (0, [.ref sn, .ref sk, .ref so, .int (nI 0)])), (sn, .inl ((ka 0), 256, .inr (.inl (fun _ => 0)))), (sk, .inl ((ka 2), 256, .inl (fun _ => 0))), (so, .inl ((ka 1), 256, .inl (fun _ => 0))), (q24, .inr (0, [.null, .null, .null, .int 0]))]) H := hP
  have hD : va_D A ([(w, .inr (3, [.ref q7, .ref q13, .null, .null, .int 0, .int 0, .int 0, .int 0, .int 0])), (q7, .inl ((ka 0), 8, .inr (.inl (fun _ => 0)))), (q13, .inr (0, [.ref sn, .ref sk, .ref so, .int (nI 0)])), (sn, .inl ((ka 0), 256, .inr (.inl (fun _ => 0)))), (sk, .inl ((ka 2), 256, .inl (fun _ => 0))), (so, .inl ((ka 1), 256, .inl (fun _ => 0))), (q24, .inr (0, [.null, .null, .null, .int 0]))]) := hD
  refine W.widen (k := 6) (n := 784) (by omega) (by omega) ?_
  refine lv_dup hx hb d_Wk_init_27 rfl ?_
  have hPc := hP.sub (ws' := [(q24, .inr (0, [.null, .null, .null, .int 0]))]) [6] rfl
  have hDc := hD.sub (ws' := [(q24, .inr (0, [.null, .null, .null, .int 0]))]) [6] (by decide) rfl
  have hFc := va_free (wc := [(q24, .inr (0, [.null, .null, .null, .int 0]))]) hD hS hA [6] rfl
  refine va_callv (va_runIN (As := []) (rest := [.ref q24, .ref w]) ⟨hx, hb, hml, hown, hts⟩ (c_Draft_init l D ka H.size q24 ) ⟨va_cnB (host := "VersionedBlock") 0 hts (gd_tb mw_1_210) rfl rfl rfl (kN_4 hN) (hts _ (List.mem_cons_of_mem _ mw_1_9)) (by decide +kernel) ⟨Nat.le_of_ble_eq_true rfl, Nat.le_of_ble_eq_true rfl⟩, rfl, (hts _ (List.mem_cons_of_mem _ mw_1_209))⟩ ⟨pW_blind, pW_pre hK hN hPc hDc⟩ rfl rfl hl.1 rfl (lv_room (Nat.le_of_ble_eq_true rfl)) d_Wk_init_28 ⟨Nat.le_of_ble_eq_true rfl, Nat.le_of_ble_eq_true rfl⟩) hS (fun q _ h => hFc q h) hFc (fun u9 t9 H1 locs ht hvm hr_28 hB hz1 hk1 hS => ?_)
  obtain ⟨un, uk, uo, hrel_28, hP1, hD1⟩ := hB
  rw [ht] at hP1
  obtain ⟨hP, hD⟩ := va_join (wr := [(w, .inr (3, [.ref q7, .ref q13, .null, .null, .int 0, .int 0, .int 0, .int 0, .int 0])), (q7, .inl ((ka 0), 8, .inr (.inl (fun _ => 0)))), (q13, .inr (0, [.ref sn, .ref sk, .ref so, .int (nI 0)])), (sn, .inl ((ka 0), 256, .inr (.inl (fun _ => 0)))), (sk, .inl ((ka 2), 256, .inl (fun _ => 0))), (so, .inl ((ka 1), 256, .inl (fun _ => 0)))]) (w1 := [(q24, .inr (0, [.ref un, .ref uk, .ref uo, .int (nI 0)])), (un, .inl ((ka 0), 256, .inr (.inl (fun _ => 0)))), (uk, .inl ((ka 2), 256, .inl (fun _ => 0))), (uo, .inl ((ka 1), 256, .inl (fun _ => 0)))]) hP hD [6] [0, 1, 2, 3, 4, 5] rfl rfl (by decide) (by decide) hk1 hFc hP1 hD1
  generalize H1 = H at hP hS ⊢
  refine W.widen (k := 9) (n := 1552) (by omega) (by omega) ?_
  have hP : va_P D classes ([(w, .inr (3, [.ref q7, .ref q13, .null, .null, .int 0, .int 0, .int 0, .int 0, .int 0])), (q7, .inl ((ka 0), 8, .inr (.inl (fun _ => 0)))), (q13, .inr (0, [.ref sn, .ref sk, .ref so, .int (nI 0)])), (sn, .inl ((ka 0), 256, .inr (.inl (fun _ => 0)))), (sk, .inl ((ka 2), 256, .inl (fun _ => 0))), (so, .inl ((ka 1), 256, .inl (fun _ => 0))), (q24, .inr (0, [.ref un, .ref uk, .ref uo, .int (nI 0)])), (un, .inl ((ka 0), 256, .inr (.inl (fun _ => 0)))), (uk, .inl ((ka 2), 256, .inl (fun _ => 0))), (uo, .inl ((ka 1), 256, .inl (fun _ => 0)))]) H := hP
  have hD : va_D A ([(w, .inr (3, [.ref q7, .ref q13, .null, .null, .int 0, .int 0, .int 0, .int 0, .int 0])), (q7, .inl ((ka 0), 8, .inr (.inl (fun _ => 0)))), (q13, .inr (0, [.ref sn, .ref sk, .ref so, .int (nI 0)])), (sn, .inl ((ka 0), 256, .inr (.inl (fun _ => 0)))), (sk, .inl ((ka 2), 256, .inl (fun _ => 0))), (so, .inl ((ka 1), 256, .inl (fun _ => 0))), (q24, .inr (0, [.ref un, .ref uk, .ref uo, .int (nI 0)])), (un, .inl ((ka 0), 256, .inr (.inl (fun _ => 0)))), (uk, .inl ((ka 2), 256, .inl (fun _ => 0))), (uo, .inl ((ka 1), 256, .inl (fun _ => 0)))]) := hD
  refine va_putF (D := D) (ci := 3) (v := .ref q24) (ty := .object "VersionedBlock$Draft") (C := "VersionedBlock$Worker") (T := T_Wk) (N := 9) hx hb hts (fun w h => List.mem_cons_of_mem _ (il_Wk w h)) t_Wk t_Wk_ok n_Wk hown hK hP hD hS 0 rfl rfl 2 (by decide) (hts _ (List.mem_cons_of_mem _ mw_1_228)) (fun _ h9 => h9) rfl hin rfl (by decide +kernel) rfl rfl (Nat.le_of_ble_eq_true rfl) d_Wk_init_31 (fun H locs hP hD hS => ?_)
  have hP : va_P D classes ([(w, .inr (3, [.ref q7, .ref q13, .ref q24, .null, .int 0, .int 0, .int 0, .int 0, .int 0])), (q7, .inl ((ka 0), 8, .inr (.inl (fun _ => 0)))), (q13, .inr (0, [.ref sn, .ref sk, .ref so, .int (nI 0)])), (sn, .inl ((ka 0), 256, .inr (.inl (fun _ => 0)))), (sk, .inl ((ka 2), 256, .inl (fun _ => 0))), (so, .inl ((ka 1), 256, .inl (fun _ => 0))), (q24, .inr (0, [.ref un, .ref uk, .ref uo, .int (nI 0)])), (un, .inl ((ka 0), 256, .inr (.inl (fun _ => 0)))), (uk, .inl ((ka 2), 256, .inl (fun _ => 0))), (uo, .inl ((ka 1), 256, .inl (fun _ => 0)))]) H := hP
  have hD : va_D A ([(w, .inr (3, [.ref q7, .ref q13, .ref q24, .null, .int 0, .int 0, .int 0, .int 0, .int 0])), (q7, .inl ((ka 0), 8, .inr (.inl (fun _ => 0)))), (q13, .inr (0, [.ref sn, .ref sk, .ref so, .int (nI 0)])), (sn, .inl ((ka 0), 256, .inr (.inl (fun _ => 0)))), (sk, .inl ((ka 2), 256, .inl (fun _ => 0))), (so, .inl ((ka 1), 256, .inl (fun _ => 0))), (q24, .inr (0, [.ref un, .ref uk, .ref uo, .int (nI 0)])), (un, .inl ((ka 0), 256, .inr (.inl (fun _ => 0)))), (uk, .inl ((ka 2), 256, .inl (fun _ => 0))), (uo, .inl ((ka 1), 256, .inl (fun _ => 0)))]) := hD
  have hP9 := hP.sub (ws' := [(w, .inr (3, [.ref q7, .ref q13, .ref q24, .null, .int 0, .int 0, .int 0, .int 0, .int 0])), (q7, .inl ((ka 0), 8, .inr (.inl (fun _ => 0)))), (q13, .inr (0, [.ref sn, .ref sk, .ref so, .int (nI 0)])), (sn, .inl ((ka 0), 256, .inr (.inl (fun _ => 0)))), (sk, .inl ((ka 2), 256, .inl (fun _ => 0))), (so, .inl ((ka 1), 256, .inl (fun _ => 0))), (q24, .inr (0, [.ref un, .ref uk, .ref uo, .int (nI 0)])), (un, .inl ((ka 0), 256, .inr (.inl (fun _ => 0)))), (uk, .inl ((ka 2), 256, .inl (fun _ => 0))), (uo, .inl ((ka 1), 256, .inl (fun _ => 0)))]) [0, 1, 2, 3, 4, 5, 6, 7, 8, 9] rfl
  have hD9 := hD.sub (ws' := [(w, .inr (3, [.ref q7, .ref q13, .ref q24, .null, .int 0, .int 0, .int 0, .int 0, .int 0])), (q7, .inl ((ka 0), 8, .inr (.inl (fun _ => 0)))), (q13, .inr (0, [.ref sn, .ref sk, .ref so, .int (nI 0)])), (sn, .inl ((ka 0), 256, .inr (.inl (fun _ => 0)))), (sk, .inl ((ka 2), 256, .inl (fun _ => 0))), (so, .inl ((ka 1), 256, .inl (fun _ => 0))), (q24, .inr (0, [.ref un, .ref uk, .ref uo, .int (nI 0)])), (un, .inl ((ka 0), 256, .inr (.inl (fun _ => 0)))), (uk, .inl ((ka 2), 256, .inl (fun _ => 0))), (uo, .inl ((ka 1), 256, .inl (fun _ => 0)))]) [0, 1, 2, 3, 4, 5, 6, 7, 8, 9] (by decide) rfl
  exact W.vret hx hb hr (fun t9 ht hW => ⟨⟨(), rfl, trivial, q7, q13, sn, sk, so, q24, un, uk, uo, trivial, by rw [ht]; exact hP9, hD9⟩, hS.F ht⟩) hS.2.2 d_Wk_init_34
set_option maxHeartbeats 4000000 in
set_option maxRecDepth 100000 in
theorem c_Wk_load (l : Launch) (D : va_G) (ka : Nat → ClassId) (sz : Nat) (w r s sn sk so u un uk uo : Nat) (t pa p L : Nat) (tn nx dn oc : Int32) (P : Nat → Int64) (rg numS numU : Nat → Int64) (psS psU : List Nat) (kpS odS kpU odU : Nat → Int32) (hS0 : dOK psS kpS odS) (hU0 : dOK psU kpU odU) (hp : p < 256) : Met l y_Wk_load w_Wk_load ({ frames := 1, cells := 0, slots := 0, locals := 23 }) (pW classes (tyS ka) D [.ref w, .int (nI p), .ref pa] ([(w, .inr (3, [.ref r, .ref s, .ref u, .ref t, .int tn, .int nx, .int dn, .int (nI L), .int oc])), (r, .inl ((ka 0), 8, .inr (.inl rg))), (s, .inr (0, [.ref sn, .ref sk, .ref so, .int (nI psS.length)])), (sn, .inl ((ka 0), 256, .inr (.inl numS))), (sk, .inl ((ka 2), 256, .inl kpS)), (so, .inl ((ka 1), 256, .inl odS)), (u, .inr (0, [.ref un, .ref uk, .ref uo, .int (nI psU.length)])), (un, .inl ((ka 0), 256, .inr (.inl numU))), (uk, .inl ((ka 2), 256, .inl kpU)), (uo, .inl ((ka 1), 256, .inl odU)), (pa, .inl ((ka 0), 256, .inr (.inl P)))]) sz) (va_Ql (fun (r : Int64) (_ : Unit) => r = ((dm psU numU p).getD (wk_ld (dm psS numS) P p))) (fun (_ : Unit) t9 => ∃ (psS' : List Nat) (numS' : Nat → Int64) (kpS' odS' : Nat → Int32), (dOK psS' kpS' odS' ∧ dm psS' numS' = if dm psU numU p = none then va_up (dm psS numS) p (some (wk_ld (dm psS numS) P p)) else dm psS numS) ∧ va_P D classes ([(w, .inr (3, [.ref r, .ref s, .ref u, .ref t, .int tn, .int nx, .int dn, .int (nI (L + 1)), .int oc])), (r, .inl ((ka 0), 8, .inr (.inl rg))), (s, .inr (0, [.ref sn, .ref sk, .ref so, .int (nI psS'.length)])), (sn, .inl ((ka 0), 256, .inr (.inl numS'))), (sk, .inl ((ka 2), 256, .inl kpS')), (so, .inl ((ka 1), 256, .inl odS')), (u, .inr (0, [.ref un, .ref uk, .ref uo, .int (nI psU.length)])), (un, .inl ((ka 0), 256, .inr (.inl numU))), (uk, .inl ((ka 2), 256, .inl kpU)), (uo, .inl ((ka 1), 256, .inl odU)), (pa, .inl ((ka 0), 256, .inr (.inl P)))]) t9.heap ∧ va_D (va_A ([(w, .inr (3, [.ref r, .ref s, .ref u, .ref t, .int tn, .int nx, .int dn, .int (nI L), .int oc])), (r, .inl ((ka 0), 8, .inr (.inl rg))), (s, .inr (0, [.ref sn, .ref sk, .ref so, .int (nI psS.length)])), (sn, .inl ((ka 0), 256, .inr (.inl numS))), (sk, .inl ((ka 2), 256, .inl kpS)), (so, .inl ((ka 1), 256, .inl odS)), (u, .inr (0, [.ref un, .ref uk, .ref uo, .int (nI psU.length)])), (un, .inl ((ka 0), 256, .inr (.inl numU))), (uk, .inl ((ka 2), 256, .inl kpU)), (uo, .inl ((ka 1), 256, .inl odU)), (pa, .inl ((ka 0), 256, .inr (.inl P)))]) sz) ([(w, .inr (3, [.ref r, .ref s, .ref u, .ref t, .int tn, .int nx, .int dn, .int (nI (L + 1)), .int oc])), (r, .inl ((ka 0), 8, .inr (.inl rg))), (s, .inr (0, [.ref sn, .ref sk, .ref so, .int (nI psS'.length)])), (sn, .inl ((ka 0), 256, .inr (.inl numS'))), (sk, .inl ((ka 2), 256, .inl kpS')), (so, .inl ((ka 1), 256, .inl odS')), (u, .inr (0, [.ref un, .ref uk, .ref uo, .int (nI psU.length)])), (un, .inl ((ka 0), 256, .inr (.inl numU))), (uk, .inl ((ka 2), 256, .inl kpU)), (uo, .inl ((ka 1), 256, .inl odU)), (pa, .inl ((ka 0), 256, .inr (.inl P)))])) (va_A ([(w, .inr (3, [.ref r, .ref s, .ref u, .ref t, .int tn, .int nx, .int dn, .int (nI L), .int oc])), (r, .inl ((ka 0), 8, .inr (.inl rg))), (s, .inr (0, [.ref sn, .ref sk, .ref so, .int (nI psS.length)])), (sn, .inl ((ka 0), 256, .inr (.inl numS))), (sk, .inl ((ka 2), 256, .inl kpS)), (so, .inl ((ka 1), 256, .inl odS)), (u, .inr (0, [.ref un, .ref uk, .ref uo, .int (nI psU.length)])), (un, .inl ((ka 0), 256, .inr (.inl numU))), (uk, .inl ((ka 2), 256, .inl kpU)), (uo, .inl ((ka 1), 256, .inl odU)), (pa, .inl ((ka 0), 256, .inr (.inl P)))]) sz)) 0 0 (va_A ([(w, .inr (3, [.ref r, .ref s, .ref u, .ref t, .int tn, .int nx, .int dn, .int (nI L), .int oc])), (r, .inl ((ka 0), 8, .inr (.inl rg))), (s, .inr (0, [.ref sn, .ref sk, .ref so, .int (nI psS.length)])), (sn, .inl ((ka 0), 256, .inr (.inl numS))), (sk, .inl ((ka 2), 256, .inl kpS)), (so, .inl ((ka 1), 256, .inl odS)), (u, .inr (0, [.ref un, .ref uk, .ref uo, .int (nI psU.length)])), (un, .inl ((ka 0), 256, .inr (.inl numU))), (uk, .inl ((ka 2), 256, .inl kpU)), (uo, .inl ((ka 1), 256, .inl odU)), (pa, .inl ((ka 0), 256, .inr (.inl P)))]) sz) := by
  refine Met.ofW (cc := b_Wk_load) (maxL := 3) (ret := (some .long)) (by decide) rfl ?_
  intro pP eE sS mM args below meth cC s1 B hml hv
  obtain ⟨rfl, hsz, hP, hK, hN, hD0⟩ := hv
  have hx := B.exec
  have hb := B.bytes
  have hr := B.returns
  have hts := atoms_spec (ws := w_Wk_load) B.pre
  have hown : sS.vm.findClass "VersionedBlock$Worker" = some mM.cls := findClass_of_methodNamed B.named
  have hlocks := B.notSynchronized
  subst hsz
  have hD := hD0.self (sz := sS.heap.size)
  generalize hAe : va_A ([(w, .inr (3, [.ref r, .ref s, .ref u, .ref t, .int tn, .int nx, .int dn, .int (nI L), .int oc])), (r, .inl ((ka 0), 8, .inr (.inl rg))), (s, .inr (0, [.ref sn, .ref sk, .ref so, .int (nI psS.length)])), (sn, .inl ((ka 0), 256, .inr (.inl numS))), (sk, .inl ((ka 2), 256, .inl kpS)), (so, .inl ((ka 1), 256, .inl odS)), (u, .inr (0, [.ref un, .ref uk, .ref uo, .int (nI psU.length)])), (un, .inl ((ka 0), 256, .inr (.inl numU))), (uk, .inl ((ka 2), 256, .inl kpU)), (uo, .inl ((ka 1), 256, .inl odU)), (pa, .inl ((ka 0), 256, .inr (.inl P)))]) sS.heap.size = A at hD ⊢
  have hA : ∀ q : Nat, sS.heap.size ≤ q → A q := fun q h => by rw [← hAe]; exact Or.inr h
  have hS : va_S A sS.heap sS.heap [] := va_S.rf
  have hl := lv_entry ([.ref w, .int (nI p), .ref pa]) (n := 3) (Nat.le_of_ble_eq_true rfl)
  rw [lg_entry_eq]
  generalize (lg_sl ([.ref w, .int (nI p), .ref pa]) ++ List.replicate (3 - (lg_sl ([.ref w, .int (nI p), .ref pa])).length) Slot.unset).toArray = ls at hl ⊢
  have hl : lv_has ls 3 [(0, .ref w), (1, .int (nI p)), (2, .ref pa)] := hl
  refine lv_aload_n hx hb d_Wk_load_0 rfl (lv_at hl 0 rfl) ?_
  refine lv_dup hx hb d_Wk_load_1 rfl ?_
  refine va_get (D := D) (ci := 3) (v := .int (nI L)) (C := "VersionedBlock$Worker") (T := T_Wk) (N := 9) hx hb hts (fun w h => List.mem_cons_of_mem _ (il_Wk w h)) hown hK hP 0 rfl rfl 7 (by decide) (hts _ (List.mem_cons_of_mem _ mw_1_233)) (fun _ h9 => h9) rfl d_Wk_load_2 ?_
  refine lv_iconst (v := 1) hx hb d_Wk_load_5 (by decide) ?_
  refine lv_iadd hx hb d_Wk_load_6 ?_
  refine lv_topi (fun v_6 ev_6 => ?_)
  obtain rfl : v_6 = nI (L + 1) := ev_6.trans (nI_1 _)
  refine va_put (D := D) (ci := 3) (v := .int (nI (L + 1))) (ty := .int) (C := "VersionedBlock$Worker") (T := T_Wk) (N := 9) hx hb hts (fun w h => List.mem_cons_of_mem _ (il_Wk w h)) t_Wk t_Wk_ok n_Wk hown hK hP hD hS 0 rfl rfl 7 (by decide) (hts _ (List.mem_cons_of_mem _ mw_1_233)) (fun _ h9 => h9) rfl (by decide +kernel) rfl rfl (Nat.le_of_ble_eq_true rfl) d_Wk_load_7 (fun H locs hP hD hS => ?_)
  have hP : va_P D classes ([(w, .inr (3, [.ref r, .ref s, .ref u, .ref t, .int tn, .int nx, .int dn, .int (nI (L + 1)), .int oc])), (r, .inl ((ka 0), 8, .inr (.inl rg))), (s, .inr (0, [.ref sn, .ref sk, .ref so, .int (nI psS.length)])), (sn, .inl ((ka 0), 256, .inr (.inl numS))), (sk, .inl ((ka 2), 256, .inl kpS)), (so, .inl ((ka 1), 256, .inl odS)), (u, .inr (0, [.ref un, .ref uk, .ref uo, .int (nI psU.length)])), (un, .inl ((ka 0), 256, .inr (.inl numU))), (uk, .inl ((ka 2), 256, .inl kpU)), (uo, .inl ((ka 1), 256, .inl odU)), (pa, .inl ((ka 0), 256, .inr (.inl P)))]) H := hP
  have hD : va_D A ([(w, .inr (3, [.ref r, .ref s, .ref u, .ref t, .int tn, .int nx, .int dn, .int (nI (L + 1)), .int oc])), (r, .inl ((ka 0), 8, .inr (.inl rg))), (s, .inr (0, [.ref sn, .ref sk, .ref so, .int (nI psS.length)])), (sn, .inl ((ka 0), 256, .inr (.inl numS))), (sk, .inl ((ka 2), 256, .inl kpS)), (so, .inl ((ka 1), 256, .inl odS)), (u, .inr (0, [.ref un, .ref uk, .ref uo, .int (nI psU.length)])), (un, .inl ((ka 0), 256, .inr (.inl numU))), (uk, .inl ((ka 2), 256, .inl kpU)), (uo, .inl ((ka 1), 256, .inl odU)), (pa, .inl ((ka 0), 256, .inr (.inl P)))]) := hD
  refine lv_aload_n hx hb d_Wk_load_10 rfl (lv_at hl 0 rfl) ?_
  refine va_get (D := D) (ci := 3) (v := .ref u) (C := "VersionedBlock$Worker") (T := T_Wk) (N := 9) hx hb hts (fun w h => List.mem_cons_of_mem _ (il_Wk w h)) hown hK hP 0 rfl rfl 2 (by decide) (hts _ (List.mem_cons_of_mem _ mw_1_228)) (fun _ h9 => h9) rfl d_Wk_load_11 ?_
  refine lv_iload_n hx hb d_Wk_load_14 rfl (lv_at hl 1 rfl) ?_
  have hPc := hP.sub (ws' := [(u, .inr (0, [.ref un, .ref uk, .ref uo, .int (nI psU.length)])), (uk, .inl ((ka 2), 256, .inl kpU))]) [6, 8] rfl
  refine vp_callSi (run_of (va_runV (As := [.int (nI p)]) (rest := []) ⟨hx, hb, hml, hown, hts⟩ (c_Draft_has l D ka u un uk uo (nI psU.length) kpU p hp (by rw [hU0.2.2.2 p hp]; by_cases hq : p ∈ psU <;> simp [hq])) ⟨callB_of 1 hts (gd_tb mw_2_71) rfl rfl rfl (hts _ (List.mem_cons_of_mem _ mw_1_9)) (hts _ (List.mem_cons_of_mem _ mw_2_68)) (by decide +kernel) ⟨Nat.le_of_ble_eq_true rfl, Nat.le_of_ble_eq_true rfl⟩, (hts _ (List.mem_cons_of_mem _ mw_2_69)), (hts _ (List.mem_cons_of_mem _ mw_2_70))⟩ ⟨pR_blind, va_recv hK hPc (ci := 0) (q0 := 0) rfl rfl, pR_pre hK hN hPc⟩ rfl rfl hl.1 rfl (lv_room (Nat.le_of_ble_eq_true rfl)) d_Wk_load_15 ⟨Nat.le_of_ble_eq_true rfl, Nat.le_of_ble_eq_true rfl⟩)) (fun r_15 hr_15 => ?_)
  obtain rfl : r_15 = (kpU p) := hr_15
  refine lv_if_eq (tgt := 30) hx hb d_Wk_load_18 (by decide) (fun c_18 => ?_) (fun c_18 => ?_)
  · have hu : p ∉ psU := fun hq => by rw [hU0.2.2.2 p hp, if_pos hq] at c_18; exact absurd c_18 (by decide)
    have hun : dm psU numU p = none := dm_none.mpr hu
    refine lv_aload_n hx hb d_Wk_load_30 rfl (lv_at hl 0 rfl) ?_
    refine va_get (D := D) (ci := 3) (v := .ref s) (C := "VersionedBlock$Worker") (T := T_Wk) (N := 9) hx hb hts (fun w h => List.mem_cons_of_mem _ (il_Wk w h)) hown hK hP 0 rfl rfl 1 (by decide) (hts _ (List.mem_cons_of_mem _ mw_1_227)) (fun _ h9 => h9) rfl d_Wk_load_31 ?_
    refine lv_iload_n hx hb d_Wk_load_34 rfl (lv_at hl 1 rfl) ?_
    have hPc := hP.sub (ws' := [(s, .inr (0, [.ref sn, .ref sk, .ref so, .int (nI psS.length)])), (sk, .inl ((ka 2), 256, .inl kpS))]) [2, 4] rfl
    refine vp_callSi (run_of (va_runV (As := [.int (nI p)]) (rest := []) ⟨hx, hb, hml, hown, hts⟩ (c_Draft_has l D ka s sn sk so (nI psS.length) kpS p hp (by rw [hS0.2.2.2 p hp]; by_cases hq : p ∈ psS <;> simp [hq])) ⟨callB_of 1 hts (gd_tb mw_2_71) rfl rfl rfl (hts _ (List.mem_cons_of_mem _ mw_1_9)) (hts _ (List.mem_cons_of_mem _ mw_2_68)) (by decide +kernel) ⟨Nat.le_of_ble_eq_true rfl, Nat.le_of_ble_eq_true rfl⟩, (hts _ (List.mem_cons_of_mem _ mw_2_69)), (hts _ (List.mem_cons_of_mem _ mw_2_70))⟩ ⟨pR_blind, va_recv hK hPc (ci := 0) (q0 := 0) rfl rfl, pR_pre hK hN hPc⟩ rfl rfl hl.1 rfl (lv_room (Nat.le_of_ble_eq_true rfl)) d_Wk_load_35 ⟨Nat.le_of_ble_eq_true rfl, Nat.le_of_ble_eq_true rfl⟩)) (fun r_35 hr_35 => ?_)
    obtain rfl : r_35 = (kpS p) := hr_35
    refine lv_if_ne (tgt := 52) hx hb d_Wk_load_38 (by decide) (fun c_38 => ?_) (fun c_38 => ?_)
    · have hs : p ∈ psS := by
        by_cases hq : p ∈ psS
        · exact hq
        · exact absurd (by rw [hS0.2.2.2 p hp, if_neg hq]) c_38
      have hsn : dm psS numS p = some (numS p) := if_pos hs
      refine lv_aload_n hx hb d_Wk_load_52 rfl (lv_at hl 0 rfl) ?_
      refine va_get (D := D) (ci := 3) (v := .ref s) (C := "VersionedBlock$Worker") (T := T_Wk) (N := 9) hx hb hts (fun w h => List.mem_cons_of_mem _ (il_Wk w h)) hown hK hP 0 rfl rfl 1 (by decide) (hts _ (List.mem_cons_of_mem _ mw_1_227)) (fun _ h9 => h9) rfl d_Wk_load_53 ?_
      refine lv_iload_n hx hb d_Wk_load_56 rfl (lv_at hl 1 rfl) ?_
      have hPc := hP.sub (ws' := [(s, .inr (0, [.ref sn, .ref sk, .ref so, .int (nI psS.length)])), (sn, .inl ((ka 0), 256, .inr (.inl numS)))]) [2, 3] rfl
      refine vp_callSl (run_of (va_runV (As := [.int (nI p)]) (rest := []) ⟨hx, hb, hml, hown, hts⟩ (c_Draft_numberIn l D ka s sn sk so (nI psS.length) numS p hp) ⟨callB_of 1 hts (gd_tb mw_2_75) rfl rfl rfl (hts _ (List.mem_cons_of_mem _ mw_1_9)) (hts _ (List.mem_cons_of_mem _ mw_2_72)) (by decide +kernel) ⟨Nat.le_of_ble_eq_true rfl, Nat.le_of_ble_eq_true rfl⟩, (hts _ (List.mem_cons_of_mem _ mw_2_73)), (hts _ (List.mem_cons_of_mem _ mw_2_74))⟩ ⟨pR_blind, va_recv hK hPc (ci := 0) (q0 := 0) rfl rfl, pR_pre hK hN hPc⟩ rfl rfl hl.1 rfl (lv_room (Nat.le_of_ble_eq_true rfl)) d_Wk_load_57 ⟨Nat.le_of_ble_eq_true rfl, Nat.le_of_ble_eq_true rfl⟩)) (fun r_57 hr_57 => ?_)
      obtain rfl : r_57 = (numS p) := hr_57
      have hP9 := hP.sub (ws' := [(w, .inr (3, [.ref r, .ref s, .ref u, .ref t, .int tn, .int nx, .int dn, .int (nI (L + 1)), .int oc])), (r, .inl ((ka 0), 8, .inr (.inl rg))), (s, .inr (0, [.ref sn, .ref sk, .ref so, .int (nI psS.length)])), (sn, .inl ((ka 0), 256, .inr (.inl numS))), (sk, .inl ((ka 2), 256, .inl kpS)), (so, .inl ((ka 1), 256, .inl odS)), (u, .inr (0, [.ref un, .ref uk, .ref uo, .int (nI psU.length)])), (un, .inl ((ka 0), 256, .inr (.inl numU))), (uk, .inl ((ka 2), 256, .inl kpU)), (uo, .inl ((ka 1), 256, .inl odU)), (pa, .inl ((ka 0), 256, .inr (.inl P)))]) [0, 1, 2, 3, 4, 5, 6, 7, 8, 9, 10] rfl
      have hD9 := hD.sub (ws' := [(w, .inr (3, [.ref r, .ref s, .ref u, .ref t, .int tn, .int nx, .int dn, .int (nI (L + 1)), .int oc])), (r, .inl ((ka 0), 8, .inr (.inl rg))), (s, .inr (0, [.ref sn, .ref sk, .ref so, .int (nI psS.length)])), (sn, .inl ((ka 0), 256, .inr (.inl numS))), (sk, .inl ((ka 2), 256, .inl kpS)), (so, .inl ((ka 1), 256, .inl odS)), (u, .inr (0, [.ref un, .ref uk, .ref uo, .int (nI psU.length)])), (un, .inl ((ka 0), 256, .inr (.inl numU))), (uk, .inl ((ka 2), 256, .inl kpU)), (uo, .inl ((ka 1), 256, .inl odU)), (pa, .inl ((ka 0), 256, .inr (.inl P)))]) [0, 1, 2, 3, 4, 5, 6, 7, 8, 9, 10] (by decide) rfl
      exact W.lret (v := (numS p)) hx hb hr (fun t9 ht hW => ⟨⟨(numS p), (), rfl, (by rw [hun]; simp [wk_ld, hsn]), psS, numS, kpS, odS, ⟨hS0, by rw [hun, if_pos rfl]; exact (ld_same hsn).symm⟩, by rw [ht]; exact hP9, hD9⟩, hS.F ht⟩) hS.2.2 d_Wk_load_60
    · have hs : p ∉ psS := fun hq => by rw [hS0.2.2.2 p hp, if_pos hq] at c_38; exact absurd c_38 (by decide)
      have hsn : dm psS numS p = none := dm_none.mpr hs
      refine lv_aload_n hx hb d_Wk_load_41 rfl (lv_at hl 0 rfl) ?_
      refine va_get (D := D) (ci := 3) (v := .ref s) (C := "VersionedBlock$Worker") (T := T_Wk) (N := 9) hx hb hts (fun w h => List.mem_cons_of_mem _ (il_Wk w h)) hown hK hP 0 rfl rfl 1 (by decide) (hts _ (List.mem_cons_of_mem _ mw_1_227)) (fun _ h9 => h9) rfl d_Wk_load_42 ?_
      refine lv_iload_n hx hb d_Wk_load_45 rfl (lv_at hl 1 rfl) ?_
      refine lv_aload_n hx hb d_Wk_load_46 rfl (lv_at hl 2 rfl) ?_
      refine lv_iload_n hx hb d_Wk_load_47 rfl (lv_at hl 1 rfl) ?_
      refine my_lald hx hb hK hP 10 0 rfl rfl (k := p) hp (Nat.le_of_ble_eq_true rfl) d_Wk_load_48 ?_
      have hPc := hP.sub (ws' := [(s, .inr (0, [.ref sn, .ref sk, .ref so, .int (nI psS.length)])), (sn, .inl ((ka 0), 256, .inr (.inl numS))), (sk, .inl ((ka 2), 256, .inl kpS)), (so, .inl ((ka 1), 256, .inl odS))]) [2, 3, 4, 5] rfl
      have hDc := hD.sub (ws' := [(s, .inr (0, [.ref sn, .ref sk, .ref so, .int (nI psS.length)])), (sn, .inl ((ka 0), 256, .inr (.inl numS))), (sk, .inl ((ka 2), 256, .inl kpS)), (so, .inl ((ka 1), 256, .inl odS))]) [2, 3, 4, 5] (by decide) rfl
      have hFc := va_free (wc := [(s, .inr (0, [.ref sn, .ref sk, .ref so, .int (nI psS.length)])), (sn, .inl ((ka 0), 256, .inr (.inl numS))), (sk, .inl ((ka 2), 256, .inl kpS)), (so, .inl ((ka 1), 256, .inl odS))]) hD hS hA [2, 3, 4, 5] rfl
      refine va_callv (va_runV (As := [.int (nI p), .long (P p)]) (rest := []) ⟨hx, hb, hml, hown, hts⟩ (c_Draft_keep l D ka H.size s sn sk so psS numS kpS odS p (P p) hS0 hp) ⟨callB_of 2 hts (gd_tb mw_2_79) rfl rfl rfl (hts _ (List.mem_cons_of_mem _ mw_1_9)) (hts _ (List.mem_cons_of_mem _ mw_2_76)) (by decide +kernel) ⟨Nat.le_of_ble_eq_true rfl, Nat.le_of_ble_eq_true rfl⟩, (hts _ (List.mem_cons_of_mem _ mw_2_77)), (hts _ (List.mem_cons_of_mem _ mw_2_78))⟩ ⟨pW_blind, va_recv hK hPc (ci := 0) (q0 := 0) rfl rfl, pW_pre hK hN hPc hDc⟩ rfl rfl hl.1 rfl (lv_room (Nat.le_of_ble_eq_true rfl)) d_Wk_load_49 ⟨Nat.le_of_ble_eq_true rfl, Nat.le_of_ble_eq_true rfl⟩) hS (fun q _ h => hFc q h) hFc (fun u9 t9 H1 locs ht hvm hr_49 hB hz1 hk1 hS => ?_)
      obtain ⟨kpS', odS', hrel_49, hP1, hD1⟩ := hB
      rw [ht] at hP1
      obtain ⟨hP, hD⟩ := va_join (wr := [(w, .inr (3, [.ref r, .ref s, .ref u, .ref t, .int tn, .int nx, .int dn, .int (nI (L + 1)), .int oc])), (r, .inl ((ka 0), 8, .inr (.inl rg))), (u, .inr (0, [.ref un, .ref uk, .ref uo, .int (nI psU.length)])), (un, .inl ((ka 0), 256, .inr (.inl numU))), (uk, .inl ((ka 2), 256, .inl kpU)), (uo, .inl ((ka 1), 256, .inl odU)), (pa, .inl ((ka 0), 256, .inr (.inl P)))]) (w1 := [(s, .inr (0, [.ref sn, .ref sk, .ref so, .int (nI (dkp psS p).length)])), (sn, .inl ((ka 0), 256, .inr (.inl (vp_updL numS p (P p))))), (sk, .inl ((ka 2), 256, .inl kpS')), (so, .inl ((ka 1), 256, .inl odS'))]) hP hD [2, 3, 4, 5] [0, 1, 6, 7, 8, 9, 10] rfl rfl (by decide) (by decide) hk1 hFc hP1 hD1
      generalize H1 = H at hP hS ⊢
      have hP : va_P D classes ([(w, .inr (3, [.ref r, .ref s, .ref u, .ref t, .int tn, .int nx, .int dn, .int (nI (L + 1)), .int oc])), (r, .inl ((ka 0), 8, .inr (.inl rg))), (u, .inr (0, [.ref un, .ref uk, .ref uo, .int (nI psU.length)])), (un, .inl ((ka 0), 256, .inr (.inl numU))), (uk, .inl ((ka 2), 256, .inl kpU)), (uo, .inl ((ka 1), 256, .inl odU)), (pa, .inl ((ka 0), 256, .inr (.inl P))), (s, .inr (0, [.ref sn, .ref sk, .ref so, .int (nI (dkp psS p).length)])), (sn, .inl ((ka 0), 256, .inr (.inl (vp_updL numS p (P p))))), (sk, .inl ((ka 2), 256, .inl kpS')), (so, .inl ((ka 1), 256, .inl odS'))]) H := hP
      have hD : va_D A ([(w, .inr (3, [.ref r, .ref s, .ref u, .ref t, .int tn, .int nx, .int dn, .int (nI (L + 1)), .int oc])), (r, .inl ((ka 0), 8, .inr (.inl rg))), (u, .inr (0, [.ref un, .ref uk, .ref uo, .int (nI psU.length)])), (un, .inl ((ka 0), 256, .inr (.inl numU))), (uk, .inl ((ka 2), 256, .inl kpU)), (uo, .inl ((ka 1), 256, .inl odU)), (pa, .inl ((ka 0), 256, .inr (.inl P))), (s, .inr (0, [.ref sn, .ref sk, .ref so, .int (nI (dkp psS p).length)])), (sn, .inl ((ka 0), 256, .inr (.inl (vp_updL numS p (P p))))), (sk, .inl ((ka 2), 256, .inl kpS')), (so, .inl ((ka 1), 256, .inl odS'))]) := hD
      refine lv_aload_n hx hb d_Wk_load_52 rfl (lv_at hl 0 rfl) ?_
      refine va_get (D := D) (ci := 3) (v := .ref s) (C := "VersionedBlock$Worker") (T := T_Wk) (N := 9) hx hb hts (fun w h => List.mem_cons_of_mem _ (il_Wk w h)) hown hK hP 0 rfl rfl 1 (by decide) (hts _ (List.mem_cons_of_mem _ mw_1_227)) (fun _ h9 => h9) rfl d_Wk_load_53 ?_
      refine lv_iload_n hx hb d_Wk_load_56 rfl (lv_at hl 1 rfl) ?_
      have hPc := hP.sub (ws' := [(s, .inr (0, [.ref sn, .ref sk, .ref so, .int (nI (dkp psS p).length)])), (sn, .inl ((ka 0), 256, .inr (.inl (vp_updL numS p (P p)))))]) [7, 8] rfl
      refine vp_callSl (run_of (va_runV (As := [.int (nI p)]) (rest := []) ⟨hx, hb, hml, hown, hts⟩ (c_Draft_numberIn l D ka s sn sk so (nI (dkp psS p).length) (vp_updL numS p (P p)) p hp) ⟨callB_of 1 hts (gd_tb mw_2_75) rfl rfl rfl (hts _ (List.mem_cons_of_mem _ mw_1_9)) (hts _ (List.mem_cons_of_mem _ mw_2_72)) (by decide +kernel) ⟨Nat.le_of_ble_eq_true rfl, Nat.le_of_ble_eq_true rfl⟩, (hts _ (List.mem_cons_of_mem _ mw_2_73)), (hts _ (List.mem_cons_of_mem _ mw_2_74))⟩ ⟨pR_blind, va_recv hK hPc (ci := 0) (q0 := 0) rfl rfl, pR_pre hK hN hPc⟩ rfl rfl hl.1 rfl (lv_room (Nat.le_of_ble_eq_true rfl)) d_Wk_load_57 ⟨Nat.le_of_ble_eq_true rfl, Nat.le_of_ble_eq_true rfl⟩)) (fun r_57 hr_57 => ?_)
      obtain rfl : r_57 = ((vp_updL numS p (P p)) p) := hr_57
      have hP9 := hP.sub (ws' := [(w, .inr (3, [.ref r, .ref s, .ref u, .ref t, .int tn, .int nx, .int dn, .int (nI (L + 1)), .int oc])), (r, .inl ((ka 0), 8, .inr (.inl rg))), (s, .inr (0, [.ref sn, .ref sk, .ref so, .int (nI (dkp psS p).length)])), (sn, .inl ((ka 0), 256, .inr (.inl (vp_updL numS p (P p))))), (sk, .inl ((ka 2), 256, .inl kpS')), (so, .inl ((ka 1), 256, .inl odS')), (u, .inr (0, [.ref un, .ref uk, .ref uo, .int (nI psU.length)])), (un, .inl ((ka 0), 256, .inr (.inl numU))), (uk, .inl ((ka 2), 256, .inl kpU)), (uo, .inl ((ka 1), 256, .inl odU)), (pa, .inl ((ka 0), 256, .inr (.inl P)))]) [0, 1, 7, 8, 9, 10, 2, 3, 4, 5, 6] rfl
      have hD9 := hD.sub (ws' := [(w, .inr (3, [.ref r, .ref s, .ref u, .ref t, .int tn, .int nx, .int dn, .int (nI (L + 1)), .int oc])), (r, .inl ((ka 0), 8, .inr (.inl rg))), (s, .inr (0, [.ref sn, .ref sk, .ref so, .int (nI (dkp psS p).length)])), (sn, .inl ((ka 0), 256, .inr (.inl (vp_updL numS p (P p))))), (sk, .inl ((ka 2), 256, .inl kpS')), (so, .inl ((ka 1), 256, .inl odS')), (u, .inr (0, [.ref un, .ref uk, .ref uo, .int (nI psU.length)])), (un, .inl ((ka 0), 256, .inr (.inl numU))), (uk, .inl ((ka 2), 256, .inl kpU)), (uo, .inl ((ka 1), 256, .inl odU)), (pa, .inl ((ka 0), 256, .inr (.inl P)))]) [0, 1, 7, 8, 9, 10, 2, 3, 4, 5, 6] (by decide) rfl
      exact W.lret (v := ((vp_updL numS p (P p)) p)) hx hb hr (fun t9 ht hW => ⟨⟨((vp_updL numS p (P p)) p), (), rfl, (by rw [hun]; simp [wk_ld, hsn, vp_updL]), (dkp psS p), (vp_updL numS p (P p)), kpS', odS', ⟨hrel_49, by rw [hun, if_pos rfl, dm_kp]; simp [wk_ld, hsn]⟩, by rw [ht]; exact hP9, hD9⟩, hS.F ht⟩) hS.2.2 d_Wk_load_60
  · have hu : p ∈ psU := by
      by_cases hq : p ∈ psU
      · exact hq
      · exact absurd (by rw [hU0.2.2.2 p hp, if_neg hq]) c_18
    have hun : dm psU numU p = some (numU p) := if_pos hu
    refine lv_aload_n hx hb d_Wk_load_21 rfl (lv_at hl 0 rfl) ?_
    refine va_get (D := D) (ci := 3) (v := .ref u) (C := "VersionedBlock$Worker") (T := T_Wk) (N := 9) hx hb hts (fun w h => List.mem_cons_of_mem _ (il_Wk w h)) hown hK hP 0 rfl rfl 2 (by decide) (hts _ (List.mem_cons_of_mem _ mw_1_228)) (fun _ h9 => h9) rfl d_Wk_load_22 ?_
    refine lv_iload_n hx hb d_Wk_load_25 rfl (lv_at hl 1 rfl) ?_
    have hPc := hP.sub (ws' := [(u, .inr (0, [.ref un, .ref uk, .ref uo, .int (nI psU.length)])), (un, .inl ((ka 0), 256, .inr (.inl numU)))]) [6, 7] rfl
    refine vp_callSl (run_of (va_runV (As := [.int (nI p)]) (rest := []) ⟨hx, hb, hml, hown, hts⟩ (c_Draft_numberIn l D ka u un uk uo (nI psU.length) numU p hp) ⟨callB_of 1 hts (gd_tb mw_2_75) rfl rfl rfl (hts _ (List.mem_cons_of_mem _ mw_1_9)) (hts _ (List.mem_cons_of_mem _ mw_2_72)) (by decide +kernel) ⟨Nat.le_of_ble_eq_true rfl, Nat.le_of_ble_eq_true rfl⟩, (hts _ (List.mem_cons_of_mem _ mw_2_73)), (hts _ (List.mem_cons_of_mem _ mw_2_74))⟩ ⟨pR_blind, va_recv hK hPc (ci := 0) (q0 := 0) rfl rfl, pR_pre hK hN hPc⟩ rfl rfl hl.1 rfl (lv_room (Nat.le_of_ble_eq_true rfl)) d_Wk_load_26 ⟨Nat.le_of_ble_eq_true rfl, Nat.le_of_ble_eq_true rfl⟩)) (fun r_26 hr_26 => ?_)
    obtain rfl : r_26 = (numU p) := hr_26
    have hP9 := hP.sub (ws' := [(w, .inr (3, [.ref r, .ref s, .ref u, .ref t, .int tn, .int nx, .int dn, .int (nI (L + 1)), .int oc])), (r, .inl ((ka 0), 8, .inr (.inl rg))), (s, .inr (0, [.ref sn, .ref sk, .ref so, .int (nI psS.length)])), (sn, .inl ((ka 0), 256, .inr (.inl numS))), (sk, .inl ((ka 2), 256, .inl kpS)), (so, .inl ((ka 1), 256, .inl odS)), (u, .inr (0, [.ref un, .ref uk, .ref uo, .int (nI psU.length)])), (un, .inl ((ka 0), 256, .inr (.inl numU))), (uk, .inl ((ka 2), 256, .inl kpU)), (uo, .inl ((ka 1), 256, .inl odU)), (pa, .inl ((ka 0), 256, .inr (.inl P)))]) [0, 1, 2, 3, 4, 5, 6, 7, 8, 9, 10] rfl
    have hD9 := hD.sub (ws' := [(w, .inr (3, [.ref r, .ref s, .ref u, .ref t, .int tn, .int nx, .int dn, .int (nI (L + 1)), .int oc])), (r, .inl ((ka 0), 8, .inr (.inl rg))), (s, .inr (0, [.ref sn, .ref sk, .ref so, .int (nI psS.length)])), (sn, .inl ((ka 0), 256, .inr (.inl numS))), (sk, .inl ((ka 2), 256, .inl kpS)), (so, .inl ((ka 1), 256, .inl odS)), (u, .inr (0, [.ref un, .ref uk, .ref uo, .int (nI psU.length)])), (un, .inl ((ka 0), 256, .inr (.inl numU))), (uk, .inl ((ka 2), 256, .inl kpU)), (uo, .inl ((ka 1), 256, .inl odU)), (pa, .inl ((ka 0), 256, .inr (.inl P)))]) [0, 1, 2, 3, 4, 5, 6, 7, 8, 9, 10] (by decide) rfl
    exact W.lret (v := (numU p)) hx hb hr (fun t9 ht hW => ⟨⟨(numU p), (), rfl, (by rw [hun]; rfl), psS, numS, kpS, odS, ⟨hS0, by rw [hun, if_neg (by simp)]⟩, by rw [ht]; exact hP9, hD9⟩, hS.F ht⟩) hS.2.2 d_Wk_load_29
end
section
set_option maxHeartbeats 16000000 in
set_option maxRecDepth 100000 in
theorem c_Wk_perform (l : Launch) (D : va_G) (ka : Nat → ClassId) (sz : Nat) (w r s sn sk so u un uk uo : Nat) (t ta tb tc : Nat) (pa i d L : Nat) (tn : Int32) (P : Nat → Int64) (kn toc tdn tld tsr : Int32) (trs : Int64) (ops fs : Nat → Int32) (ss : Nat → Int64) (pg : Pg) (rg numS numU : Nat → Int64) (psS psU : List Nat) (kpS odS kpU odU : Nat → Int32) (hS0 : dOK psS kpS odS) (hU0 : dOK psU kpU odU) (hpg : pgR pg ops fs ss) (hi : i < pg.length) : Met l y_Wk_perform w_Wk_perform ({ frames := 2, cells := 0, slots := 0, locals := 45 }) (pW classes (tyS ka) D [.ref w, .ref t, .int (nI i), .ref pa] ([(w, .inr (3, [.ref r, .ref s, .ref u, .ref t, .int tn, .int (nI (i + 1)), .int (nI (d + 1)), .int (nI L), .int (nI 0)])), (r, .inl ((ka 0), 8, .inr (.inl rg))), (s, .inr (0, [.ref sn, .ref sk, .ref so, .int (nI psS.length)])), (sn, .inl ((ka 0), 256, .inr (.inl numS))), (sk, .inl ((ka 2), 256, .inl kpS)), (so, .inl ((ka 1), 256, .inl odS)), (u, .inr (0, [.ref un, .ref uk, .ref uo, .int (nI psU.length)])), (un, .inl ((ka 0), 256, .inr (.inl numU))), (uk, .inl ((ka 2), 256, .inl kpU)), (uo, .inl ((ka 1), 256, .inl odU)), (t, .inr (1, [.ref ta, .ref tb, .ref tc, .int (nI pg.length), .int kn, .int toc, .int tdn, .int tld, .int tsr, .long trs])), (ta, .inl ((ka 1), 32, .inl ops)), (tb, .inl ((ka 1), 32, .inl fs)), (tc, .inl ((ka 0), 32, .inr (.inl ss))), (pa, .inl ((ka 0), 256, .inr (.inl P)))]) sz) (va_Qv (fun _ : Unit => True) (fun (_ : Unit) t9 => ∃ (rg' : Nat → Int64) (psS' : List Nat) (numS' : Nat → Int64) (kpS' odS' : Nat → Int32) (psU' : List Nat) (numU' : Nat → Int64) (kpU' odU' : Nat → Int32) (nx' : Int32) (a' : Option Nat) (L' o' : Nat), (dOK psS' kpS' odS' ∧ dOK psU' kpU' odU' ∧ nxR pg.length nx' a' ∧ o' ≤ 3 ∧ (rg', dm psU' numU', psU'.length, a', d + 1, L', o') = sp_ex pg.length (sp_in pg i).1 (sp_in pg i).2.1 (sp_in pg i).2.2 i (wk_ld (dm psS numS) P) (rg, dm psU numU, psU.length, some i, d, L, 0) ∧ dm psS' numS' = snE (sp_in pg i).1 (sp_in pg i).2.2 rg (dm psU numU) (dm psS numS) P) ∧ va_P D classes ([(w, .inr (3, [.ref r, .ref s, .ref u, .ref t, .int tn, .int nx', .int (nI (d + 1)), .int (nI L'), .int (nI o')])), (r, .inl ((ka 0), 8, .inr (.inl rg'))), (s, .inr (0, [.ref sn, .ref sk, .ref so, .int (nI psS'.length)])), (sn, .inl ((ka 0), 256, .inr (.inl numS'))), (sk, .inl ((ka 2), 256, .inl kpS')), (so, .inl ((ka 1), 256, .inl odS')), (u, .inr (0, [.ref un, .ref uk, .ref uo, .int (nI psU'.length)])), (un, .inl ((ka 0), 256, .inr (.inl numU'))), (uk, .inl ((ka 2), 256, .inl kpU')), (uo, .inl ((ka 1), 256, .inl odU')), (t, .inr (1, [.ref ta, .ref tb, .ref tc, .int (nI pg.length), .int kn, .int toc, .int tdn, .int tld, .int tsr, .long trs])), (ta, .inl ((ka 1), 32, .inl ops)), (tb, .inl ((ka 1), 32, .inl fs)), (tc, .inl ((ka 0), 32, .inr (.inl ss))), (pa, .inl ((ka 0), 256, .inr (.inl P)))]) t9.heap ∧ va_D (va_A ([(w, .inr (3, [.ref r, .ref s, .ref u, .ref t, .int tn, .int (nI (i + 1)), .int (nI (d + 1)), .int (nI L), .int (nI 0)])), (r, .inl ((ka 0), 8, .inr (.inl rg))), (s, .inr (0, [.ref sn, .ref sk, .ref so, .int (nI psS.length)])), (sn, .inl ((ka 0), 256, .inr (.inl numS))), (sk, .inl ((ka 2), 256, .inl kpS)), (so, .inl ((ka 1), 256, .inl odS)), (u, .inr (0, [.ref un, .ref uk, .ref uo, .int (nI psU.length)])), (un, .inl ((ka 0), 256, .inr (.inl numU))), (uk, .inl ((ka 2), 256, .inl kpU)), (uo, .inl ((ka 1), 256, .inl odU)), (t, .inr (1, [.ref ta, .ref tb, .ref tc, .int (nI pg.length), .int kn, .int toc, .int tdn, .int tld, .int tsr, .long trs])), (ta, .inl ((ka 1), 32, .inl ops)), (tb, .inl ((ka 1), 32, .inl fs)), (tc, .inl ((ka 0), 32, .inr (.inl ss))), (pa, .inl ((ka 0), 256, .inr (.inl P)))]) sz) ([(w, .inr (3, [.ref r, .ref s, .ref u, .ref t, .int tn, .int nx', .int (nI (d + 1)), .int (nI L'), .int (nI o')])), (r, .inl ((ka 0), 8, .inr (.inl rg'))), (s, .inr (0, [.ref sn, .ref sk, .ref so, .int (nI psS'.length)])), (sn, .inl ((ka 0), 256, .inr (.inl numS'))), (sk, .inl ((ka 2), 256, .inl kpS')), (so, .inl ((ka 1), 256, .inl odS')), (u, .inr (0, [.ref un, .ref uk, .ref uo, .int (nI psU'.length)])), (un, .inl ((ka 0), 256, .inr (.inl numU'))), (uk, .inl ((ka 2), 256, .inl kpU')), (uo, .inl ((ka 1), 256, .inl odU')), (t, .inr (1, [.ref ta, .ref tb, .ref tc, .int (nI pg.length), .int kn, .int toc, .int tdn, .int tld, .int tsr, .long trs])), (ta, .inl ((ka 1), 32, .inl ops)), (tb, .inl ((ka 1), 32, .inl fs)), (tc, .inl ((ka 0), 32, .inr (.inl ss))), (pa, .inl ((ka 0), 256, .inr (.inl P)))])) (va_A ([(w, .inr (3, [.ref r, .ref s, .ref u, .ref t, .int tn, .int (nI (i + 1)), .int (nI (d + 1)), .int (nI L), .int (nI 0)])), (r, .inl ((ka 0), 8, .inr (.inl rg))), (s, .inr (0, [.ref sn, .ref sk, .ref so, .int (nI psS.length)])), (sn, .inl ((ka 0), 256, .inr (.inl numS))), (sk, .inl ((ka 2), 256, .inl kpS)), (so, .inl ((ka 1), 256, .inl odS)), (u, .inr (0, [.ref un, .ref uk, .ref uo, .int (nI psU.length)])), (un, .inl ((ka 0), 256, .inr (.inl numU))), (uk, .inl ((ka 2), 256, .inl kpU)), (uo, .inl ((ka 1), 256, .inl odU)), (t, .inr (1, [.ref ta, .ref tb, .ref tc, .int (nI pg.length), .int kn, .int toc, .int tdn, .int tld, .int tsr, .long trs])), (ta, .inl ((ka 1), 32, .inl ops)), (tb, .inl ((ka 1), 32, .inl fs)), (tc, .inl ((ka 0), 32, .inr (.inl ss))), (pa, .inl ((ka 0), 256, .inr (.inl P)))]) sz)) 0 0 (va_A ([(w, .inr (3, [.ref r, .ref s, .ref u, .ref t, .int tn, .int (nI (i + 1)), .int (nI (d + 1)), .int (nI L), .int (nI 0)])), (r, .inl ((ka 0), 8, .inr (.inl rg))), (s, .inr (0, [.ref sn, .ref sk, .ref so, .int (nI psS.length)])), (sn, .inl ((ka 0), 256, .inr (.inl numS))), (sk, .inl ((ka 2), 256, .inl kpS)), (so, .inl ((ka 1), 256, .inl odS)), (u, .inr (0, [.ref un, .ref uk, .ref uo, .int (nI psU.length)])), (un, .inl ((ka 0), 256, .inr (.inl numU))), (uk, .inl ((ka 2), 256, .inl kpU)), (uo, .inl ((ka 1), 256, .inl odU)), (t, .inr (1, [.ref ta, .ref tb, .ref tc, .int (nI pg.length), .int kn, .int toc, .int tdn, .int tld, .int tsr, .long trs])), (ta, .inl ((ka 1), 32, .inl ops)), (tb, .inl ((ka 1), 32, .inl fs)), (tc, .inl ((ka 0), 32, .inr (.inl ss))), (pa, .inl ((ka 0), 256, .inr (.inl P)))]) sz) := by
  refine Met.ofW (cc := b_Wk_perform) (maxL := 8) (ret := none) (by decide) rfl ?_
  intro pP eE sS mM args below meth cC s1 B hml hv
  obtain ⟨rfl, hsz, hP, hK, hN, hD0⟩ := hv
  have hx := B.exec
  have hb := B.bytes
  have hr := B.returns
  have hts := atoms_spec (ws := w_Wk_perform) B.pre
  have hown : sS.vm.findClass "VersionedBlock$Worker" = some mM.cls := findClass_of_methodNamed B.named
  have hlocks := B.notSynchronized
  subst hsz
  have hD := hD0.self (sz := sS.heap.size)
  generalize hAe : va_A ([(w, .inr (3, [.ref r, .ref s, .ref u, .ref t, .int tn, .int (nI (i + 1)), .int (nI (d + 1)), .int (nI L), .int (nI 0)])), (r, .inl ((ka 0), 8, .inr (.inl rg))), (s, .inr (0, [.ref sn, .ref sk, .ref so, .int (nI psS.length)])), (sn, .inl ((ka 0), 256, .inr (.inl numS))), (sk, .inl ((ka 2), 256, .inl kpS)), (so, .inl ((ka 1), 256, .inl odS)), (u, .inr (0, [.ref un, .ref uk, .ref uo, .int (nI psU.length)])), (un, .inl ((ka 0), 256, .inr (.inl numU))), (uk, .inl ((ka 2), 256, .inl kpU)), (uo, .inl ((ka 1), 256, .inl odU)), (t, .inr (1, [.ref ta, .ref tb, .ref tc, .int (nI pg.length), .int kn, .int toc, .int tdn, .int tld, .int tsr, .long trs])), (ta, .inl ((ka 1), 32, .inl ops)), (tb, .inl ((ka 1), 32, .inl fs)), (tc, .inl ((ka 0), 32, .inr (.inl ss))), (pa, .inl ((ka 0), 256, .inr (.inl P)))]) sS.heap.size = A at hD ⊢
  have hA : ∀ q : Nat, sS.heap.size ≤ q → A q := fun q h => by rw [← hAe]; exact Or.inr h
  have hS : va_S A sS.heap sS.heap [] := va_S.rf
  have hl := lv_entry ([.ref w, .ref t, .int (nI i), .ref pa]) (n := 8) (Nat.le_of_ble_eq_true rfl)
  rw [lg_entry_eq]
  generalize (lg_sl ([.ref w, .ref t, .int (nI i), .ref pa]) ++ List.replicate (8 - (lg_sl ([.ref w, .ref t, .int (nI i), .ref pa])).length) Slot.unset).toArray = ls at hl ⊢
  have hl : lv_has ls 8 [(0, .ref w), (1, .ref t), (2, .int (nI i)), (3, .ref pa)] := hl
  obtain ⟨op, hop, hop10, a, hfa, ha8, hin⟩ := pgR_at hpg hi
  refine lv_aload_n hx hb d_Wk_perform_0 rfl (lv_at hl 1 rfl) ?_
  refine lv_iload_n hx hb d_Wk_perform_1 rfl (lv_at hl 2 rfl) ?_
  have hPc := hP.sub (ws' := [(t, .inr (1, [.ref ta, .ref tb, .ref tc, .int (nI pg.length), .int kn, .int toc, .int tdn, .int tld, .int tsr, .long trs])), (tb, .inl ((ka 1), 32, .inl fs))]) [10, 12] rfl
  refine vp_callSi (run_of (va_runV (As := [.int (nI i)]) (rest := []) ⟨hx, hb, hml, hown, hts⟩ (c_Tr_firstAt l D ka t ta tb tc pg.length i kn toc tdn tld tsr trs fs hpg.1 hi) ⟨callB_of 1 hts (gd_tb mw_2_49) rfl rfl rfl (hts _ (List.mem_cons_of_mem _ mw_1_5)) (hts _ (List.mem_cons_of_mem _ mw_2_46)) (by decide +kernel) ⟨Nat.le_of_ble_eq_true rfl, Nat.le_of_ble_eq_true rfl⟩, (hts _ (List.mem_cons_of_mem _ mw_2_47)), (hts _ (List.mem_cons_of_mem _ mw_2_48))⟩ ⟨pR_blind, va_recv hK hPc (ci := 1) (q0 := 0) rfl rfl, pR_pre hK hN hPc⟩ rfl rfl hl.1 rfl (lv_room (Nat.le_of_ble_eq_true rfl)) d_Wk_perform_2 ⟨Nat.le_of_ble_eq_true rfl, Nat.le_of_ble_eq_true rfl⟩)) (fun r_2 hr_2 => ?_)
  obtain rfl : r_2 = nI a := hr_2.trans hfa
  refine lv_istore (lv' := [(4, .int (nI a)), (0, .ref w), (1, .ref t), (2, .int (nI i)), (3, .ref pa)]) hx hb d_Wk_perform_5 hl (by decide) rfl (fun ls hl => ?_)
  refine lv_aload_n hx hb d_Wk_perform_7 rfl (lv_at hl 2 rfl) ?_
  refine lv_iload_n hx hb d_Wk_perform_8 rfl (lv_at hl 3 rfl) ?_
  have hPc := hP.sub (ws' := [(t, .inr (1, [.ref ta, .ref tb, .ref tc, .int (nI pg.length), .int kn, .int toc, .int tdn, .int tld, .int tsr, .long trs])), (tc, .inl ((ka 0), 32, .inr (.inl ss)))]) [10, 13] rfl
  refine vp_callSl (run_of (va_runV (As := [.int (nI i)]) (rest := []) ⟨hx, hb, hml, hown, hts⟩ (c_Tr_secondAt l D ka t ta tb tc pg.length i kn toc tdn tld tsr trs ss hpg.1 hi) ⟨callB_of 1 hts (gd_tb mw_2_54) rfl rfl rfl (hts _ (List.mem_cons_of_mem _ mw_1_5)) (hts _ (List.mem_cons_of_mem _ mw_2_51)) (by decide +kernel) ⟨Nat.le_of_ble_eq_true rfl, Nat.le_of_ble_eq_true rfl⟩, (hts _ (List.mem_cons_of_mem _ mw_2_52)), (hts _ (List.mem_cons_of_mem _ mw_2_53))⟩ ⟨pR_blind, va_recv hK hPc (ci := 1) (q0 := 0) rfl rfl, pR_pre hK hN hPc⟩ rfl rfl hl.1 rfl (lv_room (Nat.le_of_ble_eq_true rfl)) d_Wk_perform_9 ⟨Nat.le_of_ble_eq_true rfl, Nat.le_of_ble_eq_true rfl⟩)) (fun r_9 hr_9 => ?_)
  obtain rfl : r_9 = (ss i) := hr_9
  refine lv_lstore (lv' := [(5, .long (ss i)), (4, .int (nI a)), (0, .ref w), (1, .ref t), (2, .int (nI i)), (3, .ref pa)]) hx hb d_Wk_perform_12 hl (by decide) rfl (fun ls hl => ?_)
  refine lv_lload hx hb d_Wk_perform_14 (lv_at hl 0 rfl) ?_
  refine vp_callSi (run_of (va_runSN (As := [.long (ss i)]) (rest := []) ⟨hx, hb, hml, hown, hts⟩ (c_registerOf l (ss i) ) ⟨va_cnB (host := "VersionedBlock") 1 hts (gd_tb mw_1_141) rfl rfl rfl (kN_5 hN) (hts _ (List.mem_cons_of_mem _ mw_1_1)) (by decide +kernel) ⟨Nat.le_of_ble_eq_true rfl, Nat.le_of_ble_eq_true rfl⟩, (hts _ (List.mem_cons_of_mem _ mw_1_140)), trivial⟩ ⟨pE_blind, pE_pre hN⟩ rfl rfl hl.1 rfl (lv_room (Nat.le_of_ble_eq_true rfl)) d_Wk_perform_16 ⟨Nat.le_of_ble_eq_true rfl, Nat.le_of_ble_eq_true rfl⟩)) (fun r_16 hr_16 => ?_)
  obtain rfl : r_16 = (nI (sp_rg (ss i))) := hr_16
  refine lv_istore (lv' := [(7, .int (nI (sp_rg (ss i)))), (5, .long (ss i)), (4, .int (nI a)), (0, .ref w), (1, .ref t), (2, .int (nI i)), (3, .ref pa)]) hx hb d_Wk_perform_19 hl (by decide) rfl (fun ls hl => ?_)
  refine lv_aload_n hx hb d_Wk_perform_21 rfl (lv_at hl 4 rfl) ?_
  refine lv_iload_n hx hb d_Wk_perform_22 rfl (lv_at hl 5 rfl) ?_
  have hPc := hP.sub (ws' := [(t, .inr (1, [.ref ta, .ref tb, .ref tc, .int (nI pg.length), .int kn, .int toc, .int tdn, .int tld, .int tsr, .long trs])), (ta, .inl ((ka 1), 32, .inl ops))]) [10, 11] rfl
  refine vp_callSi (run_of (va_runV (As := [.int (nI i)]) (rest := []) ⟨hx, hb, hml, hown, hts⟩ (c_Tr_operationAt l D ka t ta tb tc pg.length i kn toc tdn tld tsr trs ops hpg.1 hi) ⟨callB_of 1 hts (gd_tb mw_2_59) rfl rfl rfl (hts _ (List.mem_cons_of_mem _ mw_1_5)) (hts _ (List.mem_cons_of_mem _ mw_2_56)) (by decide +kernel) ⟨Nat.le_of_ble_eq_true rfl, Nat.le_of_ble_eq_true rfl⟩, (hts _ (List.mem_cons_of_mem _ mw_2_57)), (hts _ (List.mem_cons_of_mem _ mw_2_58))⟩ ⟨pR_blind, va_recv hK hPc (ci := 1) (q0 := 0) rfl rfl, pR_pre hK hN hPc⟩ rfl rfl hl.1 rfl (lv_room (Nat.le_of_ble_eq_true rfl)) d_Wk_perform_23 ⟨Nat.le_of_ble_eq_true rfl, Nat.le_of_ble_eq_true rfl⟩)) (fun r_23 hr_23 => ?_)
  obtain rfl : r_23 = nI op := hr_23.trans hop
  have hcs : op = 0 ∨ op = 1 ∨ op = 2 ∨ op = 3 ∨ op = 4 ∨ op = 5 ∨ op = 6 ∨ op = 7 ∨ op = 8 ∨ op = 9 ∨ op = 10 := by omega
  rcases hcs with rfl | rfl | rfl | rfl | rfl | rfl | rfl | rfl | rfl | rfl | rfl
  · skip
    refine lv_tableOut (tgt := 297) hx hb d_Wk_perform_26 (Or.inl (by decide)) (by decide) ?_
    refine lv_aload_n hx hb d_Wk_perform_297 rfl (lv_at hl 3 rfl) ?_
    refine lv_iconst (v := (nI 1)) hx hb d_Wk_perform_298 (by decide) ?_
    refine va_put (D := D) (ci := 3) (v := .int (nI 1)) (ty := .int) (C := "VersionedBlock$Worker") (T := T_Wk) (N := 9) hx hb hts (fun w h => List.mem_cons_of_mem _ (il_Wk w h)) t_Wk t_Wk_ok n_Wk hown hK hP hD hS 0 rfl rfl 8 (by decide) (hts _ (List.mem_cons_of_mem _ mw_1_234)) (fun _ h9 => h9) rfl (by decide +kernel) rfl rfl (Nat.le_of_ble_eq_true rfl) d_Wk_perform_299 (fun H locs hP hD hS => ?_)
    have hP : va_P D classes ([(w, .inr (3, [.ref r, .ref s, .ref u, .ref t, .int tn, .int (nI (i + 1)), .int (nI (d + 1)), .int (nI L), .int (nI 1)])), (r, .inl ((ka 0), 8, .inr (.inl rg))), (s, .inr (0, [.ref sn, .ref sk, .ref so, .int (nI psS.length)])), (sn, .inl ((ka 0), 256, .inr (.inl numS))), (sk, .inl ((ka 2), 256, .inl kpS)), (so, .inl ((ka 1), 256, .inl odS)), (u, .inr (0, [.ref un, .ref uk, .ref uo, .int (nI psU.length)])), (un, .inl ((ka 0), 256, .inr (.inl numU))), (uk, .inl ((ka 2), 256, .inl kpU)), (uo, .inl ((ka 1), 256, .inl odU)), (t, .inr (1, [.ref ta, .ref tb, .ref tc, .int (nI pg.length), .int kn, .int toc, .int tdn, .int tld, .int tsr, .long trs])), (ta, .inl ((ka 1), 32, .inl ops)), (tb, .inl ((ka 1), 32, .inl fs)), (tc, .inl ((ka 0), 32, .inr (.inl ss))), (pa, .inl ((ka 0), 256, .inr (.inl P)))]) H := hP
    have hD : va_D A ([(w, .inr (3, [.ref r, .ref s, .ref u, .ref t, .int tn, .int (nI (i + 1)), .int (nI (d + 1)), .int (nI L), .int (nI 1)])), (r, .inl ((ka 0), 8, .inr (.inl rg))), (s, .inr (0, [.ref sn, .ref sk, .ref so, .int (nI psS.length)])), (sn, .inl ((ka 0), 256, .inr (.inl numS))), (sk, .inl ((ka 2), 256, .inl kpS)), (so, .inl ((ka 1), 256, .inl odS)), (u, .inr (0, [.ref un, .ref uk, .ref uo, .int (nI psU.length)])), (un, .inl ((ka 0), 256, .inr (.inl numU))), (uk, .inl ((ka 2), 256, .inl kpU)), (uo, .inl ((ka 1), 256, .inl odU)), (t, .inr (1, [.ref ta, .ref tb, .ref tc, .int (nI pg.length), .int kn, .int toc, .int tdn, .int tld, .int tsr, .long trs])), (ta, .inl ((ka 1), 32, .inl ops)), (tb, .inl ((ka 1), 32, .inl fs)), (tc, .inl ((ka 0), 32, .inr (.inl ss))), (pa, .inl ((ka 0), 256, .inr (.inl P)))]) := hD
    have hP9 := hP.sub (ws' := [(w, .inr (3, [.ref r, .ref s, .ref u, .ref t, .int tn, .int (nI (i + 1)), .int (nI (d + 1)), .int (nI L), .int (nI 1)])), (r, .inl ((ka 0), 8, .inr (.inl rg))), (s, .inr (0, [.ref sn, .ref sk, .ref so, .int (nI psS.length)])), (sn, .inl ((ka 0), 256, .inr (.inl numS))), (sk, .inl ((ka 2), 256, .inl kpS)), (so, .inl ((ka 1), 256, .inl odS)), (u, .inr (0, [.ref un, .ref uk, .ref uo, .int (nI psU.length)])), (un, .inl ((ka 0), 256, .inr (.inl numU))), (uk, .inl ((ka 2), 256, .inl kpU)), (uo, .inl ((ka 1), 256, .inl odU)), (t, .inr (1, [.ref ta, .ref tb, .ref tc, .int (nI pg.length), .int kn, .int toc, .int tdn, .int tld, .int tsr, .long trs])), (ta, .inl ((ka 1), 32, .inl ops)), (tb, .inl ((ka 1), 32, .inl fs)), (tc, .inl ((ka 0), 32, .inr (.inl ss))), (pa, .inl ((ka 0), 256, .inr (.inl P)))]) [0, 1, 2, 3, 4, 5, 6, 7, 8, 9, 10, 11, 12, 13, 14] rfl
    have hD9 := hD.sub (ws' := [(w, .inr (3, [.ref r, .ref s, .ref u, .ref t, .int tn, .int (nI (i + 1)), .int (nI (d + 1)), .int (nI L), .int (nI 1)])), (r, .inl ((ka 0), 8, .inr (.inl rg))), (s, .inr (0, [.ref sn, .ref sk, .ref so, .int (nI psS.length)])), (sn, .inl ((ka 0), 256, .inr (.inl numS))), (sk, .inl ((ka 2), 256, .inl kpS)), (so, .inl ((ka 1), 256, .inl odS)), (u, .inr (0, [.ref un, .ref uk, .ref uo, .int (nI psU.length)])), (un, .inl ((ka 0), 256, .inr (.inl numU))), (uk, .inl ((ka 2), 256, .inl kpU)), (uo, .inl ((ka 1), 256, .inl odU)), (t, .inr (1, [.ref ta, .ref tb, .ref tc, .int (nI pg.length), .int kn, .int toc, .int tdn, .int tld, .int tsr, .long trs])), (ta, .inl ((ka 1), 32, .inl ops)), (tb, .inl ((ka 1), 32, .inl fs)), (tc, .inl ((ka 0), 32, .inr (.inl ss))), (pa, .inl ((ka 0), 256, .inr (.inl P)))]) [0, 1, 2, 3, 4, 5, 6, 7, 8, 9, 10, 11, 12, 13, 14] (by decide) rfl
    exact W.vret hx hb hr (fun t9 ht hW => ⟨⟨(), rfl, trivial, rg, psS, numS, kpS, odS, psU, numU, kpU, odU, (nI (i + 1)), (sp_nx pg.length (i + 1)), L, 1, ⟨hS0, hU0, nxR_nx hi, by omega, by rw [hin]; rfl, by rw [hin]; rfl⟩, by rw [ht]; exact hP9, hD9⟩, hS.F ht⟩) hS.2.2 d_Wk_perform_302
  · skip
    refine lv_tableIn (off := 54) (tgt := 80) hx hb d_Wk_perform_26 (by decide) (by decide) (by decide) (by decide) ?_
    refine lv_aload_n hx hb d_Wk_perform_80 rfl (lv_at hl 3 rfl) ?_
    refine va_get (D := D) (ci := 3) (v := .ref r) (C := "VersionedBlock$Worker") (T := T_Wk) (N := 9) hx hb hts (fun w h => List.mem_cons_of_mem _ (il_Wk w h)) hown hK hP 0 rfl rfl 0 (by decide) (hts _ (List.mem_cons_of_mem _ mw_1_226)) (fun _ h9 => h9) rfl d_Wk_perform_81 ?_
    refine lv_iload hx hb d_Wk_perform_84 (lv_at hl 2 rfl) ?_
    refine lv_lload hx hb d_Wk_perform_86 (lv_at hl 1 rfl) ?_
    refine my_last hx hb hK hP hD hS 1 0 rfl rfl (k := a) ha8 (Nat.le_of_ble_eq_true rfl) d_Wk_perform_88 (fun H locs hP hD hS => ?_)
    have hP : va_P D classes ([(w, .inr (3, [.ref r, .ref s, .ref u, .ref t, .int tn, .int (nI (i + 1)), .int (nI (d + 1)), .int (nI L), .int (nI 0)])), (r, .inl ((ka 0), 8, .inr (.inl (vp_updL rg a (ss i))))), (s, .inr (0, [.ref sn, .ref sk, .ref so, .int (nI psS.length)])), (sn, .inl ((ka 0), 256, .inr (.inl numS))), (sk, .inl ((ka 2), 256, .inl kpS)), (so, .inl ((ka 1), 256, .inl odS)), (u, .inr (0, [.ref un, .ref uk, .ref uo, .int (nI psU.length)])), (un, .inl ((ka 0), 256, .inr (.inl numU))), (uk, .inl ((ka 2), 256, .inl kpU)), (uo, .inl ((ka 1), 256, .inl odU)), (t, .inr (1, [.ref ta, .ref tb, .ref tc, .int (nI pg.length), .int kn, .int toc, .int tdn, .int tld, .int tsr, .long trs])), (ta, .inl ((ka 1), 32, .inl ops)), (tb, .inl ((ka 1), 32, .inl fs)), (tc, .inl ((ka 0), 32, .inr (.inl ss))), (pa, .inl ((ka 0), 256, .inr (.inl P)))]) H := hP
    have hD : va_D A ([(w, .inr (3, [.ref r, .ref s, .ref u, .ref t, .int tn, .int (nI (i + 1)), .int (nI (d + 1)), .int (nI L), .int (nI 0)])), (r, .inl ((ka 0), 8, .inr (.inl (vp_updL rg a (ss i))))), (s, .inr (0, [.ref sn, .ref sk, .ref so, .int (nI psS.length)])), (sn, .inl ((ka 0), 256, .inr (.inl numS))), (sk, .inl ((ka 2), 256, .inl kpS)), (so, .inl ((ka 1), 256, .inl odS)), (u, .inr (0, [.ref un, .ref uk, .ref uo, .int (nI psU.length)])), (un, .inl ((ka 0), 256, .inr (.inl numU))), (uk, .inl ((ka 2), 256, .inl kpU)), (uo, .inl ((ka 1), 256, .inl odU)), (t, .inr (1, [.ref ta, .ref tb, .ref tc, .int (nI pg.length), .int kn, .int toc, .int tdn, .int tld, .int tsr, .long trs])), (ta, .inl ((ka 1), 32, .inl ops)), (tb, .inl ((ka 1), 32, .inl fs)), (tc, .inl ((ka 0), 32, .inr (.inl ss))), (pa, .inl ((ka 0), 256, .inr (.inl P)))]) := hD
    refine lv_goto (tgt := 302) hx hb d_Wk_perform_89 (by decide) ?_
    have hP9 := hP.sub (ws' := [(w, .inr (3, [.ref r, .ref s, .ref u, .ref t, .int tn, .int (nI (i + 1)), .int (nI (d + 1)), .int (nI L), .int (nI 0)])), (r, .inl ((ka 0), 8, .inr (.inl (vp_updL rg a ((ss i)))))), (s, .inr (0, [.ref sn, .ref sk, .ref so, .int (nI psS.length)])), (sn, .inl ((ka 0), 256, .inr (.inl numS))), (sk, .inl ((ka 2), 256, .inl kpS)), (so, .inl ((ka 1), 256, .inl odS)), (u, .inr (0, [.ref un, .ref uk, .ref uo, .int (nI psU.length)])), (un, .inl ((ka 0), 256, .inr (.inl numU))), (uk, .inl ((ka 2), 256, .inl kpU)), (uo, .inl ((ka 1), 256, .inl odU)), (t, .inr (1, [.ref ta, .ref tb, .ref tc, .int (nI pg.length), .int kn, .int toc, .int tdn, .int tld, .int tsr, .long trs])), (ta, .inl ((ka 1), 32, .inl ops)), (tb, .inl ((ka 1), 32, .inl fs)), (tc, .inl ((ka 0), 32, .inr (.inl ss))), (pa, .inl ((ka 0), 256, .inr (.inl P)))]) [0, 1, 2, 3, 4, 5, 6, 7, 8, 9, 10, 11, 12, 13, 14] rfl
    have hD9 := hD.sub (ws' := [(w, .inr (3, [.ref r, .ref s, .ref u, .ref t, .int tn, .int (nI (i + 1)), .int (nI (d + 1)), .int (nI L), .int (nI 0)])), (r, .inl ((ka 0), 8, .inr (.inl (vp_updL rg a ((ss i)))))), (s, .inr (0, [.ref sn, .ref sk, .ref so, .int (nI psS.length)])), (sn, .inl ((ka 0), 256, .inr (.inl numS))), (sk, .inl ((ka 2), 256, .inl kpS)), (so, .inl ((ka 1), 256, .inl odS)), (u, .inr (0, [.ref un, .ref uk, .ref uo, .int (nI psU.length)])), (un, .inl ((ka 0), 256, .inr (.inl numU))), (uk, .inl ((ka 2), 256, .inl kpU)), (uo, .inl ((ka 1), 256, .inl odU)), (t, .inr (1, [.ref ta, .ref tb, .ref tc, .int (nI pg.length), .int kn, .int toc, .int tdn, .int tld, .int tsr, .long trs])), (ta, .inl ((ka 1), 32, .inl ops)), (tb, .inl ((ka 1), 32, .inl fs)), (tc, .inl ((ka 0), 32, .inr (.inl ss))), (pa, .inl ((ka 0), 256, .inr (.inl P)))]) [0, 1, 2, 3, 4, 5, 6, 7, 8, 9, 10, 11, 12, 13, 14] (by decide) rfl
    exact W.vret hx hb hr (fun t9 ht hW => ⟨⟨(), rfl, trivial, (vp_updL rg a ((ss i))), psS, numS, kpS, odS, psU, numU, kpU, odU, (nI (i + 1)), (sp_nx pg.length (i + 1)), L, 0, ⟨hS0, hU0, nxR_nx hi, by omega, by rw [hin]; rfl, by rw [hin]; rfl⟩, by rw [ht]; exact hP9, hD9⟩, hS.F ht⟩) hS.2.2 d_Wk_perform_302
  · skip
    refine lv_tableIn (off := 66) (tgt := 92) hx hb d_Wk_perform_26 (by decide) (by decide) (by decide) (by decide) ?_
    refine lv_aload_n hx hb d_Wk_perform_92 rfl (lv_at hl 3 rfl) ?_
    refine va_get (D := D) (ci := 3) (v := .ref r) (C := "VersionedBlock$Worker") (T := T_Wk) (N := 9) hx hb hts (fun w h => List.mem_cons_of_mem _ (il_Wk w h)) hown hK hP 0 rfl rfl 0 (by decide) (hts _ (List.mem_cons_of_mem _ mw_1_226)) (fun _ h9 => h9) rfl d_Wk_perform_93 ?_
    refine lv_iload hx hb d_Wk_perform_96 (lv_at hl 2 rfl) ?_
    refine lv_aload_n hx hb d_Wk_perform_98 rfl (lv_at hl 3 rfl) ?_
    refine lv_aload_n hx hb d_Wk_perform_99 rfl (lv_at hl 3 rfl) ?_
    refine va_get (D := D) (ci := 3) (v := .ref r) (C := "VersionedBlock$Worker") (T := T_Wk) (N := 9) hx hb hts (fun w h => List.mem_cons_of_mem _ (il_Wk w h)) hown hK hP 0 rfl rfl 0 (by decide) (hts _ (List.mem_cons_of_mem _ mw_1_226)) (fun _ h9 => h9) rfl d_Wk_perform_100 ?_
    refine lv_iload hx hb d_Wk_perform_103 (lv_at hl 0 rfl) ?_
    refine my_lald hx hb hK hP 1 0 rfl rfl (k := (sp_rg (ss i))) (sp_rg_lt _) (Nat.le_of_ble_eq_true rfl) d_Wk_perform_105 ?_
    refine vp_callSi (run_of (va_runSN (As := [.long (rg (sp_rg (ss i)))]) (rest := [.ref w, .int (nI a), .ref r]) ⟨hx, hb, hml, hown, hts⟩ (c_placeOf l (rg (sp_rg (ss i))) ) ⟨va_cnB (host := "VersionedBlock") 1 hts (gd_tb mw_2_62) rfl rfl rfl (kN_6 hN) (hts _ (List.mem_cons_of_mem _ mw_1_1)) (by decide +kernel) ⟨Nat.le_of_ble_eq_true rfl, Nat.le_of_ble_eq_true rfl⟩, (hts _ (List.mem_cons_of_mem _ mw_2_61)), trivial⟩ ⟨pE_blind, pE_pre hN⟩ rfl rfl hl.1 rfl (lv_room (Nat.le_of_ble_eq_true rfl)) d_Wk_perform_106 ⟨Nat.le_of_ble_eq_true rfl, Nat.le_of_ble_eq_true rfl⟩)) (fun r_106 hr_106 => ?_)
    obtain rfl : r_106 = (nI (sp_pl (rg (sp_rg (ss i))))) := hr_106
    refine lv_aload_n hx hb d_Wk_perform_109 rfl (lv_at hl 6 rfl) ?_
    have hPc := hP.sub (ws' := [(w, .inr (3, [.ref r, .ref s, .ref u, .ref t, .int tn, .int (nI (i + 1)), .int (nI (d + 1)), .int (nI L), .int (nI 0)])), (r, .inl ((ka 0), 8, .inr (.inl rg))), (s, .inr (0, [.ref sn, .ref sk, .ref so, .int (nI psS.length)])), (sn, .inl ((ka 0), 256, .inr (.inl numS))), (sk, .inl ((ka 2), 256, .inl kpS)), (so, .inl ((ka 1), 256, .inl odS)), (u, .inr (0, [.ref un, .ref uk, .ref uo, .int (nI psU.length)])), (un, .inl ((ka 0), 256, .inr (.inl numU))), (uk, .inl ((ka 2), 256, .inl kpU)), (uo, .inl ((ka 1), 256, .inl odU)), (pa, .inl ((ka 0), 256, .inr (.inl P)))]) [0, 1, 2, 3, 4, 5, 6, 7, 8, 9, 14] rfl
    have hDc := hD.sub (ws' := [(w, .inr (3, [.ref r, .ref s, .ref u, .ref t, .int tn, .int (nI (i + 1)), .int (nI (d + 1)), .int (nI L), .int (nI 0)])), (r, .inl ((ka 0), 8, .inr (.inl rg))), (s, .inr (0, [.ref sn, .ref sk, .ref so, .int (nI psS.length)])), (sn, .inl ((ka 0), 256, .inr (.inl numS))), (sk, .inl ((ka 2), 256, .inl kpS)), (so, .inl ((ka 1), 256, .inl odS)), (u, .inr (0, [.ref un, .ref uk, .ref uo, .int (nI psU.length)])), (un, .inl ((ka 0), 256, .inr (.inl numU))), (uk, .inl ((ka 2), 256, .inl kpU)), (uo, .inl ((ka 1), 256, .inl odU)), (pa, .inl ((ka 0), 256, .inr (.inl P)))]) [0, 1, 2, 3, 4, 5, 6, 7, 8, 9, 14] (by decide) rfl
    have hFc := va_free (wc := [(w, .inr (3, [.ref r, .ref s, .ref u, .ref t, .int tn, .int (nI (i + 1)), .int (nI (d + 1)), .int (nI L), .int (nI 0)])), (r, .inl ((ka 0), 8, .inr (.inl rg))), (s, .inr (0, [.ref sn, .ref sk, .ref so, .int (nI psS.length)])), (sn, .inl ((ka 0), 256, .inr (.inl numS))), (sk, .inl ((ka 2), 256, .inl kpS)), (so, .inl ((ka 1), 256, .inl odS)), (u, .inr (0, [.ref un, .ref uk, .ref uo, .int (nI psU.length)])), (un, .inl ((ka 0), 256, .inr (.inl numU))), (uk, .inl ((ka 2), 256, .inl kpU)), (uo, .inl ((ka 1), 256, .inl odU)), (pa, .inl ((ka 0), 256, .inr (.inl P)))]) hD hS hA [0, 1, 2, 3, 4, 5, 6, 7, 8, 9, 14] rfl
    refine va_calll (va_runV (As := [.int (nI (sp_pl (rg (sp_rg (ss i))))), .ref pa]) (rest := [.int (nI a), .ref r]) ⟨hx, hb, hml, hown, hts⟩ (c_Wk_load l D ka sS.heap.size w r s sn sk so u un uk uo t pa (sp_pl (rg (sp_rg (ss i)))) L tn (nI (i + 1)) (nI (d + 1)) (nI 0) P rg numS numU psS psU kpS odS kpU odU hS0 hU0 (sp_pl_lt _)) ⟨callB_of 2 hts (gd_tb mw_2_67) rfl rfl rfl (hts _ (List.mem_cons_of_mem _ mw_1_8)) (hts _ (List.mem_cons_of_mem _ mw_2_64)) (by decide +kernel) ⟨Nat.le_of_ble_eq_true rfl, Nat.le_of_ble_eq_true rfl⟩, (hts _ (List.mem_cons_of_mem _ mw_2_66)), (hts _ (List.mem_cons_of_mem _ (tb_sel (List.mem_of_getElem? (i := 4) rfl))))⟩ ⟨pW_blind, va_recv hK hPc (ci := 3) (q0 := 0) rfl rfl, pW_pre hK hN hPc hDc⟩ rfl rfl hl.1 rfl (lv_room (Nat.le_of_ble_eq_true rfl)) d_Wk_perform_110 ⟨Nat.le_of_ble_eq_true rfl, Nat.le_of_ble_eq_true rfl⟩) hS (fun q _ h => hFc q h) hFc (fun r_110 u9 t9 H1 locs ht hvm hr_110 hB hz1 hk1 hS => ?_)
    obtain ⟨psS', numS', kpS', odS', hrel_110, hP1, hD1⟩ := hB
    rw [ht] at hP1
    obtain ⟨hP, hD⟩ := va_join (wr := [(t, .inr (1, [.ref ta, .ref tb, .ref tc, .int (nI pg.length), .int kn, .int toc, .int tdn, .int tld, .int tsr, .long trs])), (ta, .inl ((ka 1), 32, .inl ops)), (tb, .inl ((ka 1), 32, .inl fs)), (tc, .inl ((ka 0), 32, .inr (.inl ss)))]) (w1 := [(w, .inr (3, [.ref r, .ref s, .ref u, .ref t, .int tn, .int (nI (i + 1)), .int (nI (d + 1)), .int (nI (L + 1)), .int (nI 0)])), (r, .inl ((ka 0), 8, .inr (.inl rg))), (s, .inr (0, [.ref sn, .ref sk, .ref so, .int (nI psS'.length)])), (sn, .inl ((ka 0), 256, .inr (.inl numS'))), (sk, .inl ((ka 2), 256, .inl kpS')), (so, .inl ((ka 1), 256, .inl odS')), (u, .inr (0, [.ref un, .ref uk, .ref uo, .int (nI psU.length)])), (un, .inl ((ka 0), 256, .inr (.inl numU))), (uk, .inl ((ka 2), 256, .inl kpU)), (uo, .inl ((ka 1), 256, .inl odU)), (pa, .inl ((ka 0), 256, .inr (.inl P)))]) hP hD [0, 1, 2, 3, 4, 5, 6, 7, 8, 9, 14] [10, 11, 12, 13] rfl rfl (by decide) (by decide) hk1 hFc hP1 hD1
    generalize H1 = H at hP hS ⊢
    have hP : va_P D classes ([(t, .inr (1, [.ref ta, .ref tb, .ref tc, .int (nI pg.length), .int kn, .int toc, .int tdn, .int tld, .int tsr, .long trs])), (ta, .inl ((ka 1), 32, .inl ops)), (tb, .inl ((ka 1), 32, .inl fs)), (tc, .inl ((ka 0), 32, .inr (.inl ss))), (w, .inr (3, [.ref r, .ref s, .ref u, .ref t, .int tn, .int (nI (i + 1)), .int (nI (d + 1)), .int (nI (L + 1)), .int (nI 0)])), (r, .inl ((ka 0), 8, .inr (.inl rg))), (s, .inr (0, [.ref sn, .ref sk, .ref so, .int (nI psS'.length)])), (sn, .inl ((ka 0), 256, .inr (.inl numS'))), (sk, .inl ((ka 2), 256, .inl kpS')), (so, .inl ((ka 1), 256, .inl odS')), (u, .inr (0, [.ref un, .ref uk, .ref uo, .int (nI psU.length)])), (un, .inl ((ka 0), 256, .inr (.inl numU))), (uk, .inl ((ka 2), 256, .inl kpU)), (uo, .inl ((ka 1), 256, .inl odU)), (pa, .inl ((ka 0), 256, .inr (.inl P)))]) H := hP
    have hD : va_D A ([(t, .inr (1, [.ref ta, .ref tb, .ref tc, .int (nI pg.length), .int kn, .int toc, .int tdn, .int tld, .int tsr, .long trs])), (ta, .inl ((ka 1), 32, .inl ops)), (tb, .inl ((ka 1), 32, .inl fs)), (tc, .inl ((ka 0), 32, .inr (.inl ss))), (w, .inr (3, [.ref r, .ref s, .ref u, .ref t, .int tn, .int (nI (i + 1)), .int (nI (d + 1)), .int (nI (L + 1)), .int (nI 0)])), (r, .inl ((ka 0), 8, .inr (.inl rg))), (s, .inr (0, [.ref sn, .ref sk, .ref so, .int (nI psS'.length)])), (sn, .inl ((ka 0), 256, .inr (.inl numS'))), (sk, .inl ((ka 2), 256, .inl kpS')), (so, .inl ((ka 1), 256, .inl odS')), (u, .inr (0, [.ref un, .ref uk, .ref uo, .int (nI psU.length)])), (un, .inl ((ka 0), 256, .inr (.inl numU))), (uk, .inl ((ka 2), 256, .inl kpU)), (uo, .inl ((ka 1), 256, .inl odU)), (pa, .inl ((ka 0), 256, .inr (.inl P)))]) := hD
    obtain rfl : r_110 = ((dm psU numU (sp_pl (rg (sp_rg (ss i))))).getD (wk_ld (dm psS numS) P (sp_pl (rg (sp_rg (ss i)))))) := hr_110
    refine my_last hx hb hK hP hD hS 5 0 rfl rfl (k := a) ha8 (Nat.le_of_ble_eq_true rfl) d_Wk_perform_113 (fun H locs hP hD hS => ?_)
    have hP : va_P D classes ([(t, .inr (1, [.ref ta, .ref tb, .ref tc, .int (nI pg.length), .int kn, .int toc, .int tdn, .int tld, .int tsr, .long trs])), (ta, .inl ((ka 1), 32, .inl ops)), (tb, .inl ((ka 1), 32, .inl fs)), (tc, .inl ((ka 0), 32, .inr (.inl ss))), (w, .inr (3, [.ref r, .ref s, .ref u, .ref t, .int tn, .int (nI (i + 1)), .int (nI (d + 1)), .int (nI (L + 1)), .int (nI 0)])), (r, .inl ((ka 0), 8, .inr (.inl (vp_updL rg a ((dm psU numU (sp_pl (rg (sp_rg (ss i))))).getD (wk_ld (dm psS numS) P (sp_pl (rg (sp_rg (ss i)))))))))), (s, .inr (0, [.ref sn, .ref sk, .ref so, .int (nI psS'.length)])), (sn, .inl ((ka 0), 256, .inr (.inl numS'))), (sk, .inl ((ka 2), 256, .inl kpS')), (so, .inl ((ka 1), 256, .inl odS')), (u, .inr (0, [.ref un, .ref uk, .ref uo, .int (nI psU.length)])), (un, .inl ((ka 0), 256, .inr (.inl numU))), (uk, .inl ((ka 2), 256, .inl kpU)), (uo, .inl ((ka 1), 256, .inl odU)), (pa, .inl ((ka 0), 256, .inr (.inl P)))]) H := hP
    have hD : va_D A ([(t, .inr (1, [.ref ta, .ref tb, .ref tc, .int (nI pg.length), .int kn, .int toc, .int tdn, .int tld, .int tsr, .long trs])), (ta, .inl ((ka 1), 32, .inl ops)), (tb, .inl ((ka 1), 32, .inl fs)), (tc, .inl ((ka 0), 32, .inr (.inl ss))), (w, .inr (3, [.ref r, .ref s, .ref u, .ref t, .int tn, .int (nI (i + 1)), .int (nI (d + 1)), .int (nI (L + 1)), .int (nI 0)])), (r, .inl ((ka 0), 8, .inr (.inl (vp_updL rg a ((dm psU numU (sp_pl (rg (sp_rg (ss i))))).getD (wk_ld (dm psS numS) P (sp_pl (rg (sp_rg (ss i)))))))))), (s, .inr (0, [.ref sn, .ref sk, .ref so, .int (nI psS'.length)])), (sn, .inl ((ka 0), 256, .inr (.inl numS'))), (sk, .inl ((ka 2), 256, .inl kpS')), (so, .inl ((ka 1), 256, .inl odS')), (u, .inr (0, [.ref un, .ref uk, .ref uo, .int (nI psU.length)])), (un, .inl ((ka 0), 256, .inr (.inl numU))), (uk, .inl ((ka 2), 256, .inl kpU)), (uo, .inl ((ka 1), 256, .inl odU)), (pa, .inl ((ka 0), 256, .inr (.inl P)))]) := hD
    refine lv_goto (tgt := 302) hx hb d_Wk_perform_114 (by decide) ?_
    have hP9 := hP.sub (ws' := [(w, .inr (3, [.ref r, .ref s, .ref u, .ref t, .int tn, .int (nI (i + 1)), .int (nI (d + 1)), .int (nI (L + 1)), .int (nI 0)])), (r, .inl ((ka 0), 8, .inr (.inl (vp_updL rg a ((dm psU numU (sp_pl (rg (sp_rg (ss i))))).getD (wk_ld (dm psS numS) P (sp_pl (rg (sp_rg (ss i)))))))))), (s, .inr (0, [.ref sn, .ref sk, .ref so, .int (nI psS'.length)])), (sn, .inl ((ka 0), 256, .inr (.inl numS'))), (sk, .inl ((ka 2), 256, .inl kpS')), (so, .inl ((ka 1), 256, .inl odS')), (u, .inr (0, [.ref un, .ref uk, .ref uo, .int (nI psU.length)])), (un, .inl ((ka 0), 256, .inr (.inl numU))), (uk, .inl ((ka 2), 256, .inl kpU)), (uo, .inl ((ka 1), 256, .inl odU)), (t, .inr (1, [.ref ta, .ref tb, .ref tc, .int (nI pg.length), .int kn, .int toc, .int tdn, .int tld, .int tsr, .long trs])), (ta, .inl ((ka 1), 32, .inl ops)), (tb, .inl ((ka 1), 32, .inl fs)), (tc, .inl ((ka 0), 32, .inr (.inl ss))), (pa, .inl ((ka 0), 256, .inr (.inl P)))]) [4, 5, 6, 7, 8, 9, 10, 11, 12, 13, 0, 1, 2, 3, 14] rfl
    have hD9 := hD.sub (ws' := [(w, .inr (3, [.ref r, .ref s, .ref u, .ref t, .int tn, .int (nI (i + 1)), .int (nI (d + 1)), .int (nI (L + 1)), .int (nI 0)])), (r, .inl ((ka 0), 8, .inr (.inl (vp_updL rg a ((dm psU numU (sp_pl (rg (sp_rg (ss i))))).getD (wk_ld (dm psS numS) P (sp_pl (rg (sp_rg (ss i)))))))))), (s, .inr (0, [.ref sn, .ref sk, .ref so, .int (nI psS'.length)])), (sn, .inl ((ka 0), 256, .inr (.inl numS'))), (sk, .inl ((ka 2), 256, .inl kpS')), (so, .inl ((ka 1), 256, .inl odS')), (u, .inr (0, [.ref un, .ref uk, .ref uo, .int (nI psU.length)])), (un, .inl ((ka 0), 256, .inr (.inl numU))), (uk, .inl ((ka 2), 256, .inl kpU)), (uo, .inl ((ka 1), 256, .inl odU)), (t, .inr (1, [.ref ta, .ref tb, .ref tc, .int (nI pg.length), .int kn, .int toc, .int tdn, .int tld, .int tsr, .long trs])), (ta, .inl ((ka 1), 32, .inl ops)), (tb, .inl ((ka 1), 32, .inl fs)), (tc, .inl ((ka 0), 32, .inr (.inl ss))), (pa, .inl ((ka 0), 256, .inr (.inl P)))]) [4, 5, 6, 7, 8, 9, 10, 11, 12, 13, 0, 1, 2, 3, 14] (by decide) rfl
    exact W.vret hx hb hr (fun t9 ht hW => ⟨⟨(), rfl, trivial, (vp_updL rg a ((dm psU numU (sp_pl (rg (sp_rg (ss i))))).getD (wk_ld (dm psS numS) P (sp_pl (rg (sp_rg (ss i))))))), psS', numS', kpS', odS', psU, numU, kpU, odU, (nI (i + 1)), (sp_nx pg.length (i + 1)), (L + 1), 0, ⟨hrel_110.1, hU0, nxR_nx hi, by omega, by rw [hin]; rfl, by rw [hin]; exact hrel_110.2.trans (snE_2 _ _ _ _ _).symm⟩, by rw [ht]; exact hP9, hD9⟩, hS.F ht⟩) hS.2.2 d_Wk_perform_302
  · skip
    refine lv_tableIn (off := 91) (tgt := 117) hx hb d_Wk_perform_26 (by decide) (by decide) (by decide) (by decide) ?_
    refine lv_aload_n hx hb d_Wk_perform_117 rfl (lv_at hl 3 rfl) ?_
    refine va_get (D := D) (ci := 3) (v := .ref u) (C := "VersionedBlock$Worker") (T := T_Wk) (N := 9) hx hb hts (fun w h => List.mem_cons_of_mem _ (il_Wk w h)) hown hK hP 0 rfl rfl 2 (by decide) (hts _ (List.mem_cons_of_mem _ mw_1_228)) (fun _ h9 => h9) rfl d_Wk_perform_118 ?_
    refine lv_aload_n hx hb d_Wk_perform_121 rfl (lv_at hl 3 rfl) ?_
    refine va_get (D := D) (ci := 3) (v := .ref r) (C := "VersionedBlock$Worker") (T := T_Wk) (N := 9) hx hb hts (fun w h => List.mem_cons_of_mem _ (il_Wk w h)) hown hK hP 0 rfl rfl 0 (by decide) (hts _ (List.mem_cons_of_mem _ mw_1_226)) (fun _ h9 => h9) rfl d_Wk_perform_122 ?_
    refine lv_iload hx hb d_Wk_perform_125 (lv_at hl 0 rfl) ?_
    refine my_lald hx hb hK hP 1 0 rfl rfl (k := (sp_rg (ss i))) (sp_rg_lt _) (Nat.le_of_ble_eq_true rfl) d_Wk_perform_127 ?_
    refine vp_callSi (run_of (va_runSN (As := [.long (rg (sp_rg (ss i)))]) (rest := [.ref u]) ⟨hx, hb, hml, hown, hts⟩ (c_placeOf l (rg (sp_rg (ss i))) ) ⟨va_cnB (host := "VersionedBlock") 1 hts (gd_tb mw_2_62) rfl rfl rfl (kN_6 hN) (hts _ (List.mem_cons_of_mem _ mw_1_1)) (by decide +kernel) ⟨Nat.le_of_ble_eq_true rfl, Nat.le_of_ble_eq_true rfl⟩, (hts _ (List.mem_cons_of_mem _ mw_2_61)), trivial⟩ ⟨pE_blind, pE_pre hN⟩ rfl rfl hl.1 rfl (lv_room (Nat.le_of_ble_eq_true rfl)) d_Wk_perform_128 ⟨Nat.le_of_ble_eq_true rfl, Nat.le_of_ble_eq_true rfl⟩)) (fun r_128 hr_128 => ?_)
    obtain rfl : r_128 = (nI (sp_pl (rg (sp_rg (ss i))))) := hr_128
    refine lv_aload_n hx hb d_Wk_perform_131 rfl (lv_at hl 3 rfl) ?_
    refine va_get (D := D) (ci := 3) (v := .ref r) (C := "VersionedBlock$Worker") (T := T_Wk) (N := 9) hx hb hts (fun w h => List.mem_cons_of_mem _ (il_Wk w h)) hown hK hP 0 rfl rfl 0 (by decide) (hts _ (List.mem_cons_of_mem _ mw_1_226)) (fun _ h9 => h9) rfl d_Wk_perform_132 ?_
    refine lv_iload hx hb d_Wk_perform_135 (lv_at hl 2 rfl) ?_
    refine my_lald hx hb hK hP 1 0 rfl rfl (k := a) ha8 (Nat.le_of_ble_eq_true rfl) d_Wk_perform_137 ?_
    have hPc := hP.sub (ws' := [(u, .inr (0, [.ref un, .ref uk, .ref uo, .int (nI psU.length)])), (un, .inl ((ka 0), 256, .inr (.inl numU))), (uk, .inl ((ka 2), 256, .inl kpU)), (uo, .inl ((ka 1), 256, .inl odU))]) [6, 7, 8, 9] rfl
    have hDc := hD.sub (ws' := [(u, .inr (0, [.ref un, .ref uk, .ref uo, .int (nI psU.length)])), (un, .inl ((ka 0), 256, .inr (.inl numU))), (uk, .inl ((ka 2), 256, .inl kpU)), (uo, .inl ((ka 1), 256, .inl odU))]) [6, 7, 8, 9] (by decide) rfl
    have hFc := va_free (wc := [(u, .inr (0, [.ref un, .ref uk, .ref uo, .int (nI psU.length)])), (un, .inl ((ka 0), 256, .inr (.inl numU))), (uk, .inl ((ka 2), 256, .inl kpU)), (uo, .inl ((ka 1), 256, .inl odU))]) hD hS hA [6, 7, 8, 9] rfl
    refine va_callv (va_runV (As := [.int (nI (sp_pl (rg (sp_rg (ss i))))), .long (rg a)]) (rest := []) ⟨hx, hb, hml, hown, hts⟩ (c_Draft_keep l D ka sS.heap.size u un uk uo psU numU kpU odU (sp_pl (rg (sp_rg (ss i)))) (rg a) hU0 (sp_pl_lt _)) ⟨callB_of 2 hts (gd_tb mw_2_79) rfl rfl rfl (hts _ (List.mem_cons_of_mem _ mw_1_9)) (hts _ (List.mem_cons_of_mem _ mw_2_76)) (by decide +kernel) ⟨Nat.le_of_ble_eq_true rfl, Nat.le_of_ble_eq_true rfl⟩, (hts _ (List.mem_cons_of_mem _ mw_2_77)), (hts _ (List.mem_cons_of_mem _ mw_2_78))⟩ ⟨pW_blind, va_recv hK hPc (ci := 0) (q0 := 0) rfl rfl, pW_pre hK hN hPc hDc⟩ rfl rfl hl.1 rfl (lv_room (Nat.le_of_ble_eq_true rfl)) d_Wk_perform_138 ⟨Nat.le_of_ble_eq_true rfl, Nat.le_of_ble_eq_true rfl⟩) hS (fun q _ h => hFc q h) hFc (fun u9 t9 H1 locs ht hvm hr_138 hB hz1 hk1 hS => ?_)
    obtain ⟨kpU', odU', hrel_138, hP1, hD1⟩ := hB
    rw [ht] at hP1
    obtain ⟨hP, hD⟩ := va_join (wr := [(w, .inr (3, [.ref r, .ref s, .ref u, .ref t, .int tn, .int (nI (i + 1)), .int (nI (d + 1)), .int (nI L), .int (nI 0)])), (r, .inl ((ka 0), 8, .inr (.inl rg))), (s, .inr (0, [.ref sn, .ref sk, .ref so, .int (nI psS.length)])), (sn, .inl ((ka 0), 256, .inr (.inl numS))), (sk, .inl ((ka 2), 256, .inl kpS)), (so, .inl ((ka 1), 256, .inl odS)), (t, .inr (1, [.ref ta, .ref tb, .ref tc, .int (nI pg.length), .int kn, .int toc, .int tdn, .int tld, .int tsr, .long trs])), (ta, .inl ((ka 1), 32, .inl ops)), (tb, .inl ((ka 1), 32, .inl fs)), (tc, .inl ((ka 0), 32, .inr (.inl ss))), (pa, .inl ((ka 0), 256, .inr (.inl P)))]) (w1 := [(u, .inr (0, [.ref un, .ref uk, .ref uo, .int (nI (dkp psU (sp_pl (rg (sp_rg (ss i))))).length)])), (un, .inl ((ka 0), 256, .inr (.inl (vp_updL numU (sp_pl (rg (sp_rg (ss i)))) (rg a))))), (uk, .inl ((ka 2), 256, .inl kpU')), (uo, .inl ((ka 1), 256, .inl odU'))]) hP hD [6, 7, 8, 9] [0, 1, 2, 3, 4, 5, 10, 11, 12, 13, 14] rfl rfl (by decide) (by decide) hk1 hFc hP1 hD1
    generalize H1 = H at hP hS ⊢
    have hP : va_P D classes ([(w, .inr (3, [.ref r, .ref s, .ref u, .ref t, .int tn, .int (nI (i + 1)), .int (nI (d + 1)), .int (nI L), .int (nI 0)])), (r, .inl ((ka 0), 8, .inr (.inl rg))), (s, .inr (0, [.ref sn, .ref sk, .ref so, .int (nI psS.length)])), (sn, .inl ((ka 0), 256, .inr (.inl numS))), (sk, .inl ((ka 2), 256, .inl kpS)), (so, .inl ((ka 1), 256, .inl odS)), (t, .inr (1, [.ref ta, .ref tb, .ref tc, .int (nI pg.length), .int kn, .int toc, .int tdn, .int tld, .int tsr, .long trs])), (ta, .inl ((ka 1), 32, .inl ops)), (tb, .inl ((ka 1), 32, .inl fs)), (tc, .inl ((ka 0), 32, .inr (.inl ss))), (pa, .inl ((ka 0), 256, .inr (.inl P))), (u, .inr (0, [.ref un, .ref uk, .ref uo, .int (nI (dkp psU (sp_pl (rg (sp_rg (ss i))))).length)])), (un, .inl ((ka 0), 256, .inr (.inl (vp_updL numU (sp_pl (rg (sp_rg (ss i)))) (rg a))))), (uk, .inl ((ka 2), 256, .inl kpU')), (uo, .inl ((ka 1), 256, .inl odU'))]) H := hP
    have hD : va_D A ([(w, .inr (3, [.ref r, .ref s, .ref u, .ref t, .int tn, .int (nI (i + 1)), .int (nI (d + 1)), .int (nI L), .int (nI 0)])), (r, .inl ((ka 0), 8, .inr (.inl rg))), (s, .inr (0, [.ref sn, .ref sk, .ref so, .int (nI psS.length)])), (sn, .inl ((ka 0), 256, .inr (.inl numS))), (sk, .inl ((ka 2), 256, .inl kpS)), (so, .inl ((ka 1), 256, .inl odS)), (t, .inr (1, [.ref ta, .ref tb, .ref tc, .int (nI pg.length), .int kn, .int toc, .int tdn, .int tld, .int tsr, .long trs])), (ta, .inl ((ka 1), 32, .inl ops)), (tb, .inl ((ka 1), 32, .inl fs)), (tc, .inl ((ka 0), 32, .inr (.inl ss))), (pa, .inl ((ka 0), 256, .inr (.inl P))), (u, .inr (0, [.ref un, .ref uk, .ref uo, .int (nI (dkp psU (sp_pl (rg (sp_rg (ss i))))).length)])), (un, .inl ((ka 0), 256, .inr (.inl (vp_updL numU (sp_pl (rg (sp_rg (ss i)))) (rg a))))), (uk, .inl ((ka 2), 256, .inl kpU')), (uo, .inl ((ka 1), 256, .inl odU'))]) := hD
    refine lv_goto (tgt := 302) hx hb d_Wk_perform_141 (by decide) ?_
    have hP9 := hP.sub (ws' := [(w, .inr (3, [.ref r, .ref s, .ref u, .ref t, .int tn, .int (nI (i + 1)), .int (nI (d + 1)), .int (nI L), .int (nI 0)])), (r, .inl ((ka 0), 8, .inr (.inl rg))), (s, .inr (0, [.ref sn, .ref sk, .ref so, .int (nI psS.length)])), (sn, .inl ((ka 0), 256, .inr (.inl numS))), (sk, .inl ((ka 2), 256, .inl kpS)), (so, .inl ((ka 1), 256, .inl odS)), (u, .inr (0, [.ref un, .ref uk, .ref uo, .int (nI (dkp psU (sp_pl (rg (sp_rg (ss i))))).length)])), (un, .inl ((ka 0), 256, .inr (.inl (vp_updL numU (sp_pl (rg (sp_rg (ss i)))) (rg a))))), (uk, .inl ((ka 2), 256, .inl kpU')), (uo, .inl ((ka 1), 256, .inl odU')), (t, .inr (1, [.ref ta, .ref tb, .ref tc, .int (nI pg.length), .int kn, .int toc, .int tdn, .int tld, .int tsr, .long trs])), (ta, .inl ((ka 1), 32, .inl ops)), (tb, .inl ((ka 1), 32, .inl fs)), (tc, .inl ((ka 0), 32, .inr (.inl ss))), (pa, .inl ((ka 0), 256, .inr (.inl P)))]) [0, 1, 2, 3, 4, 5, 11, 12, 13, 14, 6, 7, 8, 9, 10] rfl
    have hD9 := hD.sub (ws' := [(w, .inr (3, [.ref r, .ref s, .ref u, .ref t, .int tn, .int (nI (i + 1)), .int (nI (d + 1)), .int (nI L), .int (nI 0)])), (r, .inl ((ka 0), 8, .inr (.inl rg))), (s, .inr (0, [.ref sn, .ref sk, .ref so, .int (nI psS.length)])), (sn, .inl ((ka 0), 256, .inr (.inl numS))), (sk, .inl ((ka 2), 256, .inl kpS)), (so, .inl ((ka 1), 256, .inl odS)), (u, .inr (0, [.ref un, .ref uk, .ref uo, .int (nI (dkp psU (sp_pl (rg (sp_rg (ss i))))).length)])), (un, .inl ((ka 0), 256, .inr (.inl (vp_updL numU (sp_pl (rg (sp_rg (ss i)))) (rg a))))), (uk, .inl ((ka 2), 256, .inl kpU')), (uo, .inl ((ka 1), 256, .inl odU')), (t, .inr (1, [.ref ta, .ref tb, .ref tc, .int (nI pg.length), .int kn, .int toc, .int tdn, .int tld, .int tsr, .long trs])), (ta, .inl ((ka 1), 32, .inl ops)), (tb, .inl ((ka 1), 32, .inl fs)), (tc, .inl ((ka 0), 32, .inr (.inl ss))), (pa, .inl ((ka 0), 256, .inr (.inl P)))]) [0, 1, 2, 3, 4, 5, 11, 12, 13, 14, 6, 7, 8, 9, 10] (by decide) rfl
    exact W.vret hx hb hr (fun t9 ht hW => ⟨⟨(), rfl, trivial, rg, psS, numS, kpS, odS, (dkp psU (sp_pl (rg (sp_rg (ss i))))), (vp_updL numU (sp_pl (rg (sp_rg (ss i)))) (rg a)), kpU', odU', (nI (i + 1)), (sp_nx pg.length (i + 1)), L, 0, ⟨hS0, hrel_138, nxR_nx hi, by omega, by rw [hin, dm_kp, dkp_len psU numU]; rfl, by rw [hin]; rfl⟩, by rw [ht]; exact hP9, hD9⟩, hS.F ht⟩) hS.2.2 d_Wk_perform_302
  · skip
    refine lv_tableIn (off := 118) (tgt := 144) hx hb d_Wk_perform_26 (by decide) (by decide) (by decide) (by decide) ?_
    refine lv_aload_n hx hb d_Wk_perform_144 rfl (lv_at hl 3 rfl) ?_
    refine va_get (D := D) (ci := 3) (v := .ref r) (C := "VersionedBlock$Worker") (T := T_Wk) (N := 9) hx hb hts (fun w h => List.mem_cons_of_mem _ (il_Wk w h)) hown hK hP 0 rfl rfl 0 (by decide) (hts _ (List.mem_cons_of_mem _ mw_1_226)) (fun _ h9 => h9) rfl d_Wk_perform_145 ?_
    refine lv_iload hx hb d_Wk_perform_148 (lv_at hl 2 rfl) ?_
    refine lv_dup2_11 hx hb d_Wk_perform_150 rfl rfl ?_
    refine my_lald hx hb hK hP 1 0 rfl rfl (k := a) ha8 (Nat.le_of_ble_eq_true rfl) d_Wk_perform_151 ?_
    refine lv_aload_n hx hb d_Wk_perform_152 rfl (lv_at hl 3 rfl) ?_
    refine va_get (D := D) (ci := 3) (v := .ref r) (C := "VersionedBlock$Worker") (T := T_Wk) (N := 9) hx hb hts (fun w h => List.mem_cons_of_mem _ (il_Wk w h)) hown hK hP 0 rfl rfl 0 (by decide) (hts _ (List.mem_cons_of_mem _ mw_1_226)) (fun _ h9 => h9) rfl d_Wk_perform_153 ?_
    refine lv_iload hx hb d_Wk_perform_156 (lv_at hl 0 rfl) ?_
    refine my_lald hx hb hK hP 1 0 rfl rfl (k := (sp_rg (ss i))) (sp_rg_lt _) (Nat.le_of_ble_eq_true rfl) d_Wk_perform_158 ?_
    refine lv_ladd hx hb d_Wk_perform_159 ?_
    refine my_last hx hb hK hP hD hS 1 0 rfl rfl (k := a) ha8 (Nat.le_of_ble_eq_true rfl) d_Wk_perform_160 (fun H locs hP hD hS => ?_)
    have hP : va_P D classes ([(w, .inr (3, [.ref r, .ref s, .ref u, .ref t, .int tn, .int (nI (i + 1)), .int (nI (d + 1)), .int (nI L), .int (nI 0)])), (r, .inl ((ka 0), 8, .inr (.inl (vp_updL rg a ((rg a) + (rg (sp_rg (ss i)))))))), (s, .inr (0, [.ref sn, .ref sk, .ref so, .int (nI psS.length)])), (sn, .inl ((ka 0), 256, .inr (.inl numS))), (sk, .inl ((ka 2), 256, .inl kpS)), (so, .inl ((ka 1), 256, .inl odS)), (u, .inr (0, [.ref un, .ref uk, .ref uo, .int (nI psU.length)])), (un, .inl ((ka 0), 256, .inr (.inl numU))), (uk, .inl ((ka 2), 256, .inl kpU)), (uo, .inl ((ka 1), 256, .inl odU)), (t, .inr (1, [.ref ta, .ref tb, .ref tc, .int (nI pg.length), .int kn, .int toc, .int tdn, .int tld, .int tsr, .long trs])), (ta, .inl ((ka 1), 32, .inl ops)), (tb, .inl ((ka 1), 32, .inl fs)), (tc, .inl ((ka 0), 32, .inr (.inl ss))), (pa, .inl ((ka 0), 256, .inr (.inl P)))]) H := hP
    have hD : va_D A ([(w, .inr (3, [.ref r, .ref s, .ref u, .ref t, .int tn, .int (nI (i + 1)), .int (nI (d + 1)), .int (nI L), .int (nI 0)])), (r, .inl ((ka 0), 8, .inr (.inl (vp_updL rg a ((rg a) + (rg (sp_rg (ss i)))))))), (s, .inr (0, [.ref sn, .ref sk, .ref so, .int (nI psS.length)])), (sn, .inl ((ka 0), 256, .inr (.inl numS))), (sk, .inl ((ka 2), 256, .inl kpS)), (so, .inl ((ka 1), 256, .inl odS)), (u, .inr (0, [.ref un, .ref uk, .ref uo, .int (nI psU.length)])), (un, .inl ((ka 0), 256, .inr (.inl numU))), (uk, .inl ((ka 2), 256, .inl kpU)), (uo, .inl ((ka 1), 256, .inl odU)), (t, .inr (1, [.ref ta, .ref tb, .ref tc, .int (nI pg.length), .int kn, .int toc, .int tdn, .int tld, .int tsr, .long trs])), (ta, .inl ((ka 1), 32, .inl ops)), (tb, .inl ((ka 1), 32, .inl fs)), (tc, .inl ((ka 0), 32, .inr (.inl ss))), (pa, .inl ((ka 0), 256, .inr (.inl P)))]) := hD
    refine lv_goto (tgt := 302) hx hb d_Wk_perform_161 (by decide) ?_
    have hP9 := hP.sub (ws' := [(w, .inr (3, [.ref r, .ref s, .ref u, .ref t, .int tn, .int (nI (i + 1)), .int (nI (d + 1)), .int (nI L), .int (nI 0)])), (r, .inl ((ka 0), 8, .inr (.inl (vp_updL rg a (rg a + rg (sp_rg (ss i))))))), (s, .inr (0, [.ref sn, .ref sk, .ref so, .int (nI psS.length)])), (sn, .inl ((ka 0), 256, .inr (.inl numS))), (sk, .inl ((ka 2), 256, .inl kpS)), (so, .inl ((ka 1), 256, .inl odS)), (u, .inr (0, [.ref un, .ref uk, .ref uo, .int (nI psU.length)])), (un, .inl ((ka 0), 256, .inr (.inl numU))), (uk, .inl ((ka 2), 256, .inl kpU)), (uo, .inl ((ka 1), 256, .inl odU)), (t, .inr (1, [.ref ta, .ref tb, .ref tc, .int (nI pg.length), .int kn, .int toc, .int tdn, .int tld, .int tsr, .long trs])), (ta, .inl ((ka 1), 32, .inl ops)), (tb, .inl ((ka 1), 32, .inl fs)), (tc, .inl ((ka 0), 32, .inr (.inl ss))), (pa, .inl ((ka 0), 256, .inr (.inl P)))]) [0, 1, 2, 3, 4, 5, 6, 7, 8, 9, 10, 11, 12, 13, 14] rfl
    have hD9 := hD.sub (ws' := [(w, .inr (3, [.ref r, .ref s, .ref u, .ref t, .int tn, .int (nI (i + 1)), .int (nI (d + 1)), .int (nI L), .int (nI 0)])), (r, .inl ((ka 0), 8, .inr (.inl (vp_updL rg a (rg a + rg (sp_rg (ss i))))))), (s, .inr (0, [.ref sn, .ref sk, .ref so, .int (nI psS.length)])), (sn, .inl ((ka 0), 256, .inr (.inl numS))), (sk, .inl ((ka 2), 256, .inl kpS)), (so, .inl ((ka 1), 256, .inl odS)), (u, .inr (0, [.ref un, .ref uk, .ref uo, .int (nI psU.length)])), (un, .inl ((ka 0), 256, .inr (.inl numU))), (uk, .inl ((ka 2), 256, .inl kpU)), (uo, .inl ((ka 1), 256, .inl odU)), (t, .inr (1, [.ref ta, .ref tb, .ref tc, .int (nI pg.length), .int kn, .int toc, .int tdn, .int tld, .int tsr, .long trs])), (ta, .inl ((ka 1), 32, .inl ops)), (tb, .inl ((ka 1), 32, .inl fs)), (tc, .inl ((ka 0), 32, .inr (.inl ss))), (pa, .inl ((ka 0), 256, .inr (.inl P)))]) [0, 1, 2, 3, 4, 5, 6, 7, 8, 9, 10, 11, 12, 13, 14] (by decide) rfl
    exact W.vret hx hb hr (fun t9 ht hW => ⟨⟨(), rfl, trivial, (vp_updL rg a (rg a + rg (sp_rg (ss i)))), psS, numS, kpS, odS, psU, numU, kpU, odU, (nI (i + 1)), (sp_nx pg.length (i + 1)), L, 0, ⟨hS0, hU0, nxR_nx hi, by omega, by rw [hin]; rfl, by rw [hin]; rfl⟩, by rw [ht]; exact hP9, hD9⟩, hS.F ht⟩) hS.2.2 d_Wk_perform_302
  · skip
    refine lv_tableIn (off := 138) (tgt := 164) hx hb d_Wk_perform_26 (by decide) (by decide) (by decide) (by decide) ?_
    refine lv_aload_n hx hb d_Wk_perform_164 rfl (lv_at hl 3 rfl) ?_
    refine va_get (D := D) (ci := 3) (v := .ref r) (C := "VersionedBlock$Worker") (T := T_Wk) (N := 9) hx hb hts (fun w h => List.mem_cons_of_mem _ (il_Wk w h)) hown hK hP 0 rfl rfl 0 (by decide) (hts _ (List.mem_cons_of_mem _ mw_1_226)) (fun _ h9 => h9) rfl d_Wk_perform_165 ?_
    refine lv_iload hx hb d_Wk_perform_168 (lv_at hl 2 rfl) ?_
    refine lv_dup2_11 hx hb d_Wk_perform_170 rfl rfl ?_
    refine my_lald hx hb hK hP 1 0 rfl rfl (k := a) ha8 (Nat.le_of_ble_eq_true rfl) d_Wk_perform_171 ?_
    refine lv_aload_n hx hb d_Wk_perform_172 rfl (lv_at hl 3 rfl) ?_
    refine va_get (D := D) (ci := 3) (v := .ref r) (C := "VersionedBlock$Worker") (T := T_Wk) (N := 9) hx hb hts (fun w h => List.mem_cons_of_mem _ (il_Wk w h)) hown hK hP 0 rfl rfl 0 (by decide) (hts _ (List.mem_cons_of_mem _ mw_1_226)) (fun _ h9 => h9) rfl d_Wk_perform_173 ?_
    refine lv_iload hx hb d_Wk_perform_176 (lv_at hl 0 rfl) ?_
    refine my_lald hx hb hK hP 1 0 rfl rfl (k := (sp_rg (ss i))) (sp_rg_lt _) (Nat.le_of_ble_eq_true rfl) d_Wk_perform_178 ?_
    refine lv_lsub hx hb d_Wk_perform_179 ?_
    refine my_last hx hb hK hP hD hS 1 0 rfl rfl (k := a) ha8 (Nat.le_of_ble_eq_true rfl) d_Wk_perform_180 (fun H locs hP hD hS => ?_)
    have hP : va_P D classes ([(w, .inr (3, [.ref r, .ref s, .ref u, .ref t, .int tn, .int (nI (i + 1)), .int (nI (d + 1)), .int (nI L), .int (nI 0)])), (r, .inl ((ka 0), 8, .inr (.inl (vp_updL rg a ((rg a) - (rg (sp_rg (ss i)))))))), (s, .inr (0, [.ref sn, .ref sk, .ref so, .int (nI psS.length)])), (sn, .inl ((ka 0), 256, .inr (.inl numS))), (sk, .inl ((ka 2), 256, .inl kpS)), (so, .inl ((ka 1), 256, .inl odS)), (u, .inr (0, [.ref un, .ref uk, .ref uo, .int (nI psU.length)])), (un, .inl ((ka 0), 256, .inr (.inl numU))), (uk, .inl ((ka 2), 256, .inl kpU)), (uo, .inl ((ka 1), 256, .inl odU)), (t, .inr (1, [.ref ta, .ref tb, .ref tc, .int (nI pg.length), .int kn, .int toc, .int tdn, .int tld, .int tsr, .long trs])), (ta, .inl ((ka 1), 32, .inl ops)), (tb, .inl ((ka 1), 32, .inl fs)), (tc, .inl ((ka 0), 32, .inr (.inl ss))), (pa, .inl ((ka 0), 256, .inr (.inl P)))]) H := hP
    have hD : va_D A ([(w, .inr (3, [.ref r, .ref s, .ref u, .ref t, .int tn, .int (nI (i + 1)), .int (nI (d + 1)), .int (nI L), .int (nI 0)])), (r, .inl ((ka 0), 8, .inr (.inl (vp_updL rg a ((rg a) - (rg (sp_rg (ss i)))))))), (s, .inr (0, [.ref sn, .ref sk, .ref so, .int (nI psS.length)])), (sn, .inl ((ka 0), 256, .inr (.inl numS))), (sk, .inl ((ka 2), 256, .inl kpS)), (so, .inl ((ka 1), 256, .inl odS)), (u, .inr (0, [.ref un, .ref uk, .ref uo, .int (nI psU.length)])), (un, .inl ((ka 0), 256, .inr (.inl numU))), (uk, .inl ((ka 2), 256, .inl kpU)), (uo, .inl ((ka 1), 256, .inl odU)), (t, .inr (1, [.ref ta, .ref tb, .ref tc, .int (nI pg.length), .int kn, .int toc, .int tdn, .int tld, .int tsr, .long trs])), (ta, .inl ((ka 1), 32, .inl ops)), (tb, .inl ((ka 1), 32, .inl fs)), (tc, .inl ((ka 0), 32, .inr (.inl ss))), (pa, .inl ((ka 0), 256, .inr (.inl P)))]) := hD
    refine lv_goto (tgt := 302) hx hb d_Wk_perform_181 (by decide) ?_
    have hP9 := hP.sub (ws' := [(w, .inr (3, [.ref r, .ref s, .ref u, .ref t, .int tn, .int (nI (i + 1)), .int (nI (d + 1)), .int (nI L), .int (nI 0)])), (r, .inl ((ka 0), 8, .inr (.inl (vp_updL rg a (rg a - rg (sp_rg (ss i))))))), (s, .inr (0, [.ref sn, .ref sk, .ref so, .int (nI psS.length)])), (sn, .inl ((ka 0), 256, .inr (.inl numS))), (sk, .inl ((ka 2), 256, .inl kpS)), (so, .inl ((ka 1), 256, .inl odS)), (u, .inr (0, [.ref un, .ref uk, .ref uo, .int (nI psU.length)])), (un, .inl ((ka 0), 256, .inr (.inl numU))), (uk, .inl ((ka 2), 256, .inl kpU)), (uo, .inl ((ka 1), 256, .inl odU)), (t, .inr (1, [.ref ta, .ref tb, .ref tc, .int (nI pg.length), .int kn, .int toc, .int tdn, .int tld, .int tsr, .long trs])), (ta, .inl ((ka 1), 32, .inl ops)), (tb, .inl ((ka 1), 32, .inl fs)), (tc, .inl ((ka 0), 32, .inr (.inl ss))), (pa, .inl ((ka 0), 256, .inr (.inl P)))]) [0, 1, 2, 3, 4, 5, 6, 7, 8, 9, 10, 11, 12, 13, 14] rfl
    have hD9 := hD.sub (ws' := [(w, .inr (3, [.ref r, .ref s, .ref u, .ref t, .int tn, .int (nI (i + 1)), .int (nI (d + 1)), .int (nI L), .int (nI 0)])), (r, .inl ((ka 0), 8, .inr (.inl (vp_updL rg a (rg a - rg (sp_rg (ss i))))))), (s, .inr (0, [.ref sn, .ref sk, .ref so, .int (nI psS.length)])), (sn, .inl ((ka 0), 256, .inr (.inl numS))), (sk, .inl ((ka 2), 256, .inl kpS)), (so, .inl ((ka 1), 256, .inl odS)), (u, .inr (0, [.ref un, .ref uk, .ref uo, .int (nI psU.length)])), (un, .inl ((ka 0), 256, .inr (.inl numU))), (uk, .inl ((ka 2), 256, .inl kpU)), (uo, .inl ((ka 1), 256, .inl odU)), (t, .inr (1, [.ref ta, .ref tb, .ref tc, .int (nI pg.length), .int kn, .int toc, .int tdn, .int tld, .int tsr, .long trs])), (ta, .inl ((ka 1), 32, .inl ops)), (tb, .inl ((ka 1), 32, .inl fs)), (tc, .inl ((ka 0), 32, .inr (.inl ss))), (pa, .inl ((ka 0), 256, .inr (.inl P)))]) [0, 1, 2, 3, 4, 5, 6, 7, 8, 9, 10, 11, 12, 13, 14] (by decide) rfl
    exact W.vret hx hb hr (fun t9 ht hW => ⟨⟨(), rfl, trivial, (vp_updL rg a (rg a - rg (sp_rg (ss i)))), psS, numS, kpS, odS, psU, numU, kpU, odU, (nI (i + 1)), (sp_nx pg.length (i + 1)), L, 0, ⟨hS0, hU0, nxR_nx hi, by omega, by rw [hin]; rfl, by rw [hin]; rfl⟩, by rw [ht]; exact hP9, hD9⟩, hS.F ht⟩) hS.2.2 d_Wk_perform_302
  · skip
    refine lv_tableIn (off := 158) (tgt := 184) hx hb d_Wk_perform_26 (by decide) (by decide) (by decide) (by decide) ?_
    refine lv_aload_n hx hb d_Wk_perform_184 rfl (lv_at hl 3 rfl) ?_
    refine va_get (D := D) (ci := 3) (v := .ref r) (C := "VersionedBlock$Worker") (T := T_Wk) (N := 9) hx hb hts (fun w h => List.mem_cons_of_mem _ (il_Wk w h)) hown hK hP 0 rfl rfl 0 (by decide) (hts _ (List.mem_cons_of_mem _ mw_1_226)) (fun _ h9 => h9) rfl d_Wk_perform_185 ?_
    refine lv_iload hx hb d_Wk_perform_188 (lv_at hl 2 rfl) ?_
    refine lv_dup2_11 hx hb d_Wk_perform_190 rfl rfl ?_
    refine my_lald hx hb hK hP 1 0 rfl rfl (k := a) ha8 (Nat.le_of_ble_eq_true rfl) d_Wk_perform_191 ?_
    refine lv_aload_n hx hb d_Wk_perform_192 rfl (lv_at hl 3 rfl) ?_
    refine va_get (D := D) (ci := 3) (v := .ref r) (C := "VersionedBlock$Worker") (T := T_Wk) (N := 9) hx hb hts (fun w h => List.mem_cons_of_mem _ (il_Wk w h)) hown hK hP 0 rfl rfl 0 (by decide) (hts _ (List.mem_cons_of_mem _ mw_1_226)) (fun _ h9 => h9) rfl d_Wk_perform_193 ?_
    refine lv_iload hx hb d_Wk_perform_196 (lv_at hl 0 rfl) ?_
    refine my_lald hx hb hK hP 1 0 rfl rfl (k := (sp_rg (ss i))) (sp_rg_lt _) (Nat.le_of_ble_eq_true rfl) d_Wk_perform_198 ?_
    refine lv_lmul hx hb d_Wk_perform_199 ?_
    refine my_last hx hb hK hP hD hS 1 0 rfl rfl (k := a) ha8 (Nat.le_of_ble_eq_true rfl) d_Wk_perform_200 (fun H locs hP hD hS => ?_)
    have hP : va_P D classes ([(w, .inr (3, [.ref r, .ref s, .ref u, .ref t, .int tn, .int (nI (i + 1)), .int (nI (d + 1)), .int (nI L), .int (nI 0)])), (r, .inl ((ka 0), 8, .inr (.inl (vp_updL rg a ((rg a) * (rg (sp_rg (ss i)))))))), (s, .inr (0, [.ref sn, .ref sk, .ref so, .int (nI psS.length)])), (sn, .inl ((ka 0), 256, .inr (.inl numS))), (sk, .inl ((ka 2), 256, .inl kpS)), (so, .inl ((ka 1), 256, .inl odS)), (u, .inr (0, [.ref un, .ref uk, .ref uo, .int (nI psU.length)])), (un, .inl ((ka 0), 256, .inr (.inl numU))), (uk, .inl ((ka 2), 256, .inl kpU)), (uo, .inl ((ka 1), 256, .inl odU)), (t, .inr (1, [.ref ta, .ref tb, .ref tc, .int (nI pg.length), .int kn, .int toc, .int tdn, .int tld, .int tsr, .long trs])), (ta, .inl ((ka 1), 32, .inl ops)), (tb, .inl ((ka 1), 32, .inl fs)), (tc, .inl ((ka 0), 32, .inr (.inl ss))), (pa, .inl ((ka 0), 256, .inr (.inl P)))]) H := hP
    have hD : va_D A ([(w, .inr (3, [.ref r, .ref s, .ref u, .ref t, .int tn, .int (nI (i + 1)), .int (nI (d + 1)), .int (nI L), .int (nI 0)])), (r, .inl ((ka 0), 8, .inr (.inl (vp_updL rg a ((rg a) * (rg (sp_rg (ss i)))))))), (s, .inr (0, [.ref sn, .ref sk, .ref so, .int (nI psS.length)])), (sn, .inl ((ka 0), 256, .inr (.inl numS))), (sk, .inl ((ka 2), 256, .inl kpS)), (so, .inl ((ka 1), 256, .inl odS)), (u, .inr (0, [.ref un, .ref uk, .ref uo, .int (nI psU.length)])), (un, .inl ((ka 0), 256, .inr (.inl numU))), (uk, .inl ((ka 2), 256, .inl kpU)), (uo, .inl ((ka 1), 256, .inl odU)), (t, .inr (1, [.ref ta, .ref tb, .ref tc, .int (nI pg.length), .int kn, .int toc, .int tdn, .int tld, .int tsr, .long trs])), (ta, .inl ((ka 1), 32, .inl ops)), (tb, .inl ((ka 1), 32, .inl fs)), (tc, .inl ((ka 0), 32, .inr (.inl ss))), (pa, .inl ((ka 0), 256, .inr (.inl P)))]) := hD
    refine lv_goto (tgt := 302) hx hb d_Wk_perform_201 (by decide) ?_
    have hP9 := hP.sub (ws' := [(w, .inr (3, [.ref r, .ref s, .ref u, .ref t, .int tn, .int (nI (i + 1)), .int (nI (d + 1)), .int (nI L), .int (nI 0)])), (r, .inl ((ka 0), 8, .inr (.inl (vp_updL rg a (rg a * rg (sp_rg (ss i))))))), (s, .inr (0, [.ref sn, .ref sk, .ref so, .int (nI psS.length)])), (sn, .inl ((ka 0), 256, .inr (.inl numS))), (sk, .inl ((ka 2), 256, .inl kpS)), (so, .inl ((ka 1), 256, .inl odS)), (u, .inr (0, [.ref un, .ref uk, .ref uo, .int (nI psU.length)])), (un, .inl ((ka 0), 256, .inr (.inl numU))), (uk, .inl ((ka 2), 256, .inl kpU)), (uo, .inl ((ka 1), 256, .inl odU)), (t, .inr (1, [.ref ta, .ref tb, .ref tc, .int (nI pg.length), .int kn, .int toc, .int tdn, .int tld, .int tsr, .long trs])), (ta, .inl ((ka 1), 32, .inl ops)), (tb, .inl ((ka 1), 32, .inl fs)), (tc, .inl ((ka 0), 32, .inr (.inl ss))), (pa, .inl ((ka 0), 256, .inr (.inl P)))]) [0, 1, 2, 3, 4, 5, 6, 7, 8, 9, 10, 11, 12, 13, 14] rfl
    have hD9 := hD.sub (ws' := [(w, .inr (3, [.ref r, .ref s, .ref u, .ref t, .int tn, .int (nI (i + 1)), .int (nI (d + 1)), .int (nI L), .int (nI 0)])), (r, .inl ((ka 0), 8, .inr (.inl (vp_updL rg a (rg a * rg (sp_rg (ss i))))))), (s, .inr (0, [.ref sn, .ref sk, .ref so, .int (nI psS.length)])), (sn, .inl ((ka 0), 256, .inr (.inl numS))), (sk, .inl ((ka 2), 256, .inl kpS)), (so, .inl ((ka 1), 256, .inl odS)), (u, .inr (0, [.ref un, .ref uk, .ref uo, .int (nI psU.length)])), (un, .inl ((ka 0), 256, .inr (.inl numU))), (uk, .inl ((ka 2), 256, .inl kpU)), (uo, .inl ((ka 1), 256, .inl odU)), (t, .inr (1, [.ref ta, .ref tb, .ref tc, .int (nI pg.length), .int kn, .int toc, .int tdn, .int tld, .int tsr, .long trs])), (ta, .inl ((ka 1), 32, .inl ops)), (tb, .inl ((ka 1), 32, .inl fs)), (tc, .inl ((ka 0), 32, .inr (.inl ss))), (pa, .inl ((ka 0), 256, .inr (.inl P)))]) [0, 1, 2, 3, 4, 5, 6, 7, 8, 9, 10, 11, 12, 13, 14] (by decide) rfl
    exact W.vret hx hb hr (fun t9 ht hW => ⟨⟨(), rfl, trivial, (vp_updL rg a (rg a * rg (sp_rg (ss i)))), psS, numS, kpS, odS, psU, numU, kpU, odU, (nI (i + 1)), (sp_nx pg.length (i + 1)), L, 0, ⟨hS0, hU0, nxR_nx hi, by omega, by rw [hin]; rfl, by rw [hin]; rfl⟩, by rw [ht]; exact hP9, hD9⟩, hS.F ht⟩) hS.2.2 d_Wk_perform_302
  · skip
    refine lv_tableIn (off := 178) (tgt := 204) hx hb d_Wk_perform_26 (by decide) (by decide) (by decide) (by decide) ?_
    refine lv_aload_n hx hb d_Wk_perform_204 rfl (lv_at hl 3 rfl) ?_
    refine va_get (D := D) (ci := 3) (v := .ref r) (C := "VersionedBlock$Worker") (T := T_Wk) (N := 9) hx hb hts (fun w h => List.mem_cons_of_mem _ (il_Wk w h)) hown hK hP 0 rfl rfl 0 (by decide) (hts _ (List.mem_cons_of_mem _ mw_1_226)) (fun _ h9 => h9) rfl d_Wk_perform_205 ?_
    refine lv_iload hx hb d_Wk_perform_208 (lv_at hl 2 rfl) ?_
    refine my_lald hx hb hK hP 1 0 rfl rfl (k := a) ha8 (Nat.le_of_ble_eq_true rfl) d_Wk_perform_210 ?_
    refine lv_lconst (v := 0) hx hb d_Wk_perform_211 (by decide) ?_
    refine W.lcmp hx hb d_Wk_perform_212 ?_
    refine lv_if_eq (tgt := 302) hx hb d_Wk_perform_213 (by decide) (fun c_213 => ?_) (fun c_213 => ?_)
    · have hP9 := hP.sub (ws' := [(w, .inr (3, [.ref r, .ref s, .ref u, .ref t, .int tn, .int (nI (i + 1)), .int (nI (d + 1)), .int (nI L), .int (nI 0)])), (r, .inl ((ka 0), 8, .inr (.inl rg))), (s, .inr (0, [.ref sn, .ref sk, .ref so, .int (nI psS.length)])), (sn, .inl ((ka 0), 256, .inr (.inl numS))), (sk, .inl ((ka 2), 256, .inl kpS)), (so, .inl ((ka 1), 256, .inl odS)), (u, .inr (0, [.ref un, .ref uk, .ref uo, .int (nI psU.length)])), (un, .inl ((ka 0), 256, .inr (.inl numU))), (uk, .inl ((ka 2), 256, .inl kpU)), (uo, .inl ((ka 1), 256, .inl odU)), (t, .inr (1, [.ref ta, .ref tb, .ref tc, .int (nI pg.length), .int kn, .int toc, .int tdn, .int tld, .int tsr, .long trs])), (ta, .inl ((ka 1), 32, .inl ops)), (tb, .inl ((ka 1), 32, .inl fs)), (tc, .inl ((ka 0), 32, .inr (.inl ss))), (pa, .inl ((ka 0), 256, .inr (.inl P)))]) [0, 1, 2, 3, 4, 5, 6, 7, 8, 9, 10, 11, 12, 13, 14] rfl
      have hD9 := hD.sub (ws' := [(w, .inr (3, [.ref r, .ref s, .ref u, .ref t, .int tn, .int (nI (i + 1)), .int (nI (d + 1)), .int (nI L), .int (nI 0)])), (r, .inl ((ka 0), 8, .inr (.inl rg))), (s, .inr (0, [.ref sn, .ref sk, .ref so, .int (nI psS.length)])), (sn, .inl ((ka 0), 256, .inr (.inl numS))), (sk, .inl ((ka 2), 256, .inl kpS)), (so, .inl ((ka 1), 256, .inl odS)), (u, .inr (0, [.ref un, .ref uk, .ref uo, .int (nI psU.length)])), (un, .inl ((ka 0), 256, .inr (.inl numU))), (uk, .inl ((ka 2), 256, .inl kpU)), (uo, .inl ((ka 1), 256, .inl odU)), (t, .inr (1, [.ref ta, .ref tb, .ref tc, .int (nI pg.length), .int kn, .int toc, .int tdn, .int tld, .int tsr, .long trs])), (ta, .inl ((ka 1), 32, .inl ops)), (tb, .inl ((ka 1), 32, .inl fs)), (tc, .inl ((ka 0), 32, .inr (.inl ss))), (pa, .inl ((ka 0), 256, .inr (.inl P)))]) [0, 1, 2, 3, 4, 5, 6, 7, 8, 9, 10, 11, 12, 13, 14] (by decide) rfl
      exact W.vret hx hb hr (fun t9 ht hW => ⟨⟨(), rfl, trivial, rg, psS, numS, kpS, odS, psU, numU, kpU, odU, (nI (i + 1)), (sp_nx pg.length (i + 1)), L, 0, ⟨hS0, hU0, nxR_nx hi, by omega, by rw [hin, pf_7z ((lg_cmp_eq _ _).mp c_213)], by rw [hin]; rfl⟩, by rw [ht]; exact hP9, hD9⟩, hS.F ht⟩) hS.2.2 d_Wk_perform_302
    · refine lv_aload_n hx hb d_Wk_perform_216 rfl (lv_at hl 3 rfl) ?_
      refine lv_aload_n hx hb d_Wk_perform_217 rfl (lv_at hl 4 rfl) ?_
      refine lv_lload hx hb d_Wk_perform_218 (lv_at hl 1 rfl) ?_
      have hPc := hP.sub (ws' := [(t, .inr (1, [.ref ta, .ref tb, .ref tc, .int (nI pg.length), .int kn, .int toc, .int tdn, .int tld, .int tsr, .long trs]))]) [10] rfl
      refine vp_callSi (run_of (va_runV (As := [.long (ss i)]) (rest := [.ref w]) ⟨hx, hb, hml, hown, hts⟩ (c_Tr_has l D ka t ta tb tc pg.length kn toc tdn tld tsr trs (ss i) hpg.1) ⟨callB_of 1 hts (gd_tb mw_2_40) rfl rfl rfl (hts _ (List.mem_cons_of_mem _ mw_1_5)) (hts _ (List.mem_cons_of_mem _ mw_2_37)) (by decide +kernel) ⟨Nat.le_of_ble_eq_true rfl, Nat.le_of_ble_eq_true rfl⟩, (hts _ (List.mem_cons_of_mem _ mw_2_38)), (hts _ (List.mem_cons_of_mem _ mw_2_39))⟩ ⟨pR_blind, va_recv hK hPc (ci := 1) (q0 := 0) rfl rfl, pR_pre hK hN hPc⟩ rfl rfl hl.1 rfl (lv_room (Nat.le_of_ble_eq_true rfl)) d_Wk_perform_220 ⟨Nat.le_of_ble_eq_true rfl, Nat.le_of_ble_eq_true rfl⟩)) (fun r_220 hr_220 => ?_)
      refine lv_if_eq (tgt := 232) hx hb d_Wk_perform_223 (by decide) (fun c_223 => ?_) (fun c_223 => ?_)
      · refine lv_iconst (v := (-1)) hx hb d_Wk_perform_232 (by decide) ?_
        refine va_put (D := D) (ci := 3) (v := .int (-1)) (ty := .int) (C := "VersionedBlock$Worker") (T := T_Wk) (N := 9) hx hb hts (fun w h => List.mem_cons_of_mem _ (il_Wk w h)) t_Wk t_Wk_ok n_Wk hown hK hP hD hS 0 rfl rfl 5 (by decide) (hts _ (List.mem_cons_of_mem _ mw_1_231)) (fun _ h9 => h9) rfl (by decide +kernel) rfl rfl (Nat.le_of_ble_eq_true rfl) d_Wk_perform_233 (fun H locs hP hD hS => ?_)
        have hP : va_P D classes ([(w, .inr (3, [.ref r, .ref s, .ref u, .ref t, .int tn, .int (-1), .int (nI (d + 1)), .int (nI L), .int (nI 0)])), (r, .inl ((ka 0), 8, .inr (.inl rg))), (s, .inr (0, [.ref sn, .ref sk, .ref so, .int (nI psS.length)])), (sn, .inl ((ka 0), 256, .inr (.inl numS))), (sk, .inl ((ka 2), 256, .inl kpS)), (so, .inl ((ka 1), 256, .inl odS)), (u, .inr (0, [.ref un, .ref uk, .ref uo, .int (nI psU.length)])), (un, .inl ((ka 0), 256, .inr (.inl numU))), (uk, .inl ((ka 2), 256, .inl kpU)), (uo, .inl ((ka 1), 256, .inl odU)), (t, .inr (1, [.ref ta, .ref tb, .ref tc, .int (nI pg.length), .int kn, .int toc, .int tdn, .int tld, .int tsr, .long trs])), (ta, .inl ((ka 1), 32, .inl ops)), (tb, .inl ((ka 1), 32, .inl fs)), (tc, .inl ((ka 0), 32, .inr (.inl ss))), (pa, .inl ((ka 0), 256, .inr (.inl P)))]) H := hP
        have hD : va_D A ([(w, .inr (3, [.ref r, .ref s, .ref u, .ref t, .int tn, .int (-1), .int (nI (d + 1)), .int (nI L), .int (nI 0)])), (r, .inl ((ka 0), 8, .inr (.inl rg))), (s, .inr (0, [.ref sn, .ref sk, .ref so, .int (nI psS.length)])), (sn, .inl ((ka 0), 256, .inr (.inl numS))), (sk, .inl ((ka 2), 256, .inl kpS)), (so, .inl ((ka 1), 256, .inl odS)), (u, .inr (0, [.ref un, .ref uk, .ref uo, .int (nI psU.length)])), (un, .inl ((ka 0), 256, .inr (.inl numU))), (uk, .inl ((ka 2), 256, .inl kpU)), (uo, .inl ((ka 1), 256, .inl odU)), (t, .inr (1, [.ref ta, .ref tb, .ref tc, .int (nI pg.length), .int kn, .int toc, .int tdn, .int tld, .int tsr, .long trs])), (ta, .inl ((ka 1), 32, .inl ops)), (tb, .inl ((ka 1), 32, .inl fs)), (tc, .inl ((ka 0), 32, .inr (.inl ss))), (pa, .inl ((ka 0), 256, .inr (.inl P)))]) := hD
        refine lv_goto (tgt := 302) hx hb d_Wk_perform_236 (by decide) ?_
        have hP9 := hP.sub (ws' := [(w, .inr (3, [.ref r, .ref s, .ref u, .ref t, .int tn, .int (-1), .int (nI (d + 1)), .int (nI L), .int (nI 0)])), (r, .inl ((ka 0), 8, .inr (.inl rg))), (s, .inr (0, [.ref sn, .ref sk, .ref so, .int (nI psS.length)])), (sn, .inl ((ka 0), 256, .inr (.inl numS))), (sk, .inl ((ka 2), 256, .inl kpS)), (so, .inl ((ka 1), 256, .inl odS)), (u, .inr (0, [.ref un, .ref uk, .ref uo, .int (nI psU.length)])), (un, .inl ((ka 0), 256, .inr (.inl numU))), (uk, .inl ((ka 2), 256, .inl kpU)), (uo, .inl ((ka 1), 256, .inl odU)), (t, .inr (1, [.ref ta, .ref tb, .ref tc, .int (nI pg.length), .int kn, .int toc, .int tdn, .int tld, .int tsr, .long trs])), (ta, .inl ((ka 1), 32, .inl ops)), (tb, .inl ((ka 1), 32, .inl fs)), (tc, .inl ((ka 0), 32, .inr (.inl ss))), (pa, .inl ((ka 0), 256, .inr (.inl P)))]) [0, 1, 2, 3, 4, 5, 6, 7, 8, 9, 10, 11, 12, 13, 14] rfl
        have hD9 := hD.sub (ws' := [(w, .inr (3, [.ref r, .ref s, .ref u, .ref t, .int tn, .int (-1), .int (nI (d + 1)), .int (nI L), .int (nI 0)])), (r, .inl ((ka 0), 8, .inr (.inl rg))), (s, .inr (0, [.ref sn, .ref sk, .ref so, .int (nI psS.length)])), (sn, .inl ((ka 0), 256, .inr (.inl numS))), (sk, .inl ((ka 2), 256, .inl kpS)), (so, .inl ((ka 1), 256, .inl odS)), (u, .inr (0, [.ref un, .ref uk, .ref uo, .int (nI psU.length)])), (un, .inl ((ka 0), 256, .inr (.inl numU))), (uk, .inl ((ka 2), 256, .inl kpU)), (uo, .inl ((ka 1), 256, .inl odU)), (t, .inr (1, [.ref ta, .ref tb, .ref tc, .int (nI pg.length), .int kn, .int toc, .int tdn, .int tld, .int tsr, .long trs])), (ta, .inl ((ka 1), 32, .inl ops)), (tb, .inl ((ka 1), 32, .inl fs)), (tc, .inl ((ka 0), 32, .inr (.inl ss))), (pa, .inl ((ka 0), 256, .inr (.inl P)))]) [0, 1, 2, 3, 4, 5, 6, 7, 8, 9, 10, 11, 12, 13, 14] (by decide) rfl
        exact W.vret hx hb hr (fun t9 ht hW => ⟨⟨(), rfl, trivial, rg, psS, numS, kpS, odS, psU, numU, kpU, odU, (-1), none, L, 0, ⟨hS0, hU0, Or.inl rfl, by omega, by rw [hin, pf_7n (fun q => c_213 ((lg_cmp_eq _ _).mpr q)) (jp_no hr_220 c_223)], by rw [hin]; rfl⟩, by rw [ht]; exact hP9, hD9⟩, hS.F ht⟩) hS.2.2 d_Wk_perform_302
      · refine lv_lload hx hb d_Wk_perform_226 (lv_at hl 1 rfl) ?_
        refine lv_l2i (v := (ss i).toInt32) hx hb d_Wk_perform_228 rfl ?_
        refine lv_goto (tgt := 233) hx hb d_Wk_perform_229 (by decide) ?_
        refine va_put (D := D) (ci := 3) (v := .int ((ss i).toInt32)) (ty := .int) (C := "VersionedBlock$Worker") (T := T_Wk) (N := 9) hx hb hts (fun w h => List.mem_cons_of_mem _ (il_Wk w h)) t_Wk t_Wk_ok n_Wk hown hK hP hD hS 0 rfl rfl 5 (by decide) (hts _ (List.mem_cons_of_mem _ mw_1_231)) (fun _ h9 => h9) rfl (by decide +kernel) rfl rfl (Nat.le_of_ble_eq_true rfl) d_Wk_perform_233 (fun H locs hP hD hS => ?_)
        have hP : va_P D classes ([(w, .inr (3, [.ref r, .ref s, .ref u, .ref t, .int tn, .int ((ss i).toInt32), .int (nI (d + 1)), .int (nI L), .int (nI 0)])), (r, .inl ((ka 0), 8, .inr (.inl rg))), (s, .inr (0, [.ref sn, .ref sk, .ref so, .int (nI psS.length)])), (sn, .inl ((ka 0), 256, .inr (.inl numS))), (sk, .inl ((ka 2), 256, .inl kpS)), (so, .inl ((ka 1), 256, .inl odS)), (u, .inr (0, [.ref un, .ref uk, .ref uo, .int (nI psU.length)])), (un, .inl ((ka 0), 256, .inr (.inl numU))), (uk, .inl ((ka 2), 256, .inl kpU)), (uo, .inl ((ka 1), 256, .inl odU)), (t, .inr (1, [.ref ta, .ref tb, .ref tc, .int (nI pg.length), .int kn, .int toc, .int tdn, .int tld, .int tsr, .long trs])), (ta, .inl ((ka 1), 32, .inl ops)), (tb, .inl ((ka 1), 32, .inl fs)), (tc, .inl ((ka 0), 32, .inr (.inl ss))), (pa, .inl ((ka 0), 256, .inr (.inl P)))]) H := hP
        have hD : va_D A ([(w, .inr (3, [.ref r, .ref s, .ref u, .ref t, .int tn, .int ((ss i).toInt32), .int (nI (d + 1)), .int (nI L), .int (nI 0)])), (r, .inl ((ka 0), 8, .inr (.inl rg))), (s, .inr (0, [.ref sn, .ref sk, .ref so, .int (nI psS.length)])), (sn, .inl ((ka 0), 256, .inr (.inl numS))), (sk, .inl ((ka 2), 256, .inl kpS)), (so, .inl ((ka 1), 256, .inl odS)), (u, .inr (0, [.ref un, .ref uk, .ref uo, .int (nI psU.length)])), (un, .inl ((ka 0), 256, .inr (.inl numU))), (uk, .inl ((ka 2), 256, .inl kpU)), (uo, .inl ((ka 1), 256, .inl odU)), (t, .inr (1, [.ref ta, .ref tb, .ref tc, .int (nI pg.length), .int kn, .int toc, .int tdn, .int tld, .int tsr, .long trs])), (ta, .inl ((ka 1), 32, .inl ops)), (tb, .inl ((ka 1), 32, .inl fs)), (tc, .inl ((ka 0), 32, .inr (.inl ss))), (pa, .inl ((ka 0), 256, .inr (.inl P)))]) := hD
        refine lv_goto (tgt := 302) hx hb d_Wk_perform_236 (by decide) ?_
        have hP9 := hP.sub (ws' := [(w, .inr (3, [.ref r, .ref s, .ref u, .ref t, .int tn, .int ((ss i).toInt32), .int (nI (d + 1)), .int (nI L), .int (nI 0)])), (r, .inl ((ka 0), 8, .inr (.inl rg))), (s, .inr (0, [.ref sn, .ref sk, .ref so, .int (nI psS.length)])), (sn, .inl ((ka 0), 256, .inr (.inl numS))), (sk, .inl ((ka 2), 256, .inl kpS)), (so, .inl ((ka 1), 256, .inl odS)), (u, .inr (0, [.ref un, .ref uk, .ref uo, .int (nI psU.length)])), (un, .inl ((ka 0), 256, .inr (.inl numU))), (uk, .inl ((ka 2), 256, .inl kpU)), (uo, .inl ((ka 1), 256, .inl odU)), (t, .inr (1, [.ref ta, .ref tb, .ref tc, .int (nI pg.length), .int kn, .int toc, .int tdn, .int tld, .int tsr, .long trs])), (ta, .inl ((ka 1), 32, .inl ops)), (tb, .inl ((ka 1), 32, .inl fs)), (tc, .inl ((ka 0), 32, .inr (.inl ss))), (pa, .inl ((ka 0), 256, .inr (.inl P)))]) [0, 1, 2, 3, 4, 5, 6, 7, 8, 9, 10, 11, 12, 13, 14] rfl
        have hD9 := hD.sub (ws' := [(w, .inr (3, [.ref r, .ref s, .ref u, .ref t, .int tn, .int ((ss i).toInt32), .int (nI (d + 1)), .int (nI L), .int (nI 0)])), (r, .inl ((ka 0), 8, .inr (.inl rg))), (s, .inr (0, [.ref sn, .ref sk, .ref so, .int (nI psS.length)])), (sn, .inl ((ka 0), 256, .inr (.inl numS))), (sk, .inl ((ka 2), 256, .inl kpS)), (so, .inl ((ka 1), 256, .inl odS)), (u, .inr (0, [.ref un, .ref uk, .ref uo, .int (nI psU.length)])), (un, .inl ((ka 0), 256, .inr (.inl numU))), (uk, .inl ((ka 2), 256, .inl kpU)), (uo, .inl ((ka 1), 256, .inl odU)), (t, .inr (1, [.ref ta, .ref tb, .ref tc, .int (nI pg.length), .int kn, .int toc, .int tdn, .int tld, .int tsr, .long trs])), (ta, .inl ((ka 1), 32, .inl ops)), (tb, .inl ((ka 1), 32, .inl fs)), (tc, .inl ((ka 0), 32, .inr (.inl ss))), (pa, .inl ((ka 0), 256, .inr (.inl P)))]) [0, 1, 2, 3, 4, 5, 6, 7, 8, 9, 10, 11, 12, 13, 14] (by decide) rfl
        exact W.vret hx hb hr (fun t9 ht hW => ⟨⟨(), rfl, trivial, rg, psS, numS, kpS, odS, psU, numU, kpU, odU, ((ss i).toInt32), (some (ss i).toInt.toNat), L, 0, ⟨hS0, hU0, jp_nx hpg.1 (jp_yes hr_220 c_223), by omega, by rw [hin, pf_7n (fun q => c_213 ((lg_cmp_eq _ _).mpr q)) (jp_some (jp_yes hr_220 c_223))], by rw [hin]; rfl⟩, by rw [ht]; exact hP9, hD9⟩, hS.F ht⟩) hS.2.2 d_Wk_perform_302
  · skip
    refine lv_tableIn (off := 213) (tgt := 239) hx hb d_Wk_perform_26 (by decide) (by decide) (by decide) (by decide) ?_
    refine lv_aload_n hx hb d_Wk_perform_239 rfl (lv_at hl 3 rfl) ?_
    refine va_get (D := D) (ci := 3) (v := .ref r) (C := "VersionedBlock$Worker") (T := T_Wk) (N := 9) hx hb hts (fun w h => List.mem_cons_of_mem _ (il_Wk w h)) hown hK hP 0 rfl rfl 0 (by decide) (hts _ (List.mem_cons_of_mem _ mw_1_226)) (fun _ h9 => h9) rfl d_Wk_perform_240 ?_
    refine lv_iload hx hb d_Wk_perform_243 (lv_at hl 2 rfl) ?_
    refine lv_aload_n hx hb d_Wk_perform_245 rfl (lv_at hl 3 rfl) ?_
    refine va_get (D := D) (ci := 3) (v := .ref r) (C := "VersionedBlock$Worker") (T := T_Wk) (N := 9) hx hb hts (fun w h => List.mem_cons_of_mem _ (il_Wk w h)) hown hK hP 0 rfl rfl 0 (by decide) (hts _ (List.mem_cons_of_mem _ mw_1_226)) (fun _ h9 => h9) rfl d_Wk_perform_246 ?_
    refine lv_iload hx hb d_Wk_perform_249 (lv_at hl 2 rfl) ?_
    refine my_lald hx hb hK hP 1 0 rfl rfl (k := a) ha8 (Nat.le_of_ble_eq_true rfl) d_Wk_perform_251 ?_
    refine lv_aload_n hx hb d_Wk_perform_252 rfl (lv_at hl 3 rfl) ?_
    refine va_get (D := D) (ci := 3) (v := .ref r) (C := "VersionedBlock$Worker") (T := T_Wk) (N := 9) hx hb hts (fun w h => List.mem_cons_of_mem _ (il_Wk w h)) hown hK hP 0 rfl rfl 0 (by decide) (hts _ (List.mem_cons_of_mem _ mw_1_226)) (fun _ h9 => h9) rfl d_Wk_perform_253 ?_
    refine lv_iload hx hb d_Wk_perform_256 (lv_at hl 0 rfl) ?_
    refine my_lald hx hb hK hP 1 0 rfl rfl (k := (sp_rg (ss i))) (sp_rg_lt _) (Nat.le_of_ble_eq_true rfl) d_Wk_perform_258 ?_
    refine W.lcmp hx hb d_Wk_perform_259 ?_
    refine lv_if_ge (tgt := 267) hx hb d_Wk_perform_260 (by decide) (fun c_260 => ?_) (fun c_260 => ?_)
    · refine lv_lconst (v := 0) hx hb d_Wk_perform_267 (by decide) ?_
      refine my_last hx hb hK hP hD hS 1 0 rfl rfl (k := a) ha8 (Nat.le_of_ble_eq_true rfl) d_Wk_perform_268 (fun H locs hP hD hS => ?_)
      have hP : va_P D classes ([(w, .inr (3, [.ref r, .ref s, .ref u, .ref t, .int tn, .int (nI (i + 1)), .int (nI (d + 1)), .int (nI L), .int (nI 0)])), (r, .inl ((ka 0), 8, .inr (.inl (vp_updL rg a 0)))), (s, .inr (0, [.ref sn, .ref sk, .ref so, .int (nI psS.length)])), (sn, .inl ((ka 0), 256, .inr (.inl numS))), (sk, .inl ((ka 2), 256, .inl kpS)), (so, .inl ((ka 1), 256, .inl odS)), (u, .inr (0, [.ref un, .ref uk, .ref uo, .int (nI psU.length)])), (un, .inl ((ka 0), 256, .inr (.inl numU))), (uk, .inl ((ka 2), 256, .inl kpU)), (uo, .inl ((ka 1), 256, .inl odU)), (t, .inr (1, [.ref ta, .ref tb, .ref tc, .int (nI pg.length), .int kn, .int toc, .int tdn, .int tld, .int tsr, .long trs])), (ta, .inl ((ka 1), 32, .inl ops)), (tb, .inl ((ka 1), 32, .inl fs)), (tc, .inl ((ka 0), 32, .inr (.inl ss))), (pa, .inl ((ka 0), 256, .inr (.inl P)))]) H := hP
      have hD : va_D A ([(w, .inr (3, [.ref r, .ref s, .ref u, .ref t, .int tn, .int (nI (i + 1)), .int (nI (d + 1)), .int (nI L), .int (nI 0)])), (r, .inl ((ka 0), 8, .inr (.inl (vp_updL rg a 0)))), (s, .inr (0, [.ref sn, .ref sk, .ref so, .int (nI psS.length)])), (sn, .inl ((ka 0), 256, .inr (.inl numS))), (sk, .inl ((ka 2), 256, .inl kpS)), (so, .inl ((ka 1), 256, .inl odS)), (u, .inr (0, [.ref un, .ref uk, .ref uo, .int (nI psU.length)])), (un, .inl ((ka 0), 256, .inr (.inl numU))), (uk, .inl ((ka 2), 256, .inl kpU)), (uo, .inl ((ka 1), 256, .inl odU)), (t, .inr (1, [.ref ta, .ref tb, .ref tc, .int (nI pg.length), .int kn, .int toc, .int tdn, .int tld, .int tsr, .long trs])), (ta, .inl ((ka 1), 32, .inl ops)), (tb, .inl ((ka 1), 32, .inl fs)), (tc, .inl ((ka 0), 32, .inr (.inl ss))), (pa, .inl ((ka 0), 256, .inr (.inl P)))]) := hD
      refine lv_goto (tgt := 302) hx hb d_Wk_perform_269 (by decide) ?_
      have hP9 := hP.sub (ws' := [(w, .inr (3, [.ref r, .ref s, .ref u, .ref t, .int tn, .int (nI (i + 1)), .int (nI (d + 1)), .int (nI L), .int (nI 0)])), (r, .inl ((ka 0), 8, .inr (.inl (vp_updL rg a 0)))), (s, .inr (0, [.ref sn, .ref sk, .ref so, .int (nI psS.length)])), (sn, .inl ((ka 0), 256, .inr (.inl numS))), (sk, .inl ((ka 2), 256, .inl kpS)), (so, .inl ((ka 1), 256, .inl odS)), (u, .inr (0, [.ref un, .ref uk, .ref uo, .int (nI psU.length)])), (un, .inl ((ka 0), 256, .inr (.inl numU))), (uk, .inl ((ka 2), 256, .inl kpU)), (uo, .inl ((ka 1), 256, .inl odU)), (t, .inr (1, [.ref ta, .ref tb, .ref tc, .int (nI pg.length), .int kn, .int toc, .int tdn, .int tld, .int tsr, .long trs])), (ta, .inl ((ka 1), 32, .inl ops)), (tb, .inl ((ka 1), 32, .inl fs)), (tc, .inl ((ka 0), 32, .inr (.inl ss))), (pa, .inl ((ka 0), 256, .inr (.inl P)))]) [0, 1, 2, 3, 4, 5, 6, 7, 8, 9, 10, 11, 12, 13, 14] rfl
      have hD9 := hD.sub (ws' := [(w, .inr (3, [.ref r, .ref s, .ref u, .ref t, .int tn, .int (nI (i + 1)), .int (nI (d + 1)), .int (nI L), .int (nI 0)])), (r, .inl ((ka 0), 8, .inr (.inl (vp_updL rg a 0)))), (s, .inr (0, [.ref sn, .ref sk, .ref so, .int (nI psS.length)])), (sn, .inl ((ka 0), 256, .inr (.inl numS))), (sk, .inl ((ka 2), 256, .inl kpS)), (so, .inl ((ka 1), 256, .inl odS)), (u, .inr (0, [.ref un, .ref uk, .ref uo, .int (nI psU.length)])), (un, .inl ((ka 0), 256, .inr (.inl numU))), (uk, .inl ((ka 2), 256, .inl kpU)), (uo, .inl ((ka 1), 256, .inl odU)), (t, .inr (1, [.ref ta, .ref tb, .ref tc, .int (nI pg.length), .int kn, .int toc, .int tdn, .int tld, .int tsr, .long trs])), (ta, .inl ((ka 1), 32, .inl ops)), (tb, .inl ((ka 1), 32, .inl fs)), (tc, .inl ((ka 0), 32, .inr (.inl ss))), (pa, .inl ((ka 0), 256, .inr (.inl P)))]) [0, 1, 2, 3, 4, 5, 6, 7, 8, 9, 10, 11, 12, 13, 14] (by decide) rfl
      exact W.vret hx hb hr (fun t9 ht hW => ⟨⟨(), rfl, trivial, (vp_updL rg a 0), psS, numS, kpS, odS, psU, numU, kpU, odU, (nI (i + 1)), (sp_nx pg.length (i + 1)), L, 0, ⟨hS0, hU0, nxR_nx hi, by omega, by rw [hin, pf_8n (fun q => absurd ((lg_cmp_ge _ _).mp c_260) (Int64.not_le.mpr q))], by rw [hin]; rfl⟩, by rw [ht]; exact hP9, hD9⟩, hS.F ht⟩) hS.2.2 d_Wk_perform_302
    · refine lv_lconst (v := 1) hx hb d_Wk_perform_263 (by decide) ?_
      refine lv_goto (tgt := 268) hx hb d_Wk_perform_264 (by decide) ?_
      refine my_last hx hb hK hP hD hS 1 0 rfl rfl (k := a) ha8 (Nat.le_of_ble_eq_true rfl) d_Wk_perform_268 (fun H locs hP hD hS => ?_)
      have hP : va_P D classes ([(w, .inr (3, [.ref r, .ref s, .ref u, .ref t, .int tn, .int (nI (i + 1)), .int (nI (d + 1)), .int (nI L), .int (nI 0)])), (r, .inl ((ka 0), 8, .inr (.inl (vp_updL rg a 1)))), (s, .inr (0, [.ref sn, .ref sk, .ref so, .int (nI psS.length)])), (sn, .inl ((ka 0), 256, .inr (.inl numS))), (sk, .inl ((ka 2), 256, .inl kpS)), (so, .inl ((ka 1), 256, .inl odS)), (u, .inr (0, [.ref un, .ref uk, .ref uo, .int (nI psU.length)])), (un, .inl ((ka 0), 256, .inr (.inl numU))), (uk, .inl ((ka 2), 256, .inl kpU)), (uo, .inl ((ka 1), 256, .inl odU)), (t, .inr (1, [.ref ta, .ref tb, .ref tc, .int (nI pg.length), .int kn, .int toc, .int tdn, .int tld, .int tsr, .long trs])), (ta, .inl ((ka 1), 32, .inl ops)), (tb, .inl ((ka 1), 32, .inl fs)), (tc, .inl ((ka 0), 32, .inr (.inl ss))), (pa, .inl ((ka 0), 256, .inr (.inl P)))]) H := hP
      have hD : va_D A ([(w, .inr (3, [.ref r, .ref s, .ref u, .ref t, .int tn, .int (nI (i + 1)), .int (nI (d + 1)), .int (nI L), .int (nI 0)])), (r, .inl ((ka 0), 8, .inr (.inl (vp_updL rg a 1)))), (s, .inr (0, [.ref sn, .ref sk, .ref so, .int (nI psS.length)])), (sn, .inl ((ka 0), 256, .inr (.inl numS))), (sk, .inl ((ka 2), 256, .inl kpS)), (so, .inl ((ka 1), 256, .inl odS)), (u, .inr (0, [.ref un, .ref uk, .ref uo, .int (nI psU.length)])), (un, .inl ((ka 0), 256, .inr (.inl numU))), (uk, .inl ((ka 2), 256, .inl kpU)), (uo, .inl ((ka 1), 256, .inl odU)), (t, .inr (1, [.ref ta, .ref tb, .ref tc, .int (nI pg.length), .int kn, .int toc, .int tdn, .int tld, .int tsr, .long trs])), (ta, .inl ((ka 1), 32, .inl ops)), (tb, .inl ((ka 1), 32, .inl fs)), (tc, .inl ((ka 0), 32, .inr (.inl ss))), (pa, .inl ((ka 0), 256, .inr (.inl P)))]) := hD
      refine lv_goto (tgt := 302) hx hb d_Wk_perform_269 (by decide) ?_
      have hP9 := hP.sub (ws' := [(w, .inr (3, [.ref r, .ref s, .ref u, .ref t, .int tn, .int (nI (i + 1)), .int (nI (d + 1)), .int (nI L), .int (nI 0)])), (r, .inl ((ka 0), 8, .inr (.inl (vp_updL rg a 1)))), (s, .inr (0, [.ref sn, .ref sk, .ref so, .int (nI psS.length)])), (sn, .inl ((ka 0), 256, .inr (.inl numS))), (sk, .inl ((ka 2), 256, .inl kpS)), (so, .inl ((ka 1), 256, .inl odS)), (u, .inr (0, [.ref un, .ref uk, .ref uo, .int (nI psU.length)])), (un, .inl ((ka 0), 256, .inr (.inl numU))), (uk, .inl ((ka 2), 256, .inl kpU)), (uo, .inl ((ka 1), 256, .inl odU)), (t, .inr (1, [.ref ta, .ref tb, .ref tc, .int (nI pg.length), .int kn, .int toc, .int tdn, .int tld, .int tsr, .long trs])), (ta, .inl ((ka 1), 32, .inl ops)), (tb, .inl ((ka 1), 32, .inl fs)), (tc, .inl ((ka 0), 32, .inr (.inl ss))), (pa, .inl ((ka 0), 256, .inr (.inl P)))]) [0, 1, 2, 3, 4, 5, 6, 7, 8, 9, 10, 11, 12, 13, 14] rfl
      have hD9 := hD.sub (ws' := [(w, .inr (3, [.ref r, .ref s, .ref u, .ref t, .int tn, .int (nI (i + 1)), .int (nI (d + 1)), .int (nI L), .int (nI 0)])), (r, .inl ((ka 0), 8, .inr (.inl (vp_updL rg a 1)))), (s, .inr (0, [.ref sn, .ref sk, .ref so, .int (nI psS.length)])), (sn, .inl ((ka 0), 256, .inr (.inl numS))), (sk, .inl ((ka 2), 256, .inl kpS)), (so, .inl ((ka 1), 256, .inl odS)), (u, .inr (0, [.ref un, .ref uk, .ref uo, .int (nI psU.length)])), (un, .inl ((ka 0), 256, .inr (.inl numU))), (uk, .inl ((ka 2), 256, .inl kpU)), (uo, .inl ((ka 1), 256, .inl odU)), (t, .inr (1, [.ref ta, .ref tb, .ref tc, .int (nI pg.length), .int kn, .int toc, .int tdn, .int tld, .int tsr, .long trs])), (ta, .inl ((ka 1), 32, .inl ops)), (tb, .inl ((ka 1), 32, .inl fs)), (tc, .inl ((ka 0), 32, .inr (.inl ss))), (pa, .inl ((ka 0), 256, .inr (.inl P)))]) [0, 1, 2, 3, 4, 5, 6, 7, 8, 9, 10, 11, 12, 13, 14] (by decide) rfl
      exact W.vret hx hb hr (fun t9 ht hW => ⟨⟨(), rfl, trivial, (vp_updL rg a 1), psS, numS, kpS, odS, psU, numU, kpU, odU, (nI (i + 1)), (sp_nx pg.length (i + 1)), L, 0, ⟨hS0, hU0, nxR_nx hi, by omega, by rw [hin, pf_8y (Int64.not_le.mp (fun q => c_260 ((lg_cmp_ge _ _).mpr q)))], by rw [hin]; rfl⟩, by rw [ht]; exact hP9, hD9⟩, hS.F ht⟩) hS.2.2 d_Wk_perform_302
  · skip
    refine lv_tableIn (off := 263) (tgt := 289) hx hb d_Wk_perform_26 (by decide) (by decide) (by decide) (by decide) ?_
    refine lv_aload_n hx hb d_Wk_perform_289 rfl (lv_at hl 3 rfl) ?_
    refine lv_iconst (v := (nI 2)) hx hb d_Wk_perform_290 (by decide) ?_
    refine va_put (D := D) (ci := 3) (v := .int (nI 2)) (ty := .int) (C := "VersionedBlock$Worker") (T := T_Wk) (N := 9) hx hb hts (fun w h => List.mem_cons_of_mem _ (il_Wk w h)) t_Wk t_Wk_ok n_Wk hown hK hP hD hS 0 rfl rfl 8 (by decide) (hts _ (List.mem_cons_of_mem _ mw_1_234)) (fun _ h9 => h9) rfl (by decide +kernel) rfl rfl (Nat.le_of_ble_eq_true rfl) d_Wk_perform_291 (fun H locs hP hD hS => ?_)
    have hP : va_P D classes ([(w, .inr (3, [.ref r, .ref s, .ref u, .ref t, .int tn, .int (nI (i + 1)), .int (nI (d + 1)), .int (nI L), .int (nI 2)])), (r, .inl ((ka 0), 8, .inr (.inl rg))), (s, .inr (0, [.ref sn, .ref sk, .ref so, .int (nI psS.length)])), (sn, .inl ((ka 0), 256, .inr (.inl numS))), (sk, .inl ((ka 2), 256, .inl kpS)), (so, .inl ((ka 1), 256, .inl odS)), (u, .inr (0, [.ref un, .ref uk, .ref uo, .int (nI psU.length)])), (un, .inl ((ka 0), 256, .inr (.inl numU))), (uk, .inl ((ka 2), 256, .inl kpU)), (uo, .inl ((ka 1), 256, .inl odU)), (t, .inr (1, [.ref ta, .ref tb, .ref tc, .int (nI pg.length), .int kn, .int toc, .int tdn, .int tld, .int tsr, .long trs])), (ta, .inl ((ka 1), 32, .inl ops)), (tb, .inl ((ka 1), 32, .inl fs)), (tc, .inl ((ka 0), 32, .inr (.inl ss))), (pa, .inl ((ka 0), 256, .inr (.inl P)))]) H := hP
    have hD : va_D A ([(w, .inr (3, [.ref r, .ref s, .ref u, .ref t, .int tn, .int (nI (i + 1)), .int (nI (d + 1)), .int (nI L), .int (nI 2)])), (r, .inl ((ka 0), 8, .inr (.inl rg))), (s, .inr (0, [.ref sn, .ref sk, .ref so, .int (nI psS.length)])), (sn, .inl ((ka 0), 256, .inr (.inl numS))), (sk, .inl ((ka 2), 256, .inl kpS)), (so, .inl ((ka 1), 256, .inl odS)), (u, .inr (0, [.ref un, .ref uk, .ref uo, .int (nI psU.length)])), (un, .inl ((ka 0), 256, .inr (.inl numU))), (uk, .inl ((ka 2), 256, .inl kpU)), (uo, .inl ((ka 1), 256, .inl odU)), (t, .inr (1, [.ref ta, .ref tb, .ref tc, .int (nI pg.length), .int kn, .int toc, .int tdn, .int tld, .int tsr, .long trs])), (ta, .inl ((ka 1), 32, .inl ops)), (tb, .inl ((ka 1), 32, .inl fs)), (tc, .inl ((ka 0), 32, .inr (.inl ss))), (pa, .inl ((ka 0), 256, .inr (.inl P)))]) := hD
    refine lv_goto (tgt := 302) hx hb d_Wk_perform_294 (by decide) ?_
    have hP9 := hP.sub (ws' := [(w, .inr (3, [.ref r, .ref s, .ref u, .ref t, .int tn, .int (nI (i + 1)), .int (nI (d + 1)), .int (nI L), .int (nI 2)])), (r, .inl ((ka 0), 8, .inr (.inl rg))), (s, .inr (0, [.ref sn, .ref sk, .ref so, .int (nI psS.length)])), (sn, .inl ((ka 0), 256, .inr (.inl numS))), (sk, .inl ((ka 2), 256, .inl kpS)), (so, .inl ((ka 1), 256, .inl odS)), (u, .inr (0, [.ref un, .ref uk, .ref uo, .int (nI psU.length)])), (un, .inl ((ka 0), 256, .inr (.inl numU))), (uk, .inl ((ka 2), 256, .inl kpU)), (uo, .inl ((ka 1), 256, .inl odU)), (t, .inr (1, [.ref ta, .ref tb, .ref tc, .int (nI pg.length), .int kn, .int toc, .int tdn, .int tld, .int tsr, .long trs])), (ta, .inl ((ka 1), 32, .inl ops)), (tb, .inl ((ka 1), 32, .inl fs)), (tc, .inl ((ka 0), 32, .inr (.inl ss))), (pa, .inl ((ka 0), 256, .inr (.inl P)))]) [0, 1, 2, 3, 4, 5, 6, 7, 8, 9, 10, 11, 12, 13, 14] rfl
    have hD9 := hD.sub (ws' := [(w, .inr (3, [.ref r, .ref s, .ref u, .ref t, .int tn, .int (nI (i + 1)), .int (nI (d + 1)), .int (nI L), .int (nI 2)])), (r, .inl ((ka 0), 8, .inr (.inl rg))), (s, .inr (0, [.ref sn, .ref sk, .ref so, .int (nI psS.length)])), (sn, .inl ((ka 0), 256, .inr (.inl numS))), (sk, .inl ((ka 2), 256, .inl kpS)), (so, .inl ((ka 1), 256, .inl odS)), (u, .inr (0, [.ref un, .ref uk, .ref uo, .int (nI psU.length)])), (un, .inl ((ka 0), 256, .inr (.inl numU))), (uk, .inl ((ka 2), 256, .inl kpU)), (uo, .inl ((ka 1), 256, .inl odU)), (t, .inr (1, [.ref ta, .ref tb, .ref tc, .int (nI pg.length), .int kn, .int toc, .int tdn, .int tld, .int tsr, .long trs])), (ta, .inl ((ka 1), 32, .inl ops)), (tb, .inl ((ka 1), 32, .inl fs)), (tc, .inl ((ka 0), 32, .inr (.inl ss))), (pa, .inl ((ka 0), 256, .inr (.inl P)))]) [0, 1, 2, 3, 4, 5, 6, 7, 8, 9, 10, 11, 12, 13, 14] (by decide) rfl
    exact W.vret hx hb hr (fun t9 ht hW => ⟨⟨(), rfl, trivial, rg, psS, numS, kpS, odS, psU, numU, kpU, odU, (nI (i + 1)), (sp_nx pg.length (i + 1)), L, 2, ⟨hS0, hU0, nxR_nx hi, by omega, by rw [hin]; rfl, by rw [hin]; rfl⟩, by rw [ht]; exact hP9, hD9⟩, hS.F ht⟩) hS.2.2 d_Wk_perform_302
  · skip
    refine lv_tableIn (off := 246) (tgt := 272) hx hb d_Wk_perform_26 (by decide) (by decide) (by decide) (by decide) ?_
    refine lv_aload_n hx hb d_Wk_perform_272 rfl (lv_at hl 3 rfl) ?_
    refine va_get (D := D) (ci := 3) (v := .ref r) (C := "VersionedBlock$Worker") (T := T_Wk) (N := 9) hx hb hts (fun w h => List.mem_cons_of_mem _ (il_Wk w h)) hown hK hP 0 rfl rfl 0 (by decide) (hts _ (List.mem_cons_of_mem _ mw_1_226)) (fun _ h9 => h9) rfl d_Wk_perform_273 ?_
    refine lv_iload hx hb d_Wk_perform_276 (lv_at hl 2 rfl) ?_
    refine lv_aload_n hx hb d_Wk_perform_278 rfl (lv_at hl 3 rfl) ?_
    refine va_get (D := D) (ci := 3) (v := .ref r) (C := "VersionedBlock$Worker") (T := T_Wk) (N := 9) hx hb hts (fun w h => List.mem_cons_of_mem _ (il_Wk w h)) hown hK hP 0 rfl rfl 0 (by decide) (hts _ (List.mem_cons_of_mem _ mw_1_226)) (fun _ h9 => h9) rfl d_Wk_perform_279 ?_
    refine lv_iload hx hb d_Wk_perform_282 (lv_at hl 0 rfl) ?_
    refine my_lald hx hb hK hP 1 0 rfl rfl (k := (sp_rg (ss i))) (sp_rg_lt _) (Nat.le_of_ble_eq_true rfl) d_Wk_perform_284 ?_
    refine my_last hx hb hK hP hD hS 1 0 rfl rfl (k := a) ha8 (Nat.le_of_ble_eq_true rfl) d_Wk_perform_285 (fun H locs hP hD hS => ?_)
    have hP : va_P D classes ([(w, .inr (3, [.ref r, .ref s, .ref u, .ref t, .int tn, .int (nI (i + 1)), .int (nI (d + 1)), .int (nI L), .int (nI 0)])), (r, .inl ((ka 0), 8, .inr (.inl (vp_updL rg a (rg (sp_rg (ss i))))))), (s, .inr (0, [.ref sn, .ref sk, .ref so, .int (nI psS.length)])), (sn, .inl ((ka 0), 256, .inr (.inl numS))), (sk, .inl ((ka 2), 256, .inl kpS)), (so, .inl ((ka 1), 256, .inl odS)), (u, .inr (0, [.ref un, .ref uk, .ref uo, .int (nI psU.length)])), (un, .inl ((ka 0), 256, .inr (.inl numU))), (uk, .inl ((ka 2), 256, .inl kpU)), (uo, .inl ((ka 1), 256, .inl odU)), (t, .inr (1, [.ref ta, .ref tb, .ref tc, .int (nI pg.length), .int kn, .int toc, .int tdn, .int tld, .int tsr, .long trs])), (ta, .inl ((ka 1), 32, .inl ops)), (tb, .inl ((ka 1), 32, .inl fs)), (tc, .inl ((ka 0), 32, .inr (.inl ss))), (pa, .inl ((ka 0), 256, .inr (.inl P)))]) H := hP
    have hD : va_D A ([(w, .inr (3, [.ref r, .ref s, .ref u, .ref t, .int tn, .int (nI (i + 1)), .int (nI (d + 1)), .int (nI L), .int (nI 0)])), (r, .inl ((ka 0), 8, .inr (.inl (vp_updL rg a (rg (sp_rg (ss i))))))), (s, .inr (0, [.ref sn, .ref sk, .ref so, .int (nI psS.length)])), (sn, .inl ((ka 0), 256, .inr (.inl numS))), (sk, .inl ((ka 2), 256, .inl kpS)), (so, .inl ((ka 1), 256, .inl odS)), (u, .inr (0, [.ref un, .ref uk, .ref uo, .int (nI psU.length)])), (un, .inl ((ka 0), 256, .inr (.inl numU))), (uk, .inl ((ka 2), 256, .inl kpU)), (uo, .inl ((ka 1), 256, .inl odU)), (t, .inr (1, [.ref ta, .ref tb, .ref tc, .int (nI pg.length), .int kn, .int toc, .int tdn, .int tld, .int tsr, .long trs])), (ta, .inl ((ka 1), 32, .inl ops)), (tb, .inl ((ka 1), 32, .inl fs)), (tc, .inl ((ka 0), 32, .inr (.inl ss))), (pa, .inl ((ka 0), 256, .inr (.inl P)))]) := hD
    refine lv_goto (tgt := 302) hx hb d_Wk_perform_286 (by decide) ?_
    have hP9 := hP.sub (ws' := [(w, .inr (3, [.ref r, .ref s, .ref u, .ref t, .int tn, .int (nI (i + 1)), .int (nI (d + 1)), .int (nI L), .int (nI 0)])), (r, .inl ((ka 0), 8, .inr (.inl (vp_updL rg a (rg (sp_rg (ss i))))))), (s, .inr (0, [.ref sn, .ref sk, .ref so, .int (nI psS.length)])), (sn, .inl ((ka 0), 256, .inr (.inl numS))), (sk, .inl ((ka 2), 256, .inl kpS)), (so, .inl ((ka 1), 256, .inl odS)), (u, .inr (0, [.ref un, .ref uk, .ref uo, .int (nI psU.length)])), (un, .inl ((ka 0), 256, .inr (.inl numU))), (uk, .inl ((ka 2), 256, .inl kpU)), (uo, .inl ((ka 1), 256, .inl odU)), (t, .inr (1, [.ref ta, .ref tb, .ref tc, .int (nI pg.length), .int kn, .int toc, .int tdn, .int tld, .int tsr, .long trs])), (ta, .inl ((ka 1), 32, .inl ops)), (tb, .inl ((ka 1), 32, .inl fs)), (tc, .inl ((ka 0), 32, .inr (.inl ss))), (pa, .inl ((ka 0), 256, .inr (.inl P)))]) [0, 1, 2, 3, 4, 5, 6, 7, 8, 9, 10, 11, 12, 13, 14] rfl
    have hD9 := hD.sub (ws' := [(w, .inr (3, [.ref r, .ref s, .ref u, .ref t, .int tn, .int (nI (i + 1)), .int (nI (d + 1)), .int (nI L), .int (nI 0)])), (r, .inl ((ka 0), 8, .inr (.inl (vp_updL rg a (rg (sp_rg (ss i))))))), (s, .inr (0, [.ref sn, .ref sk, .ref so, .int (nI psS.length)])), (sn, .inl ((ka 0), 256, .inr (.inl numS))), (sk, .inl ((ka 2), 256, .inl kpS)), (so, .inl ((ka 1), 256, .inl odS)), (u, .inr (0, [.ref un, .ref uk, .ref uo, .int (nI psU.length)])), (un, .inl ((ka 0), 256, .inr (.inl numU))), (uk, .inl ((ka 2), 256, .inl kpU)), (uo, .inl ((ka 1), 256, .inl odU)), (t, .inr (1, [.ref ta, .ref tb, .ref tc, .int (nI pg.length), .int kn, .int toc, .int tdn, .int tld, .int tsr, .long trs])), (ta, .inl ((ka 1), 32, .inl ops)), (tb, .inl ((ka 1), 32, .inl fs)), (tc, .inl ((ka 0), 32, .inr (.inl ss))), (pa, .inl ((ka 0), 256, .inr (.inl P)))]) [0, 1, 2, 3, 4, 5, 6, 7, 8, 9, 10, 11, 12, 13, 14] (by decide) rfl
    exact W.vret hx hb hr (fun t9 ht hW => ⟨⟨(), rfl, trivial, (vp_updL rg a (rg (sp_rg (ss i)))), psS, numS, kpS, odS, psU, numU, kpU, odU, (nI (i + 1)), (sp_nx pg.length (i + 1)), L, 0, ⟨hS0, hU0, nxR_nx hi, by omega, by rw [hin]; rfl, by rw [hin]; rfl⟩, by rw [ht]; exact hP9, hD9⟩, hS.F ht⟩) hS.2.2 d_Wk_perform_302
end
section
set_option maxHeartbeats 16000000 in
set_option maxRecDepth 100000 in
theorem c_Wk_doNext (l : Launch) (D : va_G) (ka : Nat → ClassId) (sz : Nat) (w r s sn sk so u un uk uo : Nat) (t ta tb tc : Nat) (pa d L : Nat) (tn nx : Int32) (na : Option Nat) (P : Nat → Int64) (kn toc tdn tld tsr : Int32) (trs : Int64) (ops fs : Nat → Int32) (ss : Nat → Int64) (pg : Pg) (rg numS numU : Nat → Int64) (psS psU : List Nat) (kpS odS kpU odU : Nat → Int32) (hS0 : dOK psS kpS odS) (hU0 : dOK psU kpU odU) (hpg : pgR pg ops fs ss) (hnx : nxR pg.length nx na) (hd : d ≤ 300) : Met l y_Wk_doNext w_Wk_doNext ({ frames := 3, cells := 0, slots := 0, locals := 72 }) (pW classes (tyS ka) D [.ref w, .ref pa] ([(w, .inr (3, [.ref r, .ref s, .ref u, .ref t, .int tn, .int nx, .int (nI d), .int (nI L), .int (nI 0)])), (r, .inl ((ka 0), 8, .inr (.inl rg))), (s, .inr (0, [.ref sn, .ref sk, .ref so, .int (nI psS.length)])), (sn, .inl ((ka 0), 256, .inr (.inl numS))), (sk, .inl ((ka 2), 256, .inl kpS)), (so, .inl ((ka 1), 256, .inl odS)), (u, .inr (0, [.ref un, .ref uk, .ref uo, .int (nI psU.length)])), (un, .inl ((ka 0), 256, .inr (.inl numU))), (uk, .inl ((ka 2), 256, .inl kpU)), (uo, .inl ((ka 1), 256, .inl odU)), (t, .inr (1, [.ref ta, .ref tb, .ref tc, .int (nI pg.length), .int kn, .int toc, .int tdn, .int tld, .int tsr, .long trs])), (ta, .inl ((ka 1), 32, .inl ops)), (tb, .inl ((ka 1), 32, .inl fs)), (tc, .inl ((ka 0), 32, .inr (.inl ss))), (pa, .inl ((ka 0), 256, .inr (.inl P)))]) sz) (va_Qv (fun _ : Unit => True) (fun (_ : Unit) t9 => ∃ (rg' : Nat → Int64) (psS' : List Nat) (numS' : Nat → Int64) (kpS' odS' : Nat → Int32) (psU' : List Nat) (numU' : Nat → Int64) (kpU' odU' : Nat → Int32) (nx' : Int32) (a' : Option Nat) (d' L' o' : Nat), (dOK psS' kpS' odS' ∧ dOK psU' kpU' odU' ∧ nxR pg.length nx' a' ∧ o' ≤ 3 ∧ (rg', dm psU' numU', psU'.length, a', d', L', o') = sp_st pg (wk_ld (dm psS numS) P) (rg, dm psU numU, psU.length, na, d, L, 0) ∧ dm psS' numS' = wk_sn pg P (rg, dm psU numU, psU.length, na, d, L, 0) (dm psS numS)) ∧ va_P D classes ([(w, .inr (3, [.ref r, .ref s, .ref u, .ref t, .int tn, .int nx', .int (nI d'), .int (nI L'), .int (nI o')])), (r, .inl ((ka 0), 8, .inr (.inl rg'))), (s, .inr (0, [.ref sn, .ref sk, .ref so, .int (nI psS'.length)])), (sn, .inl ((ka 0), 256, .inr (.inl numS'))), (sk, .inl ((ka 2), 256, .inl kpS')), (so, .inl ((ka 1), 256, .inl odS')), (u, .inr (0, [.ref un, .ref uk, .ref uo, .int (nI psU'.length)])), (un, .inl ((ka 0), 256, .inr (.inl numU'))), (uk, .inl ((ka 2), 256, .inl kpU')), (uo, .inl ((ka 1), 256, .inl odU')), (t, .inr (1, [.ref ta, .ref tb, .ref tc, .int (nI pg.length), .int kn, .int toc, .int tdn, .int tld, .int tsr, .long trs])), (ta, .inl ((ka 1), 32, .inl ops)), (tb, .inl ((ka 1), 32, .inl fs)), (tc, .inl ((ka 0), 32, .inr (.inl ss))), (pa, .inl ((ka 0), 256, .inr (.inl P)))]) t9.heap ∧ va_D (va_A ([(w, .inr (3, [.ref r, .ref s, .ref u, .ref t, .int tn, .int nx, .int (nI d), .int (nI L), .int (nI 0)])), (r, .inl ((ka 0), 8, .inr (.inl rg))), (s, .inr (0, [.ref sn, .ref sk, .ref so, .int (nI psS.length)])), (sn, .inl ((ka 0), 256, .inr (.inl numS))), (sk, .inl ((ka 2), 256, .inl kpS)), (so, .inl ((ka 1), 256, .inl odS)), (u, .inr (0, [.ref un, .ref uk, .ref uo, .int (nI psU.length)])), (un, .inl ((ka 0), 256, .inr (.inl numU))), (uk, .inl ((ka 2), 256, .inl kpU)), (uo, .inl ((ka 1), 256, .inl odU)), (t, .inr (1, [.ref ta, .ref tb, .ref tc, .int (nI pg.length), .int kn, .int toc, .int tdn, .int tld, .int tsr, .long trs])), (ta, .inl ((ka 1), 32, .inl ops)), (tb, .inl ((ka 1), 32, .inl fs)), (tc, .inl ((ka 0), 32, .inr (.inl ss))), (pa, .inl ((ka 0), 256, .inr (.inl P)))]) sz) ([(w, .inr (3, [.ref r, .ref s, .ref u, .ref t, .int tn, .int nx', .int (nI d'), .int (nI L'), .int (nI o')])), (r, .inl ((ka 0), 8, .inr (.inl rg'))), (s, .inr (0, [.ref sn, .ref sk, .ref so, .int (nI psS'.length)])), (sn, .inl ((ka 0), 256, .inr (.inl numS'))), (sk, .inl ((ka 2), 256, .inl kpS')), (so, .inl ((ka 1), 256, .inl odS')), (u, .inr (0, [.ref un, .ref uk, .ref uo, .int (nI psU'.length)])), (un, .inl ((ka 0), 256, .inr (.inl numU'))), (uk, .inl ((ka 2), 256, .inl kpU')), (uo, .inl ((ka 1), 256, .inl odU')), (t, .inr (1, [.ref ta, .ref tb, .ref tc, .int (nI pg.length), .int kn, .int toc, .int tdn, .int tld, .int tsr, .long trs])), (ta, .inl ((ka 1), 32, .inl ops)), (tb, .inl ((ka 1), 32, .inl fs)), (tc, .inl ((ka 0), 32, .inr (.inl ss))), (pa, .inl ((ka 0), 256, .inr (.inl P)))])) (va_A ([(w, .inr (3, [.ref r, .ref s, .ref u, .ref t, .int tn, .int nx, .int (nI d), .int (nI L), .int (nI 0)])), (r, .inl ((ka 0), 8, .inr (.inl rg))), (s, .inr (0, [.ref sn, .ref sk, .ref so, .int (nI psS.length)])), (sn, .inl ((ka 0), 256, .inr (.inl numS))), (sk, .inl ((ka 2), 256, .inl kpS)), (so, .inl ((ka 1), 256, .inl odS)), (u, .inr (0, [.ref un, .ref uk, .ref uo, .int (nI psU.length)])), (un, .inl ((ka 0), 256, .inr (.inl numU))), (uk, .inl ((ka 2), 256, .inl kpU)), (uo, .inl ((ka 1), 256, .inl odU)), (t, .inr (1, [.ref ta, .ref tb, .ref tc, .int (nI pg.length), .int kn, .int toc, .int tdn, .int tld, .int tsr, .long trs])), (ta, .inl ((ka 1), 32, .inl ops)), (tb, .inl ((ka 1), 32, .inl fs)), (tc, .inl ((ka 0), 32, .inr (.inl ss))), (pa, .inl ((ka 0), 256, .inr (.inl P)))]) sz)) 0 0 (va_A ([(w, .inr (3, [.ref r, .ref s, .ref u, .ref t, .int tn, .int nx, .int (nI d), .int (nI L), .int (nI 0)])), (r, .inl ((ka 0), 8, .inr (.inl rg))), (s, .inr (0, [.ref sn, .ref sk, .ref so, .int (nI psS.length)])), (sn, .inl ((ka 0), 256, .inr (.inl numS))), (sk, .inl ((ka 2), 256, .inl kpS)), (so, .inl ((ka 1), 256, .inl odS)), (u, .inr (0, [.ref un, .ref uk, .ref uo, .int (nI psU.length)])), (un, .inl ((ka 0), 256, .inr (.inl numU))), (uk, .inl ((ka 2), 256, .inl kpU)), (uo, .inl ((ka 1), 256, .inl odU)), (t, .inr (1, [.ref ta, .ref tb, .ref tc, .int (nI pg.length), .int kn, .int toc, .int tdn, .int tld, .int tsr, .long trs])), (ta, .inl ((ka 1), 32, .inl ops)), (tb, .inl ((ka 1), 32, .inl fs)), (tc, .inl ((ka 0), 32, .inr (.inl ss))), (pa, .inl ((ka 0), 256, .inr (.inl P)))]) sz) := by
  refine Met.ofW (cc := b_Wk_doNext) (maxL := 4) (ret := none) (by decide) rfl ?_
  intro pP eE sS mM args below meth cC s1 B hml hv
  obtain ⟨rfl, hsz, hP, hK, hN, hD0⟩ := hv
  have hx := B.exec
  have hb := B.bytes
  have hr := B.returns
  have hts := atoms_spec (ws := w_Wk_doNext) B.pre
  have hown : sS.vm.findClass "VersionedBlock$Worker" = some mM.cls := findClass_of_methodNamed B.named
  have hlocks := B.notSynchronized
  subst hsz
  have hD := hD0.self (sz := sS.heap.size)
  generalize hAe : va_A ([(w, .inr (3, [.ref r, .ref s, .ref u, .ref t, .int tn, .int nx, .int (nI d), .int (nI L), .int (nI 0)])), (r, .inl ((ka 0), 8, .inr (.inl rg))), (s, .inr (0, [.ref sn, .ref sk, .ref so, .int (nI psS.length)])), (sn, .inl ((ka 0), 256, .inr (.inl numS))), (sk, .inl ((ka 2), 256, .inl kpS)), (so, .inl ((ka 1), 256, .inl odS)), (u, .inr (0, [.ref un, .ref uk, .ref uo, .int (nI psU.length)])), (un, .inl ((ka 0), 256, .inr (.inl numU))), (uk, .inl ((ka 2), 256, .inl kpU)), (uo, .inl ((ka 1), 256, .inl odU)), (t, .inr (1, [.ref ta, .ref tb, .ref tc, .int (nI pg.length), .int kn, .int toc, .int tdn, .int tld, .int tsr, .long trs])), (ta, .inl ((ka 1), 32, .inl ops)), (tb, .inl ((ka 1), 32, .inl fs)), (tc, .inl ((ka 0), 32, .inr (.inl ss))), (pa, .inl ((ka 0), 256, .inr (.inl P)))]) sS.heap.size = A at hD ⊢
  have hA : ∀ q : Nat, sS.heap.size ≤ q → A q := fun q h => by rw [← hAe]; exact Or.inr h
  have hS : va_S A sS.heap sS.heap [] := va_S.rf
  have hl := lv_entry ([.ref w, .ref pa]) (n := 4) (Nat.le_of_ble_eq_true rfl)
  rw [lg_entry_eq]
  generalize (lg_sl ([.ref w, .ref pa]) ++ List.replicate (4 - (lg_sl ([.ref w, .ref pa])).length) Slot.unset).toArray = ls at hl ⊢
  have hl : lv_has ls 4 [(0, .ref w), (1, .ref pa)] := hl
  refine lv_aload_n hx hb d_Wk_doNext_0 rfl (lv_at hl 0 rfl) ?_
  refine va_get (D := D) (ci := 3) (v := .ref t) (C := "VersionedBlock$Worker") (T := T_Wk) (N := 9) hx hb hts (fun w h => List.mem_cons_of_mem _ (il_Wk w h)) hown hK hP 0 rfl rfl 3 (by decide) (hts _ (List.mem_cons_of_mem _ mw_1_229)) (fun _ h9 => h9) rfl d_Wk_doNext_1 ?_
  refine lv_astore_n (lv' := [(2, .ref t), (0, .ref w), (1, .ref pa)]) hx hb d_Wk_doNext_4 rfl hl (by decide) rfl (fun ls hl => ?_)
  refine lv_aload_n hx hb d_Wk_doNext_5 rfl (lv_at hl 0 rfl) ?_
  refine lv_ifnull hx hb d_Wk_doNext_6 ?_
  refine lv_aload_n hx hb d_Wk_doNext_9 rfl (lv_at hl 0 rfl) ?_
  refine lv_aload_n hx hb d_Wk_doNext_10 rfl (lv_at hl 1 rfl) ?_
  refine va_get (D := D) (ci := 3) (v := .int nx) (C := "VersionedBlock$Worker") (T := T_Wk) (N := 9) hx hb hts (fun w h => List.mem_cons_of_mem _ (il_Wk w h)) hown hK hP 0 rfl rfl 5 (by decide) (hts _ (List.mem_cons_of_mem _ mw_1_231)) (fun _ h9 => h9) rfl d_Wk_doNext_11 ?_
  refine lv_i2l (v := nx.toInt64) hx hb d_Wk_doNext_14 rfl ?_
  have hPc := hP.sub (ws' := [(t, .inr (1, [.ref ta, .ref tb, .ref tc, .int (nI pg.length), .int kn, .int toc, .int tdn, .int tld, .int tsr, .long trs]))]) [10] rfl
  refine vp_callSi (run_of (va_runV (As := [.long nx.toInt64]) (rest := []) ⟨hx, hb, hml, hown, hts⟩ (c_Tr_has l D ka t ta tb tc pg.length kn toc tdn tld tsr trs nx.toInt64 hpg.1) ⟨callB_of 1 hts (gd_tb mw_2_40) rfl rfl rfl (hts _ (List.mem_cons_of_mem _ mw_1_5)) (hts _ (List.mem_cons_of_mem _ mw_2_37)) (by decide +kernel) ⟨Nat.le_of_ble_eq_true rfl, Nat.le_of_ble_eq_true rfl⟩, (hts _ (List.mem_cons_of_mem _ mw_2_38)), (hts _ (List.mem_cons_of_mem _ mw_2_39))⟩ ⟨pR_blind, va_recv hK hPc (ci := 1) (q0 := 0) rfl rfl, pR_pre hK hN hPc⟩ rfl rfl hl.1 rfl (lv_room (Nat.le_of_ble_eq_true rfl)) d_Wk_doNext_15 ⟨Nat.le_of_ble_eq_true rfl, Nat.le_of_ble_eq_true rfl⟩)) (fun r_15 hr_15 => ?_)
  refine lv_if_ne (tgt := 29) hx hb d_Wk_doNext_18 (by decide) (fun c_18 => ?_) (fun c_18 => ?_)
  · obtain ⟨i, rfl, hi, rfl⟩ := nxR_yes hpg.1 hnx hr_15 c_18
    refine lv_aload_n hx hb d_Wk_doNext_29 rfl (lv_at hl 1 rfl) ?_
    refine va_get (D := D) (ci := 3) (v := .int (nI d)) (C := "VersionedBlock$Worker") (T := T_Wk) (N := 9) hx hb hts (fun w h => List.mem_cons_of_mem _ (il_Wk w h)) hown hK hP 0 rfl rfl 6 (by decide) (hts _ (List.mem_cons_of_mem _ mw_1_232)) (fun _ h9 => h9) rfl d_Wk_doNext_30 ?_
    refine lv_sipush (v := (nI 300)) hx hb d_Wk_doNext_33 (by decide) ?_
    refine lv_icmp_lt (tgt := 47) hx hb d_Wk_doNext_36 (by decide) (fun c_36 => ?_) (fun c_36 => ?_)
    · have hdl : ¬ 300 ≤ d := fun q => absurd c_36 (nI_nlt q (by omega))
      refine lv_aload_n hx hb d_Wk_doNext_47 rfl (lv_at hl 1 rfl) ?_
      refine va_get (D := D) (ci := 3) (v := .int (nI i)) (C := "VersionedBlock$Worker") (T := T_Wk) (N := 9) hx hb hts (fun w h => List.mem_cons_of_mem _ (il_Wk w h)) hown hK hP 0 rfl rfl 5 (by decide) (hts _ (List.mem_cons_of_mem _ mw_1_231)) (fun _ h9 => h9) rfl d_Wk_doNext_48 ?_
      refine lv_istore_n (lv' := [(3, .int (nI i)), (2, .ref t), (0, .ref w), (1, .ref pa)]) hx hb d_Wk_doNext_51 rfl hl (by decide) rfl (fun ls hl => ?_)
      refine lv_aload_n hx hb d_Wk_doNext_52 rfl (lv_at hl 2 rfl) ?_
      refine lv_dup hx hb d_Wk_doNext_53 rfl ?_
      refine va_get (D := D) (ci := 3) (v := .int (nI i)) (C := "VersionedBlock$Worker") (T := T_Wk) (N := 9) hx hb hts (fun w h => List.mem_cons_of_mem _ (il_Wk w h)) hown hK hP 0 rfl rfl 5 (by decide) (hts _ (List.mem_cons_of_mem _ mw_1_231)) (fun _ h9 => h9) rfl d_Wk_doNext_54 ?_
      refine lv_iconst (v := 1) hx hb d_Wk_doNext_57 (by decide) ?_
      refine lv_iadd hx hb d_Wk_doNext_58 ?_
      refine lv_topi (fun v_58 ev_58 => ?_)
      obtain rfl : v_58 = nI (i + 1) := ev_58.trans (nI_1 _)
      refine va_put (D := D) (ci := 3) (v := .int (nI (i + 1))) (ty := .int) (C := "VersionedBlock$Worker") (T := T_Wk) (N := 9) hx hb hts (fun w h => List.mem_cons_of_mem _ (il_Wk w h)) t_Wk t_Wk_ok n_Wk hown hK hP hD hS 0 rfl rfl 5 (by decide) (hts _ (List.mem_cons_of_mem _ mw_1_231)) (fun _ h9 => h9) rfl (by decide +kernel) rfl rfl (Nat.le_of_ble_eq_true rfl) d_Wk_doNext_59 (fun H locs hP hD hS => ?_)
      have hP : va_P D classes ([(w, .inr (3, [.ref r, .ref s, .ref u, .ref t, .int tn, .int (nI (i + 1)), .int (nI d), .int (nI L), .int (nI 0)])), (r, .inl ((ka 0), 8, .inr (.inl rg))), (s, .inr (0, [.ref sn, .ref sk, .ref so, .int (nI psS.length)])), (sn, .inl ((ka 0), 256, .inr (.inl numS))), (sk, .inl ((ka 2), 256, .inl kpS)), (so, .inl ((ka 1), 256, .inl odS)), (u, .inr (0, [.ref un, .ref uk, .ref uo, .int (nI psU.length)])), (un, .inl ((ka 0), 256, .inr (.inl numU))), (uk, .inl ((ka 2), 256, .inl kpU)), (uo, .inl ((ka 1), 256, .inl odU)), (t, .inr (1, [.ref ta, .ref tb, .ref tc, .int (nI pg.length), .int kn, .int toc, .int tdn, .int tld, .int tsr, .long trs])), (ta, .inl ((ka 1), 32, .inl ops)), (tb, .inl ((ka 1), 32, .inl fs)), (tc, .inl ((ka 0), 32, .inr (.inl ss))), (pa, .inl ((ka 0), 256, .inr (.inl P)))]) H := hP
      have hD : va_D A ([(w, .inr (3, [.ref r, .ref s, .ref u, .ref t, .int tn, .int (nI (i + 1)), .int (nI d), .int (nI L), .int (nI 0)])), (r, .inl ((ka 0), 8, .inr (.inl rg))), (s, .inr (0, [.ref sn, .ref sk, .ref so, .int (nI psS.length)])), (sn, .inl ((ka 0), 256, .inr (.inl numS))), (sk, .inl ((ka 2), 256, .inl kpS)), (so, .inl ((ka 1), 256, .inl odS)), (u, .inr (0, [.ref un, .ref uk, .ref uo, .int (nI psU.length)])), (un, .inl ((ka 0), 256, .inr (.inl numU))), (uk, .inl ((ka 2), 256, .inl kpU)), (uo, .inl ((ka 1), 256, .inl odU)), (t, .inr (1, [.ref ta, .ref tb, .ref tc, .int (nI pg.length), .int kn, .int toc, .int tdn, .int tld, .int tsr, .long trs])), (ta, .inl ((ka 1), 32, .inl ops)), (tb, .inl ((ka 1), 32, .inl fs)), (tc, .inl ((ka 0), 32, .inr (.inl ss))), (pa, .inl ((ka 0), 256, .inr (.inl P)))]) := hD
      refine lv_aload_n hx hb d_Wk_doNext_62 rfl (lv_at hl 2 rfl) ?_
      refine lv_dup hx hb d_Wk_doNext_63 rfl ?_
      refine va_get (D := D) (ci := 3) (v := .int (nI d)) (C := "VersionedBlock$Worker") (T := T_Wk) (N := 9) hx hb hts (fun w h => List.mem_cons_of_mem _ (il_Wk w h)) hown hK hP 0 rfl rfl 6 (by decide) (hts _ (List.mem_cons_of_mem _ mw_1_232)) (fun _ h9 => h9) rfl d_Wk_doNext_64 ?_
      refine lv_iconst (v := 1) hx hb d_Wk_doNext_67 (by decide) ?_
      refine lv_iadd hx hb d_Wk_doNext_68 ?_
      refine lv_topi (fun v_68 ev_68 => ?_)
      obtain rfl : v_68 = nI (d + 1) := ev_68.trans (nI_1 _)
      refine va_put (D := D) (ci := 3) (v := .int (nI (d + 1))) (ty := .int) (C := "VersionedBlock$Worker") (T := T_Wk) (N := 9) hx hb hts (fun w h => List.mem_cons_of_mem _ (il_Wk w h)) t_Wk t_Wk_ok n_Wk hown hK hP hD hS 0 rfl rfl 6 (by decide) (hts _ (List.mem_cons_of_mem _ mw_1_232)) (fun _ h9 => h9) rfl (by decide +kernel) rfl rfl (Nat.le_of_ble_eq_true rfl) d_Wk_doNext_69 (fun H locs hP hD hS => ?_)
      have hP : va_P D classes ([(w, .inr (3, [.ref r, .ref s, .ref u, .ref t, .int tn, .int (nI (i + 1)), .int (nI (d + 1)), .int (nI L), .int (nI 0)])), (r, .inl ((ka 0), 8, .inr (.inl rg))), (s, .inr (0, [.ref sn, .ref sk, .ref so, .int (nI psS.length)])), (sn, .inl ((ka 0), 256, .inr (.inl numS))), (sk, .inl ((ka 2), 256, .inl kpS)), (so, .inl ((ka 1), 256, .inl odS)), (u, .inr (0, [.ref un, .ref uk, .ref uo, .int (nI psU.length)])), (un, .inl ((ka 0), 256, .inr (.inl numU))), (uk, .inl ((ka 2), 256, .inl kpU)), (uo, .inl ((ka 1), 256, .inl odU)), (t, .inr (1, [.ref ta, .ref tb, .ref tc, .int (nI pg.length), .int kn, .int toc, .int tdn, .int tld, .int tsr, .long trs])), (ta, .inl ((ka 1), 32, .inl ops)), (tb, .inl ((ka 1), 32, .inl fs)), (tc, .inl ((ka 0), 32, .inr (.inl ss))), (pa, .inl ((ka 0), 256, .inr (.inl P)))]) H := hP
      have hD : va_D A ([(w, .inr (3, [.ref r, .ref s, .ref u, .ref t, .int tn, .int (nI (i + 1)), .int (nI (d + 1)), .int (nI L), .int (nI 0)])), (r, .inl ((ka 0), 8, .inr (.inl rg))), (s, .inr (0, [.ref sn, .ref sk, .ref so, .int (nI psS.length)])), (sn, .inl ((ka 0), 256, .inr (.inl numS))), (sk, .inl ((ka 2), 256, .inl kpS)), (so, .inl ((ka 1), 256, .inl odS)), (u, .inr (0, [.ref un, .ref uk, .ref uo, .int (nI psU.length)])), (un, .inl ((ka 0), 256, .inr (.inl numU))), (uk, .inl ((ka 2), 256, .inl kpU)), (uo, .inl ((ka 1), 256, .inl odU)), (t, .inr (1, [.ref ta, .ref tb, .ref tc, .int (nI pg.length), .int kn, .int toc, .int tdn, .int tld, .int tsr, .long trs])), (ta, .inl ((ka 1), 32, .inl ops)), (tb, .inl ((ka 1), 32, .inl fs)), (tc, .inl ((ka 0), 32, .inr (.inl ss))), (pa, .inl ((ka 0), 256, .inr (.inl P)))]) := hD
      refine lv_aload_n hx hb d_Wk_doNext_72 rfl (lv_at hl 2 rfl) ?_
      refine lv_aload_n hx hb d_Wk_doNext_73 rfl (lv_at hl 1 rfl) ?_
      refine lv_iload_n hx hb d_Wk_doNext_74 rfl (lv_at hl 0 rfl) ?_
      refine lv_aload_n hx hb d_Wk_doNext_75 rfl (lv_at hl 3 rfl) ?_
      have hPc := hP.sub (ws' := [(w, .inr (3, [.ref r, .ref s, .ref u, .ref t, .int tn, .int (nI (i + 1)), .int (nI (d + 1)), .int (nI L), .int (nI 0)])), (r, .inl ((ka 0), 8, .inr (.inl rg))), (s, .inr (0, [.ref sn, .ref sk, .ref so, .int (nI psS.length)])), (sn, .inl ((ka 0), 256, .inr (.inl numS))), (sk, .inl ((ka 2), 256, .inl kpS)), (so, .inl ((ka 1), 256, .inl odS)), (u, .inr (0, [.ref un, .ref uk, .ref uo, .int (nI psU.length)])), (un, .inl ((ka 0), 256, .inr (.inl numU))), (uk, .inl ((ka 2), 256, .inl kpU)), (uo, .inl ((ka 1), 256, .inl odU)), (t, .inr (1, [.ref ta, .ref tb, .ref tc, .int (nI pg.length), .int kn, .int toc, .int tdn, .int tld, .int tsr, .long trs])), (ta, .inl ((ka 1), 32, .inl ops)), (tb, .inl ((ka 1), 32, .inl fs)), (tc, .inl ((ka 0), 32, .inr (.inl ss))), (pa, .inl ((ka 0), 256, .inr (.inl P)))]) [0, 1, 2, 3, 4, 5, 6, 7, 8, 9, 10, 11, 12, 13, 14] rfl
      have hDc := hD.sub (ws' := [(w, .inr (3, [.ref r, .ref s, .ref u, .ref t, .int tn, .int (nI (i + 1)), .int (nI (d + 1)), .int (nI L), .int (nI 0)])), (r, .inl ((ka 0), 8, .inr (.inl rg))), (s, .inr (0, [.ref sn, .ref sk, .ref so, .int (nI psS.length)])), (sn, .inl ((ka 0), 256, .inr (.inl numS))), (sk, .inl ((ka 2), 256, .inl kpS)), (so, .inl ((ka 1), 256, .inl odS)), (u, .inr (0, [.ref un, .ref uk, .ref uo, .int (nI psU.length)])), (un, .inl ((ka 0), 256, .inr (.inl numU))), (uk, .inl ((ka 2), 256, .inl kpU)), (uo, .inl ((ka 1), 256, .inl odU)), (t, .inr (1, [.ref ta, .ref tb, .ref tc, .int (nI pg.length), .int kn, .int toc, .int tdn, .int tld, .int tsr, .long trs])), (ta, .inl ((ka 1), 32, .inl ops)), (tb, .inl ((ka 1), 32, .inl fs)), (tc, .inl ((ka 0), 32, .inr (.inl ss))), (pa, .inl ((ka 0), 256, .inr (.inl P)))]) [0, 1, 2, 3, 4, 5, 6, 7, 8, 9, 10, 11, 12, 13, 14] (by decide) rfl
      have hFc := va_free (wc := [(w, .inr (3, [.ref r, .ref s, .ref u, .ref t, .int tn, .int (nI (i + 1)), .int (nI (d + 1)), .int (nI L), .int (nI 0)])), (r, .inl ((ka 0), 8, .inr (.inl rg))), (s, .inr (0, [.ref sn, .ref sk, .ref so, .int (nI psS.length)])), (sn, .inl ((ka 0), 256, .inr (.inl numS))), (sk, .inl ((ka 2), 256, .inl kpS)), (so, .inl ((ka 1), 256, .inl odS)), (u, .inr (0, [.ref un, .ref uk, .ref uo, .int (nI psU.length)])), (un, .inl ((ka 0), 256, .inr (.inl numU))), (uk, .inl ((ka 2), 256, .inl kpU)), (uo, .inl ((ka 1), 256, .inl odU)), (t, .inr (1, [.ref ta, .ref tb, .ref tc, .int (nI pg.length), .int kn, .int toc, .int tdn, .int tld, .int tsr, .long trs])), (ta, .inl ((ka 1), 32, .inl ops)), (tb, .inl ((ka 1), 32, .inl fs)), (tc, .inl ((ka 0), 32, .inr (.inl ss))), (pa, .inl ((ka 0), 256, .inr (.inl P)))]) hD hS hA [0, 1, 2, 3, 4, 5, 6, 7, 8, 9, 10, 11, 12, 13, 14] rfl
      refine va_callv (va_runV (As := [.ref t, .int (nI i), .ref pa]) (rest := []) ⟨hx, hb, hml, hown, hts⟩ (c_Wk_perform l D ka H.size w r s sn sk so u un uk uo t ta tb tc pa i d L tn P kn toc tdn tld tsr trs ops fs ss pg rg numS numU psS psU kpS odS kpU odU hS0 hU0 hpg hi) ⟨callB_of 3 hts (gd_tb mw_2_45) rfl rfl rfl (hts _ (List.mem_cons_of_mem _ mw_1_8)) (hts _ (List.mem_cons_of_mem _ mw_2_42)) (by decide +kernel) ⟨Nat.le_of_ble_eq_true rfl, Nat.le_of_ble_eq_true rfl⟩, (hts _ (List.mem_cons_of_mem _ mw_2_44)), (hts _ (List.mem_cons_of_mem _ (tb_sel (List.mem_of_getElem? (i := 3) rfl))))⟩ ⟨pW_blind, va_recv hK hPc (ci := 3) (q0 := 0) rfl rfl, pW_pre hK hN hPc hDc⟩ rfl rfl hl.1 rfl (lv_room (Nat.le_of_ble_eq_true rfl)) d_Wk_doNext_76 ⟨Nat.le_of_ble_eq_true rfl, Nat.le_of_ble_eq_true rfl⟩) hS (fun q _ h => hFc q h) hFc (fun u9 t9 H1 locs ht hvm hr_76 hB hz1 hk1 hS => ?_)
      obtain ⟨rg', psS', numS', kpS', odS', psU', numU', kpU', odU', nx', a', L', o', hrel_76, hP1, hD1⟩ := hB
      rw [ht] at hP1
      obtain ⟨hP, hD⟩ := va_join (wr := []) (w1 := [(w, .inr (3, [.ref r, .ref s, .ref u, .ref t, .int tn, .int nx', .int (nI (d + 1)), .int (nI L'), .int (nI o')])), (r, .inl ((ka 0), 8, .inr (.inl rg'))), (s, .inr (0, [.ref sn, .ref sk, .ref so, .int (nI psS'.length)])), (sn, .inl ((ka 0), 256, .inr (.inl numS'))), (sk, .inl ((ka 2), 256, .inl kpS')), (so, .inl ((ka 1), 256, .inl odS')), (u, .inr (0, [.ref un, .ref uk, .ref uo, .int (nI psU'.length)])), (un, .inl ((ka 0), 256, .inr (.inl numU'))), (uk, .inl ((ka 2), 256, .inl kpU')), (uo, .inl ((ka 1), 256, .inl odU')), (t, .inr (1, [.ref ta, .ref tb, .ref tc, .int (nI pg.length), .int kn, .int toc, .int tdn, .int tld, .int tsr, .long trs])), (ta, .inl ((ka 1), 32, .inl ops)), (tb, .inl ((ka 1), 32, .inl fs)), (tc, .inl ((ka 0), 32, .inr (.inl ss))), (pa, .inl ((ka 0), 256, .inr (.inl P)))]) hP hD [0, 1, 2, 3, 4, 5, 6, 7, 8, 9, 10, 11, 12, 13, 14] [] rfl rfl (by decide) (by decide) hk1 hFc hP1 hD1
      generalize H1 = H at hP hS ⊢
      have hP : va_P D classes ([(w, .inr (3, [.ref r, .ref s, .ref u, .ref t, .int tn, .int nx', .int (nI (d + 1)), .int (nI L'), .int (nI o')])), (r, .inl ((ka 0), 8, .inr (.inl rg'))), (s, .inr (0, [.ref sn, .ref sk, .ref so, .int (nI psS'.length)])), (sn, .inl ((ka 0), 256, .inr (.inl numS'))), (sk, .inl ((ka 2), 256, .inl kpS')), (so, .inl ((ka 1), 256, .inl odS')), (u, .inr (0, [.ref un, .ref uk, .ref uo, .int (nI psU'.length)])), (un, .inl ((ka 0), 256, .inr (.inl numU'))), (uk, .inl ((ka 2), 256, .inl kpU')), (uo, .inl ((ka 1), 256, .inl odU')), (t, .inr (1, [.ref ta, .ref tb, .ref tc, .int (nI pg.length), .int kn, .int toc, .int tdn, .int tld, .int tsr, .long trs])), (ta, .inl ((ka 1), 32, .inl ops)), (tb, .inl ((ka 1), 32, .inl fs)), (tc, .inl ((ka 0), 32, .inr (.inl ss))), (pa, .inl ((ka 0), 256, .inr (.inl P)))]) H := hP
      have hD : va_D A ([(w, .inr (3, [.ref r, .ref s, .ref u, .ref t, .int tn, .int nx', .int (nI (d + 1)), .int (nI L'), .int (nI o')])), (r, .inl ((ka 0), 8, .inr (.inl rg'))), (s, .inr (0, [.ref sn, .ref sk, .ref so, .int (nI psS'.length)])), (sn, .inl ((ka 0), 256, .inr (.inl numS'))), (sk, .inl ((ka 2), 256, .inl kpS')), (so, .inl ((ka 1), 256, .inl odS')), (u, .inr (0, [.ref un, .ref uk, .ref uo, .int (nI psU'.length)])), (un, .inl ((ka 0), 256, .inr (.inl numU'))), (uk, .inl ((ka 2), 256, .inl kpU')), (uo, .inl ((ka 1), 256, .inl odU')), (t, .inr (1, [.ref ta, .ref tb, .ref tc, .int (nI pg.length), .int kn, .int toc, .int tdn, .int tld, .int tsr, .long trs])), (ta, .inl ((ka 1), 32, .inl ops)), (tb, .inl ((ka 1), 32, .inl fs)), (tc, .inl ((ka 0), 32, .inr (.inl ss))), (pa, .inl ((ka 0), 256, .inr (.inl P)))]) := hD
      have hP9 := hP.sub (ws' := [(w, .inr (3, [.ref r, .ref s, .ref u, .ref t, .int tn, .int nx', .int (nI (d + 1)), .int (nI L'), .int (nI o')])), (r, .inl ((ka 0), 8, .inr (.inl rg'))), (s, .inr (0, [.ref sn, .ref sk, .ref so, .int (nI psS'.length)])), (sn, .inl ((ka 0), 256, .inr (.inl numS'))), (sk, .inl ((ka 2), 256, .inl kpS')), (so, .inl ((ka 1), 256, .inl odS')), (u, .inr (0, [.ref un, .ref uk, .ref uo, .int (nI psU'.length)])), (un, .inl ((ka 0), 256, .inr (.inl numU'))), (uk, .inl ((ka 2), 256, .inl kpU')), (uo, .inl ((ka 1), 256, .inl odU')), (t, .inr (1, [.ref ta, .ref tb, .ref tc, .int (nI pg.length), .int kn, .int toc, .int tdn, .int tld, .int tsr, .long trs])), (ta, .inl ((ka 1), 32, .inl ops)), (tb, .inl ((ka 1), 32, .inl fs)), (tc, .inl ((ka 0), 32, .inr (.inl ss))), (pa, .inl ((ka 0), 256, .inr (.inl P)))]) [0, 1, 2, 3, 4, 5, 6, 7, 8, 9, 10, 11, 12, 13, 14] rfl
      have hD9 := hD.sub (ws' := [(w, .inr (3, [.ref r, .ref s, .ref u, .ref t, .int tn, .int nx', .int (nI (d + 1)), .int (nI L'), .int (nI o')])), (r, .inl ((ka 0), 8, .inr (.inl rg'))), (s, .inr (0, [.ref sn, .ref sk, .ref so, .int (nI psS'.length)])), (sn, .inl ((ka 0), 256, .inr (.inl numS'))), (sk, .inl ((ka 2), 256, .inl kpS')), (so, .inl ((ka 1), 256, .inl odS')), (u, .inr (0, [.ref un, .ref uk, .ref uo, .int (nI psU'.length)])), (un, .inl ((ka 0), 256, .inr (.inl numU'))), (uk, .inl ((ka 2), 256, .inl kpU')), (uo, .inl ((ka 1), 256, .inl odU')), (t, .inr (1, [.ref ta, .ref tb, .ref tc, .int (nI pg.length), .int kn, .int toc, .int tdn, .int tld, .int tsr, .long trs])), (ta, .inl ((ka 1), 32, .inl ops)), (tb, .inl ((ka 1), 32, .inl fs)), (tc, .inl ((ka 0), 32, .inr (.inl ss))), (pa, .inl ((ka 0), 256, .inr (.inl P)))]) [0, 1, 2, 3, 4, 5, 6, 7, 8, 9, 10, 11, 12, 13, 14] (by decide) rfl
      exact W.vret hx hb hr (fun t9 ht hW => ⟨⟨(), rfl, trivial, rg', psS', numS', kpS', odS', psU', numU', kpU', odU', nx', a', (d + 1), L', o', ⟨hrel_76.1, hrel_76.2.1, hrel_76.2.2.1, hrel_76.2.2.2.1, hrel_76.2.2.2.2.1.trans (st_go9 hdl).symm, hrel_76.2.2.2.2.2.trans (wk_sn_go hdl).symm⟩, by rw [ht]; exact hP9, hD9⟩, hS.F ht⟩) hS.2.2 d_Wk_doNext_79
    · have hdl : 300 ≤ d := by
        rcases Nat.lt_or_ge d 300 with q | q
        · exact absurd (nI_lt q (by decide)) c_36
        · exact q
      refine lv_aload_n hx hb d_Wk_doNext_39 rfl (lv_at hl 1 rfl) ?_
      refine lv_iconst (v := (nI 3)) hx hb d_Wk_doNext_40 (by decide) ?_
      refine va_put (D := D) (ci := 3) (v := .int (nI 3)) (ty := .int) (C := "VersionedBlock$Worker") (T := T_Wk) (N := 9) hx hb hts (fun w h => List.mem_cons_of_mem _ (il_Wk w h)) t_Wk t_Wk_ok n_Wk hown hK hP hD hS 0 rfl rfl 8 (by decide) (hts _ (List.mem_cons_of_mem _ mw_1_234)) (fun _ h9 => h9) rfl (by decide +kernel) rfl rfl (Nat.le_of_ble_eq_true rfl) d_Wk_doNext_41 (fun H locs hP hD hS => ?_)
      have hP : va_P D classes ([(w, .inr (3, [.ref r, .ref s, .ref u, .ref t, .int tn, .int (nI i), .int (nI d), .int (nI L), .int (nI 3)])), (r, .inl ((ka 0), 8, .inr (.inl rg))), (s, .inr (0, [.ref sn, .ref sk, .ref so, .int (nI psS.length)])), (sn, .inl ((ka 0), 256, .inr (.inl numS))), (sk, .inl ((ka 2), 256, .inl kpS)), (so, .inl ((ka 1), 256, .inl odS)), (u, .inr (0, [.ref un, .ref uk, .ref uo, .int (nI psU.length)])), (un, .inl ((ka 0), 256, .inr (.inl numU))), (uk, .inl ((ka 2), 256, .inl kpU)), (uo, .inl ((ka 1), 256, .inl odU)), (t, .inr (1, [.ref ta, .ref tb, .ref tc, .int (nI pg.length), .int kn, .int toc, .int tdn, .int tld, .int tsr, .long trs])), (ta, .inl ((ka 1), 32, .inl ops)), (tb, .inl ((ka 1), 32, .inl fs)), (tc, .inl ((ka 0), 32, .inr (.inl ss))), (pa, .inl ((ka 0), 256, .inr (.inl P)))]) H := hP
      have hD : va_D A ([(w, .inr (3, [.ref r, .ref s, .ref u, .ref t, .int tn, .int (nI i), .int (nI d), .int (nI L), .int (nI 3)])), (r, .inl ((ka 0), 8, .inr (.inl rg))), (s, .inr (0, [.ref sn, .ref sk, .ref so, .int (nI psS.length)])), (sn, .inl ((ka 0), 256, .inr (.inl numS))), (sk, .inl ((ka 2), 256, .inl kpS)), (so, .inl ((ka 1), 256, .inl odS)), (u, .inr (0, [.ref un, .ref uk, .ref uo, .int (nI psU.length)])), (un, .inl ((ka 0), 256, .inr (.inl numU))), (uk, .inl ((ka 2), 256, .inl kpU)), (uo, .inl ((ka 1), 256, .inl odU)), (t, .inr (1, [.ref ta, .ref tb, .ref tc, .int (nI pg.length), .int kn, .int toc, .int tdn, .int tld, .int tsr, .long trs])), (ta, .inl ((ka 1), 32, .inl ops)), (tb, .inl ((ka 1), 32, .inl fs)), (tc, .inl ((ka 0), 32, .inr (.inl ss))), (pa, .inl ((ka 0), 256, .inr (.inl P)))]) := hD
      refine lv_goto (tgt := 79) hx hb d_Wk_doNext_44 (by decide) ?_
      have hP9 := hP.sub (ws' := [(w, .inr (3, [.ref r, .ref s, .ref u, .ref t, .int tn, .int (nI i), .int (nI d), .int (nI L), .int (nI 3)])), (r, .inl ((ka 0), 8, .inr (.inl rg))), (s, .inr (0, [.ref sn, .ref sk, .ref so, .int (nI psS.length)])), (sn, .inl ((ka 0), 256, .inr (.inl numS))), (sk, .inl ((ka 2), 256, .inl kpS)), (so, .inl ((ka 1), 256, .inl odS)), (u, .inr (0, [.ref un, .ref uk, .ref uo, .int (nI psU.length)])), (un, .inl ((ka 0), 256, .inr (.inl numU))), (uk, .inl ((ka 2), 256, .inl kpU)), (uo, .inl ((ka 1), 256, .inl odU)), (t, .inr (1, [.ref ta, .ref tb, .ref tc, .int (nI pg.length), .int kn, .int toc, .int tdn, .int tld, .int tsr, .long trs])), (ta, .inl ((ka 1), 32, .inl ops)), (tb, .inl ((ka 1), 32, .inl fs)), (tc, .inl ((ka 0), 32, .inr (.inl ss))), (pa, .inl ((ka 0), 256, .inr (.inl P)))]) [0, 1, 2, 3, 4, 5, 6, 7, 8, 9, 10, 11, 12, 13, 14] rfl
      have hD9 := hD.sub (ws' := [(w, .inr (3, [.ref r, .ref s, .ref u, .ref t, .int tn, .int (nI i), .int (nI d), .int (nI L), .int (nI 3)])), (r, .inl ((ka 0), 8, .inr (.inl rg))), (s, .inr (0, [.ref sn, .ref sk, .ref so, .int (nI psS.length)])), (sn, .inl ((ka 0), 256, .inr (.inl numS))), (sk, .inl ((ka 2), 256, .inl kpS)), (so, .inl ((ka 1), 256, .inl odS)), (u, .inr (0, [.ref un, .ref uk, .ref uo, .int (nI psU.length)])), (un, .inl ((ka 0), 256, .inr (.inl numU))), (uk, .inl ((ka 2), 256, .inl kpU)), (uo, .inl ((ka 1), 256, .inl odU)), (t, .inr (1, [.ref ta, .ref tb, .ref tc, .int (nI pg.length), .int kn, .int toc, .int tdn, .int tld, .int tsr, .long trs])), (ta, .inl ((ka 1), 32, .inl ops)), (tb, .inl ((ka 1), 32, .inl fs)), (tc, .inl ((ka 0), 32, .inr (.inl ss))), (pa, .inl ((ka 0), 256, .inr (.inl P)))]) [0, 1, 2, 3, 4, 5, 6, 7, 8, 9, 10, 11, 12, 13, 14] (by decide) rfl
      exact W.vret hx hb hr (fun t9 ht hW => ⟨⟨(), rfl, trivial, rg, psS, numS, kpS, odS, psU, numU, kpU, odU, (nI i), (some i), d, L, 3, ⟨hS0, hU0, ⟨hi, rfl⟩, by omega, (st_long9 hdl).symm, (sn_long9 hdl).symm⟩, by rw [ht]; exact hP9, hD9⟩, hS.F ht⟩) hS.2.2 d_Wk_doNext_79
  · obtain rfl := nxR_no hpg.1 hnx hr_15 c_18
    refine lv_aload_n hx hb d_Wk_doNext_21 rfl (lv_at hl 1 rfl) ?_
    refine lv_iconst (v := (nI 1)) hx hb d_Wk_doNext_22 (by decide) ?_
    refine va_put (D := D) (ci := 3) (v := .int (nI 1)) (ty := .int) (C := "VersionedBlock$Worker") (T := T_Wk) (N := 9) hx hb hts (fun w h => List.mem_cons_of_mem _ (il_Wk w h)) t_Wk t_Wk_ok n_Wk hown hK hP hD hS 0 rfl rfl 8 (by decide) (hts _ (List.mem_cons_of_mem _ mw_1_234)) (fun _ h9 => h9) rfl (by decide +kernel) rfl rfl (Nat.le_of_ble_eq_true rfl) d_Wk_doNext_23 (fun H locs hP hD hS => ?_)
    have hP : va_P D classes ([(w, .inr (3, [.ref r, .ref s, .ref u, .ref t, .int tn, .int nx, .int (nI d), .int (nI L), .int (nI 1)])), (r, .inl ((ka 0), 8, .inr (.inl rg))), (s, .inr (0, [.ref sn, .ref sk, .ref so, .int (nI psS.length)])), (sn, .inl ((ka 0), 256, .inr (.inl numS))), (sk, .inl ((ka 2), 256, .inl kpS)), (so, .inl ((ka 1), 256, .inl odS)), (u, .inr (0, [.ref un, .ref uk, .ref uo, .int (nI psU.length)])), (un, .inl ((ka 0), 256, .inr (.inl numU))), (uk, .inl ((ka 2), 256, .inl kpU)), (uo, .inl ((ka 1), 256, .inl odU)), (t, .inr (1, [.ref ta, .ref tb, .ref tc, .int (nI pg.length), .int kn, .int toc, .int tdn, .int tld, .int tsr, .long trs])), (ta, .inl ((ka 1), 32, .inl ops)), (tb, .inl ((ka 1), 32, .inl fs)), (tc, .inl ((ka 0), 32, .inr (.inl ss))), (pa, .inl ((ka 0), 256, .inr (.inl P)))]) H := hP
    have hD : va_D A ([(w, .inr (3, [.ref r, .ref s, .ref u, .ref t, .int tn, .int nx, .int (nI d), .int (nI L), .int (nI 1)])), (r, .inl ((ka 0), 8, .inr (.inl rg))), (s, .inr (0, [.ref sn, .ref sk, .ref so, .int (nI psS.length)])), (sn, .inl ((ka 0), 256, .inr (.inl numS))), (sk, .inl ((ka 2), 256, .inl kpS)), (so, .inl ((ka 1), 256, .inl odS)), (u, .inr (0, [.ref un, .ref uk, .ref uo, .int (nI psU.length)])), (un, .inl ((ka 0), 256, .inr (.inl numU))), (uk, .inl ((ka 2), 256, .inl kpU)), (uo, .inl ((ka 1), 256, .inl odU)), (t, .inr (1, [.ref ta, .ref tb, .ref tc, .int (nI pg.length), .int kn, .int toc, .int tdn, .int tld, .int tsr, .long trs])), (ta, .inl ((ka 1), 32, .inl ops)), (tb, .inl ((ka 1), 32, .inl fs)), (tc, .inl ((ka 0), 32, .inr (.inl ss))), (pa, .inl ((ka 0), 256, .inr (.inl P)))]) := hD
    refine lv_goto (tgt := 79) hx hb d_Wk_doNext_26 (by decide) ?_
    have hP9 := hP.sub (ws' := [(w, .inr (3, [.ref r, .ref s, .ref u, .ref t, .int tn, .int nx, .int (nI d), .int (nI L), .int (nI 1)])), (r, .inl ((ka 0), 8, .inr (.inl rg))), (s, .inr (0, [.ref sn, .ref sk, .ref so, .int (nI psS.length)])), (sn, .inl ((ka 0), 256, .inr (.inl numS))), (sk, .inl ((ka 2), 256, .inl kpS)), (so, .inl ((ka 1), 256, .inl odS)), (u, .inr (0, [.ref un, .ref uk, .ref uo, .int (nI psU.length)])), (un, .inl ((ka 0), 256, .inr (.inl numU))), (uk, .inl ((ka 2), 256, .inl kpU)), (uo, .inl ((ka 1), 256, .inl odU)), (t, .inr (1, [.ref ta, .ref tb, .ref tc, .int (nI pg.length), .int kn, .int toc, .int tdn, .int tld, .int tsr, .long trs])), (ta, .inl ((ka 1), 32, .inl ops)), (tb, .inl ((ka 1), 32, .inl fs)), (tc, .inl ((ka 0), 32, .inr (.inl ss))), (pa, .inl ((ka 0), 256, .inr (.inl P)))]) [0, 1, 2, 3, 4, 5, 6, 7, 8, 9, 10, 11, 12, 13, 14] rfl
    have hD9 := hD.sub (ws' := [(w, .inr (3, [.ref r, .ref s, .ref u, .ref t, .int tn, .int nx, .int (nI d), .int (nI L), .int (nI 1)])), (r, .inl ((ka 0), 8, .inr (.inl rg))), (s, .inr (0, [.ref sn, .ref sk, .ref so, .int (nI psS.length)])), (sn, .inl ((ka 0), 256, .inr (.inl numS))), (sk, .inl ((ka 2), 256, .inl kpS)), (so, .inl ((ka 1), 256, .inl odS)), (u, .inr (0, [.ref un, .ref uk, .ref uo, .int (nI psU.length)])), (un, .inl ((ka 0), 256, .inr (.inl numU))), (uk, .inl ((ka 2), 256, .inl kpU)), (uo, .inl ((ka 1), 256, .inl odU)), (t, .inr (1, [.ref ta, .ref tb, .ref tc, .int (nI pg.length), .int kn, .int toc, .int tdn, .int tld, .int tsr, .long trs])), (ta, .inl ((ka 1), 32, .inl ops)), (tb, .inl ((ka 1), 32, .inl fs)), (tc, .inl ((ka 0), 32, .inr (.inl ss))), (pa, .inl ((ka 0), 256, .inr (.inl P)))]) [0, 1, 2, 3, 4, 5, 6, 7, 8, 9, 10, 11, 12, 13, 14] (by decide) rfl
    exact W.vret hx hb hr (fun t9 ht hW => ⟨⟨(), rfl, trivial, rg, psS, numS, kpS, odS, psU, numU, kpU, odU, nx, none, d, L, 1, ⟨hS0, hU0, hnx, by omega, st_none9.symm, sn_none9.symm⟩, by rw [ht]; exact hP9, hD9⟩, hS.F ht⟩) hS.2.2 d_Wk_doNext_79
set_option maxHeartbeats 4000000 in
set_option maxRecDepth 100000 in
theorem c_Wk_saw (l : Launch) (D : va_G) (ka : Nat → ClassId) (w r s sn sk so u t pa : Nat) (tn nx dn ld oc : Int32) (numS P : Nat → Int64) (psS : List Nat) (kpS odS : Nat → Int32) (hS0 : dOK psS kpS odS) : Met l y_Wk_sawWhatHolds w_Wk_sawWhatHolds ({ frames := 1, cells := 0, slots := 0, locals := 21 }) (pR classes (tyS ka) D [.ref w, .ref pa] ([(w, .inr (3, [.ref r, .ref s, .ref u, .ref t, .int tn, .int nx, .int dn, .int ld, .int oc])), (s, .inr (0, [.ref sn, .ref sk, .ref so, .int (nI psS.length)])), (sn, .inl ((ka 0), 256, .inr (.inl numS))), (sk, .inl ((ka 2), 256, .inl kpS)), (so, .inl ((ka 1), 256, .inl odS)), (pa, .inl ((ka 0), 256, .inr (.inl P)))])) (vp_Si (fun r => (r = 1 ∧ wk_ag (dm psS numS) P) ∨ (r = 0 ∧ ¬ wk_ag (dm psS numS) P))) 0 0 (fun _ => False) := by
  refine Met.ofW (cc := b_Wk_sawWhatHolds) (maxL := 4) (ret := (some .boolean)) (by decide) rfl ?_
  intro pP eE sS mM args below meth cC s1 B hml hv
  obtain ⟨rfl, hP, hK, hN⟩ := hv
  have hx := B.exec
  have hb := B.bytes
  have hr := B.returns
  have hts := atoms_spec (ws := w_Wk_sawWhatHolds) B.pre
  have hown : sS.vm.findClass "VersionedBlock$Worker" = some mM.cls := findClass_of_methodNamed B.named
  have hlocks := B.notSynchronized
  have hl := lv_entry ([.ref w, .ref pa]) (n := 4) (Nat.le_of_ble_eq_true rfl)
  rw [lg_entry_eq]
  generalize (lg_sl ([.ref w, .ref pa]) ++ List.replicate (4 - (lg_sl ([.ref w, .ref pa])).length) Slot.unset).toArray = ls at hl ⊢
  have hl : lv_has ls 4 [(0, .ref w), (1, .ref pa)] := hl
  have hle := dOK_le hS0
  refine lv_iconst (v := (nI 0)) hx hb d_Wk_sawWhatHolds_0 (by decide) ?_
  refine lv_istore_n (lv' := [(2, .int (nI 0)), (0, .ref w), (1, .ref pa)]) hx hb d_Wk_sawWhatHolds_1 rfl hl (by decide) rfl (fun ls hl => ?_)
  have loop_2 : ∀ (fuel : Nat) (i : Nat), (i ≤ psS.length) → (∀ j, j < i → numS (psS.getD j 0) = P (psS.getD j 0)) → (psS.length - i) < fuel → ∀ (ls : Array Slot), lv_has ls 4 [(2, .int (nI i)), (0, .ref w), (1, .ref pa)] → W pP l eE (headSpec w_Wk_sawWhatHolds ({ frames := 1, cells := 0, slots := 0, locals := 21 })).room sS mM ([.ref w, .ref pa] : List Value).toArray below meth cC sS.heap [] 0 0 (MQ below (vp_Si (fun r => (r = 1 ∧ wk_ag (dm psS numS) P) ∨ (r = 0 ∧ ¬ wk_ag (dm psS numS) P))) ([.ref w, .ref pa] : List Value).toArray sS 0 0 (fun _ => False)) (F0 mM 2 ls []) := by
    intro fuel
    induction fuel with
    | zero => intro i hi hc hfu; exact absurd hfu (Nat.not_lt_zero _)
    | succ fuel ih =>
      intro i hi hc hfu ls hl
      refine lv_iload_n hx hb d_Wk_sawWhatHolds_2 rfl (lv_at hl 0 rfl) ?_
      refine lv_aload_n hx hb d_Wk_sawWhatHolds_3 rfl (lv_at hl 1 rfl) ?_
      refine va_get (D := D) (ci := 3) (v := .ref s) (C := "VersionedBlock$Worker") (T := T_Wk) (N := 9) hx hb hts (fun w h => List.mem_cons_of_mem _ (il_Wk w h)) hown hK hP 0 rfl rfl 1 (by decide) (hts _ (List.mem_cons_of_mem _ mw_1_227)) (fun _ h9 => h9) rfl d_Wk_sawWhatHolds_4 ?_
      have hPc := hP.sub (ws' := [(s, .inr (0, [.ref sn, .ref sk, .ref so, .int (nI psS.length)]))]) [1] rfl
      refine vp_callSi (run_of (va_runV (As := []) (rest := [.int (nI i)]) ⟨hx, hb, hml, hown, hts⟩ (c_Draft_size l D ka s sn sk so (nI psS.length) ) ⟨callB_of 0 hts (gd_tb mw_2_95) rfl rfl rfl (hts _ (List.mem_cons_of_mem _ mw_1_9)) (hts _ (List.mem_cons_of_mem _ mw_2_92)) (by decide +kernel) ⟨Nat.le_of_ble_eq_true rfl, Nat.le_of_ble_eq_true rfl⟩, (hts _ (List.mem_cons_of_mem _ mw_2_93)), (hts _ (List.mem_cons_of_mem _ mw_2_94))⟩ ⟨pR_blind, va_recv hK hPc (ci := 0) (q0 := 0) rfl rfl, pR_pre hK hN hPc⟩ rfl rfl hl.1 rfl (lv_room (Nat.le_of_ble_eq_true rfl)) d_Wk_sawWhatHolds_7 ⟨Nat.le_of_ble_eq_true rfl, Nat.le_of_ble_eq_true rfl⟩)) (fun r_7 hr_7 => ?_)
      obtain rfl : r_7 = (nI psS.length) := hr_7
      refine lv_icmp_ge (tgt := 45) hx hb d_Wk_sawWhatHolds_10 (by decide) (fun c_10 => ?_) (fun c_10 => ?_)
      · have hie : i = psS.length := by
          have := (nI_leI (by omega) (by omega)).mp c_10
          omega
        subst hie
        refine lv_iconst (v := 1) hx hb d_Wk_sawWhatHolds_45 (by decide) ?_
        exact W.zret (v := 1) hx hb hr rfl (fun t9 ht hW => ⟨1, rfl, (Or.inl ⟨rfl, ag_all hc⟩), ht⟩) (fun _ h => by cases h) d_Wk_sawWhatHolds_46
      · have hlt : i < psS.length := by
          rcases Nat.lt_or_ge i psS.length with q | q
          · exact q
          · exact absurd (nI_le q (by omega)) c_10
        refine lv_aload_n hx hb d_Wk_sawWhatHolds_13 rfl (lv_at hl 1 rfl) ?_
        refine va_get (D := D) (ci := 3) (v := .ref s) (C := "VersionedBlock$Worker") (T := T_Wk) (N := 9) hx hb hts (fun w h => List.mem_cons_of_mem _ (il_Wk w h)) hown hK hP 0 rfl rfl 1 (by decide) (hts _ (List.mem_cons_of_mem _ mw_1_227)) (fun _ h9 => h9) rfl d_Wk_sawWhatHolds_14 ?_
        refine lv_iload_n hx hb d_Wk_sawWhatHolds_17 rfl (lv_at hl 0 rfl) ?_
        have hPc := hP.sub (ws' := [(s, .inr (0, [.ref sn, .ref sk, .ref so, .int (nI psS.length)])), (so, .inl ((ka 1), 256, .inl odS))]) [1, 4] rfl
        refine vp_callSi (run_of (va_runV (As := [.int (nI i)]) (rest := []) ⟨hx, hb, hml, hown, hts⟩ (c_Draft_placeAt l D ka s sn sk so odS psS.length i hlt hle) ⟨callB_of 1 hts (gd_tb mw_2_99) rfl rfl rfl (hts _ (List.mem_cons_of_mem _ mw_1_9)) (hts _ (List.mem_cons_of_mem _ mw_2_96)) (by decide +kernel) ⟨Nat.le_of_ble_eq_true rfl, Nat.le_of_ble_eq_true rfl⟩, (hts _ (List.mem_cons_of_mem _ mw_2_97)), (hts _ (List.mem_cons_of_mem _ mw_2_98))⟩ ⟨pR_blind, va_recv hK hPc (ci := 0) (q0 := 0) rfl rfl, pR_pre hK hN hPc⟩ rfl rfl hl.1 rfl (lv_room (Nat.le_of_ble_eq_true rfl)) d_Wk_sawWhatHolds_18 ⟨Nat.le_of_ble_eq_true rfl, Nat.le_of_ble_eq_true rfl⟩)) (fun r_18 hr_18 => ?_)
        obtain rfl : r_18 = nI (psS.getD i 0) := hr_18.trans (hS0.2.2.1 i hlt)
        refine lv_istore_n (lv' := [(3, .int (nI (psS.getD i 0))), (2, .int (nI i)), (0, .ref w), (1, .ref pa)]) hx hb d_Wk_sawWhatHolds_21 rfl hl (by decide) rfl (fun ls hl => ?_)
        refine lv_aload_n hx hb d_Wk_sawWhatHolds_22 rfl (lv_at hl 2 rfl) ?_
        refine va_get (D := D) (ci := 3) (v := .ref s) (C := "VersionedBlock$Worker") (T := T_Wk) (N := 9) hx hb hts (fun w h => List.mem_cons_of_mem _ (il_Wk w h)) hown hK hP 0 rfl rfl 1 (by decide) (hts _ (List.mem_cons_of_mem _ mw_1_227)) (fun _ h9 => h9) rfl d_Wk_sawWhatHolds_23 ?_
        refine lv_iload_n hx hb d_Wk_sawWhatHolds_26 rfl (lv_at hl 0 rfl) ?_
        have hPc := hP.sub (ws' := [(s, .inr (0, [.ref sn, .ref sk, .ref so, .int (nI psS.length)])), (sn, .inl ((ka 0), 256, .inr (.inl numS)))]) [1, 2] rfl
        refine vp_callSl (run_of (va_runV (As := [.int (nI (psS.getD i 0))]) (rest := []) ⟨hx, hb, hml, hown, hts⟩ (c_Draft_numberIn l D ka s sn sk so (nI psS.length) numS (psS.getD i 0) ((dOK_at hS0 hlt).2.1)) ⟨callB_of 1 hts (gd_tb mw_2_75) rfl rfl rfl (hts _ (List.mem_cons_of_mem _ mw_1_9)) (hts _ (List.mem_cons_of_mem _ mw_2_72)) (by decide +kernel) ⟨Nat.le_of_ble_eq_true rfl, Nat.le_of_ble_eq_true rfl⟩, (hts _ (List.mem_cons_of_mem _ mw_2_73)), (hts _ (List.mem_cons_of_mem _ mw_2_74))⟩ ⟨pR_blind, va_recv hK hPc (ci := 0) (q0 := 0) rfl rfl, pR_pre hK hN hPc⟩ rfl rfl hl.1 rfl (lv_room (Nat.le_of_ble_eq_true rfl)) d_Wk_sawWhatHolds_27 ⟨Nat.le_of_ble_eq_true rfl, Nat.le_of_ble_eq_true rfl⟩)) (fun r_27 hr_27 => ?_)
        obtain rfl : r_27 = (numS (psS.getD i 0)) := hr_27
        refine lv_aload_n hx hb d_Wk_sawWhatHolds_30 rfl (lv_at hl 3 rfl) ?_
        refine lv_iload_n hx hb d_Wk_sawWhatHolds_31 rfl (lv_at hl 0 rfl) ?_
        refine my_lald hx hb hK hP 5 0 rfl rfl (k := (psS.getD i 0)) (dOK_at hS0 hlt).2.1 (Nat.le_of_ble_eq_true rfl) d_Wk_sawWhatHolds_32 ?_
        refine W.lcmp hx hb d_Wk_sawWhatHolds_33 ?_
        refine lv_if_eq (tgt := 39) hx hb d_Wk_sawWhatHolds_34 (by decide) (fun c_34 => ?_) (fun c_34 => ?_)
        · refine lv_iinc (v := nI (i + 1)) (lv' := [(2, .int (nI (i + 1))), (3, .int (nI (psS.getD i 0))), (0, .ref w), (1, .ref pa)]) hx hb d_Wk_sawWhatHolds_39 hl (k := 1) rfl (nI_1 i) (by decide) rfl (fun ls hl => ?_)
          refine lv_goto (tgt := 2) hx hb d_Wk_sawWhatHolds_42 (by decide) ?_
          exact ih (i + 1) (by omega) (lt_s hc ((lg_cmp_eq _ _).mp c_34)) (by omega) ls (lv_sub hl [0, 2, 3] rfl)
        · refine lv_iconst (v := 0) hx hb d_Wk_sawWhatHolds_37 (by decide) ?_
          exact W.zret (v := 0) hx hb hr rfl (fun t9 ht hW => ⟨0, rfl, (Or.inr ⟨rfl, ag_not hlt (fun q => c_34 ((lg_cmp_eq _ _).mpr q))⟩), ht⟩) (fun _ h => by cases h) d_Wk_sawWhatHolds_38
  exact loop_2 (psS.length - 0 + 1) 0 (Nat.zero_le _) (fun j h => absurd h (Nat.not_lt_zero _)) (Nat.lt_succ_self _) ls (lv_sub hl [0, 1, 2] rfl)
set_option maxHeartbeats 4000000 in
set_option maxRecDepth 100000 in
theorem c_Wk_storeInto (l : Launch) (D : va_G) (ka : Nat → ClassId) (sz : Nat) (w r s u un uk uo pa : Nat) (tn nx dn ld oc : Int32) (numU P : Nat → Int64) (psU : List Nat) (kpU odU : Nat → Int32) (hU0 : dOK psU kpU odU) : Met l y_Wk_storeInto w_Wk_storeInto ({ frames := 1, cells := 0, slots := 0, locals := 21 }) (pW classes (tyS ka) D [.ref w, .ref pa] ([(w, .inr (3, [.ref r, .ref s, .ref u, .null, .int tn, .int nx, .int dn, .int ld, .int oc])), (u, .inr (0, [.ref un, .ref uk, .ref uo, .int (nI psU.length)])), (un, .inl ((ka 0), 256, .inr (.inl numU))), (uk, .inl ((ka 2), 256, .inl kpU)), (uo, .inl ((ka 1), 256, .inl odU)), (pa, .inl ((ka 0), 256, .inr (.inl P)))]) sz) (va_Qi (fun (r : Int32) (_ : Unit) => r = (nI psU.length)) (fun (_ : Unit) t9 => (True) ∧ va_P D classes ([(w, .inr (3, [.ref r, .ref s, .ref u, .null, .int tn, .int nx, .int dn, .int ld, .int oc])), (u, .inr (0, [.ref un, .ref uk, .ref uo, .int (nI psU.length)])), (un, .inl ((ka 0), 256, .inr (.inl numU))), (uk, .inl ((ka 2), 256, .inl kpU)), (uo, .inl ((ka 1), 256, .inl odU)), (pa, .inl ((ka 0), 256, .inr (.inl (fun p => (dm psU numU p).getD (P p)))))]) t9.heap ∧ va_D (va_A ([(w, .inr (3, [.ref r, .ref s, .ref u, .null, .int tn, .int nx, .int dn, .int ld, .int oc])), (u, .inr (0, [.ref un, .ref uk, .ref uo, .int (nI psU.length)])), (un, .inl ((ka 0), 256, .inr (.inl numU))), (uk, .inl ((ka 2), 256, .inl kpU)), (uo, .inl ((ka 1), 256, .inl odU)), (pa, .inl ((ka 0), 256, .inr (.inl P)))]) sz) ([(w, .inr (3, [.ref r, .ref s, .ref u, .null, .int tn, .int nx, .int dn, .int ld, .int oc])), (u, .inr (0, [.ref un, .ref uk, .ref uo, .int (nI psU.length)])), (un, .inl ((ka 0), 256, .inr (.inl numU))), (uk, .inl ((ka 2), 256, .inl kpU)), (uo, .inl ((ka 1), 256, .inl odU)), (pa, .inl ((ka 0), 256, .inr (.inl (fun p => (dm psU numU p).getD (P p)))))])) (va_A ([(w, .inr (3, [.ref r, .ref s, .ref u, .null, .int tn, .int nx, .int dn, .int ld, .int oc])), (u, .inr (0, [.ref un, .ref uk, .ref uo, .int (nI psU.length)])), (un, .inl ((ka 0), 256, .inr (.inl numU))), (uk, .inl ((ka 2), 256, .inl kpU)), (uo, .inl ((ka 1), 256, .inl odU)), (pa, .inl ((ka 0), 256, .inr (.inl P)))]) sz)) 0 0 (va_A ([(w, .inr (3, [.ref r, .ref s, .ref u, .null, .int tn, .int nx, .int dn, .int ld, .int oc])), (u, .inr (0, [.ref un, .ref uk, .ref uo, .int (nI psU.length)])), (un, .inl ((ka 0), 256, .inr (.inl numU))), (uk, .inl ((ka 2), 256, .inl kpU)), (uo, .inl ((ka 1), 256, .inl odU)), (pa, .inl ((ka 0), 256, .inr (.inl P)))]) sz) := by
  refine Met.ofW (cc := b_Wk_storeInto) (maxL := 4) (ret := (some .int)) (by decide) rfl ?_
  intro pP eE sS mM args below meth cC s1 B hml hv
  obtain ⟨rfl, hsz, hP, hK, hN, hD0⟩ := hv
  have hx := B.exec
  have hb := B.bytes
  have hr := B.returns
  have hts := atoms_spec (ws := w_Wk_storeInto) B.pre
  have hown : sS.vm.findClass "VersionedBlock$Worker" = some mM.cls := findClass_of_methodNamed B.named
  have hlocks := B.notSynchronized
  subst hsz
  have hD := hD0.self (sz := sS.heap.size)
  generalize hAe : va_A ([(w, .inr (3, [.ref r, .ref s, .ref u, .null, .int tn, .int nx, .int dn, .int ld, .int oc])), (u, .inr (0, [.ref un, .ref uk, .ref uo, .int (nI psU.length)])), (un, .inl ((ka 0), 256, .inr (.inl numU))), (uk, .inl ((ka 2), 256, .inl kpU)), (uo, .inl ((ka 1), 256, .inl odU)), (pa, .inl ((ka 0), 256, .inr (.inl P)))]) sS.heap.size = A at hD ⊢
  have hA : ∀ q : Nat, sS.heap.size ≤ q → A q := fun q h => by rw [← hAe]; exact Or.inr h
  have hS : va_S A sS.heap sS.heap [] := va_S.rf
  have hl := lv_entry ([.ref w, .ref pa]) (n := 4) (Nat.le_of_ble_eq_true rfl)
  rw [lg_entry_eq]
  generalize (lg_sl ([.ref w, .ref pa]) ++ List.replicate (4 - (lg_sl ([.ref w, .ref pa])).length) Slot.unset).toArray = ls at hl ⊢
  have hl : lv_has ls 4 [(0, .ref w), (1, .ref pa)] := hl
  have hle := dOK_le hU0
  have hP : va_P D classes ([(w, .inr (3, [.ref r, .ref s, .ref u, .null, .int tn, .int nx, .int dn, .int ld, .int oc])), (u, .inr (0, [.ref un, .ref uk, .ref uo, .int (nI psU.length)])), (un, .inl ((ka 0), 256, .inr (.inl numU))), (uk, .inl ((ka 2), 256, .inl kpU)), (uo, .inl ((ka 1), 256, .inl odU)), (pa, .inl ((ka 0), 256, .inr (.inl (ov_i psU numU P 0))))]) sS.heap := by rw [ov_0]; exact hP
  have hD : va_D A ([(w, .inr (3, [.ref r, .ref s, .ref u, .null, .int tn, .int nx, .int dn, .int ld, .int oc])), (u, .inr (0, [.ref un, .ref uk, .ref uo, .int (nI psU.length)])), (un, .inl ((ka 0), 256, .inr (.inl numU))), (uk, .inl ((ka 2), 256, .inl kpU)), (uo, .inl ((ka 1), 256, .inl odU)), (pa, .inl ((ka 0), 256, .inr (.inl (ov_i psU numU P 0))))]) := by rw [ov_0]; exact hD
  refine lv_iconst (v := (nI 0)) hx hb d_Wk_storeInto_0 (by decide) ?_
  refine lv_istore_n (lv' := [(2, .int (nI 0)), (0, .ref w), (1, .ref pa)]) hx hb d_Wk_storeInto_1 rfl hl (by decide) rfl (fun ls hl => ?_)
  have loop_2 : ∀ (fuel : Nat) (i : Nat), (i ≤ psU.length) → (psU.length - i) < fuel → ∀ (H : Heap) (locs : List Loc), va_P D classes ([(w, .inr (3, [.ref r, .ref s, .ref u, .null, .int tn, .int nx, .int dn, .int ld, .int oc])), (u, .inr (0, [.ref un, .ref uk, .ref uo, .int (nI psU.length)])), (un, .inl ((ka 0), 256, .inr (.inl numU))), (uk, .inl ((ka 2), 256, .inl kpU)), (uo, .inl ((ka 1), 256, .inl odU)), (pa, .inl ((ka 0), 256, .inr (.inl (ov_i psU numU P i))))]) H → va_D A ([(w, .inr (3, [.ref r, .ref s, .ref u, .null, .int tn, .int nx, .int dn, .int ld, .int oc])), (u, .inr (0, [.ref un, .ref uk, .ref uo, .int (nI psU.length)])), (un, .inl ((ka 0), 256, .inr (.inl numU))), (uk, .inl ((ka 2), 256, .inl kpU)), (uo, .inl ((ka 1), 256, .inl odU)), (pa, .inl ((ka 0), 256, .inr (.inl (ov_i psU numU P i))))]) → va_S A sS.heap H locs → ∀ (ls : Array Slot), lv_has ls 4 [(2, .int (nI i)), (0, .ref w), (1, .ref pa)] → W pP l eE (headSpec w_Wk_storeInto ({ frames := 1, cells := 0, slots := 0, locals := 21 })).room sS mM ([.ref w, .ref pa] : List Value).toArray below meth cC H locs 0 0 (MQ below (va_Qi (fun (r : Int32) (_ : Unit) => r = (nI psU.length)) (fun (_ : Unit) t9 => (True) ∧ va_P D classes ([(w, .inr (3, [.ref r, .ref s, .ref u, .null, .int tn, .int nx, .int dn, .int ld, .int oc])), (u, .inr (0, [.ref un, .ref uk, .ref uo, .int (nI psU.length)])), (un, .inl ((ka 0), 256, .inr (.inl numU))), (uk, .inl ((ka 2), 256, .inl kpU)), (uo, .inl ((ka 1), 256, .inl odU)), (pa, .inl ((ka 0), 256, .inr (.inl (fun p => (dm psU numU p).getD (P p)))))]) t9.heap ∧ va_D A ([(w, .inr (3, [.ref r, .ref s, .ref u, .null, .int tn, .int nx, .int dn, .int ld, .int oc])), (u, .inr (0, [.ref un, .ref uk, .ref uo, .int (nI psU.length)])), (un, .inl ((ka 0), 256, .inr (.inl numU))), (uk, .inl ((ka 2), 256, .inl kpU)), (uo, .inl ((ka 1), 256, .inl odU)), (pa, .inl ((ka 0), 256, .inr (.inl (fun p => (dm psU numU p).getD (P p)))))])) A) ([.ref w, .ref pa] : List Value).toArray sS 0 0 A) (F0 mM 2 ls []) := by
    intro fuel
    induction fuel with
    | zero => intro i hi hfu; exact absurd hfu (Nat.not_lt_zero _)
    | succ fuel ih =>
      intro i hi hfu H locs hP hD hS ls hl
      refine lv_iload_n hx hb d_Wk_storeInto_2 rfl (lv_at hl 0 rfl) ?_
      refine lv_aload_n hx hb d_Wk_storeInto_3 rfl (lv_at hl 1 rfl) ?_
      refine va_get (D := D) (ci := 3) (v := .ref u) (C := "VersionedBlock$Worker") (T := T_Wk) (N := 9) hx hb hts (fun w h => List.mem_cons_of_mem _ (il_Wk w h)) hown hK hP 0 rfl rfl 2 (by decide) (hts _ (List.mem_cons_of_mem _ mw_1_228)) (fun _ h9 => h9) rfl d_Wk_storeInto_4 ?_
      have hPc := hP.sub (ws' := [(u, .inr (0, [.ref un, .ref uk, .ref uo, .int (nI psU.length)]))]) [1] rfl
      refine vp_callSi (run_of (va_runV (As := []) (rest := [.int (nI i)]) ⟨hx, hb, hml, hown, hts⟩ (c_Draft_size l D ka u un uk uo (nI psU.length) ) ⟨callB_of 0 hts (gd_tb mw_2_95) rfl rfl rfl (hts _ (List.mem_cons_of_mem _ mw_1_9)) (hts _ (List.mem_cons_of_mem _ mw_2_92)) (by decide +kernel) ⟨Nat.le_of_ble_eq_true rfl, Nat.le_of_ble_eq_true rfl⟩, (hts _ (List.mem_cons_of_mem _ mw_2_93)), (hts _ (List.mem_cons_of_mem _ mw_2_94))⟩ ⟨pR_blind, va_recv hK hPc (ci := 0) (q0 := 0) rfl rfl, pR_pre hK hN hPc⟩ rfl rfl hl.1 rfl (lv_room (Nat.le_of_ble_eq_true rfl)) d_Wk_storeInto_7 ⟨Nat.le_of_ble_eq_true rfl, Nat.le_of_ble_eq_true rfl⟩)) (fun r_7 hr_7 => ?_)
      obtain rfl : r_7 = (nI psU.length) := hr_7
      refine lv_icmp_ge (tgt := 39) hx hb d_Wk_storeInto_10 (by decide) (fun c_10 => ?_) (fun c_10 => ?_)
      · have hie : i = psU.length := by
          have := (nI_leI (by omega) (by omega)).mp c_10
          omega
        subst hie
        rw [ov_end] at hP hD
        refine lv_aload_n hx hb d_Wk_storeInto_39 rfl (lv_at hl 1 rfl) ?_
        refine va_get (D := D) (ci := 3) (v := .ref u) (C := "VersionedBlock$Worker") (T := T_Wk) (N := 9) hx hb hts (fun w h => List.mem_cons_of_mem _ (il_Wk w h)) hown hK hP 0 rfl rfl 2 (by decide) (hts _ (List.mem_cons_of_mem _ mw_1_228)) (fun _ h9 => h9) rfl d_Wk_storeInto_40 ?_
        have hPc := hP.sub (ws' := [(u, .inr (0, [.ref un, .ref uk, .ref uo, .int (nI psU.length)]))]) [1] rfl
        refine vp_callSi (run_of (va_runV (As := []) (rest := []) ⟨hx, hb, hml, hown, hts⟩ (c_Draft_size l D ka u un uk uo (nI psU.length) ) ⟨callB_of 0 hts (gd_tb mw_2_95) rfl rfl rfl (hts _ (List.mem_cons_of_mem _ mw_1_9)) (hts _ (List.mem_cons_of_mem _ mw_2_92)) (by decide +kernel) ⟨Nat.le_of_ble_eq_true rfl, Nat.le_of_ble_eq_true rfl⟩, (hts _ (List.mem_cons_of_mem _ mw_2_93)), (hts _ (List.mem_cons_of_mem _ mw_2_94))⟩ ⟨pR_blind, va_recv hK hPc (ci := 0) (q0 := 0) rfl rfl, pR_pre hK hN hPc⟩ rfl rfl hl.1 rfl (lv_room (Nat.le_of_ble_eq_true rfl)) d_Wk_storeInto_43 ⟨Nat.le_of_ble_eq_true rfl, Nat.le_of_ble_eq_true rfl⟩)) (fun r_43 hr_43 => ?_)
        obtain rfl : r_43 = (nI psU.length) := hr_43
        have hP9 := hP.sub (ws' := [(w, .inr (3, [.ref r, .ref s, .ref u, .null, .int tn, .int nx, .int dn, .int ld, .int oc])), (u, .inr (0, [.ref un, .ref uk, .ref uo, .int (nI psU.length)])), (un, .inl ((ka 0), 256, .inr (.inl numU))), (uk, .inl ((ka 2), 256, .inl kpU)), (uo, .inl ((ka 1), 256, .inl odU)), (pa, .inl ((ka 0), 256, .inr (.inl (fun p => (dm psU numU p).getD (P p)))))]) [0, 1, 2, 3, 4, 5] rfl
        have hD9 := hD.sub (ws' := [(w, .inr (3, [.ref r, .ref s, .ref u, .null, .int tn, .int nx, .int dn, .int ld, .int oc])), (u, .inr (0, [.ref un, .ref uk, .ref uo, .int (nI psU.length)])), (un, .inl ((ka 0), 256, .inr (.inl numU))), (uk, .inl ((ka 2), 256, .inl kpU)), (uo, .inl ((ka 1), 256, .inl odU)), (pa, .inl ((ka 0), 256, .inr (.inl (fun p => (dm psU numU p).getD (P p)))))]) [0, 1, 2, 3, 4, 5] (by decide) rfl
        exact W.iret (v := (nI psU.length)) hx hb hr (fun t9 ht hW => ⟨⟨(nI psU.length), (), rfl, rfl, trivial, by rw [ht]; exact hP9, hD9⟩, hS.F ht⟩) hS.2.2 d_Wk_storeInto_46
      · have hlt : i < psU.length := by
          rcases Nat.lt_or_ge i psU.length with q | q
          · exact q
          · exact absurd (nI_le q (by omega)) c_10
        refine lv_aload_n hx hb d_Wk_storeInto_13 rfl (lv_at hl 1 rfl) ?_
        refine va_get (D := D) (ci := 3) (v := .ref u) (C := "VersionedBlock$Worker") (T := T_Wk) (N := 9) hx hb hts (fun w h => List.mem_cons_of_mem _ (il_Wk w h)) hown hK hP 0 rfl rfl 2 (by decide) (hts _ (List.mem_cons_of_mem _ mw_1_228)) (fun _ h9 => h9) rfl d_Wk_storeInto_14 ?_
        refine lv_iload_n hx hb d_Wk_storeInto_17 rfl (lv_at hl 0 rfl) ?_
        have hPc := hP.sub (ws' := [(u, .inr (0, [.ref un, .ref uk, .ref uo, .int (nI psU.length)])), (uo, .inl ((ka 1), 256, .inl odU))]) [1, 4] rfl
        refine vp_callSi (run_of (va_runV (As := [.int (nI i)]) (rest := []) ⟨hx, hb, hml, hown, hts⟩ (c_Draft_placeAt l D ka u un uk uo odU psU.length i hlt hle) ⟨callB_of 1 hts (gd_tb mw_2_99) rfl rfl rfl (hts _ (List.mem_cons_of_mem _ mw_1_9)) (hts _ (List.mem_cons_of_mem _ mw_2_96)) (by decide +kernel) ⟨Nat.le_of_ble_eq_true rfl, Nat.le_of_ble_eq_true rfl⟩, (hts _ (List.mem_cons_of_mem _ mw_2_97)), (hts _ (List.mem_cons_of_mem _ mw_2_98))⟩ ⟨pR_blind, va_recv hK hPc (ci := 0) (q0 := 0) rfl rfl, pR_pre hK hN hPc⟩ rfl rfl hl.1 rfl (lv_room (Nat.le_of_ble_eq_true rfl)) d_Wk_storeInto_18 ⟨Nat.le_of_ble_eq_true rfl, Nat.le_of_ble_eq_true rfl⟩)) (fun r_18 hr_18 => ?_)
        obtain rfl : r_18 = nI (psU.getD i 0) := hr_18.trans (hU0.2.2.1 i hlt)
        refine lv_istore_n (lv' := [(3, .int (nI (psU.getD i 0))), (2, .int (nI i)), (0, .ref w), (1, .ref pa)]) hx hb d_Wk_storeInto_21 rfl hl (by decide) rfl (fun ls hl => ?_)
        refine lv_aload_n hx hb d_Wk_storeInto_22 rfl (lv_at hl 3 rfl) ?_
        refine lv_iload_n hx hb d_Wk_storeInto_23 rfl (lv_at hl 0 rfl) ?_
        refine lv_aload_n hx hb d_Wk_storeInto_24 rfl (lv_at hl 2 rfl) ?_
        refine va_get (D := D) (ci := 3) (v := .ref u) (C := "VersionedBlock$Worker") (T := T_Wk) (N := 9) hx hb hts (fun w h => List.mem_cons_of_mem _ (il_Wk w h)) hown hK hP 0 rfl rfl 2 (by decide) (hts _ (List.mem_cons_of_mem _ mw_1_228)) (fun _ h9 => h9) rfl d_Wk_storeInto_25 ?_
        refine lv_iload_n hx hb d_Wk_storeInto_28 rfl (lv_at hl 0 rfl) ?_
        have hPc := hP.sub (ws' := [(u, .inr (0, [.ref un, .ref uk, .ref uo, .int (nI psU.length)])), (un, .inl ((ka 0), 256, .inr (.inl numU)))]) [1, 2] rfl
        refine vp_callSl (run_of (va_runV (As := [.int (nI (psU.getD i 0))]) (rest := [.int (nI (psU.getD i 0)), .ref pa]) ⟨hx, hb, hml, hown, hts⟩ (c_Draft_numberIn l D ka u un uk uo (nI psU.length) numU (psU.getD i 0) ((dOK_at hU0 hlt).2.1)) ⟨callB_of 1 hts (gd_tb mw_2_75) rfl rfl rfl (hts _ (List.mem_cons_of_mem _ mw_1_9)) (hts _ (List.mem_cons_of_mem _ mw_2_72)) (by decide +kernel) ⟨Nat.le_of_ble_eq_true rfl, Nat.le_of_ble_eq_true rfl⟩, (hts _ (List.mem_cons_of_mem _ mw_2_73)), (hts _ (List.mem_cons_of_mem _ mw_2_74))⟩ ⟨pR_blind, va_recv hK hPc (ci := 0) (q0 := 0) rfl rfl, pR_pre hK hN hPc⟩ rfl rfl hl.1 rfl (lv_room (Nat.le_of_ble_eq_true rfl)) d_Wk_storeInto_29 ⟨Nat.le_of_ble_eq_true rfl, Nat.le_of_ble_eq_true rfl⟩)) (fun r_29 hr_29 => ?_)
        obtain rfl : r_29 = (numU (psU.getD i 0)) := hr_29
        refine my_last hx hb hK hP hD hS 5 0 rfl rfl (k := (psU.getD i 0)) (dOK_at hU0 hlt).2.1 (Nat.le_of_ble_eq_true rfl) d_Wk_storeInto_32 (fun H locs hP hD hS => ?_)
        have hP : va_P D classes ([(w, .inr (3, [.ref r, .ref s, .ref u, .null, .int tn, .int nx, .int dn, .int ld, .int oc])), (u, .inr (0, [.ref un, .ref uk, .ref uo, .int (nI psU.length)])), (un, .inl ((ka 0), 256, .inr (.inl numU))), (uk, .inl ((ka 2), 256, .inl kpU)), (uo, .inl ((ka 1), 256, .inl odU)), (pa, .inl ((ka 0), 256, .inr (.inl (vp_updL (ov_i psU numU P i) (psU.getD i 0) (numU (psU.getD i 0))))))]) H := hP
        have hD : va_D A ([(w, .inr (3, [.ref r, .ref s, .ref u, .null, .int tn, .int nx, .int dn, .int ld, .int oc])), (u, .inr (0, [.ref un, .ref uk, .ref uo, .int (nI psU.length)])), (un, .inl ((ka 0), 256, .inr (.inl numU))), (uk, .inl ((ka 2), 256, .inl kpU)), (uo, .inl ((ka 1), 256, .inl odU)), (pa, .inl ((ka 0), 256, .inr (.inl (vp_updL (ov_i psU numU P i) (psU.getD i 0) (numU (psU.getD i 0))))))]) := hD
        refine lv_iinc (v := nI (i + 1)) (lv' := [(2, .int (nI (i + 1))), (3, .int (nI (psU.getD i 0))), (0, .ref w), (1, .ref pa)]) hx hb d_Wk_storeInto_33 hl (k := 1) rfl (nI_1 i) (by decide) rfl (fun ls hl => ?_)
        refine lv_goto (tgt := 2) hx hb d_Wk_storeInto_36 (by decide) ?_
        rw [ov_s hlt] at hP hD
        exact ih (i + 1) (by omega) (by omega) _ _ hP hD hS ls (lv_sub hl [0, 2, 3] rfl)
  exact loop_2 (psU.length - 0 + 1) 0 (Nat.zero_le _) (Nat.lt_succ_self _) _ _ hP hD hS ls (lv_sub hl [0, 1, 2] rfl)
set_option maxHeartbeats 4000000 in
set_option maxRecDepth 100000 in
theorem c_Wk_handIn1 (l : Launch) (D : va_G) (ka : Nat → ClassId) (sz : Nat) (w r s u un uk uo t ta tb tc pa : Nat) (tn nx dn ld tln kn toc tdn tld tsr : Int32) (trs : Int64) (rg numU P : Nat → Int64) (psU : List Nat) (kpU odU : Nat → Int32) (hU0 : dOK psU kpU odU) : Met l y_Wk_handIn w_Wk_handIn ({ frames := 2, cells := 0, slots := 0, locals := 44 }) (pW classes (tyS ka) D [.ref w, .ref pa] ([(w, .inr (3, [.ref r, .ref s, .ref u, .ref t, .int tn, .int nx, .int dn, .int ld, .int (nI 1)])), (r, .inl ((ka 0), 8, .inr (.inl rg))), (u, .inr (0, [.ref un, .ref uk, .ref uo, .int (nI psU.length)])), (un, .inl ((ka 0), 256, .inr (.inl numU))), (uk, .inl ((ka 2), 256, .inl kpU)), (uo, .inl ((ka 1), 256, .inl odU)), (t, .inr (1, [.ref ta, .ref tb, .ref tc, .int tln, .int kn, .int toc, .int tdn, .int tld, .int tsr, .long trs])), (pa, .inl ((ka 0), 256, .inr (.inl P)))]) sz) (va_Qi (fun (r : Int32) (_ : Unit) => r = 1) (fun (_ : Unit) t9 => (True) ∧ va_P D classes ([(w, .inr (3, [.ref r, .ref s, .ref u, .null, .int tn, .int nx, .int dn, .int ld, .int (nI 1)])), (r, .inl ((ka 0), 8, .inr (.inl rg))), (u, .inr (0, [.ref un, .ref uk, .ref uo, .int (nI psU.length)])), (un, .inl ((ka 0), 256, .inr (.inl numU))), (uk, .inl ((ka 2), 256, .inl kpU)), (uo, .inl ((ka 1), 256, .inl odU)), (t, .inr (1, [.ref ta, .ref tb, .ref tc, .int tln, .int 1, .int (nI 1), .int dn, .int ld, .int (nI psU.length), .long (rg 0)])), (pa, .inl ((ka 0), 256, .inr (.inl (fun p => (dm psU numU p).getD (P p)))))]) t9.heap ∧ va_D (va_A ([(w, .inr (3, [.ref r, .ref s, .ref u, .ref t, .int tn, .int nx, .int dn, .int ld, .int (nI 1)])), (r, .inl ((ka 0), 8, .inr (.inl rg))), (u, .inr (0, [.ref un, .ref uk, .ref uo, .int (nI psU.length)])), (un, .inl ((ka 0), 256, .inr (.inl numU))), (uk, .inl ((ka 2), 256, .inl kpU)), (uo, .inl ((ka 1), 256, .inl odU)), (t, .inr (1, [.ref ta, .ref tb, .ref tc, .int tln, .int kn, .int toc, .int tdn, .int tld, .int tsr, .long trs])), (pa, .inl ((ka 0), 256, .inr (.inl P)))]) sz) ([(w, .inr (3, [.ref r, .ref s, .ref u, .null, .int tn, .int nx, .int dn, .int ld, .int (nI 1)])), (r, .inl ((ka 0), 8, .inr (.inl rg))), (u, .inr (0, [.ref un, .ref uk, .ref uo, .int (nI psU.length)])), (un, .inl ((ka 0), 256, .inr (.inl numU))), (uk, .inl ((ka 2), 256, .inl kpU)), (uo, .inl ((ka 1), 256, .inl odU)), (t, .inr (1, [.ref ta, .ref tb, .ref tc, .int tln, .int 1, .int (nI 1), .int dn, .int ld, .int (nI psU.length), .long (rg 0)])), (pa, .inl ((ka 0), 256, .inr (.inl (fun p => (dm psU numU p).getD (P p)))))])) (va_A ([(w, .inr (3, [.ref r, .ref s, .ref u, .ref t, .int tn, .int nx, .int dn, .int ld, .int (nI 1)])), (r, .inl ((ka 0), 8, .inr (.inl rg))), (u, .inr (0, [.ref un, .ref uk, .ref uo, .int (nI psU.length)])), (un, .inl ((ka 0), 256, .inr (.inl numU))), (uk, .inl ((ka 2), 256, .inl kpU)), (uo, .inl ((ka 1), 256, .inl odU)), (t, .inr (1, [.ref ta, .ref tb, .ref tc, .int tln, .int kn, .int toc, .int tdn, .int tld, .int tsr, .long trs])), (pa, .inl ((ka 0), 256, .inr (.inl P)))]) sz)) 0 0 (va_A ([(w, .inr (3, [.ref r, .ref s, .ref u, .ref t, .int tn, .int nx, .int dn, .int ld, .int (nI 1)])), (r, .inl ((ka 0), 8, .inr (.inl rg))), (u, .inr (0, [.ref un, .ref uk, .ref uo, .int (nI psU.length)])), (un, .inl ((ka 0), 256, .inr (.inl numU))), (uk, .inl ((ka 2), 256, .inl kpU)), (uo, .inl ((ka 1), 256, .inl odU)), (t, .inr (1, [.ref ta, .ref tb, .ref tc, .int tln, .int kn, .int toc, .int tdn, .int tld, .int tsr, .long trs])), (pa, .inl ((ka 0), 256, .inr (.inl P)))]) sz) := by
  refine Met.ofW (cc := b_Wk_handIn) (maxL := 5) (ret := (some .boolean)) (by decide) rfl ?_
  intro pP eE sS mM args below meth cC s1 B hml hv
  obtain ⟨rfl, hsz, hP, hK, hN, hD0⟩ := hv
  have hx := B.exec
  have hb := B.bytes
  have hr := B.returns
  have hts := atoms_spec (ws := w_Wk_handIn) B.pre
  have hown : sS.vm.findClass "VersionedBlock$Worker" = some mM.cls := findClass_of_methodNamed B.named
  have hlocks := B.notSynchronized
  subst hsz
  have hD := hD0.self (sz := sS.heap.size)
  generalize hAe : va_A ([(w, .inr (3, [.ref r, .ref s, .ref u, .ref t, .int tn, .int nx, .int dn, .int ld, .int (nI 1)])), (r, .inl ((ka 0), 8, .inr (.inl rg))), (u, .inr (0, [.ref un, .ref uk, .ref uo, .int (nI psU.length)])), (un, .inl ((ka 0), 256, .inr (.inl numU))), (uk, .inl ((ka 2), 256, .inl kpU)), (uo, .inl ((ka 1), 256, .inl odU)), (t, .inr (1, [.ref ta, .ref tb, .ref tc, .int tln, .int kn, .int toc, .int tdn, .int tld, .int tsr, .long trs])), (pa, .inl ((ka 0), 256, .inr (.inl P)))]) sS.heap.size = A at hD ⊢
  have hA : ∀ q : Nat, sS.heap.size ≤ q → A q := fun q h => by rw [← hAe]; exact Or.inr h
  have hS : va_S A sS.heap sS.heap [] := va_S.rf
  have hl := lv_entry ([.ref w, .ref pa]) (n := 5) (Nat.le_of_ble_eq_true rfl)
  rw [lg_entry_eq]
  generalize (lg_sl ([.ref w, .ref pa]) ++ List.replicate (5 - (lg_sl ([.ref w, .ref pa])).length) Slot.unset).toArray = ls at hl ⊢
  have hl : lv_has ls 5 [(0, .ref w), (1, .ref pa)] := hl
  refine lv_aload_n hx hb d_Wk_handIn_0 rfl (lv_at hl 0 rfl) ?_
  refine va_get (D := D) (ci := 3) (v := .ref t) (C := "VersionedBlock$Worker") (T := T_Wk) (N := 9) hx hb hts (fun w h => List.mem_cons_of_mem _ (il_Wk w h)) hown hK hP 0 rfl rfl 3 (by decide) (hts _ (List.mem_cons_of_mem _ mw_1_229)) (fun _ h9 => h9) rfl d_Wk_handIn_1 ?_
  refine lv_astore_n (lv' := [(2, .ref t), (0, .ref w), (1, .ref pa)]) hx hb d_Wk_handIn_4 rfl hl (by decide) rfl (fun ls hl => ?_)
  refine lv_aload_n hx hb d_Wk_handIn_5 rfl (lv_at hl 1 rfl) ?_
  refine lv_null hx hb d_Wk_handIn_6 ?_
  refine va_put (D := D) (ci := 3) (v := .null) (ty := .object "VersionedBlock$Transaction") (C := "VersionedBlock$Worker") (T := T_Wk) (N := 9) hx hb hts (fun w h => List.mem_cons_of_mem _ (il_Wk w h)) t_Wk t_Wk_ok n_Wk hown hK hP hD hS 0 rfl rfl 3 (by decide) (hts _ (List.mem_cons_of_mem _ mw_1_229)) (fun _ h9 => h9) rfl (by decide +kernel) rfl rfl (Nat.le_of_ble_eq_true rfl) d_Wk_handIn_7 (fun H locs hP hD hS => ?_)
  have hP : va_P D classes ([(w, .inr (3, [.ref r, .ref s, .ref u, .null, .int tn, .int nx, .int dn, .int ld, .int (nI 1)])), (r, .inl ((ka 0), 8, .inr (.inl rg))), (u, .inr (0, [.ref un, .ref uk, .ref uo, .int (nI psU.length)])), (un, .inl ((ka 0), 256, .inr (.inl numU))), (uk, .inl ((ka 2), 256, .inl kpU)), (uo, .inl ((ka 1), 256, .inl odU)), (t, .inr (1, [.ref ta, .ref tb, .ref tc, .int tln, .int kn, .int toc, .int tdn, .int tld, .int tsr, .long trs])), (pa, .inl ((ka 0), 256, .inr (.inl P)))]) H := hP
  have hD : va_D A ([(w, .inr (3, [.ref r, .ref s, .ref u, .null, .int tn, .int nx, .int dn, .int ld, .int (nI 1)])), (r, .inl ((ka 0), 8, .inr (.inl rg))), (u, .inr (0, [.ref un, .ref uk, .ref uo, .int (nI psU.length)])), (un, .inl ((ka 0), 256, .inr (.inl numU))), (uk, .inl ((ka 2), 256, .inl kpU)), (uo, .inl ((ka 1), 256, .inl odU)), (t, .inr (1, [.ref ta, .ref tb, .ref tc, .int tln, .int kn, .int toc, .int tdn, .int tld, .int tsr, .long trs])), (pa, .inl ((ka 0), 256, .inr (.inl P)))]) := hD
  refine lv_aload_n hx hb d_Wk_handIn_10 rfl (lv_at hl 1 rfl) ?_
  refine va_get (D := D) (ci := 3) (v := .int (nI 1)) (C := "VersionedBlock$Worker") (T := T_Wk) (N := 9) hx hb hts (fun w h => List.mem_cons_of_mem _ (il_Wk w h)) hown hK hP 0 rfl rfl 8 (by decide) (hts _ (List.mem_cons_of_mem _ mw_1_234)) (fun _ h9 => h9) rfl d_Wk_handIn_11 ?_
  refine lv_iconst (v := (nI 1)) hx hb d_Wk_handIn_14 (by decide) ?_
  refine lv_icmp_ne (tgt := 22) hx hb d_Wk_handIn_15 (by decide) (fun c_15 => absurd rfl c_15) (fun c_15 => ?_)
  refine lv_iconst (v := 1) hx hb d_Wk_handIn_18 (by decide) ?_
  refine lv_goto (tgt := 23) hx hb d_Wk_handIn_19 (by decide) ?_
  refine lv_istore_n (lv' := [(3, .int 1), (2, .ref t), (0, .ref w), (1, .ref pa)]) hx hb d_Wk_handIn_23 rfl hl (by decide) rfl (fun ls hl => ?_)
  refine lv_iload_n hx hb d_Wk_handIn_24 rfl (lv_at hl 0 rfl) ?_
  refine lv_if_eq (tgt := 36) hx hb d_Wk_handIn_25 (by decide) (fun c_25 => absurd c_25 (by decide)) (fun c_25 => ?_)
  refine lv_aload_n hx hb d_Wk_handIn_28 rfl (lv_at hl 2 rfl) ?_
  refine lv_aload_n hx hb d_Wk_handIn_29 rfl (lv_at hl 3 rfl) ?_
  have hPc := hP.sub (ws' := [(w, .inr (3, [.ref r, .ref s, .ref u, .null, .int tn, .int nx, .int dn, .int ld, .int (nI 1)])), (u, .inr (0, [.ref un, .ref uk, .ref uo, .int (nI psU.length)])), (un, .inl ((ka 0), 256, .inr (.inl numU))), (uk, .inl ((ka 2), 256, .inl kpU)), (uo, .inl ((ka 1), 256, .inl odU)), (pa, .inl ((ka 0), 256, .inr (.inl P)))]) [0, 2, 3, 4, 5, 7] rfl
  have hDc := hD.sub (ws' := [(w, .inr (3, [.ref r, .ref s, .ref u, .null, .int tn, .int nx, .int dn, .int ld, .int (nI 1)])), (u, .inr (0, [.ref un, .ref uk, .ref uo, .int (nI psU.length)])), (un, .inl ((ka 0), 256, .inr (.inl numU))), (uk, .inl ((ka 2), 256, .inl kpU)), (uo, .inl ((ka 1), 256, .inl odU)), (pa, .inl ((ka 0), 256, .inr (.inl P)))]) [0, 2, 3, 4, 5, 7] (by decide) rfl
  have hFc := va_free (wc := [(w, .inr (3, [.ref r, .ref s, .ref u, .null, .int tn, .int nx, .int dn, .int ld, .int (nI 1)])), (u, .inr (0, [.ref un, .ref uk, .ref uo, .int (nI psU.length)])), (un, .inl ((ka 0), 256, .inr (.inl numU))), (uk, .inl ((ka 2), 256, .inl kpU)), (uo, .inl ((ka 1), 256, .inl odU)), (pa, .inl ((ka 0), 256, .inr (.inl P)))]) hD hS hA [0, 2, 3, 4, 5, 7] rfl
  refine va_calli (va_runV (As := [.ref pa]) (rest := []) ⟨hx, hb, hml, hown, hts⟩ (c_Wk_storeInto l D ka H.size w r s u un uk uo pa tn nx dn ld (nI 1) numU P psU kpU odU hU0) ⟨callB_of 1 hts (gd_tb mw_2_108) rfl rfl rfl (hts _ (List.mem_cons_of_mem _ mw_1_8)) (hts _ (List.mem_cons_of_mem _ mw_2_105)) (by decide +kernel) ⟨Nat.le_of_ble_eq_true rfl, Nat.le_of_ble_eq_true rfl⟩, (hts _ (List.mem_cons_of_mem _ mw_2_107)), (hts _ (List.mem_cons_of_mem _ (tb_sel (List.mem_of_getElem? (i := 6) rfl))))⟩ ⟨pW_blind, va_recv hK hPc (ci := 3) (q0 := 0) rfl rfl, pW_pre hK hN hPc hDc⟩ rfl rfl hl.1 rfl (lv_room (Nat.le_of_ble_eq_true rfl)) d_Wk_handIn_30 ⟨Nat.le_of_ble_eq_true rfl, Nat.le_of_ble_eq_true rfl⟩) hS (fun q _ h => hFc q h) hFc (fun r_30 u9 t9 H1 locs ht hvm hr_30 hB hz1 hk1 hS => ?_)
  obtain ⟨hrel_30, hP1, hD1⟩ := hB
  rw [ht] at hP1
  obtain ⟨hP, hD⟩ := va_join (wr := [(r, .inl ((ka 0), 8, .inr (.inl rg))), (t, .inr (1, [.ref ta, .ref tb, .ref tc, .int tln, .int kn, .int toc, .int tdn, .int tld, .int tsr, .long trs]))]) (w1 := [(w, .inr (3, [.ref r, .ref s, .ref u, .null, .int tn, .int nx, .int dn, .int ld, .int (nI 1)])), (u, .inr (0, [.ref un, .ref uk, .ref uo, .int (nI psU.length)])), (un, .inl ((ka 0), 256, .inr (.inl numU))), (uk, .inl ((ka 2), 256, .inl kpU)), (uo, .inl ((ka 1), 256, .inl odU)), (pa, .inl ((ka 0), 256, .inr (.inl (fun p => (dm psU numU p).getD (P p)))))]) hP hD [0, 2, 3, 4, 5, 7] [1, 6] rfl rfl (by decide) (by decide) hk1 hFc hP1 hD1
  generalize H1 = H at hP hS ⊢
  have hP : va_P D classes ([(r, .inl ((ka 0), 8, .inr (.inl rg))), (t, .inr (1, [.ref ta, .ref tb, .ref tc, .int tln, .int kn, .int toc, .int tdn, .int tld, .int tsr, .long trs])), (w, .inr (3, [.ref r, .ref s, .ref u, .null, .int tn, .int nx, .int dn, .int ld, .int (nI 1)])), (u, .inr (0, [.ref un, .ref uk, .ref uo, .int (nI psU.length)])), (un, .inl ((ka 0), 256, .inr (.inl numU))), (uk, .inl ((ka 2), 256, .inl kpU)), (uo, .inl ((ka 1), 256, .inl odU)), (pa, .inl ((ka 0), 256, .inr (.inl (fun p => (dm psU numU p).getD (P p)))))]) H := hP
  have hD : va_D A ([(r, .inl ((ka 0), 8, .inr (.inl rg))), (t, .inr (1, [.ref ta, .ref tb, .ref tc, .int tln, .int kn, .int toc, .int tdn, .int tld, .int tsr, .long trs])), (w, .inr (3, [.ref r, .ref s, .ref u, .null, .int tn, .int nx, .int dn, .int ld, .int (nI 1)])), (u, .inr (0, [.ref un, .ref uk, .ref uo, .int (nI psU.length)])), (un, .inl ((ka 0), 256, .inr (.inl numU))), (uk, .inl ((ka 2), 256, .inl kpU)), (uo, .inl ((ka 1), 256, .inl odU)), (pa, .inl ((ka 0), 256, .inr (.inl (fun p => (dm psU numU p).getD (P p)))))]) := hD
  obtain rfl : r_30 = (nI psU.length) := hr_30
  refine lv_goto (tgt := 37) hx hb d_Wk_handIn_33 (by decide) ?_
  refine lv_istore (lv' := [(4, .int (nI psU.length)), (3, .int 1), (2, .ref t), (0, .ref w), (1, .ref pa)]) hx hb d_Wk_handIn_37 hl (by decide) rfl (fun ls hl => ?_)
  refine lv_aload_n hx hb d_Wk_handIn_39 rfl (lv_at hl 2 rfl) ?_
  refine lv_ifnull hx hb d_Wk_handIn_40 ?_
  refine lv_aload_n hx hb d_Wk_handIn_43 rfl (lv_at hl 2 rfl) ?_
  refine lv_aload_n hx hb d_Wk_handIn_44 rfl (lv_at hl 3 rfl) ?_
  refine va_get (D := D) (ci := 3) (v := .int (nI 1)) (C := "VersionedBlock$Worker") (T := T_Wk) (N := 9) hx hb hts (fun w h => List.mem_cons_of_mem _ (il_Wk w h)) hown hK hP 2 rfl rfl 8 (by decide) (hts _ (List.mem_cons_of_mem _ mw_1_234)) (fun _ h9 => h9) rfl d_Wk_handIn_45 ?_
  refine lv_aload_n hx hb d_Wk_handIn_48 rfl (lv_at hl 3 rfl) ?_
  refine va_get (D := D) (ci := 3) (v := .int dn) (C := "VersionedBlock$Worker") (T := T_Wk) (N := 9) hx hb hts (fun w h => List.mem_cons_of_mem _ (il_Wk w h)) hown hK hP 2 rfl rfl 6 (by decide) (hts _ (List.mem_cons_of_mem _ mw_1_232)) (fun _ h9 => h9) rfl d_Wk_handIn_49 ?_
  refine lv_aload_n hx hb d_Wk_handIn_52 rfl (lv_at hl 3 rfl) ?_
  refine va_get (D := D) (ci := 3) (v := .int ld) (C := "VersionedBlock$Worker") (T := T_Wk) (N := 9) hx hb hts (fun w h => List.mem_cons_of_mem _ (il_Wk w h)) hown hK hP 2 rfl rfl 7 (by decide) (hts _ (List.mem_cons_of_mem _ mw_1_233)) (fun _ h9 => h9) rfl d_Wk_handIn_53 ?_
  refine lv_iload hx hb d_Wk_handIn_56 (lv_at hl 0 rfl) ?_
  refine lv_aload_n hx hb d_Wk_handIn_58 rfl (lv_at hl 3 rfl) ?_
  refine va_get (D := D) (ci := 3) (v := .int (nI 1)) (C := "VersionedBlock$Worker") (T := T_Wk) (N := 9) hx hb hts (fun w h => List.mem_cons_of_mem _ (il_Wk w h)) hown hK hP 2 rfl rfl 8 (by decide) (hts _ (List.mem_cons_of_mem _ mw_1_234)) (fun _ h9 => h9) rfl d_Wk_handIn_59 ?_
  refine lv_iconst (v := (nI 3)) hx hb d_Wk_handIn_62 (by decide) ?_
  refine lv_icmp_ne (tgt := 70) hx hb d_Wk_handIn_63 (by decide) (fun c_63 => ?_) (fun c_63 => absurd c_63 (by decide))
  refine lv_aload_n hx hb d_Wk_handIn_70 rfl (lv_at hl 3 rfl) ?_
  refine va_get (D := D) (ci := 3) (v := .ref r) (C := "VersionedBlock$Worker") (T := T_Wk) (N := 9) hx hb hts (fun w h => List.mem_cons_of_mem _ (il_Wk w h)) hown hK hP 2 rfl rfl 0 (by decide) (hts _ (List.mem_cons_of_mem _ mw_1_226)) (fun _ h9 => h9) rfl d_Wk_handIn_71 ?_
  refine lv_iconst (v := 0) hx hb d_Wk_handIn_74 (by decide) ?_
  refine my_lald hx hb hK hP 0 0 rfl rfl (k := 0) (by decide) (Nat.le_of_ble_eq_true rfl) d_Wk_handIn_75 ?_
  have hPc := hP.sub (ws' := [(t, .inr (1, [.ref ta, .ref tb, .ref tc, .int tln, .int kn, .int toc, .int tdn, .int tld, .int tsr, .long trs]))]) [1] rfl
  have hDc := hD.sub (ws' := [(t, .inr (1, [.ref ta, .ref tb, .ref tc, .int tln, .int kn, .int toc, .int tdn, .int tld, .int tsr, .long trs]))]) [1] (by decide) rfl
  have hFc := va_free (wc := [(t, .inr (1, [.ref ta, .ref tb, .ref tc, .int tln, .int kn, .int toc, .int tdn, .int tld, .int tsr, .long trs]))]) hD hS hA [1] rfl
  refine va_callv (va_runV (As := [.int (nI 1), .int dn, .int ld, .int (nI psU.length), .long (rg 0)]) (rest := []) ⟨hx, hb, hml, hown, hts⟩ (c_Tr_note l D ka H.size t ta tb tc tln kn toc tdn tld tsr trs (nI 1) dn ld (nI psU.length) (rg 0) ) ⟨callB_of 5 hts (gd_tb mw_2_112) rfl rfl rfl (hts _ (List.mem_cons_of_mem _ mw_1_5)) (hts _ (List.mem_cons_of_mem _ mw_2_109)) (by decide +kernel) ⟨Nat.le_of_ble_eq_true rfl, Nat.le_of_ble_eq_true rfl⟩, (hts _ (List.mem_cons_of_mem _ mw_2_110)), (hts _ (List.mem_cons_of_mem _ mw_2_111))⟩ ⟨pW_blind, va_recv hK hPc (ci := 1) (q0 := 0) rfl rfl, pW_pre hK hN hPc hDc⟩ rfl rfl hl.1 rfl (lv_room (Nat.le_of_ble_eq_true rfl)) d_Wk_handIn_76 ⟨Nat.le_of_ble_eq_true rfl, Nat.le_of_ble_eq_true rfl⟩) hS (fun q _ h => hFc q h) hFc (fun u9 t9 H1 locs ht hvm hr_76 hB hz1 hk1 hS => ?_)
  obtain ⟨hrel_76, hP1, hD1⟩ := hB
  rw [ht] at hP1
  obtain ⟨hP, hD⟩ := va_join (wr := [(r, .inl ((ka 0), 8, .inr (.inl rg))), (w, .inr (3, [.ref r, .ref s, .ref u, .null, .int tn, .int nx, .int dn, .int ld, .int (nI 1)])), (u, .inr (0, [.ref un, .ref uk, .ref uo, .int (nI psU.length)])), (un, .inl ((ka 0), 256, .inr (.inl numU))), (uk, .inl ((ka 2), 256, .inl kpU)), (uo, .inl ((ka 1), 256, .inl odU)), (pa, .inl ((ka 0), 256, .inr (.inl (fun p => (dm psU numU p).getD (P p)))))]) (w1 := [(t, .inr (1, [.ref ta, .ref tb, .ref tc, .int tln, .int 1, .int (nI 1), .int dn, .int ld, .int (nI psU.length), .long (rg 0)]))]) hP hD [1] [0, 2, 3, 4, 5, 6, 7] rfl rfl (by decide) (by decide) hk1 hFc hP1 hD1
  generalize H1 = H at hP hS ⊢
  have hP : va_P D classes ([(r, .inl ((ka 0), 8, .inr (.inl rg))), (w, .inr (3, [.ref r, .ref s, .ref u, .null, .int tn, .int nx, .int dn, .int ld, .int (nI 1)])), (u, .inr (0, [.ref un, .ref uk, .ref uo, .int (nI psU.length)])), (un, .inl ((ka 0), 256, .inr (.inl numU))), (uk, .inl ((ka 2), 256, .inl kpU)), (uo, .inl ((ka 1), 256, .inl odU)), (pa, .inl ((ka 0), 256, .inr (.inl (fun p => (dm psU numU p).getD (P p))))), (t, .inr (1, [.ref ta, .ref tb, .ref tc, .int tln, .int 1, .int (nI 1), .int dn, .int ld, .int (nI psU.length), .long (rg 0)]))]) H := hP
  have hD : va_D A ([(r, .inl ((ka 0), 8, .inr (.inl rg))), (w, .inr (3, [.ref r, .ref s, .ref u, .null, .int tn, .int nx, .int dn, .int ld, .int (nI 1)])), (u, .inr (0, [.ref un, .ref uk, .ref uo, .int (nI psU.length)])), (un, .inl ((ka 0), 256, .inr (.inl numU))), (uk, .inl ((ka 2), 256, .inl kpU)), (uo, .inl ((ka 1), 256, .inl odU)), (pa, .inl ((ka 0), 256, .inr (.inl (fun p => (dm psU numU p).getD (P p))))), (t, .inr (1, [.ref ta, .ref tb, .ref tc, .int tln, .int 1, .int (nI 1), .int dn, .int ld, .int (nI psU.length), .long (rg 0)]))]) := hD
  refine lv_iload_n hx hb d_Wk_handIn_79 rfl (lv_at hl 1 rfl) ?_
  have hP9 := hP.sub (ws' := [(w, .inr (3, [.ref r, .ref s, .ref u, .null, .int tn, .int nx, .int dn, .int ld, .int (nI 1)])), (r, .inl ((ka 0), 8, .inr (.inl rg))), (u, .inr (0, [.ref un, .ref uk, .ref uo, .int (nI psU.length)])), (un, .inl ((ka 0), 256, .inr (.inl numU))), (uk, .inl ((ka 2), 256, .inl kpU)), (uo, .inl ((ka 1), 256, .inl odU)), (t, .inr (1, [.ref ta, .ref tb, .ref tc, .int tln, .int 1, .int (nI 1), .int dn, .int ld, .int (nI psU.length), .long (rg 0)])), (pa, .inl ((ka 0), 256, .inr (.inl (fun p => (dm psU numU p).getD (P p)))))]) [1, 0, 2, 3, 4, 5, 7, 6] rfl
  have hD9 := hD.sub (ws' := [(w, .inr (3, [.ref r, .ref s, .ref u, .null, .int tn, .int nx, .int dn, .int ld, .int (nI 1)])), (r, .inl ((ka 0), 8, .inr (.inl rg))), (u, .inr (0, [.ref un, .ref uk, .ref uo, .int (nI psU.length)])), (un, .inl ((ka 0), 256, .inr (.inl numU))), (uk, .inl ((ka 2), 256, .inl kpU)), (uo, .inl ((ka 1), 256, .inl odU)), (t, .inr (1, [.ref ta, .ref tb, .ref tc, .int tln, .int 1, .int (nI 1), .int dn, .int ld, .int (nI psU.length), .long (rg 0)])), (pa, .inl ((ka 0), 256, .inr (.inl (fun p => (dm psU numU p).getD (P p)))))]) [1, 0, 2, 3, 4, 5, 7, 6] (by decide) rfl
  exact W.zret (v := 1) hx hb hr rfl (fun t9 ht hW => ⟨⟨1, (), rfl, rfl, trivial, by rw [ht]; exact hP9, hD9⟩, hS.F ht⟩) hS.2.2 d_Wk_handIn_80
set_option maxHeartbeats 4000000 in
set_option maxRecDepth 100000 in
theorem c_Wk_handIn2 (l : Launch) (D : va_G) (ka : Nat → ClassId) (sz : Nat) (w r s u un uk uo t ta tb tc pa : Nat) (tn nx dn ld tln kn toc tdn tld tsr : Int32) (trs : Int64) (rg numU P : Nat → Int64) (psU : List Nat) (kpU odU : Nat → Int32) (hU0 : dOK psU kpU odU) : Met l y_Wk_handIn w_Wk_handIn ({ frames := 1, cells := 0, slots := 0, locals := 26 }) (pW classes (tyS ka) D [.ref w, .ref pa] ([(w, .inr (3, [.ref r, .ref s, .ref u, .ref t, .int tn, .int nx, .int dn, .int ld, .int (nI 2)])), (r, .inl ((ka 0), 8, .inr (.inl rg))), (u, .inr (0, [.ref un, .ref uk, .ref uo, .int (nI psU.length)])), (un, .inl ((ka 0), 256, .inr (.inl numU))), (uk, .inl ((ka 2), 256, .inl kpU)), (uo, .inl ((ka 1), 256, .inl odU)), (t, .inr (1, [.ref ta, .ref tb, .ref tc, .int tln, .int kn, .int toc, .int tdn, .int tld, .int tsr, .long trs])), (pa, .inl ((ka 0), 256, .inr (.inl P)))]) sz) (va_Qi (fun (r : Int32) (_ : Unit) => r = 0) (fun (_ : Unit) t9 => (True) ∧ va_P D classes ([(w, .inr (3, [.ref r, .ref s, .ref u, .null, .int tn, .int nx, .int dn, .int ld, .int (nI 2)])), (r, .inl ((ka 0), 8, .inr (.inl rg))), (u, .inr (0, [.ref un, .ref uk, .ref uo, .int (nI psU.length)])), (un, .inl ((ka 0), 256, .inr (.inl numU))), (uk, .inl ((ka 2), 256, .inl kpU)), (uo, .inl ((ka 1), 256, .inl odU)), (t, .inr (1, [.ref ta, .ref tb, .ref tc, .int tln, .int 1, .int (nI 2), .int dn, .int ld, .int 0, .long (rg 0)])), (pa, .inl ((ka 0), 256, .inr (.inl P)))]) t9.heap ∧ va_D (va_A ([(w, .inr (3, [.ref r, .ref s, .ref u, .ref t, .int tn, .int nx, .int dn, .int ld, .int (nI 2)])), (r, .inl ((ka 0), 8, .inr (.inl rg))), (u, .inr (0, [.ref un, .ref uk, .ref uo, .int (nI psU.length)])), (un, .inl ((ka 0), 256, .inr (.inl numU))), (uk, .inl ((ka 2), 256, .inl kpU)), (uo, .inl ((ka 1), 256, .inl odU)), (t, .inr (1, [.ref ta, .ref tb, .ref tc, .int tln, .int kn, .int toc, .int tdn, .int tld, .int tsr, .long trs])), (pa, .inl ((ka 0), 256, .inr (.inl P)))]) sz) ([(w, .inr (3, [.ref r, .ref s, .ref u, .null, .int tn, .int nx, .int dn, .int ld, .int (nI 2)])), (r, .inl ((ka 0), 8, .inr (.inl rg))), (u, .inr (0, [.ref un, .ref uk, .ref uo, .int (nI psU.length)])), (un, .inl ((ka 0), 256, .inr (.inl numU))), (uk, .inl ((ka 2), 256, .inl kpU)), (uo, .inl ((ka 1), 256, .inl odU)), (t, .inr (1, [.ref ta, .ref tb, .ref tc, .int tln, .int 1, .int (nI 2), .int dn, .int ld, .int 0, .long (rg 0)])), (pa, .inl ((ka 0), 256, .inr (.inl P)))])) (va_A ([(w, .inr (3, [.ref r, .ref s, .ref u, .ref t, .int tn, .int nx, .int dn, .int ld, .int (nI 2)])), (r, .inl ((ka 0), 8, .inr (.inl rg))), (u, .inr (0, [.ref un, .ref uk, .ref uo, .int (nI psU.length)])), (un, .inl ((ka 0), 256, .inr (.inl numU))), (uk, .inl ((ka 2), 256, .inl kpU)), (uo, .inl ((ka 1), 256, .inl odU)), (t, .inr (1, [.ref ta, .ref tb, .ref tc, .int tln, .int kn, .int toc, .int tdn, .int tld, .int tsr, .long trs])), (pa, .inl ((ka 0), 256, .inr (.inl P)))]) sz)) 0 0 (va_A ([(w, .inr (3, [.ref r, .ref s, .ref u, .ref t, .int tn, .int nx, .int dn, .int ld, .int (nI 2)])), (r, .inl ((ka 0), 8, .inr (.inl rg))), (u, .inr (0, [.ref un, .ref uk, .ref uo, .int (nI psU.length)])), (un, .inl ((ka 0), 256, .inr (.inl numU))), (uk, .inl ((ka 2), 256, .inl kpU)), (uo, .inl ((ka 1), 256, .inl odU)), (t, .inr (1, [.ref ta, .ref tb, .ref tc, .int tln, .int kn, .int toc, .int tdn, .int tld, .int tsr, .long trs])), (pa, .inl ((ka 0), 256, .inr (.inl P)))]) sz) := by
  refine Met.ofW (cc := b_Wk_handIn) (maxL := 5) (ret := (some .boolean)) (by decide) rfl ?_
  intro pP eE sS mM args below meth cC s1 B hml hv
  obtain ⟨rfl, hsz, hP, hK, hN, hD0⟩ := hv
  have hx := B.exec
  have hb := B.bytes
  have hr := B.returns
  have hts := atoms_spec (ws := w_Wk_handIn) B.pre
  have hown : sS.vm.findClass "VersionedBlock$Worker" = some mM.cls := findClass_of_methodNamed B.named
  have hlocks := B.notSynchronized
  subst hsz
  have hD := hD0.self (sz := sS.heap.size)
  generalize hAe : va_A ([(w, .inr (3, [.ref r, .ref s, .ref u, .ref t, .int tn, .int nx, .int dn, .int ld, .int (nI 2)])), (r, .inl ((ka 0), 8, .inr (.inl rg))), (u, .inr (0, [.ref un, .ref uk, .ref uo, .int (nI psU.length)])), (un, .inl ((ka 0), 256, .inr (.inl numU))), (uk, .inl ((ka 2), 256, .inl kpU)), (uo, .inl ((ka 1), 256, .inl odU)), (t, .inr (1, [.ref ta, .ref tb, .ref tc, .int tln, .int kn, .int toc, .int tdn, .int tld, .int tsr, .long trs])), (pa, .inl ((ka 0), 256, .inr (.inl P)))]) sS.heap.size = A at hD ⊢
  have hA : ∀ q : Nat, sS.heap.size ≤ q → A q := fun q h => by rw [← hAe]; exact Or.inr h
  have hS : va_S A sS.heap sS.heap [] := va_S.rf
  have hl := lv_entry ([.ref w, .ref pa]) (n := 5) (Nat.le_of_ble_eq_true rfl)
  rw [lg_entry_eq]
  generalize (lg_sl ([.ref w, .ref pa]) ++ List.replicate (5 - (lg_sl ([.ref w, .ref pa])).length) Slot.unset).toArray = ls at hl ⊢
  have hl : lv_has ls 5 [(0, .ref w), (1, .ref pa)] := hl
  refine lv_aload_n hx hb d_Wk_handIn_0 rfl (lv_at hl 0 rfl) ?_
  refine va_get (D := D) (ci := 3) (v := .ref t) (C := "VersionedBlock$Worker") (T := T_Wk) (N := 9) hx hb hts (fun w h => List.mem_cons_of_mem _ (il_Wk w h)) hown hK hP 0 rfl rfl 3 (by decide) (hts _ (List.mem_cons_of_mem _ mw_1_229)) (fun _ h9 => h9) rfl d_Wk_handIn_1 ?_
  refine lv_astore_n (lv' := [(2, .ref t), (0, .ref w), (1, .ref pa)]) hx hb d_Wk_handIn_4 rfl hl (by decide) rfl (fun ls hl => ?_)
  refine lv_aload_n hx hb d_Wk_handIn_5 rfl (lv_at hl 1 rfl) ?_
  refine lv_null hx hb d_Wk_handIn_6 ?_
  refine va_put (D := D) (ci := 3) (v := .null) (ty := .object "VersionedBlock$Transaction") (C := "VersionedBlock$Worker") (T := T_Wk) (N := 9) hx hb hts (fun w h => List.mem_cons_of_mem _ (il_Wk w h)) t_Wk t_Wk_ok n_Wk hown hK hP hD hS 0 rfl rfl 3 (by decide) (hts _ (List.mem_cons_of_mem _ mw_1_229)) (fun _ h9 => h9) rfl (by decide +kernel) rfl rfl (Nat.le_of_ble_eq_true rfl) d_Wk_handIn_7 (fun H locs hP hD hS => ?_)
  have hP : va_P D classes ([(w, .inr (3, [.ref r, .ref s, .ref u, .null, .int tn, .int nx, .int dn, .int ld, .int (nI 2)])), (r, .inl ((ka 0), 8, .inr (.inl rg))), (u, .inr (0, [.ref un, .ref uk, .ref uo, .int (nI psU.length)])), (un, .inl ((ka 0), 256, .inr (.inl numU))), (uk, .inl ((ka 2), 256, .inl kpU)), (uo, .inl ((ka 1), 256, .inl odU)), (t, .inr (1, [.ref ta, .ref tb, .ref tc, .int tln, .int kn, .int toc, .int tdn, .int tld, .int tsr, .long trs])), (pa, .inl ((ka 0), 256, .inr (.inl P)))]) H := hP
  have hD : va_D A ([(w, .inr (3, [.ref r, .ref s, .ref u, .null, .int tn, .int nx, .int dn, .int ld, .int (nI 2)])), (r, .inl ((ka 0), 8, .inr (.inl rg))), (u, .inr (0, [.ref un, .ref uk, .ref uo, .int (nI psU.length)])), (un, .inl ((ka 0), 256, .inr (.inl numU))), (uk, .inl ((ka 2), 256, .inl kpU)), (uo, .inl ((ka 1), 256, .inl odU)), (t, .inr (1, [.ref ta, .ref tb, .ref tc, .int tln, .int kn, .int toc, .int tdn, .int tld, .int tsr, .long trs])), (pa, .inl ((ka 0), 256, .inr (.inl P)))]) := hD
  refine lv_aload_n hx hb d_Wk_handIn_10 rfl (lv_at hl 1 rfl) ?_
  refine va_get (D := D) (ci := 3) (v := .int (nI 2)) (C := "VersionedBlock$Worker") (T := T_Wk) (N := 9) hx hb hts (fun w h => List.mem_cons_of_mem _ (il_Wk w h)) hown hK hP 0 rfl rfl 8 (by decide) (hts _ (List.mem_cons_of_mem _ mw_1_234)) (fun _ h9 => h9) rfl d_Wk_handIn_11 ?_
  refine lv_iconst (v := (nI 1)) hx hb d_Wk_handIn_14 (by decide) ?_
  refine lv_icmp_ne (tgt := 22) hx hb d_Wk_handIn_15 (by decide) (fun c_15 => ?_) (fun c_15 => absurd c_15 (by decide))
  refine lv_iconst (v := 0) hx hb d_Wk_handIn_22 (by decide) ?_
  refine lv_istore_n (lv' := [(3, .int 0), (2, .ref t), (0, .ref w), (1, .ref pa)]) hx hb d_Wk_handIn_23 rfl hl (by decide) rfl (fun ls hl => ?_)
  refine lv_iload_n hx hb d_Wk_handIn_24 rfl (lv_at hl 0 rfl) ?_
  refine lv_if_eq (tgt := 36) hx hb d_Wk_handIn_25 (by decide) (fun c_25 => ?_) (fun c_25 => absurd rfl c_25)
  refine lv_iconst (v := 0) hx hb d_Wk_handIn_36 (by decide) ?_
  refine lv_istore (lv' := [(4, .int 0), (3, .int 0), (2, .ref t), (0, .ref w), (1, .ref pa)]) hx hb d_Wk_handIn_37 hl (by decide) rfl (fun ls hl => ?_)
  refine lv_aload_n hx hb d_Wk_handIn_39 rfl (lv_at hl 2 rfl) ?_
  refine lv_ifnull hx hb d_Wk_handIn_40 ?_
  refine lv_aload_n hx hb d_Wk_handIn_43 rfl (lv_at hl 2 rfl) ?_
  refine lv_aload_n hx hb d_Wk_handIn_44 rfl (lv_at hl 3 rfl) ?_
  refine va_get (D := D) (ci := 3) (v := .int (nI 2)) (C := "VersionedBlock$Worker") (T := T_Wk) (N := 9) hx hb hts (fun w h => List.mem_cons_of_mem _ (il_Wk w h)) hown hK hP 0 rfl rfl 8 (by decide) (hts _ (List.mem_cons_of_mem _ mw_1_234)) (fun _ h9 => h9) rfl d_Wk_handIn_45 ?_
  refine lv_aload_n hx hb d_Wk_handIn_48 rfl (lv_at hl 3 rfl) ?_
  refine va_get (D := D) (ci := 3) (v := .int dn) (C := "VersionedBlock$Worker") (T := T_Wk) (N := 9) hx hb hts (fun w h => List.mem_cons_of_mem _ (il_Wk w h)) hown hK hP 0 rfl rfl 6 (by decide) (hts _ (List.mem_cons_of_mem _ mw_1_232)) (fun _ h9 => h9) rfl d_Wk_handIn_49 ?_
  refine lv_aload_n hx hb d_Wk_handIn_52 rfl (lv_at hl 3 rfl) ?_
  refine va_get (D := D) (ci := 3) (v := .int ld) (C := "VersionedBlock$Worker") (T := T_Wk) (N := 9) hx hb hts (fun w h => List.mem_cons_of_mem _ (il_Wk w h)) hown hK hP 0 rfl rfl 7 (by decide) (hts _ (List.mem_cons_of_mem _ mw_1_233)) (fun _ h9 => h9) rfl d_Wk_handIn_53 ?_
  refine lv_iload hx hb d_Wk_handIn_56 (lv_at hl 0 rfl) ?_
  refine lv_aload_n hx hb d_Wk_handIn_58 rfl (lv_at hl 3 rfl) ?_
  refine va_get (D := D) (ci := 3) (v := .int (nI 2)) (C := "VersionedBlock$Worker") (T := T_Wk) (N := 9) hx hb hts (fun w h => List.mem_cons_of_mem _ (il_Wk w h)) hown hK hP 0 rfl rfl 8 (by decide) (hts _ (List.mem_cons_of_mem _ mw_1_234)) (fun _ h9 => h9) rfl d_Wk_handIn_59 ?_
  refine lv_iconst (v := (nI 3)) hx hb d_Wk_handIn_62 (by decide) ?_
  refine lv_icmp_ne (tgt := 70) hx hb d_Wk_handIn_63 (by decide) (fun c_63 => ?_) (fun c_63 => absurd c_63 (by decide))
  refine lv_aload_n hx hb d_Wk_handIn_70 rfl (lv_at hl 3 rfl) ?_
  refine va_get (D := D) (ci := 3) (v := .ref r) (C := "VersionedBlock$Worker") (T := T_Wk) (N := 9) hx hb hts (fun w h => List.mem_cons_of_mem _ (il_Wk w h)) hown hK hP 0 rfl rfl 0 (by decide) (hts _ (List.mem_cons_of_mem _ mw_1_226)) (fun _ h9 => h9) rfl d_Wk_handIn_71 ?_
  refine lv_iconst (v := 0) hx hb d_Wk_handIn_74 (by decide) ?_
  refine my_lald hx hb hK hP 1 0 rfl rfl (k := 0) (by decide) (Nat.le_of_ble_eq_true rfl) d_Wk_handIn_75 ?_
  have hPc := hP.sub (ws' := [(t, .inr (1, [.ref ta, .ref tb, .ref tc, .int tln, .int kn, .int toc, .int tdn, .int tld, .int tsr, .long trs]))]) [6] rfl
  have hDc := hD.sub (ws' := [(t, .inr (1, [.ref ta, .ref tb, .ref tc, .int tln, .int kn, .int toc, .int tdn, .int tld, .int tsr, .long trs]))]) [6] (by decide) rfl
  have hFc := va_free (wc := [(t, .inr (1, [.ref ta, .ref tb, .ref tc, .int tln, .int kn, .int toc, .int tdn, .int tld, .int tsr, .long trs]))]) hD hS hA [6] rfl
  refine va_callv (va_runV (As := [.int (nI 2), .int dn, .int ld, .int 0, .long (rg 0)]) (rest := []) ⟨hx, hb, hml, hown, hts⟩ (c_Tr_note l D ka H.size t ta tb tc tln kn toc tdn tld tsr trs (nI 2) dn ld 0 (rg 0) ) ⟨callB_of 5 hts (gd_tb mw_2_112) rfl rfl rfl (hts _ (List.mem_cons_of_mem _ mw_1_5)) (hts _ (List.mem_cons_of_mem _ mw_2_109)) (by decide +kernel) ⟨Nat.le_of_ble_eq_true rfl, Nat.le_of_ble_eq_true rfl⟩, (hts _ (List.mem_cons_of_mem _ mw_2_110)), (hts _ (List.mem_cons_of_mem _ mw_2_111))⟩ ⟨pW_blind, va_recv hK hPc (ci := 1) (q0 := 0) rfl rfl, pW_pre hK hN hPc hDc⟩ rfl rfl hl.1 rfl (lv_room (Nat.le_of_ble_eq_true rfl)) d_Wk_handIn_76 ⟨Nat.le_of_ble_eq_true rfl, Nat.le_of_ble_eq_true rfl⟩) hS (fun q _ h => hFc q h) hFc (fun u9 t9 H1 locs ht hvm hr_76 hB hz1 hk1 hS => ?_)
  obtain ⟨hrel_76, hP1, hD1⟩ := hB
  rw [ht] at hP1
  obtain ⟨hP, hD⟩ := va_join (wr := [(w, .inr (3, [.ref r, .ref s, .ref u, .null, .int tn, .int nx, .int dn, .int ld, .int (nI 2)])), (r, .inl ((ka 0), 8, .inr (.inl rg))), (u, .inr (0, [.ref un, .ref uk, .ref uo, .int (nI psU.length)])), (un, .inl ((ka 0), 256, .inr (.inl numU))), (uk, .inl ((ka 2), 256, .inl kpU)), (uo, .inl ((ka 1), 256, .inl odU)), (pa, .inl ((ka 0), 256, .inr (.inl P)))]) (w1 := [(t, .inr (1, [.ref ta, .ref tb, .ref tc, .int tln, .int 1, .int (nI 2), .int dn, .int ld, .int 0, .long (rg 0)]))]) hP hD [6] [0, 1, 2, 3, 4, 5, 7] rfl rfl (by decide) (by decide) hk1 hFc hP1 hD1
  generalize H1 = H at hP hS ⊢
  have hP : va_P D classes ([(w, .inr (3, [.ref r, .ref s, .ref u, .null, .int tn, .int nx, .int dn, .int ld, .int (nI 2)])), (r, .inl ((ka 0), 8, .inr (.inl rg))), (u, .inr (0, [.ref un, .ref uk, .ref uo, .int (nI psU.length)])), (un, .inl ((ka 0), 256, .inr (.inl numU))), (uk, .inl ((ka 2), 256, .inl kpU)), (uo, .inl ((ka 1), 256, .inl odU)), (pa, .inl ((ka 0), 256, .inr (.inl P))), (t, .inr (1, [.ref ta, .ref tb, .ref tc, .int tln, .int 1, .int (nI 2), .int dn, .int ld, .int 0, .long (rg 0)]))]) H := hP
  have hD : va_D A ([(w, .inr (3, [.ref r, .ref s, .ref u, .null, .int tn, .int nx, .int dn, .int ld, .int (nI 2)])), (r, .inl ((ka 0), 8, .inr (.inl rg))), (u, .inr (0, [.ref un, .ref uk, .ref uo, .int (nI psU.length)])), (un, .inl ((ka 0), 256, .inr (.inl numU))), (uk, .inl ((ka 2), 256, .inl kpU)), (uo, .inl ((ka 1), 256, .inl odU)), (pa, .inl ((ka 0), 256, .inr (.inl P))), (t, .inr (1, [.ref ta, .ref tb, .ref tc, .int tln, .int 1, .int (nI 2), .int dn, .int ld, .int 0, .long (rg 0)]))]) := hD
  refine lv_iload_n hx hb d_Wk_handIn_79 rfl (lv_at hl 1 rfl) ?_
  have hP9 := hP.sub (ws' := [(w, .inr (3, [.ref r, .ref s, .ref u, .null, .int tn, .int nx, .int dn, .int ld, .int (nI 2)])), (r, .inl ((ka 0), 8, .inr (.inl rg))), (u, .inr (0, [.ref un, .ref uk, .ref uo, .int (nI psU.length)])), (un, .inl ((ka 0), 256, .inr (.inl numU))), (uk, .inl ((ka 2), 256, .inl kpU)), (uo, .inl ((ka 1), 256, .inl odU)), (t, .inr (1, [.ref ta, .ref tb, .ref tc, .int tln, .int 1, .int (nI 2), .int dn, .int ld, .int 0, .long (rg 0)])), (pa, .inl ((ka 0), 256, .inr (.inl P)))]) [0, 1, 2, 3, 4, 5, 7, 6] rfl
  have hD9 := hD.sub (ws' := [(w, .inr (3, [.ref r, .ref s, .ref u, .null, .int tn, .int nx, .int dn, .int ld, .int (nI 2)])), (r, .inl ((ka 0), 8, .inr (.inl rg))), (u, .inr (0, [.ref un, .ref uk, .ref uo, .int (nI psU.length)])), (un, .inl ((ka 0), 256, .inr (.inl numU))), (uk, .inl ((ka 2), 256, .inl kpU)), (uo, .inl ((ka 1), 256, .inl odU)), (t, .inr (1, [.ref ta, .ref tb, .ref tc, .int tln, .int 1, .int (nI 2), .int dn, .int ld, .int 0, .long (rg 0)])), (pa, .inl ((ka 0), 256, .inr (.inl P)))]) [0, 1, 2, 3, 4, 5, 7, 6] (by decide) rfl
  exact W.zret (v := 0) hx hb hr rfl (fun t9 ht hW => ⟨⟨0, (), rfl, rfl, trivial, by rw [ht]; exact hP9, hD9⟩, hS.F ht⟩) hS.2.2 d_Wk_handIn_80
set_option maxHeartbeats 4000000 in
set_option maxRecDepth 100000 in
theorem c_Wk_handIn3 (l : Launch) (D : va_G) (ka : Nat → ClassId) (sz : Nat) (w r s u un uk uo t ta tb tc pa : Nat) (tn nx dn ld tln kn toc tdn tld tsr : Int32) (trs : Int64) (rg numU P : Nat → Int64) (psU : List Nat) (kpU odU : Nat → Int32) (hU0 : dOK psU kpU odU) : Met l y_Wk_handIn w_Wk_handIn ({ frames := 1, cells := 0, slots := 0, locals := 26 }) (pW classes (tyS ka) D [.ref w, .ref pa] ([(w, .inr (3, [.ref r, .ref s, .ref u, .ref t, .int tn, .int nx, .int dn, .int ld, .int (nI 3)])), (r, .inl ((ka 0), 8, .inr (.inl rg))), (u, .inr (0, [.ref un, .ref uk, .ref uo, .int (nI psU.length)])), (un, .inl ((ka 0), 256, .inr (.inl numU))), (uk, .inl ((ka 2), 256, .inl kpU)), (uo, .inl ((ka 1), 256, .inl odU)), (t, .inr (1, [.ref ta, .ref tb, .ref tc, .int tln, .int kn, .int toc, .int tdn, .int tld, .int tsr, .long trs])), (pa, .inl ((ka 0), 256, .inr (.inl P)))]) sz) (va_Qi (fun (r : Int32) (_ : Unit) => r = 0) (fun (_ : Unit) t9 => (True) ∧ va_P D classes ([(w, .inr (3, [.ref r, .ref s, .ref u, .null, .int tn, .int nx, .int dn, .int ld, .int (nI 3)])), (r, .inl ((ka 0), 8, .inr (.inl rg))), (u, .inr (0, [.ref un, .ref uk, .ref uo, .int (nI psU.length)])), (un, .inl ((ka 0), 256, .inr (.inl numU))), (uk, .inl ((ka 2), 256, .inl kpU)), (uo, .inl ((ka 1), 256, .inl odU)), (t, .inr (1, [.ref ta, .ref tb, .ref tc, .int tln, .int 1, .int (nI 3), .int dn, .int ld, .int 0, .long 0])), (pa, .inl ((ka 0), 256, .inr (.inl P)))]) t9.heap ∧ va_D (va_A ([(w, .inr (3, [.ref r, .ref s, .ref u, .ref t, .int tn, .int nx, .int dn, .int ld, .int (nI 3)])), (r, .inl ((ka 0), 8, .inr (.inl rg))), (u, .inr (0, [.ref un, .ref uk, .ref uo, .int (nI psU.length)])), (un, .inl ((ka 0), 256, .inr (.inl numU))), (uk, .inl ((ka 2), 256, .inl kpU)), (uo, .inl ((ka 1), 256, .inl odU)), (t, .inr (1, [.ref ta, .ref tb, .ref tc, .int tln, .int kn, .int toc, .int tdn, .int tld, .int tsr, .long trs])), (pa, .inl ((ka 0), 256, .inr (.inl P)))]) sz) ([(w, .inr (3, [.ref r, .ref s, .ref u, .null, .int tn, .int nx, .int dn, .int ld, .int (nI 3)])), (r, .inl ((ka 0), 8, .inr (.inl rg))), (u, .inr (0, [.ref un, .ref uk, .ref uo, .int (nI psU.length)])), (un, .inl ((ka 0), 256, .inr (.inl numU))), (uk, .inl ((ka 2), 256, .inl kpU)), (uo, .inl ((ka 1), 256, .inl odU)), (t, .inr (1, [.ref ta, .ref tb, .ref tc, .int tln, .int 1, .int (nI 3), .int dn, .int ld, .int 0, .long 0])), (pa, .inl ((ka 0), 256, .inr (.inl P)))])) (va_A ([(w, .inr (3, [.ref r, .ref s, .ref u, .ref t, .int tn, .int nx, .int dn, .int ld, .int (nI 3)])), (r, .inl ((ka 0), 8, .inr (.inl rg))), (u, .inr (0, [.ref un, .ref uk, .ref uo, .int (nI psU.length)])), (un, .inl ((ka 0), 256, .inr (.inl numU))), (uk, .inl ((ka 2), 256, .inl kpU)), (uo, .inl ((ka 1), 256, .inl odU)), (t, .inr (1, [.ref ta, .ref tb, .ref tc, .int tln, .int kn, .int toc, .int tdn, .int tld, .int tsr, .long trs])), (pa, .inl ((ka 0), 256, .inr (.inl P)))]) sz)) 0 0 (va_A ([(w, .inr (3, [.ref r, .ref s, .ref u, .ref t, .int tn, .int nx, .int dn, .int ld, .int (nI 3)])), (r, .inl ((ka 0), 8, .inr (.inl rg))), (u, .inr (0, [.ref un, .ref uk, .ref uo, .int (nI psU.length)])), (un, .inl ((ka 0), 256, .inr (.inl numU))), (uk, .inl ((ka 2), 256, .inl kpU)), (uo, .inl ((ka 1), 256, .inl odU)), (t, .inr (1, [.ref ta, .ref tb, .ref tc, .int tln, .int kn, .int toc, .int tdn, .int tld, .int tsr, .long trs])), (pa, .inl ((ka 0), 256, .inr (.inl P)))]) sz) := by
  refine Met.ofW (cc := b_Wk_handIn) (maxL := 5) (ret := (some .boolean)) (by decide) rfl ?_
  intro pP eE sS mM args below meth cC s1 B hml hv
  obtain ⟨rfl, hsz, hP, hK, hN, hD0⟩ := hv
  have hx := B.exec
  have hb := B.bytes
  have hr := B.returns
  have hts := atoms_spec (ws := w_Wk_handIn) B.pre
  have hown : sS.vm.findClass "VersionedBlock$Worker" = some mM.cls := findClass_of_methodNamed B.named
  have hlocks := B.notSynchronized
  subst hsz
  have hD := hD0.self (sz := sS.heap.size)
  generalize hAe : va_A ([(w, .inr (3, [.ref r, .ref s, .ref u, .ref t, .int tn, .int nx, .int dn, .int ld, .int (nI 3)])), (r, .inl ((ka 0), 8, .inr (.inl rg))), (u, .inr (0, [.ref un, .ref uk, .ref uo, .int (nI psU.length)])), (un, .inl ((ka 0), 256, .inr (.inl numU))), (uk, .inl ((ka 2), 256, .inl kpU)), (uo, .inl ((ka 1), 256, .inl odU)), (t, .inr (1, [.ref ta, .ref tb, .ref tc, .int tln, .int kn, .int toc, .int tdn, .int tld, .int tsr, .long trs])), (pa, .inl ((ka 0), 256, .inr (.inl P)))]) sS.heap.size = A at hD ⊢
  have hA : ∀ q : Nat, sS.heap.size ≤ q → A q := fun q h => by rw [← hAe]; exact Or.inr h
  have hS : va_S A sS.heap sS.heap [] := va_S.rf
  have hl := lv_entry ([.ref w, .ref pa]) (n := 5) (Nat.le_of_ble_eq_true rfl)
  rw [lg_entry_eq]
  generalize (lg_sl ([.ref w, .ref pa]) ++ List.replicate (5 - (lg_sl ([.ref w, .ref pa])).length) Slot.unset).toArray = ls at hl ⊢
  have hl : lv_has ls 5 [(0, .ref w), (1, .ref pa)] := hl
  refine lv_aload_n hx hb d_Wk_handIn_0 rfl (lv_at hl 0 rfl) ?_
  refine va_get (D := D) (ci := 3) (v := .ref t) (C := "VersionedBlock$Worker") (T := T_Wk) (N := 9) hx hb hts (fun w h => List.mem_cons_of_mem _ (il_Wk w h)) hown hK hP 0 rfl rfl 3 (by decide) (hts _ (List.mem_cons_of_mem _ mw_1_229)) (fun _ h9 => h9) rfl d_Wk_handIn_1 ?_
  refine lv_astore_n (lv' := [(2, .ref t), (0, .ref w), (1, .ref pa)]) hx hb d_Wk_handIn_4 rfl hl (by decide) rfl (fun ls hl => ?_)
  refine lv_aload_n hx hb d_Wk_handIn_5 rfl (lv_at hl 1 rfl) ?_
  refine lv_null hx hb d_Wk_handIn_6 ?_
  refine va_put (D := D) (ci := 3) (v := .null) (ty := .object "VersionedBlock$Transaction") (C := "VersionedBlock$Worker") (T := T_Wk) (N := 9) hx hb hts (fun w h => List.mem_cons_of_mem _ (il_Wk w h)) t_Wk t_Wk_ok n_Wk hown hK hP hD hS 0 rfl rfl 3 (by decide) (hts _ (List.mem_cons_of_mem _ mw_1_229)) (fun _ h9 => h9) rfl (by decide +kernel) rfl rfl (Nat.le_of_ble_eq_true rfl) d_Wk_handIn_7 (fun H locs hP hD hS => ?_)
  have hP : va_P D classes ([(w, .inr (3, [.ref r, .ref s, .ref u, .null, .int tn, .int nx, .int dn, .int ld, .int (nI 3)])), (r, .inl ((ka 0), 8, .inr (.inl rg))), (u, .inr (0, [.ref un, .ref uk, .ref uo, .int (nI psU.length)])), (un, .inl ((ka 0), 256, .inr (.inl numU))), (uk, .inl ((ka 2), 256, .inl kpU)), (uo, .inl ((ka 1), 256, .inl odU)), (t, .inr (1, [.ref ta, .ref tb, .ref tc, .int tln, .int kn, .int toc, .int tdn, .int tld, .int tsr, .long trs])), (pa, .inl ((ka 0), 256, .inr (.inl P)))]) H := hP
  have hD : va_D A ([(w, .inr (3, [.ref r, .ref s, .ref u, .null, .int tn, .int nx, .int dn, .int ld, .int (nI 3)])), (r, .inl ((ka 0), 8, .inr (.inl rg))), (u, .inr (0, [.ref un, .ref uk, .ref uo, .int (nI psU.length)])), (un, .inl ((ka 0), 256, .inr (.inl numU))), (uk, .inl ((ka 2), 256, .inl kpU)), (uo, .inl ((ka 1), 256, .inl odU)), (t, .inr (1, [.ref ta, .ref tb, .ref tc, .int tln, .int kn, .int toc, .int tdn, .int tld, .int tsr, .long trs])), (pa, .inl ((ka 0), 256, .inr (.inl P)))]) := hD
  refine lv_aload_n hx hb d_Wk_handIn_10 rfl (lv_at hl 1 rfl) ?_
  refine va_get (D := D) (ci := 3) (v := .int (nI 3)) (C := "VersionedBlock$Worker") (T := T_Wk) (N := 9) hx hb hts (fun w h => List.mem_cons_of_mem _ (il_Wk w h)) hown hK hP 0 rfl rfl 8 (by decide) (hts _ (List.mem_cons_of_mem _ mw_1_234)) (fun _ h9 => h9) rfl d_Wk_handIn_11 ?_
  refine lv_iconst (v := (nI 1)) hx hb d_Wk_handIn_14 (by decide) ?_
  refine lv_icmp_ne (tgt := 22) hx hb d_Wk_handIn_15 (by decide) (fun c_15 => ?_) (fun c_15 => absurd c_15 (by decide))
  refine lv_iconst (v := 0) hx hb d_Wk_handIn_22 (by decide) ?_
  refine lv_istore_n (lv' := [(3, .int 0), (2, .ref t), (0, .ref w), (1, .ref pa)]) hx hb d_Wk_handIn_23 rfl hl (by decide) rfl (fun ls hl => ?_)
  refine lv_iload_n hx hb d_Wk_handIn_24 rfl (lv_at hl 0 rfl) ?_
  refine lv_if_eq (tgt := 36) hx hb d_Wk_handIn_25 (by decide) (fun c_25 => ?_) (fun c_25 => absurd rfl c_25)
  refine lv_iconst (v := 0) hx hb d_Wk_handIn_36 (by decide) ?_
  refine lv_istore (lv' := [(4, .int 0), (3, .int 0), (2, .ref t), (0, .ref w), (1, .ref pa)]) hx hb d_Wk_handIn_37 hl (by decide) rfl (fun ls hl => ?_)
  refine lv_aload_n hx hb d_Wk_handIn_39 rfl (lv_at hl 2 rfl) ?_
  refine lv_ifnull hx hb d_Wk_handIn_40 ?_
  refine lv_aload_n hx hb d_Wk_handIn_43 rfl (lv_at hl 2 rfl) ?_
  refine lv_aload_n hx hb d_Wk_handIn_44 rfl (lv_at hl 3 rfl) ?_
  refine va_get (D := D) (ci := 3) (v := .int (nI 3)) (C := "VersionedBlock$Worker") (T := T_Wk) (N := 9) hx hb hts (fun w h => List.mem_cons_of_mem _ (il_Wk w h)) hown hK hP 0 rfl rfl 8 (by decide) (hts _ (List.mem_cons_of_mem _ mw_1_234)) (fun _ h9 => h9) rfl d_Wk_handIn_45 ?_
  refine lv_aload_n hx hb d_Wk_handIn_48 rfl (lv_at hl 3 rfl) ?_
  refine va_get (D := D) (ci := 3) (v := .int dn) (C := "VersionedBlock$Worker") (T := T_Wk) (N := 9) hx hb hts (fun w h => List.mem_cons_of_mem _ (il_Wk w h)) hown hK hP 0 rfl rfl 6 (by decide) (hts _ (List.mem_cons_of_mem _ mw_1_232)) (fun _ h9 => h9) rfl d_Wk_handIn_49 ?_
  refine lv_aload_n hx hb d_Wk_handIn_52 rfl (lv_at hl 3 rfl) ?_
  refine va_get (D := D) (ci := 3) (v := .int ld) (C := "VersionedBlock$Worker") (T := T_Wk) (N := 9) hx hb hts (fun w h => List.mem_cons_of_mem _ (il_Wk w h)) hown hK hP 0 rfl rfl 7 (by decide) (hts _ (List.mem_cons_of_mem _ mw_1_233)) (fun _ h9 => h9) rfl d_Wk_handIn_53 ?_
  refine lv_iload hx hb d_Wk_handIn_56 (lv_at hl 0 rfl) ?_
  refine lv_aload_n hx hb d_Wk_handIn_58 rfl (lv_at hl 3 rfl) ?_
  refine va_get (D := D) (ci := 3) (v := .int (nI 3)) (C := "VersionedBlock$Worker") (T := T_Wk) (N := 9) hx hb hts (fun w h => List.mem_cons_of_mem _ (il_Wk w h)) hown hK hP 0 rfl rfl 8 (by decide) (hts _ (List.mem_cons_of_mem _ mw_1_234)) (fun _ h9 => h9) rfl d_Wk_handIn_59 ?_
  refine lv_iconst (v := (nI 3)) hx hb d_Wk_handIn_62 (by decide) ?_
  refine lv_icmp_ne (tgt := 70) hx hb d_Wk_handIn_63 (by decide) (fun c_63 => absurd rfl c_63) (fun c_63 => ?_)
  refine lv_lconst (v := 0) hx hb d_Wk_handIn_66 (by decide) ?_
  refine lv_goto (tgt := 76) hx hb d_Wk_handIn_67 (by decide) ?_
  have hPc := hP.sub (ws' := [(t, .inr (1, [.ref ta, .ref tb, .ref tc, .int tln, .int kn, .int toc, .int tdn, .int tld, .int tsr, .long trs]))]) [6] rfl
  have hDc := hD.sub (ws' := [(t, .inr (1, [.ref ta, .ref tb, .ref tc, .int tln, .int kn, .int toc, .int tdn, .int tld, .int tsr, .long trs]))]) [6] (by decide) rfl
  have hFc := va_free (wc := [(t, .inr (1, [.ref ta, .ref tb, .ref tc, .int tln, .int kn, .int toc, .int tdn, .int tld, .int tsr, .long trs]))]) hD hS hA [6] rfl
  refine va_callv (va_runV (As := [.int (nI 3), .int dn, .int ld, .int 0, .long 0]) (rest := []) ⟨hx, hb, hml, hown, hts⟩ (c_Tr_note l D ka H.size t ta tb tc tln kn toc tdn tld tsr trs (nI 3) dn ld 0 0 ) ⟨callB_of 5 hts (gd_tb mw_2_112) rfl rfl rfl (hts _ (List.mem_cons_of_mem _ mw_1_5)) (hts _ (List.mem_cons_of_mem _ mw_2_109)) (by decide +kernel) ⟨Nat.le_of_ble_eq_true rfl, Nat.le_of_ble_eq_true rfl⟩, (hts _ (List.mem_cons_of_mem _ mw_2_110)), (hts _ (List.mem_cons_of_mem _ mw_2_111))⟩ ⟨pW_blind, va_recv hK hPc (ci := 1) (q0 := 0) rfl rfl, pW_pre hK hN hPc hDc⟩ rfl rfl hl.1 rfl (lv_room (Nat.le_of_ble_eq_true rfl)) d_Wk_handIn_76 ⟨Nat.le_of_ble_eq_true rfl, Nat.le_of_ble_eq_true rfl⟩) hS (fun q _ h => hFc q h) hFc (fun u9 t9 H1 locs ht hvm hr_76 hB hz1 hk1 hS => ?_)
  obtain ⟨hrel_76, hP1, hD1⟩ := hB
  rw [ht] at hP1
  obtain ⟨hP, hD⟩ := va_join (wr := [(w, .inr (3, [.ref r, .ref s, .ref u, .null, .int tn, .int nx, .int dn, .int ld, .int (nI 3)])), (r, .inl ((ka 0), 8, .inr (.inl rg))), (u, .inr (0, [.ref un, .ref uk, .ref uo, .int (nI psU.length)])), (un, .inl ((ka 0), 256, .inr (.inl numU))), (uk, .inl ((ka 2), 256, .inl kpU)), (uo, .inl ((ka 1), 256, .inl odU)), (pa, .inl ((ka 0), 256, .inr (.inl P)))]) (w1 := [(t, .inr (1, [.ref ta, .ref tb, .ref tc, .int tln, .int 1, .int (nI 3), .int dn, .int ld, .int 0, .long 0]))]) hP hD [6] [0, 1, 2, 3, 4, 5, 7] rfl rfl (by decide) (by decide) hk1 hFc hP1 hD1
  generalize H1 = H at hP hS ⊢
  have hP : va_P D classes ([(w, .inr (3, [.ref r, .ref s, .ref u, .null, .int tn, .int nx, .int dn, .int ld, .int (nI 3)])), (r, .inl ((ka 0), 8, .inr (.inl rg))), (u, .inr (0, [.ref un, .ref uk, .ref uo, .int (nI psU.length)])), (un, .inl ((ka 0), 256, .inr (.inl numU))), (uk, .inl ((ka 2), 256, .inl kpU)), (uo, .inl ((ka 1), 256, .inl odU)), (pa, .inl ((ka 0), 256, .inr (.inl P))), (t, .inr (1, [.ref ta, .ref tb, .ref tc, .int tln, .int 1, .int (nI 3), .int dn, .int ld, .int 0, .long 0]))]) H := hP
  have hD : va_D A ([(w, .inr (3, [.ref r, .ref s, .ref u, .null, .int tn, .int nx, .int dn, .int ld, .int (nI 3)])), (r, .inl ((ka 0), 8, .inr (.inl rg))), (u, .inr (0, [.ref un, .ref uk, .ref uo, .int (nI psU.length)])), (un, .inl ((ka 0), 256, .inr (.inl numU))), (uk, .inl ((ka 2), 256, .inl kpU)), (uo, .inl ((ka 1), 256, .inl odU)), (pa, .inl ((ka 0), 256, .inr (.inl P))), (t, .inr (1, [.ref ta, .ref tb, .ref tc, .int tln, .int 1, .int (nI 3), .int dn, .int ld, .int 0, .long 0]))]) := hD
  refine lv_iload_n hx hb d_Wk_handIn_79 rfl (lv_at hl 1 rfl) ?_
  have hP9 := hP.sub (ws' := [(w, .inr (3, [.ref r, .ref s, .ref u, .null, .int tn, .int nx, .int dn, .int ld, .int (nI 3)])), (r, .inl ((ka 0), 8, .inr (.inl rg))), (u, .inr (0, [.ref un, .ref uk, .ref uo, .int (nI psU.length)])), (un, .inl ((ka 0), 256, .inr (.inl numU))), (uk, .inl ((ka 2), 256, .inl kpU)), (uo, .inl ((ka 1), 256, .inl odU)), (t, .inr (1, [.ref ta, .ref tb, .ref tc, .int tln, .int 1, .int (nI 3), .int dn, .int ld, .int 0, .long 0])), (pa, .inl ((ka 0), 256, .inr (.inl P)))]) [0, 1, 2, 3, 4, 5, 7, 6] rfl
  have hD9 := hD.sub (ws' := [(w, .inr (3, [.ref r, .ref s, .ref u, .null, .int tn, .int nx, .int dn, .int ld, .int (nI 3)])), (r, .inl ((ka 0), 8, .inr (.inl rg))), (u, .inr (0, [.ref un, .ref uk, .ref uo, .int (nI psU.length)])), (un, .inl ((ka 0), 256, .inr (.inl numU))), (uk, .inl ((ka 2), 256, .inl kpU)), (uo, .inl ((ka 1), 256, .inl odU)), (t, .inr (1, [.ref ta, .ref tb, .ref tc, .int tln, .int 1, .int (nI 3), .int dn, .int ld, .int 0, .long 0])), (pa, .inl ((ka 0), 256, .inr (.inl P)))]) [0, 1, 2, 3, 4, 5, 7, 6] (by decide) rfl
  exact W.zret (v := 0) hx hb hr rfl (fun t9 ht hW => ⟨⟨0, (), rfl, rfl, trivial, by rw [ht]; exact hP9, hD9⟩, hS.F ht⟩) hS.2.2 d_Wk_handIn_80
end
