/-- a private method of a class that the tables say can be made, by its rows of tables_1 -/
def lw_okq (q : MethodName × Nat) : Prop := (q.1.cls ≠ "java/lang/invoke/MethodHandle" ∧ q.1.cls ≠ "java/lang/invoke/VarHandle") ∧ Cond.instantiable q.1.cls q.2 ∈ tables_1 ∧ Cond.privateMethod q.1 ∈ tables_1 ∧ Cond.instanceMethod q.1 ∈ tables_1
theorem lw_p0 : lw_okq (⟨"VersionedBlock", "transactionAt", "(I)LVersionedBlock$Transaction;"⟩, 8) := ⟨⟨by decide +kernel, by decide +kernel⟩, List.mem_of_getElem? (i := 11) (by decide +kernel), List.mem_of_getElem? (i := 132) (by decide +kernel), List.mem_of_getElem? (i := 133) (by decide +kernel)⟩
theorem lw_p1 : lw_okq (⟨"VersionedBlock", "goOn", "(I)Z"⟩, 8) := ⟨⟨by decide +kernel, by decide +kernel⟩, List.mem_of_getElem? (i := 11) (by decide +kernel), List.mem_of_getElem? (i := 186) (by decide +kernel), List.mem_of_getElem? (i := 187) (by decide +kernel)⟩
theorem lw_p2 : lw_okq (⟨"VersionedBlock", "takeNext", "(I)Z"⟩, 8) := ⟨⟨by decide +kernel, by decide +kernel⟩, List.mem_of_getElem? (i := 11) (by decide +kernel), List.mem_of_getElem? (i := 194) (by decide +kernel), List.mem_of_getElem? (i := 195) (by decide +kernel)⟩
theorem lw_p3 : lw_okq (⟨"VersionedBlock$Worker", "perform", "(LVersionedBlock$Transaction;I[J)V"⟩, 9) := ⟨⟨by decide +kernel, by decide +kernel⟩, List.mem_of_getElem? (i := 197) (by decide +kernel), List.mem_of_getElem? (i := 279) (by decide +kernel), List.mem_of_getElem? (i := 280) (by decide +kernel)⟩
theorem lw_p4 : lw_okq (⟨"VersionedBlock$Worker", "load", "(I[J)J"⟩, 9) := ⟨⟨by decide +kernel, by decide +kernel⟩, List.mem_of_getElem? (i := 197) (by decide +kernel), List.mem_of_getElem? (i := 304) (by decide +kernel), List.mem_of_getElem? (i := 305) (by decide +kernel)⟩
theorem lw_p5 : lw_okq (⟨"VersionedBlock", "settle", "(LVersionedBlock$Worker;)V"⟩, 8) := ⟨⟨by decide +kernel, by decide +kernel⟩, List.mem_of_getElem? (i := 11) (by decide +kernel), List.mem_of_getElem? (i := 324) (by decide +kernel), List.mem_of_getElem? (i := 325) (by decide +kernel)⟩
theorem lw_p6 : lw_okq (⟨"VersionedBlock$Worker", "storeInto", "([J)I"⟩, 9) := ⟨⟨by decide +kernel, by decide +kernel⟩, List.mem_of_getElem? (i := 197) (by decide +kernel), List.mem_of_getElem? (i := 345) (by decide +kernel), List.mem_of_getElem? (i := 346) (by decide +kernel)⟩
theorem lw_p7 : lw_okq (⟨"VersionedBlock", "goOnAsFarAsItCan", "(I)V"⟩, 8) := ⟨⟨by decide +kernel, by decide +kernel⟩, List.mem_of_getElem? (i := 11) (by decide +kernel), List.mem_of_getElem? (i := 353) (by decide +kernel), List.mem_of_getElem? (i := 354) (by decide +kernel)⟩
theorem lw_p8 : lw_okq (⟨"VersionedBlockModel", "all", "(I)I"⟩, 15) := ⟨⟨by decide +kernel, by decide +kernel⟩, List.mem_of_getElem? (i := 380) (by decide +kernel), List.mem_of_getElem? (i := 470) (by decide +kernel), List.mem_of_getElem? (i := 471) (by decide +kernel)⟩
theorem lw_p9 : lw_okq (⟨"VersionedBlockModel", "one", "(I)I"⟩, 15) := ⟨⟨by decide +kernel, by decide +kernel⟩, List.mem_of_getElem? (i := 380) (by decide +kernel), List.mem_of_getElem? (i := 474) (by decide +kernel), List.mem_of_getElem? (i := 475) (by decide +kernel)⟩
def lw_privs_1 : List (MethodName × Nat) := [(⟨"VersionedBlock", "transactionAt", "(I)LVersionedBlock$Transaction;"⟩, 8), (⟨"VersionedBlock", "goOn", "(I)Z"⟩, 8), (⟨"VersionedBlock", "takeNext", "(I)Z"⟩, 8), (⟨"VersionedBlock$Worker", "perform", "(LVersionedBlock$Transaction;I[J)V"⟩, 9), (⟨"VersionedBlock$Worker", "load", "(I[J)J"⟩, 9), (⟨"VersionedBlock", "settle", "(LVersionedBlock$Worker;)V"⟩, 8), (⟨"VersionedBlock$Worker", "storeInto", "([J)I"⟩, 9), (⟨"VersionedBlock", "goOnAsFarAsItCan", "(I)V"⟩, 8), (⟨"VersionedBlockModel", "all", "(I)I"⟩, 15), (⟨"VersionedBlockModel", "one", "(I)I"⟩, 15)]
theorem lw_r1 : ∀ q ∈ lw_privs_1, lw_okq q := List.forall_mem_cons.mpr ⟨lw_p0, List.forall_mem_cons.mpr ⟨lw_p1, List.forall_mem_cons.mpr ⟨lw_p2, List.forall_mem_cons.mpr ⟨lw_p3, List.forall_mem_cons.mpr ⟨lw_p4, List.forall_mem_cons.mpr ⟨lw_p5, List.forall_mem_cons.mpr ⟨lw_p6, List.forall_mem_cons.mpr ⟨lw_p7, List.forall_mem_cons.mpr ⟨lw_p8, List.forall_mem_cons.mpr ⟨lw_p9, fun _ h => absurd h List.not_mem_nil⟩⟩⟩⟩⟩⟩⟩⟩⟩⟩
def lw_privs : List (MethodName × Nat) := lw_privs_1
def lw_tbl : List Cond := k2_sels lw_privs ++ tables_1
theorem lw_privs_ok : ∀ q ∈ lw_privs, lw_okq q := lw_r1
/-! the good words of the tables -/
def TB : List Cond := k2_sels lw_privs ++ tables_1.filter goodWord
theorem tb_t {w : Cond} (h : w ∈ tables_1) (hg : goodWord w = true) : w ∈ TB := List.mem_append_right _ (List.mem_filter.mpr ⟨h, hg⟩)
theorem tb_1 {w : Cond} (h : w ∈ tables_1_1) (hg : goodWord w = true) : w ∈ TB := tb_t (List.mem_append_left _ h) hg
theorem tb_2 {w : Cond} (h : w ∈ tables_1_2) (hg : goodWord w = true) : w ∈ TB := tb_t (List.mem_append_right _ (List.mem_append_left _ h)) hg
theorem tb_3 {w : Cond} (h : w ∈ tables_1_3) (hg : goodWord w = true) : w ∈ TB := tb_t (List.mem_append_right _ (List.mem_append_right _ h)) hg
theorem tb_sel {w : Cond} (h : w ∈ k2_sels lw_privs) : w ∈ TB := List.mem_append_left _ h
theorem tb_good : ∀ w ∈ TB, (w.onTables && w.keeps) = true ∨ ∃ ty, w = .arrayClass ty := by
  intro w h
  rcases List.mem_append.mp h with h | h
  · obtain ⟨q, -, rfl⟩ := List.mem_map.mp h
    exact Or.inl rfl
  · exact good_of_word (List.mem_filter.mp h).2
theorem tb_of {w : Cond} (h : w ∈ TB) : w ∈ lw_tbl := by
  rcases List.mem_append.mp h with h | h
  · exact List.mem_append_left _ h
  · exact List.mem_append_right _ (List.mem_filter.mp h).1
theorem gd_tb {c c2 : Cond} (h : c2 ∈ TB) : GoodIn (c :: TB) (c2 :: TB) := by
  intro w hw
  rcases List.mem_cons.mp hw with rfl | hw
  · exact ⟨List.mem_cons_of_mem _ h, tb_good _ h⟩
  · exact ⟨List.mem_cons_of_mem _ hw, tb_good _ hw⟩
theorem gd_lw {c2 : Cond} (h : c2 ∈ TB) : GoodIn lw_tbl (c2 :: TB) := by
  intro w hw
  rcases List.mem_cons.mp hw with rfl | hw
  · exact ⟨tb_of h, tb_good _ h⟩
  · exact ⟨tb_of hw, tb_good _ hw⟩
theorem mw_1_0 : (Jvm.Cond.initialized "VersionedBlockLaw") ∈ TB := tb_1 (List.mem_of_getElem? (i := 0) rfl) rfl
theorem mw_1_1 : (Jvm.Cond.initialized "VersionedBlock") ∈ TB := tb_1 (List.mem_of_getElem? (i := 1) rfl) rfl
theorem mw_1_2 : (Jvm.Cond.initialized "VersionedBlock$Weave") ∈ TB := tb_1 (List.mem_of_getElem? (i := 2) rfl) rfl
theorem mw_1_3 : (Jvm.Cond.initialized "java/lang/Math") ∈ TB := tb_1 (List.mem_of_getElem? (i := 3) rfl) rfl
theorem mw_1_4 : (Jvm.Cond.initialized "VersionedBlockModel") ∈ TB := tb_1 (List.mem_of_getElem? (i := 4) rfl) rfl
theorem mw_1_5 : (Jvm.Cond.initialized "VersionedBlock$Transaction") ∈ TB := tb_1 (List.mem_of_getElem? (i := 5) rfl) rfl
theorem mw_1_6 : (Jvm.Cond.initialized "java/util/Arrays") ∈ TB := tb_1 (List.mem_of_getElem? (i := 6) rfl) rfl
theorem mw_1_7 : (Jvm.Cond.initialized "java/lang/System") ∈ TB := tb_1 (List.mem_of_getElem? (i := 7) rfl) rfl
theorem mw_1_8 : (Jvm.Cond.initialized "VersionedBlock$Worker") ∈ TB := tb_1 (List.mem_of_getElem? (i := 8) rfl) rfl
theorem mw_1_9 : (Jvm.Cond.initialized "VersionedBlock$Draft") ∈ TB := tb_1 (List.mem_of_getElem? (i := 9) rfl) rfl
theorem mw_1_10 : (Jvm.Cond.classLink "VersionedBlockLaw" (7 : Nat) "VersionedBlock") ∈ TB := tb_1 (List.mem_of_getElem? (i := 10) rfl) rfl
theorem mw_1_11 : (Jvm.Cond.instantiable "VersionedBlock" (8 : Nat)) ∈ TB := tb_1 (List.mem_of_getElem? (i := 11) rfl) rfl
theorem mw_1_12 : (Jvm.Cond.methodLink "VersionedBlockLaw" (15 : Nat) ({ cls := "VersionedBlock", name := "<init>", desc := "(I)V" } : Jvm.MethodName)) ∈ TB := tb_1 (List.mem_of_getElem? (i := 12) rfl) rfl
theorem mw_1_13 : (Jvm.Cond.instanceMethod ({ cls := "VersionedBlock", name := "<init>", desc := "(I)V" } : Jvm.MethodName)) ∈ TB := tb_1 (List.mem_of_getElem? (i := 13) rfl) rfl
theorem mw_1_14 : (Jvm.Cond.code ({ cls := "VersionedBlock", name := "<init>", desc := "(I)V" } : Jvm.MethodName) prog_1_method_1_code (2 : Nat) (Option.none : Option Jvm.ClassFile.FieldType)) ∈ TB := tb_1 (List.mem_of_getElem? (i := 14) rfl) rfl
theorem mw_1_15 : (Jvm.Cond.methodLink "VersionedBlock" (1 : Nat) ({ cls := "java/lang/Object", name := "<init>", desc := "()V" } : Jvm.MethodName)) ∈ TB := tb_1 (List.mem_of_getElem? (i := 15) rfl) rfl
theorem mw_1_16 : (Jvm.Cond.instanceMethod ({ cls := "java/lang/Object", name := "<init>", desc := "()V" } : Jvm.MethodName)) ∈ TB := tb_1 (List.mem_of_getElem? (i := 16) rfl) rfl
theorem mw_1_17 : (Jvm.Cond.code ({ cls := "java/lang/Object", name := "<init>", desc := "()V" } : Jvm.MethodName) object_method_1_code (1 : Nat) (Option.none : Option Jvm.ClassFile.FieldType)) ∈ TB := tb_1 (List.mem_of_getElem? (i := 17) rfl) rfl
theorem mw_1_18 : (Jvm.Cond.classLink "VersionedBlock" (13 : Nat) "VersionedBlock$Transaction") ∈ TB := tb_1 (List.mem_of_getElem? (i := 18) rfl) rfl
theorem mw_1_20 : (Jvm.Cond.classLink "VersionedBlock" (19 : Nat) "VersionedBlock$Weave") ∈ TB := tb_1 (List.mem_of_getElem? (i := 20) rfl) rfl
theorem mw_1_21 : (Jvm.Cond.instantiable "VersionedBlock$Weave" (2 : Nat)) ∈ TB := tb_1 (List.mem_of_getElem? (i := 21) rfl) rfl
theorem mw_1_23 : (Jvm.Cond.instanceMethod ({ cls := "VersionedBlock$Weave", name := "<init>", desc := "()V" } : Jvm.MethodName)) ∈ TB := tb_1 (List.mem_of_getElem? (i := 23) rfl) rfl
theorem mw_1_24 : (Jvm.Cond.code ({ cls := "VersionedBlock$Weave", name := "<init>", desc := "()V" } : Jvm.MethodName) prog_4_method_1_code (1 : Nat) (Option.none : Option Jvm.ClassFile.FieldType)) ∈ TB := tb_1 (List.mem_of_getElem? (i := 24) rfl) rfl
theorem mw_1_25 : (Jvm.Cond.methodLink "VersionedBlock$Weave" (3 : Nat) ({ cls := "java/lang/Object", name := "<init>", desc := "()V" } : Jvm.MethodName)) ∈ TB := tb_1 (List.mem_of_getElem? (i := 25) rfl) rfl
theorem mw_1_26 : (Jvm.Cond.fieldLink "VersionedBlock$Weave" (11 : Nat) "VersionedBlock$Weave" "words" "[J") ∈ TB := tb_1 (List.mem_of_getElem? (i := 26) rfl) rfl
theorem mw_1_27 : (Jvm.Cond.fieldLink "VersionedBlock$Weave" (15 : Nat) "VersionedBlock$Weave" "length" "I") ∈ TB := tb_1 (List.mem_of_getElem? (i := 27) rfl) rfl
theorem mw_1_28 : (Jvm.Cond.lays "VersionedBlock$Weave" "VersionedBlock$Weave" "words" "[J") ∈ TB := tb_1 (List.mem_of_getElem? (i := 28) rfl) rfl
theorem mw_1_30 : (Jvm.Cond.lays "VersionedBlock$Weave" "VersionedBlock$Weave" "length" "I") ∈ TB := tb_1 (List.mem_of_getElem? (i := 30) rfl) rfl
theorem mw_1_33 : (Jvm.Cond.arrayClass Jvm.ClassFile.FieldType.long) ∈ TB := tb_1 (List.mem_of_getElem? (i := 33) rfl) rfl
theorem mw_1_34 : (Jvm.Cond.methodLink "VersionedBlock" (26 : Nat) ({ cls := "java/lang/Math", name := "min", desc := "(II)I" } : Jvm.MethodName)) ∈ TB := tb_1 (List.mem_of_getElem? (i := 34) rfl) rfl
theorem mw_1_35 : (Jvm.Cond.static ({ cls := "java/lang/Math", name := "min", desc := "(II)I" } : Jvm.MethodName)) ∈ TB := tb_1 (List.mem_of_getElem? (i := 35) rfl) rfl
theorem mw_1_36 : (Jvm.Cond.code ({ cls := "java/lang/Math", name := "min", desc := "(II)I" } : Jvm.MethodName) prog_9_method_69_code (2 : Nat) (Option.some Jvm.ClassFile.FieldType.int)) ∈ TB := tb_1 (List.mem_of_getElem? (i := 36) rfl) rfl
theorem mw_1_37 : (Jvm.Cond.methodLink "VersionedBlock" (32 : Nat) ({ cls := "java/lang/Math", name := "max", desc := "(II)I" } : Jvm.MethodName)) ∈ TB := tb_1 (List.mem_of_getElem? (i := 37) rfl) rfl
theorem mw_1_38 : (Jvm.Cond.static ({ cls := "java/lang/Math", name := "max", desc := "(II)I" } : Jvm.MethodName)) ∈ TB := tb_1 (List.mem_of_getElem? (i := 38) rfl) rfl
theorem mw_1_39 : (Jvm.Cond.code ({ cls := "java/lang/Math", name := "max", desc := "(II)I" } : Jvm.MethodName) prog_9_method_65_code (2 : Nat) (Option.some Jvm.ClassFile.FieldType.int)) ∈ TB := tb_1 (List.mem_of_getElem? (i := 39) rfl) rfl
theorem mw_1_40 : (Jvm.Cond.classLink "VersionedBlock" (35 : Nat) "VersionedBlock$Worker") ∈ TB := tb_1 (List.mem_of_getElem? (i := 40) rfl) rfl
theorem mw_1_42 : (Jvm.Cond.fieldLink "VersionedBlock" (9 : Nat) "VersionedBlock" "places" "[J") ∈ TB := tb_1 (List.mem_of_getElem? (i := 42) rfl) rfl
theorem mw_1_43 : (Jvm.Cond.fieldLink "VersionedBlock" (15 : Nat) "VersionedBlock" "transactions" "[LVersionedBlock$Transaction;") ∈ TB := tb_1 (List.mem_of_getElem? (i := 43) rfl) rfl
theorem mw_1_44 : (Jvm.Cond.fieldLink "VersionedBlock" (37 : Nat) "VersionedBlock" "team" "[LVersionedBlock$Worker;") ∈ TB := tb_1 (List.mem_of_getElem? (i := 44) rfl) rfl
theorem mw_1_45 : (Jvm.Cond.fieldLink "VersionedBlock" (22 : Nat) "VersionedBlock" "woven" "LVersionedBlock$Weave;") ∈ TB := tb_1 (List.mem_of_getElem? (i := 45) rfl) rfl
theorem mw_1_46 : (Jvm.Cond.fieldLink "VersionedBlock" (45 : Nat) "VersionedBlock" "size" "I") ∈ TB := tb_1 (List.mem_of_getElem? (i := 46) rfl) rfl
theorem mw_1_47 : (Jvm.Cond.fieldLink "VersionedBlock" (67 : Nat) "VersionedBlock" "taken" "I") ∈ TB := tb_1 (List.mem_of_getElem? (i := 47) rfl) rfl
theorem mw_1_48 : (Jvm.Cond.fieldLink "VersionedBlock" (70 : Nat) "VersionedBlock" "settled" "I") ∈ TB := tb_1 (List.mem_of_getElem? (i := 48) rfl) rfl
theorem mw_1_49 : (Jvm.Cond.fieldLink "VersionedBlock" (73 : Nat) "VersionedBlock" "halted" "I") ∈ TB := tb_1 (List.mem_of_getElem? (i := 49) rfl) rfl
theorem mw_1_50 : (Jvm.Cond.laysFinal "VersionedBlock" "VersionedBlock" "places" "[J") ∈ TB := tb_1 (List.mem_of_getElem? (i := 50) rfl) rfl
theorem mw_1_52 : (Jvm.Cond.laysFinal "VersionedBlock" "VersionedBlock" "transactions" "[LVersionedBlock$Transaction;") ∈ TB := tb_1 (List.mem_of_getElem? (i := 52) rfl) rfl
theorem mw_1_54 : (Jvm.Cond.laysFinal "VersionedBlock" "VersionedBlock" "team" "[LVersionedBlock$Worker;") ∈ TB := tb_1 (List.mem_of_getElem? (i := 54) rfl) rfl
theorem mw_1_56 : (Jvm.Cond.laysFinal "VersionedBlock" "VersionedBlock" "woven" "LVersionedBlock$Weave;") ∈ TB := tb_1 (List.mem_of_getElem? (i := 56) rfl) rfl
theorem mw_1_58 : (Jvm.Cond.lays "VersionedBlock" "VersionedBlock" "size" "I") ∈ TB := tb_1 (List.mem_of_getElem? (i := 58) rfl) rfl
theorem mw_1_60 : (Jvm.Cond.lays "VersionedBlock" "VersionedBlock" "taken" "I") ∈ TB := tb_1 (List.mem_of_getElem? (i := 60) rfl) rfl
theorem mw_1_62 : (Jvm.Cond.lays "VersionedBlock" "VersionedBlock" "settled" "I") ∈ TB := tb_1 (List.mem_of_getElem? (i := 62) rfl) rfl
theorem mw_1_64 : (Jvm.Cond.lays "VersionedBlock" "VersionedBlock" "halted" "I") ∈ TB := tb_1 (List.mem_of_getElem? (i := 64) rfl) rfl
theorem mw_1_67 : (Jvm.Cond.methodLink "VersionedBlockLaw" (23 : Nat) ({ cls := "VersionedBlock", name := "put", desc := "(IJ)Z" } : Jvm.MethodName)) ∈ TB := tb_1 (List.mem_of_getElem? (i := 67) rfl) rfl
theorem mw_1_68 : (Jvm.Cond.instanceMethod ({ cls := "VersionedBlock", name := "put", desc := "(IJ)Z" } : Jvm.MethodName)) ∈ TB := tb_1 (List.mem_of_getElem? (i := 68) rfl) rfl
theorem mw_1_69 : (Jvm.Cond.selects "VersionedBlock" ({ cls := "VersionedBlock", name := "put", desc := "(IJ)Z" } : Jvm.MethodName) ({ cls := "VersionedBlock", name := "put", desc := "(IJ)Z" } : Jvm.MethodName)) ∈ TB := tb_1 (List.mem_of_getElem? (i := 69) rfl) rfl
theorem mw_1_70 : (Jvm.Cond.code ({ cls := "VersionedBlock", name := "put", desc := "(IJ)Z" } : Jvm.MethodName) prog_1_method_2_code (4 : Nat) (Option.some Jvm.ClassFile.FieldType.boolean)) ∈ TB := tb_1 (List.mem_of_getElem? (i := 70) rfl) rfl
theorem mw_1_71 : (Jvm.Cond.methodLink "VersionedBlock" (41 : Nat) ({ cls := "VersionedBlock", name := "isPlace", desc := "(I)Z" } : Jvm.MethodName)) ∈ TB := tb_1 (List.mem_of_getElem? (i := 71) rfl) rfl
theorem mw_1_72 : (Jvm.Cond.static ({ cls := "VersionedBlock", name := "isPlace", desc := "(I)Z" } : Jvm.MethodName)) ∈ TB := tb_1 (List.mem_of_getElem? (i := 72) rfl) rfl
theorem mw_1_73 : (Jvm.Cond.code ({ cls := "VersionedBlock", name := "isPlace", desc := "(I)Z" } : Jvm.MethodName) prog_1_method_13_code (1 : Nat) (Option.some Jvm.ClassFile.FieldType.boolean)) ∈ TB := tb_1 (List.mem_of_getElem? (i := 73) rfl) rfl
theorem mw_1_74 : (Jvm.Cond.methodLink "VersionedBlockLaw" (28 : Nat) ({ cls := "VersionedBlock", name := "get", desc := "(I)J" } : Jvm.MethodName)) ∈ TB := tb_1 (List.mem_of_getElem? (i := 74) rfl) rfl
theorem mw_1_75 : (Jvm.Cond.instanceMethod ({ cls := "VersionedBlock", name := "get", desc := "(I)J" } : Jvm.MethodName)) ∈ TB := tb_1 (List.mem_of_getElem? (i := 75) rfl) rfl
theorem mw_1_76 : (Jvm.Cond.selects "VersionedBlock" ({ cls := "VersionedBlock", name := "get", desc := "(I)J" } : Jvm.MethodName) ({ cls := "VersionedBlock", name := "get", desc := "(I)J" } : Jvm.MethodName)) ∈ TB := tb_1 (List.mem_of_getElem? (i := 76) rfl) rfl
theorem mw_1_77 : (Jvm.Cond.code ({ cls := "VersionedBlock", name := "get", desc := "(I)J" } : Jvm.MethodName) prog_1_method_3_code (2 : Nat) (Option.some Jvm.ClassFile.FieldType.long)) ∈ TB := tb_1 (List.mem_of_getElem? (i := 77) rfl) rfl
theorem mw_1_78 : (Jvm.Cond.methodLink "VersionedBlockLaw" (33 : Nat) ({ cls := "VersionedBlock", name := "begin", desc := "()I" } : Jvm.MethodName)) ∈ TB := tb_1 (List.mem_of_getElem? (i := 78) rfl) rfl
theorem mw_1_79 : (Jvm.Cond.instanceMethod ({ cls := "VersionedBlock", name := "begin", desc := "()I" } : Jvm.MethodName)) ∈ TB := tb_1 (List.mem_of_getElem? (i := 79) rfl) rfl
theorem mw_1_80 : (Jvm.Cond.selects "VersionedBlock" ({ cls := "VersionedBlock", name := "begin", desc := "()I" } : Jvm.MethodName) ({ cls := "VersionedBlock", name := "begin", desc := "()I" } : Jvm.MethodName)) ∈ TB := tb_1 (List.mem_of_getElem? (i := 80) rfl) rfl
theorem mw_1_81 : (Jvm.Cond.code ({ cls := "VersionedBlock", name := "begin", desc := "()I" } : Jvm.MethodName) prog_1_method_4_code (2 : Nat) (Option.some Jvm.ClassFile.FieldType.int)) ∈ TB := tb_1 (List.mem_of_getElem? (i := 81) rfl) rfl
theorem mw_1_82 : (Jvm.Cond.methodLink "VersionedBlockLaw" (38 : Nat) ({ cls := "VersionedBlock", name := "transaction", desc := "()I" } : Jvm.MethodName)) ∈ TB := tb_1 (List.mem_of_getElem? (i := 82) rfl) rfl
theorem mw_1_83 : (Jvm.Cond.instanceMethod ({ cls := "VersionedBlock", name := "transaction", desc := "()I" } : Jvm.MethodName)) ∈ TB := tb_1 (List.mem_of_getElem? (i := 83) rfl) rfl
theorem mw_1_84 : (Jvm.Cond.selects "VersionedBlock" ({ cls := "VersionedBlock", name := "transaction", desc := "()I" } : Jvm.MethodName) ({ cls := "VersionedBlock", name := "transaction", desc := "()I" } : Jvm.MethodName)) ∈ TB := tb_1 (List.mem_of_getElem? (i := 84) rfl) rfl
theorem mw_1_85 : (Jvm.Cond.code ({ cls := "VersionedBlock", name := "transaction", desc := "()I" } : Jvm.MethodName) prog_1_method_5_code (2 : Nat) (Option.some Jvm.ClassFile.FieldType.int)) ∈ TB := tb_1 (List.mem_of_getElem? (i := 85) rfl) rfl
theorem mw_1_86 : (Jvm.Cond.instantiable "VersionedBlock$Transaction" (10 : Nat)) ∈ TB := tb_1 (List.mem_of_getElem? (i := 86) rfl) rfl
theorem mw_1_88 : (Jvm.Cond.instanceMethod ({ cls := "VersionedBlock$Transaction", name := "<init>", desc := "()V" } : Jvm.MethodName)) ∈ TB := tb_1 (List.mem_of_getElem? (i := 88) rfl) rfl
theorem mw_1_89 : (Jvm.Cond.code ({ cls := "VersionedBlock$Transaction", name := "<init>", desc := "()V" } : Jvm.MethodName) prog_3_method_1_code (1 : Nat) (Option.none : Option Jvm.ClassFile.FieldType)) ∈ TB := tb_1 (List.mem_of_getElem? (i := 89) rfl) rfl
theorem mw_1_90 : (Jvm.Cond.methodLink "VersionedBlock$Transaction" (3 : Nat) ({ cls := "java/lang/Object", name := "<init>", desc := "()V" } : Jvm.MethodName)) ∈ TB := tb_1 (List.mem_of_getElem? (i := 90) rfl) rfl
theorem mw_1_91 : (Jvm.Cond.fieldLink "VersionedBlock$Transaction" (9 : Nat) "VersionedBlock$Transaction" "operations" "[I") ∈ TB := tb_1 (List.mem_of_getElem? (i := 91) rfl) rfl
theorem mw_1_92 : (Jvm.Cond.fieldLink "VersionedBlock$Transaction" (15 : Nat) "VersionedBlock$Transaction" "firsts" "[I") ∈ TB := tb_1 (List.mem_of_getElem? (i := 92) rfl) rfl
theorem mw_1_93 : (Jvm.Cond.fieldLink "VersionedBlock$Transaction" (18 : Nat) "VersionedBlock$Transaction" "seconds" "[J") ∈ TB := tb_1 (List.mem_of_getElem? (i := 93) rfl) rfl
theorem mw_1_94 : (Jvm.Cond.fieldLink "VersionedBlock$Transaction" (22 : Nat) "VersionedBlock$Transaction" "length" "I") ∈ TB := tb_1 (List.mem_of_getElem? (i := 94) rfl) rfl
theorem mw_1_95 : (Jvm.Cond.fieldLink "VersionedBlock$Transaction" (26 : Nat) "VersionedBlock$Transaction" "known" "Z") ∈ TB := tb_1 (List.mem_of_getElem? (i := 95) rfl) rfl
theorem mw_1_96 : (Jvm.Cond.fieldLink "VersionedBlock$Transaction" (36 : Nat) "VersionedBlock$Transaction" "outcome" "I") ∈ TB := tb_1 (List.mem_of_getElem? (i := 96) rfl) rfl
theorem mw_1_97 : (Jvm.Cond.fieldLink "VersionedBlock$Transaction" (39 : Nat) "VersionedBlock$Transaction" "done" "I") ∈ TB := tb_1 (List.mem_of_getElem? (i := 97) rfl) rfl
theorem mw_1_98 : (Jvm.Cond.fieldLink "VersionedBlock$Transaction" (42 : Nat) "VersionedBlock$Transaction" "loads" "I") ∈ TB := tb_1 (List.mem_of_getElem? (i := 98) rfl) rfl
theorem mw_1_99 : (Jvm.Cond.fieldLink "VersionedBlock$Transaction" (45 : Nat) "VersionedBlock$Transaction" "stores" "I") ∈ TB := tb_1 (List.mem_of_getElem? (i := 99) rfl) rfl
theorem mw_1_100 : (Jvm.Cond.fieldLink "VersionedBlock$Transaction" (48 : Nat) "VersionedBlock$Transaction" "lastResult" "J") ∈ TB := tb_1 (List.mem_of_getElem? (i := 100) rfl) rfl
theorem mw_1_101 : (Jvm.Cond.laysFinal "VersionedBlock$Transaction" "VersionedBlock$Transaction" "operations" "[I") ∈ TB := tb_1 (List.mem_of_getElem? (i := 101) rfl) rfl
theorem mw_1_103 : (Jvm.Cond.laysFinal "VersionedBlock$Transaction" "VersionedBlock$Transaction" "firsts" "[I") ∈ TB := tb_1 (List.mem_of_getElem? (i := 103) rfl) rfl
theorem mw_1_105 : (Jvm.Cond.laysFinal "VersionedBlock$Transaction" "VersionedBlock$Transaction" "seconds" "[J") ∈ TB := tb_1 (List.mem_of_getElem? (i := 105) rfl) rfl
theorem mw_1_107 : (Jvm.Cond.lays "VersionedBlock$Transaction" "VersionedBlock$Transaction" "length" "I") ∈ TB := tb_1 (List.mem_of_getElem? (i := 107) rfl) rfl
theorem mw_1_109 : (Jvm.Cond.lays "VersionedBlock$Transaction" "VersionedBlock$Transaction" "known" "Z") ∈ TB := tb_1 (List.mem_of_getElem? (i := 109) rfl) rfl
theorem mw_1_111 : (Jvm.Cond.lays "VersionedBlock$Transaction" "VersionedBlock$Transaction" "outcome" "I") ∈ TB := tb_1 (List.mem_of_getElem? (i := 111) rfl) rfl
theorem mw_1_113 : (Jvm.Cond.lays "VersionedBlock$Transaction" "VersionedBlock$Transaction" "done" "I") ∈ TB := tb_1 (List.mem_of_getElem? (i := 113) rfl) rfl
theorem mw_1_115 : (Jvm.Cond.lays "VersionedBlock$Transaction" "VersionedBlock$Transaction" "loads" "I") ∈ TB := tb_1 (List.mem_of_getElem? (i := 115) rfl) rfl
theorem mw_1_117 : (Jvm.Cond.lays "VersionedBlock$Transaction" "VersionedBlock$Transaction" "stores" "I") ∈ TB := tb_1 (List.mem_of_getElem? (i := 117) rfl) rfl
theorem mw_1_119 : (Jvm.Cond.lays "VersionedBlock$Transaction" "VersionedBlock$Transaction" "lastResult" "J") ∈ TB := tb_1 (List.mem_of_getElem? (i := 119) rfl) rfl
theorem mw_1_122 : (Jvm.Cond.arrayClass Jvm.ClassFile.FieldType.int) ∈ TB := tb_1 (List.mem_of_getElem? (i := 122) rfl) rfl
theorem mw_1_123 : (Jvm.Cond.methodLink "VersionedBlock" (50 : Nat) ({ cls := "VersionedBlock$Transaction", name := "clear", desc := "()V" } : Jvm.MethodName)) ∈ TB := tb_1 (List.mem_of_getElem? (i := 123) rfl) rfl
theorem mw_1_124 : (Jvm.Cond.instanceMethod ({ cls := "VersionedBlock$Transaction", name := "clear", desc := "()V" } : Jvm.MethodName)) ∈ TB := tb_1 (List.mem_of_getElem? (i := 124) rfl) rfl
theorem mw_1_125 : (Jvm.Cond.selects "VersionedBlock$Transaction" ({ cls := "VersionedBlock$Transaction", name := "clear", desc := "()V" } : Jvm.MethodName) ({ cls := "VersionedBlock$Transaction", name := "clear", desc := "()V" } : Jvm.MethodName)) ∈ TB := tb_1 (List.mem_of_getElem? (i := 125) rfl) rfl
theorem mw_1_126 : (Jvm.Cond.code ({ cls := "VersionedBlock$Transaction", name := "clear", desc := "()V" } : Jvm.MethodName) prog_3_method_2_code (1 : Nat) (Option.none : Option Jvm.ClassFile.FieldType)) ∈ TB := tb_1 (List.mem_of_getElem? (i := 126) rfl) rfl
theorem mw_1_127 : (Jvm.Cond.methodLink "VersionedBlockLaw" (42 : Nat) ({ cls := "VersionedBlock", name := "instruction", desc := "(IIJ)I" } : Jvm.MethodName)) ∈ TB := tb_1 (List.mem_of_getElem? (i := 127) rfl) rfl
theorem mw_1_128 : (Jvm.Cond.instanceMethod ({ cls := "VersionedBlock", name := "instruction", desc := "(IIJ)I" } : Jvm.MethodName)) ∈ TB := tb_1 (List.mem_of_getElem? (i := 128) rfl) rfl
theorem mw_1_129 : (Jvm.Cond.selects "VersionedBlock" ({ cls := "VersionedBlock", name := "instruction", desc := "(IIJ)I" } : Jvm.MethodName) ({ cls := "VersionedBlock", name := "instruction", desc := "(IIJ)I" } : Jvm.MethodName)) ∈ TB := tb_1 (List.mem_of_getElem? (i := 129) rfl) rfl
theorem mw_1_130 : (Jvm.Cond.code ({ cls := "VersionedBlock", name := "instruction", desc := "(IIJ)I" } : Jvm.MethodName) prog_1_method_6_code (6 : Nat) (Option.some Jvm.ClassFile.FieldType.int)) ∈ TB := tb_1 (List.mem_of_getElem? (i := 130) rfl) rfl
theorem mw_1_131 : (Jvm.Cond.methodLink "VersionedBlock" (53 : Nat) ({ cls := "VersionedBlock", name := "transactionAt", desc := "(I)LVersionedBlock$Transaction;" } : Jvm.MethodName)) ∈ TB := tb_1 (List.mem_of_getElem? (i := 131) rfl) rfl
theorem mw_1_133 : (Jvm.Cond.instanceMethod ({ cls := "VersionedBlock", name := "transactionAt", desc := "(I)LVersionedBlock$Transaction;" } : Jvm.MethodName)) ∈ TB := tb_1 (List.mem_of_getElem? (i := 133) rfl) rfl
theorem mw_1_134 : (Jvm.Cond.code ({ cls := "VersionedBlock", name := "transactionAt", desc := "(I)LVersionedBlock$Transaction;" } : Jvm.MethodName) prog_1_method_16_code (2 : Nat) (Option.some (Jvm.ClassFile.FieldType.object "VersionedBlock$Transaction"))) ∈ TB := tb_1 (List.mem_of_getElem? (i := 134) rfl) rfl
theorem mw_1_135 : (Jvm.Cond.methodLink "VersionedBlock" (57 : Nat) ({ cls := "VersionedBlock$Transaction", name := "append", desc := "(IIJ)I" } : Jvm.MethodName)) ∈ TB := tb_1 (List.mem_of_getElem? (i := 135) rfl) rfl
theorem mw_1_136 : (Jvm.Cond.instanceMethod ({ cls := "VersionedBlock$Transaction", name := "append", desc := "(IIJ)I" } : Jvm.MethodName)) ∈ TB := tb_1 (List.mem_of_getElem? (i := 136) rfl) rfl
theorem mw_1_137 : (Jvm.Cond.selects "VersionedBlock$Transaction" ({ cls := "VersionedBlock$Transaction", name := "append", desc := "(IIJ)I" } : Jvm.MethodName) ({ cls := "VersionedBlock$Transaction", name := "append", desc := "(IIJ)I" } : Jvm.MethodName)) ∈ TB := tb_1 (List.mem_of_getElem? (i := 137) rfl) rfl
theorem mw_1_138 : (Jvm.Cond.code ({ cls := "VersionedBlock$Transaction", name := "append", desc := "(IIJ)I" } : Jvm.MethodName) prog_3_method_3_code (5 : Nat) (Option.some Jvm.ClassFile.FieldType.int)) ∈ TB := tb_1 (List.mem_of_getElem? (i := 138) rfl) rfl
theorem mw_1_139 : (Jvm.Cond.methodLink "VersionedBlockLaw" (47 : Nat) ({ cls := "VersionedBlock", name := "weave", desc := "(J)I" } : Jvm.MethodName)) ∈ TB := tb_1 (List.mem_of_getElem? (i := 139) rfl) rfl
theorem mw_1_140 : (Jvm.Cond.instanceMethod ({ cls := "VersionedBlock", name := "weave", desc := "(J)I" } : Jvm.MethodName)) ∈ TB := tb_1 (List.mem_of_getElem? (i := 140) rfl) rfl
theorem mw_1_141 : (Jvm.Cond.selects "VersionedBlock" ({ cls := "VersionedBlock", name := "weave", desc := "(J)I" } : Jvm.MethodName) ({ cls := "VersionedBlock", name := "weave", desc := "(J)I" } : Jvm.MethodName)) ∈ TB := tb_1 (List.mem_of_getElem? (i := 141) rfl) rfl
theorem mw_1_142 : (Jvm.Cond.code ({ cls := "VersionedBlock", name := "weave", desc := "(J)I" } : Jvm.MethodName) prog_1_method_7_code (3 : Nat) (Option.some Jvm.ClassFile.FieldType.int)) ∈ TB := tb_1 (List.mem_of_getElem? (i := 142) rfl) rfl
theorem mw_1_143 : (Jvm.Cond.methodLink "VersionedBlock" (61 : Nat) ({ cls := "VersionedBlock$Weave", name := "append", desc := "(J)I" } : Jvm.MethodName)) ∈ TB := tb_1 (List.mem_of_getElem? (i := 143) rfl) rfl
theorem mw_1_144 : (Jvm.Cond.instanceMethod ({ cls := "VersionedBlock$Weave", name := "append", desc := "(J)I" } : Jvm.MethodName)) ∈ TB := tb_1 (List.mem_of_getElem? (i := 144) rfl) rfl
theorem mw_1_145 : (Jvm.Cond.selects "VersionedBlock$Weave" ({ cls := "VersionedBlock$Weave", name := "append", desc := "(J)I" } : Jvm.MethodName) ({ cls := "VersionedBlock$Weave", name := "append", desc := "(J)I" } : Jvm.MethodName)) ∈ TB := tb_1 (List.mem_of_getElem? (i := 145) rfl) rfl
theorem mw_1_146 : (Jvm.Cond.code ({ cls := "VersionedBlock$Weave", name := "append", desc := "(J)I" } : Jvm.MethodName) prog_4_method_2_code (4 : Nat) (Option.some Jvm.ClassFile.FieldType.int)) ∈ TB := tb_1 (List.mem_of_getElem? (i := 146) rfl) rfl
theorem mw_1_147 : (Jvm.Cond.constant "VersionedBlock$Weave" (19 : Nat) (65536 : Int32)) ∈ TB := tb_1 (List.mem_of_getElem? (i := 147) rfl) rfl
theorem mw_1_148 : (Jvm.Cond.methodLink "VersionedBlock$Weave" (20 : Nat) ({ cls := "java/util/Arrays", name := "copyOf", desc := "([JI)[J" } : Jvm.MethodName)) ∈ TB := tb_1 (List.mem_of_getElem? (i := 148) rfl) rfl
theorem mw_1_149 : (Jvm.Cond.static ({ cls := "java/util/Arrays", name := "copyOf", desc := "([JI)[J" } : Jvm.MethodName)) ∈ TB := tb_1 (List.mem_of_getElem? (i := 149) rfl) rfl
theorem mw_1_150 : (Jvm.Cond.code ({ cls := "java/util/Arrays", name := "copyOf", desc := "([JI)[J" } : Jvm.MethodName) prog_11_method_124_code (3 : Nat) (Option.some (Jvm.ClassFile.FieldType.array Jvm.ClassFile.FieldType.long))) ∈ TB := tb_1 (List.mem_of_getElem? (i := 150) rfl) rfl
theorem mw_1_151 : (Jvm.Cond.methodLink "java/util/Arrays" (319 : Nat) ({ cls := "[J", name := "clone", desc := "()Ljava/lang/Object;" } : Jvm.MethodName)) ∈ TB := tb_1 (List.mem_of_getElem? (i := 151) rfl) rfl
theorem mw_1_152 : (Jvm.Cond.sameMethod "[J" "java/lang/Object" "clone" "()Ljava/lang/Object;") ∈ TB := tb_1 (List.mem_of_getElem? (i := 152) rfl) rfl
theorem mw_1_153 : (Jvm.Cond.native ({ cls := "java/lang/Object", name := "clone", desc := "()Ljava/lang/Object;" } : Jvm.MethodName)) ∈ TB := tb_1 (List.mem_of_getElem? (i := 153) rfl) rfl
theorem mw_1_154 : (Jvm.Cond.instanceMethod ({ cls := "java/lang/Object", name := "clone", desc := "()Ljava/lang/Object;" } : Jvm.MethodName)) ∈ TB := tb_1 (List.mem_of_getElem? (i := 154) rfl) rfl
theorem mw_1_155 : (Jvm.Cond.selects "[J" ({ cls := "[J", name := "clone", desc := "()Ljava/lang/Object;" } : Jvm.MethodName) ({ cls := "java/lang/Object", name := "clone", desc := "()Ljava/lang/Object;" } : Jvm.MethodName)) ∈ TB := tb_1 (List.mem_of_getElem? (i := 155) rfl) rfl
theorem mw_1_157 : (Jvm.Cond.classLink "java/util/Arrays" (320 : Nat) "[J") ∈ TB := tb_1 (List.mem_of_getElem? (i := 157) rfl) rfl
theorem mw_1_158 : (Jvm.Cond.methodLink "java/util/Arrays" (304 : Nat) ({ cls := "java/lang/Math", name := "min", desc := "(II)I" } : Jvm.MethodName)) ∈ TB := tb_1 (List.mem_of_getElem? (i := 158) rfl) rfl
theorem mw_1_159 : (Jvm.Cond.methodLink "java/util/Arrays" (150 : Nat) ({ cls := "java/lang/System", name := "arraycopy", desc := "(Ljava/lang/Object;ILjava/lang/Object;II)V" } : Jvm.MethodName)) ∈ TB := tb_1 (List.mem_of_getElem? (i := 159) rfl) rfl
theorem mw_1_160 : (Jvm.Cond.static ({ cls := "java/lang/System", name := "arraycopy", desc := "(Ljava/lang/Object;ILjava/lang/Object;II)V" } : Jvm.MethodName)) ∈ TB := tb_1 (List.mem_of_getElem? (i := 160) rfl) rfl
theorem mw_1_161 : (Jvm.Cond.native ({ cls := "java/lang/System", name := "arraycopy", desc := "(Ljava/lang/Object;ILjava/lang/Object;II)V" } : Jvm.MethodName)) ∈ TB := tb_1 (List.mem_of_getElem? (i := 161) rfl) rfl
theorem mw_1_162 : (Jvm.Cond.methodLink "VersionedBlockLaw" (52 : Nat) ({ cls := "VersionedBlock", name := "unweave", desc := "()I" } : Jvm.MethodName)) ∈ TB := tb_1 (List.mem_of_getElem? (i := 162) rfl) rfl
theorem mw_1_163 : (Jvm.Cond.instanceMethod ({ cls := "VersionedBlock", name := "unweave", desc := "()I" } : Jvm.MethodName)) ∈ TB := tb_1 (List.mem_of_getElem? (i := 163) rfl) rfl
theorem mw_1_164 : (Jvm.Cond.selects "VersionedBlock" ({ cls := "VersionedBlock", name := "unweave", desc := "()I" } : Jvm.MethodName) ({ cls := "VersionedBlock", name := "unweave", desc := "()I" } : Jvm.MethodName)) ∈ TB := tb_1 (List.mem_of_getElem? (i := 164) rfl) rfl
theorem mw_1_165 : (Jvm.Cond.code ({ cls := "VersionedBlock", name := "unweave", desc := "()I" } : Jvm.MethodName) prog_1_method_8_code (1 : Nat) (Option.some Jvm.ClassFile.FieldType.int)) ∈ TB := tb_1 (List.mem_of_getElem? (i := 165) rfl) rfl
theorem mw_1_166 : (Jvm.Cond.methodLink "VersionedBlock" (64 : Nat) ({ cls := "VersionedBlock$Weave", name := "clear", desc := "()I" } : Jvm.MethodName)) ∈ TB := tb_1 (List.mem_of_getElem? (i := 166) rfl) rfl
theorem mw_1_167 : (Jvm.Cond.instanceMethod ({ cls := "VersionedBlock$Weave", name := "clear", desc := "()I" } : Jvm.MethodName)) ∈ TB := tb_1 (List.mem_of_getElem? (i := 167) rfl) rfl
theorem mw_1_168 : (Jvm.Cond.selects "VersionedBlock$Weave" ({ cls := "VersionedBlock$Weave", name := "clear", desc := "()I" } : Jvm.MethodName) ({ cls := "VersionedBlock$Weave", name := "clear", desc := "()I" } : Jvm.MethodName)) ∈ TB := tb_1 (List.mem_of_getElem? (i := 168) rfl) rfl
theorem mw_1_169 : (Jvm.Cond.code ({ cls := "VersionedBlock$Weave", name := "clear", desc := "()I" } : Jvm.MethodName) prog_4_method_3_code (2 : Nat) (Option.some Jvm.ClassFile.FieldType.int)) ∈ TB := tb_1 (List.mem_of_getElem? (i := 169) rfl) rfl
theorem mw_1_170 : (Jvm.Cond.methodLink "VersionedBlockLaw" (56 : Nat) ({ cls := "VersionedBlock", name := "execute", desc := "()I" } : Jvm.MethodName)) ∈ TB := tb_1 (List.mem_of_getElem? (i := 170) rfl) rfl
theorem mw_1_171 : (Jvm.Cond.instanceMethod ({ cls := "VersionedBlock", name := "execute", desc := "()I" } : Jvm.MethodName)) ∈ TB := tb_1 (List.mem_of_getElem? (i := 171) rfl) rfl
theorem mw_1_172 : (Jvm.Cond.selects "VersionedBlock" ({ cls := "VersionedBlock", name := "execute", desc := "()I" } : Jvm.MethodName) ({ cls := "VersionedBlock", name := "execute", desc := "()I" } : Jvm.MethodName)) ∈ TB := tb_1 (List.mem_of_getElem? (i := 172) rfl) rfl
theorem mw_1_173 : (Jvm.Cond.code ({ cls := "VersionedBlock", name := "execute", desc := "()I" } : Jvm.MethodName) prog_1_method_9_code (2 : Nat) (Option.some Jvm.ClassFile.FieldType.int)) ∈ TB := tb_1 (List.mem_of_getElem? (i := 173) rfl) rfl
theorem mw_1_174 : (Jvm.Cond.methodLink "VersionedBlock" (76 : Nat) ({ cls := "VersionedBlock$Weave", name := "length", desc := "()I" } : Jvm.MethodName)) ∈ TB := tb_1 (List.mem_of_getElem? (i := 174) rfl) rfl
theorem mw_1_175 : (Jvm.Cond.instanceMethod ({ cls := "VersionedBlock$Weave", name := "length", desc := "()I" } : Jvm.MethodName)) ∈ TB := tb_1 (List.mem_of_getElem? (i := 175) rfl) rfl
theorem mw_1_176 : (Jvm.Cond.selects "VersionedBlock$Weave" ({ cls := "VersionedBlock$Weave", name := "length", desc := "()I" } : Jvm.MethodName) ({ cls := "VersionedBlock$Weave", name := "length", desc := "()I" } : Jvm.MethodName)) ∈ TB := tb_1 (List.mem_of_getElem? (i := 176) rfl) rfl
theorem mw_1_177 : (Jvm.Cond.code ({ cls := "VersionedBlock$Weave", name := "length", desc := "()I" } : Jvm.MethodName) prog_4_method_4_code (1 : Nat) (Option.some Jvm.ClassFile.FieldType.int)) ∈ TB := tb_1 (List.mem_of_getElem? (i := 177) rfl) rfl
theorem mw_1_178 : (Jvm.Cond.methodLink "VersionedBlock" (79 : Nat) ({ cls := "VersionedBlock$Weave", name := "numberAt", desc := "(I)I" } : Jvm.MethodName)) ∈ TB := tb_1 (List.mem_of_getElem? (i := 178) rfl) rfl
theorem mw_1_179 : (Jvm.Cond.instanceMethod ({ cls := "VersionedBlock$Weave", name := "numberAt", desc := "(I)I" } : Jvm.MethodName)) ∈ TB := tb_1 (List.mem_of_getElem? (i := 179) rfl) rfl
theorem mw_1_180 : (Jvm.Cond.selects "VersionedBlock$Weave" ({ cls := "VersionedBlock$Weave", name := "numberAt", desc := "(I)I" } : Jvm.MethodName) ({ cls := "VersionedBlock$Weave", name := "numberAt", desc := "(I)I" } : Jvm.MethodName)) ∈ TB := tb_1 (List.mem_of_getElem? (i := 180) rfl) rfl
theorem mw_1_181 : (Jvm.Cond.code ({ cls := "VersionedBlock$Weave", name := "numberAt", desc := "(I)I" } : Jvm.MethodName) prog_4_method_5_code (3 : Nat) (Option.some Jvm.ClassFile.FieldType.int)) ∈ TB := tb_1 (List.mem_of_getElem? (i := 181) rfl) rfl
theorem mw_1_182 : (Jvm.Cond.methodLink "VersionedBlock" (83 : Nat) ({ cls := "java/lang/Math", name := "floorMod", desc := "(II)I" } : Jvm.MethodName)) ∈ TB := tb_1 (List.mem_of_getElem? (i := 182) rfl) rfl
theorem mw_1_183 : (Jvm.Cond.static ({ cls := "java/lang/Math", name := "floorMod", desc := "(II)I" } : Jvm.MethodName)) ∈ TB := tb_1 (List.mem_of_getElem? (i := 183) rfl) rfl
theorem mw_1_184 : (Jvm.Cond.code ({ cls := "java/lang/Math", name := "floorMod", desc := "(II)I" } : Jvm.MethodName) prog_9_method_50_code (3 : Nat) (Option.some Jvm.ClassFile.FieldType.int)) ∈ TB := tb_1 (List.mem_of_getElem? (i := 184) rfl) rfl
theorem mw_1_185 : (Jvm.Cond.methodLink "VersionedBlock" (86 : Nat) ({ cls := "VersionedBlock", name := "goOn", desc := "(I)Z" } : Jvm.MethodName)) ∈ TB := tb_1 (List.mem_of_getElem? (i := 185) rfl) rfl
theorem mw_1_187 : (Jvm.Cond.instanceMethod ({ cls := "VersionedBlock", name := "goOn", desc := "(I)Z" } : Jvm.MethodName)) ∈ TB := tb_1 (List.mem_of_getElem? (i := 187) rfl) rfl
theorem mw_1_188 : (Jvm.Cond.code ({ cls := "VersionedBlock", name := "goOn", desc := "(I)Z" } : Jvm.MethodName) prog_1_method_18_code (3 : Nat) (Option.some Jvm.ClassFile.FieldType.boolean)) ∈ TB := tb_1 (List.mem_of_getElem? (i := 188) rfl) rfl
theorem mw_1_189 : (Jvm.Cond.methodLink "VersionedBlock" (104 : Nat) ({ cls := "VersionedBlock$Worker", name := "isFree", desc := "()Z" } : Jvm.MethodName)) ∈ TB := tb_1 (List.mem_of_getElem? (i := 189) rfl) rfl
theorem mw_1_190 : (Jvm.Cond.instanceMethod ({ cls := "VersionedBlock$Worker", name := "isFree", desc := "()Z" } : Jvm.MethodName)) ∈ TB := tb_1 (List.mem_of_getElem? (i := 190) rfl) rfl
theorem mw_1_191 : (Jvm.Cond.selects "VersionedBlock$Worker" ({ cls := "VersionedBlock$Worker", name := "isFree", desc := "()Z" } : Jvm.MethodName) ({ cls := "VersionedBlock$Worker", name := "isFree", desc := "()Z" } : Jvm.MethodName)) ∈ TB := tb_1 (List.mem_of_getElem? (i := 191) rfl) rfl
theorem mw_1_192 : (Jvm.Cond.code ({ cls := "VersionedBlock$Worker", name := "isFree", desc := "()Z" } : Jvm.MethodName) prog_5_method_2_code (1 : Nat) (Option.some Jvm.ClassFile.FieldType.boolean)) ∈ TB := tb_1 (List.mem_of_getElem? (i := 192) rfl) rfl
theorem mw_1_193 : (Jvm.Cond.methodLink "VersionedBlock" (108 : Nat) ({ cls := "VersionedBlock", name := "takeNext", desc := "(I)Z" } : Jvm.MethodName)) ∈ TB := tb_1 (List.mem_of_getElem? (i := 193) rfl) rfl
theorem mw_1_195 : (Jvm.Cond.instanceMethod ({ cls := "VersionedBlock", name := "takeNext", desc := "(I)Z" } : Jvm.MethodName)) ∈ TB := tb_1 (List.mem_of_getElem? (i := 195) rfl) rfl
theorem mw_1_196 : (Jvm.Cond.code ({ cls := "VersionedBlock", name := "takeNext", desc := "(I)Z" } : Jvm.MethodName) prog_1_method_19_code (4 : Nat) (Option.some Jvm.ClassFile.FieldType.boolean)) ∈ TB := tb_1 (List.mem_of_getElem? (i := 196) rfl) rfl
theorem mw_1_197 : (Jvm.Cond.instantiable "VersionedBlock$Worker" (9 : Nat)) ∈ TB := tb_1 (List.mem_of_getElem? (i := 197) rfl) rfl
theorem mw_1_199 : (Jvm.Cond.instanceMethod ({ cls := "VersionedBlock$Worker", name := "<init>", desc := "()V" } : Jvm.MethodName)) ∈ TB := tb_1 (List.mem_of_getElem? (i := 199) rfl) rfl
theorem mw_1_200 : (Jvm.Cond.code ({ cls := "VersionedBlock$Worker", name := "<init>", desc := "()V" } : Jvm.MethodName) prog_5_method_1_code (1 : Nat) (Option.none : Option Jvm.ClassFile.FieldType)) ∈ TB := tb_1 (List.mem_of_getElem? (i := 200) rfl) rfl
theorem mw_1_201 : (Jvm.Cond.methodLink "VersionedBlock$Worker" (3 : Nat) ({ cls := "java/lang/Object", name := "<init>", desc := "()V" } : Jvm.MethodName)) ∈ TB := tb_1 (List.mem_of_getElem? (i := 201) rfl) rfl
theorem mw_1_202 : (Jvm.Cond.classLink "VersionedBlock$Worker" (15 : Nat) "VersionedBlock$Draft") ∈ TB := tb_1 (List.mem_of_getElem? (i := 202) rfl) rfl
theorem mw_1_203 : (Jvm.Cond.instantiable "VersionedBlock$Draft" (4 : Nat)) ∈ TB := tb_1 (List.mem_of_getElem? (i := 203) rfl) rfl
theorem mw_1_205 : (Jvm.Cond.instanceMethod ({ cls := "VersionedBlock$Draft", name := "<init>", desc := "()V" } : Jvm.MethodName)) ∈ TB := tb_1 (List.mem_of_getElem? (i := 205) rfl) rfl
theorem mw_1_206 : (Jvm.Cond.code ({ cls := "VersionedBlock$Draft", name := "<init>", desc := "()V" } : Jvm.MethodName) prog_2_method_1_code (1 : Nat) (Option.none : Option Jvm.ClassFile.FieldType)) ∈ TB := tb_1 (List.mem_of_getElem? (i := 206) rfl) rfl
theorem mw_1_207 : (Jvm.Cond.methodLink "VersionedBlock$Draft" (3 : Nat) ({ cls := "java/lang/Object", name := "<init>", desc := "()V" } : Jvm.MethodName)) ∈ TB := tb_1 (List.mem_of_getElem? (i := 207) rfl) rfl
theorem mw_1_208 : (Jvm.Cond.fieldLink "VersionedBlock$Draft" (9 : Nat) "VersionedBlock$Draft" "numbers" "[J") ∈ TB := tb_1 (List.mem_of_getElem? (i := 208) rfl) rfl
theorem mw_1_209 : (Jvm.Cond.fieldLink "VersionedBlock$Draft" (15 : Nat) "VersionedBlock$Draft" "kept" "[Z") ∈ TB := tb_1 (List.mem_of_getElem? (i := 209) rfl) rfl
theorem mw_1_210 : (Jvm.Cond.fieldLink "VersionedBlock$Draft" (19 : Nat) "VersionedBlock$Draft" "order" "[I") ∈ TB := tb_1 (List.mem_of_getElem? (i := 210) rfl) rfl
theorem mw_1_211 : (Jvm.Cond.fieldLink "VersionedBlock$Draft" (23 : Nat) "VersionedBlock$Draft" "length" "I") ∈ TB := tb_1 (List.mem_of_getElem? (i := 211) rfl) rfl
theorem mw_1_212 : (Jvm.Cond.laysFinal "VersionedBlock$Draft" "VersionedBlock$Draft" "numbers" "[J") ∈ TB := tb_1 (List.mem_of_getElem? (i := 212) rfl) rfl
theorem mw_1_214 : (Jvm.Cond.laysFinal "VersionedBlock$Draft" "VersionedBlock$Draft" "kept" "[Z") ∈ TB := tb_1 (List.mem_of_getElem? (i := 214) rfl) rfl
theorem mw_1_216 : (Jvm.Cond.laysFinal "VersionedBlock$Draft" "VersionedBlock$Draft" "order" "[I") ∈ TB := tb_1 (List.mem_of_getElem? (i := 216) rfl) rfl
theorem mw_1_218 : (Jvm.Cond.lays "VersionedBlock$Draft" "VersionedBlock$Draft" "length" "I") ∈ TB := tb_1 (List.mem_of_getElem? (i := 218) rfl) rfl
theorem mw_1_221 : (Jvm.Cond.arrayClass Jvm.ClassFile.FieldType.boolean) ∈ TB := tb_1 (List.mem_of_getElem? (i := 221) rfl) rfl
theorem mw_1_222 : (Jvm.Cond.fieldLink "VersionedBlock$Worker" (9 : Nat) "VersionedBlock$Worker" "registers" "[J") ∈ TB := tb_1 (List.mem_of_getElem? (i := 222) rfl) rfl
theorem mw_1_223 : (Jvm.Cond.fieldLink "VersionedBlock$Worker" (18 : Nat) "VersionedBlock$Worker" "seen" "LVersionedBlock$Draft;") ∈ TB := tb_1 (List.mem_of_getElem? (i := 223) rfl) rfl
theorem mw_1_224 : (Jvm.Cond.fieldLink "VersionedBlock$Worker" (22 : Nat) "VersionedBlock$Worker" "stored" "LVersionedBlock$Draft;") ∈ TB := tb_1 (List.mem_of_getElem? (i := 224) rfl) rfl
theorem mw_1_225 : (Jvm.Cond.fieldLink "VersionedBlock$Worker" (25 : Nat) "VersionedBlock$Worker" "task" "LVersionedBlock$Transaction;") ∈ TB := tb_1 (List.mem_of_getElem? (i := 225) rfl) rfl
theorem mw_1_226 : (Jvm.Cond.fieldLink "VersionedBlock$Worker" (33 : Nat) "VersionedBlock$Worker" "taskNumber" "I") ∈ TB := tb_1 (List.mem_of_getElem? (i := 226) rfl) rfl
theorem mw_1_227 : (Jvm.Cond.fieldLink "VersionedBlock$Worker" (48 : Nat) "VersionedBlock$Worker" "next" "I") ∈ TB := tb_1 (List.mem_of_getElem? (i := 227) rfl) rfl
theorem mw_1_228 : (Jvm.Cond.fieldLink "VersionedBlock$Worker" (51 : Nat) "VersionedBlock$Worker" "done" "I") ∈ TB := tb_1 (List.mem_of_getElem? (i := 228) rfl) rfl
theorem mw_1_229 : (Jvm.Cond.fieldLink "VersionedBlock$Worker" (54 : Nat) "VersionedBlock$Worker" "loads" "I") ∈ TB := tb_1 (List.mem_of_getElem? (i := 229) rfl) rfl
theorem mw_1_230 : (Jvm.Cond.fieldLink "VersionedBlock$Worker" (29 : Nat) "VersionedBlock$Worker" "outcome" "I") ∈ TB := tb_1 (List.mem_of_getElem? (i := 230) rfl) rfl
theorem mw_1_231 : (Jvm.Cond.laysFinal "VersionedBlock$Worker" "VersionedBlock$Worker" "registers" "[J") ∈ TB := tb_1 (List.mem_of_getElem? (i := 231) rfl) rfl
theorem mw_1_233 : (Jvm.Cond.laysFinal "VersionedBlock$Worker" "VersionedBlock$Worker" "seen" "LVersionedBlock$Draft;") ∈ TB := tb_1 (List.mem_of_getElem? (i := 233) rfl) rfl
theorem mw_1_235 : (Jvm.Cond.laysFinal "VersionedBlock$Worker" "VersionedBlock$Worker" "stored" "LVersionedBlock$Draft;") ∈ TB := tb_1 (List.mem_of_getElem? (i := 235) rfl) rfl
theorem mw_1_237 : (Jvm.Cond.lays "VersionedBlock$Worker" "VersionedBlock$Worker" "task" "LVersionedBlock$Transaction;") ∈ TB := tb_1 (List.mem_of_getElem? (i := 237) rfl) rfl
theorem mw_1_239 : (Jvm.Cond.lays "VersionedBlock$Worker" "VersionedBlock$Worker" "taskNumber" "I") ∈ TB := tb_1 (List.mem_of_getElem? (i := 239) rfl) rfl
theorem mw_2_1 : (Jvm.Cond.lays "VersionedBlock$Worker" "VersionedBlock$Worker" "next" "I") ∈ TB := tb_2 (List.mem_of_getElem? (i := 1) rfl) rfl
theorem mw_2_3 : (Jvm.Cond.lays "VersionedBlock$Worker" "VersionedBlock$Worker" "done" "I") ∈ TB := tb_2 (List.mem_of_getElem? (i := 3) rfl) rfl
theorem mw_2_5 : (Jvm.Cond.lays "VersionedBlock$Worker" "VersionedBlock$Worker" "loads" "I") ∈ TB := tb_2 (List.mem_of_getElem? (i := 5) rfl) rfl
theorem mw_2_7 : (Jvm.Cond.lays "VersionedBlock$Worker" "VersionedBlock$Worker" "outcome" "I") ∈ TB := tb_2 (List.mem_of_getElem? (i := 7) rfl) rfl
theorem mw_2_10 : (Jvm.Cond.methodLink "VersionedBlock" (126 : Nat) ({ cls := "VersionedBlock$Worker", name := "take", desc := "(LVersionedBlock$Transaction;I)V" } : Jvm.MethodName)) ∈ TB := tb_2 (List.mem_of_getElem? (i := 10) rfl) rfl
theorem mw_2_11 : (Jvm.Cond.instanceMethod ({ cls := "VersionedBlock$Worker", name := "take", desc := "(LVersionedBlock$Transaction;I)V" } : Jvm.MethodName)) ∈ TB := tb_2 (List.mem_of_getElem? (i := 11) rfl) rfl
theorem mw_2_12 : (Jvm.Cond.selects "VersionedBlock$Worker" ({ cls := "VersionedBlock$Worker", name := "take", desc := "(LVersionedBlock$Transaction;I)V" } : Jvm.MethodName) ({ cls := "VersionedBlock$Worker", name := "take", desc := "(LVersionedBlock$Transaction;I)V" } : Jvm.MethodName)) ∈ TB := tb_2 (List.mem_of_getElem? (i := 12) rfl) rfl
theorem mw_2_13 : (Jvm.Cond.code ({ cls := "VersionedBlock$Worker", name := "take", desc := "(LVersionedBlock$Transaction;I)V" } : Jvm.MethodName) prog_5_method_5_code (3 : Nat) (Option.none : Option Jvm.ClassFile.FieldType)) ∈ TB := tb_2 (List.mem_of_getElem? (i := 13) rfl) rfl
theorem mw_2_14 : (Jvm.Cond.methodLink "VersionedBlock$Worker" (36 : Nat) ({ cls := "VersionedBlock$Worker", name := "startAnew", desc := "()V" } : Jvm.MethodName)) ∈ TB := tb_2 (List.mem_of_getElem? (i := 14) rfl) rfl
theorem mw_2_15 : (Jvm.Cond.instanceMethod ({ cls := "VersionedBlock$Worker", name := "startAnew", desc := "()V" } : Jvm.MethodName)) ∈ TB := tb_2 (List.mem_of_getElem? (i := 15) rfl) rfl
theorem mw_2_16 : (Jvm.Cond.selects "VersionedBlock$Worker" ({ cls := "VersionedBlock$Worker", name := "startAnew", desc := "()V" } : Jvm.MethodName) ({ cls := "VersionedBlock$Worker", name := "startAnew", desc := "()V" } : Jvm.MethodName)) ∈ TB := tb_2 (List.mem_of_getElem? (i := 16) rfl) rfl
theorem mw_2_17 : (Jvm.Cond.code ({ cls := "VersionedBlock$Worker", name := "startAnew", desc := "()V" } : Jvm.MethodName) prog_5_method_6_code (1 : Nat) (Option.none : Option Jvm.ClassFile.FieldType)) ∈ TB := tb_2 (List.mem_of_getElem? (i := 17) rfl) rfl
theorem mw_2_18 : (Jvm.Cond.methodLink "VersionedBlock$Worker" (39 : Nat) ({ cls := "java/util/Arrays", name := "fill", desc := "([JJ)V" } : Jvm.MethodName)) ∈ TB := tb_2 (List.mem_of_getElem? (i := 18) rfl) rfl
theorem mw_2_19 : (Jvm.Cond.static ({ cls := "java/util/Arrays", name := "fill", desc := "([JJ)V" } : Jvm.MethodName)) ∈ TB := tb_2 (List.mem_of_getElem? (i := 19) rfl) rfl
theorem mw_2_20 : (Jvm.Cond.code ({ cls := "java/util/Arrays", name := "fill", desc := "([JJ)V" } : Jvm.MethodName) prog_11_method_101_code (5 : Nat) (Option.none : Option Jvm.ClassFile.FieldType)) ∈ TB := tb_2 (List.mem_of_getElem? (i := 20) rfl) rfl
theorem mw_2_21 : (Jvm.Cond.methodLink "VersionedBlock$Worker" (45 : Nat) ({ cls := "VersionedBlock$Draft", name := "clear", desc := "()V" } : Jvm.MethodName)) ∈ TB := tb_2 (List.mem_of_getElem? (i := 21) rfl) rfl
theorem mw_2_22 : (Jvm.Cond.instanceMethod ({ cls := "VersionedBlock$Draft", name := "clear", desc := "()V" } : Jvm.MethodName)) ∈ TB := tb_2 (List.mem_of_getElem? (i := 22) rfl) rfl
theorem mw_2_23 : (Jvm.Cond.selects "VersionedBlock$Draft" ({ cls := "VersionedBlock$Draft", name := "clear", desc := "()V" } : Jvm.MethodName) ({ cls := "VersionedBlock$Draft", name := "clear", desc := "()V" } : Jvm.MethodName)) ∈ TB := tb_2 (List.mem_of_getElem? (i := 23) rfl) rfl
theorem mw_2_24 : (Jvm.Cond.code ({ cls := "VersionedBlock$Draft", name := "clear", desc := "()V" } : Jvm.MethodName) prog_2_method_2_code (2 : Nat) (Option.none : Option Jvm.ClassFile.FieldType)) ∈ TB := tb_2 (List.mem_of_getElem? (i := 24) rfl) rfl
theorem mw_2_25 : (Jvm.Cond.methodLink "VersionedBlock" (111 : Nat) ({ cls := "VersionedBlock$Worker", name := "isAtEnd", desc := "()Z" } : Jvm.MethodName)) ∈ TB := tb_2 (List.mem_of_getElem? (i := 25) rfl) rfl
theorem mw_2_26 : (Jvm.Cond.instanceMethod ({ cls := "VersionedBlock$Worker", name := "isAtEnd", desc := "()Z" } : Jvm.MethodName)) ∈ TB := tb_2 (List.mem_of_getElem? (i := 26) rfl) rfl
theorem mw_2_27 : (Jvm.Cond.selects "VersionedBlock$Worker" ({ cls := "VersionedBlock$Worker", name := "isAtEnd", desc := "()Z" } : Jvm.MethodName) ({ cls := "VersionedBlock$Worker", name := "isAtEnd", desc := "()Z" } : Jvm.MethodName)) ∈ TB := tb_2 (List.mem_of_getElem? (i := 27) rfl) rfl
theorem mw_2_28 : (Jvm.Cond.code ({ cls := "VersionedBlock$Worker", name := "isAtEnd", desc := "()Z" } : Jvm.MethodName) prog_5_method_3_code (1 : Nat) (Option.some Jvm.ClassFile.FieldType.boolean)) ∈ TB := tb_2 (List.mem_of_getElem? (i := 28) rfl) rfl
theorem mw_2_29 : (Jvm.Cond.methodLink "VersionedBlock" (114 : Nat) ({ cls := "VersionedBlock$Worker", name := "doNext", desc := "([J)V" } : Jvm.MethodName)) ∈ TB := tb_2 (List.mem_of_getElem? (i := 29) rfl) rfl
theorem mw_2_30 : (Jvm.Cond.instanceMethod ({ cls := "VersionedBlock$Worker", name := "doNext", desc := "([J)V" } : Jvm.MethodName)) ∈ TB := tb_2 (List.mem_of_getElem? (i := 30) rfl) rfl
theorem mw_2_31 : (Jvm.Cond.selects "VersionedBlock$Worker" ({ cls := "VersionedBlock$Worker", name := "doNext", desc := "([J)V" } : Jvm.MethodName) ({ cls := "VersionedBlock$Worker", name := "doNext", desc := "([J)V" } : Jvm.MethodName)) ∈ TB := tb_2 (List.mem_of_getElem? (i := 31) rfl) rfl
theorem mw_2_32 : (Jvm.Cond.code ({ cls := "VersionedBlock$Worker", name := "doNext", desc := "([J)V" } : Jvm.MethodName) prog_5_method_7_code (4 : Nat) (Option.none : Option Jvm.ClassFile.FieldType)) ∈ TB := tb_2 (List.mem_of_getElem? (i := 32) rfl) rfl
theorem mw_2_33 : (Jvm.Cond.methodLink "VersionedBlock$Worker" (57 : Nat) ({ cls := "VersionedBlock$Transaction", name := "has", desc := "(J)Z" } : Jvm.MethodName)) ∈ TB := tb_2 (List.mem_of_getElem? (i := 33) rfl) rfl
theorem mw_2_34 : (Jvm.Cond.instanceMethod ({ cls := "VersionedBlock$Transaction", name := "has", desc := "(J)Z" } : Jvm.MethodName)) ∈ TB := tb_2 (List.mem_of_getElem? (i := 34) rfl) rfl
theorem mw_2_35 : (Jvm.Cond.selects "VersionedBlock$Transaction" ({ cls := "VersionedBlock$Transaction", name := "has", desc := "(J)Z" } : Jvm.MethodName) ({ cls := "VersionedBlock$Transaction", name := "has", desc := "(J)Z" } : Jvm.MethodName)) ∈ TB := tb_2 (List.mem_of_getElem? (i := 35) rfl) rfl
theorem mw_2_36 : (Jvm.Cond.code ({ cls := "VersionedBlock$Transaction", name := "has", desc := "(J)Z" } : Jvm.MethodName) prog_3_method_4_code (3 : Nat) (Option.some Jvm.ClassFile.FieldType.boolean)) ∈ TB := tb_2 (List.mem_of_getElem? (i := 36) rfl) rfl
theorem mw_2_37 : (Jvm.Cond.constantLong "VersionedBlock$Transaction" (30 : Nat) (32 : Int64)) ∈ TB := tb_2 (List.mem_of_getElem? (i := 37) rfl) rfl
theorem mw_2_38 : (Jvm.Cond.methodLink "VersionedBlock$Worker" (63 : Nat) ({ cls := "VersionedBlock$Worker", name := "perform", desc := "(LVersionedBlock$Transaction;I[J)V" } : Jvm.MethodName)) ∈ TB := tb_2 (List.mem_of_getElem? (i := 38) rfl) rfl
theorem mw_2_40 : (Jvm.Cond.instanceMethod ({ cls := "VersionedBlock$Worker", name := "perform", desc := "(LVersionedBlock$Transaction;I[J)V" } : Jvm.MethodName)) ∈ TB := tb_2 (List.mem_of_getElem? (i := 40) rfl) rfl
theorem mw_2_41 : (Jvm.Cond.code ({ cls := "VersionedBlock$Worker", name := "perform", desc := "(LVersionedBlock$Transaction;I[J)V" } : Jvm.MethodName) prog_5_method_8_code (8 : Nat) (Option.none : Option Jvm.ClassFile.FieldType)) ∈ TB := tb_2 (List.mem_of_getElem? (i := 41) rfl) rfl
theorem mw_2_42 : (Jvm.Cond.methodLink "VersionedBlock$Worker" (67 : Nat) ({ cls := "VersionedBlock$Transaction", name := "secondAt", desc := "(I)J" } : Jvm.MethodName)) ∈ TB := tb_2 (List.mem_of_getElem? (i := 42) rfl) rfl
theorem mw_2_43 : (Jvm.Cond.instanceMethod ({ cls := "VersionedBlock$Transaction", name := "secondAt", desc := "(I)J" } : Jvm.MethodName)) ∈ TB := tb_2 (List.mem_of_getElem? (i := 43) rfl) rfl
theorem mw_2_44 : (Jvm.Cond.selects "VersionedBlock$Transaction" ({ cls := "VersionedBlock$Transaction", name := "secondAt", desc := "(I)J" } : Jvm.MethodName) ({ cls := "VersionedBlock$Transaction", name := "secondAt", desc := "(I)J" } : Jvm.MethodName)) ∈ TB := tb_2 (List.mem_of_getElem? (i := 44) rfl) rfl
theorem mw_2_45 : (Jvm.Cond.code ({ cls := "VersionedBlock$Transaction", name := "secondAt", desc := "(I)J" } : Jvm.MethodName) prog_3_method_7_code (2 : Nat) (Option.some Jvm.ClassFile.FieldType.long)) ∈ TB := tb_2 (List.mem_of_getElem? (i := 45) rfl) rfl
theorem mw_2_46 : (Jvm.Cond.methodLink "VersionedBlock$Transaction" (32 : Nat) ({ cls := "VersionedBlock$Transaction", name := "has", desc := "(J)Z" } : Jvm.MethodName)) ∈ TB := tb_2 (List.mem_of_getElem? (i := 46) rfl) rfl
theorem mw_2_47 : (Jvm.Cond.methodLink "VersionedBlock$Worker" (71 : Nat) ({ cls := "VersionedBlock$Transaction", name := "firstAt", desc := "(I)I" } : Jvm.MethodName)) ∈ TB := tb_2 (List.mem_of_getElem? (i := 47) rfl) rfl
theorem mw_2_48 : (Jvm.Cond.instanceMethod ({ cls := "VersionedBlock$Transaction", name := "firstAt", desc := "(I)I" } : Jvm.MethodName)) ∈ TB := tb_2 (List.mem_of_getElem? (i := 48) rfl) rfl
theorem mw_2_49 : (Jvm.Cond.selects "VersionedBlock$Transaction" ({ cls := "VersionedBlock$Transaction", name := "firstAt", desc := "(I)I" } : Jvm.MethodName) ({ cls := "VersionedBlock$Transaction", name := "firstAt", desc := "(I)I" } : Jvm.MethodName)) ∈ TB := tb_2 (List.mem_of_getElem? (i := 49) rfl) rfl
theorem mw_2_50 : (Jvm.Cond.code ({ cls := "VersionedBlock$Transaction", name := "firstAt", desc := "(I)I" } : Jvm.MethodName) prog_3_method_6_code (2 : Nat) (Option.some Jvm.ClassFile.FieldType.int)) ∈ TB := tb_2 (List.mem_of_getElem? (i := 50) rfl) rfl
theorem mw_2_52 : (Jvm.Cond.static ({ cls := "VersionedBlock", name := "registerOf", desc := "(J)I" } : Jvm.MethodName)) ∈ TB := tb_2 (List.mem_of_getElem? (i := 52) rfl) rfl
theorem mw_2_53 : (Jvm.Cond.code ({ cls := "VersionedBlock", name := "registerOf", desc := "(J)I" } : Jvm.MethodName) prog_1_method_15_code (2 : Nat) (Option.some Jvm.ClassFile.FieldType.int)) ∈ TB := tb_2 (List.mem_of_getElem? (i := 53) rfl) rfl
theorem mw_2_54 : (Jvm.Cond.constantLong "VersionedBlock" (102 : Nat) (7 : Int64)) ∈ TB := tb_2 (List.mem_of_getElem? (i := 54) rfl) rfl
theorem mw_2_55 : (Jvm.Cond.methodLink "VersionedBlock$Worker" (79 : Nat) ({ cls := "VersionedBlock$Transaction", name := "operationAt", desc := "(I)I" } : Jvm.MethodName)) ∈ TB := tb_2 (List.mem_of_getElem? (i := 55) rfl) rfl
theorem mw_2_56 : (Jvm.Cond.instanceMethod ({ cls := "VersionedBlock$Transaction", name := "operationAt", desc := "(I)I" } : Jvm.MethodName)) ∈ TB := tb_2 (List.mem_of_getElem? (i := 56) rfl) rfl
theorem mw_2_57 : (Jvm.Cond.selects "VersionedBlock$Transaction" ({ cls := "VersionedBlock$Transaction", name := "operationAt", desc := "(I)I" } : Jvm.MethodName) ({ cls := "VersionedBlock$Transaction", name := "operationAt", desc := "(I)I" } : Jvm.MethodName)) ∈ TB := tb_2 (List.mem_of_getElem? (i := 57) rfl) rfl
theorem mw_2_58 : (Jvm.Cond.code ({ cls := "VersionedBlock$Transaction", name := "operationAt", desc := "(I)I" } : Jvm.MethodName) prog_3_method_5_code (2 : Nat) (Option.some Jvm.ClassFile.FieldType.int)) ∈ TB := tb_2 (List.mem_of_getElem? (i := 58) rfl) rfl
theorem mw_2_60 : (Jvm.Cond.static ({ cls := "VersionedBlock", name := "placeOf", desc := "(J)I" } : Jvm.MethodName)) ∈ TB := tb_2 (List.mem_of_getElem? (i := 60) rfl) rfl
theorem mw_2_61 : (Jvm.Cond.code ({ cls := "VersionedBlock", name := "placeOf", desc := "(J)I" } : Jvm.MethodName) prog_1_method_14_code (2 : Nat) (Option.some Jvm.ClassFile.FieldType.int)) ∈ TB := tb_2 (List.mem_of_getElem? (i := 61) rfl) rfl
theorem mw_2_62 : (Jvm.Cond.constantLong "VersionedBlock" (100 : Nat) (255 : Int64)) ∈ TB := tb_2 (List.mem_of_getElem? (i := 62) rfl) rfl
theorem mw_2_63 : (Jvm.Cond.methodLink "VersionedBlock$Worker" (85 : Nat) ({ cls := "VersionedBlock$Worker", name := "load", desc := "(I[J)J" } : Jvm.MethodName)) ∈ TB := tb_2 (List.mem_of_getElem? (i := 63) rfl) rfl
theorem mw_2_65 : (Jvm.Cond.instanceMethod ({ cls := "VersionedBlock$Worker", name := "load", desc := "(I[J)J" } : Jvm.MethodName)) ∈ TB := tb_2 (List.mem_of_getElem? (i := 65) rfl) rfl
theorem mw_2_66 : (Jvm.Cond.code ({ cls := "VersionedBlock$Worker", name := "load", desc := "(I[J)J" } : Jvm.MethodName) prog_5_method_9_code (3 : Nat) (Option.some Jvm.ClassFile.FieldType.long)) ∈ TB := tb_2 (List.mem_of_getElem? (i := 66) rfl) rfl
theorem mw_2_67 : (Jvm.Cond.methodLink "VersionedBlock$Worker" (93 : Nat) ({ cls := "VersionedBlock$Draft", name := "has", desc := "(I)Z" } : Jvm.MethodName)) ∈ TB := tb_2 (List.mem_of_getElem? (i := 67) rfl) rfl
theorem mw_2_68 : (Jvm.Cond.instanceMethod ({ cls := "VersionedBlock$Draft", name := "has", desc := "(I)Z" } : Jvm.MethodName)) ∈ TB := tb_2 (List.mem_of_getElem? (i := 68) rfl) rfl
theorem mw_2_69 : (Jvm.Cond.selects "VersionedBlock$Draft" ({ cls := "VersionedBlock$Draft", name := "has", desc := "(I)Z" } : Jvm.MethodName) ({ cls := "VersionedBlock$Draft", name := "has", desc := "(I)Z" } : Jvm.MethodName)) ∈ TB := tb_2 (List.mem_of_getElem? (i := 69) rfl) rfl
theorem mw_2_70 : (Jvm.Cond.code ({ cls := "VersionedBlock$Draft", name := "has", desc := "(I)Z" } : Jvm.MethodName) prog_2_method_5_code (2 : Nat) (Option.some Jvm.ClassFile.FieldType.boolean)) ∈ TB := tb_2 (List.mem_of_getElem? (i := 70) rfl) rfl
theorem mw_2_71 : (Jvm.Cond.methodLink "VersionedBlock$Worker" (96 : Nat) ({ cls := "VersionedBlock$Draft", name := "numberIn", desc := "(I)J" } : Jvm.MethodName)) ∈ TB := tb_2 (List.mem_of_getElem? (i := 71) rfl) rfl
theorem mw_2_72 : (Jvm.Cond.instanceMethod ({ cls := "VersionedBlock$Draft", name := "numberIn", desc := "(I)J" } : Jvm.MethodName)) ∈ TB := tb_2 (List.mem_of_getElem? (i := 72) rfl) rfl
theorem mw_2_73 : (Jvm.Cond.selects "VersionedBlock$Draft" ({ cls := "VersionedBlock$Draft", name := "numberIn", desc := "(I)J" } : Jvm.MethodName) ({ cls := "VersionedBlock$Draft", name := "numberIn", desc := "(I)J" } : Jvm.MethodName)) ∈ TB := tb_2 (List.mem_of_getElem? (i := 73) rfl) rfl
theorem mw_2_74 : (Jvm.Cond.code ({ cls := "VersionedBlock$Draft", name := "numberIn", desc := "(I)J" } : Jvm.MethodName) prog_2_method_6_code (2 : Nat) (Option.some Jvm.ClassFile.FieldType.long)) ∈ TB := tb_2 (List.mem_of_getElem? (i := 74) rfl) rfl
theorem mw_2_75 : (Jvm.Cond.methodLink "VersionedBlock$Worker" (89 : Nat) ({ cls := "VersionedBlock$Draft", name := "keep", desc := "(IJ)V" } : Jvm.MethodName)) ∈ TB := tb_2 (List.mem_of_getElem? (i := 75) rfl) rfl
theorem mw_2_76 : (Jvm.Cond.instanceMethod ({ cls := "VersionedBlock$Draft", name := "keep", desc := "(IJ)V" } : Jvm.MethodName)) ∈ TB := tb_2 (List.mem_of_getElem? (i := 76) rfl) rfl
theorem mw_2_77 : (Jvm.Cond.selects "VersionedBlock$Draft" ({ cls := "VersionedBlock$Draft", name := "keep", desc := "(IJ)V" } : Jvm.MethodName) ({ cls := "VersionedBlock$Draft", name := "keep", desc := "(IJ)V" } : Jvm.MethodName)) ∈ TB := tb_2 (List.mem_of_getElem? (i := 77) rfl) rfl
theorem mw_2_78 : (Jvm.Cond.code ({ cls := "VersionedBlock$Draft", name := "keep", desc := "(IJ)V" } : Jvm.MethodName) prog_2_method_7_code (4 : Nat) (Option.none : Option Jvm.ClassFile.FieldType)) ∈ TB := tb_2 (List.mem_of_getElem? (i := 78) rfl) rfl
theorem mw_2_79 : (Jvm.Cond.methodLink "VersionedBlock" (118 : Nat) ({ cls := "VersionedBlock$Worker", name := "number", desc := "()I" } : Jvm.MethodName)) ∈ TB := tb_2 (List.mem_of_getElem? (i := 79) rfl) rfl
theorem mw_2_80 : (Jvm.Cond.instanceMethod ({ cls := "VersionedBlock$Worker", name := "number", desc := "()I" } : Jvm.MethodName)) ∈ TB := tb_2 (List.mem_of_getElem? (i := 80) rfl) rfl
theorem mw_2_81 : (Jvm.Cond.selects "VersionedBlock$Worker" ({ cls := "VersionedBlock$Worker", name := "number", desc := "()I" } : Jvm.MethodName) ({ cls := "VersionedBlock$Worker", name := "number", desc := "()I" } : Jvm.MethodName)) ∈ TB := tb_2 (List.mem_of_getElem? (i := 81) rfl) rfl
theorem mw_2_82 : (Jvm.Cond.code ({ cls := "VersionedBlock$Worker", name := "number", desc := "()I" } : Jvm.MethodName) prog_5_method_4_code (1 : Nat) (Option.some Jvm.ClassFile.FieldType.int)) ∈ TB := tb_2 (List.mem_of_getElem? (i := 82) rfl) rfl
theorem mw_2_83 : (Jvm.Cond.methodLink "VersionedBlock" (121 : Nat) ({ cls := "VersionedBlock", name := "settle", desc := "(LVersionedBlock$Worker;)V" } : Jvm.MethodName)) ∈ TB := tb_2 (List.mem_of_getElem? (i := 83) rfl) rfl
theorem mw_2_85 : (Jvm.Cond.instanceMethod ({ cls := "VersionedBlock", name := "settle", desc := "(LVersionedBlock$Worker;)V" } : Jvm.MethodName)) ∈ TB := tb_2 (List.mem_of_getElem? (i := 85) rfl) rfl
theorem mw_2_86 : (Jvm.Cond.code ({ cls := "VersionedBlock", name := "settle", desc := "(LVersionedBlock$Worker;)V" } : Jvm.MethodName) prog_1_method_20_code (2 : Nat) (Option.none : Option Jvm.ClassFile.FieldType)) ∈ TB := tb_2 (List.mem_of_getElem? (i := 86) rfl) rfl
theorem mw_2_87 : (Jvm.Cond.methodLink "VersionedBlock" (130 : Nat) ({ cls := "VersionedBlock$Worker", name := "sawWhatHolds", desc := "([J)Z" } : Jvm.MethodName)) ∈ TB := tb_2 (List.mem_of_getElem? (i := 87) rfl) rfl
theorem mw_2_88 : (Jvm.Cond.instanceMethod ({ cls := "VersionedBlock$Worker", name := "sawWhatHolds", desc := "([J)Z" } : Jvm.MethodName)) ∈ TB := tb_2 (List.mem_of_getElem? (i := 88) rfl) rfl
theorem mw_2_89 : (Jvm.Cond.selects "VersionedBlock$Worker" ({ cls := "VersionedBlock$Worker", name := "sawWhatHolds", desc := "([J)Z" } : Jvm.MethodName) ({ cls := "VersionedBlock$Worker", name := "sawWhatHolds", desc := "([J)Z" } : Jvm.MethodName)) ∈ TB := tb_2 (List.mem_of_getElem? (i := 89) rfl) rfl
theorem mw_2_90 : (Jvm.Cond.code ({ cls := "VersionedBlock$Worker", name := "sawWhatHolds", desc := "([J)Z" } : Jvm.MethodName) prog_5_method_10_code (4 : Nat) (Option.some Jvm.ClassFile.FieldType.boolean)) ∈ TB := tb_2 (List.mem_of_getElem? (i := 90) rfl) rfl
theorem mw_2_91 : (Jvm.Cond.methodLink "VersionedBlock$Worker" (99 : Nat) ({ cls := "VersionedBlock$Draft", name := "size", desc := "()I" } : Jvm.MethodName)) ∈ TB := tb_2 (List.mem_of_getElem? (i := 91) rfl) rfl
theorem mw_2_92 : (Jvm.Cond.instanceMethod ({ cls := "VersionedBlock$Draft", name := "size", desc := "()I" } : Jvm.MethodName)) ∈ TB := tb_2 (List.mem_of_getElem? (i := 92) rfl) rfl
theorem mw_2_93 : (Jvm.Cond.selects "VersionedBlock$Draft" ({ cls := "VersionedBlock$Draft", name := "size", desc := "()I" } : Jvm.MethodName) ({ cls := "VersionedBlock$Draft", name := "size", desc := "()I" } : Jvm.MethodName)) ∈ TB := tb_2 (List.mem_of_getElem? (i := 93) rfl) rfl
theorem mw_2_94 : (Jvm.Cond.code ({ cls := "VersionedBlock$Draft", name := "size", desc := "()I" } : Jvm.MethodName) prog_2_method_3_code (1 : Nat) (Option.some Jvm.ClassFile.FieldType.int)) ∈ TB := tb_2 (List.mem_of_getElem? (i := 94) rfl) rfl
theorem mw_2_95 : (Jvm.Cond.methodLink "VersionedBlock$Worker" (103 : Nat) ({ cls := "VersionedBlock$Draft", name := "placeAt", desc := "(I)I" } : Jvm.MethodName)) ∈ TB := tb_2 (List.mem_of_getElem? (i := 95) rfl) rfl
theorem mw_2_96 : (Jvm.Cond.instanceMethod ({ cls := "VersionedBlock$Draft", name := "placeAt", desc := "(I)I" } : Jvm.MethodName)) ∈ TB := tb_2 (List.mem_of_getElem? (i := 96) rfl) rfl
theorem mw_2_97 : (Jvm.Cond.selects "VersionedBlock$Draft" ({ cls := "VersionedBlock$Draft", name := "placeAt", desc := "(I)I" } : Jvm.MethodName) ({ cls := "VersionedBlock$Draft", name := "placeAt", desc := "(I)I" } : Jvm.MethodName)) ∈ TB := tb_2 (List.mem_of_getElem? (i := 97) rfl) rfl
theorem mw_2_98 : (Jvm.Cond.code ({ cls := "VersionedBlock$Draft", name := "placeAt", desc := "(I)I" } : Jvm.MethodName) prog_2_method_4_code (2 : Nat) (Option.some Jvm.ClassFile.FieldType.int)) ∈ TB := tb_2 (List.mem_of_getElem? (i := 98) rfl) rfl
theorem mw_2_99 : (Jvm.Cond.methodLink "VersionedBlock" (134 : Nat) ({ cls := "VersionedBlock$Worker", name := "startAnew", desc := "()V" } : Jvm.MethodName)) ∈ TB := tb_2 (List.mem_of_getElem? (i := 99) rfl) rfl
theorem mw_2_100 : (Jvm.Cond.methodLink "VersionedBlock" (137 : Nat) ({ cls := "VersionedBlock$Worker", name := "handIn", desc := "([J)Z" } : Jvm.MethodName)) ∈ TB := tb_2 (List.mem_of_getElem? (i := 100) rfl) rfl
theorem mw_2_101 : (Jvm.Cond.instanceMethod ({ cls := "VersionedBlock$Worker", name := "handIn", desc := "([J)Z" } : Jvm.MethodName)) ∈ TB := tb_2 (List.mem_of_getElem? (i := 101) rfl) rfl
theorem mw_2_102 : (Jvm.Cond.selects "VersionedBlock$Worker" ({ cls := "VersionedBlock$Worker", name := "handIn", desc := "([J)Z" } : Jvm.MethodName) ({ cls := "VersionedBlock$Worker", name := "handIn", desc := "([J)Z" } : Jvm.MethodName)) ∈ TB := tb_2 (List.mem_of_getElem? (i := 102) rfl) rfl
theorem mw_2_103 : (Jvm.Cond.code ({ cls := "VersionedBlock$Worker", name := "handIn", desc := "([J)Z" } : Jvm.MethodName) prog_5_method_11_code (5 : Nat) (Option.some Jvm.ClassFile.FieldType.boolean)) ∈ TB := tb_2 (List.mem_of_getElem? (i := 103) rfl) rfl
theorem mw_2_104 : (Jvm.Cond.methodLink "VersionedBlock$Worker" (106 : Nat) ({ cls := "VersionedBlock$Worker", name := "storeInto", desc := "([J)I" } : Jvm.MethodName)) ∈ TB := tb_2 (List.mem_of_getElem? (i := 104) rfl) rfl
theorem mw_2_106 : (Jvm.Cond.instanceMethod ({ cls := "VersionedBlock$Worker", name := "storeInto", desc := "([J)I" } : Jvm.MethodName)) ∈ TB := tb_2 (List.mem_of_getElem? (i := 106) rfl) rfl
theorem mw_2_107 : (Jvm.Cond.code ({ cls := "VersionedBlock$Worker", name := "storeInto", desc := "([J)I" } : Jvm.MethodName) prog_5_method_12_code (4 : Nat) (Option.some Jvm.ClassFile.FieldType.int)) ∈ TB := tb_2 (List.mem_of_getElem? (i := 107) rfl) rfl
theorem mw_2_108 : (Jvm.Cond.methodLink "VersionedBlock$Worker" (110 : Nat) ({ cls := "VersionedBlock$Transaction", name := "note", desc := "(IIIIJ)V" } : Jvm.MethodName)) ∈ TB := tb_2 (List.mem_of_getElem? (i := 108) rfl) rfl
theorem mw_2_109 : (Jvm.Cond.instanceMethod ({ cls := "VersionedBlock$Transaction", name := "note", desc := "(IIIIJ)V" } : Jvm.MethodName)) ∈ TB := tb_2 (List.mem_of_getElem? (i := 109) rfl) rfl
theorem mw_2_110 : (Jvm.Cond.selects "VersionedBlock$Transaction" ({ cls := "VersionedBlock$Transaction", name := "note", desc := "(IIIIJ)V" } : Jvm.MethodName) ({ cls := "VersionedBlock$Transaction", name := "note", desc := "(IIIIJ)V" } : Jvm.MethodName)) ∈ TB := tb_2 (List.mem_of_getElem? (i := 110) rfl) rfl
theorem mw_2_111 : (Jvm.Cond.code ({ cls := "VersionedBlock$Transaction", name := "note", desc := "(IIIIJ)V" } : Jvm.MethodName) prog_3_method_8_code (7 : Nat) (Option.none : Option Jvm.ClassFile.FieldType)) ∈ TB := tb_2 (List.mem_of_getElem? (i := 111) rfl) rfl
theorem mw_2_112 : (Jvm.Cond.methodLink "VersionedBlock" (89 : Nat) ({ cls := "VersionedBlock", name := "goOnAsFarAsItCan", desc := "(I)V" } : Jvm.MethodName)) ∈ TB := tb_2 (List.mem_of_getElem? (i := 112) rfl) rfl
theorem mw_2_114 : (Jvm.Cond.instanceMethod ({ cls := "VersionedBlock", name := "goOnAsFarAsItCan", desc := "(I)V" } : Jvm.MethodName)) ∈ TB := tb_2 (List.mem_of_getElem? (i := 114) rfl) rfl
theorem mw_2_115 : (Jvm.Cond.code ({ cls := "VersionedBlock", name := "goOnAsFarAsItCan", desc := "(I)V" } : Jvm.MethodName) prog_1_method_17_code (5 : Nat) (Option.none : Option Jvm.ClassFile.FieldType)) ∈ TB := tb_2 (List.mem_of_getElem? (i := 115) rfl) rfl
theorem mw_2_116 : (Jvm.Cond.methodLink "VersionedBlockLaw" (60 : Nat) ({ cls := "VersionedBlock", name := "count", desc := "()I" } : Jvm.MethodName)) ∈ TB := tb_2 (List.mem_of_getElem? (i := 116) rfl) rfl
theorem mw_2_117 : (Jvm.Cond.instanceMethod ({ cls := "VersionedBlock", name := "count", desc := "()I" } : Jvm.MethodName)) ∈ TB := tb_2 (List.mem_of_getElem? (i := 117) rfl) rfl
theorem mw_2_118 : (Jvm.Cond.selects "VersionedBlock" ({ cls := "VersionedBlock", name := "count", desc := "()I" } : Jvm.MethodName) ({ cls := "VersionedBlock", name := "count", desc := "()I" } : Jvm.MethodName)) ∈ TB := tb_2 (List.mem_of_getElem? (i := 118) rfl) rfl
theorem mw_2_119 : (Jvm.Cond.code ({ cls := "VersionedBlock", name := "count", desc := "()I" } : Jvm.MethodName) prog_1_method_10_code (1 : Nat) (Option.some Jvm.ClassFile.FieldType.int)) ∈ TB := tb_2 (List.mem_of_getElem? (i := 119) rfl) rfl
theorem mw_2_120 : (Jvm.Cond.methodLink "VersionedBlockLaw" (64 : Nat) ({ cls := "VersionedBlock", name := "told", desc := "(II)I" } : Jvm.MethodName)) ∈ TB := tb_2 (List.mem_of_getElem? (i := 120) rfl) rfl
theorem mw_2_121 : (Jvm.Cond.instanceMethod ({ cls := "VersionedBlock", name := "told", desc := "(II)I" } : Jvm.MethodName)) ∈ TB := tb_2 (List.mem_of_getElem? (i := 121) rfl) rfl
theorem mw_2_122 : (Jvm.Cond.selects "VersionedBlock" ({ cls := "VersionedBlock", name := "told", desc := "(II)I" } : Jvm.MethodName) ({ cls := "VersionedBlock", name := "told", desc := "(II)I" } : Jvm.MethodName)) ∈ TB := tb_2 (List.mem_of_getElem? (i := 122) rfl) rfl
theorem mw_2_123 : (Jvm.Cond.code ({ cls := "VersionedBlock", name := "told", desc := "(II)I" } : Jvm.MethodName) prog_1_method_11_code (4 : Nat) (Option.some Jvm.ClassFile.FieldType.int)) ∈ TB := tb_2 (List.mem_of_getElem? (i := 123) rfl) rfl
theorem mw_2_124 : (Jvm.Cond.methodLink "VersionedBlock" (93 : Nat) ({ cls := "VersionedBlock$Transaction", name := "tell", desc := "(I)I" } : Jvm.MethodName)) ∈ TB := tb_2 (List.mem_of_getElem? (i := 124) rfl) rfl
theorem mw_2_125 : (Jvm.Cond.instanceMethod ({ cls := "VersionedBlock$Transaction", name := "tell", desc := "(I)I" } : Jvm.MethodName)) ∈ TB := tb_2 (List.mem_of_getElem? (i := 125) rfl) rfl
theorem mw_2_126 : (Jvm.Cond.selects "VersionedBlock$Transaction" ({ cls := "VersionedBlock$Transaction", name := "tell", desc := "(I)I" } : Jvm.MethodName) ({ cls := "VersionedBlock$Transaction", name := "tell", desc := "(I)I" } : Jvm.MethodName)) ∈ TB := tb_2 (List.mem_of_getElem? (i := 126) rfl) rfl
theorem mw_2_127 : (Jvm.Cond.code ({ cls := "VersionedBlock$Transaction", name := "tell", desc := "(I)I" } : Jvm.MethodName) prog_3_method_9_code (2 : Nat) (Option.some Jvm.ClassFile.FieldType.int)) ∈ TB := tb_2 (List.mem_of_getElem? (i := 127) rfl) rfl
theorem mw_2_128 : (Jvm.Cond.methodLink "VersionedBlockLaw" (69 : Nat) ({ cls := "VersionedBlock", name := "result", desc := "(I)J" } : Jvm.MethodName)) ∈ TB := tb_2 (List.mem_of_getElem? (i := 128) rfl) rfl
theorem mw_2_129 : (Jvm.Cond.instanceMethod ({ cls := "VersionedBlock", name := "result", desc := "(I)J" } : Jvm.MethodName)) ∈ TB := tb_2 (List.mem_of_getElem? (i := 129) rfl) rfl
theorem mw_2_130 : (Jvm.Cond.selects "VersionedBlock" ({ cls := "VersionedBlock", name := "result", desc := "(I)J" } : Jvm.MethodName) ({ cls := "VersionedBlock", name := "result", desc := "(I)J" } : Jvm.MethodName)) ∈ TB := tb_2 (List.mem_of_getElem? (i := 130) rfl) rfl
theorem mw_2_131 : (Jvm.Cond.code ({ cls := "VersionedBlock", name := "result", desc := "(I)J" } : Jvm.MethodName) prog_1_method_12_code (3 : Nat) (Option.some Jvm.ClassFile.FieldType.long)) ∈ TB := tb_2 (List.mem_of_getElem? (i := 131) rfl) rfl
theorem mw_2_132 : (Jvm.Cond.methodLink "VersionedBlock" (96 : Nat) ({ cls := "VersionedBlock$Transaction", name := "tellResult", desc := "()J" } : Jvm.MethodName)) ∈ TB := tb_2 (List.mem_of_getElem? (i := 132) rfl) rfl
theorem mw_2_133 : (Jvm.Cond.instanceMethod ({ cls := "VersionedBlock$Transaction", name := "tellResult", desc := "()J" } : Jvm.MethodName)) ∈ TB := tb_2 (List.mem_of_getElem? (i := 133) rfl) rfl
theorem mw_2_134 : (Jvm.Cond.selects "VersionedBlock$Transaction" ({ cls := "VersionedBlock$Transaction", name := "tellResult", desc := "()J" } : Jvm.MethodName) ({ cls := "VersionedBlock$Transaction", name := "tellResult", desc := "()J" } : Jvm.MethodName)) ∈ TB := tb_2 (List.mem_of_getElem? (i := 134) rfl) rfl
theorem mw_2_135 : (Jvm.Cond.code ({ cls := "VersionedBlock$Transaction", name := "tellResult", desc := "()J" } : Jvm.MethodName) prog_3_method_10_code (1 : Nat) (Option.some Jvm.ClassFile.FieldType.long)) ∈ TB := tb_2 (List.mem_of_getElem? (i := 135) rfl) rfl
theorem mw_2_136 : (Jvm.Cond.methodLink "VersionedBlockLaw" (9 : Nat) ({ cls := "VersionedBlockLaw", name := "cell", desc := "([II)I" } : Jvm.MethodName)) ∈ TB := tb_2 (List.mem_of_getElem? (i := 136) rfl) rfl
theorem mw_2_137 : (Jvm.Cond.static ({ cls := "VersionedBlockLaw", name := "cell", desc := "([II)I" } : Jvm.MethodName)) ∈ TB := tb_2 (List.mem_of_getElem? (i := 137) rfl) rfl
theorem mw_2_138 : (Jvm.Cond.code ({ cls := "VersionedBlockLaw", name := "cell", desc := "([II)I" } : Jvm.MethodName) method_2_code (2 : Nat) (Option.some Jvm.ClassFile.FieldType.int)) ∈ TB := tb_2 (List.mem_of_getElem? (i := 138) rfl) rfl
theorem mw_2_139 : (Jvm.Cond.classLink "VersionedBlockLaw" (18 : Nat) "VersionedBlockModel") ∈ TB := tb_2 (List.mem_of_getElem? (i := 139) rfl) rfl
theorem mw_2_140 : (Jvm.Cond.instantiable "VersionedBlockModel" (15 : Nat)) ∈ TB := tb_2 (List.mem_of_getElem? (i := 140) rfl) rfl
theorem mw_2_141 : (Jvm.Cond.methodLink "VersionedBlockLaw" (20 : Nat) ({ cls := "VersionedBlockModel", name := "<init>", desc := "(I)V" } : Jvm.MethodName)) ∈ TB := tb_2 (List.mem_of_getElem? (i := 141) rfl) rfl
theorem mw_2_142 : (Jvm.Cond.instanceMethod ({ cls := "VersionedBlockModel", name := "<init>", desc := "(I)V" } : Jvm.MethodName)) ∈ TB := tb_2 (List.mem_of_getElem? (i := 142) rfl) rfl
theorem mw_2_143 : (Jvm.Cond.code ({ cls := "VersionedBlockModel", name := "<init>", desc := "(I)V" } : Jvm.MethodName) prog_7_method_1_code (2 : Nat) (Option.none : Option Jvm.ClassFile.FieldType)) ∈ TB := tb_2 (List.mem_of_getElem? (i := 143) rfl) rfl
theorem mw_2_144 : (Jvm.Cond.methodLink "VersionedBlockModel" (1 : Nat) ({ cls := "java/lang/Object", name := "<init>", desc := "()V" } : Jvm.MethodName)) ∈ TB := tb_2 (List.mem_of_getElem? (i := 144) rfl) rfl
theorem mw_2_145 : (Jvm.Cond.fieldLink "VersionedBlockModel" (7 : Nat) "VersionedBlockModel" "places" "[J") ∈ TB := tb_2 (List.mem_of_getElem? (i := 145) rfl) rfl
theorem mw_2_146 : (Jvm.Cond.fieldLink "VersionedBlockModel" (13 : Nat) "VersionedBlockModel" "stored" "[J") ∈ TB := tb_2 (List.mem_of_getElem? (i := 146) rfl) rfl
theorem mw_2_147 : (Jvm.Cond.fieldLink "VersionedBlockModel" (16 : Nat) "VersionedBlockModel" "isStored" "[Z") ∈ TB := tb_2 (List.mem_of_getElem? (i := 147) rfl) rfl
theorem mw_2_148 : (Jvm.Cond.fieldLink "VersionedBlockModel" (50 : Nat) "VersionedBlockModel" "count" "I") ∈ TB := tb_2 (List.mem_of_getElem? (i := 148) rfl) rfl
theorem mw_2_149 : (Jvm.Cond.fieldLink "VersionedBlockModel" (20 : Nat) "VersionedBlockModel" "sizes" "[I") ∈ TB := tb_2 (List.mem_of_getElem? (i := 149) rfl) rfl
theorem mw_2_150 : (Jvm.Cond.fieldLink "VersionedBlockModel" (24 : Nat) "VersionedBlockModel" "operations" "[B") ∈ TB := tb_2 (List.mem_of_getElem? (i := 150) rfl) rfl
theorem mw_2_151 : (Jvm.Cond.fieldLink "VersionedBlockModel" (28 : Nat) "VersionedBlockModel" "firsts" "[I") ∈ TB := tb_2 (List.mem_of_getElem? (i := 151) rfl) rfl
theorem mw_2_152 : (Jvm.Cond.fieldLink "VersionedBlockModel" (31 : Nat) "VersionedBlockModel" "seconds" "[J") ∈ TB := tb_2 (List.mem_of_getElem? (i := 152) rfl) rfl
theorem mw_2_153 : (Jvm.Cond.fieldLink "VersionedBlockModel" (60 : Nat) "VersionedBlockModel" "woven" "I") ∈ TB := tb_2 (List.mem_of_getElem? (i := 153) rfl) rfl
theorem mw_2_154 : (Jvm.Cond.fieldLink "VersionedBlockModel" (34 : Nat) "VersionedBlockModel" "registers" "[J") ∈ TB := tb_2 (List.mem_of_getElem? (i := 154) rfl) rfl
theorem mw_2_155 : (Jvm.Cond.fieldLink "VersionedBlockModel" (71 : Nat) "VersionedBlockModel" "next" "I") ∈ TB := tb_2 (List.mem_of_getElem? (i := 155) rfl) rfl
theorem mw_2_156 : (Jvm.Cond.fieldLink "VersionedBlockModel" (37 : Nat) "VersionedBlockModel" "isTold" "[Z") ∈ TB := tb_2 (List.mem_of_getElem? (i := 156) rfl) rfl
theorem mw_2_157 : (Jvm.Cond.fieldLink "VersionedBlockModel" (40 : Nat) "VersionedBlockModel" "told" "[I") ∈ TB := tb_2 (List.mem_of_getElem? (i := 157) rfl) rfl
theorem mw_2_158 : (Jvm.Cond.fieldLink "VersionedBlockModel" (43 : Nat) "VersionedBlockModel" "results" "[J") ∈ TB := tb_2 (List.mem_of_getElem? (i := 158) rfl) rfl
theorem mw_2_159 : (Jvm.Cond.fieldLink "VersionedBlockModel" (78 : Nat) "VersionedBlockModel" "loads" "I") ∈ TB := tb_2 (List.mem_of_getElem? (i := 159) rfl) rfl
theorem mw_2_160 : (Jvm.Cond.laysFinal "VersionedBlockModel" "VersionedBlockModel" "places" "[J") ∈ TB := tb_2 (List.mem_of_getElem? (i := 160) rfl) rfl
theorem mw_2_162 : (Jvm.Cond.laysFinal "VersionedBlockModel" "VersionedBlockModel" "stored" "[J") ∈ TB := tb_2 (List.mem_of_getElem? (i := 162) rfl) rfl
theorem mw_2_164 : (Jvm.Cond.laysFinal "VersionedBlockModel" "VersionedBlockModel" "isStored" "[Z") ∈ TB := tb_2 (List.mem_of_getElem? (i := 164) rfl) rfl
theorem mw_2_166 : (Jvm.Cond.lays "VersionedBlockModel" "VersionedBlockModel" "count" "I") ∈ TB := tb_2 (List.mem_of_getElem? (i := 166) rfl) rfl
theorem mw_2_168 : (Jvm.Cond.laysFinal "VersionedBlockModel" "VersionedBlockModel" "sizes" "[I") ∈ TB := tb_2 (List.mem_of_getElem? (i := 168) rfl) rfl
theorem mw_2_170 : (Jvm.Cond.laysFinal "VersionedBlockModel" "VersionedBlockModel" "operations" "[B") ∈ TB := tb_2 (List.mem_of_getElem? (i := 170) rfl) rfl
theorem mw_2_172 : (Jvm.Cond.laysFinal "VersionedBlockModel" "VersionedBlockModel" "firsts" "[I") ∈ TB := tb_2 (List.mem_of_getElem? (i := 172) rfl) rfl
theorem mw_2_174 : (Jvm.Cond.laysFinal "VersionedBlockModel" "VersionedBlockModel" "seconds" "[J") ∈ TB := tb_2 (List.mem_of_getElem? (i := 174) rfl) rfl
theorem mw_2_176 : (Jvm.Cond.lays "VersionedBlockModel" "VersionedBlockModel" "woven" "I") ∈ TB := tb_2 (List.mem_of_getElem? (i := 176) rfl) rfl
theorem mw_2_178 : (Jvm.Cond.laysFinal "VersionedBlockModel" "VersionedBlockModel" "registers" "[J") ∈ TB := tb_2 (List.mem_of_getElem? (i := 178) rfl) rfl
theorem mw_2_180 : (Jvm.Cond.lays "VersionedBlockModel" "VersionedBlockModel" "next" "I") ∈ TB := tb_2 (List.mem_of_getElem? (i := 180) rfl) rfl
theorem mw_2_182 : (Jvm.Cond.laysFinal "VersionedBlockModel" "VersionedBlockModel" "isTold" "[Z") ∈ TB := tb_2 (List.mem_of_getElem? (i := 182) rfl) rfl
theorem mw_2_184 : (Jvm.Cond.laysFinal "VersionedBlockModel" "VersionedBlockModel" "told" "[I") ∈ TB := tb_2 (List.mem_of_getElem? (i := 184) rfl) rfl
theorem mw_2_186 : (Jvm.Cond.laysFinal "VersionedBlockModel" "VersionedBlockModel" "results" "[J") ∈ TB := tb_2 (List.mem_of_getElem? (i := 186) rfl) rfl
theorem mw_2_188 : (Jvm.Cond.lays "VersionedBlockModel" "VersionedBlockModel" "loads" "I") ∈ TB := tb_2 (List.mem_of_getElem? (i := 188) rfl) rfl
theorem mw_2_191 : (Jvm.Cond.arrayClass Jvm.ClassFile.FieldType.byte) ∈ TB := tb_2 (List.mem_of_getElem? (i := 191) rfl) rfl
theorem mw_2_192 : (Jvm.Cond.methodLink "VersionedBlockLaw" (27 : Nat) ({ cls := "VersionedBlockModel", name := "put", desc := "(IJ)Z" } : Jvm.MethodName)) ∈ TB := tb_2 (List.mem_of_getElem? (i := 192) rfl) rfl
theorem mw_2_193 : (Jvm.Cond.instanceMethod ({ cls := "VersionedBlockModel", name := "put", desc := "(IJ)Z" } : Jvm.MethodName)) ∈ TB := tb_2 (List.mem_of_getElem? (i := 193) rfl) rfl
theorem mw_2_194 : (Jvm.Cond.selects "VersionedBlockModel" ({ cls := "VersionedBlockModel", name := "put", desc := "(IJ)Z" } : Jvm.MethodName) ({ cls := "VersionedBlockModel", name := "put", desc := "(IJ)Z" } : Jvm.MethodName)) ∈ TB := tb_2 (List.mem_of_getElem? (i := 194) rfl) rfl
theorem mw_2_195 : (Jvm.Cond.code ({ cls := "VersionedBlockModel", name := "put", desc := "(IJ)Z" } : Jvm.MethodName) prog_7_method_3_code (4 : Nat) (Option.some Jvm.ClassFile.FieldType.boolean)) ∈ TB := tb_2 (List.mem_of_getElem? (i := 195) rfl) rfl
theorem mw_2_196 : (Jvm.Cond.methodLink "VersionedBlockModel" (46 : Nat) ({ cls := "VersionedBlockModel", name := "isPlace", desc := "(I)Z" } : Jvm.MethodName)) ∈ TB := tb_2 (List.mem_of_getElem? (i := 196) rfl) rfl
theorem mw_2_197 : (Jvm.Cond.static ({ cls := "VersionedBlockModel", name := "isPlace", desc := "(I)Z" } : Jvm.MethodName)) ∈ TB := tb_2 (List.mem_of_getElem? (i := 197) rfl) rfl
theorem mw_2_198 : (Jvm.Cond.code ({ cls := "VersionedBlockModel", name := "isPlace", desc := "(I)Z" } : Jvm.MethodName) prog_7_method_2_code (1 : Nat) (Option.some Jvm.ClassFile.FieldType.boolean)) ∈ TB := tb_2 (List.mem_of_getElem? (i := 198) rfl) rfl
theorem mw_2_199 : (Jvm.Cond.methodLink "VersionedBlockLaw" (32 : Nat) ({ cls := "VersionedBlockModel", name := "get", desc := "(I)J" } : Jvm.MethodName)) ∈ TB := tb_2 (List.mem_of_getElem? (i := 199) rfl) rfl
theorem mw_2_200 : (Jvm.Cond.instanceMethod ({ cls := "VersionedBlockModel", name := "get", desc := "(I)J" } : Jvm.MethodName)) ∈ TB := tb_2 (List.mem_of_getElem? (i := 200) rfl) rfl
theorem mw_2_201 : (Jvm.Cond.selects "VersionedBlockModel" ({ cls := "VersionedBlockModel", name := "get", desc := "(I)J" } : Jvm.MethodName) ({ cls := "VersionedBlockModel", name := "get", desc := "(I)J" } : Jvm.MethodName)) ∈ TB := tb_2 (List.mem_of_getElem? (i := 201) rfl) rfl
theorem mw_2_202 : (Jvm.Cond.code ({ cls := "VersionedBlockModel", name := "get", desc := "(I)J" } : Jvm.MethodName) prog_7_method_4_code (2 : Nat) (Option.some Jvm.ClassFile.FieldType.long)) ∈ TB := tb_2 (List.mem_of_getElem? (i := 202) rfl) rfl
theorem mw_2_203 : (Jvm.Cond.methodLink "VersionedBlockLaw" (37 : Nat) ({ cls := "VersionedBlockModel", name := "begin", desc := "()I" } : Jvm.MethodName)) ∈ TB := tb_2 (List.mem_of_getElem? (i := 203) rfl) rfl
theorem mw_2_204 : (Jvm.Cond.instanceMethod ({ cls := "VersionedBlockModel", name := "begin", desc := "()I" } : Jvm.MethodName)) ∈ TB := tb_2 (List.mem_of_getElem? (i := 204) rfl) rfl
theorem mw_2_205 : (Jvm.Cond.selects "VersionedBlockModel" ({ cls := "VersionedBlockModel", name := "begin", desc := "()I" } : Jvm.MethodName) ({ cls := "VersionedBlockModel", name := "begin", desc := "()I" } : Jvm.MethodName)) ∈ TB := tb_2 (List.mem_of_getElem? (i := 205) rfl) rfl
theorem mw_2_206 : (Jvm.Cond.code ({ cls := "VersionedBlockModel", name := "begin", desc := "()I" } : Jvm.MethodName) prog_7_method_5_code (2 : Nat) (Option.some Jvm.ClassFile.FieldType.int)) ∈ TB := tb_2 (List.mem_of_getElem? (i := 206) rfl) rfl
theorem mw_2_207 : (Jvm.Cond.methodLink "VersionedBlockLaw" (41 : Nat) ({ cls := "VersionedBlockModel", name := "transaction", desc := "()I" } : Jvm.MethodName)) ∈ TB := tb_2 (List.mem_of_getElem? (i := 207) rfl) rfl
theorem mw_2_208 : (Jvm.Cond.instanceMethod ({ cls := "VersionedBlockModel", name := "transaction", desc := "()I" } : Jvm.MethodName)) ∈ TB := tb_2 (List.mem_of_getElem? (i := 208) rfl) rfl
theorem mw_2_209 : (Jvm.Cond.selects "VersionedBlockModel" ({ cls := "VersionedBlockModel", name := "transaction", desc := "()I" } : Jvm.MethodName) ({ cls := "VersionedBlockModel", name := "transaction", desc := "()I" } : Jvm.MethodName)) ∈ TB := tb_2 (List.mem_of_getElem? (i := 209) rfl) rfl
theorem mw_2_210 : (Jvm.Cond.code ({ cls := "VersionedBlockModel", name := "transaction", desc := "()I" } : Jvm.MethodName) prog_7_method_6_code (1 : Nat) (Option.some Jvm.ClassFile.FieldType.int)) ∈ TB := tb_2 (List.mem_of_getElem? (i := 210) rfl) rfl
theorem mw_2_211 : (Jvm.Cond.methodLink "VersionedBlockLaw" (46 : Nat) ({ cls := "VersionedBlockModel", name := "instruction", desc := "(IIJ)I" } : Jvm.MethodName)) ∈ TB := tb_2 (List.mem_of_getElem? (i := 211) rfl) rfl
theorem mw_2_212 : (Jvm.Cond.instanceMethod ({ cls := "VersionedBlockModel", name := "instruction", desc := "(IIJ)I" } : Jvm.MethodName)) ∈ TB := tb_2 (List.mem_of_getElem? (i := 212) rfl) rfl
theorem mw_2_213 : (Jvm.Cond.selects "VersionedBlockModel" ({ cls := "VersionedBlockModel", name := "instruction", desc := "(IIJ)I" } : Jvm.MethodName) ({ cls := "VersionedBlockModel", name := "instruction", desc := "(IIJ)I" } : Jvm.MethodName)) ∈ TB := tb_2 (List.mem_of_getElem? (i := 213) rfl) rfl
theorem mw_2_214 : (Jvm.Cond.code ({ cls := "VersionedBlockModel", name := "instruction", desc := "(IIJ)I" } : Jvm.MethodName) prog_7_method_7_code (7 : Nat) (Option.some Jvm.ClassFile.FieldType.int)) ∈ TB := tb_2 (List.mem_of_getElem? (i := 214) rfl) rfl
theorem mw_2_215 : (Jvm.Cond.methodLink "VersionedBlockModel" (54 : Nat) ({ cls := "java/lang/Math", name := "floorMod", desc := "(II)I" } : Jvm.MethodName)) ∈ TB := tb_2 (List.mem_of_getElem? (i := 215) rfl) rfl
theorem mw_2_216 : (Jvm.Cond.methodLink "VersionedBlockLaw" (51 : Nat) ({ cls := "VersionedBlockModel", name := "weave", desc := "(J)I" } : Jvm.MethodName)) ∈ TB := tb_2 (List.mem_of_getElem? (i := 216) rfl) rfl
theorem mw_2_217 : (Jvm.Cond.instanceMethod ({ cls := "VersionedBlockModel", name := "weave", desc := "(J)I" } : Jvm.MethodName)) ∈ TB := tb_2 (List.mem_of_getElem? (i := 217) rfl) rfl
theorem mw_2_218 : (Jvm.Cond.selects "VersionedBlockModel" ({ cls := "VersionedBlockModel", name := "weave", desc := "(J)I" } : Jvm.MethodName) ({ cls := "VersionedBlockModel", name := "weave", desc := "(J)I" } : Jvm.MethodName)) ∈ TB := tb_2 (List.mem_of_getElem? (i := 218) rfl) rfl
theorem mw_2_219 : (Jvm.Cond.code ({ cls := "VersionedBlockModel", name := "weave", desc := "(J)I" } : Jvm.MethodName) prog_7_method_8_code (3 : Nat) (Option.some Jvm.ClassFile.FieldType.int)) ∈ TB := tb_2 (List.mem_of_getElem? (i := 219) rfl) rfl
theorem mw_2_220 : (Jvm.Cond.constant "VersionedBlockModel" (63 : Nat) (65536 : Int32)) ∈ TB := tb_2 (List.mem_of_getElem? (i := 220) rfl) rfl
theorem mw_2_221 : (Jvm.Cond.methodLink "VersionedBlockLaw" (55 : Nat) ({ cls := "VersionedBlockModel", name := "unweave", desc := "()I" } : Jvm.MethodName)) ∈ TB := tb_2 (List.mem_of_getElem? (i := 221) rfl) rfl
theorem mw_2_222 : (Jvm.Cond.instanceMethod ({ cls := "VersionedBlockModel", name := "unweave", desc := "()I" } : Jvm.MethodName)) ∈ TB := tb_2 (List.mem_of_getElem? (i := 222) rfl) rfl
theorem mw_2_223 : (Jvm.Cond.selects "VersionedBlockModel" ({ cls := "VersionedBlockModel", name := "unweave", desc := "()I" } : Jvm.MethodName) ({ cls := "VersionedBlockModel", name := "unweave", desc := "()I" } : Jvm.MethodName)) ∈ TB := tb_2 (List.mem_of_getElem? (i := 223) rfl) rfl
theorem mw_2_224 : (Jvm.Cond.code ({ cls := "VersionedBlockModel", name := "unweave", desc := "()I" } : Jvm.MethodName) prog_7_method_9_code (2 : Nat) (Option.some Jvm.ClassFile.FieldType.int)) ∈ TB := tb_2 (List.mem_of_getElem? (i := 224) rfl) rfl
theorem mw_2_225 : (Jvm.Cond.methodLink "VersionedBlockLaw" (59 : Nat) ({ cls := "VersionedBlockModel", name := "execute", desc := "()I" } : Jvm.MethodName)) ∈ TB := tb_2 (List.mem_of_getElem? (i := 225) rfl) rfl
theorem mw_2_226 : (Jvm.Cond.instanceMethod ({ cls := "VersionedBlockModel", name := "execute", desc := "()I" } : Jvm.MethodName)) ∈ TB := tb_2 (List.mem_of_getElem? (i := 226) rfl) rfl
theorem mw_2_227 : (Jvm.Cond.selects "VersionedBlockModel" ({ cls := "VersionedBlockModel", name := "execute", desc := "()I" } : Jvm.MethodName) ({ cls := "VersionedBlockModel", name := "execute", desc := "()I" } : Jvm.MethodName)) ∈ TB := tb_2 (List.mem_of_getElem? (i := 227) rfl) rfl
theorem mw_2_228 : (Jvm.Cond.code ({ cls := "VersionedBlockModel", name := "execute", desc := "()I" } : Jvm.MethodName) prog_7_method_13_code (3 : Nat) (Option.some Jvm.ClassFile.FieldType.int)) ∈ TB := tb_2 (List.mem_of_getElem? (i := 228) rfl) rfl
theorem mw_2_229 : (Jvm.Cond.methodLink "VersionedBlockModel" (87 : Nat) ({ cls := "VersionedBlockModel", name := "all", desc := "(I)I" } : Jvm.MethodName)) ∈ TB := tb_2 (List.mem_of_getElem? (i := 229) rfl) rfl
theorem mw_2_231 : (Jvm.Cond.instanceMethod ({ cls := "VersionedBlockModel", name := "all", desc := "(I)I" } : Jvm.MethodName)) ∈ TB := tb_2 (List.mem_of_getElem? (i := 231) rfl) rfl
theorem mw_2_232 : (Jvm.Cond.code ({ cls := "VersionedBlockModel", name := "all", desc := "(I)I" } : Jvm.MethodName) prog_7_method_12_code (6 : Nat) (Option.some Jvm.ClassFile.FieldType.int)) ∈ TB := tb_2 (List.mem_of_getElem? (i := 232) rfl) rfl
theorem mw_2_233 : (Jvm.Cond.methodLink "VersionedBlockModel" (83 : Nat) ({ cls := "VersionedBlockModel", name := "one", desc := "(I)I" } : Jvm.MethodName)) ∈ TB := tb_2 (List.mem_of_getElem? (i := 233) rfl) rfl
theorem mw_2_235 : (Jvm.Cond.instanceMethod ({ cls := "VersionedBlockModel", name := "one", desc := "(I)I" } : Jvm.MethodName)) ∈ TB := tb_2 (List.mem_of_getElem? (i := 235) rfl) rfl
theorem mw_2_236 : (Jvm.Cond.code ({ cls := "VersionedBlockModel", name := "one", desc := "(I)I" } : Jvm.MethodName) prog_7_method_11_code (6 : Nat) (Option.some Jvm.ClassFile.FieldType.int)) ∈ TB := tb_2 (List.mem_of_getElem? (i := 236) rfl) rfl
theorem mw_2_237 : (Jvm.Cond.constantLong "VersionedBlockModel" (69 : Nat) (8 : Int64)) ∈ TB := tb_2 (List.mem_of_getElem? (i := 237) rfl) rfl
theorem mw_2_238 : (Jvm.Cond.methodLink "VersionedBlockModel" (66 : Nat) ({ cls := "java/lang/Math", name := "floorMod", desc := "(JJ)J" } : Jvm.MethodName)) ∈ TB := tb_2 (List.mem_of_getElem? (i := 238) rfl) rfl
theorem mw_2_239 : (Jvm.Cond.static ({ cls := "java/lang/Math", name := "floorMod", desc := "(JJ)J" } : Jvm.MethodName)) ∈ TB := tb_2 (List.mem_of_getElem? (i := 239) rfl) rfl
theorem mw_3_0 : (Jvm.Cond.code ({ cls := "java/lang/Math", name := "floorMod", desc := "(JJ)J" } : Jvm.MethodName) prog_9_method_52_code (6 : Nat) (Option.some Jvm.ClassFile.FieldType.long)) ∈ TB := tb_3 (List.mem_of_getElem? (i := 0) rfl) rfl
theorem mw_3_1 : (Jvm.Cond.methodLink "VersionedBlockModel" (74 : Nat) ({ cls := "VersionedBlockModel", name := "placeOf", desc := "(J)I" } : Jvm.MethodName)) ∈ TB := tb_3 (List.mem_of_getElem? (i := 1) rfl) rfl
theorem mw_3_2 : (Jvm.Cond.static ({ cls := "VersionedBlockModel", name := "placeOf", desc := "(J)I" } : Jvm.MethodName)) ∈ TB := tb_3 (List.mem_of_getElem? (i := 2) rfl) rfl
theorem mw_3_3 : (Jvm.Cond.code ({ cls := "VersionedBlockModel", name := "placeOf", desc := "(J)I" } : Jvm.MethodName) prog_7_method_10_code (2 : Nat) (Option.some Jvm.ClassFile.FieldType.int)) ∈ TB := tb_3 (List.mem_of_getElem? (i := 3) rfl) rfl
theorem mw_3_4 : (Jvm.Cond.constantLong "VersionedBlockModel" (64 : Nat) (256 : Int64)) ∈ TB := tb_3 (List.mem_of_getElem? (i := 4) rfl) rfl
theorem mw_3_5 : (Jvm.Cond.constantLong "VersionedBlockModel" (81 : Nat) (32 : Int64)) ∈ TB := tb_3 (List.mem_of_getElem? (i := 5) rfl) rfl
theorem mw_3_6 : (Jvm.Cond.methodLink "VersionedBlockLaw" (63 : Nat) ({ cls := "VersionedBlockModel", name := "count", desc := "()I" } : Jvm.MethodName)) ∈ TB := tb_3 (List.mem_of_getElem? (i := 6) rfl) rfl
theorem mw_3_7 : (Jvm.Cond.instanceMethod ({ cls := "VersionedBlockModel", name := "count", desc := "()I" } : Jvm.MethodName)) ∈ TB := tb_3 (List.mem_of_getElem? (i := 7) rfl) rfl
theorem mw_3_8 : (Jvm.Cond.selects "VersionedBlockModel" ({ cls := "VersionedBlockModel", name := "count", desc := "()I" } : Jvm.MethodName) ({ cls := "VersionedBlockModel", name := "count", desc := "()I" } : Jvm.MethodName)) ∈ TB := tb_3 (List.mem_of_getElem? (i := 8) rfl) rfl
theorem mw_3_9 : (Jvm.Cond.code ({ cls := "VersionedBlockModel", name := "count", desc := "()I" } : Jvm.MethodName) prog_7_method_14_code (1 : Nat) (Option.some Jvm.ClassFile.FieldType.int)) ∈ TB := tb_3 (List.mem_of_getElem? (i := 9) rfl) rfl
theorem mw_3_10 : (Jvm.Cond.methodLink "VersionedBlockLaw" (68 : Nat) ({ cls := "VersionedBlockModel", name := "told", desc := "(II)I" } : Jvm.MethodName)) ∈ TB := tb_3 (List.mem_of_getElem? (i := 10) rfl) rfl
theorem mw_3_11 : (Jvm.Cond.instanceMethod ({ cls := "VersionedBlockModel", name := "told", desc := "(II)I" } : Jvm.MethodName)) ∈ TB := tb_3 (List.mem_of_getElem? (i := 11) rfl) rfl
theorem mw_3_12 : (Jvm.Cond.selects "VersionedBlockModel" ({ cls := "VersionedBlockModel", name := "told", desc := "(II)I" } : Jvm.MethodName) ({ cls := "VersionedBlockModel", name := "told", desc := "(II)I" } : Jvm.MethodName)) ∈ TB := tb_3 (List.mem_of_getElem? (i := 12) rfl) rfl
theorem mw_3_13 : (Jvm.Cond.code ({ cls := "VersionedBlockModel", name := "told", desc := "(II)I" } : Jvm.MethodName) prog_7_method_15_code (3 : Nat) (Option.some Jvm.ClassFile.FieldType.int)) ∈ TB := tb_3 (List.mem_of_getElem? (i := 13) rfl) rfl
theorem mw_3_14 : (Jvm.Cond.methodLink "VersionedBlockLaw" (72 : Nat) ({ cls := "VersionedBlockModel", name := "result", desc := "(I)J" } : Jvm.MethodName)) ∈ TB := tb_3 (List.mem_of_getElem? (i := 14) rfl) rfl
theorem mw_3_15 : (Jvm.Cond.instanceMethod ({ cls := "VersionedBlockModel", name := "result", desc := "(I)J" } : Jvm.MethodName)) ∈ TB := tb_3 (List.mem_of_getElem? (i := 15) rfl) rfl
theorem mw_3_16 : (Jvm.Cond.selects "VersionedBlockModel" ({ cls := "VersionedBlockModel", name := "result", desc := "(I)J" } : Jvm.MethodName) ({ cls := "VersionedBlockModel", name := "result", desc := "(I)J" } : Jvm.MethodName)) ∈ TB := tb_3 (List.mem_of_getElem? (i := 16) rfl) rfl
theorem mw_3_17 : (Jvm.Cond.code ({ cls := "VersionedBlockModel", name := "result", desc := "(I)J" } : Jvm.MethodName) prog_7_method_16_code (2 : Nat) (Option.some Jvm.ClassFile.FieldType.long)) ∈ TB := tb_3 (List.mem_of_getElem? (i := 17) rfl) rfl
theorem mw_3_18 : (Jvm.Cond.constantLong "VersionedBlockLaw" (21 : Nat) (4294967295 : Int64)) ∈ TB := tb_3 (List.mem_of_getElem? (i := 18) rfl) rfl
/-! the links among nest mates -/
abbrev nw_0 : Cond := (Jvm.Cond.methodLinkNest "VersionedBlock" (21 : Nat) ({ cls := "VersionedBlock$Weave", name := "<init>", desc := "()V" } : Jvm.MethodName) "VersionedBlock")
abbrev nw_1 : Cond := (Jvm.Cond.methodLinkNest "VersionedBlock" (49 : Nat) ({ cls := "VersionedBlock$Transaction", name := "<init>", desc := "()V" } : Jvm.MethodName) "VersionedBlock")
abbrev nw_2 : Cond := (Jvm.Cond.methodLinkNest "VersionedBlock" (125 : Nat) ({ cls := "VersionedBlock$Worker", name := "<init>", desc := "()V" } : Jvm.MethodName) "VersionedBlock")
abbrev nw_3 : Cond := (Jvm.Cond.methodLinkNest "VersionedBlock$Worker" (17 : Nat) ({ cls := "VersionedBlock$Draft", name := "<init>", desc := "()V" } : Jvm.MethodName) "VersionedBlock")
abbrev nw_4 : Cond := (Jvm.Cond.methodLinkNest "VersionedBlock$Worker" (75 : Nat) ({ cls := "VersionedBlock", name := "registerOf", desc := "(J)I" } : Jvm.MethodName) "VersionedBlock")
abbrev nw_5 : Cond := (Jvm.Cond.methodLinkNest "VersionedBlock$Worker" (82 : Nat) ({ cls := "VersionedBlock", name := "placeOf", desc := "(J)I" } : Jvm.MethodName) "VersionedBlock")
def kN (U : State) : Prop := va_Nw nw_0 U ∧ va_Nw nw_1 U ∧ va_Nw nw_2 U ∧ va_Nw nw_3 U ∧ va_Nw nw_4 U ∧ va_Nw nw_5 U ∧ va_AO "VersionedBlock$Transaction" U ∧ va_AO "VersionedBlock$Worker" U
theorem kN_warm {s U : State} (hW : s.WarmedH U.vm) (h : kN s) : kN U := by
  obtain ⟨a0, a1, a2, a3, a4, a5, b0, b1⟩ := h
  exact ⟨va_Nw.warmM hW a0, va_Nw.warmM hW a1, va_Nw.warmM hW a2, va_Nw.warmM hW a3, va_Nw.warmM hW a4, va_Nw.warmM hW a5, b0.moved hW.alike, b1.moved hW.alike⟩
theorem kN_same {s U : State} (hv : s.vm = U.vm) (h : kN s) : kN U := by
  obtain ⟨a0, a1, a2, a3, a4, a5, b0, b1⟩ := h
  exact ⟨va_Nw.same rfl hv a0, va_Nw.same rfl hv a1, va_Nw.same rfl hv a2, va_Nw.same rfl hv a3, va_Nw.same rfl hv a4, va_Nw.same rfl hv a5, b0.moved (hv ▸ Vm.Alike.refl s.vm), b1.moved (hv ▸ Vm.Alike.refl s.vm)⟩
theorem kN_0 {U : State} (h : kN U) : va_Nw nw_0 U := h.1
theorem kN_1 {U : State} (h : kN U) : va_Nw nw_1 U := h.2.1
theorem kN_2 {U : State} (h : kN U) : va_Nw nw_2 U := h.2.2.1
theorem kN_3 {U : State} (h : kN U) : va_Nw nw_3 U := h.2.2.2.1
theorem kN_4 {U : State} (h : kN U) : va_Nw nw_4 U := h.2.2.2.2.1
theorem kN_5 {U : State} (h : kN U) : va_Nw nw_5 U := h.2.2.2.2.2.1
theorem kN_aT {U : State} (h : kN U) : va_AO "VersionedBlock$Transaction" U := h.2.2.2.2.2.2.1
theorem kN_aW {U : State} (h : kN U) : va_AO "VersionedBlock$Worker" U := h.2.2.2.2.2.2.2
theorem kN_lw {s : State} {args : Array Value} (hts : ∀ w ∈ lw_tbl, w.before args s = true) : kN s := ⟨va_Nw.of rfl (hts _ (List.mem_append_right _ (List.mem_append_left _ (List.mem_of_getElem? (i := 22) rfl)))), va_Nw.of rfl (hts _ (List.mem_append_right _ (List.mem_append_left _ (List.mem_of_getElem? (i := 87) rfl)))), va_Nw.of rfl (hts _ (List.mem_append_right _ (List.mem_append_left _ (List.mem_of_getElem? (i := 198) rfl)))), va_Nw.of rfl (hts _ (List.mem_append_right _ (List.mem_append_left _ (List.mem_of_getElem? (i := 204) rfl)))), va_Nw.of rfl (hts _ (List.mem_append_right _ (List.mem_append_right _ (List.mem_append_left _ (List.mem_of_getElem? (i := 51) rfl))))), va_Nw.of rfl (hts _ (List.mem_append_right _ (List.mem_append_right _ (List.mem_append_left _ (List.mem_of_getElem? (i := 59) rfl))))), va_AO.of (hts _ (List.mem_append_right _ (List.mem_append_left _ (List.mem_of_getElem? (i := 19) rfl)))), va_AO.of (hts _ (List.mem_append_right _ (List.mem_append_left _ (List.mem_of_getElem? (i := 41) rfl))))⟩
/-! names, fields, methods -/
def T_Dr : u_T := fun k => match k with
  | 0 => ("VersionedBlock$Draft", "numbers", "[J", true)
  | 1 => ("VersionedBlock$Draft", "kept", "[Z", true)
  | 2 => ("VersionedBlock$Draft", "order", "[I", true)
  | _ => ("VersionedBlock$Draft", "length", "I", false)
def t_Dr : Nat → FieldType := fun k => match k with
  | 0 => .array .long
  | 1 => .array .boolean
  | 2 => .array .int
  | _ => .int
theorem n_Dr : ∀ a, a < 4 → ∀ b, b < 4 → a ≠ b → (T_Dr a).2.1 ≠ (T_Dr b).2.1 := by decide +kernel
theorem t_Dr_ok : ∀ k, k < 4 → parseFieldDescriptor (T_Dr k).2.2.1 = some (t_Dr k) := by decide +kernel
theorem fs_Dr : ∀ j, j < 4 → defaultValue (t_Dr j) = vp_V [.null, .null, .null, .int 0] j := fun j hj => by
  rcases (show j = 0 ∨ j = 1 ∨ j = 2 ∨ j = 3 by omega) with rfl | rfl | rfl | rfl <;> rfl
theorem il_Dr : ∀ w ∈ u_ws "VersionedBlock$Draft" T_Dr 4, w ∈ TB := by
  intro w h
  obtain ⟨k, hk, rfl⟩ := List.mem_map.mp h
  have hk := List.mem_range.mp hk
  rcases (show k = 0 ∨ k = 1 ∨ k = 2 ∨ k = 3 by omega) with rfl | rfl | rfl | rfl
  · exact mw_1_212
  · exact mw_1_214
  · exact mw_1_216
  · exact mw_1_218
def T_Tr : u_T := fun k => match k with
  | 0 => ("VersionedBlock$Transaction", "operations", "[I", true)
  | 1 => ("VersionedBlock$Transaction", "firsts", "[I", true)
  | 2 => ("VersionedBlock$Transaction", "seconds", "[J", true)
  | 3 => ("VersionedBlock$Transaction", "length", "I", false)
  | 4 => ("VersionedBlock$Transaction", "known", "Z", false)
  | 5 => ("VersionedBlock$Transaction", "outcome", "I", false)
  | 6 => ("VersionedBlock$Transaction", "done", "I", false)
  | 7 => ("VersionedBlock$Transaction", "loads", "I", false)
  | 8 => ("VersionedBlock$Transaction", "stores", "I", false)
  | _ => ("VersionedBlock$Transaction", "lastResult", "J", false)
def t_Tr : Nat → FieldType := fun k => match k with
  | 0 => .array .int
  | 1 => .array .int
  | 2 => .array .long
  | 3 => .int
  | 4 => .boolean
  | 5 => .int
  | 6 => .int
  | 7 => .int
  | 8 => .int
  | _ => .long
theorem n_Tr : ∀ a, a < 10 → ∀ b, b < 10 → a ≠ b → (T_Tr a).2.1 ≠ (T_Tr b).2.1 := by decide +kernel
theorem t_Tr_ok : ∀ k, k < 10 → parseFieldDescriptor (T_Tr k).2.2.1 = some (t_Tr k) := by decide +kernel
theorem fs_Tr : ∀ j, j < 10 → defaultValue (t_Tr j) = vp_V [.null, .null, .null, .int 0, .int 0, .int 0, .int 0, .int 0, .int 0, .long 0] j := fun j hj => by
  rcases (show j = 0 ∨ j = 1 ∨ j = 2 ∨ j = 3 ∨ j = 4 ∨ j = 5 ∨ j = 6 ∨ j = 7 ∨ j = 8 ∨ j = 9 by omega) with rfl | rfl | rfl | rfl | rfl | rfl | rfl | rfl | rfl | rfl <;> rfl
theorem il_Tr : ∀ w ∈ u_ws "VersionedBlock$Transaction" T_Tr 10, w ∈ TB := by
  intro w h
  obtain ⟨k, hk, rfl⟩ := List.mem_map.mp h
  have hk := List.mem_range.mp hk
  rcases (show k = 0 ∨ k = 1 ∨ k = 2 ∨ k = 3 ∨ k = 4 ∨ k = 5 ∨ k = 6 ∨ k = 7 ∨ k = 8 ∨ k = 9 by omega) with rfl | rfl | rfl | rfl | rfl | rfl | rfl | rfl | rfl | rfl
  · exact mw_1_101
  · exact mw_1_103
  · exact mw_1_105
  · exact mw_1_107
  · exact mw_1_109
  · exact mw_1_111
  · exact mw_1_113
  · exact mw_1_115
  · exact mw_1_117
  · exact mw_1_119
def T_We : u_T := fun k => match k with
  | 0 => ("VersionedBlock$Weave", "words", "[J", false)
  | _ => ("VersionedBlock$Weave", "length", "I", false)
def t_We : Nat → FieldType := fun k => match k with
  | 0 => .array .long
  | _ => .int
theorem n_We : ∀ a, a < 2 → ∀ b, b < 2 → a ≠ b → (T_We a).2.1 ≠ (T_We b).2.1 := by decide +kernel
theorem t_We_ok : ∀ k, k < 2 → parseFieldDescriptor (T_We k).2.2.1 = some (t_We k) := by decide +kernel
theorem fs_We : ∀ j, j < 2 → defaultValue (t_We j) = vp_V [.null, .int 0] j := fun j hj => by
  rcases (show j = 0 ∨ j = 1 by omega) with rfl | rfl <;> rfl
theorem il_We : ∀ w ∈ u_ws "VersionedBlock$Weave" T_We 2, w ∈ TB := by
  intro w h
  obtain ⟨k, hk, rfl⟩ := List.mem_map.mp h
  have hk := List.mem_range.mp hk
  rcases (show k = 0 ∨ k = 1 by omega) with rfl | rfl
  · exact mw_1_28
  · exact mw_1_30
def T_Wk : u_T := fun k => match k with
  | 0 => ("VersionedBlock$Worker", "registers", "[J", true)
  | 1 => ("VersionedBlock$Worker", "seen", "LVersionedBlock$Draft;", true)
  | 2 => ("VersionedBlock$Worker", "stored", "LVersionedBlock$Draft;", true)
  | 3 => ("VersionedBlock$Worker", "task", "LVersionedBlock$Transaction;", false)
  | 4 => ("VersionedBlock$Worker", "taskNumber", "I", false)
  | 5 => ("VersionedBlock$Worker", "next", "I", false)
  | 6 => ("VersionedBlock$Worker", "done", "I", false)
  | 7 => ("VersionedBlock$Worker", "loads", "I", false)
  | _ => ("VersionedBlock$Worker", "outcome", "I", false)
def t_Wk : Nat → FieldType := fun k => match k with
  | 0 => .array .long
  | 1 => .object "VersionedBlock$Draft"
  | 2 => .object "VersionedBlock$Draft"
  | 3 => .object "VersionedBlock$Transaction"
  | 4 => .int
  | 5 => .int
  | 6 => .int
  | 7 => .int
  | _ => .int
theorem n_Wk : ∀ a, a < 9 → ∀ b, b < 9 → a ≠ b → (T_Wk a).2.1 ≠ (T_Wk b).2.1 := by decide +kernel
theorem t_Wk_ok : ∀ k, k < 9 → parseFieldDescriptor (T_Wk k).2.2.1 = some (t_Wk k) := by decide +kernel
theorem fs_Wk : ∀ j, j < 9 → defaultValue (t_Wk j) = vp_V [.null, .null, .null, .null, .int 0, .int 0, .int 0, .int 0, .int 0] j := fun j hj => by
  rcases (show j = 0 ∨ j = 1 ∨ j = 2 ∨ j = 3 ∨ j = 4 ∨ j = 5 ∨ j = 6 ∨ j = 7 ∨ j = 8 by omega) with rfl | rfl | rfl | rfl | rfl | rfl | rfl | rfl | rfl <;> rfl
theorem il_Wk : ∀ w ∈ u_ws "VersionedBlock$Worker" T_Wk 9, w ∈ TB := by
  intro w h
  obtain ⟨k, hk, rfl⟩ := List.mem_map.mp h
  have hk := List.mem_range.mp hk
  rcases (show k = 0 ∨ k = 1 ∨ k = 2 ∨ k = 3 ∨ k = 4 ∨ k = 5 ∨ k = 6 ∨ k = 7 ∨ k = 8 by omega) with rfl | rfl | rfl | rfl | rfl | rfl | rfl | rfl | rfl
  · exact mw_1_231
  · exact mw_1_233
  · exact mw_1_235
  · exact mw_1_237
  · exact mw_1_239
  · exact mw_2_1
  · exact mw_2_3
  · exact mw_2_5
  · exact mw_2_7
def T_Vb : u_T := fun k => match k with
  | 0 => ("VersionedBlock", "places", "[J", true)
  | 1 => ("VersionedBlock", "transactions", "[LVersionedBlock$Transaction;", true)
  | 2 => ("VersionedBlock", "team", "[LVersionedBlock$Worker;", true)
  | 3 => ("VersionedBlock", "woven", "LVersionedBlock$Weave;", true)
  | 4 => ("VersionedBlock", "size", "I", false)
  | 5 => ("VersionedBlock", "taken", "I", false)
  | 6 => ("VersionedBlock", "settled", "I", false)
  | _ => ("VersionedBlock", "halted", "I", false)
def t_Vb : Nat → FieldType := fun k => match k with
  | 0 => .array .long
  | 1 => .array (.object "VersionedBlock$Transaction")
  | 2 => .array (.object "VersionedBlock$Worker")
  | 3 => .object "VersionedBlock$Weave"
  | 4 => .int
  | 5 => .int
  | 6 => .int
  | _ => .int
theorem n_Vb : ∀ a, a < 8 → ∀ b, b < 8 → a ≠ b → (T_Vb a).2.1 ≠ (T_Vb b).2.1 := by decide +kernel
theorem t_Vb_ok : ∀ k, k < 8 → parseFieldDescriptor (T_Vb k).2.2.1 = some (t_Vb k) := by decide +kernel
theorem fs_Vb : ∀ j, j < 8 → defaultValue (t_Vb j) = vp_V [.null, .null, .null, .null, .int 0, .int 0, .int 0, .int 0] j := fun j hj => by
  rcases (show j = 0 ∨ j = 1 ∨ j = 2 ∨ j = 3 ∨ j = 4 ∨ j = 5 ∨ j = 6 ∨ j = 7 by omega) with rfl | rfl | rfl | rfl | rfl | rfl | rfl | rfl <;> rfl
theorem il_Vb : ∀ w ∈ u_ws "VersionedBlock" T_Vb 8, w ∈ TB := by
  intro w h
  obtain ⟨k, hk, rfl⟩ := List.mem_map.mp h
  have hk := List.mem_range.mp hk
  rcases (show k = 0 ∨ k = 1 ∨ k = 2 ∨ k = 3 ∨ k = 4 ∨ k = 5 ∨ k = 6 ∨ k = 7 by omega) with rfl | rfl | rfl | rfl | rfl | rfl | rfl | rfl
  · exact mw_1_50
  · exact mw_1_52
  · exact mw_1_54
  · exact mw_1_56
  · exact mw_1_58
  · exact mw_1_60
  · exact mw_1_62
  · exact mw_1_64
def T_Mo : u_T := fun k => match k with
  | 0 => ("VersionedBlockModel", "places", "[J", true)
  | 1 => ("VersionedBlockModel", "stored", "[J", true)
  | 2 => ("VersionedBlockModel", "isStored", "[Z", true)
  | 3 => ("VersionedBlockModel", "count", "I", false)
  | 4 => ("VersionedBlockModel", "sizes", "[I", true)
  | 5 => ("VersionedBlockModel", "operations", "[B", true)
  | 6 => ("VersionedBlockModel", "firsts", "[I", true)
  | 7 => ("VersionedBlockModel", "seconds", "[J", true)
  | 8 => ("VersionedBlockModel", "woven", "I", false)
  | 9 => ("VersionedBlockModel", "registers", "[J", true)
  | 10 => ("VersionedBlockModel", "next", "I", false)
  | 11 => ("VersionedBlockModel", "isTold", "[Z", true)
  | 12 => ("VersionedBlockModel", "told", "[I", true)
  | 13 => ("VersionedBlockModel", "results", "[J", true)
  | _ => ("VersionedBlockModel", "loads", "I", false)
def t_Mo : Nat → FieldType := fun k => match k with
  | 0 => .array .long
  | 1 => .array .long
  | 2 => .array .boolean
  | 3 => .int
  | 4 => .array .int
  | 5 => .array .byte
  | 6 => .array .int
  | 7 => .array .long
  | 8 => .int
  | 9 => .array .long
  | 10 => .int
  | 11 => .array .boolean
  | 12 => .array .int
  | 13 => .array .long
  | _ => .int
theorem n_Mo : ∀ a, a < 15 → ∀ b, b < 15 → a ≠ b → (T_Mo a).2.1 ≠ (T_Mo b).2.1 := by decide +kernel
theorem t_Mo_ok : ∀ k, k < 15 → parseFieldDescriptor (T_Mo k).2.2.1 = some (t_Mo k) := by decide +kernel
theorem fs_Mo : ∀ j, j < 15 → defaultValue (t_Mo j) = vp_V [.null, .null, .null, .int 0, .null, .null, .null, .null, .int 0, .null, .int 0, .null, .null, .null, .int 0] j := fun j hj => by
  rcases (show j = 0 ∨ j = 1 ∨ j = 2 ∨ j = 3 ∨ j = 4 ∨ j = 5 ∨ j = 6 ∨ j = 7 ∨ j = 8 ∨ j = 9 ∨ j = 10 ∨ j = 11 ∨ j = 12 ∨ j = 13 ∨ j = 14 by omega) with rfl | rfl | rfl | rfl | rfl | rfl | rfl | rfl | rfl | rfl | rfl | rfl | rfl | rfl | rfl <;> rfl
theorem il_Mo : ∀ w ∈ u_ws "VersionedBlockModel" T_Mo 15, w ∈ TB := by
  intro w h
  obtain ⟨k, hk, rfl⟩ := List.mem_map.mp h
  have hk := List.mem_range.mp hk
  rcases (show k = 0 ∨ k = 1 ∨ k = 2 ∨ k = 3 ∨ k = 4 ∨ k = 5 ∨ k = 6 ∨ k = 7 ∨ k = 8 ∨ k = 9 ∨ k = 10 ∨ k = 11 ∨ k = 12 ∨ k = 13 ∨ k = 14 by omega) with rfl | rfl | rfl | rfl | rfl | rfl | rfl | rfl | rfl | rfl | rfl | rfl | rfl | rfl | rfl
  · exact mw_2_160
  · exact mw_2_162
  · exact mw_2_164
  · exact mw_2_166
  · exact mw_2_168
  · exact mw_2_170
  · exact mw_2_172
  · exact mw_2_174
  · exact mw_2_176
  · exact mw_2_178
  · exact mw_2_180
  · exact mw_2_182
  · exact mw_2_184
  · exact mw_2_186
  · exact mw_2_188
abbrev classes : List vw_C := [("VersionedBlock$Draft", T_Dr, 4), ("VersionedBlock$Transaction", T_Tr, 10), ("VersionedBlock$Weave", T_We, 2), ("VersionedBlock$Worker", T_Wk, 9), ("VersionedBlock", T_Vb, 8), ("VersionedBlockModel", T_Mo, 15)]
abbrev tyS (ka : Nat → ClassId) : List (ClassId × FieldType) := [(ka 0, .long), (ka 1, .int), (ka 2, .boolean), (ka 3, .object "VersionedBlock$Transaction"), (ka 4, .object "VersionedBlock$Worker"), (ka 5, .byte)]
abbrev b_Vb_init : ByteArray := prog_1_method_1_code
abbrev y_Vb_init : MethodName := ⟨"VersionedBlock", "<init>", "(I)V"⟩
def w_Vb_init : List Cond := .code y_Vb_init b_Vb_init 2 none :: TB
abbrev b_Ob_init : ByteArray := object_method_1_code
abbrev y_Ob_init : MethodName := ⟨"java/lang/Object", "<init>", "()V"⟩
def w_Ob_init : List Cond := .code y_Ob_init b_Ob_init 1 none :: TB
abbrev b_We_init : ByteArray := prog_4_method_1_code
abbrev y_We_init : MethodName := ⟨"VersionedBlock$Weave", "<init>", "()V"⟩
def w_We_init : List Cond := .code y_We_init b_We_init 1 none :: TB
abbrev b_Ma_min : ByteArray := prog_9_method_69_code
abbrev y_Ma_min : MethodName := ⟨"java/lang/Math", "min", "(II)I"⟩
def w_Ma_min : List Cond := .code y_Ma_min b_Ma_min 2 (some .int) :: TB
abbrev b_Ma_max : ByteArray := prog_9_method_65_code
abbrev y_Ma_max : MethodName := ⟨"java/lang/Math", "max", "(II)I"⟩
def w_Ma_max : List Cond := .code y_Ma_max b_Ma_max 2 (some .int) :: TB
abbrev b_Vb_put : ByteArray := prog_1_method_2_code
abbrev y_Vb_put : MethodName := ⟨"VersionedBlock", "put", "(IJ)Z"⟩
def w_Vb_put : List Cond := .code y_Vb_put b_Vb_put 4 (some .boolean) :: TB
abbrev b_Vb_isPlace : ByteArray := prog_1_method_13_code
abbrev y_Vb_isPlace : MethodName := ⟨"VersionedBlock", "isPlace", "(I)Z"⟩
def w_Vb_isPlace : List Cond := .code y_Vb_isPlace b_Vb_isPlace 1 (some .boolean) :: TB
abbrev b_Vb_get : ByteArray := prog_1_method_3_code
abbrev y_Vb_get : MethodName := ⟨"VersionedBlock", "get", "(I)J"⟩
def w_Vb_get : List Cond := .code y_Vb_get b_Vb_get 2 (some .long) :: TB
abbrev b_Vb_begin : ByteArray := prog_1_method_4_code
abbrev y_Vb_begin : MethodName := ⟨"VersionedBlock", "begin", "()I"⟩
def w_Vb_begin : List Cond := .code y_Vb_begin b_Vb_begin 2 (some .int) :: TB
abbrev b_Vb_transaction : ByteArray := prog_1_method_5_code
abbrev y_Vb_transaction : MethodName := ⟨"VersionedBlock", "transaction", "()I"⟩
def w_Vb_transaction : List Cond := .code y_Vb_transaction b_Vb_transaction 2 (some .int) :: TB
abbrev b_Tr_init : ByteArray := prog_3_method_1_code
abbrev y_Tr_init : MethodName := ⟨"VersionedBlock$Transaction", "<init>", "()V"⟩
def w_Tr_init : List Cond := .code y_Tr_init b_Tr_init 1 none :: TB
abbrev b_Tr_clear : ByteArray := prog_3_method_2_code
abbrev y_Tr_clear : MethodName := ⟨"VersionedBlock$Transaction", "clear", "()V"⟩
def w_Tr_clear : List Cond := .code y_Tr_clear b_Tr_clear 1 none :: TB
abbrev b_Vb_instruction : ByteArray := prog_1_method_6_code
abbrev y_Vb_instruction : MethodName := ⟨"VersionedBlock", "instruction", "(IIJ)I"⟩
def w_Vb_instruction : List Cond := .code y_Vb_instruction b_Vb_instruction 6 (some .int) :: TB
abbrev b_Vb_transactionAt : ByteArray := prog_1_method_16_code
abbrev y_Vb_transactionAt : MethodName := ⟨"VersionedBlock", "transactionAt", "(I)LVersionedBlock$Transaction;"⟩
def w_Vb_transactionAt : List Cond := .code y_Vb_transactionAt b_Vb_transactionAt 2 (some (.object "VersionedBlock$Transaction")) :: TB
abbrev b_Tr_append : ByteArray := prog_3_method_3_code
abbrev y_Tr_append : MethodName := ⟨"VersionedBlock$Transaction", "append", "(IIJ)I"⟩
def w_Tr_append : List Cond := .code y_Tr_append b_Tr_append 5 (some .int) :: TB
abbrev b_Vb_weave : ByteArray := prog_1_method_7_code
abbrev y_Vb_weave : MethodName := ⟨"VersionedBlock", "weave", "(J)I"⟩
def w_Vb_weave : List Cond := .code y_Vb_weave b_Vb_weave 3 (some .int) :: TB
abbrev b_We_append : ByteArray := prog_4_method_2_code
abbrev y_We_append : MethodName := ⟨"VersionedBlock$Weave", "append", "(J)I"⟩
def w_We_append : List Cond := .code y_We_append b_We_append 4 (some .int) :: TB
abbrev b_Ar_copyOf : ByteArray := prog_11_method_124_code
abbrev y_Ar_copyOf : MethodName := ⟨"java/util/Arrays", "copyOf", "([JI)[J"⟩
def w_Ar_copyOf : List Cond := .code y_Ar_copyOf b_Ar_copyOf 3 (some (.array .long)) :: TB
abbrev b_Vb_unweave : ByteArray := prog_1_method_8_code
abbrev y_Vb_unweave : MethodName := ⟨"VersionedBlock", "unweave", "()I"⟩
def w_Vb_unweave : List Cond := .code y_Vb_unweave b_Vb_unweave 1 (some .int) :: TB
abbrev b_We_clear : ByteArray := prog_4_method_3_code
abbrev y_We_clear : MethodName := ⟨"VersionedBlock$Weave", "clear", "()I"⟩
def w_We_clear : List Cond := .code y_We_clear b_We_clear 2 (some .int) :: TB
abbrev b_Vb_execute : ByteArray := prog_1_method_9_code
abbrev y_Vb_execute : MethodName := ⟨"VersionedBlock", "execute", "()I"⟩
def w_Vb_execute : List Cond := .code y_Vb_execute b_Vb_execute 2 (some .int) :: TB
abbrev b_We_length : ByteArray := prog_4_method_4_code
abbrev y_We_length : MethodName := ⟨"VersionedBlock$Weave", "length", "()I"⟩
def w_We_length : List Cond := .code y_We_length b_We_length 1 (some .int) :: TB
abbrev b_We_numberAt : ByteArray := prog_4_method_5_code
abbrev y_We_numberAt : MethodName := ⟨"VersionedBlock$Weave", "numberAt", "(I)I"⟩
def w_We_numberAt : List Cond := .code y_We_numberAt b_We_numberAt 3 (some .int) :: TB
abbrev b_Ma_floorMod_II : ByteArray := prog_9_method_50_code
abbrev y_Ma_floorMod_II : MethodName := ⟨"java/lang/Math", "floorMod", "(II)I"⟩
def w_Ma_floorMod_II : List Cond := .code y_Ma_floorMod_II b_Ma_floorMod_II 3 (some .int) :: TB
abbrev b_Vb_goOn : ByteArray := prog_1_method_18_code
abbrev y_Vb_goOn : MethodName := ⟨"VersionedBlock", "goOn", "(I)Z"⟩
def w_Vb_goOn : List Cond := .code y_Vb_goOn b_Vb_goOn 3 (some .boolean) :: TB
abbrev b_Wk_isFree : ByteArray := prog_5_method_2_code
abbrev y_Wk_isFree : MethodName := ⟨"VersionedBlock$Worker", "isFree", "()Z"⟩
def w_Wk_isFree : List Cond := .code y_Wk_isFree b_Wk_isFree 1 (some .boolean) :: TB
abbrev b_Vb_takeNext : ByteArray := prog_1_method_19_code
abbrev y_Vb_takeNext : MethodName := ⟨"VersionedBlock", "takeNext", "(I)Z"⟩
def w_Vb_takeNext : List Cond := .code y_Vb_takeNext b_Vb_takeNext 4 (some .boolean) :: TB
abbrev b_Wk_init : ByteArray := prog_5_method_1_code
abbrev y_Wk_init : MethodName := ⟨"VersionedBlock$Worker", "<init>", "()V"⟩
def w_Wk_init : List Cond := .code y_Wk_init b_Wk_init 1 none :: TB
abbrev b_Dr_init : ByteArray := prog_2_method_1_code
abbrev y_Dr_init : MethodName := ⟨"VersionedBlock$Draft", "<init>", "()V"⟩
def w_Dr_init : List Cond := .code y_Dr_init b_Dr_init 1 none :: TB
abbrev b_Wk_take : ByteArray := prog_5_method_5_code
abbrev y_Wk_take : MethodName := ⟨"VersionedBlock$Worker", "take", "(LVersionedBlock$Transaction;I)V"⟩
def w_Wk_take : List Cond := .code y_Wk_take b_Wk_take 3 none :: TB
abbrev b_Wk_startAnew : ByteArray := prog_5_method_6_code
abbrev y_Wk_startAnew : MethodName := ⟨"VersionedBlock$Worker", "startAnew", "()V"⟩
def w_Wk_startAnew : List Cond := .code y_Wk_startAnew b_Wk_startAnew 1 none :: TB
abbrev b_Ar_fill : ByteArray := prog_11_method_101_code
abbrev y_Ar_fill : MethodName := ⟨"java/util/Arrays", "fill", "([JJ)V"⟩
def w_Ar_fill : List Cond := .code y_Ar_fill b_Ar_fill 5 none :: TB
abbrev b_Dr_clear : ByteArray := prog_2_method_2_code
abbrev y_Dr_clear : MethodName := ⟨"VersionedBlock$Draft", "clear", "()V"⟩
def w_Dr_clear : List Cond := .code y_Dr_clear b_Dr_clear 2 none :: TB
abbrev b_Wk_isAtEnd : ByteArray := prog_5_method_3_code
abbrev y_Wk_isAtEnd : MethodName := ⟨"VersionedBlock$Worker", "isAtEnd", "()Z"⟩
def w_Wk_isAtEnd : List Cond := .code y_Wk_isAtEnd b_Wk_isAtEnd 1 (some .boolean) :: TB
abbrev b_Wk_doNext : ByteArray := prog_5_method_7_code
abbrev y_Wk_doNext : MethodName := ⟨"VersionedBlock$Worker", "doNext", "([J)V"⟩
def w_Wk_doNext : List Cond := .code y_Wk_doNext b_Wk_doNext 4 none :: TB
abbrev b_Tr_has : ByteArray := prog_3_method_4_code
abbrev y_Tr_has : MethodName := ⟨"VersionedBlock$Transaction", "has", "(J)Z"⟩
def w_Tr_has : List Cond := .code y_Tr_has b_Tr_has 3 (some .boolean) :: TB
abbrev b_Wk_perform : ByteArray := prog_5_method_8_code
abbrev y_Wk_perform : MethodName := ⟨"VersionedBlock$Worker", "perform", "(LVersionedBlock$Transaction;I[J)V"⟩
def w_Wk_perform : List Cond := .code y_Wk_perform b_Wk_perform 8 none :: TB
abbrev b_Tr_secondAt : ByteArray := prog_3_method_7_code
abbrev y_Tr_secondAt : MethodName := ⟨"VersionedBlock$Transaction", "secondAt", "(I)J"⟩
def w_Tr_secondAt : List Cond := .code y_Tr_secondAt b_Tr_secondAt 2 (some .long) :: TB
abbrev b_Tr_firstAt : ByteArray := prog_3_method_6_code
abbrev y_Tr_firstAt : MethodName := ⟨"VersionedBlock$Transaction", "firstAt", "(I)I"⟩
def w_Tr_firstAt : List Cond := .code y_Tr_firstAt b_Tr_firstAt 2 (some .int) :: TB
abbrev b_Vb_registerOf : ByteArray := prog_1_method_15_code
abbrev y_Vb_registerOf : MethodName := ⟨"VersionedBlock", "registerOf", "(J)I"⟩
def w_Vb_registerOf : List Cond := .code y_Vb_registerOf b_Vb_registerOf 2 (some .int) :: TB
abbrev b_Tr_operationAt : ByteArray := prog_3_method_5_code
abbrev y_Tr_operationAt : MethodName := ⟨"VersionedBlock$Transaction", "operationAt", "(I)I"⟩
def w_Tr_operationAt : List Cond := .code y_Tr_operationAt b_Tr_operationAt 2 (some .int) :: TB
abbrev b_Vb_placeOf : ByteArray := prog_1_method_14_code
abbrev y_Vb_placeOf : MethodName := ⟨"VersionedBlock", "placeOf", "(J)I"⟩
def w_Vb_placeOf : List Cond := .code y_Vb_placeOf b_Vb_placeOf 2 (some .int) :: TB
abbrev b_Wk_load : ByteArray := prog_5_method_9_code
abbrev y_Wk_load : MethodName := ⟨"VersionedBlock$Worker", "load", "(I[J)J"⟩
def w_Wk_load : List Cond := .code y_Wk_load b_Wk_load 3 (some .long) :: TB
abbrev b_Dr_has : ByteArray := prog_2_method_5_code
abbrev y_Dr_has : MethodName := ⟨"VersionedBlock$Draft", "has", "(I)Z"⟩
def w_Dr_has : List Cond := .code y_Dr_has b_Dr_has 2 (some .boolean) :: TB
abbrev b_Dr_numberIn : ByteArray := prog_2_method_6_code
abbrev y_Dr_numberIn : MethodName := ⟨"VersionedBlock$Draft", "numberIn", "(I)J"⟩
def w_Dr_numberIn : List Cond := .code y_Dr_numberIn b_Dr_numberIn 2 (some .long) :: TB
abbrev b_Dr_keep : ByteArray := prog_2_method_7_code
abbrev y_Dr_keep : MethodName := ⟨"VersionedBlock$Draft", "keep", "(IJ)V"⟩
def w_Dr_keep : List Cond := .code y_Dr_keep b_Dr_keep 4 none :: TB
abbrev b_Wk_number : ByteArray := prog_5_method_4_code
abbrev y_Wk_number : MethodName := ⟨"VersionedBlock$Worker", "number", "()I"⟩
def w_Wk_number : List Cond := .code y_Wk_number b_Wk_number 1 (some .int) :: TB
abbrev b_Vb_settle : ByteArray := prog_1_method_20_code
abbrev y_Vb_settle : MethodName := ⟨"VersionedBlock", "settle", "(LVersionedBlock$Worker;)V"⟩
def w_Vb_settle : List Cond := .code y_Vb_settle b_Vb_settle 2 none :: TB
abbrev b_Wk_sawWhatHolds : ByteArray := prog_5_method_10_code
abbrev y_Wk_sawWhatHolds : MethodName := ⟨"VersionedBlock$Worker", "sawWhatHolds", "([J)Z"⟩
def w_Wk_sawWhatHolds : List Cond := .code y_Wk_sawWhatHolds b_Wk_sawWhatHolds 4 (some .boolean) :: TB
abbrev b_Dr_size : ByteArray := prog_2_method_3_code
abbrev y_Dr_size : MethodName := ⟨"VersionedBlock$Draft", "size", "()I"⟩
def w_Dr_size : List Cond := .code y_Dr_size b_Dr_size 1 (some .int) :: TB
abbrev b_Dr_placeAt : ByteArray := prog_2_method_4_code
abbrev y_Dr_placeAt : MethodName := ⟨"VersionedBlock$Draft", "placeAt", "(I)I"⟩
def w_Dr_placeAt : List Cond := .code y_Dr_placeAt b_Dr_placeAt 2 (some .int) :: TB
abbrev b_Wk_handIn : ByteArray := prog_5_method_11_code
abbrev y_Wk_handIn : MethodName := ⟨"VersionedBlock$Worker", "handIn", "([J)Z"⟩
def w_Wk_handIn : List Cond := .code y_Wk_handIn b_Wk_handIn 5 (some .boolean) :: TB
abbrev b_Wk_storeInto : ByteArray := prog_5_method_12_code
abbrev y_Wk_storeInto : MethodName := ⟨"VersionedBlock$Worker", "storeInto", "([J)I"⟩
def w_Wk_storeInto : List Cond := .code y_Wk_storeInto b_Wk_storeInto 4 (some .int) :: TB
abbrev b_Tr_note : ByteArray := prog_3_method_8_code
abbrev y_Tr_note : MethodName := ⟨"VersionedBlock$Transaction", "note", "(IIIIJ)V"⟩
def w_Tr_note : List Cond := .code y_Tr_note b_Tr_note 7 none :: TB
abbrev b_Vb_goOnAsFarAsItCan : ByteArray := prog_1_method_17_code
abbrev y_Vb_goOnAsFarAsItCan : MethodName := ⟨"VersionedBlock", "goOnAsFarAsItCan", "(I)V"⟩
def w_Vb_goOnAsFarAsItCan : List Cond := .code y_Vb_goOnAsFarAsItCan b_Vb_goOnAsFarAsItCan 5 none :: TB
abbrev b_Vb_count : ByteArray := prog_1_method_10_code
abbrev y_Vb_count : MethodName := ⟨"VersionedBlock", "count", "()I"⟩
def w_Vb_count : List Cond := .code y_Vb_count b_Vb_count 1 (some .int) :: TB
abbrev b_Vb_told : ByteArray := prog_1_method_11_code
abbrev y_Vb_told : MethodName := ⟨"VersionedBlock", "told", "(II)I"⟩
def w_Vb_told : List Cond := .code y_Vb_told b_Vb_told 4 (some .int) :: TB
abbrev b_Tr_tell : ByteArray := prog_3_method_9_code
abbrev y_Tr_tell : MethodName := ⟨"VersionedBlock$Transaction", "tell", "(I)I"⟩
def w_Tr_tell : List Cond := .code y_Tr_tell b_Tr_tell 2 (some .int) :: TB
abbrev b_Vb_result : ByteArray := prog_1_method_12_code
abbrev y_Vb_result : MethodName := ⟨"VersionedBlock", "result", "(I)J"⟩
def w_Vb_result : List Cond := .code y_Vb_result b_Vb_result 3 (some .long) :: TB
abbrev b_Tr_tellResult : ByteArray := prog_3_method_10_code
abbrev y_Tr_tellResult : MethodName := ⟨"VersionedBlock$Transaction", "tellResult", "()J"⟩
def w_Tr_tellResult : List Cond := .code y_Tr_tellResult b_Tr_tellResult 1 (some .long) :: TB
abbrev b_La_cell : ByteArray := method_2_code
abbrev y_La_cell : MethodName := ⟨"VersionedBlockLaw", "cell", "([II)I"⟩
def w_La_cell : List Cond := .code y_La_cell b_La_cell 2 (some .int) :: TB
abbrev b_Mo_init : ByteArray := prog_7_method_1_code
abbrev y_Mo_init : MethodName := ⟨"VersionedBlockModel", "<init>", "(I)V"⟩
def w_Mo_init : List Cond := .code y_Mo_init b_Mo_init 2 none :: TB
abbrev b_Mo_put : ByteArray := prog_7_method_3_code
abbrev y_Mo_put : MethodName := ⟨"VersionedBlockModel", "put", "(IJ)Z"⟩
def w_Mo_put : List Cond := .code y_Mo_put b_Mo_put 4 (some .boolean) :: TB
abbrev b_Mo_isPlace : ByteArray := prog_7_method_2_code
abbrev y_Mo_isPlace : MethodName := ⟨"VersionedBlockModel", "isPlace", "(I)Z"⟩
def w_Mo_isPlace : List Cond := .code y_Mo_isPlace b_Mo_isPlace 1 (some .boolean) :: TB
abbrev b_Mo_get : ByteArray := prog_7_method_4_code
abbrev y_Mo_get : MethodName := ⟨"VersionedBlockModel", "get", "(I)J"⟩
def w_Mo_get : List Cond := .code y_Mo_get b_Mo_get 2 (some .long) :: TB
abbrev b_Mo_begin : ByteArray := prog_7_method_5_code
abbrev y_Mo_begin : MethodName := ⟨"VersionedBlockModel", "begin", "()I"⟩
def w_Mo_begin : List Cond := .code y_Mo_begin b_Mo_begin 2 (some .int) :: TB
abbrev b_Mo_transaction : ByteArray := prog_7_method_6_code
abbrev y_Mo_transaction : MethodName := ⟨"VersionedBlockModel", "transaction", "()I"⟩
def w_Mo_transaction : List Cond := .code y_Mo_transaction b_Mo_transaction 1 (some .int) :: TB
abbrev b_Mo_instruction : ByteArray := prog_7_method_7_code
abbrev y_Mo_instruction : MethodName := ⟨"VersionedBlockModel", "instruction", "(IIJ)I"⟩
def w_Mo_instruction : List Cond := .code y_Mo_instruction b_Mo_instruction 7 (some .int) :: TB
abbrev b_Mo_weave : ByteArray := prog_7_method_8_code
abbrev y_Mo_weave : MethodName := ⟨"VersionedBlockModel", "weave", "(J)I"⟩
def w_Mo_weave : List Cond := .code y_Mo_weave b_Mo_weave 3 (some .int) :: TB
abbrev b_Mo_unweave : ByteArray := prog_7_method_9_code
abbrev y_Mo_unweave : MethodName := ⟨"VersionedBlockModel", "unweave", "()I"⟩
def w_Mo_unweave : List Cond := .code y_Mo_unweave b_Mo_unweave 2 (some .int) :: TB
abbrev b_Mo_execute : ByteArray := prog_7_method_13_code
abbrev y_Mo_execute : MethodName := ⟨"VersionedBlockModel", "execute", "()I"⟩
def w_Mo_execute : List Cond := .code y_Mo_execute b_Mo_execute 3 (some .int) :: TB
abbrev b_Mo_all : ByteArray := prog_7_method_12_code
abbrev y_Mo_all : MethodName := ⟨"VersionedBlockModel", "all", "(I)I"⟩
def w_Mo_all : List Cond := .code y_Mo_all b_Mo_all 6 (some .int) :: TB
abbrev b_Mo_one : ByteArray := prog_7_method_11_code
abbrev y_Mo_one : MethodName := ⟨"VersionedBlockModel", "one", "(I)I"⟩
def w_Mo_one : List Cond := .code y_Mo_one b_Mo_one 6 (some .int) :: TB
abbrev b_Ma_floorMod_JJ : ByteArray := prog_9_method_52_code
abbrev y_Ma_floorMod_JJ : MethodName := ⟨"java/lang/Math", "floorMod", "(JJ)J"⟩
def w_Ma_floorMod_JJ : List Cond := .code y_Ma_floorMod_JJ b_Ma_floorMod_JJ 6 (some .long) :: TB
abbrev b_Mo_placeOf : ByteArray := prog_7_method_10_code
abbrev y_Mo_placeOf : MethodName := ⟨"VersionedBlockModel", "placeOf", "(J)I"⟩
def w_Mo_placeOf : List Cond := .code y_Mo_placeOf b_Mo_placeOf 2 (some .int) :: TB
abbrev b_Mo_count : ByteArray := prog_7_method_14_code
abbrev y_Mo_count : MethodName := ⟨"VersionedBlockModel", "count", "()I"⟩
def w_Mo_count : List Cond := .code y_Mo_count b_Mo_count 1 (some .int) :: TB
abbrev b_Mo_told : ByteArray := prog_7_method_15_code
abbrev y_Mo_told : MethodName := ⟨"VersionedBlockModel", "told", "(II)I"⟩
def w_Mo_told : List Cond := .code y_Mo_told b_Mo_told 3 (some .int) :: TB
abbrev b_Mo_result : ByteArray := prog_7_method_16_code
abbrev y_Mo_result : MethodName := ⟨"VersionedBlockModel", "result", "(I)J"⟩
def w_Mo_result : List Cond := .code y_Mo_result b_Mo_result 2 (some .long) :: TB
abbrev b_La_law : ByteArray := code
