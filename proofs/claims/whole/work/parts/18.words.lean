/-! ===== the tables' words, each by its place ===== -/
section PZW
/-- all words of the tables that stay true as classes warm -/
def pz_T : List Cond := lw_tbl.filter goodWord
theorem pz_mem {w : Cond} (h : w ∈ tables_1) (hg : goodWord w = true) : w ∈ pz_T := List.mem_filter.mpr ⟨List.mem_append_right _ h, hg⟩
theorem pz_good : GoodIn pz_T pz_T := fun w h => ⟨h, good_of_word (List.mem_filter.mp h).2⟩
theorem pz_m1 {w : Cond} (i : Nat) (h : tables_1_1[i]? = some w) (hg : goodWord w = true) : w ∈ pz_T := pz_mem (List.mem_append_left _ (List.mem_of_getElem? h)) hg
theorem pz_m2 {w : Cond} (i : Nat) (h : tables_1_2[i]? = some w) (hg : goodWord w = true) : w ∈ pz_T := pz_mem (List.mem_append_right _ (List.mem_append_left _ (List.mem_of_getElem? h))) hg
theorem pz_m3 {w : Cond} (i : Nat) (h : tables_1_3[i]? = some w) (hg : goodWord w = true) : w ∈ pz_T := pz_mem (List.mem_append_right _ (List.mem_append_right _ (List.mem_append_left _ (List.mem_of_getElem? h)))) hg
theorem pz_m4 {w : Cond} (i : Nat) (h : tables_1_4[i]? = some w) (hg : goodWord w = true) : w ∈ pz_T := pz_mem (List.mem_append_right _ (List.mem_append_right _ (List.mem_append_right _ (List.mem_append_left _ (List.mem_of_getElem? h))))) hg
theorem pz_m5 {w : Cond} (i : Nat) (h : tables_1_5[i]? = some w) (hg : goodWord w = true) : w ∈ pz_T := pz_mem (List.mem_append_right _ (List.mem_append_right _ (List.mem_append_right _ (List.mem_append_right _ (List.mem_of_getElem? h))))) hg
theorem pz_v1 {y : MethodName} {c : Nat} (i : Nat) (h : lw_privs_1[i]? = some (y, c)) (hg : goodWord (Cond.selects y.cls y y) = true) : Cond.selects y.cls y y ∈ pz_T := List.mem_filter.mpr ⟨List.mem_append_left _ (List.mem_map.mpr ⟨(y, c), List.mem_append_left _ (List.mem_of_getElem? h), rfl⟩), hg⟩
theorem pz_v2 {y : MethodName} {c : Nat} (i : Nat) (h : lw_privs_2[i]? = some (y, c)) (hg : goodWord (Cond.selects y.cls y y) = true) : Cond.selects y.cls y y ∈ pz_T := List.mem_filter.mpr ⟨List.mem_append_left _ (List.mem_map.mpr ⟨(y, c), List.mem_append_right _ (List.mem_append_left _ (List.mem_of_getElem? h)), rfl⟩), hg⟩
theorem pz_v3 {y : MethodName} {c : Nat} (i : Nat) (h : lw_privs_3[i]? = some (y, c)) (hg : goodWord (Cond.selects y.cls y y) = true) : Cond.selects y.cls y y ∈ pz_T := List.mem_filter.mpr ⟨List.mem_append_left _ (List.mem_map.mpr ⟨(y, c), List.mem_append_right _ (List.mem_append_right _ (List.mem_append_left _ (List.mem_of_getElem? h))), rfl⟩), hg⟩
theorem pz_v4 {y : MethodName} {c : Nat} (i : Nat) (h : lw_privs_4[i]? = some (y, c)) (hg : goodWord (Cond.selects y.cls y y) = true) : Cond.selects y.cls y y ∈ pz_T := List.mem_filter.mpr ⟨List.mem_append_left _ (List.mem_map.mpr ⟨(y, c), List.mem_append_right _ (List.mem_append_right _ (List.mem_append_right _ (List.mem_of_getElem? h))), rfl⟩), hg⟩
theorem pw_0 : (Jvm.Cond.initialized "StoneHallLaw") ∈ pz_T := pz_m1 0 rfl rfl
theorem pw_1 : (Jvm.Cond.initialized "StoneHall") ∈ pz_T := pz_m1 1 rfl rfl
theorem pw_2 : (Jvm.Cond.initialized "StoneHall$Tape") ∈ pz_T := pz_m1 2 rfl rfl
theorem pw_3 : (Jvm.Cond.initialized "StoneHall$Customs") ∈ pz_T := pz_m1 3 rfl rfl
theorem pw_4 : (Jvm.Cond.initialized "StoneHall$Reader") ∈ pz_T := pz_m1 4 rfl rfl
theorem pw_5 : (Jvm.Cond.initialized "StoneHall$Chances") ∈ pz_T := pz_m1 5 rfl rfl
theorem pw_6 : (Jvm.Cond.initialized "StoneHall$Men") ∈ pz_T := pz_m1 6 rfl rfl
theorem pw_7 : (Jvm.Cond.initialized "StoneHall$Sale") ∈ pz_T := pz_m1 7 rfl rfl
theorem pw_8 : (Jvm.Cond.initialized "StoneHallModel") ∈ pz_T := pz_m1 8 rfl rfl
theorem pw_9 : (Jvm.Cond.initialized "java/lang/Math") ∈ pz_T := pz_m1 9 rfl rfl
theorem pw_10 : (Jvm.Cond.initialized "java/lang/String") ∈ pz_T := pz_m1 10 rfl rfl
theorem pw_11 : (Jvm.Cond.initialized "java/lang/StringLatin1") ∈ pz_T := pz_m1 11 rfl rfl
theorem pw_12 : (Jvm.Cond.initialized "jdk/internal/util/Preconditions") ∈ pz_T := pz_m1 12 rfl rfl
theorem pw_13 : (Jvm.Cond.initialized "java/lang/StringUTF16") ∈ pz_T := pz_m1 13 rfl rfl
theorem pw_14 : (Jvm.Cond.initialized "java/lang/Enum") ∈ pz_T := pz_m1 14 rfl rfl
theorem pw_15 : (Jvm.Cond.initialized "StoneHall$Line") ∈ pz_T := pz_m1 15 rfl rfl
theorem pw_16 : (Jvm.Cond.initialized "java/lang/System") ∈ pz_T := pz_m1 16 rfl rfl
theorem pw_17 : (Jvm.Cond.initialized "StoneHall$Boulder") ∈ pz_T := pz_m1 17 rfl rfl
theorem pw_18 : (Jvm.Cond.initialized "java/util/Arrays") ∈ pz_T := pz_m1 18 rfl rfl
theorem pw_19 : (Jvm.Cond.initialized "java/lang/Throwable") ∈ pz_T := pz_m1 19 rfl rfl
theorem pw_20 : (Jvm.Cond.initialized "java/lang/Exception") ∈ pz_T := pz_m1 20 rfl rfl
theorem pw_21 : (Jvm.Cond.initialized "java/lang/RuntimeException") ∈ pz_T := pz_m1 21 rfl rfl
theorem pw_22 : (Jvm.Cond.initialized "java/lang/IndexOutOfBoundsException") ∈ pz_T := pz_m1 22 rfl rfl
theorem pw_23 : (Jvm.Cond.initialized "java/util/NoSuchElementException") ∈ pz_T := pz_m1 23 rfl rfl
theorem pw_24 : (Jvm.Cond.classLink "StoneHallLaw" (8 : Nat) "StoneHall") ∈ pz_T := pz_m1 24 rfl rfl
theorem pw_25 : (Jvm.Cond.instantiable "StoneHall" (8 : Nat)) ∈ pz_T := pz_m1 25 rfl rfl
theorem pw_26 : (Jvm.Cond.methodLink "StoneHallLaw" (17 : Nat) ({ cls := "StoneHall", name := "<init>", desc := "()V" } : Jvm.MethodName)) ∈ pz_T := pz_m1 26 rfl rfl
theorem pw_27 : (Jvm.Cond.instanceMethod ({ cls := "StoneHall", name := "<init>", desc := "()V" } : Jvm.MethodName)) ∈ pz_T := pz_m1 27 rfl rfl
theorem pw_28 : (Jvm.Cond.code ({ cls := "StoneHall", name := "<init>", desc := "()V" } : Jvm.MethodName) prog_1_method_1_code (1 : Nat) (Option.none : Option Jvm.ClassFile.FieldType)) ∈ pz_T := pz_m1 28 rfl rfl
theorem pw_29 : (Jvm.Cond.methodLink "StoneHall" (1 : Nat) ({ cls := "java/lang/Object", name := "<init>", desc := "()V" } : Jvm.MethodName)) ∈ pz_T := pz_m1 29 rfl rfl
theorem pw_30 : (Jvm.Cond.instanceMethod ({ cls := "java/lang/Object", name := "<init>", desc := "()V" } : Jvm.MethodName)) ∈ pz_T := pz_m1 30 rfl rfl
theorem pw_31 : (Jvm.Cond.code ({ cls := "java/lang/Object", name := "<init>", desc := "()V" } : Jvm.MethodName) object_method_1_code (1 : Nat) (Option.none : Option Jvm.ClassFile.FieldType)) ∈ pz_T := pz_m1 31 rfl rfl
theorem pw_32 : (Jvm.Cond.classLink "StoneHall" (7 : Nat) "StoneHall$Tape") ∈ pz_T := pz_m1 32 rfl rfl
theorem pw_33 : (Jvm.Cond.instantiable "StoneHall$Tape" (2 : Nat)) ∈ pz_T := pz_m1 33 rfl rfl
theorem pw_35 : (Jvm.Cond.instanceMethod ({ cls := "StoneHall$Tape", name := "<init>", desc := "()V" } : Jvm.MethodName)) ∈ pz_T := pz_m1 35 rfl rfl
theorem pw_36 : (Jvm.Cond.code ({ cls := "StoneHall$Tape", name := "<init>", desc := "()V" } : Jvm.MethodName) prog_9_method_1_code (1 : Nat) (Option.none : Option Jvm.ClassFile.FieldType)) ∈ pz_T := pz_m1 36 rfl rfl
theorem pw_37 : (Jvm.Cond.methodLink "StoneHall$Tape" (1 : Nat) ({ cls := "java/lang/Object", name := "<init>", desc := "()V" } : Jvm.MethodName)) ∈ pz_T := pz_m1 37 rfl rfl
theorem pw_38 : (Jvm.Cond.fieldLink "StoneHall$Tape" (9 : Nat) "StoneHall$Tape" "bytes" "[B") ∈ pz_T := pz_m1 38 rfl rfl
theorem pw_39 : (Jvm.Cond.fieldLink "StoneHall$Reader" (76 : Nat) "StoneHall$Tape" "bytes" "[B") ∈ pz_T := pz_m1 39 rfl rfl
theorem pw_40 : (Jvm.Cond.fieldLink "StoneHall$Tape" (13 : Nat) "StoneHall$Tape" "size" "I") ∈ pz_T := pz_m1 40 rfl rfl
theorem pw_41 : (Jvm.Cond.fieldLink "StoneHall" (58 : Nat) "StoneHall$Tape" "size" "I") ∈ pz_T := pz_m1 41 rfl rfl
theorem pw_42 : (Jvm.Cond.laysFinal "StoneHall$Tape" "StoneHall$Tape" "bytes" "[B") ∈ pz_T := pz_m1 42 rfl rfl
theorem pw_43 : (Jvm.Cond.soleField "StoneHall$Tape" "bytes") ∈ pz_T := pz_m1 43 rfl rfl
theorem pw_44 : (Jvm.Cond.lays "StoneHall$Tape" "StoneHall$Tape" "size" "I") ∈ pz_T := pz_m1 44 rfl rfl
theorem pw_45 : (Jvm.Cond.soleField "StoneHall$Tape" "size") ∈ pz_T := pz_m1 45 rfl rfl
theorem pw_46 : (Jvm.Cond.superclass "StoneHall$Tape" "java/lang/Object") ∈ pz_T := pz_m1 46 rfl rfl
theorem pw_47 : (Jvm.Cond.arrayClass Jvm.ClassFile.FieldType.byte) ∈ pz_T := pz_m1 47 rfl rfl
theorem pw_48 : (Jvm.Cond.classLink "StoneHall" (16 : Nat) "StoneHall$Customs") ∈ pz_T := pz_m1 48 rfl rfl
theorem pw_49 : (Jvm.Cond.instantiable "StoneHall$Customs" (6 : Nat)) ∈ pz_T := pz_m1 49 rfl rfl
theorem pw_51 : (Jvm.Cond.instanceMethod ({ cls := "StoneHall$Customs", name := "<init>", desc := "()V" } : Jvm.MethodName)) ∈ pz_T := pz_m1 51 rfl rfl
theorem pw_52 : (Jvm.Cond.code ({ cls := "StoneHall$Customs", name := "<init>", desc := "()V" } : Jvm.MethodName) prog_4_method_1_code (1 : Nat) (Option.none : Option Jvm.ClassFile.FieldType)) ∈ pz_T := pz_m1 52 rfl rfl
theorem pw_53 : (Jvm.Cond.methodLink "StoneHall$Customs" (3 : Nat) ({ cls := "java/lang/Object", name := "<init>", desc := "()V" } : Jvm.MethodName)) ∈ pz_T := pz_m1 53 rfl rfl
theorem pw_54 : (Jvm.Cond.classLink "StoneHall$Customs" (9 : Nat) "StoneHall$Reader") ∈ pz_T := pz_m1 54 rfl rfl
theorem pw_55 : (Jvm.Cond.instantiable "StoneHall$Reader" (6 : Nat)) ∈ pz_T := pz_m1 55 rfl rfl
theorem pw_57 : (Jvm.Cond.instanceMethod ({ cls := "StoneHall$Reader", name := "<init>", desc := "()V" } : Jvm.MethodName)) ∈ pz_T := pz_m1 57 rfl rfl
theorem pw_58 : (Jvm.Cond.code ({ cls := "StoneHall$Reader", name := "<init>", desc := "()V" } : Jvm.MethodName) prog_7_method_1_code (1 : Nat) (Option.none : Option Jvm.ClassFile.FieldType)) ∈ pz_T := pz_m1 58 rfl rfl
theorem pw_59 : (Jvm.Cond.methodLink "StoneHall$Reader" (3 : Nat) ({ cls := "java/lang/Object", name := "<init>", desc := "()V" } : Jvm.MethodName)) ∈ pz_T := pz_m1 59 rfl rfl
theorem pw_60 : (Jvm.Cond.fieldLink "StoneHall$Reader" (9 : Nat) "StoneHall$Reader" "tape" "LStoneHall$Tape;") ∈ pz_T := pz_m1 60 rfl rfl
theorem pw_61 : (Jvm.Cond.fieldLink "StoneHall$Reader" (15 : Nat) "StoneHall$Reader" "end" "I") ∈ pz_T := pz_m1 61 rfl rfl
theorem pw_62 : (Jvm.Cond.fieldLink "StoneHall$Customs" (44 : Nat) "StoneHall$Reader" "token" "I") ∈ pz_T := pz_m1 62 rfl rfl
theorem pw_63 : (Jvm.Cond.fieldLink "StoneHall$Reader" (35 : Nat) "StoneHall$Reader" "token" "I") ∈ pz_T := pz_m1 63 rfl rfl
theorem pw_64 : (Jvm.Cond.fieldLink "StoneHall$Reader" (28 : Nat) "StoneHall$Reader" "start" "I") ∈ pz_T := pz_m1 64 rfl rfl
theorem pw_65 : (Jvm.Cond.fieldLink "StoneHall$Customs" (115 : Nat) "StoneHall$Reader" "start" "I") ∈ pz_T := pz_m1 65 rfl rfl
theorem pw_66 : (Jvm.Cond.fieldLink "StoneHall$Reader" (19 : Nat) "StoneHall$Reader" "behind" "I") ∈ pz_T := pz_m1 66 rfl rfl
theorem pw_67 : (Jvm.Cond.fieldLink "StoneHall$Reader" (64 : Nat) "StoneHall$Reader" "number" "I") ∈ pz_T := pz_m1 67 rfl rfl
theorem pw_68 : (Jvm.Cond.fieldLink "StoneHall$Customs" (84 : Nat) "StoneHall$Reader" "number" "I") ∈ pz_T := pz_m1 68 rfl rfl
theorem pw_69 : (Jvm.Cond.lays "StoneHall$Reader" "StoneHall$Reader" "tape" "LStoneHall$Tape;") ∈ pz_T := pz_m1 69 rfl rfl
theorem pw_70 : (Jvm.Cond.soleField "StoneHall$Reader" "tape") ∈ pz_T := pz_m1 70 rfl rfl
theorem pw_71 : (Jvm.Cond.lays "StoneHall$Reader" "StoneHall$Reader" "end" "I") ∈ pz_T := pz_m1 71 rfl rfl
theorem pw_72 : (Jvm.Cond.soleField "StoneHall$Reader" "end") ∈ pz_T := pz_m1 72 rfl rfl
theorem pw_73 : (Jvm.Cond.lays "StoneHall$Reader" "StoneHall$Reader" "token" "I") ∈ pz_T := pz_m1 73 rfl rfl
theorem pw_74 : (Jvm.Cond.soleField "StoneHall$Reader" "token") ∈ pz_T := pz_m1 74 rfl rfl
theorem pw_75 : (Jvm.Cond.lays "StoneHall$Reader" "StoneHall$Reader" "start" "I") ∈ pz_T := pz_m1 75 rfl rfl
theorem pw_76 : (Jvm.Cond.soleField "StoneHall$Reader" "start") ∈ pz_T := pz_m1 76 rfl rfl
theorem pw_77 : (Jvm.Cond.lays "StoneHall$Reader" "StoneHall$Reader" "behind" "I") ∈ pz_T := pz_m1 77 rfl rfl
theorem pw_78 : (Jvm.Cond.soleField "StoneHall$Reader" "behind") ∈ pz_T := pz_m1 78 rfl rfl
theorem pw_79 : (Jvm.Cond.lays "StoneHall$Reader" "StoneHall$Reader" "number" "I") ∈ pz_T := pz_m1 79 rfl rfl
theorem pw_80 : (Jvm.Cond.soleField "StoneHall$Reader" "number") ∈ pz_T := pz_m1 80 rfl rfl
theorem pw_81 : (Jvm.Cond.superclass "StoneHall$Reader" "java/lang/Object") ∈ pz_T := pz_m1 81 rfl rfl
theorem pw_82 : (Jvm.Cond.fieldLink "StoneHall$Customs" (12 : Nat) "StoneHall$Customs" "reader" "LStoneHall$Reader;") ∈ pz_T := pz_m1 82 rfl rfl
theorem pw_83 : (Jvm.Cond.fieldLink "StoneHall$Customs" (20 : Nat) "StoneHall$Customs" "inForce" "[I") ∈ pz_T := pz_m1 83 rfl rfl
theorem pw_84 : (Jvm.Cond.fieldLink "StoneHall$Customs" (24 : Nat) "StoneHall$Customs" "draft" "[I") ∈ pz_T := pz_m1 84 rfl rfl
theorem pw_85 : (Jvm.Cond.fieldLink "StoneHall$Customs" (27 : Nat) "StoneHall$Customs" "told" "[Z") ∈ pz_T := pz_m1 85 rfl rfl
theorem pw_86 : (Jvm.Cond.fieldLink "StoneHall" (66 : Nat) "StoneHall$Customs" "faultFound" "I") ∈ pz_T := pz_m1 86 rfl rfl
theorem pw_87 : (Jvm.Cond.fieldLink "StoneHall$Customs" (67 : Nat) "StoneHall$Customs" "faultFound" "I") ∈ pz_T := pz_m1 87 rfl rfl
theorem pw_88 : (Jvm.Cond.fieldLink "StoneHall$Customs" (31 : Nat) "StoneHall$Customs" "faultPlace" "I") ∈ pz_T := pz_m1 88 rfl rfl
theorem pw_89 : (Jvm.Cond.fieldLink "StoneHall" (69 : Nat) "StoneHall$Customs" "faultPlace" "I") ∈ pz_T := pz_m1 89 rfl rfl
theorem pw_90 : (Jvm.Cond.laysFinal "StoneHall$Customs" "StoneHall$Customs" "reader" "LStoneHall$Reader;") ∈ pz_T := pz_m1 90 rfl rfl
theorem pw_91 : (Jvm.Cond.soleField "StoneHall$Customs" "reader") ∈ pz_T := pz_m1 91 rfl rfl
theorem pw_92 : (Jvm.Cond.laysFinal "StoneHall$Customs" "StoneHall$Customs" "inForce" "[I") ∈ pz_T := pz_m1 92 rfl rfl
theorem pw_93 : (Jvm.Cond.soleField "StoneHall$Customs" "inForce") ∈ pz_T := pz_m1 93 rfl rfl
theorem pw_94 : (Jvm.Cond.laysFinal "StoneHall$Customs" "StoneHall$Customs" "draft" "[I") ∈ pz_T := pz_m1 94 rfl rfl
theorem pw_95 : (Jvm.Cond.soleField "StoneHall$Customs" "draft") ∈ pz_T := pz_m1 95 rfl rfl
theorem pw_96 : (Jvm.Cond.laysFinal "StoneHall$Customs" "StoneHall$Customs" "told" "[Z") ∈ pz_T := pz_m1 96 rfl rfl
theorem pw_97 : (Jvm.Cond.soleField "StoneHall$Customs" "told") ∈ pz_T := pz_m1 97 rfl rfl
theorem pw_98 : (Jvm.Cond.lays "StoneHall$Customs" "StoneHall$Customs" "faultFound" "I") ∈ pz_T := pz_m1 98 rfl rfl
theorem pw_99 : (Jvm.Cond.soleField "StoneHall$Customs" "faultFound") ∈ pz_T := pz_m1 99 rfl rfl
theorem pw_100 : (Jvm.Cond.lays "StoneHall$Customs" "StoneHall$Customs" "faultPlace" "I") ∈ pz_T := pz_m1 100 rfl rfl
theorem pw_101 : (Jvm.Cond.soleField "StoneHall$Customs" "faultPlace") ∈ pz_T := pz_m1 101 rfl rfl
theorem pw_102 : (Jvm.Cond.superclass "StoneHall$Customs" "java/lang/Object") ∈ pz_T := pz_m1 102 rfl rfl
theorem pw_103 : (Jvm.Cond.arrayClass Jvm.ClassFile.FieldType.int) ∈ pz_T := pz_m1 103 rfl rfl
theorem pw_104 : (Jvm.Cond.arrayClass Jvm.ClassFile.FieldType.boolean) ∈ pz_T := pz_m1 104 rfl rfl
theorem pw_105 : (Jvm.Cond.classLink "StoneHall" (23 : Nat) "StoneHall$Chances") ∈ pz_T := pz_m1 105 rfl rfl
theorem pw_106 : (Jvm.Cond.instantiable "StoneHall$Chances" (13 : Nat)) ∈ pz_T := pz_m1 106 rfl rfl
theorem pw_108 : (Jvm.Cond.instanceMethod ({ cls := "StoneHall$Chances", name := "<init>", desc := "()V" } : Jvm.MethodName)) ∈ pz_T := pz_m1 108 rfl rfl
theorem pw_109 : (Jvm.Cond.code ({ cls := "StoneHall$Chances", name := "<init>", desc := "()V" } : Jvm.MethodName) prog_3_method_1_code (1 : Nat) (Option.none : Option Jvm.ClassFile.FieldType)) ∈ pz_T := pz_m1 109 rfl rfl
theorem pw_110 : (Jvm.Cond.methodLink "StoneHall$Chances" (5 : Nat) ({ cls := "java/lang/Object", name := "<init>", desc := "()V" } : Jvm.MethodName)) ∈ pz_T := pz_m1 110 rfl rfl
theorem pw_111 : (Jvm.Cond.fieldLink "StoneHall$Chances" (11 : Nat) "StoneHall$Chances" "worths" "[I") ∈ pz_T := pz_m1 111 rfl rfl
theorem pw_112 : (Jvm.Cond.fieldLink "StoneHall" (148 : Nat) "StoneHall$Chances" "worths" "[I") ∈ pz_T := pz_m1 112 rfl rfl
theorem pw_113 : (Jvm.Cond.fieldLink "StoneHall$Chances" (41 : Nat) "StoneHall$Chances" "gradeCount" "I") ∈ pz_T := pz_m1 113 rfl rfl
theorem pw_114 : (Jvm.Cond.fieldLink "StoneHall" (221 : Nat) "StoneHall$Chances" "gradeCount" "I") ∈ pz_T := pz_m1 114 rfl rfl
theorem pw_115 : (Jvm.Cond.fieldLink "StoneHall$Chances" (51 : Nat) "StoneHall$Chances" "kindCount" "I") ∈ pz_T := pz_m1 115 rfl rfl
theorem pw_116 : (Jvm.Cond.fieldLink "StoneHall" (224 : Nat) "StoneHall$Chances" "kindCount" "I") ∈ pz_T := pz_m1 116 rfl rfl
theorem pw_117 : (Jvm.Cond.fieldLink "StoneHall$Chances" (15 : Nat) "StoneHall$Chances" "priors" "[I") ∈ pz_T := pz_m1 117 rfl rfl
theorem pw_118 : (Jvm.Cond.fieldLink "StoneHall$Chances" (18 : Nat) "StoneHall$Chances" "weights" "[I") ∈ pz_T := pz_m1 118 rfl rfl
theorem pw_119 : (Jvm.Cond.fieldLink "StoneHall$Chances" (21 : Nat) "StoneHall$Chances" "powers" "[J") ∈ pz_T := pz_m1 119 rfl rfl
theorem pw_120 : (Jvm.Cond.fieldLink "StoneHall$Chances" (25 : Nat) "StoneHall$Chances" "odds" "[J") ∈ pz_T := pz_m1 120 rfl rfl
theorem pw_121 : (Jvm.Cond.fieldLink "StoneHall$Chances" (62 : Nat) "StoneHall$Chances" "allOdds" "J") ∈ pz_T := pz_m1 121 rfl rfl
theorem pw_122 : (Jvm.Cond.fieldLink "StoneHall$Chances" (28 : Nat) "StoneHall$Chances" "further" "[I") ∈ pz_T := pz_m1 122 rfl rfl
theorem pw_123 : (Jvm.Cond.fieldLink "StoneHall$Chances" (31 : Nat) "StoneHall$Chances" "oddsThere" "[J") ∈ pz_T := pz_m1 123 rfl rfl
theorem pw_124 : (Jvm.Cond.fieldLink "StoneHall$Chances" (34 : Nat) "StoneHall$Chances" "onward" "[J") ∈ pz_T := pz_m1 124 rfl rfl
theorem pw_125 : (Jvm.Cond.fieldLink "StoneHall$Chances" (137 : Nat) "StoneHall$Chances" "upper" "J") ∈ pz_T := pz_m1 125 rfl rfl
theorem pw_126 : (Jvm.Cond.fieldLink "StoneHall" (200 : Nat) "StoneHall$Chances" "upper" "J") ∈ pz_T := pz_m1 126 rfl rfl
theorem pw_127 : (Jvm.Cond.fieldLink "StoneHall$Chances" (37 : Nat) "StoneHall$Chances" "lower" "J") ∈ pz_T := pz_m1 127 rfl rfl
theorem pw_128 : (Jvm.Cond.fieldLink "StoneHall" (204 : Nat) "StoneHall$Chances" "lower" "J") ∈ pz_T := pz_m1 128 rfl rfl
theorem pw_129 : (Jvm.Cond.laysFinal "StoneHall$Chances" "StoneHall$Chances" "worths" "[I") ∈ pz_T := pz_m1 129 rfl rfl
theorem pw_130 : (Jvm.Cond.soleField "StoneHall$Chances" "worths") ∈ pz_T := pz_m1 130 rfl rfl
theorem pw_131 : (Jvm.Cond.lays "StoneHall$Chances" "StoneHall$Chances" "gradeCount" "I") ∈ pz_T := pz_m1 131 rfl rfl
theorem pw_132 : (Jvm.Cond.soleField "StoneHall$Chances" "gradeCount") ∈ pz_T := pz_m1 132 rfl rfl
theorem pw_133 : (Jvm.Cond.lays "StoneHall$Chances" "StoneHall$Chances" "kindCount" "I") ∈ pz_T := pz_m1 133 rfl rfl
theorem pw_134 : (Jvm.Cond.soleField "StoneHall$Chances" "kindCount") ∈ pz_T := pz_m1 134 rfl rfl
theorem pw_135 : (Jvm.Cond.laysFinal "StoneHall$Chances" "StoneHall$Chances" "priors" "[I") ∈ pz_T := pz_m1 135 rfl rfl
theorem pw_136 : (Jvm.Cond.soleField "StoneHall$Chances" "priors") ∈ pz_T := pz_m1 136 rfl rfl
theorem pw_137 : (Jvm.Cond.laysFinal "StoneHall$Chances" "StoneHall$Chances" "weights" "[I") ∈ pz_T := pz_m1 137 rfl rfl
theorem pw_138 : (Jvm.Cond.soleField "StoneHall$Chances" "weights") ∈ pz_T := pz_m1 138 rfl rfl
theorem pw_139 : (Jvm.Cond.laysFinal "StoneHall$Chances" "StoneHall$Chances" "powers" "[J") ∈ pz_T := pz_m1 139 rfl rfl
theorem pw_140 : (Jvm.Cond.soleField "StoneHall$Chances" "powers") ∈ pz_T := pz_m1 140 rfl rfl
theorem pw_141 : (Jvm.Cond.laysFinal "StoneHall$Chances" "StoneHall$Chances" "odds" "[J") ∈ pz_T := pz_m1 141 rfl rfl
theorem pw_142 : (Jvm.Cond.soleField "StoneHall$Chances" "odds") ∈ pz_T := pz_m1 142 rfl rfl
theorem pw_143 : (Jvm.Cond.lays "StoneHall$Chances" "StoneHall$Chances" "allOdds" "J") ∈ pz_T := pz_m1 143 rfl rfl
theorem pw_144 : (Jvm.Cond.soleField "StoneHall$Chances" "allOdds") ∈ pz_T := pz_m1 144 rfl rfl
theorem pw_145 : (Jvm.Cond.laysFinal "StoneHall$Chances" "StoneHall$Chances" "further" "[I") ∈ pz_T := pz_m1 145 rfl rfl
theorem pw_146 : (Jvm.Cond.soleField "StoneHall$Chances" "further") ∈ pz_T := pz_m1 146 rfl rfl
theorem pw_147 : (Jvm.Cond.laysFinal "StoneHall$Chances" "StoneHall$Chances" "oddsThere" "[J") ∈ pz_T := pz_m1 147 rfl rfl
theorem pw_148 : (Jvm.Cond.soleField "StoneHall$Chances" "oddsThere") ∈ pz_T := pz_m1 148 rfl rfl
theorem pw_149 : (Jvm.Cond.laysFinal "StoneHall$Chances" "StoneHall$Chances" "onward" "[J") ∈ pz_T := pz_m1 149 rfl rfl
theorem pw_150 : (Jvm.Cond.soleField "StoneHall$Chances" "onward") ∈ pz_T := pz_m1 150 rfl rfl
theorem pw_151 : (Jvm.Cond.lays "StoneHall$Chances" "StoneHall$Chances" "upper" "J") ∈ pz_T := pz_m1 151 rfl rfl
theorem pw_152 : (Jvm.Cond.soleField "StoneHall$Chances" "upper") ∈ pz_T := pz_m1 152 rfl rfl
theorem pw_153 : (Jvm.Cond.lays "StoneHall$Chances" "StoneHall$Chances" "lower" "J") ∈ pz_T := pz_m1 153 rfl rfl
theorem pw_154 : (Jvm.Cond.soleField "StoneHall$Chances" "lower") ∈ pz_T := pz_m1 154 rfl rfl
theorem pw_155 : (Jvm.Cond.superclass "StoneHall$Chances" "java/lang/Object") ∈ pz_T := pz_m1 155 rfl rfl
theorem pw_156 : (Jvm.Cond.arrayClass Jvm.ClassFile.FieldType.long) ∈ pz_T := pz_m1 156 rfl rfl
theorem pw_157 : (Jvm.Cond.classLink "StoneHall" (30 : Nat) "StoneHall$Men") ∈ pz_T := pz_m1 157 rfl rfl
theorem pw_158 : (Jvm.Cond.instantiable "StoneHall$Men" (3 : Nat)) ∈ pz_T := pz_m1 158 rfl rfl
theorem pw_160 : (Jvm.Cond.instanceMethod ({ cls := "StoneHall$Men", name := "<init>", desc := "()V" } : Jvm.MethodName)) ∈ pz_T := pz_m1 160 rfl rfl
theorem pw_161 : (Jvm.Cond.code ({ cls := "StoneHall$Men", name := "<init>", desc := "()V" } : Jvm.MethodName) prog_6_method_1_code (1 : Nat) (Option.none : Option Jvm.ClassFile.FieldType)) ∈ pz_T := pz_m1 161 rfl rfl
theorem pw_162 : (Jvm.Cond.methodLink "StoneHall$Men" (3 : Nat) ({ cls := "java/lang/Object", name := "<init>", desc := "()V" } : Jvm.MethodName)) ∈ pz_T := pz_m1 162 rfl rfl
theorem pw_163 : (Jvm.Cond.fieldLink "StoneHall$Men" (9 : Nat) "StoneHall$Men" "purses" "[I") ∈ pz_T := pz_m1 163 rfl rfl
theorem pw_164 : (Jvm.Cond.fieldLink "StoneHall$Sale" (55 : Nat) "StoneHall$Men" "purses" "[I") ∈ pz_T := pz_m1 164 rfl rfl
theorem pw_165 : (Jvm.Cond.fieldLink "StoneHall" (188 : Nat) "StoneHall$Men" "purses" "[I") ∈ pz_T := pz_m1 165 rfl rfl
theorem pw_166 : (Jvm.Cond.fieldLink "StoneHall$Men" (15 : Nat) "StoneHall$Men" "dues" "[I") ∈ pz_T := pz_m1 166 rfl rfl
theorem pw_167 : (Jvm.Cond.fieldLink "StoneHall$Men" (19 : Nat) "StoneHall$Men" "size" "I") ∈ pz_T := pz_m1 167 rfl rfl
theorem pw_168 : (Jvm.Cond.fieldLink "StoneHall" (227 : Nat) "StoneHall$Men" "size" "I") ∈ pz_T := pz_m1 168 rfl rfl
theorem pw_169 : (Jvm.Cond.laysFinal "StoneHall$Men" "StoneHall$Men" "purses" "[I") ∈ pz_T := pz_m1 169 rfl rfl
theorem pw_170 : (Jvm.Cond.soleField "StoneHall$Men" "purses") ∈ pz_T := pz_m1 170 rfl rfl
theorem pw_171 : (Jvm.Cond.laysFinal "StoneHall$Men" "StoneHall$Men" "dues" "[I") ∈ pz_T := pz_m1 171 rfl rfl
theorem pw_172 : (Jvm.Cond.soleField "StoneHall$Men" "dues") ∈ pz_T := pz_m1 172 rfl rfl
theorem pw_173 : (Jvm.Cond.lays "StoneHall$Men" "StoneHall$Men" "size" "I") ∈ pz_T := pz_m1 173 rfl rfl
theorem pw_174 : (Jvm.Cond.soleField "StoneHall$Men" "size") ∈ pz_T := pz_m1 174 rfl rfl
theorem pw_175 : (Jvm.Cond.superclass "StoneHall$Men" "java/lang/Object") ∈ pz_T := pz_m1 175 rfl rfl
theorem pw_176 : (Jvm.Cond.classLink "StoneHall" (37 : Nat) "StoneHall$Boulder") ∈ pz_T := pz_m1 176 rfl rfl
theorem pw_178 : (Jvm.Cond.classLink "StoneHall" (43 : Nat) "StoneHall$Sale") ∈ pz_T := pz_m1 178 rfl rfl
theorem pw_179 : (Jvm.Cond.instantiable "StoneHall$Sale" (8 : Nat)) ∈ pz_T := pz_m1 179 rfl rfl
theorem pw_181 : (Jvm.Cond.instanceMethod ({ cls := "StoneHall$Sale", name := "<init>", desc := "()V" } : Jvm.MethodName)) ∈ pz_T := pz_m1 181 rfl rfl
theorem pw_182 : (Jvm.Cond.code ({ cls := "StoneHall$Sale", name := "<init>", desc := "()V" } : Jvm.MethodName) prog_8_method_1_code (1 : Nat) (Option.none : Option Jvm.ClassFile.FieldType)) ∈ pz_T := pz_m1 182 rfl rfl
theorem pw_183 : (Jvm.Cond.methodLink "StoneHall$Sale" (3 : Nat) ({ cls := "java/lang/Object", name := "<init>", desc := "()V" } : Jvm.MethodName)) ∈ pz_T := pz_m1 183 rfl rfl
theorem pw_184 : (Jvm.Cond.fieldLink "StoneHall$Sale" (9 : Nat) "StoneHall$Sale" "bidders" "[I") ∈ pz_T := pz_m1 184 rfl rfl
theorem pw_185 : (Jvm.Cond.fieldLink "StoneHall$Sale" (15 : Nat) "StoneHall$Sale" "coins" "[I") ∈ pz_T := pz_m1 185 rfl rfl
theorem pw_186 : (Jvm.Cond.fieldLink "StoneHall$Sale" (44 : Nat) "StoneHall$Sale" "leftIn" "I") ∈ pz_T := pz_m1 186 rfl rfl
theorem pw_187 : (Jvm.Cond.fieldLink "StoneHall$Sale" (32 : Nat) "StoneHall$Sale" "out" "I") ∈ pz_T := pz_m1 187 rfl rfl
theorem pw_188 : (Jvm.Cond.fieldLink "StoneHall$Sale" (18 : Nat) "StoneHall$Sale" "held" "Z") ∈ pz_T := pz_m1 188 rfl rfl
theorem pw_189 : (Jvm.Cond.fieldLink "StoneHall$Sale" (22 : Nat) "StoneHall$Sale" "price" "I") ∈ pz_T := pz_m1 189 rfl rfl
theorem pw_190 : (Jvm.Cond.fieldLink "StoneHall$Sale" (26 : Nat) "StoneHall$Sale" "defaulted" "I") ∈ pz_T := pz_m1 190 rfl rfl
theorem pw_191 : (Jvm.Cond.fieldLink "StoneHall$Sale" (29 : Nat) "StoneHall$Sale" "tax" "I") ∈ pz_T := pz_m1 191 rfl rfl
theorem pw_192 : (Jvm.Cond.fieldLink "StoneHall" (120 : Nat) "StoneHall$Sale" "tax" "I") ∈ pz_T := pz_m1 192 rfl rfl
theorem pw_193 : (Jvm.Cond.laysFinal "StoneHall$Sale" "StoneHall$Sale" "bidders" "[I") ∈ pz_T := pz_m1 193 rfl rfl
theorem pw_194 : (Jvm.Cond.soleField "StoneHall$Sale" "bidders") ∈ pz_T := pz_m1 194 rfl rfl
theorem pw_195 : (Jvm.Cond.laysFinal "StoneHall$Sale" "StoneHall$Sale" "coins" "[I") ∈ pz_T := pz_m1 195 rfl rfl
theorem pw_196 : (Jvm.Cond.soleField "StoneHall$Sale" "coins") ∈ pz_T := pz_m1 196 rfl rfl
theorem pw_197 : (Jvm.Cond.lays "StoneHall$Sale" "StoneHall$Sale" "leftIn" "I") ∈ pz_T := pz_m1 197 rfl rfl
theorem pw_198 : (Jvm.Cond.soleField "StoneHall$Sale" "leftIn") ∈ pz_T := pz_m1 198 rfl rfl
theorem pw_199 : (Jvm.Cond.lays "StoneHall$Sale" "StoneHall$Sale" "out" "I") ∈ pz_T := pz_m1 199 rfl rfl
theorem pw_200 : (Jvm.Cond.soleField "StoneHall$Sale" "out") ∈ pz_T := pz_m1 200 rfl rfl
theorem pw_201 : (Jvm.Cond.lays "StoneHall$Sale" "StoneHall$Sale" "held" "Z") ∈ pz_T := pz_m1 201 rfl rfl
theorem pw_202 : (Jvm.Cond.soleField "StoneHall$Sale" "held") ∈ pz_T := pz_m1 202 rfl rfl
theorem pw_203 : (Jvm.Cond.lays "StoneHall$Sale" "StoneHall$Sale" "price" "I") ∈ pz_T := pz_m1 203 rfl rfl
theorem pw_204 : (Jvm.Cond.soleField "StoneHall$Sale" "price") ∈ pz_T := pz_m1 204 rfl rfl
theorem pw_205 : (Jvm.Cond.lays "StoneHall$Sale" "StoneHall$Sale" "defaulted" "I") ∈ pz_T := pz_m1 205 rfl rfl
theorem pw_206 : (Jvm.Cond.soleField "StoneHall$Sale" "defaulted") ∈ pz_T := pz_m1 206 rfl rfl
theorem pw_207 : (Jvm.Cond.lays "StoneHall$Sale" "StoneHall$Sale" "tax" "I") ∈ pz_T := pz_m1 207 rfl rfl
theorem pw_208 : (Jvm.Cond.soleField "StoneHall$Sale" "tax") ∈ pz_T := pz_m1 208 rfl rfl
theorem pw_209 : (Jvm.Cond.superclass "StoneHall$Sale" "java/lang/Object") ∈ pz_T := pz_m1 209 rfl rfl
theorem pw_210 : (Jvm.Cond.fieldLink "StoneHall" (10 : Nat) "StoneHall" "tape" "LStoneHall$Tape;") ∈ pz_T := pz_m1 210 rfl rfl
theorem pw_211 : (Jvm.Cond.fieldLink "StoneHall" (19 : Nat) "StoneHall" "law" "LStoneHall$Customs;") ∈ pz_T := pz_m1 211 rfl rfl
theorem pw_212 : (Jvm.Cond.fieldLink "StoneHall" (26 : Nat) "StoneHall" "chances" "LStoneHall$Chances;") ∈ pz_T := pz_m1 212 rfl rfl
theorem pw_213 : (Jvm.Cond.fieldLink "StoneHall" (33 : Nat) "StoneHall" "men" "LStoneHall$Men;") ∈ pz_T := pz_m1 213 rfl rfl
theorem pw_214 : (Jvm.Cond.fieldLink "StoneHall" (39 : Nat) "StoneHall" "boulders" "[LStoneHall$Boulder;") ∈ pz_T := pz_m1 214 rfl rfl
theorem pw_215 : (Jvm.Cond.fieldLink "StoneHall" (46 : Nat) "StoneHall" "latestSale" "LStoneHall$Sale;") ∈ pz_T := pz_m1 215 rfl rfl
theorem pw_216 : (Jvm.Cond.fieldLink "StoneHall" (83 : Nat) "StoneHall" "boulderCount" "I") ∈ pz_T := pz_m1 216 rfl rfl
theorem pw_217 : (Jvm.Cond.fieldLink "StoneHall" (117 : Nat) "StoneHall" "hallCoins" "I") ∈ pz_T := pz_m1 217 rfl rfl
theorem pw_218 : (Jvm.Cond.laysFinal "StoneHall" "StoneHall" "tape" "LStoneHall$Tape;") ∈ pz_T := pz_m1 218 rfl rfl
theorem pw_219 : (Jvm.Cond.soleField "StoneHall" "tape") ∈ pz_T := pz_m1 219 rfl rfl
theorem pw_220 : (Jvm.Cond.laysFinal "StoneHall" "StoneHall" "law" "LStoneHall$Customs;") ∈ pz_T := pz_m1 220 rfl rfl
theorem pw_221 : (Jvm.Cond.soleField "StoneHall" "law") ∈ pz_T := pz_m1 221 rfl rfl
theorem pw_222 : (Jvm.Cond.laysFinal "StoneHall" "StoneHall" "chances" "LStoneHall$Chances;") ∈ pz_T := pz_m1 222 rfl rfl
theorem pw_223 : (Jvm.Cond.soleField "StoneHall" "chances") ∈ pz_T := pz_m1 223 rfl rfl
theorem pw_224 : (Jvm.Cond.laysFinal "StoneHall" "StoneHall" "men" "LStoneHall$Men;") ∈ pz_T := pz_m1 224 rfl rfl
theorem pw_225 : (Jvm.Cond.soleField "StoneHall" "men") ∈ pz_T := pz_m1 225 rfl rfl
theorem pw_226 : (Jvm.Cond.laysFinal "StoneHall" "StoneHall" "boulders" "[LStoneHall$Boulder;") ∈ pz_T := pz_m1 226 rfl rfl
theorem pw_227 : (Jvm.Cond.soleField "StoneHall" "boulders") ∈ pz_T := pz_m1 227 rfl rfl
theorem pw_228 : (Jvm.Cond.laysFinal "StoneHall" "StoneHall" "latestSale" "LStoneHall$Sale;") ∈ pz_T := pz_m1 228 rfl rfl
theorem pw_229 : (Jvm.Cond.soleField "StoneHall" "latestSale") ∈ pz_T := pz_m1 229 rfl rfl
theorem pw_230 : (Jvm.Cond.lays "StoneHall" "StoneHall" "boulderCount" "I") ∈ pz_T := pz_m1 230 rfl rfl
theorem pw_231 : (Jvm.Cond.soleField "StoneHall" "boulderCount") ∈ pz_T := pz_m1 231 rfl rfl
theorem pw_232 : (Jvm.Cond.lays "StoneHall" "StoneHall" "hallCoins" "I") ∈ pz_T := pz_m1 232 rfl rfl
theorem pw_233 : (Jvm.Cond.soleField "StoneHall" "hallCoins") ∈ pz_T := pz_m1 233 rfl rfl
theorem pw_234 : (Jvm.Cond.superclass "StoneHall" "java/lang/Object") ∈ pz_T := pz_m1 234 rfl rfl
theorem pw_235 : (Jvm.Cond.methodLink "StoneHallLaw" (21 : Nat) ({ cls := "StoneHall", name := "feed", desc := "(IIIII)I" } : Jvm.MethodName)) ∈ pz_T := pz_m1 235 rfl rfl
theorem pw_236 : (Jvm.Cond.instanceMethod ({ cls := "StoneHall", name := "feed", desc := "(IIIII)I" } : Jvm.MethodName)) ∈ pz_T := pz_m1 236 rfl rfl
theorem pw_237 : (Jvm.Cond.selects "StoneHall" ({ cls := "StoneHall", name := "feed", desc := "(IIIII)I" } : Jvm.MethodName) ({ cls := "StoneHall", name := "feed", desc := "(IIIII)I" } : Jvm.MethodName)) ∈ pz_T := pz_m1 237 rfl rfl
theorem pw_238 : (Jvm.Cond.code ({ cls := "StoneHall", name := "feed", desc := "(IIIII)I" } : Jvm.MethodName) prog_1_method_2_code (6 : Nat) (Option.some Jvm.ClassFile.FieldType.int)) ∈ pz_T := pz_m1 238 rfl rfl
theorem pw_239 : (Jvm.Cond.methodLink "StoneHall" (50 : Nat) ({ cls := "StoneHall$Tape", name := "hasRoom", desc := "()Z" } : Jvm.MethodName)) ∈ pz_T := pz_m1 239 rfl rfl
theorem pw_240 : (Jvm.Cond.instanceMethod ({ cls := "StoneHall$Tape", name := "hasRoom", desc := "()Z" } : Jvm.MethodName)) ∈ pz_T := pz_m2 0 rfl rfl
theorem pw_241 : (Jvm.Cond.selects "StoneHall$Tape" ({ cls := "StoneHall$Tape", name := "hasRoom", desc := "()Z" } : Jvm.MethodName) ({ cls := "StoneHall$Tape", name := "hasRoom", desc := "()Z" } : Jvm.MethodName)) ∈ pz_T := pz_m2 1 rfl rfl
theorem pw_242 : (Jvm.Cond.code ({ cls := "StoneHall$Tape", name := "hasRoom", desc := "()Z" } : Jvm.MethodName) prog_9_method_2_code (1 : Nat) (Option.some Jvm.ClassFile.FieldType.boolean)) ∈ pz_T := pz_m2 2 rfl rfl
theorem pw_243 : (Jvm.Cond.methodLink "StoneHall" (54 : Nat) ({ cls := "StoneHall$Tape", name := "append", desc := "(I)V" } : Jvm.MethodName)) ∈ pz_T := pz_m2 3 rfl rfl
theorem pw_244 : (Jvm.Cond.instanceMethod ({ cls := "StoneHall$Tape", name := "append", desc := "(I)V" } : Jvm.MethodName)) ∈ pz_T := pz_m2 4 rfl rfl
theorem pw_245 : (Jvm.Cond.selects "StoneHall$Tape" ({ cls := "StoneHall$Tape", name := "append", desc := "(I)V" } : Jvm.MethodName) ({ cls := "StoneHall$Tape", name := "append", desc := "(I)V" } : Jvm.MethodName)) ∈ pz_T := pz_m2 5 rfl rfl
theorem pw_246 : (Jvm.Cond.code ({ cls := "StoneHall$Tape", name := "append", desc := "(I)V" } : Jvm.MethodName) prog_9_method_3_code (3 : Nat) (Option.none : Option Jvm.ClassFile.FieldType)) ∈ pz_T := pz_m2 6 rfl rfl
theorem pw_247 : (Jvm.Cond.methodLink "StoneHallLaw" (26 : Nat) ({ cls := "StoneHall", name := "customs", desc := "(I)I" } : Jvm.MethodName)) ∈ pz_T := pz_m2 7 rfl rfl
theorem pw_248 : (Jvm.Cond.instanceMethod ({ cls := "StoneHall", name := "customs", desc := "(I)I" } : Jvm.MethodName)) ∈ pz_T := pz_m2 8 rfl rfl
theorem pw_249 : (Jvm.Cond.selects "StoneHall" ({ cls := "StoneHall", name := "customs", desc := "(I)I" } : Jvm.MethodName) ({ cls := "StoneHall", name := "customs", desc := "(I)I" } : Jvm.MethodName)) ∈ pz_T := pz_m2 9 rfl rfl
theorem pw_250 : (Jvm.Cond.code ({ cls := "StoneHall", name := "customs", desc := "(I)I" } : Jvm.MethodName) prog_1_method_3_code (3 : Nat) (Option.some Jvm.ClassFile.FieldType.int)) ∈ pz_T := pz_m2 10 rfl rfl
theorem pw_251 : (Jvm.Cond.methodLink "StoneHall" (62 : Nat) ({ cls := "StoneHall$Customs", name := "read", desc := "(LStoneHall$Tape;I)I" } : Jvm.MethodName)) ∈ pz_T := pz_m2 11 rfl rfl
theorem pw_252 : (Jvm.Cond.instanceMethod ({ cls := "StoneHall$Customs", name := "read", desc := "(LStoneHall$Tape;I)I" } : Jvm.MethodName)) ∈ pz_T := pz_m2 12 rfl rfl
theorem pw_253 : (Jvm.Cond.selects "StoneHall$Customs" ({ cls := "StoneHall$Customs", name := "read", desc := "(LStoneHall$Tape;I)I" } : Jvm.MethodName) ({ cls := "StoneHall$Customs", name := "read", desc := "(LStoneHall$Tape;I)I" } : Jvm.MethodName)) ∈ pz_T := pz_m2 13 rfl rfl
theorem pw_254 : (Jvm.Cond.code ({ cls := "StoneHall$Customs", name := "read", desc := "(LStoneHall$Tape;I)I" } : Jvm.MethodName) prog_4_method_2_code (4 : Nat) (Option.some Jvm.ClassFile.FieldType.int)) ∈ pz_T := pz_m2 14 rfl rfl
theorem pw_255 : (Jvm.Cond.methodLink "StoneHall$Customs" (35 : Nat) ({ cls := "StoneHall$Customs", name := "startDraft", desc := "()V" } : Jvm.MethodName)) ∈ pz_T := pz_m2 15 rfl rfl
theorem pw_257 : (Jvm.Cond.instanceMethod ({ cls := "StoneHall$Customs", name := "startDraft", desc := "()V" } : Jvm.MethodName)) ∈ pz_T := pz_m2 17 rfl rfl
theorem pw_258 : (Jvm.Cond.code ({ cls := "StoneHall$Customs", name := "startDraft", desc := "()V" } : Jvm.MethodName) prog_4_method_6_code (2 : Nat) (Option.none : Option Jvm.ClassFile.FieldType)) ∈ pz_T := pz_m2 18 rfl rfl
theorem pw_259 : (Jvm.Cond.methodLink "StoneHall$Customs" (38 : Nat) ({ cls := "StoneHall$Reader", name := "begin", desc := "(LStoneHall$Tape;I)V" } : Jvm.MethodName)) ∈ pz_T := pz_m2 19 rfl rfl
theorem pw_260 : (Jvm.Cond.instanceMethod ({ cls := "StoneHall$Reader", name := "begin", desc := "(LStoneHall$Tape;I)V" } : Jvm.MethodName)) ∈ pz_T := pz_m2 20 rfl rfl
theorem pw_261 : (Jvm.Cond.selects "StoneHall$Reader" ({ cls := "StoneHall$Reader", name := "begin", desc := "(LStoneHall$Tape;I)V" } : Jvm.MethodName) ({ cls := "StoneHall$Reader", name := "begin", desc := "(LStoneHall$Tape;I)V" } : Jvm.MethodName)) ∈ pz_T := pz_m2 21 rfl rfl
theorem pw_262 : (Jvm.Cond.code ({ cls := "StoneHall$Reader", name := "begin", desc := "(LStoneHall$Tape;I)V" } : Jvm.MethodName) prog_7_method_2_code (3 : Nat) (Option.none : Option Jvm.ClassFile.FieldType)) ∈ pz_T := pz_m2 22 rfl rfl
theorem pw_263 : (Jvm.Cond.methodLink "StoneHall$Reader" (22 : Nat) ({ cls := "StoneHall$Reader", name := "advance", desc := "()V" } : Jvm.MethodName)) ∈ pz_T := pz_m2 23 rfl rfl
theorem pw_264 : (Jvm.Cond.instanceMethod ({ cls := "StoneHall$Reader", name := "advance", desc := "()V" } : Jvm.MethodName)) ∈ pz_T := pz_m2 24 rfl rfl
theorem pw_265 : (Jvm.Cond.selects "StoneHall$Reader" ({ cls := "StoneHall$Reader", name := "advance", desc := "()V" } : Jvm.MethodName) ({ cls := "StoneHall$Reader", name := "advance", desc := "()V" } : Jvm.MethodName)) ∈ pz_T := pz_m2 25 rfl rfl
theorem pw_266 : (Jvm.Cond.code ({ cls := "StoneHall$Reader", name := "advance", desc := "()V" } : Jvm.MethodName) prog_7_method_3_code (2 : Nat) (Option.none : Option Jvm.ClassFile.FieldType)) ∈ pz_T := pz_m2 26 rfl rfl
theorem pw_267 : (Jvm.Cond.methodLink "StoneHall$Reader" (25 : Nat) ({ cls := "StoneHall$Reader", name := "skipBlanks", desc := "()V" } : Jvm.MethodName)) ∈ pz_T := pz_m2 27 rfl rfl
theorem pw_269 : (Jvm.Cond.instanceMethod ({ cls := "StoneHall$Reader", name := "skipBlanks", desc := "()V" } : Jvm.MethodName)) ∈ pz_T := pz_m2 29 rfl rfl
theorem pw_270 : (Jvm.Cond.code ({ cls := "StoneHall$Reader", name := "skipBlanks", desc := "()V" } : Jvm.MethodName) prog_7_method_5_code (1 : Nat) (Option.none : Option Jvm.ClassFile.FieldType)) ∈ pz_T := pz_m2 30 rfl rfl
theorem pw_271 : (Jvm.Cond.methodLink "StoneHall$Reader" (31 : Nat) ({ cls := "StoneHall$Reader", name := "signAt", desc := "(I)I" } : Jvm.MethodName)) ∈ pz_T := pz_m2 31 rfl rfl
theorem pw_273 : (Jvm.Cond.instanceMethod ({ cls := "StoneHall$Reader", name := "signAt", desc := "(I)I" } : Jvm.MethodName)) ∈ pz_T := pz_m2 33 rfl rfl
theorem pw_274 : (Jvm.Cond.code ({ cls := "StoneHall$Reader", name := "signAt", desc := "(I)I" } : Jvm.MethodName) prog_7_method_8_code (2 : Nat) (Option.some Jvm.ClassFile.FieldType.int)) ∈ pz_T := pz_m2 34 rfl rfl
theorem pw_275 : (Jvm.Cond.methodLink "StoneHall$Reader" (61 : Nat) ({ cls := "StoneHall$Reader", name := "isBlank", desc := "(I)Z" } : Jvm.MethodName)) ∈ pz_T := pz_m2 35 rfl rfl
theorem pw_276 : (Jvm.Cond.static ({ cls := "StoneHall$Reader", name := "isBlank", desc := "(I)Z" } : Jvm.MethodName)) ∈ pz_T := pz_m2 36 rfl rfl
theorem pw_277 : (Jvm.Cond.code ({ cls := "StoneHall$Reader", name := "isBlank", desc := "(I)Z" } : Jvm.MethodName) prog_7_method_9_code (1 : Nat) (Option.some Jvm.ClassFile.FieldType.boolean)) ∈ pz_T := pz_m2 37 rfl rfl
theorem pw_278 : (Jvm.Cond.methodLink "StoneHall$Reader" (38 : Nat) ({ cls := "StoneHall$Reader", name := "isLetter", desc := "(I)Z" } : Jvm.MethodName)) ∈ pz_T := pz_m2 38 rfl rfl
theorem pw_279 : (Jvm.Cond.static ({ cls := "StoneHall$Reader", name := "isLetter", desc := "(I)Z" } : Jvm.MethodName)) ∈ pz_T := pz_m2 39 rfl rfl
theorem pw_280 : (Jvm.Cond.code ({ cls := "StoneHall$Reader", name := "isLetter", desc := "(I)Z" } : Jvm.MethodName) prog_7_method_10_code (1 : Nat) (Option.some Jvm.ClassFile.FieldType.boolean)) ∈ pz_T := pz_m2 40 rfl rfl
theorem pw_281 : (Jvm.Cond.methodLink "StoneHall$Reader" (42 : Nat) ({ cls := "StoneHall$Reader", name := "passLetters", desc := "()V" } : Jvm.MethodName)) ∈ pz_T := pz_m2 41 rfl rfl
theorem pw_283 : (Jvm.Cond.instanceMethod ({ cls := "StoneHall$Reader", name := "passLetters", desc := "()V" } : Jvm.MethodName)) ∈ pz_T := pz_m2 43 rfl rfl
theorem pw_284 : (Jvm.Cond.code ({ cls := "StoneHall$Reader", name := "passLetters", desc := "()V" } : Jvm.MethodName) prog_7_method_6_code (1 : Nat) (Option.none : Option Jvm.ClassFile.FieldType)) ∈ pz_T := pz_m2 44 rfl rfl
theorem pw_285 : (Jvm.Cond.methodLink "StoneHall$Reader" (45 : Nat) ({ cls := "StoneHall$Reader", name := "isDigit", desc := "(I)Z" } : Jvm.MethodName)) ∈ pz_T := pz_m2 45 rfl rfl
theorem pw_286 : (Jvm.Cond.static ({ cls := "StoneHall$Reader", name := "isDigit", desc := "(I)Z" } : Jvm.MethodName)) ∈ pz_T := pz_m2 46 rfl rfl
theorem pw_287 : (Jvm.Cond.code ({ cls := "StoneHall$Reader", name := "isDigit", desc := "(I)Z" } : Jvm.MethodName) prog_7_method_11_code (1 : Nat) (Option.some Jvm.ClassFile.FieldType.boolean)) ∈ pz_T := pz_m2 47 rfl rfl
theorem pw_288 : (Jvm.Cond.methodLink "StoneHall$Reader" (48 : Nat) ({ cls := "StoneHall$Reader", name := "passDigits", desc := "()V" } : Jvm.MethodName)) ∈ pz_T := pz_m2 48 rfl rfl
theorem pw_290 : (Jvm.Cond.instanceMethod ({ cls := "StoneHall$Reader", name := "passDigits", desc := "()V" } : Jvm.MethodName)) ∈ pz_T := pz_m2 50 rfl rfl
theorem pw_291 : (Jvm.Cond.code ({ cls := "StoneHall$Reader", name := "passDigits", desc := "()V" } : Jvm.MethodName) prog_7_method_7_code (1 : Nat) (Option.none : Option Jvm.ClassFile.FieldType)) ∈ pz_T := pz_m2 51 rfl rfl
theorem pw_292 : (Jvm.Cond.constant "StoneHall$Reader" (67 : Nat) (1000000 : Int32)) ∈ pz_T := pz_m2 52 rfl rfl
theorem pw_293 : (Jvm.Cond.methodLink "StoneHall$Reader" (68 : Nat) ({ cls := "java/lang/Math", name := "min", desc := "(II)I" } : Jvm.MethodName)) ∈ pz_T := pz_m2 53 rfl rfl
theorem pw_294 : (Jvm.Cond.static ({ cls := "java/lang/Math", name := "min", desc := "(II)I" } : Jvm.MethodName)) ∈ pz_T := pz_m2 54 rfl rfl
theorem pw_295 : (Jvm.Cond.code ({ cls := "java/lang/Math", name := "min", desc := "(II)I" } : Jvm.MethodName) prog_15_method_69_code (2 : Nat) (Option.some Jvm.ClassFile.FieldType.int)) ∈ pz_T := pz_m2 55 rfl rfl
theorem pw_296 : (Jvm.Cond.methodLink "StoneHall$Customs" (47 : Nat) ({ cls := "StoneHall$Customs", name := "readLine", desc := "()Z" } : Jvm.MethodName)) ∈ pz_T := pz_m2 56 rfl rfl
theorem pw_298 : (Jvm.Cond.instanceMethod ({ cls := "StoneHall$Customs", name := "readLine", desc := "()Z" } : Jvm.MethodName)) ∈ pz_T := pz_m2 58 rfl rfl
theorem pw_299 : (Jvm.Cond.code ({ cls := "StoneHall$Customs", name := "readLine", desc := "()Z" } : Jvm.MethodName) prog_4_method_7_code (3 : Nat) (Option.some Jvm.ClassFile.FieldType.boolean)) ∈ pz_T := pz_m2 59 rfl rfl
theorem pw_300 : (Jvm.Cond.methodLink "StoneHall$Customs" (70 : Nat) ({ cls := "StoneHall$Customs", name := "lineHere", desc := "()LStoneHall$Line;" } : Jvm.MethodName)) ∈ pz_T := pz_m2 60 rfl rfl
theorem pw_302 : (Jvm.Cond.instanceMethod ({ cls := "StoneHall$Customs", name := "lineHere", desc := "()LStoneHall$Line;" } : Jvm.MethodName)) ∈ pz_T := pz_m2 62 rfl rfl
theorem pw_303 : (Jvm.Cond.code ({ cls := "StoneHall$Customs", name := "lineHere", desc := "()LStoneHall$Line;" } : Jvm.MethodName) prog_4_method_9_code (5 : Nat) (Option.some (Jvm.ClassFile.FieldType.object "StoneHall$Line"))) ∈ pz_T := pz_m2 63 rfl rfl
theorem pw_306 : (Jvm.Cond.methodLink "StoneHall$Customs" (98 : Nat) ({ cls := "StoneHall$Reader", name := "stands", desc := "(Ljava/lang/String;)Z" } : Jvm.MethodName)) ∈ pz_T := pz_m2 66 rfl rfl
theorem pw_307 : (Jvm.Cond.instanceMethod ({ cls := "StoneHall$Reader", name := "stands", desc := "(Ljava/lang/String;)Z" } : Jvm.MethodName)) ∈ pz_T := pz_m2 67 rfl rfl
theorem pw_308 : (Jvm.Cond.selects "StoneHall$Reader" ({ cls := "StoneHall$Reader", name := "stands", desc := "(Ljava/lang/String;)Z" } : Jvm.MethodName) ({ cls := "StoneHall$Reader", name := "stands", desc := "(Ljava/lang/String;)Z" } : Jvm.MethodName)) ∈ pz_T := pz_m2 68 rfl rfl
theorem pw_309 : (Jvm.Cond.code ({ cls := "StoneHall$Reader", name := "stands", desc := "(Ljava/lang/String;)Z" } : Jvm.MethodName) prog_7_method_4_code (3 : Nat) (Option.some Jvm.ClassFile.FieldType.boolean)) ∈ pz_T := pz_m2 69 rfl rfl
theorem pw_310 : (Jvm.Cond.methodLink "StoneHall$Reader" (51 : Nat) ({ cls := "java/lang/String", name := "length", desc := "()I" } : Jvm.MethodName)) ∈ pz_T := pz_m2 70 rfl rfl
theorem pw_311 : (Jvm.Cond.instanceMethod ({ cls := "java/lang/String", name := "length", desc := "()I" } : Jvm.MethodName)) ∈ pz_T := pz_m2 71 rfl rfl
theorem pw_312 : (Jvm.Cond.selects "java/lang/String" ({ cls := "java/lang/String", name := "length", desc := "()I" } : Jvm.MethodName) ({ cls := "java/lang/String", name := "length", desc := "()I" } : Jvm.MethodName)) ∈ pz_T := pz_m2 72 rfl rfl
theorem pw_313 : (Jvm.Cond.code ({ cls := "java/lang/String", name := "length", desc := "()I" } : Jvm.MethodName) prog_17_method_54_code (1 : Nat) (Option.some Jvm.ClassFile.FieldType.int)) ∈ pz_T := pz_m2 73 rfl rfl
theorem pw_314 : (Jvm.Cond.methodLink "java/lang/String" (335 : Nat) ({ cls := "java/lang/String", name := "coder", desc := "()B" } : Jvm.MethodName)) ∈ pz_T := pz_m2 74 rfl rfl
theorem pw_315 : (Jvm.Cond.instanceMethod ({ cls := "java/lang/String", name := "coder", desc := "()B" } : Jvm.MethodName)) ∈ pz_T := pz_m2 75 rfl rfl
theorem pw_316 : (Jvm.Cond.selects "java/lang/String" ({ cls := "java/lang/String", name := "coder", desc := "()B" } : Jvm.MethodName) ({ cls := "java/lang/String", name := "coder", desc := "()B" } : Jvm.MethodName)) ∈ pz_T := pz_m2 76 rfl rfl
theorem pw_317 : (Jvm.Cond.code ({ cls := "java/lang/String", name := "coder", desc := "()B" } : Jvm.MethodName) prog_17_method_152_code (1 : Nat) (Option.some Jvm.ClassFile.FieldType.byte)) ∈ pz_T := pz_m2 77 rfl rfl
theorem pw_318 : (Jvm.Cond.fieldLink "java/lang/String" (38 : Nat) "java/lang/String" "COMPACT_STRINGS" "Z") ∈ pz_T := pz_m2 78 rfl rfl
theorem pw_320 : (Jvm.Cond.methodLink "StoneHall$Reader" (57 : Nat) ({ cls := "java/lang/String", name := "charAt", desc := "(I)C" } : Jvm.MethodName)) ∈ pz_T := pz_m2 80 rfl rfl
theorem pw_321 : (Jvm.Cond.instanceMethod ({ cls := "java/lang/String", name := "charAt", desc := "(I)C" } : Jvm.MethodName)) ∈ pz_T := pz_m2 81 rfl rfl
theorem pw_322 : (Jvm.Cond.selects "java/lang/String" ({ cls := "java/lang/String", name := "charAt", desc := "(I)C" } : Jvm.MethodName) ({ cls := "java/lang/String", name := "charAt", desc := "(I)C" } : Jvm.MethodName)) ∈ pz_T := pz_m2 82 rfl rfl
theorem pw_323 : (Jvm.Cond.code ({ cls := "java/lang/String", name := "charAt", desc := "(I)C" } : Jvm.MethodName) prog_17_method_56_code (2 : Nat) (Option.some Jvm.ClassFile.FieldType.char)) ∈ pz_T := pz_m2 83 rfl rfl
theorem pw_324 : (Jvm.Cond.methodLink "java/lang/String" (492 : Nat) ({ cls := "java/lang/String", name := "isLatin1", desc := "()Z" } : Jvm.MethodName)) ∈ pz_T := pz_m2 84 rfl rfl
theorem pw_325 : (Jvm.Cond.instanceMethod ({ cls := "java/lang/String", name := "isLatin1", desc := "()Z" } : Jvm.MethodName)) ∈ pz_T := pz_m2 85 rfl rfl
theorem pw_326 : (Jvm.Cond.selects "java/lang/String" ({ cls := "java/lang/String", name := "isLatin1", desc := "()Z" } : Jvm.MethodName) ({ cls := "java/lang/String", name := "isLatin1", desc := "()Z" } : Jvm.MethodName)) ∈ pz_T := pz_m2 86 rfl rfl
theorem pw_327 : (Jvm.Cond.code ({ cls := "java/lang/String", name := "isLatin1", desc := "()Z" } : Jvm.MethodName) prog_17_method_154_code (1 : Nat) (Option.some Jvm.ClassFile.FieldType.boolean)) ∈ pz_T := pz_m2 87 rfl rfl
theorem pw_328 : (Jvm.Cond.methodLink "java/lang/String" (495 : Nat) ({ cls := "java/lang/StringLatin1", name := "charAt", desc := "([BI)C" } : Jvm.MethodName)) ∈ pz_T := pz_m2 88 rfl rfl
theorem pw_329 : (Jvm.Cond.static ({ cls := "java/lang/StringLatin1", name := "charAt", desc := "([BI)C" } : Jvm.MethodName)) ∈ pz_T := pz_m2 89 rfl rfl
theorem pw_330 : (Jvm.Cond.code ({ cls := "java/lang/StringLatin1", name := "charAt", desc := "([BI)C" } : Jvm.MethodName) prog_18_method_2_code (2 : Nat) (Option.some Jvm.ClassFile.FieldType.char)) ∈ pz_T := pz_m2 90 rfl rfl
theorem pw_331 : (Jvm.Cond.methodLink "java/lang/StringLatin1" (9 : Nat) ({ cls := "java/lang/String", name := "checkIndex", desc := "(II)V" } : Jvm.MethodName)) ∈ pz_T := pz_m2 91 rfl rfl
theorem pw_332 : (Jvm.Cond.static ({ cls := "java/lang/String", name := "checkIndex", desc := "(II)V" } : Jvm.MethodName)) ∈ pz_T := pz_m2 92 rfl rfl
theorem pw_333 : (Jvm.Cond.code ({ cls := "java/lang/String", name := "checkIndex", desc := "(II)V" } : Jvm.MethodName) prog_17_method_155_code (2 : Nat) (Option.none : Option Jvm.ClassFile.FieldType)) ∈ pz_T := pz_m2 93 rfl rfl
theorem pw_334 : (Jvm.Cond.fieldLink "java/lang/String" (1053 : Nat) "jdk/internal/util/Preconditions" "SIOOBE_FORMATTER" "Ljava/util/function/BiFunction;") ∈ pz_T := pz_m2 94 rfl rfl
theorem pw_336 : (Jvm.Cond.methodLink "java/lang/String" (1059 : Nat) ({ cls := "jdk/internal/util/Preconditions", name := "checkIndex", desc := "(IILjava/util/function/BiFunction;)I" } : Jvm.MethodName)) ∈ pz_T := pz_m2 96 rfl rfl
theorem pw_337 : (Jvm.Cond.static ({ cls := "jdk/internal/util/Preconditions", name := "checkIndex", desc := "(IILjava/util/function/BiFunction;)I" } : Jvm.MethodName)) ∈ pz_T := pz_m2 97 rfl rfl
theorem pw_338 : (Jvm.Cond.code ({ cls := "jdk/internal/util/Preconditions", name := "checkIndex", desc := "(IILjava/util/function/BiFunction;)I" } : Jvm.MethodName) prog_24_method_11_code (3 : Nat) (Option.some Jvm.ClassFile.FieldType.int)) ∈ pz_T := pz_m2 98 rfl rfl
theorem pw_339 : (Jvm.Cond.methodLink "java/lang/String" (498 : Nat) ({ cls := "java/lang/StringUTF16", name := "charAt", desc := "([BI)C" } : Jvm.MethodName)) ∈ pz_T := pz_m2 99 rfl rfl
theorem pw_340 : (Jvm.Cond.static ({ cls := "java/lang/StringUTF16", name := "charAt", desc := "([BI)C" } : Jvm.MethodName)) ∈ pz_T := pz_m2 100 rfl rfl
theorem pw_341 : (Jvm.Cond.code ({ cls := "java/lang/StringUTF16", name := "charAt", desc := "([BI)C" } : Jvm.MethodName) prog_19_method_83_code (2 : Nat) (Option.some Jvm.ClassFile.FieldType.char)) ∈ pz_T := pz_m2 101 rfl rfl
theorem pw_342 : (Jvm.Cond.methodLink "java/lang/StringUTF16" (67 : Nat) ({ cls := "java/lang/StringUTF16", name := "checkIndex", desc := "(I[B)V" } : Jvm.MethodName)) ∈ pz_T := pz_m2 102 rfl rfl
theorem pw_343 : (Jvm.Cond.static ({ cls := "java/lang/StringUTF16", name := "checkIndex", desc := "(I[B)V" } : Jvm.MethodName)) ∈ pz_T := pz_m2 103 rfl rfl
theorem pw_344 : (Jvm.Cond.code ({ cls := "java/lang/StringUTF16", name := "checkIndex", desc := "(I[B)V" } : Jvm.MethodName) prog_19_method_91_code (2 : Nat) (Option.none : Option Jvm.ClassFile.FieldType)) ∈ pz_T := pz_m2 104 rfl rfl
theorem pw_345 : (Jvm.Cond.methodLink "java/lang/StringUTF16" (48 : Nat) ({ cls := "java/lang/StringUTF16", name := "length", desc := "([B)I" } : Jvm.MethodName)) ∈ pz_T := pz_m2 105 rfl rfl
theorem pw_346 : (Jvm.Cond.static ({ cls := "java/lang/StringUTF16", name := "length", desc := "([B)I" } : Jvm.MethodName)) ∈ pz_T := pz_m2 106 rfl rfl
theorem pw_347 : (Jvm.Cond.code ({ cls := "java/lang/StringUTF16", name := "length", desc := "([B)I" } : Jvm.MethodName) prog_19_method_6_code (1 : Nat) (Option.some Jvm.ClassFile.FieldType.int)) ∈ pz_T := pz_m2 107 rfl rfl
theorem pw_348 : (Jvm.Cond.methodLink "java/lang/StringUTF16" (414 : Nat) ({ cls := "java/lang/String", name := "checkIndex", desc := "(II)V" } : Jvm.MethodName)) ∈ pz_T := pz_m2 108 rfl rfl
theorem pw_349 : (Jvm.Cond.methodLink "java/lang/StringUTF16" (71 : Nat) ({ cls := "java/lang/StringUTF16", name := "getChar", desc := "([BI)C" } : Jvm.MethodName)) ∈ pz_T := pz_m2 109 rfl rfl
theorem pw_350 : (Jvm.Cond.static ({ cls := "java/lang/StringUTF16", name := "getChar", desc := "([BI)C" } : Jvm.MethodName)) ∈ pz_T := pz_m2 110 rfl rfl
theorem pw_351 : (Jvm.Cond.code ({ cls := "java/lang/StringUTF16", name := "getChar", desc := "([BI)C" } : Jvm.MethodName) prog_19_method_5_code (2 : Nat) (Option.some Jvm.ClassFile.FieldType.char)) ∈ pz_T := pz_m2 111 rfl rfl
theorem pw_352 : (Jvm.Cond.fieldLink "java/lang/StringUTF16" (44 : Nat) "java/lang/StringUTF16" "$assertionsDisabled" "Z") ∈ pz_T := pz_m2 112 rfl rfl
theorem pw_354 : (Jvm.Cond.fieldLink "java/lang/StringUTF16" (59 : Nat) "java/lang/StringUTF16" "HI_BYTE_SHIFT" "I") ∈ pz_T := pz_m2 114 rfl rfl
theorem pw_356 : (Jvm.Cond.fieldLink "java/lang/StringUTF16" (63 : Nat) "java/lang/StringUTF16" "LO_BYTE_SHIFT" "I") ∈ pz_T := pz_m2 116 rfl rfl
theorem pw_358 : (Jvm.Cond.methodLink "StoneHall$Customs" (74 : Nat) ({ cls := "StoneHall$Customs", name := "blame", desc := "(I)Z" } : Jvm.MethodName)) ∈ pz_T := pz_m2 118 rfl rfl
theorem pw_360 : (Jvm.Cond.instanceMethod ({ cls := "StoneHall$Customs", name := "blame", desc := "(I)Z" } : Jvm.MethodName)) ∈ pz_T := pz_m2 120 rfl rfl
theorem pw_361 : (Jvm.Cond.code ({ cls := "StoneHall$Customs", name := "blame", desc := "(I)Z" } : Jvm.MethodName) prog_4_method_11_code (2 : Nat) (Option.some Jvm.ClassFile.FieldType.boolean)) ∈ pz_T := pz_m2 121 rfl rfl
theorem pw_362 : (Jvm.Cond.fieldLink "StoneHall$Customs" (64 : Nat) "StoneHall$Line" "OFFER" "LStoneHall$Line;") ∈ pz_T := pz_m2 122 rfl rfl
theorem pw_364 : (Jvm.Cond.methodLink "StoneHall$Customs" (78 : Nat) ({ cls := "StoneHall$Reader", name := "advance", desc := "()V" } : Jvm.MethodName)) ∈ pz_T := pz_m2 124 rfl rfl
theorem pw_365 : (Jvm.Cond.methodLink "StoneHall$Customs" (81 : Nat) ({ cls := "StoneHall$Customs", name := "isNumberUpTo", desc := "(I)Z" } : Jvm.MethodName)) ∈ pz_T := pz_m2 125 rfl rfl
theorem pw_367 : (Jvm.Cond.instanceMethod ({ cls := "StoneHall$Customs", name := "isNumberUpTo", desc := "(I)Z" } : Jvm.MethodName)) ∈ pz_T := pz_m2 127 rfl rfl
theorem pw_368 : (Jvm.Cond.code ({ cls := "StoneHall$Customs", name := "isNumberUpTo", desc := "(I)Z" } : Jvm.MethodName) prog_4_method_10_code (2 : Nat) (Option.some Jvm.ClassFile.FieldType.boolean)) ∈ pz_T := pz_m2 128 rfl rfl
theorem pw_369 : (Jvm.Cond.methodLink "StoneHall$Customs" (87 : Nat) ({ cls := "StoneHall$Customs", name := "keepSaying", desc := "(LStoneHall$Line;I)Z" } : Jvm.MethodName)) ∈ pz_T := pz_m2 129 rfl rfl
theorem pw_371 : (Jvm.Cond.instanceMethod ({ cls := "StoneHall$Customs", name := "keepSaying", desc := "(LStoneHall$Line;I)Z" } : Jvm.MethodName)) ∈ pz_T := pz_m2 131 rfl rfl
theorem pw_372 : (Jvm.Cond.code ({ cls := "StoneHall$Customs", name := "keepSaying", desc := "(LStoneHall$Line;I)Z" } : Jvm.MethodName) prog_4_method_8_code (3 : Nat) (Option.some Jvm.ClassFile.FieldType.boolean)) ∈ pz_T := pz_m2 132 rfl rfl
theorem pw_373 : (Jvm.Cond.methodLink "StoneHall$Customs" (91 : Nat) ({ cls := "StoneHall$Line", name := "isChoice", desc := "()Z" } : Jvm.MethodName)) ∈ pz_T := pz_m2 133 rfl rfl
theorem pw_374 : (Jvm.Cond.instanceMethod ({ cls := "StoneHall$Line", name := "isChoice", desc := "()Z" } : Jvm.MethodName)) ∈ pz_T := pz_m2 134 rfl rfl
theorem pw_375 : (Jvm.Cond.selects "StoneHall$Line" ({ cls := "StoneHall$Line", name := "isChoice", desc := "()Z" } : Jvm.MethodName) ({ cls := "StoneHall$Line", name := "isChoice", desc := "()Z" } : Jvm.MethodName)) ∈ pz_T := pz_m2 135 rfl rfl
theorem pw_376 : (Jvm.Cond.code ({ cls := "StoneHall$Line", name := "isChoice", desc := "()Z" } : Jvm.MethodName) prog_5_method_4_code (1 : Nat) (Option.some Jvm.ClassFile.FieldType.boolean)) ∈ pz_T := pz_m2 136 rfl rfl
theorem pw_377 : (Jvm.Cond.methodLink "StoneHall$Line" (67 : Nat) ({ cls := "java/lang/String", name := "isEmpty", desc := "()Z" } : Jvm.MethodName)) ∈ pz_T := pz_m2 137 rfl rfl
theorem pw_378 : (Jvm.Cond.instanceMethod ({ cls := "java/lang/String", name := "isEmpty", desc := "()Z" } : Jvm.MethodName)) ∈ pz_T := pz_m2 138 rfl rfl
theorem pw_379 : (Jvm.Cond.selects "java/lang/String" ({ cls := "java/lang/String", name := "isEmpty", desc := "()Z" } : Jvm.MethodName) ({ cls := "java/lang/String", name := "isEmpty", desc := "()Z" } : Jvm.MethodName)) ∈ pz_T := pz_m2 139 rfl rfl
theorem pw_380 : (Jvm.Cond.code ({ cls := "java/lang/String", name := "isEmpty", desc := "()Z" } : Jvm.MethodName) prog_17_method_55_code (1 : Nat) (Option.some Jvm.ClassFile.FieldType.boolean)) ∈ pz_T := pz_m2 140 rfl rfl
theorem pw_381 : (Jvm.Cond.methodLink "StoneHall$Customs" (51 : Nat) ({ cls := "java/lang/System", name := "arraycopy", desc := "(Ljava/lang/Object;ILjava/lang/Object;II)V" } : Jvm.MethodName)) ∈ pz_T := pz_m2 141 rfl rfl
theorem pw_382 : (Jvm.Cond.static ({ cls := "java/lang/System", name := "arraycopy", desc := "(Ljava/lang/Object;ILjava/lang/Object;II)V" } : Jvm.MethodName)) ∈ pz_T := pz_m2 142 rfl rfl
theorem pw_383 : (Jvm.Cond.native ({ cls := "java/lang/System", name := "arraycopy", desc := "(Ljava/lang/Object;ILjava/lang/Object;II)V" } : Jvm.MethodName)) ∈ pz_T := pz_m2 143 rfl rfl
theorem pw_384 : (Jvm.Cond.methodLink "StoneHallLaw" (31 : Nat) ({ cls := "StoneHall", name := "fault", desc := "(I)I" } : Jvm.MethodName)) ∈ pz_T := pz_m2 144 rfl rfl
theorem pw_385 : (Jvm.Cond.instanceMethod ({ cls := "StoneHall", name := "fault", desc := "(I)I" } : Jvm.MethodName)) ∈ pz_T := pz_m2 145 rfl rfl
theorem pw_386 : (Jvm.Cond.selects "StoneHall" ({ cls := "StoneHall", name := "fault", desc := "(I)I" } : Jvm.MethodName) ({ cls := "StoneHall", name := "fault", desc := "(I)I" } : Jvm.MethodName)) ∈ pz_T := pz_m2 146 rfl rfl
theorem pw_387 : (Jvm.Cond.code ({ cls := "StoneHall", name := "fault", desc := "(I)I" } : Jvm.MethodName) prog_1_method_4_code (2 : Nat) (Option.some Jvm.ClassFile.FieldType.int)) ∈ pz_T := pz_m2 147 rfl rfl
theorem pw_388 : (Jvm.Cond.methodLink "StoneHallLaw" (35 : Nat) ({ cls := "StoneHall", name := "grade", desc := "(I)I" } : Jvm.MethodName)) ∈ pz_T := pz_m2 148 rfl rfl
theorem pw_389 : (Jvm.Cond.instanceMethod ({ cls := "StoneHall", name := "grade", desc := "(I)I" } : Jvm.MethodName)) ∈ pz_T := pz_m2 149 rfl rfl
theorem pw_390 : (Jvm.Cond.selects "StoneHall" ({ cls := "StoneHall", name := "grade", desc := "(I)I" } : Jvm.MethodName) ({ cls := "StoneHall", name := "grade", desc := "(I)I" } : Jvm.MethodName)) ∈ pz_T := pz_m2 150 rfl rfl
theorem pw_391 : (Jvm.Cond.code ({ cls := "StoneHall", name := "grade", desc := "(I)I" } : Jvm.MethodName) prog_1_method_5_code (2 : Nat) (Option.some Jvm.ClassFile.FieldType.int)) ∈ pz_T := pz_m2 151 rfl rfl
theorem pw_392 : (Jvm.Cond.methodLink "StoneHall" (72 : Nat) ({ cls := "StoneHall$Chances", name := "addGrade", desc := "(I)I" } : Jvm.MethodName)) ∈ pz_T := pz_m2 152 rfl rfl
theorem pw_393 : (Jvm.Cond.instanceMethod ({ cls := "StoneHall$Chances", name := "addGrade", desc := "(I)I" } : Jvm.MethodName)) ∈ pz_T := pz_m2 153 rfl rfl
theorem pw_394 : (Jvm.Cond.selects "StoneHall$Chances" ({ cls := "StoneHall$Chances", name := "addGrade", desc := "(I)I" } : Jvm.MethodName) ({ cls := "StoneHall$Chances", name := "addGrade", desc := "(I)I" } : Jvm.MethodName)) ∈ pz_T := pz_m2 154 rfl rfl
theorem pw_395 : (Jvm.Cond.code ({ cls := "StoneHall$Chances", name := "addGrade", desc := "(I)I" } : Jvm.MethodName) prog_3_method_2_code (2 : Nat) (Option.some Jvm.ClassFile.FieldType.int)) ∈ pz_T := pz_m2 155 rfl rfl
theorem pw_396 : (Jvm.Cond.methodLink "StoneHallLaw" (39 : Nat) ({ cls := "StoneHall", name := "kind", desc := "(IIIII)I" } : Jvm.MethodName)) ∈ pz_T := pz_m2 156 rfl rfl
theorem pw_397 : (Jvm.Cond.instanceMethod ({ cls := "StoneHall", name := "kind", desc := "(IIIII)I" } : Jvm.MethodName)) ∈ pz_T := pz_m2 157 rfl rfl
theorem pw_398 : (Jvm.Cond.selects "StoneHall" ({ cls := "StoneHall", name := "kind", desc := "(IIIII)I" } : Jvm.MethodName) ({ cls := "StoneHall", name := "kind", desc := "(IIIII)I" } : Jvm.MethodName)) ∈ pz_T := pz_m2 158 rfl rfl
theorem pw_399 : (Jvm.Cond.code ({ cls := "StoneHall", name := "kind", desc := "(IIIII)I" } : Jvm.MethodName) prog_1_method_6_code (6 : Nat) (Option.some Jvm.ClassFile.FieldType.int)) ∈ pz_T := pz_m2 159 rfl rfl
theorem pw_400 : (Jvm.Cond.methodLink "StoneHall" (76 : Nat) ({ cls := "StoneHall$Chances", name := "addKind", desc := "(IIIII)I" } : Jvm.MethodName)) ∈ pz_T := pz_m2 160 rfl rfl
theorem pw_401 : (Jvm.Cond.instanceMethod ({ cls := "StoneHall$Chances", name := "addKind", desc := "(IIIII)I" } : Jvm.MethodName)) ∈ pz_T := pz_m2 161 rfl rfl
theorem pw_402 : (Jvm.Cond.selects "StoneHall$Chances" ({ cls := "StoneHall$Chances", name := "addKind", desc := "(IIIII)I" } : Jvm.MethodName) ({ cls := "StoneHall$Chances", name := "addKind", desc := "(IIIII)I" } : Jvm.MethodName)) ∈ pz_T := pz_m2 162 rfl rfl
theorem pw_403 : (Jvm.Cond.code ({ cls := "StoneHall$Chances", name := "addKind", desc := "(IIIII)I" } : Jvm.MethodName) prog_3_method_4_code (6 : Nat) (Option.some Jvm.ClassFile.FieldType.int)) ∈ pz_T := pz_m2 163 rfl rfl
theorem pw_404 : (Jvm.Cond.methodLink "StoneHall$Chances" (54 : Nat) ({ cls := "StoneHall$Chances", name := "canWeigh", desc := "(II)Z" } : Jvm.MethodName)) ∈ pz_T := pz_m2 164 rfl rfl
theorem pw_406 : (Jvm.Cond.instanceMethod ({ cls := "StoneHall$Chances", name := "canWeigh", desc := "(II)Z" } : Jvm.MethodName)) ∈ pz_T := pz_m2 166 rfl rfl
theorem pw_407 : (Jvm.Cond.code ({ cls := "StoneHall$Chances", name := "canWeigh", desc := "(II)Z" } : Jvm.MethodName) prog_3_method_5_code (3 : Nat) (Option.some Jvm.ClassFile.FieldType.boolean)) ∈ pz_T := pz_m2 167 rfl rfl
theorem pw_408 : (Jvm.Cond.methodLink "StoneHall$Chances" (58 : Nat) ({ cls := "StoneHall$Chances", name := "keepWeight", desc := "(II)V" } : Jvm.MethodName)) ∈ pz_T := pz_m2 168 rfl rfl
theorem pw_410 : (Jvm.Cond.instanceMethod ({ cls := "StoneHall$Chances", name := "keepWeight", desc := "(II)V" } : Jvm.MethodName)) ∈ pz_T := pz_m2 170 rfl rfl
theorem pw_411 : (Jvm.Cond.code ({ cls := "StoneHall$Chances", name := "keepWeight", desc := "(II)V" } : Jvm.MethodName) prog_3_method_6_code (7 : Nat) (Option.none : Option Jvm.ClassFile.FieldType)) ∈ pz_T := pz_m2 171 rfl rfl
theorem pw_412 : (Jvm.Cond.methodLink "StoneHallLaw" (43 : Nat) ({ cls := "StoneHall", name := "man", desc := "(I)I" } : Jvm.MethodName)) ∈ pz_T := pz_m2 172 rfl rfl
theorem pw_413 : (Jvm.Cond.instanceMethod ({ cls := "StoneHall", name := "man", desc := "(I)I" } : Jvm.MethodName)) ∈ pz_T := pz_m2 173 rfl rfl
theorem pw_414 : (Jvm.Cond.selects "StoneHall" ({ cls := "StoneHall", name := "man", desc := "(I)I" } : Jvm.MethodName) ({ cls := "StoneHall", name := "man", desc := "(I)I" } : Jvm.MethodName)) ∈ pz_T := pz_m2 174 rfl rfl
theorem pw_415 : (Jvm.Cond.code ({ cls := "StoneHall", name := "man", desc := "(I)I" } : Jvm.MethodName) prog_1_method_7_code (2 : Nat) (Option.some Jvm.ClassFile.FieldType.int)) ∈ pz_T := pz_m2 175 rfl rfl
theorem pw_416 : (Jvm.Cond.methodLink "StoneHall" (80 : Nat) ({ cls := "StoneHall$Men", name := "add", desc := "(I)I" } : Jvm.MethodName)) ∈ pz_T := pz_m2 176 rfl rfl
theorem pw_417 : (Jvm.Cond.instanceMethod ({ cls := "StoneHall$Men", name := "add", desc := "(I)I" } : Jvm.MethodName)) ∈ pz_T := pz_m2 177 rfl rfl
theorem pw_418 : (Jvm.Cond.selects "StoneHall$Men" ({ cls := "StoneHall$Men", name := "add", desc := "(I)I" } : Jvm.MethodName) ({ cls := "StoneHall$Men", name := "add", desc := "(I)I" } : Jvm.MethodName)) ∈ pz_T := pz_m2 178 rfl rfl
theorem pw_419 : (Jvm.Cond.code ({ cls := "StoneHall$Men", name := "add", desc := "(I)I" } : Jvm.MethodName) prog_6_method_2_code (2 : Nat) (Option.some Jvm.ClassFile.FieldType.int)) ∈ pz_T := pz_m2 179 rfl rfl
theorem pw_420 : (Jvm.Cond.constant "StoneHall$Men" (18 : Nat) (999999 : Int32)) ∈ pz_T := pz_m2 180 rfl rfl
theorem pw_421 : (Jvm.Cond.methodLink "StoneHallLaw" (47 : Nat) ({ cls := "StoneHall", name := "boulder", desc := "(III)I" } : Jvm.MethodName)) ∈ pz_T := pz_m2 181 rfl rfl
theorem pw_422 : (Jvm.Cond.instanceMethod ({ cls := "StoneHall", name := "boulder", desc := "(III)I" } : Jvm.MethodName)) ∈ pz_T := pz_m2 182 rfl rfl
theorem pw_423 : (Jvm.Cond.selects "StoneHall" ({ cls := "StoneHall", name := "boulder", desc := "(III)I" } : Jvm.MethodName) ({ cls := "StoneHall", name := "boulder", desc := "(III)I" } : Jvm.MethodName)) ∈ pz_T := pz_m2 183 rfl rfl
theorem pw_424 : (Jvm.Cond.code ({ cls := "StoneHall", name := "boulder", desc := "(III)I" } : Jvm.MethodName) prog_1_method_8_code (4 : Nat) (Option.some Jvm.ClassFile.FieldType.int)) ∈ pz_T := pz_m2 184 rfl rfl
theorem pw_425 : (Jvm.Cond.methodLink "StoneHall" (86 : Nat) ({ cls := "StoneHall$Men", name := "has", desc := "(I)Z" } : Jvm.MethodName)) ∈ pz_T := pz_m2 185 rfl rfl
theorem pw_426 : (Jvm.Cond.instanceMethod ({ cls := "StoneHall$Men", name := "has", desc := "(I)Z" } : Jvm.MethodName)) ∈ pz_T := pz_m2 186 rfl rfl
theorem pw_427 : (Jvm.Cond.selects "StoneHall$Men" ({ cls := "StoneHall$Men", name := "has", desc := "(I)Z" } : Jvm.MethodName) ({ cls := "StoneHall$Men", name := "has", desc := "(I)Z" } : Jvm.MethodName)) ∈ pz_T := pz_m2 187 rfl rfl
theorem pw_428 : (Jvm.Cond.code ({ cls := "StoneHall$Men", name := "has", desc := "(I)Z" } : Jvm.MethodName) prog_6_method_3_code (2 : Nat) (Option.some Jvm.ClassFile.FieldType.boolean)) ∈ pz_T := pz_m2 188 rfl rfl
theorem pw_429 : (Jvm.Cond.methodLink "StoneHall" (90 : Nat) ({ cls := "StoneHall$Chances", name := "knowsAll", desc := "(II)Z" } : Jvm.MethodName)) ∈ pz_T := pz_m2 189 rfl rfl
theorem pw_430 : (Jvm.Cond.instanceMethod ({ cls := "StoneHall$Chances", name := "knowsAll", desc := "(II)Z" } : Jvm.MethodName)) ∈ pz_T := pz_m2 190 rfl rfl
theorem pw_431 : (Jvm.Cond.selects "StoneHall$Chances" ({ cls := "StoneHall$Chances", name := "knowsAll", desc := "(II)Z" } : Jvm.MethodName) ({ cls := "StoneHall$Chances", name := "knowsAll", desc := "(II)Z" } : Jvm.MethodName)) ∈ pz_T := pz_m2 191 rfl rfl
theorem pw_432 : (Jvm.Cond.code ({ cls := "StoneHall$Chances", name := "knowsAll", desc := "(II)Z" } : Jvm.MethodName) prog_3_method_3_code (4 : Nat) (Option.some Jvm.ClassFile.FieldType.boolean)) ∈ pz_T := pz_m2 192 rfl rfl
theorem pw_433 : (Jvm.Cond.methodLink "StoneHall$Chances" (45 : Nat) ({ cls := "StoneHall$Boulder", name := "gradeInside", desc := "(II)I" } : Jvm.MethodName)) ∈ pz_T := pz_m2 193 rfl rfl
theorem pw_434 : (Jvm.Cond.static ({ cls := "StoneHall$Boulder", name := "gradeInside", desc := "(II)I" } : Jvm.MethodName)) ∈ pz_T := pz_m2 194 rfl rfl
theorem pw_435 : (Jvm.Cond.code ({ cls := "StoneHall$Boulder", name := "gradeInside", desc := "(II)I" } : Jvm.MethodName) prog_2_method_2_code (2 : Nat) (Option.some Jvm.ClassFile.FieldType.int)) ∈ pz_T := pz_m2 195 rfl rfl
theorem pw_436 : (Jvm.Cond.instantiable "StoneHall$Boulder" (8 : Nat)) ∈ pz_T := pz_m2 196 rfl rfl
theorem pw_437 : (Jvm.Cond.methodLink "StoneHall" (94 : Nat) ({ cls := "StoneHall$Boulder", name := "<init>", desc := "(III)V" } : Jvm.MethodName)) ∈ pz_T := pz_m2 197 rfl rfl
theorem pw_438 : (Jvm.Cond.instanceMethod ({ cls := "StoneHall$Boulder", name := "<init>", desc := "(III)V" } : Jvm.MethodName)) ∈ pz_T := pz_m2 198 rfl rfl
theorem pw_439 : (Jvm.Cond.code ({ cls := "StoneHall$Boulder", name := "<init>", desc := "(III)V" } : Jvm.MethodName) prog_2_method_1_code (4 : Nat) (Option.none : Option Jvm.ClassFile.FieldType)) ∈ pz_T := pz_m2 199 rfl rfl
theorem pw_440 : (Jvm.Cond.methodLink "StoneHall$Boulder" (3 : Nat) ({ cls := "java/lang/Object", name := "<init>", desc := "()V" } : Jvm.MethodName)) ∈ pz_T := pz_m2 200 rfl rfl
theorem pw_441 : (Jvm.Cond.fieldLink "StoneHall$Boulder" (21 : Nat) "StoneHall$Boulder" "slices" "I") ∈ pz_T := pz_m2 201 rfl rfl
theorem pw_442 : (Jvm.Cond.fieldLink "StoneHall" (177 : Nat) "StoneHall$Boulder" "slices" "I") ∈ pz_T := pz_m2 202 rfl rfl
theorem pw_443 : (Jvm.Cond.fieldLink "StoneHall$Boulder" (25 : Nat) "StoneHall$Boulder" "inside" "I") ∈ pz_T := pz_m2 203 rfl rfl
theorem pw_444 : (Jvm.Cond.fieldLink "StoneHall$Boulder" (9 : Nat) "StoneHall$Boulder" "parts" "[I") ∈ pz_T := pz_m2 204 rfl rfl
theorem pw_445 : (Jvm.Cond.fieldLink "StoneHall$Sale" (90 : Nat) "StoneHall$Boulder" "parts" "[I") ∈ pz_T := pz_m2 205 rfl rfl
theorem pw_446 : (Jvm.Cond.fieldLink "StoneHall$Men" (27 : Nat) "StoneHall$Boulder" "parts" "[I") ∈ pz_T := pz_m2 206 rfl rfl
theorem pw_447 : (Jvm.Cond.fieldLink "StoneHall" (101 : Nat) "StoneHall$Boulder" "parts" "[I") ∈ pz_T := pz_m2 207 rfl rfl
theorem pw_448 : (Jvm.Cond.fieldLink "StoneHall$Boulder" (15 : Nat) "StoneHall$Boulder" "bidders" "[I") ∈ pz_T := pz_m2 208 rfl rfl
theorem pw_449 : (Jvm.Cond.fieldLink "StoneHall$Sale" (80 : Nat) "StoneHall$Boulder" "bidders" "[I") ∈ pz_T := pz_m2 209 rfl rfl
theorem pw_450 : (Jvm.Cond.fieldLink "StoneHall$Boulder" (18 : Nat) "StoneHall$Boulder" "bidCoins" "[I") ∈ pz_T := pz_m2 210 rfl rfl
theorem pw_451 : (Jvm.Cond.fieldLink "StoneHall$Sale" (81 : Nat) "StoneHall$Boulder" "bidCoins" "[I") ∈ pz_T := pz_m2 211 rfl rfl
theorem pw_452 : (Jvm.Cond.fieldLink "StoneHall$Sale" (39 : Nat) "StoneHall$Boulder" "bidCount" "I") ∈ pz_T := pz_m2 212 rfl rfl
theorem pw_453 : (Jvm.Cond.fieldLink "StoneHall$Boulder" (43 : Nat) "StoneHall$Boulder" "bidCount" "I") ∈ pz_T := pz_m2 213 rfl rfl
theorem pw_454 : (Jvm.Cond.fieldLink "StoneHall" (110 : Nat) "StoneHall$Boulder" "bidCount" "I") ∈ pz_T := pz_m2 214 rfl rfl
theorem pw_455 : (Jvm.Cond.fieldLink "StoneHall$Boulder" (32 : Nat) "StoneHall$Boulder" "seen" "I") ∈ pz_T := pz_m2 215 rfl rfl
theorem pw_456 : (Jvm.Cond.fieldLink "StoneHall$Chances" (65 : Nat) "StoneHall$Boulder" "seen" "I") ∈ pz_T := pz_m2 216 rfl rfl
theorem pw_457 : (Jvm.Cond.fieldLink "StoneHall" (180 : Nat) "StoneHall$Boulder" "seen" "I") ∈ pz_T := pz_m2 217 rfl rfl
theorem pw_458 : (Jvm.Cond.fieldLink "StoneHall$Boulder" (39 : Nat) "StoneHall$Boulder" "spent" "Z") ∈ pz_T := pz_m2 218 rfl rfl
theorem pw_459 : (Jvm.Cond.fieldLink "StoneHall" (163 : Nat) "StoneHall$Boulder" "spent" "Z") ∈ pz_T := pz_m2 219 rfl rfl
theorem pw_460 : (Jvm.Cond.laysFinal "StoneHall$Boulder" "StoneHall$Boulder" "slices" "I") ∈ pz_T := pz_m2 220 rfl rfl
theorem pw_461 : (Jvm.Cond.soleField "StoneHall$Boulder" "slices") ∈ pz_T := pz_m2 221 rfl rfl
theorem pw_462 : (Jvm.Cond.laysFinal "StoneHall$Boulder" "StoneHall$Boulder" "inside" "I") ∈ pz_T := pz_m2 222 rfl rfl
theorem pw_463 : (Jvm.Cond.soleField "StoneHall$Boulder" "inside") ∈ pz_T := pz_m2 223 rfl rfl
theorem pw_464 : (Jvm.Cond.laysFinal "StoneHall$Boulder" "StoneHall$Boulder" "parts" "[I") ∈ pz_T := pz_m2 224 rfl rfl
theorem pw_465 : (Jvm.Cond.soleField "StoneHall$Boulder" "parts") ∈ pz_T := pz_m2 225 rfl rfl
theorem pw_466 : (Jvm.Cond.laysFinal "StoneHall$Boulder" "StoneHall$Boulder" "bidders" "[I") ∈ pz_T := pz_m2 226 rfl rfl
theorem pw_467 : (Jvm.Cond.soleField "StoneHall$Boulder" "bidders") ∈ pz_T := pz_m2 227 rfl rfl
theorem pw_468 : (Jvm.Cond.laysFinal "StoneHall$Boulder" "StoneHall$Boulder" "bidCoins" "[I") ∈ pz_T := pz_m2 228 rfl rfl
theorem pw_469 : (Jvm.Cond.soleField "StoneHall$Boulder" "bidCoins") ∈ pz_T := pz_m2 229 rfl rfl
theorem pw_470 : (Jvm.Cond.lays "StoneHall$Boulder" "StoneHall$Boulder" "bidCount" "I") ∈ pz_T := pz_m2 230 rfl rfl
theorem pw_471 : (Jvm.Cond.soleField "StoneHall$Boulder" "bidCount") ∈ pz_T := pz_m2 231 rfl rfl
theorem pw_472 : (Jvm.Cond.lays "StoneHall$Boulder" "StoneHall$Boulder" "seen" "I") ∈ pz_T := pz_m2 232 rfl rfl
theorem pw_473 : (Jvm.Cond.soleField "StoneHall$Boulder" "seen") ∈ pz_T := pz_m2 233 rfl rfl
theorem pw_474 : (Jvm.Cond.lays "StoneHall$Boulder" "StoneHall$Boulder" "spent" "Z") ∈ pz_T := pz_m2 234 rfl rfl
theorem pw_475 : (Jvm.Cond.soleField "StoneHall$Boulder" "spent") ∈ pz_T := pz_m2 235 rfl rfl
theorem pw_476 : (Jvm.Cond.superclass "StoneHall$Boulder" "java/lang/Object") ∈ pz_T := pz_m2 236 rfl rfl
theorem pw_477 : (Jvm.Cond.methodLink "StoneHallLaw" (52 : Nat) ({ cls := "StoneHall", name := "share", desc := "(IIII)Z" } : Jvm.MethodName)) ∈ pz_T := pz_m2 237 rfl rfl
theorem pw_478 : (Jvm.Cond.instanceMethod ({ cls := "StoneHall", name := "share", desc := "(IIII)Z" } : Jvm.MethodName)) ∈ pz_T := pz_m2 238 rfl rfl
theorem pw_479 : (Jvm.Cond.selects "StoneHall" ({ cls := "StoneHall", name := "share", desc := "(IIII)Z" } : Jvm.MethodName) ({ cls := "StoneHall", name := "share", desc := "(IIII)Z" } : Jvm.MethodName)) ∈ pz_T := pz_m2 239 rfl rfl
theorem pw_480 : (Jvm.Cond.code ({ cls := "StoneHall", name := "share", desc := "(IIII)Z" } : Jvm.MethodName) prog_1_method_9_code (6 : Nat) (Option.some Jvm.ClassFile.FieldType.boolean)) ∈ pz_T := pz_m3 0 rfl rfl
theorem pw_481 : (Jvm.Cond.methodLink "StoneHall" (97 : Nat) ({ cls := "StoneHall", name := "unspent", desc := "(I)LStoneHall$Boulder;" } : Jvm.MethodName)) ∈ pz_T := pz_m3 1 rfl rfl
theorem pw_483 : (Jvm.Cond.instanceMethod ({ cls := "StoneHall", name := "unspent", desc := "(I)LStoneHall$Boulder;" } : Jvm.MethodName)) ∈ pz_T := pz_m3 3 rfl rfl
theorem pw_484 : (Jvm.Cond.code ({ cls := "StoneHall", name := "unspent", desc := "(I)LStoneHall$Boulder;" } : Jvm.MethodName) prog_1_method_23_code (3 : Nat) (Option.some (Jvm.ClassFile.FieldType.object "StoneHall$Boulder"))) ∈ pz_T := pz_m3 4 rfl rfl
theorem pw_485 : (Jvm.Cond.methodLink "StoneHall" (167 : Nat) ({ cls := "StoneHall", name := "known", desc := "(I)LStoneHall$Boulder;" } : Jvm.MethodName)) ∈ pz_T := pz_m3 5 rfl rfl
theorem pw_487 : (Jvm.Cond.instanceMethod ({ cls := "StoneHall", name := "known", desc := "(I)LStoneHall$Boulder;" } : Jvm.MethodName)) ∈ pz_T := pz_m3 7 rfl rfl
theorem pw_488 : (Jvm.Cond.code ({ cls := "StoneHall", name := "known", desc := "(I)LStoneHall$Boulder;" } : Jvm.MethodName) prog_1_method_22_code (2 : Nat) (Option.some (Jvm.ClassFile.FieldType.object "StoneHall$Boulder"))) ∈ pz_T := pz_m3 8 rfl rfl
theorem pw_489 : (Jvm.Cond.methodLink "StoneHallLaw" (57 : Nat) ({ cls := "StoneHall", name := "bid", desc := "(III)I" } : Jvm.MethodName)) ∈ pz_T := pz_m3 9 rfl rfl
theorem pw_490 : (Jvm.Cond.instanceMethod ({ cls := "StoneHall", name := "bid", desc := "(III)I" } : Jvm.MethodName)) ∈ pz_T := pz_m3 10 rfl rfl
theorem pw_491 : (Jvm.Cond.selects "StoneHall" ({ cls := "StoneHall", name := "bid", desc := "(III)I" } : Jvm.MethodName) ({ cls := "StoneHall", name := "bid", desc := "(III)I" } : Jvm.MethodName)) ∈ pz_T := pz_m3 11 rfl rfl
theorem pw_492 : (Jvm.Cond.code ({ cls := "StoneHall", name := "bid", desc := "(III)I" } : Jvm.MethodName) prog_1_method_10_code (5 : Nat) (Option.some Jvm.ClassFile.FieldType.int)) ∈ pz_T := pz_m3 12 rfl rfl
theorem pw_493 : (Jvm.Cond.constant "StoneHall" (105 : Nat) (99999 : Int32)) ∈ pz_T := pz_m3 13 rfl rfl
theorem pw_494 : (Jvm.Cond.methodLink "StoneHall" (106 : Nat) ({ cls := "StoneHall$Boulder", name := "placeBid", desc := "(II)V" } : Jvm.MethodName)) ∈ pz_T := pz_m3 14 rfl rfl
theorem pw_495 : (Jvm.Cond.instanceMethod ({ cls := "StoneHall$Boulder", name := "placeBid", desc := "(II)V" } : Jvm.MethodName)) ∈ pz_T := pz_m3 15 rfl rfl
theorem pw_496 : (Jvm.Cond.selects "StoneHall$Boulder" ({ cls := "StoneHall$Boulder", name := "placeBid", desc := "(II)V" } : Jvm.MethodName) ({ cls := "StoneHall$Boulder", name := "placeBid", desc := "(II)V" } : Jvm.MethodName)) ∈ pz_T := pz_m3 16 rfl rfl
theorem pw_497 : (Jvm.Cond.code ({ cls := "StoneHall$Boulder", name := "placeBid", desc := "(II)V" } : Jvm.MethodName) prog_2_method_7_code (4 : Nat) (Option.none : Option Jvm.ClassFile.FieldType)) ∈ pz_T := pz_m3 17 rfl rfl
theorem pw_498 : (Jvm.Cond.methodLink "StoneHallLaw" (61 : Nat) ({ cls := "StoneHall", name := "open", desc := "(I)I" } : Jvm.MethodName)) ∈ pz_T := pz_m3 18 rfl rfl
theorem pw_499 : (Jvm.Cond.instanceMethod ({ cls := "StoneHall", name := "open", desc := "(I)I" } : Jvm.MethodName)) ∈ pz_T := pz_m3 19 rfl rfl
theorem pw_500 : (Jvm.Cond.selects "StoneHall" ({ cls := "StoneHall", name := "open", desc := "(I)I" } : Jvm.MethodName) ({ cls := "StoneHall", name := "open", desc := "(I)I" } : Jvm.MethodName)) ∈ pz_T := pz_m3 20 rfl rfl
theorem pw_501 : (Jvm.Cond.code ({ cls := "StoneHall", name := "open", desc := "(I)I" } : Jvm.MethodName) prog_1_method_11_code (4 : Nat) (Option.some Jvm.ClassFile.FieldType.int)) ∈ pz_T := pz_m3 21 rfl rfl
theorem pw_502 : (Jvm.Cond.methodLink "StoneHall" (113 : Nat) ({ cls := "StoneHall$Sale", name := "hold", desc := "(LStoneHall$Boulder;LStoneHall$Men;LStoneHall$Customs;)I" } : Jvm.MethodName)) ∈ pz_T := pz_m3 22 rfl rfl
theorem pw_503 : (Jvm.Cond.instanceMethod ({ cls := "StoneHall$Sale", name := "hold", desc := "(LStoneHall$Boulder;LStoneHall$Men;LStoneHall$Customs;)I" } : Jvm.MethodName)) ∈ pz_T := pz_m3 23 rfl rfl
theorem pw_504 : (Jvm.Cond.selects "StoneHall$Sale" ({ cls := "StoneHall$Sale", name := "hold", desc := "(LStoneHall$Boulder;LStoneHall$Men;LStoneHall$Customs;)I" } : Jvm.MethodName) ({ cls := "StoneHall$Sale", name := "hold", desc := "(LStoneHall$Boulder;LStoneHall$Men;LStoneHall$Customs;)I" } : Jvm.MethodName)) ∈ pz_T := pz_m3 24 rfl rfl
theorem pw_505 : (Jvm.Cond.code ({ cls := "StoneHall$Sale", name := "hold", desc := "(LStoneHall$Boulder;LStoneHall$Men;LStoneHall$Customs;)I" } : Jvm.MethodName) prog_8_method_3_code (6 : Nat) (Option.some Jvm.ClassFile.FieldType.int)) ∈ pz_T := pz_m3 25 rfl rfl
theorem pw_506 : (Jvm.Cond.methodLink "StoneHall$Sale" (35 : Nat) ({ cls := "StoneHall$Sale", name := "rankBids", desc := "(LStoneHall$Boulder;LStoneHall$Men;LStoneHall$Customs;)V" } : Jvm.MethodName)) ∈ pz_T := pz_m3 26 rfl rfl
theorem pw_508 : (Jvm.Cond.instanceMethod ({ cls := "StoneHall$Sale", name := "rankBids", desc := "(LStoneHall$Boulder;LStoneHall$Men;LStoneHall$Customs;)V" } : Jvm.MethodName)) ∈ pz_T := pz_m3 28 rfl rfl
theorem pw_509 : (Jvm.Cond.code ({ cls := "StoneHall$Sale", name := "rankBids", desc := "(LStoneHall$Boulder;LStoneHall$Men;LStoneHall$Customs;)V" } : Jvm.MethodName) prog_8_method_4_code (8 : Nat) (Option.none : Option Jvm.ClassFile.FieldType)) ∈ pz_T := pz_m3 29 rfl rfl
theorem pw_510 : (Jvm.Cond.fieldLink "StoneHall$Sale" (84 : Nat) "StoneHall$Line" "RESERVE" "LStoneHall$Line;") ∈ pz_T := pz_m3 30 rfl rfl
theorem pw_512 : (Jvm.Cond.methodLink "StoneHall$Sale" (87 : Nat) ({ cls := "StoneHall$Customs", name := "coins", desc := "(LStoneHall$Line;)I" } : Jvm.MethodName)) ∈ pz_T := pz_m3 32 rfl rfl
theorem pw_513 : (Jvm.Cond.instanceMethod ({ cls := "StoneHall$Customs", name := "coins", desc := "(LStoneHall$Line;)I" } : Jvm.MethodName)) ∈ pz_T := pz_m3 33 rfl rfl
theorem pw_514 : (Jvm.Cond.selects "StoneHall$Customs" ({ cls := "StoneHall$Customs", name := "coins", desc := "(LStoneHall$Line;)I" } : Jvm.MethodName) ({ cls := "StoneHall$Customs", name := "coins", desc := "(LStoneHall$Line;)I" } : Jvm.MethodName)) ∈ pz_T := pz_m3 34 rfl rfl
theorem pw_515 : (Jvm.Cond.code ({ cls := "StoneHall$Customs", name := "coins", desc := "(LStoneHall$Line;)I" } : Jvm.MethodName) prog_4_method_3_code (2 : Nat) (Option.some Jvm.ClassFile.FieldType.int)) ∈ pz_T := pz_m3 35 rfl rfl
theorem pw_516 : (Jvm.Cond.methodLink "StoneHall$Sale" (93 : Nat) ({ cls := "StoneHall$Sale", name := "depositOf", desc := "(ILStoneHall$Customs;)I" } : Jvm.MethodName)) ∈ pz_T := pz_m3 36 rfl rfl
theorem pw_517 : (Jvm.Cond.static ({ cls := "StoneHall$Sale", name := "depositOf", desc := "(ILStoneHall$Customs;)I" } : Jvm.MethodName)) ∈ pz_T := pz_m3 37 rfl rfl
theorem pw_518 : (Jvm.Cond.code ({ cls := "StoneHall$Sale", name := "depositOf", desc := "(ILStoneHall$Customs;)I" } : Jvm.MethodName) prog_8_method_10_code (2 : Nat) (Option.some Jvm.ClassFile.FieldType.int)) ∈ pz_T := pz_m3 38 rfl rfl
theorem pw_519 : (Jvm.Cond.fieldLink "StoneHall$Sale" (123 : Nat) "StoneHall$Line" "DEPOSIT" "LStoneHall$Line;") ∈ pz_T := pz_m3 39 rfl rfl
theorem pw_521 : (Jvm.Cond.methodLink "StoneHall$Sale" (96 : Nat) ({ cls := "StoneHall$Sale", name := "rank", desc := "(II)V" } : Jvm.MethodName)) ∈ pz_T := pz_m3 41 rfl rfl
theorem pw_523 : (Jvm.Cond.instanceMethod ({ cls := "StoneHall$Sale", name := "rank", desc := "(II)V" } : Jvm.MethodName)) ∈ pz_T := pz_m3 43 rfl rfl
theorem pw_524 : (Jvm.Cond.code ({ cls := "StoneHall$Sale", name := "rank", desc := "(II)V" } : Jvm.MethodName) prog_8_method_5_code (4 : Nat) (Option.none : Option Jvm.ClassFile.FieldType)) ∈ pz_T := pz_m3 44 rfl rfl
theorem pw_525 : (Jvm.Cond.methodLink "StoneHall$Sale" (47 : Nat) ({ cls := "StoneHall$Sale", name := "isBarredTie", desc := "(ILStoneHall$Customs;)Z" } : Jvm.MethodName)) ∈ pz_T := pz_m3 45 rfl rfl
theorem pw_527 : (Jvm.Cond.instanceMethod ({ cls := "StoneHall$Sale", name := "isBarredTie", desc := "(ILStoneHall$Customs;)Z" } : Jvm.MethodName)) ∈ pz_T := pz_m3 47 rfl rfl
theorem pw_528 : (Jvm.Cond.code ({ cls := "StoneHall$Sale", name := "isBarredTie", desc := "(ILStoneHall$Customs;)Z" } : Jvm.MethodName) prog_8_method_6_code (3 : Nat) (Option.some Jvm.ClassFile.FieldType.boolean)) ∈ pz_T := pz_m3 48 rfl rfl
theorem pw_529 : (Jvm.Cond.fieldLink "StoneHall$Sale" (100 : Nat) "StoneHall$Line" "TIE" "LStoneHall$Line;") ∈ pz_T := pz_m3 49 rfl rfl
theorem pw_531 : (Jvm.Cond.methodLink "StoneHall$Sale" (74 : Nat) ({ cls := "StoneHall$Customs", name := "saysOther", desc := "(LStoneHall$Line;)Z" } : Jvm.MethodName)) ∈ pz_T := pz_m3 51 rfl rfl
theorem pw_532 : (Jvm.Cond.instanceMethod ({ cls := "StoneHall$Customs", name := "saysOther", desc := "(LStoneHall$Line;)Z" } : Jvm.MethodName)) ∈ pz_T := pz_m3 52 rfl rfl
theorem pw_533 : (Jvm.Cond.selects "StoneHall$Customs" ({ cls := "StoneHall$Customs", name := "saysOther", desc := "(LStoneHall$Line;)Z" } : Jvm.MethodName) ({ cls := "StoneHall$Customs", name := "saysOther", desc := "(LStoneHall$Line;)Z" } : Jvm.MethodName)) ∈ pz_T := pz_m3 53 rfl rfl
theorem pw_534 : (Jvm.Cond.code ({ cls := "StoneHall$Customs", name := "saysOther", desc := "(LStoneHall$Line;)Z" } : Jvm.MethodName) prog_4_method_4_code (2 : Nat) (Option.some Jvm.ClassFile.FieldType.boolean)) ∈ pz_T := pz_m3 54 rfl rfl
theorem pw_535 : (Jvm.Cond.methodLink "StoneHall$Sale" (51 : Nat) ({ cls := "StoneHall$Sale", name := "priceFor", desc := "(ILStoneHall$Customs;)I" } : Jvm.MethodName)) ∈ pz_T := pz_m3 55 rfl rfl
theorem pw_537 : (Jvm.Cond.instanceMethod ({ cls := "StoneHall$Sale", name := "priceFor", desc := "(ILStoneHall$Customs;)I" } : Jvm.MethodName)) ∈ pz_T := pz_m3 57 rfl rfl
theorem pw_538 : (Jvm.Cond.code ({ cls := "StoneHall$Sale", name := "priceFor", desc := "(ILStoneHall$Customs;)I" } : Jvm.MethodName) prog_8_method_7_code (4 : Nat) (Option.some Jvm.ClassFile.FieldType.int)) ∈ pz_T := pz_m3 58 rfl rfl
theorem pw_539 : (Jvm.Cond.fieldLink "StoneHall$Sale" (103 : Nat) "StoneHall$Line" "PRICE" "LStoneHall$Line;") ∈ pz_T := pz_m3 59 rfl rfl
theorem pw_541 : (Jvm.Cond.methodLink "StoneHall$Sale" (106 : Nat) ({ cls := "java/lang/Math", name := "max", desc := "(II)I" } : Jvm.MethodName)) ∈ pz_T := pz_m3 61 rfl rfl
theorem pw_542 : (Jvm.Cond.static ({ cls := "java/lang/Math", name := "max", desc := "(II)I" } : Jvm.MethodName)) ∈ pz_T := pz_m3 62 rfl rfl
theorem pw_543 : (Jvm.Cond.code ({ cls := "java/lang/Math", name := "max", desc := "(II)I" } : Jvm.MethodName) prog_15_method_65_code (2 : Nat) (Option.some Jvm.ClassFile.FieldType.int)) ∈ pz_T := pz_m3 63 rfl rfl
theorem pw_544 : (Jvm.Cond.methodLink "StoneHall$Sale" (60 : Nat) ({ cls := "StoneHall$Sale", name := "settle", desc := "(IILStoneHall$Boulder;LStoneHall$Men;LStoneHall$Customs;)V" } : Jvm.MethodName)) ∈ pz_T := pz_m3 64 rfl rfl
theorem pw_546 : (Jvm.Cond.instanceMethod ({ cls := "StoneHall$Sale", name := "settle", desc := "(IILStoneHall$Boulder;LStoneHall$Men;LStoneHall$Customs;)V" } : Jvm.MethodName)) ∈ pz_T := pz_m3 66 rfl rfl
theorem pw_547 : (Jvm.Cond.code ({ cls := "StoneHall$Sale", name := "settle", desc := "(IILStoneHall$Boulder;LStoneHall$Men;LStoneHall$Customs;)V" } : Jvm.MethodName) prog_8_method_8_code (6 : Nat) (Option.none : Option Jvm.ClassFile.FieldType)) ∈ pz_T := pz_m3 67 rfl rfl
theorem pw_548 : (Jvm.Cond.fieldLink "StoneHall$Sale" (112 : Nat) "StoneHall$Line" "TAX" "LStoneHall$Line;") ∈ pz_T := pz_m3 68 rfl rfl
theorem pw_550 : (Jvm.Cond.methodLink "StoneHall$Sale" (115 : Nat) ({ cls := "StoneHall$Men", name := "give", desc := "(LStoneHall$Boulder;I)V" } : Jvm.MethodName)) ∈ pz_T := pz_m3 70 rfl rfl
theorem pw_551 : (Jvm.Cond.instanceMethod ({ cls := "StoneHall$Men", name := "give", desc := "(LStoneHall$Boulder;I)V" } : Jvm.MethodName)) ∈ pz_T := pz_m3 71 rfl rfl
theorem pw_552 : (Jvm.Cond.selects "StoneHall$Men" ({ cls := "StoneHall$Men", name := "give", desc := "(LStoneHall$Boulder;I)V" } : Jvm.MethodName) ({ cls := "StoneHall$Men", name := "give", desc := "(LStoneHall$Boulder;I)V" } : Jvm.MethodName)) ∈ pz_T := pz_m3 72 rfl rfl
theorem pw_553 : (Jvm.Cond.code ({ cls := "StoneHall$Men", name := "give", desc := "(LStoneHall$Boulder;I)V" } : Jvm.MethodName) prog_6_method_6_code (4 : Nat) (Option.none : Option Jvm.ClassFile.FieldType)) ∈ pz_T := pz_m3 73 rfl rfl
theorem pw_554 : (Jvm.Cond.methodLink "StoneHall$Men" (23 : Nat) ({ cls := "StoneHall$Men", name := "divide", desc := "(LStoneHall$Boulder;I)V" } : Jvm.MethodName)) ∈ pz_T := pz_m3 74 rfl rfl
theorem pw_556 : (Jvm.Cond.instanceMethod ({ cls := "StoneHall$Men", name := "divide", desc := "(LStoneHall$Boulder;I)V" } : Jvm.MethodName)) ∈ pz_T := pz_m3 76 rfl rfl
theorem pw_557 : (Jvm.Cond.code ({ cls := "StoneHall$Men", name := "divide", desc := "(LStoneHall$Boulder;I)V" } : Jvm.MethodName) prog_6_method_7_code (5 : Nat) (Option.none : Option Jvm.ClassFile.FieldType)) ∈ pz_T := pz_m3 77 rfl rfl
theorem pw_558 : (Jvm.Cond.methodLink "StoneHall$Sale" (119 : Nat) ({ cls := "StoneHall$Boulder", name := "passAllTo", desc := "(I)V" } : Jvm.MethodName)) ∈ pz_T := pz_m3 78 rfl rfl
theorem pw_559 : (Jvm.Cond.instanceMethod ({ cls := "StoneHall$Boulder", name := "passAllTo", desc := "(I)V" } : Jvm.MethodName)) ∈ pz_T := pz_m3 79 rfl rfl
theorem pw_560 : (Jvm.Cond.selects "StoneHall$Boulder" ({ cls := "StoneHall$Boulder", name := "passAllTo", desc := "(I)V" } : Jvm.MethodName) ({ cls := "StoneHall$Boulder", name := "passAllTo", desc := "(I)V" } : Jvm.MethodName)) ∈ pz_T := pz_m3 80 rfl rfl
theorem pw_561 : (Jvm.Cond.code ({ cls := "StoneHall$Boulder", name := "passAllTo", desc := "(I)V" } : Jvm.MethodName) prog_2_method_8_code (2 : Nat) (Option.none : Option Jvm.ClassFile.FieldType)) ∈ pz_T := pz_m3 81 rfl rfl
theorem pw_562 : (Jvm.Cond.methodLink "StoneHall$Boulder" (46 : Nat) ({ cls := "java/util/Arrays", name := "fill", desc := "([II)V" } : Jvm.MethodName)) ∈ pz_T := pz_m3 82 rfl rfl
theorem pw_563 : (Jvm.Cond.static ({ cls := "java/util/Arrays", name := "fill", desc := "([II)V" } : Jvm.MethodName)) ∈ pz_T := pz_m3 83 rfl rfl
theorem pw_564 : (Jvm.Cond.code ({ cls := "java/util/Arrays", name := "fill", desc := "([II)V" } : Jvm.MethodName) prog_22_method_103_code (4 : Nat) (Option.none : Option Jvm.ClassFile.FieldType)) ∈ pz_T := pz_m3 84 rfl rfl
theorem pw_565 : (Jvm.Cond.methodLink "StoneHall$Sale" (64 : Nat) ({ cls := "StoneHall$Sale", name := "forfeit", desc := "(ILStoneHall$Boulder;LStoneHall$Men;LStoneHall$Customs;)V" } : Jvm.MethodName)) ∈ pz_T := pz_m3 85 rfl rfl
theorem pw_567 : (Jvm.Cond.instanceMethod ({ cls := "StoneHall$Sale", name := "forfeit", desc := "(ILStoneHall$Boulder;LStoneHall$Men;LStoneHall$Customs;)V" } : Jvm.MethodName)) ∈ pz_T := pz_m3 87 rfl rfl
theorem pw_568 : (Jvm.Cond.code ({ cls := "StoneHall$Sale", name := "forfeit", desc := "(ILStoneHall$Boulder;LStoneHall$Men;LStoneHall$Customs;)V" } : Jvm.MethodName) prog_8_method_9_code (6 : Nat) (Option.none : Option Jvm.ClassFile.FieldType)) ∈ pz_T := pz_m3 88 rfl rfl
theorem pw_569 : (Jvm.Cond.fieldLink "StoneHall$Sale" (68 : Nat) "StoneHall$Line" "DEFAULT" "LStoneHall$Line;") ∈ pz_T := pz_m3 89 rfl rfl
theorem pw_571 : (Jvm.Cond.methodLink "StoneHallLaw" (65 : Nat) ({ cls := "StoneHall", name := "sale", desc := "(I)I" } : Jvm.MethodName)) ∈ pz_T := pz_m3 91 rfl rfl
theorem pw_572 : (Jvm.Cond.instanceMethod ({ cls := "StoneHall", name := "sale", desc := "(I)I" } : Jvm.MethodName)) ∈ pz_T := pz_m3 92 rfl rfl
theorem pw_573 : (Jvm.Cond.selects "StoneHall" ({ cls := "StoneHall", name := "sale", desc := "(I)I" } : Jvm.MethodName) ({ cls := "StoneHall", name := "sale", desc := "(I)I" } : Jvm.MethodName)) ∈ pz_T := pz_m3 93 rfl rfl
theorem pw_574 : (Jvm.Cond.code ({ cls := "StoneHall", name := "sale", desc := "(I)I" } : Jvm.MethodName) prog_1_method_12_code (2 : Nat) (Option.some Jvm.ClassFile.FieldType.int)) ∈ pz_T := pz_m3 94 rfl rfl
theorem pw_575 : (Jvm.Cond.methodLink "StoneHall" (123 : Nat) ({ cls := "StoneHall$Sale", name := "tell", desc := "(I)I" } : Jvm.MethodName)) ∈ pz_T := pz_m3 95 rfl rfl
theorem pw_576 : (Jvm.Cond.instanceMethod ({ cls := "StoneHall$Sale", name := "tell", desc := "(I)I" } : Jvm.MethodName)) ∈ pz_T := pz_m3 96 rfl rfl
theorem pw_577 : (Jvm.Cond.selects "StoneHall$Sale" ({ cls := "StoneHall$Sale", name := "tell", desc := "(I)I" } : Jvm.MethodName) ({ cls := "StoneHall$Sale", name := "tell", desc := "(I)I" } : Jvm.MethodName)) ∈ pz_T := pz_m3 97 rfl rfl
theorem pw_578 : (Jvm.Cond.code ({ cls := "StoneHall$Sale", name := "tell", desc := "(I)I" } : Jvm.MethodName) prog_8_method_2_code (2 : Nat) (Option.some Jvm.ClassFile.FieldType.int)) ∈ pz_T := pz_m3 98 rfl rfl
theorem pw_579 : (Jvm.Cond.methodLink "StoneHallLaw" (69 : Nat) ({ cls := "StoneHall", name := "cut", desc := "(I)I" } : Jvm.MethodName)) ∈ pz_T := pz_m3 99 rfl rfl
theorem pw_580 : (Jvm.Cond.instanceMethod ({ cls := "StoneHall", name := "cut", desc := "(I)I" } : Jvm.MethodName)) ∈ pz_T := pz_m3 100 rfl rfl
theorem pw_581 : (Jvm.Cond.selects "StoneHall" ({ cls := "StoneHall", name := "cut", desc := "(I)I" } : Jvm.MethodName) ({ cls := "StoneHall", name := "cut", desc := "(I)I" } : Jvm.MethodName)) ∈ pz_T := pz_m3 101 rfl rfl
theorem pw_582 : (Jvm.Cond.code ({ cls := "StoneHall", name := "cut", desc := "(I)I" } : Jvm.MethodName) prog_1_method_13_code (5 : Nat) (Option.some Jvm.ClassFile.FieldType.int)) ∈ pz_T := pz_m3 102 rfl rfl
theorem pw_583 : (Jvm.Cond.fieldLink "StoneHall" (126 : Nat) "StoneHall$Line" "COST" "LStoneHall$Line;") ∈ pz_T := pz_m3 103 rfl rfl
theorem pw_585 : (Jvm.Cond.methodLink "StoneHall" (132 : Nat) ({ cls := "StoneHall$Customs", name := "coins", desc := "(LStoneHall$Line;)I" } : Jvm.MethodName)) ∈ pz_T := pz_m3 105 rfl rfl
theorem pw_586 : (Jvm.Cond.methodLink "StoneHall" (136 : Nat) ({ cls := "StoneHall$Men", name := "canPay", desc := "(LStoneHall$Boulder;I)Z" } : Jvm.MethodName)) ∈ pz_T := pz_m3 106 rfl rfl
theorem pw_587 : (Jvm.Cond.instanceMethod ({ cls := "StoneHall$Men", name := "canPay", desc := "(LStoneHall$Boulder;I)Z" } : Jvm.MethodName)) ∈ pz_T := pz_m3 107 rfl rfl
theorem pw_588 : (Jvm.Cond.selects "StoneHall$Men" ({ cls := "StoneHall$Men", name := "canPay", desc := "(LStoneHall$Boulder;I)Z" } : Jvm.MethodName) ({ cls := "StoneHall$Men", name := "canPay", desc := "(LStoneHall$Boulder;I)Z" } : Jvm.MethodName)) ∈ pz_T := pz_m3 108 rfl rfl
theorem pw_589 : (Jvm.Cond.code ({ cls := "StoneHall$Men", name := "canPay", desc := "(LStoneHall$Boulder;I)Z" } : Jvm.MethodName) prog_6_method_4_code (4 : Nat) (Option.some Jvm.ClassFile.FieldType.boolean)) ∈ pz_T := pz_m3 109 rfl rfl
theorem pw_590 : (Jvm.Cond.methodLink "StoneHall" (140 : Nat) ({ cls := "StoneHall$Men", name := "take", desc := "(LStoneHall$Boulder;I)V" } : Jvm.MethodName)) ∈ pz_T := pz_m3 110 rfl rfl
theorem pw_591 : (Jvm.Cond.instanceMethod ({ cls := "StoneHall$Men", name := "take", desc := "(LStoneHall$Boulder;I)V" } : Jvm.MethodName)) ∈ pz_T := pz_m3 111 rfl rfl
theorem pw_592 : (Jvm.Cond.selects "StoneHall$Men" ({ cls := "StoneHall$Men", name := "take", desc := "(LStoneHall$Boulder;I)V" } : Jvm.MethodName) ({ cls := "StoneHall$Men", name := "take", desc := "(LStoneHall$Boulder;I)V" } : Jvm.MethodName)) ∈ pz_T := pz_m3 112 rfl rfl
theorem pw_593 : (Jvm.Cond.code ({ cls := "StoneHall$Men", name := "take", desc := "(LStoneHall$Boulder;I)V" } : Jvm.MethodName) prog_6_method_5_code (4 : Nat) (Option.none : Option Jvm.ClassFile.FieldType)) ∈ pz_T := pz_m3 113 rfl rfl
theorem pw_594 : (Jvm.Cond.methodLink "StoneHall" (144 : Nat) ({ cls := "StoneHall$Boulder", name := "cutNext", desc := "()I" } : Jvm.MethodName)) ∈ pz_T := pz_m3 114 rfl rfl
theorem pw_595 : (Jvm.Cond.instanceMethod ({ cls := "StoneHall$Boulder", name := "cutNext", desc := "()I" } : Jvm.MethodName)) ∈ pz_T := pz_m3 115 rfl rfl
theorem pw_596 : (Jvm.Cond.selects "StoneHall$Boulder" ({ cls := "StoneHall$Boulder", name := "cutNext", desc := "()I" } : Jvm.MethodName) ({ cls := "StoneHall$Boulder", name := "cutNext", desc := "()I" } : Jvm.MethodName)) ∈ pz_T := pz_m3 116 rfl rfl
theorem pw_597 : (Jvm.Cond.code ({ cls := "StoneHall$Boulder", name := "cutNext", desc := "()I" } : Jvm.MethodName) prog_2_method_6_code (2 : Nat) (Option.some Jvm.ClassFile.FieldType.int)) ∈ pz_T := pz_m3 117 rfl rfl
theorem pw_598 : (Jvm.Cond.methodLink "StoneHall$Boulder" (35 : Nat) ({ cls := "StoneHall$Boulder", name := "gradeOf", desc := "(I)I" } : Jvm.MethodName)) ∈ pz_T := pz_m3 118 rfl rfl
theorem pw_599 : (Jvm.Cond.instanceMethod ({ cls := "StoneHall$Boulder", name := "gradeOf", desc := "(I)I" } : Jvm.MethodName)) ∈ pz_T := pz_m3 119 rfl rfl
theorem pw_600 : (Jvm.Cond.selects "StoneHall$Boulder" ({ cls := "StoneHall$Boulder", name := "gradeOf", desc := "(I)I" } : Jvm.MethodName) ({ cls := "StoneHall$Boulder", name := "gradeOf", desc := "(I)I" } : Jvm.MethodName)) ∈ pz_T := pz_m3 120 rfl rfl
theorem pw_601 : (Jvm.Cond.code ({ cls := "StoneHall$Boulder", name := "gradeOf", desc := "(I)I" } : Jvm.MethodName) prog_2_method_3_code (2 : Nat) (Option.some Jvm.ClassFile.FieldType.int)) ∈ pz_T := pz_m3 121 rfl rfl
theorem pw_602 : (Jvm.Cond.methodLink "StoneHall$Boulder" (28 : Nat) ({ cls := "StoneHall$Boulder", name := "gradeInside", desc := "(II)I" } : Jvm.MethodName)) ∈ pz_T := pz_m3 122 rfl rfl
theorem pw_603 : (Jvm.Cond.methodLink "StoneHall" (151 : Nat) ({ cls := "StoneHall$Men", name := "give", desc := "(LStoneHall$Boulder;I)V" } : Jvm.MethodName)) ∈ pz_T := pz_m3 123 rfl rfl
theorem pw_604 : (Jvm.Cond.methodLink "StoneHallLaw" (73 : Nat) ({ cls := "StoneHall", name := "sell", desc := "(I)I" } : Jvm.MethodName)) ∈ pz_T := pz_m3 124 rfl rfl
theorem pw_605 : (Jvm.Cond.instanceMethod ({ cls := "StoneHall", name := "sell", desc := "(I)I" } : Jvm.MethodName)) ∈ pz_T := pz_m3 125 rfl rfl
theorem pw_606 : (Jvm.Cond.selects "StoneHall" ({ cls := "StoneHall", name := "sell", desc := "(I)I" } : Jvm.MethodName) ({ cls := "StoneHall", name := "sell", desc := "(I)I" } : Jvm.MethodName)) ∈ pz_T := pz_m3 126 rfl rfl
theorem pw_607 : (Jvm.Cond.code ({ cls := "StoneHall", name := "sell", desc := "(I)I" } : Jvm.MethodName) prog_1_method_14_code (4 : Nat) (Option.some Jvm.ClassFile.FieldType.int)) ∈ pz_T := pz_m3 127 rfl rfl
theorem pw_608 : (Jvm.Cond.methodLink "StoneHall" (154 : Nat) ({ cls := "StoneHall$Boulder", name := "left", desc := "()I" } : Jvm.MethodName)) ∈ pz_T := pz_m3 128 rfl rfl
theorem pw_609 : (Jvm.Cond.instanceMethod ({ cls := "StoneHall$Boulder", name := "left", desc := "()I" } : Jvm.MethodName)) ∈ pz_T := pz_m3 129 rfl rfl
theorem pw_610 : (Jvm.Cond.selects "StoneHall$Boulder" ({ cls := "StoneHall$Boulder", name := "left", desc := "()I" } : Jvm.MethodName) ({ cls := "StoneHall$Boulder", name := "left", desc := "()I" } : Jvm.MethodName)) ∈ pz_T := pz_m3 130 rfl rfl
theorem pw_611 : (Jvm.Cond.code ({ cls := "StoneHall$Boulder", name := "left", desc := "()I" } : Jvm.MethodName) prog_2_method_4_code (1 : Nat) (Option.some Jvm.ClassFile.FieldType.int)) ∈ pz_T := pz_m3 131 rfl rfl
theorem pw_612 : (Jvm.Cond.methodLink "StoneHall" (157 : Nat) ({ cls := "StoneHall$Boulder", name := "lastSeen", desc := "()I" } : Jvm.MethodName)) ∈ pz_T := pz_m3 132 rfl rfl
theorem pw_613 : (Jvm.Cond.instanceMethod ({ cls := "StoneHall$Boulder", name := "lastSeen", desc := "()I" } : Jvm.MethodName)) ∈ pz_T := pz_m3 133 rfl rfl
theorem pw_614 : (Jvm.Cond.selects "StoneHall$Boulder" ({ cls := "StoneHall$Boulder", name := "lastSeen", desc := "()I" } : Jvm.MethodName) ({ cls := "StoneHall$Boulder", name := "lastSeen", desc := "()I" } : Jvm.MethodName)) ∈ pz_T := pz_m3 134 rfl rfl
theorem pw_615 : (Jvm.Cond.code ({ cls := "StoneHall$Boulder", name := "lastSeen", desc := "()I" } : Jvm.MethodName) prog_2_method_5_code (1 : Nat) (Option.some Jvm.ClassFile.FieldType.int)) ∈ pz_T := pz_m3 135 rfl rfl
theorem pw_616 : (Jvm.Cond.methodLink "StoneHall" (160 : Nat) ({ cls := "StoneHall$Customs", name := "offerBehind", desc := "(I)I" } : Jvm.MethodName)) ∈ pz_T := pz_m3 136 rfl rfl
theorem pw_617 : (Jvm.Cond.instanceMethod ({ cls := "StoneHall$Customs", name := "offerBehind", desc := "(I)I" } : Jvm.MethodName)) ∈ pz_T := pz_m3 137 rfl rfl
theorem pw_618 : (Jvm.Cond.selects "StoneHall$Customs" ({ cls := "StoneHall$Customs", name := "offerBehind", desc := "(I)I" } : Jvm.MethodName) ({ cls := "StoneHall$Customs", name := "offerBehind", desc := "(I)I" } : Jvm.MethodName)) ∈ pz_T := pz_m3 138 rfl rfl
theorem pw_619 : (Jvm.Cond.code ({ cls := "StoneHall$Customs", name := "offerBehind", desc := "(I)I" } : Jvm.MethodName) prog_4_method_5_code (2 : Nat) (Option.some Jvm.ClassFile.FieldType.int)) ∈ pz_T := pz_m3 139 rfl rfl
theorem pw_620 : (Jvm.Cond.fieldLink "StoneHall$Customs" (60 : Nat) "StoneHall$Line" "SHUT" "LStoneHall$Line;") ∈ pz_T := pz_m3 140 rfl rfl
theorem pw_622 : (Jvm.Cond.methodLink "StoneHallLaw" (87 : Nat) ({ cls := "StoneHall", name := "parts", desc := "(II)I" } : Jvm.MethodName)) ∈ pz_T := pz_m3 142 rfl rfl
theorem pw_623 : (Jvm.Cond.instanceMethod ({ cls := "StoneHall", name := "parts", desc := "(II)I" } : Jvm.MethodName)) ∈ pz_T := pz_m3 143 rfl rfl
theorem pw_624 : (Jvm.Cond.selects "StoneHall" ({ cls := "StoneHall", name := "parts", desc := "(II)I" } : Jvm.MethodName) ({ cls := "StoneHall", name := "parts", desc := "(II)I" } : Jvm.MethodName)) ∈ pz_T := pz_m3 144 rfl rfl
theorem pw_625 : (Jvm.Cond.code ({ cls := "StoneHall", name := "parts", desc := "(II)I" } : Jvm.MethodName) prog_1_method_16_code (4 : Nat) (Option.some Jvm.ClassFile.FieldType.int)) ∈ pz_T := pz_m3 145 rfl rfl
theorem pw_626 : (Jvm.Cond.methodLink "StoneHallLaw" (91 : Nat) ({ cls := "StoneHall", name := "purse", desc := "(I)I" } : Jvm.MethodName)) ∈ pz_T := pz_m3 146 rfl rfl
theorem pw_627 : (Jvm.Cond.instanceMethod ({ cls := "StoneHall", name := "purse", desc := "(I)I" } : Jvm.MethodName)) ∈ pz_T := pz_m3 147 rfl rfl
theorem pw_628 : (Jvm.Cond.selects "StoneHall" ({ cls := "StoneHall", name := "purse", desc := "(I)I" } : Jvm.MethodName) ({ cls := "StoneHall", name := "purse", desc := "(I)I" } : Jvm.MethodName)) ∈ pz_T := pz_m3 148 rfl rfl
theorem pw_629 : (Jvm.Cond.code ({ cls := "StoneHall", name := "purse", desc := "(I)I" } : Jvm.MethodName) prog_1_method_17_code (2 : Nat) (Option.some Jvm.ClassFile.FieldType.int)) ∈ pz_T := pz_m3 149 rfl rfl
theorem pw_630 : (Jvm.Cond.methodLink "StoneHallLaw" (95 : Nat) ({ cls := "StoneHall", name := "rest", desc := "(II)J" } : Jvm.MethodName)) ∈ pz_T := pz_m3 150 rfl rfl
theorem pw_631 : (Jvm.Cond.instanceMethod ({ cls := "StoneHall", name := "rest", desc := "(II)J" } : Jvm.MethodName)) ∈ pz_T := pz_m3 151 rfl rfl
theorem pw_632 : (Jvm.Cond.selects "StoneHall" ({ cls := "StoneHall", name := "rest", desc := "(II)J" } : Jvm.MethodName) ({ cls := "StoneHall", name := "rest", desc := "(II)J" } : Jvm.MethodName)) ∈ pz_T := pz_m3 152 rfl rfl
theorem pw_633 : (Jvm.Cond.code ({ cls := "StoneHall", name := "rest", desc := "(II)J" } : Jvm.MethodName) prog_1_method_18_code (4 : Nat) (Option.some Jvm.ClassFile.FieldType.long)) ∈ pz_T := pz_m3 153 rfl rfl
theorem pw_634 : (Jvm.Cond.methodLink "StoneHall" (191 : Nat) ({ cls := "StoneHall$Chances", name := "weigh", desc := "(LStoneHall$Boulder;)Z" } : Jvm.MethodName)) ∈ pz_T := pz_m3 154 rfl rfl
theorem pw_635 : (Jvm.Cond.instanceMethod ({ cls := "StoneHall$Chances", name := "weigh", desc := "(LStoneHall$Boulder;)Z" } : Jvm.MethodName)) ∈ pz_T := pz_m3 155 rfl rfl
theorem pw_636 : (Jvm.Cond.selects "StoneHall$Chances" ({ cls := "StoneHall$Chances", name := "weigh", desc := "(LStoneHall$Boulder;)Z" } : Jvm.MethodName) ({ cls := "StoneHall$Chances", name := "weigh", desc := "(LStoneHall$Boulder;)Z" } : Jvm.MethodName)) ∈ pz_T := pz_m3 156 rfl rfl
theorem pw_637 : (Jvm.Cond.code ({ cls := "StoneHall$Chances", name := "weigh", desc := "(LStoneHall$Boulder;)Z" } : Jvm.MethodName) prog_3_method_8_code (6 : Nat) (Option.some Jvm.ClassFile.FieldType.boolean)) ∈ pz_T := pz_m3 157 rfl rfl
theorem pw_638 : (Jvm.Cond.methodLink "StoneHall$Chances" (68 : Nat) ({ cls := "StoneHall$Boulder", name := "gradeOf", desc := "(I)I" } : Jvm.MethodName)) ∈ pz_T := pz_m3 158 rfl rfl
theorem pw_639 : (Jvm.Cond.constantLong "StoneHall" (195 : Nat) (-1 : Int64)) ∈ pz_T := pz_m3 159 rfl rfl
theorem pw_640 : (Jvm.Cond.methodLink "StoneHall" (197 : Nat) ({ cls := "StoneHall$Chances", name := "expectRest", desc := "(I)V" } : Jvm.MethodName)) ∈ pz_T := pz_m3 160 rfl rfl
theorem pw_641 : (Jvm.Cond.instanceMethod ({ cls := "StoneHall$Chances", name := "expectRest", desc := "(I)V" } : Jvm.MethodName)) ∈ pz_T := pz_m3 161 rfl rfl
theorem pw_642 : (Jvm.Cond.selects "StoneHall$Chances" ({ cls := "StoneHall$Chances", name := "expectRest", desc := "(I)V" } : Jvm.MethodName) ({ cls := "StoneHall$Chances", name := "expectRest", desc := "(I)V" } : Jvm.MethodName)) ∈ pz_T := pz_m3 162 rfl rfl
theorem pw_643 : (Jvm.Cond.code ({ cls := "StoneHall$Chances", name := "expectRest", desc := "(I)V" } : Jvm.MethodName) prog_3_method_10_code (6 : Nat) (Option.none : Option Jvm.ClassFile.FieldType)) ∈ pz_T := pz_m3 163 rfl rfl
theorem pw_644 : (Jvm.Cond.constantLong "StoneHall$Chances" (76 : Nat) (16 : Int64)) ∈ pz_T := pz_m3 164 rfl rfl
theorem pw_645 : (Jvm.Cond.methodLink "StoneHall$Chances" (72 : Nat) ({ cls := "StoneHall$Chances", name := "keepFraction", desc := "(JJ)V" } : Jvm.MethodName)) ∈ pz_T := pz_m3 165 rfl rfl
theorem pw_647 : (Jvm.Cond.instanceMethod ({ cls := "StoneHall$Chances", name := "keepFraction", desc := "(JJ)V" } : Jvm.MethodName)) ∈ pz_T := pz_m3 167 rfl rfl
theorem pw_648 : (Jvm.Cond.code ({ cls := "StoneHall$Chances", name := "keepFraction", desc := "(JJ)V" } : Jvm.MethodName) prog_3_method_17_code (7 : Nat) (Option.none : Option Jvm.ClassFile.FieldType)) ∈ pz_T := pz_m3 168 rfl rfl
theorem pw_649 : (Jvm.Cond.methodLink "StoneHall$Chances" (134 : Nat) ({ cls := "StoneHall$Chances", name := "commonDivisor", desc := "(JJ)J" } : Jvm.MethodName)) ∈ pz_T := pz_m3 169 rfl rfl
theorem pw_650 : (Jvm.Cond.static ({ cls := "StoneHall$Chances", name := "commonDivisor", desc := "(JJ)J" } : Jvm.MethodName)) ∈ pz_T := pz_m3 170 rfl rfl
theorem pw_651 : (Jvm.Cond.code ({ cls := "StoneHall$Chances", name := "commonDivisor", desc := "(JJ)J" } : Jvm.MethodName) prog_3_method_18_code (11 : Nat) (Option.some Jvm.ClassFile.FieldType.long)) ∈ pz_T := pz_m3 171 rfl rfl
theorem pw_652 : (Jvm.Cond.methodLink "StoneHallLaw" (100 : Nat) ({ cls := "StoneHall", name := "best", desc := "(II)J" } : Jvm.MethodName)) ∈ pz_T := pz_m3 172 rfl rfl
theorem pw_653 : (Jvm.Cond.instanceMethod ({ cls := "StoneHall", name := "best", desc := "(II)J" } : Jvm.MethodName)) ∈ pz_T := pz_m3 173 rfl rfl
theorem pw_654 : (Jvm.Cond.selects "StoneHall" ({ cls := "StoneHall", name := "best", desc := "(II)J" } : Jvm.MethodName) ({ cls := "StoneHall", name := "best", desc := "(II)J" } : Jvm.MethodName)) ∈ pz_T := pz_m3 174 rfl rfl
theorem pw_655 : (Jvm.Cond.code ({ cls := "StoneHall", name := "best", desc := "(II)J" } : Jvm.MethodName) prog_1_method_19_code (5 : Nat) (Option.some Jvm.ClassFile.FieldType.long)) ∈ pz_T := pz_m3 175 rfl rfl
theorem pw_656 : (Jvm.Cond.constantLong "StoneHall" (209 : Nat) (-9223372036854775808 : Int64)) ∈ pz_T := pz_m3 176 rfl rfl
theorem pw_657 : (Jvm.Cond.methodLink "StoneHall" (211 : Nat) ({ cls := "StoneHall$Chances", name := "expectBest", desc := "(LStoneHall$Boulder;LStoneHall$Customs;)I" } : Jvm.MethodName)) ∈ pz_T := pz_m3 177 rfl rfl
theorem pw_658 : (Jvm.Cond.instanceMethod ({ cls := "StoneHall$Chances", name := "expectBest", desc := "(LStoneHall$Boulder;LStoneHall$Customs;)I" } : Jvm.MethodName)) ∈ pz_T := pz_m3 178 rfl rfl
theorem pw_659 : (Jvm.Cond.selects "StoneHall$Chances" ({ cls := "StoneHall$Chances", name := "expectBest", desc := "(LStoneHall$Boulder;LStoneHall$Customs;)I" } : Jvm.MethodName) ({ cls := "StoneHall$Chances", name := "expectBest", desc := "(LStoneHall$Boulder;LStoneHall$Customs;)I" } : Jvm.MethodName)) ∈ pz_T := pz_m3 179 rfl rfl
theorem pw_660 : (Jvm.Cond.code ({ cls := "StoneHall$Chances", name := "expectBest", desc := "(LStoneHall$Boulder;LStoneHall$Customs;)I" } : Jvm.MethodName) prog_3_method_11_code (10 : Nat) (Option.some Jvm.ClassFile.FieldType.int)) ∈ pz_T := pz_m3 180 rfl rfl
theorem pw_661 : (Jvm.Cond.methodLink "StoneHall$Chances" (78 : Nat) ({ cls := "StoneHall$Boulder", name := "left", desc := "()I" } : Jvm.MethodName)) ∈ pz_T := pz_m3 181 rfl rfl
theorem pw_662 : (Jvm.Cond.methodLink "StoneHall$Chances" (82 : Nat) ({ cls := "StoneHall$Chances", name := "sixteenToThe", desc := "(I)J" } : Jvm.MethodName)) ∈ pz_T := pz_m3 182 rfl rfl
theorem pw_663 : (Jvm.Cond.static ({ cls := "StoneHall$Chances", name := "sixteenToThe", desc := "(I)J" } : Jvm.MethodName)) ∈ pz_T := pz_m3 183 rfl rfl
theorem pw_664 : (Jvm.Cond.code ({ cls := "StoneHall$Chances", name := "sixteenToThe", desc := "(I)J" } : Jvm.MethodName) prog_3_method_16_code (1 : Nat) (Option.some Jvm.ClassFile.FieldType.long)) ∈ pz_T := pz_m3 184 rfl rfl
theorem pw_665 : (Jvm.Cond.methodLink "StoneHall$Chances" (86 : Nat) ({ cls := "StoneHall$Boulder", name := "lastSeen", desc := "()I" } : Jvm.MethodName)) ∈ pz_T := pz_m3 185 rfl rfl
theorem pw_666 : (Jvm.Cond.methodLink "StoneHall$Chances" (89 : Nat) ({ cls := "StoneHall$Customs", name := "offerBehind", desc := "(I)I" } : Jvm.MethodName)) ∈ pz_T := pz_m3 186 rfl rfl
theorem pw_667 : (Jvm.Cond.methodLink "StoneHall$Chances" (94 : Nat) ({ cls := "StoneHall$Chances", name := "valueOfCutting", desc := "(ILStoneHall$Customs;)J" } : Jvm.MethodName)) ∈ pz_T := pz_m3 187 rfl rfl
theorem pw_669 : (Jvm.Cond.instanceMethod ({ cls := "StoneHall$Chances", name := "valueOfCutting", desc := "(ILStoneHall$Customs;)J" } : Jvm.MethodName)) ∈ pz_T := pz_m3 189 rfl rfl
theorem pw_670 : (Jvm.Cond.code ({ cls := "StoneHall$Chances", name := "valueOfCutting", desc := "(ILStoneHall$Customs;)J" } : Jvm.MethodName) prog_3_method_12_code (9 : Nat) (Option.some Jvm.ClassFile.FieldType.long)) ∈ pz_T := pz_m3 190 rfl rfl
theorem pw_671 : (Jvm.Cond.methodLink "StoneHall$Chances" (104 : Nat) ({ cls := "java/util/Arrays", name := "fill", desc := "([JJ)V" } : Jvm.MethodName)) ∈ pz_T := pz_m3 191 rfl rfl
theorem pw_672 : (Jvm.Cond.static ({ cls := "java/util/Arrays", name := "fill", desc := "([JJ)V" } : Jvm.MethodName)) ∈ pz_T := pz_m3 192 rfl rfl
theorem pw_673 : (Jvm.Cond.code ({ cls := "java/util/Arrays", name := "fill", desc := "([JJ)V" } : Jvm.MethodName) prog_22_method_101_code (5 : Nat) (Option.none : Option Jvm.ClassFile.FieldType)) ∈ pz_T := pz_m3 193 rfl rfl
theorem pw_674 : (Jvm.Cond.methodLink "StoneHall$Chances" (110 : Nat) ({ cls := "StoneHall$Chances", name := "goFurther", desc := "(IIII)V" } : Jvm.MethodName)) ∈ pz_T := pz_m3 194 rfl rfl
theorem pw_676 : (Jvm.Cond.instanceMethod ({ cls := "StoneHall$Chances", name := "goFurther", desc := "(IIII)V" } : Jvm.MethodName)) ∈ pz_T := pz_m3 196 rfl rfl
theorem pw_677 : (Jvm.Cond.code ({ cls := "StoneHall$Chances", name := "goFurther", desc := "(IIII)V" } : Jvm.MethodName) prog_3_method_13_code (9 : Nat) (Option.none : Option Jvm.ClassFile.FieldType)) ∈ pz_T := pz_m3 197 rfl rfl
theorem pw_678 : (Jvm.Cond.fieldLink "StoneHall$Chances" (114 : Nat) "StoneHall$Chances" "STEPS" "[I") ∈ pz_T := pz_m3 198 rfl rfl
theorem pw_680 : (Jvm.Cond.methodLink "StoneHall$Chances" (117 : Nat) ({ cls := "StoneHall$Chances", name := "valueOfNextCut", desc := "(IILStoneHall$Customs;)J" } : Jvm.MethodName)) ∈ pz_T := pz_m3 200 rfl rfl
theorem pw_682 : (Jvm.Cond.instanceMethod ({ cls := "StoneHall$Chances", name := "valueOfNextCut", desc := "(IILStoneHall$Customs;)J" } : Jvm.MethodName)) ∈ pz_T := pz_m3 202 rfl rfl
theorem pw_683 : (Jvm.Cond.code ({ cls := "StoneHall$Chances", name := "valueOfNextCut", desc := "(IILStoneHall$Customs;)J" } : Jvm.MethodName) prog_3_method_14_code (14 : Nat) (Option.some Jvm.ClassFile.FieldType.long)) ∈ pz_T := pz_m3 203 rfl rfl
theorem pw_684 : (Jvm.Cond.fieldLink "StoneHall$Chances" (121 : Nat) "StoneHall$Line" "COST" "LStoneHall$Line;") ∈ pz_T := pz_m3 204 rfl rfl
theorem pw_685 : (Jvm.Cond.methodLink "StoneHall$Chances" (127 : Nat) ({ cls := "StoneHall$Customs", name := "coins", desc := "(LStoneHall$Line;)I" } : Jvm.MethodName)) ∈ pz_T := pz_m3 205 rfl rfl
theorem pw_686 : (Jvm.Cond.methodLink "StoneHall$Chances" (131 : Nat) ({ cls := "StoneHall$Chances", name := "oddsOfNext", desc := "(I)J" } : Jvm.MethodName)) ∈ pz_T := pz_m3 206 rfl rfl
theorem pw_688 : (Jvm.Cond.instanceMethod ({ cls := "StoneHall$Chances", name := "oddsOfNext", desc := "(I)J" } : Jvm.MethodName)) ∈ pz_T := pz_m3 208 rfl rfl
theorem pw_689 : (Jvm.Cond.code ({ cls := "StoneHall$Chances", name := "oddsOfNext", desc := "(I)J" } : Jvm.MethodName) prog_3_method_15_code (5 : Nat) (Option.some Jvm.ClassFile.FieldType.long)) ∈ pz_T := pz_m3 209 rfl rfl
theorem pw_690 : (Jvm.Cond.methodLink "StoneHall$Chances" (98 : Nat) ({ cls := "java/lang/Math", name := "max", desc := "(JJ)J" } : Jvm.MethodName)) ∈ pz_T := pz_m3 210 rfl rfl
theorem pw_691 : (Jvm.Cond.static ({ cls := "java/lang/Math", name := "max", desc := "(JJ)J" } : Jvm.MethodName)) ∈ pz_T := pz_m3 211 rfl rfl
theorem pw_692 : (Jvm.Cond.code ({ cls := "java/lang/Math", name := "max", desc := "(JJ)J" } : Jvm.MethodName) prog_15_method_66_code (4 : Nat) (Option.some Jvm.ClassFile.FieldType.long)) ∈ pz_T := pz_m3 212 rfl rfl
theorem pw_693 : (Jvm.Cond.methodLink "StoneHallLaw" (104 : Nat) ({ cls := "StoneHall", name := "likely", desc := "(III)J" } : Jvm.MethodName)) ∈ pz_T := pz_m3 213 rfl rfl
theorem pw_694 : (Jvm.Cond.instanceMethod ({ cls := "StoneHall", name := "likely", desc := "(III)J" } : Jvm.MethodName)) ∈ pz_T := pz_m3 214 rfl rfl
theorem pw_695 : (Jvm.Cond.selects "StoneHall" ({ cls := "StoneHall", name := "likely", desc := "(III)J" } : Jvm.MethodName) ({ cls := "StoneHall", name := "likely", desc := "(III)J" } : Jvm.MethodName)) ∈ pz_T := pz_m3 215 rfl rfl
theorem pw_696 : (Jvm.Cond.code ({ cls := "StoneHall", name := "likely", desc := "(III)J" } : Jvm.MethodName) prog_1_method_20_code (5 : Nat) (Option.some Jvm.ClassFile.FieldType.long)) ∈ pz_T := pz_m3 216 rfl rfl
theorem pw_697 : (Jvm.Cond.methodLink "StoneHall" (215 : Nat) ({ cls := "StoneHall$Chances", name := "hasKind", desc := "(I)Z" } : Jvm.MethodName)) ∈ pz_T := pz_m3 217 rfl rfl
theorem pw_698 : (Jvm.Cond.instanceMethod ({ cls := "StoneHall$Chances", name := "hasKind", desc := "(I)Z" } : Jvm.MethodName)) ∈ pz_T := pz_m3 218 rfl rfl
theorem pw_699 : (Jvm.Cond.selects "StoneHall$Chances" ({ cls := "StoneHall$Chances", name := "hasKind", desc := "(I)Z" } : Jvm.MethodName) ({ cls := "StoneHall$Chances", name := "hasKind", desc := "(I)Z" } : Jvm.MethodName)) ∈ pz_T := pz_m3 219 rfl rfl
theorem pw_700 : (Jvm.Cond.code ({ cls := "StoneHall$Chances", name := "hasKind", desc := "(I)Z" } : Jvm.MethodName) prog_3_method_7_code (2 : Nat) (Option.some Jvm.ClassFile.FieldType.boolean)) ∈ pz_T := pz_m3 220 rfl rfl
theorem pw_701 : (Jvm.Cond.methodLink "StoneHall" (218 : Nat) ({ cls := "StoneHall$Chances", name := "expectKind", desc := "(I)V" } : Jvm.MethodName)) ∈ pz_T := pz_m3 221 rfl rfl
theorem pw_702 : (Jvm.Cond.instanceMethod ({ cls := "StoneHall$Chances", name := "expectKind", desc := "(I)V" } : Jvm.MethodName)) ∈ pz_T := pz_m3 222 rfl rfl
theorem pw_703 : (Jvm.Cond.selects "StoneHall$Chances" ({ cls := "StoneHall$Chances", name := "expectKind", desc := "(I)V" } : Jvm.MethodName) ({ cls := "StoneHall$Chances", name := "expectKind", desc := "(I)V" } : Jvm.MethodName)) ∈ pz_T := pz_m3 223 rfl rfl
theorem pw_704 : (Jvm.Cond.code ({ cls := "StoneHall$Chances", name := "expectKind", desc := "(I)V" } : Jvm.MethodName) prog_3_method_9_code (2 : Nat) (Option.none : Option Jvm.ClassFile.FieldType)) ∈ pz_T := pz_m3 224 rfl rfl
theorem pw_705 : (Jvm.Cond.methodLink "StoneHallLaw" (109 : Nat) ({ cls := "StoneHall", name := "count", desc := "(I)I" } : Jvm.MethodName)) ∈ pz_T := pz_m3 225 rfl rfl
theorem pw_706 : (Jvm.Cond.instanceMethod ({ cls := "StoneHall", name := "count", desc := "(I)I" } : Jvm.MethodName)) ∈ pz_T := pz_m3 226 rfl rfl
theorem pw_707 : (Jvm.Cond.selects "StoneHall" ({ cls := "StoneHall", name := "count", desc := "(I)I" } : Jvm.MethodName) ({ cls := "StoneHall", name := "count", desc := "(I)I" } : Jvm.MethodName)) ∈ pz_T := pz_m3 227 rfl rfl
theorem pw_708 : (Jvm.Cond.code ({ cls := "StoneHall", name := "count", desc := "(I)I" } : Jvm.MethodName) prog_1_method_21_code (2 : Nat) (Option.some Jvm.ClassFile.FieldType.int)) ∈ pz_T := pz_m3 228 rfl rfl
theorem pw_709 : (Jvm.Cond.constant "StoneHall" (228 : Nat) (-1000000000 : Int32)) ∈ pz_T := pz_m3 229 rfl rfl
theorem pw_710 : (Jvm.Cond.methodLink "StoneHallLaw" (77 : Nat) ({ cls := "StoneHallLaw", name := "look", desc := "(LStoneHall;II[J)I" } : Jvm.MethodName)) ∈ pz_T := pz_m3 230 rfl rfl
theorem pw_711 : (Jvm.Cond.static ({ cls := "StoneHallLaw", name := "look", desc := "(LStoneHall;II[J)I" } : Jvm.MethodName)) ∈ pz_T := pz_m3 231 rfl rfl
theorem pw_712 : (Jvm.Cond.codeWith ({ cls := "StoneHallLaw", name := "look", desc := "(LStoneHall;II[J)I" } : Jvm.MethodName) method_3_code (5 : Nat) (Option.some Jvm.ClassFile.FieldType.int) [((0 : Nat), (10 : Nat), (13 : Nat), (13 : Nat)), ((0 : Nat), (10 : Nat), (17 : Nat), (15 : Nat))]) ∈ pz_T := pz_m3 232 rfl rfl
theorem pw_713 : (Jvm.Cond.classLink "StoneHallLaw" (13 : Nat) "java/lang/IndexOutOfBoundsException") ∈ pz_T := pz_m3 233 rfl rfl
theorem pw_714 : (Jvm.Cond.classLink "StoneHallLaw" (15 : Nat) "java/util/NoSuchElementException") ∈ pz_T := pz_m3 234 rfl rfl
theorem pw_715 : (Jvm.Cond.methodLink "StoneHallLaw" (7 : Nat) ({ cls := "StoneHall", name := "look", desc := "(II)I" } : Jvm.MethodName)) ∈ pz_T := pz_m3 235 rfl rfl
theorem pw_716 : (Jvm.Cond.instanceMethod ({ cls := "StoneHall", name := "look", desc := "(II)I" } : Jvm.MethodName)) ∈ pz_T := pz_m3 236 rfl rfl
theorem pw_717 : (Jvm.Cond.selects "StoneHall" ({ cls := "StoneHall", name := "look", desc := "(II)I" } : Jvm.MethodName) ({ cls := "StoneHall", name := "look", desc := "(II)I" } : Jvm.MethodName)) ∈ pz_T := pz_m3 237 rfl rfl
theorem pw_718 : (Jvm.Cond.code ({ cls := "StoneHall", name := "look", desc := "(II)I" } : Jvm.MethodName) prog_1_method_15_code (4 : Nat) (Option.some Jvm.ClassFile.FieldType.int)) ∈ pz_T := pz_m3 238 rfl rfl
theorem pw_719 : (Jvm.Cond.classLink "StoneHall" (170 : Nat) "java/lang/IndexOutOfBoundsException") ∈ pz_T := pz_m3 239 rfl rfl
theorem pw_720 : (Jvm.Cond.instantiable "java/lang/IndexOutOfBoundsException" (6 : Nat)) ∈ pz_T := pz_m4 0 rfl rfl
theorem pw_728 : (Jvm.Cond.selects "java/lang/IndexOutOfBoundsException" ({ cls := "java/lang/Throwable", name := "fillInStackTrace", desc := "(I)Ljava/lang/Throwable;" } : Jvm.MethodName) ({ cls := "java/lang/Throwable", name := "fillInStackTrace", desc := "(I)Ljava/lang/Throwable;" } : Jvm.MethodName)) ∈ pz_T := pz_m4 8 rfl rfl
theorem pw_729 : (Jvm.Cond.selects "java/lang/IndexOutOfBoundsException" ({ cls := "java/lang/Throwable", name := "fillInStackTrace", desc := "()Ljava/lang/Throwable;" } : Jvm.MethodName) ({ cls := "java/lang/Throwable", name := "fillInStackTrace", desc := "()Ljava/lang/Throwable;" } : Jvm.MethodName)) ∈ pz_T := pz_m4 9 rfl rfl
theorem pw_730 : (Jvm.Cond.lays "java/lang/IndexOutOfBoundsException" "java/lang/Throwable" "cause" "Ljava/lang/Throwable;") ∈ pz_T := pz_m4 10 rfl rfl
theorem pw_731 : (Jvm.Cond.lays "java/lang/Throwable" "java/lang/Throwable" "cause" "Ljava/lang/Throwable;") ∈ pz_T := pz_m4 11 rfl rfl
theorem pw_732 : (Jvm.Cond.lays "java/lang/IndexOutOfBoundsException" "java/lang/Throwable" "stackTrace" "[Ljava/lang/StackTraceElement;") ∈ pz_T := pz_m4 12 rfl rfl
theorem pw_733 : (Jvm.Cond.lays "java/lang/Throwable" "java/lang/Throwable" "stackTrace" "[Ljava/lang/StackTraceElement;") ∈ pz_T := pz_m4 13 rfl rfl
theorem pw_734 : (Jvm.Cond.lays "java/lang/IndexOutOfBoundsException" "java/lang/Throwable" "suppressedExceptions" "Ljava/util/List;") ∈ pz_T := pz_m4 14 rfl rfl
theorem pw_735 : (Jvm.Cond.lays "java/lang/Throwable" "java/lang/Throwable" "suppressedExceptions" "Ljava/util/List;") ∈ pz_T := pz_m4 15 rfl rfl
theorem pw_736 : (Jvm.Cond.lays "java/lang/IndexOutOfBoundsException" "java/lang/Throwable" "detailMessage" "Ljava/lang/String;") ∈ pz_T := pz_m4 16 rfl rfl
theorem pw_737 : (Jvm.Cond.lays "java/lang/Throwable" "java/lang/Throwable" "detailMessage" "Ljava/lang/String;") ∈ pz_T := pz_m4 17 rfl rfl
theorem pw_738 : (Jvm.Cond.lays "java/lang/IndexOutOfBoundsException" "java/lang/Throwable" "backtrace" "Ljava/lang/Object;") ∈ pz_T := pz_m4 18 rfl rfl
theorem pw_739 : (Jvm.Cond.lays "java/lang/Throwable" "java/lang/Throwable" "backtrace" "Ljava/lang/Object;") ∈ pz_T := pz_m4 19 rfl rfl
theorem pw_740 : (Jvm.Cond.fieldLink "java/lang/Throwable" (198 : Nat) "java/lang/Throwable" "backtrace" "Ljava/lang/Object;") ∈ pz_T := pz_m4 20 rfl rfl
theorem pw_741 : (Jvm.Cond.superclass "java/lang/Throwable" "java/lang/Object") ∈ pz_T := pz_m4 21 rfl rfl
theorem pw_742 : (Jvm.Cond.instanceMethod ({ cls := "java/lang/Throwable", name := "<init>", desc := "()V" } : Jvm.MethodName)) ∈ pz_T := pz_m4 22 rfl rfl
theorem pw_743 : (Jvm.Cond.code ({ cls := "java/lang/Throwable", name := "<init>", desc := "()V" } : Jvm.MethodName) prog_21_method_1_code (1 : Nat) (Option.none : Option Jvm.ClassFile.FieldType)) ∈ pz_T := pz_m4 23 rfl rfl
theorem pw_744 : (Jvm.Cond.methodLink "java/lang/Throwable" (1 : Nat) ({ cls := "java/lang/Object", name := "<init>", desc := "()V" } : Jvm.MethodName)) ∈ pz_T := pz_m4 24 rfl rfl
theorem pw_745 : (Jvm.Cond.fieldLink "java/lang/Throwable" (13 : Nat) "java/lang/Throwable" "UNASSIGNED_STACK" "[Ljava/lang/StackTraceElement;") ∈ pz_T := pz_m4 25 rfl rfl
theorem pw_747 : (Jvm.Cond.fieldLink "java/lang/Throwable" (20 : Nat) "java/lang/Throwable" "SUPPRESSED_SENTINEL" "Ljava/util/List;") ∈ pz_T := pz_m4 27 rfl rfl
theorem pw_749 : (Jvm.Cond.methodLink "java/lang/Throwable" (27 : Nat) ({ cls := "java/lang/Throwable", name := "fillInStackTrace", desc := "()Ljava/lang/Throwable;" } : Jvm.MethodName)) ∈ pz_T := pz_m4 29 rfl rfl
theorem pw_750 : (Jvm.Cond.instanceMethod ({ cls := "java/lang/Throwable", name := "fillInStackTrace", desc := "()Ljava/lang/Throwable;" } : Jvm.MethodName)) ∈ pz_T := pz_m4 30 rfl rfl
theorem pw_751 : (Jvm.Cond.sameMethod "java/lang/Throwable" "java/lang/Throwable" "fillInStackTrace" "()Ljava/lang/Throwable;") ∈ pz_T := pz_m4 31 rfl rfl
theorem pw_752 : (Jvm.Cond.selects "java/util/NoSuchElementException" ({ cls := "java/lang/Throwable", name := "fillInStackTrace", desc := "()Ljava/lang/Throwable;" } : Jvm.MethodName) ({ cls := "java/lang/Throwable", name := "fillInStackTrace", desc := "()Ljava/lang/Throwable;" } : Jvm.MethodName)) ∈ pz_T := pz_m4 32 rfl rfl
theorem pw_753 : (Jvm.Cond.codeSync ({ cls := "java/lang/Throwable", name := "fillInStackTrace", desc := "()Ljava/lang/Throwable;" } : Jvm.MethodName) prog_21_method_18_code (1 : Nat) (Option.some (Jvm.ClassFile.FieldType.object "java/lang/Throwable"))) ∈ pz_T := pz_m4 33 rfl rfl
theorem pw_754 : (Jvm.Cond.methodLink "java/lang/Throwable" (202 : Nat) ({ cls := "java/lang/Throwable", name := "fillInStackTrace", desc := "(I)Ljava/lang/Throwable;" } : Jvm.MethodName)) ∈ pz_T := pz_m4 34 rfl rfl
theorem pw_756 : (Jvm.Cond.instanceMethod ({ cls := "java/lang/Throwable", name := "fillInStackTrace", desc := "(I)Ljava/lang/Throwable;" } : Jvm.MethodName)) ∈ pz_T := pz_m4 36 rfl rfl
theorem pw_757 : (Jvm.Cond.instantiable "java/lang/Throwable" (6 : Nat)) ∈ pz_T := pz_m4 37 rfl rfl
theorem pw_758 : (Jvm.Cond.native ({ cls := "java/lang/Throwable", name := "fillInStackTrace", desc := "(I)Ljava/lang/Throwable;" } : Jvm.MethodName)) ∈ pz_T := pz_m4 38 rfl rfl
theorem pw_760 : (Jvm.Cond.methodLink "StoneHall" (174 : Nat) ({ cls := "java/lang/IndexOutOfBoundsException", name := "<init>", desc := "(Ljava/lang/String;)V" } : Jvm.MethodName)) ∈ pz_T := pz_m4 40 rfl rfl
theorem pw_761 : (Jvm.Cond.instanceMethod ({ cls := "java/lang/IndexOutOfBoundsException", name := "<init>", desc := "(Ljava/lang/String;)V" } : Jvm.MethodName)) ∈ pz_T := pz_m4 41 rfl rfl
theorem pw_762 : (Jvm.Cond.code ({ cls := "java/lang/IndexOutOfBoundsException", name := "<init>", desc := "(Ljava/lang/String;)V" } : Jvm.MethodName) prog_14_method_2_code (2 : Nat) (Option.none : Option Jvm.ClassFile.FieldType)) ∈ pz_T := pz_m4 42 rfl rfl
theorem pw_763 : (Jvm.Cond.methodLink "java/lang/IndexOutOfBoundsException" (7 : Nat) ({ cls := "java/lang/RuntimeException", name := "<init>", desc := "(Ljava/lang/String;)V" } : Jvm.MethodName)) ∈ pz_T := pz_m4 43 rfl rfl
theorem pw_764 : (Jvm.Cond.instanceMethod ({ cls := "java/lang/RuntimeException", name := "<init>", desc := "(Ljava/lang/String;)V" } : Jvm.MethodName)) ∈ pz_T := pz_m4 44 rfl rfl
theorem pw_765 : (Jvm.Cond.code ({ cls := "java/lang/RuntimeException", name := "<init>", desc := "(Ljava/lang/String;)V" } : Jvm.MethodName) prog_16_method_2_code (2 : Nat) (Option.none : Option Jvm.ClassFile.FieldType)) ∈ pz_T := pz_m4 45 rfl rfl
theorem pw_766 : (Jvm.Cond.methodLink "java/lang/RuntimeException" (7 : Nat) ({ cls := "java/lang/Exception", name := "<init>", desc := "(Ljava/lang/String;)V" } : Jvm.MethodName)) ∈ pz_T := pz_m4 46 rfl rfl
theorem pw_767 : (Jvm.Cond.instanceMethod ({ cls := "java/lang/Exception", name := "<init>", desc := "(Ljava/lang/String;)V" } : Jvm.MethodName)) ∈ pz_T := pz_m4 47 rfl rfl
theorem pw_768 : (Jvm.Cond.code ({ cls := "java/lang/Exception", name := "<init>", desc := "(Ljava/lang/String;)V" } : Jvm.MethodName) prog_13_method_2_code (2 : Nat) (Option.none : Option Jvm.ClassFile.FieldType)) ∈ pz_T := pz_m4 48 rfl rfl
theorem pw_769 : (Jvm.Cond.methodLink "java/lang/Exception" (7 : Nat) ({ cls := "java/lang/Throwable", name := "<init>", desc := "(Ljava/lang/String;)V" } : Jvm.MethodName)) ∈ pz_T := pz_m4 49 rfl rfl
theorem pw_770 : (Jvm.Cond.instanceMethod ({ cls := "java/lang/Throwable", name := "<init>", desc := "(Ljava/lang/String;)V" } : Jvm.MethodName)) ∈ pz_T := pz_m4 50 rfl rfl
theorem pw_771 : (Jvm.Cond.code ({ cls := "java/lang/Throwable", name := "<init>", desc := "(Ljava/lang/String;)V" } : Jvm.MethodName) prog_21_method_2_code (2 : Nat) (Option.none : Option Jvm.ClassFile.FieldType)) ∈ pz_T := pz_m4 51 rfl rfl
theorem pw_772 : (Jvm.Cond.fieldLink "java/lang/Throwable" (198 : Nat) "java/lang/Throwable" "backtrace" "Ljava/lang/Object;") ∈ pz_T := pz_m4 52 rfl rfl
theorem pw_773 : (Jvm.Cond.fieldLink "java/lang/Throwable" (31 : Nat) "java/lang/Throwable" "detailMessage" "Ljava/lang/String;") ∈ pz_T := pz_m4 53 rfl rfl
theorem pw_774 : (Jvm.Cond.fieldLink "java/lang/Throwable" (7 : Nat) "java/lang/Throwable" "cause" "Ljava/lang/Throwable;") ∈ pz_T := pz_m4 54 rfl rfl
theorem pw_775 : (Jvm.Cond.fieldLink "java/lang/Throwable" (17 : Nat) "java/lang/Throwable" "stackTrace" "[Ljava/lang/StackTraceElement;") ∈ pz_T := pz_m4 55 rfl rfl
theorem pw_776 : (Jvm.Cond.fieldLink "java/lang/Throwable" (24 : Nat) "java/lang/Throwable" "suppressedExceptions" "Ljava/util/List;") ∈ pz_T := pz_m4 56 rfl rfl
theorem pw_777 : (Jvm.Cond.soleField "java/lang/Throwable" "backtrace") ∈ pz_T := pz_m4 57 rfl rfl
theorem pw_778 : (Jvm.Cond.soleField "java/lang/Throwable" "detailMessage") ∈ pz_T := pz_m4 58 rfl rfl
theorem pw_779 : (Jvm.Cond.soleField "java/lang/Throwable" "cause") ∈ pz_T := pz_m4 59 rfl rfl
theorem pw_780 : (Jvm.Cond.soleField "java/lang/Throwable" "stackTrace") ∈ pz_T := pz_m4 60 rfl rfl
theorem pw_781 : (Jvm.Cond.lays "java/lang/IndexOutOfBoundsException" "java/lang/Throwable" "depth" "I") ∈ pz_T := pz_m4 61 rfl rfl
theorem pw_782 : (Jvm.Cond.soleField "java/lang/Throwable" "depth") ∈ pz_T := pz_m4 62 rfl rfl
theorem pw_783 : (Jvm.Cond.soleField "java/lang/Throwable" "suppressedExceptions") ∈ pz_T := pz_m4 63 rfl rfl
theorem pw_784 : (Jvm.Cond.superclass "java/lang/IndexOutOfBoundsException" "java/lang/RuntimeException") ∈ pz_T := pz_m4 64 rfl rfl
theorem pw_785 : (Jvm.Cond.classLink "StoneHall" (183 : Nat) "java/util/NoSuchElementException") ∈ pz_T := pz_m4 65 rfl rfl
theorem pw_786 : (Jvm.Cond.instantiable "java/util/NoSuchElementException" (6 : Nat)) ∈ pz_T := pz_m4 66 rfl rfl
theorem pw_788 : (Jvm.Cond.selects "java/util/NoSuchElementException" ({ cls := "java/lang/Throwable", name := "fillInStackTrace", desc := "(I)Ljava/lang/Throwable;" } : Jvm.MethodName) ({ cls := "java/lang/Throwable", name := "fillInStackTrace", desc := "(I)Ljava/lang/Throwable;" } : Jvm.MethodName)) ∈ pz_T := pz_m4 68 rfl rfl
theorem pw_789 : (Jvm.Cond.lays "java/util/NoSuchElementException" "java/lang/Throwable" "cause" "Ljava/lang/Throwable;") ∈ pz_T := pz_m4 69 rfl rfl
theorem pw_790 : (Jvm.Cond.lays "java/util/NoSuchElementException" "java/lang/Throwable" "stackTrace" "[Ljava/lang/StackTraceElement;") ∈ pz_T := pz_m4 70 rfl rfl
theorem pw_791 : (Jvm.Cond.lays "java/util/NoSuchElementException" "java/lang/Throwable" "suppressedExceptions" "Ljava/util/List;") ∈ pz_T := pz_m4 71 rfl rfl
theorem pw_792 : (Jvm.Cond.lays "java/util/NoSuchElementException" "java/lang/Throwable" "detailMessage" "Ljava/lang/String;") ∈ pz_T := pz_m4 72 rfl rfl
theorem pw_793 : (Jvm.Cond.lays "java/util/NoSuchElementException" "java/lang/Throwable" "backtrace" "Ljava/lang/Object;") ∈ pz_T := pz_m4 73 rfl rfl
theorem pw_795 : (Jvm.Cond.methodLink "StoneHall" (187 : Nat) ({ cls := "java/util/NoSuchElementException", name := "<init>", desc := "(Ljava/lang/String;)V" } : Jvm.MethodName)) ∈ pz_T := pz_m4 75 rfl rfl
theorem pw_796 : (Jvm.Cond.instanceMethod ({ cls := "java/util/NoSuchElementException", name := "<init>", desc := "(Ljava/lang/String;)V" } : Jvm.MethodName)) ∈ pz_T := pz_m4 76 rfl rfl
theorem pw_797 : (Jvm.Cond.code ({ cls := "java/util/NoSuchElementException", name := "<init>", desc := "(Ljava/lang/String;)V" } : Jvm.MethodName) prog_23_method_4_code (2 : Nat) (Option.none : Option Jvm.ClassFile.FieldType)) ∈ pz_T := pz_m4 77 rfl rfl
theorem pw_798 : (Jvm.Cond.methodLink "java/util/NoSuchElementException" (13 : Nat) ({ cls := "java/lang/RuntimeException", name := "<init>", desc := "(Ljava/lang/String;)V" } : Jvm.MethodName)) ∈ pz_T := pz_m4 78 rfl rfl
theorem pw_799 : (Jvm.Cond.lays "java/util/NoSuchElementException" "java/lang/Throwable" "depth" "I") ∈ pz_T := pz_m4 79 rfl rfl
theorem pw_800 : (Jvm.Cond.superclass "java/util/NoSuchElementException" "java/lang/RuntimeException") ∈ pz_T := pz_m4 80 rfl rfl
theorem pw_801 : (Jvm.Cond.classLink "StoneHallLaw" (18 : Nat) "StoneHallModel") ∈ pz_T := pz_m4 81 rfl rfl
theorem pw_802 : (Jvm.Cond.instantiable "StoneHallModel" (42 : Nat)) ∈ pz_T := pz_m4 82 rfl rfl
theorem pw_803 : (Jvm.Cond.methodLink "StoneHallLaw" (20 : Nat) ({ cls := "StoneHallModel", name := "<init>", desc := "()V" } : Jvm.MethodName)) ∈ pz_T := pz_m4 83 rfl rfl
theorem pw_804 : (Jvm.Cond.instanceMethod ({ cls := "StoneHallModel", name := "<init>", desc := "()V" } : Jvm.MethodName)) ∈ pz_T := pz_m4 84 rfl rfl
theorem pw_805 : (Jvm.Cond.code ({ cls := "StoneHallModel", name := "<init>", desc := "()V" } : Jvm.MethodName) prog_11_method_1_code (1 : Nat) (Option.none : Option Jvm.ClassFile.FieldType)) ∈ pz_T := pz_m4 85 rfl rfl
theorem pw_806 : (Jvm.Cond.methodLink "StoneHallModel" (1 : Nat) ({ cls := "java/lang/Object", name := "<init>", desc := "()V" } : Jvm.MethodName)) ∈ pz_T := pz_m4 86 rfl rfl
theorem pw_807 : (Jvm.Cond.constant "StoneHallModel" (70 : Nat) (32805 : Int32)) ∈ pz_T := pz_m4 87 rfl rfl
theorem pw_808 : (Jvm.Cond.fieldLink "StoneHallModel" (7 : Nat) "StoneHallModel" "tape" "[I") ∈ pz_T := pz_m4 88 rfl rfl
theorem pw_809 : (Jvm.Cond.fieldLink "StoneHallModel" (80 : Nat) "StoneHallModel" "tapeSize" "I") ∈ pz_T := pz_m4 89 rfl rfl
theorem pw_810 : (Jvm.Cond.fieldLink "StoneHallModel" (77 : Nat) "StoneHallModel" "thrown" "I") ∈ pz_T := pz_m4 90 rfl rfl
theorem pw_811 : (Jvm.Cond.fieldLink "StoneHallModel" (135 : Nat) "StoneHallModel" "grades" "I") ∈ pz_T := pz_m4 91 rfl rfl
theorem pw_812 : (Jvm.Cond.fieldLink "StoneHallModel" (13 : Nat) "StoneHallModel" "worth" "[I") ∈ pz_T := pz_m4 92 rfl rfl
theorem pw_813 : (Jvm.Cond.fieldLink "StoneHallModel" (138 : Nat) "StoneHallModel" "kinds" "I") ∈ pz_T := pz_m4 93 rfl rfl
theorem pw_814 : (Jvm.Cond.fieldLink "StoneHallModel" (16 : Nat) "StoneHallModel" "prior" "[I") ∈ pz_T := pz_m4 94 rfl rfl
theorem pw_815 : (Jvm.Cond.fieldLink "StoneHallModel" (19 : Nat) "StoneHallModel" "weight" "[I") ∈ pz_T := pz_m4 95 rfl rfl
theorem pw_816 : (Jvm.Cond.fieldLink "StoneHallModel" (144 : Nat) "StoneHallModel" "men" "I") ∈ pz_T := pz_m4 96 rfl rfl
theorem pw_817 : (Jvm.Cond.fieldLink "StoneHallModel" (22 : Nat) "StoneHallModel" "purse" "[I") ∈ pz_T := pz_m4 97 rfl rfl
theorem pw_818 : (Jvm.Cond.fieldLink "StoneHallModel" (147 : Nat) "StoneHallModel" "boulders" "I") ∈ pz_T := pz_m4 98 rfl rfl
theorem pw_819 : (Jvm.Cond.fieldLink "StoneHallModel" (25 : Nat) "StoneHallModel" "slices" "[I") ∈ pz_T := pz_m4 99 rfl rfl
theorem pw_820 : (Jvm.Cond.fieldLink "StoneHallModel" (28 : Nat) "StoneHallModel" "inside" "[I") ∈ pz_T := pz_m4 100 rfl rfl
theorem pw_821 : (Jvm.Cond.fieldLink "StoneHallModel" (31 : Nat) "StoneHallModel" "seen" "[I") ∈ pz_T := pz_m4 101 rfl rfl
theorem pw_822 : (Jvm.Cond.fieldLink "StoneHallModel" (34 : Nat) "StoneHallModel" "spent" "[Z") ∈ pz_T := pz_m4 102 rfl rfl
theorem pw_823 : (Jvm.Cond.fieldLink "StoneHallModel" (38 : Nat) "StoneHallModel" "parts" "[I") ∈ pz_T := pz_m4 103 rfl rfl
theorem pw_824 : (Jvm.Cond.fieldLink "StoneHallModel" (198 : Nat) "StoneHallModel" "hall" "I") ∈ pz_T := pz_m4 104 rfl rfl
theorem pw_825 : (Jvm.Cond.fieldLink "StoneHallModel" (41 : Nat) "StoneHallModel" "bids" "[I") ∈ pz_T := pz_m4 105 rfl rfl
theorem pw_826 : (Jvm.Cond.fieldLink "StoneHallModel" (44 : Nat) "StoneHallModel" "bidder" "[I") ∈ pz_T := pz_m4 106 rfl rfl
theorem pw_827 : (Jvm.Cond.fieldLink "StoneHallModel" (47 : Nat) "StoneHallModel" "bidCoins" "[I") ∈ pz_T := pz_m4 107 rfl rfl
theorem pw_828 : (Jvm.Cond.fieldLink "StoneHallModel" (50 : Nat) "StoneHallModel" "rule" "[I") ∈ pz_T := pz_m4 108 rfl rfl
theorem pw_829 : (Jvm.Cond.fieldLink "StoneHallModel" (83 : Nat) "StoneHallModel" "fault" "I") ∈ pz_T := pz_m4 109 rfl rfl
theorem pw_830 : (Jvm.Cond.fieldLink "StoneHallModel" (53 : Nat) "StoneHallModel" "faultPlace" "I") ∈ pz_T := pz_m4 110 rfl rfl
theorem pw_831 : (Jvm.Cond.fieldLink "StoneHallModel" (57 : Nat) "StoneHallModel" "words" "[I") ∈ pz_T := pz_m4 111 rfl rfl
theorem pw_832 : (Jvm.Cond.fieldLink "StoneHallModel" (86 : Nat) "StoneHallModel" "size" "I") ∈ pz_T := pz_m4 112 rfl rfl
theorem pw_833 : (Jvm.Cond.fieldLink "StoneHallModel" (89 : Nat) "StoneHallModel" "next" "I") ∈ pz_T := pz_m4 113 rfl rfl
theorem pw_834 : (Jvm.Cond.fieldLink "StoneHallModel" (95 : Nat) "StoneHallModel" "token" "I") ∈ pz_T := pz_m4 114 rfl rfl
theorem pw_835 : (Jvm.Cond.fieldLink "StoneHallModel" (106 : Nat) "StoneHallModel" "which" "I") ∈ pz_T := pz_m4 115 rfl rfl
theorem pw_836 : (Jvm.Cond.fieldLink "StoneHallModel" (92 : Nat) "StoneHallModel" "place" "I") ∈ pz_T := pz_m4 116 rfl rfl
theorem pw_837 : (Jvm.Cond.fieldLink "StoneHallModel" (117 : Nat) "StoneHallModel" "read" "I") ∈ pz_T := pz_m4 117 rfl rfl
theorem pw_838 : (Jvm.Cond.fieldLink "StoneHallModel" (60 : Nat) "StoneHallModel" "dealt" "[I") ∈ pz_T := pz_m4 118 rfl rfl
theorem pw_839 : (Jvm.Cond.fieldLink "StoneHallModel" (178 : Nat) "StoneHallModel" "isSale" "Z") ∈ pz_T := pz_m4 119 rfl rfl
theorem pw_840 : (Jvm.Cond.fieldLink "StoneHallModel" (182 : Nat) "StoneHallModel" "salePrice" "I") ∈ pz_T := pz_m4 120 rfl rfl
theorem pw_841 : (Jvm.Cond.fieldLink "StoneHallModel" (185 : Nat) "StoneHallModel" "saleDefaults" "I") ∈ pz_T := pz_m4 121 rfl rfl
theorem pw_842 : (Jvm.Cond.fieldLink "StoneHallModel" (188 : Nat) "StoneHallModel" "saleTax" "I") ∈ pz_T := pz_m4 122 rfl rfl
theorem pw_843 : (Jvm.Cond.fieldLink "StoneHallModel" (165 : Nat) "StoneHallModel" "saleOut" "I") ∈ pz_T := pz_m4 123 rfl rfl
theorem pw_844 : (Jvm.Cond.fieldLink "StoneHallModel" (63 : Nat) "StoneHallModel" "row" "[I") ∈ pz_T := pz_m4 124 rfl rfl
theorem pw_845 : (Jvm.Cond.fieldLink "StoneHallModel" (66 : Nat) "StoneHallModel" "chance" "[J") ∈ pz_T := pz_m4 125 rfl rfl
theorem pw_846 : (Jvm.Cond.fieldLink "StoneHallModel" (71 : Nat) "StoneHallModel" "bests" "[J") ∈ pz_T := pz_m4 126 rfl rfl
theorem pw_847 : (Jvm.Cond.fieldLink "StoneHallModel" (74 : Nat) "StoneHallModel" "count" "[I") ∈ pz_T := pz_m4 127 rfl rfl
theorem pw_848 : (Jvm.Cond.fieldLink "StoneHallModel" (237 : Nat) "StoneHallModel" "cutValue" "J") ∈ pz_T := pz_m4 128 rfl rfl
theorem pw_849 : (Jvm.Cond.fieldLink "StoneHallModel" (233 : Nat) "StoneHallModel" "sellValue" "J") ∈ pz_T := pz_m4 129 rfl rfl
theorem pw_850 : (Jvm.Cond.laysFinal "StoneHallModel" "StoneHallModel" "tape" "[I") ∈ pz_T := pz_m4 130 rfl rfl
theorem pw_851 : (Jvm.Cond.soleField "StoneHallModel" "tape") ∈ pz_T := pz_m4 131 rfl rfl
theorem pw_852 : (Jvm.Cond.lays "StoneHallModel" "StoneHallModel" "tapeSize" "I") ∈ pz_T := pz_m4 132 rfl rfl
theorem pw_853 : (Jvm.Cond.soleField "StoneHallModel" "tapeSize") ∈ pz_T := pz_m4 133 rfl rfl
theorem pw_854 : (Jvm.Cond.lays "StoneHallModel" "StoneHallModel" "thrown" "I") ∈ pz_T := pz_m4 134 rfl rfl
theorem pw_855 : (Jvm.Cond.soleField "StoneHallModel" "thrown") ∈ pz_T := pz_m4 135 rfl rfl
theorem pw_856 : (Jvm.Cond.lays "StoneHallModel" "StoneHallModel" "grades" "I") ∈ pz_T := pz_m4 136 rfl rfl
theorem pw_857 : (Jvm.Cond.soleField "StoneHallModel" "grades") ∈ pz_T := pz_m4 137 rfl rfl
theorem pw_858 : (Jvm.Cond.laysFinal "StoneHallModel" "StoneHallModel" "worth" "[I") ∈ pz_T := pz_m4 138 rfl rfl
theorem pw_859 : (Jvm.Cond.soleField "StoneHallModel" "worth") ∈ pz_T := pz_m4 139 rfl rfl
theorem pw_860 : (Jvm.Cond.lays "StoneHallModel" "StoneHallModel" "kinds" "I") ∈ pz_T := pz_m4 140 rfl rfl
theorem pw_861 : (Jvm.Cond.soleField "StoneHallModel" "kinds") ∈ pz_T := pz_m4 141 rfl rfl
theorem pw_862 : (Jvm.Cond.laysFinal "StoneHallModel" "StoneHallModel" "prior" "[I") ∈ pz_T := pz_m4 142 rfl rfl
theorem pw_863 : (Jvm.Cond.soleField "StoneHallModel" "prior") ∈ pz_T := pz_m4 143 rfl rfl
theorem pw_864 : (Jvm.Cond.laysFinal "StoneHallModel" "StoneHallModel" "weight" "[I") ∈ pz_T := pz_m4 144 rfl rfl
theorem pw_865 : (Jvm.Cond.soleField "StoneHallModel" "weight") ∈ pz_T := pz_m4 145 rfl rfl
theorem pw_866 : (Jvm.Cond.lays "StoneHallModel" "StoneHallModel" "men" "I") ∈ pz_T := pz_m4 146 rfl rfl
theorem pw_867 : (Jvm.Cond.soleField "StoneHallModel" "men") ∈ pz_T := pz_m4 147 rfl rfl
theorem pw_868 : (Jvm.Cond.laysFinal "StoneHallModel" "StoneHallModel" "purse" "[I") ∈ pz_T := pz_m4 148 rfl rfl
theorem pw_869 : (Jvm.Cond.soleField "StoneHallModel" "purse") ∈ pz_T := pz_m4 149 rfl rfl
theorem pw_870 : (Jvm.Cond.lays "StoneHallModel" "StoneHallModel" "boulders" "I") ∈ pz_T := pz_m4 150 rfl rfl
theorem pw_871 : (Jvm.Cond.soleField "StoneHallModel" "boulders") ∈ pz_T := pz_m4 151 rfl rfl
theorem pw_872 : (Jvm.Cond.laysFinal "StoneHallModel" "StoneHallModel" "slices" "[I") ∈ pz_T := pz_m4 152 rfl rfl
theorem pw_873 : (Jvm.Cond.soleField "StoneHallModel" "slices") ∈ pz_T := pz_m4 153 rfl rfl
theorem pw_874 : (Jvm.Cond.laysFinal "StoneHallModel" "StoneHallModel" "inside" "[I") ∈ pz_T := pz_m4 154 rfl rfl
theorem pw_875 : (Jvm.Cond.soleField "StoneHallModel" "inside") ∈ pz_T := pz_m4 155 rfl rfl
theorem pw_876 : (Jvm.Cond.laysFinal "StoneHallModel" "StoneHallModel" "seen" "[I") ∈ pz_T := pz_m4 156 rfl rfl
theorem pw_877 : (Jvm.Cond.soleField "StoneHallModel" "seen") ∈ pz_T := pz_m4 157 rfl rfl
theorem pw_878 : (Jvm.Cond.laysFinal "StoneHallModel" "StoneHallModel" "spent" "[Z") ∈ pz_T := pz_m4 158 rfl rfl
theorem pw_879 : (Jvm.Cond.soleField "StoneHallModel" "spent") ∈ pz_T := pz_m4 159 rfl rfl
theorem pw_880 : (Jvm.Cond.laysFinal "StoneHallModel" "StoneHallModel" "parts" "[I") ∈ pz_T := pz_m4 160 rfl rfl
theorem pw_881 : (Jvm.Cond.soleField "StoneHallModel" "parts") ∈ pz_T := pz_m4 161 rfl rfl
theorem pw_882 : (Jvm.Cond.lays "StoneHallModel" "StoneHallModel" "hall" "I") ∈ pz_T := pz_m4 162 rfl rfl
theorem pw_883 : (Jvm.Cond.soleField "StoneHallModel" "hall") ∈ pz_T := pz_m4 163 rfl rfl
theorem pw_884 : (Jvm.Cond.laysFinal "StoneHallModel" "StoneHallModel" "bids" "[I") ∈ pz_T := pz_m4 164 rfl rfl
theorem pw_885 : (Jvm.Cond.soleField "StoneHallModel" "bids") ∈ pz_T := pz_m4 165 rfl rfl
theorem pw_886 : (Jvm.Cond.laysFinal "StoneHallModel" "StoneHallModel" "bidder" "[I") ∈ pz_T := pz_m4 166 rfl rfl
theorem pw_887 : (Jvm.Cond.soleField "StoneHallModel" "bidder") ∈ pz_T := pz_m4 167 rfl rfl
theorem pw_888 : (Jvm.Cond.laysFinal "StoneHallModel" "StoneHallModel" "bidCoins" "[I") ∈ pz_T := pz_m4 168 rfl rfl
theorem pw_889 : (Jvm.Cond.soleField "StoneHallModel" "bidCoins") ∈ pz_T := pz_m4 169 rfl rfl
theorem pw_890 : (Jvm.Cond.laysFinal "StoneHallModel" "StoneHallModel" "rule" "[I") ∈ pz_T := pz_m4 170 rfl rfl
theorem pw_891 : (Jvm.Cond.soleField "StoneHallModel" "rule") ∈ pz_T := pz_m4 171 rfl rfl
theorem pw_892 : (Jvm.Cond.lays "StoneHallModel" "StoneHallModel" "fault" "I") ∈ pz_T := pz_m4 172 rfl rfl
theorem pw_893 : (Jvm.Cond.soleField "StoneHallModel" "fault") ∈ pz_T := pz_m4 173 rfl rfl
theorem pw_894 : (Jvm.Cond.lays "StoneHallModel" "StoneHallModel" "faultPlace" "I") ∈ pz_T := pz_m4 174 rfl rfl
theorem pw_895 : (Jvm.Cond.soleField "StoneHallModel" "faultPlace") ∈ pz_T := pz_m4 175 rfl rfl
theorem pw_896 : (Jvm.Cond.laysFinal "StoneHallModel" "StoneHallModel" "words" "[I") ∈ pz_T := pz_m4 176 rfl rfl
theorem pw_897 : (Jvm.Cond.soleField "StoneHallModel" "words") ∈ pz_T := pz_m4 177 rfl rfl
theorem pw_898 : (Jvm.Cond.lays "StoneHallModel" "StoneHallModel" "size" "I") ∈ pz_T := pz_m4 178 rfl rfl
theorem pw_899 : (Jvm.Cond.soleField "StoneHallModel" "size") ∈ pz_T := pz_m4 179 rfl rfl
theorem pw_900 : (Jvm.Cond.lays "StoneHallModel" "StoneHallModel" "next" "I") ∈ pz_T := pz_m4 180 rfl rfl
theorem pw_901 : (Jvm.Cond.soleField "StoneHallModel" "next") ∈ pz_T := pz_m4 181 rfl rfl
theorem pw_902 : (Jvm.Cond.lays "StoneHallModel" "StoneHallModel" "token" "I") ∈ pz_T := pz_m4 182 rfl rfl
theorem pw_903 : (Jvm.Cond.soleField "StoneHallModel" "token") ∈ pz_T := pz_m4 183 rfl rfl
theorem pw_904 : (Jvm.Cond.lays "StoneHallModel" "StoneHallModel" "which" "I") ∈ pz_T := pz_m4 184 rfl rfl
theorem pw_905 : (Jvm.Cond.soleField "StoneHallModel" "which") ∈ pz_T := pz_m4 185 rfl rfl
theorem pw_906 : (Jvm.Cond.lays "StoneHallModel" "StoneHallModel" "place" "I") ∈ pz_T := pz_m4 186 rfl rfl
theorem pw_907 : (Jvm.Cond.soleField "StoneHallModel" "place") ∈ pz_T := pz_m4 187 rfl rfl
theorem pw_908 : (Jvm.Cond.lays "StoneHallModel" "StoneHallModel" "read" "I") ∈ pz_T := pz_m4 188 rfl rfl
theorem pw_909 : (Jvm.Cond.soleField "StoneHallModel" "read") ∈ pz_T := pz_m4 189 rfl rfl
theorem pw_910 : (Jvm.Cond.laysFinal "StoneHallModel" "StoneHallModel" "dealt" "[I") ∈ pz_T := pz_m4 190 rfl rfl
theorem pw_911 : (Jvm.Cond.soleField "StoneHallModel" "dealt") ∈ pz_T := pz_m4 191 rfl rfl
theorem pw_912 : (Jvm.Cond.lays "StoneHallModel" "StoneHallModel" "isSale" "Z") ∈ pz_T := pz_m4 192 rfl rfl
theorem pw_913 : (Jvm.Cond.soleField "StoneHallModel" "isSale") ∈ pz_T := pz_m4 193 rfl rfl
theorem pw_914 : (Jvm.Cond.lays "StoneHallModel" "StoneHallModel" "salePrice" "I") ∈ pz_T := pz_m4 194 rfl rfl
theorem pw_915 : (Jvm.Cond.soleField "StoneHallModel" "salePrice") ∈ pz_T := pz_m4 195 rfl rfl
theorem pw_916 : (Jvm.Cond.lays "StoneHallModel" "StoneHallModel" "saleDefaults" "I") ∈ pz_T := pz_m4 196 rfl rfl
theorem pw_917 : (Jvm.Cond.soleField "StoneHallModel" "saleDefaults") ∈ pz_T := pz_m4 197 rfl rfl
theorem pw_918 : (Jvm.Cond.lays "StoneHallModel" "StoneHallModel" "saleTax" "I") ∈ pz_T := pz_m4 198 rfl rfl
theorem pw_919 : (Jvm.Cond.soleField "StoneHallModel" "saleTax") ∈ pz_T := pz_m4 199 rfl rfl
theorem pw_920 : (Jvm.Cond.lays "StoneHallModel" "StoneHallModel" "saleOut" "I") ∈ pz_T := pz_m4 200 rfl rfl
theorem pw_921 : (Jvm.Cond.soleField "StoneHallModel" "saleOut") ∈ pz_T := pz_m4 201 rfl rfl
theorem pw_922 : (Jvm.Cond.laysFinal "StoneHallModel" "StoneHallModel" "row" "[I") ∈ pz_T := pz_m4 202 rfl rfl
theorem pw_923 : (Jvm.Cond.soleField "StoneHallModel" "row") ∈ pz_T := pz_m4 203 rfl rfl
theorem pw_924 : (Jvm.Cond.laysFinal "StoneHallModel" "StoneHallModel" "chance" "[J") ∈ pz_T := pz_m4 204 rfl rfl
theorem pw_925 : (Jvm.Cond.soleField "StoneHallModel" "chance") ∈ pz_T := pz_m4 205 rfl rfl
theorem pw_926 : (Jvm.Cond.laysFinal "StoneHallModel" "StoneHallModel" "bests" "[J") ∈ pz_T := pz_m4 206 rfl rfl
theorem pw_927 : (Jvm.Cond.soleField "StoneHallModel" "bests") ∈ pz_T := pz_m4 207 rfl rfl
theorem pw_928 : (Jvm.Cond.laysFinal "StoneHallModel" "StoneHallModel" "count" "[I") ∈ pz_T := pz_m4 208 rfl rfl
theorem pw_929 : (Jvm.Cond.soleField "StoneHallModel" "count") ∈ pz_T := pz_m4 209 rfl rfl
theorem pw_930 : (Jvm.Cond.lays "StoneHallModel" "StoneHallModel" "cutValue" "J") ∈ pz_T := pz_m4 210 rfl rfl
theorem pw_931 : (Jvm.Cond.soleField "StoneHallModel" "cutValue") ∈ pz_T := pz_m4 211 rfl rfl
theorem pw_932 : (Jvm.Cond.lays "StoneHallModel" "StoneHallModel" "sellValue" "J") ∈ pz_T := pz_m4 212 rfl rfl
theorem pw_933 : (Jvm.Cond.soleField "StoneHallModel" "sellValue") ∈ pz_T := pz_m4 213 rfl rfl
theorem pw_934 : (Jvm.Cond.superclass "StoneHallModel" "java/lang/Object") ∈ pz_T := pz_m4 214 rfl rfl
theorem pw_935 : (Jvm.Cond.methodLink "StoneHallLaw" (83 : Nat) ({ cls := "StoneHallModel", name := "thrown", desc := "()I" } : Jvm.MethodName)) ∈ pz_T := pz_m4 215 rfl rfl
theorem pw_936 : (Jvm.Cond.instanceMethod ({ cls := "StoneHallModel", name := "thrown", desc := "()I" } : Jvm.MethodName)) ∈ pz_T := pz_m4 216 rfl rfl
theorem pw_937 : (Jvm.Cond.selects "StoneHallModel" ({ cls := "StoneHallModel", name := "thrown", desc := "()I" } : Jvm.MethodName) ({ cls := "StoneHallModel", name := "thrown", desc := "()I" } : Jvm.MethodName)) ∈ pz_T := pz_m4 217 rfl rfl
theorem pw_938 : (Jvm.Cond.code ({ cls := "StoneHallModel", name := "thrown", desc := "()I" } : Jvm.MethodName) prog_11_method_2_code (1 : Nat) (Option.some Jvm.ClassFile.FieldType.int)) ∈ pz_T := pz_m4 218 rfl rfl
theorem pw_939 : (Jvm.Cond.methodLink "StoneHallLaw" (25 : Nat) ({ cls := "StoneHallModel", name := "feed", desc := "(IIIII)I" } : Jvm.MethodName)) ∈ pz_T := pz_m4 219 rfl rfl
theorem pw_940 : (Jvm.Cond.instanceMethod ({ cls := "StoneHallModel", name := "feed", desc := "(IIIII)I" } : Jvm.MethodName)) ∈ pz_T := pz_m4 220 rfl rfl
theorem pw_941 : (Jvm.Cond.selects "StoneHallModel" ({ cls := "StoneHallModel", name := "feed", desc := "(IIIII)I" } : Jvm.MethodName) ({ cls := "StoneHallModel", name := "feed", desc := "(IIIII)I" } : Jvm.MethodName)) ∈ pz_T := pz_m4 221 rfl rfl
theorem pw_942 : (Jvm.Cond.code ({ cls := "StoneHallModel", name := "feed", desc := "(IIIII)I" } : Jvm.MethodName) prog_11_method_3_code (8 : Nat) (Option.some Jvm.ClassFile.FieldType.int)) ∈ pz_T := pz_m4 222 rfl rfl
theorem pw_943 : (Jvm.Cond.methodLink "StoneHallLaw" (30 : Nat) ({ cls := "StoneHallModel", name := "customs", desc := "(I)I" } : Jvm.MethodName)) ∈ pz_T := pz_m4 223 rfl rfl
theorem pw_944 : (Jvm.Cond.instanceMethod ({ cls := "StoneHallModel", name := "customs", desc := "(I)I" } : Jvm.MethodName)) ∈ pz_T := pz_m4 224 rfl rfl
theorem pw_945 : (Jvm.Cond.selects "StoneHallModel" ({ cls := "StoneHallModel", name := "customs", desc := "(I)I" } : Jvm.MethodName) ({ cls := "StoneHallModel", name := "customs", desc := "(I)I" } : Jvm.MethodName)) ∈ pz_T := pz_m4 225 rfl rfl
theorem pw_946 : (Jvm.Cond.code ({ cls := "StoneHallModel", name := "customs", desc := "(I)I" } : Jvm.MethodName) prog_11_method_12_code (4 : Nat) (Option.some Jvm.ClassFile.FieldType.int)) ∈ pz_T := pz_m4 226 rfl rfl
theorem pw_947 : (Jvm.Cond.methodLink "StoneHallModel" (120 : Nat) ({ cls := "StoneHallModel", name := "take", desc := "()V" } : Jvm.MethodName)) ∈ pz_T := pz_m4 227 rfl rfl
theorem pw_949 : (Jvm.Cond.instanceMethod ({ cls := "StoneHallModel", name := "take", desc := "()V" } : Jvm.MethodName)) ∈ pz_T := pz_m4 229 rfl rfl
theorem pw_950 : (Jvm.Cond.code ({ cls := "StoneHallModel", name := "take", desc := "()V" } : Jvm.MethodName) prog_11_method_8_code (1 : Nat) (Option.none : Option Jvm.ClassFile.FieldType)) ∈ pz_T := pz_m4 230 rfl rfl
theorem pw_951 : (Jvm.Cond.methodLink "StoneHallModel" (98 : Nat) ({ cls := "StoneHallModel", name := "isSmall", desc := "(I)Z" } : Jvm.MethodName)) ∈ pz_T := pz_m4 231 rfl rfl
theorem pw_953 : (Jvm.Cond.instanceMethod ({ cls := "StoneHallModel", name := "isSmall", desc := "(I)Z" } : Jvm.MethodName)) ∈ pz_T := pz_m4 233 rfl rfl
theorem pw_954 : (Jvm.Cond.code ({ cls := "StoneHallModel", name := "isSmall", desc := "(I)Z" } : Jvm.MethodName) prog_11_method_6_code (2 : Nat) (Option.some Jvm.ClassFile.FieldType.boolean)) ∈ pz_T := pz_m4 234 rfl rfl
theorem pw_955 : (Jvm.Cond.methodLink "StoneHallModel" (102 : Nat) ({ cls := "StoneHallModel", name := "wordAt", desc := "(II)I" } : Jvm.MethodName)) ∈ pz_T := pz_m4 235 rfl rfl
theorem pw_957 : (Jvm.Cond.instanceMethod ({ cls := "StoneHallModel", name := "wordAt", desc := "(II)I" } : Jvm.MethodName)) ∈ pz_T := pz_m4 237 rfl rfl
theorem pw_958 : (Jvm.Cond.code ({ cls := "StoneHallModel", name := "wordAt", desc := "(II)I" } : Jvm.MethodName) prog_11_method_5_code (8 : Nat) (Option.some Jvm.ClassFile.FieldType.int)) ∈ pz_T := pz_m4 238 rfl rfl
theorem pw_959 : (Jvm.Cond.methodLink "StoneHallModel" (109 : Nat) ({ cls := "StoneHallModel", name := "isDigit", desc := "(I)Z" } : Jvm.MethodName)) ∈ pz_T := pz_m4 239 rfl rfl
theorem pw_961 : (Jvm.Cond.instanceMethod ({ cls := "StoneHallModel", name := "isDigit", desc := "(I)Z" } : Jvm.MethodName)) ∈ pz_T := pz_m5 1 rfl rfl
theorem pw_962 : (Jvm.Cond.code ({ cls := "StoneHallModel", name := "isDigit", desc := "(I)Z" } : Jvm.MethodName) prog_11_method_7_code (2 : Nat) (Option.some Jvm.ClassFile.FieldType.boolean)) ∈ pz_T := pz_m5 2 rfl rfl
theorem pw_963 : (Jvm.Cond.constant "StoneHallModel" (112 : Nat) (999999 : Int32)) ∈ pz_T := pz_m5 3 rfl rfl
theorem pw_964 : (Jvm.Cond.methodLink "StoneHallModel" (131 : Nat) ({ cls := "StoneHallModel", name := "line", desc := "()Z" } : Jvm.MethodName)) ∈ pz_T := pz_m5 4 rfl rfl
theorem pw_966 : (Jvm.Cond.instanceMethod ({ cls := "StoneHallModel", name := "line", desc := "()Z" } : Jvm.MethodName)) ∈ pz_T := pz_m5 6 rfl rfl
theorem pw_967 : (Jvm.Cond.code ({ cls := "StoneHallModel", name := "line", desc := "()Z" } : Jvm.MethodName) prog_11_method_11_code (4 : Nat) (Option.some Jvm.ClassFile.FieldType.boolean)) ∈ pz_T := pz_m5 7 rfl rfl
theorem pw_968 : (Jvm.Cond.methodLink "StoneHallModel" (113 : Nat) ({ cls := "StoneHallModel", name := "wrong", desc := "(II)Z" } : Jvm.MethodName)) ∈ pz_T := pz_m5 8 rfl rfl
theorem pw_970 : (Jvm.Cond.instanceMethod ({ cls := "StoneHallModel", name := "wrong", desc := "(II)Z" } : Jvm.MethodName)) ∈ pz_T := pz_m5 10 rfl rfl
theorem pw_971 : (Jvm.Cond.code ({ cls := "StoneHallModel", name := "wrong", desc := "(II)Z" } : Jvm.MethodName) prog_11_method_4_code (3 : Nat) (Option.some Jvm.ClassFile.FieldType.boolean)) ∈ pz_T := pz_m5 11 rfl rfl
theorem pw_972 : (Jvm.Cond.methodLink "StoneHallModel" (124 : Nat) ({ cls := "StoneHallModel", name := "number", desc := "(I)Z" } : Jvm.MethodName)) ∈ pz_T := pz_m5 12 rfl rfl
theorem pw_974 : (Jvm.Cond.instanceMethod ({ cls := "StoneHallModel", name := "number", desc := "(I)Z" } : Jvm.MethodName)) ∈ pz_T := pz_m5 14 rfl rfl
theorem pw_975 : (Jvm.Cond.code ({ cls := "StoneHallModel", name := "number", desc := "(I)Z" } : Jvm.MethodName) prog_11_method_9_code (2 : Nat) (Option.some Jvm.ClassFile.FieldType.boolean)) ∈ pz_T := pz_m5 15 rfl rfl
theorem pw_976 : (Jvm.Cond.methodLink "StoneHallModel" (127 : Nat) ({ cls := "StoneHallModel", name := "most", desc := "(I)I" } : Jvm.MethodName)) ∈ pz_T := pz_m5 16 rfl rfl
theorem pw_977 : (Jvm.Cond.static ({ cls := "StoneHallModel", name := "most", desc := "(I)I" } : Jvm.MethodName)) ∈ pz_T := pz_m5 17 rfl rfl
theorem pw_978 : (Jvm.Cond.code ({ cls := "StoneHallModel", name := "most", desc := "(I)I" } : Jvm.MethodName) prog_11_method_10_code (1 : Nat) (Option.some Jvm.ClassFile.FieldType.int)) ∈ pz_T := pz_m5 18 rfl rfl
theorem pw_979 : (Jvm.Cond.constant "StoneHallModel" (123 : Nat) (99999 : Int32)) ∈ pz_T := pz_m5 19 rfl rfl
theorem pw_980 : (Jvm.Cond.methodLink "StoneHallLaw" (34 : Nat) ({ cls := "StoneHallModel", name := "fault", desc := "(I)I" } : Jvm.MethodName)) ∈ pz_T := pz_m5 20 rfl rfl
theorem pw_981 : (Jvm.Cond.instanceMethod ({ cls := "StoneHallModel", name := "fault", desc := "(I)I" } : Jvm.MethodName)) ∈ pz_T := pz_m5 21 rfl rfl
theorem pw_982 : (Jvm.Cond.selects "StoneHallModel" ({ cls := "StoneHallModel", name := "fault", desc := "(I)I" } : Jvm.MethodName) ({ cls := "StoneHallModel", name := "fault", desc := "(I)I" } : Jvm.MethodName)) ∈ pz_T := pz_m5 22 rfl rfl
theorem pw_983 : (Jvm.Cond.code ({ cls := "StoneHallModel", name := "fault", desc := "(I)I" } : Jvm.MethodName) prog_11_method_13_code (2 : Nat) (Option.some Jvm.ClassFile.FieldType.int)) ∈ pz_T := pz_m5 23 rfl rfl
theorem pw_984 : (Jvm.Cond.methodLink "StoneHallLaw" (38 : Nat) ({ cls := "StoneHallModel", name := "grade", desc := "(I)I" } : Jvm.MethodName)) ∈ pz_T := pz_m5 24 rfl rfl
theorem pw_985 : (Jvm.Cond.instanceMethod ({ cls := "StoneHallModel", name := "grade", desc := "(I)I" } : Jvm.MethodName)) ∈ pz_T := pz_m5 25 rfl rfl
theorem pw_986 : (Jvm.Cond.selects "StoneHallModel" ({ cls := "StoneHallModel", name := "grade", desc := "(I)I" } : Jvm.MethodName) ({ cls := "StoneHallModel", name := "grade", desc := "(I)I" } : Jvm.MethodName)) ∈ pz_T := pz_m5 26 rfl rfl
theorem pw_987 : (Jvm.Cond.code ({ cls := "StoneHallModel", name := "grade", desc := "(I)I" } : Jvm.MethodName) prog_11_method_14_code (2 : Nat) (Option.some Jvm.ClassFile.FieldType.int)) ∈ pz_T := pz_m5 27 rfl rfl
theorem pw_988 : (Jvm.Cond.methodLink "StoneHallLaw" (42 : Nat) ({ cls := "StoneHallModel", name := "kind", desc := "(IIIII)I" } : Jvm.MethodName)) ∈ pz_T := pz_m5 28 rfl rfl
theorem pw_989 : (Jvm.Cond.instanceMethod ({ cls := "StoneHallModel", name := "kind", desc := "(IIIII)I" } : Jvm.MethodName)) ∈ pz_T := pz_m5 29 rfl rfl
theorem pw_990 : (Jvm.Cond.selects "StoneHallModel" ({ cls := "StoneHallModel", name := "kind", desc := "(IIIII)I" } : Jvm.MethodName) ({ cls := "StoneHallModel", name := "kind", desc := "(IIIII)I" } : Jvm.MethodName)) ∈ pz_T := pz_m5 30 rfl rfl
theorem pw_991 : (Jvm.Cond.code ({ cls := "StoneHallModel", name := "kind", desc := "(IIIII)I" } : Jvm.MethodName) prog_11_method_16_code (6 : Nat) (Option.some Jvm.ClassFile.FieldType.int)) ∈ pz_T := pz_m5 31 rfl rfl
theorem pw_992 : (Jvm.Cond.methodLink "StoneHallModel" (141 : Nat) ({ cls := "StoneHallModel", name := "isWeight", desc := "(II)Z" } : Jvm.MethodName)) ∈ pz_T := pz_m5 32 rfl rfl
theorem pw_994 : (Jvm.Cond.instanceMethod ({ cls := "StoneHallModel", name := "isWeight", desc := "(II)Z" } : Jvm.MethodName)) ∈ pz_T := pz_m5 34 rfl rfl
theorem pw_995 : (Jvm.Cond.code ({ cls := "StoneHallModel", name := "isWeight", desc := "(II)Z" } : Jvm.MethodName) prog_11_method_15_code (3 : Nat) (Option.some Jvm.ClassFile.FieldType.boolean)) ∈ pz_T := pz_m5 35 rfl rfl
theorem pw_996 : (Jvm.Cond.methodLink "StoneHallLaw" (46 : Nat) ({ cls := "StoneHallModel", name := "man", desc := "(I)I" } : Jvm.MethodName)) ∈ pz_T := pz_m5 36 rfl rfl
theorem pw_997 : (Jvm.Cond.instanceMethod ({ cls := "StoneHallModel", name := "man", desc := "(I)I" } : Jvm.MethodName)) ∈ pz_T := pz_m5 37 rfl rfl
theorem pw_998 : (Jvm.Cond.selects "StoneHallModel" ({ cls := "StoneHallModel", name := "man", desc := "(I)I" } : Jvm.MethodName) ({ cls := "StoneHallModel", name := "man", desc := "(I)I" } : Jvm.MethodName)) ∈ pz_T := pz_m5 38 rfl rfl
theorem pw_999 : (Jvm.Cond.code ({ cls := "StoneHallModel", name := "man", desc := "(I)I" } : Jvm.MethodName) prog_11_method_17_code (2 : Nat) (Option.some Jvm.ClassFile.FieldType.int)) ∈ pz_T := pz_m5 39 rfl rfl
theorem pw_1000 : (Jvm.Cond.methodLink "StoneHallLaw" (51 : Nat) ({ cls := "StoneHallModel", name := "boulder", desc := "(III)I" } : Jvm.MethodName)) ∈ pz_T := pz_m5 40 rfl rfl
theorem pw_1001 : (Jvm.Cond.instanceMethod ({ cls := "StoneHallModel", name := "boulder", desc := "(III)I" } : Jvm.MethodName)) ∈ pz_T := pz_m5 41 rfl rfl
theorem pw_1002 : (Jvm.Cond.selects "StoneHallModel" ({ cls := "StoneHallModel", name := "boulder", desc := "(III)I" } : Jvm.MethodName) ({ cls := "StoneHallModel", name := "boulder", desc := "(III)I" } : Jvm.MethodName)) ∈ pz_T := pz_m5 42 rfl rfl
theorem pw_1003 : (Jvm.Cond.code ({ cls := "StoneHallModel", name := "boulder", desc := "(III)I" } : Jvm.MethodName) prog_11_method_21_code (5 : Nat) (Option.some Jvm.ClassFile.FieldType.int)) ∈ pz_T := pz_m5 43 rfl rfl
theorem pw_1004 : (Jvm.Cond.methodLink "StoneHallModel" (153 : Nat) ({ cls := "StoneHallModel", name := "isMan", desc := "(I)Z" } : Jvm.MethodName)) ∈ pz_T := pz_m5 44 rfl rfl
theorem pw_1006 : (Jvm.Cond.instanceMethod ({ cls := "StoneHallModel", name := "isMan", desc := "(I)Z" } : Jvm.MethodName)) ∈ pz_T := pz_m5 46 rfl rfl
theorem pw_1007 : (Jvm.Cond.code ({ cls := "StoneHallModel", name := "isMan", desc := "(I)Z" } : Jvm.MethodName) prog_11_method_18_code (2 : Nat) (Option.some Jvm.ClassFile.FieldType.boolean)) ∈ pz_T := pz_m5 47 rfl rfl
theorem pw_1008 : (Jvm.Cond.methodLink "StoneHallLaw" (56 : Nat) ({ cls := "StoneHallModel", name := "share", desc := "(IIII)Z" } : Jvm.MethodName)) ∈ pz_T := pz_m5 48 rfl rfl
theorem pw_1009 : (Jvm.Cond.instanceMethod ({ cls := "StoneHallModel", name := "share", desc := "(IIII)Z" } : Jvm.MethodName)) ∈ pz_T := pz_m5 49 rfl rfl
theorem pw_1010 : (Jvm.Cond.selects "StoneHallModel" ({ cls := "StoneHallModel", name := "share", desc := "(IIII)Z" } : Jvm.MethodName) ({ cls := "StoneHallModel", name := "share", desc := "(IIII)Z" } : Jvm.MethodName)) ∈ pz_T := pz_m5 50 rfl rfl
theorem pw_1011 : (Jvm.Cond.code ({ cls := "StoneHallModel", name := "share", desc := "(IIII)Z" } : Jvm.MethodName) prog_11_method_22_code (5 : Nat) (Option.some Jvm.ClassFile.FieldType.boolean)) ∈ pz_T := pz_m5 51 rfl rfl
theorem pw_1012 : (Jvm.Cond.methodLink "StoneHallModel" (156 : Nat) ({ cls := "StoneHallModel", name := "isWhole", desc := "(I)Z" } : Jvm.MethodName)) ∈ pz_T := pz_m5 52 rfl rfl
theorem pw_1014 : (Jvm.Cond.instanceMethod ({ cls := "StoneHallModel", name := "isWhole", desc := "(I)Z" } : Jvm.MethodName)) ∈ pz_T := pz_m5 54 rfl rfl
theorem pw_1015 : (Jvm.Cond.code ({ cls := "StoneHallModel", name := "isWhole", desc := "(I)Z" } : Jvm.MethodName) prog_11_method_20_code (2 : Nat) (Option.some Jvm.ClassFile.FieldType.boolean)) ∈ pz_T := pz_m5 55 rfl rfl
theorem pw_1016 : (Jvm.Cond.methodLink "StoneHallModel" (150 : Nat) ({ cls := "StoneHallModel", name := "isBoulder", desc := "(I)Z" } : Jvm.MethodName)) ∈ pz_T := pz_m5 56 rfl rfl
theorem pw_1018 : (Jvm.Cond.instanceMethod ({ cls := "StoneHallModel", name := "isBoulder", desc := "(I)Z" } : Jvm.MethodName)) ∈ pz_T := pz_m5 58 rfl rfl
theorem pw_1019 : (Jvm.Cond.code ({ cls := "StoneHallModel", name := "isBoulder", desc := "(I)Z" } : Jvm.MethodName) prog_11_method_19_code (2 : Nat) (Option.some Jvm.ClassFile.FieldType.boolean)) ∈ pz_T := pz_m5 59 rfl rfl
theorem pw_1020 : (Jvm.Cond.methodLink "StoneHallLaw" (60 : Nat) ({ cls := "StoneHallModel", name := "bid", desc := "(III)I" } : Jvm.MethodName)) ∈ pz_T := pz_m5 60 rfl rfl
theorem pw_1021 : (Jvm.Cond.instanceMethod ({ cls := "StoneHallModel", name := "bid", desc := "(III)I" } : Jvm.MethodName)) ∈ pz_T := pz_m5 61 rfl rfl
theorem pw_1022 : (Jvm.Cond.selects "StoneHallModel" ({ cls := "StoneHallModel", name := "bid", desc := "(III)I" } : Jvm.MethodName) ({ cls := "StoneHallModel", name := "bid", desc := "(III)I" } : Jvm.MethodName)) ∈ pz_T := pz_m5 62 rfl rfl
theorem pw_1023 : (Jvm.Cond.code ({ cls := "StoneHallModel", name := "bid", desc := "(III)I" } : Jvm.MethodName) prog_11_method_23_code (5 : Nat) (Option.some Jvm.ClassFile.FieldType.int)) ∈ pz_T := pz_m5 63 rfl rfl
theorem pw_1024 : (Jvm.Cond.methodLink "StoneHallLaw" (64 : Nat) ({ cls := "StoneHallModel", name := "open", desc := "(I)I" } : Jvm.MethodName)) ∈ pz_T := pz_m5 64 rfl rfl
theorem pw_1025 : (Jvm.Cond.instanceMethod ({ cls := "StoneHallModel", name := "open", desc := "(I)I" } : Jvm.MethodName)) ∈ pz_T := pz_m5 65 rfl rfl
theorem pw_1026 : (Jvm.Cond.selects "StoneHallModel" ({ cls := "StoneHallModel", name := "open", desc := "(I)I" } : Jvm.MethodName) ({ cls := "StoneHallModel", name := "open", desc := "(I)I" } : Jvm.MethodName)) ∈ pz_T := pz_m5 66 rfl rfl
theorem pw_1027 : (Jvm.Cond.code ({ cls := "StoneHallModel", name := "open", desc := "(I)I" } : Jvm.MethodName) prog_11_method_30_code (10 : Nat) (Option.some Jvm.ClassFile.FieldType.int)) ∈ pz_T := pz_m5 67 rfl rfl
theorem pw_1028 : (Jvm.Cond.methodLink "StoneHallModel" (175 : Nat) ({ cls := "StoneHallModel", name := "line0", desc := "(I)I" } : Jvm.MethodName)) ∈ pz_T := pz_m5 68 rfl rfl
theorem pw_1030 : (Jvm.Cond.instanceMethod ({ cls := "StoneHallModel", name := "line0", desc := "(I)I" } : Jvm.MethodName)) ∈ pz_T := pz_m5 70 rfl rfl
theorem pw_1031 : (Jvm.Cond.code ({ cls := "StoneHallModel", name := "line0", desc := "(I)I" } : Jvm.MethodName) prog_11_method_28_code (7 : Nat) (Option.some Jvm.ClassFile.FieldType.int)) ∈ pz_T := pz_m5 71 rfl rfl
theorem pw_1032 : (Jvm.Cond.methodLink "StoneHallModel" (168 : Nat) ({ cls := "StoneHallModel", name := "hundredth", desc := "(II)I" } : Jvm.MethodName)) ∈ pz_T := pz_m5 72 rfl rfl
theorem pw_1033 : (Jvm.Cond.static ({ cls := "StoneHallModel", name := "hundredth", desc := "(II)I" } : Jvm.MethodName)) ∈ pz_T := pz_m5 73 rfl rfl
theorem pw_1034 : (Jvm.Cond.code ({ cls := "StoneHallModel", name := "hundredth", desc := "(II)I" } : Jvm.MethodName) prog_11_method_26_code (2 : Nat) (Option.some Jvm.ClassFile.FieldType.int)) ∈ pz_T := pz_m5 74 rfl rfl
theorem pw_1035 : (Jvm.Cond.constantLong "StoneHallModel" (163 : Nat) (100 : Int64)) ∈ pz_T := pz_m5 75 rfl rfl
theorem pw_1036 : (Jvm.Cond.methodLink "StoneHallModel" (171 : Nat) ({ cls := "StoneHallModel", name := "isAhead", desc := "(III)Z" } : Jvm.MethodName)) ∈ pz_T := pz_m5 76 rfl rfl
theorem pw_1038 : (Jvm.Cond.instanceMethod ({ cls := "StoneHallModel", name := "isAhead", desc := "(III)Z" } : Jvm.MethodName)) ∈ pz_T := pz_m5 78 rfl rfl
theorem pw_1039 : (Jvm.Cond.code ({ cls := "StoneHallModel", name := "isAhead", desc := "(III)Z" } : Jvm.MethodName) prog_11_method_27_code (4 : Nat) (Option.some Jvm.ClassFile.FieldType.boolean)) ∈ pz_T := pz_m5 79 rfl rfl
theorem pw_1040 : (Jvm.Cond.methodLink "StoneHallModel" (191 : Nat) ({ cls := "StoneHallModel", name := "priceOf", desc := "(III)I" } : Jvm.MethodName)) ∈ pz_T := pz_m5 80 rfl rfl
theorem pw_1042 : (Jvm.Cond.instanceMethod ({ cls := "StoneHallModel", name := "priceOf", desc := "(III)I" } : Jvm.MethodName)) ∈ pz_T := pz_m5 82 rfl rfl
theorem pw_1043 : (Jvm.Cond.code ({ cls := "StoneHallModel", name := "priceOf", desc := "(III)I" } : Jvm.MethodName) prog_11_method_29_code (5 : Nat) (Option.some Jvm.ClassFile.FieldType.int)) ∈ pz_T := pz_m5 83 rfl rfl
theorem pw_1044 : (Jvm.Cond.methodLink "StoneHallModel" (195 : Nat) ({ cls := "StoneHallModel", name := "pay", desc := "(II)V" } : Jvm.MethodName)) ∈ pz_T := pz_m5 84 rfl rfl
theorem pw_1046 : (Jvm.Cond.instanceMethod ({ cls := "StoneHallModel", name := "pay", desc := "(II)V" } : Jvm.MethodName)) ∈ pz_T := pz_m5 86 rfl rfl
theorem pw_1047 : (Jvm.Cond.code ({ cls := "StoneHallModel", name := "pay", desc := "(II)V" } : Jvm.MethodName) prog_11_method_25_code (4 : Nat) (Option.none : Option Jvm.ClassFile.FieldType)) ∈ pz_T := pz_m5 87 rfl rfl
theorem pw_1048 : (Jvm.Cond.methodLink "StoneHallModel" (159 : Nat) ({ cls := "StoneHallModel", name := "deal", desc := "(II)V" } : Jvm.MethodName)) ∈ pz_T := pz_m5 88 rfl rfl
theorem pw_1050 : (Jvm.Cond.instanceMethod ({ cls := "StoneHallModel", name := "deal", desc := "(II)V" } : Jvm.MethodName)) ∈ pz_T := pz_m5 90 rfl rfl
theorem pw_1051 : (Jvm.Cond.code ({ cls := "StoneHallModel", name := "deal", desc := "(II)V" } : Jvm.MethodName) prog_11_method_24_code (5 : Nat) (Option.none : Option Jvm.ClassFile.FieldType)) ∈ pz_T := pz_m5 91 rfl rfl
theorem pw_1052 : (Jvm.Cond.methodLink "StoneHallLaw" (68 : Nat) ({ cls := "StoneHallModel", name := "sale", desc := "(I)I" } : Jvm.MethodName)) ∈ pz_T := pz_m5 92 rfl rfl
theorem pw_1053 : (Jvm.Cond.instanceMethod ({ cls := "StoneHallModel", name := "sale", desc := "(I)I" } : Jvm.MethodName)) ∈ pz_T := pz_m5 93 rfl rfl
theorem pw_1054 : (Jvm.Cond.selects "StoneHallModel" ({ cls := "StoneHallModel", name := "sale", desc := "(I)I" } : Jvm.MethodName) ({ cls := "StoneHallModel", name := "sale", desc := "(I)I" } : Jvm.MethodName)) ∈ pz_T := pz_m5 94 rfl rfl
theorem pw_1055 : (Jvm.Cond.code ({ cls := "StoneHallModel", name := "sale", desc := "(I)I" } : Jvm.MethodName) prog_11_method_31_code (2 : Nat) (Option.some Jvm.ClassFile.FieldType.int)) ∈ pz_T := pz_m5 95 rfl rfl
theorem pw_1056 : (Jvm.Cond.methodLink "StoneHallLaw" (72 : Nat) ({ cls := "StoneHallModel", name := "cut", desc := "(I)I" } : Jvm.MethodName)) ∈ pz_T := pz_m5 96 rfl rfl
theorem pw_1057 : (Jvm.Cond.instanceMethod ({ cls := "StoneHallModel", name := "cut", desc := "(I)I" } : Jvm.MethodName)) ∈ pz_T := pz_m5 97 rfl rfl
theorem pw_1058 : (Jvm.Cond.selects "StoneHallModel" ({ cls := "StoneHallModel", name := "cut", desc := "(I)I" } : Jvm.MethodName) ({ cls := "StoneHallModel", name := "cut", desc := "(I)I" } : Jvm.MethodName)) ∈ pz_T := pz_m5 98 rfl rfl
theorem pw_1059 : (Jvm.Cond.code ({ cls := "StoneHallModel", name := "cut", desc := "(I)I" } : Jvm.MethodName) prog_11_method_33_code (3 : Nat) (Option.some Jvm.ClassFile.FieldType.int)) ∈ pz_T := pz_m5 99 rfl rfl
theorem pw_1060 : (Jvm.Cond.methodLink "StoneHallModel" (201 : Nat) ({ cls := "StoneHallModel", name := "gradeAt", desc := "(II)I" } : Jvm.MethodName)) ∈ pz_T := pz_m5 100 rfl rfl
theorem pw_1062 : (Jvm.Cond.instanceMethod ({ cls := "StoneHallModel", name := "gradeAt", desc := "(II)I" } : Jvm.MethodName)) ∈ pz_T := pz_m5 102 rfl rfl
theorem pw_1063 : (Jvm.Cond.code ({ cls := "StoneHallModel", name := "gradeAt", desc := "(II)I" } : Jvm.MethodName) prog_11_method_32_code (3 : Nat) (Option.some Jvm.ClassFile.FieldType.int)) ∈ pz_T := pz_m5 103 rfl rfl
theorem pw_1064 : (Jvm.Cond.methodLink "StoneHallLaw" (76 : Nat) ({ cls := "StoneHallModel", name := "sell", desc := "(I)I" } : Jvm.MethodName)) ∈ pz_T := pz_m5 104 rfl rfl
theorem pw_1065 : (Jvm.Cond.instanceMethod ({ cls := "StoneHallModel", name := "sell", desc := "(I)I" } : Jvm.MethodName)) ∈ pz_T := pz_m5 105 rfl rfl
theorem pw_1066 : (Jvm.Cond.selects "StoneHallModel" ({ cls := "StoneHallModel", name := "sell", desc := "(I)I" } : Jvm.MethodName) ({ cls := "StoneHallModel", name := "sell", desc := "(I)I" } : Jvm.MethodName)) ∈ pz_T := pz_m5 106 rfl rfl
theorem pw_1067 : (Jvm.Cond.code ({ cls := "StoneHallModel", name := "sell", desc := "(I)I" } : Jvm.MethodName) prog_11_method_36_code (3 : Nat) (Option.some Jvm.ClassFile.FieldType.int)) ∈ pz_T := pz_m5 107 rfl rfl
theorem pw_1068 : (Jvm.Cond.methodLink "StoneHallModel" (204 : Nat) ({ cls := "StoneHallModel", name := "lastOf", desc := "(I)I" } : Jvm.MethodName)) ∈ pz_T := pz_m5 108 rfl rfl
theorem pw_1070 : (Jvm.Cond.instanceMethod ({ cls := "StoneHallModel", name := "lastOf", desc := "(I)I" } : Jvm.MethodName)) ∈ pz_T := pz_m5 110 rfl rfl
theorem pw_1071 : (Jvm.Cond.code ({ cls := "StoneHallModel", name := "lastOf", desc := "(I)I" } : Jvm.MethodName) prog_11_method_35_code (2 : Nat) (Option.some Jvm.ClassFile.FieldType.int)) ∈ pz_T := pz_m5 111 rfl rfl
theorem pw_1072 : (Jvm.Cond.methodLink "StoneHallModel" (207 : Nat) ({ cls := "StoneHallModel", name := "offerOf", desc := "(I)I" } : Jvm.MethodName)) ∈ pz_T := pz_m5 112 rfl rfl
theorem pw_1074 : (Jvm.Cond.instanceMethod ({ cls := "StoneHallModel", name := "offerOf", desc := "(I)I" } : Jvm.MethodName)) ∈ pz_T := pz_m5 114 rfl rfl
theorem pw_1075 : (Jvm.Cond.code ({ cls := "StoneHallModel", name := "offerOf", desc := "(I)I" } : Jvm.MethodName) prog_11_method_34_code (2 : Nat) (Option.some Jvm.ClassFile.FieldType.int)) ∈ pz_T := pz_m5 115 rfl rfl
theorem pw_1076 : (Jvm.Cond.methodLink "StoneHallLaw" (82 : Nat) ({ cls := "StoneHallModel", name := "look", desc := "(II)I" } : Jvm.MethodName)) ∈ pz_T := pz_m5 116 rfl rfl
theorem pw_1077 : (Jvm.Cond.instanceMethod ({ cls := "StoneHallModel", name := "look", desc := "(II)I" } : Jvm.MethodName)) ∈ pz_T := pz_m5 117 rfl rfl
theorem pw_1078 : (Jvm.Cond.selects "StoneHallModel" ({ cls := "StoneHallModel", name := "look", desc := "(II)I" } : Jvm.MethodName) ({ cls := "StoneHallModel", name := "look", desc := "(II)I" } : Jvm.MethodName)) ∈ pz_T := pz_m5 118 rfl rfl
theorem pw_1079 : (Jvm.Cond.code ({ cls := "StoneHallModel", name := "look", desc := "(II)I" } : Jvm.MethodName) prog_11_method_38_code (3 : Nat) (Option.some Jvm.ClassFile.FieldType.int)) ∈ pz_T := pz_m5 119 rfl rfl
theorem pw_1080 : (Jvm.Cond.methodLink "StoneHallModel" (210 : Nat) ({ cls := "StoneHallModel", name := "fails", desc := "(I)I" } : Jvm.MethodName)) ∈ pz_T := pz_m5 120 rfl rfl
theorem pw_1082 : (Jvm.Cond.instanceMethod ({ cls := "StoneHallModel", name := "fails", desc := "(I)I" } : Jvm.MethodName)) ∈ pz_T := pz_m5 122 rfl rfl
theorem pw_1083 : (Jvm.Cond.code ({ cls := "StoneHallModel", name := "fails", desc := "(I)I" } : Jvm.MethodName) prog_11_method_37_code (2 : Nat) (Option.some Jvm.ClassFile.FieldType.int)) ∈ pz_T := pz_m5 123 rfl rfl
theorem pw_1084 : (Jvm.Cond.methodLink "StoneHallLaw" (90 : Nat) ({ cls := "StoneHallModel", name := "parts", desc := "(II)I" } : Jvm.MethodName)) ∈ pz_T := pz_m5 124 rfl rfl
theorem pw_1085 : (Jvm.Cond.instanceMethod ({ cls := "StoneHallModel", name := "parts", desc := "(II)I" } : Jvm.MethodName)) ∈ pz_T := pz_m5 125 rfl rfl
theorem pw_1086 : (Jvm.Cond.selects "StoneHallModel" ({ cls := "StoneHallModel", name := "parts", desc := "(II)I" } : Jvm.MethodName) ({ cls := "StoneHallModel", name := "parts", desc := "(II)I" } : Jvm.MethodName)) ∈ pz_T := pz_m5 126 rfl rfl
theorem pw_1087 : (Jvm.Cond.code ({ cls := "StoneHallModel", name := "parts", desc := "(II)I" } : Jvm.MethodName) prog_11_method_39_code (3 : Nat) (Option.some Jvm.ClassFile.FieldType.int)) ∈ pz_T := pz_m5 127 rfl rfl
theorem pw_1088 : (Jvm.Cond.methodLink "StoneHallLaw" (94 : Nat) ({ cls := "StoneHallModel", name := "purse", desc := "(I)I" } : Jvm.MethodName)) ∈ pz_T := pz_m5 128 rfl rfl
theorem pw_1089 : (Jvm.Cond.instanceMethod ({ cls := "StoneHallModel", name := "purse", desc := "(I)I" } : Jvm.MethodName)) ∈ pz_T := pz_m5 129 rfl rfl
theorem pw_1090 : (Jvm.Cond.selects "StoneHallModel" ({ cls := "StoneHallModel", name := "purse", desc := "(I)I" } : Jvm.MethodName) ({ cls := "StoneHallModel", name := "purse", desc := "(I)I" } : Jvm.MethodName)) ∈ pz_T := pz_m5 130 rfl rfl
theorem pw_1091 : (Jvm.Cond.code ({ cls := "StoneHallModel", name := "purse", desc := "(I)I" } : Jvm.MethodName) prog_11_method_40_code (2 : Nat) (Option.some Jvm.ClassFile.FieldType.int)) ∈ pz_T := pz_m5 131 rfl rfl
theorem pw_1092 : (Jvm.Cond.methodLink "StoneHallLaw" (99 : Nat) ({ cls := "StoneHallModel", name := "rest", desc := "(II)J" } : Jvm.MethodName)) ∈ pz_T := pz_m5 132 rfl rfl
theorem pw_1093 : (Jvm.Cond.instanceMethod ({ cls := "StoneHallModel", name := "rest", desc := "(II)J" } : Jvm.MethodName)) ∈ pz_T := pz_m5 133 rfl rfl
theorem pw_1094 : (Jvm.Cond.selects "StoneHallModel" ({ cls := "StoneHallModel", name := "rest", desc := "(II)J" } : Jvm.MethodName) ({ cls := "StoneHallModel", name := "rest", desc := "(II)J" } : Jvm.MethodName)) ∈ pz_T := pz_m5 134 rfl rfl
theorem pw_1095 : (Jvm.Cond.code ({ cls := "StoneHallModel", name := "rest", desc := "(II)J" } : Jvm.MethodName) prog_11_method_44_code (11 : Nat) (Option.some Jvm.ClassFile.FieldType.long)) ∈ pz_T := pz_m5 135 rfl rfl
theorem pw_1096 : (Jvm.Cond.constantLong "StoneHallModel" (217 : Nat) (-1 : Int64)) ∈ pz_T := pz_m5 136 rfl rfl
theorem pw_1097 : (Jvm.Cond.methodLink "StoneHallModel" (219 : Nat) ({ cls := "StoneHallModel", name := "chances", desc := "(I)J" } : Jvm.MethodName)) ∈ pz_T := pz_m5 137 rfl rfl
theorem pw_1099 : (Jvm.Cond.instanceMethod ({ cls := "StoneHallModel", name := "chances", desc := "(I)J" } : Jvm.MethodName)) ∈ pz_T := pz_m5 139 rfl rfl
theorem pw_1100 : (Jvm.Cond.code ({ cls := "StoneHallModel", name := "chances", desc := "(I)J" } : Jvm.MethodName) prog_11_method_41_code (6 : Nat) (Option.some Jvm.ClassFile.FieldType.long)) ∈ pz_T := pz_m5 140 rfl rfl
theorem pw_1101 : (Jvm.Cond.constantLong "StoneHallModel" (223 : Nat) (16 : Int64)) ∈ pz_T := pz_m5 141 rfl rfl
theorem pw_1102 : (Jvm.Cond.methodLink "StoneHallModel" (225 : Nat) ({ cls := "StoneHallModel", name := "least", desc := "(JJI)J" } : Jvm.MethodName)) ∈ pz_T := pz_m5 142 rfl rfl
theorem pw_1103 : (Jvm.Cond.static ({ cls := "StoneHallModel", name := "least", desc := "(JJI)J" } : Jvm.MethodName)) ∈ pz_T := pz_m5 143 rfl rfl
theorem pw_1104 : (Jvm.Cond.code ({ cls := "StoneHallModel", name := "least", desc := "(JJI)J" } : Jvm.MethodName) prog_11_method_43_code (7 : Nat) (Option.some Jvm.ClassFile.FieldType.long)) ∈ pz_T := pz_m5 144 rfl rfl
theorem pw_1105 : (Jvm.Cond.methodLink "StoneHallModel" (213 : Nat) ({ cls := "StoneHallModel", name := "divisor", desc := "(JJ)J" } : Jvm.MethodName)) ∈ pz_T := pz_m5 145 rfl rfl
theorem pw_1106 : (Jvm.Cond.static ({ cls := "StoneHallModel", name := "divisor", desc := "(JJ)J" } : Jvm.MethodName)) ∈ pz_T := pz_m5 146 rfl rfl
theorem pw_1107 : (Jvm.Cond.code ({ cls := "StoneHallModel", name := "divisor", desc := "(JJ)J" } : Jvm.MethodName) prog_11_method_42_code (10 : Nat) (Option.some Jvm.ClassFile.FieldType.long)) ∈ pz_T := pz_m5 147 rfl rfl
theorem pw_1108 : (Jvm.Cond.methodLink "StoneHallLaw" (108 : Nat) ({ cls := "StoneHallModel", name := "likely", desc := "(III)J" } : Jvm.MethodName)) ∈ pz_T := pz_m5 148 rfl rfl
theorem pw_1109 : (Jvm.Cond.instanceMethod ({ cls := "StoneHallModel", name := "likely", desc := "(III)J" } : Jvm.MethodName)) ∈ pz_T := pz_m5 149 rfl rfl
theorem pw_1110 : (Jvm.Cond.selects "StoneHallModel" ({ cls := "StoneHallModel", name := "likely", desc := "(III)J" } : Jvm.MethodName) ({ cls := "StoneHallModel", name := "likely", desc := "(III)J" } : Jvm.MethodName)) ∈ pz_T := pz_m5 150 rfl rfl
theorem pw_1111 : (Jvm.Cond.code ({ cls := "StoneHallModel", name := "likely", desc := "(III)J" } : Jvm.MethodName) prog_11_method_45_code (6 : Nat) (Option.some Jvm.ClassFile.FieldType.long)) ∈ pz_T := pz_m5 151 rfl rfl
theorem pw_1112 : (Jvm.Cond.methodLink "StoneHallLaw" (103 : Nat) ({ cls := "StoneHallModel", name := "best", desc := "(II)J" } : Jvm.MethodName)) ∈ pz_T := pz_m5 152 rfl rfl
theorem pw_1113 : (Jvm.Cond.instanceMethod ({ cls := "StoneHallModel", name := "best", desc := "(II)J" } : Jvm.MethodName)) ∈ pz_T := pz_m5 153 rfl rfl
theorem pw_1114 : (Jvm.Cond.selects "StoneHallModel" ({ cls := "StoneHallModel", name := "best", desc := "(II)J" } : Jvm.MethodName) ({ cls := "StoneHallModel", name := "best", desc := "(II)J" } : Jvm.MethodName)) ∈ pz_T := pz_m5 154 rfl rfl
theorem pw_1115 : (Jvm.Cond.code ({ cls := "StoneHallModel", name := "best", desc := "(II)J" } : Jvm.MethodName) prog_11_method_49_code (13 : Nat) (Option.some Jvm.ClassFile.FieldType.long)) ∈ pz_T := pz_m5 155 rfl rfl
theorem pw_1116 : (Jvm.Cond.constantLong "StoneHallModel" (243 : Nat) (-9223372036854775808 : Int64)) ∈ pz_T := pz_m5 156 rfl rfl
theorem pw_1117 : (Jvm.Cond.methodLink "StoneHallModel" (229 : Nat) ({ cls := "StoneHallModel", name := "together", desc := "()J" } : Jvm.MethodName)) ∈ pz_T := pz_m5 157 rfl rfl
theorem pw_1119 : (Jvm.Cond.instanceMethod ({ cls := "StoneHallModel", name := "together", desc := "()J" } : Jvm.MethodName)) ∈ pz_T := pz_m5 159 rfl rfl
theorem pw_1120 : (Jvm.Cond.code ({ cls := "StoneHallModel", name := "together", desc := "()J" } : Jvm.MethodName) prog_11_method_47_code (8 : Nat) (Option.some Jvm.ClassFile.FieldType.long)) ∈ pz_T := pz_m5 160 rfl rfl
theorem pw_1121 : (Jvm.Cond.methodLink "StoneHallModel" (245 : Nat) ({ cls := "StoneHallModel", name := "values", desc := "(IIJ)V" } : Jvm.MethodName)) ∈ pz_T := pz_m5 161 rfl rfl
theorem pw_1123 : (Jvm.Cond.instanceMethod ({ cls := "StoneHallModel", name := "values", desc := "(IIJ)V" } : Jvm.MethodName)) ∈ pz_T := pz_m5 163 rfl rfl
theorem pw_1124 : (Jvm.Cond.code ({ cls := "StoneHallModel", name := "values", desc := "(IIJ)V" } : Jvm.MethodName) prog_11_method_48_code (10 : Nat) (Option.none : Option Jvm.ClassFile.FieldType)) ∈ pz_T := pz_m5 164 rfl rfl
theorem pw_1125 : (Jvm.Cond.methodLink "StoneHallModel" (240 : Nat) ({ cls := "StoneHallModel", name := "indexOf", desc := "(I)I" } : Jvm.MethodName)) ∈ pz_T := pz_m5 165 rfl rfl
theorem pw_1127 : (Jvm.Cond.instanceMethod ({ cls := "StoneHallModel", name := "indexOf", desc := "(I)I" } : Jvm.MethodName)) ∈ pz_T := pz_m5 167 rfl rfl
theorem pw_1128 : (Jvm.Cond.code ({ cls := "StoneHallModel", name := "indexOf", desc := "(I)I" } : Jvm.MethodName) prog_11_method_46_code (2 : Nat) (Option.some Jvm.ClassFile.FieldType.int)) ∈ pz_T := pz_m5 168 rfl rfl
theorem pw_1129 : (Jvm.Cond.constantLong "StoneHallModel" (249 : Nat) (2 : Int64)) ∈ pz_T := pz_m5 169 rfl rfl
theorem pw_1130 : (Jvm.Cond.methodLink "StoneHallLaw" (112 : Nat) ({ cls := "StoneHallModel", name := "count", desc := "(I)I" } : Jvm.MethodName)) ∈ pz_T := pz_m5 170 rfl rfl
theorem pw_1131 : (Jvm.Cond.instanceMethod ({ cls := "StoneHallModel", name := "count", desc := "(I)I" } : Jvm.MethodName)) ∈ pz_T := pz_m5 171 rfl rfl
theorem pw_1132 : (Jvm.Cond.selects "StoneHallModel" ({ cls := "StoneHallModel", name := "count", desc := "(I)I" } : Jvm.MethodName) ({ cls := "StoneHallModel", name := "count", desc := "(I)I" } : Jvm.MethodName)) ∈ pz_T := pz_m5 172 rfl rfl
theorem pw_1133 : (Jvm.Cond.code ({ cls := "StoneHallModel", name := "count", desc := "(I)I" } : Jvm.MethodName) prog_11_method_50_code (2 : Nat) (Option.some Jvm.ClassFile.FieldType.int)) ∈ pz_T := pz_m5 173 rfl rfl
theorem pw_1134 : (Jvm.Cond.constant "StoneHallModel" (251 : Nat) (-1000000000 : Int32)) ∈ pz_T := pz_m5 174 rfl rfl
theorem pw_1135 : (Jvm.Cond.sameMethod "java/lang/Throwable" "java/lang/Throwable" "fillInStackTrace" "(I)Ljava/lang/Throwable;") ∈ pz_T := pz_m5 175 rfl rfl
theorem pw_1150 : (Jvm.Cond.fieldLink "StoneHall$Customs" (112 : Nat) "StoneHall$Line" "word" "Ljava/lang/String;") ∈ pz_T := pz_m5 190 rfl rfl
theorem pw_1151 : (Jvm.Cond.fieldLink "java/lang/String" (9 : Nat) "java/lang/String" "value" "[B") ∈ pz_T := pz_m5 191 rfl rfl
theorem pw_1152 : (Jvm.Cond.fieldLink "java/lang/String" (15 : Nat) "java/lang/String" "coder" "B") ∈ pz_T := pz_m5 192 rfl rfl
theorem pw_1153 : (Jvm.Cond.fieldLink "StoneHall$Customs" (57 : Nat) "StoneHall$Line" "slot" "I") ∈ pz_T := pz_m5 193 rfl rfl
theorem pw_1154 : (Jvm.Cond.fieldLink "StoneHall$Line" (58 : Nat) "StoneHall$Line" "usual" "Ljava/lang/String;") ∈ pz_T := pz_m5 194 rfl rfl
theorem pw_1155 : (Jvm.Cond.fieldLink "StoneHall$Customs" (94 : Nat) "StoneHall$Line" "other" "Ljava/lang/String;") ∈ pz_T := pz_m5 195 rfl rfl
theorem pw_1156 : (Jvm.Cond.fieldLink "StoneHall$Customs" (102 : Nat) "StoneHall$Line" "usual" "Ljava/lang/String;") ∈ pz_T := pz_m5 196 rfl rfl
theorem pw_1157 : (Jvm.Cond.fieldLink "StoneHall$Customs" (105 : Nat) "StoneHall$Line" "most" "I") ∈ pz_T := pz_m5 197 rfl rfl
theorem pv_0 : Cond.selects "StoneHall$Customs" ⟨"StoneHall$Customs", "startDraft", "()V"⟩ ⟨"StoneHall$Customs", "startDraft", "()V"⟩ ∈ pz_T := pz_v1 0 rfl rfl
theorem pv_1 : Cond.selects "StoneHall$Reader" ⟨"StoneHall$Reader", "skipBlanks", "()V"⟩ ⟨"StoneHall$Reader", "skipBlanks", "()V"⟩ ∈ pz_T := pz_v1 1 rfl rfl
theorem pv_2 : Cond.selects "StoneHall$Reader" ⟨"StoneHall$Reader", "signAt", "(I)I"⟩ ⟨"StoneHall$Reader", "signAt", "(I)I"⟩ ∈ pz_T := pz_v1 2 rfl rfl
theorem pv_3 : Cond.selects "StoneHall$Reader" ⟨"StoneHall$Reader", "passLetters", "()V"⟩ ⟨"StoneHall$Reader", "passLetters", "()V"⟩ ∈ pz_T := pz_v1 3 rfl rfl
theorem pv_4 : Cond.selects "StoneHall$Reader" ⟨"StoneHall$Reader", "passDigits", "()V"⟩ ⟨"StoneHall$Reader", "passDigits", "()V"⟩ ∈ pz_T := pz_v1 4 rfl rfl
theorem pv_5 : Cond.selects "StoneHall$Customs" ⟨"StoneHall$Customs", "readLine", "()Z"⟩ ⟨"StoneHall$Customs", "readLine", "()Z"⟩ ∈ pz_T := pz_v1 5 rfl rfl
theorem pv_6 : Cond.selects "StoneHall$Customs" ⟨"StoneHall$Customs", "lineHere", "()LStoneHall$Line;"⟩ ⟨"StoneHall$Customs", "lineHere", "()LStoneHall$Line;"⟩ ∈ pz_T := pz_v1 6 rfl rfl
theorem pv_7 : Cond.selects "StoneHall$Customs" ⟨"StoneHall$Customs", "blame", "(I)Z"⟩ ⟨"StoneHall$Customs", "blame", "(I)Z"⟩ ∈ pz_T := pz_v1 7 rfl rfl
theorem pv_8 : Cond.selects "StoneHall$Customs" ⟨"StoneHall$Customs", "isNumberUpTo", "(I)Z"⟩ ⟨"StoneHall$Customs", "isNumberUpTo", "(I)Z"⟩ ∈ pz_T := pz_v1 8 rfl rfl
theorem pv_9 : Cond.selects "StoneHall$Customs" ⟨"StoneHall$Customs", "keepSaying", "(LStoneHall$Line;I)Z"⟩ ⟨"StoneHall$Customs", "keepSaying", "(LStoneHall$Line;I)Z"⟩ ∈ pz_T := pz_v1 9 rfl rfl
theorem pv_10 : Cond.selects "StoneHall$Chances" ⟨"StoneHall$Chances", "canWeigh", "(II)Z"⟩ ⟨"StoneHall$Chances", "canWeigh", "(II)Z"⟩ ∈ pz_T := pz_v1 10 rfl rfl
theorem pv_11 : Cond.selects "StoneHall$Chances" ⟨"StoneHall$Chances", "keepWeight", "(II)V"⟩ ⟨"StoneHall$Chances", "keepWeight", "(II)V"⟩ ∈ pz_T := pz_v1 11 rfl rfl
theorem pv_12 : Cond.selects "StoneHall" ⟨"StoneHall", "unspent", "(I)LStoneHall$Boulder;"⟩ ⟨"StoneHall", "unspent", "(I)LStoneHall$Boulder;"⟩ ∈ pz_T := pz_v1 12 rfl rfl
theorem pv_13 : Cond.selects "StoneHall" ⟨"StoneHall", "known", "(I)LStoneHall$Boulder;"⟩ ⟨"StoneHall", "known", "(I)LStoneHall$Boulder;"⟩ ∈ pz_T := pz_v1 13 rfl rfl
theorem pv_14 : Cond.selects "StoneHall$Sale" ⟨"StoneHall$Sale", "rankBids", "(LStoneHall$Boulder;LStoneHall$Men;LStoneHall$Customs;)V"⟩ ⟨"StoneHall$Sale", "rankBids", "(LStoneHall$Boulder;LStoneHall$Men;LStoneHall$Customs;)V"⟩ ∈ pz_T := pz_v1 14 rfl rfl
theorem pv_15 : Cond.selects "StoneHall$Sale" ⟨"StoneHall$Sale", "rank", "(II)V"⟩ ⟨"StoneHall$Sale", "rank", "(II)V"⟩ ∈ pz_T := pz_v1 15 rfl rfl
theorem pv_16 : Cond.selects "StoneHall$Sale" ⟨"StoneHall$Sale", "isBarredTie", "(ILStoneHall$Customs;)Z"⟩ ⟨"StoneHall$Sale", "isBarredTie", "(ILStoneHall$Customs;)Z"⟩ ∈ pz_T := pz_v2 0 rfl rfl
theorem pv_17 : Cond.selects "StoneHall$Sale" ⟨"StoneHall$Sale", "priceFor", "(ILStoneHall$Customs;)I"⟩ ⟨"StoneHall$Sale", "priceFor", "(ILStoneHall$Customs;)I"⟩ ∈ pz_T := pz_v2 1 rfl rfl
theorem pv_18 : Cond.selects "StoneHall$Sale" ⟨"StoneHall$Sale", "settle", "(IILStoneHall$Boulder;LStoneHall$Men;LStoneHall$Customs;)V"⟩ ⟨"StoneHall$Sale", "settle", "(IILStoneHall$Boulder;LStoneHall$Men;LStoneHall$Customs;)V"⟩ ∈ pz_T := pz_v2 2 rfl rfl
theorem pv_19 : Cond.selects "StoneHall$Men" ⟨"StoneHall$Men", "divide", "(LStoneHall$Boulder;I)V"⟩ ⟨"StoneHall$Men", "divide", "(LStoneHall$Boulder;I)V"⟩ ∈ pz_T := pz_v2 3 rfl rfl
theorem pv_20 : Cond.selects "StoneHall$Sale" ⟨"StoneHall$Sale", "forfeit", "(ILStoneHall$Boulder;LStoneHall$Men;LStoneHall$Customs;)V"⟩ ⟨"StoneHall$Sale", "forfeit", "(ILStoneHall$Boulder;LStoneHall$Men;LStoneHall$Customs;)V"⟩ ∈ pz_T := pz_v2 4 rfl rfl
theorem pv_21 : Cond.selects "StoneHall$Chances" ⟨"StoneHall$Chances", "keepFraction", "(JJ)V"⟩ ⟨"StoneHall$Chances", "keepFraction", "(JJ)V"⟩ ∈ pz_T := pz_v2 5 rfl rfl
theorem pv_22 : Cond.selects "StoneHall$Chances" ⟨"StoneHall$Chances", "valueOfCutting", "(ILStoneHall$Customs;)J"⟩ ⟨"StoneHall$Chances", "valueOfCutting", "(ILStoneHall$Customs;)J"⟩ ∈ pz_T := pz_v2 6 rfl rfl
theorem pv_23 : Cond.selects "StoneHall$Chances" ⟨"StoneHall$Chances", "goFurther", "(IIII)V"⟩ ⟨"StoneHall$Chances", "goFurther", "(IIII)V"⟩ ∈ pz_T := pz_v2 7 rfl rfl
theorem pv_24 : Cond.selects "StoneHall$Chances" ⟨"StoneHall$Chances", "valueOfNextCut", "(IILStoneHall$Customs;)J"⟩ ⟨"StoneHall$Chances", "valueOfNextCut", "(IILStoneHall$Customs;)J"⟩ ∈ pz_T := pz_v2 8 rfl rfl
theorem pv_25 : Cond.selects "StoneHall$Chances" ⟨"StoneHall$Chances", "oddsOfNext", "(I)J"⟩ ⟨"StoneHall$Chances", "oddsOfNext", "(I)J"⟩ ∈ pz_T := pz_v2 9 rfl rfl
theorem pv_26 : Cond.selects "java/lang/Throwable" ⟨"java/lang/Throwable", "fillInStackTrace", "(I)Ljava/lang/Throwable;"⟩ ⟨"java/lang/Throwable", "fillInStackTrace", "(I)Ljava/lang/Throwable;"⟩ ∈ pz_T := pz_v2 10 rfl rfl
theorem pv_27 : Cond.selects "StoneHallModel" ⟨"StoneHallModel", "take", "()V"⟩ ⟨"StoneHallModel", "take", "()V"⟩ ∈ pz_T := pz_v2 11 rfl rfl
theorem pv_28 : Cond.selects "StoneHallModel" ⟨"StoneHallModel", "isSmall", "(I)Z"⟩ ⟨"StoneHallModel", "isSmall", "(I)Z"⟩ ∈ pz_T := pz_v2 12 rfl rfl
theorem pv_29 : Cond.selects "StoneHallModel" ⟨"StoneHallModel", "wordAt", "(II)I"⟩ ⟨"StoneHallModel", "wordAt", "(II)I"⟩ ∈ pz_T := pz_v2 13 rfl rfl
theorem pv_30 : Cond.selects "StoneHallModel" ⟨"StoneHallModel", "isDigit", "(I)Z"⟩ ⟨"StoneHallModel", "isDigit", "(I)Z"⟩ ∈ pz_T := pz_v2 14 rfl rfl
theorem pv_31 : Cond.selects "StoneHallModel" ⟨"StoneHallModel", "line", "()Z"⟩ ⟨"StoneHallModel", "line", "()Z"⟩ ∈ pz_T := pz_v2 15 rfl rfl
theorem pv_32 : Cond.selects "StoneHallModel" ⟨"StoneHallModel", "wrong", "(II)Z"⟩ ⟨"StoneHallModel", "wrong", "(II)Z"⟩ ∈ pz_T := pz_v3 0 rfl rfl
theorem pv_33 : Cond.selects "StoneHallModel" ⟨"StoneHallModel", "number", "(I)Z"⟩ ⟨"StoneHallModel", "number", "(I)Z"⟩ ∈ pz_T := pz_v3 1 rfl rfl
theorem pv_34 : Cond.selects "StoneHallModel" ⟨"StoneHallModel", "isWeight", "(II)Z"⟩ ⟨"StoneHallModel", "isWeight", "(II)Z"⟩ ∈ pz_T := pz_v3 2 rfl rfl
theorem pv_35 : Cond.selects "StoneHallModel" ⟨"StoneHallModel", "isMan", "(I)Z"⟩ ⟨"StoneHallModel", "isMan", "(I)Z"⟩ ∈ pz_T := pz_v3 3 rfl rfl
theorem pv_36 : Cond.selects "StoneHallModel" ⟨"StoneHallModel", "isWhole", "(I)Z"⟩ ⟨"StoneHallModel", "isWhole", "(I)Z"⟩ ∈ pz_T := pz_v3 4 rfl rfl
theorem pv_37 : Cond.selects "StoneHallModel" ⟨"StoneHallModel", "isBoulder", "(I)Z"⟩ ⟨"StoneHallModel", "isBoulder", "(I)Z"⟩ ∈ pz_T := pz_v3 5 rfl rfl
theorem pv_38 : Cond.selects "StoneHallModel" ⟨"StoneHallModel", "line0", "(I)I"⟩ ⟨"StoneHallModel", "line0", "(I)I"⟩ ∈ pz_T := pz_v3 6 rfl rfl
theorem pv_39 : Cond.selects "StoneHallModel" ⟨"StoneHallModel", "isAhead", "(III)Z"⟩ ⟨"StoneHallModel", "isAhead", "(III)Z"⟩ ∈ pz_T := pz_v3 7 rfl rfl
theorem pv_40 : Cond.selects "StoneHallModel" ⟨"StoneHallModel", "priceOf", "(III)I"⟩ ⟨"StoneHallModel", "priceOf", "(III)I"⟩ ∈ pz_T := pz_v3 8 rfl rfl
theorem pv_41 : Cond.selects "StoneHallModel" ⟨"StoneHallModel", "pay", "(II)V"⟩ ⟨"StoneHallModel", "pay", "(II)V"⟩ ∈ pz_T := pz_v3 9 rfl rfl
theorem pv_42 : Cond.selects "StoneHallModel" ⟨"StoneHallModel", "deal", "(II)V"⟩ ⟨"StoneHallModel", "deal", "(II)V"⟩ ∈ pz_T := pz_v3 10 rfl rfl
theorem pv_43 : Cond.selects "StoneHallModel" ⟨"StoneHallModel", "gradeAt", "(II)I"⟩ ⟨"StoneHallModel", "gradeAt", "(II)I"⟩ ∈ pz_T := pz_v3 11 rfl rfl
theorem pv_44 : Cond.selects "StoneHallModel" ⟨"StoneHallModel", "lastOf", "(I)I"⟩ ⟨"StoneHallModel", "lastOf", "(I)I"⟩ ∈ pz_T := pz_v3 12 rfl rfl
theorem pv_45 : Cond.selects "StoneHallModel" ⟨"StoneHallModel", "offerOf", "(I)I"⟩ ⟨"StoneHallModel", "offerOf", "(I)I"⟩ ∈ pz_T := pz_v3 13 rfl rfl
theorem pv_46 : Cond.selects "StoneHallModel" ⟨"StoneHallModel", "fails", "(I)I"⟩ ⟨"StoneHallModel", "fails", "(I)I"⟩ ∈ pz_T := pz_v3 14 rfl rfl
theorem pv_47 : Cond.selects "StoneHallModel" ⟨"StoneHallModel", "chances", "(I)J"⟩ ⟨"StoneHallModel", "chances", "(I)J"⟩ ∈ pz_T := pz_v3 15 rfl rfl
theorem pv_48 : Cond.selects "StoneHallModel" ⟨"StoneHallModel", "together", "()J"⟩ ⟨"StoneHallModel", "together", "()J"⟩ ∈ pz_T := pz_v4 0 rfl rfl
theorem pv_49 : Cond.selects "StoneHallModel" ⟨"StoneHallModel", "values", "(IIJ)V"⟩ ⟨"StoneHallModel", "values", "(IIJ)V"⟩ ∈ pz_T := pz_v4 1 rfl rfl
theorem pv_50 : Cond.selects "StoneHallModel" ⟨"StoneHallModel", "indexOf", "(I)I"⟩ ⟨"StoneHallModel", "indexOf", "(I)I"⟩ ∈ pz_T := pz_v4 2 rfl rfl
theorem pz_inX0 : ∀ w ∈ u_ws RX0 TX0 8, w ∈ pz_T := by
  show ∀ w ∈ (u_lay RX0 TX0 0 :: u_lay RX0 TX0 1 :: u_lay RX0 TX0 2 :: u_lay RX0 TX0 3 :: u_lay RX0 TX0 4 :: u_lay RX0 TX0 5 :: u_lay RX0 TX0 6 :: u_lay RX0 TX0 7 :: []), w ∈ pz_T
  exact List.forall_mem_cons.mpr ⟨pw_460, List.forall_mem_cons.mpr ⟨pw_462, List.forall_mem_cons.mpr ⟨pw_464, List.forall_mem_cons.mpr ⟨pw_466, List.forall_mem_cons.mpr ⟨pw_468, List.forall_mem_cons.mpr ⟨pw_470, List.forall_mem_cons.mpr ⟨pw_472, List.forall_mem_cons.mpr ⟨pw_474, fun _ h => absurd h List.not_mem_nil⟩⟩⟩⟩⟩⟩⟩⟩
theorem pz_inX1 : ∀ w ∈ u_ws RX1 TX1 13, w ∈ pz_T := by
  show ∀ w ∈ (u_lay RX1 TX1 0 :: u_lay RX1 TX1 1 :: u_lay RX1 TX1 2 :: u_lay RX1 TX1 3 :: u_lay RX1 TX1 4 :: u_lay RX1 TX1 5 :: u_lay RX1 TX1 6 :: u_lay RX1 TX1 7 :: u_lay RX1 TX1 8 :: u_lay RX1 TX1 9 :: u_lay RX1 TX1 10 :: u_lay RX1 TX1 11 :: u_lay RX1 TX1 12 :: []), w ∈ pz_T
  exact List.forall_mem_cons.mpr ⟨pw_129, List.forall_mem_cons.mpr ⟨pw_131, List.forall_mem_cons.mpr ⟨pw_133, List.forall_mem_cons.mpr ⟨pw_135, List.forall_mem_cons.mpr ⟨pw_137, List.forall_mem_cons.mpr ⟨pw_139, List.forall_mem_cons.mpr ⟨pw_141, List.forall_mem_cons.mpr ⟨pw_143, List.forall_mem_cons.mpr ⟨pw_145, List.forall_mem_cons.mpr ⟨pw_147, List.forall_mem_cons.mpr ⟨pw_149, List.forall_mem_cons.mpr ⟨pw_151, List.forall_mem_cons.mpr ⟨pw_153, fun _ h => absurd h List.not_mem_nil⟩⟩⟩⟩⟩⟩⟩⟩⟩⟩⟩⟩⟩
theorem pz_inX2 : ∀ w ∈ u_ws RX2 TX2 6, w ∈ pz_T := by
  show ∀ w ∈ (u_lay RX2 TX2 0 :: u_lay RX2 TX2 1 :: u_lay RX2 TX2 2 :: u_lay RX2 TX2 3 :: u_lay RX2 TX2 4 :: u_lay RX2 TX2 5 :: []), w ∈ pz_T
  exact List.forall_mem_cons.mpr ⟨pw_90, List.forall_mem_cons.mpr ⟨pw_92, List.forall_mem_cons.mpr ⟨pw_94, List.forall_mem_cons.mpr ⟨pw_96, List.forall_mem_cons.mpr ⟨pw_98, List.forall_mem_cons.mpr ⟨pw_100, fun _ h => absurd h List.not_mem_nil⟩⟩⟩⟩⟩⟩
theorem pz_inX4 : ∀ w ∈ u_ws RX4 TX4 3, w ∈ pz_T := by
  show ∀ w ∈ (u_lay RX4 TX4 0 :: u_lay RX4 TX4 1 :: u_lay RX4 TX4 2 :: []), w ∈ pz_T
  exact List.forall_mem_cons.mpr ⟨pw_169, List.forall_mem_cons.mpr ⟨pw_171, List.forall_mem_cons.mpr ⟨pw_173, fun _ h => absurd h List.not_mem_nil⟩⟩⟩
theorem pz_inX5 : ∀ w ∈ u_ws RX5 TX5 6, w ∈ pz_T := by
  show ∀ w ∈ (u_lay RX5 TX5 0 :: u_lay RX5 TX5 1 :: u_lay RX5 TX5 2 :: u_lay RX5 TX5 3 :: u_lay RX5 TX5 4 :: u_lay RX5 TX5 5 :: []), w ∈ pz_T
  exact List.forall_mem_cons.mpr ⟨pw_69, List.forall_mem_cons.mpr ⟨pw_71, List.forall_mem_cons.mpr ⟨pw_73, List.forall_mem_cons.mpr ⟨pw_75, List.forall_mem_cons.mpr ⟨pw_77, List.forall_mem_cons.mpr ⟨pw_79, fun _ h => absurd h List.not_mem_nil⟩⟩⟩⟩⟩⟩
theorem pz_inX6 : ∀ w ∈ u_ws RX6 TX6 8, w ∈ pz_T := by
  show ∀ w ∈ (u_lay RX6 TX6 0 :: u_lay RX6 TX6 1 :: u_lay RX6 TX6 2 :: u_lay RX6 TX6 3 :: u_lay RX6 TX6 4 :: u_lay RX6 TX6 5 :: u_lay RX6 TX6 6 :: u_lay RX6 TX6 7 :: []), w ∈ pz_T
  exact List.forall_mem_cons.mpr ⟨pw_193, List.forall_mem_cons.mpr ⟨pw_195, List.forall_mem_cons.mpr ⟨pw_197, List.forall_mem_cons.mpr ⟨pw_199, List.forall_mem_cons.mpr ⟨pw_201, List.forall_mem_cons.mpr ⟨pw_203, List.forall_mem_cons.mpr ⟨pw_205, List.forall_mem_cons.mpr ⟨pw_207, fun _ h => absurd h List.not_mem_nil⟩⟩⟩⟩⟩⟩⟩⟩
theorem pz_inX7 : ∀ w ∈ u_ws RX7 TX7 2, w ∈ pz_T := by
  show ∀ w ∈ (u_lay RX7 TX7 0 :: u_lay RX7 TX7 1 :: []), w ∈ pz_T
  exact List.forall_mem_cons.mpr ⟨pw_42, List.forall_mem_cons.mpr ⟨pw_44, fun _ h => absurd h List.not_mem_nil⟩⟩
theorem pz_inX8 : ∀ w ∈ u_ws RX8 TX8 8, w ∈ pz_T := by
  show ∀ w ∈ (u_lay RX8 TX8 0 :: u_lay RX8 TX8 1 :: u_lay RX8 TX8 2 :: u_lay RX8 TX8 3 :: u_lay RX8 TX8 4 :: u_lay RX8 TX8 5 :: u_lay RX8 TX8 6 :: u_lay RX8 TX8 7 :: []), w ∈ pz_T
  exact List.forall_mem_cons.mpr ⟨pw_218, List.forall_mem_cons.mpr ⟨pw_220, List.forall_mem_cons.mpr ⟨pw_222, List.forall_mem_cons.mpr ⟨pw_224, List.forall_mem_cons.mpr ⟨pw_226, List.forall_mem_cons.mpr ⟨pw_228, List.forall_mem_cons.mpr ⟨pw_230, List.forall_mem_cons.mpr ⟨pw_232, fun _ h => absurd h List.not_mem_nil⟩⟩⟩⟩⟩⟩⟩⟩
theorem pz_inX9 : ∀ w ∈ u_ws RX9 TX9 42, w ∈ pz_T := by
  show ∀ w ∈ (u_lay RX9 TX9 0 :: u_lay RX9 TX9 1 :: u_lay RX9 TX9 2 :: u_lay RX9 TX9 3 :: u_lay RX9 TX9 4 :: u_lay RX9 TX9 5 :: u_lay RX9 TX9 6 :: u_lay RX9 TX9 7 :: u_lay RX9 TX9 8 :: u_lay RX9 TX9 9 :: u_lay RX9 TX9 10 :: u_lay RX9 TX9 11 :: u_lay RX9 TX9 12 :: u_lay RX9 TX9 13 :: u_lay RX9 TX9 14 :: u_lay RX9 TX9 15 :: u_lay RX9 TX9 16 :: u_lay RX9 TX9 17 :: u_lay RX9 TX9 18 :: u_lay RX9 TX9 19 :: u_lay RX9 TX9 20 :: u_lay RX9 TX9 21 :: u_lay RX9 TX9 22 :: u_lay RX9 TX9 23 :: u_lay RX9 TX9 24 :: u_lay RX9 TX9 25 :: u_lay RX9 TX9 26 :: u_lay RX9 TX9 27 :: u_lay RX9 TX9 28 :: u_lay RX9 TX9 29 :: u_lay RX9 TX9 30 :: u_lay RX9 TX9 31 :: u_lay RX9 TX9 32 :: u_lay RX9 TX9 33 :: u_lay RX9 TX9 34 :: u_lay RX9 TX9 35 :: u_lay RX9 TX9 36 :: u_lay RX9 TX9 37 :: u_lay RX9 TX9 38 :: u_lay RX9 TX9 39 :: u_lay RX9 TX9 40 :: u_lay RX9 TX9 41 :: []), w ∈ pz_T
  exact List.forall_mem_cons.mpr ⟨pw_850, List.forall_mem_cons.mpr ⟨pw_852, List.forall_mem_cons.mpr ⟨pw_854, List.forall_mem_cons.mpr ⟨pw_856, List.forall_mem_cons.mpr ⟨pw_858, List.forall_mem_cons.mpr ⟨pw_860, List.forall_mem_cons.mpr ⟨pw_862, List.forall_mem_cons.mpr ⟨pw_864, List.forall_mem_cons.mpr ⟨pw_866, List.forall_mem_cons.mpr ⟨pw_868, List.forall_mem_cons.mpr ⟨pw_870, List.forall_mem_cons.mpr ⟨pw_872, List.forall_mem_cons.mpr ⟨pw_874, List.forall_mem_cons.mpr ⟨pw_876, List.forall_mem_cons.mpr ⟨pw_878, List.forall_mem_cons.mpr ⟨pw_880, List.forall_mem_cons.mpr ⟨pw_882, List.forall_mem_cons.mpr ⟨pw_884, List.forall_mem_cons.mpr ⟨pw_886, List.forall_mem_cons.mpr ⟨pw_888, List.forall_mem_cons.mpr ⟨pw_890, List.forall_mem_cons.mpr ⟨pw_892, List.forall_mem_cons.mpr ⟨pw_894, List.forall_mem_cons.mpr ⟨pw_896, List.forall_mem_cons.mpr ⟨pw_898, List.forall_mem_cons.mpr ⟨pw_900, List.forall_mem_cons.mpr ⟨pw_902, List.forall_mem_cons.mpr ⟨pw_904, List.forall_mem_cons.mpr ⟨pw_906, List.forall_mem_cons.mpr ⟨pw_908, List.forall_mem_cons.mpr ⟨pw_910, List.forall_mem_cons.mpr ⟨pw_912, List.forall_mem_cons.mpr ⟨pw_914, List.forall_mem_cons.mpr ⟨pw_916, List.forall_mem_cons.mpr ⟨pw_918, List.forall_mem_cons.mpr ⟨pw_920, List.forall_mem_cons.mpr ⟨pw_922, List.forall_mem_cons.mpr ⟨pw_924, List.forall_mem_cons.mpr ⟨pw_926, List.forall_mem_cons.mpr ⟨pw_928, List.forall_mem_cons.mpr ⟨pw_930, List.forall_mem_cons.mpr ⟨pw_932, fun _ h => absurd h List.not_mem_nil⟩⟩⟩⟩⟩⟩⟩⟩⟩⟩⟩⟩⟩⟩⟩⟩⟩⟩⟩⟩⟩⟩⟩⟩⟩⟩⟩⟩⟩⟩⟩⟩⟩⟩⟩⟩⟩⟩⟩⟩⟩⟩
end PZW
